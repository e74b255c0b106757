def K_X2_ask_17_72 (a0 : Int32) (F13 : Nat → Int32) (R14 : Nat → Nat → Int32) (y12 : Int32) : Int32 × (Nat → Int32) × (Nat → Nat → Int32) :=
  k_lt ((g_least : List Int32).getD (Int32.toNatClampNeg a0) 0) (fun x15 => k_lt ((g_most : List Int32).getD (Int32.toNatClampNeg a0) 0) (fun x17 => k_lt (if x17 < y12 then x17 else y12) (fun x19 => k_lt (if x15 < x19 then x19 else x15) (fun x21 => (x21, F13, R14)))))
def K_X2_ask_17_66 (b15 : (Nat → Int32) → (Nat → Nat → Int32) → (Int32) → Int32 × (Nat → Int32) × (Nat → Nat → Int32)) (y9 : Int32) (F31 : Nat → Int32) (R32 : Nat → Nat → Int32) : Int32 × (Nat → Int32) × (Nat → Nat → Int32) :=
  k_lt (y9 + 1) (fun x33 => b15 F31 R32 x33)
def KB_X2_ask_17_15 (b15 : (Nat → Int32) → (Nat → Nat → Int32) → (Int32) → Int32 × (Nat → Int32) × (Nat → Nat → Int32)) (F : Nat → Int32) (a0 : Int32) (F10 : Nat → Int32) (R11 : Nat → Nat → Int32) (y9 : Int32) : Int32 × (Nat → Int32) × (Nat → Nat → Int32) :=
  if (F 278) ≤ y9 then K_X2_ask_17_72 a0 F10 R11 0 else k_lt (R11 20 (Int32.toNatClampNeg y9)) (fun x29 => if x29 = a0 then k_lt (R11 22 (Int32.toNatClampNeg y9)) (fun x39 => k_lt3 (sp_X2_reckon_17 F10 R11 x39) (fun r41 F45 R46 => if r41 = 0 then K_X2_ask_17_66 b15 y9 F45 R46 else k_lt (R46 21 (Int32.toNatClampNeg y9)) (fun x52 => k_lt3 (sp_X2_reckon_17 F45 R46 x52) (fun r54 F58 R59 => K_X2_ask_17_72 a0 F58 R59 r54)))) else K_X2_ask_17_66 b15 y9 F10 R11)
def K_X2_ask_17_15 (F : Nat → Int32) (a0 : Int32) : Nat → (Nat → Int32) → (Nat → Nat → Int32) → (Int32) → Int32 × (Nat → Int32) × (Nat → Nat → Int32)
  | 0 => fun F10 R11 _ => (0, F10, R11)
  | n + 1 => KB_X2_ask_17_15 (K_X2_ask_17_15 F a0 n) F a0
def sp_X2_ask_17 (F : Nat → Int32) (R : Nat → Nat → Int32) (a0 : Int32) : Int32 × (Nat → Int32) × (Nat → Nat → Int32) :=
  k_lt (g_in a0 0 5) (fun r1 => if r1 = 0 then (0, F, R) else K_X2_ask_17_15 F a0 8589934592 F R 0)
theorem e_X2_ask_0 : g_dc cX2_ask 0 (.iload_n 1) 1 1 := ⟨by decide +kernel, rfl⟩
theorem e_X2_ask_1 : g_dc cX2_ask 1 (.iconst 0) 1 2 := ⟨by decide +kernel, rfl⟩
theorem e_X2_ask_2 : g_dc cX2_ask 2 (.iconst 5) 1 3 := ⟨by decide +kernel, rfl⟩
theorem e_X2_ask_3 : g_dc cX2_ask 3 (.invokestatic 46) 3 6 := ⟨by decide +kernel, rfl⟩
theorem e_X2_ask_6 : g_dc cX2_ask 6 (.ifCond .ne 5) 3 9 := ⟨by decide +kernel, rfl⟩
theorem e_X2_ask_9 : g_dc cX2_ask 9 (.iconst 0) 1 10 := ⟨by decide +kernel, rfl⟩
theorem e_X2_ask_10 : g_dc cX2_ask 10 (.ireturn) 1 11 := ⟨by decide +kernel, rfl⟩
theorem e_X2_ask_11 : g_dc cX2_ask 11 (.iconst 0) 1 12 := ⟨by decide +kernel, rfl⟩
theorem e_X2_ask_12 : g_dc cX2_ask 12 (.istore_n 2) 1 13 := ⟨by decide +kernel, rfl⟩
theorem e_X2_ask_13 : g_dc cX2_ask 13 (.iconst 0) 1 14 := ⟨by decide +kernel, rfl⟩
theorem e_X2_ask_14 : g_dc cX2_ask 14 (.istore_n 3) 1 15 := ⟨by decide +kernel, rfl⟩
theorem e_X2_ask_15 : g_dc cX2_ask 15 (.iload_n 3) 1 16 := ⟨by decide +kernel, rfl⟩
theorem e_X2_ask_16 : g_dc cX2_ask 16 (.aload_n 0) 1 17 := ⟨by decide +kernel, rfl⟩
theorem e_X2_ask_17 : g_dc cX2_ask 17 (.getfield 31) 3 20 := ⟨by decide +kernel, rfl⟩
theorem e_X2_ask_20 : g_dc cX2_ask 20 (.if_icmp .ge 52) 3 23 := ⟨by decide +kernel, rfl⟩
theorem e_X2_ask_23 : g_dc cX2_ask 23 (.iload_n 3) 1 24 := ⟨by decide +kernel, rfl⟩
theorem e_X2_ask_24 : g_dc cX2_ask 24 (.bipush 14) 2 26 := ⟨by decide +kernel, rfl⟩
theorem e_X2_ask_26 : g_dc cX2_ask 26 (.if_icmp .ge 46) 3 29 := ⟨by decide +kernel, rfl⟩
theorem e_X2_ask_29 : g_dc cX2_ask 29 (.aload_n 0) 1 30 := ⟨by decide +kernel, rfl⟩
theorem e_X2_ask_30 : g_dc cX2_ask 30 (.getfield 22) 3 33 := ⟨by decide +kernel, rfl⟩
theorem e_X2_ask_33 : g_dc cX2_ask 33 (.iload_n 3) 1 34 := ⟨by decide +kernel, rfl⟩
theorem e_X2_ask_34 : g_dc cX2_ask 34 (.iaload) 1 35 := ⟨by decide +kernel, rfl⟩
theorem e_X2_ask_35 : g_dc cX2_ask 35 (.iload_n 1) 1 36 := ⟨by decide +kernel, rfl⟩
theorem e_X2_ask_36 : g_dc cX2_ask 36 (.if_icmp .ne 30) 3 39 := ⟨by decide +kernel, rfl⟩
theorem e_X2_ask_39 : g_dc cX2_ask 39 (.aload_n 0) 1 40 := ⟨by decide +kernel, rfl⟩
theorem e_X2_ask_40 : g_dc cX2_ask 40 (.aload_n 0) 1 41 := ⟨by decide +kernel, rfl⟩
theorem e_X2_ask_41 : g_dc cX2_ask 41 (.getfield 28) 3 44 := ⟨by decide +kernel, rfl⟩
theorem e_X2_ask_44 : g_dc cX2_ask 44 (.iload_n 3) 1 45 := ⟨by decide +kernel, rfl⟩
theorem e_X2_ask_45 : g_dc cX2_ask 45 (.iaload) 1 46 := ⟨by decide +kernel, rfl⟩
theorem e_X2_ask_46 : g_dc cX2_ask 46 (.invokevirtual 50) 3 49 := ⟨by decide +kernel, rfl⟩
theorem e_X2_ask_49 : g_dc cX2_ask 49 (.ifCond .eq 17) 3 52 := ⟨by decide +kernel, rfl⟩
theorem e_X2_ask_52 : g_dc cX2_ask 52 (.aload_n 0) 1 53 := ⟨by decide +kernel, rfl⟩
theorem e_X2_ask_53 : g_dc cX2_ask 53 (.aload_n 0) 1 54 := ⟨by decide +kernel, rfl⟩
theorem e_X2_ask_54 : g_dc cX2_ask 54 (.getfield 25) 3 57 := ⟨by decide +kernel, rfl⟩
theorem e_X2_ask_57 : g_dc cX2_ask 57 (.iload_n 3) 1 58 := ⟨by decide +kernel, rfl⟩
theorem e_X2_ask_58 : g_dc cX2_ask 58 (.iaload) 1 59 := ⟨by decide +kernel, rfl⟩
theorem e_X2_ask_59 : g_dc cX2_ask 59 (.invokevirtual 50) 3 62 := ⟨by decide +kernel, rfl⟩
theorem e_X2_ask_62 : g_dc cX2_ask 62 (.istore_n 2) 1 63 := ⟨by decide +kernel, rfl⟩
theorem e_X2_ask_63 : g_dc cX2_ask 63 (.goto 9) 3 66 := ⟨by decide +kernel, rfl⟩
theorem e_X2_ask_66 : g_dc cX2_ask 66 (.iinc 3 1) 3 69 := ⟨by decide +kernel, rfl⟩
theorem e_X2_ask_69 : g_dc cX2_ask 69 (.goto (-54)) 3 72 := ⟨by decide +kernel, rfl⟩
theorem e_X2_ask_72 : g_dc cX2_ask 72 (.getstatic 54) 3 75 := ⟨by decide +kernel, rfl⟩
theorem e_X2_ask_75 : g_dc cX2_ask 75 (.iload_n 1) 1 76 := ⟨by decide +kernel, rfl⟩
theorem e_X2_ask_76 : g_dc cX2_ask 76 (.iaload) 1 77 := ⟨by decide +kernel, rfl⟩
theorem e_X2_ask_77 : g_dc cX2_ask 77 (.iload_n 2) 1 78 := ⟨by decide +kernel, rfl⟩
theorem e_X2_ask_78 : g_dc cX2_ask 78 (.getstatic 57) 3 81 := ⟨by decide +kernel, rfl⟩
theorem e_X2_ask_81 : g_dc cX2_ask 81 (.iload_n 1) 1 82 := ⟨by decide +kernel, rfl⟩
theorem e_X2_ask_82 : g_dc cX2_ask 82 (.iaload) 1 83 := ⟨by decide +kernel, rfl⟩
theorem e_X2_ask_83 : g_dc cX2_ask 83 (.invokestatic 60) 3 86 := ⟨by decide +kernel, rfl⟩
theorem e_X2_ask_86 : g_dc cX2_ask 86 (.invokestatic 66) 3 89 := ⟨by decide +kernel, rfl⟩
theorem e_X2_ask_89 : g_dc cX2_ask 89 (.ireturn) 1 90 := ⟨by decide +kernel, rfl⟩
def md_X2_ask_17 : List Nat := []
def mr_X2_ask_17 : List Nat := [24]
set_option maxHeartbeats 4000000 in
set_option maxRecDepth 100000 in
theorem w_X2_ask_17 (l : Launch) (X : gX) (ad : Nat → Nat) (F : Nat → Int32) (R : Nat → Nat → Int32) (hI : g_ok LK_wX F) (hA : g_okR LA_wX R) (a0 : Int32) : g_Ci l X yX2_ask cX2_ask 4 (some .int) 3 0 0 [.ref (ad 17), .int a0] (wX X ad F R) (fun r w => ∃ (F' : Nat → Int32) (R' : Nat → Nat → Int32), w = wX X ad F' R' ∧ g_ok LK_wX F' ∧ g_okR LA_wX R' ∧ g_fr md_X2_ask_17 F F' ∧ g_fr mr_X2_ask_17 R R' ∧ jv 0 999 r ∧ (r, F', R') = sp_X2_ask_17 F R a0) := by
  refine g_mi (by decide +kernel) (Nat.le_of_ble_eq_true rfl) (fun E cx hret => ?_)
  obtain ⟨SP, hSP⟩ : ∃ z, z = sp_X2_ask_17 F R a0 := ⟨_, rfl⟩
  have hk0 := hSP
  unfold sp_X2_ask_17 at hk0
  refine g_iload_n cx 1 rfl e_X2_ask_0 ?_
  refine g_iconst cx 0 (by decide) e_X2_ask_1 ?_
  refine g_iconst cx 5 (by decide) e_X2_ask_2 ?_
  refine g_cNiW cx [.int a0, .int 0, .int 5] [] (c_X10_within l X (wX X ad F R) a0 0 5) mn_X2_46 yS_X10_within e_X2_ask_3 (by unfold g_rr; decide) (by decide) rfl (Nat.le_of_ble_eq_true rfl) (fun r1 w2 h3 => ?_)
  obtain ⟨rfl, hr1⟩ := h3
  have pr1 : jv 0 1 r1 := by rw [hr1]; exact gi_01 _ _ _
  have hk4 := k_ls hk0 hr1
  refine g_if_ne cx 11 e_X2_ask_6 (by decide) (fun zc5 => ?_) (fun zc5 => ?_)
  · have p6 := gn_neL 1 1 (gc_ne zc5) pr1 (jv_k (x := 0) 0 (by decide)) (by decide)
    have p7 := jv_i 0 5 (jv_t a0) (gi_in (A := 0) (B := 5) hr1 zc5 (by decide) (by decide)) (by decide)
    have hk8 := hk4.trans (if_neg zc5)
    refine g_iconst cx 0 (by decide) e_X2_ask_11 ?_
    refine g_istore_n cx [(2, .int 0), (0, .ref (ad 17)), (1, .int a0)] e_X2_ask_12 (by decide) rfl ?_
    refine g_iconst cx 0 (by decide) e_X2_ask_13 ?_
    refine g_istore_n cx [(3, .int 0), (2, .int 0), (0, .ref (ad 17)), (1, .int a0)] e_X2_ask_14 (by decide) rfl ?_
    have J15 : ∀ (N : Nat) (F10 : Nat → Int32) (R11 : Nat → Nat → Int32) (y9 : Int32), (g_ok LK_wX F10) → (g_fr md_X2_ask_17 F F10) → (g_okR LA_wX R11) → (g_fr mr_X2_ask_17 R R11) → (jv 0 14 y9) → (SP = K_X2_ask_17_15 F a0 N F10 R11 y9) → (2147483647 - y9.toInt).toNat < N → G X E 4 0 0 (wX X ad F10 R11) [(0, .ref (ad 17)), (1, .int a0), (2, .int 0), (3, .int y9)] 15 [] := by
      intro N
      induction N with
      | zero => intro F10 R11 y9 oF10 fF10 oR11 fR11 py9 hkJ15 hm; exact absurd hm (Nat.not_lt_zero _)
      | succ N ih15 =>
        intro F10 R11 y9 oF10 fF10 oR11 fR11 py9 hkJ15 hm15
        have hkK15 : SP = KB_X2_ask_17_15 (K_X2_ask_17_15 F a0 N) F a0 F10 R11 y9 := hkJ15
        obtain ⟨b15, hb15⟩ : ∃ z, z = K_X2_ask_17_15 F a0 N := ⟨_, rfl⟩
        rw [← hb15] at hkK15
        unfold KB_X2_ask_17_15 at hkK15
        refine g_iload_n cx 3 rfl e_X2_ask_15 ?_
        refine g_aload_n cx 0 rfl e_X2_ask_16 ?_
        refine g_get cx cl_X2 fl_X2_31 17 (.int (F10 278)) e_X2_ask_17 rfl rfl ?_
        refine g_toi (F 278) (fF10 278 rfl) ?_
        have J72 : ∀ (F13 : Nat → Int32) (R14 : Nat → Nat → Int32) (y12 : Int32), (g_ok LK_wX F13) → (g_fr md_X2_ask_17 F F13) → (g_okR LA_wX R14) → (g_fr mr_X2_ask_17 R R14) → (jv (-2147483648) 2147483647 y12) → (SP = K_X2_ask_17_72 a0 F13 R14 y12) → G X E 4 0 0 (wX X ad F13 R14) [(1, .int a0), (2, .int y12)] 72 [] := by
          intro F13 R14 y12 oF13 fF13 oR14 fR14 py12 hkJ72
          unfold K_X2_ask_17_72 at hkJ72
          refine g_gsL cx (host := "ClothPull") (g_in4 (List.mem_of_getElem? (i := 20) rfl)) e_X2_ask_72 ?_
          refine g_iload_n cx 0 rfl e_X2_ask_75 ?_
          refine g_tlL cx (i := a0) (jv_ix 6 p7 (by decide)) e_X2_ask_76 ?_
          refine g_topi (fun x15 ex15 => ?_)
          have hk16 := k_ls hkJ72 ex15
          have px15 : jv 0 1 x15 := by rw [ex15]; exact g_tvL _
          refine g_iload_n cx 1 rfl e_X2_ask_77 ?_
          refine g_gsM cx (host := "ClothPull") (g_in4 (List.mem_of_getElem? (i := 22) rfl)) e_X2_ask_78 ?_
          refine g_iload_n cx 0 rfl e_X2_ask_81 ?_
          refine g_tlM cx (i := a0) (jv_ix 6 p7 (by decide)) e_X2_ask_82 ?_
          refine g_topi (fun x17 ex17 => ?_)
          have hk18 := k_ls hk16 ex17
          have px17 : jv 0 999 x17 := by rw [ex17]; exact g_tvM _
          refine g_mmin cx ml_X2_60 e_X2_ask_83 ⟨Nat.le_of_ble_eq_true rfl, Nat.le_of_ble_eq_true rfl⟩ (by decide) ?_
          refine g_topi (fun x19 ex19 => ?_)
          have hk20 := k_ls hk18 ex19
          have px19 := jv_min (-2147483648) 999 ex19 py12 px17 (by decide)
          refine g_mmax cx ml_X2_66 e_X2_ask_86 ⟨Nat.le_of_ble_eq_true rfl, Nat.le_of_ble_eq_true rfl⟩ (by decide) ?_
          refine g_topi (fun x21 ex21 => ?_)
          have hk22 := k_ls hk20 ex21
          have px21 := jv_max 0 999 ex21 px15 px19 (by decide)
          exact hret e_X2_ask_89 (Nat.le_of_ble_eq_true rfl) (Nat.le_of_ble_eq_true rfl) rfl ⟨F13, R14, rfl, oF13, oR14, fF13, fR14, px21, (hk22.symm.trans hSP)⟩
        refine g_icmp_ge cx 72 e_X2_ask_20 (by decide) (fun zc23 => ?_) (fun zc23 => ?_)
        · have hk24 := hkK15.trans (if_pos zc23)
          refine g_lsub [1, 2] [(1, .int a0), (2, .int 0)] rfl ?_
          exact J72 F10 R11 0 oF10 fF10 oR11 fR11 (jv_w (jv_k (x := 0) 0 (by decide)) (by decide)) hk24
        · have p25 := gn_lt 0 13 (gc_nle zc23) py9 (g_ok_g hI 7 rfl) (by decide)
          have p26 := gn_gt 1 14 (gc_nle zc23) (g_ok_g hI 7 rfl) py9 (by decide)
          have hk27 := hkK15.trans (if_neg zc23)
          refine g_iload_n cx 3 rfl e_X2_ask_23 ?_
          refine g_bipush cx 14 (by decide) e_X2_ask_24 ?_
          refine g_icmp_ge cx 72 e_X2_ask_26 (by decide) (fun zc28 => ?_) (fun zc28 => ?_)
          · exact (gf_le (gc_le zc28) (jv_k (x := 14) 14 (by decide)) p25 (by decide)).elim
          · refine g_aload_n cx 0 rfl e_X2_ask_29 ?_
            refine g_get cx cl_X2 fl_X2_22 17 (.ref (ad 20)) e_X2_ask_30 rfl rfl ?_
            refine g_iload_n cx 3 rfl e_X2_ask_33 ?_
            refine g_iald cx 20 e_X2_ask_34 rfl (jv_ix 14 p25 (by decide)) ?_
            refine g_topi (fun x29 ex29 => ?_)
            have hk30 := k_ls hk27 ex29
            refine g_iload_n cx 1 rfl e_X2_ask_35 ?_
            have J66 : ∀ (F31 : Nat → Int32) (R32 : Nat → Nat → Int32), (g_ok LK_wX F31) → (g_fr md_X2_ask_17 F F31) → (g_okR LA_wX R32) → (g_fr mr_X2_ask_17 R R32) → (SP = K_X2_ask_17_66 b15 y9 F31 R32) → G X E 4 0 0 (wX X ad F31 R32) [(0, .ref (ad 17)), (1, .int a0), (2, .int 0), (3, .int y9)] 66 [] := by
              intro F31 R32 oF31 fF31 oR32 fR32 hkJ66
              unfold K_X2_ask_17_66 at hkJ66
              obtain ⟨x33, ex33⟩ : ∃ z : Int32, z = y9 + Int32.ofInt 1 := ⟨_, rfl⟩
              have hk34 := k_ls hkJ66 (show x33 = y9 + 1 from ex33)
              refine g_iinc cx x33 [(3, .int x33), (0, .ref (ad 17)), (1, .int a0), (2, .int 0)] 3 e_X2_ask_66 rfl ex33.symm (by decide) rfl ?_
              have zx33 := jv_add 1 14 (show x33 = y9 + 1 from ex33) p25 (jv_k (x := 1) 1 (by decide)) (by decide)
              refine g_goto cx 15 e_X2_ask_69 (by decide) ?_
              refine g_lsub [1, 2, 3, 0] [(0, .ref (ad 17)), (1, .int a0), (2, .int 0), (3, .int x33)] rfl ?_
              exact ih15 F31 R32 x33 oF31 fF31 oR32 fR32 (jv_w zx33.2 (by decide)) (hk34.trans (by rw [hb15])) (Nat.lt_of_lt_of_le (show (2147483647 - x33.toInt).toNat < (2147483647 - y9.toInt).toNat from by have q0 := (jv_k (x := 1) 1 (by decide)).1; have q1 := (jv_k (x := 1) 1 (by decide)).2; have q2 := (jv_k (x := 14) 14 (by decide)).1; have q3 := (jv_k (x := 14) 14 (by decide)).2; have q4 := p26.1; have q5 := p26.2; have q6 := zx33.2.1; have q7 := zx33.2.2; have q8 := p25.1; have q9 := p25.2; have q10 := (gc_nle zc23); have q11 := (gc_nle zc28); have q12 := (g_eq0 zx33.1); omega) (Nat.le_of_lt_succ hm15))
            refine g_icmp_ne cx 66 e_X2_ask_36 (by decide) (fun zc35 => ?_) (fun zc35 => ?_)
            · have hk36 := hk30.trans (if_neg zc35)
              exact J66 F10 R11 oF10 fF10 oR11 fR11 hk36
            · have p37 := gn_eq 0 5 (gc_eq zc35) (jv_t x29) p7 (by decide)
              have hk38 := hk30.trans (if_pos zc35)
              refine g_aload_n cx 0 rfl e_X2_ask_39 ?_
              refine g_aload_n cx 0 rfl e_X2_ask_40 ?_
              refine g_get cx cl_X2 fl_X2_28 17 (.ref (ad 22)) e_X2_ask_41 rfl rfl ?_
              refine g_iload_n cx 3 rfl e_X2_ask_44 ?_
              refine g_iald cx 22 e_X2_ask_45 rfl (jv_ix 14 p25 (by decide)) ?_
              refine g_topi (fun x39 ex39 => ?_)
              have hk40 := k_ls hk38 ex39
              refine g_cViW cx [.int x39] [] (w_X2_reckon_17 l X ad F10 R11 oF10 oR11 x39) ml_X2_50 yV_X2_reckon e_X2_ask_46 (by unfold g_rr; decide) (by decide) 17 rfl rfl rfl (Nat.le_of_ble_eq_true rfl) (fun r41 w42 h43 => ?_)
              obtain ⟨F45, R46, rfl, oF45, oR46, cF45, cR46, pr41, hx44⟩ := h43
              have hk47 := k_ls3 hk40 hx44
              have fF45 : g_fr md_X2_ask_17 F F45 := g_fr_c fF10 cF45 rfl
              have fR46 : g_fr mr_X2_ask_17 R R46 := g_fr_c fR11 cR46 rfl
              refine g_if_eq cx 66 e_X2_ask_49 (by decide) (fun zc48 => ?_) (fun zc48 => ?_)
              · have p49 := gn_eq 0 0 (gc_eq zc48) pr41 (jv_k (x := 0) 0 (by decide)) (by decide)
                have hk50 := hk47.trans (if_pos zc48)
                exact J66 F45 R46 oF45 fF45 oR46 fR46 hk50
              · have hk51 := hk47.trans (if_neg zc48)
                refine g_aload_n cx 0 rfl e_X2_ask_52 ?_
                refine g_aload_n cx 0 rfl e_X2_ask_53 ?_
                refine g_get cx cl_X2 fl_X2_25 17 (.ref (ad 21)) e_X2_ask_54 rfl rfl ?_
                refine g_iload_n cx 3 rfl e_X2_ask_57 ?_
                refine g_iald cx 21 e_X2_ask_58 rfl (jv_ix 14 p25 (by decide)) ?_
                refine g_topi (fun x52 ex52 => ?_)
                have hk53 := k_ls hk51 ex52
                refine g_cViW cx [.int x52] [] (w_X2_reckon_17 l X ad F45 R46 oF45 oR46 x52) ml_X2_50 yV_X2_reckon e_X2_ask_59 (by unfold g_rr; decide) (by decide) 17 rfl rfl rfl (Nat.le_of_ble_eq_true rfl) (fun r54 w55 h56 => ?_)
                obtain ⟨F58, R59, rfl, oF58, oR59, cF58, cR59, pr54, hx57⟩ := h56
                have hk60 := k_ls3 hk53 hx57
                have fF58 : g_fr md_X2_ask_17 F F58 := g_fr_c fF45 cF58 rfl
                have fR59 : g_fr mr_X2_ask_17 R R59 := g_fr_c fR46 cR59 rfl
                refine g_istore_n cx [(2, .int r54), (0, .ref (ad 17)), (1, .int a0), (3, .int y9)] e_X2_ask_62 (by decide) rfl ?_
                refine g_goto cx 72 e_X2_ask_63 (by decide) ?_
                refine g_lsub [2, 0] [(1, .int a0), (2, .int r54)] rfl ?_
                exact J72 F58 R59 r54 oF58 fF58 oR59 fR59 pr54 hk60
    refine g_lsub [2, 3, 1, 0] [(0, .ref (ad 17)), (1, .int a0), (2, .int 0), (3, .int 0)] rfl ?_
    exact J15 8589934592 F R 0 hI (g_fr_rf F) hA (g_fr_rf R) (jv_w (jv_k (x := 0) 0 (by decide)) (by decide)) hk8 (show (2147483647 - (0 : Int32).toInt).toNat < 8589934592 from by have q0 := (jv_k (x := 0) 0 (by decide)).1; have q1 := (jv_k (x := 0) 0 (by decide)).2; omega)
  · have p61 := gn_eq 0 0 (gc_eq zc5) pr1 (jv_k (x := 0) 0 (by decide)) (by decide)
    have hk62 := hk4.trans (if_pos zc5)
    refine g_iconst cx 0 (by decide) e_X2_ask_9 ?_
    exact hret e_X2_ask_10 (Nat.le_of_ble_eq_true rfl) (Nat.le_of_ble_eq_true rfl) rfl ⟨F, R, rfl, hI, hA, (g_fr_rf F), (g_fr_rf R), (jv_w (jv_k (x := 0) 0 (by decide)) (by decide)), (hk62.symm.trans hSP)⟩
def sp_X2_clear_25 (F : Nat → Int32) (R : Nat → Nat → Int32) : (Nat → Int32) × (Nat → Nat → Int32) :=
  k_lt (upd F 402 0) (fun F1 => k_lt (upd F1 406 0) (fun F3 => (F3, R)))
theorem e_X2_clear_0 : g_dc cX2_clear 0 (.aload_n 0) 1 1 := ⟨by decide +kernel, rfl⟩
theorem e_X2_clear_1 : g_dc cX2_clear 1 (.iconst 0) 1 2 := ⟨by decide +kernel, rfl⟩
theorem e_X2_clear_2 : g_dc cX2_clear 2 (.putfield 18) 3 5 := ⟨by decide +kernel, rfl⟩
theorem e_X2_clear_5 : g_dc cX2_clear 5 (.aload_n 0) 1 6 := ⟨by decide +kernel, rfl⟩
theorem e_X2_clear_6 : g_dc cX2_clear 6 (.iconst 0) 1 7 := ⟨by decide +kernel, rfl⟩
theorem e_X2_clear_7 : g_dc cX2_clear 7 (.putfield 31) 3 10 := ⟨by decide +kernel, rfl⟩
theorem e_X2_clear_10 : g_dc cX2_clear 10 (.return_) 1 11 := ⟨by decide +kernel, rfl⟩
def md_X2_clear_25 : List Nat := [402, 406]
def mr_X2_clear_25 : List Nat := []
set_option maxHeartbeats 4000000 in
set_option maxRecDepth 100000 in
theorem w_X2_clear_25 (l : Launch) (X : gX) (ad : Nat → Nat) (F : Nat → Int32) (R : Nat → Nat → Int32) (hI : g_ok LK_wX F) (hA : g_okR LA_wX R) : g_Cv l X yX2_clear cX2_clear 1 1 0 0 [.ref (ad 25)] (wX X ad F R) (fun w => ∃ (F' : Nat → Int32) (R' : Nat → Nat → Int32), w = wX X ad F' R' ∧ g_ok LK_wX F' ∧ g_okR LA_wX R' ∧ g_fr md_X2_clear_25 F F' ∧ g_fr mr_X2_clear_25 R R' ∧ (F', R') = sp_X2_clear_25 F R) := by
  refine g_mv (by decide +kernel) (Nat.le_of_ble_eq_true rfl) (fun E cx hret => ?_)
  obtain ⟨SP, hSP⟩ : ∃ z, z = sp_X2_clear_25 F R := ⟨_, rfl⟩
  have hk0 := hSP
  unfold sp_X2_clear_25 at hk0
  refine g_aload_n cx 0 rfl e_X2_clear_0 ?_
  refine g_iconst cx 0 (by decide) e_X2_clear_1 ?_
  refine g_put cx cl_X2 fl_X2_18 25 (wX X ad (upd F 402 0) R) e_X2_clear_2 rfl rfl rfl rfl (Nat.le_of_ble_eq_true rfl) rfl ?_
  obtain ⟨F1, hF1⟩ : ∃ z, z = upd F 402 0 := ⟨_, rfl⟩
  rw [← hF1]
  have hk2 := k_ls hk0 hF1
  have oF1 : g_ok LK_wX F1 := by rw [hF1]; exact g_ok_p hI (jv_k (x := 0) 0 (by decide)) rfl
  have fF1 : g_fr md_X2_clear_25 F F1 := by rw [hF1]; exact g_fr_u (g_fr_rf F) rfl
  refine g_aload_n cx 0 rfl e_X2_clear_5 ?_
  refine g_iconst cx 0 (by decide) e_X2_clear_6 ?_
  refine g_put cx cl_X2 fl_X2_31 25 (wX X ad (upd F1 406 0) R) e_X2_clear_7 rfl rfl rfl rfl (Nat.le_of_ble_eq_true rfl) rfl ?_
  obtain ⟨F3, hF3⟩ : ∃ z, z = upd F1 406 0 := ⟨_, rfl⟩
  rw [← hF3]
  have hk4 := k_ls hk2 hF3
  have oF3 : g_ok LK_wX F3 := by rw [hF3]; exact g_ok_p oF1 (jv_k (x := 0) 0 (by decide)) rfl
  have fF3 : g_fr md_X2_clear_25 F F3 := by rw [hF3]; exact g_fr_u fF1 rfl
  exact hret e_X2_clear_10 (Nat.le_of_ble_eq_true rfl) (Nat.le_of_ble_eq_true rfl) ⟨F3, R, rfl, oF3, hA, fF3, (g_fr_rf R), (hk4.symm.trans hSP)⟩
def K_X3_sign_48  (y1 : Int32) : Int32 :=
  y1
def K_X3_sign_47   : Int32 :=
  K_X3_sign_48 (-1)
def sp_X3_sign (F : Nat → Int32) (R : Nat → Nat → Int32) : Int32 :=
  if (F 532) = 0 then if (F 531) < 0 then K_X3_sign_47 else if (F 530) ≤ (F 531) then K_X3_sign_47 else if 200 ≤ (F 531) then K_X3_sign_47 else k_lt (R 34 (Int32.toNatClampNeg (F 531))) (fun x21 => K_X3_sign_48 x21) else K_X3_sign_47
theorem e_X3_sign_0 : g_dc cX3_sign 0 (.aload_n 0) 1 1 := ⟨by decide +kernel, rfl⟩
theorem e_X3_sign_1 : g_dc cX3_sign 1 (.getfield 22) 3 4 := ⟨by decide +kernel, rfl⟩
theorem e_X3_sign_4 : g_dc cX3_sign 4 (.ifCond .ne 43) 3 7 := ⟨by decide +kernel, rfl⟩
theorem e_X3_sign_7 : g_dc cX3_sign 7 (.aload_n 0) 1 8 := ⟨by decide +kernel, rfl⟩
theorem e_X3_sign_8 : g_dc cX3_sign 8 (.getfield 19) 3 11 := ⟨by decide +kernel, rfl⟩
theorem e_X3_sign_11 : g_dc cX3_sign 11 (.ifCond .lt 36) 3 14 := ⟨by decide +kernel, rfl⟩
theorem e_X3_sign_14 : g_dc cX3_sign 14 (.aload_n 0) 1 15 := ⟨by decide +kernel, rfl⟩
theorem e_X3_sign_15 : g_dc cX3_sign 15 (.getfield 19) 3 18 := ⟨by decide +kernel, rfl⟩
theorem e_X3_sign_18 : g_dc cX3_sign 18 (.aload_n 0) 1 19 := ⟨by decide +kernel, rfl⟩
theorem e_X3_sign_19 : g_dc cX3_sign 19 (.getfield 15) 3 22 := ⟨by decide +kernel, rfl⟩
theorem e_X3_sign_22 : g_dc cX3_sign 22 (.if_icmp .ge 25) 3 25 := ⟨by decide +kernel, rfl⟩
theorem e_X3_sign_25 : g_dc cX3_sign 25 (.aload_n 0) 1 26 := ⟨by decide +kernel, rfl⟩
theorem e_X3_sign_26 : g_dc cX3_sign 26 (.getfield 19) 3 29 := ⟨by decide +kernel, rfl⟩
theorem e_X3_sign_29 : g_dc cX3_sign 29 (.sipush 200) 3 32 := ⟨by decide +kernel, rfl⟩
theorem e_X3_sign_32 : g_dc cX3_sign 32 (.if_icmp .ge 15) 3 35 := ⟨by decide +kernel, rfl⟩
theorem e_X3_sign_35 : g_dc cX3_sign 35 (.aload_n 0) 1 36 := ⟨by decide +kernel, rfl⟩
theorem e_X3_sign_36 : g_dc cX3_sign 36 (.getfield 9) 3 39 := ⟨by decide +kernel, rfl⟩
theorem e_X3_sign_39 : g_dc cX3_sign 39 (.aload_n 0) 1 40 := ⟨by decide +kernel, rfl⟩
theorem e_X3_sign_40 : g_dc cX3_sign 40 (.getfield 19) 3 43 := ⟨by decide +kernel, rfl⟩
theorem e_X3_sign_43 : g_dc cX3_sign 43 (.iaload) 1 44 := ⟨by decide +kernel, rfl⟩
theorem e_X3_sign_44 : g_dc cX3_sign 44 (.goto 4) 3 47 := ⟨by decide +kernel, rfl⟩
theorem e_X3_sign_47 : g_dc cX3_sign 47 (.iconst (-1)) 1 48 := ⟨by decide +kernel, rfl⟩
theorem e_X3_sign_48 : g_dc cX3_sign 48 (.ireturn) 1 49 := ⟨by decide +kernel, rfl⟩
set_option maxHeartbeats 4000000 in
set_option maxRecDepth 100000 in
theorem w_X3_sign (l : Launch) (X : gX) (ad : Nat → Nat) (F : Nat → Int32) (R : Nat → Nat → Int32) (hI : g_ok LK_wX F) (hA : g_okR LA_wX R) : g_Ci l X yX3_sign cX3_sign 1 (some .int) 1 0 0 [.ref (ad 33)] (wX X ad F R) (fun r w => w = wX X ad F R ∧ jv (-2147483648) 2147483647 r ∧ r = sp_X3_sign F R) := by
  refine g_mi (by decide +kernel) (Nat.le_of_ble_eq_true rfl) (fun E cx hret => ?_)
  obtain ⟨SP, hSP⟩ : ∃ z, z = sp_X3_sign F R := ⟨_, rfl⟩
  have hk0 := hSP
  unfold sp_X3_sign at hk0
  refine g_aload_n cx 0 rfl e_X3_sign_0 ?_
  refine g_get cx cl_X3 fl_X3_22 33 (.int (F 532)) e_X3_sign_1 rfl rfl ?_
  have J48 : ∀ (y1 : Int32), (jv (-2147483648) 2147483647 y1) → (SP = K_X3_sign_48 y1) → G X E 1 0 0 (wX X ad F R) [] 48 [.int y1] := by
    intro y1 py1 hkJ48
    unfold K_X3_sign_48 at hkJ48
    exact hret e_X3_sign_48 (Nat.le_of_ble_eq_true rfl) (Nat.le_of_ble_eq_true rfl) rfl ⟨rfl, py1, (hkJ48.symm.trans hSP)⟩
  have J47 : (SP = K_X3_sign_47) → G X E 1 0 0 (wX X ad F R) [] 47 [] := by
    intro   hkJ47
    unfold K_X3_sign_47 at hkJ47
    refine g_iconst cx (-1) (by decide) e_X3_sign_47 ?_
    exact J48 (-1) (jv_w (jv_k (x := (-1)) (-1) (by decide)) (by decide)) hkJ47
  refine g_if_ne cx 47 e_X3_sign_4 (by decide) (fun zc2 => ?_) (fun zc2 => ?_)
  · have hk3 := hk0.trans (if_neg zc2)
    refine g_lsub [] [] rfl ?_
    exact J47  hk3
  · have p4 := gn_eq 0 0 (gc_eq zc2) (jv_t (F 532)) (jv_k (x := 0) 0 (by decide)) (by decide)
    have hk5 := hk0.trans (if_pos zc2)
    refine g_aload_n cx 0 rfl e_X3_sign_7 ?_
    refine g_get cx cl_X3 fl_X3_19 33 (.int (F 531)) e_X3_sign_8 rfl rfl ?_
    refine g_if_lt cx 47 e_X3_sign_11 (by decide) (fun zc6 => ?_) (fun zc6 => ?_)
    · have p7 := gn_lt (-2147483648) (-1) (gc_lt zc6) (jv_t (F 531)) (jv_k (x := 0) 0 (by decide)) (by decide)
      have hk8 := hk5.trans (if_pos zc6)
      refine g_lsub [] [] rfl ?_
      exact J47  hk8
    · have p9 := gn_ge 0 2147483647 (gc_nlt zc6) (jv_t (F 531)) (jv_k (x := 0) 0 (by decide)) (by decide)
      have hk10 := hk5.trans (if_neg zc6)
      refine g_aload_n cx 0 rfl e_X3_sign_14 ?_
      refine g_get cx cl_X3 fl_X3_19 33 (.int (F 531)) e_X3_sign_15 rfl rfl ?_
      refine g_aload_n cx 0 rfl e_X3_sign_18 ?_
      refine g_get cx cl_X3 fl_X3_15 33 (.int (F 530)) e_X3_sign_19 rfl rfl ?_
      refine g_icmp_ge cx 47 e_X3_sign_22 (by decide) (fun zc11 => ?_) (fun zc11 => ?_)
      · have hk12 := hk10.trans (if_pos zc11)
        refine g_lsub [] [] rfl ?_
        exact J47  hk12
      · have p13 := gn_lt 0 2147483646 (gc_nle zc11) p9 (jv_t (F 530)) (by decide)
        have p14 := gn_gt 1 2147483647 (gc_nle zc11) (jv_t (F 530)) p9 (by decide)
        have hk15 := hk10.trans (if_neg zc11)
        refine g_aload_n cx 0 rfl e_X3_sign_25 ?_
        refine g_get cx cl_X3 fl_X3_19 33 (.int (F 531)) e_X3_sign_26 rfl rfl ?_
        refine g_sipush cx 200 (by decide) e_X3_sign_29 ?_
        refine g_icmp_ge cx 47 e_X3_sign_32 (by decide) (fun zc16 => ?_) (fun zc16 => ?_)
        · have p17 := gn_ge 200 2147483646 (gc_le zc16) p13 (jv_k (x := 200) 200 (by decide)) (by decide)
          have hk18 := hk15.trans (if_pos zc16)
          refine g_lsub [] [] rfl ?_
          exact J47  hk18
        · have p19 := gn_lt 0 199 (gc_nle zc16) p13 (jv_k (x := 200) 200 (by decide)) (by decide)
          have hk20 := hk15.trans (if_neg zc16)
          refine g_aload_n cx 0 rfl e_X3_sign_35 ?_
          refine g_get cx cl_X3 fl_X3_9 33 (.ref (ad 34)) e_X3_sign_36 rfl rfl ?_
          refine g_aload_n cx 0 rfl e_X3_sign_39 ?_
          refine g_get cx cl_X3 fl_X3_19 33 (.int (F 531)) e_X3_sign_40 rfl rfl ?_
          refine g_iald cx 34 e_X3_sign_43 rfl (jv_ix 200 p19 (by decide)) ?_
          refine g_topi (fun x21 ex21 => ?_)
          have hk22 := k_ls hk20 ex21
          refine g_goto cx 48 e_X3_sign_44 (by decide) ?_
          refine g_lsub [] [] rfl ?_
          exact J48 x21 (jv_t x21) hk22
def sp_X2_emit_25 (F : Nat → Int32) (R : Nat → Nat → Int32) (a0 : Int32) (a1 : Int32) : Int32 × (Nat → Int32) × (Nat → Nat → Int32) :=
  if (F 402) < 256 then k_lt (g_u R 26 (upd (R 26) (Int32.toNatClampNeg (F 402)) a0)) (fun R4 => k_lt (g_u R4 27 (upd (R4 27) (Int32.toNatClampNeg (F 402)) a1)) (fun R6 => k_lt ((F 402) + 1) (fun x8 => k_lt (upd F 402 x8) (fun F10 => k_lt (x8 - 1) (fun x12 => (x12, F10, R6)))))) else ((-1), F, R)
theorem e_X2_emit_0 : g_dc cX2_emit 0 (.aload_n 0) 1 1 := ⟨by decide +kernel, rfl⟩
theorem e_X2_emit_1 : g_dc cX2_emit 1 (.getfield 18) 3 4 := ⟨by decide +kernel, rfl⟩
theorem e_X2_emit_4 : g_dc cX2_emit 4 (.sipush 256) 3 7 := ⟨by decide +kernel, rfl⟩
theorem e_X2_emit_7 : g_dc cX2_emit 7 (.if_icmp .lt 5) 3 10 := ⟨by decide +kernel, rfl⟩
theorem e_X2_emit_10 : g_dc cX2_emit 10 (.iconst (-1)) 1 11 := ⟨by decide +kernel, rfl⟩
theorem e_X2_emit_11 : g_dc cX2_emit 11 (.ireturn) 1 12 := ⟨by decide +kernel, rfl⟩
theorem e_X2_emit_12 : g_dc cX2_emit 12 (.aload_n 0) 1 13 := ⟨by decide +kernel, rfl⟩
theorem e_X2_emit_13 : g_dc cX2_emit 13 (.getfield 11) 3 16 := ⟨by decide +kernel, rfl⟩
theorem e_X2_emit_16 : g_dc cX2_emit 16 (.aload_n 0) 1 17 := ⟨by decide +kernel, rfl⟩
theorem e_X2_emit_17 : g_dc cX2_emit 17 (.getfield 18) 3 20 := ⟨by decide +kernel, rfl⟩
theorem e_X2_emit_20 : g_dc cX2_emit 20 (.iload_n 1) 1 21 := ⟨by decide +kernel, rfl⟩
theorem e_X2_emit_21 : g_dc cX2_emit 21 (.iastore) 1 22 := ⟨by decide +kernel, rfl⟩
theorem e_X2_emit_22 : g_dc cX2_emit 22 (.aload_n 0) 1 23 := ⟨by decide +kernel, rfl⟩
theorem e_X2_emit_23 : g_dc cX2_emit 23 (.getfield 15) 3 26 := ⟨by decide +kernel, rfl⟩
theorem e_X2_emit_26 : g_dc cX2_emit 26 (.aload_n 0) 1 27 := ⟨by decide +kernel, rfl⟩
theorem e_X2_emit_27 : g_dc cX2_emit 27 (.getfield 18) 3 30 := ⟨by decide +kernel, rfl⟩
theorem e_X2_emit_30 : g_dc cX2_emit 30 (.iload_n 2) 1 31 := ⟨by decide +kernel, rfl⟩
theorem e_X2_emit_31 : g_dc cX2_emit 31 (.iastore) 1 32 := ⟨by decide +kernel, rfl⟩
theorem e_X2_emit_32 : g_dc cX2_emit 32 (.aload_n 0) 1 33 := ⟨by decide +kernel, rfl⟩
theorem e_X2_emit_33 : g_dc cX2_emit 33 (.dup) 1 34 := ⟨by decide +kernel, rfl⟩
theorem e_X2_emit_34 : g_dc cX2_emit 34 (.getfield 18) 3 37 := ⟨by decide +kernel, rfl⟩
theorem e_X2_emit_37 : g_dc cX2_emit 37 (.iconst 1) 1 38 := ⟨by decide +kernel, rfl⟩
theorem e_X2_emit_38 : g_dc cX2_emit 38 (.iadd) 1 39 := ⟨by decide +kernel, rfl⟩
theorem e_X2_emit_39 : g_dc cX2_emit 39 (.putfield 18) 3 42 := ⟨by decide +kernel, rfl⟩
theorem e_X2_emit_42 : g_dc cX2_emit 42 (.aload_n 0) 1 43 := ⟨by decide +kernel, rfl⟩
theorem e_X2_emit_43 : g_dc cX2_emit 43 (.getfield 18) 3 46 := ⟨by decide +kernel, rfl⟩
theorem e_X2_emit_46 : g_dc cX2_emit 46 (.iconst 1) 1 47 := ⟨by decide +kernel, rfl⟩
theorem e_X2_emit_47 : g_dc cX2_emit 47 (.isub) 1 48 := ⟨by decide +kernel, rfl⟩
theorem e_X2_emit_48 : g_dc cX2_emit 48 (.ireturn) 1 49 := ⟨by decide +kernel, rfl⟩
def md_X2_emit_25 : List Nat := [402]
def mr_X2_emit_25 : List Nat := [26, 27]
set_option maxHeartbeats 4000000 in
set_option maxRecDepth 100000 in
theorem w_X2_emit_25 (l : Launch) (X : gX) (ad : Nat → Nat) (F : Nat → Int32) (R : Nat → Nat → Int32) (hI : g_ok LK_wX F) (hA : g_okR LA_wX R) (a0 : Int32) (a1 : Int32) : g_Ci l X yX2_emit cX2_emit 3 (some .int) 1 0 0 [.ref (ad 25), .int a0, .int a1] (wX X ad F R) (fun r w => ∃ (F' : Nat → Int32) (R' : Nat → Nat → Int32), w = wX X ad F' R' ∧ g_ok LK_wX F' ∧ g_okR LA_wX R' ∧ g_fr md_X2_emit_25 F F' ∧ g_fr mr_X2_emit_25 R R' ∧ jv (-1) 255 r ∧ (r, F', R') = sp_X2_emit_25 F R a0 a1) := by
  refine g_mi (by decide +kernel) (Nat.le_of_ble_eq_true rfl) (fun E cx hret => ?_)
  obtain ⟨SP, hSP⟩ : ∃ z, z = sp_X2_emit_25 F R a0 a1 := ⟨_, rfl⟩
  have hk0 := hSP
  unfold sp_X2_emit_25 at hk0
  refine g_aload_n cx 0 rfl e_X2_emit_0 ?_
  refine g_get cx cl_X2 fl_X2_18 25 (.int (F 402)) e_X2_emit_1 rfl rfl ?_
  refine g_sipush cx 256 (by decide) e_X2_emit_4 ?_
  refine g_icmp_lt cx 12 e_X2_emit_7 (by decide) (fun zc1 => ?_) (fun zc1 => ?_)
  · have p2 := gn_lt 0 255 (gc_lt zc1) (g_ok_g hI 6 rfl) (jv_k (x := 256) 256 (by decide)) (by decide)
    have hk3 := hk0.trans (if_pos zc1)
    refine g_aload_n cx 0 rfl e_X2_emit_12 ?_
    refine g_get cx cl_X2 fl_X2_11 25 (.ref (ad 26)) e_X2_emit_13 rfl rfl ?_
    refine g_aload_n cx 0 rfl e_X2_emit_16 ?_
    refine g_get cx cl_X2 fl_X2_18 25 (.int (F 402)) e_X2_emit_17 rfl rfl ?_
    refine g_iload_n cx 1 rfl e_X2_emit_20 ?_
    refine g_iast cx 26 (wX X ad F (g_u R 26 (upd (R 26) (Int32.toNatClampNeg (F 402)) a0))) e_X2_emit_21 rfl (jv_ix 256 p2 (by decide)) rfl ?_
    obtain ⟨R4, hR4⟩ : ∃ z, z = g_u R 26 (upd (R 26) (Int32.toNatClampNeg (F 402)) a0) := ⟨_, rfl⟩
    rw [← hR4]
    have hk5 := k_ls hk3 hR4
    have oR4 : g_okR LA_wX R4 := by rw [hR4]; exact g_okR_u hA rfl
    have fR4 : g_fr mr_X2_emit_25 R R4 := by rw [hR4]; exact g_fr_r (g_fr_rf R) rfl
    refine g_aload_n cx 0 rfl e_X2_emit_22 ?_
    refine g_get cx cl_X2 fl_X2_15 25 (.ref (ad 27)) e_X2_emit_23 rfl rfl ?_
    refine g_aload_n cx 0 rfl e_X2_emit_26 ?_
    refine g_get cx cl_X2 fl_X2_18 25 (.int (F 402)) e_X2_emit_27 rfl rfl ?_
    refine g_iload_n cx 2 rfl e_X2_emit_30 ?_
    refine g_iast cx 27 (wX X ad F (g_u R4 27 (upd (R4 27) (Int32.toNatClampNeg (F 402)) a1))) e_X2_emit_31 rfl (jv_ix 256 p2 (by decide)) rfl ?_
    obtain ⟨R6, hR6⟩ : ∃ z, z = g_u R4 27 (upd (R4 27) (Int32.toNatClampNeg (F 402)) a1) := ⟨_, rfl⟩
    rw [← hR6]
    have hk7 := k_ls hk5 hR6
    have oR6 : g_okR LA_wX R6 := by rw [hR6]; exact g_okR_u oR4 rfl
    have fR6 : g_fr mr_X2_emit_25 R R6 := by rw [hR6]; exact g_fr_r fR4 rfl
    refine g_aload_n cx 0 rfl e_X2_emit_32 ?_
    refine g_dup cx rfl e_X2_emit_33 ?_
    refine g_get cx cl_X2 fl_X2_18 25 (.int (F 402)) e_X2_emit_34 rfl rfl ?_
    refine g_iconst cx 1 (by decide) e_X2_emit_37 ?_
    refine g_iadd cx e_X2_emit_38 ?_
    refine g_topi (fun x8 ex8 => ?_)
    have hk9 := k_ls hk7 ex8
    have zx8 := jv_add 1 256 ex8 p2 (jv_k (x := 1) 1 (by decide)) (by decide)
    refine g_put cx cl_X2 fl_X2_18 25 (wX X ad (upd F 402 x8) R6) e_X2_emit_39 rfl rfl rfl rfl (Nat.le_of_ble_eq_true rfl) rfl ?_
    obtain ⟨F10, hF10⟩ : ∃ z, z = upd F 402 x8 := ⟨_, rfl⟩
    rw [← hF10]
    have hk11 := k_ls hk9 hF10
    have oF10 : g_ok LK_wX F10 := by rw [hF10]; exact g_ok_p hI zx8.2 rfl
    have fF10 : g_fr md_X2_emit_25 F F10 := by rw [hF10]; exact g_fr_u (g_fr_rf F) rfl
    refine g_aload_n cx 0 rfl e_X2_emit_42 ?_
    refine g_get cx cl_X2 fl_X2_18 25 (.int (F10 402)) e_X2_emit_43 rfl rfl ?_
    refine g_toi x8 (g_pu1 hF10) ?_
    refine g_iconst cx 1 (by decide) e_X2_emit_46 ?_
    refine g_isub cx e_X2_emit_47 ?_
    refine g_topi (fun x12 ex12 => ?_)
    have hk13 := k_ls hk11 ex12
    have zx12 := jv_sub 0 255 ex12 zx8.2 (jv_k (x := 1) 1 (by decide)) (by decide)
    exact hret e_X2_emit_48 (Nat.le_of_ble_eq_true rfl) (Nat.le_of_ble_eq_true rfl) rfl ⟨F10, R6, rfl, oF10, oR6, fF10, fR6, (jv_w zx12.2 (by decide)), (hk13.symm.trans hSP)⟩
  · have p14 := gn_ge 256 256 (gc_nlt zc1) (g_ok_g hI 6 rfl) (jv_k (x := 256) 256 (by decide)) (by decide)
    have hk15 := hk0.trans (if_neg zc1)
    refine g_iconst cx (-1) (by decide) e_X2_emit_10 ?_
    exact hret e_X2_emit_11 (Nat.le_of_ble_eq_true rfl) (Nat.le_of_ble_eq_true rfl) rfl ⟨F, R, rfl, hI, hA, (g_fr_rf F), (g_fr_rf R), (jv_w (jv_k (x := (-1)) (-1) (by decide)) (by decide)), (hk15.symm.trans hSP)⟩
def K_X3_fail_21 (R : Nat → Nat → Int32) (F1 : Nat → Int32) : (Nat → Int32) × (Nat → Nat → Int32) :=
  (F1, R)
def sp_X3_fail (F : Nat → Int32) (R : Nat → Nat → Int32) (a0 : Int32) : (Nat → Int32) × (Nat → Nat → Int32) :=
  if (F 532) = 0 then k_lt ((-1000) * a0) (fun x6 => k_lt (x6 - (F 531)) (fun x8 => k_lt (upd F 532 x8) (fun F10 => K_X3_fail_21 R F10))) else K_X3_fail_21 R F
theorem e_X3_fail_0 : g_dc cX3_fail 0 (.aload_n 0) 1 1 := ⟨by decide +kernel, rfl⟩
theorem e_X3_fail_1 : g_dc cX3_fail 1 (.getfield 22) 3 4 := ⟨by decide +kernel, rfl⟩
theorem e_X3_fail_4 : g_dc cX3_fail 4 (.ifCond .ne 17) 3 7 := ⟨by decide +kernel, rfl⟩
theorem e_X3_fail_7 : g_dc cX3_fail 7 (.aload_n 0) 1 8 := ⟨by decide +kernel, rfl⟩
theorem e_X3_fail_8 : g_dc cX3_fail 8 (.sipush (-1000)) 3 11 := ⟨by decide +kernel, rfl⟩
theorem e_X3_fail_11 : g_dc cX3_fail 11 (.iload_n 1) 1 12 := ⟨by decide +kernel, rfl⟩
theorem e_X3_fail_12 : g_dc cX3_fail 12 (.imul) 1 13 := ⟨by decide +kernel, rfl⟩
theorem e_X3_fail_13 : g_dc cX3_fail 13 (.aload_n 0) 1 14 := ⟨by decide +kernel, rfl⟩
theorem e_X3_fail_14 : g_dc cX3_fail 14 (.getfield 19) 3 17 := ⟨by decide +kernel, rfl⟩
theorem e_X3_fail_17 : g_dc cX3_fail 17 (.isub) 1 18 := ⟨by decide +kernel, rfl⟩
theorem e_X3_fail_18 : g_dc cX3_fail 18 (.putfield 22) 3 21 := ⟨by decide +kernel, rfl⟩
theorem e_X3_fail_21 : g_dc cX3_fail 21 (.return_) 1 22 := ⟨by decide +kernel, rfl⟩
def md_X3_fail : List Nat := [532]
def mr_X3_fail : List Nat := []
set_option maxHeartbeats 4000000 in
set_option maxRecDepth 100000 in
theorem w_X3_fail (l : Launch) (X : gX) (ad : Nat → Nat) (F : Nat → Int32) (R : Nat → Nat → Int32) (hI : g_ok LK_wX F) (hA : g_okR LA_wX R) (a0 : Int32) : g_Cv l X yX3_fail cX3_fail 2 1 0 0 [.ref (ad 33), .int a0] (wX X ad F R) (fun w => ∃ (F' : Nat → Int32) (R' : Nat → Nat → Int32), w = wX X ad F' R' ∧ g_ok LK_wX F' ∧ g_okR LA_wX R' ∧ g_fr md_X3_fail F F' ∧ g_fr mr_X3_fail R R' ∧ (F', R') = sp_X3_fail F R a0) := by
  refine g_mv (by decide +kernel) (Nat.le_of_ble_eq_true rfl) (fun E cx hret => ?_)
  obtain ⟨SP, hSP⟩ : ∃ z, z = sp_X3_fail F R a0 := ⟨_, rfl⟩
  have hk0 := hSP
  unfold sp_X3_fail at hk0
  refine g_aload_n cx 0 rfl e_X3_fail_0 ?_
  refine g_get cx cl_X3 fl_X3_22 33 (.int (F 532)) e_X3_fail_1 rfl rfl ?_
  have J21 : ∀ (F1 : Nat → Int32), (g_ok LK_wX F1) → (g_fr md_X3_fail F F1) → (SP = K_X3_fail_21 R F1) → G X E 2 0 0 (wX X ad F1 R) [] 21 [] := by
    intro F1 oF1 fF1 hkJ21
    unfold K_X3_fail_21 at hkJ21
    exact hret e_X3_fail_21 (Nat.le_of_ble_eq_true rfl) (Nat.le_of_ble_eq_true rfl) ⟨F1, R, rfl, oF1, hA, fF1, (g_fr_rf R), (hkJ21.symm.trans hSP)⟩
  refine g_if_ne cx 21 e_X3_fail_4 (by decide) (fun zc2 => ?_) (fun zc2 => ?_)
  · have hk3 := hk0.trans (if_neg zc2)
    refine g_lsub [] [] rfl ?_
    exact J21 F hI (g_fr_rf F) hk3
  · have p4 := gn_eq 0 0 (gc_eq zc2) (jv_t (F 532)) (jv_k (x := 0) 0 (by decide)) (by decide)
    have hk5 := hk0.trans (if_pos zc2)
    refine g_aload_n cx 0 rfl e_X3_fail_7 ?_
    refine g_sipush cx (-1000) (by decide) e_X3_fail_8 ?_
    refine g_iload_n cx 1 rfl e_X3_fail_11 ?_
    refine g_imul cx e_X3_fail_12 ?_
    refine g_topi (fun x6 ex6 => ?_)
    have hk7 := k_ls hk5 ex6
    refine g_aload_n cx 0 rfl e_X3_fail_13 ?_
    refine g_get cx cl_X3 fl_X3_19 33 (.int (F 531)) e_X3_fail_14 rfl rfl ?_
    refine g_isub cx e_X3_fail_17 ?_
    refine g_topi (fun x8 ex8 => ?_)
    have hk9 := k_ls hk7 ex8
    refine g_put cx cl_X3 fl_X3_22 33 (wX X ad (upd F 532 x8) R) e_X3_fail_18 rfl rfl rfl rfl (Nat.le_of_ble_eq_true rfl) rfl ?_
    obtain ⟨F10, hF10⟩ : ∃ z, z = upd F 532 x8 := ⟨_, rfl⟩
    rw [← hF10]
    have hk11 := k_ls hk9 hF10
    have oF10 : g_ok LK_wX F10 := by rw [hF10]; exact g_ok_u hI rfl
    have fF10 : g_fr md_X3_fail F F10 := by rw [hF10]; exact g_fr_u (g_fr_rf F) rfl
    refine g_lsub [] [] rfl ?_
    exact J21 F10 oF10 fF10 hk11
def K_X3_number_71 (y1 : Int32) (F13 : Nat → Int32) (R14 : Nat → Nat → Int32) : (Nat → Int32) × (Nat → Nat → Int32) :=
  k_lt3 (sp_X2_emit_25 F13 R14 1 y1) (fun r15 F19 R20 => (F19, R20))
def K_X3_number_52 (F3 : Nat → Int32) (R : Nat → Nat → Int32) (y1 : Int32)  : (Nat → Int32) × (Nat → Nat → Int32) :=
  k_lt (sp_X3_sign F3 R) (fun r4 => k_lt (g_in r4 48 57) (fun r9 => if r9 = 0 then K_X3_number_71 y1 F3 R else k_lt2 (sp_X3_fail F3 R 2) (fun F32 R33 => K_X3_number_71 y1 F32 R33)))
def KB_X3_number_4 (b4 : (Nat → Int32) → (Int32) → (Int32) → (Nat → Int32) × (Nat → Nat → Int32)) (R : Nat → Nat → Int32) (F3 : Nat → Int32) (y1 : Int32) (y2 : Int32) : (Nat → Int32) × (Nat → Nat → Int32) :=
  if 5 ≤ y2 then K_X3_number_52 F3 R y1 else k_lt (sp_X3_sign F3 R) (fun r40 => k_lt (g_in r40 48 57) (fun r45 => if r45 = 0 then K_X3_number_52 F3 R y1 else k_lt (y1 * 10) (fun x55 => k_lt (sp_X3_sign F3 R) (fun r57 => k_lt (x55 + r57) (fun x62 => k_lt (x62 - 48) (fun x64 => k_lt ((F3 531) + 1) (fun x66 => k_lt (upd F3 531 x66) (fun F68 => k_lt (y2 + 1) (fun x70 => b4 F68 x64 x70)))))))))
def K_X3_number_4 (R : Nat → Nat → Int32) : Nat → (Nat → Int32) → (Int32) → (Int32) → (Nat → Int32) × (Nat → Nat → Int32)
  | 0 => fun F3 _ _ => (F3, R)
  | n + 1 => KB_X3_number_4 (K_X3_number_4 R n) R
def sp_X3_number (F : Nat → Int32) (R : Nat → Nat → Int32) : (Nat → Int32) × (Nat → Nat → Int32) :=
  K_X3_number_4 R 8589934592 F 0 0
theorem e_X3_number_0 : g_dc cX3_number 0 (.iconst 0) 1 1 := ⟨by decide +kernel, rfl⟩
theorem e_X3_number_1 : g_dc cX3_number 1 (.istore_n 1) 1 2 := ⟨by decide +kernel, rfl⟩
theorem e_X3_number_2 : g_dc cX3_number 2 (.iconst 0) 1 3 := ⟨by decide +kernel, rfl⟩
theorem e_X3_number_3 : g_dc cX3_number 3 (.istore_n 2) 1 4 := ⟨by decide +kernel, rfl⟩
theorem e_X3_number_4 : g_dc cX3_number 4 (.iload_n 2) 1 5 := ⟨by decide +kernel, rfl⟩
theorem e_X3_number_5 : g_dc cX3_number 5 (.iconst 5) 1 6 := ⟨by decide +kernel, rfl⟩
theorem e_X3_number_6 : g_dc cX3_number 6 (.if_icmp .ge 46) 3 9 := ⟨by decide +kernel, rfl⟩
theorem e_X3_number_9 : g_dc cX3_number 9 (.aload_n 0) 1 10 := ⟨by decide +kernel, rfl⟩
theorem e_X3_number_10 : g_dc cX3_number 10 (.invokevirtual 42) 3 13 := ⟨by decide +kernel, rfl⟩
theorem e_X3_number_13 : g_dc cX3_number 13 (.bipush 48) 2 15 := ⟨by decide +kernel, rfl⟩
theorem e_X3_number_15 : g_dc cX3_number 15 (.bipush 57) 2 17 := ⟨by decide +kernel, rfl⟩
theorem e_X3_number_17 : g_dc cX3_number 17 (.invokestatic 102) 3 20 := ⟨by decide +kernel, rfl⟩
theorem e_X3_number_20 : g_dc cX3_number 20 (.ifCond .eq 32) 3 23 := ⟨by decide +kernel, rfl⟩
theorem e_X3_number_23 : g_dc cX3_number 23 (.iload_n 1) 1 24 := ⟨by decide +kernel, rfl⟩
theorem e_X3_number_24 : g_dc cX3_number 24 (.bipush 10) 2 26 := ⟨by decide +kernel, rfl⟩
theorem e_X3_number_26 : g_dc cX3_number 26 (.imul) 1 27 := ⟨by decide +kernel, rfl⟩
theorem e_X3_number_27 : g_dc cX3_number 27 (.aload_n 0) 1 28 := ⟨by decide +kernel, rfl⟩
theorem e_X3_number_28 : g_dc cX3_number 28 (.invokevirtual 42) 3 31 := ⟨by decide +kernel, rfl⟩
theorem e_X3_number_31 : g_dc cX3_number 31 (.iadd) 1 32 := ⟨by decide +kernel, rfl⟩
theorem e_X3_number_32 : g_dc cX3_number 32 (.bipush 48) 2 34 := ⟨by decide +kernel, rfl⟩
theorem e_X3_number_34 : g_dc cX3_number 34 (.isub) 1 35 := ⟨by decide +kernel, rfl⟩
theorem e_X3_number_35 : g_dc cX3_number 35 (.istore_n 1) 1 36 := ⟨by decide +kernel, rfl⟩
theorem e_X3_number_36 : g_dc cX3_number 36 (.aload_n 0) 1 37 := ⟨by decide +kernel, rfl⟩
theorem e_X3_number_37 : g_dc cX3_number 37 (.dup) 1 38 := ⟨by decide +kernel, rfl⟩
theorem e_X3_number_38 : g_dc cX3_number 38 (.getfield 19) 3 41 := ⟨by decide +kernel, rfl⟩
theorem e_X3_number_41 : g_dc cX3_number 41 (.iconst 1) 1 42 := ⟨by decide +kernel, rfl⟩
theorem e_X3_number_42 : g_dc cX3_number 42 (.iadd) 1 43 := ⟨by decide +kernel, rfl⟩
theorem e_X3_number_43 : g_dc cX3_number 43 (.putfield 19) 3 46 := ⟨by decide +kernel, rfl⟩
theorem e_X3_number_46 : g_dc cX3_number 46 (.iinc 2 1) 3 49 := ⟨by decide +kernel, rfl⟩
theorem e_X3_number_49 : g_dc cX3_number 49 (.goto (-45)) 3 52 := ⟨by decide +kernel, rfl⟩
theorem e_X3_number_52 : g_dc cX3_number 52 (.aload_n 0) 1 53 := ⟨by decide +kernel, rfl⟩
theorem e_X3_number_53 : g_dc cX3_number 53 (.invokevirtual 42) 3 56 := ⟨by decide +kernel, rfl⟩
theorem e_X3_number_56 : g_dc cX3_number 56 (.bipush 48) 2 58 := ⟨by decide +kernel, rfl⟩
theorem e_X3_number_58 : g_dc cX3_number 58 (.bipush 57) 2 60 := ⟨by decide +kernel, rfl⟩
theorem e_X3_number_60 : g_dc cX3_number 60 (.invokestatic 102) 3 63 := ⟨by decide +kernel, rfl⟩
theorem e_X3_number_63 : g_dc cX3_number 63 (.ifCond .eq 8) 3 66 := ⟨by decide +kernel, rfl⟩
theorem e_X3_number_66 : g_dc cX3_number 66 (.aload_n 0) 1 67 := ⟨by decide +kernel, rfl⟩
theorem e_X3_number_67 : g_dc cX3_number 67 (.iconst 2) 1 68 := ⟨by decide +kernel, rfl⟩
theorem e_X3_number_68 : g_dc cX3_number 68 (.invokevirtual 46) 3 71 := ⟨by decide +kernel, rfl⟩
theorem e_X3_number_71 : g_dc cX3_number 71 (.aload_n 0) 1 72 := ⟨by decide +kernel, rfl⟩
theorem e_X3_number_72 : g_dc cX3_number 72 (.getfield 25) 3 75 := ⟨by decide +kernel, rfl⟩
theorem e_X3_number_75 : g_dc cX3_number 75 (.iconst 1) 1 76 := ⟨by decide +kernel, rfl⟩
theorem e_X3_number_76 : g_dc cX3_number 76 (.iload_n 1) 1 77 := ⟨by decide +kernel, rfl⟩
theorem e_X3_number_77 : g_dc cX3_number 77 (.invokevirtual 66) 3 80 := ⟨by decide +kernel, rfl⟩
theorem e_X3_number_80 : g_dc cX3_number 80 (.pop) 1 81 := ⟨by decide +kernel, rfl⟩
theorem e_X3_number_81 : g_dc cX3_number 81 (.return_) 1 82 := ⟨by decide +kernel, rfl⟩
def md_X3_number : List Nat := [402, 531, 532]
def mr_X3_number : List Nat := [26, 27]
set_option maxHeartbeats 4000000 in
set_option maxRecDepth 100000 in
theorem w_X3_number (l : Launch) (X : gX) (ad : Nat → Nat) (F : Nat → Int32) (R : Nat → Nat → Int32) (hI : g_ok LK_wX F) (hA : g_okR LA_wX R) : g_Cv l X yX3_number cX3_number 3 2 0 0 [.ref (ad 33)] (wX X ad F R) (fun w => ∃ (F' : Nat → Int32) (R' : Nat → Nat → Int32), w = wX X ad F' R' ∧ g_ok LK_wX F' ∧ g_okR LA_wX R' ∧ g_fr md_X3_number F F' ∧ g_fr mr_X3_number R R' ∧ (F', R') = sp_X3_number F R) := by
  refine g_mv (by decide +kernel) (Nat.le_of_ble_eq_true rfl) (fun E cx hret => ?_)
  obtain ⟨SP, hSP⟩ : ∃ z, z = sp_X3_number F R := ⟨_, rfl⟩
  have hk0 := hSP
  unfold sp_X3_number at hk0
  refine g_iconst cx 0 (by decide) e_X3_number_0 ?_
  refine g_istore_n cx [(1, .int 0), (0, .ref (ad 33))] e_X3_number_1 (by decide) rfl ?_
  refine g_iconst cx 0 (by decide) e_X3_number_2 ?_
  refine g_istore_n cx [(2, .int 0), (1, .int 0), (0, .ref (ad 33))] e_X3_number_3 (by decide) rfl ?_
  have J4 : ∀ (N : Nat) (F3 : Nat → Int32) (y1 : Int32) (y2 : Int32), (g_ok LK_wX F3) → (g_fr md_X3_number F F3) → (jv (-2147483648) 2147483647 y1) → (jv 0 5 y2) → (SP = K_X3_number_4 R N F3 y1 y2) → (2147483647 - y2.toInt).toNat < N → G X E 3 0 0 (wX X ad F3 R) [(0, .ref (ad 33)), (1, .int y1), (2, .int y2)] 4 [] := by
    intro N
    induction N with
    | zero => intro F3 y1 y2 oF3 fF3 py1 py2 hkJ4 hm; exact absurd hm (Nat.not_lt_zero _)
    | succ N ih4 =>
      intro F3 y1 y2 oF3 fF3 py1 py2 hkJ4 hm4
      have hkK4 : SP = KB_X3_number_4 (K_X3_number_4 R N) R F3 y1 y2 := hkJ4
      obtain ⟨b4, hb4⟩ : ∃ z, z = K_X3_number_4 R N := ⟨_, rfl⟩
      rw [← hb4] at hkK4
      unfold KB_X3_number_4 at hkK4
      refine g_iload_n cx 2 rfl e_X3_number_4 ?_
      refine g_iconst cx 5 (by decide) e_X3_number_5 ?_
      have J52 : (SP = K_X3_number_52 F3 R y1) → G X E 3 0 0 (wX X ad F3 R) [(0, .ref (ad 33)), (1, .int y1)] 52 [] := by
        intro   hkJ52
        unfold K_X3_number_52 at hkJ52
        refine g_aload_n cx 0 rfl e_X3_number_52 ?_
        refine g_cViW cx [] [] (w_X3_sign l X ad F3 R oF3 hA) ml_X3_42 yV_X3_sign e_X3_number_53 (by unfold g_rr; decide) (by decide) 33 rfl rfl rfl (Nat.le_of_ble_eq_true rfl) (fun r4 w5 h6 => ?_)
        obtain ⟨rfl, pr4, hx7⟩ := h6
        have hk8 := k_ls hkJ52 hx7
        refine g_bipush cx 48 (by decide) e_X3_number_56 ?_
        refine g_bipush cx 57 (by decide) e_X3_number_58 ?_
        refine g_cNiW cx [.int r4, .int 48, .int 57] [] (c_X10_within l X (wX X ad F3 R) r4 48 57) mn_X3_102 yS_X10_within e_X3_number_60 (by unfold g_rr; decide) (by decide) rfl (Nat.le_of_ble_eq_true rfl) (fun r9 w10 h11 => ?_)
        obtain ⟨rfl, hr9⟩ := h11
        have pr9 : jv 0 1 r9 := by rw [hr9]; exact gi_01 _ _ _
        have hk12 := k_ls hk8 hr9
        have J71 : ∀ (F13 : Nat → Int32) (R14 : Nat → Nat → Int32), (g_ok LK_wX F13) → (g_fr md_X3_number F F13) → (g_okR LA_wX R14) → (g_fr mr_X3_number R R14) → (SP = K_X3_number_71 y1 F13 R14) → G X E 3 0 0 (wX X ad F13 R14) [(0, .ref (ad 33)), (1, .int y1)] 71 [] := by
          intro F13 R14 oF13 fF13 oR14 fR14 hkJ71
          unfold K_X3_number_71 at hkJ71
          refine g_aload_n cx 0 rfl e_X3_number_71 ?_
          refine g_get cx cl_X3 fl_X3_25 33 (.ref (ad 25)) e_X3_number_72 rfl rfl ?_
          refine g_iconst cx 1 (by decide) e_X3_number_75 ?_
          refine g_iload_n cx 1 rfl e_X3_number_76 ?_
          refine g_cViW cx [.int 1, .int y1] [] (w_X2_emit_25 l X ad F13 R14 oF13 oR14 1 y1) ml_X3_66 yV_X2_emit e_X3_number_77 (by unfold g_rr; decide) (by decide) 25 rfl rfl rfl (Nat.le_of_ble_eq_true rfl) (fun r15 w16 h17 => ?_)
          obtain ⟨F19, R20, rfl, oF19, oR20, cF19, cR20, pr15, hx18⟩ := h17
          have hk21 := k_ls3 hkJ71 hx18
          have fF19 : g_fr md_X3_number F F19 := g_fr_c fF13 cF19 rfl
          have fR20 : g_fr mr_X3_number R R20 := g_fr_c fR14 cR20 rfl
          refine g_pop cx rfl e_X3_number_80 ?_
          exact hret e_X3_number_81 (Nat.le_of_ble_eq_true rfl) (Nat.le_of_ble_eq_true rfl) ⟨F19, R20, rfl, oF19, oR20, fF19, fR20, (hk21.symm.trans hSP)⟩
        refine g_if_eq cx 71 e_X3_number_63 (by decide) (fun zc22 => ?_) (fun zc22 => ?_)
        · have p23 := gn_eq 0 0 (gc_eq zc22) pr9 (jv_k (x := 0) 0 (by decide)) (by decide)
          have hk24 := hk12.trans (if_pos zc22)
          exact J71 F3 R oF3 fF3 hA (g_fr_rf R) hk24
        · have p25 := gn_neL 1 1 (gc_ne zc22) pr9 (jv_k (x := 0) 0 (by decide)) (by decide)
          have p26 := jv_i 48 57 pr4 (gi_in (A := 48) (B := 57) hr9 zc22 (by decide) (by decide)) (by decide)
          have hk27 := hk12.trans (if_neg zc22)
          refine g_aload_n cx 0 rfl e_X3_number_66 ?_
          refine g_iconst cx 2 (by decide) e_X3_number_67 ?_
          refine g_cVvW cx [.int 2] [] (w_X3_fail l X ad F3 R oF3 hA 2) ml_X3_46 yV_X3_fail e_X3_number_68 (by unfold g_rr; decide) (by decide) 33 rfl rfl rfl (Nat.le_of_ble_eq_true rfl) (fun w29 h30 => ?_)
          obtain ⟨F32, R33, rfl, oF32, oR33, cF32, cR33, hx31⟩ := h30
          have hk34 := k_ls2 hk27 hx31
          have fF32 : g_fr md_X3_number F F32 := g_fr_c fF3 cF32 rfl
          have fR33 : g_fr mr_X3_number R R33 := g_fr_c (g_fr_rf R) cR33 rfl
          exact J71 F32 R33 oF32 fF32 oR33 fR33 hk34
      refine g_icmp_ge cx 52 e_X3_number_6 (by decide) (fun zc35 => ?_) (fun zc35 => ?_)
      · have p36 := gn_ge 5 5 (gc_le zc35) py2 (jv_k (x := 5) 5 (by decide)) (by decide)
        have hk37 := hkK4.trans (if_pos zc35)
        refine g_lsub [0, 1] [(0, .ref (ad 33)), (1, .int y1)] rfl ?_
        exact J52  hk37
      · have p38 := gn_lt 0 4 (gc_nle zc35) py2 (jv_k (x := 5) 5 (by decide)) (by decide)
        have hk39 := hkK4.trans (if_neg zc35)
        refine g_aload_n cx 0 rfl e_X3_number_9 ?_
        refine g_cViW cx [] [] (w_X3_sign l X ad F3 R oF3 hA) ml_X3_42 yV_X3_sign e_X3_number_10 (by unfold g_rr; decide) (by decide) 33 rfl rfl rfl (Nat.le_of_ble_eq_true rfl) (fun r40 w41 h42 => ?_)
        obtain ⟨rfl, pr40, hx43⟩ := h42
        have hk44 := k_ls hk39 hx43
        refine g_bipush cx 48 (by decide) e_X3_number_13 ?_
        refine g_bipush cx 57 (by decide) e_X3_number_15 ?_
        refine g_cNiW cx [.int r40, .int 48, .int 57] [] (c_X10_within l X (wX X ad F3 R) r40 48 57) mn_X3_102 yS_X10_within e_X3_number_17 (by unfold g_rr; decide) (by decide) rfl (Nat.le_of_ble_eq_true rfl) (fun r45 w46 h47 => ?_)
        obtain ⟨rfl, hr45⟩ := h47
        have pr45 : jv 0 1 r45 := by rw [hr45]; exact gi_01 _ _ _
        have hk48 := k_ls hk44 hr45
        refine g_if_eq cx 52 e_X3_number_20 (by decide) (fun zc49 => ?_) (fun zc49 => ?_)
        · have p50 := gn_eq 0 0 (gc_eq zc49) pr45 (jv_k (x := 0) 0 (by decide)) (by decide)
          have hk51 := hk48.trans (if_pos zc49)
          refine g_lsub [0, 1] [(0, .ref (ad 33)), (1, .int y1)] rfl ?_
          exact J52  hk51
        · have p52 := gn_neL 1 1 (gc_ne zc49) pr45 (jv_k (x := 0) 0 (by decide)) (by decide)
          have p53 := jv_i 48 57 pr40 (gi_in (A := 48) (B := 57) hr45 zc49 (by decide) (by decide)) (by decide)
          have hk54 := hk48.trans (if_neg zc49)
          refine g_iload_n cx 1 rfl e_X3_number_23 ?_
          refine g_bipush cx 10 (by decide) e_X3_number_24 ?_
          refine g_imul cx e_X3_number_26 ?_
          refine g_topi (fun x55 ex55 => ?_)
          have hk56 := k_ls hk54 ex55
          refine g_aload_n cx 0 rfl e_X3_number_27 ?_
          refine g_cViW cx [] [.int x55] (w_X3_sign l X ad F3 R oF3 hA) ml_X3_42 yV_X3_sign e_X3_number_28 (by unfold g_rr; decide) (by decide) 33 rfl rfl rfl (Nat.le_of_ble_eq_true rfl) (fun r57 w58 h59 => ?_)
          obtain ⟨rfl, pr57, hx60⟩ := h59
          have hk61 := k_ls hk56 hx60
          refine g_iadd cx e_X3_number_31 ?_
          refine g_topi (fun x62 ex62 => ?_)
          have hk63 := k_ls hk61 ex62
          refine g_bipush cx 48 (by decide) e_X3_number_32 ?_
          refine g_isub cx e_X3_number_34 ?_
          refine g_topi (fun x64 ex64 => ?_)
          have hk65 := k_ls hk63 ex64
          refine g_istore_n cx [(1, .int x64), (0, .ref (ad 33)), (2, .int y2)] e_X3_number_35 (by decide) rfl ?_
          refine g_aload_n cx 1 rfl e_X3_number_36 ?_
          refine g_dup cx rfl e_X3_number_37 ?_
          refine g_get cx cl_X3 fl_X3_19 33 (.int (F3 531)) e_X3_number_38 rfl rfl ?_
          refine g_iconst cx 1 (by decide) e_X3_number_41 ?_
          refine g_iadd cx e_X3_number_42 ?_
          refine g_topi (fun x66 ex66 => ?_)
          have hk67 := k_ls hk65 ex66
          refine g_put cx cl_X3 fl_X3_19 33 (wX X ad (upd F3 531 x66) R) e_X3_number_43 rfl rfl rfl rfl (Nat.le_of_ble_eq_true rfl) rfl ?_
          obtain ⟨F68, hF68⟩ : ∃ z, z = upd F3 531 x66 := ⟨_, rfl⟩
          rw [← hF68]
          have hk69 := k_ls hk67 hF68
          have oF68 : g_ok LK_wX F68 := by rw [hF68]; exact g_ok_u oF3 rfl
          have fF68 : g_fr md_X3_number F F68 := by rw [hF68]; exact g_fr_u fF3 rfl
          obtain ⟨x70, ex70⟩ : ∃ z : Int32, z = y2 + Int32.ofInt 1 := ⟨_, rfl⟩
          have hk71 := k_ls hk69 (show x70 = y2 + 1 from ex70)
          refine g_iinc cx x70 [(2, .int x70), (1, .int x64), (0, .ref (ad 33))] 2 e_X3_number_46 rfl ex70.symm (by decide) rfl ?_
          have zx70 := jv_add 1 5 (show x70 = y2 + 1 from ex70) p38 (jv_k (x := 1) 1 (by decide)) (by decide)
          refine g_goto cx 4 e_X3_number_49 (by decide) ?_
          refine g_lsub [2, 1, 0] [(0, .ref (ad 33)), (1, .int x64), (2, .int x70)] rfl ?_
          exact ih4 F68 x64 x70 oF68 fF68 (jv_t x64) (jv_w zx70.2 (by decide)) (hk71.trans (by rw [hb4])) (Nat.lt_of_lt_of_le (show (2147483647 - x70.toInt).toNat < (2147483647 - y2.toInt).toNat from by have q0 := (jv_k (x := 1) 1 (by decide)).1; have q1 := (jv_k (x := 1) 1 (by decide)).2; have q2 := (jv_k (x := 5) 5 (by decide)).1; have q3 := (jv_k (x := 5) 5 (by decide)).2; have q4 := zx70.2.1; have q5 := zx70.2.2; have q6 := p38.1; have q7 := p38.2; have q8 := (gc_nle zc35); have q9 := (g_eq0 zx70.1); omega) (Nat.le_of_lt_succ hm4))
  refine g_lsub [2, 1, 0] [(0, .ref (ad 33)), (1, .int 0), (2, .int 0)] rfl ?_
  exact J4 8589934592 F 0 0 hI (g_fr_rf F) (jv_w (jv_k (x := 0) 0 (by decide)) (by decide)) (jv_w (jv_k (x := 0) 0 (by decide)) (by decide)) hk0 (show (2147483647 - (0 : Int32).toInt).toNat < 8589934592 from by have q0 := (jv_k (x := 0) 0 (by decide)).1; have q1 := (jv_k (x := 0) 0 (by decide)).2; omega)
def sp_X3_opens_c0 (F : Nat → Int32) (R : Nat → Nat → Int32) : Int32 × (Nat → Int32) × (Nat → Nat → Int32) :=
  k_lt ((F 531) + 1) (fun x1 => k_lt (upd F 531 x1) (fun F3 => (1, F3, R)))
theorem e_X3_opens_0 : g_dc cX3_opens 0 (.iload_n 1) 1 1 := ⟨by decide +kernel, rfl⟩
theorem e_X3_opens_1 : g_dc cX3_opens 1 (.bipush 6) 2 3 := ⟨by decide +kernel, rfl⟩
theorem e_X3_opens_3 : g_dc cX3_opens 3 (.if_icmp .lt 10) 3 6 := ⟨by decide +kernel, rfl⟩
theorem e_X3_opens_13 : g_dc cX3_opens 13 (.aload_n 0) 1 14 := ⟨by decide +kernel, rfl⟩
theorem e_X3_opens_14 : g_dc cX3_opens 14 (.dup) 1 15 := ⟨by decide +kernel, rfl⟩
theorem e_X3_opens_15 : g_dc cX3_opens 15 (.getfield 19) 3 18 := ⟨by decide +kernel, rfl⟩
theorem e_X3_opens_18 : g_dc cX3_opens 18 (.iconst 1) 1 19 := ⟨by decide +kernel, rfl⟩
theorem e_X3_opens_19 : g_dc cX3_opens 19 (.iadd) 1 20 := ⟨by decide +kernel, rfl⟩
theorem e_X3_opens_20 : g_dc cX3_opens 20 (.putfield 19) 3 23 := ⟨by decide +kernel, rfl⟩
theorem e_X3_opens_23 : g_dc cX3_opens 23 (.iconst 1) 1 24 := ⟨by decide +kernel, rfl⟩
theorem e_X3_opens_24 : g_dc cX3_opens 24 (.ireturn) 1 25 := ⟨by decide +kernel, rfl⟩
def md_X3_opens_c0 : List Nat := [531]
def mr_X3_opens_c0 : List Nat := []
set_option maxHeartbeats 4000000 in
set_option maxRecDepth 100000 in
theorem w_X3_opens_c0 (l : Launch) (X : gX) (ad : Nat → Nat) (F : Nat → Int32) (R : Nat → Nat → Int32) (hI : g_ok LK_wX F) (hA : g_okR LA_wX R) : g_Ci l X yX3_opens cX3_opens 2 (some .boolean) 1 0 0 [.ref (ad 33), .int 0] (wX X ad F R) (fun r w => ∃ (F' : Nat → Int32) (R' : Nat → Nat → Int32), w = wX X ad F' R' ∧ g_ok LK_wX F' ∧ g_okR LA_wX R' ∧ g_fr md_X3_opens_c0 F F' ∧ g_fr mr_X3_opens_c0 R R' ∧ jv 1 1 r ∧ (r, F', R') = sp_X3_opens_c0 F R) := by
  refine g_mi (by decide +kernel) (Nat.le_of_ble_eq_true rfl) (fun E cx hret => ?_)
  obtain ⟨SP, hSP⟩ : ∃ z, z = sp_X3_opens_c0 F R := ⟨_, rfl⟩
  have hk0 := hSP
  unfold sp_X3_opens_c0 at hk0
  refine g_iload_n cx 1 rfl e_X3_opens_0 ?_
  refine g_bipush cx 6 (by decide) e_X3_opens_1 ?_
  refine g_icmp_lt_t cx 13 e_X3_opens_3 (by decide) (by decide) ?_
  refine g_aload_n cx 0 rfl e_X3_opens_13 ?_
  refine g_dup cx rfl e_X3_opens_14 ?_
  refine g_get cx cl_X3 fl_X3_19 33 (.int (F 531)) e_X3_opens_15 rfl rfl ?_
  refine g_iconst cx 1 (by decide) e_X3_opens_18 ?_
  refine g_iadd cx e_X3_opens_19 ?_
  refine g_topi (fun x1 ex1 => ?_)
  have hk2 := k_ls hk0 ex1
  refine g_put cx cl_X3 fl_X3_19 33 (wX X ad (upd F 531 x1) R) e_X3_opens_20 rfl rfl rfl rfl (Nat.le_of_ble_eq_true rfl) rfl ?_
  obtain ⟨F3, hF3⟩ : ∃ z, z = upd F 531 x1 := ⟨_, rfl⟩
  rw [← hF3]
  have hk4 := k_ls hk2 hF3
  have oF3 : g_ok LK_wX F3 := by rw [hF3]; exact g_ok_u hI rfl
  have fF3 : g_fr md_X3_opens_c0 F F3 := by rw [hF3]; exact g_fr_u (g_fr_rf F) rfl
  refine g_iconst cx 1 (by decide) e_X3_opens_23 ?_
  exact hret e_X3_opens_24 (Nat.le_of_ble_eq_true rfl) (Nat.le_of_ble_eq_true rfl) rfl ⟨F3, R, rfl, oF3, hA, fF3, (g_fr_rf R), (jv_k (x := 1) 1 (by decide)), (hk4.symm.trans hSP)⟩
def sp_X3_opens_c1 (F : Nat → Int32) (R : Nat → Nat → Int32) : Int32 × (Nat → Int32) × (Nat → Nat → Int32) :=
  k_lt ((F 531) + 1) (fun x1 => k_lt (upd F 531 x1) (fun F3 => (1, F3, R)))
def md_X3_opens_c1 : List Nat := [531]
def mr_X3_opens_c1 : List Nat := []
set_option maxHeartbeats 4000000 in
set_option maxRecDepth 100000 in
theorem w_X3_opens_c1 (l : Launch) (X : gX) (ad : Nat → Nat) (F : Nat → Int32) (R : Nat → Nat → Int32) (hI : g_ok LK_wX F) (hA : g_okR LA_wX R) : g_Ci l X yX3_opens cX3_opens 2 (some .boolean) 1 0 0 [.ref (ad 33), .int 1] (wX X ad F R) (fun r w => ∃ (F' : Nat → Int32) (R' : Nat → Nat → Int32), w = wX X ad F' R' ∧ g_ok LK_wX F' ∧ g_okR LA_wX R' ∧ g_fr md_X3_opens_c1 F F' ∧ g_fr mr_X3_opens_c1 R R' ∧ jv 1 1 r ∧ (r, F', R') = sp_X3_opens_c1 F R) := by
  refine g_mi (by decide +kernel) (Nat.le_of_ble_eq_true rfl) (fun E cx hret => ?_)
  obtain ⟨SP, hSP⟩ : ∃ z, z = sp_X3_opens_c1 F R := ⟨_, rfl⟩
  have hk0 := hSP
  unfold sp_X3_opens_c1 at hk0
  refine g_iload_n cx 1 rfl e_X3_opens_0 ?_
  refine g_bipush cx 6 (by decide) e_X3_opens_1 ?_
  refine g_icmp_lt_t cx 13 e_X3_opens_3 (by decide) (by decide) ?_
  refine g_aload_n cx 0 rfl e_X3_opens_13 ?_
  refine g_dup cx rfl e_X3_opens_14 ?_
  refine g_get cx cl_X3 fl_X3_19 33 (.int (F 531)) e_X3_opens_15 rfl rfl ?_
  refine g_iconst cx 1 (by decide) e_X3_opens_18 ?_
  refine g_iadd cx e_X3_opens_19 ?_
  refine g_topi (fun x1 ex1 => ?_)
  have hk2 := k_ls hk0 ex1
  refine g_put cx cl_X3 fl_X3_19 33 (wX X ad (upd F 531 x1) R) e_X3_opens_20 rfl rfl rfl rfl (Nat.le_of_ble_eq_true rfl) rfl ?_
  obtain ⟨F3, hF3⟩ : ∃ z, z = upd F 531 x1 := ⟨_, rfl⟩
  rw [← hF3]
  have hk4 := k_ls hk2 hF3
  have oF3 : g_ok LK_wX F3 := by rw [hF3]; exact g_ok_u hI rfl
  have fF3 : g_fr md_X3_opens_c1 F F3 := by rw [hF3]; exact g_fr_u (g_fr_rf F) rfl
  refine g_iconst cx 1 (by decide) e_X3_opens_23 ?_
  exact hret e_X3_opens_24 (Nat.le_of_ble_eq_true rfl) (Nat.le_of_ble_eq_true rfl) rfl ⟨F3, R, rfl, oF3, hA, fF3, (g_fr_rf R), (jv_k (x := 1) 1 (by decide)), (hk4.symm.trans hSP)⟩
def sp_X3_opens_c2 (F : Nat → Int32) (R : Nat → Nat → Int32) : Int32 × (Nat → Int32) × (Nat → Nat → Int32) :=
  k_lt ((F 531) + 1) (fun x1 => k_lt (upd F 531 x1) (fun F3 => (1, F3, R)))
def md_X3_opens_c2 : List Nat := [531]
def mr_X3_opens_c2 : List Nat := []
set_option maxHeartbeats 4000000 in
set_option maxRecDepth 100000 in
theorem w_X3_opens_c2 (l : Launch) (X : gX) (ad : Nat → Nat) (F : Nat → Int32) (R : Nat → Nat → Int32) (hI : g_ok LK_wX F) (hA : g_okR LA_wX R) : g_Ci l X yX3_opens cX3_opens 2 (some .boolean) 1 0 0 [.ref (ad 33), .int 2] (wX X ad F R) (fun r w => ∃ (F' : Nat → Int32) (R' : Nat → Nat → Int32), w = wX X ad F' R' ∧ g_ok LK_wX F' ∧ g_okR LA_wX R' ∧ g_fr md_X3_opens_c2 F F' ∧ g_fr mr_X3_opens_c2 R R' ∧ jv 1 1 r ∧ (r, F', R') = sp_X3_opens_c2 F R) := by
  refine g_mi (by decide +kernel) (Nat.le_of_ble_eq_true rfl) (fun E cx hret => ?_)
  obtain ⟨SP, hSP⟩ : ∃ z, z = sp_X3_opens_c2 F R := ⟨_, rfl⟩
  have hk0 := hSP
  unfold sp_X3_opens_c2 at hk0
  refine g_iload_n cx 1 rfl e_X3_opens_0 ?_
  refine g_bipush cx 6 (by decide) e_X3_opens_1 ?_
  refine g_icmp_lt_t cx 13 e_X3_opens_3 (by decide) (by decide) ?_
  refine g_aload_n cx 0 rfl e_X3_opens_13 ?_
  refine g_dup cx rfl e_X3_opens_14 ?_
  refine g_get cx cl_X3 fl_X3_19 33 (.int (F 531)) e_X3_opens_15 rfl rfl ?_
  refine g_iconst cx 1 (by decide) e_X3_opens_18 ?_
  refine g_iadd cx e_X3_opens_19 ?_
  refine g_topi (fun x1 ex1 => ?_)
  have hk2 := k_ls hk0 ex1
  refine g_put cx cl_X3 fl_X3_19 33 (wX X ad (upd F 531 x1) R) e_X3_opens_20 rfl rfl rfl rfl (Nat.le_of_ble_eq_true rfl) rfl ?_
  obtain ⟨F3, hF3⟩ : ∃ z, z = upd F 531 x1 := ⟨_, rfl⟩
  rw [← hF3]
  have hk4 := k_ls hk2 hF3
  have oF3 : g_ok LK_wX F3 := by rw [hF3]; exact g_ok_u hI rfl
  have fF3 : g_fr md_X3_opens_c2 F F3 := by rw [hF3]; exact g_fr_u (g_fr_rf F) rfl
  refine g_iconst cx 1 (by decide) e_X3_opens_23 ?_
  exact hret e_X3_opens_24 (Nat.le_of_ble_eq_true rfl) (Nat.le_of_ble_eq_true rfl) rfl ⟨F3, R, rfl, oF3, hA, fF3, (g_fr_rf R), (jv_k (x := 1) 1 (by decide)), (hk4.symm.trans hSP)⟩
def sp_X3_opens_c3 (F : Nat → Int32) (R : Nat → Nat → Int32) : Int32 × (Nat → Int32) × (Nat → Nat → Int32) :=
  k_lt ((F 531) + 1) (fun x1 => k_lt (upd F 531 x1) (fun F3 => (1, F3, R)))
def md_X3_opens_c3 : List Nat := [531]
def mr_X3_opens_c3 : List Nat := []
set_option maxHeartbeats 4000000 in
set_option maxRecDepth 100000 in
theorem w_X3_opens_c3 (l : Launch) (X : gX) (ad : Nat → Nat) (F : Nat → Int32) (R : Nat → Nat → Int32) (hI : g_ok LK_wX F) (hA : g_okR LA_wX R) : g_Ci l X yX3_opens cX3_opens 2 (some .boolean) 1 0 0 [.ref (ad 33), .int 3] (wX X ad F R) (fun r w => ∃ (F' : Nat → Int32) (R' : Nat → Nat → Int32), w = wX X ad F' R' ∧ g_ok LK_wX F' ∧ g_okR LA_wX R' ∧ g_fr md_X3_opens_c3 F F' ∧ g_fr mr_X3_opens_c3 R R' ∧ jv 1 1 r ∧ (r, F', R') = sp_X3_opens_c3 F R) := by
  refine g_mi (by decide +kernel) (Nat.le_of_ble_eq_true rfl) (fun E cx hret => ?_)
  obtain ⟨SP, hSP⟩ : ∃ z, z = sp_X3_opens_c3 F R := ⟨_, rfl⟩
  have hk0 := hSP
  unfold sp_X3_opens_c3 at hk0
  refine g_iload_n cx 1 rfl e_X3_opens_0 ?_
  refine g_bipush cx 6 (by decide) e_X3_opens_1 ?_
  refine g_icmp_lt_t cx 13 e_X3_opens_3 (by decide) (by decide) ?_
  refine g_aload_n cx 0 rfl e_X3_opens_13 ?_
  refine g_dup cx rfl e_X3_opens_14 ?_
  refine g_get cx cl_X3 fl_X3_19 33 (.int (F 531)) e_X3_opens_15 rfl rfl ?_
  refine g_iconst cx 1 (by decide) e_X3_opens_18 ?_
  refine g_iadd cx e_X3_opens_19 ?_
  refine g_topi (fun x1 ex1 => ?_)
  have hk2 := k_ls hk0 ex1
  refine g_put cx cl_X3 fl_X3_19 33 (wX X ad (upd F 531 x1) R) e_X3_opens_20 rfl rfl rfl rfl (Nat.le_of_ble_eq_true rfl) rfl ?_
  obtain ⟨F3, hF3⟩ : ∃ z, z = upd F 531 x1 := ⟨_, rfl⟩
  rw [← hF3]
  have hk4 := k_ls hk2 hF3
  have oF3 : g_ok LK_wX F3 := by rw [hF3]; exact g_ok_u hI rfl
  have fF3 : g_fr md_X3_opens_c3 F F3 := by rw [hF3]; exact g_fr_u (g_fr_rf F) rfl
  refine g_iconst cx 1 (by decide) e_X3_opens_23 ?_
  exact hret e_X3_opens_24 (Nat.le_of_ble_eq_true rfl) (Nat.le_of_ble_eq_true rfl) rfl ⟨F3, R, rfl, oF3, hA, fF3, (g_fr_rf R), (jv_k (x := 1) 1 (by decide)), (hk4.symm.trans hSP)⟩
def sp_X3_opens_c4 (F : Nat → Int32) (R : Nat → Nat → Int32) : Int32 × (Nat → Int32) × (Nat → Nat → Int32) :=
  k_lt ((F 531) + 1) (fun x1 => k_lt (upd F 531 x1) (fun F3 => (1, F3, R)))
def md_X3_opens_c4 : List Nat := [531]
def mr_X3_opens_c4 : List Nat := []
set_option maxHeartbeats 4000000 in
set_option maxRecDepth 100000 in
theorem w_X3_opens_c4 (l : Launch) (X : gX) (ad : Nat → Nat) (F : Nat → Int32) (R : Nat → Nat → Int32) (hI : g_ok LK_wX F) (hA : g_okR LA_wX R) : g_Ci l X yX3_opens cX3_opens 2 (some .boolean) 1 0 0 [.ref (ad 33), .int 4] (wX X ad F R) (fun r w => ∃ (F' : Nat → Int32) (R' : Nat → Nat → Int32), w = wX X ad F' R' ∧ g_ok LK_wX F' ∧ g_okR LA_wX R' ∧ g_fr md_X3_opens_c4 F F' ∧ g_fr mr_X3_opens_c4 R R' ∧ jv 1 1 r ∧ (r, F', R') = sp_X3_opens_c4 F R) := by
  refine g_mi (by decide +kernel) (Nat.le_of_ble_eq_true rfl) (fun E cx hret => ?_)
  obtain ⟨SP, hSP⟩ : ∃ z, z = sp_X3_opens_c4 F R := ⟨_, rfl⟩
  have hk0 := hSP
  unfold sp_X3_opens_c4 at hk0
  refine g_iload_n cx 1 rfl e_X3_opens_0 ?_
  refine g_bipush cx 6 (by decide) e_X3_opens_1 ?_
  refine g_icmp_lt_t cx 13 e_X3_opens_3 (by decide) (by decide) ?_
  refine g_aload_n cx 0 rfl e_X3_opens_13 ?_
  refine g_dup cx rfl e_X3_opens_14 ?_
  refine g_get cx cl_X3 fl_X3_19 33 (.int (F 531)) e_X3_opens_15 rfl rfl ?_
  refine g_iconst cx 1 (by decide) e_X3_opens_18 ?_
  refine g_iadd cx e_X3_opens_19 ?_
  refine g_topi (fun x1 ex1 => ?_)
  have hk2 := k_ls hk0 ex1
  refine g_put cx cl_X3 fl_X3_19 33 (wX X ad (upd F 531 x1) R) e_X3_opens_20 rfl rfl rfl rfl (Nat.le_of_ble_eq_true rfl) rfl ?_
  obtain ⟨F3, hF3⟩ : ∃ z, z = upd F 531 x1 := ⟨_, rfl⟩
  rw [← hF3]
  have hk4 := k_ls hk2 hF3
  have oF3 : g_ok LK_wX F3 := by rw [hF3]; exact g_ok_u hI rfl
  have fF3 : g_fr md_X3_opens_c4 F F3 := by rw [hF3]; exact g_fr_u (g_fr_rf F) rfl
  refine g_iconst cx 1 (by decide) e_X3_opens_23 ?_
  exact hret e_X3_opens_24 (Nat.le_of_ble_eq_true rfl) (Nat.le_of_ble_eq_true rfl) rfl ⟨F3, R, rfl, oF3, hA, fF3, (g_fr_rf R), (jv_k (x := 1) 1 (by decide)), (hk4.symm.trans hSP)⟩
def sp_X3_opens_c5 (F : Nat → Int32) (R : Nat → Nat → Int32) : Int32 × (Nat → Int32) × (Nat → Nat → Int32) :=
  k_lt ((F 531) + 1) (fun x1 => k_lt (upd F 531 x1) (fun F3 => (1, F3, R)))
def md_X3_opens_c5 : List Nat := [531]
def mr_X3_opens_c5 : List Nat := []
set_option maxHeartbeats 4000000 in
set_option maxRecDepth 100000 in
theorem w_X3_opens_c5 (l : Launch) (X : gX) (ad : Nat → Nat) (F : Nat → Int32) (R : Nat → Nat → Int32) (hI : g_ok LK_wX F) (hA : g_okR LA_wX R) : g_Ci l X yX3_opens cX3_opens 2 (some .boolean) 1 0 0 [.ref (ad 33), .int 5] (wX X ad F R) (fun r w => ∃ (F' : Nat → Int32) (R' : Nat → Nat → Int32), w = wX X ad F' R' ∧ g_ok LK_wX F' ∧ g_okR LA_wX R' ∧ g_fr md_X3_opens_c5 F F' ∧ g_fr mr_X3_opens_c5 R R' ∧ jv 1 1 r ∧ (r, F', R') = sp_X3_opens_c5 F R) := by
  refine g_mi (by decide +kernel) (Nat.le_of_ble_eq_true rfl) (fun E cx hret => ?_)
  obtain ⟨SP, hSP⟩ : ∃ z, z = sp_X3_opens_c5 F R := ⟨_, rfl⟩
  have hk0 := hSP
  unfold sp_X3_opens_c5 at hk0
  refine g_iload_n cx 1 rfl e_X3_opens_0 ?_
  refine g_bipush cx 6 (by decide) e_X3_opens_1 ?_
  refine g_icmp_lt_t cx 13 e_X3_opens_3 (by decide) (by decide) ?_
  refine g_aload_n cx 0 rfl e_X3_opens_13 ?_
  refine g_dup cx rfl e_X3_opens_14 ?_
  refine g_get cx cl_X3 fl_X3_19 33 (.int (F 531)) e_X3_opens_15 rfl rfl ?_
  refine g_iconst cx 1 (by decide) e_X3_opens_18 ?_
  refine g_iadd cx e_X3_opens_19 ?_
  refine g_topi (fun x1 ex1 => ?_)
  have hk2 := k_ls hk0 ex1
  refine g_put cx cl_X3 fl_X3_19 33 (wX X ad (upd F 531 x1) R) e_X3_opens_20 rfl rfl rfl rfl (Nat.le_of_ble_eq_true rfl) rfl ?_
  obtain ⟨F3, hF3⟩ : ∃ z, z = upd F 531 x1 := ⟨_, rfl⟩
  rw [← hF3]
  have hk4 := k_ls hk2 hF3
  have oF3 : g_ok LK_wX F3 := by rw [hF3]; exact g_ok_u hI rfl
  have fF3 : g_fr md_X3_opens_c5 F F3 := by rw [hF3]; exact g_fr_u (g_fr_rf F) rfl
  refine g_iconst cx 1 (by decide) e_X3_opens_23 ?_
  exact hret e_X3_opens_24 (Nat.le_of_ble_eq_true rfl) (Nat.le_of_ble_eq_true rfl) rfl ⟨F3, R, rfl, oF3, hA, fF3, (g_fr_rf R), (jv_k (x := 1) 1 (by decide)), (hk4.symm.trans hSP)⟩
def sp_X3_opens_c6 (F : Nat → Int32) (R : Nat → Nat → Int32) : Int32 × (Nat → Int32) × (Nat → Nat → Int32) :=
  k_lt2 (sp_X3_fail F R 5) (fun F5 R6 => (0, F5, R6))
theorem e_X3_opens_6 : g_dc cX3_opens 6 (.aload_n 0) 1 7 := ⟨by decide +kernel, rfl⟩
theorem e_X3_opens_7 : g_dc cX3_opens 7 (.iconst 5) 1 8 := ⟨by decide +kernel, rfl⟩
theorem e_X3_opens_8 : g_dc cX3_opens 8 (.invokevirtual 46) 3 11 := ⟨by decide +kernel, rfl⟩
theorem e_X3_opens_11 : g_dc cX3_opens 11 (.iconst 0) 1 12 := ⟨by decide +kernel, rfl⟩
theorem e_X3_opens_12 : g_dc cX3_opens 12 (.ireturn) 1 13 := ⟨by decide +kernel, rfl⟩
def md_X3_opens_c6 : List Nat := [532]
def mr_X3_opens_c6 : List Nat := []
set_option maxHeartbeats 4000000 in
set_option maxRecDepth 100000 in
theorem w_X3_opens_c6 (l : Launch) (X : gX) (ad : Nat → Nat) (F : Nat → Int32) (R : Nat → Nat → Int32) (hI : g_ok LK_wX F) (hA : g_okR LA_wX R) : g_Ci l X yX3_opens cX3_opens 2 (some .boolean) 2 0 0 [.ref (ad 33), .int 6] (wX X ad F R) (fun r w => ∃ (F' : Nat → Int32) (R' : Nat → Nat → Int32), w = wX X ad F' R' ∧ g_ok LK_wX F' ∧ g_okR LA_wX R' ∧ g_fr md_X3_opens_c6 F F' ∧ g_fr mr_X3_opens_c6 R R' ∧ jv 0 0 r ∧ (r, F', R') = sp_X3_opens_c6 F R) := by
  refine g_mi (by decide +kernel) (Nat.le_of_ble_eq_true rfl) (fun E cx hret => ?_)
  obtain ⟨SP, hSP⟩ : ∃ z, z = sp_X3_opens_c6 F R := ⟨_, rfl⟩
  have hk0 := hSP
  unfold sp_X3_opens_c6 at hk0
  refine g_iload_n cx 1 rfl e_X3_opens_0 ?_
  refine g_bipush cx 6 (by decide) e_X3_opens_1 ?_
  refine g_icmp_lt_f cx 13 e_X3_opens_3 (by decide) (by decide) ?_
  refine g_aload_n cx 0 rfl e_X3_opens_6 ?_
  refine g_iconst cx 5 (by decide) e_X3_opens_7 ?_
  refine g_cVvW cx [.int 5] [] (w_X3_fail l X ad F R hI hA 5) ml_X3_46 yV_X3_fail e_X3_opens_8 (by unfold g_rr; decide) (by decide) 33 rfl rfl rfl (Nat.le_of_ble_eq_true rfl) (fun w2 h3 => ?_)
  obtain ⟨F5, R6, rfl, oF5, oR6, cF5, cR6, hx4⟩ := h3
  have hk7 := k_ls2 hk0 hx4
  have fF5 : g_fr md_X3_opens_c6 F F5 := g_fr_c (g_fr_rf F) cF5 rfl
  have fR6 : g_fr mr_X3_opens_c6 R R6 := g_fr_c (g_fr_rf R) cR6 rfl
  refine g_iconst cx 0 (by decide) e_X3_opens_11 ?_
  exact hret e_X3_opens_12 (Nat.le_of_ble_eq_true rfl) (Nat.le_of_ble_eq_true rfl) rfl ⟨F5, R6, rfl, oF5, oR6, fF5, fR6, (jv_k (x := 0) 0 (by decide)), (hk7.symm.trans hSP)⟩
def K_X3_factor_c6_72 (F : Nat → Int32) (R : Nat → Nat → Int32) (y25 : Int32) : (Nat → Int32) × (Nat → Nat → Int32) :=
  if 0 ≤ y25 then k_lt ((F 531) + 1) (fun x29 => k_lt (upd F 531 x29) (fun F31 => k_lt3 (sp_X2_emit_25 F31 R 2 y25) (fun r33 F37 R38 => (F37, R38)))) else k_lt2 (sp_X3_fail F R 1) (fun F46 R47 => (F46, R47))
def sp_X3_factor_c6 (F : Nat → Int32) (R : Nat → Nat → Int32) : (Nat → Int32) × (Nat → Nat → Int32) :=
  k_lt (sp_X3_sign F R) (fun r1 => if r1 = 91 then k_lt3 (sp_X3_opens_c6 F R) (fun r76 F80 R81 => (F80, R81)) else k_lt (sp_X3_sign F R) (fun r8 => k_lt (g_in r8 48 57) (fun r13 => if r13 = 0 then k_lt (sp_X3_sign F R) (fun r20 => if r20 = (-1) then K_X3_factor_c6_72 F R (-1) else k_lt (sp_X3_sign F R) (fun r51 => k_lt ((r51.toUInt32 % 65536).toInt32) (fun x56 => k_lt (sp_J0_indexOf_0f7a4_s1 x56) (fun r58 => K_X3_factor_c6_72 F R r58)))) else k_lt2 (sp_X3_number F R) (fun F71 R72 => (F71, R72)))))
theorem e_X3_factor_0 : g_dc cX3_factor 0 (.aload_n 0) 1 1 := ⟨by decide +kernel, rfl⟩
theorem e_X3_factor_1 : g_dc cX3_factor 1 (.invokevirtual 42) 3 4 := ⟨by decide +kernel, rfl⟩
theorem e_X3_factor_4 : g_dc cX3_factor 4 (.bipush 91) 2 6 := ⟨by decide +kernel, rfl⟩
theorem e_X3_factor_6 : g_dc cX3_factor 6 (.if_icmp .ne 25) 3 9 := ⟨by decide +kernel, rfl⟩
theorem e_X3_factor_9 : g_dc cX3_factor 9 (.aload_n 0) 1 10 := ⟨by decide +kernel, rfl⟩
theorem e_X3_factor_10 : g_dc cX3_factor 10 (.iload_n 1) 1 11 := ⟨by decide +kernel, rfl⟩
theorem e_X3_factor_11 : g_dc cX3_factor 11 (.invokevirtual 89) 3 14 := ⟨by decide +kernel, rfl⟩
theorem e_X3_factor_14 : g_dc cX3_factor 14 (.ifCond .eq 16) 3 17 := ⟨by decide +kernel, rfl⟩
theorem e_X3_factor_30 : g_dc cX3_factor 30 (.return_) 1 31 := ⟨by decide +kernel, rfl⟩
theorem e_X3_factor_31 : g_dc cX3_factor 31 (.aload_n 0) 1 32 := ⟨by decide +kernel, rfl⟩
theorem e_X3_factor_32 : g_dc cX3_factor 32 (.invokevirtual 42) 3 35 := ⟨by decide +kernel, rfl⟩
theorem e_X3_factor_35 : g_dc cX3_factor 35 (.bipush 48) 2 37 := ⟨by decide +kernel, rfl⟩
theorem e_X3_factor_37 : g_dc cX3_factor 37 (.bipush 57) 2 39 := ⟨by decide +kernel, rfl⟩
theorem e_X3_factor_39 : g_dc cX3_factor 39 (.invokestatic 102) 3 42 := ⟨by decide +kernel, rfl⟩
theorem e_X3_factor_42 : g_dc cX3_factor 42 (.ifCond .eq 8) 3 45 := ⟨by decide +kernel, rfl⟩
theorem e_X3_factor_45 : g_dc cX3_factor 45 (.aload_n 0) 1 46 := ⟨by decide +kernel, rfl⟩
theorem e_X3_factor_46 : g_dc cX3_factor 46 (.invokevirtual 106) 3 49 := ⟨by decide +kernel, rfl⟩
theorem e_X3_factor_49 : g_dc cX3_factor 49 (.return_) 1 50 := ⟨by decide +kernel, rfl⟩
theorem e_X3_factor_50 : g_dc cX3_factor 50 (.aload_n 0) 1 51 := ⟨by decide +kernel, rfl⟩
theorem e_X3_factor_51 : g_dc cX3_factor 51 (.invokevirtual 42) 3 54 := ⟨by decide +kernel, rfl⟩
theorem e_X3_factor_54 : g_dc cX3_factor 54 (.iconst (-1)) 1 55 := ⟨by decide +kernel, rfl⟩
theorem e_X3_factor_55 : g_dc cX3_factor 55 (.if_icmp .ne 7) 3 58 := ⟨by decide +kernel, rfl⟩
theorem e_X3_factor_58 : g_dc cX3_factor 58 (.iconst (-1)) 1 59 := ⟨by decide +kernel, rfl⟩
theorem e_X3_factor_59 : g_dc cX3_factor 59 (.goto 13) 3 62 := ⟨by decide +kernel, rfl⟩
theorem e_X3_factor_62 : g_dc cX3_factor 62 (.ldc 109) 2 64 := ⟨by decide +kernel, rfl⟩
theorem e_X3_factor_64 : g_dc cX3_factor 64 (.aload_n 0) 1 65 := ⟨by decide +kernel, rfl⟩
theorem e_X3_factor_65 : g_dc cX3_factor 65 (.invokevirtual 42) 3 68 := ⟨by decide +kernel, rfl⟩
theorem e_X3_factor_68 : g_dc cX3_factor 68 (.i2c) 1 69 := ⟨by decide +kernel, rfl⟩
theorem e_X3_factor_69 : g_dc cX3_factor 69 (.invokevirtual 52) 3 72 := ⟨by decide +kernel, rfl⟩
theorem e_X3_factor_72 : g_dc cX3_factor 72 (.istore_n 2) 1 73 := ⟨by decide +kernel, rfl⟩
theorem e_X3_factor_73 : g_dc cX3_factor 73 (.iload_n 2) 1 74 := ⟨by decide +kernel, rfl⟩
theorem e_X3_factor_74 : g_dc cX3_factor 74 (.ifCond .ge 9) 3 77 := ⟨by decide +kernel, rfl⟩
theorem e_X3_factor_77 : g_dc cX3_factor 77 (.aload_n 0) 1 78 := ⟨by decide +kernel, rfl⟩
theorem e_X3_factor_78 : g_dc cX3_factor 78 (.iconst 1) 1 79 := ⟨by decide +kernel, rfl⟩
theorem e_X3_factor_79 : g_dc cX3_factor 79 (.invokevirtual 46) 3 82 := ⟨by decide +kernel, rfl⟩
theorem e_X3_factor_82 : g_dc cX3_factor 82 (.return_) 1 83 := ⟨by decide +kernel, rfl⟩
theorem e_X3_factor_83 : g_dc cX3_factor 83 (.aload_n 0) 1 84 := ⟨by decide +kernel, rfl⟩
theorem e_X3_factor_84 : g_dc cX3_factor 84 (.dup) 1 85 := ⟨by decide +kernel, rfl⟩
theorem e_X3_factor_85 : g_dc cX3_factor 85 (.getfield 19) 3 88 := ⟨by decide +kernel, rfl⟩
theorem e_X3_factor_88 : g_dc cX3_factor 88 (.iconst 1) 1 89 := ⟨by decide +kernel, rfl⟩
theorem e_X3_factor_89 : g_dc cX3_factor 89 (.iadd) 1 90 := ⟨by decide +kernel, rfl⟩
theorem e_X3_factor_90 : g_dc cX3_factor 90 (.putfield 19) 3 93 := ⟨by decide +kernel, rfl⟩
theorem e_X3_factor_93 : g_dc cX3_factor 93 (.aload_n 0) 1 94 := ⟨by decide +kernel, rfl⟩
theorem e_X3_factor_94 : g_dc cX3_factor 94 (.getfield 25) 3 97 := ⟨by decide +kernel, rfl⟩
theorem e_X3_factor_97 : g_dc cX3_factor 97 (.iconst 2) 1 98 := ⟨by decide +kernel, rfl⟩
theorem e_X3_factor_98 : g_dc cX3_factor 98 (.iload_n 2) 1 99 := ⟨by decide +kernel, rfl⟩
theorem e_X3_factor_99 : g_dc cX3_factor 99 (.invokevirtual 66) 3 102 := ⟨by decide +kernel, rfl⟩
theorem e_X3_factor_102 : g_dc cX3_factor 102 (.pop) 1 103 := ⟨by decide +kernel, rfl⟩
theorem e_X3_factor_103 : g_dc cX3_factor 103 (.return_) 1 104 := ⟨by decide +kernel, rfl⟩
def md_X3_factor_c6 : List Nat := [402, 531, 532]
def mr_X3_factor_c6 : List Nat := [26, 27]
set_option maxHeartbeats 4000000 in
set_option maxRecDepth 100000 in
theorem w_X3_factor_c6 (l : Launch) (X : gX) (ad : Nat → Nat) (F : Nat → Int32) (R : Nat → Nat → Int32) (hI : g_ok LK_wX F) (hA : g_okR LA_wX R) : g_Cv l X yX3_factor cX3_factor 3 5 0 0 [.ref (ad 33), .int 6] (wX X ad F R) (fun w => ∃ (F' : Nat → Int32) (R' : Nat → Nat → Int32), w = wX X ad F' R' ∧ g_ok LK_wX F' ∧ g_okR LA_wX R' ∧ g_fr md_X3_factor_c6 F F' ∧ g_fr mr_X3_factor_c6 R R' ∧ (F', R') = sp_X3_factor_c6 F R) := by
  refine g_mv (by decide +kernel) (Nat.le_of_ble_eq_true rfl) (fun E cx hret => ?_)
  obtain ⟨SP, hSP⟩ : ∃ z, z = sp_X3_factor_c6 F R := ⟨_, rfl⟩
  have hk0 := hSP
  unfold sp_X3_factor_c6 at hk0
  refine g_aload_n cx 0 rfl e_X3_factor_0 ?_
  refine g_cViW cx [] [] (w_X3_sign l X ad F R hI hA) ml_X3_42 yV_X3_sign e_X3_factor_1 (by unfold g_rr; decide) (by decide) 33 rfl rfl rfl (Nat.le_of_ble_eq_true rfl) (fun r1 w2 h3 => ?_)
  obtain ⟨rfl, pr1, hx4⟩ := h3
  have hk5 := k_ls hk0 hx4
  refine g_bipush cx 91 (by decide) e_X3_factor_4 ?_
  refine g_icmp_ne cx 31 e_X3_factor_6 (by decide) (fun zc6 => ?_) (fun zc6 => ?_)
  · have hk7 := hk5.trans (if_neg zc6)
    refine g_aload_n cx 0 rfl e_X3_factor_31 ?_
    refine g_cViW cx [] [] (w_X3_sign l X ad F R hI hA) ml_X3_42 yV_X3_sign e_X3_factor_32 (by unfold g_rr; decide) (by decide) 33 rfl rfl rfl (Nat.le_of_ble_eq_true rfl) (fun r8 w9 h10 => ?_)
    obtain ⟨rfl, pr8, hx11⟩ := h10
    have hk12 := k_ls hk7 hx11
    refine g_bipush cx 48 (by decide) e_X3_factor_35 ?_
    refine g_bipush cx 57 (by decide) e_X3_factor_37 ?_
    refine g_cNiW cx [.int r8, .int 48, .int 57] [] (c_X10_within l X (wX X ad F R) r8 48 57) mn_X3_102 yS_X10_within e_X3_factor_39 (by unfold g_rr; decide) (by decide) rfl (Nat.le_of_ble_eq_true rfl) (fun r13 w14 h15 => ?_)
    obtain ⟨rfl, hr13⟩ := h15
    have pr13 : jv 0 1 r13 := by rw [hr13]; exact gi_01 _ _ _
    have hk16 := k_ls hk12 hr13
    refine g_if_eq cx 50 e_X3_factor_42 (by decide) (fun zc17 => ?_) (fun zc17 => ?_)
    · have p18 := gn_eq 0 0 (gc_eq zc17) pr13 (jv_k (x := 0) 0 (by decide)) (by decide)
      have hk19 := hk16.trans (if_pos zc17)
      refine g_aload_n cx 0 rfl e_X3_factor_50 ?_
      refine g_cViW cx [] [] (w_X3_sign l X ad F R hI hA) ml_X3_42 yV_X3_sign e_X3_factor_51 (by unfold g_rr; decide) (by decide) 33 rfl rfl rfl (Nat.le_of_ble_eq_true rfl) (fun r20 w21 h22 => ?_)
      obtain ⟨rfl, pr20, hx23⟩ := h22
      have hk24 := k_ls hk19 hx23
      refine g_iconst cx (-1) (by decide) e_X3_factor_54 ?_
      have J72 : ∀ (y25 : Int32), (jv (-1) 11 y25) → (SP = K_X3_factor_c6_72 F R y25) → G X E 3 0 0 (wX X ad F R) [(0, .ref (ad 33))] 72 [.int y25] := by
        intro y25 py25 hkJ72
        unfold K_X3_factor_c6_72 at hkJ72
        refine g_istore_n cx [(2, .int y25), (0, .ref (ad 33))] e_X3_factor_72 (by decide) rfl ?_
        refine g_iload_n cx 0 rfl e_X3_factor_73 ?_
        refine g_if_ge cx 83 e_X3_factor_74 (by decide) (fun zc26 => ?_) (fun zc26 => ?_)
        · have p27 := gn_ge 0 11 (gc_le zc26) py25 (jv_k (x := 0) 0 (by decide)) (by decide)
          have hk28 := hkJ72.trans (if_pos zc26)
          refine g_aload_n cx 1 rfl e_X3_factor_83 ?_
          refine g_dup cx rfl e_X3_factor_84 ?_
          refine g_get cx cl_X3 fl_X3_19 33 (.int (F 531)) e_X3_factor_85 rfl rfl ?_
          refine g_iconst cx 1 (by decide) e_X3_factor_88 ?_
          refine g_iadd cx e_X3_factor_89 ?_
          refine g_topi (fun x29 ex29 => ?_)
          have hk30 := k_ls hk28 ex29
          refine g_put cx cl_X3 fl_X3_19 33 (wX X ad (upd F 531 x29) R) e_X3_factor_90 rfl rfl rfl rfl (Nat.le_of_ble_eq_true rfl) rfl ?_
          obtain ⟨F31, hF31⟩ : ∃ z, z = upd F 531 x29 := ⟨_, rfl⟩
          rw [← hF31]
          have hk32 := k_ls hk30 hF31
          have oF31 : g_ok LK_wX F31 := by rw [hF31]; exact g_ok_u hI rfl
          have fF31 : g_fr md_X3_factor_c6 F F31 := by rw [hF31]; exact g_fr_u (g_fr_rf F) rfl
          refine g_aload_n cx 1 rfl e_X3_factor_93 ?_
          refine g_get cx cl_X3 fl_X3_25 33 (.ref (ad 25)) e_X3_factor_94 rfl rfl ?_
          refine g_iconst cx 2 (by decide) e_X3_factor_97 ?_
          refine g_iload_n cx 0 rfl e_X3_factor_98 ?_
          refine g_cViW cx [.int 2, .int y25] [] (w_X2_emit_25 l X ad F31 R oF31 hA 2 y25) ml_X3_66 yV_X2_emit e_X3_factor_99 (by unfold g_rr; decide) (by decide) 25 rfl rfl rfl (Nat.le_of_ble_eq_true rfl) (fun r33 w34 h35 => ?_)
          obtain ⟨F37, R38, rfl, oF37, oR38, cF37, cR38, pr33, hx36⟩ := h35
          have hk39 := k_ls3 hk32 hx36
          have fF37 : g_fr md_X3_factor_c6 F F37 := g_fr_c fF31 cF37 rfl
          have fR38 : g_fr mr_X3_factor_c6 R R38 := g_fr_c (g_fr_rf R) cR38 rfl
          refine g_pop cx rfl e_X3_factor_102 ?_
          exact hret e_X3_factor_103 (Nat.le_of_ble_eq_true rfl) (Nat.le_of_ble_eq_true rfl) ⟨F37, R38, rfl, oF37, oR38, fF37, fR38, (hk39.symm.trans hSP)⟩
        · have p40 := gn_lt (-1) (-1) (gc_nle zc26) py25 (jv_k (x := 0) 0 (by decide)) (by decide)
          have hk41 := hkJ72.trans (if_neg zc26)
          refine g_aload_n cx 1 rfl e_X3_factor_77 ?_
          refine g_iconst cx 1 (by decide) e_X3_factor_78 ?_
          refine g_cVvW cx [.int 1] [] (w_X3_fail l X ad F R hI hA 1) ml_X3_46 yV_X3_fail e_X3_factor_79 (by unfold g_rr; decide) (by decide) 33 rfl rfl rfl (Nat.le_of_ble_eq_true rfl) (fun w43 h44 => ?_)
          obtain ⟨F46, R47, rfl, oF46, oR47, cF46, cR47, hx45⟩ := h44
          have hk48 := k_ls2 hk41 hx45
          have fF46 : g_fr md_X3_factor_c6 F F46 := g_fr_c (g_fr_rf F) cF46 rfl
          have fR47 : g_fr mr_X3_factor_c6 R R47 := g_fr_c (g_fr_rf R) cR47 rfl
          exact hret e_X3_factor_82 (Nat.le_of_ble_eq_true rfl) (Nat.le_of_ble_eq_true rfl) ⟨F46, R47, rfl, oF46, oR47, fF46, fR47, (hk48.symm.trans hSP)⟩
      refine g_icmp_ne cx 62 e_X3_factor_55 (by decide) (fun zc49 => ?_) (fun zc49 => ?_)
      · have hk50 := hk24.trans (if_neg zc49)
        refine g_ldcS1 cx rfl e_X3_factor_62 ?_
        refine g_aload_n cx 0 rfl e_X3_factor_64 ?_
        refine g_cViW cx [] [.ref (X.1.2.2.2.1 1)] (w_X3_sign l X ad F R hI hA) ml_X3_42 yV_X3_sign e_X3_factor_65 (by unfold g_rr; decide) (by decide) 33 rfl rfl rfl (Nat.le_of_ble_eq_true rfl) (fun r51 w52 h53 => ?_)
        obtain ⟨rfl, pr51, hx54⟩ := h53
        have hk55 := k_ls hk50 hx54
        refine g_i2c cx e_X3_factor_68 ?_
        refine g_topi (fun x56 ex56 => ?_)
        have hk57 := k_ls hk55 ex56
        refine g_cVsW cx [.int x56] [] 1 (by decide) rfl (w_J0_indexOf_0f7a4_s1 l X (wX X ad F R) x56) ml_X3_52 yV_J0_indexOf_0f7a4 e_X3_factor_69 (by unfold g_rr; decide) (by decide) rfl (Nat.le_of_ble_eq_true rfl) (fun r58 w59 h60 => ?_)
        obtain ⟨rfl, pr58⟩ := h60
        obtain ⟨pr58, hxr58⟩ := pr58
        have hk61 := k_ls hk57 hxr58
        refine g_lsub [0] [(0, .ref (ad 33))] rfl ?_
        exact J72 r58 pr58 hk61
      · have p62 := gn_eq (-1) (-1) (gc_eq zc49) pr20 (jv_k (x := (-1)) (-1) (by decide)) (by decide)
        have hk63 := hk24.trans (if_pos zc49)
        refine g_iconst cx (-1) (by decide) e_X3_factor_58 ?_
        refine g_goto cx 72 e_X3_factor_59 (by decide) ?_
        refine g_lsub [0] [(0, .ref (ad 33))] rfl ?_
        exact J72 (-1) (jv_w (jv_k (x := (-1)) (-1) (by decide)) (by decide)) hk63
    · have p64 := gn_neL 1 1 (gc_ne zc17) pr13 (jv_k (x := 0) 0 (by decide)) (by decide)
      have p65 := jv_i 48 57 pr8 (gi_in (A := 48) (B := 57) hr13 zc17 (by decide) (by decide)) (by decide)
      have hk66 := hk16.trans (if_neg zc17)
      refine g_aload_n cx 0 rfl e_X3_factor_45 ?_
      refine g_cVvW cx [] [] (w_X3_number l X ad F R hI hA) ml_X3_106 yV_X3_number e_X3_factor_46 (by unfold g_rr; decide) (by decide) 33 rfl rfl rfl (Nat.le_of_ble_eq_true rfl) (fun w68 h69 => ?_)
      obtain ⟨F71, R72, rfl, oF71, oR72, cF71, cR72, hx70⟩ := h69
      have hk73 := k_ls2 hk66 hx70
      have fF71 : g_fr md_X3_factor_c6 F F71 := g_fr_c (g_fr_rf F) cF71 rfl
      have fR72 : g_fr mr_X3_factor_c6 R R72 := g_fr_c (g_fr_rf R) cR72 rfl
      exact hret e_X3_factor_49 (Nat.le_of_ble_eq_true rfl) (Nat.le_of_ble_eq_true rfl) ⟨F71, R72, rfl, oF71, oR72, fF71, fR72, (hk73.symm.trans hSP)⟩
  · have p74 := gn_eq 91 91 (gc_eq zc6) pr1 (jv_k (x := 91) 91 (by decide)) (by decide)
    have hk75 := hk5.trans (if_pos zc6)
    refine g_aload_n cx 0 rfl e_X3_factor_9 ?_
    refine g_iload_n cx 1 rfl e_X3_factor_10 ?_
    refine g_cViW cx [.int 6] [] (w_X3_opens_c6 l X ad F R hI hA) ml_X3_89 yV_X3_opens e_X3_factor_11 (by unfold g_rr; decide) (by decide) 33 rfl rfl rfl (Nat.le_of_ble_eq_true rfl) (fun r76 w77 h78 => ?_)
    obtain ⟨F80, R81, rfl, oF80, oR81, cF80, cR81, pr76, hx79⟩ := h78
    have hk82 := k_ls3 hk75 hx79
    have fF80 : g_fr md_X3_factor_c6 F F80 := g_fr_c (g_fr_rf F) cF80 rfl
    have fR81 : g_fr mr_X3_factor_c6 R R81 := g_fr_c (g_fr_rf R) cR81 rfl
    refine g_if_eq cx 30 e_X3_factor_14 (by decide) (fun zc83 => ?_) (fun zc83 => ?_)
    · exact hret e_X3_factor_30 (Nat.le_of_ble_eq_true rfl) (Nat.le_of_ble_eq_true rfl) ⟨F80, R81, rfl, oF80, oR81, fF80, fR81, (hk82.symm.trans hSP)⟩
    · exact (gf_ne (gc_ne zc83) pr76 (jv_k (x := 0) 0 (by decide)) (by decide)).elim
def K_X3_product_c6_103 (F9 : Nat → Int32) (R10 : Nat → Nat → Int32)  : (Nat → Int32) × (Nat → Nat → Int32) :=
  (F9, R10)
def K_X3_product_c6_71 (b7 : (Nat → Int32) → (Nat → Nat → Int32) → (Int32) → (Nat → Int32) × (Nat → Nat → Int32)) (F9 : Nat → Int32) (R10 : Nat → Nat → Int32) (y8 : Int32) (y26 : Int32) : (Nat → Int32) × (Nat → Nat → Int32) :=
  k_lt ((F9 531) + 1) (fun x27 => k_lt (upd F9 531 x27) (fun F29 => k_lt2 (sp_X3_factor_c6 F29 R10) (fun F35 R36 => k_lt3 (sp_X2_emit_25 F35 R36 y26 0) (fun r38 F42 R43 => k_lt (y8 + 1) (fun x45 => b7 F42 R43 x45)))))
def K_X3_product_c6_41 (b7 : (Nat → Int32) → (Nat → Nat → Int32) → (Int32) → (Nat → Int32) × (Nat → Nat → Int32)) (F9 : Nat → Int32) (R10 : Nat → Nat → Int32) (y8 : Int32)  : (Nat → Int32) × (Nat → Nat → Int32) :=
  k_lt (sp_X3_sign F9 R10) (fun r21 => if r21 = 42 then K_X3_product_c6_71 b7 F9 R10 y8 8 else k_lt (sp_X3_sign F9 R10) (fun r49 => if r49 = 47 then K_X3_product_c6_71 b7 F9 R10 y8 9 else K_X3_product_c6_71 b7 F9 R10 y8 10))
def KB_X3_product_c6_7 (b7 : (Nat → Int32) → (Nat → Nat → Int32) → (Int32) → (Nat → Int32) × (Nat → Nat → Int32))  (F9 : Nat → Int32) (R10 : Nat → Nat → Int32) (y8 : Int32) : (Nat → Int32) × (Nat → Nat → Int32) :=
  if 200 ≤ y8 then K_X3_product_c6_103 F9 R10 else k_lt (sp_X3_sign F9 R10) (fun r16 => if r16 = 42 then K_X3_product_c6_41 b7 F9 R10 y8 else k_lt (sp_X3_sign F9 R10) (fun r64 => if r64 = 47 then K_X3_product_c6_41 b7 F9 R10 y8 else k_lt (sp_X3_sign F9 R10) (fun r73 => if r73 = 37 then K_X3_product_c6_41 b7 F9 R10 y8 else K_X3_product_c6_103 F9 R10)))
def K_X3_product_c6_7  : Nat → (Nat → Int32) → (Nat → Nat → Int32) → (Int32) → (Nat → Int32) × (Nat → Nat → Int32)
  | 0 => fun F9 R10 _ => (F9, R10)
  | n + 1 => KB_X3_product_c6_7 (K_X3_product_c6_7 n)
def sp_X3_product_c6 (F : Nat → Int32) (R : Nat → Nat → Int32) : (Nat → Int32) × (Nat → Nat → Int32) :=
  k_lt2 (sp_X3_factor_c6 F R) (fun F5 R6 => K_X3_product_c6_7 8589934592 F5 R6 0)
theorem e_X3_product_0 : g_dc cX3_product 0 (.aload_n 0) 1 1 := ⟨by decide +kernel, rfl⟩
theorem e_X3_product_1 : g_dc cX3_product 1 (.iload_n 1) 1 2 := ⟨by decide +kernel, rfl⟩
theorem e_X3_product_2 : g_dc cX3_product 2 (.invokevirtual 99) 3 5 := ⟨by decide +kernel, rfl⟩
theorem e_X3_product_5 : g_dc cX3_product 5 (.iconst 0) 1 6 := ⟨by decide +kernel, rfl⟩
theorem e_X3_product_6 : g_dc cX3_product 6 (.istore_n 2) 1 7 := ⟨by decide +kernel, rfl⟩
theorem e_X3_product_7 : g_dc cX3_product 7 (.iload_n 2) 1 8 := ⟨by decide +kernel, rfl⟩
theorem e_X3_product_8 : g_dc cX3_product 8 (.sipush 200) 3 11 := ⟨by decide +kernel, rfl⟩
theorem e_X3_product_11 : g_dc cX3_product 11 (.if_icmp .ge 92) 3 14 := ⟨by decide +kernel, rfl⟩
theorem e_X3_product_14 : g_dc cX3_product 14 (.aload_n 0) 1 15 := ⟨by decide +kernel, rfl⟩
theorem e_X3_product_15 : g_dc cX3_product 15 (.invokevirtual 42) 3 18 := ⟨by decide +kernel, rfl⟩
theorem e_X3_product_18 : g_dc cX3_product 18 (.bipush 42) 2 20 := ⟨by decide +kernel, rfl⟩
theorem e_X3_product_20 : g_dc cX3_product 20 (.if_icmp .eq 21) 3 23 := ⟨by decide +kernel, rfl⟩
theorem e_X3_product_23 : g_dc cX3_product 23 (.aload_n 0) 1 24 := ⟨by decide +kernel, rfl⟩
theorem e_X3_product_24 : g_dc cX3_product 24 (.invokevirtual 42) 3 27 := ⟨by decide +kernel, rfl⟩
theorem e_X3_product_27 : g_dc cX3_product 27 (.bipush 47) 2 29 := ⟨by decide +kernel, rfl⟩
theorem e_X3_product_29 : g_dc cX3_product 29 (.if_icmp .eq 12) 3 32 := ⟨by decide +kernel, rfl⟩
theorem e_X3_product_32 : g_dc cX3_product 32 (.aload_n 0) 1 33 := ⟨by decide +kernel, rfl⟩
theorem e_X3_product_33 : g_dc cX3_product 33 (.invokevirtual 42) 3 36 := ⟨by decide +kernel, rfl⟩
theorem e_X3_product_36 : g_dc cX3_product 36 (.bipush 37) 2 38 := ⟨by decide +kernel, rfl⟩
theorem e_X3_product_38 : g_dc cX3_product 38 (.if_icmp .ne 65) 3 41 := ⟨by decide +kernel, rfl⟩
theorem e_X3_product_41 : g_dc cX3_product 41 (.aload_n 0) 1 42 := ⟨by decide +kernel, rfl⟩
theorem e_X3_product_42 : g_dc cX3_product 42 (.invokevirtual 42) 3 45 := ⟨by decide +kernel, rfl⟩
theorem e_X3_product_45 : g_dc cX3_product 45 (.bipush 42) 2 47 := ⟨by decide +kernel, rfl⟩
theorem e_X3_product_47 : g_dc cX3_product 47 (.if_icmp .ne 8) 3 50 := ⟨by decide +kernel, rfl⟩
theorem e_X3_product_50 : g_dc cX3_product 50 (.bipush 8) 2 52 := ⟨by decide +kernel, rfl⟩
theorem e_X3_product_52 : g_dc cX3_product 52 (.goto 19) 3 55 := ⟨by decide +kernel, rfl⟩
theorem e_X3_product_55 : g_dc cX3_product 55 (.aload_n 0) 1 56 := ⟨by decide +kernel, rfl⟩
theorem e_X3_product_56 : g_dc cX3_product 56 (.invokevirtual 42) 3 59 := ⟨by decide +kernel, rfl⟩
theorem e_X3_product_59 : g_dc cX3_product 59 (.bipush 47) 2 61 := ⟨by decide +kernel, rfl⟩
theorem e_X3_product_61 : g_dc cX3_product 61 (.if_icmp .ne 8) 3 64 := ⟨by decide +kernel, rfl⟩
theorem e_X3_product_64 : g_dc cX3_product 64 (.bipush 9) 2 66 := ⟨by decide +kernel, rfl⟩
theorem e_X3_product_66 : g_dc cX3_product 66 (.goto 5) 3 69 := ⟨by decide +kernel, rfl⟩
theorem e_X3_product_69 : g_dc cX3_product 69 (.bipush 10) 2 71 := ⟨by decide +kernel, rfl⟩
theorem e_X3_product_71 : g_dc cX3_product 71 (.istore_n 3) 1 72 := ⟨by decide +kernel, rfl⟩
theorem e_X3_product_72 : g_dc cX3_product 72 (.aload_n 0) 1 73 := ⟨by decide +kernel, rfl⟩
theorem e_X3_product_73 : g_dc cX3_product 73 (.dup) 1 74 := ⟨by decide +kernel, rfl⟩
theorem e_X3_product_74 : g_dc cX3_product 74 (.getfield 19) 3 77 := ⟨by decide +kernel, rfl⟩
theorem e_X3_product_77 : g_dc cX3_product 77 (.iconst 1) 1 78 := ⟨by decide +kernel, rfl⟩
theorem e_X3_product_78 : g_dc cX3_product 78 (.iadd) 1 79 := ⟨by decide +kernel, rfl⟩
theorem e_X3_product_79 : g_dc cX3_product 79 (.putfield 19) 3 82 := ⟨by decide +kernel, rfl⟩
theorem e_X3_product_82 : g_dc cX3_product 82 (.aload_n 0) 1 83 := ⟨by decide +kernel, rfl⟩
theorem e_X3_product_83 : g_dc cX3_product 83 (.iload_n 1) 1 84 := ⟨by decide +kernel, rfl⟩
theorem e_X3_product_84 : g_dc cX3_product 84 (.invokevirtual 99) 3 87 := ⟨by decide +kernel, rfl⟩
theorem e_X3_product_87 : g_dc cX3_product 87 (.aload_n 0) 1 88 := ⟨by decide +kernel, rfl⟩
theorem e_X3_product_88 : g_dc cX3_product 88 (.getfield 25) 3 91 := ⟨by decide +kernel, rfl⟩
theorem e_X3_product_91 : g_dc cX3_product 91 (.iload_n 3) 1 92 := ⟨by decide +kernel, rfl⟩
theorem e_X3_product_92 : g_dc cX3_product 92 (.iconst 0) 1 93 := ⟨by decide +kernel, rfl⟩
theorem e_X3_product_93 : g_dc cX3_product 93 (.invokevirtual 66) 3 96 := ⟨by decide +kernel, rfl⟩
theorem e_X3_product_96 : g_dc cX3_product 96 (.pop) 1 97 := ⟨by decide +kernel, rfl⟩
theorem e_X3_product_97 : g_dc cX3_product 97 (.iinc 2 1) 3 100 := ⟨by decide +kernel, rfl⟩
theorem e_X3_product_100 : g_dc cX3_product 100 (.goto (-93)) 3 103 := ⟨by decide +kernel, rfl⟩
theorem e_X3_product_103 : g_dc cX3_product 103 (.return_) 1 104 := ⟨by decide +kernel, rfl⟩
def md_X3_product_c6 : List Nat := [402, 531, 532]
def mr_X3_product_c6 : List Nat := [26, 27]
set_option maxHeartbeats 4000000 in
set_option maxRecDepth 100000 in
theorem w_X3_product_c6 (l : Launch) (X : gX) (ad : Nat → Nat) (F : Nat → Int32) (R : Nat → Nat → Int32) (hI : g_ok LK_wX F) (hA : g_okR LA_wX R) : g_Cv l X yX3_product cX3_product 4 6 0 0 [.ref (ad 33), .int 6] (wX X ad F R) (fun w => ∃ (F' : Nat → Int32) (R' : Nat → Nat → Int32), w = wX X ad F' R' ∧ g_ok LK_wX F' ∧ g_okR LA_wX R' ∧ g_fr md_X3_product_c6 F F' ∧ g_fr mr_X3_product_c6 R R' ∧ (F', R') = sp_X3_product_c6 F R) := by
  refine g_mv (by decide +kernel) (Nat.le_of_ble_eq_true rfl) (fun E cx hret => ?_)
  obtain ⟨SP, hSP⟩ : ∃ z, z = sp_X3_product_c6 F R := ⟨_, rfl⟩
  have hk0 := hSP
  unfold sp_X3_product_c6 at hk0
  refine g_aload_n cx 0 rfl e_X3_product_0 ?_
  refine g_iload_n cx 1 rfl e_X3_product_1 ?_
  refine g_cVvW cx [.int 6] [] (w_X3_factor_c6 l X ad F R hI hA) ml_X3_99 yV_X3_factor e_X3_product_2 (by unfold g_rr; decide) (by decide) 33 rfl rfl rfl (Nat.le_of_ble_eq_true rfl) (fun w2 h3 => ?_)
  obtain ⟨F5, R6, rfl, oF5, oR6, cF5, cR6, hx4⟩ := h3
  have hk7 := k_ls2 hk0 hx4
  have fF5 : g_fr md_X3_product_c6 F F5 := g_fr_c (g_fr_rf F) cF5 rfl
  have fR6 : g_fr mr_X3_product_c6 R R6 := g_fr_c (g_fr_rf R) cR6 rfl
  refine g_iconst cx 0 (by decide) e_X3_product_5 ?_
  refine g_istore_n cx [(2, .int 0), (0, .ref (ad 33)), (1, .int 6)] e_X3_product_6 (by decide) rfl ?_
  have J7 : ∀ (N : Nat) (F9 : Nat → Int32) (R10 : Nat → Nat → Int32) (y8 : Int32), (g_ok LK_wX F9) → (g_fr md_X3_product_c6 F F9) → (g_okR LA_wX R10) → (g_fr mr_X3_product_c6 R R10) → (jv 0 200 y8) → (SP = K_X3_product_c6_7 N F9 R10 y8) → (2147483647 - y8.toInt).toNat < N → G X E 4 0 0 (wX X ad F9 R10) [(0, .ref (ad 33)), (1, .int 6), (2, .int y8)] 7 [] := by
    intro N
    induction N with
    | zero => intro F9 R10 y8 oF9 fF9 oR10 fR10 py8 hkJ7 hm; exact absurd hm (Nat.not_lt_zero _)
    | succ N ih7 =>
      intro F9 R10 y8 oF9 fF9 oR10 fR10 py8 hkJ7 hm7
      have hkK7 : SP = KB_X3_product_c6_7 (K_X3_product_c6_7 N) F9 R10 y8 := hkJ7
      obtain ⟨b7, hb7⟩ : ∃ z, z = K_X3_product_c6_7 N := ⟨_, rfl⟩
      rw [← hb7] at hkK7
      unfold KB_X3_product_c6_7 at hkK7
      refine g_iload_n cx 2 rfl e_X3_product_7 ?_
      refine g_sipush cx 200 (by decide) e_X3_product_8 ?_
      have J103 : (SP = K_X3_product_c6_103 F9 R10) → G X E 4 0 0 (wX X ad F9 R10) [] 103 [] := by
        intro   hkJ103
        unfold K_X3_product_c6_103 at hkJ103
        exact hret e_X3_product_103 (Nat.le_of_ble_eq_true rfl) (Nat.le_of_ble_eq_true rfl) ⟨F9, R10, rfl, oF9, oR10, fF9, fR10, (hkJ103.symm.trans hSP)⟩
      refine g_icmp_ge cx 103 e_X3_product_11 (by decide) (fun zc11 => ?_) (fun zc11 => ?_)
      · have p12 := gn_ge 200 200 (gc_le zc11) py8 (jv_k (x := 200) 200 (by decide)) (by decide)
        have hk13 := hkK7.trans (if_pos zc11)
        refine g_lsub [] [] rfl ?_
        exact J103  hk13
      · have p14 := gn_lt 0 199 (gc_nle zc11) py8 (jv_k (x := 200) 200 (by decide)) (by decide)
        have hk15 := hkK7.trans (if_neg zc11)
        refine g_aload_n cx 0 rfl e_X3_product_14 ?_
        refine g_cViW cx [] [] (w_X3_sign l X ad F9 R10 oF9 oR10) ml_X3_42 yV_X3_sign e_X3_product_15 (by unfold g_rr; decide) (by decide) 33 rfl rfl rfl (Nat.le_of_ble_eq_true rfl) (fun r16 w17 h18 => ?_)
        obtain ⟨rfl, pr16, hx19⟩ := h18
        have hk20 := k_ls hk15 hx19
        refine g_bipush cx 42 (by decide) e_X3_product_18 ?_
        have J41 : (SP = K_X3_product_c6_41 b7 F9 R10 y8) → G X E 4 0 0 (wX X ad F9 R10) [(0, .ref (ad 33)), (1, .int 6), (2, .int y8)] 41 [] := by
          intro   hkJ41
          unfold K_X3_product_c6_41 at hkJ41
          refine g_aload_n cx 0 rfl e_X3_product_41 ?_
          refine g_cViW cx [] [] (w_X3_sign l X ad F9 R10 oF9 oR10) ml_X3_42 yV_X3_sign e_X3_product_42 (by unfold g_rr; decide) (by decide) 33 rfl rfl rfl (Nat.le_of_ble_eq_true rfl) (fun r21 w22 h23 => ?_)
          obtain ⟨rfl, pr21, hx24⟩ := h23
          have hk25 := k_ls hkJ41 hx24
          refine g_bipush cx 42 (by decide) e_X3_product_45 ?_
          have J71 : ∀ (y26 : Int32), (jv 8 10 y26) → (SP = K_X3_product_c6_71 b7 F9 R10 y8 y26) → G X E 4 0 0 (wX X ad F9 R10) [(0, .ref (ad 33)), (1, .int 6), (2, .int y8)] 71 [.int y26] := by
            intro y26 py26 hkJ71
            unfold K_X3_product_c6_71 at hkJ71
            refine g_istore_n cx [(3, .int y26), (0, .ref (ad 33)), (1, .int 6), (2, .int y8)] e_X3_product_71 (by decide) rfl ?_
            refine g_aload_n cx 1 rfl e_X3_product_72 ?_
            refine g_dup cx rfl e_X3_product_73 ?_
            refine g_get cx cl_X3 fl_X3_19 33 (.int (F9 531)) e_X3_product_74 rfl rfl ?_
            refine g_iconst cx 1 (by decide) e_X3_product_77 ?_
            refine g_iadd cx e_X3_product_78 ?_
            refine g_topi (fun x27 ex27 => ?_)
            have hk28 := k_ls hkJ71 ex27
            refine g_put cx cl_X3 fl_X3_19 33 (wX X ad (upd F9 531 x27) R10) e_X3_product_79 rfl rfl rfl rfl (Nat.le_of_ble_eq_true rfl) rfl ?_
            obtain ⟨F29, hF29⟩ : ∃ z, z = upd F9 531 x27 := ⟨_, rfl⟩
            rw [← hF29]
            have hk30 := k_ls hk28 hF29
            have oF29 : g_ok LK_wX F29 := by rw [hF29]; exact g_ok_u oF9 rfl
            have fF29 : g_fr md_X3_product_c6 F F29 := by rw [hF29]; exact g_fr_u fF9 rfl
            refine g_aload_n cx 1 rfl e_X3_product_82 ?_
            refine g_iload_n cx 2 rfl e_X3_product_83 ?_
            refine g_cVvW cx [.int 6] [] (w_X3_factor_c6 l X ad F29 R10 oF29 oR10) ml_X3_99 yV_X3_factor e_X3_product_84 (by unfold g_rr; decide) (by decide) 33 rfl rfl rfl (Nat.le_of_ble_eq_true rfl) (fun w32 h33 => ?_)
            obtain ⟨F35, R36, rfl, oF35, oR36, cF35, cR36, hx34⟩ := h33
            have hk37 := k_ls2 hk30 hx34
            have fF35 : g_fr md_X3_product_c6 F F35 := g_fr_c fF29 cF35 rfl
            have fR36 : g_fr mr_X3_product_c6 R R36 := g_fr_c fR10 cR36 rfl
            refine g_aload_n cx 1 rfl e_X3_product_87 ?_
            refine g_get cx cl_X3 fl_X3_25 33 (.ref (ad 25)) e_X3_product_88 rfl rfl ?_
            refine g_iload_n cx 0 rfl e_X3_product_91 ?_
            refine g_iconst cx 0 (by decide) e_X3_product_92 ?_
            refine g_cViW cx [.int y26, .int 0] [] (w_X2_emit_25 l X ad F35 R36 oF35 oR36 y26 0) ml_X3_66 yV_X2_emit e_X3_product_93 (by unfold g_rr; decide) (by decide) 25 rfl rfl rfl (Nat.le_of_ble_eq_true rfl) (fun r38 w39 h40 => ?_)
            obtain ⟨F42, R43, rfl, oF42, oR43, cF42, cR43, pr38, hx41⟩ := h40
            have hk44 := k_ls3 hk37 hx41
            have fF42 : g_fr md_X3_product_c6 F F42 := g_fr_c fF35 cF42 rfl
            have fR43 : g_fr mr_X3_product_c6 R R43 := g_fr_c fR36 cR43 rfl
            refine g_pop cx rfl e_X3_product_96 ?_
            obtain ⟨x45, ex45⟩ : ∃ z : Int32, z = y8 + Int32.ofInt 1 := ⟨_, rfl⟩
            have hk46 := k_ls hk44 (show x45 = y8 + 1 from ex45)
            refine g_iinc cx x45 [(2, .int x45), (3, .int y26), (0, .ref (ad 33)), (1, .int 6)] 3 e_X3_product_97 rfl ex45.symm (by decide) rfl ?_
            have zx45 := jv_add 1 200 (show x45 = y8 + 1 from ex45) p14 (jv_k (x := 1) 1 (by decide)) (by decide)
            refine g_goto cx 7 e_X3_product_100 (by decide) ?_
            refine g_lsub [2, 3, 0] [(0, .ref (ad 33)), (1, .int 6), (2, .int x45)] rfl ?_
            exact ih7 F42 R43 x45 oF42 fF42 oR43 fR43 (jv_w zx45.2 (by decide)) (hk46.trans (by rw [hb7])) (Nat.lt_of_lt_of_le (show (2147483647 - x45.toInt).toNat < (2147483647 - y8.toInt).toNat from by have q0 := (jv_k (x := 1) 1 (by decide)).1; have q1 := (jv_k (x := 1) 1 (by decide)).2; have q2 := (jv_k (x := 200) 200 (by decide)).1; have q3 := (jv_k (x := 200) 200 (by decide)).2; have q4 := zx45.2.1; have q5 := zx45.2.2; have q6 := p14.1; have q7 := p14.2; have q8 := (gc_nle zc11); have q9 := (g_eq0 zx45.1); omega) (Nat.le_of_lt_succ hm7))
          refine g_icmp_ne cx 55 e_X3_product_47 (by decide) (fun zc47 => ?_) (fun zc47 => ?_)
          · have hk48 := hk25.trans (if_neg zc47)
            refine g_aload_n cx 0 rfl e_X3_product_55 ?_
            refine g_cViW cx [] [] (w_X3_sign l X ad F9 R10 oF9 oR10) ml_X3_42 yV_X3_sign e_X3_product_56 (by unfold g_rr; decide) (by decide) 33 rfl rfl rfl (Nat.le_of_ble_eq_true rfl) (fun r49 w50 h51 => ?_)
            obtain ⟨rfl, pr49, hx52⟩ := h51
            have hk53 := k_ls hk48 hx52
            refine g_bipush cx 47 (by decide) e_X3_product_59 ?_
            refine g_icmp_ne cx 69 e_X3_product_61 (by decide) (fun zc54 => ?_) (fun zc54 => ?_)
            · have hk55 := hk53.trans (if_neg zc54)
              refine g_bipush cx 10 (by decide) e_X3_product_69 ?_
              exact J71 10 (jv_w (jv_k (x := 10) 10 (by decide)) (by decide)) hk55
            · have p56 := gn_eq 47 47 (gc_eq zc54) pr49 (jv_k (x := 47) 47 (by decide)) (by decide)
              have hk57 := hk53.trans (if_pos zc54)
              refine g_bipush cx 9 (by decide) e_X3_product_64 ?_
              refine g_goto cx 71 e_X3_product_66 (by decide) ?_
              exact J71 9 (jv_w (jv_k (x := 9) 9 (by decide)) (by decide)) hk57
          · have p58 := gn_eq 42 42 (gc_eq zc47) pr21 (jv_k (x := 42) 42 (by decide)) (by decide)
            have hk59 := hk25.trans (if_pos zc47)
            refine g_bipush cx 8 (by decide) e_X3_product_50 ?_
            refine g_goto cx 71 e_X3_product_52 (by decide) ?_
            exact J71 8 (jv_w (jv_k (x := 8) 8 (by decide)) (by decide)) hk59
        refine g_icmp_eq cx 41 e_X3_product_20 (by decide) (fun zc60 => ?_) (fun zc60 => ?_)
        · have p61 := gn_eq 42 42 (gc_eq zc60) pr16 (jv_k (x := 42) 42 (by decide)) (by decide)
          have hk62 := hk20.trans (if_pos zc60)
          exact J41  hk62
        · have hk63 := hk20.trans (if_neg zc60)
          refine g_aload_n cx 0 rfl e_X3_product_23 ?_
          refine g_cViW cx [] [] (w_X3_sign l X ad F9 R10 oF9 oR10) ml_X3_42 yV_X3_sign e_X3_product_24 (by unfold g_rr; decide) (by decide) 33 rfl rfl rfl (Nat.le_of_ble_eq_true rfl) (fun r64 w65 h66 => ?_)
          obtain ⟨rfl, pr64, hx67⟩ := h66
          have hk68 := k_ls hk63 hx67
          refine g_bipush cx 47 (by decide) e_X3_product_27 ?_
          refine g_icmp_eq cx 41 e_X3_product_29 (by decide) (fun zc69 => ?_) (fun zc69 => ?_)
          · have p70 := gn_eq 47 47 (gc_eq zc69) pr64 (jv_k (x := 47) 47 (by decide)) (by decide)
            have hk71 := hk68.trans (if_pos zc69)
            exact J41  hk71
          · have hk72 := hk68.trans (if_neg zc69)
            refine g_aload_n cx 0 rfl e_X3_product_32 ?_
            refine g_cViW cx [] [] (w_X3_sign l X ad F9 R10 oF9 oR10) ml_X3_42 yV_X3_sign e_X3_product_33 (by unfold g_rr; decide) (by decide) 33 rfl rfl rfl (Nat.le_of_ble_eq_true rfl) (fun r73 w74 h75 => ?_)
            obtain ⟨rfl, pr73, hx76⟩ := h75
            have hk77 := k_ls hk72 hx76
            refine g_bipush cx 37 (by decide) e_X3_product_36 ?_
            refine g_icmp_ne cx 103 e_X3_product_38 (by decide) (fun zc78 => ?_) (fun zc78 => ?_)
            · have hk79 := hk77.trans (if_neg zc78)
              refine g_lsub [] [] rfl ?_
              exact J103  hk79
            · have p80 := gn_eq 37 37 (gc_eq zc78) pr73 (jv_k (x := 37) 37 (by decide)) (by decide)
              have hk81 := hk77.trans (if_pos zc78)
              exact J41  hk81
  refine g_lsub [1, 2, 0] [(0, .ref (ad 33)), (1, .int 6), (2, .int 0)] rfl ?_
  exact J7 8589934592 F5 R6 0 oF5 fF5 oR6 fR6 (jv_w (jv_k (x := 0) 0 (by decide)) (by decide)) hk7 (show (2147483647 - (0 : Int32).toInt).toNat < 8589934592 from by have q0 := (jv_k (x := 0) 0 (by decide)).1; have q1 := (jv_k (x := 0) 0 (by decide)).2; omega)
def K_X3_sum_c6_80 (F9 : Nat → Int32) (R10 : Nat → Nat → Int32)  : (Nat → Int32) × (Nat → Nat → Int32) :=
  (F9, R10)
def K_X3_sum_c6_48 (b7 : (Nat → Int32) → (Nat → Nat → Int32) → (Int32) → (Nat → Int32) × (Nat → Nat → Int32)) (F9 : Nat → Int32) (R10 : Nat → Nat → Int32) (y8 : Int32) (y26 : Int32) : (Nat → Int32) × (Nat → Nat → Int32) :=
  k_lt ((F9 531) + 1) (fun x27 => k_lt (upd F9 531 x27) (fun F29 => k_lt2 (sp_X3_product_c6 F29 R10) (fun F35 R36 => k_lt3 (sp_X2_emit_25 F35 R36 y26 0) (fun r38 F42 R43 => k_lt (y8 + 1) (fun x45 => b7 F42 R43 x45)))))
def K_X3_sum_c6_32 (b7 : (Nat → Int32) → (Nat → Nat → Int32) → (Int32) → (Nat → Int32) × (Nat → Nat → Int32)) (F9 : Nat → Int32) (R10 : Nat → Nat → Int32) (y8 : Int32)  : (Nat → Int32) × (Nat → Nat → Int32) :=
  k_lt (sp_X3_sign F9 R10) (fun r21 => if r21 = 43 then K_X3_sum_c6_48 b7 F9 R10 y8 6 else K_X3_sum_c6_48 b7 F9 R10 y8 7)
def KB_X3_sum_c6_7 (b7 : (Nat → Int32) → (Nat → Nat → Int32) → (Int32) → (Nat → Int32) × (Nat → Nat → Int32))  (F9 : Nat → Int32) (R10 : Nat → Nat → Int32) (y8 : Int32) : (Nat → Int32) × (Nat → Nat → Int32) :=
  if 200 ≤ y8 then K_X3_sum_c6_80 F9 R10 else k_lt (sp_X3_sign F9 R10) (fun r16 => if r16 = 43 then K_X3_sum_c6_32 b7 F9 R10 y8 else k_lt (sp_X3_sign F9 R10) (fun r55 => if r55 = 45 then K_X3_sum_c6_32 b7 F9 R10 y8 else K_X3_sum_c6_80 F9 R10))
def K_X3_sum_c6_7  : Nat → (Nat → Int32) → (Nat → Nat → Int32) → (Int32) → (Nat → Int32) × (Nat → Nat → Int32)
  | 0 => fun F9 R10 _ => (F9, R10)
  | n + 1 => KB_X3_sum_c6_7 (K_X3_sum_c6_7 n)
def sp_X3_sum_c6 (F : Nat → Int32) (R : Nat → Nat → Int32) : (Nat → Int32) × (Nat → Nat → Int32) :=
  k_lt2 (sp_X3_product_c6 F R) (fun F5 R6 => K_X3_sum_c6_7 8589934592 F5 R6 0)
theorem e_X3_sum_0 : g_dc cX3_sum 0 (.aload_n 0) 1 1 := ⟨by decide +kernel, rfl⟩
theorem e_X3_sum_1 : g_dc cX3_sum 1 (.iload_n 1) 1 2 := ⟨by decide +kernel, rfl⟩
theorem e_X3_sum_2 : g_dc cX3_sum 2 (.invokevirtual 96) 3 5 := ⟨by decide +kernel, rfl⟩
theorem e_X3_sum_5 : g_dc cX3_sum 5 (.iconst 0) 1 6 := ⟨by decide +kernel, rfl⟩
theorem e_X3_sum_6 : g_dc cX3_sum 6 (.istore_n 2) 1 7 := ⟨by decide +kernel, rfl⟩
theorem e_X3_sum_7 : g_dc cX3_sum 7 (.iload_n 2) 1 8 := ⟨by decide +kernel, rfl⟩
theorem e_X3_sum_8 : g_dc cX3_sum 8 (.sipush 200) 3 11 := ⟨by decide +kernel, rfl⟩
theorem e_X3_sum_11 : g_dc cX3_sum 11 (.if_icmp .ge 69) 3 14 := ⟨by decide +kernel, rfl⟩
theorem e_X3_sum_14 : g_dc cX3_sum 14 (.aload_n 0) 1 15 := ⟨by decide +kernel, rfl⟩
theorem e_X3_sum_15 : g_dc cX3_sum 15 (.invokevirtual 42) 3 18 := ⟨by decide +kernel, rfl⟩
theorem e_X3_sum_18 : g_dc cX3_sum 18 (.bipush 43) 2 20 := ⟨by decide +kernel, rfl⟩
theorem e_X3_sum_20 : g_dc cX3_sum 20 (.if_icmp .eq 12) 3 23 := ⟨by decide +kernel, rfl⟩
theorem e_X3_sum_23 : g_dc cX3_sum 23 (.aload_n 0) 1 24 := ⟨by decide +kernel, rfl⟩
theorem e_X3_sum_24 : g_dc cX3_sum 24 (.invokevirtual 42) 3 27 := ⟨by decide +kernel, rfl⟩
theorem e_X3_sum_27 : g_dc cX3_sum 27 (.bipush 45) 2 29 := ⟨by decide +kernel, rfl⟩
theorem e_X3_sum_29 : g_dc cX3_sum 29 (.if_icmp .ne 51) 3 32 := ⟨by decide +kernel, rfl⟩
theorem e_X3_sum_32 : g_dc cX3_sum 32 (.aload_n 0) 1 33 := ⟨by decide +kernel, rfl⟩
theorem e_X3_sum_33 : g_dc cX3_sum 33 (.invokevirtual 42) 3 36 := ⟨by decide +kernel, rfl⟩
theorem e_X3_sum_36 : g_dc cX3_sum 36 (.bipush 43) 2 38 := ⟨by decide +kernel, rfl⟩
theorem e_X3_sum_38 : g_dc cX3_sum 38 (.if_icmp .ne 8) 3 41 := ⟨by decide +kernel, rfl⟩
theorem e_X3_sum_41 : g_dc cX3_sum 41 (.bipush 6) 2 43 := ⟨by decide +kernel, rfl⟩
theorem e_X3_sum_43 : g_dc cX3_sum 43 (.goto 5) 3 46 := ⟨by decide +kernel, rfl⟩
theorem e_X3_sum_46 : g_dc cX3_sum 46 (.bipush 7) 2 48 := ⟨by decide +kernel, rfl⟩
theorem e_X3_sum_48 : g_dc cX3_sum 48 (.istore_n 3) 1 49 := ⟨by decide +kernel, rfl⟩
theorem e_X3_sum_49 : g_dc cX3_sum 49 (.aload_n 0) 1 50 := ⟨by decide +kernel, rfl⟩
theorem e_X3_sum_50 : g_dc cX3_sum 50 (.dup) 1 51 := ⟨by decide +kernel, rfl⟩
theorem e_X3_sum_51 : g_dc cX3_sum 51 (.getfield 19) 3 54 := ⟨by decide +kernel, rfl⟩
theorem e_X3_sum_54 : g_dc cX3_sum 54 (.iconst 1) 1 55 := ⟨by decide +kernel, rfl⟩
theorem e_X3_sum_55 : g_dc cX3_sum 55 (.iadd) 1 56 := ⟨by decide +kernel, rfl⟩
theorem e_X3_sum_56 : g_dc cX3_sum 56 (.putfield 19) 3 59 := ⟨by decide +kernel, rfl⟩
theorem e_X3_sum_59 : g_dc cX3_sum 59 (.aload_n 0) 1 60 := ⟨by decide +kernel, rfl⟩
theorem e_X3_sum_60 : g_dc cX3_sum 60 (.iload_n 1) 1 61 := ⟨by decide +kernel, rfl⟩
theorem e_X3_sum_61 : g_dc cX3_sum 61 (.invokevirtual 96) 3 64 := ⟨by decide +kernel, rfl⟩
theorem e_X3_sum_64 : g_dc cX3_sum 64 (.aload_n 0) 1 65 := ⟨by decide +kernel, rfl⟩
theorem e_X3_sum_65 : g_dc cX3_sum 65 (.getfield 25) 3 68 := ⟨by decide +kernel, rfl⟩
theorem e_X3_sum_68 : g_dc cX3_sum 68 (.iload_n 3) 1 69 := ⟨by decide +kernel, rfl⟩
theorem e_X3_sum_69 : g_dc cX3_sum 69 (.iconst 0) 1 70 := ⟨by decide +kernel, rfl⟩
theorem e_X3_sum_70 : g_dc cX3_sum 70 (.invokevirtual 66) 3 73 := ⟨by decide +kernel, rfl⟩
theorem e_X3_sum_73 : g_dc cX3_sum 73 (.pop) 1 74 := ⟨by decide +kernel, rfl⟩
theorem e_X3_sum_74 : g_dc cX3_sum 74 (.iinc 2 1) 3 77 := ⟨by decide +kernel, rfl⟩
theorem e_X3_sum_77 : g_dc cX3_sum 77 (.goto (-70)) 3 80 := ⟨by decide +kernel, rfl⟩
theorem e_X3_sum_80 : g_dc cX3_sum 80 (.return_) 1 81 := ⟨by decide +kernel, rfl⟩
def md_X3_sum_c6 : List Nat := [402, 531, 532]
def mr_X3_sum_c6 : List Nat := [26, 27]
set_option maxHeartbeats 4000000 in
set_option maxRecDepth 100000 in
theorem w_X3_sum_c6 (l : Launch) (X : gX) (ad : Nat → Nat) (F : Nat → Int32) (R : Nat → Nat → Int32) (hI : g_ok LK_wX F) (hA : g_okR LA_wX R) : g_Cv l X yX3_sum cX3_sum 4 7 0 0 [.ref (ad 33), .int 6] (wX X ad F R) (fun w => ∃ (F' : Nat → Int32) (R' : Nat → Nat → Int32), w = wX X ad F' R' ∧ g_ok LK_wX F' ∧ g_okR LA_wX R' ∧ g_fr md_X3_sum_c6 F F' ∧ g_fr mr_X3_sum_c6 R R' ∧ (F', R') = sp_X3_sum_c6 F R) := by
  refine g_mv (by decide +kernel) (Nat.le_of_ble_eq_true rfl) (fun E cx hret => ?_)
  obtain ⟨SP, hSP⟩ : ∃ z, z = sp_X3_sum_c6 F R := ⟨_, rfl⟩
  have hk0 := hSP
  unfold sp_X3_sum_c6 at hk0
  refine g_aload_n cx 0 rfl e_X3_sum_0 ?_
  refine g_iload_n cx 1 rfl e_X3_sum_1 ?_
  refine g_cVvW cx [.int 6] [] (w_X3_product_c6 l X ad F R hI hA) ml_X3_96 yV_X3_product e_X3_sum_2 (by unfold g_rr; decide) (by decide) 33 rfl rfl rfl (Nat.le_of_ble_eq_true rfl) (fun w2 h3 => ?_)
  obtain ⟨F5, R6, rfl, oF5, oR6, cF5, cR6, hx4⟩ := h3
  have hk7 := k_ls2 hk0 hx4
  have fF5 : g_fr md_X3_sum_c6 F F5 := g_fr_c (g_fr_rf F) cF5 rfl
  have fR6 : g_fr mr_X3_sum_c6 R R6 := g_fr_c (g_fr_rf R) cR6 rfl
  refine g_iconst cx 0 (by decide) e_X3_sum_5 ?_
  refine g_istore_n cx [(2, .int 0), (0, .ref (ad 33)), (1, .int 6)] e_X3_sum_6 (by decide) rfl ?_
  have J7 : ∀ (N : Nat) (F9 : Nat → Int32) (R10 : Nat → Nat → Int32) (y8 : Int32), (g_ok LK_wX F9) → (g_fr md_X3_sum_c6 F F9) → (g_okR LA_wX R10) → (g_fr mr_X3_sum_c6 R R10) → (jv 0 200 y8) → (SP = K_X3_sum_c6_7 N F9 R10 y8) → (2147483647 - y8.toInt).toNat < N → G X E 4 0 0 (wX X ad F9 R10) [(0, .ref (ad 33)), (1, .int 6), (2, .int y8)] 7 [] := by
    intro N
    induction N with
    | zero => intro F9 R10 y8 oF9 fF9 oR10 fR10 py8 hkJ7 hm; exact absurd hm (Nat.not_lt_zero _)
    | succ N ih7 =>
      intro F9 R10 y8 oF9 fF9 oR10 fR10 py8 hkJ7 hm7
      have hkK7 : SP = KB_X3_sum_c6_7 (K_X3_sum_c6_7 N) F9 R10 y8 := hkJ7
      obtain ⟨b7, hb7⟩ : ∃ z, z = K_X3_sum_c6_7 N := ⟨_, rfl⟩
      rw [← hb7] at hkK7
      unfold KB_X3_sum_c6_7 at hkK7
      refine g_iload_n cx 2 rfl e_X3_sum_7 ?_
      refine g_sipush cx 200 (by decide) e_X3_sum_8 ?_
      have J80 : (SP = K_X3_sum_c6_80 F9 R10) → G X E 4 0 0 (wX X ad F9 R10) [] 80 [] := by
        intro   hkJ80
        unfold K_X3_sum_c6_80 at hkJ80
        exact hret e_X3_sum_80 (Nat.le_of_ble_eq_true rfl) (Nat.le_of_ble_eq_true rfl) ⟨F9, R10, rfl, oF9, oR10, fF9, fR10, (hkJ80.symm.trans hSP)⟩
      refine g_icmp_ge cx 80 e_X3_sum_11 (by decide) (fun zc11 => ?_) (fun zc11 => ?_)
      · have p12 := gn_ge 200 200 (gc_le zc11) py8 (jv_k (x := 200) 200 (by decide)) (by decide)
        have hk13 := hkK7.trans (if_pos zc11)
        refine g_lsub [] [] rfl ?_
        exact J80  hk13
      · have p14 := gn_lt 0 199 (gc_nle zc11) py8 (jv_k (x := 200) 200 (by decide)) (by decide)
        have hk15 := hkK7.trans (if_neg zc11)
        refine g_aload_n cx 0 rfl e_X3_sum_14 ?_
        refine g_cViW cx [] [] (w_X3_sign l X ad F9 R10 oF9 oR10) ml_X3_42 yV_X3_sign e_X3_sum_15 (by unfold g_rr; decide) (by decide) 33 rfl rfl rfl (Nat.le_of_ble_eq_true rfl) (fun r16 w17 h18 => ?_)
        obtain ⟨rfl, pr16, hx19⟩ := h18
        have hk20 := k_ls hk15 hx19
        refine g_bipush cx 43 (by decide) e_X3_sum_18 ?_
        have J32 : (SP = K_X3_sum_c6_32 b7 F9 R10 y8) → G X E 4 0 0 (wX X ad F9 R10) [(0, .ref (ad 33)), (1, .int 6), (2, .int y8)] 32 [] := by
          intro   hkJ32
          unfold K_X3_sum_c6_32 at hkJ32
          refine g_aload_n cx 0 rfl e_X3_sum_32 ?_
          refine g_cViW cx [] [] (w_X3_sign l X ad F9 R10 oF9 oR10) ml_X3_42 yV_X3_sign e_X3_sum_33 (by unfold g_rr; decide) (by decide) 33 rfl rfl rfl (Nat.le_of_ble_eq_true rfl) (fun r21 w22 h23 => ?_)
          obtain ⟨rfl, pr21, hx24⟩ := h23
          have hk25 := k_ls hkJ32 hx24
          refine g_bipush cx 43 (by decide) e_X3_sum_36 ?_
          have J48 : ∀ (y26 : Int32), (jv 6 7 y26) → (SP = K_X3_sum_c6_48 b7 F9 R10 y8 y26) → G X E 4 0 0 (wX X ad F9 R10) [(0, .ref (ad 33)), (1, .int 6), (2, .int y8)] 48 [.int y26] := by
            intro y26 py26 hkJ48
            unfold K_X3_sum_c6_48 at hkJ48
            refine g_istore_n cx [(3, .int y26), (0, .ref (ad 33)), (1, .int 6), (2, .int y8)] e_X3_sum_48 (by decide) rfl ?_
            refine g_aload_n cx 1 rfl e_X3_sum_49 ?_
            refine g_dup cx rfl e_X3_sum_50 ?_
            refine g_get cx cl_X3 fl_X3_19 33 (.int (F9 531)) e_X3_sum_51 rfl rfl ?_
            refine g_iconst cx 1 (by decide) e_X3_sum_54 ?_
            refine g_iadd cx e_X3_sum_55 ?_
            refine g_topi (fun x27 ex27 => ?_)
            have hk28 := k_ls hkJ48 ex27
            refine g_put cx cl_X3 fl_X3_19 33 (wX X ad (upd F9 531 x27) R10) e_X3_sum_56 rfl rfl rfl rfl (Nat.le_of_ble_eq_true rfl) rfl ?_
            obtain ⟨F29, hF29⟩ : ∃ z, z = upd F9 531 x27 := ⟨_, rfl⟩
            rw [← hF29]
            have hk30 := k_ls hk28 hF29
            have oF29 : g_ok LK_wX F29 := by rw [hF29]; exact g_ok_u oF9 rfl
            have fF29 : g_fr md_X3_sum_c6 F F29 := by rw [hF29]; exact g_fr_u fF9 rfl
            refine g_aload_n cx 1 rfl e_X3_sum_59 ?_
            refine g_iload_n cx 2 rfl e_X3_sum_60 ?_
            refine g_cVvW cx [.int 6] [] (w_X3_product_c6 l X ad F29 R10 oF29 oR10) ml_X3_96 yV_X3_product e_X3_sum_61 (by unfold g_rr; decide) (by decide) 33 rfl rfl rfl (Nat.le_of_ble_eq_true rfl) (fun w32 h33 => ?_)
            obtain ⟨F35, R36, rfl, oF35, oR36, cF35, cR36, hx34⟩ := h33
            have hk37 := k_ls2 hk30 hx34
            have fF35 : g_fr md_X3_sum_c6 F F35 := g_fr_c fF29 cF35 rfl
            have fR36 : g_fr mr_X3_sum_c6 R R36 := g_fr_c fR10 cR36 rfl
            refine g_aload_n cx 1 rfl e_X3_sum_64 ?_
            refine g_get cx cl_X3 fl_X3_25 33 (.ref (ad 25)) e_X3_sum_65 rfl rfl ?_
            refine g_iload_n cx 0 rfl e_X3_sum_68 ?_
            refine g_iconst cx 0 (by decide) e_X3_sum_69 ?_
            refine g_cViW cx [.int y26, .int 0] [] (w_X2_emit_25 l X ad F35 R36 oF35 oR36 y26 0) ml_X3_66 yV_X2_emit e_X3_sum_70 (by unfold g_rr; decide) (by decide) 25 rfl rfl rfl (Nat.le_of_ble_eq_true rfl) (fun r38 w39 h40 => ?_)
            obtain ⟨F42, R43, rfl, oF42, oR43, cF42, cR43, pr38, hx41⟩ := h40
            have hk44 := k_ls3 hk37 hx41
            have fF42 : g_fr md_X3_sum_c6 F F42 := g_fr_c fF35 cF42 rfl
            have fR43 : g_fr mr_X3_sum_c6 R R43 := g_fr_c fR36 cR43 rfl
            refine g_pop cx rfl e_X3_sum_73 ?_
            obtain ⟨x45, ex45⟩ : ∃ z : Int32, z = y8 + Int32.ofInt 1 := ⟨_, rfl⟩
            have hk46 := k_ls hk44 (show x45 = y8 + 1 from ex45)
            refine g_iinc cx x45 [(2, .int x45), (3, .int y26), (0, .ref (ad 33)), (1, .int 6)] 3 e_X3_sum_74 rfl ex45.symm (by decide) rfl ?_
            have zx45 := jv_add 1 200 (show x45 = y8 + 1 from ex45) p14 (jv_k (x := 1) 1 (by decide)) (by decide)
            refine g_goto cx 7 e_X3_sum_77 (by decide) ?_
            refine g_lsub [2, 3, 0] [(0, .ref (ad 33)), (1, .int 6), (2, .int x45)] rfl ?_
            exact ih7 F42 R43 x45 oF42 fF42 oR43 fR43 (jv_w zx45.2 (by decide)) (hk46.trans (by rw [hb7])) (Nat.lt_of_lt_of_le (show (2147483647 - x45.toInt).toNat < (2147483647 - y8.toInt).toNat from by have q0 := (jv_k (x := 1) 1 (by decide)).1; have q1 := (jv_k (x := 1) 1 (by decide)).2; have q2 := (jv_k (x := 200) 200 (by decide)).1; have q3 := (jv_k (x := 200) 200 (by decide)).2; have q4 := zx45.2.1; have q5 := zx45.2.2; have q6 := p14.1; have q7 := p14.2; have q8 := (gc_nle zc11); have q9 := (g_eq0 zx45.1); omega) (Nat.le_of_lt_succ hm7))
          refine g_icmp_ne cx 46 e_X3_sum_38 (by decide) (fun zc47 => ?_) (fun zc47 => ?_)
          · have hk48 := hk25.trans (if_neg zc47)
            refine g_bipush cx 7 (by decide) e_X3_sum_46 ?_
            exact J48 7 (jv_w (jv_k (x := 7) 7 (by decide)) (by decide)) hk48
          · have p49 := gn_eq 43 43 (gc_eq zc47) pr21 (jv_k (x := 43) 43 (by decide)) (by decide)
            have hk50 := hk25.trans (if_pos zc47)
            refine g_bipush cx 6 (by decide) e_X3_sum_41 ?_
            refine g_goto cx 48 e_X3_sum_43 (by decide) ?_
            exact J48 6 (jv_w (jv_k (x := 6) 6 (by decide)) (by decide)) hk50
        refine g_icmp_eq cx 32 e_X3_sum_20 (by decide) (fun zc51 => ?_) (fun zc51 => ?_)
        · have p52 := gn_eq 43 43 (gc_eq zc51) pr16 (jv_k (x := 43) 43 (by decide)) (by decide)
          have hk53 := hk20.trans (if_pos zc51)
          exact J32  hk53
        · have hk54 := hk20.trans (if_neg zc51)
          refine g_aload_n cx 0 rfl e_X3_sum_23 ?_
          refine g_cViW cx [] [] (w_X3_sign l X ad F9 R10 oF9 oR10) ml_X3_42 yV_X3_sign e_X3_sum_24 (by unfold g_rr; decide) (by decide) 33 rfl rfl rfl (Nat.le_of_ble_eq_true rfl) (fun r55 w56 h57 => ?_)
          obtain ⟨rfl, pr55, hx58⟩ := h57
          have hk59 := k_ls hk54 hx58
          refine g_bipush cx 45 (by decide) e_X3_sum_27 ?_
          refine g_icmp_ne cx 80 e_X3_sum_29 (by decide) (fun zc60 => ?_) (fun zc60 => ?_)
          · have hk61 := hk59.trans (if_neg zc60)
            refine g_lsub [] [] rfl ?_
            exact J80  hk61
          · have p62 := gn_eq 45 45 (gc_eq zc60) pr55 (jv_k (x := 45) 45 (by decide)) (by decide)
            have hk63 := hk59.trans (if_pos zc60)
            exact J32  hk63
  refine g_lsub [1, 2, 0] [(0, .ref (ad 33)), (1, .int 6), (2, .int 0)] rfl ?_
  exact J7 8589934592 F5 R6 0 oF5 fF5 oR6 fR6 (jv_w (jv_k (x := 0) 0 (by decide)) (by decide)) hk7 (show (2147483647 - (0 : Int32).toInt).toNat < 8589934592 from by have q0 := (jv_k (x := 0) 0 (by decide)).1; have q1 := (jv_k (x := 0) 0 (by decide)).2; omega)
def K_X3_pass_26  (F6 : Nat → Int32) (R7 : Nat → Nat → Int32) : (Nat → Int32) × (Nat → Nat → Int32) :=
  (F6, R7)
def sp_X3_pass (F : Nat → Int32) (R : Nat → Nat → Int32) (a0 : Int32) : (Nat → Int32) × (Nat → Nat → Int32) :=
  k_lt (sp_X3_sign F R) (fun r1 => if r1 = a0 then k_lt ((F 531) + 1) (fun x18 => k_lt (upd F 531 x18) (fun F20 => K_X3_pass_26 F20 R)) else k_lt2 (sp_X3_fail F R 1) (fun F14 R15 => K_X3_pass_26 F14 R15))
theorem e_X3_pass_0 : g_dc cX3_pass 0 (.aload_n 0) 1 1 := ⟨by decide +kernel, rfl⟩
theorem e_X3_pass_1 : g_dc cX3_pass 1 (.invokevirtual 42) 3 4 := ⟨by decide +kernel, rfl⟩
theorem e_X3_pass_4 : g_dc cX3_pass 4 (.iload_n 1) 1 5 := ⟨by decide +kernel, rfl⟩
theorem e_X3_pass_5 : g_dc cX3_pass 5 (.if_icmp .ne 16) 3 8 := ⟨by decide +kernel, rfl⟩
theorem e_X3_pass_8 : g_dc cX3_pass 8 (.aload_n 0) 1 9 := ⟨by decide +kernel, rfl⟩
theorem e_X3_pass_9 : g_dc cX3_pass 9 (.dup) 1 10 := ⟨by decide +kernel, rfl⟩
theorem e_X3_pass_10 : g_dc cX3_pass 10 (.getfield 19) 3 13 := ⟨by decide +kernel, rfl⟩
theorem e_X3_pass_13 : g_dc cX3_pass 13 (.iconst 1) 1 14 := ⟨by decide +kernel, rfl⟩
theorem e_X3_pass_14 : g_dc cX3_pass 14 (.iadd) 1 15 := ⟨by decide +kernel, rfl⟩
theorem e_X3_pass_15 : g_dc cX3_pass 15 (.putfield 19) 3 18 := ⟨by decide +kernel, rfl⟩
theorem e_X3_pass_18 : g_dc cX3_pass 18 (.goto 8) 3 21 := ⟨by decide +kernel, rfl⟩
theorem e_X3_pass_21 : g_dc cX3_pass 21 (.aload_n 0) 1 22 := ⟨by decide +kernel, rfl⟩
theorem e_X3_pass_22 : g_dc cX3_pass 22 (.iconst 1) 1 23 := ⟨by decide +kernel, rfl⟩
theorem e_X3_pass_23 : g_dc cX3_pass 23 (.invokevirtual 46) 3 26 := ⟨by decide +kernel, rfl⟩
theorem e_X3_pass_26 : g_dc cX3_pass 26 (.return_) 1 27 := ⟨by decide +kernel, rfl⟩
def md_X3_pass : List Nat := [531, 532]
def mr_X3_pass : List Nat := []
set_option maxHeartbeats 4000000 in
set_option maxRecDepth 100000 in
theorem w_X3_pass (l : Launch) (X : gX) (ad : Nat → Nat) (F : Nat → Int32) (R : Nat → Nat → Int32) (hI : g_ok LK_wX F) (hA : g_okR LA_wX R) (a0 : Int32) : g_Cv l X yX3_pass cX3_pass 2 2 0 0 [.ref (ad 33), .int a0] (wX X ad F R) (fun w => ∃ (F' : Nat → Int32) (R' : Nat → Nat → Int32), w = wX X ad F' R' ∧ g_ok LK_wX F' ∧ g_okR LA_wX R' ∧ g_fr md_X3_pass F F' ∧ g_fr mr_X3_pass R R' ∧ (F', R') = sp_X3_pass F R a0) := by
  refine g_mv (by decide +kernel) (Nat.le_of_ble_eq_true rfl) (fun E cx hret => ?_)
  obtain ⟨SP, hSP⟩ : ∃ z, z = sp_X3_pass F R a0 := ⟨_, rfl⟩
  have hk0 := hSP
  unfold sp_X3_pass at hk0
  refine g_aload_n cx 0 rfl e_X3_pass_0 ?_
  refine g_cViW cx [] [] (w_X3_sign l X ad F R hI hA) ml_X3_42 yV_X3_sign e_X3_pass_1 (by unfold g_rr; decide) (by decide) 33 rfl rfl rfl (Nat.le_of_ble_eq_true rfl) (fun r1 w2 h3 => ?_)
  obtain ⟨rfl, pr1, hx4⟩ := h3
  have hk5 := k_ls hk0 hx4
  refine g_iload_n cx 1 rfl e_X3_pass_4 ?_
  have J26 : ∀ (F6 : Nat → Int32) (R7 : Nat → Nat → Int32), (g_ok LK_wX F6) → (g_fr md_X3_pass F F6) → (g_okR LA_wX R7) → (g_fr mr_X3_pass R R7) → (SP = K_X3_pass_26 F6 R7) → G X E 2 0 0 (wX X ad F6 R7) [] 26 [] := by
    intro F6 R7 oF6 fF6 oR7 fR7 hkJ26
    unfold K_X3_pass_26 at hkJ26
    exact hret e_X3_pass_26 (Nat.le_of_ble_eq_true rfl) (Nat.le_of_ble_eq_true rfl) ⟨F6, R7, rfl, oF6, oR7, fF6, fR7, (hkJ26.symm.trans hSP)⟩
  refine g_icmp_ne cx 21 e_X3_pass_5 (by decide) (fun zc8 => ?_) (fun zc8 => ?_)
  · have hk9 := hk5.trans (if_neg zc8)
    refine g_aload_n cx 0 rfl e_X3_pass_21 ?_
    refine g_iconst cx 1 (by decide) e_X3_pass_22 ?_
    refine g_cVvW cx [.int 1] [] (w_X3_fail l X ad F R hI hA 1) ml_X3_46 yV_X3_fail e_X3_pass_23 (by unfold g_rr; decide) (by decide) 33 rfl rfl rfl (Nat.le_of_ble_eq_true rfl) (fun w11 h12 => ?_)
    obtain ⟨F14, R15, rfl, oF14, oR15, cF14, cR15, hx13⟩ := h12
    have hk16 := k_ls2 hk9 hx13
    have fF14 : g_fr md_X3_pass F F14 := g_fr_c (g_fr_rf F) cF14 rfl
    have fR15 : g_fr mr_X3_pass R R15 := g_fr_c (g_fr_rf R) cR15 rfl
    refine g_lsub [] [] rfl ?_
    exact J26 F14 R15 oF14 fF14 oR15 fR15 hk16
  · have hk17 := hk5.trans (if_pos zc8)
    refine g_aload_n cx 0 rfl e_X3_pass_8 ?_
    refine g_dup cx rfl e_X3_pass_9 ?_
    refine g_get cx cl_X3 fl_X3_19 33 (.int (F 531)) e_X3_pass_10 rfl rfl ?_
    refine g_iconst cx 1 (by decide) e_X3_pass_13 ?_
    refine g_iadd cx e_X3_pass_14 ?_
    refine g_topi (fun x18 ex18 => ?_)
    have hk19 := k_ls hk17 ex18
    refine g_put cx cl_X3 fl_X3_19 33 (wX X ad (upd F 531 x18) R) e_X3_pass_15 rfl rfl rfl rfl (Nat.le_of_ble_eq_true rfl) rfl ?_
    obtain ⟨F20, hF20⟩ : ∃ z, z = upd F 531 x18 := ⟨_, rfl⟩
    rw [← hF20]
    have hk21 := k_ls hk19 hF20
    have oF20 : g_ok LK_wX F20 := by rw [hF20]; exact g_ok_u hI rfl
    have fF20 : g_fr md_X3_pass F F20 := by rw [hF20]; exact g_fr_u (g_fr_rf F) rfl
    refine g_goto cx 26 e_X3_pass_18 (by decide) ?_
    refine g_lsub [] [] rfl ?_
    exact J26 F20 R oF20 fF20 hA (g_fr_rf R) hk21
def K_X3_factor_c5_72 (F : Nat → Int32) (R : Nat → Nat → Int32) (y25 : Int32) : (Nat → Int32) × (Nat → Nat → Int32) :=
  if 0 ≤ y25 then k_lt ((F 531) + 1) (fun x29 => k_lt (upd F 531 x29) (fun F31 => k_lt3 (sp_X2_emit_25 F31 R 2 y25) (fun r33 F37 R38 => (F37, R38)))) else k_lt2 (sp_X3_fail F R 1) (fun F46 R47 => (F46, R47))
def sp_X3_factor_c5 (F : Nat → Int32) (R : Nat → Nat → Int32) : (Nat → Int32) × (Nat → Nat → Int32) :=
  k_lt (sp_X3_sign F R) (fun r1 => if r1 = 91 then k_lt3 (sp_X3_opens_c5 F R) (fun r76 F80 R81 => k_lt2 (sp_X3_sum_c6 F80 R81) (fun F88 R89 => k_lt2 (sp_X3_pass F88 R89 93) (fun F95 R96 => (F95, R96)))) else k_lt (sp_X3_sign F R) (fun r8 => k_lt (g_in r8 48 57) (fun r13 => if r13 = 0 then k_lt (sp_X3_sign F R) (fun r20 => if r20 = (-1) then K_X3_factor_c5_72 F R (-1) else k_lt (sp_X3_sign F R) (fun r51 => k_lt ((r51.toUInt32 % 65536).toInt32) (fun x56 => k_lt (sp_J0_indexOf_0f7a4_s1 x56) (fun r58 => K_X3_factor_c5_72 F R r58)))) else k_lt2 (sp_X3_number F R) (fun F71 R72 => (F71, R72)))))
theorem e_X3_factor_17 : g_dc cX3_factor 17 (.aload_n 0) 1 18 := ⟨by decide +kernel, rfl⟩
theorem e_X3_factor_18 : g_dc cX3_factor 18 (.iload_n 1) 1 19 := ⟨by decide +kernel, rfl⟩
theorem e_X3_factor_19 : g_dc cX3_factor 19 (.iconst 1) 1 20 := ⟨by decide +kernel, rfl⟩
theorem e_X3_factor_20 : g_dc cX3_factor 20 (.iadd) 1 21 := ⟨by decide +kernel, rfl⟩
theorem e_X3_factor_21 : g_dc cX3_factor 21 (.invokevirtual 63) 3 24 := ⟨by decide +kernel, rfl⟩
theorem e_X3_factor_24 : g_dc cX3_factor 24 (.aload_n 0) 1 25 := ⟨by decide +kernel, rfl⟩
theorem e_X3_factor_25 : g_dc cX3_factor 25 (.bipush 93) 2 27 := ⟨by decide +kernel, rfl⟩
theorem e_X3_factor_27 : g_dc cX3_factor 27 (.invokevirtual 70) 3 30 := ⟨by decide +kernel, rfl⟩
def md_X3_factor_c5 : List Nat := [402, 531, 532]
def mr_X3_factor_c5 : List Nat := [26, 27]
set_option maxHeartbeats 4000000 in
set_option maxRecDepth 100000 in
theorem w_X3_factor_c5 (l : Launch) (X : gX) (ad : Nat → Nat) (F : Nat → Int32) (R : Nat → Nat → Int32) (hI : g_ok LK_wX F) (hA : g_okR LA_wX R) : g_Cv l X yX3_factor cX3_factor 3 8 0 0 [.ref (ad 33), .int 5] (wX X ad F R) (fun w => ∃ (F' : Nat → Int32) (R' : Nat → Nat → Int32), w = wX X ad F' R' ∧ g_ok LK_wX F' ∧ g_okR LA_wX R' ∧ g_fr md_X3_factor_c5 F F' ∧ g_fr mr_X3_factor_c5 R R' ∧ (F', R') = sp_X3_factor_c5 F R) := by
  refine g_mv (by decide +kernel) (Nat.le_of_ble_eq_true rfl) (fun E cx hret => ?_)
  obtain ⟨SP, hSP⟩ : ∃ z, z = sp_X3_factor_c5 F R := ⟨_, rfl⟩
  have hk0 := hSP
  unfold sp_X3_factor_c5 at hk0
  refine g_aload_n cx 0 rfl e_X3_factor_0 ?_
  refine g_cViW cx [] [] (w_X3_sign l X ad F R hI hA) ml_X3_42 yV_X3_sign e_X3_factor_1 (by unfold g_rr; decide) (by decide) 33 rfl rfl rfl (Nat.le_of_ble_eq_true rfl) (fun r1 w2 h3 => ?_)
  obtain ⟨rfl, pr1, hx4⟩ := h3
  have hk5 := k_ls hk0 hx4
  refine g_bipush cx 91 (by decide) e_X3_factor_4 ?_
  refine g_icmp_ne cx 31 e_X3_factor_6 (by decide) (fun zc6 => ?_) (fun zc6 => ?_)
  · have hk7 := hk5.trans (if_neg zc6)
    refine g_aload_n cx 0 rfl e_X3_factor_31 ?_
    refine g_cViW cx [] [] (w_X3_sign l X ad F R hI hA) ml_X3_42 yV_X3_sign e_X3_factor_32 (by unfold g_rr; decide) (by decide) 33 rfl rfl rfl (Nat.le_of_ble_eq_true rfl) (fun r8 w9 h10 => ?_)
    obtain ⟨rfl, pr8, hx11⟩ := h10
    have hk12 := k_ls hk7 hx11
    refine g_bipush cx 48 (by decide) e_X3_factor_35 ?_
    refine g_bipush cx 57 (by decide) e_X3_factor_37 ?_
    refine g_cNiW cx [.int r8, .int 48, .int 57] [] (c_X10_within l X (wX X ad F R) r8 48 57) mn_X3_102 yS_X10_within e_X3_factor_39 (by unfold g_rr; decide) (by decide) rfl (Nat.le_of_ble_eq_true rfl) (fun r13 w14 h15 => ?_)
    obtain ⟨rfl, hr13⟩ := h15
    have pr13 : jv 0 1 r13 := by rw [hr13]; exact gi_01 _ _ _
    have hk16 := k_ls hk12 hr13
    refine g_if_eq cx 50 e_X3_factor_42 (by decide) (fun zc17 => ?_) (fun zc17 => ?_)
    · have p18 := gn_eq 0 0 (gc_eq zc17) pr13 (jv_k (x := 0) 0 (by decide)) (by decide)
      have hk19 := hk16.trans (if_pos zc17)
      refine g_aload_n cx 0 rfl e_X3_factor_50 ?_
      refine g_cViW cx [] [] (w_X3_sign l X ad F R hI hA) ml_X3_42 yV_X3_sign e_X3_factor_51 (by unfold g_rr; decide) (by decide) 33 rfl rfl rfl (Nat.le_of_ble_eq_true rfl) (fun r20 w21 h22 => ?_)
      obtain ⟨rfl, pr20, hx23⟩ := h22
      have hk24 := k_ls hk19 hx23
      refine g_iconst cx (-1) (by decide) e_X3_factor_54 ?_
      have J72 : ∀ (y25 : Int32), (jv (-1) 11 y25) → (SP = K_X3_factor_c5_72 F R y25) → G X E 3 0 0 (wX X ad F R) [(0, .ref (ad 33))] 72 [.int y25] := by
        intro y25 py25 hkJ72
        unfold K_X3_factor_c5_72 at hkJ72
        refine g_istore_n cx [(2, .int y25), (0, .ref (ad 33))] e_X3_factor_72 (by decide) rfl ?_
        refine g_iload_n cx 0 rfl e_X3_factor_73 ?_
        refine g_if_ge cx 83 e_X3_factor_74 (by decide) (fun zc26 => ?_) (fun zc26 => ?_)
        · have p27 := gn_ge 0 11 (gc_le zc26) py25 (jv_k (x := 0) 0 (by decide)) (by decide)
          have hk28 := hkJ72.trans (if_pos zc26)
          refine g_aload_n cx 1 rfl e_X3_factor_83 ?_
          refine g_dup cx rfl e_X3_factor_84 ?_
          refine g_get cx cl_X3 fl_X3_19 33 (.int (F 531)) e_X3_factor_85 rfl rfl ?_
          refine g_iconst cx 1 (by decide) e_X3_factor_88 ?_
          refine g_iadd cx e_X3_factor_89 ?_
          refine g_topi (fun x29 ex29 => ?_)
          have hk30 := k_ls hk28 ex29
          refine g_put cx cl_X3 fl_X3_19 33 (wX X ad (upd F 531 x29) R) e_X3_factor_90 rfl rfl rfl rfl (Nat.le_of_ble_eq_true rfl) rfl ?_
          obtain ⟨F31, hF31⟩ : ∃ z, z = upd F 531 x29 := ⟨_, rfl⟩
          rw [← hF31]
          have hk32 := k_ls hk30 hF31
          have oF31 : g_ok LK_wX F31 := by rw [hF31]; exact g_ok_u hI rfl
          have fF31 : g_fr md_X3_factor_c5 F F31 := by rw [hF31]; exact g_fr_u (g_fr_rf F) rfl
          refine g_aload_n cx 1 rfl e_X3_factor_93 ?_
          refine g_get cx cl_X3 fl_X3_25 33 (.ref (ad 25)) e_X3_factor_94 rfl rfl ?_
          refine g_iconst cx 2 (by decide) e_X3_factor_97 ?_
          refine g_iload_n cx 0 rfl e_X3_factor_98 ?_
          refine g_cViW cx [.int 2, .int y25] [] (w_X2_emit_25 l X ad F31 R oF31 hA 2 y25) ml_X3_66 yV_X2_emit e_X3_factor_99 (by unfold g_rr; decide) (by decide) 25 rfl rfl rfl (Nat.le_of_ble_eq_true rfl) (fun r33 w34 h35 => ?_)
          obtain ⟨F37, R38, rfl, oF37, oR38, cF37, cR38, pr33, hx36⟩ := h35
          have hk39 := k_ls3 hk32 hx36
          have fF37 : g_fr md_X3_factor_c5 F F37 := g_fr_c fF31 cF37 rfl
          have fR38 : g_fr mr_X3_factor_c5 R R38 := g_fr_c (g_fr_rf R) cR38 rfl
          refine g_pop cx rfl e_X3_factor_102 ?_
          exact hret e_X3_factor_103 (Nat.le_of_ble_eq_true rfl) (Nat.le_of_ble_eq_true rfl) ⟨F37, R38, rfl, oF37, oR38, fF37, fR38, (hk39.symm.trans hSP)⟩
        · have p40 := gn_lt (-1) (-1) (gc_nle zc26) py25 (jv_k (x := 0) 0 (by decide)) (by decide)
          have hk41 := hkJ72.trans (if_neg zc26)
          refine g_aload_n cx 1 rfl e_X3_factor_77 ?_
          refine g_iconst cx 1 (by decide) e_X3_factor_78 ?_
          refine g_cVvW cx [.int 1] [] (w_X3_fail l X ad F R hI hA 1) ml_X3_46 yV_X3_fail e_X3_factor_79 (by unfold g_rr; decide) (by decide) 33 rfl rfl rfl (Nat.le_of_ble_eq_true rfl) (fun w43 h44 => ?_)
          obtain ⟨F46, R47, rfl, oF46, oR47, cF46, cR47, hx45⟩ := h44
          have hk48 := k_ls2 hk41 hx45
          have fF46 : g_fr md_X3_factor_c5 F F46 := g_fr_c (g_fr_rf F) cF46 rfl
          have fR47 : g_fr mr_X3_factor_c5 R R47 := g_fr_c (g_fr_rf R) cR47 rfl
          exact hret e_X3_factor_82 (Nat.le_of_ble_eq_true rfl) (Nat.le_of_ble_eq_true rfl) ⟨F46, R47, rfl, oF46, oR47, fF46, fR47, (hk48.symm.trans hSP)⟩
      refine g_icmp_ne cx 62 e_X3_factor_55 (by decide) (fun zc49 => ?_) (fun zc49 => ?_)
      · have hk50 := hk24.trans (if_neg zc49)
        refine g_ldcS1 cx rfl e_X3_factor_62 ?_
        refine g_aload_n cx 0 rfl e_X3_factor_64 ?_
        refine g_cViW cx [] [.ref (X.1.2.2.2.1 1)] (w_X3_sign l X ad F R hI hA) ml_X3_42 yV_X3_sign e_X3_factor_65 (by unfold g_rr; decide) (by decide) 33 rfl rfl rfl (Nat.le_of_ble_eq_true rfl) (fun r51 w52 h53 => ?_)
        obtain ⟨rfl, pr51, hx54⟩ := h53
        have hk55 := k_ls hk50 hx54
        refine g_i2c cx e_X3_factor_68 ?_
        refine g_topi (fun x56 ex56 => ?_)
        have hk57 := k_ls hk55 ex56
        refine g_cVsW cx [.int x56] [] 1 (by decide) rfl (w_J0_indexOf_0f7a4_s1 l X (wX X ad F R) x56) ml_X3_52 yV_J0_indexOf_0f7a4 e_X3_factor_69 (by unfold g_rr; decide) (by decide) rfl (Nat.le_of_ble_eq_true rfl) (fun r58 w59 h60 => ?_)
        obtain ⟨rfl, pr58⟩ := h60
        obtain ⟨pr58, hxr58⟩ := pr58
        have hk61 := k_ls hk57 hxr58
        refine g_lsub [0] [(0, .ref (ad 33))] rfl ?_
        exact J72 r58 pr58 hk61
      · have p62 := gn_eq (-1) (-1) (gc_eq zc49) pr20 (jv_k (x := (-1)) (-1) (by decide)) (by decide)
        have hk63 := hk24.trans (if_pos zc49)
        refine g_iconst cx (-1) (by decide) e_X3_factor_58 ?_
        refine g_goto cx 72 e_X3_factor_59 (by decide) ?_
        refine g_lsub [0] [(0, .ref (ad 33))] rfl ?_
        exact J72 (-1) (jv_w (jv_k (x := (-1)) (-1) (by decide)) (by decide)) hk63
    · have p64 := gn_neL 1 1 (gc_ne zc17) pr13 (jv_k (x := 0) 0 (by decide)) (by decide)
      have p65 := jv_i 48 57 pr8 (gi_in (A := 48) (B := 57) hr13 zc17 (by decide) (by decide)) (by decide)
      have hk66 := hk16.trans (if_neg zc17)
      refine g_aload_n cx 0 rfl e_X3_factor_45 ?_
      refine g_cVvW cx [] [] (w_X3_number l X ad F R hI hA) ml_X3_106 yV_X3_number e_X3_factor_46 (by unfold g_rr; decide) (by decide) 33 rfl rfl rfl (Nat.le_of_ble_eq_true rfl) (fun w68 h69 => ?_)
      obtain ⟨F71, R72, rfl, oF71, oR72, cF71, cR72, hx70⟩ := h69
      have hk73 := k_ls2 hk66 hx70
      have fF71 : g_fr md_X3_factor_c5 F F71 := g_fr_c (g_fr_rf F) cF71 rfl
      have fR72 : g_fr mr_X3_factor_c5 R R72 := g_fr_c (g_fr_rf R) cR72 rfl
      exact hret e_X3_factor_49 (Nat.le_of_ble_eq_true rfl) (Nat.le_of_ble_eq_true rfl) ⟨F71, R72, rfl, oF71, oR72, fF71, fR72, (hk73.symm.trans hSP)⟩
  · have p74 := gn_eq 91 91 (gc_eq zc6) pr1 (jv_k (x := 91) 91 (by decide)) (by decide)
    have hk75 := hk5.trans (if_pos zc6)
    refine g_aload_n cx 0 rfl e_X3_factor_9 ?_
    refine g_iload_n cx 1 rfl e_X3_factor_10 ?_
    refine g_cViW cx [.int 5] [] (w_X3_opens_c5 l X ad F R hI hA) ml_X3_89 yV_X3_opens e_X3_factor_11 (by unfold g_rr; decide) (by decide) 33 rfl rfl rfl (Nat.le_of_ble_eq_true rfl) (fun r76 w77 h78 => ?_)
    obtain ⟨F80, R81, rfl, oF80, oR81, cF80, cR81, pr76, hx79⟩ := h78
    have hk82 := k_ls3 hk75 hx79
    have fF80 : g_fr md_X3_factor_c5 F F80 := g_fr_c (g_fr_rf F) cF80 rfl
    have fR81 : g_fr mr_X3_factor_c5 R R81 := g_fr_c (g_fr_rf R) cR81 rfl
    refine g_if_eq cx 30 e_X3_factor_14 (by decide) (fun zc83 => ?_) (fun zc83 => ?_)
    · exact (gf_eq (gc_eq zc83) pr76 (jv_k (x := 0) 0 (by decide)) (by decide)).elim
    · refine g_aload_n cx 0 rfl e_X3_factor_17 ?_
      refine g_iload_n cx 1 rfl e_X3_factor_18 ?_
      refine g_iconst cx 1 (by decide) e_X3_factor_19 ?_
      refine g_iadd cx e_X3_factor_20 ?_
      refine g_toi 6 (by decide) ?_
      refine g_cVvW cx [.int 6] [] (w_X3_sum_c6 l X ad F80 R81 oF80 oR81) ml_X3_63 yV_X3_sum e_X3_factor_21 (by unfold g_rr; decide) (by decide) 33 rfl rfl rfl (Nat.le_of_ble_eq_true rfl) (fun w85 h86 => ?_)
      obtain ⟨F88, R89, rfl, oF88, oR89, cF88, cR89, hx87⟩ := h86
      have hk90 := k_ls2 hk82 hx87
      have fF88 : g_fr md_X3_factor_c5 F F88 := g_fr_c fF80 cF88 rfl
      have fR89 : g_fr mr_X3_factor_c5 R R89 := g_fr_c fR81 cR89 rfl
      refine g_aload_n cx 0 rfl e_X3_factor_24 ?_
      refine g_bipush cx 93 (by decide) e_X3_factor_25 ?_
      refine g_cVvW cx [.int 93] [] (w_X3_pass l X ad F88 R89 oF88 oR89 93) ml_X3_70 yV_X3_pass e_X3_factor_27 (by unfold g_rr; decide) (by decide) 33 rfl rfl rfl (Nat.le_of_ble_eq_true rfl) (fun w92 h93 => ?_)
      obtain ⟨F95, R96, rfl, oF95, oR96, cF95, cR96, hx94⟩ := h93
      have hk97 := k_ls2 hk90 hx94
      have fF95 : g_fr md_X3_factor_c5 F F95 := g_fr_c fF88 cF95 rfl
      have fR96 : g_fr mr_X3_factor_c5 R R96 := g_fr_c fR89 cR96 rfl
      exact hret e_X3_factor_30 (Nat.le_of_ble_eq_true rfl) (Nat.le_of_ble_eq_true rfl) ⟨F95, R96, rfl, oF95, oR96, fF95, fR96, (hk97.symm.trans hSP)⟩
def K_X3_product_c5_103 (F9 : Nat → Int32) (R10 : Nat → Nat → Int32)  : (Nat → Int32) × (Nat → Nat → Int32) :=
  (F9, R10)
def K_X3_product_c5_71 (b7 : (Nat → Int32) → (Nat → Nat → Int32) → (Int32) → (Nat → Int32) × (Nat → Nat → Int32)) (F9 : Nat → Int32) (R10 : Nat → Nat → Int32) (y8 : Int32) (y26 : Int32) : (Nat → Int32) × (Nat → Nat → Int32) :=
  k_lt ((F9 531) + 1) (fun x27 => k_lt (upd F9 531 x27) (fun F29 => k_lt2 (sp_X3_factor_c5 F29 R10) (fun F35 R36 => k_lt3 (sp_X2_emit_25 F35 R36 y26 0) (fun r38 F42 R43 => k_lt (y8 + 1) (fun x45 => b7 F42 R43 x45)))))
def K_X3_product_c5_41 (b7 : (Nat → Int32) → (Nat → Nat → Int32) → (Int32) → (Nat → Int32) × (Nat → Nat → Int32)) (F9 : Nat → Int32) (R10 : Nat → Nat → Int32) (y8 : Int32)  : (Nat → Int32) × (Nat → Nat → Int32) :=
  k_lt (sp_X3_sign F9 R10) (fun r21 => if r21 = 42 then K_X3_product_c5_71 b7 F9 R10 y8 8 else k_lt (sp_X3_sign F9 R10) (fun r49 => if r49 = 47 then K_X3_product_c5_71 b7 F9 R10 y8 9 else K_X3_product_c5_71 b7 F9 R10 y8 10))
def KB_X3_product_c5_7 (b7 : (Nat → Int32) → (Nat → Nat → Int32) → (Int32) → (Nat → Int32) × (Nat → Nat → Int32))  (F9 : Nat → Int32) (R10 : Nat → Nat → Int32) (y8 : Int32) : (Nat → Int32) × (Nat → Nat → Int32) :=
  if 200 ≤ y8 then K_X3_product_c5_103 F9 R10 else k_lt (sp_X3_sign F9 R10) (fun r16 => if r16 = 42 then K_X3_product_c5_41 b7 F9 R10 y8 else k_lt (sp_X3_sign F9 R10) (fun r64 => if r64 = 47 then K_X3_product_c5_41 b7 F9 R10 y8 else k_lt (sp_X3_sign F9 R10) (fun r73 => if r73 = 37 then K_X3_product_c5_41 b7 F9 R10 y8 else K_X3_product_c5_103 F9 R10)))
def K_X3_product_c5_7  : Nat → (Nat → Int32) → (Nat → Nat → Int32) → (Int32) → (Nat → Int32) × (Nat → Nat → Int32)
  | 0 => fun F9 R10 _ => (F9, R10)
  | n + 1 => KB_X3_product_c5_7 (K_X3_product_c5_7 n)
def sp_X3_product_c5 (F : Nat → Int32) (R : Nat → Nat → Int32) : (Nat → Int32) × (Nat → Nat → Int32) :=
  k_lt2 (sp_X3_factor_c5 F R) (fun F5 R6 => K_X3_product_c5_7 8589934592 F5 R6 0)
def md_X3_product_c5 : List Nat := [402, 531, 532]
def mr_X3_product_c5 : List Nat := [26, 27]
set_option maxHeartbeats 4000000 in
set_option maxRecDepth 100000 in
theorem w_X3_product_c5 (l : Launch) (X : gX) (ad : Nat → Nat) (F : Nat → Int32) (R : Nat → Nat → Int32) (hI : g_ok LK_wX F) (hA : g_okR LA_wX R) : g_Cv l X yX3_product cX3_product 4 9 0 0 [.ref (ad 33), .int 5] (wX X ad F R) (fun w => ∃ (F' : Nat → Int32) (R' : Nat → Nat → Int32), w = wX X ad F' R' ∧ g_ok LK_wX F' ∧ g_okR LA_wX R' ∧ g_fr md_X3_product_c5 F F' ∧ g_fr mr_X3_product_c5 R R' ∧ (F', R') = sp_X3_product_c5 F R) := by
  refine g_mv (by decide +kernel) (Nat.le_of_ble_eq_true rfl) (fun E cx hret => ?_)
  obtain ⟨SP, hSP⟩ : ∃ z, z = sp_X3_product_c5 F R := ⟨_, rfl⟩
  have hk0 := hSP
  unfold sp_X3_product_c5 at hk0
  refine g_aload_n cx 0 rfl e_X3_product_0 ?_
  refine g_iload_n cx 1 rfl e_X3_product_1 ?_
  refine g_cVvW cx [.int 5] [] (w_X3_factor_c5 l X ad F R hI hA) ml_X3_99 yV_X3_factor e_X3_product_2 (by unfold g_rr; decide) (by decide) 33 rfl rfl rfl (Nat.le_of_ble_eq_true rfl) (fun w2 h3 => ?_)
  obtain ⟨F5, R6, rfl, oF5, oR6, cF5, cR6, hx4⟩ := h3
  have hk7 := k_ls2 hk0 hx4
  have fF5 : g_fr md_X3_product_c5 F F5 := g_fr_c (g_fr_rf F) cF5 rfl
  have fR6 : g_fr mr_X3_product_c5 R R6 := g_fr_c (g_fr_rf R) cR6 rfl
  refine g_iconst cx 0 (by decide) e_X3_product_5 ?_
  refine g_istore_n cx [(2, .int 0), (0, .ref (ad 33)), (1, .int 5)] e_X3_product_6 (by decide) rfl ?_
  have J7 : ∀ (N : Nat) (F9 : Nat → Int32) (R10 : Nat → Nat → Int32) (y8 : Int32), (g_ok LK_wX F9) → (g_fr md_X3_product_c5 F F9) → (g_okR LA_wX R10) → (g_fr mr_X3_product_c5 R R10) → (jv 0 200 y8) → (SP = K_X3_product_c5_7 N F9 R10 y8) → (2147483647 - y8.toInt).toNat < N → G X E 4 0 0 (wX X ad F9 R10) [(0, .ref (ad 33)), (1, .int 5), (2, .int y8)] 7 [] := by
    intro N
    induction N with
    | zero => intro F9 R10 y8 oF9 fF9 oR10 fR10 py8 hkJ7 hm; exact absurd hm (Nat.not_lt_zero _)
    | succ N ih7 =>
      intro F9 R10 y8 oF9 fF9 oR10 fR10 py8 hkJ7 hm7
      have hkK7 : SP = KB_X3_product_c5_7 (K_X3_product_c5_7 N) F9 R10 y8 := hkJ7
      obtain ⟨b7, hb7⟩ : ∃ z, z = K_X3_product_c5_7 N := ⟨_, rfl⟩
      rw [← hb7] at hkK7
      unfold KB_X3_product_c5_7 at hkK7
      refine g_iload_n cx 2 rfl e_X3_product_7 ?_
      refine g_sipush cx 200 (by decide) e_X3_product_8 ?_
      have J103 : (SP = K_X3_product_c5_103 F9 R10) → G X E 4 0 0 (wX X ad F9 R10) [] 103 [] := by
        intro   hkJ103
        unfold K_X3_product_c5_103 at hkJ103
        exact hret e_X3_product_103 (Nat.le_of_ble_eq_true rfl) (Nat.le_of_ble_eq_true rfl) ⟨F9, R10, rfl, oF9, oR10, fF9, fR10, (hkJ103.symm.trans hSP)⟩
      refine g_icmp_ge cx 103 e_X3_product_11 (by decide) (fun zc11 => ?_) (fun zc11 => ?_)
      · have p12 := gn_ge 200 200 (gc_le zc11) py8 (jv_k (x := 200) 200 (by decide)) (by decide)
        have hk13 := hkK7.trans (if_pos zc11)
        refine g_lsub [] [] rfl ?_
        exact J103  hk13
      · have p14 := gn_lt 0 199 (gc_nle zc11) py8 (jv_k (x := 200) 200 (by decide)) (by decide)
        have hk15 := hkK7.trans (if_neg zc11)
        refine g_aload_n cx 0 rfl e_X3_product_14 ?_
        refine g_cViW cx [] [] (w_X3_sign l X ad F9 R10 oF9 oR10) ml_X3_42 yV_X3_sign e_X3_product_15 (by unfold g_rr; decide) (by decide) 33 rfl rfl rfl (Nat.le_of_ble_eq_true rfl) (fun r16 w17 h18 => ?_)
        obtain ⟨rfl, pr16, hx19⟩ := h18
        have hk20 := k_ls hk15 hx19
        refine g_bipush cx 42 (by decide) e_X3_product_18 ?_
        have J41 : (SP = K_X3_product_c5_41 b7 F9 R10 y8) → G X E 4 0 0 (wX X ad F9 R10) [(0, .ref (ad 33)), (1, .int 5), (2, .int y8)] 41 [] := by
          intro   hkJ41
          unfold K_X3_product_c5_41 at hkJ41
          refine g_aload_n cx 0 rfl e_X3_product_41 ?_
          refine g_cViW cx [] [] (w_X3_sign l X ad F9 R10 oF9 oR10) ml_X3_42 yV_X3_sign e_X3_product_42 (by unfold g_rr; decide) (by decide) 33 rfl rfl rfl (Nat.le_of_ble_eq_true rfl) (fun r21 w22 h23 => ?_)
          obtain ⟨rfl, pr21, hx24⟩ := h23
          have hk25 := k_ls hkJ41 hx24
          refine g_bipush cx 42 (by decide) e_X3_product_45 ?_
          have J71 : ∀ (y26 : Int32), (jv 8 10 y26) → (SP = K_X3_product_c5_71 b7 F9 R10 y8 y26) → G X E 4 0 0 (wX X ad F9 R10) [(0, .ref (ad 33)), (1, .int 5), (2, .int y8)] 71 [.int y26] := by
            intro y26 py26 hkJ71
            unfold K_X3_product_c5_71 at hkJ71
            refine g_istore_n cx [(3, .int y26), (0, .ref (ad 33)), (1, .int 5), (2, .int y8)] e_X3_product_71 (by decide) rfl ?_
            refine g_aload_n cx 1 rfl e_X3_product_72 ?_
            refine g_dup cx rfl e_X3_product_73 ?_
            refine g_get cx cl_X3 fl_X3_19 33 (.int (F9 531)) e_X3_product_74 rfl rfl ?_
            refine g_iconst cx 1 (by decide) e_X3_product_77 ?_
            refine g_iadd cx e_X3_product_78 ?_
            refine g_topi (fun x27 ex27 => ?_)
            have hk28 := k_ls hkJ71 ex27
            refine g_put cx cl_X3 fl_X3_19 33 (wX X ad (upd F9 531 x27) R10) e_X3_product_79 rfl rfl rfl rfl (Nat.le_of_ble_eq_true rfl) rfl ?_
            obtain ⟨F29, hF29⟩ : ∃ z, z = upd F9 531 x27 := ⟨_, rfl⟩
            rw [← hF29]
            have hk30 := k_ls hk28 hF29
            have oF29 : g_ok LK_wX F29 := by rw [hF29]; exact g_ok_u oF9 rfl
            have fF29 : g_fr md_X3_product_c5 F F29 := by rw [hF29]; exact g_fr_u fF9 rfl
            refine g_aload_n cx 1 rfl e_X3_product_82 ?_
            refine g_iload_n cx 2 rfl e_X3_product_83 ?_
            refine g_cVvW cx [.int 5] [] (w_X3_factor_c5 l X ad F29 R10 oF29 oR10) ml_X3_99 yV_X3_factor e_X3_product_84 (by unfold g_rr; decide) (by decide) 33 rfl rfl rfl (Nat.le_of_ble_eq_true rfl) (fun w32 h33 => ?_)
            obtain ⟨F35, R36, rfl, oF35, oR36, cF35, cR36, hx34⟩ := h33
            have hk37 := k_ls2 hk30 hx34
            have fF35 : g_fr md_X3_product_c5 F F35 := g_fr_c fF29 cF35 rfl
            have fR36 : g_fr mr_X3_product_c5 R R36 := g_fr_c fR10 cR36 rfl
            refine g_aload_n cx 1 rfl e_X3_product_87 ?_
            refine g_get cx cl_X3 fl_X3_25 33 (.ref (ad 25)) e_X3_product_88 rfl rfl ?_
            refine g_iload_n cx 0 rfl e_X3_product_91 ?_
            refine g_iconst cx 0 (by decide) e_X3_product_92 ?_
            refine g_cViW cx [.int y26, .int 0] [] (w_X2_emit_25 l X ad F35 R36 oF35 oR36 y26 0) ml_X3_66 yV_X2_emit e_X3_product_93 (by unfold g_rr; decide) (by decide) 25 rfl rfl rfl (Nat.le_of_ble_eq_true rfl) (fun r38 w39 h40 => ?_)
            obtain ⟨F42, R43, rfl, oF42, oR43, cF42, cR43, pr38, hx41⟩ := h40
            have hk44 := k_ls3 hk37 hx41
            have fF42 : g_fr md_X3_product_c5 F F42 := g_fr_c fF35 cF42 rfl
            have fR43 : g_fr mr_X3_product_c5 R R43 := g_fr_c fR36 cR43 rfl
            refine g_pop cx rfl e_X3_product_96 ?_
            obtain ⟨x45, ex45⟩ : ∃ z : Int32, z = y8 + Int32.ofInt 1 := ⟨_, rfl⟩
            have hk46 := k_ls hk44 (show x45 = y8 + 1 from ex45)
            refine g_iinc cx x45 [(2, .int x45), (3, .int y26), (0, .ref (ad 33)), (1, .int 5)] 3 e_X3_product_97 rfl ex45.symm (by decide) rfl ?_
            have zx45 := jv_add 1 200 (show x45 = y8 + 1 from ex45) p14 (jv_k (x := 1) 1 (by decide)) (by decide)
            refine g_goto cx 7 e_X3_product_100 (by decide) ?_
            refine g_lsub [2, 3, 0] [(0, .ref (ad 33)), (1, .int 5), (2, .int x45)] rfl ?_
            exact ih7 F42 R43 x45 oF42 fF42 oR43 fR43 (jv_w zx45.2 (by decide)) (hk46.trans (by rw [hb7])) (Nat.lt_of_lt_of_le (show (2147483647 - x45.toInt).toNat < (2147483647 - y8.toInt).toNat from by have q0 := (jv_k (x := 1) 1 (by decide)).1; have q1 := (jv_k (x := 1) 1 (by decide)).2; have q2 := (jv_k (x := 200) 200 (by decide)).1; have q3 := (jv_k (x := 200) 200 (by decide)).2; have q4 := zx45.2.1; have q5 := zx45.2.2; have q6 := p14.1; have q7 := p14.2; have q8 := (gc_nle zc11); have q9 := (g_eq0 zx45.1); omega) (Nat.le_of_lt_succ hm7))
          refine g_icmp_ne cx 55 e_X3_product_47 (by decide) (fun zc47 => ?_) (fun zc47 => ?_)
          · have hk48 := hk25.trans (if_neg zc47)
            refine g_aload_n cx 0 rfl e_X3_product_55 ?_
            refine g_cViW cx [] [] (w_X3_sign l X ad F9 R10 oF9 oR10) ml_X3_42 yV_X3_sign e_X3_product_56 (by unfold g_rr; decide) (by decide) 33 rfl rfl rfl (Nat.le_of_ble_eq_true rfl) (fun r49 w50 h51 => ?_)
            obtain ⟨rfl, pr49, hx52⟩ := h51
            have hk53 := k_ls hk48 hx52
            refine g_bipush cx 47 (by decide) e_X3_product_59 ?_
            refine g_icmp_ne cx 69 e_X3_product_61 (by decide) (fun zc54 => ?_) (fun zc54 => ?_)
            · have hk55 := hk53.trans (if_neg zc54)
              refine g_bipush cx 10 (by decide) e_X3_product_69 ?_
              exact J71 10 (jv_w (jv_k (x := 10) 10 (by decide)) (by decide)) hk55
            · have p56 := gn_eq 47 47 (gc_eq zc54) pr49 (jv_k (x := 47) 47 (by decide)) (by decide)
              have hk57 := hk53.trans (if_pos zc54)
              refine g_bipush cx 9 (by decide) e_X3_product_64 ?_
              refine g_goto cx 71 e_X3_product_66 (by decide) ?_
              exact J71 9 (jv_w (jv_k (x := 9) 9 (by decide)) (by decide)) hk57
          · have p58 := gn_eq 42 42 (gc_eq zc47) pr21 (jv_k (x := 42) 42 (by decide)) (by decide)
            have hk59 := hk25.trans (if_pos zc47)
            refine g_bipush cx 8 (by decide) e_X3_product_50 ?_
            refine g_goto cx 71 e_X3_product_52 (by decide) ?_
            exact J71 8 (jv_w (jv_k (x := 8) 8 (by decide)) (by decide)) hk59
        refine g_icmp_eq cx 41 e_X3_product_20 (by decide) (fun zc60 => ?_) (fun zc60 => ?_)
        · have p61 := gn_eq 42 42 (gc_eq zc60) pr16 (jv_k (x := 42) 42 (by decide)) (by decide)
          have hk62 := hk20.trans (if_pos zc60)
          exact J41  hk62
        · have hk63 := hk20.trans (if_neg zc60)
          refine g_aload_n cx 0 rfl e_X3_product_23 ?_
          refine g_cViW cx [] [] (w_X3_sign l X ad F9 R10 oF9 oR10) ml_X3_42 yV_X3_sign e_X3_product_24 (by unfold g_rr; decide) (by decide) 33 rfl rfl rfl (Nat.le_of_ble_eq_true rfl) (fun r64 w65 h66 => ?_)
          obtain ⟨rfl, pr64, hx67⟩ := h66
          have hk68 := k_ls hk63 hx67
          refine g_bipush cx 47 (by decide) e_X3_product_27 ?_
          refine g_icmp_eq cx 41 e_X3_product_29 (by decide) (fun zc69 => ?_) (fun zc69 => ?_)
          · have p70 := gn_eq 47 47 (gc_eq zc69) pr64 (jv_k (x := 47) 47 (by decide)) (by decide)
            have hk71 := hk68.trans (if_pos zc69)
            exact J41  hk71
          · have hk72 := hk68.trans (if_neg zc69)
            refine g_aload_n cx 0 rfl e_X3_product_32 ?_
            refine g_cViW cx [] [] (w_X3_sign l X ad F9 R10 oF9 oR10) ml_X3_42 yV_X3_sign e_X3_product_33 (by unfold g_rr; decide) (by decide) 33 rfl rfl rfl (Nat.le_of_ble_eq_true rfl) (fun r73 w74 h75 => ?_)
            obtain ⟨rfl, pr73, hx76⟩ := h75
            have hk77 := k_ls hk72 hx76
            refine g_bipush cx 37 (by decide) e_X3_product_36 ?_
            refine g_icmp_ne cx 103 e_X3_product_38 (by decide) (fun zc78 => ?_) (fun zc78 => ?_)
            · have hk79 := hk77.trans (if_neg zc78)
              refine g_lsub [] [] rfl ?_
              exact J103  hk79
            · have p80 := gn_eq 37 37 (gc_eq zc78) pr73 (jv_k (x := 37) 37 (by decide)) (by decide)
              have hk81 := hk77.trans (if_pos zc78)
              exact J41  hk81
  refine g_lsub [1, 2, 0] [(0, .ref (ad 33)), (1, .int 5), (2, .int 0)] rfl ?_
  exact J7 8589934592 F5 R6 0 oF5 fF5 oR6 fR6 (jv_w (jv_k (x := 0) 0 (by decide)) (by decide)) hk7 (show (2147483647 - (0 : Int32).toInt).toNat < 8589934592 from by have q0 := (jv_k (x := 0) 0 (by decide)).1; have q1 := (jv_k (x := 0) 0 (by decide)).2; omega)
def K_X3_sum_c5_80 (F9 : Nat → Int32) (R10 : Nat → Nat → Int32)  : (Nat → Int32) × (Nat → Nat → Int32) :=
  (F9, R10)
def K_X3_sum_c5_48 (b7 : (Nat → Int32) → (Nat → Nat → Int32) → (Int32) → (Nat → Int32) × (Nat → Nat → Int32)) (F9 : Nat → Int32) (R10 : Nat → Nat → Int32) (y8 : Int32) (y26 : Int32) : (Nat → Int32) × (Nat → Nat → Int32) :=
  k_lt ((F9 531) + 1) (fun x27 => k_lt (upd F9 531 x27) (fun F29 => k_lt2 (sp_X3_product_c5 F29 R10) (fun F35 R36 => k_lt3 (sp_X2_emit_25 F35 R36 y26 0) (fun r38 F42 R43 => k_lt (y8 + 1) (fun x45 => b7 F42 R43 x45)))))
def K_X3_sum_c5_32 (b7 : (Nat → Int32) → (Nat → Nat → Int32) → (Int32) → (Nat → Int32) × (Nat → Nat → Int32)) (F9 : Nat → Int32) (R10 : Nat → Nat → Int32) (y8 : Int32)  : (Nat → Int32) × (Nat → Nat → Int32) :=
  k_lt (sp_X3_sign F9 R10) (fun r21 => if r21 = 43 then K_X3_sum_c5_48 b7 F9 R10 y8 6 else K_X3_sum_c5_48 b7 F9 R10 y8 7)
def KB_X3_sum_c5_7 (b7 : (Nat → Int32) → (Nat → Nat → Int32) → (Int32) → (Nat → Int32) × (Nat → Nat → Int32))  (F9 : Nat → Int32) (R10 : Nat → Nat → Int32) (y8 : Int32) : (Nat → Int32) × (Nat → Nat → Int32) :=
  if 200 ≤ y8 then K_X3_sum_c5_80 F9 R10 else k_lt (sp_X3_sign F9 R10) (fun r16 => if r16 = 43 then K_X3_sum_c5_32 b7 F9 R10 y8 else k_lt (sp_X3_sign F9 R10) (fun r55 => if r55 = 45 then K_X3_sum_c5_32 b7 F9 R10 y8 else K_X3_sum_c5_80 F9 R10))
def K_X3_sum_c5_7  : Nat → (Nat → Int32) → (Nat → Nat → Int32) → (Int32) → (Nat → Int32) × (Nat → Nat → Int32)
  | 0 => fun F9 R10 _ => (F9, R10)
  | n + 1 => KB_X3_sum_c5_7 (K_X3_sum_c5_7 n)
def sp_X3_sum_c5 (F : Nat → Int32) (R : Nat → Nat → Int32) : (Nat → Int32) × (Nat → Nat → Int32) :=
  k_lt2 (sp_X3_product_c5 F R) (fun F5 R6 => K_X3_sum_c5_7 8589934592 F5 R6 0)
def md_X3_sum_c5 : List Nat := [402, 531, 532]
def mr_X3_sum_c5 : List Nat := [26, 27]
set_option maxHeartbeats 4000000 in
set_option maxRecDepth 100000 in
theorem w_X3_sum_c5 (l : Launch) (X : gX) (ad : Nat → Nat) (F : Nat → Int32) (R : Nat → Nat → Int32) (hI : g_ok LK_wX F) (hA : g_okR LA_wX R) : g_Cv l X yX3_sum cX3_sum 4 10 0 0 [.ref (ad 33), .int 5] (wX X ad F R) (fun w => ∃ (F' : Nat → Int32) (R' : Nat → Nat → Int32), w = wX X ad F' R' ∧ g_ok LK_wX F' ∧ g_okR LA_wX R' ∧ g_fr md_X3_sum_c5 F F' ∧ g_fr mr_X3_sum_c5 R R' ∧ (F', R') = sp_X3_sum_c5 F R) := by
  refine g_mv (by decide +kernel) (Nat.le_of_ble_eq_true rfl) (fun E cx hret => ?_)
  obtain ⟨SP, hSP⟩ : ∃ z, z = sp_X3_sum_c5 F R := ⟨_, rfl⟩
  have hk0 := hSP
  unfold sp_X3_sum_c5 at hk0
  refine g_aload_n cx 0 rfl e_X3_sum_0 ?_
  refine g_iload_n cx 1 rfl e_X3_sum_1 ?_
  refine g_cVvW cx [.int 5] [] (w_X3_product_c5 l X ad F R hI hA) ml_X3_96 yV_X3_product e_X3_sum_2 (by unfold g_rr; decide) (by decide) 33 rfl rfl rfl (Nat.le_of_ble_eq_true rfl) (fun w2 h3 => ?_)
  obtain ⟨F5, R6, rfl, oF5, oR6, cF5, cR6, hx4⟩ := h3
  have hk7 := k_ls2 hk0 hx4
  have fF5 : g_fr md_X3_sum_c5 F F5 := g_fr_c (g_fr_rf F) cF5 rfl
  have fR6 : g_fr mr_X3_sum_c5 R R6 := g_fr_c (g_fr_rf R) cR6 rfl
  refine g_iconst cx 0 (by decide) e_X3_sum_5 ?_
  refine g_istore_n cx [(2, .int 0), (0, .ref (ad 33)), (1, .int 5)] e_X3_sum_6 (by decide) rfl ?_
  have J7 : ∀ (N : Nat) (F9 : Nat → Int32) (R10 : Nat → Nat → Int32) (y8 : Int32), (g_ok LK_wX F9) → (g_fr md_X3_sum_c5 F F9) → (g_okR LA_wX R10) → (g_fr mr_X3_sum_c5 R R10) → (jv 0 200 y8) → (SP = K_X3_sum_c5_7 N F9 R10 y8) → (2147483647 - y8.toInt).toNat < N → G X E 4 0 0 (wX X ad F9 R10) [(0, .ref (ad 33)), (1, .int 5), (2, .int y8)] 7 [] := by
    intro N
    induction N with
    | zero => intro F9 R10 y8 oF9 fF9 oR10 fR10 py8 hkJ7 hm; exact absurd hm (Nat.not_lt_zero _)
    | succ N ih7 =>
      intro F9 R10 y8 oF9 fF9 oR10 fR10 py8 hkJ7 hm7
      have hkK7 : SP = KB_X3_sum_c5_7 (K_X3_sum_c5_7 N) F9 R10 y8 := hkJ7
      obtain ⟨b7, hb7⟩ : ∃ z, z = K_X3_sum_c5_7 N := ⟨_, rfl⟩
      rw [← hb7] at hkK7
      unfold KB_X3_sum_c5_7 at hkK7
      refine g_iload_n cx 2 rfl e_X3_sum_7 ?_
      refine g_sipush cx 200 (by decide) e_X3_sum_8 ?_
      have J80 : (SP = K_X3_sum_c5_80 F9 R10) → G X E 4 0 0 (wX X ad F9 R10) [] 80 [] := by
        intro   hkJ80
        unfold K_X3_sum_c5_80 at hkJ80
        exact hret e_X3_sum_80 (Nat.le_of_ble_eq_true rfl) (Nat.le_of_ble_eq_true rfl) ⟨F9, R10, rfl, oF9, oR10, fF9, fR10, (hkJ80.symm.trans hSP)⟩
      refine g_icmp_ge cx 80 e_X3_sum_11 (by decide) (fun zc11 => ?_) (fun zc11 => ?_)
      · have p12 := gn_ge 200 200 (gc_le zc11) py8 (jv_k (x := 200) 200 (by decide)) (by decide)
        have hk13 := hkK7.trans (if_pos zc11)
        refine g_lsub [] [] rfl ?_
        exact J80  hk13
      · have p14 := gn_lt 0 199 (gc_nle zc11) py8 (jv_k (x := 200) 200 (by decide)) (by decide)
        have hk15 := hkK7.trans (if_neg zc11)
        refine g_aload_n cx 0 rfl e_X3_sum_14 ?_
        refine g_cViW cx [] [] (w_X3_sign l X ad F9 R10 oF9 oR10) ml_X3_42 yV_X3_sign e_X3_sum_15 (by unfold g_rr; decide) (by decide) 33 rfl rfl rfl (Nat.le_of_ble_eq_true rfl) (fun r16 w17 h18 => ?_)
        obtain ⟨rfl, pr16, hx19⟩ := h18
        have hk20 := k_ls hk15 hx19
        refine g_bipush cx 43 (by decide) e_X3_sum_18 ?_
        have J32 : (SP = K_X3_sum_c5_32 b7 F9 R10 y8) → G X E 4 0 0 (wX X ad F9 R10) [(0, .ref (ad 33)), (1, .int 5), (2, .int y8)] 32 [] := by
          intro   hkJ32
          unfold K_X3_sum_c5_32 at hkJ32
          refine g_aload_n cx 0 rfl e_X3_sum_32 ?_
          refine g_cViW cx [] [] (w_X3_sign l X ad F9 R10 oF9 oR10) ml_X3_42 yV_X3_sign e_X3_sum_33 (by unfold g_rr; decide) (by decide) 33 rfl rfl rfl (Nat.le_of_ble_eq_true rfl) (fun r21 w22 h23 => ?_)
          obtain ⟨rfl, pr21, hx24⟩ := h23
          have hk25 := k_ls hkJ32 hx24
          refine g_bipush cx 43 (by decide) e_X3_sum_36 ?_
          have J48 : ∀ (y26 : Int32), (jv 6 7 y26) → (SP = K_X3_sum_c5_48 b7 F9 R10 y8 y26) → G X E 4 0 0 (wX X ad F9 R10) [(0, .ref (ad 33)), (1, .int 5), (2, .int y8)] 48 [.int y26] := by
            intro y26 py26 hkJ48
            unfold K_X3_sum_c5_48 at hkJ48
            refine g_istore_n cx [(3, .int y26), (0, .ref (ad 33)), (1, .int 5), (2, .int y8)] e_X3_sum_48 (by decide) rfl ?_
            refine g_aload_n cx 1 rfl e_X3_sum_49 ?_
            refine g_dup cx rfl e_X3_sum_50 ?_
            refine g_get cx cl_X3 fl_X3_19 33 (.int (F9 531)) e_X3_sum_51 rfl rfl ?_
            refine g_iconst cx 1 (by decide) e_X3_sum_54 ?_
            refine g_iadd cx e_X3_sum_55 ?_
            refine g_topi (fun x27 ex27 => ?_)
            have hk28 := k_ls hkJ48 ex27
            refine g_put cx cl_X3 fl_X3_19 33 (wX X ad (upd F9 531 x27) R10) e_X3_sum_56 rfl rfl rfl rfl (Nat.le_of_ble_eq_true rfl) rfl ?_
            obtain ⟨F29, hF29⟩ : ∃ z, z = upd F9 531 x27 := ⟨_, rfl⟩
            rw [← hF29]
            have hk30 := k_ls hk28 hF29
            have oF29 : g_ok LK_wX F29 := by rw [hF29]; exact g_ok_u oF9 rfl
            have fF29 : g_fr md_X3_sum_c5 F F29 := by rw [hF29]; exact g_fr_u fF9 rfl
            refine g_aload_n cx 1 rfl e_X3_sum_59 ?_
            refine g_iload_n cx 2 rfl e_X3_sum_60 ?_
            refine g_cVvW cx [.int 5] [] (w_X3_product_c5 l X ad F29 R10 oF29 oR10) ml_X3_96 yV_X3_product e_X3_sum_61 (by unfold g_rr; decide) (by decide) 33 rfl rfl rfl (Nat.le_of_ble_eq_true rfl) (fun w32 h33 => ?_)
            obtain ⟨F35, R36, rfl, oF35, oR36, cF35, cR36, hx34⟩ := h33
            have hk37 := k_ls2 hk30 hx34
            have fF35 : g_fr md_X3_sum_c5 F F35 := g_fr_c fF29 cF35 rfl
            have fR36 : g_fr mr_X3_sum_c5 R R36 := g_fr_c fR10 cR36 rfl
            refine g_aload_n cx 1 rfl e_X3_sum_64 ?_
            refine g_get cx cl_X3 fl_X3_25 33 (.ref (ad 25)) e_X3_sum_65 rfl rfl ?_
            refine g_iload_n cx 0 rfl e_X3_sum_68 ?_
            refine g_iconst cx 0 (by decide) e_X3_sum_69 ?_
            refine g_cViW cx [.int y26, .int 0] [] (w_X2_emit_25 l X ad F35 R36 oF35 oR36 y26 0) ml_X3_66 yV_X2_emit e_X3_sum_70 (by unfold g_rr; decide) (by decide) 25 rfl rfl rfl (Nat.le_of_ble_eq_true rfl) (fun r38 w39 h40 => ?_)
            obtain ⟨F42, R43, rfl, oF42, oR43, cF42, cR43, pr38, hx41⟩ := h40
            have hk44 := k_ls3 hk37 hx41
            have fF42 : g_fr md_X3_sum_c5 F F42 := g_fr_c fF35 cF42 rfl
            have fR43 : g_fr mr_X3_sum_c5 R R43 := g_fr_c fR36 cR43 rfl
            refine g_pop cx rfl e_X3_sum_73 ?_
            obtain ⟨x45, ex45⟩ : ∃ z : Int32, z = y8 + Int32.ofInt 1 := ⟨_, rfl⟩
            have hk46 := k_ls hk44 (show x45 = y8 + 1 from ex45)
            refine g_iinc cx x45 [(2, .int x45), (3, .int y26), (0, .ref (ad 33)), (1, .int 5)] 3 e_X3_sum_74 rfl ex45.symm (by decide) rfl ?_
            have zx45 := jv_add 1 200 (show x45 = y8 + 1 from ex45) p14 (jv_k (x := 1) 1 (by decide)) (by decide)
            refine g_goto cx 7 e_X3_sum_77 (by decide) ?_
            refine g_lsub [2, 3, 0] [(0, .ref (ad 33)), (1, .int 5), (2, .int x45)] rfl ?_
            exact ih7 F42 R43 x45 oF42 fF42 oR43 fR43 (jv_w zx45.2 (by decide)) (hk46.trans (by rw [hb7])) (Nat.lt_of_lt_of_le (show (2147483647 - x45.toInt).toNat < (2147483647 - y8.toInt).toNat from by have q0 := (jv_k (x := 1) 1 (by decide)).1; have q1 := (jv_k (x := 1) 1 (by decide)).2; have q2 := (jv_k (x := 200) 200 (by decide)).1; have q3 := (jv_k (x := 200) 200 (by decide)).2; have q4 := zx45.2.1; have q5 := zx45.2.2; have q6 := p14.1; have q7 := p14.2; have q8 := (gc_nle zc11); have q9 := (g_eq0 zx45.1); omega) (Nat.le_of_lt_succ hm7))
          refine g_icmp_ne cx 46 e_X3_sum_38 (by decide) (fun zc47 => ?_) (fun zc47 => ?_)
          · have hk48 := hk25.trans (if_neg zc47)
            refine g_bipush cx 7 (by decide) e_X3_sum_46 ?_
            exact J48 7 (jv_w (jv_k (x := 7) 7 (by decide)) (by decide)) hk48
          · have p49 := gn_eq 43 43 (gc_eq zc47) pr21 (jv_k (x := 43) 43 (by decide)) (by decide)
            have hk50 := hk25.trans (if_pos zc47)
            refine g_bipush cx 6 (by decide) e_X3_sum_41 ?_
            refine g_goto cx 48 e_X3_sum_43 (by decide) ?_
            exact J48 6 (jv_w (jv_k (x := 6) 6 (by decide)) (by decide)) hk50
        refine g_icmp_eq cx 32 e_X3_sum_20 (by decide) (fun zc51 => ?_) (fun zc51 => ?_)
        · have p52 := gn_eq 43 43 (gc_eq zc51) pr16 (jv_k (x := 43) 43 (by decide)) (by decide)
          have hk53 := hk20.trans (if_pos zc51)
          exact J32  hk53
        · have hk54 := hk20.trans (if_neg zc51)
          refine g_aload_n cx 0 rfl e_X3_sum_23 ?_
          refine g_cViW cx [] [] (w_X3_sign l X ad F9 R10 oF9 oR10) ml_X3_42 yV_X3_sign e_X3_sum_24 (by unfold g_rr; decide) (by decide) 33 rfl rfl rfl (Nat.le_of_ble_eq_true rfl) (fun r55 w56 h57 => ?_)
          obtain ⟨rfl, pr55, hx58⟩ := h57
          have hk59 := k_ls hk54 hx58
          refine g_bipush cx 45 (by decide) e_X3_sum_27 ?_
          refine g_icmp_ne cx 80 e_X3_sum_29 (by decide) (fun zc60 => ?_) (fun zc60 => ?_)
          · have hk61 := hk59.trans (if_neg zc60)
            refine g_lsub [] [] rfl ?_
            exact J80  hk61
          · have p62 := gn_eq 45 45 (gc_eq zc60) pr55 (jv_k (x := 45) 45 (by decide)) (by decide)
            have hk63 := hk59.trans (if_pos zc60)
            exact J32  hk63
  refine g_lsub [1, 2, 0] [(0, .ref (ad 33)), (1, .int 5), (2, .int 0)] rfl ?_
  exact J7 8589934592 F5 R6 0 oF5 fF5 oR6 fR6 (jv_w (jv_k (x := 0) 0 (by decide)) (by decide)) hk7 (show (2147483647 - (0 : Int32).toInt).toNat < 8589934592 from by have q0 := (jv_k (x := 0) 0 (by decide)).1; have q1 := (jv_k (x := 0) 0 (by decide)).2; omega)
def K_X3_factor_c4_72 (F : Nat → Int32) (R : Nat → Nat → Int32) (y25 : Int32) : (Nat → Int32) × (Nat → Nat → Int32) :=
  if 0 ≤ y25 then k_lt ((F 531) + 1) (fun x29 => k_lt (upd F 531 x29) (fun F31 => k_lt3 (sp_X2_emit_25 F31 R 2 y25) (fun r33 F37 R38 => (F37, R38)))) else k_lt2 (sp_X3_fail F R 1) (fun F46 R47 => (F46, R47))
def sp_X3_factor_c4 (F : Nat → Int32) (R : Nat → Nat → Int32) : (Nat → Int32) × (Nat → Nat → Int32) :=
  k_lt (sp_X3_sign F R) (fun r1 => if r1 = 91 then k_lt3 (sp_X3_opens_c4 F R) (fun r76 F80 R81 => k_lt2 (sp_X3_sum_c5 F80 R81) (fun F88 R89 => k_lt2 (sp_X3_pass F88 R89 93) (fun F95 R96 => (F95, R96)))) else k_lt (sp_X3_sign F R) (fun r8 => k_lt (g_in r8 48 57) (fun r13 => if r13 = 0 then k_lt (sp_X3_sign F R) (fun r20 => if r20 = (-1) then K_X3_factor_c4_72 F R (-1) else k_lt (sp_X3_sign F R) (fun r51 => k_lt ((r51.toUInt32 % 65536).toInt32) (fun x56 => k_lt (sp_J0_indexOf_0f7a4_s1 x56) (fun r58 => K_X3_factor_c4_72 F R r58)))) else k_lt2 (sp_X3_number F R) (fun F71 R72 => (F71, R72)))))
def md_X3_factor_c4 : List Nat := [402, 531, 532]
def mr_X3_factor_c4 : List Nat := [26, 27]
set_option maxHeartbeats 4000000 in
set_option maxRecDepth 100000 in
theorem w_X3_factor_c4 (l : Launch) (X : gX) (ad : Nat → Nat) (F : Nat → Int32) (R : Nat → Nat → Int32) (hI : g_ok LK_wX F) (hA : g_okR LA_wX R) : g_Cv l X yX3_factor cX3_factor 3 11 0 0 [.ref (ad 33), .int 4] (wX X ad F R) (fun w => ∃ (F' : Nat → Int32) (R' : Nat → Nat → Int32), w = wX X ad F' R' ∧ g_ok LK_wX F' ∧ g_okR LA_wX R' ∧ g_fr md_X3_factor_c4 F F' ∧ g_fr mr_X3_factor_c4 R R' ∧ (F', R') = sp_X3_factor_c4 F R) := by
  refine g_mv (by decide +kernel) (Nat.le_of_ble_eq_true rfl) (fun E cx hret => ?_)
  obtain ⟨SP, hSP⟩ : ∃ z, z = sp_X3_factor_c4 F R := ⟨_, rfl⟩
  have hk0 := hSP
  unfold sp_X3_factor_c4 at hk0
  refine g_aload_n cx 0 rfl e_X3_factor_0 ?_
  refine g_cViW cx [] [] (w_X3_sign l X ad F R hI hA) ml_X3_42 yV_X3_sign e_X3_factor_1 (by unfold g_rr; decide) (by decide) 33 rfl rfl rfl (Nat.le_of_ble_eq_true rfl) (fun r1 w2 h3 => ?_)
  obtain ⟨rfl, pr1, hx4⟩ := h3
  have hk5 := k_ls hk0 hx4
  refine g_bipush cx 91 (by decide) e_X3_factor_4 ?_
  refine g_icmp_ne cx 31 e_X3_factor_6 (by decide) (fun zc6 => ?_) (fun zc6 => ?_)
  · have hk7 := hk5.trans (if_neg zc6)
    refine g_aload_n cx 0 rfl e_X3_factor_31 ?_
    refine g_cViW cx [] [] (w_X3_sign l X ad F R hI hA) ml_X3_42 yV_X3_sign e_X3_factor_32 (by unfold g_rr; decide) (by decide) 33 rfl rfl rfl (Nat.le_of_ble_eq_true rfl) (fun r8 w9 h10 => ?_)
    obtain ⟨rfl, pr8, hx11⟩ := h10
    have hk12 := k_ls hk7 hx11
    refine g_bipush cx 48 (by decide) e_X3_factor_35 ?_
    refine g_bipush cx 57 (by decide) e_X3_factor_37 ?_
    refine g_cNiW cx [.int r8, .int 48, .int 57] [] (c_X10_within l X (wX X ad F R) r8 48 57) mn_X3_102 yS_X10_within e_X3_factor_39 (by unfold g_rr; decide) (by decide) rfl (Nat.le_of_ble_eq_true rfl) (fun r13 w14 h15 => ?_)
    obtain ⟨rfl, hr13⟩ := h15
    have pr13 : jv 0 1 r13 := by rw [hr13]; exact gi_01 _ _ _
    have hk16 := k_ls hk12 hr13
    refine g_if_eq cx 50 e_X3_factor_42 (by decide) (fun zc17 => ?_) (fun zc17 => ?_)
    · have p18 := gn_eq 0 0 (gc_eq zc17) pr13 (jv_k (x := 0) 0 (by decide)) (by decide)
      have hk19 := hk16.trans (if_pos zc17)
      refine g_aload_n cx 0 rfl e_X3_factor_50 ?_
      refine g_cViW cx [] [] (w_X3_sign l X ad F R hI hA) ml_X3_42 yV_X3_sign e_X3_factor_51 (by unfold g_rr; decide) (by decide) 33 rfl rfl rfl (Nat.le_of_ble_eq_true rfl) (fun r20 w21 h22 => ?_)
      obtain ⟨rfl, pr20, hx23⟩ := h22
      have hk24 := k_ls hk19 hx23
      refine g_iconst cx (-1) (by decide) e_X3_factor_54 ?_
      have J72 : ∀ (y25 : Int32), (jv (-1) 11 y25) → (SP = K_X3_factor_c4_72 F R y25) → G X E 3 0 0 (wX X ad F R) [(0, .ref (ad 33))] 72 [.int y25] := by
        intro y25 py25 hkJ72
        unfold K_X3_factor_c4_72 at hkJ72
        refine g_istore_n cx [(2, .int y25), (0, .ref (ad 33))] e_X3_factor_72 (by decide) rfl ?_
        refine g_iload_n cx 0 rfl e_X3_factor_73 ?_
        refine g_if_ge cx 83 e_X3_factor_74 (by decide) (fun zc26 => ?_) (fun zc26 => ?_)
        · have p27 := gn_ge 0 11 (gc_le zc26) py25 (jv_k (x := 0) 0 (by decide)) (by decide)
          have hk28 := hkJ72.trans (if_pos zc26)
          refine g_aload_n cx 1 rfl e_X3_factor_83 ?_
          refine g_dup cx rfl e_X3_factor_84 ?_
          refine g_get cx cl_X3 fl_X3_19 33 (.int (F 531)) e_X3_factor_85 rfl rfl ?_
          refine g_iconst cx 1 (by decide) e_X3_factor_88 ?_
          refine g_iadd cx e_X3_factor_89 ?_
          refine g_topi (fun x29 ex29 => ?_)
          have hk30 := k_ls hk28 ex29
          refine g_put cx cl_X3 fl_X3_19 33 (wX X ad (upd F 531 x29) R) e_X3_factor_90 rfl rfl rfl rfl (Nat.le_of_ble_eq_true rfl) rfl ?_
          obtain ⟨F31, hF31⟩ : ∃ z, z = upd F 531 x29 := ⟨_, rfl⟩
          rw [← hF31]
          have hk32 := k_ls hk30 hF31
          have oF31 : g_ok LK_wX F31 := by rw [hF31]; exact g_ok_u hI rfl
          have fF31 : g_fr md_X3_factor_c4 F F31 := by rw [hF31]; exact g_fr_u (g_fr_rf F) rfl
          refine g_aload_n cx 1 rfl e_X3_factor_93 ?_
          refine g_get cx cl_X3 fl_X3_25 33 (.ref (ad 25)) e_X3_factor_94 rfl rfl ?_
          refine g_iconst cx 2 (by decide) e_X3_factor_97 ?_
          refine g_iload_n cx 0 rfl e_X3_factor_98 ?_
          refine g_cViW cx [.int 2, .int y25] [] (w_X2_emit_25 l X ad F31 R oF31 hA 2 y25) ml_X3_66 yV_X2_emit e_X3_factor_99 (by unfold g_rr; decide) (by decide) 25 rfl rfl rfl (Nat.le_of_ble_eq_true rfl) (fun r33 w34 h35 => ?_)
          obtain ⟨F37, R38, rfl, oF37, oR38, cF37, cR38, pr33, hx36⟩ := h35
          have hk39 := k_ls3 hk32 hx36
          have fF37 : g_fr md_X3_factor_c4 F F37 := g_fr_c fF31 cF37 rfl
          have fR38 : g_fr mr_X3_factor_c4 R R38 := g_fr_c (g_fr_rf R) cR38 rfl
          refine g_pop cx rfl e_X3_factor_102 ?_
          exact hret e_X3_factor_103 (Nat.le_of_ble_eq_true rfl) (Nat.le_of_ble_eq_true rfl) ⟨F37, R38, rfl, oF37, oR38, fF37, fR38, (hk39.symm.trans hSP)⟩
        · have p40 := gn_lt (-1) (-1) (gc_nle zc26) py25 (jv_k (x := 0) 0 (by decide)) (by decide)
          have hk41 := hkJ72.trans (if_neg zc26)
          refine g_aload_n cx 1 rfl e_X3_factor_77 ?_
          refine g_iconst cx 1 (by decide) e_X3_factor_78 ?_
          refine g_cVvW cx [.int 1] [] (w_X3_fail l X ad F R hI hA 1) ml_X3_46 yV_X3_fail e_X3_factor_79 (by unfold g_rr; decide) (by decide) 33 rfl rfl rfl (Nat.le_of_ble_eq_true rfl) (fun w43 h44 => ?_)
          obtain ⟨F46, R47, rfl, oF46, oR47, cF46, cR47, hx45⟩ := h44
          have hk48 := k_ls2 hk41 hx45
          have fF46 : g_fr md_X3_factor_c4 F F46 := g_fr_c (g_fr_rf F) cF46 rfl
          have fR47 : g_fr mr_X3_factor_c4 R R47 := g_fr_c (g_fr_rf R) cR47 rfl
          exact hret e_X3_factor_82 (Nat.le_of_ble_eq_true rfl) (Nat.le_of_ble_eq_true rfl) ⟨F46, R47, rfl, oF46, oR47, fF46, fR47, (hk48.symm.trans hSP)⟩
      refine g_icmp_ne cx 62 e_X3_factor_55 (by decide) (fun zc49 => ?_) (fun zc49 => ?_)
      · have hk50 := hk24.trans (if_neg zc49)
        refine g_ldcS1 cx rfl e_X3_factor_62 ?_
        refine g_aload_n cx 0 rfl e_X3_factor_64 ?_
        refine g_cViW cx [] [.ref (X.1.2.2.2.1 1)] (w_X3_sign l X ad F R hI hA) ml_X3_42 yV_X3_sign e_X3_factor_65 (by unfold g_rr; decide) (by decide) 33 rfl rfl rfl (Nat.le_of_ble_eq_true rfl) (fun r51 w52 h53 => ?_)
        obtain ⟨rfl, pr51, hx54⟩ := h53
        have hk55 := k_ls hk50 hx54
        refine g_i2c cx e_X3_factor_68 ?_
        refine g_topi (fun x56 ex56 => ?_)
        have hk57 := k_ls hk55 ex56
        refine g_cVsW cx [.int x56] [] 1 (by decide) rfl (w_J0_indexOf_0f7a4_s1 l X (wX X ad F R) x56) ml_X3_52 yV_J0_indexOf_0f7a4 e_X3_factor_69 (by unfold g_rr; decide) (by decide) rfl (Nat.le_of_ble_eq_true rfl) (fun r58 w59 h60 => ?_)
        obtain ⟨rfl, pr58⟩ := h60
        obtain ⟨pr58, hxr58⟩ := pr58
        have hk61 := k_ls hk57 hxr58
        refine g_lsub [0] [(0, .ref (ad 33))] rfl ?_
        exact J72 r58 pr58 hk61
      · have p62 := gn_eq (-1) (-1) (gc_eq zc49) pr20 (jv_k (x := (-1)) (-1) (by decide)) (by decide)
        have hk63 := hk24.trans (if_pos zc49)
        refine g_iconst cx (-1) (by decide) e_X3_factor_58 ?_
        refine g_goto cx 72 e_X3_factor_59 (by decide) ?_
        refine g_lsub [0] [(0, .ref (ad 33))] rfl ?_
        exact J72 (-1) (jv_w (jv_k (x := (-1)) (-1) (by decide)) (by decide)) hk63
    · have p64 := gn_neL 1 1 (gc_ne zc17) pr13 (jv_k (x := 0) 0 (by decide)) (by decide)
      have p65 := jv_i 48 57 pr8 (gi_in (A := 48) (B := 57) hr13 zc17 (by decide) (by decide)) (by decide)
      have hk66 := hk16.trans (if_neg zc17)
      refine g_aload_n cx 0 rfl e_X3_factor_45 ?_
      refine g_cVvW cx [] [] (w_X3_number l X ad F R hI hA) ml_X3_106 yV_X3_number e_X3_factor_46 (by unfold g_rr; decide) (by decide) 33 rfl rfl rfl (Nat.le_of_ble_eq_true rfl) (fun w68 h69 => ?_)
      obtain ⟨F71, R72, rfl, oF71, oR72, cF71, cR72, hx70⟩ := h69
      have hk73 := k_ls2 hk66 hx70
      have fF71 : g_fr md_X3_factor_c4 F F71 := g_fr_c (g_fr_rf F) cF71 rfl
      have fR72 : g_fr mr_X3_factor_c4 R R72 := g_fr_c (g_fr_rf R) cR72 rfl
      exact hret e_X3_factor_49 (Nat.le_of_ble_eq_true rfl) (Nat.le_of_ble_eq_true rfl) ⟨F71, R72, rfl, oF71, oR72, fF71, fR72, (hk73.symm.trans hSP)⟩
  · have p74 := gn_eq 91 91 (gc_eq zc6) pr1 (jv_k (x := 91) 91 (by decide)) (by decide)
    have hk75 := hk5.trans (if_pos zc6)
    refine g_aload_n cx 0 rfl e_X3_factor_9 ?_
    refine g_iload_n cx 1 rfl e_X3_factor_10 ?_
    refine g_cViW cx [.int 4] [] (w_X3_opens_c4 l X ad F R hI hA) ml_X3_89 yV_X3_opens e_X3_factor_11 (by unfold g_rr; decide) (by decide) 33 rfl rfl rfl (Nat.le_of_ble_eq_true rfl) (fun r76 w77 h78 => ?_)
    obtain ⟨F80, R81, rfl, oF80, oR81, cF80, cR81, pr76, hx79⟩ := h78
    have hk82 := k_ls3 hk75 hx79
    have fF80 : g_fr md_X3_factor_c4 F F80 := g_fr_c (g_fr_rf F) cF80 rfl
    have fR81 : g_fr mr_X3_factor_c4 R R81 := g_fr_c (g_fr_rf R) cR81 rfl
    refine g_if_eq cx 30 e_X3_factor_14 (by decide) (fun zc83 => ?_) (fun zc83 => ?_)
    · exact (gf_eq (gc_eq zc83) pr76 (jv_k (x := 0) 0 (by decide)) (by decide)).elim
    · refine g_aload_n cx 0 rfl e_X3_factor_17 ?_
      refine g_iload_n cx 1 rfl e_X3_factor_18 ?_
      refine g_iconst cx 1 (by decide) e_X3_factor_19 ?_
      refine g_iadd cx e_X3_factor_20 ?_
      refine g_toi 5 (by decide) ?_
      refine g_cVvW cx [.int 5] [] (w_X3_sum_c5 l X ad F80 R81 oF80 oR81) ml_X3_63 yV_X3_sum e_X3_factor_21 (by unfold g_rr; decide) (by decide) 33 rfl rfl rfl (Nat.le_of_ble_eq_true rfl) (fun w85 h86 => ?_)
      obtain ⟨F88, R89, rfl, oF88, oR89, cF88, cR89, hx87⟩ := h86
      have hk90 := k_ls2 hk82 hx87
      have fF88 : g_fr md_X3_factor_c4 F F88 := g_fr_c fF80 cF88 rfl
      have fR89 : g_fr mr_X3_factor_c4 R R89 := g_fr_c fR81 cR89 rfl
      refine g_aload_n cx 0 rfl e_X3_factor_24 ?_
      refine g_bipush cx 93 (by decide) e_X3_factor_25 ?_
      refine g_cVvW cx [.int 93] [] (w_X3_pass l X ad F88 R89 oF88 oR89 93) ml_X3_70 yV_X3_pass e_X3_factor_27 (by unfold g_rr; decide) (by decide) 33 rfl rfl rfl (Nat.le_of_ble_eq_true rfl) (fun w92 h93 => ?_)
      obtain ⟨F95, R96, rfl, oF95, oR96, cF95, cR96, hx94⟩ := h93
      have hk97 := k_ls2 hk90 hx94
      have fF95 : g_fr md_X3_factor_c4 F F95 := g_fr_c fF88 cF95 rfl
      have fR96 : g_fr mr_X3_factor_c4 R R96 := g_fr_c fR89 cR96 rfl
      exact hret e_X3_factor_30 (Nat.le_of_ble_eq_true rfl) (Nat.le_of_ble_eq_true rfl) ⟨F95, R96, rfl, oF95, oR96, fF95, fR96, (hk97.symm.trans hSP)⟩
def K_X3_product_c4_103 (F9 : Nat → Int32) (R10 : Nat → Nat → Int32)  : (Nat → Int32) × (Nat → Nat → Int32) :=
  (F9, R10)
def K_X3_product_c4_71 (b7 : (Nat → Int32) → (Nat → Nat → Int32) → (Int32) → (Nat → Int32) × (Nat → Nat → Int32)) (F9 : Nat → Int32) (R10 : Nat → Nat → Int32) (y8 : Int32) (y26 : Int32) : (Nat → Int32) × (Nat → Nat → Int32) :=
  k_lt ((F9 531) + 1) (fun x27 => k_lt (upd F9 531 x27) (fun F29 => k_lt2 (sp_X3_factor_c4 F29 R10) (fun F35 R36 => k_lt3 (sp_X2_emit_25 F35 R36 y26 0) (fun r38 F42 R43 => k_lt (y8 + 1) (fun x45 => b7 F42 R43 x45)))))
def K_X3_product_c4_41 (b7 : (Nat → Int32) → (Nat → Nat → Int32) → (Int32) → (Nat → Int32) × (Nat → Nat → Int32)) (F9 : Nat → Int32) (R10 : Nat → Nat → Int32) (y8 : Int32)  : (Nat → Int32) × (Nat → Nat → Int32) :=
  k_lt (sp_X3_sign F9 R10) (fun r21 => if r21 = 42 then K_X3_product_c4_71 b7 F9 R10 y8 8 else k_lt (sp_X3_sign F9 R10) (fun r49 => if r49 = 47 then K_X3_product_c4_71 b7 F9 R10 y8 9 else K_X3_product_c4_71 b7 F9 R10 y8 10))
def KB_X3_product_c4_7 (b7 : (Nat → Int32) → (Nat → Nat → Int32) → (Int32) → (Nat → Int32) × (Nat → Nat → Int32))  (F9 : Nat → Int32) (R10 : Nat → Nat → Int32) (y8 : Int32) : (Nat → Int32) × (Nat → Nat → Int32) :=
  if 200 ≤ y8 then K_X3_product_c4_103 F9 R10 else k_lt (sp_X3_sign F9 R10) (fun r16 => if r16 = 42 then K_X3_product_c4_41 b7 F9 R10 y8 else k_lt (sp_X3_sign F9 R10) (fun r64 => if r64 = 47 then K_X3_product_c4_41 b7 F9 R10 y8 else k_lt (sp_X3_sign F9 R10) (fun r73 => if r73 = 37 then K_X3_product_c4_41 b7 F9 R10 y8 else K_X3_product_c4_103 F9 R10)))
def K_X3_product_c4_7  : Nat → (Nat → Int32) → (Nat → Nat → Int32) → (Int32) → (Nat → Int32) × (Nat → Nat → Int32)
  | 0 => fun F9 R10 _ => (F9, R10)
  | n + 1 => KB_X3_product_c4_7 (K_X3_product_c4_7 n)
def sp_X3_product_c4 (F : Nat → Int32) (R : Nat → Nat → Int32) : (Nat → Int32) × (Nat → Nat → Int32) :=
  k_lt2 (sp_X3_factor_c4 F R) (fun F5 R6 => K_X3_product_c4_7 8589934592 F5 R6 0)
def md_X3_product_c4 : List Nat := [402, 531, 532]
def mr_X3_product_c4 : List Nat := [26, 27]
set_option maxHeartbeats 4000000 in
set_option maxRecDepth 100000 in
theorem w_X3_product_c4 (l : Launch) (X : gX) (ad : Nat → Nat) (F : Nat → Int32) (R : Nat → Nat → Int32) (hI : g_ok LK_wX F) (hA : g_okR LA_wX R) : g_Cv l X yX3_product cX3_product 4 12 0 0 [.ref (ad 33), .int 4] (wX X ad F R) (fun w => ∃ (F' : Nat → Int32) (R' : Nat → Nat → Int32), w = wX X ad F' R' ∧ g_ok LK_wX F' ∧ g_okR LA_wX R' ∧ g_fr md_X3_product_c4 F F' ∧ g_fr mr_X3_product_c4 R R' ∧ (F', R') = sp_X3_product_c4 F R) := by
  refine g_mv (by decide +kernel) (Nat.le_of_ble_eq_true rfl) (fun E cx hret => ?_)
  obtain ⟨SP, hSP⟩ : ∃ z, z = sp_X3_product_c4 F R := ⟨_, rfl⟩
  have hk0 := hSP
  unfold sp_X3_product_c4 at hk0
  refine g_aload_n cx 0 rfl e_X3_product_0 ?_
  refine g_iload_n cx 1 rfl e_X3_product_1 ?_
  refine g_cVvW cx [.int 4] [] (w_X3_factor_c4 l X ad F R hI hA) ml_X3_99 yV_X3_factor e_X3_product_2 (by unfold g_rr; decide) (by decide) 33 rfl rfl rfl (Nat.le_of_ble_eq_true rfl) (fun w2 h3 => ?_)
  obtain ⟨F5, R6, rfl, oF5, oR6, cF5, cR6, hx4⟩ := h3
  have hk7 := k_ls2 hk0 hx4
  have fF5 : g_fr md_X3_product_c4 F F5 := g_fr_c (g_fr_rf F) cF5 rfl
  have fR6 : g_fr mr_X3_product_c4 R R6 := g_fr_c (g_fr_rf R) cR6 rfl
  refine g_iconst cx 0 (by decide) e_X3_product_5 ?_
  refine g_istore_n cx [(2, .int 0), (0, .ref (ad 33)), (1, .int 4)] e_X3_product_6 (by decide) rfl ?_
  have J7 : ∀ (N : Nat) (F9 : Nat → Int32) (R10 : Nat → Nat → Int32) (y8 : Int32), (g_ok LK_wX F9) → (g_fr md_X3_product_c4 F F9) → (g_okR LA_wX R10) → (g_fr mr_X3_product_c4 R R10) → (jv 0 200 y8) → (SP = K_X3_product_c4_7 N F9 R10 y8) → (2147483647 - y8.toInt).toNat < N → G X E 4 0 0 (wX X ad F9 R10) [(0, .ref (ad 33)), (1, .int 4), (2, .int y8)] 7 [] := by
    intro N
    induction N with
    | zero => intro F9 R10 y8 oF9 fF9 oR10 fR10 py8 hkJ7 hm; exact absurd hm (Nat.not_lt_zero _)
    | succ N ih7 =>
      intro F9 R10 y8 oF9 fF9 oR10 fR10 py8 hkJ7 hm7
      have hkK7 : SP = KB_X3_product_c4_7 (K_X3_product_c4_7 N) F9 R10 y8 := hkJ7
      obtain ⟨b7, hb7⟩ : ∃ z, z = K_X3_product_c4_7 N := ⟨_, rfl⟩
      rw [← hb7] at hkK7
      unfold KB_X3_product_c4_7 at hkK7
      refine g_iload_n cx 2 rfl e_X3_product_7 ?_
      refine g_sipush cx 200 (by decide) e_X3_product_8 ?_
      have J103 : (SP = K_X3_product_c4_103 F9 R10) → G X E 4 0 0 (wX X ad F9 R10) [] 103 [] := by
        intro   hkJ103
        unfold K_X3_product_c4_103 at hkJ103
        exact hret e_X3_product_103 (Nat.le_of_ble_eq_true rfl) (Nat.le_of_ble_eq_true rfl) ⟨F9, R10, rfl, oF9, oR10, fF9, fR10, (hkJ103.symm.trans hSP)⟩
      refine g_icmp_ge cx 103 e_X3_product_11 (by decide) (fun zc11 => ?_) (fun zc11 => ?_)
      · have p12 := gn_ge 200 200 (gc_le zc11) py8 (jv_k (x := 200) 200 (by decide)) (by decide)
        have hk13 := hkK7.trans (if_pos zc11)
        refine g_lsub [] [] rfl ?_
        exact J103  hk13
      · have p14 := gn_lt 0 199 (gc_nle zc11) py8 (jv_k (x := 200) 200 (by decide)) (by decide)
        have hk15 := hkK7.trans (if_neg zc11)
        refine g_aload_n cx 0 rfl e_X3_product_14 ?_
        refine g_cViW cx [] [] (w_X3_sign l X ad F9 R10 oF9 oR10) ml_X3_42 yV_X3_sign e_X3_product_15 (by unfold g_rr; decide) (by decide) 33 rfl rfl rfl (Nat.le_of_ble_eq_true rfl) (fun r16 w17 h18 => ?_)
        obtain ⟨rfl, pr16, hx19⟩ := h18
        have hk20 := k_ls hk15 hx19
        refine g_bipush cx 42 (by decide) e_X3_product_18 ?_
        have J41 : (SP = K_X3_product_c4_41 b7 F9 R10 y8) → G X E 4 0 0 (wX X ad F9 R10) [(0, .ref (ad 33)), (1, .int 4), (2, .int y8)] 41 [] := by
          intro   hkJ41
          unfold K_X3_product_c4_41 at hkJ41
          refine g_aload_n cx 0 rfl e_X3_product_41 ?_
          refine g_cViW cx [] [] (w_X3_sign l X ad F9 R10 oF9 oR10) ml_X3_42 yV_X3_sign e_X3_product_42 (by unfold g_rr; decide) (by decide) 33 rfl rfl rfl (Nat.le_of_ble_eq_true rfl) (fun r21 w22 h23 => ?_)
          obtain ⟨rfl, pr21, hx24⟩ := h23
          have hk25 := k_ls hkJ41 hx24
          refine g_bipush cx 42 (by decide) e_X3_product_45 ?_
          have J71 : ∀ (y26 : Int32), (jv 8 10 y26) → (SP = K_X3_product_c4_71 b7 F9 R10 y8 y26) → G X E 4 0 0 (wX X ad F9 R10) [(0, .ref (ad 33)), (1, .int 4), (2, .int y8)] 71 [.int y26] := by
            intro y26 py26 hkJ71
            unfold K_X3_product_c4_71 at hkJ71
            refine g_istore_n cx [(3, .int y26), (0, .ref (ad 33)), (1, .int 4), (2, .int y8)] e_X3_product_71 (by decide) rfl ?_
            refine g_aload_n cx 1 rfl e_X3_product_72 ?_
            refine g_dup cx rfl e_X3_product_73 ?_
            refine g_get cx cl_X3 fl_X3_19 33 (.int (F9 531)) e_X3_product_74 rfl rfl ?_
            refine g_iconst cx 1 (by decide) e_X3_product_77 ?_
            refine g_iadd cx e_X3_product_78 ?_
            refine g_topi (fun x27 ex27 => ?_)
            have hk28 := k_ls hkJ71 ex27
            refine g_put cx cl_X3 fl_X3_19 33 (wX X ad (upd F9 531 x27) R10) e_X3_product_79 rfl rfl rfl rfl (Nat.le_of_ble_eq_true rfl) rfl ?_
            obtain ⟨F29, hF29⟩ : ∃ z, z = upd F9 531 x27 := ⟨_, rfl⟩
            rw [← hF29]
            have hk30 := k_ls hk28 hF29
            have oF29 : g_ok LK_wX F29 := by rw [hF29]; exact g_ok_u oF9 rfl
            have fF29 : g_fr md_X3_product_c4 F F29 := by rw [hF29]; exact g_fr_u fF9 rfl
            refine g_aload_n cx 1 rfl e_X3_product_82 ?_
            refine g_iload_n cx 2 rfl e_X3_product_83 ?_
            refine g_cVvW cx [.int 4] [] (w_X3_factor_c4 l X ad F29 R10 oF29 oR10) ml_X3_99 yV_X3_factor e_X3_product_84 (by unfold g_rr; decide) (by decide) 33 rfl rfl rfl (Nat.le_of_ble_eq_true rfl) (fun w32 h33 => ?_)
            obtain ⟨F35, R36, rfl, oF35, oR36, cF35, cR36, hx34⟩ := h33
            have hk37 := k_ls2 hk30 hx34
            have fF35 : g_fr md_X3_product_c4 F F35 := g_fr_c fF29 cF35 rfl
            have fR36 : g_fr mr_X3_product_c4 R R36 := g_fr_c fR10 cR36 rfl
            refine g_aload_n cx 1 rfl e_X3_product_87 ?_
            refine g_get cx cl_X3 fl_X3_25 33 (.ref (ad 25)) e_X3_product_88 rfl rfl ?_
            refine g_iload_n cx 0 rfl e_X3_product_91 ?_
            refine g_iconst cx 0 (by decide) e_X3_product_92 ?_
            refine g_cViW cx [.int y26, .int 0] [] (w_X2_emit_25 l X ad F35 R36 oF35 oR36 y26 0) ml_X3_66 yV_X2_emit e_X3_product_93 (by unfold g_rr; decide) (by decide) 25 rfl rfl rfl (Nat.le_of_ble_eq_true rfl) (fun r38 w39 h40 => ?_)
            obtain ⟨F42, R43, rfl, oF42, oR43, cF42, cR43, pr38, hx41⟩ := h40
            have hk44 := k_ls3 hk37 hx41
            have fF42 : g_fr md_X3_product_c4 F F42 := g_fr_c fF35 cF42 rfl
            have fR43 : g_fr mr_X3_product_c4 R R43 := g_fr_c fR36 cR43 rfl
            refine g_pop cx rfl e_X3_product_96 ?_
            obtain ⟨x45, ex45⟩ : ∃ z : Int32, z = y8 + Int32.ofInt 1 := ⟨_, rfl⟩
            have hk46 := k_ls hk44 (show x45 = y8 + 1 from ex45)
            refine g_iinc cx x45 [(2, .int x45), (3, .int y26), (0, .ref (ad 33)), (1, .int 4)] 3 e_X3_product_97 rfl ex45.symm (by decide) rfl ?_
            have zx45 := jv_add 1 200 (show x45 = y8 + 1 from ex45) p14 (jv_k (x := 1) 1 (by decide)) (by decide)
            refine g_goto cx 7 e_X3_product_100 (by decide) ?_
            refine g_lsub [2, 3, 0] [(0, .ref (ad 33)), (1, .int 4), (2, .int x45)] rfl ?_
            exact ih7 F42 R43 x45 oF42 fF42 oR43 fR43 (jv_w zx45.2 (by decide)) (hk46.trans (by rw [hb7])) (Nat.lt_of_lt_of_le (show (2147483647 - x45.toInt).toNat < (2147483647 - y8.toInt).toNat from by have q0 := (jv_k (x := 1) 1 (by decide)).1; have q1 := (jv_k (x := 1) 1 (by decide)).2; have q2 := (jv_k (x := 200) 200 (by decide)).1; have q3 := (jv_k (x := 200) 200 (by decide)).2; have q4 := zx45.2.1; have q5 := zx45.2.2; have q6 := p14.1; have q7 := p14.2; have q8 := (gc_nle zc11); have q9 := (g_eq0 zx45.1); omega) (Nat.le_of_lt_succ hm7))
          refine g_icmp_ne cx 55 e_X3_product_47 (by decide) (fun zc47 => ?_) (fun zc47 => ?_)
          · have hk48 := hk25.trans (if_neg zc47)
            refine g_aload_n cx 0 rfl e_X3_product_55 ?_
            refine g_cViW cx [] [] (w_X3_sign l X ad F9 R10 oF9 oR10) ml_X3_42 yV_X3_sign e_X3_product_56 (by unfold g_rr; decide) (by decide) 33 rfl rfl rfl (Nat.le_of_ble_eq_true rfl) (fun r49 w50 h51 => ?_)
            obtain ⟨rfl, pr49, hx52⟩ := h51
            have hk53 := k_ls hk48 hx52
            refine g_bipush cx 47 (by decide) e_X3_product_59 ?_
            refine g_icmp_ne cx 69 e_X3_product_61 (by decide) (fun zc54 => ?_) (fun zc54 => ?_)
            · have hk55 := hk53.trans (if_neg zc54)
              refine g_bipush cx 10 (by decide) e_X3_product_69 ?_
              exact J71 10 (jv_w (jv_k (x := 10) 10 (by decide)) (by decide)) hk55
            · have p56 := gn_eq 47 47 (gc_eq zc54) pr49 (jv_k (x := 47) 47 (by decide)) (by decide)
              have hk57 := hk53.trans (if_pos zc54)
              refine g_bipush cx 9 (by decide) e_X3_product_64 ?_
              refine g_goto cx 71 e_X3_product_66 (by decide) ?_
              exact J71 9 (jv_w (jv_k (x := 9) 9 (by decide)) (by decide)) hk57
          · have p58 := gn_eq 42 42 (gc_eq zc47) pr21 (jv_k (x := 42) 42 (by decide)) (by decide)
            have hk59 := hk25.trans (if_pos zc47)
            refine g_bipush cx 8 (by decide) e_X3_product_50 ?_
            refine g_goto cx 71 e_X3_product_52 (by decide) ?_
            exact J71 8 (jv_w (jv_k (x := 8) 8 (by decide)) (by decide)) hk59
        refine g_icmp_eq cx 41 e_X3_product_20 (by decide) (fun zc60 => ?_) (fun zc60 => ?_)
        · have p61 := gn_eq 42 42 (gc_eq zc60) pr16 (jv_k (x := 42) 42 (by decide)) (by decide)
          have hk62 := hk20.trans (if_pos zc60)
          exact J41  hk62
        · have hk63 := hk20.trans (if_neg zc60)
          refine g_aload_n cx 0 rfl e_X3_product_23 ?_
          refine g_cViW cx [] [] (w_X3_sign l X ad F9 R10 oF9 oR10) ml_X3_42 yV_X3_sign e_X3_product_24 (by unfold g_rr; decide) (by decide) 33 rfl rfl rfl (Nat.le_of_ble_eq_true rfl) (fun r64 w65 h66 => ?_)
          obtain ⟨rfl, pr64, hx67⟩ := h66
          have hk68 := k_ls hk63 hx67
          refine g_bipush cx 47 (by decide) e_X3_product_27 ?_
          refine g_icmp_eq cx 41 e_X3_product_29 (by decide) (fun zc69 => ?_) (fun zc69 => ?_)
          · have p70 := gn_eq 47 47 (gc_eq zc69) pr64 (jv_k (x := 47) 47 (by decide)) (by decide)
            have hk71 := hk68.trans (if_pos zc69)
            exact J41  hk71
          · have hk72 := hk68.trans (if_neg zc69)
            refine g_aload_n cx 0 rfl e_X3_product_32 ?_
            refine g_cViW cx [] [] (w_X3_sign l X ad F9 R10 oF9 oR10) ml_X3_42 yV_X3_sign e_X3_product_33 (by unfold g_rr; decide) (by decide) 33 rfl rfl rfl (Nat.le_of_ble_eq_true rfl) (fun r73 w74 h75 => ?_)
            obtain ⟨rfl, pr73, hx76⟩ := h75
            have hk77 := k_ls hk72 hx76
            refine g_bipush cx 37 (by decide) e_X3_product_36 ?_
            refine g_icmp_ne cx 103 e_X3_product_38 (by decide) (fun zc78 => ?_) (fun zc78 => ?_)
            · have hk79 := hk77.trans (if_neg zc78)
              refine g_lsub [] [] rfl ?_
              exact J103  hk79
            · have p80 := gn_eq 37 37 (gc_eq zc78) pr73 (jv_k (x := 37) 37 (by decide)) (by decide)
              have hk81 := hk77.trans (if_pos zc78)
              exact J41  hk81
  refine g_lsub [1, 2, 0] [(0, .ref (ad 33)), (1, .int 4), (2, .int 0)] rfl ?_
  exact J7 8589934592 F5 R6 0 oF5 fF5 oR6 fR6 (jv_w (jv_k (x := 0) 0 (by decide)) (by decide)) hk7 (show (2147483647 - (0 : Int32).toInt).toNat < 8589934592 from by have q0 := (jv_k (x := 0) 0 (by decide)).1; have q1 := (jv_k (x := 0) 0 (by decide)).2; omega)
def K_X3_sum_c4_80 (F9 : Nat → Int32) (R10 : Nat → Nat → Int32)  : (Nat → Int32) × (Nat → Nat → Int32) :=
  (F9, R10)
def K_X3_sum_c4_48 (b7 : (Nat → Int32) → (Nat → Nat → Int32) → (Int32) → (Nat → Int32) × (Nat → Nat → Int32)) (F9 : Nat → Int32) (R10 : Nat → Nat → Int32) (y8 : Int32) (y26 : Int32) : (Nat → Int32) × (Nat → Nat → Int32) :=
  k_lt ((F9 531) + 1) (fun x27 => k_lt (upd F9 531 x27) (fun F29 => k_lt2 (sp_X3_product_c4 F29 R10) (fun F35 R36 => k_lt3 (sp_X2_emit_25 F35 R36 y26 0) (fun r38 F42 R43 => k_lt (y8 + 1) (fun x45 => b7 F42 R43 x45)))))
def K_X3_sum_c4_32 (b7 : (Nat → Int32) → (Nat → Nat → Int32) → (Int32) → (Nat → Int32) × (Nat → Nat → Int32)) (F9 : Nat → Int32) (R10 : Nat → Nat → Int32) (y8 : Int32)  : (Nat → Int32) × (Nat → Nat → Int32) :=
  k_lt (sp_X3_sign F9 R10) (fun r21 => if r21 = 43 then K_X3_sum_c4_48 b7 F9 R10 y8 6 else K_X3_sum_c4_48 b7 F9 R10 y8 7)
def KB_X3_sum_c4_7 (b7 : (Nat → Int32) → (Nat → Nat → Int32) → (Int32) → (Nat → Int32) × (Nat → Nat → Int32))  (F9 : Nat → Int32) (R10 : Nat → Nat → Int32) (y8 : Int32) : (Nat → Int32) × (Nat → Nat → Int32) :=
  if 200 ≤ y8 then K_X3_sum_c4_80 F9 R10 else k_lt (sp_X3_sign F9 R10) (fun r16 => if r16 = 43 then K_X3_sum_c4_32 b7 F9 R10 y8 else k_lt (sp_X3_sign F9 R10) (fun r55 => if r55 = 45 then K_X3_sum_c4_32 b7 F9 R10 y8 else K_X3_sum_c4_80 F9 R10))
def K_X3_sum_c4_7  : Nat → (Nat → Int32) → (Nat → Nat → Int32) → (Int32) → (Nat → Int32) × (Nat → Nat → Int32)
  | 0 => fun F9 R10 _ => (F9, R10)
  | n + 1 => KB_X3_sum_c4_7 (K_X3_sum_c4_7 n)
def sp_X3_sum_c4 (F : Nat → Int32) (R : Nat → Nat → Int32) : (Nat → Int32) × (Nat → Nat → Int32) :=
  k_lt2 (sp_X3_product_c4 F R) (fun F5 R6 => K_X3_sum_c4_7 8589934592 F5 R6 0)
def md_X3_sum_c4 : List Nat := [402, 531, 532]
def mr_X3_sum_c4 : List Nat := [26, 27]
set_option maxHeartbeats 4000000 in
set_option maxRecDepth 100000 in
theorem w_X3_sum_c4 (l : Launch) (X : gX) (ad : Nat → Nat) (F : Nat → Int32) (R : Nat → Nat → Int32) (hI : g_ok LK_wX F) (hA : g_okR LA_wX R) : g_Cv l X yX3_sum cX3_sum 4 13 0 0 [.ref (ad 33), .int 4] (wX X ad F R) (fun w => ∃ (F' : Nat → Int32) (R' : Nat → Nat → Int32), w = wX X ad F' R' ∧ g_ok LK_wX F' ∧ g_okR LA_wX R' ∧ g_fr md_X3_sum_c4 F F' ∧ g_fr mr_X3_sum_c4 R R' ∧ (F', R') = sp_X3_sum_c4 F R) := by
  refine g_mv (by decide +kernel) (Nat.le_of_ble_eq_true rfl) (fun E cx hret => ?_)
  obtain ⟨SP, hSP⟩ : ∃ z, z = sp_X3_sum_c4 F R := ⟨_, rfl⟩
  have hk0 := hSP
  unfold sp_X3_sum_c4 at hk0
  refine g_aload_n cx 0 rfl e_X3_sum_0 ?_
  refine g_iload_n cx 1 rfl e_X3_sum_1 ?_
  refine g_cVvW cx [.int 4] [] (w_X3_product_c4 l X ad F R hI hA) ml_X3_96 yV_X3_product e_X3_sum_2 (by unfold g_rr; decide) (by decide) 33 rfl rfl rfl (Nat.le_of_ble_eq_true rfl) (fun w2 h3 => ?_)
  obtain ⟨F5, R6, rfl, oF5, oR6, cF5, cR6, hx4⟩ := h3
  have hk7 := k_ls2 hk0 hx4
  have fF5 : g_fr md_X3_sum_c4 F F5 := g_fr_c (g_fr_rf F) cF5 rfl
  have fR6 : g_fr mr_X3_sum_c4 R R6 := g_fr_c (g_fr_rf R) cR6 rfl
  refine g_iconst cx 0 (by decide) e_X3_sum_5 ?_
  refine g_istore_n cx [(2, .int 0), (0, .ref (ad 33)), (1, .int 4)] e_X3_sum_6 (by decide) rfl ?_
  have J7 : ∀ (N : Nat) (F9 : Nat → Int32) (R10 : Nat → Nat → Int32) (y8 : Int32), (g_ok LK_wX F9) → (g_fr md_X3_sum_c4 F F9) → (g_okR LA_wX R10) → (g_fr mr_X3_sum_c4 R R10) → (jv 0 200 y8) → (SP = K_X3_sum_c4_7 N F9 R10 y8) → (2147483647 - y8.toInt).toNat < N → G X E 4 0 0 (wX X ad F9 R10) [(0, .ref (ad 33)), (1, .int 4), (2, .int y8)] 7 [] := by
    intro N
    induction N with
    | zero => intro F9 R10 y8 oF9 fF9 oR10 fR10 py8 hkJ7 hm; exact absurd hm (Nat.not_lt_zero _)
    | succ N ih7 =>
      intro F9 R10 y8 oF9 fF9 oR10 fR10 py8 hkJ7 hm7
      have hkK7 : SP = KB_X3_sum_c4_7 (K_X3_sum_c4_7 N) F9 R10 y8 := hkJ7
      obtain ⟨b7, hb7⟩ : ∃ z, z = K_X3_sum_c4_7 N := ⟨_, rfl⟩
      rw [← hb7] at hkK7
      unfold KB_X3_sum_c4_7 at hkK7
      refine g_iload_n cx 2 rfl e_X3_sum_7 ?_
      refine g_sipush cx 200 (by decide) e_X3_sum_8 ?_
      have J80 : (SP = K_X3_sum_c4_80 F9 R10) → G X E 4 0 0 (wX X ad F9 R10) [] 80 [] := by
        intro   hkJ80
        unfold K_X3_sum_c4_80 at hkJ80
        exact hret e_X3_sum_80 (Nat.le_of_ble_eq_true rfl) (Nat.le_of_ble_eq_true rfl) ⟨F9, R10, rfl, oF9, oR10, fF9, fR10, (hkJ80.symm.trans hSP)⟩
      refine g_icmp_ge cx 80 e_X3_sum_11 (by decide) (fun zc11 => ?_) (fun zc11 => ?_)
      · have p12 := gn_ge 200 200 (gc_le zc11) py8 (jv_k (x := 200) 200 (by decide)) (by decide)
        have hk13 := hkK7.trans (if_pos zc11)
        refine g_lsub [] [] rfl ?_
        exact J80  hk13
      · have p14 := gn_lt 0 199 (gc_nle zc11) py8 (jv_k (x := 200) 200 (by decide)) (by decide)
        have hk15 := hkK7.trans (if_neg zc11)
        refine g_aload_n cx 0 rfl e_X3_sum_14 ?_
        refine g_cViW cx [] [] (w_X3_sign l X ad F9 R10 oF9 oR10) ml_X3_42 yV_X3_sign e_X3_sum_15 (by unfold g_rr; decide) (by decide) 33 rfl rfl rfl (Nat.le_of_ble_eq_true rfl) (fun r16 w17 h18 => ?_)
        obtain ⟨rfl, pr16, hx19⟩ := h18
        have hk20 := k_ls hk15 hx19
        refine g_bipush cx 43 (by decide) e_X3_sum_18 ?_
        have J32 : (SP = K_X3_sum_c4_32 b7 F9 R10 y8) → G X E 4 0 0 (wX X ad F9 R10) [(0, .ref (ad 33)), (1, .int 4), (2, .int y8)] 32 [] := by
          intro   hkJ32
          unfold K_X3_sum_c4_32 at hkJ32
          refine g_aload_n cx 0 rfl e_X3_sum_32 ?_
          refine g_cViW cx [] [] (w_X3_sign l X ad F9 R10 oF9 oR10) ml_X3_42 yV_X3_sign e_X3_sum_33 (by unfold g_rr; decide) (by decide) 33 rfl rfl rfl (Nat.le_of_ble_eq_true rfl) (fun r21 w22 h23 => ?_)
          obtain ⟨rfl, pr21, hx24⟩ := h23
          have hk25 := k_ls hkJ32 hx24
          refine g_bipush cx 43 (by decide) e_X3_sum_36 ?_
          have J48 : ∀ (y26 : Int32), (jv 6 7 y26) → (SP = K_X3_sum_c4_48 b7 F9 R10 y8 y26) → G X E 4 0 0 (wX X ad F9 R10) [(0, .ref (ad 33)), (1, .int 4), (2, .int y8)] 48 [.int y26] := by
            intro y26 py26 hkJ48
            unfold K_X3_sum_c4_48 at hkJ48
            refine g_istore_n cx [(3, .int y26), (0, .ref (ad 33)), (1, .int 4), (2, .int y8)] e_X3_sum_48 (by decide) rfl ?_
            refine g_aload_n cx 1 rfl e_X3_sum_49 ?_
            refine g_dup cx rfl e_X3_sum_50 ?_
            refine g_get cx cl_X3 fl_X3_19 33 (.int (F9 531)) e_X3_sum_51 rfl rfl ?_
            refine g_iconst cx 1 (by decide) e_X3_sum_54 ?_
            refine g_iadd cx e_X3_sum_55 ?_
            refine g_topi (fun x27 ex27 => ?_)
            have hk28 := k_ls hkJ48 ex27
            refine g_put cx cl_X3 fl_X3_19 33 (wX X ad (upd F9 531 x27) R10) e_X3_sum_56 rfl rfl rfl rfl (Nat.le_of_ble_eq_true rfl) rfl ?_
            obtain ⟨F29, hF29⟩ : ∃ z, z = upd F9 531 x27 := ⟨_, rfl⟩
            rw [← hF29]
            have hk30 := k_ls hk28 hF29
            have oF29 : g_ok LK_wX F29 := by rw [hF29]; exact g_ok_u oF9 rfl
            have fF29 : g_fr md_X3_sum_c4 F F29 := by rw [hF29]; exact g_fr_u fF9 rfl
            refine g_aload_n cx 1 rfl e_X3_sum_59 ?_
            refine g_iload_n cx 2 rfl e_X3_sum_60 ?_
            refine g_cVvW cx [.int 4] [] (w_X3_product_c4 l X ad F29 R10 oF29 oR10) ml_X3_96 yV_X3_product e_X3_sum_61 (by unfold g_rr; decide) (by decide) 33 rfl rfl rfl (Nat.le_of_ble_eq_true rfl) (fun w32 h33 => ?_)
            obtain ⟨F35, R36, rfl, oF35, oR36, cF35, cR36, hx34⟩ := h33
            have hk37 := k_ls2 hk30 hx34
            have fF35 : g_fr md_X3_sum_c4 F F35 := g_fr_c fF29 cF35 rfl
            have fR36 : g_fr mr_X3_sum_c4 R R36 := g_fr_c fR10 cR36 rfl
            refine g_aload_n cx 1 rfl e_X3_sum_64 ?_
            refine g_get cx cl_X3 fl_X3_25 33 (.ref (ad 25)) e_X3_sum_65 rfl rfl ?_
            refine g_iload_n cx 0 rfl e_X3_sum_68 ?_
            refine g_iconst cx 0 (by decide) e_X3_sum_69 ?_
            refine g_cViW cx [.int y26, .int 0] [] (w_X2_emit_25 l X ad F35 R36 oF35 oR36 y26 0) ml_X3_66 yV_X2_emit e_X3_sum_70 (by unfold g_rr; decide) (by decide) 25 rfl rfl rfl (Nat.le_of_ble_eq_true rfl) (fun r38 w39 h40 => ?_)
            obtain ⟨F42, R43, rfl, oF42, oR43, cF42, cR43, pr38, hx41⟩ := h40
            have hk44 := k_ls3 hk37 hx41
            have fF42 : g_fr md_X3_sum_c4 F F42 := g_fr_c fF35 cF42 rfl
            have fR43 : g_fr mr_X3_sum_c4 R R43 := g_fr_c fR36 cR43 rfl
            refine g_pop cx rfl e_X3_sum_73 ?_
            obtain ⟨x45, ex45⟩ : ∃ z : Int32, z = y8 + Int32.ofInt 1 := ⟨_, rfl⟩
            have hk46 := k_ls hk44 (show x45 = y8 + 1 from ex45)
            refine g_iinc cx x45 [(2, .int x45), (3, .int y26), (0, .ref (ad 33)), (1, .int 4)] 3 e_X3_sum_74 rfl ex45.symm (by decide) rfl ?_
            have zx45 := jv_add 1 200 (show x45 = y8 + 1 from ex45) p14 (jv_k (x := 1) 1 (by decide)) (by decide)
            refine g_goto cx 7 e_X3_sum_77 (by decide) ?_
            refine g_lsub [2, 3, 0] [(0, .ref (ad 33)), (1, .int 4), (2, .int x45)] rfl ?_
            exact ih7 F42 R43 x45 oF42 fF42 oR43 fR43 (jv_w zx45.2 (by decide)) (hk46.trans (by rw [hb7])) (Nat.lt_of_lt_of_le (show (2147483647 - x45.toInt).toNat < (2147483647 - y8.toInt).toNat from by have q0 := (jv_k (x := 1) 1 (by decide)).1; have q1 := (jv_k (x := 1) 1 (by decide)).2; have q2 := (jv_k (x := 200) 200 (by decide)).1; have q3 := (jv_k (x := 200) 200 (by decide)).2; have q4 := zx45.2.1; have q5 := zx45.2.2; have q6 := p14.1; have q7 := p14.2; have q8 := (gc_nle zc11); have q9 := (g_eq0 zx45.1); omega) (Nat.le_of_lt_succ hm7))
          refine g_icmp_ne cx 46 e_X3_sum_38 (by decide) (fun zc47 => ?_) (fun zc47 => ?_)
          · have hk48 := hk25.trans (if_neg zc47)
            refine g_bipush cx 7 (by decide) e_X3_sum_46 ?_
            exact J48 7 (jv_w (jv_k (x := 7) 7 (by decide)) (by decide)) hk48
          · have p49 := gn_eq 43 43 (gc_eq zc47) pr21 (jv_k (x := 43) 43 (by decide)) (by decide)
            have hk50 := hk25.trans (if_pos zc47)
            refine g_bipush cx 6 (by decide) e_X3_sum_41 ?_
            refine g_goto cx 48 e_X3_sum_43 (by decide) ?_
            exact J48 6 (jv_w (jv_k (x := 6) 6 (by decide)) (by decide)) hk50
        refine g_icmp_eq cx 32 e_X3_sum_20 (by decide) (fun zc51 => ?_) (fun zc51 => ?_)
        · have p52 := gn_eq 43 43 (gc_eq zc51) pr16 (jv_k (x := 43) 43 (by decide)) (by decide)
          have hk53 := hk20.trans (if_pos zc51)
          exact J32  hk53
        · have hk54 := hk20.trans (if_neg zc51)
          refine g_aload_n cx 0 rfl e_X3_sum_23 ?_
          refine g_cViW cx [] [] (w_X3_sign l X ad F9 R10 oF9 oR10) ml_X3_42 yV_X3_sign e_X3_sum_24 (by unfold g_rr; decide) (by decide) 33 rfl rfl rfl (Nat.le_of_ble_eq_true rfl) (fun r55 w56 h57 => ?_)
          obtain ⟨rfl, pr55, hx58⟩ := h57
          have hk59 := k_ls hk54 hx58
          refine g_bipush cx 45 (by decide) e_X3_sum_27 ?_
          refine g_icmp_ne cx 80 e_X3_sum_29 (by decide) (fun zc60 => ?_) (fun zc60 => ?_)
          · have hk61 := hk59.trans (if_neg zc60)
            refine g_lsub [] [] rfl ?_
            exact J80  hk61
          · have p62 := gn_eq 45 45 (gc_eq zc60) pr55 (jv_k (x := 45) 45 (by decide)) (by decide)
            have hk63 := hk59.trans (if_pos zc60)
            exact J32  hk63
  refine g_lsub [1, 2, 0] [(0, .ref (ad 33)), (1, .int 4), (2, .int 0)] rfl ?_
  exact J7 8589934592 F5 R6 0 oF5 fF5 oR6 fR6 (jv_w (jv_k (x := 0) 0 (by decide)) (by decide)) hk7 (show (2147483647 - (0 : Int32).toInt).toNat < 8589934592 from by have q0 := (jv_k (x := 0) 0 (by decide)).1; have q1 := (jv_k (x := 0) 0 (by decide)).2; omega)
def K_X3_factor_c3_72 (F : Nat → Int32) (R : Nat → Nat → Int32) (y25 : Int32) : (Nat → Int32) × (Nat → Nat → Int32) :=
  if 0 ≤ y25 then k_lt ((F 531) + 1) (fun x29 => k_lt (upd F 531 x29) (fun F31 => k_lt3 (sp_X2_emit_25 F31 R 2 y25) (fun r33 F37 R38 => (F37, R38)))) else k_lt2 (sp_X3_fail F R 1) (fun F46 R47 => (F46, R47))
def sp_X3_factor_c3 (F : Nat → Int32) (R : Nat → Nat → Int32) : (Nat → Int32) × (Nat → Nat → Int32) :=
  k_lt (sp_X3_sign F R) (fun r1 => if r1 = 91 then k_lt3 (sp_X3_opens_c3 F R) (fun r76 F80 R81 => k_lt2 (sp_X3_sum_c4 F80 R81) (fun F88 R89 => k_lt2 (sp_X3_pass F88 R89 93) (fun F95 R96 => (F95, R96)))) else k_lt (sp_X3_sign F R) (fun r8 => k_lt (g_in r8 48 57) (fun r13 => if r13 = 0 then k_lt (sp_X3_sign F R) (fun r20 => if r20 = (-1) then K_X3_factor_c3_72 F R (-1) else k_lt (sp_X3_sign F R) (fun r51 => k_lt ((r51.toUInt32 % 65536).toInt32) (fun x56 => k_lt (sp_J0_indexOf_0f7a4_s1 x56) (fun r58 => K_X3_factor_c3_72 F R r58)))) else k_lt2 (sp_X3_number F R) (fun F71 R72 => (F71, R72)))))
def md_X3_factor_c3 : List Nat := [402, 531, 532]
def mr_X3_factor_c3 : List Nat := [26, 27]
set_option maxHeartbeats 4000000 in
set_option maxRecDepth 100000 in
theorem w_X3_factor_c3 (l : Launch) (X : gX) (ad : Nat → Nat) (F : Nat → Int32) (R : Nat → Nat → Int32) (hI : g_ok LK_wX F) (hA : g_okR LA_wX R) : g_Cv l X yX3_factor cX3_factor 3 14 0 0 [.ref (ad 33), .int 3] (wX X ad F R) (fun w => ∃ (F' : Nat → Int32) (R' : Nat → Nat → Int32), w = wX X ad F' R' ∧ g_ok LK_wX F' ∧ g_okR LA_wX R' ∧ g_fr md_X3_factor_c3 F F' ∧ g_fr mr_X3_factor_c3 R R' ∧ (F', R') = sp_X3_factor_c3 F R) := by
  refine g_mv (by decide +kernel) (Nat.le_of_ble_eq_true rfl) (fun E cx hret => ?_)
  obtain ⟨SP, hSP⟩ : ∃ z, z = sp_X3_factor_c3 F R := ⟨_, rfl⟩
  have hk0 := hSP
  unfold sp_X3_factor_c3 at hk0
  refine g_aload_n cx 0 rfl e_X3_factor_0 ?_
  refine g_cViW cx [] [] (w_X3_sign l X ad F R hI hA) ml_X3_42 yV_X3_sign e_X3_factor_1 (by unfold g_rr; decide) (by decide) 33 rfl rfl rfl (Nat.le_of_ble_eq_true rfl) (fun r1 w2 h3 => ?_)
  obtain ⟨rfl, pr1, hx4⟩ := h3
  have hk5 := k_ls hk0 hx4
  refine g_bipush cx 91 (by decide) e_X3_factor_4 ?_
  refine g_icmp_ne cx 31 e_X3_factor_6 (by decide) (fun zc6 => ?_) (fun zc6 => ?_)
  · have hk7 := hk5.trans (if_neg zc6)
    refine g_aload_n cx 0 rfl e_X3_factor_31 ?_
    refine g_cViW cx [] [] (w_X3_sign l X ad F R hI hA) ml_X3_42 yV_X3_sign e_X3_factor_32 (by unfold g_rr; decide) (by decide) 33 rfl rfl rfl (Nat.le_of_ble_eq_true rfl) (fun r8 w9 h10 => ?_)
    obtain ⟨rfl, pr8, hx11⟩ := h10
    have hk12 := k_ls hk7 hx11
    refine g_bipush cx 48 (by decide) e_X3_factor_35 ?_
    refine g_bipush cx 57 (by decide) e_X3_factor_37 ?_
    refine g_cNiW cx [.int r8, .int 48, .int 57] [] (c_X10_within l X (wX X ad F R) r8 48 57) mn_X3_102 yS_X10_within e_X3_factor_39 (by unfold g_rr; decide) (by decide) rfl (Nat.le_of_ble_eq_true rfl) (fun r13 w14 h15 => ?_)
    obtain ⟨rfl, hr13⟩ := h15
    have pr13 : jv 0 1 r13 := by rw [hr13]; exact gi_01 _ _ _
    have hk16 := k_ls hk12 hr13
    refine g_if_eq cx 50 e_X3_factor_42 (by decide) (fun zc17 => ?_) (fun zc17 => ?_)
    · have p18 := gn_eq 0 0 (gc_eq zc17) pr13 (jv_k (x := 0) 0 (by decide)) (by decide)
      have hk19 := hk16.trans (if_pos zc17)
      refine g_aload_n cx 0 rfl e_X3_factor_50 ?_
      refine g_cViW cx [] [] (w_X3_sign l X ad F R hI hA) ml_X3_42 yV_X3_sign e_X3_factor_51 (by unfold g_rr; decide) (by decide) 33 rfl rfl rfl (Nat.le_of_ble_eq_true rfl) (fun r20 w21 h22 => ?_)
      obtain ⟨rfl, pr20, hx23⟩ := h22
      have hk24 := k_ls hk19 hx23
      refine g_iconst cx (-1) (by decide) e_X3_factor_54 ?_
      have J72 : ∀ (y25 : Int32), (jv (-1) 11 y25) → (SP = K_X3_factor_c3_72 F R y25) → G X E 3 0 0 (wX X ad F R) [(0, .ref (ad 33))] 72 [.int y25] := by
        intro y25 py25 hkJ72
        unfold K_X3_factor_c3_72 at hkJ72
        refine g_istore_n cx [(2, .int y25), (0, .ref (ad 33))] e_X3_factor_72 (by decide) rfl ?_
        refine g_iload_n cx 0 rfl e_X3_factor_73 ?_
        refine g_if_ge cx 83 e_X3_factor_74 (by decide) (fun zc26 => ?_) (fun zc26 => ?_)
        · have p27 := gn_ge 0 11 (gc_le zc26) py25 (jv_k (x := 0) 0 (by decide)) (by decide)
          have hk28 := hkJ72.trans (if_pos zc26)
          refine g_aload_n cx 1 rfl e_X3_factor_83 ?_
          refine g_dup cx rfl e_X3_factor_84 ?_
          refine g_get cx cl_X3 fl_X3_19 33 (.int (F 531)) e_X3_factor_85 rfl rfl ?_
          refine g_iconst cx 1 (by decide) e_X3_factor_88 ?_
          refine g_iadd cx e_X3_factor_89 ?_
          refine g_topi (fun x29 ex29 => ?_)
          have hk30 := k_ls hk28 ex29
          refine g_put cx cl_X3 fl_X3_19 33 (wX X ad (upd F 531 x29) R) e_X3_factor_90 rfl rfl rfl rfl (Nat.le_of_ble_eq_true rfl) rfl ?_
          obtain ⟨F31, hF31⟩ : ∃ z, z = upd F 531 x29 := ⟨_, rfl⟩
          rw [← hF31]
          have hk32 := k_ls hk30 hF31
          have oF31 : g_ok LK_wX F31 := by rw [hF31]; exact g_ok_u hI rfl
          have fF31 : g_fr md_X3_factor_c3 F F31 := by rw [hF31]; exact g_fr_u (g_fr_rf F) rfl
          refine g_aload_n cx 1 rfl e_X3_factor_93 ?_
          refine g_get cx cl_X3 fl_X3_25 33 (.ref (ad 25)) e_X3_factor_94 rfl rfl ?_
          refine g_iconst cx 2 (by decide) e_X3_factor_97 ?_
          refine g_iload_n cx 0 rfl e_X3_factor_98 ?_
          refine g_cViW cx [.int 2, .int y25] [] (w_X2_emit_25 l X ad F31 R oF31 hA 2 y25) ml_X3_66 yV_X2_emit e_X3_factor_99 (by unfold g_rr; decide) (by decide) 25 rfl rfl rfl (Nat.le_of_ble_eq_true rfl) (fun r33 w34 h35 => ?_)
          obtain ⟨F37, R38, rfl, oF37, oR38, cF37, cR38, pr33, hx36⟩ := h35
          have hk39 := k_ls3 hk32 hx36
          have fF37 : g_fr md_X3_factor_c3 F F37 := g_fr_c fF31 cF37 rfl
          have fR38 : g_fr mr_X3_factor_c3 R R38 := g_fr_c (g_fr_rf R) cR38 rfl
          refine g_pop cx rfl e_X3_factor_102 ?_
          exact hret e_X3_factor_103 (Nat.le_of_ble_eq_true rfl) (Nat.le_of_ble_eq_true rfl) ⟨F37, R38, rfl, oF37, oR38, fF37, fR38, (hk39.symm.trans hSP)⟩
        · have p40 := gn_lt (-1) (-1) (gc_nle zc26) py25 (jv_k (x := 0) 0 (by decide)) (by decide)
          have hk41 := hkJ72.trans (if_neg zc26)
          refine g_aload_n cx 1 rfl e_X3_factor_77 ?_
          refine g_iconst cx 1 (by decide) e_X3_factor_78 ?_
          refine g_cVvW cx [.int 1] [] (w_X3_fail l X ad F R hI hA 1) ml_X3_46 yV_X3_fail e_X3_factor_79 (by unfold g_rr; decide) (by decide) 33 rfl rfl rfl (Nat.le_of_ble_eq_true rfl) (fun w43 h44 => ?_)
          obtain ⟨F46, R47, rfl, oF46, oR47, cF46, cR47, hx45⟩ := h44
          have hk48 := k_ls2 hk41 hx45
          have fF46 : g_fr md_X3_factor_c3 F F46 := g_fr_c (g_fr_rf F) cF46 rfl
          have fR47 : g_fr mr_X3_factor_c3 R R47 := g_fr_c (g_fr_rf R) cR47 rfl
          exact hret e_X3_factor_82 (Nat.le_of_ble_eq_true rfl) (Nat.le_of_ble_eq_true rfl) ⟨F46, R47, rfl, oF46, oR47, fF46, fR47, (hk48.symm.trans hSP)⟩
      refine g_icmp_ne cx 62 e_X3_factor_55 (by decide) (fun zc49 => ?_) (fun zc49 => ?_)
      · have hk50 := hk24.trans (if_neg zc49)
        refine g_ldcS1 cx rfl e_X3_factor_62 ?_
        refine g_aload_n cx 0 rfl e_X3_factor_64 ?_
        refine g_cViW cx [] [.ref (X.1.2.2.2.1 1)] (w_X3_sign l X ad F R hI hA) ml_X3_42 yV_X3_sign e_X3_factor_65 (by unfold g_rr; decide) (by decide) 33 rfl rfl rfl (Nat.le_of_ble_eq_true rfl) (fun r51 w52 h53 => ?_)
        obtain ⟨rfl, pr51, hx54⟩ := h53
        have hk55 := k_ls hk50 hx54
        refine g_i2c cx e_X3_factor_68 ?_
        refine g_topi (fun x56 ex56 => ?_)
        have hk57 := k_ls hk55 ex56
        refine g_cVsW cx [.int x56] [] 1 (by decide) rfl (w_J0_indexOf_0f7a4_s1 l X (wX X ad F R) x56) ml_X3_52 yV_J0_indexOf_0f7a4 e_X3_factor_69 (by unfold g_rr; decide) (by decide) rfl (Nat.le_of_ble_eq_true rfl) (fun r58 w59 h60 => ?_)
        obtain ⟨rfl, pr58⟩ := h60
        obtain ⟨pr58, hxr58⟩ := pr58
        have hk61 := k_ls hk57 hxr58
        refine g_lsub [0] [(0, .ref (ad 33))] rfl ?_
        exact J72 r58 pr58 hk61
      · have p62 := gn_eq (-1) (-1) (gc_eq zc49) pr20 (jv_k (x := (-1)) (-1) (by decide)) (by decide)
        have hk63 := hk24.trans (if_pos zc49)
        refine g_iconst cx (-1) (by decide) e_X3_factor_58 ?_
        refine g_goto cx 72 e_X3_factor_59 (by decide) ?_
        refine g_lsub [0] [(0, .ref (ad 33))] rfl ?_
        exact J72 (-1) (jv_w (jv_k (x := (-1)) (-1) (by decide)) (by decide)) hk63
    · have p64 := gn_neL 1 1 (gc_ne zc17) pr13 (jv_k (x := 0) 0 (by decide)) (by decide)
      have p65 := jv_i 48 57 pr8 (gi_in (A := 48) (B := 57) hr13 zc17 (by decide) (by decide)) (by decide)
      have hk66 := hk16.trans (if_neg zc17)
      refine g_aload_n cx 0 rfl e_X3_factor_45 ?_
      refine g_cVvW cx [] [] (w_X3_number l X ad F R hI hA) ml_X3_106 yV_X3_number e_X3_factor_46 (by unfold g_rr; decide) (by decide) 33 rfl rfl rfl (Nat.le_of_ble_eq_true rfl) (fun w68 h69 => ?_)
      obtain ⟨F71, R72, rfl, oF71, oR72, cF71, cR72, hx70⟩ := h69
      have hk73 := k_ls2 hk66 hx70
      have fF71 : g_fr md_X3_factor_c3 F F71 := g_fr_c (g_fr_rf F) cF71 rfl
      have fR72 : g_fr mr_X3_factor_c3 R R72 := g_fr_c (g_fr_rf R) cR72 rfl
      exact hret e_X3_factor_49 (Nat.le_of_ble_eq_true rfl) (Nat.le_of_ble_eq_true rfl) ⟨F71, R72, rfl, oF71, oR72, fF71, fR72, (hk73.symm.trans hSP)⟩
  · have p74 := gn_eq 91 91 (gc_eq zc6) pr1 (jv_k (x := 91) 91 (by decide)) (by decide)
    have hk75 := hk5.trans (if_pos zc6)
    refine g_aload_n cx 0 rfl e_X3_factor_9 ?_
    refine g_iload_n cx 1 rfl e_X3_factor_10 ?_
    refine g_cViW cx [.int 3] [] (w_X3_opens_c3 l X ad F R hI hA) ml_X3_89 yV_X3_opens e_X3_factor_11 (by unfold g_rr; decide) (by decide) 33 rfl rfl rfl (Nat.le_of_ble_eq_true rfl) (fun r76 w77 h78 => ?_)
    obtain ⟨F80, R81, rfl, oF80, oR81, cF80, cR81, pr76, hx79⟩ := h78
    have hk82 := k_ls3 hk75 hx79
    have fF80 : g_fr md_X3_factor_c3 F F80 := g_fr_c (g_fr_rf F) cF80 rfl
    have fR81 : g_fr mr_X3_factor_c3 R R81 := g_fr_c (g_fr_rf R) cR81 rfl
    refine g_if_eq cx 30 e_X3_factor_14 (by decide) (fun zc83 => ?_) (fun zc83 => ?_)
    · exact (gf_eq (gc_eq zc83) pr76 (jv_k (x := 0) 0 (by decide)) (by decide)).elim
    · refine g_aload_n cx 0 rfl e_X3_factor_17 ?_
      refine g_iload_n cx 1 rfl e_X3_factor_18 ?_
      refine g_iconst cx 1 (by decide) e_X3_factor_19 ?_
      refine g_iadd cx e_X3_factor_20 ?_
      refine g_toi 4 (by decide) ?_
      refine g_cVvW cx [.int 4] [] (w_X3_sum_c4 l X ad F80 R81 oF80 oR81) ml_X3_63 yV_X3_sum e_X3_factor_21 (by unfold g_rr; decide) (by decide) 33 rfl rfl rfl (Nat.le_of_ble_eq_true rfl) (fun w85 h86 => ?_)
      obtain ⟨F88, R89, rfl, oF88, oR89, cF88, cR89, hx87⟩ := h86
      have hk90 := k_ls2 hk82 hx87
      have fF88 : g_fr md_X3_factor_c3 F F88 := g_fr_c fF80 cF88 rfl
      have fR89 : g_fr mr_X3_factor_c3 R R89 := g_fr_c fR81 cR89 rfl
      refine g_aload_n cx 0 rfl e_X3_factor_24 ?_
      refine g_bipush cx 93 (by decide) e_X3_factor_25 ?_
      refine g_cVvW cx [.int 93] [] (w_X3_pass l X ad F88 R89 oF88 oR89 93) ml_X3_70 yV_X3_pass e_X3_factor_27 (by unfold g_rr; decide) (by decide) 33 rfl rfl rfl (Nat.le_of_ble_eq_true rfl) (fun w92 h93 => ?_)
      obtain ⟨F95, R96, rfl, oF95, oR96, cF95, cR96, hx94⟩ := h93
      have hk97 := k_ls2 hk90 hx94
      have fF95 : g_fr md_X3_factor_c3 F F95 := g_fr_c fF88 cF95 rfl
      have fR96 : g_fr mr_X3_factor_c3 R R96 := g_fr_c fR89 cR96 rfl
      exact hret e_X3_factor_30 (Nat.le_of_ble_eq_true rfl) (Nat.le_of_ble_eq_true rfl) ⟨F95, R96, rfl, oF95, oR96, fF95, fR96, (hk97.symm.trans hSP)⟩
def K_X3_product_c3_103 (F9 : Nat → Int32) (R10 : Nat → Nat → Int32)  : (Nat → Int32) × (Nat → Nat → Int32) :=
  (F9, R10)
def K_X3_product_c3_71 (b7 : (Nat → Int32) → (Nat → Nat → Int32) → (Int32) → (Nat → Int32) × (Nat → Nat → Int32)) (F9 : Nat → Int32) (R10 : Nat → Nat → Int32) (y8 : Int32) (y26 : Int32) : (Nat → Int32) × (Nat → Nat → Int32) :=
  k_lt ((F9 531) + 1) (fun x27 => k_lt (upd F9 531 x27) (fun F29 => k_lt2 (sp_X3_factor_c3 F29 R10) (fun F35 R36 => k_lt3 (sp_X2_emit_25 F35 R36 y26 0) (fun r38 F42 R43 => k_lt (y8 + 1) (fun x45 => b7 F42 R43 x45)))))
def K_X3_product_c3_41 (b7 : (Nat → Int32) → (Nat → Nat → Int32) → (Int32) → (Nat → Int32) × (Nat → Nat → Int32)) (F9 : Nat → Int32) (R10 : Nat → Nat → Int32) (y8 : Int32)  : (Nat → Int32) × (Nat → Nat → Int32) :=
  k_lt (sp_X3_sign F9 R10) (fun r21 => if r21 = 42 then K_X3_product_c3_71 b7 F9 R10 y8 8 else k_lt (sp_X3_sign F9 R10) (fun r49 => if r49 = 47 then K_X3_product_c3_71 b7 F9 R10 y8 9 else K_X3_product_c3_71 b7 F9 R10 y8 10))
def KB_X3_product_c3_7 (b7 : (Nat → Int32) → (Nat → Nat → Int32) → (Int32) → (Nat → Int32) × (Nat → Nat → Int32))  (F9 : Nat → Int32) (R10 : Nat → Nat → Int32) (y8 : Int32) : (Nat → Int32) × (Nat → Nat → Int32) :=
  if 200 ≤ y8 then K_X3_product_c3_103 F9 R10 else k_lt (sp_X3_sign F9 R10) (fun r16 => if r16 = 42 then K_X3_product_c3_41 b7 F9 R10 y8 else k_lt (sp_X3_sign F9 R10) (fun r64 => if r64 = 47 then K_X3_product_c3_41 b7 F9 R10 y8 else k_lt (sp_X3_sign F9 R10) (fun r73 => if r73 = 37 then K_X3_product_c3_41 b7 F9 R10 y8 else K_X3_product_c3_103 F9 R10)))
def K_X3_product_c3_7  : Nat → (Nat → Int32) → (Nat → Nat → Int32) → (Int32) → (Nat → Int32) × (Nat → Nat → Int32)
  | 0 => fun F9 R10 _ => (F9, R10)
  | n + 1 => KB_X3_product_c3_7 (K_X3_product_c3_7 n)
def sp_X3_product_c3 (F : Nat → Int32) (R : Nat → Nat → Int32) : (Nat → Int32) × (Nat → Nat → Int32) :=
  k_lt2 (sp_X3_factor_c3 F R) (fun F5 R6 => K_X3_product_c3_7 8589934592 F5 R6 0)
def md_X3_product_c3 : List Nat := [402, 531, 532]
def mr_X3_product_c3 : List Nat := [26, 27]
set_option maxHeartbeats 4000000 in
set_option maxRecDepth 100000 in
theorem w_X3_product_c3 (l : Launch) (X : gX) (ad : Nat → Nat) (F : Nat → Int32) (R : Nat → Nat → Int32) (hI : g_ok LK_wX F) (hA : g_okR LA_wX R) : g_Cv l X yX3_product cX3_product 4 15 0 0 [.ref (ad 33), .int 3] (wX X ad F R) (fun w => ∃ (F' : Nat → Int32) (R' : Nat → Nat → Int32), w = wX X ad F' R' ∧ g_ok LK_wX F' ∧ g_okR LA_wX R' ∧ g_fr md_X3_product_c3 F F' ∧ g_fr mr_X3_product_c3 R R' ∧ (F', R') = sp_X3_product_c3 F R) := by
  refine g_mv (by decide +kernel) (Nat.le_of_ble_eq_true rfl) (fun E cx hret => ?_)
  obtain ⟨SP, hSP⟩ : ∃ z, z = sp_X3_product_c3 F R := ⟨_, rfl⟩
  have hk0 := hSP
  unfold sp_X3_product_c3 at hk0
  refine g_aload_n cx 0 rfl e_X3_product_0 ?_
  refine g_iload_n cx 1 rfl e_X3_product_1 ?_
  refine g_cVvW cx [.int 3] [] (w_X3_factor_c3 l X ad F R hI hA) ml_X3_99 yV_X3_factor e_X3_product_2 (by unfold g_rr; decide) (by decide) 33 rfl rfl rfl (Nat.le_of_ble_eq_true rfl) (fun w2 h3 => ?_)
  obtain ⟨F5, R6, rfl, oF5, oR6, cF5, cR6, hx4⟩ := h3
  have hk7 := k_ls2 hk0 hx4
  have fF5 : g_fr md_X3_product_c3 F F5 := g_fr_c (g_fr_rf F) cF5 rfl
  have fR6 : g_fr mr_X3_product_c3 R R6 := g_fr_c (g_fr_rf R) cR6 rfl
  refine g_iconst cx 0 (by decide) e_X3_product_5 ?_
  refine g_istore_n cx [(2, .int 0), (0, .ref (ad 33)), (1, .int 3)] e_X3_product_6 (by decide) rfl ?_
  have J7 : ∀ (N : Nat) (F9 : Nat → Int32) (R10 : Nat → Nat → Int32) (y8 : Int32), (g_ok LK_wX F9) → (g_fr md_X3_product_c3 F F9) → (g_okR LA_wX R10) → (g_fr mr_X3_product_c3 R R10) → (jv 0 200 y8) → (SP = K_X3_product_c3_7 N F9 R10 y8) → (2147483647 - y8.toInt).toNat < N → G X E 4 0 0 (wX X ad F9 R10) [(0, .ref (ad 33)), (1, .int 3), (2, .int y8)] 7 [] := by
    intro N
    induction N with
    | zero => intro F9 R10 y8 oF9 fF9 oR10 fR10 py8 hkJ7 hm; exact absurd hm (Nat.not_lt_zero _)
    | succ N ih7 =>
      intro F9 R10 y8 oF9 fF9 oR10 fR10 py8 hkJ7 hm7
      have hkK7 : SP = KB_X3_product_c3_7 (K_X3_product_c3_7 N) F9 R10 y8 := hkJ7
      obtain ⟨b7, hb7⟩ : ∃ z, z = K_X3_product_c3_7 N := ⟨_, rfl⟩
      rw [← hb7] at hkK7
      unfold KB_X3_product_c3_7 at hkK7
      refine g_iload_n cx 2 rfl e_X3_product_7 ?_
      refine g_sipush cx 200 (by decide) e_X3_product_8 ?_
      have J103 : (SP = K_X3_product_c3_103 F9 R10) → G X E 4 0 0 (wX X ad F9 R10) [] 103 [] := by
        intro   hkJ103
        unfold K_X3_product_c3_103 at hkJ103
        exact hret e_X3_product_103 (Nat.le_of_ble_eq_true rfl) (Nat.le_of_ble_eq_true rfl) ⟨F9, R10, rfl, oF9, oR10, fF9, fR10, (hkJ103.symm.trans hSP)⟩
      refine g_icmp_ge cx 103 e_X3_product_11 (by decide) (fun zc11 => ?_) (fun zc11 => ?_)
      · have p12 := gn_ge 200 200 (gc_le zc11) py8 (jv_k (x := 200) 200 (by decide)) (by decide)
        have hk13 := hkK7.trans (if_pos zc11)
        refine g_lsub [] [] rfl ?_
        exact J103  hk13
      · have p14 := gn_lt 0 199 (gc_nle zc11) py8 (jv_k (x := 200) 200 (by decide)) (by decide)
        have hk15 := hkK7.trans (if_neg zc11)
        refine g_aload_n cx 0 rfl e_X3_product_14 ?_
        refine g_cViW cx [] [] (w_X3_sign l X ad F9 R10 oF9 oR10) ml_X3_42 yV_X3_sign e_X3_product_15 (by unfold g_rr; decide) (by decide) 33 rfl rfl rfl (Nat.le_of_ble_eq_true rfl) (fun r16 w17 h18 => ?_)
        obtain ⟨rfl, pr16, hx19⟩ := h18
        have hk20 := k_ls hk15 hx19
        refine g_bipush cx 42 (by decide) e_X3_product_18 ?_
        have J41 : (SP = K_X3_product_c3_41 b7 F9 R10 y8) → G X E 4 0 0 (wX X ad F9 R10) [(0, .ref (ad 33)), (1, .int 3), (2, .int y8)] 41 [] := by
          intro   hkJ41
          unfold K_X3_product_c3_41 at hkJ41
          refine g_aload_n cx 0 rfl e_X3_product_41 ?_
          refine g_cViW cx [] [] (w_X3_sign l X ad F9 R10 oF9 oR10) ml_X3_42 yV_X3_sign e_X3_product_42 (by unfold g_rr; decide) (by decide) 33 rfl rfl rfl (Nat.le_of_ble_eq_true rfl) (fun r21 w22 h23 => ?_)
          obtain ⟨rfl, pr21, hx24⟩ := h23
          have hk25 := k_ls hkJ41 hx24
          refine g_bipush cx 42 (by decide) e_X3_product_45 ?_
          have J71 : ∀ (y26 : Int32), (jv 8 10 y26) → (SP = K_X3_product_c3_71 b7 F9 R10 y8 y26) → G X E 4 0 0 (wX X ad F9 R10) [(0, .ref (ad 33)), (1, .int 3), (2, .int y8)] 71 [.int y26] := by
            intro y26 py26 hkJ71
            unfold K_X3_product_c3_71 at hkJ71
            refine g_istore_n cx [(3, .int y26), (0, .ref (ad 33)), (1, .int 3), (2, .int y8)] e_X3_product_71 (by decide) rfl ?_
            refine g_aload_n cx 1 rfl e_X3_product_72 ?_
            refine g_dup cx rfl e_X3_product_73 ?_
            refine g_get cx cl_X3 fl_X3_19 33 (.int (F9 531)) e_X3_product_74 rfl rfl ?_
            refine g_iconst cx 1 (by decide) e_X3_product_77 ?_
            refine g_iadd cx e_X3_product_78 ?_
            refine g_topi (fun x27 ex27 => ?_)
            have hk28 := k_ls hkJ71 ex27
            refine g_put cx cl_X3 fl_X3_19 33 (wX X ad (upd F9 531 x27) R10) e_X3_product_79 rfl rfl rfl rfl (Nat.le_of_ble_eq_true rfl) rfl ?_
            obtain ⟨F29, hF29⟩ : ∃ z, z = upd F9 531 x27 := ⟨_, rfl⟩
            rw [← hF29]
            have hk30 := k_ls hk28 hF29
            have oF29 : g_ok LK_wX F29 := by rw [hF29]; exact g_ok_u oF9 rfl
            have fF29 : g_fr md_X3_product_c3 F F29 := by rw [hF29]; exact g_fr_u fF9 rfl
            refine g_aload_n cx 1 rfl e_X3_product_82 ?_
            refine g_iload_n cx 2 rfl e_X3_product_83 ?_
            refine g_cVvW cx [.int 3] [] (w_X3_factor_c3 l X ad F29 R10 oF29 oR10) ml_X3_99 yV_X3_factor e_X3_product_84 (by unfold g_rr; decide) (by decide) 33 rfl rfl rfl (Nat.le_of_ble_eq_true rfl) (fun w32 h33 => ?_)
            obtain ⟨F35, R36, rfl, oF35, oR36, cF35, cR36, hx34⟩ := h33
            have hk37 := k_ls2 hk30 hx34
            have fF35 : g_fr md_X3_product_c3 F F35 := g_fr_c fF29 cF35 rfl
            have fR36 : g_fr mr_X3_product_c3 R R36 := g_fr_c fR10 cR36 rfl
            refine g_aload_n cx 1 rfl e_X3_product_87 ?_
            refine g_get cx cl_X3 fl_X3_25 33 (.ref (ad 25)) e_X3_product_88 rfl rfl ?_
            refine g_iload_n cx 0 rfl e_X3_product_91 ?_
            refine g_iconst cx 0 (by decide) e_X3_product_92 ?_
            refine g_cViW cx [.int y26, .int 0] [] (w_X2_emit_25 l X ad F35 R36 oF35 oR36 y26 0) ml_X3_66 yV_X2_emit e_X3_product_93 (by unfold g_rr; decide) (by decide) 25 rfl rfl rfl (Nat.le_of_ble_eq_true rfl) (fun r38 w39 h40 => ?_)
            obtain ⟨F42, R43, rfl, oF42, oR43, cF42, cR43, pr38, hx41⟩ := h40
            have hk44 := k_ls3 hk37 hx41
            have fF42 : g_fr md_X3_product_c3 F F42 := g_fr_c fF35 cF42 rfl
            have fR43 : g_fr mr_X3_product_c3 R R43 := g_fr_c fR36 cR43 rfl
            refine g_pop cx rfl e_X3_product_96 ?_
            obtain ⟨x45, ex45⟩ : ∃ z : Int32, z = y8 + Int32.ofInt 1 := ⟨_, rfl⟩
            have hk46 := k_ls hk44 (show x45 = y8 + 1 from ex45)
            refine g_iinc cx x45 [(2, .int x45), (3, .int y26), (0, .ref (ad 33)), (1, .int 3)] 3 e_X3_product_97 rfl ex45.symm (by decide) rfl ?_
            have zx45 := jv_add 1 200 (show x45 = y8 + 1 from ex45) p14 (jv_k (x := 1) 1 (by decide)) (by decide)
            refine g_goto cx 7 e_X3_product_100 (by decide) ?_
            refine g_lsub [2, 3, 0] [(0, .ref (ad 33)), (1, .int 3), (2, .int x45)] rfl ?_
            exact ih7 F42 R43 x45 oF42 fF42 oR43 fR43 (jv_w zx45.2 (by decide)) (hk46.trans (by rw [hb7])) (Nat.lt_of_lt_of_le (show (2147483647 - x45.toInt).toNat < (2147483647 - y8.toInt).toNat from by have q0 := (jv_k (x := 1) 1 (by decide)).1; have q1 := (jv_k (x := 1) 1 (by decide)).2; have q2 := (jv_k (x := 200) 200 (by decide)).1; have q3 := (jv_k (x := 200) 200 (by decide)).2; have q4 := zx45.2.1; have q5 := zx45.2.2; have q6 := p14.1; have q7 := p14.2; have q8 := (gc_nle zc11); have q9 := (g_eq0 zx45.1); omega) (Nat.le_of_lt_succ hm7))
          refine g_icmp_ne cx 55 e_X3_product_47 (by decide) (fun zc47 => ?_) (fun zc47 => ?_)
          · have hk48 := hk25.trans (if_neg zc47)
            refine g_aload_n cx 0 rfl e_X3_product_55 ?_
            refine g_cViW cx [] [] (w_X3_sign l X ad F9 R10 oF9 oR10) ml_X3_42 yV_X3_sign e_X3_product_56 (by unfold g_rr; decide) (by decide) 33 rfl rfl rfl (Nat.le_of_ble_eq_true rfl) (fun r49 w50 h51 => ?_)
            obtain ⟨rfl, pr49, hx52⟩ := h51
            have hk53 := k_ls hk48 hx52
            refine g_bipush cx 47 (by decide) e_X3_product_59 ?_
            refine g_icmp_ne cx 69 e_X3_product_61 (by decide) (fun zc54 => ?_) (fun zc54 => ?_)
            · have hk55 := hk53.trans (if_neg zc54)
              refine g_bipush cx 10 (by decide) e_X3_product_69 ?_
              exact J71 10 (jv_w (jv_k (x := 10) 10 (by decide)) (by decide)) hk55
            · have p56 := gn_eq 47 47 (gc_eq zc54) pr49 (jv_k (x := 47) 47 (by decide)) (by decide)
              have hk57 := hk53.trans (if_pos zc54)
              refine g_bipush cx 9 (by decide) e_X3_product_64 ?_
              refine g_goto cx 71 e_X3_product_66 (by decide) ?_
              exact J71 9 (jv_w (jv_k (x := 9) 9 (by decide)) (by decide)) hk57
          · have p58 := gn_eq 42 42 (gc_eq zc47) pr21 (jv_k (x := 42) 42 (by decide)) (by decide)
            have hk59 := hk25.trans (if_pos zc47)
            refine g_bipush cx 8 (by decide) e_X3_product_50 ?_
            refine g_goto cx 71 e_X3_product_52 (by decide) ?_
            exact J71 8 (jv_w (jv_k (x := 8) 8 (by decide)) (by decide)) hk59
        refine g_icmp_eq cx 41 e_X3_product_20 (by decide) (fun zc60 => ?_) (fun zc60 => ?_)
        · have p61 := gn_eq 42 42 (gc_eq zc60) pr16 (jv_k (x := 42) 42 (by decide)) (by decide)
          have hk62 := hk20.trans (if_pos zc60)
          exact J41  hk62
        · have hk63 := hk20.trans (if_neg zc60)
          refine g_aload_n cx 0 rfl e_X3_product_23 ?_
          refine g_cViW cx [] [] (w_X3_sign l X ad F9 R10 oF9 oR10) ml_X3_42 yV_X3_sign e_X3_product_24 (by unfold g_rr; decide) (by decide) 33 rfl rfl rfl (Nat.le_of_ble_eq_true rfl) (fun r64 w65 h66 => ?_)
          obtain ⟨rfl, pr64, hx67⟩ := h66
          have hk68 := k_ls hk63 hx67
          refine g_bipush cx 47 (by decide) e_X3_product_27 ?_
          refine g_icmp_eq cx 41 e_X3_product_29 (by decide) (fun zc69 => ?_) (fun zc69 => ?_)
          · have p70 := gn_eq 47 47 (gc_eq zc69) pr64 (jv_k (x := 47) 47 (by decide)) (by decide)
            have hk71 := hk68.trans (if_pos zc69)
            exact J41  hk71
          · have hk72 := hk68.trans (if_neg zc69)
            refine g_aload_n cx 0 rfl e_X3_product_32 ?_
            refine g_cViW cx [] [] (w_X3_sign l X ad F9 R10 oF9 oR10) ml_X3_42 yV_X3_sign e_X3_product_33 (by unfold g_rr; decide) (by decide) 33 rfl rfl rfl (Nat.le_of_ble_eq_true rfl) (fun r73 w74 h75 => ?_)
            obtain ⟨rfl, pr73, hx76⟩ := h75
            have hk77 := k_ls hk72 hx76
            refine g_bipush cx 37 (by decide) e_X3_product_36 ?_
            refine g_icmp_ne cx 103 e_X3_product_38 (by decide) (fun zc78 => ?_) (fun zc78 => ?_)
            · have hk79 := hk77.trans (if_neg zc78)
              refine g_lsub [] [] rfl ?_
              exact J103  hk79
            · have p80 := gn_eq 37 37 (gc_eq zc78) pr73 (jv_k (x := 37) 37 (by decide)) (by decide)
              have hk81 := hk77.trans (if_pos zc78)
              exact J41  hk81
  refine g_lsub [1, 2, 0] [(0, .ref (ad 33)), (1, .int 3), (2, .int 0)] rfl ?_
  exact J7 8589934592 F5 R6 0 oF5 fF5 oR6 fR6 (jv_w (jv_k (x := 0) 0 (by decide)) (by decide)) hk7 (show (2147483647 - (0 : Int32).toInt).toNat < 8589934592 from by have q0 := (jv_k (x := 0) 0 (by decide)).1; have q1 := (jv_k (x := 0) 0 (by decide)).2; omega)
def K_X3_sum_c3_80 (F9 : Nat → Int32) (R10 : Nat → Nat → Int32)  : (Nat → Int32) × (Nat → Nat → Int32) :=
  (F9, R10)
def K_X3_sum_c3_48 (b7 : (Nat → Int32) → (Nat → Nat → Int32) → (Int32) → (Nat → Int32) × (Nat → Nat → Int32)) (F9 : Nat → Int32) (R10 : Nat → Nat → Int32) (y8 : Int32) (y26 : Int32) : (Nat → Int32) × (Nat → Nat → Int32) :=
  k_lt ((F9 531) + 1) (fun x27 => k_lt (upd F9 531 x27) (fun F29 => k_lt2 (sp_X3_product_c3 F29 R10) (fun F35 R36 => k_lt3 (sp_X2_emit_25 F35 R36 y26 0) (fun r38 F42 R43 => k_lt (y8 + 1) (fun x45 => b7 F42 R43 x45)))))
def K_X3_sum_c3_32 (b7 : (Nat → Int32) → (Nat → Nat → Int32) → (Int32) → (Nat → Int32) × (Nat → Nat → Int32)) (F9 : Nat → Int32) (R10 : Nat → Nat → Int32) (y8 : Int32)  : (Nat → Int32) × (Nat → Nat → Int32) :=
  k_lt (sp_X3_sign F9 R10) (fun r21 => if r21 = 43 then K_X3_sum_c3_48 b7 F9 R10 y8 6 else K_X3_sum_c3_48 b7 F9 R10 y8 7)
def KB_X3_sum_c3_7 (b7 : (Nat → Int32) → (Nat → Nat → Int32) → (Int32) → (Nat → Int32) × (Nat → Nat → Int32))  (F9 : Nat → Int32) (R10 : Nat → Nat → Int32) (y8 : Int32) : (Nat → Int32) × (Nat → Nat → Int32) :=
  if 200 ≤ y8 then K_X3_sum_c3_80 F9 R10 else k_lt (sp_X3_sign F9 R10) (fun r16 => if r16 = 43 then K_X3_sum_c3_32 b7 F9 R10 y8 else k_lt (sp_X3_sign F9 R10) (fun r55 => if r55 = 45 then K_X3_sum_c3_32 b7 F9 R10 y8 else K_X3_sum_c3_80 F9 R10))
def K_X3_sum_c3_7  : Nat → (Nat → Int32) → (Nat → Nat → Int32) → (Int32) → (Nat → Int32) × (Nat → Nat → Int32)
  | 0 => fun F9 R10 _ => (F9, R10)
  | n + 1 => KB_X3_sum_c3_7 (K_X3_sum_c3_7 n)
def sp_X3_sum_c3 (F : Nat → Int32) (R : Nat → Nat → Int32) : (Nat → Int32) × (Nat → Nat → Int32) :=
  k_lt2 (sp_X3_product_c3 F R) (fun F5 R6 => K_X3_sum_c3_7 8589934592 F5 R6 0)
def md_X3_sum_c3 : List Nat := [402, 531, 532]
def mr_X3_sum_c3 : List Nat := [26, 27]
set_option maxHeartbeats 4000000 in
set_option maxRecDepth 100000 in
theorem w_X3_sum_c3 (l : Launch) (X : gX) (ad : Nat → Nat) (F : Nat → Int32) (R : Nat → Nat → Int32) (hI : g_ok LK_wX F) (hA : g_okR LA_wX R) : g_Cv l X yX3_sum cX3_sum 4 16 0 0 [.ref (ad 33), .int 3] (wX X ad F R) (fun w => ∃ (F' : Nat → Int32) (R' : Nat → Nat → Int32), w = wX X ad F' R' ∧ g_ok LK_wX F' ∧ g_okR LA_wX R' ∧ g_fr md_X3_sum_c3 F F' ∧ g_fr mr_X3_sum_c3 R R' ∧ (F', R') = sp_X3_sum_c3 F R) := by
  refine g_mv (by decide +kernel) (Nat.le_of_ble_eq_true rfl) (fun E cx hret => ?_)
  obtain ⟨SP, hSP⟩ : ∃ z, z = sp_X3_sum_c3 F R := ⟨_, rfl⟩
  have hk0 := hSP
  unfold sp_X3_sum_c3 at hk0
  refine g_aload_n cx 0 rfl e_X3_sum_0 ?_
  refine g_iload_n cx 1 rfl e_X3_sum_1 ?_
  refine g_cVvW cx [.int 3] [] (w_X3_product_c3 l X ad F R hI hA) ml_X3_96 yV_X3_product e_X3_sum_2 (by unfold g_rr; decide) (by decide) 33 rfl rfl rfl (Nat.le_of_ble_eq_true rfl) (fun w2 h3 => ?_)
  obtain ⟨F5, R6, rfl, oF5, oR6, cF5, cR6, hx4⟩ := h3
  have hk7 := k_ls2 hk0 hx4
  have fF5 : g_fr md_X3_sum_c3 F F5 := g_fr_c (g_fr_rf F) cF5 rfl
  have fR6 : g_fr mr_X3_sum_c3 R R6 := g_fr_c (g_fr_rf R) cR6 rfl
  refine g_iconst cx 0 (by decide) e_X3_sum_5 ?_
  refine g_istore_n cx [(2, .int 0), (0, .ref (ad 33)), (1, .int 3)] e_X3_sum_6 (by decide) rfl ?_
  have J7 : ∀ (N : Nat) (F9 : Nat → Int32) (R10 : Nat → Nat → Int32) (y8 : Int32), (g_ok LK_wX F9) → (g_fr md_X3_sum_c3 F F9) → (g_okR LA_wX R10) → (g_fr mr_X3_sum_c3 R R10) → (jv 0 200 y8) → (SP = K_X3_sum_c3_7 N F9 R10 y8) → (2147483647 - y8.toInt).toNat < N → G X E 4 0 0 (wX X ad F9 R10) [(0, .ref (ad 33)), (1, .int 3), (2, .int y8)] 7 [] := by
    intro N
    induction N with
    | zero => intro F9 R10 y8 oF9 fF9 oR10 fR10 py8 hkJ7 hm; exact absurd hm (Nat.not_lt_zero _)
    | succ N ih7 =>
      intro F9 R10 y8 oF9 fF9 oR10 fR10 py8 hkJ7 hm7
      have hkK7 : SP = KB_X3_sum_c3_7 (K_X3_sum_c3_7 N) F9 R10 y8 := hkJ7
      obtain ⟨b7, hb7⟩ : ∃ z, z = K_X3_sum_c3_7 N := ⟨_, rfl⟩
      rw [← hb7] at hkK7
      unfold KB_X3_sum_c3_7 at hkK7
      refine g_iload_n cx 2 rfl e_X3_sum_7 ?_
      refine g_sipush cx 200 (by decide) e_X3_sum_8 ?_
      have J80 : (SP = K_X3_sum_c3_80 F9 R10) → G X E 4 0 0 (wX X ad F9 R10) [] 80 [] := by
        intro   hkJ80
        unfold K_X3_sum_c3_80 at hkJ80
        exact hret e_X3_sum_80 (Nat.le_of_ble_eq_true rfl) (Nat.le_of_ble_eq_true rfl) ⟨F9, R10, rfl, oF9, oR10, fF9, fR10, (hkJ80.symm.trans hSP)⟩
      refine g_icmp_ge cx 80 e_X3_sum_11 (by decide) (fun zc11 => ?_) (fun zc11 => ?_)
      · have p12 := gn_ge 200 200 (gc_le zc11) py8 (jv_k (x := 200) 200 (by decide)) (by decide)
        have hk13 := hkK7.trans (if_pos zc11)
        refine g_lsub [] [] rfl ?_
        exact J80  hk13
      · have p14 := gn_lt 0 199 (gc_nle zc11) py8 (jv_k (x := 200) 200 (by decide)) (by decide)
        have hk15 := hkK7.trans (if_neg zc11)
        refine g_aload_n cx 0 rfl e_X3_sum_14 ?_
        refine g_cViW cx [] [] (w_X3_sign l X ad F9 R10 oF9 oR10) ml_X3_42 yV_X3_sign e_X3_sum_15 (by unfold g_rr; decide) (by decide) 33 rfl rfl rfl (Nat.le_of_ble_eq_true rfl) (fun r16 w17 h18 => ?_)
        obtain ⟨rfl, pr16, hx19⟩ := h18
        have hk20 := k_ls hk15 hx19
        refine g_bipush cx 43 (by decide) e_X3_sum_18 ?_
        have J32 : (SP = K_X3_sum_c3_32 b7 F9 R10 y8) → G X E 4 0 0 (wX X ad F9 R10) [(0, .ref (ad 33)), (1, .int 3), (2, .int y8)] 32 [] := by
          intro   hkJ32
          unfold K_X3_sum_c3_32 at hkJ32
          refine g_aload_n cx 0 rfl e_X3_sum_32 ?_
          refine g_cViW cx [] [] (w_X3_sign l X ad F9 R10 oF9 oR10) ml_X3_42 yV_X3_sign e_X3_sum_33 (by unfold g_rr; decide) (by decide) 33 rfl rfl rfl (Nat.le_of_ble_eq_true rfl) (fun r21 w22 h23 => ?_)
          obtain ⟨rfl, pr21, hx24⟩ := h23
          have hk25 := k_ls hkJ32 hx24
          refine g_bipush cx 43 (by decide) e_X3_sum_36 ?_
          have J48 : ∀ (y26 : Int32), (jv 6 7 y26) → (SP = K_X3_sum_c3_48 b7 F9 R10 y8 y26) → G X E 4 0 0 (wX X ad F9 R10) [(0, .ref (ad 33)), (1, .int 3), (2, .int y8)] 48 [.int y26] := by
            intro y26 py26 hkJ48
            unfold K_X3_sum_c3_48 at hkJ48
            refine g_istore_n cx [(3, .int y26), (0, .ref (ad 33)), (1, .int 3), (2, .int y8)] e_X3_sum_48 (by decide) rfl ?_
            refine g_aload_n cx 1 rfl e_X3_sum_49 ?_
            refine g_dup cx rfl e_X3_sum_50 ?_
            refine g_get cx cl_X3 fl_X3_19 33 (.int (F9 531)) e_X3_sum_51 rfl rfl ?_
            refine g_iconst cx 1 (by decide) e_X3_sum_54 ?_
            refine g_iadd cx e_X3_sum_55 ?_
            refine g_topi (fun x27 ex27 => ?_)
            have hk28 := k_ls hkJ48 ex27
            refine g_put cx cl_X3 fl_X3_19 33 (wX X ad (upd F9 531 x27) R10) e_X3_sum_56 rfl rfl rfl rfl (Nat.le_of_ble_eq_true rfl) rfl ?_
            obtain ⟨F29, hF29⟩ : ∃ z, z = upd F9 531 x27 := ⟨_, rfl⟩
            rw [← hF29]
            have hk30 := k_ls hk28 hF29
            have oF29 : g_ok LK_wX F29 := by rw [hF29]; exact g_ok_u oF9 rfl
            have fF29 : g_fr md_X3_sum_c3 F F29 := by rw [hF29]; exact g_fr_u fF9 rfl
            refine g_aload_n cx 1 rfl e_X3_sum_59 ?_
            refine g_iload_n cx 2 rfl e_X3_sum_60 ?_
            refine g_cVvW cx [.int 3] [] (w_X3_product_c3 l X ad F29 R10 oF29 oR10) ml_X3_96 yV_X3_product e_X3_sum_61 (by unfold g_rr; decide) (by decide) 33 rfl rfl rfl (Nat.le_of_ble_eq_true rfl) (fun w32 h33 => ?_)
            obtain ⟨F35, R36, rfl, oF35, oR36, cF35, cR36, hx34⟩ := h33
            have hk37 := k_ls2 hk30 hx34
            have fF35 : g_fr md_X3_sum_c3 F F35 := g_fr_c fF29 cF35 rfl
            have fR36 : g_fr mr_X3_sum_c3 R R36 := g_fr_c fR10 cR36 rfl
            refine g_aload_n cx 1 rfl e_X3_sum_64 ?_
            refine g_get cx cl_X3 fl_X3_25 33 (.ref (ad 25)) e_X3_sum_65 rfl rfl ?_
            refine g_iload_n cx 0 rfl e_X3_sum_68 ?_
            refine g_iconst cx 0 (by decide) e_X3_sum_69 ?_
            refine g_cViW cx [.int y26, .int 0] [] (w_X2_emit_25 l X ad F35 R36 oF35 oR36 y26 0) ml_X3_66 yV_X2_emit e_X3_sum_70 (by unfold g_rr; decide) (by decide) 25 rfl rfl rfl (Nat.le_of_ble_eq_true rfl) (fun r38 w39 h40 => ?_)
            obtain ⟨F42, R43, rfl, oF42, oR43, cF42, cR43, pr38, hx41⟩ := h40
            have hk44 := k_ls3 hk37 hx41
            have fF42 : g_fr md_X3_sum_c3 F F42 := g_fr_c fF35 cF42 rfl
            have fR43 : g_fr mr_X3_sum_c3 R R43 := g_fr_c fR36 cR43 rfl
            refine g_pop cx rfl e_X3_sum_73 ?_
            obtain ⟨x45, ex45⟩ : ∃ z : Int32, z = y8 + Int32.ofInt 1 := ⟨_, rfl⟩
            have hk46 := k_ls hk44 (show x45 = y8 + 1 from ex45)
            refine g_iinc cx x45 [(2, .int x45), (3, .int y26), (0, .ref (ad 33)), (1, .int 3)] 3 e_X3_sum_74 rfl ex45.symm (by decide) rfl ?_
            have zx45 := jv_add 1 200 (show x45 = y8 + 1 from ex45) p14 (jv_k (x := 1) 1 (by decide)) (by decide)
            refine g_goto cx 7 e_X3_sum_77 (by decide) ?_
            refine g_lsub [2, 3, 0] [(0, .ref (ad 33)), (1, .int 3), (2, .int x45)] rfl ?_
            exact ih7 F42 R43 x45 oF42 fF42 oR43 fR43 (jv_w zx45.2 (by decide)) (hk46.trans (by rw [hb7])) (Nat.lt_of_lt_of_le (show (2147483647 - x45.toInt).toNat < (2147483647 - y8.toInt).toNat from by have q0 := (jv_k (x := 1) 1 (by decide)).1; have q1 := (jv_k (x := 1) 1 (by decide)).2; have q2 := (jv_k (x := 200) 200 (by decide)).1; have q3 := (jv_k (x := 200) 200 (by decide)).2; have q4 := zx45.2.1; have q5 := zx45.2.2; have q6 := p14.1; have q7 := p14.2; have q8 := (gc_nle zc11); have q9 := (g_eq0 zx45.1); omega) (Nat.le_of_lt_succ hm7))
          refine g_icmp_ne cx 46 e_X3_sum_38 (by decide) (fun zc47 => ?_) (fun zc47 => ?_)
          · have hk48 := hk25.trans (if_neg zc47)
            refine g_bipush cx 7 (by decide) e_X3_sum_46 ?_
            exact J48 7 (jv_w (jv_k (x := 7) 7 (by decide)) (by decide)) hk48
          · have p49 := gn_eq 43 43 (gc_eq zc47) pr21 (jv_k (x := 43) 43 (by decide)) (by decide)
            have hk50 := hk25.trans (if_pos zc47)
            refine g_bipush cx 6 (by decide) e_X3_sum_41 ?_
            refine g_goto cx 48 e_X3_sum_43 (by decide) ?_
            exact J48 6 (jv_w (jv_k (x := 6) 6 (by decide)) (by decide)) hk50
        refine g_icmp_eq cx 32 e_X3_sum_20 (by decide) (fun zc51 => ?_) (fun zc51 => ?_)
        · have p52 := gn_eq 43 43 (gc_eq zc51) pr16 (jv_k (x := 43) 43 (by decide)) (by decide)
          have hk53 := hk20.trans (if_pos zc51)
          exact J32  hk53
        · have hk54 := hk20.trans (if_neg zc51)
          refine g_aload_n cx 0 rfl e_X3_sum_23 ?_
          refine g_cViW cx [] [] (w_X3_sign l X ad F9 R10 oF9 oR10) ml_X3_42 yV_X3_sign e_X3_sum_24 (by unfold g_rr; decide) (by decide) 33 rfl rfl rfl (Nat.le_of_ble_eq_true rfl) (fun r55 w56 h57 => ?_)
          obtain ⟨rfl, pr55, hx58⟩ := h57
          have hk59 := k_ls hk54 hx58
          refine g_bipush cx 45 (by decide) e_X3_sum_27 ?_
          refine g_icmp_ne cx 80 e_X3_sum_29 (by decide) (fun zc60 => ?_) (fun zc60 => ?_)
          · have hk61 := hk59.trans (if_neg zc60)
            refine g_lsub [] [] rfl ?_
            exact J80  hk61
          · have p62 := gn_eq 45 45 (gc_eq zc60) pr55 (jv_k (x := 45) 45 (by decide)) (by decide)
            have hk63 := hk59.trans (if_pos zc60)
            exact J32  hk63
  refine g_lsub [1, 2, 0] [(0, .ref (ad 33)), (1, .int 3), (2, .int 0)] rfl ?_
  exact J7 8589934592 F5 R6 0 oF5 fF5 oR6 fR6 (jv_w (jv_k (x := 0) 0 (by decide)) (by decide)) hk7 (show (2147483647 - (0 : Int32).toInt).toNat < 8589934592 from by have q0 := (jv_k (x := 0) 0 (by decide)).1; have q1 := (jv_k (x := 0) 0 (by decide)).2; omega)
def K_X3_factor_c2_72 (F : Nat → Int32) (R : Nat → Nat → Int32) (y25 : Int32) : (Nat → Int32) × (Nat → Nat → Int32) :=
  if 0 ≤ y25 then k_lt ((F 531) + 1) (fun x29 => k_lt (upd F 531 x29) (fun F31 => k_lt3 (sp_X2_emit_25 F31 R 2 y25) (fun r33 F37 R38 => (F37, R38)))) else k_lt2 (sp_X3_fail F R 1) (fun F46 R47 => (F46, R47))
def sp_X3_factor_c2 (F : Nat → Int32) (R : Nat → Nat → Int32) : (Nat → Int32) × (Nat → Nat → Int32) :=
  k_lt (sp_X3_sign F R) (fun r1 => if r1 = 91 then k_lt3 (sp_X3_opens_c2 F R) (fun r76 F80 R81 => k_lt2 (sp_X3_sum_c3 F80 R81) (fun F88 R89 => k_lt2 (sp_X3_pass F88 R89 93) (fun F95 R96 => (F95, R96)))) else k_lt (sp_X3_sign F R) (fun r8 => k_lt (g_in r8 48 57) (fun r13 => if r13 = 0 then k_lt (sp_X3_sign F R) (fun r20 => if r20 = (-1) then K_X3_factor_c2_72 F R (-1) else k_lt (sp_X3_sign F R) (fun r51 => k_lt ((r51.toUInt32 % 65536).toInt32) (fun x56 => k_lt (sp_J0_indexOf_0f7a4_s1 x56) (fun r58 => K_X3_factor_c2_72 F R r58)))) else k_lt2 (sp_X3_number F R) (fun F71 R72 => (F71, R72)))))
def md_X3_factor_c2 : List Nat := [402, 531, 532]
def mr_X3_factor_c2 : List Nat := [26, 27]
set_option maxHeartbeats 4000000 in
set_option maxRecDepth 100000 in
theorem w_X3_factor_c2 (l : Launch) (X : gX) (ad : Nat → Nat) (F : Nat → Int32) (R : Nat → Nat → Int32) (hI : g_ok LK_wX F) (hA : g_okR LA_wX R) : g_Cv l X yX3_factor cX3_factor 3 17 0 0 [.ref (ad 33), .int 2] (wX X ad F R) (fun w => ∃ (F' : Nat → Int32) (R' : Nat → Nat → Int32), w = wX X ad F' R' ∧ g_ok LK_wX F' ∧ g_okR LA_wX R' ∧ g_fr md_X3_factor_c2 F F' ∧ g_fr mr_X3_factor_c2 R R' ∧ (F', R') = sp_X3_factor_c2 F R) := by
  refine g_mv (by decide +kernel) (Nat.le_of_ble_eq_true rfl) (fun E cx hret => ?_)
  obtain ⟨SP, hSP⟩ : ∃ z, z = sp_X3_factor_c2 F R := ⟨_, rfl⟩
  have hk0 := hSP
  unfold sp_X3_factor_c2 at hk0
  refine g_aload_n cx 0 rfl e_X3_factor_0 ?_
  refine g_cViW cx [] [] (w_X3_sign l X ad F R hI hA) ml_X3_42 yV_X3_sign e_X3_factor_1 (by unfold g_rr; decide) (by decide) 33 rfl rfl rfl (Nat.le_of_ble_eq_true rfl) (fun r1 w2 h3 => ?_)
  obtain ⟨rfl, pr1, hx4⟩ := h3
  have hk5 := k_ls hk0 hx4
  refine g_bipush cx 91 (by decide) e_X3_factor_4 ?_
  refine g_icmp_ne cx 31 e_X3_factor_6 (by decide) (fun zc6 => ?_) (fun zc6 => ?_)
  · have hk7 := hk5.trans (if_neg zc6)
    refine g_aload_n cx 0 rfl e_X3_factor_31 ?_
    refine g_cViW cx [] [] (w_X3_sign l X ad F R hI hA) ml_X3_42 yV_X3_sign e_X3_factor_32 (by unfold g_rr; decide) (by decide) 33 rfl rfl rfl (Nat.le_of_ble_eq_true rfl) (fun r8 w9 h10 => ?_)
    obtain ⟨rfl, pr8, hx11⟩ := h10
    have hk12 := k_ls hk7 hx11
    refine g_bipush cx 48 (by decide) e_X3_factor_35 ?_
    refine g_bipush cx 57 (by decide) e_X3_factor_37 ?_
    refine g_cNiW cx [.int r8, .int 48, .int 57] [] (c_X10_within l X (wX X ad F R) r8 48 57) mn_X3_102 yS_X10_within e_X3_factor_39 (by unfold g_rr; decide) (by decide) rfl (Nat.le_of_ble_eq_true rfl) (fun r13 w14 h15 => ?_)
    obtain ⟨rfl, hr13⟩ := h15
    have pr13 : jv 0 1 r13 := by rw [hr13]; exact gi_01 _ _ _
    have hk16 := k_ls hk12 hr13
    refine g_if_eq cx 50 e_X3_factor_42 (by decide) (fun zc17 => ?_) (fun zc17 => ?_)
    · have p18 := gn_eq 0 0 (gc_eq zc17) pr13 (jv_k (x := 0) 0 (by decide)) (by decide)
      have hk19 := hk16.trans (if_pos zc17)
      refine g_aload_n cx 0 rfl e_X3_factor_50 ?_
      refine g_cViW cx [] [] (w_X3_sign l X ad F R hI hA) ml_X3_42 yV_X3_sign e_X3_factor_51 (by unfold g_rr; decide) (by decide) 33 rfl rfl rfl (Nat.le_of_ble_eq_true rfl) (fun r20 w21 h22 => ?_)
      obtain ⟨rfl, pr20, hx23⟩ := h22
      have hk24 := k_ls hk19 hx23
      refine g_iconst cx (-1) (by decide) e_X3_factor_54 ?_
      have J72 : ∀ (y25 : Int32), (jv (-1) 11 y25) → (SP = K_X3_factor_c2_72 F R y25) → G X E 3 0 0 (wX X ad F R) [(0, .ref (ad 33))] 72 [.int y25] := by
        intro y25 py25 hkJ72
        unfold K_X3_factor_c2_72 at hkJ72
        refine g_istore_n cx [(2, .int y25), (0, .ref (ad 33))] e_X3_factor_72 (by decide) rfl ?_
        refine g_iload_n cx 0 rfl e_X3_factor_73 ?_
        refine g_if_ge cx 83 e_X3_factor_74 (by decide) (fun zc26 => ?_) (fun zc26 => ?_)
        · have p27 := gn_ge 0 11 (gc_le zc26) py25 (jv_k (x := 0) 0 (by decide)) (by decide)
          have hk28 := hkJ72.trans (if_pos zc26)
          refine g_aload_n cx 1 rfl e_X3_factor_83 ?_
          refine g_dup cx rfl e_X3_factor_84 ?_
          refine g_get cx cl_X3 fl_X3_19 33 (.int (F 531)) e_X3_factor_85 rfl rfl ?_
          refine g_iconst cx 1 (by decide) e_X3_factor_88 ?_
          refine g_iadd cx e_X3_factor_89 ?_
          refine g_topi (fun x29 ex29 => ?_)
          have hk30 := k_ls hk28 ex29
          refine g_put cx cl_X3 fl_X3_19 33 (wX X ad (upd F 531 x29) R) e_X3_factor_90 rfl rfl rfl rfl (Nat.le_of_ble_eq_true rfl) rfl ?_
          obtain ⟨F31, hF31⟩ : ∃ z, z = upd F 531 x29 := ⟨_, rfl⟩
          rw [← hF31]
          have hk32 := k_ls hk30 hF31
          have oF31 : g_ok LK_wX F31 := by rw [hF31]; exact g_ok_u hI rfl
          have fF31 : g_fr md_X3_factor_c2 F F31 := by rw [hF31]; exact g_fr_u (g_fr_rf F) rfl
          refine g_aload_n cx 1 rfl e_X3_factor_93 ?_
          refine g_get cx cl_X3 fl_X3_25 33 (.ref (ad 25)) e_X3_factor_94 rfl rfl ?_
          refine g_iconst cx 2 (by decide) e_X3_factor_97 ?_
          refine g_iload_n cx 0 rfl e_X3_factor_98 ?_
          refine g_cViW cx [.int 2, .int y25] [] (w_X2_emit_25 l X ad F31 R oF31 hA 2 y25) ml_X3_66 yV_X2_emit e_X3_factor_99 (by unfold g_rr; decide) (by decide) 25 rfl rfl rfl (Nat.le_of_ble_eq_true rfl) (fun r33 w34 h35 => ?_)
          obtain ⟨F37, R38, rfl, oF37, oR38, cF37, cR38, pr33, hx36⟩ := h35
          have hk39 := k_ls3 hk32 hx36
          have fF37 : g_fr md_X3_factor_c2 F F37 := g_fr_c fF31 cF37 rfl
          have fR38 : g_fr mr_X3_factor_c2 R R38 := g_fr_c (g_fr_rf R) cR38 rfl
          refine g_pop cx rfl e_X3_factor_102 ?_
          exact hret e_X3_factor_103 (Nat.le_of_ble_eq_true rfl) (Nat.le_of_ble_eq_true rfl) ⟨F37, R38, rfl, oF37, oR38, fF37, fR38, (hk39.symm.trans hSP)⟩
        · have p40 := gn_lt (-1) (-1) (gc_nle zc26) py25 (jv_k (x := 0) 0 (by decide)) (by decide)
          have hk41 := hkJ72.trans (if_neg zc26)
          refine g_aload_n cx 1 rfl e_X3_factor_77 ?_
          refine g_iconst cx 1 (by decide) e_X3_factor_78 ?_
          refine g_cVvW cx [.int 1] [] (w_X3_fail l X ad F R hI hA 1) ml_X3_46 yV_X3_fail e_X3_factor_79 (by unfold g_rr; decide) (by decide) 33 rfl rfl rfl (Nat.le_of_ble_eq_true rfl) (fun w43 h44 => ?_)
          obtain ⟨F46, R47, rfl, oF46, oR47, cF46, cR47, hx45⟩ := h44
          have hk48 := k_ls2 hk41 hx45
          have fF46 : g_fr md_X3_factor_c2 F F46 := g_fr_c (g_fr_rf F) cF46 rfl
          have fR47 : g_fr mr_X3_factor_c2 R R47 := g_fr_c (g_fr_rf R) cR47 rfl
          exact hret e_X3_factor_82 (Nat.le_of_ble_eq_true rfl) (Nat.le_of_ble_eq_true rfl) ⟨F46, R47, rfl, oF46, oR47, fF46, fR47, (hk48.symm.trans hSP)⟩
      refine g_icmp_ne cx 62 e_X3_factor_55 (by decide) (fun zc49 => ?_) (fun zc49 => ?_)
      · have hk50 := hk24.trans (if_neg zc49)
        refine g_ldcS1 cx rfl e_X3_factor_62 ?_
        refine g_aload_n cx 0 rfl e_X3_factor_64 ?_
        refine g_cViW cx [] [.ref (X.1.2.2.2.1 1)] (w_X3_sign l X ad F R hI hA) ml_X3_42 yV_X3_sign e_X3_factor_65 (by unfold g_rr; decide) (by decide) 33 rfl rfl rfl (Nat.le_of_ble_eq_true rfl) (fun r51 w52 h53 => ?_)
        obtain ⟨rfl, pr51, hx54⟩ := h53
        have hk55 := k_ls hk50 hx54
        refine g_i2c cx e_X3_factor_68 ?_
        refine g_topi (fun x56 ex56 => ?_)
        have hk57 := k_ls hk55 ex56
        refine g_cVsW cx [.int x56] [] 1 (by decide) rfl (w_J0_indexOf_0f7a4_s1 l X (wX X ad F R) x56) ml_X3_52 yV_J0_indexOf_0f7a4 e_X3_factor_69 (by unfold g_rr; decide) (by decide) rfl (Nat.le_of_ble_eq_true rfl) (fun r58 w59 h60 => ?_)
        obtain ⟨rfl, pr58⟩ := h60
        obtain ⟨pr58, hxr58⟩ := pr58
        have hk61 := k_ls hk57 hxr58
        refine g_lsub [0] [(0, .ref (ad 33))] rfl ?_
        exact J72 r58 pr58 hk61
      · have p62 := gn_eq (-1) (-1) (gc_eq zc49) pr20 (jv_k (x := (-1)) (-1) (by decide)) (by decide)
        have hk63 := hk24.trans (if_pos zc49)
        refine g_iconst cx (-1) (by decide) e_X3_factor_58 ?_
        refine g_goto cx 72 e_X3_factor_59 (by decide) ?_
        refine g_lsub [0] [(0, .ref (ad 33))] rfl ?_
        exact J72 (-1) (jv_w (jv_k (x := (-1)) (-1) (by decide)) (by decide)) hk63
    · have p64 := gn_neL 1 1 (gc_ne zc17) pr13 (jv_k (x := 0) 0 (by decide)) (by decide)
      have p65 := jv_i 48 57 pr8 (gi_in (A := 48) (B := 57) hr13 zc17 (by decide) (by decide)) (by decide)
      have hk66 := hk16.trans (if_neg zc17)
      refine g_aload_n cx 0 rfl e_X3_factor_45 ?_
      refine g_cVvW cx [] [] (w_X3_number l X ad F R hI hA) ml_X3_106 yV_X3_number e_X3_factor_46 (by unfold g_rr; decide) (by decide) 33 rfl rfl rfl (Nat.le_of_ble_eq_true rfl) (fun w68 h69 => ?_)
      obtain ⟨F71, R72, rfl, oF71, oR72, cF71, cR72, hx70⟩ := h69
      have hk73 := k_ls2 hk66 hx70
      have fF71 : g_fr md_X3_factor_c2 F F71 := g_fr_c (g_fr_rf F) cF71 rfl
      have fR72 : g_fr mr_X3_factor_c2 R R72 := g_fr_c (g_fr_rf R) cR72 rfl
      exact hret e_X3_factor_49 (Nat.le_of_ble_eq_true rfl) (Nat.le_of_ble_eq_true rfl) ⟨F71, R72, rfl, oF71, oR72, fF71, fR72, (hk73.symm.trans hSP)⟩
  · have p74 := gn_eq 91 91 (gc_eq zc6) pr1 (jv_k (x := 91) 91 (by decide)) (by decide)
    have hk75 := hk5.trans (if_pos zc6)
    refine g_aload_n cx 0 rfl e_X3_factor_9 ?_
    refine g_iload_n cx 1 rfl e_X3_factor_10 ?_
    refine g_cViW cx [.int 2] [] (w_X3_opens_c2 l X ad F R hI hA) ml_X3_89 yV_X3_opens e_X3_factor_11 (by unfold g_rr; decide) (by decide) 33 rfl rfl rfl (Nat.le_of_ble_eq_true rfl) (fun r76 w77 h78 => ?_)
    obtain ⟨F80, R81, rfl, oF80, oR81, cF80, cR81, pr76, hx79⟩ := h78
    have hk82 := k_ls3 hk75 hx79
    have fF80 : g_fr md_X3_factor_c2 F F80 := g_fr_c (g_fr_rf F) cF80 rfl
    have fR81 : g_fr mr_X3_factor_c2 R R81 := g_fr_c (g_fr_rf R) cR81 rfl
    refine g_if_eq cx 30 e_X3_factor_14 (by decide) (fun zc83 => ?_) (fun zc83 => ?_)
    · exact (gf_eq (gc_eq zc83) pr76 (jv_k (x := 0) 0 (by decide)) (by decide)).elim
    · refine g_aload_n cx 0 rfl e_X3_factor_17 ?_
      refine g_iload_n cx 1 rfl e_X3_factor_18 ?_
      refine g_iconst cx 1 (by decide) e_X3_factor_19 ?_
      refine g_iadd cx e_X3_factor_20 ?_
      refine g_toi 3 (by decide) ?_
      refine g_cVvW cx [.int 3] [] (w_X3_sum_c3 l X ad F80 R81 oF80 oR81) ml_X3_63 yV_X3_sum e_X3_factor_21 (by unfold g_rr; decide) (by decide) 33 rfl rfl rfl (Nat.le_of_ble_eq_true rfl) (fun w85 h86 => ?_)
      obtain ⟨F88, R89, rfl, oF88, oR89, cF88, cR89, hx87⟩ := h86
      have hk90 := k_ls2 hk82 hx87
      have fF88 : g_fr md_X3_factor_c2 F F88 := g_fr_c fF80 cF88 rfl
      have fR89 : g_fr mr_X3_factor_c2 R R89 := g_fr_c fR81 cR89 rfl
      refine g_aload_n cx 0 rfl e_X3_factor_24 ?_
      refine g_bipush cx 93 (by decide) e_X3_factor_25 ?_
      refine g_cVvW cx [.int 93] [] (w_X3_pass l X ad F88 R89 oF88 oR89 93) ml_X3_70 yV_X3_pass e_X3_factor_27 (by unfold g_rr; decide) (by decide) 33 rfl rfl rfl (Nat.le_of_ble_eq_true rfl) (fun w92 h93 => ?_)
      obtain ⟨F95, R96, rfl, oF95, oR96, cF95, cR96, hx94⟩ := h93
      have hk97 := k_ls2 hk90 hx94
      have fF95 : g_fr md_X3_factor_c2 F F95 := g_fr_c fF88 cF95 rfl
      have fR96 : g_fr mr_X3_factor_c2 R R96 := g_fr_c fR89 cR96 rfl
      exact hret e_X3_factor_30 (Nat.le_of_ble_eq_true rfl) (Nat.le_of_ble_eq_true rfl) ⟨F95, R96, rfl, oF95, oR96, fF95, fR96, (hk97.symm.trans hSP)⟩
def K_X3_product_c2_103 (F9 : Nat → Int32) (R10 : Nat → Nat → Int32)  : (Nat → Int32) × (Nat → Nat → Int32) :=
  (F9, R10)
def K_X3_product_c2_71 (b7 : (Nat → Int32) → (Nat → Nat → Int32) → (Int32) → (Nat → Int32) × (Nat → Nat → Int32)) (F9 : Nat → Int32) (R10 : Nat → Nat → Int32) (y8 : Int32) (y26 : Int32) : (Nat → Int32) × (Nat → Nat → Int32) :=
  k_lt ((F9 531) + 1) (fun x27 => k_lt (upd F9 531 x27) (fun F29 => k_lt2 (sp_X3_factor_c2 F29 R10) (fun F35 R36 => k_lt3 (sp_X2_emit_25 F35 R36 y26 0) (fun r38 F42 R43 => k_lt (y8 + 1) (fun x45 => b7 F42 R43 x45)))))
def K_X3_product_c2_41 (b7 : (Nat → Int32) → (Nat → Nat → Int32) → (Int32) → (Nat → Int32) × (Nat → Nat → Int32)) (F9 : Nat → Int32) (R10 : Nat → Nat → Int32) (y8 : Int32)  : (Nat → Int32) × (Nat → Nat → Int32) :=
  k_lt (sp_X3_sign F9 R10) (fun r21 => if r21 = 42 then K_X3_product_c2_71 b7 F9 R10 y8 8 else k_lt (sp_X3_sign F9 R10) (fun r49 => if r49 = 47 then K_X3_product_c2_71 b7 F9 R10 y8 9 else K_X3_product_c2_71 b7 F9 R10 y8 10))
def KB_X3_product_c2_7 (b7 : (Nat → Int32) → (Nat → Nat → Int32) → (Int32) → (Nat → Int32) × (Nat → Nat → Int32))  (F9 : Nat → Int32) (R10 : Nat → Nat → Int32) (y8 : Int32) : (Nat → Int32) × (Nat → Nat → Int32) :=
  if 200 ≤ y8 then K_X3_product_c2_103 F9 R10 else k_lt (sp_X3_sign F9 R10) (fun r16 => if r16 = 42 then K_X3_product_c2_41 b7 F9 R10 y8 else k_lt (sp_X3_sign F9 R10) (fun r64 => if r64 = 47 then K_X3_product_c2_41 b7 F9 R10 y8 else k_lt (sp_X3_sign F9 R10) (fun r73 => if r73 = 37 then K_X3_product_c2_41 b7 F9 R10 y8 else K_X3_product_c2_103 F9 R10)))
def K_X3_product_c2_7  : Nat → (Nat → Int32) → (Nat → Nat → Int32) → (Int32) → (Nat → Int32) × (Nat → Nat → Int32)
  | 0 => fun F9 R10 _ => (F9, R10)
  | n + 1 => KB_X3_product_c2_7 (K_X3_product_c2_7 n)
def sp_X3_product_c2 (F : Nat → Int32) (R : Nat → Nat → Int32) : (Nat → Int32) × (Nat → Nat → Int32) :=
  k_lt2 (sp_X3_factor_c2 F R) (fun F5 R6 => K_X3_product_c2_7 8589934592 F5 R6 0)
def md_X3_product_c2 : List Nat := [402, 531, 532]
def mr_X3_product_c2 : List Nat := [26, 27]
set_option maxHeartbeats 4000000 in
set_option maxRecDepth 100000 in
theorem w_X3_product_c2 (l : Launch) (X : gX) (ad : Nat → Nat) (F : Nat → Int32) (R : Nat → Nat → Int32) (hI : g_ok LK_wX F) (hA : g_okR LA_wX R) : g_Cv l X yX3_product cX3_product 4 18 0 0 [.ref (ad 33), .int 2] (wX X ad F R) (fun w => ∃ (F' : Nat → Int32) (R' : Nat → Nat → Int32), w = wX X ad F' R' ∧ g_ok LK_wX F' ∧ g_okR LA_wX R' ∧ g_fr md_X3_product_c2 F F' ∧ g_fr mr_X3_product_c2 R R' ∧ (F', R') = sp_X3_product_c2 F R) := by
  refine g_mv (by decide +kernel) (Nat.le_of_ble_eq_true rfl) (fun E cx hret => ?_)
  obtain ⟨SP, hSP⟩ : ∃ z, z = sp_X3_product_c2 F R := ⟨_, rfl⟩
  have hk0 := hSP
  unfold sp_X3_product_c2 at hk0
  refine g_aload_n cx 0 rfl e_X3_product_0 ?_
  refine g_iload_n cx 1 rfl e_X3_product_1 ?_
  refine g_cVvW cx [.int 2] [] (w_X3_factor_c2 l X ad F R hI hA) ml_X3_99 yV_X3_factor e_X3_product_2 (by unfold g_rr; decide) (by decide) 33 rfl rfl rfl (Nat.le_of_ble_eq_true rfl) (fun w2 h3 => ?_)
  obtain ⟨F5, R6, rfl, oF5, oR6, cF5, cR6, hx4⟩ := h3
  have hk7 := k_ls2 hk0 hx4
  have fF5 : g_fr md_X3_product_c2 F F5 := g_fr_c (g_fr_rf F) cF5 rfl
  have fR6 : g_fr mr_X3_product_c2 R R6 := g_fr_c (g_fr_rf R) cR6 rfl
  refine g_iconst cx 0 (by decide) e_X3_product_5 ?_
  refine g_istore_n cx [(2, .int 0), (0, .ref (ad 33)), (1, .int 2)] e_X3_product_6 (by decide) rfl ?_
  have J7 : ∀ (N : Nat) (F9 : Nat → Int32) (R10 : Nat → Nat → Int32) (y8 : Int32), (g_ok LK_wX F9) → (g_fr md_X3_product_c2 F F9) → (g_okR LA_wX R10) → (g_fr mr_X3_product_c2 R R10) → (jv 0 200 y8) → (SP = K_X3_product_c2_7 N F9 R10 y8) → (2147483647 - y8.toInt).toNat < N → G X E 4 0 0 (wX X ad F9 R10) [(0, .ref (ad 33)), (1, .int 2), (2, .int y8)] 7 [] := by
    intro N
    induction N with
    | zero => intro F9 R10 y8 oF9 fF9 oR10 fR10 py8 hkJ7 hm; exact absurd hm (Nat.not_lt_zero _)
    | succ N ih7 =>
      intro F9 R10 y8 oF9 fF9 oR10 fR10 py8 hkJ7 hm7
      have hkK7 : SP = KB_X3_product_c2_7 (K_X3_product_c2_7 N) F9 R10 y8 := hkJ7
      obtain ⟨b7, hb7⟩ : ∃ z, z = K_X3_product_c2_7 N := ⟨_, rfl⟩
      rw [← hb7] at hkK7
      unfold KB_X3_product_c2_7 at hkK7
      refine g_iload_n cx 2 rfl e_X3_product_7 ?_
      refine g_sipush cx 200 (by decide) e_X3_product_8 ?_
      have J103 : (SP = K_X3_product_c2_103 F9 R10) → G X E 4 0 0 (wX X ad F9 R10) [] 103 [] := by
        intro   hkJ103
        unfold K_X3_product_c2_103 at hkJ103
        exact hret e_X3_product_103 (Nat.le_of_ble_eq_true rfl) (Nat.le_of_ble_eq_true rfl) ⟨F9, R10, rfl, oF9, oR10, fF9, fR10, (hkJ103.symm.trans hSP)⟩
      refine g_icmp_ge cx 103 e_X3_product_11 (by decide) (fun zc11 => ?_) (fun zc11 => ?_)
      · have p12 := gn_ge 200 200 (gc_le zc11) py8 (jv_k (x := 200) 200 (by decide)) (by decide)
        have hk13 := hkK7.trans (if_pos zc11)
        refine g_lsub [] [] rfl ?_
        exact J103  hk13
      · have p14 := gn_lt 0 199 (gc_nle zc11) py8 (jv_k (x := 200) 200 (by decide)) (by decide)
        have hk15 := hkK7.trans (if_neg zc11)
        refine g_aload_n cx 0 rfl e_X3_product_14 ?_
        refine g_cViW cx [] [] (w_X3_sign l X ad F9 R10 oF9 oR10) ml_X3_42 yV_X3_sign e_X3_product_15 (by unfold g_rr; decide) (by decide) 33 rfl rfl rfl (Nat.le_of_ble_eq_true rfl) (fun r16 w17 h18 => ?_)
        obtain ⟨rfl, pr16, hx19⟩ := h18
        have hk20 := k_ls hk15 hx19
        refine g_bipush cx 42 (by decide) e_X3_product_18 ?_
        have J41 : (SP = K_X3_product_c2_41 b7 F9 R10 y8) → G X E 4 0 0 (wX X ad F9 R10) [(0, .ref (ad 33)), (1, .int 2), (2, .int y8)] 41 [] := by
          intro   hkJ41
          unfold K_X3_product_c2_41 at hkJ41
          refine g_aload_n cx 0 rfl e_X3_product_41 ?_
          refine g_cViW cx [] [] (w_X3_sign l X ad F9 R10 oF9 oR10) ml_X3_42 yV_X3_sign e_X3_product_42 (by unfold g_rr; decide) (by decide) 33 rfl rfl rfl (Nat.le_of_ble_eq_true rfl) (fun r21 w22 h23 => ?_)
          obtain ⟨rfl, pr21, hx24⟩ := h23
          have hk25 := k_ls hkJ41 hx24
          refine g_bipush cx 42 (by decide) e_X3_product_45 ?_
          have J71 : ∀ (y26 : Int32), (jv 8 10 y26) → (SP = K_X3_product_c2_71 b7 F9 R10 y8 y26) → G X E 4 0 0 (wX X ad F9 R10) [(0, .ref (ad 33)), (1, .int 2), (2, .int y8)] 71 [.int y26] := by
            intro y26 py26 hkJ71
            unfold K_X3_product_c2_71 at hkJ71
            refine g_istore_n cx [(3, .int y26), (0, .ref (ad 33)), (1, .int 2), (2, .int y8)] e_X3_product_71 (by decide) rfl ?_
            refine g_aload_n cx 1 rfl e_X3_product_72 ?_
            refine g_dup cx rfl e_X3_product_73 ?_
            refine g_get cx cl_X3 fl_X3_19 33 (.int (F9 531)) e_X3_product_74 rfl rfl ?_
            refine g_iconst cx 1 (by decide) e_X3_product_77 ?_
            refine g_iadd cx e_X3_product_78 ?_
            refine g_topi (fun x27 ex27 => ?_)
            have hk28 := k_ls hkJ71 ex27
            refine g_put cx cl_X3 fl_X3_19 33 (wX X ad (upd F9 531 x27) R10) e_X3_product_79 rfl rfl rfl rfl (Nat.le_of_ble_eq_true rfl) rfl ?_
            obtain ⟨F29, hF29⟩ : ∃ z, z = upd F9 531 x27 := ⟨_, rfl⟩
            rw [← hF29]
            have hk30 := k_ls hk28 hF29
            have oF29 : g_ok LK_wX F29 := by rw [hF29]; exact g_ok_u oF9 rfl
            have fF29 : g_fr md_X3_product_c2 F F29 := by rw [hF29]; exact g_fr_u fF9 rfl
            refine g_aload_n cx 1 rfl e_X3_product_82 ?_
            refine g_iload_n cx 2 rfl e_X3_product_83 ?_
            refine g_cVvW cx [.int 2] [] (w_X3_factor_c2 l X ad F29 R10 oF29 oR10) ml_X3_99 yV_X3_factor e_X3_product_84 (by unfold g_rr; decide) (by decide) 33 rfl rfl rfl (Nat.le_of_ble_eq_true rfl) (fun w32 h33 => ?_)
            obtain ⟨F35, R36, rfl, oF35, oR36, cF35, cR36, hx34⟩ := h33
            have hk37 := k_ls2 hk30 hx34
            have fF35 : g_fr md_X3_product_c2 F F35 := g_fr_c fF29 cF35 rfl
            have fR36 : g_fr mr_X3_product_c2 R R36 := g_fr_c fR10 cR36 rfl
            refine g_aload_n cx 1 rfl e_X3_product_87 ?_
            refine g_get cx cl_X3 fl_X3_25 33 (.ref (ad 25)) e_X3_product_88 rfl rfl ?_
            refine g_iload_n cx 0 rfl e_X3_product_91 ?_
            refine g_iconst cx 0 (by decide) e_X3_product_92 ?_
            refine g_cViW cx [.int y26, .int 0] [] (w_X2_emit_25 l X ad F35 R36 oF35 oR36 y26 0) ml_X3_66 yV_X2_emit e_X3_product_93 (by unfold g_rr; decide) (by decide) 25 rfl rfl rfl (Nat.le_of_ble_eq_true rfl) (fun r38 w39 h40 => ?_)
            obtain ⟨F42, R43, rfl, oF42, oR43, cF42, cR43, pr38, hx41⟩ := h40
            have hk44 := k_ls3 hk37 hx41
            have fF42 : g_fr md_X3_product_c2 F F42 := g_fr_c fF35 cF42 rfl
            have fR43 : g_fr mr_X3_product_c2 R R43 := g_fr_c fR36 cR43 rfl
            refine g_pop cx rfl e_X3_product_96 ?_
            obtain ⟨x45, ex45⟩ : ∃ z : Int32, z = y8 + Int32.ofInt 1 := ⟨_, rfl⟩
            have hk46 := k_ls hk44 (show x45 = y8 + 1 from ex45)
            refine g_iinc cx x45 [(2, .int x45), (3, .int y26), (0, .ref (ad 33)), (1, .int 2)] 3 e_X3_product_97 rfl ex45.symm (by decide) rfl ?_
            have zx45 := jv_add 1 200 (show x45 = y8 + 1 from ex45) p14 (jv_k (x := 1) 1 (by decide)) (by decide)
            refine g_goto cx 7 e_X3_product_100 (by decide) ?_
            refine g_lsub [2, 3, 0] [(0, .ref (ad 33)), (1, .int 2), (2, .int x45)] rfl ?_
            exact ih7 F42 R43 x45 oF42 fF42 oR43 fR43 (jv_w zx45.2 (by decide)) (hk46.trans (by rw [hb7])) (Nat.lt_of_lt_of_le (show (2147483647 - x45.toInt).toNat < (2147483647 - y8.toInt).toNat from by have q0 := (jv_k (x := 1) 1 (by decide)).1; have q1 := (jv_k (x := 1) 1 (by decide)).2; have q2 := (jv_k (x := 200) 200 (by decide)).1; have q3 := (jv_k (x := 200) 200 (by decide)).2; have q4 := zx45.2.1; have q5 := zx45.2.2; have q6 := p14.1; have q7 := p14.2; have q8 := (gc_nle zc11); have q9 := (g_eq0 zx45.1); omega) (Nat.le_of_lt_succ hm7))
          refine g_icmp_ne cx 55 e_X3_product_47 (by decide) (fun zc47 => ?_) (fun zc47 => ?_)
          · have hk48 := hk25.trans (if_neg zc47)
            refine g_aload_n cx 0 rfl e_X3_product_55 ?_
            refine g_cViW cx [] [] (w_X3_sign l X ad F9 R10 oF9 oR10) ml_X3_42 yV_X3_sign e_X3_product_56 (by unfold g_rr; decide) (by decide) 33 rfl rfl rfl (Nat.le_of_ble_eq_true rfl) (fun r49 w50 h51 => ?_)
            obtain ⟨rfl, pr49, hx52⟩ := h51
            have hk53 := k_ls hk48 hx52
            refine g_bipush cx 47 (by decide) e_X3_product_59 ?_
            refine g_icmp_ne cx 69 e_X3_product_61 (by decide) (fun zc54 => ?_) (fun zc54 => ?_)
            · have hk55 := hk53.trans (if_neg zc54)
              refine g_bipush cx 10 (by decide) e_X3_product_69 ?_
              exact J71 10 (jv_w (jv_k (x := 10) 10 (by decide)) (by decide)) hk55
            · have p56 := gn_eq 47 47 (gc_eq zc54) pr49 (jv_k (x := 47) 47 (by decide)) (by decide)
              have hk57 := hk53.trans (if_pos zc54)
              refine g_bipush cx 9 (by decide) e_X3_product_64 ?_
              refine g_goto cx 71 e_X3_product_66 (by decide) ?_
              exact J71 9 (jv_w (jv_k (x := 9) 9 (by decide)) (by decide)) hk57
          · have p58 := gn_eq 42 42 (gc_eq zc47) pr21 (jv_k (x := 42) 42 (by decide)) (by decide)
            have hk59 := hk25.trans (if_pos zc47)
            refine g_bipush cx 8 (by decide) e_X3_product_50 ?_
            refine g_goto cx 71 e_X3_product_52 (by decide) ?_
            exact J71 8 (jv_w (jv_k (x := 8) 8 (by decide)) (by decide)) hk59
        refine g_icmp_eq cx 41 e_X3_product_20 (by decide) (fun zc60 => ?_) (fun zc60 => ?_)
        · have p61 := gn_eq 42 42 (gc_eq zc60) pr16 (jv_k (x := 42) 42 (by decide)) (by decide)
          have hk62 := hk20.trans (if_pos zc60)
          exact J41  hk62
        · have hk63 := hk20.trans (if_neg zc60)
          refine g_aload_n cx 0 rfl e_X3_product_23 ?_
          refine g_cViW cx [] [] (w_X3_sign l X ad F9 R10 oF9 oR10) ml_X3_42 yV_X3_sign e_X3_product_24 (by unfold g_rr; decide) (by decide) 33 rfl rfl rfl (Nat.le_of_ble_eq_true rfl) (fun r64 w65 h66 => ?_)
          obtain ⟨rfl, pr64, hx67⟩ := h66
          have hk68 := k_ls hk63 hx67
          refine g_bipush cx 47 (by decide) e_X3_product_27 ?_
          refine g_icmp_eq cx 41 e_X3_product_29 (by decide) (fun zc69 => ?_) (fun zc69 => ?_)
          · have p70 := gn_eq 47 47 (gc_eq zc69) pr64 (jv_k (x := 47) 47 (by decide)) (by decide)
            have hk71 := hk68.trans (if_pos zc69)
            exact J41  hk71
          · have hk72 := hk68.trans (if_neg zc69)
            refine g_aload_n cx 0 rfl e_X3_product_32 ?_
            refine g_cViW cx [] [] (w_X3_sign l X ad F9 R10 oF9 oR10) ml_X3_42 yV_X3_sign e_X3_product_33 (by unfold g_rr; decide) (by decide) 33 rfl rfl rfl (Nat.le_of_ble_eq_true rfl) (fun r73 w74 h75 => ?_)
            obtain ⟨rfl, pr73, hx76⟩ := h75
            have hk77 := k_ls hk72 hx76
            refine g_bipush cx 37 (by decide) e_X3_product_36 ?_
            refine g_icmp_ne cx 103 e_X3_product_38 (by decide) (fun zc78 => ?_) (fun zc78 => ?_)
            · have hk79 := hk77.trans (if_neg zc78)
              refine g_lsub [] [] rfl ?_
              exact J103  hk79
            · have p80 := gn_eq 37 37 (gc_eq zc78) pr73 (jv_k (x := 37) 37 (by decide)) (by decide)
              have hk81 := hk77.trans (if_pos zc78)
              exact J41  hk81
  refine g_lsub [1, 2, 0] [(0, .ref (ad 33)), (1, .int 2), (2, .int 0)] rfl ?_
  exact J7 8589934592 F5 R6 0 oF5 fF5 oR6 fR6 (jv_w (jv_k (x := 0) 0 (by decide)) (by decide)) hk7 (show (2147483647 - (0 : Int32).toInt).toNat < 8589934592 from by have q0 := (jv_k (x := 0) 0 (by decide)).1; have q1 := (jv_k (x := 0) 0 (by decide)).2; omega)
def K_X3_sum_c2_80 (F9 : Nat → Int32) (R10 : Nat → Nat → Int32)  : (Nat → Int32) × (Nat → Nat → Int32) :=
  (F9, R10)
def K_X3_sum_c2_48 (b7 : (Nat → Int32) → (Nat → Nat → Int32) → (Int32) → (Nat → Int32) × (Nat → Nat → Int32)) (F9 : Nat → Int32) (R10 : Nat → Nat → Int32) (y8 : Int32) (y26 : Int32) : (Nat → Int32) × (Nat → Nat → Int32) :=
  k_lt ((F9 531) + 1) (fun x27 => k_lt (upd F9 531 x27) (fun F29 => k_lt2 (sp_X3_product_c2 F29 R10) (fun F35 R36 => k_lt3 (sp_X2_emit_25 F35 R36 y26 0) (fun r38 F42 R43 => k_lt (y8 + 1) (fun x45 => b7 F42 R43 x45)))))
def K_X3_sum_c2_32 (b7 : (Nat → Int32) → (Nat → Nat → Int32) → (Int32) → (Nat → Int32) × (Nat → Nat → Int32)) (F9 : Nat → Int32) (R10 : Nat → Nat → Int32) (y8 : Int32)  : (Nat → Int32) × (Nat → Nat → Int32) :=
  k_lt (sp_X3_sign F9 R10) (fun r21 => if r21 = 43 then K_X3_sum_c2_48 b7 F9 R10 y8 6 else K_X3_sum_c2_48 b7 F9 R10 y8 7)
def KB_X3_sum_c2_7 (b7 : (Nat → Int32) → (Nat → Nat → Int32) → (Int32) → (Nat → Int32) × (Nat → Nat → Int32))  (F9 : Nat → Int32) (R10 : Nat → Nat → Int32) (y8 : Int32) : (Nat → Int32) × (Nat → Nat → Int32) :=
  if 200 ≤ y8 then K_X3_sum_c2_80 F9 R10 else k_lt (sp_X3_sign F9 R10) (fun r16 => if r16 = 43 then K_X3_sum_c2_32 b7 F9 R10 y8 else k_lt (sp_X3_sign F9 R10) (fun r55 => if r55 = 45 then K_X3_sum_c2_32 b7 F9 R10 y8 else K_X3_sum_c2_80 F9 R10))
def K_X3_sum_c2_7  : Nat → (Nat → Int32) → (Nat → Nat → Int32) → (Int32) → (Nat → Int32) × (Nat → Nat → Int32)
  | 0 => fun F9 R10 _ => (F9, R10)
  | n + 1 => KB_X3_sum_c2_7 (K_X3_sum_c2_7 n)
def sp_X3_sum_c2 (F : Nat → Int32) (R : Nat → Nat → Int32) : (Nat → Int32) × (Nat → Nat → Int32) :=
  k_lt2 (sp_X3_product_c2 F R) (fun F5 R6 => K_X3_sum_c2_7 8589934592 F5 R6 0)
def md_X3_sum_c2 : List Nat := [402, 531, 532]
def mr_X3_sum_c2 : List Nat := [26, 27]
set_option maxHeartbeats 4000000 in
set_option maxRecDepth 100000 in
theorem w_X3_sum_c2 (l : Launch) (X : gX) (ad : Nat → Nat) (F : Nat → Int32) (R : Nat → Nat → Int32) (hI : g_ok LK_wX F) (hA : g_okR LA_wX R) : g_Cv l X yX3_sum cX3_sum 4 19 0 0 [.ref (ad 33), .int 2] (wX X ad F R) (fun w => ∃ (F' : Nat → Int32) (R' : Nat → Nat → Int32), w = wX X ad F' R' ∧ g_ok LK_wX F' ∧ g_okR LA_wX R' ∧ g_fr md_X3_sum_c2 F F' ∧ g_fr mr_X3_sum_c2 R R' ∧ (F', R') = sp_X3_sum_c2 F R) := by
  refine g_mv (by decide +kernel) (Nat.le_of_ble_eq_true rfl) (fun E cx hret => ?_)
  obtain ⟨SP, hSP⟩ : ∃ z, z = sp_X3_sum_c2 F R := ⟨_, rfl⟩
  have hk0 := hSP
  unfold sp_X3_sum_c2 at hk0
  refine g_aload_n cx 0 rfl e_X3_sum_0 ?_
  refine g_iload_n cx 1 rfl e_X3_sum_1 ?_
  refine g_cVvW cx [.int 2] [] (w_X3_product_c2 l X ad F R hI hA) ml_X3_96 yV_X3_product e_X3_sum_2 (by unfold g_rr; decide) (by decide) 33 rfl rfl rfl (Nat.le_of_ble_eq_true rfl) (fun w2 h3 => ?_)
  obtain ⟨F5, R6, rfl, oF5, oR6, cF5, cR6, hx4⟩ := h3
  have hk7 := k_ls2 hk0 hx4
  have fF5 : g_fr md_X3_sum_c2 F F5 := g_fr_c (g_fr_rf F) cF5 rfl
  have fR6 : g_fr mr_X3_sum_c2 R R6 := g_fr_c (g_fr_rf R) cR6 rfl
  refine g_iconst cx 0 (by decide) e_X3_sum_5 ?_
  refine g_istore_n cx [(2, .int 0), (0, .ref (ad 33)), (1, .int 2)] e_X3_sum_6 (by decide) rfl ?_
  have J7 : ∀ (N : Nat) (F9 : Nat → Int32) (R10 : Nat → Nat → Int32) (y8 : Int32), (g_ok LK_wX F9) → (g_fr md_X3_sum_c2 F F9) → (g_okR LA_wX R10) → (g_fr mr_X3_sum_c2 R R10) → (jv 0 200 y8) → (SP = K_X3_sum_c2_7 N F9 R10 y8) → (2147483647 - y8.toInt).toNat < N → G X E 4 0 0 (wX X ad F9 R10) [(0, .ref (ad 33)), (1, .int 2), (2, .int y8)] 7 [] := by
    intro N
    induction N with
    | zero => intro F9 R10 y8 oF9 fF9 oR10 fR10 py8 hkJ7 hm; exact absurd hm (Nat.not_lt_zero _)
    | succ N ih7 =>
      intro F9 R10 y8 oF9 fF9 oR10 fR10 py8 hkJ7 hm7
      have hkK7 : SP = KB_X3_sum_c2_7 (K_X3_sum_c2_7 N) F9 R10 y8 := hkJ7
      obtain ⟨b7, hb7⟩ : ∃ z, z = K_X3_sum_c2_7 N := ⟨_, rfl⟩
      rw [← hb7] at hkK7
      unfold KB_X3_sum_c2_7 at hkK7
      refine g_iload_n cx 2 rfl e_X3_sum_7 ?_
      refine g_sipush cx 200 (by decide) e_X3_sum_8 ?_
      have J80 : (SP = K_X3_sum_c2_80 F9 R10) → G X E 4 0 0 (wX X ad F9 R10) [] 80 [] := by
        intro   hkJ80
        unfold K_X3_sum_c2_80 at hkJ80
        exact hret e_X3_sum_80 (Nat.le_of_ble_eq_true rfl) (Nat.le_of_ble_eq_true rfl) ⟨F9, R10, rfl, oF9, oR10, fF9, fR10, (hkJ80.symm.trans hSP)⟩
      refine g_icmp_ge cx 80 e_X3_sum_11 (by decide) (fun zc11 => ?_) (fun zc11 => ?_)
      · have p12 := gn_ge 200 200 (gc_le zc11) py8 (jv_k (x := 200) 200 (by decide)) (by decide)
        have hk13 := hkK7.trans (if_pos zc11)
        refine g_lsub [] [] rfl ?_
        exact J80  hk13
      · have p14 := gn_lt 0 199 (gc_nle zc11) py8 (jv_k (x := 200) 200 (by decide)) (by decide)
        have hk15 := hkK7.trans (if_neg zc11)
        refine g_aload_n cx 0 rfl e_X3_sum_14 ?_
        refine g_cViW cx [] [] (w_X3_sign l X ad F9 R10 oF9 oR10) ml_X3_42 yV_X3_sign e_X3_sum_15 (by unfold g_rr; decide) (by decide) 33 rfl rfl rfl (Nat.le_of_ble_eq_true rfl) (fun r16 w17 h18 => ?_)
        obtain ⟨rfl, pr16, hx19⟩ := h18
        have hk20 := k_ls hk15 hx19
        refine g_bipush cx 43 (by decide) e_X3_sum_18 ?_
        have J32 : (SP = K_X3_sum_c2_32 b7 F9 R10 y8) → G X E 4 0 0 (wX X ad F9 R10) [(0, .ref (ad 33)), (1, .int 2), (2, .int y8)] 32 [] := by
          intro   hkJ32
          unfold K_X3_sum_c2_32 at hkJ32
          refine g_aload_n cx 0 rfl e_X3_sum_32 ?_
          refine g_cViW cx [] [] (w_X3_sign l X ad F9 R10 oF9 oR10) ml_X3_42 yV_X3_sign e_X3_sum_33 (by unfold g_rr; decide) (by decide) 33 rfl rfl rfl (Nat.le_of_ble_eq_true rfl) (fun r21 w22 h23 => ?_)
          obtain ⟨rfl, pr21, hx24⟩ := h23
          have hk25 := k_ls hkJ32 hx24
          refine g_bipush cx 43 (by decide) e_X3_sum_36 ?_
          have J48 : ∀ (y26 : Int32), (jv 6 7 y26) → (SP = K_X3_sum_c2_48 b7 F9 R10 y8 y26) → G X E 4 0 0 (wX X ad F9 R10) [(0, .ref (ad 33)), (1, .int 2), (2, .int y8)] 48 [.int y26] := by
            intro y26 py26 hkJ48
            unfold K_X3_sum_c2_48 at hkJ48
            refine g_istore_n cx [(3, .int y26), (0, .ref (ad 33)), (1, .int 2), (2, .int y8)] e_X3_sum_48 (by decide) rfl ?_
            refine g_aload_n cx 1 rfl e_X3_sum_49 ?_
            refine g_dup cx rfl e_X3_sum_50 ?_
            refine g_get cx cl_X3 fl_X3_19 33 (.int (F9 531)) e_X3_sum_51 rfl rfl ?_
            refine g_iconst cx 1 (by decide) e_X3_sum_54 ?_
            refine g_iadd cx e_X3_sum_55 ?_
            refine g_topi (fun x27 ex27 => ?_)
            have hk28 := k_ls hkJ48 ex27
            refine g_put cx cl_X3 fl_X3_19 33 (wX X ad (upd F9 531 x27) R10) e_X3_sum_56 rfl rfl rfl rfl (Nat.le_of_ble_eq_true rfl) rfl ?_
            obtain ⟨F29, hF29⟩ : ∃ z, z = upd F9 531 x27 := ⟨_, rfl⟩
            rw [← hF29]
            have hk30 := k_ls hk28 hF29
            have oF29 : g_ok LK_wX F29 := by rw [hF29]; exact g_ok_u oF9 rfl
            have fF29 : g_fr md_X3_sum_c2 F F29 := by rw [hF29]; exact g_fr_u fF9 rfl
            refine g_aload_n cx 1 rfl e_X3_sum_59 ?_
            refine g_iload_n cx 2 rfl e_X3_sum_60 ?_
            refine g_cVvW cx [.int 2] [] (w_X3_product_c2 l X ad F29 R10 oF29 oR10) ml_X3_96 yV_X3_product e_X3_sum_61 (by unfold g_rr; decide) (by decide) 33 rfl rfl rfl (Nat.le_of_ble_eq_true rfl) (fun w32 h33 => ?_)
            obtain ⟨F35, R36, rfl, oF35, oR36, cF35, cR36, hx34⟩ := h33
            have hk37 := k_ls2 hk30 hx34
            have fF35 : g_fr md_X3_sum_c2 F F35 := g_fr_c fF29 cF35 rfl
            have fR36 : g_fr mr_X3_sum_c2 R R36 := g_fr_c fR10 cR36 rfl
            refine g_aload_n cx 1 rfl e_X3_sum_64 ?_
            refine g_get cx cl_X3 fl_X3_25 33 (.ref (ad 25)) e_X3_sum_65 rfl rfl ?_
            refine g_iload_n cx 0 rfl e_X3_sum_68 ?_
            refine g_iconst cx 0 (by decide) e_X3_sum_69 ?_
            refine g_cViW cx [.int y26, .int 0] [] (w_X2_emit_25 l X ad F35 R36 oF35 oR36 y26 0) ml_X3_66 yV_X2_emit e_X3_sum_70 (by unfold g_rr; decide) (by decide) 25 rfl rfl rfl (Nat.le_of_ble_eq_true rfl) (fun r38 w39 h40 => ?_)
            obtain ⟨F42, R43, rfl, oF42, oR43, cF42, cR43, pr38, hx41⟩ := h40
            have hk44 := k_ls3 hk37 hx41
            have fF42 : g_fr md_X3_sum_c2 F F42 := g_fr_c fF35 cF42 rfl
            have fR43 : g_fr mr_X3_sum_c2 R R43 := g_fr_c fR36 cR43 rfl
            refine g_pop cx rfl e_X3_sum_73 ?_
            obtain ⟨x45, ex45⟩ : ∃ z : Int32, z = y8 + Int32.ofInt 1 := ⟨_, rfl⟩
            have hk46 := k_ls hk44 (show x45 = y8 + 1 from ex45)
            refine g_iinc cx x45 [(2, .int x45), (3, .int y26), (0, .ref (ad 33)), (1, .int 2)] 3 e_X3_sum_74 rfl ex45.symm (by decide) rfl ?_
            have zx45 := jv_add 1 200 (show x45 = y8 + 1 from ex45) p14 (jv_k (x := 1) 1 (by decide)) (by decide)
            refine g_goto cx 7 e_X3_sum_77 (by decide) ?_
            refine g_lsub [2, 3, 0] [(0, .ref (ad 33)), (1, .int 2), (2, .int x45)] rfl ?_
            exact ih7 F42 R43 x45 oF42 fF42 oR43 fR43 (jv_w zx45.2 (by decide)) (hk46.trans (by rw [hb7])) (Nat.lt_of_lt_of_le (show (2147483647 - x45.toInt).toNat < (2147483647 - y8.toInt).toNat from by have q0 := (jv_k (x := 1) 1 (by decide)).1; have q1 := (jv_k (x := 1) 1 (by decide)).2; have q2 := (jv_k (x := 200) 200 (by decide)).1; have q3 := (jv_k (x := 200) 200 (by decide)).2; have q4 := zx45.2.1; have q5 := zx45.2.2; have q6 := p14.1; have q7 := p14.2; have q8 := (gc_nle zc11); have q9 := (g_eq0 zx45.1); omega) (Nat.le_of_lt_succ hm7))
          refine g_icmp_ne cx 46 e_X3_sum_38 (by decide) (fun zc47 => ?_) (fun zc47 => ?_)
          · have hk48 := hk25.trans (if_neg zc47)
            refine g_bipush cx 7 (by decide) e_X3_sum_46 ?_
            exact J48 7 (jv_w (jv_k (x := 7) 7 (by decide)) (by decide)) hk48
          · have p49 := gn_eq 43 43 (gc_eq zc47) pr21 (jv_k (x := 43) 43 (by decide)) (by decide)
            have hk50 := hk25.trans (if_pos zc47)
            refine g_bipush cx 6 (by decide) e_X3_sum_41 ?_
            refine g_goto cx 48 e_X3_sum_43 (by decide) ?_
            exact J48 6 (jv_w (jv_k (x := 6) 6 (by decide)) (by decide)) hk50
        refine g_icmp_eq cx 32 e_X3_sum_20 (by decide) (fun zc51 => ?_) (fun zc51 => ?_)
        · have p52 := gn_eq 43 43 (gc_eq zc51) pr16 (jv_k (x := 43) 43 (by decide)) (by decide)
          have hk53 := hk20.trans (if_pos zc51)
          exact J32  hk53
        · have hk54 := hk20.trans (if_neg zc51)
          refine g_aload_n cx 0 rfl e_X3_sum_23 ?_
          refine g_cViW cx [] [] (w_X3_sign l X ad F9 R10 oF9 oR10) ml_X3_42 yV_X3_sign e_X3_sum_24 (by unfold g_rr; decide) (by decide) 33 rfl rfl rfl (Nat.le_of_ble_eq_true rfl) (fun r55 w56 h57 => ?_)
          obtain ⟨rfl, pr55, hx58⟩ := h57
          have hk59 := k_ls hk54 hx58
          refine g_bipush cx 45 (by decide) e_X3_sum_27 ?_
          refine g_icmp_ne cx 80 e_X3_sum_29 (by decide) (fun zc60 => ?_) (fun zc60 => ?_)
          · have hk61 := hk59.trans (if_neg zc60)
            refine g_lsub [] [] rfl ?_
            exact J80  hk61
          · have p62 := gn_eq 45 45 (gc_eq zc60) pr55 (jv_k (x := 45) 45 (by decide)) (by decide)
            have hk63 := hk59.trans (if_pos zc60)
            exact J32  hk63
  refine g_lsub [1, 2, 0] [(0, .ref (ad 33)), (1, .int 2), (2, .int 0)] rfl ?_
  exact J7 8589934592 F5 R6 0 oF5 fF5 oR6 fR6 (jv_w (jv_k (x := 0) 0 (by decide)) (by decide)) hk7 (show (2147483647 - (0 : Int32).toInt).toNat < 8589934592 from by have q0 := (jv_k (x := 0) 0 (by decide)).1; have q1 := (jv_k (x := 0) 0 (by decide)).2; omega)
def K_X3_factor_c1_72 (F : Nat → Int32) (R : Nat → Nat → Int32) (y25 : Int32) : (Nat → Int32) × (Nat → Nat → Int32) :=
  if 0 ≤ y25 then k_lt ((F 531) + 1) (fun x29 => k_lt (upd F 531 x29) (fun F31 => k_lt3 (sp_X2_emit_25 F31 R 2 y25) (fun r33 F37 R38 => (F37, R38)))) else k_lt2 (sp_X3_fail F R 1) (fun F46 R47 => (F46, R47))
def sp_X3_factor_c1 (F : Nat → Int32) (R : Nat → Nat → Int32) : (Nat → Int32) × (Nat → Nat → Int32) :=
  k_lt (sp_X3_sign F R) (fun r1 => if r1 = 91 then k_lt3 (sp_X3_opens_c1 F R) (fun r76 F80 R81 => k_lt2 (sp_X3_sum_c2 F80 R81) (fun F88 R89 => k_lt2 (sp_X3_pass F88 R89 93) (fun F95 R96 => (F95, R96)))) else k_lt (sp_X3_sign F R) (fun r8 => k_lt (g_in r8 48 57) (fun r13 => if r13 = 0 then k_lt (sp_X3_sign F R) (fun r20 => if r20 = (-1) then K_X3_factor_c1_72 F R (-1) else k_lt (sp_X3_sign F R) (fun r51 => k_lt ((r51.toUInt32 % 65536).toInt32) (fun x56 => k_lt (sp_J0_indexOf_0f7a4_s1 x56) (fun r58 => K_X3_factor_c1_72 F R r58)))) else k_lt2 (sp_X3_number F R) (fun F71 R72 => (F71, R72)))))
def md_X3_factor_c1 : List Nat := [402, 531, 532]
def mr_X3_factor_c1 : List Nat := [26, 27]
set_option maxHeartbeats 4000000 in
set_option maxRecDepth 100000 in
theorem w_X3_factor_c1 (l : Launch) (X : gX) (ad : Nat → Nat) (F : Nat → Int32) (R : Nat → Nat → Int32) (hI : g_ok LK_wX F) (hA : g_okR LA_wX R) : g_Cv l X yX3_factor cX3_factor 3 20 0 0 [.ref (ad 33), .int 1] (wX X ad F R) (fun w => ∃ (F' : Nat → Int32) (R' : Nat → Nat → Int32), w = wX X ad F' R' ∧ g_ok LK_wX F' ∧ g_okR LA_wX R' ∧ g_fr md_X3_factor_c1 F F' ∧ g_fr mr_X3_factor_c1 R R' ∧ (F', R') = sp_X3_factor_c1 F R) := by
  refine g_mv (by decide +kernel) (Nat.le_of_ble_eq_true rfl) (fun E cx hret => ?_)
  obtain ⟨SP, hSP⟩ : ∃ z, z = sp_X3_factor_c1 F R := ⟨_, rfl⟩
  have hk0 := hSP
  unfold sp_X3_factor_c1 at hk0
  refine g_aload_n cx 0 rfl e_X3_factor_0 ?_
  refine g_cViW cx [] [] (w_X3_sign l X ad F R hI hA) ml_X3_42 yV_X3_sign e_X3_factor_1 (by unfold g_rr; decide) (by decide) 33 rfl rfl rfl (Nat.le_of_ble_eq_true rfl) (fun r1 w2 h3 => ?_)
  obtain ⟨rfl, pr1, hx4⟩ := h3
  have hk5 := k_ls hk0 hx4
  refine g_bipush cx 91 (by decide) e_X3_factor_4 ?_
  refine g_icmp_ne cx 31 e_X3_factor_6 (by decide) (fun zc6 => ?_) (fun zc6 => ?_)
  · have hk7 := hk5.trans (if_neg zc6)
    refine g_aload_n cx 0 rfl e_X3_factor_31 ?_
    refine g_cViW cx [] [] (w_X3_sign l X ad F R hI hA) ml_X3_42 yV_X3_sign e_X3_factor_32 (by unfold g_rr; decide) (by decide) 33 rfl rfl rfl (Nat.le_of_ble_eq_true rfl) (fun r8 w9 h10 => ?_)
    obtain ⟨rfl, pr8, hx11⟩ := h10
    have hk12 := k_ls hk7 hx11
    refine g_bipush cx 48 (by decide) e_X3_factor_35 ?_
    refine g_bipush cx 57 (by decide) e_X3_factor_37 ?_
    refine g_cNiW cx [.int r8, .int 48, .int 57] [] (c_X10_within l X (wX X ad F R) r8 48 57) mn_X3_102 yS_X10_within e_X3_factor_39 (by unfold g_rr; decide) (by decide) rfl (Nat.le_of_ble_eq_true rfl) (fun r13 w14 h15 => ?_)
    obtain ⟨rfl, hr13⟩ := h15
    have pr13 : jv 0 1 r13 := by rw [hr13]; exact gi_01 _ _ _
    have hk16 := k_ls hk12 hr13
    refine g_if_eq cx 50 e_X3_factor_42 (by decide) (fun zc17 => ?_) (fun zc17 => ?_)
    · have p18 := gn_eq 0 0 (gc_eq zc17) pr13 (jv_k (x := 0) 0 (by decide)) (by decide)
      have hk19 := hk16.trans (if_pos zc17)
      refine g_aload_n cx 0 rfl e_X3_factor_50 ?_
      refine g_cViW cx [] [] (w_X3_sign l X ad F R hI hA) ml_X3_42 yV_X3_sign e_X3_factor_51 (by unfold g_rr; decide) (by decide) 33 rfl rfl rfl (Nat.le_of_ble_eq_true rfl) (fun r20 w21 h22 => ?_)
      obtain ⟨rfl, pr20, hx23⟩ := h22
      have hk24 := k_ls hk19 hx23
      refine g_iconst cx (-1) (by decide) e_X3_factor_54 ?_
      have J72 : ∀ (y25 : Int32), (jv (-1) 11 y25) → (SP = K_X3_factor_c1_72 F R y25) → G X E 3 0 0 (wX X ad F R) [(0, .ref (ad 33))] 72 [.int y25] := by
        intro y25 py25 hkJ72
        unfold K_X3_factor_c1_72 at hkJ72
        refine g_istore_n cx [(2, .int y25), (0, .ref (ad 33))] e_X3_factor_72 (by decide) rfl ?_
        refine g_iload_n cx 0 rfl e_X3_factor_73 ?_
        refine g_if_ge cx 83 e_X3_factor_74 (by decide) (fun zc26 => ?_) (fun zc26 => ?_)
        · have p27 := gn_ge 0 11 (gc_le zc26) py25 (jv_k (x := 0) 0 (by decide)) (by decide)
          have hk28 := hkJ72.trans (if_pos zc26)
          refine g_aload_n cx 1 rfl e_X3_factor_83 ?_
          refine g_dup cx rfl e_X3_factor_84 ?_
          refine g_get cx cl_X3 fl_X3_19 33 (.int (F 531)) e_X3_factor_85 rfl rfl ?_
          refine g_iconst cx 1 (by decide) e_X3_factor_88 ?_
          refine g_iadd cx e_X3_factor_89 ?_
          refine g_topi (fun x29 ex29 => ?_)
          have hk30 := k_ls hk28 ex29
          refine g_put cx cl_X3 fl_X3_19 33 (wX X ad (upd F 531 x29) R) e_X3_factor_90 rfl rfl rfl rfl (Nat.le_of_ble_eq_true rfl) rfl ?_
          obtain ⟨F31, hF31⟩ : ∃ z, z = upd F 531 x29 := ⟨_, rfl⟩
          rw [← hF31]
          have hk32 := k_ls hk30 hF31
          have oF31 : g_ok LK_wX F31 := by rw [hF31]; exact g_ok_u hI rfl
          have fF31 : g_fr md_X3_factor_c1 F F31 := by rw [hF31]; exact g_fr_u (g_fr_rf F) rfl
          refine g_aload_n cx 1 rfl e_X3_factor_93 ?_
          refine g_get cx cl_X3 fl_X3_25 33 (.ref (ad 25)) e_X3_factor_94 rfl rfl ?_
          refine g_iconst cx 2 (by decide) e_X3_factor_97 ?_
          refine g_iload_n cx 0 rfl e_X3_factor_98 ?_
          refine g_cViW cx [.int 2, .int y25] [] (w_X2_emit_25 l X ad F31 R oF31 hA 2 y25) ml_X3_66 yV_X2_emit e_X3_factor_99 (by unfold g_rr; decide) (by decide) 25 rfl rfl rfl (Nat.le_of_ble_eq_true rfl) (fun r33 w34 h35 => ?_)
          obtain ⟨F37, R38, rfl, oF37, oR38, cF37, cR38, pr33, hx36⟩ := h35
          have hk39 := k_ls3 hk32 hx36
          have fF37 : g_fr md_X3_factor_c1 F F37 := g_fr_c fF31 cF37 rfl
          have fR38 : g_fr mr_X3_factor_c1 R R38 := g_fr_c (g_fr_rf R) cR38 rfl
          refine g_pop cx rfl e_X3_factor_102 ?_
          exact hret e_X3_factor_103 (Nat.le_of_ble_eq_true rfl) (Nat.le_of_ble_eq_true rfl) ⟨F37, R38, rfl, oF37, oR38, fF37, fR38, (hk39.symm.trans hSP)⟩
        · have p40 := gn_lt (-1) (-1) (gc_nle zc26) py25 (jv_k (x := 0) 0 (by decide)) (by decide)
          have hk41 := hkJ72.trans (if_neg zc26)
          refine g_aload_n cx 1 rfl e_X3_factor_77 ?_
          refine g_iconst cx 1 (by decide) e_X3_factor_78 ?_
          refine g_cVvW cx [.int 1] [] (w_X3_fail l X ad F R hI hA 1) ml_X3_46 yV_X3_fail e_X3_factor_79 (by unfold g_rr; decide) (by decide) 33 rfl rfl rfl (Nat.le_of_ble_eq_true rfl) (fun w43 h44 => ?_)
          obtain ⟨F46, R47, rfl, oF46, oR47, cF46, cR47, hx45⟩ := h44
          have hk48 := k_ls2 hk41 hx45
          have fF46 : g_fr md_X3_factor_c1 F F46 := g_fr_c (g_fr_rf F) cF46 rfl
          have fR47 : g_fr mr_X3_factor_c1 R R47 := g_fr_c (g_fr_rf R) cR47 rfl
          exact hret e_X3_factor_82 (Nat.le_of_ble_eq_true rfl) (Nat.le_of_ble_eq_true rfl) ⟨F46, R47, rfl, oF46, oR47, fF46, fR47, (hk48.symm.trans hSP)⟩
      refine g_icmp_ne cx 62 e_X3_factor_55 (by decide) (fun zc49 => ?_) (fun zc49 => ?_)
      · have hk50 := hk24.trans (if_neg zc49)
        refine g_ldcS1 cx rfl e_X3_factor_62 ?_
        refine g_aload_n cx 0 rfl e_X3_factor_64 ?_
        refine g_cViW cx [] [.ref (X.1.2.2.2.1 1)] (w_X3_sign l X ad F R hI hA) ml_X3_42 yV_X3_sign e_X3_factor_65 (by unfold g_rr; decide) (by decide) 33 rfl rfl rfl (Nat.le_of_ble_eq_true rfl) (fun r51 w52 h53 => ?_)
        obtain ⟨rfl, pr51, hx54⟩ := h53
        have hk55 := k_ls hk50 hx54
        refine g_i2c cx e_X3_factor_68 ?_
        refine g_topi (fun x56 ex56 => ?_)
        have hk57 := k_ls hk55 ex56
        refine g_cVsW cx [.int x56] [] 1 (by decide) rfl (w_J0_indexOf_0f7a4_s1 l X (wX X ad F R) x56) ml_X3_52 yV_J0_indexOf_0f7a4 e_X3_factor_69 (by unfold g_rr; decide) (by decide) rfl (Nat.le_of_ble_eq_true rfl) (fun r58 w59 h60 => ?_)
        obtain ⟨rfl, pr58⟩ := h60
        obtain ⟨pr58, hxr58⟩ := pr58
        have hk61 := k_ls hk57 hxr58
        refine g_lsub [0] [(0, .ref (ad 33))] rfl ?_
        exact J72 r58 pr58 hk61
      · have p62 := gn_eq (-1) (-1) (gc_eq zc49) pr20 (jv_k (x := (-1)) (-1) (by decide)) (by decide)
        have hk63 := hk24.trans (if_pos zc49)
        refine g_iconst cx (-1) (by decide) e_X3_factor_58 ?_
        refine g_goto cx 72 e_X3_factor_59 (by decide) ?_
        refine g_lsub [0] [(0, .ref (ad 33))] rfl ?_
        exact J72 (-1) (jv_w (jv_k (x := (-1)) (-1) (by decide)) (by decide)) hk63
    · have p64 := gn_neL 1 1 (gc_ne zc17) pr13 (jv_k (x := 0) 0 (by decide)) (by decide)
      have p65 := jv_i 48 57 pr8 (gi_in (A := 48) (B := 57) hr13 zc17 (by decide) (by decide)) (by decide)
      have hk66 := hk16.trans (if_neg zc17)
      refine g_aload_n cx 0 rfl e_X3_factor_45 ?_
      refine g_cVvW cx [] [] (w_X3_number l X ad F R hI hA) ml_X3_106 yV_X3_number e_X3_factor_46 (by unfold g_rr; decide) (by decide) 33 rfl rfl rfl (Nat.le_of_ble_eq_true rfl) (fun w68 h69 => ?_)
      obtain ⟨F71, R72, rfl, oF71, oR72, cF71, cR72, hx70⟩ := h69
      have hk73 := k_ls2 hk66 hx70
      have fF71 : g_fr md_X3_factor_c1 F F71 := g_fr_c (g_fr_rf F) cF71 rfl
      have fR72 : g_fr mr_X3_factor_c1 R R72 := g_fr_c (g_fr_rf R) cR72 rfl
      exact hret e_X3_factor_49 (Nat.le_of_ble_eq_true rfl) (Nat.le_of_ble_eq_true rfl) ⟨F71, R72, rfl, oF71, oR72, fF71, fR72, (hk73.symm.trans hSP)⟩
  · have p74 := gn_eq 91 91 (gc_eq zc6) pr1 (jv_k (x := 91) 91 (by decide)) (by decide)
    have hk75 := hk5.trans (if_pos zc6)
    refine g_aload_n cx 0 rfl e_X3_factor_9 ?_
    refine g_iload_n cx 1 rfl e_X3_factor_10 ?_
    refine g_cViW cx [.int 1] [] (w_X3_opens_c1 l X ad F R hI hA) ml_X3_89 yV_X3_opens e_X3_factor_11 (by unfold g_rr; decide) (by decide) 33 rfl rfl rfl (Nat.le_of_ble_eq_true rfl) (fun r76 w77 h78 => ?_)
    obtain ⟨F80, R81, rfl, oF80, oR81, cF80, cR81, pr76, hx79⟩ := h78
    have hk82 := k_ls3 hk75 hx79
    have fF80 : g_fr md_X3_factor_c1 F F80 := g_fr_c (g_fr_rf F) cF80 rfl
    have fR81 : g_fr mr_X3_factor_c1 R R81 := g_fr_c (g_fr_rf R) cR81 rfl
    refine g_if_eq cx 30 e_X3_factor_14 (by decide) (fun zc83 => ?_) (fun zc83 => ?_)
    · exact (gf_eq (gc_eq zc83) pr76 (jv_k (x := 0) 0 (by decide)) (by decide)).elim
    · refine g_aload_n cx 0 rfl e_X3_factor_17 ?_
      refine g_iload_n cx 1 rfl e_X3_factor_18 ?_
      refine g_iconst cx 1 (by decide) e_X3_factor_19 ?_
      refine g_iadd cx e_X3_factor_20 ?_
      refine g_toi 2 (by decide) ?_
      refine g_cVvW cx [.int 2] [] (w_X3_sum_c2 l X ad F80 R81 oF80 oR81) ml_X3_63 yV_X3_sum e_X3_factor_21 (by unfold g_rr; decide) (by decide) 33 rfl rfl rfl (Nat.le_of_ble_eq_true rfl) (fun w85 h86 => ?_)
      obtain ⟨F88, R89, rfl, oF88, oR89, cF88, cR89, hx87⟩ := h86
      have hk90 := k_ls2 hk82 hx87
      have fF88 : g_fr md_X3_factor_c1 F F88 := g_fr_c fF80 cF88 rfl
      have fR89 : g_fr mr_X3_factor_c1 R R89 := g_fr_c fR81 cR89 rfl
      refine g_aload_n cx 0 rfl e_X3_factor_24 ?_
      refine g_bipush cx 93 (by decide) e_X3_factor_25 ?_
      refine g_cVvW cx [.int 93] [] (w_X3_pass l X ad F88 R89 oF88 oR89 93) ml_X3_70 yV_X3_pass e_X3_factor_27 (by unfold g_rr; decide) (by decide) 33 rfl rfl rfl (Nat.le_of_ble_eq_true rfl) (fun w92 h93 => ?_)
      obtain ⟨F95, R96, rfl, oF95, oR96, cF95, cR96, hx94⟩ := h93
      have hk97 := k_ls2 hk90 hx94
      have fF95 : g_fr md_X3_factor_c1 F F95 := g_fr_c fF88 cF95 rfl
      have fR96 : g_fr mr_X3_factor_c1 R R96 := g_fr_c fR89 cR96 rfl
      exact hret e_X3_factor_30 (Nat.le_of_ble_eq_true rfl) (Nat.le_of_ble_eq_true rfl) ⟨F95, R96, rfl, oF95, oR96, fF95, fR96, (hk97.symm.trans hSP)⟩
def K_X3_product_c1_103 (F9 : Nat → Int32) (R10 : Nat → Nat → Int32)  : (Nat → Int32) × (Nat → Nat → Int32) :=
  (F9, R10)
def K_X3_product_c1_71 (b7 : (Nat → Int32) → (Nat → Nat → Int32) → (Int32) → (Nat → Int32) × (Nat → Nat → Int32)) (F9 : Nat → Int32) (R10 : Nat → Nat → Int32) (y8 : Int32) (y26 : Int32) : (Nat → Int32) × (Nat → Nat → Int32) :=
  k_lt ((F9 531) + 1) (fun x27 => k_lt (upd F9 531 x27) (fun F29 => k_lt2 (sp_X3_factor_c1 F29 R10) (fun F35 R36 => k_lt3 (sp_X2_emit_25 F35 R36 y26 0) (fun r38 F42 R43 => k_lt (y8 + 1) (fun x45 => b7 F42 R43 x45)))))
def K_X3_product_c1_41 (b7 : (Nat → Int32) → (Nat → Nat → Int32) → (Int32) → (Nat → Int32) × (Nat → Nat → Int32)) (F9 : Nat → Int32) (R10 : Nat → Nat → Int32) (y8 : Int32)  : (Nat → Int32) × (Nat → Nat → Int32) :=
  k_lt (sp_X3_sign F9 R10) (fun r21 => if r21 = 42 then K_X3_product_c1_71 b7 F9 R10 y8 8 else k_lt (sp_X3_sign F9 R10) (fun r49 => if r49 = 47 then K_X3_product_c1_71 b7 F9 R10 y8 9 else K_X3_product_c1_71 b7 F9 R10 y8 10))
def KB_X3_product_c1_7 (b7 : (Nat → Int32) → (Nat → Nat → Int32) → (Int32) → (Nat → Int32) × (Nat → Nat → Int32))  (F9 : Nat → Int32) (R10 : Nat → Nat → Int32) (y8 : Int32) : (Nat → Int32) × (Nat → Nat → Int32) :=
  if 200 ≤ y8 then K_X3_product_c1_103 F9 R10 else k_lt (sp_X3_sign F9 R10) (fun r16 => if r16 = 42 then K_X3_product_c1_41 b7 F9 R10 y8 else k_lt (sp_X3_sign F9 R10) (fun r64 => if r64 = 47 then K_X3_product_c1_41 b7 F9 R10 y8 else k_lt (sp_X3_sign F9 R10) (fun r73 => if r73 = 37 then K_X3_product_c1_41 b7 F9 R10 y8 else K_X3_product_c1_103 F9 R10)))
def K_X3_product_c1_7  : Nat → (Nat → Int32) → (Nat → Nat → Int32) → (Int32) → (Nat → Int32) × (Nat → Nat → Int32)
  | 0 => fun F9 R10 _ => (F9, R10)
  | n + 1 => KB_X3_product_c1_7 (K_X3_product_c1_7 n)
def sp_X3_product_c1 (F : Nat → Int32) (R : Nat → Nat → Int32) : (Nat → Int32) × (Nat → Nat → Int32) :=
  k_lt2 (sp_X3_factor_c1 F R) (fun F5 R6 => K_X3_product_c1_7 8589934592 F5 R6 0)
def md_X3_product_c1 : List Nat := [402, 531, 532]
def mr_X3_product_c1 : List Nat := [26, 27]
set_option maxHeartbeats 4000000 in
set_option maxRecDepth 100000 in
theorem w_X3_product_c1 (l : Launch) (X : gX) (ad : Nat → Nat) (F : Nat → Int32) (R : Nat → Nat → Int32) (hI : g_ok LK_wX F) (hA : g_okR LA_wX R) : g_Cv l X yX3_product cX3_product 4 21 0 0 [.ref (ad 33), .int 1] (wX X ad F R) (fun w => ∃ (F' : Nat → Int32) (R' : Nat → Nat → Int32), w = wX X ad F' R' ∧ g_ok LK_wX F' ∧ g_okR LA_wX R' ∧ g_fr md_X3_product_c1 F F' ∧ g_fr mr_X3_product_c1 R R' ∧ (F', R') = sp_X3_product_c1 F R) := by
  refine g_mv (by decide +kernel) (Nat.le_of_ble_eq_true rfl) (fun E cx hret => ?_)
  obtain ⟨SP, hSP⟩ : ∃ z, z = sp_X3_product_c1 F R := ⟨_, rfl⟩
  have hk0 := hSP
  unfold sp_X3_product_c1 at hk0
  refine g_aload_n cx 0 rfl e_X3_product_0 ?_
  refine g_iload_n cx 1 rfl e_X3_product_1 ?_
  refine g_cVvW cx [.int 1] [] (w_X3_factor_c1 l X ad F R hI hA) ml_X3_99 yV_X3_factor e_X3_product_2 (by unfold g_rr; decide) (by decide) 33 rfl rfl rfl (Nat.le_of_ble_eq_true rfl) (fun w2 h3 => ?_)
  obtain ⟨F5, R6, rfl, oF5, oR6, cF5, cR6, hx4⟩ := h3
  have hk7 := k_ls2 hk0 hx4
  have fF5 : g_fr md_X3_product_c1 F F5 := g_fr_c (g_fr_rf F) cF5 rfl
  have fR6 : g_fr mr_X3_product_c1 R R6 := g_fr_c (g_fr_rf R) cR6 rfl
  refine g_iconst cx 0 (by decide) e_X3_product_5 ?_
  refine g_istore_n cx [(2, .int 0), (0, .ref (ad 33)), (1, .int 1)] e_X3_product_6 (by decide) rfl ?_
  have J7 : ∀ (N : Nat) (F9 : Nat → Int32) (R10 : Nat → Nat → Int32) (y8 : Int32), (g_ok LK_wX F9) → (g_fr md_X3_product_c1 F F9) → (g_okR LA_wX R10) → (g_fr mr_X3_product_c1 R R10) → (jv 0 200 y8) → (SP = K_X3_product_c1_7 N F9 R10 y8) → (2147483647 - y8.toInt).toNat < N → G X E 4 0 0 (wX X ad F9 R10) [(0, .ref (ad 33)), (1, .int 1), (2, .int y8)] 7 [] := by
    intro N
    induction N with
    | zero => intro F9 R10 y8 oF9 fF9 oR10 fR10 py8 hkJ7 hm; exact absurd hm (Nat.not_lt_zero _)
    | succ N ih7 =>
      intro F9 R10 y8 oF9 fF9 oR10 fR10 py8 hkJ7 hm7
      have hkK7 : SP = KB_X3_product_c1_7 (K_X3_product_c1_7 N) F9 R10 y8 := hkJ7
      obtain ⟨b7, hb7⟩ : ∃ z, z = K_X3_product_c1_7 N := ⟨_, rfl⟩
      rw [← hb7] at hkK7
      unfold KB_X3_product_c1_7 at hkK7
      refine g_iload_n cx 2 rfl e_X3_product_7 ?_
      refine g_sipush cx 200 (by decide) e_X3_product_8 ?_
      have J103 : (SP = K_X3_product_c1_103 F9 R10) → G X E 4 0 0 (wX X ad F9 R10) [] 103 [] := by
        intro   hkJ103
        unfold K_X3_product_c1_103 at hkJ103
        exact hret e_X3_product_103 (Nat.le_of_ble_eq_true rfl) (Nat.le_of_ble_eq_true rfl) ⟨F9, R10, rfl, oF9, oR10, fF9, fR10, (hkJ103.symm.trans hSP)⟩
      refine g_icmp_ge cx 103 e_X3_product_11 (by decide) (fun zc11 => ?_) (fun zc11 => ?_)
      · have p12 := gn_ge 200 200 (gc_le zc11) py8 (jv_k (x := 200) 200 (by decide)) (by decide)
        have hk13 := hkK7.trans (if_pos zc11)
        refine g_lsub [] [] rfl ?_
        exact J103  hk13
      · have p14 := gn_lt 0 199 (gc_nle zc11) py8 (jv_k (x := 200) 200 (by decide)) (by decide)
        have hk15 := hkK7.trans (if_neg zc11)
        refine g_aload_n cx 0 rfl e_X3_product_14 ?_
        refine g_cViW cx [] [] (w_X3_sign l X ad F9 R10 oF9 oR10) ml_X3_42 yV_X3_sign e_X3_product_15 (by unfold g_rr; decide) (by decide) 33 rfl rfl rfl (Nat.le_of_ble_eq_true rfl) (fun r16 w17 h18 => ?_)
        obtain ⟨rfl, pr16, hx19⟩ := h18
        have hk20 := k_ls hk15 hx19
        refine g_bipush cx 42 (by decide) e_X3_product_18 ?_
        have J41 : (SP = K_X3_product_c1_41 b7 F9 R10 y8) → G X E 4 0 0 (wX X ad F9 R10) [(0, .ref (ad 33)), (1, .int 1), (2, .int y8)] 41 [] := by
          intro   hkJ41
          unfold K_X3_product_c1_41 at hkJ41
          refine g_aload_n cx 0 rfl e_X3_product_41 ?_
          refine g_cViW cx [] [] (w_X3_sign l X ad F9 R10 oF9 oR10) ml_X3_42 yV_X3_sign e_X3_product_42 (by unfold g_rr; decide) (by decide) 33 rfl rfl rfl (Nat.le_of_ble_eq_true rfl) (fun r21 w22 h23 => ?_)
          obtain ⟨rfl, pr21, hx24⟩ := h23
          have hk25 := k_ls hkJ41 hx24
          refine g_bipush cx 42 (by decide) e_X3_product_45 ?_
          have J71 : ∀ (y26 : Int32), (jv 8 10 y26) → (SP = K_X3_product_c1_71 b7 F9 R10 y8 y26) → G X E 4 0 0 (wX X ad F9 R10) [(0, .ref (ad 33)), (1, .int 1), (2, .int y8)] 71 [.int y26] := by
            intro y26 py26 hkJ71
            unfold K_X3_product_c1_71 at hkJ71
            refine g_istore_n cx [(3, .int y26), (0, .ref (ad 33)), (1, .int 1), (2, .int y8)] e_X3_product_71 (by decide) rfl ?_
            refine g_aload_n cx 1 rfl e_X3_product_72 ?_
            refine g_dup cx rfl e_X3_product_73 ?_
            refine g_get cx cl_X3 fl_X3_19 33 (.int (F9 531)) e_X3_product_74 rfl rfl ?_
            refine g_iconst cx 1 (by decide) e_X3_product_77 ?_
            refine g_iadd cx e_X3_product_78 ?_
            refine g_topi (fun x27 ex27 => ?_)
            have hk28 := k_ls hkJ71 ex27
            refine g_put cx cl_X3 fl_X3_19 33 (wX X ad (upd F9 531 x27) R10) e_X3_product_79 rfl rfl rfl rfl (Nat.le_of_ble_eq_true rfl) rfl ?_
            obtain ⟨F29, hF29⟩ : ∃ z, z = upd F9 531 x27 := ⟨_, rfl⟩
            rw [← hF29]
            have hk30 := k_ls hk28 hF29
            have oF29 : g_ok LK_wX F29 := by rw [hF29]; exact g_ok_u oF9 rfl
            have fF29 : g_fr md_X3_product_c1 F F29 := by rw [hF29]; exact g_fr_u fF9 rfl
            refine g_aload_n cx 1 rfl e_X3_product_82 ?_
            refine g_iload_n cx 2 rfl e_X3_product_83 ?_
            refine g_cVvW cx [.int 1] [] (w_X3_factor_c1 l X ad F29 R10 oF29 oR10) ml_X3_99 yV_X3_factor e_X3_product_84 (by unfold g_rr; decide) (by decide) 33 rfl rfl rfl (Nat.le_of_ble_eq_true rfl) (fun w32 h33 => ?_)
            obtain ⟨F35, R36, rfl, oF35, oR36, cF35, cR36, hx34⟩ := h33
            have hk37 := k_ls2 hk30 hx34
            have fF35 : g_fr md_X3_product_c1 F F35 := g_fr_c fF29 cF35 rfl
            have fR36 : g_fr mr_X3_product_c1 R R36 := g_fr_c fR10 cR36 rfl
            refine g_aload_n cx 1 rfl e_X3_product_87 ?_
            refine g_get cx cl_X3 fl_X3_25 33 (.ref (ad 25)) e_X3_product_88 rfl rfl ?_
            refine g_iload_n cx 0 rfl e_X3_product_91 ?_
            refine g_iconst cx 0 (by decide) e_X3_product_92 ?_
            refine g_cViW cx [.int y26, .int 0] [] (w_X2_emit_25 l X ad F35 R36 oF35 oR36 y26 0) ml_X3_66 yV_X2_emit e_X3_product_93 (by unfold g_rr; decide) (by decide) 25 rfl rfl rfl (Nat.le_of_ble_eq_true rfl) (fun r38 w39 h40 => ?_)
            obtain ⟨F42, R43, rfl, oF42, oR43, cF42, cR43, pr38, hx41⟩ := h40
            have hk44 := k_ls3 hk37 hx41
            have fF42 : g_fr md_X3_product_c1 F F42 := g_fr_c fF35 cF42 rfl
            have fR43 : g_fr mr_X3_product_c1 R R43 := g_fr_c fR36 cR43 rfl
            refine g_pop cx rfl e_X3_product_96 ?_
            obtain ⟨x45, ex45⟩ : ∃ z : Int32, z = y8 + Int32.ofInt 1 := ⟨_, rfl⟩
            have hk46 := k_ls hk44 (show x45 = y8 + 1 from ex45)
            refine g_iinc cx x45 [(2, .int x45), (3, .int y26), (0, .ref (ad 33)), (1, .int 1)] 3 e_X3_product_97 rfl ex45.symm (by decide) rfl ?_
            have zx45 := jv_add 1 200 (show x45 = y8 + 1 from ex45) p14 (jv_k (x := 1) 1 (by decide)) (by decide)
            refine g_goto cx 7 e_X3_product_100 (by decide) ?_
            refine g_lsub [2, 3, 0] [(0, .ref (ad 33)), (1, .int 1), (2, .int x45)] rfl ?_
            exact ih7 F42 R43 x45 oF42 fF42 oR43 fR43 (jv_w zx45.2 (by decide)) (hk46.trans (by rw [hb7])) (Nat.lt_of_lt_of_le (show (2147483647 - x45.toInt).toNat < (2147483647 - y8.toInt).toNat from by have q0 := (jv_k (x := 1) 1 (by decide)).1; have q1 := (jv_k (x := 1) 1 (by decide)).2; have q2 := (jv_k (x := 200) 200 (by decide)).1; have q3 := (jv_k (x := 200) 200 (by decide)).2; have q4 := zx45.2.1; have q5 := zx45.2.2; have q6 := p14.1; have q7 := p14.2; have q8 := (gc_nle zc11); have q9 := (g_eq0 zx45.1); omega) (Nat.le_of_lt_succ hm7))
          refine g_icmp_ne cx 55 e_X3_product_47 (by decide) (fun zc47 => ?_) (fun zc47 => ?_)
          · have hk48 := hk25.trans (if_neg zc47)
            refine g_aload_n cx 0 rfl e_X3_product_55 ?_
            refine g_cViW cx [] [] (w_X3_sign l X ad F9 R10 oF9 oR10) ml_X3_42 yV_X3_sign e_X3_product_56 (by unfold g_rr; decide) (by decide) 33 rfl rfl rfl (Nat.le_of_ble_eq_true rfl) (fun r49 w50 h51 => ?_)
            obtain ⟨rfl, pr49, hx52⟩ := h51
            have hk53 := k_ls hk48 hx52
            refine g_bipush cx 47 (by decide) e_X3_product_59 ?_
            refine g_icmp_ne cx 69 e_X3_product_61 (by decide) (fun zc54 => ?_) (fun zc54 => ?_)
            · have hk55 := hk53.trans (if_neg zc54)
              refine g_bipush cx 10 (by decide) e_X3_product_69 ?_
              exact J71 10 (jv_w (jv_k (x := 10) 10 (by decide)) (by decide)) hk55
            · have p56 := gn_eq 47 47 (gc_eq zc54) pr49 (jv_k (x := 47) 47 (by decide)) (by decide)
              have hk57 := hk53.trans (if_pos zc54)
              refine g_bipush cx 9 (by decide) e_X3_product_64 ?_
              refine g_goto cx 71 e_X3_product_66 (by decide) ?_
              exact J71 9 (jv_w (jv_k (x := 9) 9 (by decide)) (by decide)) hk57
          · have p58 := gn_eq 42 42 (gc_eq zc47) pr21 (jv_k (x := 42) 42 (by decide)) (by decide)
            have hk59 := hk25.trans (if_pos zc47)
            refine g_bipush cx 8 (by decide) e_X3_product_50 ?_
            refine g_goto cx 71 e_X3_product_52 (by decide) ?_
            exact J71 8 (jv_w (jv_k (x := 8) 8 (by decide)) (by decide)) hk59
        refine g_icmp_eq cx 41 e_X3_product_20 (by decide) (fun zc60 => ?_) (fun zc60 => ?_)
        · have p61 := gn_eq 42 42 (gc_eq zc60) pr16 (jv_k (x := 42) 42 (by decide)) (by decide)
          have hk62 := hk20.trans (if_pos zc60)
          exact J41  hk62
        · have hk63 := hk20.trans (if_neg zc60)
          refine g_aload_n cx 0 rfl e_X3_product_23 ?_
          refine g_cViW cx [] [] (w_X3_sign l X ad F9 R10 oF9 oR10) ml_X3_42 yV_X3_sign e_X3_product_24 (by unfold g_rr; decide) (by decide) 33 rfl rfl rfl (Nat.le_of_ble_eq_true rfl) (fun r64 w65 h66 => ?_)
          obtain ⟨rfl, pr64, hx67⟩ := h66
          have hk68 := k_ls hk63 hx67
          refine g_bipush cx 47 (by decide) e_X3_product_27 ?_
          refine g_icmp_eq cx 41 e_X3_product_29 (by decide) (fun zc69 => ?_) (fun zc69 => ?_)
          · have p70 := gn_eq 47 47 (gc_eq zc69) pr64 (jv_k (x := 47) 47 (by decide)) (by decide)
            have hk71 := hk68.trans (if_pos zc69)
            exact J41  hk71
          · have hk72 := hk68.trans (if_neg zc69)
            refine g_aload_n cx 0 rfl e_X3_product_32 ?_
            refine g_cViW cx [] [] (w_X3_sign l X ad F9 R10 oF9 oR10) ml_X3_42 yV_X3_sign e_X3_product_33 (by unfold g_rr; decide) (by decide) 33 rfl rfl rfl (Nat.le_of_ble_eq_true rfl) (fun r73 w74 h75 => ?_)
            obtain ⟨rfl, pr73, hx76⟩ := h75
            have hk77 := k_ls hk72 hx76
            refine g_bipush cx 37 (by decide) e_X3_product_36 ?_
            refine g_icmp_ne cx 103 e_X3_product_38 (by decide) (fun zc78 => ?_) (fun zc78 => ?_)
            · have hk79 := hk77.trans (if_neg zc78)
              refine g_lsub [] [] rfl ?_
              exact J103  hk79
            · have p80 := gn_eq 37 37 (gc_eq zc78) pr73 (jv_k (x := 37) 37 (by decide)) (by decide)
              have hk81 := hk77.trans (if_pos zc78)
              exact J41  hk81
  refine g_lsub [1, 2, 0] [(0, .ref (ad 33)), (1, .int 1), (2, .int 0)] rfl ?_
  exact J7 8589934592 F5 R6 0 oF5 fF5 oR6 fR6 (jv_w (jv_k (x := 0) 0 (by decide)) (by decide)) hk7 (show (2147483647 - (0 : Int32).toInt).toNat < 8589934592 from by have q0 := (jv_k (x := 0) 0 (by decide)).1; have q1 := (jv_k (x := 0) 0 (by decide)).2; omega)
def K_X3_sum_c1_80 (F9 : Nat → Int32) (R10 : Nat → Nat → Int32)  : (Nat → Int32) × (Nat → Nat → Int32) :=
  (F9, R10)
def K_X3_sum_c1_48 (b7 : (Nat → Int32) → (Nat → Nat → Int32) → (Int32) → (Nat → Int32) × (Nat → Nat → Int32)) (F9 : Nat → Int32) (R10 : Nat → Nat → Int32) (y8 : Int32) (y26 : Int32) : (Nat → Int32) × (Nat → Nat → Int32) :=
  k_lt ((F9 531) + 1) (fun x27 => k_lt (upd F9 531 x27) (fun F29 => k_lt2 (sp_X3_product_c1 F29 R10) (fun F35 R36 => k_lt3 (sp_X2_emit_25 F35 R36 y26 0) (fun r38 F42 R43 => k_lt (y8 + 1) (fun x45 => b7 F42 R43 x45)))))
def K_X3_sum_c1_32 (b7 : (Nat → Int32) → (Nat → Nat → Int32) → (Int32) → (Nat → Int32) × (Nat → Nat → Int32)) (F9 : Nat → Int32) (R10 : Nat → Nat → Int32) (y8 : Int32)  : (Nat → Int32) × (Nat → Nat → Int32) :=
  k_lt (sp_X3_sign F9 R10) (fun r21 => if r21 = 43 then K_X3_sum_c1_48 b7 F9 R10 y8 6 else K_X3_sum_c1_48 b7 F9 R10 y8 7)
def KB_X3_sum_c1_7 (b7 : (Nat → Int32) → (Nat → Nat → Int32) → (Int32) → (Nat → Int32) × (Nat → Nat → Int32))  (F9 : Nat → Int32) (R10 : Nat → Nat → Int32) (y8 : Int32) : (Nat → Int32) × (Nat → Nat → Int32) :=
  if 200 ≤ y8 then K_X3_sum_c1_80 F9 R10 else k_lt (sp_X3_sign F9 R10) (fun r16 => if r16 = 43 then K_X3_sum_c1_32 b7 F9 R10 y8 else k_lt (sp_X3_sign F9 R10) (fun r55 => if r55 = 45 then K_X3_sum_c1_32 b7 F9 R10 y8 else K_X3_sum_c1_80 F9 R10))
def K_X3_sum_c1_7  : Nat → (Nat → Int32) → (Nat → Nat → Int32) → (Int32) → (Nat → Int32) × (Nat → Nat → Int32)
  | 0 => fun F9 R10 _ => (F9, R10)
  | n + 1 => KB_X3_sum_c1_7 (K_X3_sum_c1_7 n)
def sp_X3_sum_c1 (F : Nat → Int32) (R : Nat → Nat → Int32) : (Nat → Int32) × (Nat → Nat → Int32) :=
  k_lt2 (sp_X3_product_c1 F R) (fun F5 R6 => K_X3_sum_c1_7 8589934592 F5 R6 0)
def md_X3_sum_c1 : List Nat := [402, 531, 532]
def mr_X3_sum_c1 : List Nat := [26, 27]
set_option maxHeartbeats 4000000 in
set_option maxRecDepth 100000 in
theorem w_X3_sum_c1 (l : Launch) (X : gX) (ad : Nat → Nat) (F : Nat → Int32) (R : Nat → Nat → Int32) (hI : g_ok LK_wX F) (hA : g_okR LA_wX R) : g_Cv l X yX3_sum cX3_sum 4 22 0 0 [.ref (ad 33), .int 1] (wX X ad F R) (fun w => ∃ (F' : Nat → Int32) (R' : Nat → Nat → Int32), w = wX X ad F' R' ∧ g_ok LK_wX F' ∧ g_okR LA_wX R' ∧ g_fr md_X3_sum_c1 F F' ∧ g_fr mr_X3_sum_c1 R R' ∧ (F', R') = sp_X3_sum_c1 F R) := by
  refine g_mv (by decide +kernel) (Nat.le_of_ble_eq_true rfl) (fun E cx hret => ?_)
  obtain ⟨SP, hSP⟩ : ∃ z, z = sp_X3_sum_c1 F R := ⟨_, rfl⟩
  have hk0 := hSP
  unfold sp_X3_sum_c1 at hk0
  refine g_aload_n cx 0 rfl e_X3_sum_0 ?_
  refine g_iload_n cx 1 rfl e_X3_sum_1 ?_
  refine g_cVvW cx [.int 1] [] (w_X3_product_c1 l X ad F R hI hA) ml_X3_96 yV_X3_product e_X3_sum_2 (by unfold g_rr; decide) (by decide) 33 rfl rfl rfl (Nat.le_of_ble_eq_true rfl) (fun w2 h3 => ?_)
  obtain ⟨F5, R6, rfl, oF5, oR6, cF5, cR6, hx4⟩ := h3
  have hk7 := k_ls2 hk0 hx4
  have fF5 : g_fr md_X3_sum_c1 F F5 := g_fr_c (g_fr_rf F) cF5 rfl
  have fR6 : g_fr mr_X3_sum_c1 R R6 := g_fr_c (g_fr_rf R) cR6 rfl
  refine g_iconst cx 0 (by decide) e_X3_sum_5 ?_
  refine g_istore_n cx [(2, .int 0), (0, .ref (ad 33)), (1, .int 1)] e_X3_sum_6 (by decide) rfl ?_
  have J7 : ∀ (N : Nat) (F9 : Nat → Int32) (R10 : Nat → Nat → Int32) (y8 : Int32), (g_ok LK_wX F9) → (g_fr md_X3_sum_c1 F F9) → (g_okR LA_wX R10) → (g_fr mr_X3_sum_c1 R R10) → (jv 0 200 y8) → (SP = K_X3_sum_c1_7 N F9 R10 y8) → (2147483647 - y8.toInt).toNat < N → G X E 4 0 0 (wX X ad F9 R10) [(0, .ref (ad 33)), (1, .int 1), (2, .int y8)] 7 [] := by
    intro N
    induction N with
    | zero => intro F9 R10 y8 oF9 fF9 oR10 fR10 py8 hkJ7 hm; exact absurd hm (Nat.not_lt_zero _)
    | succ N ih7 =>
      intro F9 R10 y8 oF9 fF9 oR10 fR10 py8 hkJ7 hm7
      have hkK7 : SP = KB_X3_sum_c1_7 (K_X3_sum_c1_7 N) F9 R10 y8 := hkJ7
      obtain ⟨b7, hb7⟩ : ∃ z, z = K_X3_sum_c1_7 N := ⟨_, rfl⟩
      rw [← hb7] at hkK7
      unfold KB_X3_sum_c1_7 at hkK7
      refine g_iload_n cx 2 rfl e_X3_sum_7 ?_
      refine g_sipush cx 200 (by decide) e_X3_sum_8 ?_
      have J80 : (SP = K_X3_sum_c1_80 F9 R10) → G X E 4 0 0 (wX X ad F9 R10) [] 80 [] := by
        intro   hkJ80
        unfold K_X3_sum_c1_80 at hkJ80
        exact hret e_X3_sum_80 (Nat.le_of_ble_eq_true rfl) (Nat.le_of_ble_eq_true rfl) ⟨F9, R10, rfl, oF9, oR10, fF9, fR10, (hkJ80.symm.trans hSP)⟩
      refine g_icmp_ge cx 80 e_X3_sum_11 (by decide) (fun zc11 => ?_) (fun zc11 => ?_)
      · have p12 := gn_ge 200 200 (gc_le zc11) py8 (jv_k (x := 200) 200 (by decide)) (by decide)
        have hk13 := hkK7.trans (if_pos zc11)
        refine g_lsub [] [] rfl ?_
        exact J80  hk13
      · have p14 := gn_lt 0 199 (gc_nle zc11) py8 (jv_k (x := 200) 200 (by decide)) (by decide)
        have hk15 := hkK7.trans (if_neg zc11)
        refine g_aload_n cx 0 rfl e_X3_sum_14 ?_
        refine g_cViW cx [] [] (w_X3_sign l X ad F9 R10 oF9 oR10) ml_X3_42 yV_X3_sign e_X3_sum_15 (by unfold g_rr; decide) (by decide) 33 rfl rfl rfl (Nat.le_of_ble_eq_true rfl) (fun r16 w17 h18 => ?_)
        obtain ⟨rfl, pr16, hx19⟩ := h18
        have hk20 := k_ls hk15 hx19
        refine g_bipush cx 43 (by decide) e_X3_sum_18 ?_
        have J32 : (SP = K_X3_sum_c1_32 b7 F9 R10 y8) → G X E 4 0 0 (wX X ad F9 R10) [(0, .ref (ad 33)), (1, .int 1), (2, .int y8)] 32 [] := by
          intro   hkJ32
          unfold K_X3_sum_c1_32 at hkJ32
          refine g_aload_n cx 0 rfl e_X3_sum_32 ?_
          refine g_cViW cx [] [] (w_X3_sign l X ad F9 R10 oF9 oR10) ml_X3_42 yV_X3_sign e_X3_sum_33 (by unfold g_rr; decide) (by decide) 33 rfl rfl rfl (Nat.le_of_ble_eq_true rfl) (fun r21 w22 h23 => ?_)
          obtain ⟨rfl, pr21, hx24⟩ := h23
          have hk25 := k_ls hkJ32 hx24
          refine g_bipush cx 43 (by decide) e_X3_sum_36 ?_
          have J48 : ∀ (y26 : Int32), (jv 6 7 y26) → (SP = K_X3_sum_c1_48 b7 F9 R10 y8 y26) → G X E 4 0 0 (wX X ad F9 R10) [(0, .ref (ad 33)), (1, .int 1), (2, .int y8)] 48 [.int y26] := by
            intro y26 py26 hkJ48
            unfold K_X3_sum_c1_48 at hkJ48
            refine g_istore_n cx [(3, .int y26), (0, .ref (ad 33)), (1, .int 1), (2, .int y8)] e_X3_sum_48 (by decide) rfl ?_
            refine g_aload_n cx 1 rfl e_X3_sum_49 ?_
            refine g_dup cx rfl e_X3_sum_50 ?_
            refine g_get cx cl_X3 fl_X3_19 33 (.int (F9 531)) e_X3_sum_51 rfl rfl ?_
            refine g_iconst cx 1 (by decide) e_X3_sum_54 ?_
            refine g_iadd cx e_X3_sum_55 ?_
            refine g_topi (fun x27 ex27 => ?_)
            have hk28 := k_ls hkJ48 ex27
            refine g_put cx cl_X3 fl_X3_19 33 (wX X ad (upd F9 531 x27) R10) e_X3_sum_56 rfl rfl rfl rfl (Nat.le_of_ble_eq_true rfl) rfl ?_
            obtain ⟨F29, hF29⟩ : ∃ z, z = upd F9 531 x27 := ⟨_, rfl⟩
            rw [← hF29]
            have hk30 := k_ls hk28 hF29
            have oF29 : g_ok LK_wX F29 := by rw [hF29]; exact g_ok_u oF9 rfl
            have fF29 : g_fr md_X3_sum_c1 F F29 := by rw [hF29]; exact g_fr_u fF9 rfl
            refine g_aload_n cx 1 rfl e_X3_sum_59 ?_
            refine g_iload_n cx 2 rfl e_X3_sum_60 ?_
            refine g_cVvW cx [.int 1] [] (w_X3_product_c1 l X ad F29 R10 oF29 oR10) ml_X3_96 yV_X3_product e_X3_sum_61 (by unfold g_rr; decide) (by decide) 33 rfl rfl rfl (Nat.le_of_ble_eq_true rfl) (fun w32 h33 => ?_)
            obtain ⟨F35, R36, rfl, oF35, oR36, cF35, cR36, hx34⟩ := h33
            have hk37 := k_ls2 hk30 hx34
            have fF35 : g_fr md_X3_sum_c1 F F35 := g_fr_c fF29 cF35 rfl
            have fR36 : g_fr mr_X3_sum_c1 R R36 := g_fr_c fR10 cR36 rfl
            refine g_aload_n cx 1 rfl e_X3_sum_64 ?_
            refine g_get cx cl_X3 fl_X3_25 33 (.ref (ad 25)) e_X3_sum_65 rfl rfl ?_
            refine g_iload_n cx 0 rfl e_X3_sum_68 ?_
            refine g_iconst cx 0 (by decide) e_X3_sum_69 ?_
            refine g_cViW cx [.int y26, .int 0] [] (w_X2_emit_25 l X ad F35 R36 oF35 oR36 y26 0) ml_X3_66 yV_X2_emit e_X3_sum_70 (by unfold g_rr; decide) (by decide) 25 rfl rfl rfl (Nat.le_of_ble_eq_true rfl) (fun r38 w39 h40 => ?_)
            obtain ⟨F42, R43, rfl, oF42, oR43, cF42, cR43, pr38, hx41⟩ := h40
            have hk44 := k_ls3 hk37 hx41
            have fF42 : g_fr md_X3_sum_c1 F F42 := g_fr_c fF35 cF42 rfl
            have fR43 : g_fr mr_X3_sum_c1 R R43 := g_fr_c fR36 cR43 rfl
            refine g_pop cx rfl e_X3_sum_73 ?_
            obtain ⟨x45, ex45⟩ : ∃ z : Int32, z = y8 + Int32.ofInt 1 := ⟨_, rfl⟩
            have hk46 := k_ls hk44 (show x45 = y8 + 1 from ex45)
            refine g_iinc cx x45 [(2, .int x45), (3, .int y26), (0, .ref (ad 33)), (1, .int 1)] 3 e_X3_sum_74 rfl ex45.symm (by decide) rfl ?_
            have zx45 := jv_add 1 200 (show x45 = y8 + 1 from ex45) p14 (jv_k (x := 1) 1 (by decide)) (by decide)
            refine g_goto cx 7 e_X3_sum_77 (by decide) ?_
            refine g_lsub [2, 3, 0] [(0, .ref (ad 33)), (1, .int 1), (2, .int x45)] rfl ?_
            exact ih7 F42 R43 x45 oF42 fF42 oR43 fR43 (jv_w zx45.2 (by decide)) (hk46.trans (by rw [hb7])) (Nat.lt_of_lt_of_le (show (2147483647 - x45.toInt).toNat < (2147483647 - y8.toInt).toNat from by have q0 := (jv_k (x := 1) 1 (by decide)).1; have q1 := (jv_k (x := 1) 1 (by decide)).2; have q2 := (jv_k (x := 200) 200 (by decide)).1; have q3 := (jv_k (x := 200) 200 (by decide)).2; have q4 := zx45.2.1; have q5 := zx45.2.2; have q6 := p14.1; have q7 := p14.2; have q8 := (gc_nle zc11); have q9 := (g_eq0 zx45.1); omega) (Nat.le_of_lt_succ hm7))
          refine g_icmp_ne cx 46 e_X3_sum_38 (by decide) (fun zc47 => ?_) (fun zc47 => ?_)
          · have hk48 := hk25.trans (if_neg zc47)
            refine g_bipush cx 7 (by decide) e_X3_sum_46 ?_
            exact J48 7 (jv_w (jv_k (x := 7) 7 (by decide)) (by decide)) hk48
          · have p49 := gn_eq 43 43 (gc_eq zc47) pr21 (jv_k (x := 43) 43 (by decide)) (by decide)
            have hk50 := hk25.trans (if_pos zc47)
            refine g_bipush cx 6 (by decide) e_X3_sum_41 ?_
            refine g_goto cx 48 e_X3_sum_43 (by decide) ?_
            exact J48 6 (jv_w (jv_k (x := 6) 6 (by decide)) (by decide)) hk50
        refine g_icmp_eq cx 32 e_X3_sum_20 (by decide) (fun zc51 => ?_) (fun zc51 => ?_)
        · have p52 := gn_eq 43 43 (gc_eq zc51) pr16 (jv_k (x := 43) 43 (by decide)) (by decide)
          have hk53 := hk20.trans (if_pos zc51)
          exact J32  hk53
        · have hk54 := hk20.trans (if_neg zc51)
          refine g_aload_n cx 0 rfl e_X3_sum_23 ?_
          refine g_cViW cx [] [] (w_X3_sign l X ad F9 R10 oF9 oR10) ml_X3_42 yV_X3_sign e_X3_sum_24 (by unfold g_rr; decide) (by decide) 33 rfl rfl rfl (Nat.le_of_ble_eq_true rfl) (fun r55 w56 h57 => ?_)
          obtain ⟨rfl, pr55, hx58⟩ := h57
          have hk59 := k_ls hk54 hx58
          refine g_bipush cx 45 (by decide) e_X3_sum_27 ?_
          refine g_icmp_ne cx 80 e_X3_sum_29 (by decide) (fun zc60 => ?_) (fun zc60 => ?_)
          · have hk61 := hk59.trans (if_neg zc60)
            refine g_lsub [] [] rfl ?_
            exact J80  hk61
          · have p62 := gn_eq 45 45 (gc_eq zc60) pr55 (jv_k (x := 45) 45 (by decide)) (by decide)
            have hk63 := hk59.trans (if_pos zc60)
            exact J32  hk63
  refine g_lsub [1, 2, 0] [(0, .ref (ad 33)), (1, .int 1), (2, .int 0)] rfl ?_
  exact J7 8589934592 F5 R6 0 oF5 fF5 oR6 fR6 (jv_w (jv_k (x := 0) 0 (by decide)) (by decide)) hk7 (show (2147483647 - (0 : Int32).toInt).toNat < 8589934592 from by have q0 := (jv_k (x := 0) 0 (by decide)).1; have q1 := (jv_k (x := 0) 0 (by decide)).2; omega)
def K_X3_factor_c0_72 (F : Nat → Int32) (R : Nat → Nat → Int32) (y25 : Int32) : (Nat → Int32) × (Nat → Nat → Int32) :=
  if 0 ≤ y25 then k_lt ((F 531) + 1) (fun x29 => k_lt (upd F 531 x29) (fun F31 => k_lt3 (sp_X2_emit_25 F31 R 2 y25) (fun r33 F37 R38 => (F37, R38)))) else k_lt2 (sp_X3_fail F R 1) (fun F46 R47 => (F46, R47))
def sp_X3_factor_c0 (F : Nat → Int32) (R : Nat → Nat → Int32) : (Nat → Int32) × (Nat → Nat → Int32) :=
  k_lt (sp_X3_sign F R) (fun r1 => if r1 = 91 then k_lt3 (sp_X3_opens_c0 F R) (fun r76 F80 R81 => k_lt2 (sp_X3_sum_c1 F80 R81) (fun F88 R89 => k_lt2 (sp_X3_pass F88 R89 93) (fun F95 R96 => (F95, R96)))) else k_lt (sp_X3_sign F R) (fun r8 => k_lt (g_in r8 48 57) (fun r13 => if r13 = 0 then k_lt (sp_X3_sign F R) (fun r20 => if r20 = (-1) then K_X3_factor_c0_72 F R (-1) else k_lt (sp_X3_sign F R) (fun r51 => k_lt ((r51.toUInt32 % 65536).toInt32) (fun x56 => k_lt (sp_J0_indexOf_0f7a4_s1 x56) (fun r58 => K_X3_factor_c0_72 F R r58)))) else k_lt2 (sp_X3_number F R) (fun F71 R72 => (F71, R72)))))
def md_X3_factor_c0 : List Nat := [402, 531, 532]
def mr_X3_factor_c0 : List Nat := [26, 27]
set_option maxHeartbeats 4000000 in
set_option maxRecDepth 100000 in
theorem w_X3_factor_c0 (l : Launch) (X : gX) (ad : Nat → Nat) (F : Nat → Int32) (R : Nat → Nat → Int32) (hI : g_ok LK_wX F) (hA : g_okR LA_wX R) : g_Cv l X yX3_factor cX3_factor 3 23 0 0 [.ref (ad 33), .int 0] (wX X ad F R) (fun w => ∃ (F' : Nat → Int32) (R' : Nat → Nat → Int32), w = wX X ad F' R' ∧ g_ok LK_wX F' ∧ g_okR LA_wX R' ∧ g_fr md_X3_factor_c0 F F' ∧ g_fr mr_X3_factor_c0 R R' ∧ (F', R') = sp_X3_factor_c0 F R) := by
  refine g_mv (by decide +kernel) (Nat.le_of_ble_eq_true rfl) (fun E cx hret => ?_)
  obtain ⟨SP, hSP⟩ : ∃ z, z = sp_X3_factor_c0 F R := ⟨_, rfl⟩
  have hk0 := hSP
  unfold sp_X3_factor_c0 at hk0
  refine g_aload_n cx 0 rfl e_X3_factor_0 ?_
  refine g_cViW cx [] [] (w_X3_sign l X ad F R hI hA) ml_X3_42 yV_X3_sign e_X3_factor_1 (by unfold g_rr; decide) (by decide) 33 rfl rfl rfl (Nat.le_of_ble_eq_true rfl) (fun r1 w2 h3 => ?_)
  obtain ⟨rfl, pr1, hx4⟩ := h3
  have hk5 := k_ls hk0 hx4
  refine g_bipush cx 91 (by decide) e_X3_factor_4 ?_
  refine g_icmp_ne cx 31 e_X3_factor_6 (by decide) (fun zc6 => ?_) (fun zc6 => ?_)
  · have hk7 := hk5.trans (if_neg zc6)
    refine g_aload_n cx 0 rfl e_X3_factor_31 ?_
    refine g_cViW cx [] [] (w_X3_sign l X ad F R hI hA) ml_X3_42 yV_X3_sign e_X3_factor_32 (by unfold g_rr; decide) (by decide) 33 rfl rfl rfl (Nat.le_of_ble_eq_true rfl) (fun r8 w9 h10 => ?_)
    obtain ⟨rfl, pr8, hx11⟩ := h10
    have hk12 := k_ls hk7 hx11
    refine g_bipush cx 48 (by decide) e_X3_factor_35 ?_
    refine g_bipush cx 57 (by decide) e_X3_factor_37 ?_
    refine g_cNiW cx [.int r8, .int 48, .int 57] [] (c_X10_within l X (wX X ad F R) r8 48 57) mn_X3_102 yS_X10_within e_X3_factor_39 (by unfold g_rr; decide) (by decide) rfl (Nat.le_of_ble_eq_true rfl) (fun r13 w14 h15 => ?_)
    obtain ⟨rfl, hr13⟩ := h15
    have pr13 : jv 0 1 r13 := by rw [hr13]; exact gi_01 _ _ _
    have hk16 := k_ls hk12 hr13
    refine g_if_eq cx 50 e_X3_factor_42 (by decide) (fun zc17 => ?_) (fun zc17 => ?_)
    · have p18 := gn_eq 0 0 (gc_eq zc17) pr13 (jv_k (x := 0) 0 (by decide)) (by decide)
      have hk19 := hk16.trans (if_pos zc17)
      refine g_aload_n cx 0 rfl e_X3_factor_50 ?_
      refine g_cViW cx [] [] (w_X3_sign l X ad F R hI hA) ml_X3_42 yV_X3_sign e_X3_factor_51 (by unfold g_rr; decide) (by decide) 33 rfl rfl rfl (Nat.le_of_ble_eq_true rfl) (fun r20 w21 h22 => ?_)
      obtain ⟨rfl, pr20, hx23⟩ := h22
      have hk24 := k_ls hk19 hx23
      refine g_iconst cx (-1) (by decide) e_X3_factor_54 ?_
      have J72 : ∀ (y25 : Int32), (jv (-1) 11 y25) → (SP = K_X3_factor_c0_72 F R y25) → G X E 3 0 0 (wX X ad F R) [(0, .ref (ad 33))] 72 [.int y25] := by
        intro y25 py25 hkJ72
        unfold K_X3_factor_c0_72 at hkJ72
        refine g_istore_n cx [(2, .int y25), (0, .ref (ad 33))] e_X3_factor_72 (by decide) rfl ?_
        refine g_iload_n cx 0 rfl e_X3_factor_73 ?_
        refine g_if_ge cx 83 e_X3_factor_74 (by decide) (fun zc26 => ?_) (fun zc26 => ?_)
        · have p27 := gn_ge 0 11 (gc_le zc26) py25 (jv_k (x := 0) 0 (by decide)) (by decide)
          have hk28 := hkJ72.trans (if_pos zc26)
          refine g_aload_n cx 1 rfl e_X3_factor_83 ?_
          refine g_dup cx rfl e_X3_factor_84 ?_
          refine g_get cx cl_X3 fl_X3_19 33 (.int (F 531)) e_X3_factor_85 rfl rfl ?_
          refine g_iconst cx 1 (by decide) e_X3_factor_88 ?_
          refine g_iadd cx e_X3_factor_89 ?_
          refine g_topi (fun x29 ex29 => ?_)
          have hk30 := k_ls hk28 ex29
          refine g_put cx cl_X3 fl_X3_19 33 (wX X ad (upd F 531 x29) R) e_X3_factor_90 rfl rfl rfl rfl (Nat.le_of_ble_eq_true rfl) rfl ?_
          obtain ⟨F31, hF31⟩ : ∃ z, z = upd F 531 x29 := ⟨_, rfl⟩
          rw [← hF31]
          have hk32 := k_ls hk30 hF31
          have oF31 : g_ok LK_wX F31 := by rw [hF31]; exact g_ok_u hI rfl
          have fF31 : g_fr md_X3_factor_c0 F F31 := by rw [hF31]; exact g_fr_u (g_fr_rf F) rfl
          refine g_aload_n cx 1 rfl e_X3_factor_93 ?_
          refine g_get cx cl_X3 fl_X3_25 33 (.ref (ad 25)) e_X3_factor_94 rfl rfl ?_
          refine g_iconst cx 2 (by decide) e_X3_factor_97 ?_
          refine g_iload_n cx 0 rfl e_X3_factor_98 ?_
          refine g_cViW cx [.int 2, .int y25] [] (w_X2_emit_25 l X ad F31 R oF31 hA 2 y25) ml_X3_66 yV_X2_emit e_X3_factor_99 (by unfold g_rr; decide) (by decide) 25 rfl rfl rfl (Nat.le_of_ble_eq_true rfl) (fun r33 w34 h35 => ?_)
          obtain ⟨F37, R38, rfl, oF37, oR38, cF37, cR38, pr33, hx36⟩ := h35
          have hk39 := k_ls3 hk32 hx36
          have fF37 : g_fr md_X3_factor_c0 F F37 := g_fr_c fF31 cF37 rfl
          have fR38 : g_fr mr_X3_factor_c0 R R38 := g_fr_c (g_fr_rf R) cR38 rfl
          refine g_pop cx rfl e_X3_factor_102 ?_
          exact hret e_X3_factor_103 (Nat.le_of_ble_eq_true rfl) (Nat.le_of_ble_eq_true rfl) ⟨F37, R38, rfl, oF37, oR38, fF37, fR38, (hk39.symm.trans hSP)⟩
        · have p40 := gn_lt (-1) (-1) (gc_nle zc26) py25 (jv_k (x := 0) 0 (by decide)) (by decide)
          have hk41 := hkJ72.trans (if_neg zc26)
          refine g_aload_n cx 1 rfl e_X3_factor_77 ?_
          refine g_iconst cx 1 (by decide) e_X3_factor_78 ?_
          refine g_cVvW cx [.int 1] [] (w_X3_fail l X ad F R hI hA 1) ml_X3_46 yV_X3_fail e_X3_factor_79 (by unfold g_rr; decide) (by decide) 33 rfl rfl rfl (Nat.le_of_ble_eq_true rfl) (fun w43 h44 => ?_)
          obtain ⟨F46, R47, rfl, oF46, oR47, cF46, cR47, hx45⟩ := h44
          have hk48 := k_ls2 hk41 hx45
          have fF46 : g_fr md_X3_factor_c0 F F46 := g_fr_c (g_fr_rf F) cF46 rfl
          have fR47 : g_fr mr_X3_factor_c0 R R47 := g_fr_c (g_fr_rf R) cR47 rfl
          exact hret e_X3_factor_82 (Nat.le_of_ble_eq_true rfl) (Nat.le_of_ble_eq_true rfl) ⟨F46, R47, rfl, oF46, oR47, fF46, fR47, (hk48.symm.trans hSP)⟩
      refine g_icmp_ne cx 62 e_X3_factor_55 (by decide) (fun zc49 => ?_) (fun zc49 => ?_)
      · have hk50 := hk24.trans (if_neg zc49)
        refine g_ldcS1 cx rfl e_X3_factor_62 ?_
        refine g_aload_n cx 0 rfl e_X3_factor_64 ?_
        refine g_cViW cx [] [.ref (X.1.2.2.2.1 1)] (w_X3_sign l X ad F R hI hA) ml_X3_42 yV_X3_sign e_X3_factor_65 (by unfold g_rr; decide) (by decide) 33 rfl rfl rfl (Nat.le_of_ble_eq_true rfl) (fun r51 w52 h53 => ?_)
        obtain ⟨rfl, pr51, hx54⟩ := h53
        have hk55 := k_ls hk50 hx54
        refine g_i2c cx e_X3_factor_68 ?_
        refine g_topi (fun x56 ex56 => ?_)
        have hk57 := k_ls hk55 ex56
        refine g_cVsW cx [.int x56] [] 1 (by decide) rfl (w_J0_indexOf_0f7a4_s1 l X (wX X ad F R) x56) ml_X3_52 yV_J0_indexOf_0f7a4 e_X3_factor_69 (by unfold g_rr; decide) (by decide) rfl (Nat.le_of_ble_eq_true rfl) (fun r58 w59 h60 => ?_)
        obtain ⟨rfl, pr58⟩ := h60
        obtain ⟨pr58, hxr58⟩ := pr58
        have hk61 := k_ls hk57 hxr58
        refine g_lsub [0] [(0, .ref (ad 33))] rfl ?_
        exact J72 r58 pr58 hk61
      · have p62 := gn_eq (-1) (-1) (gc_eq zc49) pr20 (jv_k (x := (-1)) (-1) (by decide)) (by decide)
        have hk63 := hk24.trans (if_pos zc49)
        refine g_iconst cx (-1) (by decide) e_X3_factor_58 ?_
        refine g_goto cx 72 e_X3_factor_59 (by decide) ?_
        refine g_lsub [0] [(0, .ref (ad 33))] rfl ?_
        exact J72 (-1) (jv_w (jv_k (x := (-1)) (-1) (by decide)) (by decide)) hk63
    · have p64 := gn_neL 1 1 (gc_ne zc17) pr13 (jv_k (x := 0) 0 (by decide)) (by decide)
      have p65 := jv_i 48 57 pr8 (gi_in (A := 48) (B := 57) hr13 zc17 (by decide) (by decide)) (by decide)
      have hk66 := hk16.trans (if_neg zc17)
      refine g_aload_n cx 0 rfl e_X3_factor_45 ?_
      refine g_cVvW cx [] [] (w_X3_number l X ad F R hI hA) ml_X3_106 yV_X3_number e_X3_factor_46 (by unfold g_rr; decide) (by decide) 33 rfl rfl rfl (Nat.le_of_ble_eq_true rfl) (fun w68 h69 => ?_)
      obtain ⟨F71, R72, rfl, oF71, oR72, cF71, cR72, hx70⟩ := h69
      have hk73 := k_ls2 hk66 hx70
      have fF71 : g_fr md_X3_factor_c0 F F71 := g_fr_c (g_fr_rf F) cF71 rfl
      have fR72 : g_fr mr_X3_factor_c0 R R72 := g_fr_c (g_fr_rf R) cR72 rfl
      exact hret e_X3_factor_49 (Nat.le_of_ble_eq_true rfl) (Nat.le_of_ble_eq_true rfl) ⟨F71, R72, rfl, oF71, oR72, fF71, fR72, (hk73.symm.trans hSP)⟩
  · have p74 := gn_eq 91 91 (gc_eq zc6) pr1 (jv_k (x := 91) 91 (by decide)) (by decide)
    have hk75 := hk5.trans (if_pos zc6)
    refine g_aload_n cx 0 rfl e_X3_factor_9 ?_
    refine g_iload_n cx 1 rfl e_X3_factor_10 ?_
    refine g_cViW cx [.int 0] [] (w_X3_opens_c0 l X ad F R hI hA) ml_X3_89 yV_X3_opens e_X3_factor_11 (by unfold g_rr; decide) (by decide) 33 rfl rfl rfl (Nat.le_of_ble_eq_true rfl) (fun r76 w77 h78 => ?_)
    obtain ⟨F80, R81, rfl, oF80, oR81, cF80, cR81, pr76, hx79⟩ := h78
    have hk82 := k_ls3 hk75 hx79
    have fF80 : g_fr md_X3_factor_c0 F F80 := g_fr_c (g_fr_rf F) cF80 rfl
    have fR81 : g_fr mr_X3_factor_c0 R R81 := g_fr_c (g_fr_rf R) cR81 rfl
    refine g_if_eq cx 30 e_X3_factor_14 (by decide) (fun zc83 => ?_) (fun zc83 => ?_)
    · exact (gf_eq (gc_eq zc83) pr76 (jv_k (x := 0) 0 (by decide)) (by decide)).elim
    · refine g_aload_n cx 0 rfl e_X3_factor_17 ?_
      refine g_iload_n cx 1 rfl e_X3_factor_18 ?_
      refine g_iconst cx 1 (by decide) e_X3_factor_19 ?_
      refine g_iadd cx e_X3_factor_20 ?_
      refine g_toi 1 (by decide) ?_
      refine g_cVvW cx [.int 1] [] (w_X3_sum_c1 l X ad F80 R81 oF80 oR81) ml_X3_63 yV_X3_sum e_X3_factor_21 (by unfold g_rr; decide) (by decide) 33 rfl rfl rfl (Nat.le_of_ble_eq_true rfl) (fun w85 h86 => ?_)
      obtain ⟨F88, R89, rfl, oF88, oR89, cF88, cR89, hx87⟩ := h86
      have hk90 := k_ls2 hk82 hx87
      have fF88 : g_fr md_X3_factor_c0 F F88 := g_fr_c fF80 cF88 rfl
      have fR89 : g_fr mr_X3_factor_c0 R R89 := g_fr_c fR81 cR89 rfl
      refine g_aload_n cx 0 rfl e_X3_factor_24 ?_
      refine g_bipush cx 93 (by decide) e_X3_factor_25 ?_
      refine g_cVvW cx [.int 93] [] (w_X3_pass l X ad F88 R89 oF88 oR89 93) ml_X3_70 yV_X3_pass e_X3_factor_27 (by unfold g_rr; decide) (by decide) 33 rfl rfl rfl (Nat.le_of_ble_eq_true rfl) (fun w92 h93 => ?_)
      obtain ⟨F95, R96, rfl, oF95, oR96, cF95, cR96, hx94⟩ := h93
      have hk97 := k_ls2 hk90 hx94
      have fF95 : g_fr md_X3_factor_c0 F F95 := g_fr_c fF88 cF95 rfl
      have fR96 : g_fr mr_X3_factor_c0 R R96 := g_fr_c fR89 cR96 rfl
      exact hret e_X3_factor_30 (Nat.le_of_ble_eq_true rfl) (Nat.le_of_ble_eq_true rfl) ⟨F95, R96, rfl, oF95, oR96, fF95, fR96, (hk97.symm.trans hSP)⟩
def K_X3_product_c0_103 (F9 : Nat → Int32) (R10 : Nat → Nat → Int32)  : (Nat → Int32) × (Nat → Nat → Int32) :=
  (F9, R10)
def K_X3_product_c0_71 (b7 : (Nat → Int32) → (Nat → Nat → Int32) → (Int32) → (Nat → Int32) × (Nat → Nat → Int32)) (F9 : Nat → Int32) (R10 : Nat → Nat → Int32) (y8 : Int32) (y26 : Int32) : (Nat → Int32) × (Nat → Nat → Int32) :=
  k_lt ((F9 531) + 1) (fun x27 => k_lt (upd F9 531 x27) (fun F29 => k_lt2 (sp_X3_factor_c0 F29 R10) (fun F35 R36 => k_lt3 (sp_X2_emit_25 F35 R36 y26 0) (fun r38 F42 R43 => k_lt (y8 + 1) (fun x45 => b7 F42 R43 x45)))))
def K_X3_product_c0_41 (b7 : (Nat → Int32) → (Nat → Nat → Int32) → (Int32) → (Nat → Int32) × (Nat → Nat → Int32)) (F9 : Nat → Int32) (R10 : Nat → Nat → Int32) (y8 : Int32)  : (Nat → Int32) × (Nat → Nat → Int32) :=
  k_lt (sp_X3_sign F9 R10) (fun r21 => if r21 = 42 then K_X3_product_c0_71 b7 F9 R10 y8 8 else k_lt (sp_X3_sign F9 R10) (fun r49 => if r49 = 47 then K_X3_product_c0_71 b7 F9 R10 y8 9 else K_X3_product_c0_71 b7 F9 R10 y8 10))
def KB_X3_product_c0_7 (b7 : (Nat → Int32) → (Nat → Nat → Int32) → (Int32) → (Nat → Int32) × (Nat → Nat → Int32))  (F9 : Nat → Int32) (R10 : Nat → Nat → Int32) (y8 : Int32) : (Nat → Int32) × (Nat → Nat → Int32) :=
  if 200 ≤ y8 then K_X3_product_c0_103 F9 R10 else k_lt (sp_X3_sign F9 R10) (fun r16 => if r16 = 42 then K_X3_product_c0_41 b7 F9 R10 y8 else k_lt (sp_X3_sign F9 R10) (fun r64 => if r64 = 47 then K_X3_product_c0_41 b7 F9 R10 y8 else k_lt (sp_X3_sign F9 R10) (fun r73 => if r73 = 37 then K_X3_product_c0_41 b7 F9 R10 y8 else K_X3_product_c0_103 F9 R10)))
def K_X3_product_c0_7  : Nat → (Nat → Int32) → (Nat → Nat → Int32) → (Int32) → (Nat → Int32) × (Nat → Nat → Int32)
  | 0 => fun F9 R10 _ => (F9, R10)
  | n + 1 => KB_X3_product_c0_7 (K_X3_product_c0_7 n)
def sp_X3_product_c0 (F : Nat → Int32) (R : Nat → Nat → Int32) : (Nat → Int32) × (Nat → Nat → Int32) :=
  k_lt2 (sp_X3_factor_c0 F R) (fun F5 R6 => K_X3_product_c0_7 8589934592 F5 R6 0)
def md_X3_product_c0 : List Nat := [402, 531, 532]
def mr_X3_product_c0 : List Nat := [26, 27]
set_option maxHeartbeats 4000000 in
set_option maxRecDepth 100000 in
theorem w_X3_product_c0 (l : Launch) (X : gX) (ad : Nat → Nat) (F : Nat → Int32) (R : Nat → Nat → Int32) (hI : g_ok LK_wX F) (hA : g_okR LA_wX R) : g_Cv l X yX3_product cX3_product 4 24 0 0 [.ref (ad 33), .int 0] (wX X ad F R) (fun w => ∃ (F' : Nat → Int32) (R' : Nat → Nat → Int32), w = wX X ad F' R' ∧ g_ok LK_wX F' ∧ g_okR LA_wX R' ∧ g_fr md_X3_product_c0 F F' ∧ g_fr mr_X3_product_c0 R R' ∧ (F', R') = sp_X3_product_c0 F R) := by
  refine g_mv (by decide +kernel) (Nat.le_of_ble_eq_true rfl) (fun E cx hret => ?_)
  obtain ⟨SP, hSP⟩ : ∃ z, z = sp_X3_product_c0 F R := ⟨_, rfl⟩
  have hk0 := hSP
  unfold sp_X3_product_c0 at hk0
  refine g_aload_n cx 0 rfl e_X3_product_0 ?_
  refine g_iload_n cx 1 rfl e_X3_product_1 ?_
  refine g_cVvW cx [.int 0] [] (w_X3_factor_c0 l X ad F R hI hA) ml_X3_99 yV_X3_factor e_X3_product_2 (by unfold g_rr; decide) (by decide) 33 rfl rfl rfl (Nat.le_of_ble_eq_true rfl) (fun w2 h3 => ?_)
  obtain ⟨F5, R6, rfl, oF5, oR6, cF5, cR6, hx4⟩ := h3
  have hk7 := k_ls2 hk0 hx4
  have fF5 : g_fr md_X3_product_c0 F F5 := g_fr_c (g_fr_rf F) cF5 rfl
  have fR6 : g_fr mr_X3_product_c0 R R6 := g_fr_c (g_fr_rf R) cR6 rfl
  refine g_iconst cx 0 (by decide) e_X3_product_5 ?_
  refine g_istore_n cx [(2, .int 0), (0, .ref (ad 33)), (1, .int 0)] e_X3_product_6 (by decide) rfl ?_
  have J7 : ∀ (N : Nat) (F9 : Nat → Int32) (R10 : Nat → Nat → Int32) (y8 : Int32), (g_ok LK_wX F9) → (g_fr md_X3_product_c0 F F9) → (g_okR LA_wX R10) → (g_fr mr_X3_product_c0 R R10) → (jv 0 200 y8) → (SP = K_X3_product_c0_7 N F9 R10 y8) → (2147483647 - y8.toInt).toNat < N → G X E 4 0 0 (wX X ad F9 R10) [(0, .ref (ad 33)), (1, .int 0), (2, .int y8)] 7 [] := by
    intro N
    induction N with
    | zero => intro F9 R10 y8 oF9 fF9 oR10 fR10 py8 hkJ7 hm; exact absurd hm (Nat.not_lt_zero _)
    | succ N ih7 =>
      intro F9 R10 y8 oF9 fF9 oR10 fR10 py8 hkJ7 hm7
      have hkK7 : SP = KB_X3_product_c0_7 (K_X3_product_c0_7 N) F9 R10 y8 := hkJ7
      obtain ⟨b7, hb7⟩ : ∃ z, z = K_X3_product_c0_7 N := ⟨_, rfl⟩
      rw [← hb7] at hkK7
      unfold KB_X3_product_c0_7 at hkK7
      refine g_iload_n cx 2 rfl e_X3_product_7 ?_
      refine g_sipush cx 200 (by decide) e_X3_product_8 ?_
      have J103 : (SP = K_X3_product_c0_103 F9 R10) → G X E 4 0 0 (wX X ad F9 R10) [] 103 [] := by
        intro   hkJ103
        unfold K_X3_product_c0_103 at hkJ103
        exact hret e_X3_product_103 (Nat.le_of_ble_eq_true rfl) (Nat.le_of_ble_eq_true rfl) ⟨F9, R10, rfl, oF9, oR10, fF9, fR10, (hkJ103.symm.trans hSP)⟩
      refine g_icmp_ge cx 103 e_X3_product_11 (by decide) (fun zc11 => ?_) (fun zc11 => ?_)
      · have p12 := gn_ge 200 200 (gc_le zc11) py8 (jv_k (x := 200) 200 (by decide)) (by decide)
        have hk13 := hkK7.trans (if_pos zc11)
        refine g_lsub [] [] rfl ?_
        exact J103  hk13
      · have p14 := gn_lt 0 199 (gc_nle zc11) py8 (jv_k (x := 200) 200 (by decide)) (by decide)
        have hk15 := hkK7.trans (if_neg zc11)
        refine g_aload_n cx 0 rfl e_X3_product_14 ?_
        refine g_cViW cx [] [] (w_X3_sign l X ad F9 R10 oF9 oR10) ml_X3_42 yV_X3_sign e_X3_product_15 (by unfold g_rr; decide) (by decide) 33 rfl rfl rfl (Nat.le_of_ble_eq_true rfl) (fun r16 w17 h18 => ?_)
        obtain ⟨rfl, pr16, hx19⟩ := h18
        have hk20 := k_ls hk15 hx19
        refine g_bipush cx 42 (by decide) e_X3_product_18 ?_
        have J41 : (SP = K_X3_product_c0_41 b7 F9 R10 y8) → G X E 4 0 0 (wX X ad F9 R10) [(0, .ref (ad 33)), (1, .int 0), (2, .int y8)] 41 [] := by
          intro   hkJ41
          unfold K_X3_product_c0_41 at hkJ41
          refine g_aload_n cx 0 rfl e_X3_product_41 ?_
          refine g_cViW cx [] [] (w_X3_sign l X ad F9 R10 oF9 oR10) ml_X3_42 yV_X3_sign e_X3_product_42 (by unfold g_rr; decide) (by decide) 33 rfl rfl rfl (Nat.le_of_ble_eq_true rfl) (fun r21 w22 h23 => ?_)
          obtain ⟨rfl, pr21, hx24⟩ := h23
          have hk25 := k_ls hkJ41 hx24
          refine g_bipush cx 42 (by decide) e_X3_product_45 ?_
          have J71 : ∀ (y26 : Int32), (jv 8 10 y26) → (SP = K_X3_product_c0_71 b7 F9 R10 y8 y26) → G X E 4 0 0 (wX X ad F9 R10) [(0, .ref (ad 33)), (1, .int 0), (2, .int y8)] 71 [.int y26] := by
            intro y26 py26 hkJ71
            unfold K_X3_product_c0_71 at hkJ71
            refine g_istore_n cx [(3, .int y26), (0, .ref (ad 33)), (1, .int 0), (2, .int y8)] e_X3_product_71 (by decide) rfl ?_
            refine g_aload_n cx 1 rfl e_X3_product_72 ?_
            refine g_dup cx rfl e_X3_product_73 ?_
            refine g_get cx cl_X3 fl_X3_19 33 (.int (F9 531)) e_X3_product_74 rfl rfl ?_
            refine g_iconst cx 1 (by decide) e_X3_product_77 ?_
            refine g_iadd cx e_X3_product_78 ?_
            refine g_topi (fun x27 ex27 => ?_)
            have hk28 := k_ls hkJ71 ex27
            refine g_put cx cl_X3 fl_X3_19 33 (wX X ad (upd F9 531 x27) R10) e_X3_product_79 rfl rfl rfl rfl (Nat.le_of_ble_eq_true rfl) rfl ?_
            obtain ⟨F29, hF29⟩ : ∃ z, z = upd F9 531 x27 := ⟨_, rfl⟩
            rw [← hF29]
            have hk30 := k_ls hk28 hF29
            have oF29 : g_ok LK_wX F29 := by rw [hF29]; exact g_ok_u oF9 rfl
            have fF29 : g_fr md_X3_product_c0 F F29 := by rw [hF29]; exact g_fr_u fF9 rfl
            refine g_aload_n cx 1 rfl e_X3_product_82 ?_
            refine g_iload_n cx 2 rfl e_X3_product_83 ?_
            refine g_cVvW cx [.int 0] [] (w_X3_factor_c0 l X ad F29 R10 oF29 oR10) ml_X3_99 yV_X3_factor e_X3_product_84 (by unfold g_rr; decide) (by decide) 33 rfl rfl rfl (Nat.le_of_ble_eq_true rfl) (fun w32 h33 => ?_)
            obtain ⟨F35, R36, rfl, oF35, oR36, cF35, cR36, hx34⟩ := h33
            have hk37 := k_ls2 hk30 hx34
            have fF35 : g_fr md_X3_product_c0 F F35 := g_fr_c fF29 cF35 rfl
            have fR36 : g_fr mr_X3_product_c0 R R36 := g_fr_c fR10 cR36 rfl
            refine g_aload_n cx 1 rfl e_X3_product_87 ?_
            refine g_get cx cl_X3 fl_X3_25 33 (.ref (ad 25)) e_X3_product_88 rfl rfl ?_
            refine g_iload_n cx 0 rfl e_X3_product_91 ?_
            refine g_iconst cx 0 (by decide) e_X3_product_92 ?_
            refine g_cViW cx [.int y26, .int 0] [] (w_X2_emit_25 l X ad F35 R36 oF35 oR36 y26 0) ml_X3_66 yV_X2_emit e_X3_product_93 (by unfold g_rr; decide) (by decide) 25 rfl rfl rfl (Nat.le_of_ble_eq_true rfl) (fun r38 w39 h40 => ?_)
            obtain ⟨F42, R43, rfl, oF42, oR43, cF42, cR43, pr38, hx41⟩ := h40
            have hk44 := k_ls3 hk37 hx41
            have fF42 : g_fr md_X3_product_c0 F F42 := g_fr_c fF35 cF42 rfl
            have fR43 : g_fr mr_X3_product_c0 R R43 := g_fr_c fR36 cR43 rfl
            refine g_pop cx rfl e_X3_product_96 ?_
            obtain ⟨x45, ex45⟩ : ∃ z : Int32, z = y8 + Int32.ofInt 1 := ⟨_, rfl⟩
            have hk46 := k_ls hk44 (show x45 = y8 + 1 from ex45)
            refine g_iinc cx x45 [(2, .int x45), (3, .int y26), (0, .ref (ad 33)), (1, .int 0)] 3 e_X3_product_97 rfl ex45.symm (by decide) rfl ?_
            have zx45 := jv_add 1 200 (show x45 = y8 + 1 from ex45) p14 (jv_k (x := 1) 1 (by decide)) (by decide)
            refine g_goto cx 7 e_X3_product_100 (by decide) ?_
            refine g_lsub [2, 3, 0] [(0, .ref (ad 33)), (1, .int 0), (2, .int x45)] rfl ?_
            exact ih7 F42 R43 x45 oF42 fF42 oR43 fR43 (jv_w zx45.2 (by decide)) (hk46.trans (by rw [hb7])) (Nat.lt_of_lt_of_le (show (2147483647 - x45.toInt).toNat < (2147483647 - y8.toInt).toNat from by have q0 := (jv_k (x := 1) 1 (by decide)).1; have q1 := (jv_k (x := 1) 1 (by decide)).2; have q2 := (jv_k (x := 200) 200 (by decide)).1; have q3 := (jv_k (x := 200) 200 (by decide)).2; have q4 := zx45.2.1; have q5 := zx45.2.2; have q6 := p14.1; have q7 := p14.2; have q8 := (gc_nle zc11); have q9 := (g_eq0 zx45.1); omega) (Nat.le_of_lt_succ hm7))
          refine g_icmp_ne cx 55 e_X3_product_47 (by decide) (fun zc47 => ?_) (fun zc47 => ?_)
          · have hk48 := hk25.trans (if_neg zc47)
            refine g_aload_n cx 0 rfl e_X3_product_55 ?_
            refine g_cViW cx [] [] (w_X3_sign l X ad F9 R10 oF9 oR10) ml_X3_42 yV_X3_sign e_X3_product_56 (by unfold g_rr; decide) (by decide) 33 rfl rfl rfl (Nat.le_of_ble_eq_true rfl) (fun r49 w50 h51 => ?_)
            obtain ⟨rfl, pr49, hx52⟩ := h51
            have hk53 := k_ls hk48 hx52
            refine g_bipush cx 47 (by decide) e_X3_product_59 ?_
            refine g_icmp_ne cx 69 e_X3_product_61 (by decide) (fun zc54 => ?_) (fun zc54 => ?_)
            · have hk55 := hk53.trans (if_neg zc54)
              refine g_bipush cx 10 (by decide) e_X3_product_69 ?_
              exact J71 10 (jv_w (jv_k (x := 10) 10 (by decide)) (by decide)) hk55
            · have p56 := gn_eq 47 47 (gc_eq zc54) pr49 (jv_k (x := 47) 47 (by decide)) (by decide)
              have hk57 := hk53.trans (if_pos zc54)
              refine g_bipush cx 9 (by decide) e_X3_product_64 ?_
              refine g_goto cx 71 e_X3_product_66 (by decide) ?_
              exact J71 9 (jv_w (jv_k (x := 9) 9 (by decide)) (by decide)) hk57
          · have p58 := gn_eq 42 42 (gc_eq zc47) pr21 (jv_k (x := 42) 42 (by decide)) (by decide)
            have hk59 := hk25.trans (if_pos zc47)
            refine g_bipush cx 8 (by decide) e_X3_product_50 ?_
            refine g_goto cx 71 e_X3_product_52 (by decide) ?_
            exact J71 8 (jv_w (jv_k (x := 8) 8 (by decide)) (by decide)) hk59
        refine g_icmp_eq cx 41 e_X3_product_20 (by decide) (fun zc60 => ?_) (fun zc60 => ?_)
        · have p61 := gn_eq 42 42 (gc_eq zc60) pr16 (jv_k (x := 42) 42 (by decide)) (by decide)
          have hk62 := hk20.trans (if_pos zc60)
          exact J41  hk62
        · have hk63 := hk20.trans (if_neg zc60)
          refine g_aload_n cx 0 rfl e_X3_product_23 ?_
          refine g_cViW cx [] [] (w_X3_sign l X ad F9 R10 oF9 oR10) ml_X3_42 yV_X3_sign e_X3_product_24 (by unfold g_rr; decide) (by decide) 33 rfl rfl rfl (Nat.le_of_ble_eq_true rfl) (fun r64 w65 h66 => ?_)
          obtain ⟨rfl, pr64, hx67⟩ := h66
          have hk68 := k_ls hk63 hx67
          refine g_bipush cx 47 (by decide) e_X3_product_27 ?_
          refine g_icmp_eq cx 41 e_X3_product_29 (by decide) (fun zc69 => ?_) (fun zc69 => ?_)
          · have p70 := gn_eq 47 47 (gc_eq zc69) pr64 (jv_k (x := 47) 47 (by decide)) (by decide)
            have hk71 := hk68.trans (if_pos zc69)
            exact J41  hk71
          · have hk72 := hk68.trans (if_neg zc69)
            refine g_aload_n cx 0 rfl e_X3_product_32 ?_
            refine g_cViW cx [] [] (w_X3_sign l X ad F9 R10 oF9 oR10) ml_X3_42 yV_X3_sign e_X3_product_33 (by unfold g_rr; decide) (by decide) 33 rfl rfl rfl (Nat.le_of_ble_eq_true rfl) (fun r73 w74 h75 => ?_)
            obtain ⟨rfl, pr73, hx76⟩ := h75
            have hk77 := k_ls hk72 hx76
            refine g_bipush cx 37 (by decide) e_X3_product_36 ?_
            refine g_icmp_ne cx 103 e_X3_product_38 (by decide) (fun zc78 => ?_) (fun zc78 => ?_)
            · have hk79 := hk77.trans (if_neg zc78)
              refine g_lsub [] [] rfl ?_
              exact J103  hk79
            · have p80 := gn_eq 37 37 (gc_eq zc78) pr73 (jv_k (x := 37) 37 (by decide)) (by decide)
              have hk81 := hk77.trans (if_pos zc78)
              exact J41  hk81
  refine g_lsub [1, 2, 0] [(0, .ref (ad 33)), (1, .int 0), (2, .int 0)] rfl ?_
  exact J7 8589934592 F5 R6 0 oF5 fF5 oR6 fR6 (jv_w (jv_k (x := 0) 0 (by decide)) (by decide)) hk7 (show (2147483647 - (0 : Int32).toInt).toNat < 8589934592 from by have q0 := (jv_k (x := 0) 0 (by decide)).1; have q1 := (jv_k (x := 0) 0 (by decide)).2; omega)
def K_X3_sum_c0_80 (F9 : Nat → Int32) (R10 : Nat → Nat → Int32)  : (Nat → Int32) × (Nat → Nat → Int32) :=
  (F9, R10)
def K_X3_sum_c0_48 (b7 : (Nat → Int32) → (Nat → Nat → Int32) → (Int32) → (Nat → Int32) × (Nat → Nat → Int32)) (F9 : Nat → Int32) (R10 : Nat → Nat → Int32) (y8 : Int32) (y26 : Int32) : (Nat → Int32) × (Nat → Nat → Int32) :=
  k_lt ((F9 531) + 1) (fun x27 => k_lt (upd F9 531 x27) (fun F29 => k_lt2 (sp_X3_product_c0 F29 R10) (fun F35 R36 => k_lt3 (sp_X2_emit_25 F35 R36 y26 0) (fun r38 F42 R43 => k_lt (y8 + 1) (fun x45 => b7 F42 R43 x45)))))
def K_X3_sum_c0_32 (b7 : (Nat → Int32) → (Nat → Nat → Int32) → (Int32) → (Nat → Int32) × (Nat → Nat → Int32)) (F9 : Nat → Int32) (R10 : Nat → Nat → Int32) (y8 : Int32)  : (Nat → Int32) × (Nat → Nat → Int32) :=
  k_lt (sp_X3_sign F9 R10) (fun r21 => if r21 = 43 then K_X3_sum_c0_48 b7 F9 R10 y8 6 else K_X3_sum_c0_48 b7 F9 R10 y8 7)
def KB_X3_sum_c0_7 (b7 : (Nat → Int32) → (Nat → Nat → Int32) → (Int32) → (Nat → Int32) × (Nat → Nat → Int32))  (F9 : Nat → Int32) (R10 : Nat → Nat → Int32) (y8 : Int32) : (Nat → Int32) × (Nat → Nat → Int32) :=
  if 200 ≤ y8 then K_X3_sum_c0_80 F9 R10 else k_lt (sp_X3_sign F9 R10) (fun r16 => if r16 = 43 then K_X3_sum_c0_32 b7 F9 R10 y8 else k_lt (sp_X3_sign F9 R10) (fun r55 => if r55 = 45 then K_X3_sum_c0_32 b7 F9 R10 y8 else K_X3_sum_c0_80 F9 R10))
def K_X3_sum_c0_7  : Nat → (Nat → Int32) → (Nat → Nat → Int32) → (Int32) → (Nat → Int32) × (Nat → Nat → Int32)
  | 0 => fun F9 R10 _ => (F9, R10)
  | n + 1 => KB_X3_sum_c0_7 (K_X3_sum_c0_7 n)
def sp_X3_sum_c0 (F : Nat → Int32) (R : Nat → Nat → Int32) : (Nat → Int32) × (Nat → Nat → Int32) :=
  k_lt2 (sp_X3_product_c0 F R) (fun F5 R6 => K_X3_sum_c0_7 8589934592 F5 R6 0)
def md_X3_sum_c0 : List Nat := [402, 531, 532]
def mr_X3_sum_c0 : List Nat := [26, 27]
set_option maxHeartbeats 4000000 in
set_option maxRecDepth 100000 in
theorem w_X3_sum_c0 (l : Launch) (X : gX) (ad : Nat → Nat) (F : Nat → Int32) (R : Nat → Nat → Int32) (hI : g_ok LK_wX F) (hA : g_okR LA_wX R) : g_Cv l X yX3_sum cX3_sum 4 25 0 0 [.ref (ad 33), .int 0] (wX X ad F R) (fun w => ∃ (F' : Nat → Int32) (R' : Nat → Nat → Int32), w = wX X ad F' R' ∧ g_ok LK_wX F' ∧ g_okR LA_wX R' ∧ g_fr md_X3_sum_c0 F F' ∧ g_fr mr_X3_sum_c0 R R' ∧ (F', R') = sp_X3_sum_c0 F R) := by
  refine g_mv (by decide +kernel) (Nat.le_of_ble_eq_true rfl) (fun E cx hret => ?_)
  obtain ⟨SP, hSP⟩ : ∃ z, z = sp_X3_sum_c0 F R := ⟨_, rfl⟩
  have hk0 := hSP
  unfold sp_X3_sum_c0 at hk0
  refine g_aload_n cx 0 rfl e_X3_sum_0 ?_
  refine g_iload_n cx 1 rfl e_X3_sum_1 ?_
  refine g_cVvW cx [.int 0] [] (w_X3_product_c0 l X ad F R hI hA) ml_X3_96 yV_X3_product e_X3_sum_2 (by unfold g_rr; decide) (by decide) 33 rfl rfl rfl (Nat.le_of_ble_eq_true rfl) (fun w2 h3 => ?_)
  obtain ⟨F5, R6, rfl, oF5, oR6, cF5, cR6, hx4⟩ := h3
  have hk7 := k_ls2 hk0 hx4
  have fF5 : g_fr md_X3_sum_c0 F F5 := g_fr_c (g_fr_rf F) cF5 rfl
  have fR6 : g_fr mr_X3_sum_c0 R R6 := g_fr_c (g_fr_rf R) cR6 rfl
  refine g_iconst cx 0 (by decide) e_X3_sum_5 ?_
  refine g_istore_n cx [(2, .int 0), (0, .ref (ad 33)), (1, .int 0)] e_X3_sum_6 (by decide) rfl ?_
  have J7 : ∀ (N : Nat) (F9 : Nat → Int32) (R10 : Nat → Nat → Int32) (y8 : Int32), (g_ok LK_wX F9) → (g_fr md_X3_sum_c0 F F9) → (g_okR LA_wX R10) → (g_fr mr_X3_sum_c0 R R10) → (jv 0 200 y8) → (SP = K_X3_sum_c0_7 N F9 R10 y8) → (2147483647 - y8.toInt).toNat < N → G X E 4 0 0 (wX X ad F9 R10) [(0, .ref (ad 33)), (1, .int 0), (2, .int y8)] 7 [] := by
    intro N
    induction N with
    | zero => intro F9 R10 y8 oF9 fF9 oR10 fR10 py8 hkJ7 hm; exact absurd hm (Nat.not_lt_zero _)
    | succ N ih7 =>
      intro F9 R10 y8 oF9 fF9 oR10 fR10 py8 hkJ7 hm7
      have hkK7 : SP = KB_X3_sum_c0_7 (K_X3_sum_c0_7 N) F9 R10 y8 := hkJ7
      obtain ⟨b7, hb7⟩ : ∃ z, z = K_X3_sum_c0_7 N := ⟨_, rfl⟩
      rw [← hb7] at hkK7
      unfold KB_X3_sum_c0_7 at hkK7
      refine g_iload_n cx 2 rfl e_X3_sum_7 ?_
      refine g_sipush cx 200 (by decide) e_X3_sum_8 ?_
      have J80 : (SP = K_X3_sum_c0_80 F9 R10) → G X E 4 0 0 (wX X ad F9 R10) [] 80 [] := by
        intro   hkJ80
        unfold K_X3_sum_c0_80 at hkJ80
        exact hret e_X3_sum_80 (Nat.le_of_ble_eq_true rfl) (Nat.le_of_ble_eq_true rfl) ⟨F9, R10, rfl, oF9, oR10, fF9, fR10, (hkJ80.symm.trans hSP)⟩
      refine g_icmp_ge cx 80 e_X3_sum_11 (by decide) (fun zc11 => ?_) (fun zc11 => ?_)
      · have p12 := gn_ge 200 200 (gc_le zc11) py8 (jv_k (x := 200) 200 (by decide)) (by decide)
        have hk13 := hkK7.trans (if_pos zc11)
        refine g_lsub [] [] rfl ?_
        exact J80  hk13
      · have p14 := gn_lt 0 199 (gc_nle zc11) py8 (jv_k (x := 200) 200 (by decide)) (by decide)
        have hk15 := hkK7.trans (if_neg zc11)
        refine g_aload_n cx 0 rfl e_X3_sum_14 ?_
        refine g_cViW cx [] [] (w_X3_sign l X ad F9 R10 oF9 oR10) ml_X3_42 yV_X3_sign e_X3_sum_15 (by unfold g_rr; decide) (by decide) 33 rfl rfl rfl (Nat.le_of_ble_eq_true rfl) (fun r16 w17 h18 => ?_)
        obtain ⟨rfl, pr16, hx19⟩ := h18
        have hk20 := k_ls hk15 hx19
        refine g_bipush cx 43 (by decide) e_X3_sum_18 ?_
        have J32 : (SP = K_X3_sum_c0_32 b7 F9 R10 y8) → G X E 4 0 0 (wX X ad F9 R10) [(0, .ref (ad 33)), (1, .int 0), (2, .int y8)] 32 [] := by
          intro   hkJ32
          unfold K_X3_sum_c0_32 at hkJ32
          refine g_aload_n cx 0 rfl e_X3_sum_32 ?_
          refine g_cViW cx [] [] (w_X3_sign l X ad F9 R10 oF9 oR10) ml_X3_42 yV_X3_sign e_X3_sum_33 (by unfold g_rr; decide) (by decide) 33 rfl rfl rfl (Nat.le_of_ble_eq_true rfl) (fun r21 w22 h23 => ?_)
          obtain ⟨rfl, pr21, hx24⟩ := h23
          have hk25 := k_ls hkJ32 hx24
          refine g_bipush cx 43 (by decide) e_X3_sum_36 ?_
          have J48 : ∀ (y26 : Int32), (jv 6 7 y26) → (SP = K_X3_sum_c0_48 b7 F9 R10 y8 y26) → G X E 4 0 0 (wX X ad F9 R10) [(0, .ref (ad 33)), (1, .int 0), (2, .int y8)] 48 [.int y26] := by
            intro y26 py26 hkJ48
            unfold K_X3_sum_c0_48 at hkJ48
            refine g_istore_n cx [(3, .int y26), (0, .ref (ad 33)), (1, .int 0), (2, .int y8)] e_X3_sum_48 (by decide) rfl ?_
            refine g_aload_n cx 1 rfl e_X3_sum_49 ?_
            refine g_dup cx rfl e_X3_sum_50 ?_
            refine g_get cx cl_X3 fl_X3_19 33 (.int (F9 531)) e_X3_sum_51 rfl rfl ?_
            refine g_iconst cx 1 (by decide) e_X3_sum_54 ?_
            refine g_iadd cx e_X3_sum_55 ?_
            refine g_topi (fun x27 ex27 => ?_)
            have hk28 := k_ls hkJ48 ex27
            refine g_put cx cl_X3 fl_X3_19 33 (wX X ad (upd F9 531 x27) R10) e_X3_sum_56 rfl rfl rfl rfl (Nat.le_of_ble_eq_true rfl) rfl ?_
            obtain ⟨F29, hF29⟩ : ∃ z, z = upd F9 531 x27 := ⟨_, rfl⟩
            rw [← hF29]
            have hk30 := k_ls hk28 hF29
            have oF29 : g_ok LK_wX F29 := by rw [hF29]; exact g_ok_u oF9 rfl
            have fF29 : g_fr md_X3_sum_c0 F F29 := by rw [hF29]; exact g_fr_u fF9 rfl
            refine g_aload_n cx 1 rfl e_X3_sum_59 ?_
            refine g_iload_n cx 2 rfl e_X3_sum_60 ?_
            refine g_cVvW cx [.int 0] [] (w_X3_product_c0 l X ad F29 R10 oF29 oR10) ml_X3_96 yV_X3_product e_X3_sum_61 (by unfold g_rr; decide) (by decide) 33 rfl rfl rfl (Nat.le_of_ble_eq_true rfl) (fun w32 h33 => ?_)
            obtain ⟨F35, R36, rfl, oF35, oR36, cF35, cR36, hx34⟩ := h33
            have hk37 := k_ls2 hk30 hx34
            have fF35 : g_fr md_X3_sum_c0 F F35 := g_fr_c fF29 cF35 rfl
            have fR36 : g_fr mr_X3_sum_c0 R R36 := g_fr_c fR10 cR36 rfl
            refine g_aload_n cx 1 rfl e_X3_sum_64 ?_
            refine g_get cx cl_X3 fl_X3_25 33 (.ref (ad 25)) e_X3_sum_65 rfl rfl ?_
            refine g_iload_n cx 0 rfl e_X3_sum_68 ?_
            refine g_iconst cx 0 (by decide) e_X3_sum_69 ?_
            refine g_cViW cx [.int y26, .int 0] [] (w_X2_emit_25 l X ad F35 R36 oF35 oR36 y26 0) ml_X3_66 yV_X2_emit e_X3_sum_70 (by unfold g_rr; decide) (by decide) 25 rfl rfl rfl (Nat.le_of_ble_eq_true rfl) (fun r38 w39 h40 => ?_)
            obtain ⟨F42, R43, rfl, oF42, oR43, cF42, cR43, pr38, hx41⟩ := h40
            have hk44 := k_ls3 hk37 hx41
            have fF42 : g_fr md_X3_sum_c0 F F42 := g_fr_c fF35 cF42 rfl
            have fR43 : g_fr mr_X3_sum_c0 R R43 := g_fr_c fR36 cR43 rfl
            refine g_pop cx rfl e_X3_sum_73 ?_
            obtain ⟨x45, ex45⟩ : ∃ z : Int32, z = y8 + Int32.ofInt 1 := ⟨_, rfl⟩
            have hk46 := k_ls hk44 (show x45 = y8 + 1 from ex45)
            refine g_iinc cx x45 [(2, .int x45), (3, .int y26), (0, .ref (ad 33)), (1, .int 0)] 3 e_X3_sum_74 rfl ex45.symm (by decide) rfl ?_
            have zx45 := jv_add 1 200 (show x45 = y8 + 1 from ex45) p14 (jv_k (x := 1) 1 (by decide)) (by decide)
            refine g_goto cx 7 e_X3_sum_77 (by decide) ?_
            refine g_lsub [2, 3, 0] [(0, .ref (ad 33)), (1, .int 0), (2, .int x45)] rfl ?_
            exact ih7 F42 R43 x45 oF42 fF42 oR43 fR43 (jv_w zx45.2 (by decide)) (hk46.trans (by rw [hb7])) (Nat.lt_of_lt_of_le (show (2147483647 - x45.toInt).toNat < (2147483647 - y8.toInt).toNat from by have q0 := (jv_k (x := 1) 1 (by decide)).1; have q1 := (jv_k (x := 1) 1 (by decide)).2; have q2 := (jv_k (x := 200) 200 (by decide)).1; have q3 := (jv_k (x := 200) 200 (by decide)).2; have q4 := zx45.2.1; have q5 := zx45.2.2; have q6 := p14.1; have q7 := p14.2; have q8 := (gc_nle zc11); have q9 := (g_eq0 zx45.1); omega) (Nat.le_of_lt_succ hm7))
          refine g_icmp_ne cx 46 e_X3_sum_38 (by decide) (fun zc47 => ?_) (fun zc47 => ?_)
          · have hk48 := hk25.trans (if_neg zc47)
            refine g_bipush cx 7 (by decide) e_X3_sum_46 ?_
            exact J48 7 (jv_w (jv_k (x := 7) 7 (by decide)) (by decide)) hk48
          · have p49 := gn_eq 43 43 (gc_eq zc47) pr21 (jv_k (x := 43) 43 (by decide)) (by decide)
            have hk50 := hk25.trans (if_pos zc47)
            refine g_bipush cx 6 (by decide) e_X3_sum_41 ?_
            refine g_goto cx 48 e_X3_sum_43 (by decide) ?_
            exact J48 6 (jv_w (jv_k (x := 6) 6 (by decide)) (by decide)) hk50
        refine g_icmp_eq cx 32 e_X3_sum_20 (by decide) (fun zc51 => ?_) (fun zc51 => ?_)
        · have p52 := gn_eq 43 43 (gc_eq zc51) pr16 (jv_k (x := 43) 43 (by decide)) (by decide)
          have hk53 := hk20.trans (if_pos zc51)
          exact J32  hk53
        · have hk54 := hk20.trans (if_neg zc51)
          refine g_aload_n cx 0 rfl e_X3_sum_23 ?_
          refine g_cViW cx [] [] (w_X3_sign l X ad F9 R10 oF9 oR10) ml_X3_42 yV_X3_sign e_X3_sum_24 (by unfold g_rr; decide) (by decide) 33 rfl rfl rfl (Nat.le_of_ble_eq_true rfl) (fun r55 w56 h57 => ?_)
          obtain ⟨rfl, pr55, hx58⟩ := h57
          have hk59 := k_ls hk54 hx58
          refine g_bipush cx 45 (by decide) e_X3_sum_27 ?_
          refine g_icmp_ne cx 80 e_X3_sum_29 (by decide) (fun zc60 => ?_) (fun zc60 => ?_)
          · have hk61 := hk59.trans (if_neg zc60)
            refine g_lsub [] [] rfl ?_
            exact J80  hk61
          · have p62 := gn_eq 45 45 (gc_eq zc60) pr55 (jv_k (x := 45) 45 (by decide)) (by decide)
            have hk63 := hk59.trans (if_pos zc60)
            exact J32  hk63
  refine g_lsub [1, 2, 0] [(0, .ref (ad 33)), (1, .int 0), (2, .int 0)] rfl ?_
  exact J7 8589934592 F5 R6 0 oF5 fF5 oR6 fR6 (jv_w (jv_k (x := 0) 0 (by decide)) (by decide)) hk7 (show (2147483647 - (0 : Int32).toInt).toNat < 8589934592 from by have q0 := (jv_k (x := 0) 0 (by decide)).1; have q1 := (jv_k (x := 0) 0 (by decide)).2; omega)
def K_X3_comparison_c1_49 (F5 : Nat → Int32) (R6 : Nat → Nat → Int32) (y13 : Int32) : (Nat → Int32) × (Nat → Nat → Int32) :=
  if y13 = (-1) then k_lt2 (sp_X3_fail F5 R6 1) (fun F41 R42 => (F41, R42)) else k_lt ((F5 531) + 1) (fun x17 => k_lt (upd F5 531 x17) (fun F19 => k_lt2 (sp_X3_sum_c1 F19 R6) (fun F25 R26 => k_lt3 (sp_X2_emit_25 F25 R26 y13 0) (fun r28 F32 R33 => (F32, R33)))))
def sp_X3_comparison_c1 (F : Nat → Int32) (R : Nat → Nat → Int32) : (Nat → Int32) × (Nat → Nat → Int32) :=
  k_lt2 (sp_X3_sum_c1 F R) (fun F5 R6 => k_lt (sp_X3_sign F5 R6) (fun r8 => if r8 = 60 then K_X3_comparison_c1_49 F5 R6 11 else k_lt (sp_X3_sign F5 R6) (fun r46 => if r46 = 62 then K_X3_comparison_c1_49 F5 R6 12 else k_lt (sp_X3_sign F5 R6) (fun r53 => if r53 = 61 then K_X3_comparison_c1_49 F5 R6 13 else K_X3_comparison_c1_49 F5 R6 (-1)))))
theorem e_X3_comparison_0 : g_dc cX3_comparison 0 (.aload_n 0) 1 1 := ⟨by decide +kernel, rfl⟩
theorem e_X3_comparison_1 : g_dc cX3_comparison 1 (.iload_n 1) 1 2 := ⟨by decide +kernel, rfl⟩
theorem e_X3_comparison_2 : g_dc cX3_comparison 2 (.invokevirtual 63) 3 5 := ⟨by decide +kernel, rfl⟩
theorem e_X3_comparison_5 : g_dc cX3_comparison 5 (.iconst (-1)) 1 6 := ⟨by decide +kernel, rfl⟩
theorem e_X3_comparison_6 : g_dc cX3_comparison 6 (.istore_n 2) 1 7 := ⟨by decide +kernel, rfl⟩
theorem e_X3_comparison_7 : g_dc cX3_comparison 7 (.aload_n 0) 1 8 := ⟨by decide +kernel, rfl⟩
theorem e_X3_comparison_8 : g_dc cX3_comparison 8 (.invokevirtual 42) 3 11 := ⟨by decide +kernel, rfl⟩
theorem e_X3_comparison_11 : g_dc cX3_comparison 11 (.bipush 60) 2 13 := ⟨by decide +kernel, rfl⟩
theorem e_X3_comparison_13 : g_dc cX3_comparison 13 (.if_icmp .ne 9) 3 16 := ⟨by decide +kernel, rfl⟩
theorem e_X3_comparison_16 : g_dc cX3_comparison 16 (.bipush 11) 2 18 := ⟨by decide +kernel, rfl⟩
theorem e_X3_comparison_18 : g_dc cX3_comparison 18 (.istore_n 2) 1 19 := ⟨by decide +kernel, rfl⟩
theorem e_X3_comparison_19 : g_dc cX3_comparison 19 (.goto 30) 3 22 := ⟨by decide +kernel, rfl⟩
theorem e_X3_comparison_22 : g_dc cX3_comparison 22 (.aload_n 0) 1 23 := ⟨by decide +kernel, rfl⟩
theorem e_X3_comparison_23 : g_dc cX3_comparison 23 (.invokevirtual 42) 3 26 := ⟨by decide +kernel, rfl⟩
theorem e_X3_comparison_26 : g_dc cX3_comparison 26 (.bipush 62) 2 28 := ⟨by decide +kernel, rfl⟩
theorem e_X3_comparison_28 : g_dc cX3_comparison 28 (.if_icmp .ne 9) 3 31 := ⟨by decide +kernel, rfl⟩
theorem e_X3_comparison_31 : g_dc cX3_comparison 31 (.bipush 12) 2 33 := ⟨by decide +kernel, rfl⟩
theorem e_X3_comparison_33 : g_dc cX3_comparison 33 (.istore_n 2) 1 34 := ⟨by decide +kernel, rfl⟩
theorem e_X3_comparison_34 : g_dc cX3_comparison 34 (.goto 15) 3 37 := ⟨by decide +kernel, rfl⟩
theorem e_X3_comparison_37 : g_dc cX3_comparison 37 (.aload_n 0) 1 38 := ⟨by decide +kernel, rfl⟩
theorem e_X3_comparison_38 : g_dc cX3_comparison 38 (.invokevirtual 42) 3 41 := ⟨by decide +kernel, rfl⟩
theorem e_X3_comparison_41 : g_dc cX3_comparison 41 (.bipush 61) 2 43 := ⟨by decide +kernel, rfl⟩
theorem e_X3_comparison_43 : g_dc cX3_comparison 43 (.if_icmp .ne 6) 3 46 := ⟨by decide +kernel, rfl⟩
theorem e_X3_comparison_46 : g_dc cX3_comparison 46 (.bipush 13) 2 48 := ⟨by decide +kernel, rfl⟩
theorem e_X3_comparison_48 : g_dc cX3_comparison 48 (.istore_n 2) 1 49 := ⟨by decide +kernel, rfl⟩
theorem e_X3_comparison_49 : g_dc cX3_comparison 49 (.iload_n 2) 1 50 := ⟨by decide +kernel, rfl⟩
theorem e_X3_comparison_50 : g_dc cX3_comparison 50 (.iconst (-1)) 1 51 := ⟨by decide +kernel, rfl⟩
theorem e_X3_comparison_51 : g_dc cX3_comparison 51 (.if_icmp .ne 9) 3 54 := ⟨by decide +kernel, rfl⟩
theorem e_X3_comparison_54 : g_dc cX3_comparison 54 (.aload_n 0) 1 55 := ⟨by decide +kernel, rfl⟩
theorem e_X3_comparison_55 : g_dc cX3_comparison 55 (.iconst 1) 1 56 := ⟨by decide +kernel, rfl⟩
theorem e_X3_comparison_56 : g_dc cX3_comparison 56 (.invokevirtual 46) 3 59 := ⟨by decide +kernel, rfl⟩
theorem e_X3_comparison_59 : g_dc cX3_comparison 59 (.return_) 1 60 := ⟨by decide +kernel, rfl⟩
theorem e_X3_comparison_60 : g_dc cX3_comparison 60 (.aload_n 0) 1 61 := ⟨by decide +kernel, rfl⟩
theorem e_X3_comparison_61 : g_dc cX3_comparison 61 (.dup) 1 62 := ⟨by decide +kernel, rfl⟩
theorem e_X3_comparison_62 : g_dc cX3_comparison 62 (.getfield 19) 3 65 := ⟨by decide +kernel, rfl⟩
theorem e_X3_comparison_65 : g_dc cX3_comparison 65 (.iconst 1) 1 66 := ⟨by decide +kernel, rfl⟩
theorem e_X3_comparison_66 : g_dc cX3_comparison 66 (.iadd) 1 67 := ⟨by decide +kernel, rfl⟩
theorem e_X3_comparison_67 : g_dc cX3_comparison 67 (.putfield 19) 3 70 := ⟨by decide +kernel, rfl⟩
theorem e_X3_comparison_70 : g_dc cX3_comparison 70 (.aload_n 0) 1 71 := ⟨by decide +kernel, rfl⟩
theorem e_X3_comparison_71 : g_dc cX3_comparison 71 (.iload_n 1) 1 72 := ⟨by decide +kernel, rfl⟩
theorem e_X3_comparison_72 : g_dc cX3_comparison 72 (.invokevirtual 63) 3 75 := ⟨by decide +kernel, rfl⟩
theorem e_X3_comparison_75 : g_dc cX3_comparison 75 (.aload_n 0) 1 76 := ⟨by decide +kernel, rfl⟩
theorem e_X3_comparison_76 : g_dc cX3_comparison 76 (.getfield 25) 3 79 := ⟨by decide +kernel, rfl⟩
theorem e_X3_comparison_79 : g_dc cX3_comparison 79 (.iload_n 2) 1 80 := ⟨by decide +kernel, rfl⟩
theorem e_X3_comparison_80 : g_dc cX3_comparison 80 (.iconst 0) 1 81 := ⟨by decide +kernel, rfl⟩
theorem e_X3_comparison_81 : g_dc cX3_comparison 81 (.invokevirtual 66) 3 84 := ⟨by decide +kernel, rfl⟩
theorem e_X3_comparison_84 : g_dc cX3_comparison 84 (.pop) 1 85 := ⟨by decide +kernel, rfl⟩
theorem e_X3_comparison_85 : g_dc cX3_comparison 85 (.return_) 1 86 := ⟨by decide +kernel, rfl⟩
def md_X3_comparison_c1 : List Nat := [402, 531, 532]
def mr_X3_comparison_c1 : List Nat := [26, 27]
set_option maxHeartbeats 4000000 in
set_option maxRecDepth 100000 in
theorem w_X3_comparison_c1 (l : Launch) (X : gX) (ad : Nat → Nat) (F : Nat → Int32) (R : Nat → Nat → Int32) (hI : g_ok LK_wX F) (hA : g_okR LA_wX R) : g_Cv l X yX3_comparison cX3_comparison 3 23 0 0 [.ref (ad 33), .int 1] (wX X ad F R) (fun w => ∃ (F' : Nat → Int32) (R' : Nat → Nat → Int32), w = wX X ad F' R' ∧ g_ok LK_wX F' ∧ g_okR LA_wX R' ∧ g_fr md_X3_comparison_c1 F F' ∧ g_fr mr_X3_comparison_c1 R R' ∧ (F', R') = sp_X3_comparison_c1 F R) := by
  refine g_mv (by decide +kernel) (Nat.le_of_ble_eq_true rfl) (fun E cx hret => ?_)
  obtain ⟨SP, hSP⟩ : ∃ z, z = sp_X3_comparison_c1 F R := ⟨_, rfl⟩
  have hk0 := hSP
  unfold sp_X3_comparison_c1 at hk0
  refine g_aload_n cx 0 rfl e_X3_comparison_0 ?_
  refine g_iload_n cx 1 rfl e_X3_comparison_1 ?_
  refine g_cVvW cx [.int 1] [] (w_X3_sum_c1 l X ad F R hI hA) ml_X3_63 yV_X3_sum e_X3_comparison_2 (by unfold g_rr; decide) (by decide) 33 rfl rfl rfl (Nat.le_of_ble_eq_true rfl) (fun w2 h3 => ?_)
  obtain ⟨F5, R6, rfl, oF5, oR6, cF5, cR6, hx4⟩ := h3
  have hk7 := k_ls2 hk0 hx4
  have fF5 : g_fr md_X3_comparison_c1 F F5 := g_fr_c (g_fr_rf F) cF5 rfl
  have fR6 : g_fr mr_X3_comparison_c1 R R6 := g_fr_c (g_fr_rf R) cR6 rfl
  refine g_iconst cx (-1) (by decide) e_X3_comparison_5 ?_
  refine g_istore_n cx [(2, .int (-1)), (0, .ref (ad 33)), (1, .int 1)] e_X3_comparison_6 (by decide) rfl ?_
  refine g_aload_n cx 1 rfl e_X3_comparison_7 ?_
  refine g_cViW cx [] [] (w_X3_sign l X ad F5 R6 oF5 oR6) ml_X3_42 yV_X3_sign e_X3_comparison_8 (by unfold g_rr; decide) (by decide) 33 rfl rfl rfl (Nat.le_of_ble_eq_true rfl) (fun r8 w9 h10 => ?_)
  obtain ⟨rfl, pr8, hx11⟩ := h10
  have hk12 := k_ls hk7 hx11
  refine g_bipush cx 60 (by decide) e_X3_comparison_11 ?_
  have J49 : ∀ (y13 : Int32), (jv (-1) 13 y13) → (SP = K_X3_comparison_c1_49 F5 R6 y13) → G X E 3 0 0 (wX X ad F5 R6) [(0, .ref (ad 33)), (1, .int 1), (2, .int y13)] 49 [] := by
    intro y13 py13 hkJ49
    unfold K_X3_comparison_c1_49 at hkJ49
    refine g_iload_n cx 2 rfl e_X3_comparison_49 ?_
    refine g_iconst cx (-1) (by decide) e_X3_comparison_50 ?_
    refine g_icmp_ne cx 60 e_X3_comparison_51 (by decide) (fun zc14 => ?_) (fun zc14 => ?_)
    · have p15 := gn_neL 0 13 (gc_ne zc14) py13 (jv_k (x := (-1)) (-1) (by decide)) (by decide)
      have hk16 := hkJ49.trans (if_neg zc14)
      refine g_aload_n cx 0 rfl e_X3_comparison_60 ?_
      refine g_dup cx rfl e_X3_comparison_61 ?_
      refine g_get cx cl_X3 fl_X3_19 33 (.int (F5 531)) e_X3_comparison_62 rfl rfl ?_
      refine g_iconst cx 1 (by decide) e_X3_comparison_65 ?_
      refine g_iadd cx e_X3_comparison_66 ?_
      refine g_topi (fun x17 ex17 => ?_)
      have hk18 := k_ls hk16 ex17
      refine g_put cx cl_X3 fl_X3_19 33 (wX X ad (upd F5 531 x17) R6) e_X3_comparison_67 rfl rfl rfl rfl (Nat.le_of_ble_eq_true rfl) rfl ?_
      obtain ⟨F19, hF19⟩ : ∃ z, z = upd F5 531 x17 := ⟨_, rfl⟩
      rw [← hF19]
      have hk20 := k_ls hk18 hF19
      have oF19 : g_ok LK_wX F19 := by rw [hF19]; exact g_ok_u oF5 rfl
      have fF19 : g_fr md_X3_comparison_c1 F F19 := by rw [hF19]; exact g_fr_u fF5 rfl
      refine g_aload_n cx 0 rfl e_X3_comparison_70 ?_
      refine g_iload_n cx 1 rfl e_X3_comparison_71 ?_
      refine g_cVvW cx [.int 1] [] (w_X3_sum_c1 l X ad F19 R6 oF19 oR6) ml_X3_63 yV_X3_sum e_X3_comparison_72 (by unfold g_rr; decide) (by decide) 33 rfl rfl rfl (Nat.le_of_ble_eq_true rfl) (fun w22 h23 => ?_)
      obtain ⟨F25, R26, rfl, oF25, oR26, cF25, cR26, hx24⟩ := h23
      have hk27 := k_ls2 hk20 hx24
      have fF25 : g_fr md_X3_comparison_c1 F F25 := g_fr_c fF19 cF25 rfl
      have fR26 : g_fr mr_X3_comparison_c1 R R26 := g_fr_c fR6 cR26 rfl
      refine g_aload_n cx 0 rfl e_X3_comparison_75 ?_
      refine g_get cx cl_X3 fl_X3_25 33 (.ref (ad 25)) e_X3_comparison_76 rfl rfl ?_
      refine g_iload_n cx 2 rfl e_X3_comparison_79 ?_
      refine g_iconst cx 0 (by decide) e_X3_comparison_80 ?_
      refine g_cViW cx [.int y13, .int 0] [] (w_X2_emit_25 l X ad F25 R26 oF25 oR26 y13 0) ml_X3_66 yV_X2_emit e_X3_comparison_81 (by unfold g_rr; decide) (by decide) 25 rfl rfl rfl (Nat.le_of_ble_eq_true rfl) (fun r28 w29 h30 => ?_)
      obtain ⟨F32, R33, rfl, oF32, oR33, cF32, cR33, pr28, hx31⟩ := h30
      have hk34 := k_ls3 hk27 hx31
      have fF32 : g_fr md_X3_comparison_c1 F F32 := g_fr_c fF25 cF32 rfl
      have fR33 : g_fr mr_X3_comparison_c1 R R33 := g_fr_c fR26 cR33 rfl
      refine g_pop cx rfl e_X3_comparison_84 ?_
      exact hret e_X3_comparison_85 (Nat.le_of_ble_eq_true rfl) (Nat.le_of_ble_eq_true rfl) ⟨F32, R33, rfl, oF32, oR33, fF32, fR33, (hk34.symm.trans hSP)⟩
    · have p35 := gn_eq (-1) (-1) (gc_eq zc14) py13 (jv_k (x := (-1)) (-1) (by decide)) (by decide)
      have hk36 := hkJ49.trans (if_pos zc14)
      refine g_aload_n cx 0 rfl e_X3_comparison_54 ?_
      refine g_iconst cx 1 (by decide) e_X3_comparison_55 ?_
      refine g_cVvW cx [.int 1] [] (w_X3_fail l X ad F5 R6 oF5 oR6 1) ml_X3_46 yV_X3_fail e_X3_comparison_56 (by unfold g_rr; decide) (by decide) 33 rfl rfl rfl (Nat.le_of_ble_eq_true rfl) (fun w38 h39 => ?_)
      obtain ⟨F41, R42, rfl, oF41, oR42, cF41, cR42, hx40⟩ := h39
      have hk43 := k_ls2 hk36 hx40
      have fF41 : g_fr md_X3_comparison_c1 F F41 := g_fr_c fF5 cF41 rfl
      have fR42 : g_fr mr_X3_comparison_c1 R R42 := g_fr_c fR6 cR42 rfl
      exact hret e_X3_comparison_59 (Nat.le_of_ble_eq_true rfl) (Nat.le_of_ble_eq_true rfl) ⟨F41, R42, rfl, oF41, oR42, fF41, fR42, (hk43.symm.trans hSP)⟩
  refine g_icmp_ne cx 22 e_X3_comparison_13 (by decide) (fun zc44 => ?_) (fun zc44 => ?_)
  · have hk45 := hk12.trans (if_neg zc44)
    refine g_aload_n cx 1 rfl e_X3_comparison_22 ?_
    refine g_cViW cx [] [] (w_X3_sign l X ad F5 R6 oF5 oR6) ml_X3_42 yV_X3_sign e_X3_comparison_23 (by unfold g_rr; decide) (by decide) 33 rfl rfl rfl (Nat.le_of_ble_eq_true rfl) (fun r46 w47 h48 => ?_)
    obtain ⟨rfl, pr46, hx49⟩ := h48
    have hk50 := k_ls hk45 hx49
    refine g_bipush cx 62 (by decide) e_X3_comparison_26 ?_
    refine g_icmp_ne cx 37 e_X3_comparison_28 (by decide) (fun zc51 => ?_) (fun zc51 => ?_)
    · have hk52 := hk50.trans (if_neg zc51)
      refine g_aload_n cx 1 rfl e_X3_comparison_37 ?_
      refine g_cViW cx [] [] (w_X3_sign l X ad F5 R6 oF5 oR6) ml_X3_42 yV_X3_sign e_X3_comparison_38 (by unfold g_rr; decide) (by decide) 33 rfl rfl rfl (Nat.le_of_ble_eq_true rfl) (fun r53 w54 h55 => ?_)
      obtain ⟨rfl, pr53, hx56⟩ := h55
      have hk57 := k_ls hk52 hx56
      refine g_bipush cx 61 (by decide) e_X3_comparison_41 ?_
      refine g_icmp_ne cx 49 e_X3_comparison_43 (by decide) (fun zc58 => ?_) (fun zc58 => ?_)
      · have hk59 := hk57.trans (if_neg zc58)
        refine g_lsub [1, 2, 0] [(0, .ref (ad 33)), (1, .int 1), (2, .int (-1))] rfl ?_
        exact J49 (-1) (jv_w (jv_k (x := (-1)) (-1) (by decide)) (by decide)) hk59
      · have p60 := gn_eq 61 61 (gc_eq zc58) pr53 (jv_k (x := 61) 61 (by decide)) (by decide)
        have hk61 := hk57.trans (if_pos zc58)
        refine g_bipush cx 13 (by decide) e_X3_comparison_46 ?_
        refine g_istore_n cx [(2, .int 13), (0, .ref (ad 33)), (1, .int 1)] e_X3_comparison_48 (by decide) rfl ?_
        refine g_lsub [1, 2, 0] [(0, .ref (ad 33)), (1, .int 1), (2, .int 13)] rfl ?_
        exact J49 13 (jv_w (jv_k (x := 13) 13 (by decide)) (by decide)) hk61
    · have p62 := gn_eq 62 62 (gc_eq zc51) pr46 (jv_k (x := 62) 62 (by decide)) (by decide)
      have hk63 := hk50.trans (if_pos zc51)
      refine g_bipush cx 12 (by decide) e_X3_comparison_31 ?_
      refine g_istore_n cx [(2, .int 12), (0, .ref (ad 33)), (1, .int 1)] e_X3_comparison_33 (by decide) rfl ?_
      refine g_goto cx 49 e_X3_comparison_34 (by decide) ?_
      refine g_lsub [1, 2, 0] [(0, .ref (ad 33)), (1, .int 1), (2, .int 12)] rfl ?_
      exact J49 12 (jv_w (jv_k (x := 12) 12 (by decide)) (by decide)) hk63
  · have p64 := gn_eq 60 60 (gc_eq zc44) pr8 (jv_k (x := 60) 60 (by decide)) (by decide)
    have hk65 := hk12.trans (if_pos zc44)
    refine g_bipush cx 11 (by decide) e_X3_comparison_16 ?_
    refine g_istore_n cx [(2, .int 11), (0, .ref (ad 33)), (1, .int 1)] e_X3_comparison_18 (by decide) rfl ?_
    refine g_goto cx 49 e_X3_comparison_19 (by decide) ?_
    refine g_lsub [1, 2, 0] [(0, .ref (ad 33)), (1, .int 1), (2, .int 11)] rfl ?_
    exact J49 11 (jv_w (jv_k (x := 11) 11 (by decide)) (by decide)) hk65
def K_X3_comparison_c2_49 (F5 : Nat → Int32) (R6 : Nat → Nat → Int32) (y13 : Int32) : (Nat → Int32) × (Nat → Nat → Int32) :=
  if y13 = (-1) then k_lt2 (sp_X3_fail F5 R6 1) (fun F41 R42 => (F41, R42)) else k_lt ((F5 531) + 1) (fun x17 => k_lt (upd F5 531 x17) (fun F19 => k_lt2 (sp_X3_sum_c2 F19 R6) (fun F25 R26 => k_lt3 (sp_X2_emit_25 F25 R26 y13 0) (fun r28 F32 R33 => (F32, R33)))))
def sp_X3_comparison_c2 (F : Nat → Int32) (R : Nat → Nat → Int32) : (Nat → Int32) × (Nat → Nat → Int32) :=
  k_lt2 (sp_X3_sum_c2 F R) (fun F5 R6 => k_lt (sp_X3_sign F5 R6) (fun r8 => if r8 = 60 then K_X3_comparison_c2_49 F5 R6 11 else k_lt (sp_X3_sign F5 R6) (fun r46 => if r46 = 62 then K_X3_comparison_c2_49 F5 R6 12 else k_lt (sp_X3_sign F5 R6) (fun r53 => if r53 = 61 then K_X3_comparison_c2_49 F5 R6 13 else K_X3_comparison_c2_49 F5 R6 (-1)))))
def md_X3_comparison_c2 : List Nat := [402, 531, 532]
def mr_X3_comparison_c2 : List Nat := [26, 27]
set_option maxHeartbeats 4000000 in
set_option maxRecDepth 100000 in
theorem w_X3_comparison_c2 (l : Launch) (X : gX) (ad : Nat → Nat) (F : Nat → Int32) (R : Nat → Nat → Int32) (hI : g_ok LK_wX F) (hA : g_okR LA_wX R) : g_Cv l X yX3_comparison cX3_comparison 3 20 0 0 [.ref (ad 33), .int 2] (wX X ad F R) (fun w => ∃ (F' : Nat → Int32) (R' : Nat → Nat → Int32), w = wX X ad F' R' ∧ g_ok LK_wX F' ∧ g_okR LA_wX R' ∧ g_fr md_X3_comparison_c2 F F' ∧ g_fr mr_X3_comparison_c2 R R' ∧ (F', R') = sp_X3_comparison_c2 F R) := by
  refine g_mv (by decide +kernel) (Nat.le_of_ble_eq_true rfl) (fun E cx hret => ?_)
  obtain ⟨SP, hSP⟩ : ∃ z, z = sp_X3_comparison_c2 F R := ⟨_, rfl⟩
  have hk0 := hSP
  unfold sp_X3_comparison_c2 at hk0
  refine g_aload_n cx 0 rfl e_X3_comparison_0 ?_
  refine g_iload_n cx 1 rfl e_X3_comparison_1 ?_
  refine g_cVvW cx [.int 2] [] (w_X3_sum_c2 l X ad F R hI hA) ml_X3_63 yV_X3_sum e_X3_comparison_2 (by unfold g_rr; decide) (by decide) 33 rfl rfl rfl (Nat.le_of_ble_eq_true rfl) (fun w2 h3 => ?_)
  obtain ⟨F5, R6, rfl, oF5, oR6, cF5, cR6, hx4⟩ := h3
  have hk7 := k_ls2 hk0 hx4
  have fF5 : g_fr md_X3_comparison_c2 F F5 := g_fr_c (g_fr_rf F) cF5 rfl
  have fR6 : g_fr mr_X3_comparison_c2 R R6 := g_fr_c (g_fr_rf R) cR6 rfl
  refine g_iconst cx (-1) (by decide) e_X3_comparison_5 ?_
  refine g_istore_n cx [(2, .int (-1)), (0, .ref (ad 33)), (1, .int 2)] e_X3_comparison_6 (by decide) rfl ?_
  refine g_aload_n cx 1 rfl e_X3_comparison_7 ?_
  refine g_cViW cx [] [] (w_X3_sign l X ad F5 R6 oF5 oR6) ml_X3_42 yV_X3_sign e_X3_comparison_8 (by unfold g_rr; decide) (by decide) 33 rfl rfl rfl (Nat.le_of_ble_eq_true rfl) (fun r8 w9 h10 => ?_)
  obtain ⟨rfl, pr8, hx11⟩ := h10
  have hk12 := k_ls hk7 hx11
  refine g_bipush cx 60 (by decide) e_X3_comparison_11 ?_
  have J49 : ∀ (y13 : Int32), (jv (-1) 13 y13) → (SP = K_X3_comparison_c2_49 F5 R6 y13) → G X E 3 0 0 (wX X ad F5 R6) [(0, .ref (ad 33)), (1, .int 2), (2, .int y13)] 49 [] := by
    intro y13 py13 hkJ49
    unfold K_X3_comparison_c2_49 at hkJ49
    refine g_iload_n cx 2 rfl e_X3_comparison_49 ?_
    refine g_iconst cx (-1) (by decide) e_X3_comparison_50 ?_
    refine g_icmp_ne cx 60 e_X3_comparison_51 (by decide) (fun zc14 => ?_) (fun zc14 => ?_)
    · have p15 := gn_neL 0 13 (gc_ne zc14) py13 (jv_k (x := (-1)) (-1) (by decide)) (by decide)
      have hk16 := hkJ49.trans (if_neg zc14)
      refine g_aload_n cx 0 rfl e_X3_comparison_60 ?_
      refine g_dup cx rfl e_X3_comparison_61 ?_
      refine g_get cx cl_X3 fl_X3_19 33 (.int (F5 531)) e_X3_comparison_62 rfl rfl ?_
      refine g_iconst cx 1 (by decide) e_X3_comparison_65 ?_
      refine g_iadd cx e_X3_comparison_66 ?_
      refine g_topi (fun x17 ex17 => ?_)
      have hk18 := k_ls hk16 ex17
      refine g_put cx cl_X3 fl_X3_19 33 (wX X ad (upd F5 531 x17) R6) e_X3_comparison_67 rfl rfl rfl rfl (Nat.le_of_ble_eq_true rfl) rfl ?_
      obtain ⟨F19, hF19⟩ : ∃ z, z = upd F5 531 x17 := ⟨_, rfl⟩
      rw [← hF19]
      have hk20 := k_ls hk18 hF19
      have oF19 : g_ok LK_wX F19 := by rw [hF19]; exact g_ok_u oF5 rfl
      have fF19 : g_fr md_X3_comparison_c2 F F19 := by rw [hF19]; exact g_fr_u fF5 rfl
      refine g_aload_n cx 0 rfl e_X3_comparison_70 ?_
      refine g_iload_n cx 1 rfl e_X3_comparison_71 ?_
      refine g_cVvW cx [.int 2] [] (w_X3_sum_c2 l X ad F19 R6 oF19 oR6) ml_X3_63 yV_X3_sum e_X3_comparison_72 (by unfold g_rr; decide) (by decide) 33 rfl rfl rfl (Nat.le_of_ble_eq_true rfl) (fun w22 h23 => ?_)
      obtain ⟨F25, R26, rfl, oF25, oR26, cF25, cR26, hx24⟩ := h23
      have hk27 := k_ls2 hk20 hx24
      have fF25 : g_fr md_X3_comparison_c2 F F25 := g_fr_c fF19 cF25 rfl
      have fR26 : g_fr mr_X3_comparison_c2 R R26 := g_fr_c fR6 cR26 rfl
      refine g_aload_n cx 0 rfl e_X3_comparison_75 ?_
      refine g_get cx cl_X3 fl_X3_25 33 (.ref (ad 25)) e_X3_comparison_76 rfl rfl ?_
      refine g_iload_n cx 2 rfl e_X3_comparison_79 ?_
      refine g_iconst cx 0 (by decide) e_X3_comparison_80 ?_
      refine g_cViW cx [.int y13, .int 0] [] (w_X2_emit_25 l X ad F25 R26 oF25 oR26 y13 0) ml_X3_66 yV_X2_emit e_X3_comparison_81 (by unfold g_rr; decide) (by decide) 25 rfl rfl rfl (Nat.le_of_ble_eq_true rfl) (fun r28 w29 h30 => ?_)
      obtain ⟨F32, R33, rfl, oF32, oR33, cF32, cR33, pr28, hx31⟩ := h30
      have hk34 := k_ls3 hk27 hx31
      have fF32 : g_fr md_X3_comparison_c2 F F32 := g_fr_c fF25 cF32 rfl
      have fR33 : g_fr mr_X3_comparison_c2 R R33 := g_fr_c fR26 cR33 rfl
      refine g_pop cx rfl e_X3_comparison_84 ?_
      exact hret e_X3_comparison_85 (Nat.le_of_ble_eq_true rfl) (Nat.le_of_ble_eq_true rfl) ⟨F32, R33, rfl, oF32, oR33, fF32, fR33, (hk34.symm.trans hSP)⟩
    · have p35 := gn_eq (-1) (-1) (gc_eq zc14) py13 (jv_k (x := (-1)) (-1) (by decide)) (by decide)
      have hk36 := hkJ49.trans (if_pos zc14)
      refine g_aload_n cx 0 rfl e_X3_comparison_54 ?_
      refine g_iconst cx 1 (by decide) e_X3_comparison_55 ?_
      refine g_cVvW cx [.int 1] [] (w_X3_fail l X ad F5 R6 oF5 oR6 1) ml_X3_46 yV_X3_fail e_X3_comparison_56 (by unfold g_rr; decide) (by decide) 33 rfl rfl rfl (Nat.le_of_ble_eq_true rfl) (fun w38 h39 => ?_)
      obtain ⟨F41, R42, rfl, oF41, oR42, cF41, cR42, hx40⟩ := h39
      have hk43 := k_ls2 hk36 hx40
      have fF41 : g_fr md_X3_comparison_c2 F F41 := g_fr_c fF5 cF41 rfl
      have fR42 : g_fr mr_X3_comparison_c2 R R42 := g_fr_c fR6 cR42 rfl
      exact hret e_X3_comparison_59 (Nat.le_of_ble_eq_true rfl) (Nat.le_of_ble_eq_true rfl) ⟨F41, R42, rfl, oF41, oR42, fF41, fR42, (hk43.symm.trans hSP)⟩
  refine g_icmp_ne cx 22 e_X3_comparison_13 (by decide) (fun zc44 => ?_) (fun zc44 => ?_)
  · have hk45 := hk12.trans (if_neg zc44)
    refine g_aload_n cx 1 rfl e_X3_comparison_22 ?_
    refine g_cViW cx [] [] (w_X3_sign l X ad F5 R6 oF5 oR6) ml_X3_42 yV_X3_sign e_X3_comparison_23 (by unfold g_rr; decide) (by decide) 33 rfl rfl rfl (Nat.le_of_ble_eq_true rfl) (fun r46 w47 h48 => ?_)
    obtain ⟨rfl, pr46, hx49⟩ := h48
    have hk50 := k_ls hk45 hx49
    refine g_bipush cx 62 (by decide) e_X3_comparison_26 ?_
    refine g_icmp_ne cx 37 e_X3_comparison_28 (by decide) (fun zc51 => ?_) (fun zc51 => ?_)
    · have hk52 := hk50.trans (if_neg zc51)
      refine g_aload_n cx 1 rfl e_X3_comparison_37 ?_
      refine g_cViW cx [] [] (w_X3_sign l X ad F5 R6 oF5 oR6) ml_X3_42 yV_X3_sign e_X3_comparison_38 (by unfold g_rr; decide) (by decide) 33 rfl rfl rfl (Nat.le_of_ble_eq_true rfl) (fun r53 w54 h55 => ?_)
      obtain ⟨rfl, pr53, hx56⟩ := h55
      have hk57 := k_ls hk52 hx56
      refine g_bipush cx 61 (by decide) e_X3_comparison_41 ?_
      refine g_icmp_ne cx 49 e_X3_comparison_43 (by decide) (fun zc58 => ?_) (fun zc58 => ?_)
      · have hk59 := hk57.trans (if_neg zc58)
        refine g_lsub [1, 2, 0] [(0, .ref (ad 33)), (1, .int 2), (2, .int (-1))] rfl ?_
        exact J49 (-1) (jv_w (jv_k (x := (-1)) (-1) (by decide)) (by decide)) hk59
      · have p60 := gn_eq 61 61 (gc_eq zc58) pr53 (jv_k (x := 61) 61 (by decide)) (by decide)
        have hk61 := hk57.trans (if_pos zc58)
        refine g_bipush cx 13 (by decide) e_X3_comparison_46 ?_
        refine g_istore_n cx [(2, .int 13), (0, .ref (ad 33)), (1, .int 2)] e_X3_comparison_48 (by decide) rfl ?_
        refine g_lsub [1, 2, 0] [(0, .ref (ad 33)), (1, .int 2), (2, .int 13)] rfl ?_
        exact J49 13 (jv_w (jv_k (x := 13) 13 (by decide)) (by decide)) hk61
    · have p62 := gn_eq 62 62 (gc_eq zc51) pr46 (jv_k (x := 62) 62 (by decide)) (by decide)
      have hk63 := hk50.trans (if_pos zc51)
      refine g_bipush cx 12 (by decide) e_X3_comparison_31 ?_
      refine g_istore_n cx [(2, .int 12), (0, .ref (ad 33)), (1, .int 2)] e_X3_comparison_33 (by decide) rfl ?_
      refine g_goto cx 49 e_X3_comparison_34 (by decide) ?_
      refine g_lsub [1, 2, 0] [(0, .ref (ad 33)), (1, .int 2), (2, .int 12)] rfl ?_
      exact J49 12 (jv_w (jv_k (x := 12) 12 (by decide)) (by decide)) hk63
  · have p64 := gn_eq 60 60 (gc_eq zc44) pr8 (jv_k (x := 60) 60 (by decide)) (by decide)
    have hk65 := hk12.trans (if_pos zc44)
    refine g_bipush cx 11 (by decide) e_X3_comparison_16 ?_
    refine g_istore_n cx [(2, .int 11), (0, .ref (ad 33)), (1, .int 2)] e_X3_comparison_18 (by decide) rfl ?_
    refine g_goto cx 49 e_X3_comparison_19 (by decide) ?_
    refine g_lsub [1, 2, 0] [(0, .ref (ad 33)), (1, .int 2), (2, .int 11)] rfl ?_
    exact J49 11 (jv_w (jv_k (x := 11) 11 (by decide)) (by decide)) hk65
def K_X3_comparison_c3_49 (F5 : Nat → Int32) (R6 : Nat → Nat → Int32) (y13 : Int32) : (Nat → Int32) × (Nat → Nat → Int32) :=
  if y13 = (-1) then k_lt2 (sp_X3_fail F5 R6 1) (fun F41 R42 => (F41, R42)) else k_lt ((F5 531) + 1) (fun x17 => k_lt (upd F5 531 x17) (fun F19 => k_lt2 (sp_X3_sum_c3 F19 R6) (fun F25 R26 => k_lt3 (sp_X2_emit_25 F25 R26 y13 0) (fun r28 F32 R33 => (F32, R33)))))
def sp_X3_comparison_c3 (F : Nat → Int32) (R : Nat → Nat → Int32) : (Nat → Int32) × (Nat → Nat → Int32) :=
  k_lt2 (sp_X3_sum_c3 F R) (fun F5 R6 => k_lt (sp_X3_sign F5 R6) (fun r8 => if r8 = 60 then K_X3_comparison_c3_49 F5 R6 11 else k_lt (sp_X3_sign F5 R6) (fun r46 => if r46 = 62 then K_X3_comparison_c3_49 F5 R6 12 else k_lt (sp_X3_sign F5 R6) (fun r53 => if r53 = 61 then K_X3_comparison_c3_49 F5 R6 13 else K_X3_comparison_c3_49 F5 R6 (-1)))))
def md_X3_comparison_c3 : List Nat := [402, 531, 532]
def mr_X3_comparison_c3 : List Nat := [26, 27]
set_option maxHeartbeats 4000000 in
set_option maxRecDepth 100000 in
theorem w_X3_comparison_c3 (l : Launch) (X : gX) (ad : Nat → Nat) (F : Nat → Int32) (R : Nat → Nat → Int32) (hI : g_ok LK_wX F) (hA : g_okR LA_wX R) : g_Cv l X yX3_comparison cX3_comparison 3 17 0 0 [.ref (ad 33), .int 3] (wX X ad F R) (fun w => ∃ (F' : Nat → Int32) (R' : Nat → Nat → Int32), w = wX X ad F' R' ∧ g_ok LK_wX F' ∧ g_okR LA_wX R' ∧ g_fr md_X3_comparison_c3 F F' ∧ g_fr mr_X3_comparison_c3 R R' ∧ (F', R') = sp_X3_comparison_c3 F R) := by
  refine g_mv (by decide +kernel) (Nat.le_of_ble_eq_true rfl) (fun E cx hret => ?_)
  obtain ⟨SP, hSP⟩ : ∃ z, z = sp_X3_comparison_c3 F R := ⟨_, rfl⟩
  have hk0 := hSP
  unfold sp_X3_comparison_c3 at hk0
  refine g_aload_n cx 0 rfl e_X3_comparison_0 ?_
  refine g_iload_n cx 1 rfl e_X3_comparison_1 ?_
  refine g_cVvW cx [.int 3] [] (w_X3_sum_c3 l X ad F R hI hA) ml_X3_63 yV_X3_sum e_X3_comparison_2 (by unfold g_rr; decide) (by decide) 33 rfl rfl rfl (Nat.le_of_ble_eq_true rfl) (fun w2 h3 => ?_)
  obtain ⟨F5, R6, rfl, oF5, oR6, cF5, cR6, hx4⟩ := h3
  have hk7 := k_ls2 hk0 hx4
  have fF5 : g_fr md_X3_comparison_c3 F F5 := g_fr_c (g_fr_rf F) cF5 rfl
  have fR6 : g_fr mr_X3_comparison_c3 R R6 := g_fr_c (g_fr_rf R) cR6 rfl
  refine g_iconst cx (-1) (by decide) e_X3_comparison_5 ?_
  refine g_istore_n cx [(2, .int (-1)), (0, .ref (ad 33)), (1, .int 3)] e_X3_comparison_6 (by decide) rfl ?_
  refine g_aload_n cx 1 rfl e_X3_comparison_7 ?_
  refine g_cViW cx [] [] (w_X3_sign l X ad F5 R6 oF5 oR6) ml_X3_42 yV_X3_sign e_X3_comparison_8 (by unfold g_rr; decide) (by decide) 33 rfl rfl rfl (Nat.le_of_ble_eq_true rfl) (fun r8 w9 h10 => ?_)
  obtain ⟨rfl, pr8, hx11⟩ := h10
  have hk12 := k_ls hk7 hx11
  refine g_bipush cx 60 (by decide) e_X3_comparison_11 ?_
  have J49 : ∀ (y13 : Int32), (jv (-1) 13 y13) → (SP = K_X3_comparison_c3_49 F5 R6 y13) → G X E 3 0 0 (wX X ad F5 R6) [(0, .ref (ad 33)), (1, .int 3), (2, .int y13)] 49 [] := by
    intro y13 py13 hkJ49
    unfold K_X3_comparison_c3_49 at hkJ49
    refine g_iload_n cx 2 rfl e_X3_comparison_49 ?_
    refine g_iconst cx (-1) (by decide) e_X3_comparison_50 ?_
    refine g_icmp_ne cx 60 e_X3_comparison_51 (by decide) (fun zc14 => ?_) (fun zc14 => ?_)
    · have p15 := gn_neL 0 13 (gc_ne zc14) py13 (jv_k (x := (-1)) (-1) (by decide)) (by decide)
      have hk16 := hkJ49.trans (if_neg zc14)
      refine g_aload_n cx 0 rfl e_X3_comparison_60 ?_
      refine g_dup cx rfl e_X3_comparison_61 ?_
      refine g_get cx cl_X3 fl_X3_19 33 (.int (F5 531)) e_X3_comparison_62 rfl rfl ?_
      refine g_iconst cx 1 (by decide) e_X3_comparison_65 ?_
      refine g_iadd cx e_X3_comparison_66 ?_
      refine g_topi (fun x17 ex17 => ?_)
      have hk18 := k_ls hk16 ex17
      refine g_put cx cl_X3 fl_X3_19 33 (wX X ad (upd F5 531 x17) R6) e_X3_comparison_67 rfl rfl rfl rfl (Nat.le_of_ble_eq_true rfl) rfl ?_
      obtain ⟨F19, hF19⟩ : ∃ z, z = upd F5 531 x17 := ⟨_, rfl⟩
      rw [← hF19]
      have hk20 := k_ls hk18 hF19
      have oF19 : g_ok LK_wX F19 := by rw [hF19]; exact g_ok_u oF5 rfl
      have fF19 : g_fr md_X3_comparison_c3 F F19 := by rw [hF19]; exact g_fr_u fF5 rfl
      refine g_aload_n cx 0 rfl e_X3_comparison_70 ?_
      refine g_iload_n cx 1 rfl e_X3_comparison_71 ?_
      refine g_cVvW cx [.int 3] [] (w_X3_sum_c3 l X ad F19 R6 oF19 oR6) ml_X3_63 yV_X3_sum e_X3_comparison_72 (by unfold g_rr; decide) (by decide) 33 rfl rfl rfl (Nat.le_of_ble_eq_true rfl) (fun w22 h23 => ?_)
      obtain ⟨F25, R26, rfl, oF25, oR26, cF25, cR26, hx24⟩ := h23
      have hk27 := k_ls2 hk20 hx24
      have fF25 : g_fr md_X3_comparison_c3 F F25 := g_fr_c fF19 cF25 rfl
      have fR26 : g_fr mr_X3_comparison_c3 R R26 := g_fr_c fR6 cR26 rfl
      refine g_aload_n cx 0 rfl e_X3_comparison_75 ?_
      refine g_get cx cl_X3 fl_X3_25 33 (.ref (ad 25)) e_X3_comparison_76 rfl rfl ?_
      refine g_iload_n cx 2 rfl e_X3_comparison_79 ?_
      refine g_iconst cx 0 (by decide) e_X3_comparison_80 ?_
      refine g_cViW cx [.int y13, .int 0] [] (w_X2_emit_25 l X ad F25 R26 oF25 oR26 y13 0) ml_X3_66 yV_X2_emit e_X3_comparison_81 (by unfold g_rr; decide) (by decide) 25 rfl rfl rfl (Nat.le_of_ble_eq_true rfl) (fun r28 w29 h30 => ?_)
      obtain ⟨F32, R33, rfl, oF32, oR33, cF32, cR33, pr28, hx31⟩ := h30
      have hk34 := k_ls3 hk27 hx31
      have fF32 : g_fr md_X3_comparison_c3 F F32 := g_fr_c fF25 cF32 rfl
      have fR33 : g_fr mr_X3_comparison_c3 R R33 := g_fr_c fR26 cR33 rfl
      refine g_pop cx rfl e_X3_comparison_84 ?_
      exact hret e_X3_comparison_85 (Nat.le_of_ble_eq_true rfl) (Nat.le_of_ble_eq_true rfl) ⟨F32, R33, rfl, oF32, oR33, fF32, fR33, (hk34.symm.trans hSP)⟩
    · have p35 := gn_eq (-1) (-1) (gc_eq zc14) py13 (jv_k (x := (-1)) (-1) (by decide)) (by decide)
      have hk36 := hkJ49.trans (if_pos zc14)
      refine g_aload_n cx 0 rfl e_X3_comparison_54 ?_
      refine g_iconst cx 1 (by decide) e_X3_comparison_55 ?_
      refine g_cVvW cx [.int 1] [] (w_X3_fail l X ad F5 R6 oF5 oR6 1) ml_X3_46 yV_X3_fail e_X3_comparison_56 (by unfold g_rr; decide) (by decide) 33 rfl rfl rfl (Nat.le_of_ble_eq_true rfl) (fun w38 h39 => ?_)
      obtain ⟨F41, R42, rfl, oF41, oR42, cF41, cR42, hx40⟩ := h39
      have hk43 := k_ls2 hk36 hx40
      have fF41 : g_fr md_X3_comparison_c3 F F41 := g_fr_c fF5 cF41 rfl
      have fR42 : g_fr mr_X3_comparison_c3 R R42 := g_fr_c fR6 cR42 rfl
      exact hret e_X3_comparison_59 (Nat.le_of_ble_eq_true rfl) (Nat.le_of_ble_eq_true rfl) ⟨F41, R42, rfl, oF41, oR42, fF41, fR42, (hk43.symm.trans hSP)⟩
  refine g_icmp_ne cx 22 e_X3_comparison_13 (by decide) (fun zc44 => ?_) (fun zc44 => ?_)
  · have hk45 := hk12.trans (if_neg zc44)
    refine g_aload_n cx 1 rfl e_X3_comparison_22 ?_
    refine g_cViW cx [] [] (w_X3_sign l X ad F5 R6 oF5 oR6) ml_X3_42 yV_X3_sign e_X3_comparison_23 (by unfold g_rr; decide) (by decide) 33 rfl rfl rfl (Nat.le_of_ble_eq_true rfl) (fun r46 w47 h48 => ?_)
    obtain ⟨rfl, pr46, hx49⟩ := h48
    have hk50 := k_ls hk45 hx49
    refine g_bipush cx 62 (by decide) e_X3_comparison_26 ?_
    refine g_icmp_ne cx 37 e_X3_comparison_28 (by decide) (fun zc51 => ?_) (fun zc51 => ?_)
    · have hk52 := hk50.trans (if_neg zc51)
      refine g_aload_n cx 1 rfl e_X3_comparison_37 ?_
      refine g_cViW cx [] [] (w_X3_sign l X ad F5 R6 oF5 oR6) ml_X3_42 yV_X3_sign e_X3_comparison_38 (by unfold g_rr; decide) (by decide) 33 rfl rfl rfl (Nat.le_of_ble_eq_true rfl) (fun r53 w54 h55 => ?_)
      obtain ⟨rfl, pr53, hx56⟩ := h55
      have hk57 := k_ls hk52 hx56
      refine g_bipush cx 61 (by decide) e_X3_comparison_41 ?_
      refine g_icmp_ne cx 49 e_X3_comparison_43 (by decide) (fun zc58 => ?_) (fun zc58 => ?_)
      · have hk59 := hk57.trans (if_neg zc58)
        refine g_lsub [1, 2, 0] [(0, .ref (ad 33)), (1, .int 3), (2, .int (-1))] rfl ?_
        exact J49 (-1) (jv_w (jv_k (x := (-1)) (-1) (by decide)) (by decide)) hk59
      · have p60 := gn_eq 61 61 (gc_eq zc58) pr53 (jv_k (x := 61) 61 (by decide)) (by decide)
        have hk61 := hk57.trans (if_pos zc58)
        refine g_bipush cx 13 (by decide) e_X3_comparison_46 ?_
        refine g_istore_n cx [(2, .int 13), (0, .ref (ad 33)), (1, .int 3)] e_X3_comparison_48 (by decide) rfl ?_
        refine g_lsub [1, 2, 0] [(0, .ref (ad 33)), (1, .int 3), (2, .int 13)] rfl ?_
        exact J49 13 (jv_w (jv_k (x := 13) 13 (by decide)) (by decide)) hk61
    · have p62 := gn_eq 62 62 (gc_eq zc51) pr46 (jv_k (x := 62) 62 (by decide)) (by decide)
      have hk63 := hk50.trans (if_pos zc51)
      refine g_bipush cx 12 (by decide) e_X3_comparison_31 ?_
      refine g_istore_n cx [(2, .int 12), (0, .ref (ad 33)), (1, .int 3)] e_X3_comparison_33 (by decide) rfl ?_
      refine g_goto cx 49 e_X3_comparison_34 (by decide) ?_
      refine g_lsub [1, 2, 0] [(0, .ref (ad 33)), (1, .int 3), (2, .int 12)] rfl ?_
      exact J49 12 (jv_w (jv_k (x := 12) 12 (by decide)) (by decide)) hk63
  · have p64 := gn_eq 60 60 (gc_eq zc44) pr8 (jv_k (x := 60) 60 (by decide)) (by decide)
    have hk65 := hk12.trans (if_pos zc44)
    refine g_bipush cx 11 (by decide) e_X3_comparison_16 ?_
    refine g_istore_n cx [(2, .int 11), (0, .ref (ad 33)), (1, .int 3)] e_X3_comparison_18 (by decide) rfl ?_
    refine g_goto cx 49 e_X3_comparison_19 (by decide) ?_
    refine g_lsub [1, 2, 0] [(0, .ref (ad 33)), (1, .int 3), (2, .int 11)] rfl ?_
    exact J49 11 (jv_w (jv_k (x := 11) 11 (by decide)) (by decide)) hk65
def K_X3_comparison_c4_49 (F5 : Nat → Int32) (R6 : Nat → Nat → Int32) (y13 : Int32) : (Nat → Int32) × (Nat → Nat → Int32) :=
  if y13 = (-1) then k_lt2 (sp_X3_fail F5 R6 1) (fun F41 R42 => (F41, R42)) else k_lt ((F5 531) + 1) (fun x17 => k_lt (upd F5 531 x17) (fun F19 => k_lt2 (sp_X3_sum_c4 F19 R6) (fun F25 R26 => k_lt3 (sp_X2_emit_25 F25 R26 y13 0) (fun r28 F32 R33 => (F32, R33)))))
def sp_X3_comparison_c4 (F : Nat → Int32) (R : Nat → Nat → Int32) : (Nat → Int32) × (Nat → Nat → Int32) :=
  k_lt2 (sp_X3_sum_c4 F R) (fun F5 R6 => k_lt (sp_X3_sign F5 R6) (fun r8 => if r8 = 60 then K_X3_comparison_c4_49 F5 R6 11 else k_lt (sp_X3_sign F5 R6) (fun r46 => if r46 = 62 then K_X3_comparison_c4_49 F5 R6 12 else k_lt (sp_X3_sign F5 R6) (fun r53 => if r53 = 61 then K_X3_comparison_c4_49 F5 R6 13 else K_X3_comparison_c4_49 F5 R6 (-1)))))
def md_X3_comparison_c4 : List Nat := [402, 531, 532]
def mr_X3_comparison_c4 : List Nat := [26, 27]
set_option maxHeartbeats 4000000 in
set_option maxRecDepth 100000 in
theorem w_X3_comparison_c4 (l : Launch) (X : gX) (ad : Nat → Nat) (F : Nat → Int32) (R : Nat → Nat → Int32) (hI : g_ok LK_wX F) (hA : g_okR LA_wX R) : g_Cv l X yX3_comparison cX3_comparison 3 14 0 0 [.ref (ad 33), .int 4] (wX X ad F R) (fun w => ∃ (F' : Nat → Int32) (R' : Nat → Nat → Int32), w = wX X ad F' R' ∧ g_ok LK_wX F' ∧ g_okR LA_wX R' ∧ g_fr md_X3_comparison_c4 F F' ∧ g_fr mr_X3_comparison_c4 R R' ∧ (F', R') = sp_X3_comparison_c4 F R) := by
  refine g_mv (by decide +kernel) (Nat.le_of_ble_eq_true rfl) (fun E cx hret => ?_)
  obtain ⟨SP, hSP⟩ : ∃ z, z = sp_X3_comparison_c4 F R := ⟨_, rfl⟩
  have hk0 := hSP
  unfold sp_X3_comparison_c4 at hk0
  refine g_aload_n cx 0 rfl e_X3_comparison_0 ?_
  refine g_iload_n cx 1 rfl e_X3_comparison_1 ?_
  refine g_cVvW cx [.int 4] [] (w_X3_sum_c4 l X ad F R hI hA) ml_X3_63 yV_X3_sum e_X3_comparison_2 (by unfold g_rr; decide) (by decide) 33 rfl rfl rfl (Nat.le_of_ble_eq_true rfl) (fun w2 h3 => ?_)
  obtain ⟨F5, R6, rfl, oF5, oR6, cF5, cR6, hx4⟩ := h3
  have hk7 := k_ls2 hk0 hx4
  have fF5 : g_fr md_X3_comparison_c4 F F5 := g_fr_c (g_fr_rf F) cF5 rfl
  have fR6 : g_fr mr_X3_comparison_c4 R R6 := g_fr_c (g_fr_rf R) cR6 rfl
  refine g_iconst cx (-1) (by decide) e_X3_comparison_5 ?_
  refine g_istore_n cx [(2, .int (-1)), (0, .ref (ad 33)), (1, .int 4)] e_X3_comparison_6 (by decide) rfl ?_
  refine g_aload_n cx 1 rfl e_X3_comparison_7 ?_
  refine g_cViW cx [] [] (w_X3_sign l X ad F5 R6 oF5 oR6) ml_X3_42 yV_X3_sign e_X3_comparison_8 (by unfold g_rr; decide) (by decide) 33 rfl rfl rfl (Nat.le_of_ble_eq_true rfl) (fun r8 w9 h10 => ?_)
  obtain ⟨rfl, pr8, hx11⟩ := h10
  have hk12 := k_ls hk7 hx11
  refine g_bipush cx 60 (by decide) e_X3_comparison_11 ?_
  have J49 : ∀ (y13 : Int32), (jv (-1) 13 y13) → (SP = K_X3_comparison_c4_49 F5 R6 y13) → G X E 3 0 0 (wX X ad F5 R6) [(0, .ref (ad 33)), (1, .int 4), (2, .int y13)] 49 [] := by
    intro y13 py13 hkJ49
    unfold K_X3_comparison_c4_49 at hkJ49
    refine g_iload_n cx 2 rfl e_X3_comparison_49 ?_
    refine g_iconst cx (-1) (by decide) e_X3_comparison_50 ?_
    refine g_icmp_ne cx 60 e_X3_comparison_51 (by decide) (fun zc14 => ?_) (fun zc14 => ?_)
    · have p15 := gn_neL 0 13 (gc_ne zc14) py13 (jv_k (x := (-1)) (-1) (by decide)) (by decide)
      have hk16 := hkJ49.trans (if_neg zc14)
      refine g_aload_n cx 0 rfl e_X3_comparison_60 ?_
      refine g_dup cx rfl e_X3_comparison_61 ?_
      refine g_get cx cl_X3 fl_X3_19 33 (.int (F5 531)) e_X3_comparison_62 rfl rfl ?_
      refine g_iconst cx 1 (by decide) e_X3_comparison_65 ?_
      refine g_iadd cx e_X3_comparison_66 ?_
      refine g_topi (fun x17 ex17 => ?_)
      have hk18 := k_ls hk16 ex17
      refine g_put cx cl_X3 fl_X3_19 33 (wX X ad (upd F5 531 x17) R6) e_X3_comparison_67 rfl rfl rfl rfl (Nat.le_of_ble_eq_true rfl) rfl ?_
      obtain ⟨F19, hF19⟩ : ∃ z, z = upd F5 531 x17 := ⟨_, rfl⟩
      rw [← hF19]
      have hk20 := k_ls hk18 hF19
      have oF19 : g_ok LK_wX F19 := by rw [hF19]; exact g_ok_u oF5 rfl
      have fF19 : g_fr md_X3_comparison_c4 F F19 := by rw [hF19]; exact g_fr_u fF5 rfl
      refine g_aload_n cx 0 rfl e_X3_comparison_70 ?_
      refine g_iload_n cx 1 rfl e_X3_comparison_71 ?_
      refine g_cVvW cx [.int 4] [] (w_X3_sum_c4 l X ad F19 R6 oF19 oR6) ml_X3_63 yV_X3_sum e_X3_comparison_72 (by unfold g_rr; decide) (by decide) 33 rfl rfl rfl (Nat.le_of_ble_eq_true rfl) (fun w22 h23 => ?_)
      obtain ⟨F25, R26, rfl, oF25, oR26, cF25, cR26, hx24⟩ := h23
      have hk27 := k_ls2 hk20 hx24
      have fF25 : g_fr md_X3_comparison_c4 F F25 := g_fr_c fF19 cF25 rfl
      have fR26 : g_fr mr_X3_comparison_c4 R R26 := g_fr_c fR6 cR26 rfl
      refine g_aload_n cx 0 rfl e_X3_comparison_75 ?_
      refine g_get cx cl_X3 fl_X3_25 33 (.ref (ad 25)) e_X3_comparison_76 rfl rfl ?_
      refine g_iload_n cx 2 rfl e_X3_comparison_79 ?_
      refine g_iconst cx 0 (by decide) e_X3_comparison_80 ?_
      refine g_cViW cx [.int y13, .int 0] [] (w_X2_emit_25 l X ad F25 R26 oF25 oR26 y13 0) ml_X3_66 yV_X2_emit e_X3_comparison_81 (by unfold g_rr; decide) (by decide) 25 rfl rfl rfl (Nat.le_of_ble_eq_true rfl) (fun r28 w29 h30 => ?_)
      obtain ⟨F32, R33, rfl, oF32, oR33, cF32, cR33, pr28, hx31⟩ := h30
      have hk34 := k_ls3 hk27 hx31
      have fF32 : g_fr md_X3_comparison_c4 F F32 := g_fr_c fF25 cF32 rfl
      have fR33 : g_fr mr_X3_comparison_c4 R R33 := g_fr_c fR26 cR33 rfl
      refine g_pop cx rfl e_X3_comparison_84 ?_
      exact hret e_X3_comparison_85 (Nat.le_of_ble_eq_true rfl) (Nat.le_of_ble_eq_true rfl) ⟨F32, R33, rfl, oF32, oR33, fF32, fR33, (hk34.symm.trans hSP)⟩
    · have p35 := gn_eq (-1) (-1) (gc_eq zc14) py13 (jv_k (x := (-1)) (-1) (by decide)) (by decide)
      have hk36 := hkJ49.trans (if_pos zc14)
      refine g_aload_n cx 0 rfl e_X3_comparison_54 ?_
      refine g_iconst cx 1 (by decide) e_X3_comparison_55 ?_
      refine g_cVvW cx [.int 1] [] (w_X3_fail l X ad F5 R6 oF5 oR6 1) ml_X3_46 yV_X3_fail e_X3_comparison_56 (by unfold g_rr; decide) (by decide) 33 rfl rfl rfl (Nat.le_of_ble_eq_true rfl) (fun w38 h39 => ?_)
      obtain ⟨F41, R42, rfl, oF41, oR42, cF41, cR42, hx40⟩ := h39
      have hk43 := k_ls2 hk36 hx40
      have fF41 : g_fr md_X3_comparison_c4 F F41 := g_fr_c fF5 cF41 rfl
      have fR42 : g_fr mr_X3_comparison_c4 R R42 := g_fr_c fR6 cR42 rfl
      exact hret e_X3_comparison_59 (Nat.le_of_ble_eq_true rfl) (Nat.le_of_ble_eq_true rfl) ⟨F41, R42, rfl, oF41, oR42, fF41, fR42, (hk43.symm.trans hSP)⟩
  refine g_icmp_ne cx 22 e_X3_comparison_13 (by decide) (fun zc44 => ?_) (fun zc44 => ?_)
  · have hk45 := hk12.trans (if_neg zc44)
    refine g_aload_n cx 1 rfl e_X3_comparison_22 ?_
    refine g_cViW cx [] [] (w_X3_sign l X ad F5 R6 oF5 oR6) ml_X3_42 yV_X3_sign e_X3_comparison_23 (by unfold g_rr; decide) (by decide) 33 rfl rfl rfl (Nat.le_of_ble_eq_true rfl) (fun r46 w47 h48 => ?_)
    obtain ⟨rfl, pr46, hx49⟩ := h48
    have hk50 := k_ls hk45 hx49
    refine g_bipush cx 62 (by decide) e_X3_comparison_26 ?_
    refine g_icmp_ne cx 37 e_X3_comparison_28 (by decide) (fun zc51 => ?_) (fun zc51 => ?_)
    · have hk52 := hk50.trans (if_neg zc51)
      refine g_aload_n cx 1 rfl e_X3_comparison_37 ?_
      refine g_cViW cx [] [] (w_X3_sign l X ad F5 R6 oF5 oR6) ml_X3_42 yV_X3_sign e_X3_comparison_38 (by unfold g_rr; decide) (by decide) 33 rfl rfl rfl (Nat.le_of_ble_eq_true rfl) (fun r53 w54 h55 => ?_)
      obtain ⟨rfl, pr53, hx56⟩ := h55
      have hk57 := k_ls hk52 hx56
      refine g_bipush cx 61 (by decide) e_X3_comparison_41 ?_
      refine g_icmp_ne cx 49 e_X3_comparison_43 (by decide) (fun zc58 => ?_) (fun zc58 => ?_)
      · have hk59 := hk57.trans (if_neg zc58)
        refine g_lsub [1, 2, 0] [(0, .ref (ad 33)), (1, .int 4), (2, .int (-1))] rfl ?_
        exact J49 (-1) (jv_w (jv_k (x := (-1)) (-1) (by decide)) (by decide)) hk59
      · have p60 := gn_eq 61 61 (gc_eq zc58) pr53 (jv_k (x := 61) 61 (by decide)) (by decide)
        have hk61 := hk57.trans (if_pos zc58)
        refine g_bipush cx 13 (by decide) e_X3_comparison_46 ?_
        refine g_istore_n cx [(2, .int 13), (0, .ref (ad 33)), (1, .int 4)] e_X3_comparison_48 (by decide) rfl ?_
        refine g_lsub [1, 2, 0] [(0, .ref (ad 33)), (1, .int 4), (2, .int 13)] rfl ?_
        exact J49 13 (jv_w (jv_k (x := 13) 13 (by decide)) (by decide)) hk61
    · have p62 := gn_eq 62 62 (gc_eq zc51) pr46 (jv_k (x := 62) 62 (by decide)) (by decide)
      have hk63 := hk50.trans (if_pos zc51)
      refine g_bipush cx 12 (by decide) e_X3_comparison_31 ?_
      refine g_istore_n cx [(2, .int 12), (0, .ref (ad 33)), (1, .int 4)] e_X3_comparison_33 (by decide) rfl ?_
      refine g_goto cx 49 e_X3_comparison_34 (by decide) ?_
      refine g_lsub [1, 2, 0] [(0, .ref (ad 33)), (1, .int 4), (2, .int 12)] rfl ?_
      exact J49 12 (jv_w (jv_k (x := 12) 12 (by decide)) (by decide)) hk63
  · have p64 := gn_eq 60 60 (gc_eq zc44) pr8 (jv_k (x := 60) 60 (by decide)) (by decide)
    have hk65 := hk12.trans (if_pos zc44)
    refine g_bipush cx 11 (by decide) e_X3_comparison_16 ?_
    refine g_istore_n cx [(2, .int 11), (0, .ref (ad 33)), (1, .int 4)] e_X3_comparison_18 (by decide) rfl ?_
    refine g_goto cx 49 e_X3_comparison_19 (by decide) ?_
    refine g_lsub [1, 2, 0] [(0, .ref (ad 33)), (1, .int 4), (2, .int 11)] rfl ?_
    exact J49 11 (jv_w (jv_k (x := 11) 11 (by decide)) (by decide)) hk65
def K_X3_comparison_c5_49 (F5 : Nat → Int32) (R6 : Nat → Nat → Int32) (y13 : Int32) : (Nat → Int32) × (Nat → Nat → Int32) :=
  if y13 = (-1) then k_lt2 (sp_X3_fail F5 R6 1) (fun F41 R42 => (F41, R42)) else k_lt ((F5 531) + 1) (fun x17 => k_lt (upd F5 531 x17) (fun F19 => k_lt2 (sp_X3_sum_c5 F19 R6) (fun F25 R26 => k_lt3 (sp_X2_emit_25 F25 R26 y13 0) (fun r28 F32 R33 => (F32, R33)))))
def sp_X3_comparison_c5 (F : Nat → Int32) (R : Nat → Nat → Int32) : (Nat → Int32) × (Nat → Nat → Int32) :=
  k_lt2 (sp_X3_sum_c5 F R) (fun F5 R6 => k_lt (sp_X3_sign F5 R6) (fun r8 => if r8 = 60 then K_X3_comparison_c5_49 F5 R6 11 else k_lt (sp_X3_sign F5 R6) (fun r46 => if r46 = 62 then K_X3_comparison_c5_49 F5 R6 12 else k_lt (sp_X3_sign F5 R6) (fun r53 => if r53 = 61 then K_X3_comparison_c5_49 F5 R6 13 else K_X3_comparison_c5_49 F5 R6 (-1)))))
def md_X3_comparison_c5 : List Nat := [402, 531, 532]
def mr_X3_comparison_c5 : List Nat := [26, 27]
set_option maxHeartbeats 4000000 in
set_option maxRecDepth 100000 in
theorem w_X3_comparison_c5 (l : Launch) (X : gX) (ad : Nat → Nat) (F : Nat → Int32) (R : Nat → Nat → Int32) (hI : g_ok LK_wX F) (hA : g_okR LA_wX R) : g_Cv l X yX3_comparison cX3_comparison 3 11 0 0 [.ref (ad 33), .int 5] (wX X ad F R) (fun w => ∃ (F' : Nat → Int32) (R' : Nat → Nat → Int32), w = wX X ad F' R' ∧ g_ok LK_wX F' ∧ g_okR LA_wX R' ∧ g_fr md_X3_comparison_c5 F F' ∧ g_fr mr_X3_comparison_c5 R R' ∧ (F', R') = sp_X3_comparison_c5 F R) := by
  refine g_mv (by decide +kernel) (Nat.le_of_ble_eq_true rfl) (fun E cx hret => ?_)
  obtain ⟨SP, hSP⟩ : ∃ z, z = sp_X3_comparison_c5 F R := ⟨_, rfl⟩
  have hk0 := hSP
  unfold sp_X3_comparison_c5 at hk0
  refine g_aload_n cx 0 rfl e_X3_comparison_0 ?_
  refine g_iload_n cx 1 rfl e_X3_comparison_1 ?_
  refine g_cVvW cx [.int 5] [] (w_X3_sum_c5 l X ad F R hI hA) ml_X3_63 yV_X3_sum e_X3_comparison_2 (by unfold g_rr; decide) (by decide) 33 rfl rfl rfl (Nat.le_of_ble_eq_true rfl) (fun w2 h3 => ?_)
  obtain ⟨F5, R6, rfl, oF5, oR6, cF5, cR6, hx4⟩ := h3
  have hk7 := k_ls2 hk0 hx4
  have fF5 : g_fr md_X3_comparison_c5 F F5 := g_fr_c (g_fr_rf F) cF5 rfl
  have fR6 : g_fr mr_X3_comparison_c5 R R6 := g_fr_c (g_fr_rf R) cR6 rfl
  refine g_iconst cx (-1) (by decide) e_X3_comparison_5 ?_
  refine g_istore_n cx [(2, .int (-1)), (0, .ref (ad 33)), (1, .int 5)] e_X3_comparison_6 (by decide) rfl ?_
  refine g_aload_n cx 1 rfl e_X3_comparison_7 ?_
  refine g_cViW cx [] [] (w_X3_sign l X ad F5 R6 oF5 oR6) ml_X3_42 yV_X3_sign e_X3_comparison_8 (by unfold g_rr; decide) (by decide) 33 rfl rfl rfl (Nat.le_of_ble_eq_true rfl) (fun r8 w9 h10 => ?_)
  obtain ⟨rfl, pr8, hx11⟩ := h10
  have hk12 := k_ls hk7 hx11
  refine g_bipush cx 60 (by decide) e_X3_comparison_11 ?_
  have J49 : ∀ (y13 : Int32), (jv (-1) 13 y13) → (SP = K_X3_comparison_c5_49 F5 R6 y13) → G X E 3 0 0 (wX X ad F5 R6) [(0, .ref (ad 33)), (1, .int 5), (2, .int y13)] 49 [] := by
    intro y13 py13 hkJ49
    unfold K_X3_comparison_c5_49 at hkJ49
    refine g_iload_n cx 2 rfl e_X3_comparison_49 ?_
    refine g_iconst cx (-1) (by decide) e_X3_comparison_50 ?_
    refine g_icmp_ne cx 60 e_X3_comparison_51 (by decide) (fun zc14 => ?_) (fun zc14 => ?_)
    · have p15 := gn_neL 0 13 (gc_ne zc14) py13 (jv_k (x := (-1)) (-1) (by decide)) (by decide)
      have hk16 := hkJ49.trans (if_neg zc14)
      refine g_aload_n cx 0 rfl e_X3_comparison_60 ?_
      refine g_dup cx rfl e_X3_comparison_61 ?_
      refine g_get cx cl_X3 fl_X3_19 33 (.int (F5 531)) e_X3_comparison_62 rfl rfl ?_
      refine g_iconst cx 1 (by decide) e_X3_comparison_65 ?_
      refine g_iadd cx e_X3_comparison_66 ?_
      refine g_topi (fun x17 ex17 => ?_)
      have hk18 := k_ls hk16 ex17
      refine g_put cx cl_X3 fl_X3_19 33 (wX X ad (upd F5 531 x17) R6) e_X3_comparison_67 rfl rfl rfl rfl (Nat.le_of_ble_eq_true rfl) rfl ?_
      obtain ⟨F19, hF19⟩ : ∃ z, z = upd F5 531 x17 := ⟨_, rfl⟩
      rw [← hF19]
      have hk20 := k_ls hk18 hF19
      have oF19 : g_ok LK_wX F19 := by rw [hF19]; exact g_ok_u oF5 rfl
      have fF19 : g_fr md_X3_comparison_c5 F F19 := by rw [hF19]; exact g_fr_u fF5 rfl
      refine g_aload_n cx 0 rfl e_X3_comparison_70 ?_
      refine g_iload_n cx 1 rfl e_X3_comparison_71 ?_
      refine g_cVvW cx [.int 5] [] (w_X3_sum_c5 l X ad F19 R6 oF19 oR6) ml_X3_63 yV_X3_sum e_X3_comparison_72 (by unfold g_rr; decide) (by decide) 33 rfl rfl rfl (Nat.le_of_ble_eq_true rfl) (fun w22 h23 => ?_)
      obtain ⟨F25, R26, rfl, oF25, oR26, cF25, cR26, hx24⟩ := h23
      have hk27 := k_ls2 hk20 hx24
      have fF25 : g_fr md_X3_comparison_c5 F F25 := g_fr_c fF19 cF25 rfl
      have fR26 : g_fr mr_X3_comparison_c5 R R26 := g_fr_c fR6 cR26 rfl
      refine g_aload_n cx 0 rfl e_X3_comparison_75 ?_
      refine g_get cx cl_X3 fl_X3_25 33 (.ref (ad 25)) e_X3_comparison_76 rfl rfl ?_
      refine g_iload_n cx 2 rfl e_X3_comparison_79 ?_
      refine g_iconst cx 0 (by decide) e_X3_comparison_80 ?_
      refine g_cViW cx [.int y13, .int 0] [] (w_X2_emit_25 l X ad F25 R26 oF25 oR26 y13 0) ml_X3_66 yV_X2_emit e_X3_comparison_81 (by unfold g_rr; decide) (by decide) 25 rfl rfl rfl (Nat.le_of_ble_eq_true rfl) (fun r28 w29 h30 => ?_)
      obtain ⟨F32, R33, rfl, oF32, oR33, cF32, cR33, pr28, hx31⟩ := h30
      have hk34 := k_ls3 hk27 hx31
      have fF32 : g_fr md_X3_comparison_c5 F F32 := g_fr_c fF25 cF32 rfl
      have fR33 : g_fr mr_X3_comparison_c5 R R33 := g_fr_c fR26 cR33 rfl
      refine g_pop cx rfl e_X3_comparison_84 ?_
      exact hret e_X3_comparison_85 (Nat.le_of_ble_eq_true rfl) (Nat.le_of_ble_eq_true rfl) ⟨F32, R33, rfl, oF32, oR33, fF32, fR33, (hk34.symm.trans hSP)⟩
    · have p35 := gn_eq (-1) (-1) (gc_eq zc14) py13 (jv_k (x := (-1)) (-1) (by decide)) (by decide)
      have hk36 := hkJ49.trans (if_pos zc14)
      refine g_aload_n cx 0 rfl e_X3_comparison_54 ?_
      refine g_iconst cx 1 (by decide) e_X3_comparison_55 ?_
      refine g_cVvW cx [.int 1] [] (w_X3_fail l X ad F5 R6 oF5 oR6 1) ml_X3_46 yV_X3_fail e_X3_comparison_56 (by unfold g_rr; decide) (by decide) 33 rfl rfl rfl (Nat.le_of_ble_eq_true rfl) (fun w38 h39 => ?_)
      obtain ⟨F41, R42, rfl, oF41, oR42, cF41, cR42, hx40⟩ := h39
      have hk43 := k_ls2 hk36 hx40
      have fF41 : g_fr md_X3_comparison_c5 F F41 := g_fr_c fF5 cF41 rfl
      have fR42 : g_fr mr_X3_comparison_c5 R R42 := g_fr_c fR6 cR42 rfl
      exact hret e_X3_comparison_59 (Nat.le_of_ble_eq_true rfl) (Nat.le_of_ble_eq_true rfl) ⟨F41, R42, rfl, oF41, oR42, fF41, fR42, (hk43.symm.trans hSP)⟩
  refine g_icmp_ne cx 22 e_X3_comparison_13 (by decide) (fun zc44 => ?_) (fun zc44 => ?_)
  · have hk45 := hk12.trans (if_neg zc44)
    refine g_aload_n cx 1 rfl e_X3_comparison_22 ?_
    refine g_cViW cx [] [] (w_X3_sign l X ad F5 R6 oF5 oR6) ml_X3_42 yV_X3_sign e_X3_comparison_23 (by unfold g_rr; decide) (by decide) 33 rfl rfl rfl (Nat.le_of_ble_eq_true rfl) (fun r46 w47 h48 => ?_)
    obtain ⟨rfl, pr46, hx49⟩ := h48
    have hk50 := k_ls hk45 hx49
    refine g_bipush cx 62 (by decide) e_X3_comparison_26 ?_
    refine g_icmp_ne cx 37 e_X3_comparison_28 (by decide) (fun zc51 => ?_) (fun zc51 => ?_)
    · have hk52 := hk50.trans (if_neg zc51)
      refine g_aload_n cx 1 rfl e_X3_comparison_37 ?_
      refine g_cViW cx [] [] (w_X3_sign l X ad F5 R6 oF5 oR6) ml_X3_42 yV_X3_sign e_X3_comparison_38 (by unfold g_rr; decide) (by decide) 33 rfl rfl rfl (Nat.le_of_ble_eq_true rfl) (fun r53 w54 h55 => ?_)
      obtain ⟨rfl, pr53, hx56⟩ := h55
      have hk57 := k_ls hk52 hx56
      refine g_bipush cx 61 (by decide) e_X3_comparison_41 ?_
      refine g_icmp_ne cx 49 e_X3_comparison_43 (by decide) (fun zc58 => ?_) (fun zc58 => ?_)
      · have hk59 := hk57.trans (if_neg zc58)
        refine g_lsub [1, 2, 0] [(0, .ref (ad 33)), (1, .int 5), (2, .int (-1))] rfl ?_
        exact J49 (-1) (jv_w (jv_k (x := (-1)) (-1) (by decide)) (by decide)) hk59
      · have p60 := gn_eq 61 61 (gc_eq zc58) pr53 (jv_k (x := 61) 61 (by decide)) (by decide)
        have hk61 := hk57.trans (if_pos zc58)
        refine g_bipush cx 13 (by decide) e_X3_comparison_46 ?_
        refine g_istore_n cx [(2, .int 13), (0, .ref (ad 33)), (1, .int 5)] e_X3_comparison_48 (by decide) rfl ?_
        refine g_lsub [1, 2, 0] [(0, .ref (ad 33)), (1, .int 5), (2, .int 13)] rfl ?_
        exact J49 13 (jv_w (jv_k (x := 13) 13 (by decide)) (by decide)) hk61
    · have p62 := gn_eq 62 62 (gc_eq zc51) pr46 (jv_k (x := 62) 62 (by decide)) (by decide)
      have hk63 := hk50.trans (if_pos zc51)
      refine g_bipush cx 12 (by decide) e_X3_comparison_31 ?_
      refine g_istore_n cx [(2, .int 12), (0, .ref (ad 33)), (1, .int 5)] e_X3_comparison_33 (by decide) rfl ?_
      refine g_goto cx 49 e_X3_comparison_34 (by decide) ?_
      refine g_lsub [1, 2, 0] [(0, .ref (ad 33)), (1, .int 5), (2, .int 12)] rfl ?_
      exact J49 12 (jv_w (jv_k (x := 12) 12 (by decide)) (by decide)) hk63
  · have p64 := gn_eq 60 60 (gc_eq zc44) pr8 (jv_k (x := 60) 60 (by decide)) (by decide)
    have hk65 := hk12.trans (if_pos zc44)
    refine g_bipush cx 11 (by decide) e_X3_comparison_16 ?_
    refine g_istore_n cx [(2, .int 11), (0, .ref (ad 33)), (1, .int 5)] e_X3_comparison_18 (by decide) rfl ?_
    refine g_goto cx 49 e_X3_comparison_19 (by decide) ?_
    refine g_lsub [1, 2, 0] [(0, .ref (ad 33)), (1, .int 5), (2, .int 11)] rfl ?_
    exact J49 11 (jv_w (jv_k (x := 11) 11 (by decide)) (by decide)) hk65
def K_X3_comparison_c6_49 (F5 : Nat → Int32) (R6 : Nat → Nat → Int32) (y13 : Int32) : (Nat → Int32) × (Nat → Nat → Int32) :=
  if y13 = (-1) then k_lt2 (sp_X3_fail F5 R6 1) (fun F41 R42 => (F41, R42)) else k_lt ((F5 531) + 1) (fun x17 => k_lt (upd F5 531 x17) (fun F19 => k_lt2 (sp_X3_sum_c6 F19 R6) (fun F25 R26 => k_lt3 (sp_X2_emit_25 F25 R26 y13 0) (fun r28 F32 R33 => (F32, R33)))))
def sp_X3_comparison_c6 (F : Nat → Int32) (R : Nat → Nat → Int32) : (Nat → Int32) × (Nat → Nat → Int32) :=
  k_lt2 (sp_X3_sum_c6 F R) (fun F5 R6 => k_lt (sp_X3_sign F5 R6) (fun r8 => if r8 = 60 then K_X3_comparison_c6_49 F5 R6 11 else k_lt (sp_X3_sign F5 R6) (fun r46 => if r46 = 62 then K_X3_comparison_c6_49 F5 R6 12 else k_lt (sp_X3_sign F5 R6) (fun r53 => if r53 = 61 then K_X3_comparison_c6_49 F5 R6 13 else K_X3_comparison_c6_49 F5 R6 (-1)))))
def md_X3_comparison_c6 : List Nat := [402, 531, 532]
def mr_X3_comparison_c6 : List Nat := [26, 27]
set_option maxHeartbeats 4000000 in
set_option maxRecDepth 100000 in
theorem w_X3_comparison_c6 (l : Launch) (X : gX) (ad : Nat → Nat) (F : Nat → Int32) (R : Nat → Nat → Int32) (hI : g_ok LK_wX F) (hA : g_okR LA_wX R) : g_Cv l X yX3_comparison cX3_comparison 3 8 0 0 [.ref (ad 33), .int 6] (wX X ad F R) (fun w => ∃ (F' : Nat → Int32) (R' : Nat → Nat → Int32), w = wX X ad F' R' ∧ g_ok LK_wX F' ∧ g_okR LA_wX R' ∧ g_fr md_X3_comparison_c6 F F' ∧ g_fr mr_X3_comparison_c6 R R' ∧ (F', R') = sp_X3_comparison_c6 F R) := by
  refine g_mv (by decide +kernel) (Nat.le_of_ble_eq_true rfl) (fun E cx hret => ?_)
  obtain ⟨SP, hSP⟩ : ∃ z, z = sp_X3_comparison_c6 F R := ⟨_, rfl⟩
  have hk0 := hSP
  unfold sp_X3_comparison_c6 at hk0
  refine g_aload_n cx 0 rfl e_X3_comparison_0 ?_
  refine g_iload_n cx 1 rfl e_X3_comparison_1 ?_
  refine g_cVvW cx [.int 6] [] (w_X3_sum_c6 l X ad F R hI hA) ml_X3_63 yV_X3_sum e_X3_comparison_2 (by unfold g_rr; decide) (by decide) 33 rfl rfl rfl (Nat.le_of_ble_eq_true rfl) (fun w2 h3 => ?_)
  obtain ⟨F5, R6, rfl, oF5, oR6, cF5, cR6, hx4⟩ := h3
  have hk7 := k_ls2 hk0 hx4
  have fF5 : g_fr md_X3_comparison_c6 F F5 := g_fr_c (g_fr_rf F) cF5 rfl
  have fR6 : g_fr mr_X3_comparison_c6 R R6 := g_fr_c (g_fr_rf R) cR6 rfl
  refine g_iconst cx (-1) (by decide) e_X3_comparison_5 ?_
  refine g_istore_n cx [(2, .int (-1)), (0, .ref (ad 33)), (1, .int 6)] e_X3_comparison_6 (by decide) rfl ?_
  refine g_aload_n cx 1 rfl e_X3_comparison_7 ?_
  refine g_cViW cx [] [] (w_X3_sign l X ad F5 R6 oF5 oR6) ml_X3_42 yV_X3_sign e_X3_comparison_8 (by unfold g_rr; decide) (by decide) 33 rfl rfl rfl (Nat.le_of_ble_eq_true rfl) (fun r8 w9 h10 => ?_)
  obtain ⟨rfl, pr8, hx11⟩ := h10
  have hk12 := k_ls hk7 hx11
  refine g_bipush cx 60 (by decide) e_X3_comparison_11 ?_
  have J49 : ∀ (y13 : Int32), (jv (-1) 13 y13) → (SP = K_X3_comparison_c6_49 F5 R6 y13) → G X E 3 0 0 (wX X ad F5 R6) [(0, .ref (ad 33)), (1, .int 6), (2, .int y13)] 49 [] := by
    intro y13 py13 hkJ49
    unfold K_X3_comparison_c6_49 at hkJ49
    refine g_iload_n cx 2 rfl e_X3_comparison_49 ?_
    refine g_iconst cx (-1) (by decide) e_X3_comparison_50 ?_
    refine g_icmp_ne cx 60 e_X3_comparison_51 (by decide) (fun zc14 => ?_) (fun zc14 => ?_)
    · have p15 := gn_neL 0 13 (gc_ne zc14) py13 (jv_k (x := (-1)) (-1) (by decide)) (by decide)
      have hk16 := hkJ49.trans (if_neg zc14)
      refine g_aload_n cx 0 rfl e_X3_comparison_60 ?_
      refine g_dup cx rfl e_X3_comparison_61 ?_
      refine g_get cx cl_X3 fl_X3_19 33 (.int (F5 531)) e_X3_comparison_62 rfl rfl ?_
      refine g_iconst cx 1 (by decide) e_X3_comparison_65 ?_
      refine g_iadd cx e_X3_comparison_66 ?_
      refine g_topi (fun x17 ex17 => ?_)
      have hk18 := k_ls hk16 ex17
      refine g_put cx cl_X3 fl_X3_19 33 (wX X ad (upd F5 531 x17) R6) e_X3_comparison_67 rfl rfl rfl rfl (Nat.le_of_ble_eq_true rfl) rfl ?_
      obtain ⟨F19, hF19⟩ : ∃ z, z = upd F5 531 x17 := ⟨_, rfl⟩
      rw [← hF19]
      have hk20 := k_ls hk18 hF19
      have oF19 : g_ok LK_wX F19 := by rw [hF19]; exact g_ok_u oF5 rfl
      have fF19 : g_fr md_X3_comparison_c6 F F19 := by rw [hF19]; exact g_fr_u fF5 rfl
      refine g_aload_n cx 0 rfl e_X3_comparison_70 ?_
      refine g_iload_n cx 1 rfl e_X3_comparison_71 ?_
      refine g_cVvW cx [.int 6] [] (w_X3_sum_c6 l X ad F19 R6 oF19 oR6) ml_X3_63 yV_X3_sum e_X3_comparison_72 (by unfold g_rr; decide) (by decide) 33 rfl rfl rfl (Nat.le_of_ble_eq_true rfl) (fun w22 h23 => ?_)
      obtain ⟨F25, R26, rfl, oF25, oR26, cF25, cR26, hx24⟩ := h23
      have hk27 := k_ls2 hk20 hx24
      have fF25 : g_fr md_X3_comparison_c6 F F25 := g_fr_c fF19 cF25 rfl
      have fR26 : g_fr mr_X3_comparison_c6 R R26 := g_fr_c fR6 cR26 rfl
      refine g_aload_n cx 0 rfl e_X3_comparison_75 ?_
      refine g_get cx cl_X3 fl_X3_25 33 (.ref (ad 25)) e_X3_comparison_76 rfl rfl ?_
      refine g_iload_n cx 2 rfl e_X3_comparison_79 ?_
      refine g_iconst cx 0 (by decide) e_X3_comparison_80 ?_
      refine g_cViW cx [.int y13, .int 0] [] (w_X2_emit_25 l X ad F25 R26 oF25 oR26 y13 0) ml_X3_66 yV_X2_emit e_X3_comparison_81 (by unfold g_rr; decide) (by decide) 25 rfl rfl rfl (Nat.le_of_ble_eq_true rfl) (fun r28 w29 h30 => ?_)
      obtain ⟨F32, R33, rfl, oF32, oR33, cF32, cR33, pr28, hx31⟩ := h30
      have hk34 := k_ls3 hk27 hx31
      have fF32 : g_fr md_X3_comparison_c6 F F32 := g_fr_c fF25 cF32 rfl
      have fR33 : g_fr mr_X3_comparison_c6 R R33 := g_fr_c fR26 cR33 rfl
      refine g_pop cx rfl e_X3_comparison_84 ?_
      exact hret e_X3_comparison_85 (Nat.le_of_ble_eq_true rfl) (Nat.le_of_ble_eq_true rfl) ⟨F32, R33, rfl, oF32, oR33, fF32, fR33, (hk34.symm.trans hSP)⟩
    · have p35 := gn_eq (-1) (-1) (gc_eq zc14) py13 (jv_k (x := (-1)) (-1) (by decide)) (by decide)
      have hk36 := hkJ49.trans (if_pos zc14)
      refine g_aload_n cx 0 rfl e_X3_comparison_54 ?_
      refine g_iconst cx 1 (by decide) e_X3_comparison_55 ?_
      refine g_cVvW cx [.int 1] [] (w_X3_fail l X ad F5 R6 oF5 oR6 1) ml_X3_46 yV_X3_fail e_X3_comparison_56 (by unfold g_rr; decide) (by decide) 33 rfl rfl rfl (Nat.le_of_ble_eq_true rfl) (fun w38 h39 => ?_)
      obtain ⟨F41, R42, rfl, oF41, oR42, cF41, cR42, hx40⟩ := h39
      have hk43 := k_ls2 hk36 hx40
      have fF41 : g_fr md_X3_comparison_c6 F F41 := g_fr_c fF5 cF41 rfl
      have fR42 : g_fr mr_X3_comparison_c6 R R42 := g_fr_c fR6 cR42 rfl
      exact hret e_X3_comparison_59 (Nat.le_of_ble_eq_true rfl) (Nat.le_of_ble_eq_true rfl) ⟨F41, R42, rfl, oF41, oR42, fF41, fR42, (hk43.symm.trans hSP)⟩
  refine g_icmp_ne cx 22 e_X3_comparison_13 (by decide) (fun zc44 => ?_) (fun zc44 => ?_)
  · have hk45 := hk12.trans (if_neg zc44)
    refine g_aload_n cx 1 rfl e_X3_comparison_22 ?_
    refine g_cViW cx [] [] (w_X3_sign l X ad F5 R6 oF5 oR6) ml_X3_42 yV_X3_sign e_X3_comparison_23 (by unfold g_rr; decide) (by decide) 33 rfl rfl rfl (Nat.le_of_ble_eq_true rfl) (fun r46 w47 h48 => ?_)
    obtain ⟨rfl, pr46, hx49⟩ := h48
    have hk50 := k_ls hk45 hx49
    refine g_bipush cx 62 (by decide) e_X3_comparison_26 ?_
    refine g_icmp_ne cx 37 e_X3_comparison_28 (by decide) (fun zc51 => ?_) (fun zc51 => ?_)
    · have hk52 := hk50.trans (if_neg zc51)
      refine g_aload_n cx 1 rfl e_X3_comparison_37 ?_
      refine g_cViW cx [] [] (w_X3_sign l X ad F5 R6 oF5 oR6) ml_X3_42 yV_X3_sign e_X3_comparison_38 (by unfold g_rr; decide) (by decide) 33 rfl rfl rfl (Nat.le_of_ble_eq_true rfl) (fun r53 w54 h55 => ?_)
      obtain ⟨rfl, pr53, hx56⟩ := h55
      have hk57 := k_ls hk52 hx56
      refine g_bipush cx 61 (by decide) e_X3_comparison_41 ?_
      refine g_icmp_ne cx 49 e_X3_comparison_43 (by decide) (fun zc58 => ?_) (fun zc58 => ?_)
      · have hk59 := hk57.trans (if_neg zc58)
        refine g_lsub [1, 2, 0] [(0, .ref (ad 33)), (1, .int 6), (2, .int (-1))] rfl ?_
        exact J49 (-1) (jv_w (jv_k (x := (-1)) (-1) (by decide)) (by decide)) hk59
      · have p60 := gn_eq 61 61 (gc_eq zc58) pr53 (jv_k (x := 61) 61 (by decide)) (by decide)
        have hk61 := hk57.trans (if_pos zc58)
        refine g_bipush cx 13 (by decide) e_X3_comparison_46 ?_
        refine g_istore_n cx [(2, .int 13), (0, .ref (ad 33)), (1, .int 6)] e_X3_comparison_48 (by decide) rfl ?_
        refine g_lsub [1, 2, 0] [(0, .ref (ad 33)), (1, .int 6), (2, .int 13)] rfl ?_
        exact J49 13 (jv_w (jv_k (x := 13) 13 (by decide)) (by decide)) hk61
    · have p62 := gn_eq 62 62 (gc_eq zc51) pr46 (jv_k (x := 62) 62 (by decide)) (by decide)
      have hk63 := hk50.trans (if_pos zc51)
      refine g_bipush cx 12 (by decide) e_X3_comparison_31 ?_
      refine g_istore_n cx [(2, .int 12), (0, .ref (ad 33)), (1, .int 6)] e_X3_comparison_33 (by decide) rfl ?_
      refine g_goto cx 49 e_X3_comparison_34 (by decide) ?_
      refine g_lsub [1, 2, 0] [(0, .ref (ad 33)), (1, .int 6), (2, .int 12)] rfl ?_
      exact J49 12 (jv_w (jv_k (x := 12) 12 (by decide)) (by decide)) hk63
  · have p64 := gn_eq 60 60 (gc_eq zc44) pr8 (jv_k (x := 60) 60 (by decide)) (by decide)
    have hk65 := hk12.trans (if_pos zc44)
    refine g_bipush cx 11 (by decide) e_X3_comparison_16 ?_
    refine g_istore_n cx [(2, .int 11), (0, .ref (ad 33)), (1, .int 6)] e_X3_comparison_18 (by decide) rfl ?_
    refine g_goto cx 49 e_X3_comparison_19 (by decide) ?_
    refine g_lsub [1, 2, 0] [(0, .ref (ad 33)), (1, .int 6), (2, .int 11)] rfl ?_
    exact J49 11 (jv_w (jv_k (x := 11) 11 (by decide)) (by decide)) hk65
def K_X3_piece_c6_75  (F6 : Nat → Int32) (R7 : Nat → Nat → Int32) : (Nat → Int32) × (Nat → Nat → Int32) :=
  (F6, R7)
def sp_X3_piece_c6 (F : Nat → Int32) (R : Nat → Nat → Int32) : (Nat → Int32) × (Nat → Nat → Int32) :=
  k_lt (sp_X3_sign F R) (fun r1 => if r1 = 33 then k_lt3 (sp_X3_opens_c6 F R) (fun r36 F40 R41 => K_X3_piece_c6_75 F40 R41) else k_lt (sp_X3_sign F R) (fun r10 => if r10 = 40 then k_lt3 (sp_X3_opens_c6 F R) (fun r26 F30 R31 => K_X3_piece_c6_75 F30 R31) else k_lt2 (sp_X3_comparison_c6 F R) (fun F21 R22 => K_X3_piece_c6_75 F21 R22)))
theorem e_X3_piece_0 : g_dc cX3_piece 0 (.aload_n 0) 1 1 := ⟨by decide +kernel, rfl⟩
theorem e_X3_piece_1 : g_dc cX3_piece 1 (.invokevirtual 42) 3 4 := ⟨by decide +kernel, rfl⟩
theorem e_X3_piece_4 : g_dc cX3_piece 4 (.bipush 33) 2 6 := ⟨by decide +kernel, rfl⟩
theorem e_X3_piece_6 : g_dc cX3_piece 6 (.if_icmp .ne 31) 3 9 := ⟨by decide +kernel, rfl⟩
theorem e_X3_piece_9 : g_dc cX3_piece 9 (.aload_n 0) 1 10 := ⟨by decide +kernel, rfl⟩
theorem e_X3_piece_10 : g_dc cX3_piece 10 (.iload_n 1) 1 11 := ⟨by decide +kernel, rfl⟩
theorem e_X3_piece_11 : g_dc cX3_piece 11 (.invokevirtual 89) 3 14 := ⟨by decide +kernel, rfl⟩
theorem e_X3_piece_14 : g_dc cX3_piece 14 (.ifCond .eq 61) 3 17 := ⟨by decide +kernel, rfl⟩
theorem e_X3_piece_37 : g_dc cX3_piece 37 (.aload_n 0) 1 38 := ⟨by decide +kernel, rfl⟩
theorem e_X3_piece_38 : g_dc cX3_piece 38 (.invokevirtual 42) 3 41 := ⟨by decide +kernel, rfl⟩
theorem e_X3_piece_41 : g_dc cX3_piece 41 (.bipush 40) 2 43 := ⟨by decide +kernel, rfl⟩
theorem e_X3_piece_43 : g_dc cX3_piece 43 (.if_icmp .ne 27) 3 46 := ⟨by decide +kernel, rfl⟩
theorem e_X3_piece_46 : g_dc cX3_piece 46 (.aload_n 0) 1 47 := ⟨by decide +kernel, rfl⟩
theorem e_X3_piece_47 : g_dc cX3_piece 47 (.iload_n 1) 1 48 := ⟨by decide +kernel, rfl⟩
theorem e_X3_piece_48 : g_dc cX3_piece 48 (.invokevirtual 89) 3 51 := ⟨by decide +kernel, rfl⟩
theorem e_X3_piece_51 : g_dc cX3_piece 51 (.ifCond .eq 24) 3 54 := ⟨by decide +kernel, rfl⟩
theorem e_X3_piece_70 : g_dc cX3_piece 70 (.aload_n 0) 1 71 := ⟨by decide +kernel, rfl⟩
theorem e_X3_piece_71 : g_dc cX3_piece 71 (.iload_n 1) 1 72 := ⟨by decide +kernel, rfl⟩
theorem e_X3_piece_72 : g_dc cX3_piece 72 (.invokevirtual 93) 3 75 := ⟨by decide +kernel, rfl⟩
theorem e_X3_piece_75 : g_dc cX3_piece 75 (.return_) 1 76 := ⟨by decide +kernel, rfl⟩
def md_X3_piece_c6 : List Nat := [402, 531, 532]
def mr_X3_piece_c6 : List Nat := [26, 27]
set_option maxHeartbeats 4000000 in
set_option maxRecDepth 100000 in
theorem w_X3_piece_c6 (l : Launch) (X : gX) (ad : Nat → Nat) (F : Nat → Int32) (R : Nat → Nat → Int32) (hI : g_ok LK_wX F) (hA : g_okR LA_wX R) : g_Cv l X yX3_piece cX3_piece 2 9 0 0 [.ref (ad 33), .int 6] (wX X ad F R) (fun w => ∃ (F' : Nat → Int32) (R' : Nat → Nat → Int32), w = wX X ad F' R' ∧ g_ok LK_wX F' ∧ g_okR LA_wX R' ∧ g_fr md_X3_piece_c6 F F' ∧ g_fr mr_X3_piece_c6 R R' ∧ (F', R') = sp_X3_piece_c6 F R) := by
  refine g_mv (by decide +kernel) (Nat.le_of_ble_eq_true rfl) (fun E cx hret => ?_)
  obtain ⟨SP, hSP⟩ : ∃ z, z = sp_X3_piece_c6 F R := ⟨_, rfl⟩
  have hk0 := hSP
  unfold sp_X3_piece_c6 at hk0
  refine g_aload_n cx 0 rfl e_X3_piece_0 ?_
  refine g_cViW cx [] [] (w_X3_sign l X ad F R hI hA) ml_X3_42 yV_X3_sign e_X3_piece_1 (by unfold g_rr; decide) (by decide) 33 rfl rfl rfl (Nat.le_of_ble_eq_true rfl) (fun r1 w2 h3 => ?_)
  obtain ⟨rfl, pr1, hx4⟩ := h3
  have hk5 := k_ls hk0 hx4
  refine g_bipush cx 33 (by decide) e_X3_piece_4 ?_
  have J75 : ∀ (F6 : Nat → Int32) (R7 : Nat → Nat → Int32), (g_ok LK_wX F6) → (g_fr md_X3_piece_c6 F F6) → (g_okR LA_wX R7) → (g_fr mr_X3_piece_c6 R R7) → (SP = K_X3_piece_c6_75 F6 R7) → G X E 2 0 0 (wX X ad F6 R7) [] 75 [] := by
    intro F6 R7 oF6 fF6 oR7 fR7 hkJ75
    unfold K_X3_piece_c6_75 at hkJ75
    exact hret e_X3_piece_75 (Nat.le_of_ble_eq_true rfl) (Nat.le_of_ble_eq_true rfl) ⟨F6, R7, rfl, oF6, oR7, fF6, fR7, (hkJ75.symm.trans hSP)⟩
  refine g_icmp_ne cx 37 e_X3_piece_6 (by decide) (fun zc8 => ?_) (fun zc8 => ?_)
  · have hk9 := hk5.trans (if_neg zc8)
    refine g_aload_n cx 0 rfl e_X3_piece_37 ?_
    refine g_cViW cx [] [] (w_X3_sign l X ad F R hI hA) ml_X3_42 yV_X3_sign e_X3_piece_38 (by unfold g_rr; decide) (by decide) 33 rfl rfl rfl (Nat.le_of_ble_eq_true rfl) (fun r10 w11 h12 => ?_)
    obtain ⟨rfl, pr10, hx13⟩ := h12
    have hk14 := k_ls hk9 hx13
    refine g_bipush cx 40 (by decide) e_X3_piece_41 ?_
    refine g_icmp_ne cx 70 e_X3_piece_43 (by decide) (fun zc15 => ?_) (fun zc15 => ?_)
    · have hk16 := hk14.trans (if_neg zc15)
      refine g_aload_n cx 0 rfl e_X3_piece_70 ?_
      refine g_iload_n cx 1 rfl e_X3_piece_71 ?_
      refine g_cVvW cx [.int 6] [] (w_X3_comparison_c6 l X ad F R hI hA) ml_X3_93 yV_X3_comparison e_X3_piece_72 (by unfold g_rr; decide) (by decide) 33 rfl rfl rfl (Nat.le_of_ble_eq_true rfl) (fun w18 h19 => ?_)
      obtain ⟨F21, R22, rfl, oF21, oR22, cF21, cR22, hx20⟩ := h19
      have hk23 := k_ls2 hk16 hx20
      have fF21 : g_fr md_X3_piece_c6 F F21 := g_fr_c (g_fr_rf F) cF21 rfl
      have fR22 : g_fr mr_X3_piece_c6 R R22 := g_fr_c (g_fr_rf R) cR22 rfl
      refine g_lsub [] [] rfl ?_
      exact J75 F21 R22 oF21 fF21 oR22 fR22 hk23
    · have p24 := gn_eq 40 40 (gc_eq zc15) pr10 (jv_k (x := 40) 40 (by decide)) (by decide)
      have hk25 := hk14.trans (if_pos zc15)
      refine g_aload_n cx 0 rfl e_X3_piece_46 ?_
      refine g_iload_n cx 1 rfl e_X3_piece_47 ?_
      refine g_cViW cx [.int 6] [] (w_X3_opens_c6 l X ad F R hI hA) ml_X3_89 yV_X3_opens e_X3_piece_48 (by unfold g_rr; decide) (by decide) 33 rfl rfl rfl (Nat.le_of_ble_eq_true rfl) (fun r26 w27 h28 => ?_)
      obtain ⟨F30, R31, rfl, oF30, oR31, cF30, cR31, pr26, hx29⟩ := h28
      have hk32 := k_ls3 hk25 hx29
      have fF30 : g_fr md_X3_piece_c6 F F30 := g_fr_c (g_fr_rf F) cF30 rfl
      have fR31 : g_fr mr_X3_piece_c6 R R31 := g_fr_c (g_fr_rf R) cR31 rfl
      refine g_if_eq cx 75 e_X3_piece_51 (by decide) (fun zc33 => ?_) (fun zc33 => ?_)
      · refine g_lsub [] [] rfl ?_
        exact J75 F30 R31 oF30 fF30 oR31 fR31 hk32
      · exact (gf_ne (gc_ne zc33) pr26 (jv_k (x := 0) 0 (by decide)) (by decide)).elim
  · have p34 := gn_eq 33 33 (gc_eq zc8) pr1 (jv_k (x := 33) 33 (by decide)) (by decide)
    have hk35 := hk5.trans (if_pos zc8)
    refine g_aload_n cx 0 rfl e_X3_piece_9 ?_
    refine g_iload_n cx 1 rfl e_X3_piece_10 ?_
    refine g_cViW cx [.int 6] [] (w_X3_opens_c6 l X ad F R hI hA) ml_X3_89 yV_X3_opens e_X3_piece_11 (by unfold g_rr; decide) (by decide) 33 rfl rfl rfl (Nat.le_of_ble_eq_true rfl) (fun r36 w37 h38 => ?_)
    obtain ⟨F40, R41, rfl, oF40, oR41, cF40, cR41, pr36, hx39⟩ := h38
    have hk42 := k_ls3 hk35 hx39
    have fF40 : g_fr md_X3_piece_c6 F F40 := g_fr_c (g_fr_rf F) cF40 rfl
    have fR41 : g_fr mr_X3_piece_c6 R R41 := g_fr_c (g_fr_rf R) cR41 rfl
    refine g_if_eq cx 75 e_X3_piece_14 (by decide) (fun zc43 => ?_) (fun zc43 => ?_)
    · refine g_lsub [] [] rfl ?_
      exact J75 F40 R41 oF40 fF40 oR41 fR41 hk42
    · exact (gf_ne (gc_ne zc43) pr36 (jv_k (x := 0) 0 (by decide)) (by decide)).elim
def K_X2_landHere_25_49 (F : Nat → Int32) (R3 : Nat → Nat → Int32)  : (Nat → Int32) × (Nat → Nat → Int32) :=
  (F, R3)
def KB_X2_landHere_25_4 (b4 : (Nat → Nat → Int32) → (Int32) → (Int32) → (Nat → Int32) × (Nat → Nat → Int32)) (F : Nat → Int32) (R3 : Nat → Nat → Int32) (y1 : Int32) (y2 : Int32) : (Nat → Int32) × (Nat → Nat → Int32) :=
  if 256 ≤ y2 then K_X2_landHere_25_49 F R3 else if y1 < 0 then K_X2_landHere_25_49 F R3 else if 256 ≤ y1 then K_X2_landHere_25_49 F R3 else k_lt (R3 27 (Int32.toNatClampNeg y1)) (fun x19 => k_lt (g_u R3 27 (upd (R3 27) (Int32.toNatClampNeg y1) (F 402))) (fun R21 => k_lt (y2 + 1) (fun x23 => b4 R21 x19 x23)))
def K_X2_landHere_25_4 (F : Nat → Int32) : Nat → (Nat → Nat → Int32) → (Int32) → (Int32) → (Nat → Int32) × (Nat → Nat → Int32)
  | 0 => fun R3 _ _ => (F, R3)
  | n + 1 => KB_X2_landHere_25_4 (K_X2_landHere_25_4 F n) F
def sp_X2_landHere_25 (F : Nat → Int32) (R : Nat → Nat → Int32) (a0 : Int32) : (Nat → Int32) × (Nat → Nat → Int32) :=
  K_X2_landHere_25_4 F 8589934592 R a0 0
theorem e_X2_landHere_0 : g_dc cX2_landHere 0 (.iload_n 1) 1 1 := ⟨by decide +kernel, rfl⟩
theorem e_X2_landHere_1 : g_dc cX2_landHere 1 (.istore_n 2) 1 2 := ⟨by decide +kernel, rfl⟩
theorem e_X2_landHere_2 : g_dc cX2_landHere 2 (.iconst 0) 1 3 := ⟨by decide +kernel, rfl⟩
theorem e_X2_landHere_3 : g_dc cX2_landHere 3 (.istore_n 3) 1 4 := ⟨by decide +kernel, rfl⟩
theorem e_X2_landHere_4 : g_dc cX2_landHere 4 (.iload_n 3) 1 5 := ⟨by decide +kernel, rfl⟩
theorem e_X2_landHere_5 : g_dc cX2_landHere 5 (.sipush 256) 3 8 := ⟨by decide +kernel, rfl⟩
theorem e_X2_landHere_8 : g_dc cX2_landHere 8 (.if_icmp .ge 41) 3 11 := ⟨by decide +kernel, rfl⟩
theorem e_X2_landHere_11 : g_dc cX2_landHere 11 (.iload_n 2) 1 12 := ⟨by decide +kernel, rfl⟩
theorem e_X2_landHere_12 : g_dc cX2_landHere 12 (.ifCond .lt 37) 3 15 := ⟨by decide +kernel, rfl⟩
theorem e_X2_landHere_15 : g_dc cX2_landHere 15 (.iload_n 2) 1 16 := ⟨by decide +kernel, rfl⟩
theorem e_X2_landHere_16 : g_dc cX2_landHere 16 (.sipush 256) 3 19 := ⟨by decide +kernel, rfl⟩
theorem e_X2_landHere_19 : g_dc cX2_landHere 19 (.if_icmp .ge 30) 3 22 := ⟨by decide +kernel, rfl⟩
theorem e_X2_landHere_22 : g_dc cX2_landHere 22 (.aload_n 0) 1 23 := ⟨by decide +kernel, rfl⟩
theorem e_X2_landHere_23 : g_dc cX2_landHere 23 (.getfield 15) 3 26 := ⟨by decide +kernel, rfl⟩
theorem e_X2_landHere_26 : g_dc cX2_landHere 26 (.iload_n 2) 1 27 := ⟨by decide +kernel, rfl⟩
theorem e_X2_landHere_27 : g_dc cX2_landHere 27 (.iaload) 1 28 := ⟨by decide +kernel, rfl⟩
theorem e_X2_landHere_28 : g_dc cX2_landHere 28 (.istore 4) 2 30 := ⟨by decide +kernel, rfl⟩
theorem e_X2_landHere_30 : g_dc cX2_landHere 30 (.aload_n 0) 1 31 := ⟨by decide +kernel, rfl⟩
theorem e_X2_landHere_31 : g_dc cX2_landHere 31 (.getfield 15) 3 34 := ⟨by decide +kernel, rfl⟩
theorem e_X2_landHere_34 : g_dc cX2_landHere 34 (.iload_n 2) 1 35 := ⟨by decide +kernel, rfl⟩
theorem e_X2_landHere_35 : g_dc cX2_landHere 35 (.aload_n 0) 1 36 := ⟨by decide +kernel, rfl⟩
theorem e_X2_landHere_36 : g_dc cX2_landHere 36 (.getfield 18) 3 39 := ⟨by decide +kernel, rfl⟩
theorem e_X2_landHere_39 : g_dc cX2_landHere 39 (.iastore) 1 40 := ⟨by decide +kernel, rfl⟩
theorem e_X2_landHere_40 : g_dc cX2_landHere 40 (.iload 4) 2 42 := ⟨by decide +kernel, rfl⟩
theorem e_X2_landHere_42 : g_dc cX2_landHere 42 (.istore_n 2) 1 43 := ⟨by decide +kernel, rfl⟩
theorem e_X2_landHere_43 : g_dc cX2_landHere 43 (.iinc 3 1) 3 46 := ⟨by decide +kernel, rfl⟩
theorem e_X2_landHere_46 : g_dc cX2_landHere 46 (.goto (-42)) 3 49 := ⟨by decide +kernel, rfl⟩
theorem e_X2_landHere_49 : g_dc cX2_landHere 49 (.return_) 1 50 := ⟨by decide +kernel, rfl⟩
def md_X2_landHere_25 : List Nat := []
def mr_X2_landHere_25 : List Nat := [27]
set_option maxHeartbeats 4000000 in
set_option maxRecDepth 100000 in
theorem w_X2_landHere_25 (l : Launch) (X : gX) (ad : Nat → Nat) (F : Nat → Int32) (R : Nat → Nat → Int32) (hI : g_ok LK_wX F) (hA : g_okR LA_wX R) (a0 : Int32) : g_Cv l X yX2_landHere cX2_landHere 5 1 0 0 [.ref (ad 25), .int a0] (wX X ad F R) (fun w => ∃ (F' : Nat → Int32) (R' : Nat → Nat → Int32), w = wX X ad F' R' ∧ g_ok LK_wX F' ∧ g_okR LA_wX R' ∧ g_fr md_X2_landHere_25 F F' ∧ g_fr mr_X2_landHere_25 R R' ∧ (F', R') = sp_X2_landHere_25 F R a0) := by
  refine g_mv (by decide +kernel) (Nat.le_of_ble_eq_true rfl) (fun E cx hret => ?_)
  obtain ⟨SP, hSP⟩ : ∃ z, z = sp_X2_landHere_25 F R a0 := ⟨_, rfl⟩
  have hk0 := hSP
  unfold sp_X2_landHere_25 at hk0
  refine g_iload_n cx 1 rfl e_X2_landHere_0 ?_
  refine g_istore_n cx [(2, .int a0), (0, .ref (ad 25)), (1, .int a0)] e_X2_landHere_1 (by decide) rfl ?_
  refine g_iconst cx 0 (by decide) e_X2_landHere_2 ?_
  refine g_istore_n cx [(3, .int 0), (2, .int a0), (0, .ref (ad 25)), (1, .int a0)] e_X2_landHere_3 (by decide) rfl ?_
  have J4 : ∀ (N : Nat) (R3 : Nat → Nat → Int32) (y1 : Int32) (y2 : Int32), (g_okR LA_wX R3) → (g_fr mr_X2_landHere_25 R R3) → (jv (-2147483648) 2147483647 y1) → (jv 0 256 y2) → (SP = K_X2_landHere_25_4 F N R3 y1 y2) → (2147483647 - y2.toInt).toNat < N → G X E 5 0 0 (wX X ad F R3) [(0, .ref (ad 25)), (2, .int y1), (3, .int y2)] 4 [] := by
    intro N
    induction N with
    | zero => intro R3 y1 y2 oR3 fR3 py1 py2 hkJ4 hm; exact absurd hm (Nat.not_lt_zero _)
    | succ N ih4 =>
      intro R3 y1 y2 oR3 fR3 py1 py2 hkJ4 hm4
      have hkK4 : SP = KB_X2_landHere_25_4 (K_X2_landHere_25_4 F N) F R3 y1 y2 := hkJ4
      obtain ⟨b4, hb4⟩ : ∃ z, z = K_X2_landHere_25_4 F N := ⟨_, rfl⟩
      rw [← hb4] at hkK4
      unfold KB_X2_landHere_25_4 at hkK4
      refine g_iload_n cx 2 rfl e_X2_landHere_4 ?_
      refine g_sipush cx 256 (by decide) e_X2_landHere_5 ?_
      have J49 : (SP = K_X2_landHere_25_49 F R3) → G X E 5 0 0 (wX X ad F R3) [] 49 [] := by
        intro   hkJ49
        unfold K_X2_landHere_25_49 at hkJ49
        exact hret e_X2_landHere_49 (Nat.le_of_ble_eq_true rfl) (Nat.le_of_ble_eq_true rfl) ⟨F, R3, rfl, hI, oR3, (g_fr_rf F), fR3, (hkJ49.symm.trans hSP)⟩
      refine g_icmp_ge cx 49 e_X2_landHere_8 (by decide) (fun zc4 => ?_) (fun zc4 => ?_)
      · have p5 := gn_ge 256 256 (gc_le zc4) py2 (jv_k (x := 256) 256 (by decide)) (by decide)
        have hk6 := hkK4.trans (if_pos zc4)
        refine g_lsub [] [] rfl ?_
        exact J49  hk6
      · have p7 := gn_lt 0 255 (gc_nle zc4) py2 (jv_k (x := 256) 256 (by decide)) (by decide)
        have hk8 := hkK4.trans (if_neg zc4)
        refine g_iload_n cx 1 rfl e_X2_landHere_11 ?_
        refine g_if_lt cx 49 e_X2_landHere_12 (by decide) (fun zc9 => ?_) (fun zc9 => ?_)
        · have p10 := gn_lt (-2147483648) (-1) (gc_lt zc9) py1 (jv_k (x := 0) 0 (by decide)) (by decide)
          have hk11 := hk8.trans (if_pos zc9)
          refine g_lsub [] [] rfl ?_
          exact J49  hk11
        · have p12 := gn_ge 0 2147483647 (gc_nlt zc9) py1 (jv_k (x := 0) 0 (by decide)) (by decide)
          have hk13 := hk8.trans (if_neg zc9)
          refine g_iload_n cx 1 rfl e_X2_landHere_15 ?_
          refine g_sipush cx 256 (by decide) e_X2_landHere_16 ?_
          refine g_icmp_ge cx 49 e_X2_landHere_19 (by decide) (fun zc14 => ?_) (fun zc14 => ?_)
          · have p15 := gn_ge 256 2147483647 (gc_le zc14) p12 (jv_k (x := 256) 256 (by decide)) (by decide)
            have hk16 := hk13.trans (if_pos zc14)
            refine g_lsub [] [] rfl ?_
            exact J49  hk16
          · have p17 := gn_lt 0 255 (gc_nle zc14) p12 (jv_k (x := 256) 256 (by decide)) (by decide)
            have hk18 := hk13.trans (if_neg zc14)
            refine g_aload_n cx 0 rfl e_X2_landHere_22 ?_
            refine g_get cx cl_X2 fl_X2_15 25 (.ref (ad 27)) e_X2_landHere_23 rfl rfl ?_
            refine g_iload_n cx 1 rfl e_X2_landHere_26 ?_
            refine g_iald cx 27 e_X2_landHere_27 rfl (jv_ix 256 p17 (by decide)) ?_
            refine g_topi (fun x19 ex19 => ?_)
            have hk20 := k_ls hk18 ex19
            refine g_istore cx [(4, .int x19), (0, .ref (ad 25)), (2, .int y1), (3, .int y2)] e_X2_landHere_28 (by decide) rfl ?_
            refine g_aload_n cx 1 rfl e_X2_landHere_30 ?_
            refine g_get cx cl_X2 fl_X2_15 25 (.ref (ad 27)) e_X2_landHere_31 rfl rfl ?_
            refine g_iload_n cx 2 rfl e_X2_landHere_34 ?_
            refine g_aload_n cx 1 rfl e_X2_landHere_35 ?_
            refine g_get cx cl_X2 fl_X2_18 25 (.int (F 402)) e_X2_landHere_36 rfl rfl ?_
            refine g_iast cx 27 (wX X ad F (g_u R3 27 (upd (R3 27) (Int32.toNatClampNeg y1) (F 402)))) e_X2_landHere_39 rfl (jv_ix 256 p17 (by decide)) rfl ?_
            obtain ⟨R21, hR21⟩ : ∃ z, z = g_u R3 27 (upd (R3 27) (Int32.toNatClampNeg y1) (F 402)) := ⟨_, rfl⟩
            rw [← hR21]
            have hk22 := k_ls hk20 hR21
            have oR21 : g_okR LA_wX R21 := by rw [hR21]; exact g_okR_u oR3 rfl
            have fR21 : g_fr mr_X2_landHere_25 R R21 := by rw [hR21]; exact g_fr_r fR3 rfl
            refine g_iload cx 0 rfl e_X2_landHere_40 ?_
            refine g_istore_n cx [(2, .int x19), (4, .int x19), (0, .ref (ad 25)), (3, .int y2)] e_X2_landHere_42 (by decide) rfl ?_
            obtain ⟨x23, ex23⟩ : ∃ z : Int32, z = y2 + Int32.ofInt 1 := ⟨_, rfl⟩
            have hk24 := k_ls hk22 (show x23 = y2 + 1 from ex23)
            refine g_iinc cx x23 [(3, .int x23), (2, .int x19), (4, .int x19), (0, .ref (ad 25))] 3 e_X2_landHere_43 rfl ex23.symm (by decide) rfl ?_
            have zx23 := jv_add 1 256 (show x23 = y2 + 1 from ex23) p7 (jv_k (x := 1) 1 (by decide)) (by decide)
            refine g_goto cx 4 e_X2_landHere_46 (by decide) ?_
            refine g_lsub [3, 1, 0] [(0, .ref (ad 25)), (2, .int x19), (3, .int x23)] rfl ?_
            exact ih4 R21 x19 x23 oR21 fR21 (jv_t x19) (jv_w zx23.2 (by decide)) (hk24.trans (by rw [hb4])) (Nat.lt_of_lt_of_le (show (2147483647 - x23.toInt).toNat < (2147483647 - y2.toInt).toNat from by have q0 := (jv_k (x := 0) 0 (by decide)).1; have q1 := (jv_k (x := 0) 0 (by decide)).2; have q2 := (jv_k (x := 1) 1 (by decide)).1; have q3 := (jv_k (x := 1) 1 (by decide)).2; have q4 := (jv_k (x := 256) 256 (by decide)).1; have q5 := (jv_k (x := 256) 256 (by decide)).2; have q6 := zx23.2.1; have q7 := zx23.2.2; have q8 := p17.1; have q9 := p17.2; have q10 := p7.1; have q11 := p7.2; have q12 := (gc_nle zc4); have q13 := (gc_nlt zc9); have q14 := (gc_nle zc14); have q15 := (g_eq0 zx23.1); omega) (Nat.le_of_lt_succ hm4))
  refine g_lsub [2, 1, 0] [(0, .ref (ad 25)), (2, .int a0), (3, .int 0)] rfl ?_
  exact J4 8589934592 R a0 0 hA (g_fr_rf R) (jv_t a0) (jv_w (jv_k (x := 0) 0 (by decide)) (by decide)) hk0 (show (2147483647 - (0 : Int32).toInt).toNat < 8589934592 from by have q0 := (jv_k (x := 0) 0 (by decide)).1; have q1 := (jv_k (x := 0) 0 (by decide)).2; omega)
def K_X3_pieces_c6_56 (F10 : Nat → Int32) (R11 : Nat → Nat → Int32) (y8 : Int32)  : (Nat → Int32) × (Nat → Nat → Int32) :=
  k_lt2 (sp_X2_landHere_25 F10 R11 y8) (fun F16 R17 => (F16, R17))
def KB_X3_pieces_c6_9 (b9 : (Nat → Int32) → (Nat → Nat → Int32) → (Int32) → (Int32) → (Nat → Int32) × (Nat → Nat → Int32))  (F10 : Nat → Int32) (R11 : Nat → Nat → Int32) (y8 : Int32) (y9 : Int32) : (Nat → Int32) × (Nat → Nat → Int32) :=
  if 200 ≤ y9 then K_X3_pieces_c6_56 F10 R11 y8 else k_lt (sp_X3_sign F10 R11) (fun r24 => if r24 = 38 then k_lt ((F10 531) + 1) (fun x33 => k_lt (upd F10 531 x33) (fun F35 => k_lt3 (sp_X2_emit_25 F35 R11 4 y8) (fun r37 F41 R42 => k_lt2 (sp_X3_piece_c6 F41 R42) (fun F48 R49 => k_lt (y9 + 1) (fun x51 => b9 F48 R49 r37 x51))))) else K_X3_pieces_c6_56 F10 R11 y8)
def K_X3_pieces_c6_9  : Nat → (Nat → Int32) → (Nat → Nat → Int32) → (Int32) → (Int32) → (Nat → Int32) × (Nat → Nat → Int32)
  | 0 => fun F10 R11 _ _ => (F10, R11)
  | n + 1 => KB_X3_pieces_c6_9 (K_X3_pieces_c6_9 n)
def sp_X3_pieces_c6 (F : Nat → Int32) (R : Nat → Nat → Int32) : (Nat → Int32) × (Nat → Nat → Int32) :=
  k_lt2 (sp_X3_piece_c6 F R) (fun F5 R6 => K_X3_pieces_c6_9 8589934592 F5 R6 (-1) 0)
theorem e_X3_pieces_0 : g_dc cX3_pieces 0 (.aload_n 0) 1 1 := ⟨by decide +kernel, rfl⟩
theorem e_X3_pieces_1 : g_dc cX3_pieces 1 (.iload_n 1) 1 2 := ⟨by decide +kernel, rfl⟩
theorem e_X3_pieces_2 : g_dc cX3_pieces 2 (.invokevirtual 86) 3 5 := ⟨by decide +kernel, rfl⟩
theorem e_X3_pieces_5 : g_dc cX3_pieces 5 (.iconst (-1)) 1 6 := ⟨by decide +kernel, rfl⟩
theorem e_X3_pieces_6 : g_dc cX3_pieces 6 (.istore_n 2) 1 7 := ⟨by decide +kernel, rfl⟩
theorem e_X3_pieces_7 : g_dc cX3_pieces 7 (.iconst 0) 1 8 := ⟨by decide +kernel, rfl⟩
theorem e_X3_pieces_8 : g_dc cX3_pieces 8 (.istore_n 3) 1 9 := ⟨by decide +kernel, rfl⟩
theorem e_X3_pieces_9 : g_dc cX3_pieces 9 (.iload_n 3) 1 10 := ⟨by decide +kernel, rfl⟩
theorem e_X3_pieces_10 : g_dc cX3_pieces 10 (.sipush 200) 3 13 := ⟨by decide +kernel, rfl⟩
theorem e_X3_pieces_13 : g_dc cX3_pieces 13 (.if_icmp .ge 43) 3 16 := ⟨by decide +kernel, rfl⟩
theorem e_X3_pieces_16 : g_dc cX3_pieces 16 (.aload_n 0) 1 17 := ⟨by decide +kernel, rfl⟩
theorem e_X3_pieces_17 : g_dc cX3_pieces 17 (.invokevirtual 42) 3 20 := ⟨by decide +kernel, rfl⟩
theorem e_X3_pieces_20 : g_dc cX3_pieces 20 (.bipush 38) 2 22 := ⟨by decide +kernel, rfl⟩
theorem e_X3_pieces_22 : g_dc cX3_pieces 22 (.if_icmp .ne 34) 3 25 := ⟨by decide +kernel, rfl⟩
theorem e_X3_pieces_25 : g_dc cX3_pieces 25 (.aload_n 0) 1 26 := ⟨by decide +kernel, rfl⟩
theorem e_X3_pieces_26 : g_dc cX3_pieces 26 (.dup) 1 27 := ⟨by decide +kernel, rfl⟩
theorem e_X3_pieces_27 : g_dc cX3_pieces 27 (.getfield 19) 3 30 := ⟨by decide +kernel, rfl⟩
theorem e_X3_pieces_30 : g_dc cX3_pieces 30 (.iconst 1) 1 31 := ⟨by decide +kernel, rfl⟩
theorem e_X3_pieces_31 : g_dc cX3_pieces 31 (.iadd) 1 32 := ⟨by decide +kernel, rfl⟩
theorem e_X3_pieces_32 : g_dc cX3_pieces 32 (.putfield 19) 3 35 := ⟨by decide +kernel, rfl⟩
theorem e_X3_pieces_35 : g_dc cX3_pieces 35 (.aload_n 0) 1 36 := ⟨by decide +kernel, rfl⟩
theorem e_X3_pieces_36 : g_dc cX3_pieces 36 (.getfield 25) 3 39 := ⟨by decide +kernel, rfl⟩
theorem e_X3_pieces_39 : g_dc cX3_pieces 39 (.iconst 4) 1 40 := ⟨by decide +kernel, rfl⟩
theorem e_X3_pieces_40 : g_dc cX3_pieces 40 (.iload_n 2) 1 41 := ⟨by decide +kernel, rfl⟩
theorem e_X3_pieces_41 : g_dc cX3_pieces 41 (.invokevirtual 66) 3 44 := ⟨by decide +kernel, rfl⟩
theorem e_X3_pieces_44 : g_dc cX3_pieces 44 (.istore_n 2) 1 45 := ⟨by decide +kernel, rfl⟩
theorem e_X3_pieces_45 : g_dc cX3_pieces 45 (.aload_n 0) 1 46 := ⟨by decide +kernel, rfl⟩
theorem e_X3_pieces_46 : g_dc cX3_pieces 46 (.iload_n 1) 1 47 := ⟨by decide +kernel, rfl⟩
theorem e_X3_pieces_47 : g_dc cX3_pieces 47 (.invokevirtual 86) 3 50 := ⟨by decide +kernel, rfl⟩
theorem e_X3_pieces_50 : g_dc cX3_pieces 50 (.iinc 3 1) 3 53 := ⟨by decide +kernel, rfl⟩
theorem e_X3_pieces_53 : g_dc cX3_pieces 53 (.goto (-44)) 3 56 := ⟨by decide +kernel, rfl⟩
theorem e_X3_pieces_56 : g_dc cX3_pieces 56 (.aload_n 0) 1 57 := ⟨by decide +kernel, rfl⟩
theorem e_X3_pieces_57 : g_dc cX3_pieces 57 (.getfield 25) 3 60 := ⟨by decide +kernel, rfl⟩
theorem e_X3_pieces_60 : g_dc cX3_pieces 60 (.iload_n 2) 1 61 := ⟨by decide +kernel, rfl⟩
theorem e_X3_pieces_61 : g_dc cX3_pieces 61 (.invokevirtual 83) 3 64 := ⟨by decide +kernel, rfl⟩
theorem e_X3_pieces_64 : g_dc cX3_pieces 64 (.return_) 1 65 := ⟨by decide +kernel, rfl⟩
def md_X3_pieces_c6 : List Nat := [402, 531, 532]
def mr_X3_pieces_c6 : List Nat := [26, 27]
set_option maxHeartbeats 4000000 in
set_option maxRecDepth 100000 in
theorem w_X3_pieces_c6 (l : Launch) (X : gX) (ad : Nat → Nat) (F : Nat → Int32) (R : Nat → Nat → Int32) (hI : g_ok LK_wX F) (hA : g_okR LA_wX R) : g_Cv l X yX3_pieces cX3_pieces 4 10 0 0 [.ref (ad 33), .int 6] (wX X ad F R) (fun w => ∃ (F' : Nat → Int32) (R' : Nat → Nat → Int32), w = wX X ad F' R' ∧ g_ok LK_wX F' ∧ g_okR LA_wX R' ∧ g_fr md_X3_pieces_c6 F F' ∧ g_fr mr_X3_pieces_c6 R R' ∧ (F', R') = sp_X3_pieces_c6 F R) := by
  refine g_mv (by decide +kernel) (Nat.le_of_ble_eq_true rfl) (fun E cx hret => ?_)
  obtain ⟨SP, hSP⟩ : ∃ z, z = sp_X3_pieces_c6 F R := ⟨_, rfl⟩
  have hk0 := hSP
  unfold sp_X3_pieces_c6 at hk0
  refine g_aload_n cx 0 rfl e_X3_pieces_0 ?_
  refine g_iload_n cx 1 rfl e_X3_pieces_1 ?_
  refine g_cVvW cx [.int 6] [] (w_X3_piece_c6 l X ad F R hI hA) ml_X3_86 yV_X3_piece e_X3_pieces_2 (by unfold g_rr; decide) (by decide) 33 rfl rfl rfl (Nat.le_of_ble_eq_true rfl) (fun w2 h3 => ?_)
  obtain ⟨F5, R6, rfl, oF5, oR6, cF5, cR6, hx4⟩ := h3
  have hk7 := k_ls2 hk0 hx4
  have fF5 : g_fr md_X3_pieces_c6 F F5 := g_fr_c (g_fr_rf F) cF5 rfl
  have fR6 : g_fr mr_X3_pieces_c6 R R6 := g_fr_c (g_fr_rf R) cR6 rfl
  refine g_iconst cx (-1) (by decide) e_X3_pieces_5 ?_
  refine g_istore_n cx [(2, .int (-1)), (0, .ref (ad 33)), (1, .int 6)] e_X3_pieces_6 (by decide) rfl ?_
  refine g_iconst cx 0 (by decide) e_X3_pieces_7 ?_
  refine g_istore_n cx [(3, .int 0), (2, .int (-1)), (0, .ref (ad 33)), (1, .int 6)] e_X3_pieces_8 (by decide) rfl ?_
  have J9 : ∀ (N : Nat) (F10 : Nat → Int32) (R11 : Nat → Nat → Int32) (y8 : Int32) (y9 : Int32), (g_ok LK_wX F10) → (g_fr md_X3_pieces_c6 F F10) → (g_okR LA_wX R11) → (g_fr mr_X3_pieces_c6 R R11) → (jv (-1) 256 y8) → (jv 0 200 y9) → (SP = K_X3_pieces_c6_9 N F10 R11 y8 y9) → (2147483647 - y9.toInt).toNat < N → G X E 4 0 0 (wX X ad F10 R11) [(0, .ref (ad 33)), (1, .int 6), (2, .int y8), (3, .int y9)] 9 [] := by
    intro N
    induction N with
    | zero => intro F10 R11 y8 y9 oF10 fF10 oR11 fR11 py8 py9 hkJ9 hm; exact absurd hm (Nat.not_lt_zero _)
    | succ N ih9 =>
      intro F10 R11 y8 y9 oF10 fF10 oR11 fR11 py8 py9 hkJ9 hm9
      have hkK9 : SP = KB_X3_pieces_c6_9 (K_X3_pieces_c6_9 N) F10 R11 y8 y9 := hkJ9
      obtain ⟨b9, hb9⟩ : ∃ z, z = K_X3_pieces_c6_9 N := ⟨_, rfl⟩
      rw [← hb9] at hkK9
      unfold KB_X3_pieces_c6_9 at hkK9
      refine g_iload_n cx 3 rfl e_X3_pieces_9 ?_
      refine g_sipush cx 200 (by decide) e_X3_pieces_10 ?_
      have J56 : (SP = K_X3_pieces_c6_56 F10 R11 y8) → G X E 4 0 0 (wX X ad F10 R11) [(0, .ref (ad 33)), (2, .int y8)] 56 [] := by
        intro   hkJ56
        unfold K_X3_pieces_c6_56 at hkJ56
        refine g_aload_n cx 0 rfl e_X3_pieces_56 ?_
        refine g_get cx cl_X3 fl_X3_25 33 (.ref (ad 25)) e_X3_pieces_57 rfl rfl ?_
        refine g_iload_n cx 1 rfl e_X3_pieces_60 ?_
        refine g_cVvW cx [.int y8] [] (w_X2_landHere_25 l X ad F10 R11 oF10 oR11 y8) ml_X3_83 yV_X2_landHere e_X3_pieces_61 (by unfold g_rr; decide) (by decide) 25 rfl rfl rfl (Nat.le_of_ble_eq_true rfl) (fun w13 h14 => ?_)
        obtain ⟨F16, R17, rfl, oF16, oR17, cF16, cR17, hx15⟩ := h14
        have hk18 := k_ls2 hkJ56 hx15
        have fF16 : g_fr md_X3_pieces_c6 F F16 := g_fr_c fF10 cF16 rfl
        have fR17 : g_fr mr_X3_pieces_c6 R R17 := g_fr_c fR11 cR17 rfl
        exact hret e_X3_pieces_64 (Nat.le_of_ble_eq_true rfl) (Nat.le_of_ble_eq_true rfl) ⟨F16, R17, rfl, oF16, oR17, fF16, fR17, (hk18.symm.trans hSP)⟩
      refine g_icmp_ge cx 56 e_X3_pieces_13 (by decide) (fun zc19 => ?_) (fun zc19 => ?_)
      · have p20 := gn_ge 200 200 (gc_le zc19) py9 (jv_k (x := 200) 200 (by decide)) (by decide)
        have hk21 := hkK9.trans (if_pos zc19)
        refine g_lsub [0, 2] [(0, .ref (ad 33)), (2, .int y8)] rfl ?_
        exact J56  hk21
      · have p22 := gn_lt 0 199 (gc_nle zc19) py9 (jv_k (x := 200) 200 (by decide)) (by decide)
        have hk23 := hkK9.trans (if_neg zc19)
        refine g_aload_n cx 0 rfl e_X3_pieces_16 ?_
        refine g_cViW cx [] [] (w_X3_sign l X ad F10 R11 oF10 oR11) ml_X3_42 yV_X3_sign e_X3_pieces_17 (by unfold g_rr; decide) (by decide) 33 rfl rfl rfl (Nat.le_of_ble_eq_true rfl) (fun r24 w25 h26 => ?_)
        obtain ⟨rfl, pr24, hx27⟩ := h26
        have hk28 := k_ls hk23 hx27
        refine g_bipush cx 38 (by decide) e_X3_pieces_20 ?_
        refine g_icmp_ne cx 56 e_X3_pieces_22 (by decide) (fun zc29 => ?_) (fun zc29 => ?_)
        · have hk30 := hk28.trans (if_neg zc29)
          refine g_lsub [0, 2] [(0, .ref (ad 33)), (2, .int y8)] rfl ?_
          exact J56  hk30
        · have p31 := gn_eq 38 38 (gc_eq zc29) pr24 (jv_k (x := 38) 38 (by decide)) (by decide)
          have hk32 := hk28.trans (if_pos zc29)
          refine g_aload_n cx 0 rfl e_X3_pieces_25 ?_
          refine g_dup cx rfl e_X3_pieces_26 ?_
          refine g_get cx cl_X3 fl_X3_19 33 (.int (F10 531)) e_X3_pieces_27 rfl rfl ?_
          refine g_iconst cx 1 (by decide) e_X3_pieces_30 ?_
          refine g_iadd cx e_X3_pieces_31 ?_
          refine g_topi (fun x33 ex33 => ?_)
          have hk34 := k_ls hk32 ex33
          refine g_put cx cl_X3 fl_X3_19 33 (wX X ad (upd F10 531 x33) R11) e_X3_pieces_32 rfl rfl rfl rfl (Nat.le_of_ble_eq_true rfl) rfl ?_
          obtain ⟨F35, hF35⟩ : ∃ z, z = upd F10 531 x33 := ⟨_, rfl⟩
          rw [← hF35]
          have hk36 := k_ls hk34 hF35
          have oF35 : g_ok LK_wX F35 := by rw [hF35]; exact g_ok_u oF10 rfl
          have fF35 : g_fr md_X3_pieces_c6 F F35 := by rw [hF35]; exact g_fr_u fF10 rfl
          refine g_aload_n cx 0 rfl e_X3_pieces_35 ?_
          refine g_get cx cl_X3 fl_X3_25 33 (.ref (ad 25)) e_X3_pieces_36 rfl rfl ?_
          refine g_iconst cx 4 (by decide) e_X3_pieces_39 ?_
          refine g_iload_n cx 2 rfl e_X3_pieces_40 ?_
          refine g_cViW cx [.int 4, .int y8] [] (w_X2_emit_25 l X ad F35 R11 oF35 oR11 4 y8) ml_X3_66 yV_X2_emit e_X3_pieces_41 (by unfold g_rr; decide) (by decide) 25 rfl rfl rfl (Nat.le_of_ble_eq_true rfl) (fun r37 w38 h39 => ?_)
          obtain ⟨F41, R42, rfl, oF41, oR42, cF41, cR42, pr37, hx40⟩ := h39
          have hk43 := k_ls3 hk36 hx40
          have fF41 : g_fr md_X3_pieces_c6 F F41 := g_fr_c fF35 cF41 rfl
          have fR42 : g_fr mr_X3_pieces_c6 R R42 := g_fr_c fR11 cR42 rfl
          refine g_istore_n cx [(2, .int r37), (0, .ref (ad 33)), (1, .int 6), (3, .int y9)] e_X3_pieces_44 (by decide) rfl ?_
          refine g_aload_n cx 1 rfl e_X3_pieces_45 ?_
          refine g_iload_n cx 2 rfl e_X3_pieces_46 ?_
          refine g_cVvW cx [.int 6] [] (w_X3_piece_c6 l X ad F41 R42 oF41 oR42) ml_X3_86 yV_X3_piece e_X3_pieces_47 (by unfold g_rr; decide) (by decide) 33 rfl rfl rfl (Nat.le_of_ble_eq_true rfl) (fun w45 h46 => ?_)
          obtain ⟨F48, R49, rfl, oF48, oR49, cF48, cR49, hx47⟩ := h46
          have hk50 := k_ls2 hk43 hx47
          have fF48 : g_fr md_X3_pieces_c6 F F48 := g_fr_c fF41 cF48 rfl
          have fR49 : g_fr mr_X3_pieces_c6 R R49 := g_fr_c fR42 cR49 rfl
          obtain ⟨x51, ex51⟩ : ∃ z : Int32, z = y9 + Int32.ofInt 1 := ⟨_, rfl⟩
          have hk52 := k_ls hk50 (show x51 = y9 + 1 from ex51)
          refine g_iinc cx x51 [(3, .int x51), (2, .int r37), (0, .ref (ad 33)), (1, .int 6)] 3 e_X3_pieces_50 rfl ex51.symm (by decide) rfl ?_
          have zx51 := jv_add 1 200 (show x51 = y9 + 1 from ex51) p22 (jv_k (x := 1) 1 (by decide)) (by decide)
          refine g_goto cx 9 e_X3_pieces_53 (by decide) ?_
          refine g_lsub [2, 3, 1, 0] [(0, .ref (ad 33)), (1, .int 6), (2, .int r37), (3, .int x51)] rfl ?_
          exact ih9 F48 R49 r37 x51 oF48 fF48 oR49 fR49 (jv_w pr37 (by decide)) (jv_w zx51.2 (by decide)) (hk52.trans (by rw [hb9])) (Nat.lt_of_lt_of_le (show (2147483647 - x51.toInt).toNat < (2147483647 - y9.toInt).toNat from by have q0 := (jv_k (x := 1) 1 (by decide)).1; have q1 := (jv_k (x := 1) 1 (by decide)).2; have q2 := (jv_k (x := 200) 200 (by decide)).1; have q3 := (jv_k (x := 200) 200 (by decide)).2; have q4 := zx51.2.1; have q5 := zx51.2.2; have q6 := p22.1; have q7 := p22.2; have q8 := (gc_nle zc19); have q9 := (g_eq0 zx51.1); omega) (Nat.le_of_lt_succ hm9))
  refine g_lsub [2, 3, 1, 0] [(0, .ref (ad 33)), (1, .int 6), (2, .int (-1)), (3, .int 0)] rfl ?_
  exact J9 8589934592 F5 R6 (-1) 0 oF5 fF5 oR6 fR6 (jv_w (jv_k (x := (-1)) (-1) (by decide)) (by decide)) (jv_w (jv_k (x := 0) 0 (by decide)) (by decide)) hk7 (show (2147483647 - (0 : Int32).toInt).toNat < 8589934592 from by have q0 := (jv_k (x := 0) 0 (by decide)).1; have q1 := (jv_k (x := 0) 0 (by decide)).2; omega)
def K_X3_parts_c6_56 (F10 : Nat → Int32) (R11 : Nat → Nat → Int32) (y8 : Int32)  : (Nat → Int32) × (Nat → Nat → Int32) :=
  k_lt2 (sp_X2_landHere_25 F10 R11 y8) (fun F16 R17 => (F16, R17))
def KB_X3_parts_c6_9 (b9 : (Nat → Int32) → (Nat → Nat → Int32) → (Int32) → (Int32) → (Nat → Int32) × (Nat → Nat → Int32))  (F10 : Nat → Int32) (R11 : Nat → Nat → Int32) (y8 : Int32) (y9 : Int32) : (Nat → Int32) × (Nat → Nat → Int32) :=
  if 200 ≤ y9 then K_X3_parts_c6_56 F10 R11 y8 else k_lt (sp_X3_sign F10 R11) (fun r24 => if r24 = 124 then k_lt ((F10 531) + 1) (fun x33 => k_lt (upd F10 531 x33) (fun F35 => k_lt3 (sp_X2_emit_25 F35 R11 5 y8) (fun r37 F41 R42 => k_lt2 (sp_X3_pieces_c6 F41 R42) (fun F48 R49 => k_lt (y9 + 1) (fun x51 => b9 F48 R49 r37 x51))))) else K_X3_parts_c6_56 F10 R11 y8)
def K_X3_parts_c6_9  : Nat → (Nat → Int32) → (Nat → Nat → Int32) → (Int32) → (Int32) → (Nat → Int32) × (Nat → Nat → Int32)
  | 0 => fun F10 R11 _ _ => (F10, R11)
  | n + 1 => KB_X3_parts_c6_9 (K_X3_parts_c6_9 n)
def sp_X3_parts_c6 (F : Nat → Int32) (R : Nat → Nat → Int32) : (Nat → Int32) × (Nat → Nat → Int32) :=
  k_lt2 (sp_X3_pieces_c6 F R) (fun F5 R6 => K_X3_parts_c6_9 8589934592 F5 R6 (-1) 0)
theorem e_X3_parts_0 : g_dc cX3_parts 0 (.aload_n 0) 1 1 := ⟨by decide +kernel, rfl⟩
theorem e_X3_parts_1 : g_dc cX3_parts 1 (.iload_n 1) 1 2 := ⟨by decide +kernel, rfl⟩
theorem e_X3_parts_2 : g_dc cX3_parts 2 (.invokevirtual 80) 3 5 := ⟨by decide +kernel, rfl⟩
theorem e_X3_parts_5 : g_dc cX3_parts 5 (.iconst (-1)) 1 6 := ⟨by decide +kernel, rfl⟩
theorem e_X3_parts_6 : g_dc cX3_parts 6 (.istore_n 2) 1 7 := ⟨by decide +kernel, rfl⟩
theorem e_X3_parts_7 : g_dc cX3_parts 7 (.iconst 0) 1 8 := ⟨by decide +kernel, rfl⟩
theorem e_X3_parts_8 : g_dc cX3_parts 8 (.istore_n 3) 1 9 := ⟨by decide +kernel, rfl⟩
theorem e_X3_parts_9 : g_dc cX3_parts 9 (.iload_n 3) 1 10 := ⟨by decide +kernel, rfl⟩
theorem e_X3_parts_10 : g_dc cX3_parts 10 (.sipush 200) 3 13 := ⟨by decide +kernel, rfl⟩
theorem e_X3_parts_13 : g_dc cX3_parts 13 (.if_icmp .ge 43) 3 16 := ⟨by decide +kernel, rfl⟩
theorem e_X3_parts_16 : g_dc cX3_parts 16 (.aload_n 0) 1 17 := ⟨by decide +kernel, rfl⟩
theorem e_X3_parts_17 : g_dc cX3_parts 17 (.invokevirtual 42) 3 20 := ⟨by decide +kernel, rfl⟩
theorem e_X3_parts_20 : g_dc cX3_parts 20 (.bipush 124) 2 22 := ⟨by decide +kernel, rfl⟩
theorem e_X3_parts_22 : g_dc cX3_parts 22 (.if_icmp .ne 34) 3 25 := ⟨by decide +kernel, rfl⟩
theorem e_X3_parts_25 : g_dc cX3_parts 25 (.aload_n 0) 1 26 := ⟨by decide +kernel, rfl⟩
theorem e_X3_parts_26 : g_dc cX3_parts 26 (.dup) 1 27 := ⟨by decide +kernel, rfl⟩
theorem e_X3_parts_27 : g_dc cX3_parts 27 (.getfield 19) 3 30 := ⟨by decide +kernel, rfl⟩
theorem e_X3_parts_30 : g_dc cX3_parts 30 (.iconst 1) 1 31 := ⟨by decide +kernel, rfl⟩
theorem e_X3_parts_31 : g_dc cX3_parts 31 (.iadd) 1 32 := ⟨by decide +kernel, rfl⟩
theorem e_X3_parts_32 : g_dc cX3_parts 32 (.putfield 19) 3 35 := ⟨by decide +kernel, rfl⟩
theorem e_X3_parts_35 : g_dc cX3_parts 35 (.aload_n 0) 1 36 := ⟨by decide +kernel, rfl⟩
theorem e_X3_parts_36 : g_dc cX3_parts 36 (.getfield 25) 3 39 := ⟨by decide +kernel, rfl⟩
theorem e_X3_parts_39 : g_dc cX3_parts 39 (.iconst 5) 1 40 := ⟨by decide +kernel, rfl⟩
theorem e_X3_parts_40 : g_dc cX3_parts 40 (.iload_n 2) 1 41 := ⟨by decide +kernel, rfl⟩
theorem e_X3_parts_41 : g_dc cX3_parts 41 (.invokevirtual 66) 3 44 := ⟨by decide +kernel, rfl⟩
theorem e_X3_parts_44 : g_dc cX3_parts 44 (.istore_n 2) 1 45 := ⟨by decide +kernel, rfl⟩
theorem e_X3_parts_45 : g_dc cX3_parts 45 (.aload_n 0) 1 46 := ⟨by decide +kernel, rfl⟩
theorem e_X3_parts_46 : g_dc cX3_parts 46 (.iload_n 1) 1 47 := ⟨by decide +kernel, rfl⟩
theorem e_X3_parts_47 : g_dc cX3_parts 47 (.invokevirtual 80) 3 50 := ⟨by decide +kernel, rfl⟩
theorem e_X3_parts_50 : g_dc cX3_parts 50 (.iinc 3 1) 3 53 := ⟨by decide +kernel, rfl⟩
theorem e_X3_parts_53 : g_dc cX3_parts 53 (.goto (-44)) 3 56 := ⟨by decide +kernel, rfl⟩
theorem e_X3_parts_56 : g_dc cX3_parts 56 (.aload_n 0) 1 57 := ⟨by decide +kernel, rfl⟩
theorem e_X3_parts_57 : g_dc cX3_parts 57 (.getfield 25) 3 60 := ⟨by decide +kernel, rfl⟩
theorem e_X3_parts_60 : g_dc cX3_parts 60 (.iload_n 2) 1 61 := ⟨by decide +kernel, rfl⟩
theorem e_X3_parts_61 : g_dc cX3_parts 61 (.invokevirtual 83) 3 64 := ⟨by decide +kernel, rfl⟩
theorem e_X3_parts_64 : g_dc cX3_parts 64 (.return_) 1 65 := ⟨by decide +kernel, rfl⟩
def md_X3_parts_c6 : List Nat := [402, 531, 532]
def mr_X3_parts_c6 : List Nat := [26, 27]
set_option maxHeartbeats 4000000 in
set_option maxRecDepth 100000 in
theorem w_X3_parts_c6 (l : Launch) (X : gX) (ad : Nat → Nat) (F : Nat → Int32) (R : Nat → Nat → Int32) (hI : g_ok LK_wX F) (hA : g_okR LA_wX R) : g_Cv l X yX3_parts cX3_parts 4 11 0 0 [.ref (ad 33), .int 6] (wX X ad F R) (fun w => ∃ (F' : Nat → Int32) (R' : Nat → Nat → Int32), w = wX X ad F' R' ∧ g_ok LK_wX F' ∧ g_okR LA_wX R' ∧ g_fr md_X3_parts_c6 F F' ∧ g_fr mr_X3_parts_c6 R R' ∧ (F', R') = sp_X3_parts_c6 F R) := by
  refine g_mv (by decide +kernel) (Nat.le_of_ble_eq_true rfl) (fun E cx hret => ?_)
  obtain ⟨SP, hSP⟩ : ∃ z, z = sp_X3_parts_c6 F R := ⟨_, rfl⟩
  have hk0 := hSP
  unfold sp_X3_parts_c6 at hk0
  refine g_aload_n cx 0 rfl e_X3_parts_0 ?_
  refine g_iload_n cx 1 rfl e_X3_parts_1 ?_
  refine g_cVvW cx [.int 6] [] (w_X3_pieces_c6 l X ad F R hI hA) ml_X3_80 yV_X3_pieces e_X3_parts_2 (by unfold g_rr; decide) (by decide) 33 rfl rfl rfl (Nat.le_of_ble_eq_true rfl) (fun w2 h3 => ?_)
  obtain ⟨F5, R6, rfl, oF5, oR6, cF5, cR6, hx4⟩ := h3
  have hk7 := k_ls2 hk0 hx4
  have fF5 : g_fr md_X3_parts_c6 F F5 := g_fr_c (g_fr_rf F) cF5 rfl
  have fR6 : g_fr mr_X3_parts_c6 R R6 := g_fr_c (g_fr_rf R) cR6 rfl
  refine g_iconst cx (-1) (by decide) e_X3_parts_5 ?_
  refine g_istore_n cx [(2, .int (-1)), (0, .ref (ad 33)), (1, .int 6)] e_X3_parts_6 (by decide) rfl ?_
  refine g_iconst cx 0 (by decide) e_X3_parts_7 ?_
  refine g_istore_n cx [(3, .int 0), (2, .int (-1)), (0, .ref (ad 33)), (1, .int 6)] e_X3_parts_8 (by decide) rfl ?_
  have J9 : ∀ (N : Nat) (F10 : Nat → Int32) (R11 : Nat → Nat → Int32) (y8 : Int32) (y9 : Int32), (g_ok LK_wX F10) → (g_fr md_X3_parts_c6 F F10) → (g_okR LA_wX R11) → (g_fr mr_X3_parts_c6 R R11) → (jv (-1) 256 y8) → (jv 0 200 y9) → (SP = K_X3_parts_c6_9 N F10 R11 y8 y9) → (2147483647 - y9.toInt).toNat < N → G X E 4 0 0 (wX X ad F10 R11) [(0, .ref (ad 33)), (1, .int 6), (2, .int y8), (3, .int y9)] 9 [] := by
    intro N
    induction N with
    | zero => intro F10 R11 y8 y9 oF10 fF10 oR11 fR11 py8 py9 hkJ9 hm; exact absurd hm (Nat.not_lt_zero _)
    | succ N ih9 =>
      intro F10 R11 y8 y9 oF10 fF10 oR11 fR11 py8 py9 hkJ9 hm9
      have hkK9 : SP = KB_X3_parts_c6_9 (K_X3_parts_c6_9 N) F10 R11 y8 y9 := hkJ9
      obtain ⟨b9, hb9⟩ : ∃ z, z = K_X3_parts_c6_9 N := ⟨_, rfl⟩
      rw [← hb9] at hkK9
      unfold KB_X3_parts_c6_9 at hkK9
      refine g_iload_n cx 3 rfl e_X3_parts_9 ?_
      refine g_sipush cx 200 (by decide) e_X3_parts_10 ?_
      have J56 : (SP = K_X3_parts_c6_56 F10 R11 y8) → G X E 4 0 0 (wX X ad F10 R11) [(0, .ref (ad 33)), (2, .int y8)] 56 [] := by
        intro   hkJ56
        unfold K_X3_parts_c6_56 at hkJ56
        refine g_aload_n cx 0 rfl e_X3_parts_56 ?_
        refine g_get cx cl_X3 fl_X3_25 33 (.ref (ad 25)) e_X3_parts_57 rfl rfl ?_
        refine g_iload_n cx 1 rfl e_X3_parts_60 ?_
        refine g_cVvW cx [.int y8] [] (w_X2_landHere_25 l X ad F10 R11 oF10 oR11 y8) ml_X3_83 yV_X2_landHere e_X3_parts_61 (by unfold g_rr; decide) (by decide) 25 rfl rfl rfl (Nat.le_of_ble_eq_true rfl) (fun w13 h14 => ?_)
        obtain ⟨F16, R17, rfl, oF16, oR17, cF16, cR17, hx15⟩ := h14
        have hk18 := k_ls2 hkJ56 hx15
        have fF16 : g_fr md_X3_parts_c6 F F16 := g_fr_c fF10 cF16 rfl
        have fR17 : g_fr mr_X3_parts_c6 R R17 := g_fr_c fR11 cR17 rfl
        exact hret e_X3_parts_64 (Nat.le_of_ble_eq_true rfl) (Nat.le_of_ble_eq_true rfl) ⟨F16, R17, rfl, oF16, oR17, fF16, fR17, (hk18.symm.trans hSP)⟩
      refine g_icmp_ge cx 56 e_X3_parts_13 (by decide) (fun zc19 => ?_) (fun zc19 => ?_)
      · have p20 := gn_ge 200 200 (gc_le zc19) py9 (jv_k (x := 200) 200 (by decide)) (by decide)
        have hk21 := hkK9.trans (if_pos zc19)
        refine g_lsub [0, 2] [(0, .ref (ad 33)), (2, .int y8)] rfl ?_
        exact J56  hk21
      · have p22 := gn_lt 0 199 (gc_nle zc19) py9 (jv_k (x := 200) 200 (by decide)) (by decide)
        have hk23 := hkK9.trans (if_neg zc19)
        refine g_aload_n cx 0 rfl e_X3_parts_16 ?_
        refine g_cViW cx [] [] (w_X3_sign l X ad F10 R11 oF10 oR11) ml_X3_42 yV_X3_sign e_X3_parts_17 (by unfold g_rr; decide) (by decide) 33 rfl rfl rfl (Nat.le_of_ble_eq_true rfl) (fun r24 w25 h26 => ?_)
        obtain ⟨rfl, pr24, hx27⟩ := h26
        have hk28 := k_ls hk23 hx27
        refine g_bipush cx 124 (by decide) e_X3_parts_20 ?_
        refine g_icmp_ne cx 56 e_X3_parts_22 (by decide) (fun zc29 => ?_) (fun zc29 => ?_)
        · have hk30 := hk28.trans (if_neg zc29)
          refine g_lsub [0, 2] [(0, .ref (ad 33)), (2, .int y8)] rfl ?_
          exact J56  hk30
        · have p31 := gn_eq 124 124 (gc_eq zc29) pr24 (jv_k (x := 124) 124 (by decide)) (by decide)
          have hk32 := hk28.trans (if_pos zc29)
          refine g_aload_n cx 0 rfl e_X3_parts_25 ?_
          refine g_dup cx rfl e_X3_parts_26 ?_
          refine g_get cx cl_X3 fl_X3_19 33 (.int (F10 531)) e_X3_parts_27 rfl rfl ?_
          refine g_iconst cx 1 (by decide) e_X3_parts_30 ?_
          refine g_iadd cx e_X3_parts_31 ?_
          refine g_topi (fun x33 ex33 => ?_)
          have hk34 := k_ls hk32 ex33
          refine g_put cx cl_X3 fl_X3_19 33 (wX X ad (upd F10 531 x33) R11) e_X3_parts_32 rfl rfl rfl rfl (Nat.le_of_ble_eq_true rfl) rfl ?_
          obtain ⟨F35, hF35⟩ : ∃ z, z = upd F10 531 x33 := ⟨_, rfl⟩
          rw [← hF35]
          have hk36 := k_ls hk34 hF35
          have oF35 : g_ok LK_wX F35 := by rw [hF35]; exact g_ok_u oF10 rfl
          have fF35 : g_fr md_X3_parts_c6 F F35 := by rw [hF35]; exact g_fr_u fF10 rfl
          refine g_aload_n cx 0 rfl e_X3_parts_35 ?_
          refine g_get cx cl_X3 fl_X3_25 33 (.ref (ad 25)) e_X3_parts_36 rfl rfl ?_
          refine g_iconst cx 5 (by decide) e_X3_parts_39 ?_
          refine g_iload_n cx 2 rfl e_X3_parts_40 ?_
          refine g_cViW cx [.int 5, .int y8] [] (w_X2_emit_25 l X ad F35 R11 oF35 oR11 5 y8) ml_X3_66 yV_X2_emit e_X3_parts_41 (by unfold g_rr; decide) (by decide) 25 rfl rfl rfl (Nat.le_of_ble_eq_true rfl) (fun r37 w38 h39 => ?_)
          obtain ⟨F41, R42, rfl, oF41, oR42, cF41, cR42, pr37, hx40⟩ := h39
          have hk43 := k_ls3 hk36 hx40
          have fF41 : g_fr md_X3_parts_c6 F F41 := g_fr_c fF35 cF41 rfl
          have fR42 : g_fr mr_X3_parts_c6 R R42 := g_fr_c fR11 cR42 rfl
          refine g_istore_n cx [(2, .int r37), (0, .ref (ad 33)), (1, .int 6), (3, .int y9)] e_X3_parts_44 (by decide) rfl ?_
          refine g_aload_n cx 1 rfl e_X3_parts_45 ?_
          refine g_iload_n cx 2 rfl e_X3_parts_46 ?_
          refine g_cVvW cx [.int 6] [] (w_X3_pieces_c6 l X ad F41 R42 oF41 oR42) ml_X3_80 yV_X3_pieces e_X3_parts_47 (by unfold g_rr; decide) (by decide) 33 rfl rfl rfl (Nat.le_of_ble_eq_true rfl) (fun w45 h46 => ?_)
          obtain ⟨F48, R49, rfl, oF48, oR49, cF48, cR49, hx47⟩ := h46
          have hk50 := k_ls2 hk43 hx47
          have fF48 : g_fr md_X3_parts_c6 F F48 := g_fr_c fF41 cF48 rfl
          have fR49 : g_fr mr_X3_parts_c6 R R49 := g_fr_c fR42 cR49 rfl
          obtain ⟨x51, ex51⟩ : ∃ z : Int32, z = y9 + Int32.ofInt 1 := ⟨_, rfl⟩
          have hk52 := k_ls hk50 (show x51 = y9 + 1 from ex51)
          refine g_iinc cx x51 [(3, .int x51), (2, .int r37), (0, .ref (ad 33)), (1, .int 6)] 3 e_X3_parts_50 rfl ex51.symm (by decide) rfl ?_
          have zx51 := jv_add 1 200 (show x51 = y9 + 1 from ex51) p22 (jv_k (x := 1) 1 (by decide)) (by decide)
          refine g_goto cx 9 e_X3_parts_53 (by decide) ?_
          refine g_lsub [2, 3, 1, 0] [(0, .ref (ad 33)), (1, .int 6), (2, .int r37), (3, .int x51)] rfl ?_
          exact ih9 F48 R49 r37 x51 oF48 fF48 oR49 fR49 (jv_w pr37 (by decide)) (jv_w zx51.2 (by decide)) (hk52.trans (by rw [hb9])) (Nat.lt_of_lt_of_le (show (2147483647 - x51.toInt).toNat < (2147483647 - y9.toInt).toNat from by have q0 := (jv_k (x := 1) 1 (by decide)).1; have q1 := (jv_k (x := 1) 1 (by decide)).2; have q2 := (jv_k (x := 200) 200 (by decide)).1; have q3 := (jv_k (x := 200) 200 (by decide)).2; have q4 := zx51.2.1; have q5 := zx51.2.2; have q6 := p22.1; have q7 := p22.2; have q8 := (gc_nle zc19); have q9 := (g_eq0 zx51.1); omega) (Nat.le_of_lt_succ hm9))
  refine g_lsub [2, 3, 1, 0] [(0, .ref (ad 33)), (1, .int 6), (2, .int (-1)), (3, .int 0)] rfl ?_
  exact J9 8589934592 F5 R6 (-1) 0 oF5 fF5 oR6 fR6 (jv_w (jv_k (x := (-1)) (-1) (by decide)) (by decide)) (jv_w (jv_k (x := 0) 0 (by decide)) (by decide)) hk7 (show (2147483647 - (0 : Int32).toInt).toNat < 8589934592 from by have q0 := (jv_k (x := 0) 0 (by decide)).1; have q1 := (jv_k (x := 0) 0 (by decide)).2; omega)
def K_X3_piece_c5_75  (F6 : Nat → Int32) (R7 : Nat → Nat → Int32) : (Nat → Int32) × (Nat → Nat → Int32) :=
  (F6, R7)
def sp_X3_piece_c5 (F : Nat → Int32) (R : Nat → Nat → Int32) : (Nat → Int32) × (Nat → Nat → Int32) :=
  k_lt (sp_X3_sign F R) (fun r1 => if r1 = 33 then k_lt3 (sp_X3_opens_c5 F R) (fun r50 F54 R55 => k_lt2 (sp_X3_piece_c6 F54 R55) (fun F62 R63 => k_lt3 (sp_X2_emit_25 F62 R63 3 0) (fun r65 F69 R70 => K_X3_piece_c5_75 F69 R70))) else k_lt (sp_X3_sign F R) (fun r10 => if r10 = 40 then k_lt3 (sp_X3_opens_c5 F R) (fun r26 F30 R31 => k_lt2 (sp_X3_parts_c6 F30 R31) (fun F38 R39 => k_lt2 (sp_X3_pass F38 R39 41) (fun F45 R46 => K_X3_piece_c5_75 F45 R46))) else k_lt2 (sp_X3_comparison_c5 F R) (fun F21 R22 => K_X3_piece_c5_75 F21 R22)))
theorem e_X3_piece_17 : g_dc cX3_piece 17 (.aload_n 0) 1 18 := ⟨by decide +kernel, rfl⟩
theorem e_X3_piece_18 : g_dc cX3_piece 18 (.iload_n 1) 1 19 := ⟨by decide +kernel, rfl⟩
theorem e_X3_piece_19 : g_dc cX3_piece 19 (.iconst 1) 1 20 := ⟨by decide +kernel, rfl⟩
theorem e_X3_piece_20 : g_dc cX3_piece 20 (.iadd) 1 21 := ⟨by decide +kernel, rfl⟩
theorem e_X3_piece_21 : g_dc cX3_piece 21 (.invokevirtual 86) 3 24 := ⟨by decide +kernel, rfl⟩
theorem e_X3_piece_24 : g_dc cX3_piece 24 (.aload_n 0) 1 25 := ⟨by decide +kernel, rfl⟩
theorem e_X3_piece_25 : g_dc cX3_piece 25 (.getfield 25) 3 28 := ⟨by decide +kernel, rfl⟩
theorem e_X3_piece_28 : g_dc cX3_piece 28 (.iconst 3) 1 29 := ⟨by decide +kernel, rfl⟩
theorem e_X3_piece_29 : g_dc cX3_piece 29 (.iconst 0) 1 30 := ⟨by decide +kernel, rfl⟩
theorem e_X3_piece_30 : g_dc cX3_piece 30 (.invokevirtual 66) 3 33 := ⟨by decide +kernel, rfl⟩
theorem e_X3_piece_33 : g_dc cX3_piece 33 (.pop) 1 34 := ⟨by decide +kernel, rfl⟩
theorem e_X3_piece_34 : g_dc cX3_piece 34 (.goto 41) 3 37 := ⟨by decide +kernel, rfl⟩
theorem e_X3_piece_54 : g_dc cX3_piece 54 (.aload_n 0) 1 55 := ⟨by decide +kernel, rfl⟩
theorem e_X3_piece_55 : g_dc cX3_piece 55 (.iload_n 1) 1 56 := ⟨by decide +kernel, rfl⟩
theorem e_X3_piece_56 : g_dc cX3_piece 56 (.iconst 1) 1 57 := ⟨by decide +kernel, rfl⟩
theorem e_X3_piece_57 : g_dc cX3_piece 57 (.iadd) 1 58 := ⟨by decide +kernel, rfl⟩
theorem e_X3_piece_58 : g_dc cX3_piece 58 (.invokevirtual 73) 3 61 := ⟨by decide +kernel, rfl⟩
theorem e_X3_piece_61 : g_dc cX3_piece 61 (.aload_n 0) 1 62 := ⟨by decide +kernel, rfl⟩
theorem e_X3_piece_62 : g_dc cX3_piece 62 (.bipush 41) 2 64 := ⟨by decide +kernel, rfl⟩
theorem e_X3_piece_64 : g_dc cX3_piece 64 (.invokevirtual 70) 3 67 := ⟨by decide +kernel, rfl⟩
theorem e_X3_piece_67 : g_dc cX3_piece 67 (.goto 8) 3 70 := ⟨by decide +kernel, rfl⟩
def md_X3_piece_c5 : List Nat := [402, 531, 532]
def mr_X3_piece_c5 : List Nat := [26, 27]
set_option maxHeartbeats 4000000 in
set_option maxRecDepth 100000 in
theorem w_X3_piece_c5 (l : Launch) (X : gX) (ad : Nat → Nat) (F : Nat → Int32) (R : Nat → Nat → Int32) (hI : g_ok LK_wX F) (hA : g_okR LA_wX R) : g_Cv l X yX3_piece cX3_piece 2 12 0 0 [.ref (ad 33), .int 5] (wX X ad F R) (fun w => ∃ (F' : Nat → Int32) (R' : Nat → Nat → Int32), w = wX X ad F' R' ∧ g_ok LK_wX F' ∧ g_okR LA_wX R' ∧ g_fr md_X3_piece_c5 F F' ∧ g_fr mr_X3_piece_c5 R R' ∧ (F', R') = sp_X3_piece_c5 F R) := by
  refine g_mv (by decide +kernel) (Nat.le_of_ble_eq_true rfl) (fun E cx hret => ?_)
  obtain ⟨SP, hSP⟩ : ∃ z, z = sp_X3_piece_c5 F R := ⟨_, rfl⟩
  have hk0 := hSP
  unfold sp_X3_piece_c5 at hk0
  refine g_aload_n cx 0 rfl e_X3_piece_0 ?_
  refine g_cViW cx [] [] (w_X3_sign l X ad F R hI hA) ml_X3_42 yV_X3_sign e_X3_piece_1 (by unfold g_rr; decide) (by decide) 33 rfl rfl rfl (Nat.le_of_ble_eq_true rfl) (fun r1 w2 h3 => ?_)
  obtain ⟨rfl, pr1, hx4⟩ := h3
  have hk5 := k_ls hk0 hx4
  refine g_bipush cx 33 (by decide) e_X3_piece_4 ?_
  have J75 : ∀ (F6 : Nat → Int32) (R7 : Nat → Nat → Int32), (g_ok LK_wX F6) → (g_fr md_X3_piece_c5 F F6) → (g_okR LA_wX R7) → (g_fr mr_X3_piece_c5 R R7) → (SP = K_X3_piece_c5_75 F6 R7) → G X E 2 0 0 (wX X ad F6 R7) [] 75 [] := by
    intro F6 R7 oF6 fF6 oR7 fR7 hkJ75
    unfold K_X3_piece_c5_75 at hkJ75
    exact hret e_X3_piece_75 (Nat.le_of_ble_eq_true rfl) (Nat.le_of_ble_eq_true rfl) ⟨F6, R7, rfl, oF6, oR7, fF6, fR7, (hkJ75.symm.trans hSP)⟩
  refine g_icmp_ne cx 37 e_X3_piece_6 (by decide) (fun zc8 => ?_) (fun zc8 => ?_)
  · have hk9 := hk5.trans (if_neg zc8)
    refine g_aload_n cx 0 rfl e_X3_piece_37 ?_
    refine g_cViW cx [] [] (w_X3_sign l X ad F R hI hA) ml_X3_42 yV_X3_sign e_X3_piece_38 (by unfold g_rr; decide) (by decide) 33 rfl rfl rfl (Nat.le_of_ble_eq_true rfl) (fun r10 w11 h12 => ?_)
    obtain ⟨rfl, pr10, hx13⟩ := h12
    have hk14 := k_ls hk9 hx13
    refine g_bipush cx 40 (by decide) e_X3_piece_41 ?_
    refine g_icmp_ne cx 70 e_X3_piece_43 (by decide) (fun zc15 => ?_) (fun zc15 => ?_)
    · have hk16 := hk14.trans (if_neg zc15)
      refine g_aload_n cx 0 rfl e_X3_piece_70 ?_
      refine g_iload_n cx 1 rfl e_X3_piece_71 ?_
      refine g_cVvW cx [.int 5] [] (w_X3_comparison_c5 l X ad F R hI hA) ml_X3_93 yV_X3_comparison e_X3_piece_72 (by unfold g_rr; decide) (by decide) 33 rfl rfl rfl (Nat.le_of_ble_eq_true rfl) (fun w18 h19 => ?_)
      obtain ⟨F21, R22, rfl, oF21, oR22, cF21, cR22, hx20⟩ := h19
      have hk23 := k_ls2 hk16 hx20
      have fF21 : g_fr md_X3_piece_c5 F F21 := g_fr_c (g_fr_rf F) cF21 rfl
      have fR22 : g_fr mr_X3_piece_c5 R R22 := g_fr_c (g_fr_rf R) cR22 rfl
      refine g_lsub [] [] rfl ?_
      exact J75 F21 R22 oF21 fF21 oR22 fR22 hk23
    · have p24 := gn_eq 40 40 (gc_eq zc15) pr10 (jv_k (x := 40) 40 (by decide)) (by decide)
      have hk25 := hk14.trans (if_pos zc15)
      refine g_aload_n cx 0 rfl e_X3_piece_46 ?_
      refine g_iload_n cx 1 rfl e_X3_piece_47 ?_
      refine g_cViW cx [.int 5] [] (w_X3_opens_c5 l X ad F R hI hA) ml_X3_89 yV_X3_opens e_X3_piece_48 (by unfold g_rr; decide) (by decide) 33 rfl rfl rfl (Nat.le_of_ble_eq_true rfl) (fun r26 w27 h28 => ?_)
      obtain ⟨F30, R31, rfl, oF30, oR31, cF30, cR31, pr26, hx29⟩ := h28
      have hk32 := k_ls3 hk25 hx29
      have fF30 : g_fr md_X3_piece_c5 F F30 := g_fr_c (g_fr_rf F) cF30 rfl
      have fR31 : g_fr mr_X3_piece_c5 R R31 := g_fr_c (g_fr_rf R) cR31 rfl
      refine g_if_eq cx 75 e_X3_piece_51 (by decide) (fun zc33 => ?_) (fun zc33 => ?_)
      · exact (gf_eq (gc_eq zc33) pr26 (jv_k (x := 0) 0 (by decide)) (by decide)).elim
      · refine g_aload_n cx 0 rfl e_X3_piece_54 ?_
        refine g_iload_n cx 1 rfl e_X3_piece_55 ?_
        refine g_iconst cx 1 (by decide) e_X3_piece_56 ?_
        refine g_iadd cx e_X3_piece_57 ?_
        refine g_toi 6 (by decide) ?_
        refine g_cVvW cx [.int 6] [] (w_X3_parts_c6 l X ad F30 R31 oF30 oR31) ml_X3_73 yV_X3_parts e_X3_piece_58 (by unfold g_rr; decide) (by decide) 33 rfl rfl rfl (Nat.le_of_ble_eq_true rfl) (fun w35 h36 => ?_)
        obtain ⟨F38, R39, rfl, oF38, oR39, cF38, cR39, hx37⟩ := h36
        have hk40 := k_ls2 hk32 hx37
        have fF38 : g_fr md_X3_piece_c5 F F38 := g_fr_c fF30 cF38 rfl
        have fR39 : g_fr mr_X3_piece_c5 R R39 := g_fr_c fR31 cR39 rfl
        refine g_aload_n cx 0 rfl e_X3_piece_61 ?_
        refine g_bipush cx 41 (by decide) e_X3_piece_62 ?_
        refine g_cVvW cx [.int 41] [] (w_X3_pass l X ad F38 R39 oF38 oR39 41) ml_X3_70 yV_X3_pass e_X3_piece_64 (by unfold g_rr; decide) (by decide) 33 rfl rfl rfl (Nat.le_of_ble_eq_true rfl) (fun w42 h43 => ?_)
        obtain ⟨F45, R46, rfl, oF45, oR46, cF45, cR46, hx44⟩ := h43
        have hk47 := k_ls2 hk40 hx44
        have fF45 : g_fr md_X3_piece_c5 F F45 := g_fr_c fF38 cF45 rfl
        have fR46 : g_fr mr_X3_piece_c5 R R46 := g_fr_c fR39 cR46 rfl
        refine g_goto cx 75 e_X3_piece_67 (by decide) ?_
        refine g_lsub [] [] rfl ?_
        exact J75 F45 R46 oF45 fF45 oR46 fR46 hk47
  · have p48 := gn_eq 33 33 (gc_eq zc8) pr1 (jv_k (x := 33) 33 (by decide)) (by decide)
    have hk49 := hk5.trans (if_pos zc8)
    refine g_aload_n cx 0 rfl e_X3_piece_9 ?_
    refine g_iload_n cx 1 rfl e_X3_piece_10 ?_
    refine g_cViW cx [.int 5] [] (w_X3_opens_c5 l X ad F R hI hA) ml_X3_89 yV_X3_opens e_X3_piece_11 (by unfold g_rr; decide) (by decide) 33 rfl rfl rfl (Nat.le_of_ble_eq_true rfl) (fun r50 w51 h52 => ?_)
    obtain ⟨F54, R55, rfl, oF54, oR55, cF54, cR55, pr50, hx53⟩ := h52
    have hk56 := k_ls3 hk49 hx53
    have fF54 : g_fr md_X3_piece_c5 F F54 := g_fr_c (g_fr_rf F) cF54 rfl
    have fR55 : g_fr mr_X3_piece_c5 R R55 := g_fr_c (g_fr_rf R) cR55 rfl
    refine g_if_eq cx 75 e_X3_piece_14 (by decide) (fun zc57 => ?_) (fun zc57 => ?_)
    · exact (gf_eq (gc_eq zc57) pr50 (jv_k (x := 0) 0 (by decide)) (by decide)).elim
    · refine g_aload_n cx 0 rfl e_X3_piece_17 ?_
      refine g_iload_n cx 1 rfl e_X3_piece_18 ?_
      refine g_iconst cx 1 (by decide) e_X3_piece_19 ?_
      refine g_iadd cx e_X3_piece_20 ?_
      refine g_toi 6 (by decide) ?_
      refine g_cVvW cx [.int 6] [] (w_X3_piece_c6 l X ad F54 R55 oF54 oR55) ml_X3_86 yV_X3_piece e_X3_piece_21 (by unfold g_rr; decide) (by decide) 33 rfl rfl rfl (Nat.le_of_ble_eq_true rfl) (fun w59 h60 => ?_)
      obtain ⟨F62, R63, rfl, oF62, oR63, cF62, cR63, hx61⟩ := h60
      have hk64 := k_ls2 hk56 hx61
      have fF62 : g_fr md_X3_piece_c5 F F62 := g_fr_c fF54 cF62 rfl
      have fR63 : g_fr mr_X3_piece_c5 R R63 := g_fr_c fR55 cR63 rfl
      refine g_aload_n cx 0 rfl e_X3_piece_24 ?_
      refine g_get cx cl_X3 fl_X3_25 33 (.ref (ad 25)) e_X3_piece_25 rfl rfl ?_
      refine g_iconst cx 3 (by decide) e_X3_piece_28 ?_
      refine g_iconst cx 0 (by decide) e_X3_piece_29 ?_
      refine g_cViW cx [.int 3, .int 0] [] (w_X2_emit_25 l X ad F62 R63 oF62 oR63 3 0) ml_X3_66 yV_X2_emit e_X3_piece_30 (by unfold g_rr; decide) (by decide) 25 rfl rfl rfl (Nat.le_of_ble_eq_true rfl) (fun r65 w66 h67 => ?_)
      obtain ⟨F69, R70, rfl, oF69, oR70, cF69, cR70, pr65, hx68⟩ := h67
      have hk71 := k_ls3 hk64 hx68
      have fF69 : g_fr md_X3_piece_c5 F F69 := g_fr_c fF62 cF69 rfl
      have fR70 : g_fr mr_X3_piece_c5 R R70 := g_fr_c fR63 cR70 rfl
      refine g_pop cx rfl e_X3_piece_33 ?_
      refine g_goto cx 75 e_X3_piece_34 (by decide) ?_
      refine g_lsub [] [] rfl ?_
      exact J75 F69 R70 oF69 fF69 oR70 fR70 hk71
def K_X3_pieces_c5_56 (F10 : Nat → Int32) (R11 : Nat → Nat → Int32) (y8 : Int32)  : (Nat → Int32) × (Nat → Nat → Int32) :=
  k_lt2 (sp_X2_landHere_25 F10 R11 y8) (fun F16 R17 => (F16, R17))
def KB_X3_pieces_c5_9 (b9 : (Nat → Int32) → (Nat → Nat → Int32) → (Int32) → (Int32) → (Nat → Int32) × (Nat → Nat → Int32))  (F10 : Nat → Int32) (R11 : Nat → Nat → Int32) (y8 : Int32) (y9 : Int32) : (Nat → Int32) × (Nat → Nat → Int32) :=
  if 200 ≤ y9 then K_X3_pieces_c5_56 F10 R11 y8 else k_lt (sp_X3_sign F10 R11) (fun r24 => if r24 = 38 then k_lt ((F10 531) + 1) (fun x33 => k_lt (upd F10 531 x33) (fun F35 => k_lt3 (sp_X2_emit_25 F35 R11 4 y8) (fun r37 F41 R42 => k_lt2 (sp_X3_piece_c5 F41 R42) (fun F48 R49 => k_lt (y9 + 1) (fun x51 => b9 F48 R49 r37 x51))))) else K_X3_pieces_c5_56 F10 R11 y8)
def K_X3_pieces_c5_9  : Nat → (Nat → Int32) → (Nat → Nat → Int32) → (Int32) → (Int32) → (Nat → Int32) × (Nat → Nat → Int32)
  | 0 => fun F10 R11 _ _ => (F10, R11)
  | n + 1 => KB_X3_pieces_c5_9 (K_X3_pieces_c5_9 n)
def sp_X3_pieces_c5 (F : Nat → Int32) (R : Nat → Nat → Int32) : (Nat → Int32) × (Nat → Nat → Int32) :=
  k_lt2 (sp_X3_piece_c5 F R) (fun F5 R6 => K_X3_pieces_c5_9 8589934592 F5 R6 (-1) 0)
def md_X3_pieces_c5 : List Nat := [402, 531, 532]
def mr_X3_pieces_c5 : List Nat := [26, 27]
set_option maxHeartbeats 4000000 in
set_option maxRecDepth 100000 in
theorem w_X3_pieces_c5 (l : Launch) (X : gX) (ad : Nat → Nat) (F : Nat → Int32) (R : Nat → Nat → Int32) (hI : g_ok LK_wX F) (hA : g_okR LA_wX R) : g_Cv l X yX3_pieces cX3_pieces 4 13 0 0 [.ref (ad 33), .int 5] (wX X ad F R) (fun w => ∃ (F' : Nat → Int32) (R' : Nat → Nat → Int32), w = wX X ad F' R' ∧ g_ok LK_wX F' ∧ g_okR LA_wX R' ∧ g_fr md_X3_pieces_c5 F F' ∧ g_fr mr_X3_pieces_c5 R R' ∧ (F', R') = sp_X3_pieces_c5 F R) := by
  refine g_mv (by decide +kernel) (Nat.le_of_ble_eq_true rfl) (fun E cx hret => ?_)
  obtain ⟨SP, hSP⟩ : ∃ z, z = sp_X3_pieces_c5 F R := ⟨_, rfl⟩
  have hk0 := hSP
  unfold sp_X3_pieces_c5 at hk0
  refine g_aload_n cx 0 rfl e_X3_pieces_0 ?_
  refine g_iload_n cx 1 rfl e_X3_pieces_1 ?_
  refine g_cVvW cx [.int 5] [] (w_X3_piece_c5 l X ad F R hI hA) ml_X3_86 yV_X3_piece e_X3_pieces_2 (by unfold g_rr; decide) (by decide) 33 rfl rfl rfl (Nat.le_of_ble_eq_true rfl) (fun w2 h3 => ?_)
  obtain ⟨F5, R6, rfl, oF5, oR6, cF5, cR6, hx4⟩ := h3
  have hk7 := k_ls2 hk0 hx4
  have fF5 : g_fr md_X3_pieces_c5 F F5 := g_fr_c (g_fr_rf F) cF5 rfl
  have fR6 : g_fr mr_X3_pieces_c5 R R6 := g_fr_c (g_fr_rf R) cR6 rfl
  refine g_iconst cx (-1) (by decide) e_X3_pieces_5 ?_
  refine g_istore_n cx [(2, .int (-1)), (0, .ref (ad 33)), (1, .int 5)] e_X3_pieces_6 (by decide) rfl ?_
  refine g_iconst cx 0 (by decide) e_X3_pieces_7 ?_
  refine g_istore_n cx [(3, .int 0), (2, .int (-1)), (0, .ref (ad 33)), (1, .int 5)] e_X3_pieces_8 (by decide) rfl ?_
  have J9 : ∀ (N : Nat) (F10 : Nat → Int32) (R11 : Nat → Nat → Int32) (y8 : Int32) (y9 : Int32), (g_ok LK_wX F10) → (g_fr md_X3_pieces_c5 F F10) → (g_okR LA_wX R11) → (g_fr mr_X3_pieces_c5 R R11) → (jv (-1) 256 y8) → (jv 0 200 y9) → (SP = K_X3_pieces_c5_9 N F10 R11 y8 y9) → (2147483647 - y9.toInt).toNat < N → G X E 4 0 0 (wX X ad F10 R11) [(0, .ref (ad 33)), (1, .int 5), (2, .int y8), (3, .int y9)] 9 [] := by
    intro N
    induction N with
    | zero => intro F10 R11 y8 y9 oF10 fF10 oR11 fR11 py8 py9 hkJ9 hm; exact absurd hm (Nat.not_lt_zero _)
    | succ N ih9 =>
      intro F10 R11 y8 y9 oF10 fF10 oR11 fR11 py8 py9 hkJ9 hm9
      have hkK9 : SP = KB_X3_pieces_c5_9 (K_X3_pieces_c5_9 N) F10 R11 y8 y9 := hkJ9
      obtain ⟨b9, hb9⟩ : ∃ z, z = K_X3_pieces_c5_9 N := ⟨_, rfl⟩
      rw [← hb9] at hkK9
      unfold KB_X3_pieces_c5_9 at hkK9
      refine g_iload_n cx 3 rfl e_X3_pieces_9 ?_
      refine g_sipush cx 200 (by decide) e_X3_pieces_10 ?_
      have J56 : (SP = K_X3_pieces_c5_56 F10 R11 y8) → G X E 4 0 0 (wX X ad F10 R11) [(0, .ref (ad 33)), (2, .int y8)] 56 [] := by
        intro   hkJ56
        unfold K_X3_pieces_c5_56 at hkJ56
        refine g_aload_n cx 0 rfl e_X3_pieces_56 ?_
        refine g_get cx cl_X3 fl_X3_25 33 (.ref (ad 25)) e_X3_pieces_57 rfl rfl ?_
        refine g_iload_n cx 1 rfl e_X3_pieces_60 ?_
        refine g_cVvW cx [.int y8] [] (w_X2_landHere_25 l X ad F10 R11 oF10 oR11 y8) ml_X3_83 yV_X2_landHere e_X3_pieces_61 (by unfold g_rr; decide) (by decide) 25 rfl rfl rfl (Nat.le_of_ble_eq_true rfl) (fun w13 h14 => ?_)
        obtain ⟨F16, R17, rfl, oF16, oR17, cF16, cR17, hx15⟩ := h14
        have hk18 := k_ls2 hkJ56 hx15
        have fF16 : g_fr md_X3_pieces_c5 F F16 := g_fr_c fF10 cF16 rfl
        have fR17 : g_fr mr_X3_pieces_c5 R R17 := g_fr_c fR11 cR17 rfl
        exact hret e_X3_pieces_64 (Nat.le_of_ble_eq_true rfl) (Nat.le_of_ble_eq_true rfl) ⟨F16, R17, rfl, oF16, oR17, fF16, fR17, (hk18.symm.trans hSP)⟩
      refine g_icmp_ge cx 56 e_X3_pieces_13 (by decide) (fun zc19 => ?_) (fun zc19 => ?_)
      · have p20 := gn_ge 200 200 (gc_le zc19) py9 (jv_k (x := 200) 200 (by decide)) (by decide)
        have hk21 := hkK9.trans (if_pos zc19)
        refine g_lsub [0, 2] [(0, .ref (ad 33)), (2, .int y8)] rfl ?_
        exact J56  hk21
      · have p22 := gn_lt 0 199 (gc_nle zc19) py9 (jv_k (x := 200) 200 (by decide)) (by decide)
        have hk23 := hkK9.trans (if_neg zc19)
        refine g_aload_n cx 0 rfl e_X3_pieces_16 ?_
        refine g_cViW cx [] [] (w_X3_sign l X ad F10 R11 oF10 oR11) ml_X3_42 yV_X3_sign e_X3_pieces_17 (by unfold g_rr; decide) (by decide) 33 rfl rfl rfl (Nat.le_of_ble_eq_true rfl) (fun r24 w25 h26 => ?_)
        obtain ⟨rfl, pr24, hx27⟩ := h26
        have hk28 := k_ls hk23 hx27
        refine g_bipush cx 38 (by decide) e_X3_pieces_20 ?_
        refine g_icmp_ne cx 56 e_X3_pieces_22 (by decide) (fun zc29 => ?_) (fun zc29 => ?_)
        · have hk30 := hk28.trans (if_neg zc29)
          refine g_lsub [0, 2] [(0, .ref (ad 33)), (2, .int y8)] rfl ?_
          exact J56  hk30
        · have p31 := gn_eq 38 38 (gc_eq zc29) pr24 (jv_k (x := 38) 38 (by decide)) (by decide)
          have hk32 := hk28.trans (if_pos zc29)
          refine g_aload_n cx 0 rfl e_X3_pieces_25 ?_
          refine g_dup cx rfl e_X3_pieces_26 ?_
          refine g_get cx cl_X3 fl_X3_19 33 (.int (F10 531)) e_X3_pieces_27 rfl rfl ?_
          refine g_iconst cx 1 (by decide) e_X3_pieces_30 ?_
          refine g_iadd cx e_X3_pieces_31 ?_
          refine g_topi (fun x33 ex33 => ?_)
          have hk34 := k_ls hk32 ex33
          refine g_put cx cl_X3 fl_X3_19 33 (wX X ad (upd F10 531 x33) R11) e_X3_pieces_32 rfl rfl rfl rfl (Nat.le_of_ble_eq_true rfl) rfl ?_
          obtain ⟨F35, hF35⟩ : ∃ z, z = upd F10 531 x33 := ⟨_, rfl⟩
          rw [← hF35]
          have hk36 := k_ls hk34 hF35
          have oF35 : g_ok LK_wX F35 := by rw [hF35]; exact g_ok_u oF10 rfl
          have fF35 : g_fr md_X3_pieces_c5 F F35 := by rw [hF35]; exact g_fr_u fF10 rfl
          refine g_aload_n cx 0 rfl e_X3_pieces_35 ?_
          refine g_get cx cl_X3 fl_X3_25 33 (.ref (ad 25)) e_X3_pieces_36 rfl rfl ?_
          refine g_iconst cx 4 (by decide) e_X3_pieces_39 ?_
          refine g_iload_n cx 2 rfl e_X3_pieces_40 ?_
          refine g_cViW cx [.int 4, .int y8] [] (w_X2_emit_25 l X ad F35 R11 oF35 oR11 4 y8) ml_X3_66 yV_X2_emit e_X3_pieces_41 (by unfold g_rr; decide) (by decide) 25 rfl rfl rfl (Nat.le_of_ble_eq_true rfl) (fun r37 w38 h39 => ?_)
          obtain ⟨F41, R42, rfl, oF41, oR42, cF41, cR42, pr37, hx40⟩ := h39
          have hk43 := k_ls3 hk36 hx40
          have fF41 : g_fr md_X3_pieces_c5 F F41 := g_fr_c fF35 cF41 rfl
          have fR42 : g_fr mr_X3_pieces_c5 R R42 := g_fr_c fR11 cR42 rfl
          refine g_istore_n cx [(2, .int r37), (0, .ref (ad 33)), (1, .int 5), (3, .int y9)] e_X3_pieces_44 (by decide) rfl ?_
          refine g_aload_n cx 1 rfl e_X3_pieces_45 ?_
          refine g_iload_n cx 2 rfl e_X3_pieces_46 ?_
          refine g_cVvW cx [.int 5] [] (w_X3_piece_c5 l X ad F41 R42 oF41 oR42) ml_X3_86 yV_X3_piece e_X3_pieces_47 (by unfold g_rr; decide) (by decide) 33 rfl rfl rfl (Nat.le_of_ble_eq_true rfl) (fun w45 h46 => ?_)
          obtain ⟨F48, R49, rfl, oF48, oR49, cF48, cR49, hx47⟩ := h46
          have hk50 := k_ls2 hk43 hx47
          have fF48 : g_fr md_X3_pieces_c5 F F48 := g_fr_c fF41 cF48 rfl
          have fR49 : g_fr mr_X3_pieces_c5 R R49 := g_fr_c fR42 cR49 rfl
          obtain ⟨x51, ex51⟩ : ∃ z : Int32, z = y9 + Int32.ofInt 1 := ⟨_, rfl⟩
          have hk52 := k_ls hk50 (show x51 = y9 + 1 from ex51)
          refine g_iinc cx x51 [(3, .int x51), (2, .int r37), (0, .ref (ad 33)), (1, .int 5)] 3 e_X3_pieces_50 rfl ex51.symm (by decide) rfl ?_
          have zx51 := jv_add 1 200 (show x51 = y9 + 1 from ex51) p22 (jv_k (x := 1) 1 (by decide)) (by decide)
          refine g_goto cx 9 e_X3_pieces_53 (by decide) ?_
          refine g_lsub [2, 3, 1, 0] [(0, .ref (ad 33)), (1, .int 5), (2, .int r37), (3, .int x51)] rfl ?_
          exact ih9 F48 R49 r37 x51 oF48 fF48 oR49 fR49 (jv_w pr37 (by decide)) (jv_w zx51.2 (by decide)) (hk52.trans (by rw [hb9])) (Nat.lt_of_lt_of_le (show (2147483647 - x51.toInt).toNat < (2147483647 - y9.toInt).toNat from by have q0 := (jv_k (x := 1) 1 (by decide)).1; have q1 := (jv_k (x := 1) 1 (by decide)).2; have q2 := (jv_k (x := 200) 200 (by decide)).1; have q3 := (jv_k (x := 200) 200 (by decide)).2; have q4 := zx51.2.1; have q5 := zx51.2.2; have q6 := p22.1; have q7 := p22.2; have q8 := (gc_nle zc19); have q9 := (g_eq0 zx51.1); omega) (Nat.le_of_lt_succ hm9))
  refine g_lsub [2, 3, 1, 0] [(0, .ref (ad 33)), (1, .int 5), (2, .int (-1)), (3, .int 0)] rfl ?_
  exact J9 8589934592 F5 R6 (-1) 0 oF5 fF5 oR6 fR6 (jv_w (jv_k (x := (-1)) (-1) (by decide)) (by decide)) (jv_w (jv_k (x := 0) 0 (by decide)) (by decide)) hk7 (show (2147483647 - (0 : Int32).toInt).toNat < 8589934592 from by have q0 := (jv_k (x := 0) 0 (by decide)).1; have q1 := (jv_k (x := 0) 0 (by decide)).2; omega)
def K_X3_parts_c5_56 (F10 : Nat → Int32) (R11 : Nat → Nat → Int32) (y8 : Int32)  : (Nat → Int32) × (Nat → Nat → Int32) :=
  k_lt2 (sp_X2_landHere_25 F10 R11 y8) (fun F16 R17 => (F16, R17))
def KB_X3_parts_c5_9 (b9 : (Nat → Int32) → (Nat → Nat → Int32) → (Int32) → (Int32) → (Nat → Int32) × (Nat → Nat → Int32))  (F10 : Nat → Int32) (R11 : Nat → Nat → Int32) (y8 : Int32) (y9 : Int32) : (Nat → Int32) × (Nat → Nat → Int32) :=
  if 200 ≤ y9 then K_X3_parts_c5_56 F10 R11 y8 else k_lt (sp_X3_sign F10 R11) (fun r24 => if r24 = 124 then k_lt ((F10 531) + 1) (fun x33 => k_lt (upd F10 531 x33) (fun F35 => k_lt3 (sp_X2_emit_25 F35 R11 5 y8) (fun r37 F41 R42 => k_lt2 (sp_X3_pieces_c5 F41 R42) (fun F48 R49 => k_lt (y9 + 1) (fun x51 => b9 F48 R49 r37 x51))))) else K_X3_parts_c5_56 F10 R11 y8)
def K_X3_parts_c5_9  : Nat → (Nat → Int32) → (Nat → Nat → Int32) → (Int32) → (Int32) → (Nat → Int32) × (Nat → Nat → Int32)
  | 0 => fun F10 R11 _ _ => (F10, R11)
  | n + 1 => KB_X3_parts_c5_9 (K_X3_parts_c5_9 n)
def sp_X3_parts_c5 (F : Nat → Int32) (R : Nat → Nat → Int32) : (Nat → Int32) × (Nat → Nat → Int32) :=
  k_lt2 (sp_X3_pieces_c5 F R) (fun F5 R6 => K_X3_parts_c5_9 8589934592 F5 R6 (-1) 0)
def md_X3_parts_c5 : List Nat := [402, 531, 532]
def mr_X3_parts_c5 : List Nat := [26, 27]
set_option maxHeartbeats 4000000 in
set_option maxRecDepth 100000 in
theorem w_X3_parts_c5 (l : Launch) (X : gX) (ad : Nat → Nat) (F : Nat → Int32) (R : Nat → Nat → Int32) (hI : g_ok LK_wX F) (hA : g_okR LA_wX R) : g_Cv l X yX3_parts cX3_parts 4 14 0 0 [.ref (ad 33), .int 5] (wX X ad F R) (fun w => ∃ (F' : Nat → Int32) (R' : Nat → Nat → Int32), w = wX X ad F' R' ∧ g_ok LK_wX F' ∧ g_okR LA_wX R' ∧ g_fr md_X3_parts_c5 F F' ∧ g_fr mr_X3_parts_c5 R R' ∧ (F', R') = sp_X3_parts_c5 F R) := by
  refine g_mv (by decide +kernel) (Nat.le_of_ble_eq_true rfl) (fun E cx hret => ?_)
  obtain ⟨SP, hSP⟩ : ∃ z, z = sp_X3_parts_c5 F R := ⟨_, rfl⟩
  have hk0 := hSP
  unfold sp_X3_parts_c5 at hk0
  refine g_aload_n cx 0 rfl e_X3_parts_0 ?_
  refine g_iload_n cx 1 rfl e_X3_parts_1 ?_
  refine g_cVvW cx [.int 5] [] (w_X3_pieces_c5 l X ad F R hI hA) ml_X3_80 yV_X3_pieces e_X3_parts_2 (by unfold g_rr; decide) (by decide) 33 rfl rfl rfl (Nat.le_of_ble_eq_true rfl) (fun w2 h3 => ?_)
  obtain ⟨F5, R6, rfl, oF5, oR6, cF5, cR6, hx4⟩ := h3
  have hk7 := k_ls2 hk0 hx4
  have fF5 : g_fr md_X3_parts_c5 F F5 := g_fr_c (g_fr_rf F) cF5 rfl
  have fR6 : g_fr mr_X3_parts_c5 R R6 := g_fr_c (g_fr_rf R) cR6 rfl
  refine g_iconst cx (-1) (by decide) e_X3_parts_5 ?_
  refine g_istore_n cx [(2, .int (-1)), (0, .ref (ad 33)), (1, .int 5)] e_X3_parts_6 (by decide) rfl ?_
  refine g_iconst cx 0 (by decide) e_X3_parts_7 ?_
  refine g_istore_n cx [(3, .int 0), (2, .int (-1)), (0, .ref (ad 33)), (1, .int 5)] e_X3_parts_8 (by decide) rfl ?_
  have J9 : ∀ (N : Nat) (F10 : Nat → Int32) (R11 : Nat → Nat → Int32) (y8 : Int32) (y9 : Int32), (g_ok LK_wX F10) → (g_fr md_X3_parts_c5 F F10) → (g_okR LA_wX R11) → (g_fr mr_X3_parts_c5 R R11) → (jv (-1) 256 y8) → (jv 0 200 y9) → (SP = K_X3_parts_c5_9 N F10 R11 y8 y9) → (2147483647 - y9.toInt).toNat < N → G X E 4 0 0 (wX X ad F10 R11) [(0, .ref (ad 33)), (1, .int 5), (2, .int y8), (3, .int y9)] 9 [] := by
    intro N
    induction N with
    | zero => intro F10 R11 y8 y9 oF10 fF10 oR11 fR11 py8 py9 hkJ9 hm; exact absurd hm (Nat.not_lt_zero _)
    | succ N ih9 =>
      intro F10 R11 y8 y9 oF10 fF10 oR11 fR11 py8 py9 hkJ9 hm9
      have hkK9 : SP = KB_X3_parts_c5_9 (K_X3_parts_c5_9 N) F10 R11 y8 y9 := hkJ9
      obtain ⟨b9, hb9⟩ : ∃ z, z = K_X3_parts_c5_9 N := ⟨_, rfl⟩
      rw [← hb9] at hkK9
      unfold KB_X3_parts_c5_9 at hkK9
      refine g_iload_n cx 3 rfl e_X3_parts_9 ?_
      refine g_sipush cx 200 (by decide) e_X3_parts_10 ?_
      have J56 : (SP = K_X3_parts_c5_56 F10 R11 y8) → G X E 4 0 0 (wX X ad F10 R11) [(0, .ref (ad 33)), (2, .int y8)] 56 [] := by
        intro   hkJ56
        unfold K_X3_parts_c5_56 at hkJ56
        refine g_aload_n cx 0 rfl e_X3_parts_56 ?_
        refine g_get cx cl_X3 fl_X3_25 33 (.ref (ad 25)) e_X3_parts_57 rfl rfl ?_
        refine g_iload_n cx 1 rfl e_X3_parts_60 ?_
        refine g_cVvW cx [.int y8] [] (w_X2_landHere_25 l X ad F10 R11 oF10 oR11 y8) ml_X3_83 yV_X2_landHere e_X3_parts_61 (by unfold g_rr; decide) (by decide) 25 rfl rfl rfl (Nat.le_of_ble_eq_true rfl) (fun w13 h14 => ?_)
        obtain ⟨F16, R17, rfl, oF16, oR17, cF16, cR17, hx15⟩ := h14
        have hk18 := k_ls2 hkJ56 hx15
        have fF16 : g_fr md_X3_parts_c5 F F16 := g_fr_c fF10 cF16 rfl
        have fR17 : g_fr mr_X3_parts_c5 R R17 := g_fr_c fR11 cR17 rfl
        exact hret e_X3_parts_64 (Nat.le_of_ble_eq_true rfl) (Nat.le_of_ble_eq_true rfl) ⟨F16, R17, rfl, oF16, oR17, fF16, fR17, (hk18.symm.trans hSP)⟩
      refine g_icmp_ge cx 56 e_X3_parts_13 (by decide) (fun zc19 => ?_) (fun zc19 => ?_)
      · have p20 := gn_ge 200 200 (gc_le zc19) py9 (jv_k (x := 200) 200 (by decide)) (by decide)
        have hk21 := hkK9.trans (if_pos zc19)
        refine g_lsub [0, 2] [(0, .ref (ad 33)), (2, .int y8)] rfl ?_
        exact J56  hk21
      · have p22 := gn_lt 0 199 (gc_nle zc19) py9 (jv_k (x := 200) 200 (by decide)) (by decide)
        have hk23 := hkK9.trans (if_neg zc19)
        refine g_aload_n cx 0 rfl e_X3_parts_16 ?_
        refine g_cViW cx [] [] (w_X3_sign l X ad F10 R11 oF10 oR11) ml_X3_42 yV_X3_sign e_X3_parts_17 (by unfold g_rr; decide) (by decide) 33 rfl rfl rfl (Nat.le_of_ble_eq_true rfl) (fun r24 w25 h26 => ?_)
        obtain ⟨rfl, pr24, hx27⟩ := h26
        have hk28 := k_ls hk23 hx27
        refine g_bipush cx 124 (by decide) e_X3_parts_20 ?_
        refine g_icmp_ne cx 56 e_X3_parts_22 (by decide) (fun zc29 => ?_) (fun zc29 => ?_)
        · have hk30 := hk28.trans (if_neg zc29)
          refine g_lsub [0, 2] [(0, .ref (ad 33)), (2, .int y8)] rfl ?_
          exact J56  hk30
        · have p31 := gn_eq 124 124 (gc_eq zc29) pr24 (jv_k (x := 124) 124 (by decide)) (by decide)
          have hk32 := hk28.trans (if_pos zc29)
          refine g_aload_n cx 0 rfl e_X3_parts_25 ?_
          refine g_dup cx rfl e_X3_parts_26 ?_
          refine g_get cx cl_X3 fl_X3_19 33 (.int (F10 531)) e_X3_parts_27 rfl rfl ?_
          refine g_iconst cx 1 (by decide) e_X3_parts_30 ?_
          refine g_iadd cx e_X3_parts_31 ?_
          refine g_topi (fun x33 ex33 => ?_)
          have hk34 := k_ls hk32 ex33
          refine g_put cx cl_X3 fl_X3_19 33 (wX X ad (upd F10 531 x33) R11) e_X3_parts_32 rfl rfl rfl rfl (Nat.le_of_ble_eq_true rfl) rfl ?_
          obtain ⟨F35, hF35⟩ : ∃ z, z = upd F10 531 x33 := ⟨_, rfl⟩
          rw [← hF35]
          have hk36 := k_ls hk34 hF35
          have oF35 : g_ok LK_wX F35 := by rw [hF35]; exact g_ok_u oF10 rfl
          have fF35 : g_fr md_X3_parts_c5 F F35 := by rw [hF35]; exact g_fr_u fF10 rfl
          refine g_aload_n cx 0 rfl e_X3_parts_35 ?_
          refine g_get cx cl_X3 fl_X3_25 33 (.ref (ad 25)) e_X3_parts_36 rfl rfl ?_
          refine g_iconst cx 5 (by decide) e_X3_parts_39 ?_
          refine g_iload_n cx 2 rfl e_X3_parts_40 ?_
          refine g_cViW cx [.int 5, .int y8] [] (w_X2_emit_25 l X ad F35 R11 oF35 oR11 5 y8) ml_X3_66 yV_X2_emit e_X3_parts_41 (by unfold g_rr; decide) (by decide) 25 rfl rfl rfl (Nat.le_of_ble_eq_true rfl) (fun r37 w38 h39 => ?_)
          obtain ⟨F41, R42, rfl, oF41, oR42, cF41, cR42, pr37, hx40⟩ := h39
          have hk43 := k_ls3 hk36 hx40
          have fF41 : g_fr md_X3_parts_c5 F F41 := g_fr_c fF35 cF41 rfl
          have fR42 : g_fr mr_X3_parts_c5 R R42 := g_fr_c fR11 cR42 rfl
          refine g_istore_n cx [(2, .int r37), (0, .ref (ad 33)), (1, .int 5), (3, .int y9)] e_X3_parts_44 (by decide) rfl ?_
          refine g_aload_n cx 1 rfl e_X3_parts_45 ?_
          refine g_iload_n cx 2 rfl e_X3_parts_46 ?_
          refine g_cVvW cx [.int 5] [] (w_X3_pieces_c5 l X ad F41 R42 oF41 oR42) ml_X3_80 yV_X3_pieces e_X3_parts_47 (by unfold g_rr; decide) (by decide) 33 rfl rfl rfl (Nat.le_of_ble_eq_true rfl) (fun w45 h46 => ?_)
          obtain ⟨F48, R49, rfl, oF48, oR49, cF48, cR49, hx47⟩ := h46
          have hk50 := k_ls2 hk43 hx47
          have fF48 : g_fr md_X3_parts_c5 F F48 := g_fr_c fF41 cF48 rfl
          have fR49 : g_fr mr_X3_parts_c5 R R49 := g_fr_c fR42 cR49 rfl
          obtain ⟨x51, ex51⟩ : ∃ z : Int32, z = y9 + Int32.ofInt 1 := ⟨_, rfl⟩
          have hk52 := k_ls hk50 (show x51 = y9 + 1 from ex51)
          refine g_iinc cx x51 [(3, .int x51), (2, .int r37), (0, .ref (ad 33)), (1, .int 5)] 3 e_X3_parts_50 rfl ex51.symm (by decide) rfl ?_
          have zx51 := jv_add 1 200 (show x51 = y9 + 1 from ex51) p22 (jv_k (x := 1) 1 (by decide)) (by decide)
          refine g_goto cx 9 e_X3_parts_53 (by decide) ?_
          refine g_lsub [2, 3, 1, 0] [(0, .ref (ad 33)), (1, .int 5), (2, .int r37), (3, .int x51)] rfl ?_
          exact ih9 F48 R49 r37 x51 oF48 fF48 oR49 fR49 (jv_w pr37 (by decide)) (jv_w zx51.2 (by decide)) (hk52.trans (by rw [hb9])) (Nat.lt_of_lt_of_le (show (2147483647 - x51.toInt).toNat < (2147483647 - y9.toInt).toNat from by have q0 := (jv_k (x := 1) 1 (by decide)).1; have q1 := (jv_k (x := 1) 1 (by decide)).2; have q2 := (jv_k (x := 200) 200 (by decide)).1; have q3 := (jv_k (x := 200) 200 (by decide)).2; have q4 := zx51.2.1; have q5 := zx51.2.2; have q6 := p22.1; have q7 := p22.2; have q8 := (gc_nle zc19); have q9 := (g_eq0 zx51.1); omega) (Nat.le_of_lt_succ hm9))
  refine g_lsub [2, 3, 1, 0] [(0, .ref (ad 33)), (1, .int 5), (2, .int (-1)), (3, .int 0)] rfl ?_
  exact J9 8589934592 F5 R6 (-1) 0 oF5 fF5 oR6 fR6 (jv_w (jv_k (x := (-1)) (-1) (by decide)) (by decide)) (jv_w (jv_k (x := 0) 0 (by decide)) (by decide)) hk7 (show (2147483647 - (0 : Int32).toInt).toNat < 8589934592 from by have q0 := (jv_k (x := 0) 0 (by decide)).1; have q1 := (jv_k (x := 0) 0 (by decide)).2; omega)
def K_X3_piece_c4_75  (F6 : Nat → Int32) (R7 : Nat → Nat → Int32) : (Nat → Int32) × (Nat → Nat → Int32) :=
  (F6, R7)
def sp_X3_piece_c4 (F : Nat → Int32) (R : Nat → Nat → Int32) : (Nat → Int32) × (Nat → Nat → Int32) :=
  k_lt (sp_X3_sign F R) (fun r1 => if r1 = 33 then k_lt3 (sp_X3_opens_c4 F R) (fun r50 F54 R55 => k_lt2 (sp_X3_piece_c5 F54 R55) (fun F62 R63 => k_lt3 (sp_X2_emit_25 F62 R63 3 0) (fun r65 F69 R70 => K_X3_piece_c4_75 F69 R70))) else k_lt (sp_X3_sign F R) (fun r10 => if r10 = 40 then k_lt3 (sp_X3_opens_c4 F R) (fun r26 F30 R31 => k_lt2 (sp_X3_parts_c5 F30 R31) (fun F38 R39 => k_lt2 (sp_X3_pass F38 R39 41) (fun F45 R46 => K_X3_piece_c4_75 F45 R46))) else k_lt2 (sp_X3_comparison_c4 F R) (fun F21 R22 => K_X3_piece_c4_75 F21 R22)))
def md_X3_piece_c4 : List Nat := [402, 531, 532]
def mr_X3_piece_c4 : List Nat := [26, 27]
set_option maxHeartbeats 4000000 in
set_option maxRecDepth 100000 in
theorem w_X3_piece_c4 (l : Launch) (X : gX) (ad : Nat → Nat) (F : Nat → Int32) (R : Nat → Nat → Int32) (hI : g_ok LK_wX F) (hA : g_okR LA_wX R) : g_Cv l X yX3_piece cX3_piece 2 15 0 0 [.ref (ad 33), .int 4] (wX X ad F R) (fun w => ∃ (F' : Nat → Int32) (R' : Nat → Nat → Int32), w = wX X ad F' R' ∧ g_ok LK_wX F' ∧ g_okR LA_wX R' ∧ g_fr md_X3_piece_c4 F F' ∧ g_fr mr_X3_piece_c4 R R' ∧ (F', R') = sp_X3_piece_c4 F R) := by
  refine g_mv (by decide +kernel) (Nat.le_of_ble_eq_true rfl) (fun E cx hret => ?_)
  obtain ⟨SP, hSP⟩ : ∃ z, z = sp_X3_piece_c4 F R := ⟨_, rfl⟩
  have hk0 := hSP
  unfold sp_X3_piece_c4 at hk0
  refine g_aload_n cx 0 rfl e_X3_piece_0 ?_
  refine g_cViW cx [] [] (w_X3_sign l X ad F R hI hA) ml_X3_42 yV_X3_sign e_X3_piece_1 (by unfold g_rr; decide) (by decide) 33 rfl rfl rfl (Nat.le_of_ble_eq_true rfl) (fun r1 w2 h3 => ?_)
  obtain ⟨rfl, pr1, hx4⟩ := h3
  have hk5 := k_ls hk0 hx4
  refine g_bipush cx 33 (by decide) e_X3_piece_4 ?_
  have J75 : ∀ (F6 : Nat → Int32) (R7 : Nat → Nat → Int32), (g_ok LK_wX F6) → (g_fr md_X3_piece_c4 F F6) → (g_okR LA_wX R7) → (g_fr mr_X3_piece_c4 R R7) → (SP = K_X3_piece_c4_75 F6 R7) → G X E 2 0 0 (wX X ad F6 R7) [] 75 [] := by
    intro F6 R7 oF6 fF6 oR7 fR7 hkJ75
    unfold K_X3_piece_c4_75 at hkJ75
    exact hret e_X3_piece_75 (Nat.le_of_ble_eq_true rfl) (Nat.le_of_ble_eq_true rfl) ⟨F6, R7, rfl, oF6, oR7, fF6, fR7, (hkJ75.symm.trans hSP)⟩
  refine g_icmp_ne cx 37 e_X3_piece_6 (by decide) (fun zc8 => ?_) (fun zc8 => ?_)
  · have hk9 := hk5.trans (if_neg zc8)
    refine g_aload_n cx 0 rfl e_X3_piece_37 ?_
    refine g_cViW cx [] [] (w_X3_sign l X ad F R hI hA) ml_X3_42 yV_X3_sign e_X3_piece_38 (by unfold g_rr; decide) (by decide) 33 rfl rfl rfl (Nat.le_of_ble_eq_true rfl) (fun r10 w11 h12 => ?_)
    obtain ⟨rfl, pr10, hx13⟩ := h12
    have hk14 := k_ls hk9 hx13
    refine g_bipush cx 40 (by decide) e_X3_piece_41 ?_
    refine g_icmp_ne cx 70 e_X3_piece_43 (by decide) (fun zc15 => ?_) (fun zc15 => ?_)
    · have hk16 := hk14.trans (if_neg zc15)
      refine g_aload_n cx 0 rfl e_X3_piece_70 ?_
      refine g_iload_n cx 1 rfl e_X3_piece_71 ?_
      refine g_cVvW cx [.int 4] [] (w_X3_comparison_c4 l X ad F R hI hA) ml_X3_93 yV_X3_comparison e_X3_piece_72 (by unfold g_rr; decide) (by decide) 33 rfl rfl rfl (Nat.le_of_ble_eq_true rfl) (fun w18 h19 => ?_)
      obtain ⟨F21, R22, rfl, oF21, oR22, cF21, cR22, hx20⟩ := h19
      have hk23 := k_ls2 hk16 hx20
      have fF21 : g_fr md_X3_piece_c4 F F21 := g_fr_c (g_fr_rf F) cF21 rfl
      have fR22 : g_fr mr_X3_piece_c4 R R22 := g_fr_c (g_fr_rf R) cR22 rfl
      refine g_lsub [] [] rfl ?_
      exact J75 F21 R22 oF21 fF21 oR22 fR22 hk23
    · have p24 := gn_eq 40 40 (gc_eq zc15) pr10 (jv_k (x := 40) 40 (by decide)) (by decide)
      have hk25 := hk14.trans (if_pos zc15)
      refine g_aload_n cx 0 rfl e_X3_piece_46 ?_
      refine g_iload_n cx 1 rfl e_X3_piece_47 ?_
      refine g_cViW cx [.int 4] [] (w_X3_opens_c4 l X ad F R hI hA) ml_X3_89 yV_X3_opens e_X3_piece_48 (by unfold g_rr; decide) (by decide) 33 rfl rfl rfl (Nat.le_of_ble_eq_true rfl) (fun r26 w27 h28 => ?_)
      obtain ⟨F30, R31, rfl, oF30, oR31, cF30, cR31, pr26, hx29⟩ := h28
      have hk32 := k_ls3 hk25 hx29
      have fF30 : g_fr md_X3_piece_c4 F F30 := g_fr_c (g_fr_rf F) cF30 rfl
      have fR31 : g_fr mr_X3_piece_c4 R R31 := g_fr_c (g_fr_rf R) cR31 rfl
      refine g_if_eq cx 75 e_X3_piece_51 (by decide) (fun zc33 => ?_) (fun zc33 => ?_)
      · exact (gf_eq (gc_eq zc33) pr26 (jv_k (x := 0) 0 (by decide)) (by decide)).elim
      · refine g_aload_n cx 0 rfl e_X3_piece_54 ?_
        refine g_iload_n cx 1 rfl e_X3_piece_55 ?_
        refine g_iconst cx 1 (by decide) e_X3_piece_56 ?_
        refine g_iadd cx e_X3_piece_57 ?_
        refine g_toi 5 (by decide) ?_
        refine g_cVvW cx [.int 5] [] (w_X3_parts_c5 l X ad F30 R31 oF30 oR31) ml_X3_73 yV_X3_parts e_X3_piece_58 (by unfold g_rr; decide) (by decide) 33 rfl rfl rfl (Nat.le_of_ble_eq_true rfl) (fun w35 h36 => ?_)
        obtain ⟨F38, R39, rfl, oF38, oR39, cF38, cR39, hx37⟩ := h36
        have hk40 := k_ls2 hk32 hx37
        have fF38 : g_fr md_X3_piece_c4 F F38 := g_fr_c fF30 cF38 rfl
        have fR39 : g_fr mr_X3_piece_c4 R R39 := g_fr_c fR31 cR39 rfl
        refine g_aload_n cx 0 rfl e_X3_piece_61 ?_
        refine g_bipush cx 41 (by decide) e_X3_piece_62 ?_
        refine g_cVvW cx [.int 41] [] (w_X3_pass l X ad F38 R39 oF38 oR39 41) ml_X3_70 yV_X3_pass e_X3_piece_64 (by unfold g_rr; decide) (by decide) 33 rfl rfl rfl (Nat.le_of_ble_eq_true rfl) (fun w42 h43 => ?_)
        obtain ⟨F45, R46, rfl, oF45, oR46, cF45, cR46, hx44⟩ := h43
        have hk47 := k_ls2 hk40 hx44
        have fF45 : g_fr md_X3_piece_c4 F F45 := g_fr_c fF38 cF45 rfl
        have fR46 : g_fr mr_X3_piece_c4 R R46 := g_fr_c fR39 cR46 rfl
        refine g_goto cx 75 e_X3_piece_67 (by decide) ?_
        refine g_lsub [] [] rfl ?_
        exact J75 F45 R46 oF45 fF45 oR46 fR46 hk47
  · have p48 := gn_eq 33 33 (gc_eq zc8) pr1 (jv_k (x := 33) 33 (by decide)) (by decide)
    have hk49 := hk5.trans (if_pos zc8)
    refine g_aload_n cx 0 rfl e_X3_piece_9 ?_
    refine g_iload_n cx 1 rfl e_X3_piece_10 ?_
    refine g_cViW cx [.int 4] [] (w_X3_opens_c4 l X ad F R hI hA) ml_X3_89 yV_X3_opens e_X3_piece_11 (by unfold g_rr; decide) (by decide) 33 rfl rfl rfl (Nat.le_of_ble_eq_true rfl) (fun r50 w51 h52 => ?_)
    obtain ⟨F54, R55, rfl, oF54, oR55, cF54, cR55, pr50, hx53⟩ := h52
    have hk56 := k_ls3 hk49 hx53
    have fF54 : g_fr md_X3_piece_c4 F F54 := g_fr_c (g_fr_rf F) cF54 rfl
    have fR55 : g_fr mr_X3_piece_c4 R R55 := g_fr_c (g_fr_rf R) cR55 rfl
    refine g_if_eq cx 75 e_X3_piece_14 (by decide) (fun zc57 => ?_) (fun zc57 => ?_)
    · exact (gf_eq (gc_eq zc57) pr50 (jv_k (x := 0) 0 (by decide)) (by decide)).elim
    · refine g_aload_n cx 0 rfl e_X3_piece_17 ?_
      refine g_iload_n cx 1 rfl e_X3_piece_18 ?_
      refine g_iconst cx 1 (by decide) e_X3_piece_19 ?_
      refine g_iadd cx e_X3_piece_20 ?_
      refine g_toi 5 (by decide) ?_
      refine g_cVvW cx [.int 5] [] (w_X3_piece_c5 l X ad F54 R55 oF54 oR55) ml_X3_86 yV_X3_piece e_X3_piece_21 (by unfold g_rr; decide) (by decide) 33 rfl rfl rfl (Nat.le_of_ble_eq_true rfl) (fun w59 h60 => ?_)
      obtain ⟨F62, R63, rfl, oF62, oR63, cF62, cR63, hx61⟩ := h60
      have hk64 := k_ls2 hk56 hx61
      have fF62 : g_fr md_X3_piece_c4 F F62 := g_fr_c fF54 cF62 rfl
      have fR63 : g_fr mr_X3_piece_c4 R R63 := g_fr_c fR55 cR63 rfl
      refine g_aload_n cx 0 rfl e_X3_piece_24 ?_
      refine g_get cx cl_X3 fl_X3_25 33 (.ref (ad 25)) e_X3_piece_25 rfl rfl ?_
      refine g_iconst cx 3 (by decide) e_X3_piece_28 ?_
      refine g_iconst cx 0 (by decide) e_X3_piece_29 ?_
      refine g_cViW cx [.int 3, .int 0] [] (w_X2_emit_25 l X ad F62 R63 oF62 oR63 3 0) ml_X3_66 yV_X2_emit e_X3_piece_30 (by unfold g_rr; decide) (by decide) 25 rfl rfl rfl (Nat.le_of_ble_eq_true rfl) (fun r65 w66 h67 => ?_)
      obtain ⟨F69, R70, rfl, oF69, oR70, cF69, cR70, pr65, hx68⟩ := h67
      have hk71 := k_ls3 hk64 hx68
      have fF69 : g_fr md_X3_piece_c4 F F69 := g_fr_c fF62 cF69 rfl
      have fR70 : g_fr mr_X3_piece_c4 R R70 := g_fr_c fR63 cR70 rfl
      refine g_pop cx rfl e_X3_piece_33 ?_
      refine g_goto cx 75 e_X3_piece_34 (by decide) ?_
      refine g_lsub [] [] rfl ?_
      exact J75 F69 R70 oF69 fF69 oR70 fR70 hk71
def K_X3_pieces_c4_56 (F10 : Nat → Int32) (R11 : Nat → Nat → Int32) (y8 : Int32)  : (Nat → Int32) × (Nat → Nat → Int32) :=
  k_lt2 (sp_X2_landHere_25 F10 R11 y8) (fun F16 R17 => (F16, R17))
def KB_X3_pieces_c4_9 (b9 : (Nat → Int32) → (Nat → Nat → Int32) → (Int32) → (Int32) → (Nat → Int32) × (Nat → Nat → Int32))  (F10 : Nat → Int32) (R11 : Nat → Nat → Int32) (y8 : Int32) (y9 : Int32) : (Nat → Int32) × (Nat → Nat → Int32) :=
  if 200 ≤ y9 then K_X3_pieces_c4_56 F10 R11 y8 else k_lt (sp_X3_sign F10 R11) (fun r24 => if r24 = 38 then k_lt ((F10 531) + 1) (fun x33 => k_lt (upd F10 531 x33) (fun F35 => k_lt3 (sp_X2_emit_25 F35 R11 4 y8) (fun r37 F41 R42 => k_lt2 (sp_X3_piece_c4 F41 R42) (fun F48 R49 => k_lt (y9 + 1) (fun x51 => b9 F48 R49 r37 x51))))) else K_X3_pieces_c4_56 F10 R11 y8)
def K_X3_pieces_c4_9  : Nat → (Nat → Int32) → (Nat → Nat → Int32) → (Int32) → (Int32) → (Nat → Int32) × (Nat → Nat → Int32)
  | 0 => fun F10 R11 _ _ => (F10, R11)
  | n + 1 => KB_X3_pieces_c4_9 (K_X3_pieces_c4_9 n)
def sp_X3_pieces_c4 (F : Nat → Int32) (R : Nat → Nat → Int32) : (Nat → Int32) × (Nat → Nat → Int32) :=
  k_lt2 (sp_X3_piece_c4 F R) (fun F5 R6 => K_X3_pieces_c4_9 8589934592 F5 R6 (-1) 0)
def md_X3_pieces_c4 : List Nat := [402, 531, 532]
def mr_X3_pieces_c4 : List Nat := [26, 27]
set_option maxHeartbeats 4000000 in
set_option maxRecDepth 100000 in
theorem w_X3_pieces_c4 (l : Launch) (X : gX) (ad : Nat → Nat) (F : Nat → Int32) (R : Nat → Nat → Int32) (hI : g_ok LK_wX F) (hA : g_okR LA_wX R) : g_Cv l X yX3_pieces cX3_pieces 4 16 0 0 [.ref (ad 33), .int 4] (wX X ad F R) (fun w => ∃ (F' : Nat → Int32) (R' : Nat → Nat → Int32), w = wX X ad F' R' ∧ g_ok LK_wX F' ∧ g_okR LA_wX R' ∧ g_fr md_X3_pieces_c4 F F' ∧ g_fr mr_X3_pieces_c4 R R' ∧ (F', R') = sp_X3_pieces_c4 F R) := by
  refine g_mv (by decide +kernel) (Nat.le_of_ble_eq_true rfl) (fun E cx hret => ?_)
  obtain ⟨SP, hSP⟩ : ∃ z, z = sp_X3_pieces_c4 F R := ⟨_, rfl⟩
  have hk0 := hSP
  unfold sp_X3_pieces_c4 at hk0
  refine g_aload_n cx 0 rfl e_X3_pieces_0 ?_
  refine g_iload_n cx 1 rfl e_X3_pieces_1 ?_
  refine g_cVvW cx [.int 4] [] (w_X3_piece_c4 l X ad F R hI hA) ml_X3_86 yV_X3_piece e_X3_pieces_2 (by unfold g_rr; decide) (by decide) 33 rfl rfl rfl (Nat.le_of_ble_eq_true rfl) (fun w2 h3 => ?_)
  obtain ⟨F5, R6, rfl, oF5, oR6, cF5, cR6, hx4⟩ := h3
  have hk7 := k_ls2 hk0 hx4
  have fF5 : g_fr md_X3_pieces_c4 F F5 := g_fr_c (g_fr_rf F) cF5 rfl
  have fR6 : g_fr mr_X3_pieces_c4 R R6 := g_fr_c (g_fr_rf R) cR6 rfl
  refine g_iconst cx (-1) (by decide) e_X3_pieces_5 ?_
  refine g_istore_n cx [(2, .int (-1)), (0, .ref (ad 33)), (1, .int 4)] e_X3_pieces_6 (by decide) rfl ?_
  refine g_iconst cx 0 (by decide) e_X3_pieces_7 ?_
  refine g_istore_n cx [(3, .int 0), (2, .int (-1)), (0, .ref (ad 33)), (1, .int 4)] e_X3_pieces_8 (by decide) rfl ?_
  have J9 : ∀ (N : Nat) (F10 : Nat → Int32) (R11 : Nat → Nat → Int32) (y8 : Int32) (y9 : Int32), (g_ok LK_wX F10) → (g_fr md_X3_pieces_c4 F F10) → (g_okR LA_wX R11) → (g_fr mr_X3_pieces_c4 R R11) → (jv (-1) 256 y8) → (jv 0 200 y9) → (SP = K_X3_pieces_c4_9 N F10 R11 y8 y9) → (2147483647 - y9.toInt).toNat < N → G X E 4 0 0 (wX X ad F10 R11) [(0, .ref (ad 33)), (1, .int 4), (2, .int y8), (3, .int y9)] 9 [] := by
    intro N
    induction N with
    | zero => intro F10 R11 y8 y9 oF10 fF10 oR11 fR11 py8 py9 hkJ9 hm; exact absurd hm (Nat.not_lt_zero _)
    | succ N ih9 =>
      intro F10 R11 y8 y9 oF10 fF10 oR11 fR11 py8 py9 hkJ9 hm9
      have hkK9 : SP = KB_X3_pieces_c4_9 (K_X3_pieces_c4_9 N) F10 R11 y8 y9 := hkJ9
      obtain ⟨b9, hb9⟩ : ∃ z, z = K_X3_pieces_c4_9 N := ⟨_, rfl⟩
      rw [← hb9] at hkK9
      unfold KB_X3_pieces_c4_9 at hkK9
      refine g_iload_n cx 3 rfl e_X3_pieces_9 ?_
      refine g_sipush cx 200 (by decide) e_X3_pieces_10 ?_
      have J56 : (SP = K_X3_pieces_c4_56 F10 R11 y8) → G X E 4 0 0 (wX X ad F10 R11) [(0, .ref (ad 33)), (2, .int y8)] 56 [] := by
        intro   hkJ56
        unfold K_X3_pieces_c4_56 at hkJ56
        refine g_aload_n cx 0 rfl e_X3_pieces_56 ?_
        refine g_get cx cl_X3 fl_X3_25 33 (.ref (ad 25)) e_X3_pieces_57 rfl rfl ?_
        refine g_iload_n cx 1 rfl e_X3_pieces_60 ?_
        refine g_cVvW cx [.int y8] [] (w_X2_landHere_25 l X ad F10 R11 oF10 oR11 y8) ml_X3_83 yV_X2_landHere e_X3_pieces_61 (by unfold g_rr; decide) (by decide) 25 rfl rfl rfl (Nat.le_of_ble_eq_true rfl) (fun w13 h14 => ?_)
        obtain ⟨F16, R17, rfl, oF16, oR17, cF16, cR17, hx15⟩ := h14
        have hk18 := k_ls2 hkJ56 hx15
        have fF16 : g_fr md_X3_pieces_c4 F F16 := g_fr_c fF10 cF16 rfl
        have fR17 : g_fr mr_X3_pieces_c4 R R17 := g_fr_c fR11 cR17 rfl
        exact hret e_X3_pieces_64 (Nat.le_of_ble_eq_true rfl) (Nat.le_of_ble_eq_true rfl) ⟨F16, R17, rfl, oF16, oR17, fF16, fR17, (hk18.symm.trans hSP)⟩
      refine g_icmp_ge cx 56 e_X3_pieces_13 (by decide) (fun zc19 => ?_) (fun zc19 => ?_)
      · have p20 := gn_ge 200 200 (gc_le zc19) py9 (jv_k (x := 200) 200 (by decide)) (by decide)
        have hk21 := hkK9.trans (if_pos zc19)
        refine g_lsub [0, 2] [(0, .ref (ad 33)), (2, .int y8)] rfl ?_
        exact J56  hk21
      · have p22 := gn_lt 0 199 (gc_nle zc19) py9 (jv_k (x := 200) 200 (by decide)) (by decide)
        have hk23 := hkK9.trans (if_neg zc19)
        refine g_aload_n cx 0 rfl e_X3_pieces_16 ?_
        refine g_cViW cx [] [] (w_X3_sign l X ad F10 R11 oF10 oR11) ml_X3_42 yV_X3_sign e_X3_pieces_17 (by unfold g_rr; decide) (by decide) 33 rfl rfl rfl (Nat.le_of_ble_eq_true rfl) (fun r24 w25 h26 => ?_)
        obtain ⟨rfl, pr24, hx27⟩ := h26
        have hk28 := k_ls hk23 hx27
        refine g_bipush cx 38 (by decide) e_X3_pieces_20 ?_
        refine g_icmp_ne cx 56 e_X3_pieces_22 (by decide) (fun zc29 => ?_) (fun zc29 => ?_)
        · have hk30 := hk28.trans (if_neg zc29)
          refine g_lsub [0, 2] [(0, .ref (ad 33)), (2, .int y8)] rfl ?_
          exact J56  hk30
        · have p31 := gn_eq 38 38 (gc_eq zc29) pr24 (jv_k (x := 38) 38 (by decide)) (by decide)
          have hk32 := hk28.trans (if_pos zc29)
          refine g_aload_n cx 0 rfl e_X3_pieces_25 ?_
          refine g_dup cx rfl e_X3_pieces_26 ?_
          refine g_get cx cl_X3 fl_X3_19 33 (.int (F10 531)) e_X3_pieces_27 rfl rfl ?_
          refine g_iconst cx 1 (by decide) e_X3_pieces_30 ?_
          refine g_iadd cx e_X3_pieces_31 ?_
          refine g_topi (fun x33 ex33 => ?_)
          have hk34 := k_ls hk32 ex33
          refine g_put cx cl_X3 fl_X3_19 33 (wX X ad (upd F10 531 x33) R11) e_X3_pieces_32 rfl rfl rfl rfl (Nat.le_of_ble_eq_true rfl) rfl ?_
          obtain ⟨F35, hF35⟩ : ∃ z, z = upd F10 531 x33 := ⟨_, rfl⟩
          rw [← hF35]
          have hk36 := k_ls hk34 hF35
          have oF35 : g_ok LK_wX F35 := by rw [hF35]; exact g_ok_u oF10 rfl
          have fF35 : g_fr md_X3_pieces_c4 F F35 := by rw [hF35]; exact g_fr_u fF10 rfl
          refine g_aload_n cx 0 rfl e_X3_pieces_35 ?_
          refine g_get cx cl_X3 fl_X3_25 33 (.ref (ad 25)) e_X3_pieces_36 rfl rfl ?_
          refine g_iconst cx 4 (by decide) e_X3_pieces_39 ?_
          refine g_iload_n cx 2 rfl e_X3_pieces_40 ?_
          refine g_cViW cx [.int 4, .int y8] [] (w_X2_emit_25 l X ad F35 R11 oF35 oR11 4 y8) ml_X3_66 yV_X2_emit e_X3_pieces_41 (by unfold g_rr; decide) (by decide) 25 rfl rfl rfl (Nat.le_of_ble_eq_true rfl) (fun r37 w38 h39 => ?_)
          obtain ⟨F41, R42, rfl, oF41, oR42, cF41, cR42, pr37, hx40⟩ := h39
          have hk43 := k_ls3 hk36 hx40
          have fF41 : g_fr md_X3_pieces_c4 F F41 := g_fr_c fF35 cF41 rfl
          have fR42 : g_fr mr_X3_pieces_c4 R R42 := g_fr_c fR11 cR42 rfl
          refine g_istore_n cx [(2, .int r37), (0, .ref (ad 33)), (1, .int 4), (3, .int y9)] e_X3_pieces_44 (by decide) rfl ?_
          refine g_aload_n cx 1 rfl e_X3_pieces_45 ?_
          refine g_iload_n cx 2 rfl e_X3_pieces_46 ?_
          refine g_cVvW cx [.int 4] [] (w_X3_piece_c4 l X ad F41 R42 oF41 oR42) ml_X3_86 yV_X3_piece e_X3_pieces_47 (by unfold g_rr; decide) (by decide) 33 rfl rfl rfl (Nat.le_of_ble_eq_true rfl) (fun w45 h46 => ?_)
          obtain ⟨F48, R49, rfl, oF48, oR49, cF48, cR49, hx47⟩ := h46
          have hk50 := k_ls2 hk43 hx47
          have fF48 : g_fr md_X3_pieces_c4 F F48 := g_fr_c fF41 cF48 rfl
          have fR49 : g_fr mr_X3_pieces_c4 R R49 := g_fr_c fR42 cR49 rfl
          obtain ⟨x51, ex51⟩ : ∃ z : Int32, z = y9 + Int32.ofInt 1 := ⟨_, rfl⟩
          have hk52 := k_ls hk50 (show x51 = y9 + 1 from ex51)
          refine g_iinc cx x51 [(3, .int x51), (2, .int r37), (0, .ref (ad 33)), (1, .int 4)] 3 e_X3_pieces_50 rfl ex51.symm (by decide) rfl ?_
          have zx51 := jv_add 1 200 (show x51 = y9 + 1 from ex51) p22 (jv_k (x := 1) 1 (by decide)) (by decide)
          refine g_goto cx 9 e_X3_pieces_53 (by decide) ?_
          refine g_lsub [2, 3, 1, 0] [(0, .ref (ad 33)), (1, .int 4), (2, .int r37), (3, .int x51)] rfl ?_
          exact ih9 F48 R49 r37 x51 oF48 fF48 oR49 fR49 (jv_w pr37 (by decide)) (jv_w zx51.2 (by decide)) (hk52.trans (by rw [hb9])) (Nat.lt_of_lt_of_le (show (2147483647 - x51.toInt).toNat < (2147483647 - y9.toInt).toNat from by have q0 := (jv_k (x := 1) 1 (by decide)).1; have q1 := (jv_k (x := 1) 1 (by decide)).2; have q2 := (jv_k (x := 200) 200 (by decide)).1; have q3 := (jv_k (x := 200) 200 (by decide)).2; have q4 := zx51.2.1; have q5 := zx51.2.2; have q6 := p22.1; have q7 := p22.2; have q8 := (gc_nle zc19); have q9 := (g_eq0 zx51.1); omega) (Nat.le_of_lt_succ hm9))
  refine g_lsub [2, 3, 1, 0] [(0, .ref (ad 33)), (1, .int 4), (2, .int (-1)), (3, .int 0)] rfl ?_
  exact J9 8589934592 F5 R6 (-1) 0 oF5 fF5 oR6 fR6 (jv_w (jv_k (x := (-1)) (-1) (by decide)) (by decide)) (jv_w (jv_k (x := 0) 0 (by decide)) (by decide)) hk7 (show (2147483647 - (0 : Int32).toInt).toNat < 8589934592 from by have q0 := (jv_k (x := 0) 0 (by decide)).1; have q1 := (jv_k (x := 0) 0 (by decide)).2; omega)
def K_X3_parts_c4_56 (F10 : Nat → Int32) (R11 : Nat → Nat → Int32) (y8 : Int32)  : (Nat → Int32) × (Nat → Nat → Int32) :=
  k_lt2 (sp_X2_landHere_25 F10 R11 y8) (fun F16 R17 => (F16, R17))
def KB_X3_parts_c4_9 (b9 : (Nat → Int32) → (Nat → Nat → Int32) → (Int32) → (Int32) → (Nat → Int32) × (Nat → Nat → Int32))  (F10 : Nat → Int32) (R11 : Nat → Nat → Int32) (y8 : Int32) (y9 : Int32) : (Nat → Int32) × (Nat → Nat → Int32) :=
  if 200 ≤ y9 then K_X3_parts_c4_56 F10 R11 y8 else k_lt (sp_X3_sign F10 R11) (fun r24 => if r24 = 124 then k_lt ((F10 531) + 1) (fun x33 => k_lt (upd F10 531 x33) (fun F35 => k_lt3 (sp_X2_emit_25 F35 R11 5 y8) (fun r37 F41 R42 => k_lt2 (sp_X3_pieces_c4 F41 R42) (fun F48 R49 => k_lt (y9 + 1) (fun x51 => b9 F48 R49 r37 x51))))) else K_X3_parts_c4_56 F10 R11 y8)
def K_X3_parts_c4_9  : Nat → (Nat → Int32) → (Nat → Nat → Int32) → (Int32) → (Int32) → (Nat → Int32) × (Nat → Nat → Int32)
  | 0 => fun F10 R11 _ _ => (F10, R11)
  | n + 1 => KB_X3_parts_c4_9 (K_X3_parts_c4_9 n)
def sp_X3_parts_c4 (F : Nat → Int32) (R : Nat → Nat → Int32) : (Nat → Int32) × (Nat → Nat → Int32) :=
  k_lt2 (sp_X3_pieces_c4 F R) (fun F5 R6 => K_X3_parts_c4_9 8589934592 F5 R6 (-1) 0)
def md_X3_parts_c4 : List Nat := [402, 531, 532]
def mr_X3_parts_c4 : List Nat := [26, 27]
set_option maxHeartbeats 4000000 in
set_option maxRecDepth 100000 in
theorem w_X3_parts_c4 (l : Launch) (X : gX) (ad : Nat → Nat) (F : Nat → Int32) (R : Nat → Nat → Int32) (hI : g_ok LK_wX F) (hA : g_okR LA_wX R) : g_Cv l X yX3_parts cX3_parts 4 17 0 0 [.ref (ad 33), .int 4] (wX X ad F R) (fun w => ∃ (F' : Nat → Int32) (R' : Nat → Nat → Int32), w = wX X ad F' R' ∧ g_ok LK_wX F' ∧ g_okR LA_wX R' ∧ g_fr md_X3_parts_c4 F F' ∧ g_fr mr_X3_parts_c4 R R' ∧ (F', R') = sp_X3_parts_c4 F R) := by
  refine g_mv (by decide +kernel) (Nat.le_of_ble_eq_true rfl) (fun E cx hret => ?_)
  obtain ⟨SP, hSP⟩ : ∃ z, z = sp_X3_parts_c4 F R := ⟨_, rfl⟩
  have hk0 := hSP
  unfold sp_X3_parts_c4 at hk0
  refine g_aload_n cx 0 rfl e_X3_parts_0 ?_
  refine g_iload_n cx 1 rfl e_X3_parts_1 ?_
  refine g_cVvW cx [.int 4] [] (w_X3_pieces_c4 l X ad F R hI hA) ml_X3_80 yV_X3_pieces e_X3_parts_2 (by unfold g_rr; decide) (by decide) 33 rfl rfl rfl (Nat.le_of_ble_eq_true rfl) (fun w2 h3 => ?_)
  obtain ⟨F5, R6, rfl, oF5, oR6, cF5, cR6, hx4⟩ := h3
  have hk7 := k_ls2 hk0 hx4
  have fF5 : g_fr md_X3_parts_c4 F F5 := g_fr_c (g_fr_rf F) cF5 rfl
  have fR6 : g_fr mr_X3_parts_c4 R R6 := g_fr_c (g_fr_rf R) cR6 rfl
  refine g_iconst cx (-1) (by decide) e_X3_parts_5 ?_
  refine g_istore_n cx [(2, .int (-1)), (0, .ref (ad 33)), (1, .int 4)] e_X3_parts_6 (by decide) rfl ?_
  refine g_iconst cx 0 (by decide) e_X3_parts_7 ?_
  refine g_istore_n cx [(3, .int 0), (2, .int (-1)), (0, .ref (ad 33)), (1, .int 4)] e_X3_parts_8 (by decide) rfl ?_
  have J9 : ∀ (N : Nat) (F10 : Nat → Int32) (R11 : Nat → Nat → Int32) (y8 : Int32) (y9 : Int32), (g_ok LK_wX F10) → (g_fr md_X3_parts_c4 F F10) → (g_okR LA_wX R11) → (g_fr mr_X3_parts_c4 R R11) → (jv (-1) 256 y8) → (jv 0 200 y9) → (SP = K_X3_parts_c4_9 N F10 R11 y8 y9) → (2147483647 - y9.toInt).toNat < N → G X E 4 0 0 (wX X ad F10 R11) [(0, .ref (ad 33)), (1, .int 4), (2, .int y8), (3, .int y9)] 9 [] := by
    intro N
    induction N with
    | zero => intro F10 R11 y8 y9 oF10 fF10 oR11 fR11 py8 py9 hkJ9 hm; exact absurd hm (Nat.not_lt_zero _)
    | succ N ih9 =>
      intro F10 R11 y8 y9 oF10 fF10 oR11 fR11 py8 py9 hkJ9 hm9
      have hkK9 : SP = KB_X3_parts_c4_9 (K_X3_parts_c4_9 N) F10 R11 y8 y9 := hkJ9
      obtain ⟨b9, hb9⟩ : ∃ z, z = K_X3_parts_c4_9 N := ⟨_, rfl⟩
      rw [← hb9] at hkK9
      unfold KB_X3_parts_c4_9 at hkK9
      refine g_iload_n cx 3 rfl e_X3_parts_9 ?_
      refine g_sipush cx 200 (by decide) e_X3_parts_10 ?_
      have J56 : (SP = K_X3_parts_c4_56 F10 R11 y8) → G X E 4 0 0 (wX X ad F10 R11) [(0, .ref (ad 33)), (2, .int y8)] 56 [] := by
        intro   hkJ56
        unfold K_X3_parts_c4_56 at hkJ56
        refine g_aload_n cx 0 rfl e_X3_parts_56 ?_
        refine g_get cx cl_X3 fl_X3_25 33 (.ref (ad 25)) e_X3_parts_57 rfl rfl ?_
        refine g_iload_n cx 1 rfl e_X3_parts_60 ?_
        refine g_cVvW cx [.int y8] [] (w_X2_landHere_25 l X ad F10 R11 oF10 oR11 y8) ml_X3_83 yV_X2_landHere e_X3_parts_61 (by unfold g_rr; decide) (by decide) 25 rfl rfl rfl (Nat.le_of_ble_eq_true rfl) (fun w13 h14 => ?_)
        obtain ⟨F16, R17, rfl, oF16, oR17, cF16, cR17, hx15⟩ := h14
        have hk18 := k_ls2 hkJ56 hx15
        have fF16 : g_fr md_X3_parts_c4 F F16 := g_fr_c fF10 cF16 rfl
        have fR17 : g_fr mr_X3_parts_c4 R R17 := g_fr_c fR11 cR17 rfl
        exact hret e_X3_parts_64 (Nat.le_of_ble_eq_true rfl) (Nat.le_of_ble_eq_true rfl) ⟨F16, R17, rfl, oF16, oR17, fF16, fR17, (hk18.symm.trans hSP)⟩
      refine g_icmp_ge cx 56 e_X3_parts_13 (by decide) (fun zc19 => ?_) (fun zc19 => ?_)
      · have p20 := gn_ge 200 200 (gc_le zc19) py9 (jv_k (x := 200) 200 (by decide)) (by decide)
        have hk21 := hkK9.trans (if_pos zc19)
        refine g_lsub [0, 2] [(0, .ref (ad 33)), (2, .int y8)] rfl ?_
        exact J56  hk21
      · have p22 := gn_lt 0 199 (gc_nle zc19) py9 (jv_k (x := 200) 200 (by decide)) (by decide)
        have hk23 := hkK9.trans (if_neg zc19)
        refine g_aload_n cx 0 rfl e_X3_parts_16 ?_
        refine g_cViW cx [] [] (w_X3_sign l X ad F10 R11 oF10 oR11) ml_X3_42 yV_X3_sign e_X3_parts_17 (by unfold g_rr; decide) (by decide) 33 rfl rfl rfl (Nat.le_of_ble_eq_true rfl) (fun r24 w25 h26 => ?_)
        obtain ⟨rfl, pr24, hx27⟩ := h26
        have hk28 := k_ls hk23 hx27
        refine g_bipush cx 124 (by decide) e_X3_parts_20 ?_
        refine g_icmp_ne cx 56 e_X3_parts_22 (by decide) (fun zc29 => ?_) (fun zc29 => ?_)
        · have hk30 := hk28.trans (if_neg zc29)
          refine g_lsub [0, 2] [(0, .ref (ad 33)), (2, .int y8)] rfl ?_
          exact J56  hk30
        · have p31 := gn_eq 124 124 (gc_eq zc29) pr24 (jv_k (x := 124) 124 (by decide)) (by decide)
          have hk32 := hk28.trans (if_pos zc29)
          refine g_aload_n cx 0 rfl e_X3_parts_25 ?_
          refine g_dup cx rfl e_X3_parts_26 ?_
          refine g_get cx cl_X3 fl_X3_19 33 (.int (F10 531)) e_X3_parts_27 rfl rfl ?_
          refine g_iconst cx 1 (by decide) e_X3_parts_30 ?_
          refine g_iadd cx e_X3_parts_31 ?_
          refine g_topi (fun x33 ex33 => ?_)
          have hk34 := k_ls hk32 ex33
          refine g_put cx cl_X3 fl_X3_19 33 (wX X ad (upd F10 531 x33) R11) e_X3_parts_32 rfl rfl rfl rfl (Nat.le_of_ble_eq_true rfl) rfl ?_
          obtain ⟨F35, hF35⟩ : ∃ z, z = upd F10 531 x33 := ⟨_, rfl⟩
          rw [← hF35]
          have hk36 := k_ls hk34 hF35
          have oF35 : g_ok LK_wX F35 := by rw [hF35]; exact g_ok_u oF10 rfl
          have fF35 : g_fr md_X3_parts_c4 F F35 := by rw [hF35]; exact g_fr_u fF10 rfl
          refine g_aload_n cx 0 rfl e_X3_parts_35 ?_
          refine g_get cx cl_X3 fl_X3_25 33 (.ref (ad 25)) e_X3_parts_36 rfl rfl ?_
          refine g_iconst cx 5 (by decide) e_X3_parts_39 ?_
          refine g_iload_n cx 2 rfl e_X3_parts_40 ?_
          refine g_cViW cx [.int 5, .int y8] [] (w_X2_emit_25 l X ad F35 R11 oF35 oR11 5 y8) ml_X3_66 yV_X2_emit e_X3_parts_41 (by unfold g_rr; decide) (by decide) 25 rfl rfl rfl (Nat.le_of_ble_eq_true rfl) (fun r37 w38 h39 => ?_)
          obtain ⟨F41, R42, rfl, oF41, oR42, cF41, cR42, pr37, hx40⟩ := h39
          have hk43 := k_ls3 hk36 hx40
          have fF41 : g_fr md_X3_parts_c4 F F41 := g_fr_c fF35 cF41 rfl
          have fR42 : g_fr mr_X3_parts_c4 R R42 := g_fr_c fR11 cR42 rfl
          refine g_istore_n cx [(2, .int r37), (0, .ref (ad 33)), (1, .int 4), (3, .int y9)] e_X3_parts_44 (by decide) rfl ?_
          refine g_aload_n cx 1 rfl e_X3_parts_45 ?_
          refine g_iload_n cx 2 rfl e_X3_parts_46 ?_
          refine g_cVvW cx [.int 4] [] (w_X3_pieces_c4 l X ad F41 R42 oF41 oR42) ml_X3_80 yV_X3_pieces e_X3_parts_47 (by unfold g_rr; decide) (by decide) 33 rfl rfl rfl (Nat.le_of_ble_eq_true rfl) (fun w45 h46 => ?_)
          obtain ⟨F48, R49, rfl, oF48, oR49, cF48, cR49, hx47⟩ := h46
          have hk50 := k_ls2 hk43 hx47
          have fF48 : g_fr md_X3_parts_c4 F F48 := g_fr_c fF41 cF48 rfl
          have fR49 : g_fr mr_X3_parts_c4 R R49 := g_fr_c fR42 cR49 rfl
          obtain ⟨x51, ex51⟩ : ∃ z : Int32, z = y9 + Int32.ofInt 1 := ⟨_, rfl⟩
          have hk52 := k_ls hk50 (show x51 = y9 + 1 from ex51)
          refine g_iinc cx x51 [(3, .int x51), (2, .int r37), (0, .ref (ad 33)), (1, .int 4)] 3 e_X3_parts_50 rfl ex51.symm (by decide) rfl ?_
          have zx51 := jv_add 1 200 (show x51 = y9 + 1 from ex51) p22 (jv_k (x := 1) 1 (by decide)) (by decide)
          refine g_goto cx 9 e_X3_parts_53 (by decide) ?_
          refine g_lsub [2, 3, 1, 0] [(0, .ref (ad 33)), (1, .int 4), (2, .int r37), (3, .int x51)] rfl ?_
          exact ih9 F48 R49 r37 x51 oF48 fF48 oR49 fR49 (jv_w pr37 (by decide)) (jv_w zx51.2 (by decide)) (hk52.trans (by rw [hb9])) (Nat.lt_of_lt_of_le (show (2147483647 - x51.toInt).toNat < (2147483647 - y9.toInt).toNat from by have q0 := (jv_k (x := 1) 1 (by decide)).1; have q1 := (jv_k (x := 1) 1 (by decide)).2; have q2 := (jv_k (x := 200) 200 (by decide)).1; have q3 := (jv_k (x := 200) 200 (by decide)).2; have q4 := zx51.2.1; have q5 := zx51.2.2; have q6 := p22.1; have q7 := p22.2; have q8 := (gc_nle zc19); have q9 := (g_eq0 zx51.1); omega) (Nat.le_of_lt_succ hm9))
  refine g_lsub [2, 3, 1, 0] [(0, .ref (ad 33)), (1, .int 4), (2, .int (-1)), (3, .int 0)] rfl ?_
  exact J9 8589934592 F5 R6 (-1) 0 oF5 fF5 oR6 fR6 (jv_w (jv_k (x := (-1)) (-1) (by decide)) (by decide)) (jv_w (jv_k (x := 0) 0 (by decide)) (by decide)) hk7 (show (2147483647 - (0 : Int32).toInt).toNat < 8589934592 from by have q0 := (jv_k (x := 0) 0 (by decide)).1; have q1 := (jv_k (x := 0) 0 (by decide)).2; omega)
def K_X3_piece_c3_75  (F6 : Nat → Int32) (R7 : Nat → Nat → Int32) : (Nat → Int32) × (Nat → Nat → Int32) :=
  (F6, R7)
def sp_X3_piece_c3 (F : Nat → Int32) (R : Nat → Nat → Int32) : (Nat → Int32) × (Nat → Nat → Int32) :=
  k_lt (sp_X3_sign F R) (fun r1 => if r1 = 33 then k_lt3 (sp_X3_opens_c3 F R) (fun r50 F54 R55 => k_lt2 (sp_X3_piece_c4 F54 R55) (fun F62 R63 => k_lt3 (sp_X2_emit_25 F62 R63 3 0) (fun r65 F69 R70 => K_X3_piece_c3_75 F69 R70))) else k_lt (sp_X3_sign F R) (fun r10 => if r10 = 40 then k_lt3 (sp_X3_opens_c3 F R) (fun r26 F30 R31 => k_lt2 (sp_X3_parts_c4 F30 R31) (fun F38 R39 => k_lt2 (sp_X3_pass F38 R39 41) (fun F45 R46 => K_X3_piece_c3_75 F45 R46))) else k_lt2 (sp_X3_comparison_c3 F R) (fun F21 R22 => K_X3_piece_c3_75 F21 R22)))
def md_X3_piece_c3 : List Nat := [402, 531, 532]
def mr_X3_piece_c3 : List Nat := [26, 27]
set_option maxHeartbeats 4000000 in
set_option maxRecDepth 100000 in
theorem w_X3_piece_c3 (l : Launch) (X : gX) (ad : Nat → Nat) (F : Nat → Int32) (R : Nat → Nat → Int32) (hI : g_ok LK_wX F) (hA : g_okR LA_wX R) : g_Cv l X yX3_piece cX3_piece 2 18 0 0 [.ref (ad 33), .int 3] (wX X ad F R) (fun w => ∃ (F' : Nat → Int32) (R' : Nat → Nat → Int32), w = wX X ad F' R' ∧ g_ok LK_wX F' ∧ g_okR LA_wX R' ∧ g_fr md_X3_piece_c3 F F' ∧ g_fr mr_X3_piece_c3 R R' ∧ (F', R') = sp_X3_piece_c3 F R) := by
  refine g_mv (by decide +kernel) (Nat.le_of_ble_eq_true rfl) (fun E cx hret => ?_)
  obtain ⟨SP, hSP⟩ : ∃ z, z = sp_X3_piece_c3 F R := ⟨_, rfl⟩
  have hk0 := hSP
  unfold sp_X3_piece_c3 at hk0
  refine g_aload_n cx 0 rfl e_X3_piece_0 ?_
  refine g_cViW cx [] [] (w_X3_sign l X ad F R hI hA) ml_X3_42 yV_X3_sign e_X3_piece_1 (by unfold g_rr; decide) (by decide) 33 rfl rfl rfl (Nat.le_of_ble_eq_true rfl) (fun r1 w2 h3 => ?_)
  obtain ⟨rfl, pr1, hx4⟩ := h3
  have hk5 := k_ls hk0 hx4
  refine g_bipush cx 33 (by decide) e_X3_piece_4 ?_
  have J75 : ∀ (F6 : Nat → Int32) (R7 : Nat → Nat → Int32), (g_ok LK_wX F6) → (g_fr md_X3_piece_c3 F F6) → (g_okR LA_wX R7) → (g_fr mr_X3_piece_c3 R R7) → (SP = K_X3_piece_c3_75 F6 R7) → G X E 2 0 0 (wX X ad F6 R7) [] 75 [] := by
    intro F6 R7 oF6 fF6 oR7 fR7 hkJ75
    unfold K_X3_piece_c3_75 at hkJ75
    exact hret e_X3_piece_75 (Nat.le_of_ble_eq_true rfl) (Nat.le_of_ble_eq_true rfl) ⟨F6, R7, rfl, oF6, oR7, fF6, fR7, (hkJ75.symm.trans hSP)⟩
  refine g_icmp_ne cx 37 e_X3_piece_6 (by decide) (fun zc8 => ?_) (fun zc8 => ?_)
  · have hk9 := hk5.trans (if_neg zc8)
    refine g_aload_n cx 0 rfl e_X3_piece_37 ?_
    refine g_cViW cx [] [] (w_X3_sign l X ad F R hI hA) ml_X3_42 yV_X3_sign e_X3_piece_38 (by unfold g_rr; decide) (by decide) 33 rfl rfl rfl (Nat.le_of_ble_eq_true rfl) (fun r10 w11 h12 => ?_)
    obtain ⟨rfl, pr10, hx13⟩ := h12
    have hk14 := k_ls hk9 hx13
    refine g_bipush cx 40 (by decide) e_X3_piece_41 ?_
    refine g_icmp_ne cx 70 e_X3_piece_43 (by decide) (fun zc15 => ?_) (fun zc15 => ?_)
    · have hk16 := hk14.trans (if_neg zc15)
      refine g_aload_n cx 0 rfl e_X3_piece_70 ?_
      refine g_iload_n cx 1 rfl e_X3_piece_71 ?_
      refine g_cVvW cx [.int 3] [] (w_X3_comparison_c3 l X ad F R hI hA) ml_X3_93 yV_X3_comparison e_X3_piece_72 (by unfold g_rr; decide) (by decide) 33 rfl rfl rfl (Nat.le_of_ble_eq_true rfl) (fun w18 h19 => ?_)
      obtain ⟨F21, R22, rfl, oF21, oR22, cF21, cR22, hx20⟩ := h19
      have hk23 := k_ls2 hk16 hx20
      have fF21 : g_fr md_X3_piece_c3 F F21 := g_fr_c (g_fr_rf F) cF21 rfl
      have fR22 : g_fr mr_X3_piece_c3 R R22 := g_fr_c (g_fr_rf R) cR22 rfl
      refine g_lsub [] [] rfl ?_
      exact J75 F21 R22 oF21 fF21 oR22 fR22 hk23
    · have p24 := gn_eq 40 40 (gc_eq zc15) pr10 (jv_k (x := 40) 40 (by decide)) (by decide)
      have hk25 := hk14.trans (if_pos zc15)
      refine g_aload_n cx 0 rfl e_X3_piece_46 ?_
      refine g_iload_n cx 1 rfl e_X3_piece_47 ?_
      refine g_cViW cx [.int 3] [] (w_X3_opens_c3 l X ad F R hI hA) ml_X3_89 yV_X3_opens e_X3_piece_48 (by unfold g_rr; decide) (by decide) 33 rfl rfl rfl (Nat.le_of_ble_eq_true rfl) (fun r26 w27 h28 => ?_)
      obtain ⟨F30, R31, rfl, oF30, oR31, cF30, cR31, pr26, hx29⟩ := h28
      have hk32 := k_ls3 hk25 hx29
      have fF30 : g_fr md_X3_piece_c3 F F30 := g_fr_c (g_fr_rf F) cF30 rfl
      have fR31 : g_fr mr_X3_piece_c3 R R31 := g_fr_c (g_fr_rf R) cR31 rfl
      refine g_if_eq cx 75 e_X3_piece_51 (by decide) (fun zc33 => ?_) (fun zc33 => ?_)
      · exact (gf_eq (gc_eq zc33) pr26 (jv_k (x := 0) 0 (by decide)) (by decide)).elim
      · refine g_aload_n cx 0 rfl e_X3_piece_54 ?_
        refine g_iload_n cx 1 rfl e_X3_piece_55 ?_
        refine g_iconst cx 1 (by decide) e_X3_piece_56 ?_
        refine g_iadd cx e_X3_piece_57 ?_
        refine g_toi 4 (by decide) ?_
        refine g_cVvW cx [.int 4] [] (w_X3_parts_c4 l X ad F30 R31 oF30 oR31) ml_X3_73 yV_X3_parts e_X3_piece_58 (by unfold g_rr; decide) (by decide) 33 rfl rfl rfl (Nat.le_of_ble_eq_true rfl) (fun w35 h36 => ?_)
        obtain ⟨F38, R39, rfl, oF38, oR39, cF38, cR39, hx37⟩ := h36
        have hk40 := k_ls2 hk32 hx37
        have fF38 : g_fr md_X3_piece_c3 F F38 := g_fr_c fF30 cF38 rfl
        have fR39 : g_fr mr_X3_piece_c3 R R39 := g_fr_c fR31 cR39 rfl
        refine g_aload_n cx 0 rfl e_X3_piece_61 ?_
        refine g_bipush cx 41 (by decide) e_X3_piece_62 ?_
        refine g_cVvW cx [.int 41] [] (w_X3_pass l X ad F38 R39 oF38 oR39 41) ml_X3_70 yV_X3_pass e_X3_piece_64 (by unfold g_rr; decide) (by decide) 33 rfl rfl rfl (Nat.le_of_ble_eq_true rfl) (fun w42 h43 => ?_)
        obtain ⟨F45, R46, rfl, oF45, oR46, cF45, cR46, hx44⟩ := h43
        have hk47 := k_ls2 hk40 hx44
        have fF45 : g_fr md_X3_piece_c3 F F45 := g_fr_c fF38 cF45 rfl
        have fR46 : g_fr mr_X3_piece_c3 R R46 := g_fr_c fR39 cR46 rfl
        refine g_goto cx 75 e_X3_piece_67 (by decide) ?_
        refine g_lsub [] [] rfl ?_
        exact J75 F45 R46 oF45 fF45 oR46 fR46 hk47
  · have p48 := gn_eq 33 33 (gc_eq zc8) pr1 (jv_k (x := 33) 33 (by decide)) (by decide)
    have hk49 := hk5.trans (if_pos zc8)
    refine g_aload_n cx 0 rfl e_X3_piece_9 ?_
    refine g_iload_n cx 1 rfl e_X3_piece_10 ?_
    refine g_cViW cx [.int 3] [] (w_X3_opens_c3 l X ad F R hI hA) ml_X3_89 yV_X3_opens e_X3_piece_11 (by unfold g_rr; decide) (by decide) 33 rfl rfl rfl (Nat.le_of_ble_eq_true rfl) (fun r50 w51 h52 => ?_)
    obtain ⟨F54, R55, rfl, oF54, oR55, cF54, cR55, pr50, hx53⟩ := h52
    have hk56 := k_ls3 hk49 hx53
    have fF54 : g_fr md_X3_piece_c3 F F54 := g_fr_c (g_fr_rf F) cF54 rfl
    have fR55 : g_fr mr_X3_piece_c3 R R55 := g_fr_c (g_fr_rf R) cR55 rfl
    refine g_if_eq cx 75 e_X3_piece_14 (by decide) (fun zc57 => ?_) (fun zc57 => ?_)
    · exact (gf_eq (gc_eq zc57) pr50 (jv_k (x := 0) 0 (by decide)) (by decide)).elim
    · refine g_aload_n cx 0 rfl e_X3_piece_17 ?_
      refine g_iload_n cx 1 rfl e_X3_piece_18 ?_
      refine g_iconst cx 1 (by decide) e_X3_piece_19 ?_
      refine g_iadd cx e_X3_piece_20 ?_
      refine g_toi 4 (by decide) ?_
      refine g_cVvW cx [.int 4] [] (w_X3_piece_c4 l X ad F54 R55 oF54 oR55) ml_X3_86 yV_X3_piece e_X3_piece_21 (by unfold g_rr; decide) (by decide) 33 rfl rfl rfl (Nat.le_of_ble_eq_true rfl) (fun w59 h60 => ?_)
      obtain ⟨F62, R63, rfl, oF62, oR63, cF62, cR63, hx61⟩ := h60
      have hk64 := k_ls2 hk56 hx61
      have fF62 : g_fr md_X3_piece_c3 F F62 := g_fr_c fF54 cF62 rfl
      have fR63 : g_fr mr_X3_piece_c3 R R63 := g_fr_c fR55 cR63 rfl
      refine g_aload_n cx 0 rfl e_X3_piece_24 ?_
      refine g_get cx cl_X3 fl_X3_25 33 (.ref (ad 25)) e_X3_piece_25 rfl rfl ?_
      refine g_iconst cx 3 (by decide) e_X3_piece_28 ?_
      refine g_iconst cx 0 (by decide) e_X3_piece_29 ?_
      refine g_cViW cx [.int 3, .int 0] [] (w_X2_emit_25 l X ad F62 R63 oF62 oR63 3 0) ml_X3_66 yV_X2_emit e_X3_piece_30 (by unfold g_rr; decide) (by decide) 25 rfl rfl rfl (Nat.le_of_ble_eq_true rfl) (fun r65 w66 h67 => ?_)
      obtain ⟨F69, R70, rfl, oF69, oR70, cF69, cR70, pr65, hx68⟩ := h67
      have hk71 := k_ls3 hk64 hx68
      have fF69 : g_fr md_X3_piece_c3 F F69 := g_fr_c fF62 cF69 rfl
      have fR70 : g_fr mr_X3_piece_c3 R R70 := g_fr_c fR63 cR70 rfl
      refine g_pop cx rfl e_X3_piece_33 ?_
      refine g_goto cx 75 e_X3_piece_34 (by decide) ?_
      refine g_lsub [] [] rfl ?_
      exact J75 F69 R70 oF69 fF69 oR70 fR70 hk71
def K_X3_pieces_c3_56 (F10 : Nat → Int32) (R11 : Nat → Nat → Int32) (y8 : Int32)  : (Nat → Int32) × (Nat → Nat → Int32) :=
  k_lt2 (sp_X2_landHere_25 F10 R11 y8) (fun F16 R17 => (F16, R17))
def KB_X3_pieces_c3_9 (b9 : (Nat → Int32) → (Nat → Nat → Int32) → (Int32) → (Int32) → (Nat → Int32) × (Nat → Nat → Int32))  (F10 : Nat → Int32) (R11 : Nat → Nat → Int32) (y8 : Int32) (y9 : Int32) : (Nat → Int32) × (Nat → Nat → Int32) :=
  if 200 ≤ y9 then K_X3_pieces_c3_56 F10 R11 y8 else k_lt (sp_X3_sign F10 R11) (fun r24 => if r24 = 38 then k_lt ((F10 531) + 1) (fun x33 => k_lt (upd F10 531 x33) (fun F35 => k_lt3 (sp_X2_emit_25 F35 R11 4 y8) (fun r37 F41 R42 => k_lt2 (sp_X3_piece_c3 F41 R42) (fun F48 R49 => k_lt (y9 + 1) (fun x51 => b9 F48 R49 r37 x51))))) else K_X3_pieces_c3_56 F10 R11 y8)
def K_X3_pieces_c3_9  : Nat → (Nat → Int32) → (Nat → Nat → Int32) → (Int32) → (Int32) → (Nat → Int32) × (Nat → Nat → Int32)
  | 0 => fun F10 R11 _ _ => (F10, R11)
  | n + 1 => KB_X3_pieces_c3_9 (K_X3_pieces_c3_9 n)
def sp_X3_pieces_c3 (F : Nat → Int32) (R : Nat → Nat → Int32) : (Nat → Int32) × (Nat → Nat → Int32) :=
  k_lt2 (sp_X3_piece_c3 F R) (fun F5 R6 => K_X3_pieces_c3_9 8589934592 F5 R6 (-1) 0)
def md_X3_pieces_c3 : List Nat := [402, 531, 532]
def mr_X3_pieces_c3 : List Nat := [26, 27]
set_option maxHeartbeats 4000000 in
set_option maxRecDepth 100000 in
theorem w_X3_pieces_c3 (l : Launch) (X : gX) (ad : Nat → Nat) (F : Nat → Int32) (R : Nat → Nat → Int32) (hI : g_ok LK_wX F) (hA : g_okR LA_wX R) : g_Cv l X yX3_pieces cX3_pieces 4 19 0 0 [.ref (ad 33), .int 3] (wX X ad F R) (fun w => ∃ (F' : Nat → Int32) (R' : Nat → Nat → Int32), w = wX X ad F' R' ∧ g_ok LK_wX F' ∧ g_okR LA_wX R' ∧ g_fr md_X3_pieces_c3 F F' ∧ g_fr mr_X3_pieces_c3 R R' ∧ (F', R') = sp_X3_pieces_c3 F R) := by
  refine g_mv (by decide +kernel) (Nat.le_of_ble_eq_true rfl) (fun E cx hret => ?_)
  obtain ⟨SP, hSP⟩ : ∃ z, z = sp_X3_pieces_c3 F R := ⟨_, rfl⟩
  have hk0 := hSP
  unfold sp_X3_pieces_c3 at hk0
  refine g_aload_n cx 0 rfl e_X3_pieces_0 ?_
  refine g_iload_n cx 1 rfl e_X3_pieces_1 ?_
  refine g_cVvW cx [.int 3] [] (w_X3_piece_c3 l X ad F R hI hA) ml_X3_86 yV_X3_piece e_X3_pieces_2 (by unfold g_rr; decide) (by decide) 33 rfl rfl rfl (Nat.le_of_ble_eq_true rfl) (fun w2 h3 => ?_)
  obtain ⟨F5, R6, rfl, oF5, oR6, cF5, cR6, hx4⟩ := h3
  have hk7 := k_ls2 hk0 hx4
  have fF5 : g_fr md_X3_pieces_c3 F F5 := g_fr_c (g_fr_rf F) cF5 rfl
  have fR6 : g_fr mr_X3_pieces_c3 R R6 := g_fr_c (g_fr_rf R) cR6 rfl
  refine g_iconst cx (-1) (by decide) e_X3_pieces_5 ?_
  refine g_istore_n cx [(2, .int (-1)), (0, .ref (ad 33)), (1, .int 3)] e_X3_pieces_6 (by decide) rfl ?_
  refine g_iconst cx 0 (by decide) e_X3_pieces_7 ?_
  refine g_istore_n cx [(3, .int 0), (2, .int (-1)), (0, .ref (ad 33)), (1, .int 3)] e_X3_pieces_8 (by decide) rfl ?_
  have J9 : ∀ (N : Nat) (F10 : Nat → Int32) (R11 : Nat → Nat → Int32) (y8 : Int32) (y9 : Int32), (g_ok LK_wX F10) → (g_fr md_X3_pieces_c3 F F10) → (g_okR LA_wX R11) → (g_fr mr_X3_pieces_c3 R R11) → (jv (-1) 256 y8) → (jv 0 200 y9) → (SP = K_X3_pieces_c3_9 N F10 R11 y8 y9) → (2147483647 - y9.toInt).toNat < N → G X E 4 0 0 (wX X ad F10 R11) [(0, .ref (ad 33)), (1, .int 3), (2, .int y8), (3, .int y9)] 9 [] := by
    intro N
    induction N with
    | zero => intro F10 R11 y8 y9 oF10 fF10 oR11 fR11 py8 py9 hkJ9 hm; exact absurd hm (Nat.not_lt_zero _)
    | succ N ih9 =>
      intro F10 R11 y8 y9 oF10 fF10 oR11 fR11 py8 py9 hkJ9 hm9
      have hkK9 : SP = KB_X3_pieces_c3_9 (K_X3_pieces_c3_9 N) F10 R11 y8 y9 := hkJ9
      obtain ⟨b9, hb9⟩ : ∃ z, z = K_X3_pieces_c3_9 N := ⟨_, rfl⟩
      rw [← hb9] at hkK9
      unfold KB_X3_pieces_c3_9 at hkK9
      refine g_iload_n cx 3 rfl e_X3_pieces_9 ?_
      refine g_sipush cx 200 (by decide) e_X3_pieces_10 ?_
      have J56 : (SP = K_X3_pieces_c3_56 F10 R11 y8) → G X E 4 0 0 (wX X ad F10 R11) [(0, .ref (ad 33)), (2, .int y8)] 56 [] := by
        intro   hkJ56
        unfold K_X3_pieces_c3_56 at hkJ56
        refine g_aload_n cx 0 rfl e_X3_pieces_56 ?_
        refine g_get cx cl_X3 fl_X3_25 33 (.ref (ad 25)) e_X3_pieces_57 rfl rfl ?_
        refine g_iload_n cx 1 rfl e_X3_pieces_60 ?_
        refine g_cVvW cx [.int y8] [] (w_X2_landHere_25 l X ad F10 R11 oF10 oR11 y8) ml_X3_83 yV_X2_landHere e_X3_pieces_61 (by unfold g_rr; decide) (by decide) 25 rfl rfl rfl (Nat.le_of_ble_eq_true rfl) (fun w13 h14 => ?_)
        obtain ⟨F16, R17, rfl, oF16, oR17, cF16, cR17, hx15⟩ := h14
        have hk18 := k_ls2 hkJ56 hx15
        have fF16 : g_fr md_X3_pieces_c3 F F16 := g_fr_c fF10 cF16 rfl
        have fR17 : g_fr mr_X3_pieces_c3 R R17 := g_fr_c fR11 cR17 rfl
        exact hret e_X3_pieces_64 (Nat.le_of_ble_eq_true rfl) (Nat.le_of_ble_eq_true rfl) ⟨F16, R17, rfl, oF16, oR17, fF16, fR17, (hk18.symm.trans hSP)⟩
      refine g_icmp_ge cx 56 e_X3_pieces_13 (by decide) (fun zc19 => ?_) (fun zc19 => ?_)
      · have p20 := gn_ge 200 200 (gc_le zc19) py9 (jv_k (x := 200) 200 (by decide)) (by decide)
        have hk21 := hkK9.trans (if_pos zc19)
        refine g_lsub [0, 2] [(0, .ref (ad 33)), (2, .int y8)] rfl ?_
        exact J56  hk21
      · have p22 := gn_lt 0 199 (gc_nle zc19) py9 (jv_k (x := 200) 200 (by decide)) (by decide)
        have hk23 := hkK9.trans (if_neg zc19)
        refine g_aload_n cx 0 rfl e_X3_pieces_16 ?_
        refine g_cViW cx [] [] (w_X3_sign l X ad F10 R11 oF10 oR11) ml_X3_42 yV_X3_sign e_X3_pieces_17 (by unfold g_rr; decide) (by decide) 33 rfl rfl rfl (Nat.le_of_ble_eq_true rfl) (fun r24 w25 h26 => ?_)
        obtain ⟨rfl, pr24, hx27⟩ := h26
        have hk28 := k_ls hk23 hx27
        refine g_bipush cx 38 (by decide) e_X3_pieces_20 ?_
        refine g_icmp_ne cx 56 e_X3_pieces_22 (by decide) (fun zc29 => ?_) (fun zc29 => ?_)
        · have hk30 := hk28.trans (if_neg zc29)
          refine g_lsub [0, 2] [(0, .ref (ad 33)), (2, .int y8)] rfl ?_
          exact J56  hk30
        · have p31 := gn_eq 38 38 (gc_eq zc29) pr24 (jv_k (x := 38) 38 (by decide)) (by decide)
          have hk32 := hk28.trans (if_pos zc29)
          refine g_aload_n cx 0 rfl e_X3_pieces_25 ?_
          refine g_dup cx rfl e_X3_pieces_26 ?_
          refine g_get cx cl_X3 fl_X3_19 33 (.int (F10 531)) e_X3_pieces_27 rfl rfl ?_
          refine g_iconst cx 1 (by decide) e_X3_pieces_30 ?_
          refine g_iadd cx e_X3_pieces_31 ?_
          refine g_topi (fun x33 ex33 => ?_)
          have hk34 := k_ls hk32 ex33
          refine g_put cx cl_X3 fl_X3_19 33 (wX X ad (upd F10 531 x33) R11) e_X3_pieces_32 rfl rfl rfl rfl (Nat.le_of_ble_eq_true rfl) rfl ?_
          obtain ⟨F35, hF35⟩ : ∃ z, z = upd F10 531 x33 := ⟨_, rfl⟩
          rw [← hF35]
          have hk36 := k_ls hk34 hF35
          have oF35 : g_ok LK_wX F35 := by rw [hF35]; exact g_ok_u oF10 rfl
          have fF35 : g_fr md_X3_pieces_c3 F F35 := by rw [hF35]; exact g_fr_u fF10 rfl
          refine g_aload_n cx 0 rfl e_X3_pieces_35 ?_
          refine g_get cx cl_X3 fl_X3_25 33 (.ref (ad 25)) e_X3_pieces_36 rfl rfl ?_
          refine g_iconst cx 4 (by decide) e_X3_pieces_39 ?_
          refine g_iload_n cx 2 rfl e_X3_pieces_40 ?_
          refine g_cViW cx [.int 4, .int y8] [] (w_X2_emit_25 l X ad F35 R11 oF35 oR11 4 y8) ml_X3_66 yV_X2_emit e_X3_pieces_41 (by unfold g_rr; decide) (by decide) 25 rfl rfl rfl (Nat.le_of_ble_eq_true rfl) (fun r37 w38 h39 => ?_)
          obtain ⟨F41, R42, rfl, oF41, oR42, cF41, cR42, pr37, hx40⟩ := h39
          have hk43 := k_ls3 hk36 hx40
          have fF41 : g_fr md_X3_pieces_c3 F F41 := g_fr_c fF35 cF41 rfl
          have fR42 : g_fr mr_X3_pieces_c3 R R42 := g_fr_c fR11 cR42 rfl
          refine g_istore_n cx [(2, .int r37), (0, .ref (ad 33)), (1, .int 3), (3, .int y9)] e_X3_pieces_44 (by decide) rfl ?_
          refine g_aload_n cx 1 rfl e_X3_pieces_45 ?_
          refine g_iload_n cx 2 rfl e_X3_pieces_46 ?_
          refine g_cVvW cx [.int 3] [] (w_X3_piece_c3 l X ad F41 R42 oF41 oR42) ml_X3_86 yV_X3_piece e_X3_pieces_47 (by unfold g_rr; decide) (by decide) 33 rfl rfl rfl (Nat.le_of_ble_eq_true rfl) (fun w45 h46 => ?_)
          obtain ⟨F48, R49, rfl, oF48, oR49, cF48, cR49, hx47⟩ := h46
          have hk50 := k_ls2 hk43 hx47
          have fF48 : g_fr md_X3_pieces_c3 F F48 := g_fr_c fF41 cF48 rfl
          have fR49 : g_fr mr_X3_pieces_c3 R R49 := g_fr_c fR42 cR49 rfl
          obtain ⟨x51, ex51⟩ : ∃ z : Int32, z = y9 + Int32.ofInt 1 := ⟨_, rfl⟩
          have hk52 := k_ls hk50 (show x51 = y9 + 1 from ex51)
          refine g_iinc cx x51 [(3, .int x51), (2, .int r37), (0, .ref (ad 33)), (1, .int 3)] 3 e_X3_pieces_50 rfl ex51.symm (by decide) rfl ?_
          have zx51 := jv_add 1 200 (show x51 = y9 + 1 from ex51) p22 (jv_k (x := 1) 1 (by decide)) (by decide)
          refine g_goto cx 9 e_X3_pieces_53 (by decide) ?_
          refine g_lsub [2, 3, 1, 0] [(0, .ref (ad 33)), (1, .int 3), (2, .int r37), (3, .int x51)] rfl ?_
          exact ih9 F48 R49 r37 x51 oF48 fF48 oR49 fR49 (jv_w pr37 (by decide)) (jv_w zx51.2 (by decide)) (hk52.trans (by rw [hb9])) (Nat.lt_of_lt_of_le (show (2147483647 - x51.toInt).toNat < (2147483647 - y9.toInt).toNat from by have q0 := (jv_k (x := 1) 1 (by decide)).1; have q1 := (jv_k (x := 1) 1 (by decide)).2; have q2 := (jv_k (x := 200) 200 (by decide)).1; have q3 := (jv_k (x := 200) 200 (by decide)).2; have q4 := zx51.2.1; have q5 := zx51.2.2; have q6 := p22.1; have q7 := p22.2; have q8 := (gc_nle zc19); have q9 := (g_eq0 zx51.1); omega) (Nat.le_of_lt_succ hm9))
  refine g_lsub [2, 3, 1, 0] [(0, .ref (ad 33)), (1, .int 3), (2, .int (-1)), (3, .int 0)] rfl ?_
  exact J9 8589934592 F5 R6 (-1) 0 oF5 fF5 oR6 fR6 (jv_w (jv_k (x := (-1)) (-1) (by decide)) (by decide)) (jv_w (jv_k (x := 0) 0 (by decide)) (by decide)) hk7 (show (2147483647 - (0 : Int32).toInt).toNat < 8589934592 from by have q0 := (jv_k (x := 0) 0 (by decide)).1; have q1 := (jv_k (x := 0) 0 (by decide)).2; omega)
def K_X3_parts_c3_56 (F10 : Nat → Int32) (R11 : Nat → Nat → Int32) (y8 : Int32)  : (Nat → Int32) × (Nat → Nat → Int32) :=
  k_lt2 (sp_X2_landHere_25 F10 R11 y8) (fun F16 R17 => (F16, R17))
def KB_X3_parts_c3_9 (b9 : (Nat → Int32) → (Nat → Nat → Int32) → (Int32) → (Int32) → (Nat → Int32) × (Nat → Nat → Int32))  (F10 : Nat → Int32) (R11 : Nat → Nat → Int32) (y8 : Int32) (y9 : Int32) : (Nat → Int32) × (Nat → Nat → Int32) :=
  if 200 ≤ y9 then K_X3_parts_c3_56 F10 R11 y8 else k_lt (sp_X3_sign F10 R11) (fun r24 => if r24 = 124 then k_lt ((F10 531) + 1) (fun x33 => k_lt (upd F10 531 x33) (fun F35 => k_lt3 (sp_X2_emit_25 F35 R11 5 y8) (fun r37 F41 R42 => k_lt2 (sp_X3_pieces_c3 F41 R42) (fun F48 R49 => k_lt (y9 + 1) (fun x51 => b9 F48 R49 r37 x51))))) else K_X3_parts_c3_56 F10 R11 y8)
def K_X3_parts_c3_9  : Nat → (Nat → Int32) → (Nat → Nat → Int32) → (Int32) → (Int32) → (Nat → Int32) × (Nat → Nat → Int32)
  | 0 => fun F10 R11 _ _ => (F10, R11)
  | n + 1 => KB_X3_parts_c3_9 (K_X3_parts_c3_9 n)
def sp_X3_parts_c3 (F : Nat → Int32) (R : Nat → Nat → Int32) : (Nat → Int32) × (Nat → Nat → Int32) :=
  k_lt2 (sp_X3_pieces_c3 F R) (fun F5 R6 => K_X3_parts_c3_9 8589934592 F5 R6 (-1) 0)
def md_X3_parts_c3 : List Nat := [402, 531, 532]
def mr_X3_parts_c3 : List Nat := [26, 27]
set_option maxHeartbeats 4000000 in
set_option maxRecDepth 100000 in
theorem w_X3_parts_c3 (l : Launch) (X : gX) (ad : Nat → Nat) (F : Nat → Int32) (R : Nat → Nat → Int32) (hI : g_ok LK_wX F) (hA : g_okR LA_wX R) : g_Cv l X yX3_parts cX3_parts 4 20 0 0 [.ref (ad 33), .int 3] (wX X ad F R) (fun w => ∃ (F' : Nat → Int32) (R' : Nat → Nat → Int32), w = wX X ad F' R' ∧ g_ok LK_wX F' ∧ g_okR LA_wX R' ∧ g_fr md_X3_parts_c3 F F' ∧ g_fr mr_X3_parts_c3 R R' ∧ (F', R') = sp_X3_parts_c3 F R) := by
  refine g_mv (by decide +kernel) (Nat.le_of_ble_eq_true rfl) (fun E cx hret => ?_)
  obtain ⟨SP, hSP⟩ : ∃ z, z = sp_X3_parts_c3 F R := ⟨_, rfl⟩
  have hk0 := hSP
  unfold sp_X3_parts_c3 at hk0
  refine g_aload_n cx 0 rfl e_X3_parts_0 ?_
  refine g_iload_n cx 1 rfl e_X3_parts_1 ?_
  refine g_cVvW cx [.int 3] [] (w_X3_pieces_c3 l X ad F R hI hA) ml_X3_80 yV_X3_pieces e_X3_parts_2 (by unfold g_rr; decide) (by decide) 33 rfl rfl rfl (Nat.le_of_ble_eq_true rfl) (fun w2 h3 => ?_)
  obtain ⟨F5, R6, rfl, oF5, oR6, cF5, cR6, hx4⟩ := h3
  have hk7 := k_ls2 hk0 hx4
  have fF5 : g_fr md_X3_parts_c3 F F5 := g_fr_c (g_fr_rf F) cF5 rfl
  have fR6 : g_fr mr_X3_parts_c3 R R6 := g_fr_c (g_fr_rf R) cR6 rfl
  refine g_iconst cx (-1) (by decide) e_X3_parts_5 ?_
  refine g_istore_n cx [(2, .int (-1)), (0, .ref (ad 33)), (1, .int 3)] e_X3_parts_6 (by decide) rfl ?_
  refine g_iconst cx 0 (by decide) e_X3_parts_7 ?_
  refine g_istore_n cx [(3, .int 0), (2, .int (-1)), (0, .ref (ad 33)), (1, .int 3)] e_X3_parts_8 (by decide) rfl ?_
  have J9 : ∀ (N : Nat) (F10 : Nat → Int32) (R11 : Nat → Nat → Int32) (y8 : Int32) (y9 : Int32), (g_ok LK_wX F10) → (g_fr md_X3_parts_c3 F F10) → (g_okR LA_wX R11) → (g_fr mr_X3_parts_c3 R R11) → (jv (-1) 256 y8) → (jv 0 200 y9) → (SP = K_X3_parts_c3_9 N F10 R11 y8 y9) → (2147483647 - y9.toInt).toNat < N → G X E 4 0 0 (wX X ad F10 R11) [(0, .ref (ad 33)), (1, .int 3), (2, .int y8), (3, .int y9)] 9 [] := by
    intro N
    induction N with
    | zero => intro F10 R11 y8 y9 oF10 fF10 oR11 fR11 py8 py9 hkJ9 hm; exact absurd hm (Nat.not_lt_zero _)
    | succ N ih9 =>
      intro F10 R11 y8 y9 oF10 fF10 oR11 fR11 py8 py9 hkJ9 hm9
      have hkK9 : SP = KB_X3_parts_c3_9 (K_X3_parts_c3_9 N) F10 R11 y8 y9 := hkJ9
      obtain ⟨b9, hb9⟩ : ∃ z, z = K_X3_parts_c3_9 N := ⟨_, rfl⟩
      rw [← hb9] at hkK9
      unfold KB_X3_parts_c3_9 at hkK9
      refine g_iload_n cx 3 rfl e_X3_parts_9 ?_
      refine g_sipush cx 200 (by decide) e_X3_parts_10 ?_
      have J56 : (SP = K_X3_parts_c3_56 F10 R11 y8) → G X E 4 0 0 (wX X ad F10 R11) [(0, .ref (ad 33)), (2, .int y8)] 56 [] := by
        intro   hkJ56
        unfold K_X3_parts_c3_56 at hkJ56
        refine g_aload_n cx 0 rfl e_X3_parts_56 ?_
        refine g_get cx cl_X3 fl_X3_25 33 (.ref (ad 25)) e_X3_parts_57 rfl rfl ?_
        refine g_iload_n cx 1 rfl e_X3_parts_60 ?_
        refine g_cVvW cx [.int y8] [] (w_X2_landHere_25 l X ad F10 R11 oF10 oR11 y8) ml_X3_83 yV_X2_landHere e_X3_parts_61 (by unfold g_rr; decide) (by decide) 25 rfl rfl rfl (Nat.le_of_ble_eq_true rfl) (fun w13 h14 => ?_)
        obtain ⟨F16, R17, rfl, oF16, oR17, cF16, cR17, hx15⟩ := h14
        have hk18 := k_ls2 hkJ56 hx15
        have fF16 : g_fr md_X3_parts_c3 F F16 := g_fr_c fF10 cF16 rfl
        have fR17 : g_fr mr_X3_parts_c3 R R17 := g_fr_c fR11 cR17 rfl
        exact hret e_X3_parts_64 (Nat.le_of_ble_eq_true rfl) (Nat.le_of_ble_eq_true rfl) ⟨F16, R17, rfl, oF16, oR17, fF16, fR17, (hk18.symm.trans hSP)⟩
      refine g_icmp_ge cx 56 e_X3_parts_13 (by decide) (fun zc19 => ?_) (fun zc19 => ?_)
      · have p20 := gn_ge 200 200 (gc_le zc19) py9 (jv_k (x := 200) 200 (by decide)) (by decide)
        have hk21 := hkK9.trans (if_pos zc19)
        refine g_lsub [0, 2] [(0, .ref (ad 33)), (2, .int y8)] rfl ?_
        exact J56  hk21
      · have p22 := gn_lt 0 199 (gc_nle zc19) py9 (jv_k (x := 200) 200 (by decide)) (by decide)
        have hk23 := hkK9.trans (if_neg zc19)
        refine g_aload_n cx 0 rfl e_X3_parts_16 ?_
        refine g_cViW cx [] [] (w_X3_sign l X ad F10 R11 oF10 oR11) ml_X3_42 yV_X3_sign e_X3_parts_17 (by unfold g_rr; decide) (by decide) 33 rfl rfl rfl (Nat.le_of_ble_eq_true rfl) (fun r24 w25 h26 => ?_)
        obtain ⟨rfl, pr24, hx27⟩ := h26
        have hk28 := k_ls hk23 hx27
        refine g_bipush cx 124 (by decide) e_X3_parts_20 ?_
        refine g_icmp_ne cx 56 e_X3_parts_22 (by decide) (fun zc29 => ?_) (fun zc29 => ?_)
        · have hk30 := hk28.trans (if_neg zc29)
          refine g_lsub [0, 2] [(0, .ref (ad 33)), (2, .int y8)] rfl ?_
          exact J56  hk30
        · have p31 := gn_eq 124 124 (gc_eq zc29) pr24 (jv_k (x := 124) 124 (by decide)) (by decide)
          have hk32 := hk28.trans (if_pos zc29)
          refine g_aload_n cx 0 rfl e_X3_parts_25 ?_
          refine g_dup cx rfl e_X3_parts_26 ?_
          refine g_get cx cl_X3 fl_X3_19 33 (.int (F10 531)) e_X3_parts_27 rfl rfl ?_
          refine g_iconst cx 1 (by decide) e_X3_parts_30 ?_
          refine g_iadd cx e_X3_parts_31 ?_
          refine g_topi (fun x33 ex33 => ?_)
          have hk34 := k_ls hk32 ex33
          refine g_put cx cl_X3 fl_X3_19 33 (wX X ad (upd F10 531 x33) R11) e_X3_parts_32 rfl rfl rfl rfl (Nat.le_of_ble_eq_true rfl) rfl ?_
          obtain ⟨F35, hF35⟩ : ∃ z, z = upd F10 531 x33 := ⟨_, rfl⟩
          rw [← hF35]
          have hk36 := k_ls hk34 hF35
          have oF35 : g_ok LK_wX F35 := by rw [hF35]; exact g_ok_u oF10 rfl
          have fF35 : g_fr md_X3_parts_c3 F F35 := by rw [hF35]; exact g_fr_u fF10 rfl
          refine g_aload_n cx 0 rfl e_X3_parts_35 ?_
          refine g_get cx cl_X3 fl_X3_25 33 (.ref (ad 25)) e_X3_parts_36 rfl rfl ?_
          refine g_iconst cx 5 (by decide) e_X3_parts_39 ?_
          refine g_iload_n cx 2 rfl e_X3_parts_40 ?_
          refine g_cViW cx [.int 5, .int y8] [] (w_X2_emit_25 l X ad F35 R11 oF35 oR11 5 y8) ml_X3_66 yV_X2_emit e_X3_parts_41 (by unfold g_rr; decide) (by decide) 25 rfl rfl rfl (Nat.le_of_ble_eq_true rfl) (fun r37 w38 h39 => ?_)
          obtain ⟨F41, R42, rfl, oF41, oR42, cF41, cR42, pr37, hx40⟩ := h39
          have hk43 := k_ls3 hk36 hx40
          have fF41 : g_fr md_X3_parts_c3 F F41 := g_fr_c fF35 cF41 rfl
          have fR42 : g_fr mr_X3_parts_c3 R R42 := g_fr_c fR11 cR42 rfl
          refine g_istore_n cx [(2, .int r37), (0, .ref (ad 33)), (1, .int 3), (3, .int y9)] e_X3_parts_44 (by decide) rfl ?_
          refine g_aload_n cx 1 rfl e_X3_parts_45 ?_
          refine g_iload_n cx 2 rfl e_X3_parts_46 ?_
          refine g_cVvW cx [.int 3] [] (w_X3_pieces_c3 l X ad F41 R42 oF41 oR42) ml_X3_80 yV_X3_pieces e_X3_parts_47 (by unfold g_rr; decide) (by decide) 33 rfl rfl rfl (Nat.le_of_ble_eq_true rfl) (fun w45 h46 => ?_)
          obtain ⟨F48, R49, rfl, oF48, oR49, cF48, cR49, hx47⟩ := h46
          have hk50 := k_ls2 hk43 hx47
          have fF48 : g_fr md_X3_parts_c3 F F48 := g_fr_c fF41 cF48 rfl
          have fR49 : g_fr mr_X3_parts_c3 R R49 := g_fr_c fR42 cR49 rfl
          obtain ⟨x51, ex51⟩ : ∃ z : Int32, z = y9 + Int32.ofInt 1 := ⟨_, rfl⟩
          have hk52 := k_ls hk50 (show x51 = y9 + 1 from ex51)
          refine g_iinc cx x51 [(3, .int x51), (2, .int r37), (0, .ref (ad 33)), (1, .int 3)] 3 e_X3_parts_50 rfl ex51.symm (by decide) rfl ?_
          have zx51 := jv_add 1 200 (show x51 = y9 + 1 from ex51) p22 (jv_k (x := 1) 1 (by decide)) (by decide)
          refine g_goto cx 9 e_X3_parts_53 (by decide) ?_
          refine g_lsub [2, 3, 1, 0] [(0, .ref (ad 33)), (1, .int 3), (2, .int r37), (3, .int x51)] rfl ?_
          exact ih9 F48 R49 r37 x51 oF48 fF48 oR49 fR49 (jv_w pr37 (by decide)) (jv_w zx51.2 (by decide)) (hk52.trans (by rw [hb9])) (Nat.lt_of_lt_of_le (show (2147483647 - x51.toInt).toNat < (2147483647 - y9.toInt).toNat from by have q0 := (jv_k (x := 1) 1 (by decide)).1; have q1 := (jv_k (x := 1) 1 (by decide)).2; have q2 := (jv_k (x := 200) 200 (by decide)).1; have q3 := (jv_k (x := 200) 200 (by decide)).2; have q4 := zx51.2.1; have q5 := zx51.2.2; have q6 := p22.1; have q7 := p22.2; have q8 := (gc_nle zc19); have q9 := (g_eq0 zx51.1); omega) (Nat.le_of_lt_succ hm9))
  refine g_lsub [2, 3, 1, 0] [(0, .ref (ad 33)), (1, .int 3), (2, .int (-1)), (3, .int 0)] rfl ?_
  exact J9 8589934592 F5 R6 (-1) 0 oF5 fF5 oR6 fR6 (jv_w (jv_k (x := (-1)) (-1) (by decide)) (by decide)) (jv_w (jv_k (x := 0) 0 (by decide)) (by decide)) hk7 (show (2147483647 - (0 : Int32).toInt).toNat < 8589934592 from by have q0 := (jv_k (x := 0) 0 (by decide)).1; have q1 := (jv_k (x := 0) 0 (by decide)).2; omega)
def K_X3_piece_c2_75  (F6 : Nat → Int32) (R7 : Nat → Nat → Int32) : (Nat → Int32) × (Nat → Nat → Int32) :=
  (F6, R7)
def sp_X3_piece_c2 (F : Nat → Int32) (R : Nat → Nat → Int32) : (Nat → Int32) × (Nat → Nat → Int32) :=
  k_lt (sp_X3_sign F R) (fun r1 => if r1 = 33 then k_lt3 (sp_X3_opens_c2 F R) (fun r50 F54 R55 => k_lt2 (sp_X3_piece_c3 F54 R55) (fun F62 R63 => k_lt3 (sp_X2_emit_25 F62 R63 3 0) (fun r65 F69 R70 => K_X3_piece_c2_75 F69 R70))) else k_lt (sp_X3_sign F R) (fun r10 => if r10 = 40 then k_lt3 (sp_X3_opens_c2 F R) (fun r26 F30 R31 => k_lt2 (sp_X3_parts_c3 F30 R31) (fun F38 R39 => k_lt2 (sp_X3_pass F38 R39 41) (fun F45 R46 => K_X3_piece_c2_75 F45 R46))) else k_lt2 (sp_X3_comparison_c2 F R) (fun F21 R22 => K_X3_piece_c2_75 F21 R22)))
def md_X3_piece_c2 : List Nat := [402, 531, 532]
def mr_X3_piece_c2 : List Nat := [26, 27]
set_option maxHeartbeats 4000000 in
set_option maxRecDepth 100000 in
theorem w_X3_piece_c2 (l : Launch) (X : gX) (ad : Nat → Nat) (F : Nat → Int32) (R : Nat → Nat → Int32) (hI : g_ok LK_wX F) (hA : g_okR LA_wX R) : g_Cv l X yX3_piece cX3_piece 2 21 0 0 [.ref (ad 33), .int 2] (wX X ad F R) (fun w => ∃ (F' : Nat → Int32) (R' : Nat → Nat → Int32), w = wX X ad F' R' ∧ g_ok LK_wX F' ∧ g_okR LA_wX R' ∧ g_fr md_X3_piece_c2 F F' ∧ g_fr mr_X3_piece_c2 R R' ∧ (F', R') = sp_X3_piece_c2 F R) := by
  refine g_mv (by decide +kernel) (Nat.le_of_ble_eq_true rfl) (fun E cx hret => ?_)
  obtain ⟨SP, hSP⟩ : ∃ z, z = sp_X3_piece_c2 F R := ⟨_, rfl⟩
  have hk0 := hSP
  unfold sp_X3_piece_c2 at hk0
  refine g_aload_n cx 0 rfl e_X3_piece_0 ?_
  refine g_cViW cx [] [] (w_X3_sign l X ad F R hI hA) ml_X3_42 yV_X3_sign e_X3_piece_1 (by unfold g_rr; decide) (by decide) 33 rfl rfl rfl (Nat.le_of_ble_eq_true rfl) (fun r1 w2 h3 => ?_)
  obtain ⟨rfl, pr1, hx4⟩ := h3
  have hk5 := k_ls hk0 hx4
  refine g_bipush cx 33 (by decide) e_X3_piece_4 ?_
  have J75 : ∀ (F6 : Nat → Int32) (R7 : Nat → Nat → Int32), (g_ok LK_wX F6) → (g_fr md_X3_piece_c2 F F6) → (g_okR LA_wX R7) → (g_fr mr_X3_piece_c2 R R7) → (SP = K_X3_piece_c2_75 F6 R7) → G X E 2 0 0 (wX X ad F6 R7) [] 75 [] := by
    intro F6 R7 oF6 fF6 oR7 fR7 hkJ75
    unfold K_X3_piece_c2_75 at hkJ75
    exact hret e_X3_piece_75 (Nat.le_of_ble_eq_true rfl) (Nat.le_of_ble_eq_true rfl) ⟨F6, R7, rfl, oF6, oR7, fF6, fR7, (hkJ75.symm.trans hSP)⟩
  refine g_icmp_ne cx 37 e_X3_piece_6 (by decide) (fun zc8 => ?_) (fun zc8 => ?_)
  · have hk9 := hk5.trans (if_neg zc8)
    refine g_aload_n cx 0 rfl e_X3_piece_37 ?_
    refine g_cViW cx [] [] (w_X3_sign l X ad F R hI hA) ml_X3_42 yV_X3_sign e_X3_piece_38 (by unfold g_rr; decide) (by decide) 33 rfl rfl rfl (Nat.le_of_ble_eq_true rfl) (fun r10 w11 h12 => ?_)
    obtain ⟨rfl, pr10, hx13⟩ := h12
    have hk14 := k_ls hk9 hx13
    refine g_bipush cx 40 (by decide) e_X3_piece_41 ?_
    refine g_icmp_ne cx 70 e_X3_piece_43 (by decide) (fun zc15 => ?_) (fun zc15 => ?_)
    · have hk16 := hk14.trans (if_neg zc15)
      refine g_aload_n cx 0 rfl e_X3_piece_70 ?_
      refine g_iload_n cx 1 rfl e_X3_piece_71 ?_
      refine g_cVvW cx [.int 2] [] (w_X3_comparison_c2 l X ad F R hI hA) ml_X3_93 yV_X3_comparison e_X3_piece_72 (by unfold g_rr; decide) (by decide) 33 rfl rfl rfl (Nat.le_of_ble_eq_true rfl) (fun w18 h19 => ?_)
      obtain ⟨F21, R22, rfl, oF21, oR22, cF21, cR22, hx20⟩ := h19
      have hk23 := k_ls2 hk16 hx20
      have fF21 : g_fr md_X3_piece_c2 F F21 := g_fr_c (g_fr_rf F) cF21 rfl
      have fR22 : g_fr mr_X3_piece_c2 R R22 := g_fr_c (g_fr_rf R) cR22 rfl
      refine g_lsub [] [] rfl ?_
      exact J75 F21 R22 oF21 fF21 oR22 fR22 hk23
    · have p24 := gn_eq 40 40 (gc_eq zc15) pr10 (jv_k (x := 40) 40 (by decide)) (by decide)
      have hk25 := hk14.trans (if_pos zc15)
      refine g_aload_n cx 0 rfl e_X3_piece_46 ?_
      refine g_iload_n cx 1 rfl e_X3_piece_47 ?_
      refine g_cViW cx [.int 2] [] (w_X3_opens_c2 l X ad F R hI hA) ml_X3_89 yV_X3_opens e_X3_piece_48 (by unfold g_rr; decide) (by decide) 33 rfl rfl rfl (Nat.le_of_ble_eq_true rfl) (fun r26 w27 h28 => ?_)
      obtain ⟨F30, R31, rfl, oF30, oR31, cF30, cR31, pr26, hx29⟩ := h28
      have hk32 := k_ls3 hk25 hx29
      have fF30 : g_fr md_X3_piece_c2 F F30 := g_fr_c (g_fr_rf F) cF30 rfl
      have fR31 : g_fr mr_X3_piece_c2 R R31 := g_fr_c (g_fr_rf R) cR31 rfl
      refine g_if_eq cx 75 e_X3_piece_51 (by decide) (fun zc33 => ?_) (fun zc33 => ?_)
      · exact (gf_eq (gc_eq zc33) pr26 (jv_k (x := 0) 0 (by decide)) (by decide)).elim
      · refine g_aload_n cx 0 rfl e_X3_piece_54 ?_
        refine g_iload_n cx 1 rfl e_X3_piece_55 ?_
        refine g_iconst cx 1 (by decide) e_X3_piece_56 ?_
        refine g_iadd cx e_X3_piece_57 ?_
        refine g_toi 3 (by decide) ?_
        refine g_cVvW cx [.int 3] [] (w_X3_parts_c3 l X ad F30 R31 oF30 oR31) ml_X3_73 yV_X3_parts e_X3_piece_58 (by unfold g_rr; decide) (by decide) 33 rfl rfl rfl (Nat.le_of_ble_eq_true rfl) (fun w35 h36 => ?_)
        obtain ⟨F38, R39, rfl, oF38, oR39, cF38, cR39, hx37⟩ := h36
        have hk40 := k_ls2 hk32 hx37
        have fF38 : g_fr md_X3_piece_c2 F F38 := g_fr_c fF30 cF38 rfl
        have fR39 : g_fr mr_X3_piece_c2 R R39 := g_fr_c fR31 cR39 rfl
        refine g_aload_n cx 0 rfl e_X3_piece_61 ?_
        refine g_bipush cx 41 (by decide) e_X3_piece_62 ?_
        refine g_cVvW cx [.int 41] [] (w_X3_pass l X ad F38 R39 oF38 oR39 41) ml_X3_70 yV_X3_pass e_X3_piece_64 (by unfold g_rr; decide) (by decide) 33 rfl rfl rfl (Nat.le_of_ble_eq_true rfl) (fun w42 h43 => ?_)
        obtain ⟨F45, R46, rfl, oF45, oR46, cF45, cR46, hx44⟩ := h43
        have hk47 := k_ls2 hk40 hx44
        have fF45 : g_fr md_X3_piece_c2 F F45 := g_fr_c fF38 cF45 rfl
        have fR46 : g_fr mr_X3_piece_c2 R R46 := g_fr_c fR39 cR46 rfl
        refine g_goto cx 75 e_X3_piece_67 (by decide) ?_
        refine g_lsub [] [] rfl ?_
        exact J75 F45 R46 oF45 fF45 oR46 fR46 hk47
  · have p48 := gn_eq 33 33 (gc_eq zc8) pr1 (jv_k (x := 33) 33 (by decide)) (by decide)
    have hk49 := hk5.trans (if_pos zc8)
    refine g_aload_n cx 0 rfl e_X3_piece_9 ?_
    refine g_iload_n cx 1 rfl e_X3_piece_10 ?_
    refine g_cViW cx [.int 2] [] (w_X3_opens_c2 l X ad F R hI hA) ml_X3_89 yV_X3_opens e_X3_piece_11 (by unfold g_rr; decide) (by decide) 33 rfl rfl rfl (Nat.le_of_ble_eq_true rfl) (fun r50 w51 h52 => ?_)
    obtain ⟨F54, R55, rfl, oF54, oR55, cF54, cR55, pr50, hx53⟩ := h52
    have hk56 := k_ls3 hk49 hx53
    have fF54 : g_fr md_X3_piece_c2 F F54 := g_fr_c (g_fr_rf F) cF54 rfl
    have fR55 : g_fr mr_X3_piece_c2 R R55 := g_fr_c (g_fr_rf R) cR55 rfl
    refine g_if_eq cx 75 e_X3_piece_14 (by decide) (fun zc57 => ?_) (fun zc57 => ?_)
    · exact (gf_eq (gc_eq zc57) pr50 (jv_k (x := 0) 0 (by decide)) (by decide)).elim
    · refine g_aload_n cx 0 rfl e_X3_piece_17 ?_
      refine g_iload_n cx 1 rfl e_X3_piece_18 ?_
      refine g_iconst cx 1 (by decide) e_X3_piece_19 ?_
      refine g_iadd cx e_X3_piece_20 ?_
      refine g_toi 3 (by decide) ?_
      refine g_cVvW cx [.int 3] [] (w_X3_piece_c3 l X ad F54 R55 oF54 oR55) ml_X3_86 yV_X3_piece e_X3_piece_21 (by unfold g_rr; decide) (by decide) 33 rfl rfl rfl (Nat.le_of_ble_eq_true rfl) (fun w59 h60 => ?_)
      obtain ⟨F62, R63, rfl, oF62, oR63, cF62, cR63, hx61⟩ := h60
      have hk64 := k_ls2 hk56 hx61
      have fF62 : g_fr md_X3_piece_c2 F F62 := g_fr_c fF54 cF62 rfl
      have fR63 : g_fr mr_X3_piece_c2 R R63 := g_fr_c fR55 cR63 rfl
      refine g_aload_n cx 0 rfl e_X3_piece_24 ?_
      refine g_get cx cl_X3 fl_X3_25 33 (.ref (ad 25)) e_X3_piece_25 rfl rfl ?_
      refine g_iconst cx 3 (by decide) e_X3_piece_28 ?_
      refine g_iconst cx 0 (by decide) e_X3_piece_29 ?_
      refine g_cViW cx [.int 3, .int 0] [] (w_X2_emit_25 l X ad F62 R63 oF62 oR63 3 0) ml_X3_66 yV_X2_emit e_X3_piece_30 (by unfold g_rr; decide) (by decide) 25 rfl rfl rfl (Nat.le_of_ble_eq_true rfl) (fun r65 w66 h67 => ?_)
      obtain ⟨F69, R70, rfl, oF69, oR70, cF69, cR70, pr65, hx68⟩ := h67
      have hk71 := k_ls3 hk64 hx68
      have fF69 : g_fr md_X3_piece_c2 F F69 := g_fr_c fF62 cF69 rfl
      have fR70 : g_fr mr_X3_piece_c2 R R70 := g_fr_c fR63 cR70 rfl
      refine g_pop cx rfl e_X3_piece_33 ?_
      refine g_goto cx 75 e_X3_piece_34 (by decide) ?_
      refine g_lsub [] [] rfl ?_
      exact J75 F69 R70 oF69 fF69 oR70 fR70 hk71
def K_X3_pieces_c2_56 (F10 : Nat → Int32) (R11 : Nat → Nat → Int32) (y8 : Int32)  : (Nat → Int32) × (Nat → Nat → Int32) :=
  k_lt2 (sp_X2_landHere_25 F10 R11 y8) (fun F16 R17 => (F16, R17))
def KB_X3_pieces_c2_9 (b9 : (Nat → Int32) → (Nat → Nat → Int32) → (Int32) → (Int32) → (Nat → Int32) × (Nat → Nat → Int32))  (F10 : Nat → Int32) (R11 : Nat → Nat → Int32) (y8 : Int32) (y9 : Int32) : (Nat → Int32) × (Nat → Nat → Int32) :=
  if 200 ≤ y9 then K_X3_pieces_c2_56 F10 R11 y8 else k_lt (sp_X3_sign F10 R11) (fun r24 => if r24 = 38 then k_lt ((F10 531) + 1) (fun x33 => k_lt (upd F10 531 x33) (fun F35 => k_lt3 (sp_X2_emit_25 F35 R11 4 y8) (fun r37 F41 R42 => k_lt2 (sp_X3_piece_c2 F41 R42) (fun F48 R49 => k_lt (y9 + 1) (fun x51 => b9 F48 R49 r37 x51))))) else K_X3_pieces_c2_56 F10 R11 y8)
def K_X3_pieces_c2_9  : Nat → (Nat → Int32) → (Nat → Nat → Int32) → (Int32) → (Int32) → (Nat → Int32) × (Nat → Nat → Int32)
  | 0 => fun F10 R11 _ _ => (F10, R11)
  | n + 1 => KB_X3_pieces_c2_9 (K_X3_pieces_c2_9 n)
def sp_X3_pieces_c2 (F : Nat → Int32) (R : Nat → Nat → Int32) : (Nat → Int32) × (Nat → Nat → Int32) :=
  k_lt2 (sp_X3_piece_c2 F R) (fun F5 R6 => K_X3_pieces_c2_9 8589934592 F5 R6 (-1) 0)
def md_X3_pieces_c2 : List Nat := [402, 531, 532]
def mr_X3_pieces_c2 : List Nat := [26, 27]
set_option maxHeartbeats 4000000 in
set_option maxRecDepth 100000 in
theorem w_X3_pieces_c2 (l : Launch) (X : gX) (ad : Nat → Nat) (F : Nat → Int32) (R : Nat → Nat → Int32) (hI : g_ok LK_wX F) (hA : g_okR LA_wX R) : g_Cv l X yX3_pieces cX3_pieces 4 22 0 0 [.ref (ad 33), .int 2] (wX X ad F R) (fun w => ∃ (F' : Nat → Int32) (R' : Nat → Nat → Int32), w = wX X ad F' R' ∧ g_ok LK_wX F' ∧ g_okR LA_wX R' ∧ g_fr md_X3_pieces_c2 F F' ∧ g_fr mr_X3_pieces_c2 R R' ∧ (F', R') = sp_X3_pieces_c2 F R) := by
  refine g_mv (by decide +kernel) (Nat.le_of_ble_eq_true rfl) (fun E cx hret => ?_)
  obtain ⟨SP, hSP⟩ : ∃ z, z = sp_X3_pieces_c2 F R := ⟨_, rfl⟩
  have hk0 := hSP
  unfold sp_X3_pieces_c2 at hk0
  refine g_aload_n cx 0 rfl e_X3_pieces_0 ?_
  refine g_iload_n cx 1 rfl e_X3_pieces_1 ?_
  refine g_cVvW cx [.int 2] [] (w_X3_piece_c2 l X ad F R hI hA) ml_X3_86 yV_X3_piece e_X3_pieces_2 (by unfold g_rr; decide) (by decide) 33 rfl rfl rfl (Nat.le_of_ble_eq_true rfl) (fun w2 h3 => ?_)
  obtain ⟨F5, R6, rfl, oF5, oR6, cF5, cR6, hx4⟩ := h3
  have hk7 := k_ls2 hk0 hx4
  have fF5 : g_fr md_X3_pieces_c2 F F5 := g_fr_c (g_fr_rf F) cF5 rfl
  have fR6 : g_fr mr_X3_pieces_c2 R R6 := g_fr_c (g_fr_rf R) cR6 rfl
  refine g_iconst cx (-1) (by decide) e_X3_pieces_5 ?_
  refine g_istore_n cx [(2, .int (-1)), (0, .ref (ad 33)), (1, .int 2)] e_X3_pieces_6 (by decide) rfl ?_
  refine g_iconst cx 0 (by decide) e_X3_pieces_7 ?_
  refine g_istore_n cx [(3, .int 0), (2, .int (-1)), (0, .ref (ad 33)), (1, .int 2)] e_X3_pieces_8 (by decide) rfl ?_
  have J9 : ∀ (N : Nat) (F10 : Nat → Int32) (R11 : Nat → Nat → Int32) (y8 : Int32) (y9 : Int32), (g_ok LK_wX F10) → (g_fr md_X3_pieces_c2 F F10) → (g_okR LA_wX R11) → (g_fr mr_X3_pieces_c2 R R11) → (jv (-1) 256 y8) → (jv 0 200 y9) → (SP = K_X3_pieces_c2_9 N F10 R11 y8 y9) → (2147483647 - y9.toInt).toNat < N → G X E 4 0 0 (wX X ad F10 R11) [(0, .ref (ad 33)), (1, .int 2), (2, .int y8), (3, .int y9)] 9 [] := by
    intro N
    induction N with
    | zero => intro F10 R11 y8 y9 oF10 fF10 oR11 fR11 py8 py9 hkJ9 hm; exact absurd hm (Nat.not_lt_zero _)
    | succ N ih9 =>
      intro F10 R11 y8 y9 oF10 fF10 oR11 fR11 py8 py9 hkJ9 hm9
      have hkK9 : SP = KB_X3_pieces_c2_9 (K_X3_pieces_c2_9 N) F10 R11 y8 y9 := hkJ9
      obtain ⟨b9, hb9⟩ : ∃ z, z = K_X3_pieces_c2_9 N := ⟨_, rfl⟩
      rw [← hb9] at hkK9
      unfold KB_X3_pieces_c2_9 at hkK9
      refine g_iload_n cx 3 rfl e_X3_pieces_9 ?_
      refine g_sipush cx 200 (by decide) e_X3_pieces_10 ?_
      have J56 : (SP = K_X3_pieces_c2_56 F10 R11 y8) → G X E 4 0 0 (wX X ad F10 R11) [(0, .ref (ad 33)), (2, .int y8)] 56 [] := by
        intro   hkJ56
        unfold K_X3_pieces_c2_56 at hkJ56
        refine g_aload_n cx 0 rfl e_X3_pieces_56 ?_
        refine g_get cx cl_X3 fl_X3_25 33 (.ref (ad 25)) e_X3_pieces_57 rfl rfl ?_
        refine g_iload_n cx 1 rfl e_X3_pieces_60 ?_
        refine g_cVvW cx [.int y8] [] (w_X2_landHere_25 l X ad F10 R11 oF10 oR11 y8) ml_X3_83 yV_X2_landHere e_X3_pieces_61 (by unfold g_rr; decide) (by decide) 25 rfl rfl rfl (Nat.le_of_ble_eq_true rfl) (fun w13 h14 => ?_)
        obtain ⟨F16, R17, rfl, oF16, oR17, cF16, cR17, hx15⟩ := h14
        have hk18 := k_ls2 hkJ56 hx15
        have fF16 : g_fr md_X3_pieces_c2 F F16 := g_fr_c fF10 cF16 rfl
        have fR17 : g_fr mr_X3_pieces_c2 R R17 := g_fr_c fR11 cR17 rfl
        exact hret e_X3_pieces_64 (Nat.le_of_ble_eq_true rfl) (Nat.le_of_ble_eq_true rfl) ⟨F16, R17, rfl, oF16, oR17, fF16, fR17, (hk18.symm.trans hSP)⟩
      refine g_icmp_ge cx 56 e_X3_pieces_13 (by decide) (fun zc19 => ?_) (fun zc19 => ?_)
      · have p20 := gn_ge 200 200 (gc_le zc19) py9 (jv_k (x := 200) 200 (by decide)) (by decide)
        have hk21 := hkK9.trans (if_pos zc19)
        refine g_lsub [0, 2] [(0, .ref (ad 33)), (2, .int y8)] rfl ?_
        exact J56  hk21
      · have p22 := gn_lt 0 199 (gc_nle zc19) py9 (jv_k (x := 200) 200 (by decide)) (by decide)
        have hk23 := hkK9.trans (if_neg zc19)
        refine g_aload_n cx 0 rfl e_X3_pieces_16 ?_
        refine g_cViW cx [] [] (w_X3_sign l X ad F10 R11 oF10 oR11) ml_X3_42 yV_X3_sign e_X3_pieces_17 (by unfold g_rr; decide) (by decide) 33 rfl rfl rfl (Nat.le_of_ble_eq_true rfl) (fun r24 w25 h26 => ?_)
        obtain ⟨rfl, pr24, hx27⟩ := h26
        have hk28 := k_ls hk23 hx27
        refine g_bipush cx 38 (by decide) e_X3_pieces_20 ?_
        refine g_icmp_ne cx 56 e_X3_pieces_22 (by decide) (fun zc29 => ?_) (fun zc29 => ?_)
        · have hk30 := hk28.trans (if_neg zc29)
          refine g_lsub [0, 2] [(0, .ref (ad 33)), (2, .int y8)] rfl ?_
          exact J56  hk30
        · have p31 := gn_eq 38 38 (gc_eq zc29) pr24 (jv_k (x := 38) 38 (by decide)) (by decide)
          have hk32 := hk28.trans (if_pos zc29)
          refine g_aload_n cx 0 rfl e_X3_pieces_25 ?_
          refine g_dup cx rfl e_X3_pieces_26 ?_
          refine g_get cx cl_X3 fl_X3_19 33 (.int (F10 531)) e_X3_pieces_27 rfl rfl ?_
          refine g_iconst cx 1 (by decide) e_X3_pieces_30 ?_
          refine g_iadd cx e_X3_pieces_31 ?_
          refine g_topi (fun x33 ex33 => ?_)
          have hk34 := k_ls hk32 ex33
          refine g_put cx cl_X3 fl_X3_19 33 (wX X ad (upd F10 531 x33) R11) e_X3_pieces_32 rfl rfl rfl rfl (Nat.le_of_ble_eq_true rfl) rfl ?_
          obtain ⟨F35, hF35⟩ : ∃ z, z = upd F10 531 x33 := ⟨_, rfl⟩
          rw [← hF35]
          have hk36 := k_ls hk34 hF35
          have oF35 : g_ok LK_wX F35 := by rw [hF35]; exact g_ok_u oF10 rfl
          have fF35 : g_fr md_X3_pieces_c2 F F35 := by rw [hF35]; exact g_fr_u fF10 rfl
          refine g_aload_n cx 0 rfl e_X3_pieces_35 ?_
          refine g_get cx cl_X3 fl_X3_25 33 (.ref (ad 25)) e_X3_pieces_36 rfl rfl ?_
          refine g_iconst cx 4 (by decide) e_X3_pieces_39 ?_
          refine g_iload_n cx 2 rfl e_X3_pieces_40 ?_
          refine g_cViW cx [.int 4, .int y8] [] (w_X2_emit_25 l X ad F35 R11 oF35 oR11 4 y8) ml_X3_66 yV_X2_emit e_X3_pieces_41 (by unfold g_rr; decide) (by decide) 25 rfl rfl rfl (Nat.le_of_ble_eq_true rfl) (fun r37 w38 h39 => ?_)
          obtain ⟨F41, R42, rfl, oF41, oR42, cF41, cR42, pr37, hx40⟩ := h39
          have hk43 := k_ls3 hk36 hx40
          have fF41 : g_fr md_X3_pieces_c2 F F41 := g_fr_c fF35 cF41 rfl
          have fR42 : g_fr mr_X3_pieces_c2 R R42 := g_fr_c fR11 cR42 rfl
          refine g_istore_n cx [(2, .int r37), (0, .ref (ad 33)), (1, .int 2), (3, .int y9)] e_X3_pieces_44 (by decide) rfl ?_
          refine g_aload_n cx 1 rfl e_X3_pieces_45 ?_
          refine g_iload_n cx 2 rfl e_X3_pieces_46 ?_
          refine g_cVvW cx [.int 2] [] (w_X3_piece_c2 l X ad F41 R42 oF41 oR42) ml_X3_86 yV_X3_piece e_X3_pieces_47 (by unfold g_rr; decide) (by decide) 33 rfl rfl rfl (Nat.le_of_ble_eq_true rfl) (fun w45 h46 => ?_)
          obtain ⟨F48, R49, rfl, oF48, oR49, cF48, cR49, hx47⟩ := h46
          have hk50 := k_ls2 hk43 hx47
          have fF48 : g_fr md_X3_pieces_c2 F F48 := g_fr_c fF41 cF48 rfl
          have fR49 : g_fr mr_X3_pieces_c2 R R49 := g_fr_c fR42 cR49 rfl
          obtain ⟨x51, ex51⟩ : ∃ z : Int32, z = y9 + Int32.ofInt 1 := ⟨_, rfl⟩
          have hk52 := k_ls hk50 (show x51 = y9 + 1 from ex51)
          refine g_iinc cx x51 [(3, .int x51), (2, .int r37), (0, .ref (ad 33)), (1, .int 2)] 3 e_X3_pieces_50 rfl ex51.symm (by decide) rfl ?_
          have zx51 := jv_add 1 200 (show x51 = y9 + 1 from ex51) p22 (jv_k (x := 1) 1 (by decide)) (by decide)
          refine g_goto cx 9 e_X3_pieces_53 (by decide) ?_
          refine g_lsub [2, 3, 1, 0] [(0, .ref (ad 33)), (1, .int 2), (2, .int r37), (3, .int x51)] rfl ?_
          exact ih9 F48 R49 r37 x51 oF48 fF48 oR49 fR49 (jv_w pr37 (by decide)) (jv_w zx51.2 (by decide)) (hk52.trans (by rw [hb9])) (Nat.lt_of_lt_of_le (show (2147483647 - x51.toInt).toNat < (2147483647 - y9.toInt).toNat from by have q0 := (jv_k (x := 1) 1 (by decide)).1; have q1 := (jv_k (x := 1) 1 (by decide)).2; have q2 := (jv_k (x := 200) 200 (by decide)).1; have q3 := (jv_k (x := 200) 200 (by decide)).2; have q4 := zx51.2.1; have q5 := zx51.2.2; have q6 := p22.1; have q7 := p22.2; have q8 := (gc_nle zc19); have q9 := (g_eq0 zx51.1); omega) (Nat.le_of_lt_succ hm9))
  refine g_lsub [2, 3, 1, 0] [(0, .ref (ad 33)), (1, .int 2), (2, .int (-1)), (3, .int 0)] rfl ?_
  exact J9 8589934592 F5 R6 (-1) 0 oF5 fF5 oR6 fR6 (jv_w (jv_k (x := (-1)) (-1) (by decide)) (by decide)) (jv_w (jv_k (x := 0) 0 (by decide)) (by decide)) hk7 (show (2147483647 - (0 : Int32).toInt).toNat < 8589934592 from by have q0 := (jv_k (x := 0) 0 (by decide)).1; have q1 := (jv_k (x := 0) 0 (by decide)).2; omega)
def K_X3_parts_c2_56 (F10 : Nat → Int32) (R11 : Nat → Nat → Int32) (y8 : Int32)  : (Nat → Int32) × (Nat → Nat → Int32) :=
  k_lt2 (sp_X2_landHere_25 F10 R11 y8) (fun F16 R17 => (F16, R17))
def KB_X3_parts_c2_9 (b9 : (Nat → Int32) → (Nat → Nat → Int32) → (Int32) → (Int32) → (Nat → Int32) × (Nat → Nat → Int32))  (F10 : Nat → Int32) (R11 : Nat → Nat → Int32) (y8 : Int32) (y9 : Int32) : (Nat → Int32) × (Nat → Nat → Int32) :=
  if 200 ≤ y9 then K_X3_parts_c2_56 F10 R11 y8 else k_lt (sp_X3_sign F10 R11) (fun r24 => if r24 = 124 then k_lt ((F10 531) + 1) (fun x33 => k_lt (upd F10 531 x33) (fun F35 => k_lt3 (sp_X2_emit_25 F35 R11 5 y8) (fun r37 F41 R42 => k_lt2 (sp_X3_pieces_c2 F41 R42) (fun F48 R49 => k_lt (y9 + 1) (fun x51 => b9 F48 R49 r37 x51))))) else K_X3_parts_c2_56 F10 R11 y8)
def K_X3_parts_c2_9  : Nat → (Nat → Int32) → (Nat → Nat → Int32) → (Int32) → (Int32) → (Nat → Int32) × (Nat → Nat → Int32)
  | 0 => fun F10 R11 _ _ => (F10, R11)
  | n + 1 => KB_X3_parts_c2_9 (K_X3_parts_c2_9 n)
def sp_X3_parts_c2 (F : Nat → Int32) (R : Nat → Nat → Int32) : (Nat → Int32) × (Nat → Nat → Int32) :=
  k_lt2 (sp_X3_pieces_c2 F R) (fun F5 R6 => K_X3_parts_c2_9 8589934592 F5 R6 (-1) 0)
def md_X3_parts_c2 : List Nat := [402, 531, 532]
def mr_X3_parts_c2 : List Nat := [26, 27]
set_option maxHeartbeats 4000000 in
set_option maxRecDepth 100000 in
theorem w_X3_parts_c2 (l : Launch) (X : gX) (ad : Nat → Nat) (F : Nat → Int32) (R : Nat → Nat → Int32) (hI : g_ok LK_wX F) (hA : g_okR LA_wX R) : g_Cv l X yX3_parts cX3_parts 4 23 0 0 [.ref (ad 33), .int 2] (wX X ad F R) (fun w => ∃ (F' : Nat → Int32) (R' : Nat → Nat → Int32), w = wX X ad F' R' ∧ g_ok LK_wX F' ∧ g_okR LA_wX R' ∧ g_fr md_X3_parts_c2 F F' ∧ g_fr mr_X3_parts_c2 R R' ∧ (F', R') = sp_X3_parts_c2 F R) := by
  refine g_mv (by decide +kernel) (Nat.le_of_ble_eq_true rfl) (fun E cx hret => ?_)
  obtain ⟨SP, hSP⟩ : ∃ z, z = sp_X3_parts_c2 F R := ⟨_, rfl⟩
  have hk0 := hSP
  unfold sp_X3_parts_c2 at hk0
  refine g_aload_n cx 0 rfl e_X3_parts_0 ?_
  refine g_iload_n cx 1 rfl e_X3_parts_1 ?_
  refine g_cVvW cx [.int 2] [] (w_X3_pieces_c2 l X ad F R hI hA) ml_X3_80 yV_X3_pieces e_X3_parts_2 (by unfold g_rr; decide) (by decide) 33 rfl rfl rfl (Nat.le_of_ble_eq_true rfl) (fun w2 h3 => ?_)
  obtain ⟨F5, R6, rfl, oF5, oR6, cF5, cR6, hx4⟩ := h3
  have hk7 := k_ls2 hk0 hx4
  have fF5 : g_fr md_X3_parts_c2 F F5 := g_fr_c (g_fr_rf F) cF5 rfl
  have fR6 : g_fr mr_X3_parts_c2 R R6 := g_fr_c (g_fr_rf R) cR6 rfl
  refine g_iconst cx (-1) (by decide) e_X3_parts_5 ?_
  refine g_istore_n cx [(2, .int (-1)), (0, .ref (ad 33)), (1, .int 2)] e_X3_parts_6 (by decide) rfl ?_
  refine g_iconst cx 0 (by decide) e_X3_parts_7 ?_
  refine g_istore_n cx [(3, .int 0), (2, .int (-1)), (0, .ref (ad 33)), (1, .int 2)] e_X3_parts_8 (by decide) rfl ?_
  have J9 : ∀ (N : Nat) (F10 : Nat → Int32) (R11 : Nat → Nat → Int32) (y8 : Int32) (y9 : Int32), (g_ok LK_wX F10) → (g_fr md_X3_parts_c2 F F10) → (g_okR LA_wX R11) → (g_fr mr_X3_parts_c2 R R11) → (jv (-1) 256 y8) → (jv 0 200 y9) → (SP = K_X3_parts_c2_9 N F10 R11 y8 y9) → (2147483647 - y9.toInt).toNat < N → G X E 4 0 0 (wX X ad F10 R11) [(0, .ref (ad 33)), (1, .int 2), (2, .int y8), (3, .int y9)] 9 [] := by
    intro N
    induction N with
    | zero => intro F10 R11 y8 y9 oF10 fF10 oR11 fR11 py8 py9 hkJ9 hm; exact absurd hm (Nat.not_lt_zero _)
    | succ N ih9 =>
      intro F10 R11 y8 y9 oF10 fF10 oR11 fR11 py8 py9 hkJ9 hm9
      have hkK9 : SP = KB_X3_parts_c2_9 (K_X3_parts_c2_9 N) F10 R11 y8 y9 := hkJ9
      obtain ⟨b9, hb9⟩ : ∃ z, z = K_X3_parts_c2_9 N := ⟨_, rfl⟩
      rw [← hb9] at hkK9
      unfold KB_X3_parts_c2_9 at hkK9
      refine g_iload_n cx 3 rfl e_X3_parts_9 ?_
      refine g_sipush cx 200 (by decide) e_X3_parts_10 ?_
      have J56 : (SP = K_X3_parts_c2_56 F10 R11 y8) → G X E 4 0 0 (wX X ad F10 R11) [(0, .ref (ad 33)), (2, .int y8)] 56 [] := by
        intro   hkJ56
        unfold K_X3_parts_c2_56 at hkJ56
        refine g_aload_n cx 0 rfl e_X3_parts_56 ?_
        refine g_get cx cl_X3 fl_X3_25 33 (.ref (ad 25)) e_X3_parts_57 rfl rfl ?_
        refine g_iload_n cx 1 rfl e_X3_parts_60 ?_
        refine g_cVvW cx [.int y8] [] (w_X2_landHere_25 l X ad F10 R11 oF10 oR11 y8) ml_X3_83 yV_X2_landHere e_X3_parts_61 (by unfold g_rr; decide) (by decide) 25 rfl rfl rfl (Nat.le_of_ble_eq_true rfl) (fun w13 h14 => ?_)
        obtain ⟨F16, R17, rfl, oF16, oR17, cF16, cR17, hx15⟩ := h14
        have hk18 := k_ls2 hkJ56 hx15
        have fF16 : g_fr md_X3_parts_c2 F F16 := g_fr_c fF10 cF16 rfl
        have fR17 : g_fr mr_X3_parts_c2 R R17 := g_fr_c fR11 cR17 rfl
        exact hret e_X3_parts_64 (Nat.le_of_ble_eq_true rfl) (Nat.le_of_ble_eq_true rfl) ⟨F16, R17, rfl, oF16, oR17, fF16, fR17, (hk18.symm.trans hSP)⟩
      refine g_icmp_ge cx 56 e_X3_parts_13 (by decide) (fun zc19 => ?_) (fun zc19 => ?_)
      · have p20 := gn_ge 200 200 (gc_le zc19) py9 (jv_k (x := 200) 200 (by decide)) (by decide)
        have hk21 := hkK9.trans (if_pos zc19)
        refine g_lsub [0, 2] [(0, .ref (ad 33)), (2, .int y8)] rfl ?_
        exact J56  hk21
      · have p22 := gn_lt 0 199 (gc_nle zc19) py9 (jv_k (x := 200) 200 (by decide)) (by decide)
        have hk23 := hkK9.trans (if_neg zc19)
        refine g_aload_n cx 0 rfl e_X3_parts_16 ?_
        refine g_cViW cx [] [] (w_X3_sign l X ad F10 R11 oF10 oR11) ml_X3_42 yV_X3_sign e_X3_parts_17 (by unfold g_rr; decide) (by decide) 33 rfl rfl rfl (Nat.le_of_ble_eq_true rfl) (fun r24 w25 h26 => ?_)
        obtain ⟨rfl, pr24, hx27⟩ := h26
        have hk28 := k_ls hk23 hx27
        refine g_bipush cx 124 (by decide) e_X3_parts_20 ?_
        refine g_icmp_ne cx 56 e_X3_parts_22 (by decide) (fun zc29 => ?_) (fun zc29 => ?_)
        · have hk30 := hk28.trans (if_neg zc29)
          refine g_lsub [0, 2] [(0, .ref (ad 33)), (2, .int y8)] rfl ?_
          exact J56  hk30
        · have p31 := gn_eq 124 124 (gc_eq zc29) pr24 (jv_k (x := 124) 124 (by decide)) (by decide)
          have hk32 := hk28.trans (if_pos zc29)
          refine g_aload_n cx 0 rfl e_X3_parts_25 ?_
          refine g_dup cx rfl e_X3_parts_26 ?_
          refine g_get cx cl_X3 fl_X3_19 33 (.int (F10 531)) e_X3_parts_27 rfl rfl ?_
          refine g_iconst cx 1 (by decide) e_X3_parts_30 ?_
          refine g_iadd cx e_X3_parts_31 ?_
          refine g_topi (fun x33 ex33 => ?_)
          have hk34 := k_ls hk32 ex33
          refine g_put cx cl_X3 fl_X3_19 33 (wX X ad (upd F10 531 x33) R11) e_X3_parts_32 rfl rfl rfl rfl (Nat.le_of_ble_eq_true rfl) rfl ?_
          obtain ⟨F35, hF35⟩ : ∃ z, z = upd F10 531 x33 := ⟨_, rfl⟩
          rw [← hF35]
          have hk36 := k_ls hk34 hF35
          have oF35 : g_ok LK_wX F35 := by rw [hF35]; exact g_ok_u oF10 rfl
          have fF35 : g_fr md_X3_parts_c2 F F35 := by rw [hF35]; exact g_fr_u fF10 rfl
          refine g_aload_n cx 0 rfl e_X3_parts_35 ?_
          refine g_get cx cl_X3 fl_X3_25 33 (.ref (ad 25)) e_X3_parts_36 rfl rfl ?_
          refine g_iconst cx 5 (by decide) e_X3_parts_39 ?_
          refine g_iload_n cx 2 rfl e_X3_parts_40 ?_
          refine g_cViW cx [.int 5, .int y8] [] (w_X2_emit_25 l X ad F35 R11 oF35 oR11 5 y8) ml_X3_66 yV_X2_emit e_X3_parts_41 (by unfold g_rr; decide) (by decide) 25 rfl rfl rfl (Nat.le_of_ble_eq_true rfl) (fun r37 w38 h39 => ?_)
          obtain ⟨F41, R42, rfl, oF41, oR42, cF41, cR42, pr37, hx40⟩ := h39
          have hk43 := k_ls3 hk36 hx40
          have fF41 : g_fr md_X3_parts_c2 F F41 := g_fr_c fF35 cF41 rfl
          have fR42 : g_fr mr_X3_parts_c2 R R42 := g_fr_c fR11 cR42 rfl
          refine g_istore_n cx [(2, .int r37), (0, .ref (ad 33)), (1, .int 2), (3, .int y9)] e_X3_parts_44 (by decide) rfl ?_
          refine g_aload_n cx 1 rfl e_X3_parts_45 ?_
          refine g_iload_n cx 2 rfl e_X3_parts_46 ?_
          refine g_cVvW cx [.int 2] [] (w_X3_pieces_c2 l X ad F41 R42 oF41 oR42) ml_X3_80 yV_X3_pieces e_X3_parts_47 (by unfold g_rr; decide) (by decide) 33 rfl rfl rfl (Nat.le_of_ble_eq_true rfl) (fun w45 h46 => ?_)
          obtain ⟨F48, R49, rfl, oF48, oR49, cF48, cR49, hx47⟩ := h46
          have hk50 := k_ls2 hk43 hx47
          have fF48 : g_fr md_X3_parts_c2 F F48 := g_fr_c fF41 cF48 rfl
          have fR49 : g_fr mr_X3_parts_c2 R R49 := g_fr_c fR42 cR49 rfl
          obtain ⟨x51, ex51⟩ : ∃ z : Int32, z = y9 + Int32.ofInt 1 := ⟨_, rfl⟩
          have hk52 := k_ls hk50 (show x51 = y9 + 1 from ex51)
          refine g_iinc cx x51 [(3, .int x51), (2, .int r37), (0, .ref (ad 33)), (1, .int 2)] 3 e_X3_parts_50 rfl ex51.symm (by decide) rfl ?_
          have zx51 := jv_add 1 200 (show x51 = y9 + 1 from ex51) p22 (jv_k (x := 1) 1 (by decide)) (by decide)
          refine g_goto cx 9 e_X3_parts_53 (by decide) ?_
          refine g_lsub [2, 3, 1, 0] [(0, .ref (ad 33)), (1, .int 2), (2, .int r37), (3, .int x51)] rfl ?_
          exact ih9 F48 R49 r37 x51 oF48 fF48 oR49 fR49 (jv_w pr37 (by decide)) (jv_w zx51.2 (by decide)) (hk52.trans (by rw [hb9])) (Nat.lt_of_lt_of_le (show (2147483647 - x51.toInt).toNat < (2147483647 - y9.toInt).toNat from by have q0 := (jv_k (x := 1) 1 (by decide)).1; have q1 := (jv_k (x := 1) 1 (by decide)).2; have q2 := (jv_k (x := 200) 200 (by decide)).1; have q3 := (jv_k (x := 200) 200 (by decide)).2; have q4 := zx51.2.1; have q5 := zx51.2.2; have q6 := p22.1; have q7 := p22.2; have q8 := (gc_nle zc19); have q9 := (g_eq0 zx51.1); omega) (Nat.le_of_lt_succ hm9))
  refine g_lsub [2, 3, 1, 0] [(0, .ref (ad 33)), (1, .int 2), (2, .int (-1)), (3, .int 0)] rfl ?_
  exact J9 8589934592 F5 R6 (-1) 0 oF5 fF5 oR6 fR6 (jv_w (jv_k (x := (-1)) (-1) (by decide)) (by decide)) (jv_w (jv_k (x := 0) 0 (by decide)) (by decide)) hk7 (show (2147483647 - (0 : Int32).toInt).toNat < 8589934592 from by have q0 := (jv_k (x := 0) 0 (by decide)).1; have q1 := (jv_k (x := 0) 0 (by decide)).2; omega)
def K_X3_piece_c1_75  (F6 : Nat → Int32) (R7 : Nat → Nat → Int32) : (Nat → Int32) × (Nat → Nat → Int32) :=
  (F6, R7)
def sp_X3_piece_c1 (F : Nat → Int32) (R : Nat → Nat → Int32) : (Nat → Int32) × (Nat → Nat → Int32) :=
  k_lt (sp_X3_sign F R) (fun r1 => if r1 = 33 then k_lt3 (sp_X3_opens_c1 F R) (fun r50 F54 R55 => k_lt2 (sp_X3_piece_c2 F54 R55) (fun F62 R63 => k_lt3 (sp_X2_emit_25 F62 R63 3 0) (fun r65 F69 R70 => K_X3_piece_c1_75 F69 R70))) else k_lt (sp_X3_sign F R) (fun r10 => if r10 = 40 then k_lt3 (sp_X3_opens_c1 F R) (fun r26 F30 R31 => k_lt2 (sp_X3_parts_c2 F30 R31) (fun F38 R39 => k_lt2 (sp_X3_pass F38 R39 41) (fun F45 R46 => K_X3_piece_c1_75 F45 R46))) else k_lt2 (sp_X3_comparison_c1 F R) (fun F21 R22 => K_X3_piece_c1_75 F21 R22)))
def md_X3_piece_c1 : List Nat := [402, 531, 532]
def mr_X3_piece_c1 : List Nat := [26, 27]
set_option maxHeartbeats 4000000 in
set_option maxRecDepth 100000 in
theorem w_X3_piece_c1 (l : Launch) (X : gX) (ad : Nat → Nat) (F : Nat → Int32) (R : Nat → Nat → Int32) (hI : g_ok LK_wX F) (hA : g_okR LA_wX R) : g_Cv l X yX3_piece cX3_piece 2 24 0 0 [.ref (ad 33), .int 1] (wX X ad F R) (fun w => ∃ (F' : Nat → Int32) (R' : Nat → Nat → Int32), w = wX X ad F' R' ∧ g_ok LK_wX F' ∧ g_okR LA_wX R' ∧ g_fr md_X3_piece_c1 F F' ∧ g_fr mr_X3_piece_c1 R R' ∧ (F', R') = sp_X3_piece_c1 F R) := by
  refine g_mv (by decide +kernel) (Nat.le_of_ble_eq_true rfl) (fun E cx hret => ?_)
  obtain ⟨SP, hSP⟩ : ∃ z, z = sp_X3_piece_c1 F R := ⟨_, rfl⟩
  have hk0 := hSP
  unfold sp_X3_piece_c1 at hk0
  refine g_aload_n cx 0 rfl e_X3_piece_0 ?_
  refine g_cViW cx [] [] (w_X3_sign l X ad F R hI hA) ml_X3_42 yV_X3_sign e_X3_piece_1 (by unfold g_rr; decide) (by decide) 33 rfl rfl rfl (Nat.le_of_ble_eq_true rfl) (fun r1 w2 h3 => ?_)
  obtain ⟨rfl, pr1, hx4⟩ := h3
  have hk5 := k_ls hk0 hx4
  refine g_bipush cx 33 (by decide) e_X3_piece_4 ?_
  have J75 : ∀ (F6 : Nat → Int32) (R7 : Nat → Nat → Int32), (g_ok LK_wX F6) → (g_fr md_X3_piece_c1 F F6) → (g_okR LA_wX R7) → (g_fr mr_X3_piece_c1 R R7) → (SP = K_X3_piece_c1_75 F6 R7) → G X E 2 0 0 (wX X ad F6 R7) [] 75 [] := by
    intro F6 R7 oF6 fF6 oR7 fR7 hkJ75
    unfold K_X3_piece_c1_75 at hkJ75
    exact hret e_X3_piece_75 (Nat.le_of_ble_eq_true rfl) (Nat.le_of_ble_eq_true rfl) ⟨F6, R7, rfl, oF6, oR7, fF6, fR7, (hkJ75.symm.trans hSP)⟩
  refine g_icmp_ne cx 37 e_X3_piece_6 (by decide) (fun zc8 => ?_) (fun zc8 => ?_)
  · have hk9 := hk5.trans (if_neg zc8)
    refine g_aload_n cx 0 rfl e_X3_piece_37 ?_
    refine g_cViW cx [] [] (w_X3_sign l X ad F R hI hA) ml_X3_42 yV_X3_sign e_X3_piece_38 (by unfold g_rr; decide) (by decide) 33 rfl rfl rfl (Nat.le_of_ble_eq_true rfl) (fun r10 w11 h12 => ?_)
    obtain ⟨rfl, pr10, hx13⟩ := h12
    have hk14 := k_ls hk9 hx13
    refine g_bipush cx 40 (by decide) e_X3_piece_41 ?_
    refine g_icmp_ne cx 70 e_X3_piece_43 (by decide) (fun zc15 => ?_) (fun zc15 => ?_)
    · have hk16 := hk14.trans (if_neg zc15)
      refine g_aload_n cx 0 rfl e_X3_piece_70 ?_
      refine g_iload_n cx 1 rfl e_X3_piece_71 ?_
      refine g_cVvW cx [.int 1] [] (w_X3_comparison_c1 l X ad F R hI hA) ml_X3_93 yV_X3_comparison e_X3_piece_72 (by unfold g_rr; decide) (by decide) 33 rfl rfl rfl (Nat.le_of_ble_eq_true rfl) (fun w18 h19 => ?_)
      obtain ⟨F21, R22, rfl, oF21, oR22, cF21, cR22, hx20⟩ := h19
      have hk23 := k_ls2 hk16 hx20
      have fF21 : g_fr md_X3_piece_c1 F F21 := g_fr_c (g_fr_rf F) cF21 rfl
      have fR22 : g_fr mr_X3_piece_c1 R R22 := g_fr_c (g_fr_rf R) cR22 rfl
      refine g_lsub [] [] rfl ?_
      exact J75 F21 R22 oF21 fF21 oR22 fR22 hk23
    · have p24 := gn_eq 40 40 (gc_eq zc15) pr10 (jv_k (x := 40) 40 (by decide)) (by decide)
      have hk25 := hk14.trans (if_pos zc15)
      refine g_aload_n cx 0 rfl e_X3_piece_46 ?_
      refine g_iload_n cx 1 rfl e_X3_piece_47 ?_
      refine g_cViW cx [.int 1] [] (w_X3_opens_c1 l X ad F R hI hA) ml_X3_89 yV_X3_opens e_X3_piece_48 (by unfold g_rr; decide) (by decide) 33 rfl rfl rfl (Nat.le_of_ble_eq_true rfl) (fun r26 w27 h28 => ?_)
      obtain ⟨F30, R31, rfl, oF30, oR31, cF30, cR31, pr26, hx29⟩ := h28
      have hk32 := k_ls3 hk25 hx29
      have fF30 : g_fr md_X3_piece_c1 F F30 := g_fr_c (g_fr_rf F) cF30 rfl
      have fR31 : g_fr mr_X3_piece_c1 R R31 := g_fr_c (g_fr_rf R) cR31 rfl
      refine g_if_eq cx 75 e_X3_piece_51 (by decide) (fun zc33 => ?_) (fun zc33 => ?_)
      · exact (gf_eq (gc_eq zc33) pr26 (jv_k (x := 0) 0 (by decide)) (by decide)).elim
      · refine g_aload_n cx 0 rfl e_X3_piece_54 ?_
        refine g_iload_n cx 1 rfl e_X3_piece_55 ?_
        refine g_iconst cx 1 (by decide) e_X3_piece_56 ?_
        refine g_iadd cx e_X3_piece_57 ?_
        refine g_toi 2 (by decide) ?_
        refine g_cVvW cx [.int 2] [] (w_X3_parts_c2 l X ad F30 R31 oF30 oR31) ml_X3_73 yV_X3_parts e_X3_piece_58 (by unfold g_rr; decide) (by decide) 33 rfl rfl rfl (Nat.le_of_ble_eq_true rfl) (fun w35 h36 => ?_)
        obtain ⟨F38, R39, rfl, oF38, oR39, cF38, cR39, hx37⟩ := h36
        have hk40 := k_ls2 hk32 hx37
        have fF38 : g_fr md_X3_piece_c1 F F38 := g_fr_c fF30 cF38 rfl
        have fR39 : g_fr mr_X3_piece_c1 R R39 := g_fr_c fR31 cR39 rfl
        refine g_aload_n cx 0 rfl e_X3_piece_61 ?_
        refine g_bipush cx 41 (by decide) e_X3_piece_62 ?_
        refine g_cVvW cx [.int 41] [] (w_X3_pass l X ad F38 R39 oF38 oR39 41) ml_X3_70 yV_X3_pass e_X3_piece_64 (by unfold g_rr; decide) (by decide) 33 rfl rfl rfl (Nat.le_of_ble_eq_true rfl) (fun w42 h43 => ?_)
        obtain ⟨F45, R46, rfl, oF45, oR46, cF45, cR46, hx44⟩ := h43
        have hk47 := k_ls2 hk40 hx44
        have fF45 : g_fr md_X3_piece_c1 F F45 := g_fr_c fF38 cF45 rfl
        have fR46 : g_fr mr_X3_piece_c1 R R46 := g_fr_c fR39 cR46 rfl
        refine g_goto cx 75 e_X3_piece_67 (by decide) ?_
        refine g_lsub [] [] rfl ?_
        exact J75 F45 R46 oF45 fF45 oR46 fR46 hk47
  · have p48 := gn_eq 33 33 (gc_eq zc8) pr1 (jv_k (x := 33) 33 (by decide)) (by decide)
    have hk49 := hk5.trans (if_pos zc8)
    refine g_aload_n cx 0 rfl e_X3_piece_9 ?_
    refine g_iload_n cx 1 rfl e_X3_piece_10 ?_
    refine g_cViW cx [.int 1] [] (w_X3_opens_c1 l X ad F R hI hA) ml_X3_89 yV_X3_opens e_X3_piece_11 (by unfold g_rr; decide) (by decide) 33 rfl rfl rfl (Nat.le_of_ble_eq_true rfl) (fun r50 w51 h52 => ?_)
    obtain ⟨F54, R55, rfl, oF54, oR55, cF54, cR55, pr50, hx53⟩ := h52
    have hk56 := k_ls3 hk49 hx53
    have fF54 : g_fr md_X3_piece_c1 F F54 := g_fr_c (g_fr_rf F) cF54 rfl
    have fR55 : g_fr mr_X3_piece_c1 R R55 := g_fr_c (g_fr_rf R) cR55 rfl
    refine g_if_eq cx 75 e_X3_piece_14 (by decide) (fun zc57 => ?_) (fun zc57 => ?_)
    · exact (gf_eq (gc_eq zc57) pr50 (jv_k (x := 0) 0 (by decide)) (by decide)).elim
    · refine g_aload_n cx 0 rfl e_X3_piece_17 ?_
      refine g_iload_n cx 1 rfl e_X3_piece_18 ?_
      refine g_iconst cx 1 (by decide) e_X3_piece_19 ?_
      refine g_iadd cx e_X3_piece_20 ?_
      refine g_toi 2 (by decide) ?_
      refine g_cVvW cx [.int 2] [] (w_X3_piece_c2 l X ad F54 R55 oF54 oR55) ml_X3_86 yV_X3_piece e_X3_piece_21 (by unfold g_rr; decide) (by decide) 33 rfl rfl rfl (Nat.le_of_ble_eq_true rfl) (fun w59 h60 => ?_)
      obtain ⟨F62, R63, rfl, oF62, oR63, cF62, cR63, hx61⟩ := h60
      have hk64 := k_ls2 hk56 hx61
      have fF62 : g_fr md_X3_piece_c1 F F62 := g_fr_c fF54 cF62 rfl
      have fR63 : g_fr mr_X3_piece_c1 R R63 := g_fr_c fR55 cR63 rfl
      refine g_aload_n cx 0 rfl e_X3_piece_24 ?_
      refine g_get cx cl_X3 fl_X3_25 33 (.ref (ad 25)) e_X3_piece_25 rfl rfl ?_
      refine g_iconst cx 3 (by decide) e_X3_piece_28 ?_
      refine g_iconst cx 0 (by decide) e_X3_piece_29 ?_
      refine g_cViW cx [.int 3, .int 0] [] (w_X2_emit_25 l X ad F62 R63 oF62 oR63 3 0) ml_X3_66 yV_X2_emit e_X3_piece_30 (by unfold g_rr; decide) (by decide) 25 rfl rfl rfl (Nat.le_of_ble_eq_true rfl) (fun r65 w66 h67 => ?_)
      obtain ⟨F69, R70, rfl, oF69, oR70, cF69, cR70, pr65, hx68⟩ := h67
      have hk71 := k_ls3 hk64 hx68
      have fF69 : g_fr md_X3_piece_c1 F F69 := g_fr_c fF62 cF69 rfl
      have fR70 : g_fr mr_X3_piece_c1 R R70 := g_fr_c fR63 cR70 rfl
      refine g_pop cx rfl e_X3_piece_33 ?_
      refine g_goto cx 75 e_X3_piece_34 (by decide) ?_
      refine g_lsub [] [] rfl ?_
      exact J75 F69 R70 oF69 fF69 oR70 fR70 hk71
def K_X3_pieces_c1_56 (F10 : Nat → Int32) (R11 : Nat → Nat → Int32) (y8 : Int32)  : (Nat → Int32) × (Nat → Nat → Int32) :=
  k_lt2 (sp_X2_landHere_25 F10 R11 y8) (fun F16 R17 => (F16, R17))
def KB_X3_pieces_c1_9 (b9 : (Nat → Int32) → (Nat → Nat → Int32) → (Int32) → (Int32) → (Nat → Int32) × (Nat → Nat → Int32))  (F10 : Nat → Int32) (R11 : Nat → Nat → Int32) (y8 : Int32) (y9 : Int32) : (Nat → Int32) × (Nat → Nat → Int32) :=
  if 200 ≤ y9 then K_X3_pieces_c1_56 F10 R11 y8 else k_lt (sp_X3_sign F10 R11) (fun r24 => if r24 = 38 then k_lt ((F10 531) + 1) (fun x33 => k_lt (upd F10 531 x33) (fun F35 => k_lt3 (sp_X2_emit_25 F35 R11 4 y8) (fun r37 F41 R42 => k_lt2 (sp_X3_piece_c1 F41 R42) (fun F48 R49 => k_lt (y9 + 1) (fun x51 => b9 F48 R49 r37 x51))))) else K_X3_pieces_c1_56 F10 R11 y8)
def K_X3_pieces_c1_9  : Nat → (Nat → Int32) → (Nat → Nat → Int32) → (Int32) → (Int32) → (Nat → Int32) × (Nat → Nat → Int32)
  | 0 => fun F10 R11 _ _ => (F10, R11)
  | n + 1 => KB_X3_pieces_c1_9 (K_X3_pieces_c1_9 n)
def sp_X3_pieces_c1 (F : Nat → Int32) (R : Nat → Nat → Int32) : (Nat → Int32) × (Nat → Nat → Int32) :=
  k_lt2 (sp_X3_piece_c1 F R) (fun F5 R6 => K_X3_pieces_c1_9 8589934592 F5 R6 (-1) 0)
def md_X3_pieces_c1 : List Nat := [402, 531, 532]
def mr_X3_pieces_c1 : List Nat := [26, 27]
set_option maxHeartbeats 4000000 in
set_option maxRecDepth 100000 in
theorem w_X3_pieces_c1 (l : Launch) (X : gX) (ad : Nat → Nat) (F : Nat → Int32) (R : Nat → Nat → Int32) (hI : g_ok LK_wX F) (hA : g_okR LA_wX R) : g_Cv l X yX3_pieces cX3_pieces 4 25 0 0 [.ref (ad 33), .int 1] (wX X ad F R) (fun w => ∃ (F' : Nat → Int32) (R' : Nat → Nat → Int32), w = wX X ad F' R' ∧ g_ok LK_wX F' ∧ g_okR LA_wX R' ∧ g_fr md_X3_pieces_c1 F F' ∧ g_fr mr_X3_pieces_c1 R R' ∧ (F', R') = sp_X3_pieces_c1 F R) := by
  refine g_mv (by decide +kernel) (Nat.le_of_ble_eq_true rfl) (fun E cx hret => ?_)
  obtain ⟨SP, hSP⟩ : ∃ z, z = sp_X3_pieces_c1 F R := ⟨_, rfl⟩
  have hk0 := hSP
  unfold sp_X3_pieces_c1 at hk0
  refine g_aload_n cx 0 rfl e_X3_pieces_0 ?_
  refine g_iload_n cx 1 rfl e_X3_pieces_1 ?_
  refine g_cVvW cx [.int 1] [] (w_X3_piece_c1 l X ad F R hI hA) ml_X3_86 yV_X3_piece e_X3_pieces_2 (by unfold g_rr; decide) (by decide) 33 rfl rfl rfl (Nat.le_of_ble_eq_true rfl) (fun w2 h3 => ?_)
  obtain ⟨F5, R6, rfl, oF5, oR6, cF5, cR6, hx4⟩ := h3
  have hk7 := k_ls2 hk0 hx4
  have fF5 : g_fr md_X3_pieces_c1 F F5 := g_fr_c (g_fr_rf F) cF5 rfl
  have fR6 : g_fr mr_X3_pieces_c1 R R6 := g_fr_c (g_fr_rf R) cR6 rfl
  refine g_iconst cx (-1) (by decide) e_X3_pieces_5 ?_
  refine g_istore_n cx [(2, .int (-1)), (0, .ref (ad 33)), (1, .int 1)] e_X3_pieces_6 (by decide) rfl ?_
  refine g_iconst cx 0 (by decide) e_X3_pieces_7 ?_
  refine g_istore_n cx [(3, .int 0), (2, .int (-1)), (0, .ref (ad 33)), (1, .int 1)] e_X3_pieces_8 (by decide) rfl ?_
  have J9 : ∀ (N : Nat) (F10 : Nat → Int32) (R11 : Nat → Nat → Int32) (y8 : Int32) (y9 : Int32), (g_ok LK_wX F10) → (g_fr md_X3_pieces_c1 F F10) → (g_okR LA_wX R11) → (g_fr mr_X3_pieces_c1 R R11) → (jv (-1) 256 y8) → (jv 0 200 y9) → (SP = K_X3_pieces_c1_9 N F10 R11 y8 y9) → (2147483647 - y9.toInt).toNat < N → G X E 4 0 0 (wX X ad F10 R11) [(0, .ref (ad 33)), (1, .int 1), (2, .int y8), (3, .int y9)] 9 [] := by
    intro N
    induction N with
    | zero => intro F10 R11 y8 y9 oF10 fF10 oR11 fR11 py8 py9 hkJ9 hm; exact absurd hm (Nat.not_lt_zero _)
    | succ N ih9 =>
      intro F10 R11 y8 y9 oF10 fF10 oR11 fR11 py8 py9 hkJ9 hm9
      have hkK9 : SP = KB_X3_pieces_c1_9 (K_X3_pieces_c1_9 N) F10 R11 y8 y9 := hkJ9
      obtain ⟨b9, hb9⟩ : ∃ z, z = K_X3_pieces_c1_9 N := ⟨_, rfl⟩
      rw [← hb9] at hkK9
      unfold KB_X3_pieces_c1_9 at hkK9
      refine g_iload_n cx 3 rfl e_X3_pieces_9 ?_
      refine g_sipush cx 200 (by decide) e_X3_pieces_10 ?_
      have J56 : (SP = K_X3_pieces_c1_56 F10 R11 y8) → G X E 4 0 0 (wX X ad F10 R11) [(0, .ref (ad 33)), (2, .int y8)] 56 [] := by
        intro   hkJ56
        unfold K_X3_pieces_c1_56 at hkJ56
        refine g_aload_n cx 0 rfl e_X3_pieces_56 ?_
        refine g_get cx cl_X3 fl_X3_25 33 (.ref (ad 25)) e_X3_pieces_57 rfl rfl ?_
        refine g_iload_n cx 1 rfl e_X3_pieces_60 ?_
        refine g_cVvW cx [.int y8] [] (w_X2_landHere_25 l X ad F10 R11 oF10 oR11 y8) ml_X3_83 yV_X2_landHere e_X3_pieces_61 (by unfold g_rr; decide) (by decide) 25 rfl rfl rfl (Nat.le_of_ble_eq_true rfl) (fun w13 h14 => ?_)
        obtain ⟨F16, R17, rfl, oF16, oR17, cF16, cR17, hx15⟩ := h14
        have hk18 := k_ls2 hkJ56 hx15
        have fF16 : g_fr md_X3_pieces_c1 F F16 := g_fr_c fF10 cF16 rfl
        have fR17 : g_fr mr_X3_pieces_c1 R R17 := g_fr_c fR11 cR17 rfl
        exact hret e_X3_pieces_64 (Nat.le_of_ble_eq_true rfl) (Nat.le_of_ble_eq_true rfl) ⟨F16, R17, rfl, oF16, oR17, fF16, fR17, (hk18.symm.trans hSP)⟩
      refine g_icmp_ge cx 56 e_X3_pieces_13 (by decide) (fun zc19 => ?_) (fun zc19 => ?_)
      · have p20 := gn_ge 200 200 (gc_le zc19) py9 (jv_k (x := 200) 200 (by decide)) (by decide)
        have hk21 := hkK9.trans (if_pos zc19)
        refine g_lsub [0, 2] [(0, .ref (ad 33)), (2, .int y8)] rfl ?_
        exact J56  hk21
      · have p22 := gn_lt 0 199 (gc_nle zc19) py9 (jv_k (x := 200) 200 (by decide)) (by decide)
        have hk23 := hkK9.trans (if_neg zc19)
        refine g_aload_n cx 0 rfl e_X3_pieces_16 ?_
        refine g_cViW cx [] [] (w_X3_sign l X ad F10 R11 oF10 oR11) ml_X3_42 yV_X3_sign e_X3_pieces_17 (by unfold g_rr; decide) (by decide) 33 rfl rfl rfl (Nat.le_of_ble_eq_true rfl) (fun r24 w25 h26 => ?_)
        obtain ⟨rfl, pr24, hx27⟩ := h26
        have hk28 := k_ls hk23 hx27
        refine g_bipush cx 38 (by decide) e_X3_pieces_20 ?_
        refine g_icmp_ne cx 56 e_X3_pieces_22 (by decide) (fun zc29 => ?_) (fun zc29 => ?_)
        · have hk30 := hk28.trans (if_neg zc29)
          refine g_lsub [0, 2] [(0, .ref (ad 33)), (2, .int y8)] rfl ?_
          exact J56  hk30
        · have p31 := gn_eq 38 38 (gc_eq zc29) pr24 (jv_k (x := 38) 38 (by decide)) (by decide)
          have hk32 := hk28.trans (if_pos zc29)
          refine g_aload_n cx 0 rfl e_X3_pieces_25 ?_
          refine g_dup cx rfl e_X3_pieces_26 ?_
          refine g_get cx cl_X3 fl_X3_19 33 (.int (F10 531)) e_X3_pieces_27 rfl rfl ?_
          refine g_iconst cx 1 (by decide) e_X3_pieces_30 ?_
          refine g_iadd cx e_X3_pieces_31 ?_
          refine g_topi (fun x33 ex33 => ?_)
          have hk34 := k_ls hk32 ex33
          refine g_put cx cl_X3 fl_X3_19 33 (wX X ad (upd F10 531 x33) R11) e_X3_pieces_32 rfl rfl rfl rfl (Nat.le_of_ble_eq_true rfl) rfl ?_
          obtain ⟨F35, hF35⟩ : ∃ z, z = upd F10 531 x33 := ⟨_, rfl⟩
          rw [← hF35]
          have hk36 := k_ls hk34 hF35
          have oF35 : g_ok LK_wX F35 := by rw [hF35]; exact g_ok_u oF10 rfl
          have fF35 : g_fr md_X3_pieces_c1 F F35 := by rw [hF35]; exact g_fr_u fF10 rfl
          refine g_aload_n cx 0 rfl e_X3_pieces_35 ?_
          refine g_get cx cl_X3 fl_X3_25 33 (.ref (ad 25)) e_X3_pieces_36 rfl rfl ?_
          refine g_iconst cx 4 (by decide) e_X3_pieces_39 ?_
          refine g_iload_n cx 2 rfl e_X3_pieces_40 ?_
          refine g_cViW cx [.int 4, .int y8] [] (w_X2_emit_25 l X ad F35 R11 oF35 oR11 4 y8) ml_X3_66 yV_X2_emit e_X3_pieces_41 (by unfold g_rr; decide) (by decide) 25 rfl rfl rfl (Nat.le_of_ble_eq_true rfl) (fun r37 w38 h39 => ?_)
          obtain ⟨F41, R42, rfl, oF41, oR42, cF41, cR42, pr37, hx40⟩ := h39
          have hk43 := k_ls3 hk36 hx40
          have fF41 : g_fr md_X3_pieces_c1 F F41 := g_fr_c fF35 cF41 rfl
          have fR42 : g_fr mr_X3_pieces_c1 R R42 := g_fr_c fR11 cR42 rfl
          refine g_istore_n cx [(2, .int r37), (0, .ref (ad 33)), (1, .int 1), (3, .int y9)] e_X3_pieces_44 (by decide) rfl ?_
          refine g_aload_n cx 1 rfl e_X3_pieces_45 ?_
          refine g_iload_n cx 2 rfl e_X3_pieces_46 ?_
          refine g_cVvW cx [.int 1] [] (w_X3_piece_c1 l X ad F41 R42 oF41 oR42) ml_X3_86 yV_X3_piece e_X3_pieces_47 (by unfold g_rr; decide) (by decide) 33 rfl rfl rfl (Nat.le_of_ble_eq_true rfl) (fun w45 h46 => ?_)
          obtain ⟨F48, R49, rfl, oF48, oR49, cF48, cR49, hx47⟩ := h46
          have hk50 := k_ls2 hk43 hx47
          have fF48 : g_fr md_X3_pieces_c1 F F48 := g_fr_c fF41 cF48 rfl
          have fR49 : g_fr mr_X3_pieces_c1 R R49 := g_fr_c fR42 cR49 rfl
          obtain ⟨x51, ex51⟩ : ∃ z : Int32, z = y9 + Int32.ofInt 1 := ⟨_, rfl⟩
          have hk52 := k_ls hk50 (show x51 = y9 + 1 from ex51)
          refine g_iinc cx x51 [(3, .int x51), (2, .int r37), (0, .ref (ad 33)), (1, .int 1)] 3 e_X3_pieces_50 rfl ex51.symm (by decide) rfl ?_
          have zx51 := jv_add 1 200 (show x51 = y9 + 1 from ex51) p22 (jv_k (x := 1) 1 (by decide)) (by decide)
          refine g_goto cx 9 e_X3_pieces_53 (by decide) ?_
          refine g_lsub [2, 3, 1, 0] [(0, .ref (ad 33)), (1, .int 1), (2, .int r37), (3, .int x51)] rfl ?_
          exact ih9 F48 R49 r37 x51 oF48 fF48 oR49 fR49 (jv_w pr37 (by decide)) (jv_w zx51.2 (by decide)) (hk52.trans (by rw [hb9])) (Nat.lt_of_lt_of_le (show (2147483647 - x51.toInt).toNat < (2147483647 - y9.toInt).toNat from by have q0 := (jv_k (x := 1) 1 (by decide)).1; have q1 := (jv_k (x := 1) 1 (by decide)).2; have q2 := (jv_k (x := 200) 200 (by decide)).1; have q3 := (jv_k (x := 200) 200 (by decide)).2; have q4 := zx51.2.1; have q5 := zx51.2.2; have q6 := p22.1; have q7 := p22.2; have q8 := (gc_nle zc19); have q9 := (g_eq0 zx51.1); omega) (Nat.le_of_lt_succ hm9))
  refine g_lsub [2, 3, 1, 0] [(0, .ref (ad 33)), (1, .int 1), (2, .int (-1)), (3, .int 0)] rfl ?_
  exact J9 8589934592 F5 R6 (-1) 0 oF5 fF5 oR6 fR6 (jv_w (jv_k (x := (-1)) (-1) (by decide)) (by decide)) (jv_w (jv_k (x := 0) 0 (by decide)) (by decide)) hk7 (show (2147483647 - (0 : Int32).toInt).toNat < 8589934592 from by have q0 := (jv_k (x := 0) 0 (by decide)).1; have q1 := (jv_k (x := 0) 0 (by decide)).2; omega)
def K_X3_parts_c1_56 (F10 : Nat → Int32) (R11 : Nat → Nat → Int32) (y8 : Int32)  : (Nat → Int32) × (Nat → Nat → Int32) :=
  k_lt2 (sp_X2_landHere_25 F10 R11 y8) (fun F16 R17 => (F16, R17))
def KB_X3_parts_c1_9 (b9 : (Nat → Int32) → (Nat → Nat → Int32) → (Int32) → (Int32) → (Nat → Int32) × (Nat → Nat → Int32))  (F10 : Nat → Int32) (R11 : Nat → Nat → Int32) (y8 : Int32) (y9 : Int32) : (Nat → Int32) × (Nat → Nat → Int32) :=
  if 200 ≤ y9 then K_X3_parts_c1_56 F10 R11 y8 else k_lt (sp_X3_sign F10 R11) (fun r24 => if r24 = 124 then k_lt ((F10 531) + 1) (fun x33 => k_lt (upd F10 531 x33) (fun F35 => k_lt3 (sp_X2_emit_25 F35 R11 5 y8) (fun r37 F41 R42 => k_lt2 (sp_X3_pieces_c1 F41 R42) (fun F48 R49 => k_lt (y9 + 1) (fun x51 => b9 F48 R49 r37 x51))))) else K_X3_parts_c1_56 F10 R11 y8)
def K_X3_parts_c1_9  : Nat → (Nat → Int32) → (Nat → Nat → Int32) → (Int32) → (Int32) → (Nat → Int32) × (Nat → Nat → Int32)
  | 0 => fun F10 R11 _ _ => (F10, R11)
  | n + 1 => KB_X3_parts_c1_9 (K_X3_parts_c1_9 n)
def sp_X3_parts_c1 (F : Nat → Int32) (R : Nat → Nat → Int32) : (Nat → Int32) × (Nat → Nat → Int32) :=
  k_lt2 (sp_X3_pieces_c1 F R) (fun F5 R6 => K_X3_parts_c1_9 8589934592 F5 R6 (-1) 0)
def md_X3_parts_c1 : List Nat := [402, 531, 532]
def mr_X3_parts_c1 : List Nat := [26, 27]
set_option maxHeartbeats 4000000 in
set_option maxRecDepth 100000 in
theorem w_X3_parts_c1 (l : Launch) (X : gX) (ad : Nat → Nat) (F : Nat → Int32) (R : Nat → Nat → Int32) (hI : g_ok LK_wX F) (hA : g_okR LA_wX R) : g_Cv l X yX3_parts cX3_parts 4 26 0 0 [.ref (ad 33), .int 1] (wX X ad F R) (fun w => ∃ (F' : Nat → Int32) (R' : Nat → Nat → Int32), w = wX X ad F' R' ∧ g_ok LK_wX F' ∧ g_okR LA_wX R' ∧ g_fr md_X3_parts_c1 F F' ∧ g_fr mr_X3_parts_c1 R R' ∧ (F', R') = sp_X3_parts_c1 F R) := by
  refine g_mv (by decide +kernel) (Nat.le_of_ble_eq_true rfl) (fun E cx hret => ?_)
  obtain ⟨SP, hSP⟩ : ∃ z, z = sp_X3_parts_c1 F R := ⟨_, rfl⟩
  have hk0 := hSP
  unfold sp_X3_parts_c1 at hk0
  refine g_aload_n cx 0 rfl e_X3_parts_0 ?_
  refine g_iload_n cx 1 rfl e_X3_parts_1 ?_
  refine g_cVvW cx [.int 1] [] (w_X3_pieces_c1 l X ad F R hI hA) ml_X3_80 yV_X3_pieces e_X3_parts_2 (by unfold g_rr; decide) (by decide) 33 rfl rfl rfl (Nat.le_of_ble_eq_true rfl) (fun w2 h3 => ?_)
  obtain ⟨F5, R6, rfl, oF5, oR6, cF5, cR6, hx4⟩ := h3
  have hk7 := k_ls2 hk0 hx4
  have fF5 : g_fr md_X3_parts_c1 F F5 := g_fr_c (g_fr_rf F) cF5 rfl
  have fR6 : g_fr mr_X3_parts_c1 R R6 := g_fr_c (g_fr_rf R) cR6 rfl
  refine g_iconst cx (-1) (by decide) e_X3_parts_5 ?_
  refine g_istore_n cx [(2, .int (-1)), (0, .ref (ad 33)), (1, .int 1)] e_X3_parts_6 (by decide) rfl ?_
  refine g_iconst cx 0 (by decide) e_X3_parts_7 ?_
  refine g_istore_n cx [(3, .int 0), (2, .int (-1)), (0, .ref (ad 33)), (1, .int 1)] e_X3_parts_8 (by decide) rfl ?_
  have J9 : ∀ (N : Nat) (F10 : Nat → Int32) (R11 : Nat → Nat → Int32) (y8 : Int32) (y9 : Int32), (g_ok LK_wX F10) → (g_fr md_X3_parts_c1 F F10) → (g_okR LA_wX R11) → (g_fr mr_X3_parts_c1 R R11) → (jv (-1) 256 y8) → (jv 0 200 y9) → (SP = K_X3_parts_c1_9 N F10 R11 y8 y9) → (2147483647 - y9.toInt).toNat < N → G X E 4 0 0 (wX X ad F10 R11) [(0, .ref (ad 33)), (1, .int 1), (2, .int y8), (3, .int y9)] 9 [] := by
    intro N
    induction N with
    | zero => intro F10 R11 y8 y9 oF10 fF10 oR11 fR11 py8 py9 hkJ9 hm; exact absurd hm (Nat.not_lt_zero _)
    | succ N ih9 =>
      intro F10 R11 y8 y9 oF10 fF10 oR11 fR11 py8 py9 hkJ9 hm9
      have hkK9 : SP = KB_X3_parts_c1_9 (K_X3_parts_c1_9 N) F10 R11 y8 y9 := hkJ9
      obtain ⟨b9, hb9⟩ : ∃ z, z = K_X3_parts_c1_9 N := ⟨_, rfl⟩
      rw [← hb9] at hkK9
      unfold KB_X3_parts_c1_9 at hkK9
      refine g_iload_n cx 3 rfl e_X3_parts_9 ?_
      refine g_sipush cx 200 (by decide) e_X3_parts_10 ?_
      have J56 : (SP = K_X3_parts_c1_56 F10 R11 y8) → G X E 4 0 0 (wX X ad F10 R11) [(0, .ref (ad 33)), (2, .int y8)] 56 [] := by
        intro   hkJ56
        unfold K_X3_parts_c1_56 at hkJ56
        refine g_aload_n cx 0 rfl e_X3_parts_56 ?_
        refine g_get cx cl_X3 fl_X3_25 33 (.ref (ad 25)) e_X3_parts_57 rfl rfl ?_
        refine g_iload_n cx 1 rfl e_X3_parts_60 ?_
        refine g_cVvW cx [.int y8] [] (w_X2_landHere_25 l X ad F10 R11 oF10 oR11 y8) ml_X3_83 yV_X2_landHere e_X3_parts_61 (by unfold g_rr; decide) (by decide) 25 rfl rfl rfl (Nat.le_of_ble_eq_true rfl) (fun w13 h14 => ?_)
        obtain ⟨F16, R17, rfl, oF16, oR17, cF16, cR17, hx15⟩ := h14
        have hk18 := k_ls2 hkJ56 hx15
        have fF16 : g_fr md_X3_parts_c1 F F16 := g_fr_c fF10 cF16 rfl
        have fR17 : g_fr mr_X3_parts_c1 R R17 := g_fr_c fR11 cR17 rfl
        exact hret e_X3_parts_64 (Nat.le_of_ble_eq_true rfl) (Nat.le_of_ble_eq_true rfl) ⟨F16, R17, rfl, oF16, oR17, fF16, fR17, (hk18.symm.trans hSP)⟩
      refine g_icmp_ge cx 56 e_X3_parts_13 (by decide) (fun zc19 => ?_) (fun zc19 => ?_)
      · have p20 := gn_ge 200 200 (gc_le zc19) py9 (jv_k (x := 200) 200 (by decide)) (by decide)
        have hk21 := hkK9.trans (if_pos zc19)
        refine g_lsub [0, 2] [(0, .ref (ad 33)), (2, .int y8)] rfl ?_
        exact J56  hk21
      · have p22 := gn_lt 0 199 (gc_nle zc19) py9 (jv_k (x := 200) 200 (by decide)) (by decide)
        have hk23 := hkK9.trans (if_neg zc19)
        refine g_aload_n cx 0 rfl e_X3_parts_16 ?_
        refine g_cViW cx [] [] (w_X3_sign l X ad F10 R11 oF10 oR11) ml_X3_42 yV_X3_sign e_X3_parts_17 (by unfold g_rr; decide) (by decide) 33 rfl rfl rfl (Nat.le_of_ble_eq_true rfl) (fun r24 w25 h26 => ?_)
        obtain ⟨rfl, pr24, hx27⟩ := h26
        have hk28 := k_ls hk23 hx27
        refine g_bipush cx 124 (by decide) e_X3_parts_20 ?_
        refine g_icmp_ne cx 56 e_X3_parts_22 (by decide) (fun zc29 => ?_) (fun zc29 => ?_)
        · have hk30 := hk28.trans (if_neg zc29)
          refine g_lsub [0, 2] [(0, .ref (ad 33)), (2, .int y8)] rfl ?_
          exact J56  hk30
        · have p31 := gn_eq 124 124 (gc_eq zc29) pr24 (jv_k (x := 124) 124 (by decide)) (by decide)
          have hk32 := hk28.trans (if_pos zc29)
          refine g_aload_n cx 0 rfl e_X3_parts_25 ?_
          refine g_dup cx rfl e_X3_parts_26 ?_
          refine g_get cx cl_X3 fl_X3_19 33 (.int (F10 531)) e_X3_parts_27 rfl rfl ?_
          refine g_iconst cx 1 (by decide) e_X3_parts_30 ?_
          refine g_iadd cx e_X3_parts_31 ?_
          refine g_topi (fun x33 ex33 => ?_)
          have hk34 := k_ls hk32 ex33
          refine g_put cx cl_X3 fl_X3_19 33 (wX X ad (upd F10 531 x33) R11) e_X3_parts_32 rfl rfl rfl rfl (Nat.le_of_ble_eq_true rfl) rfl ?_
          obtain ⟨F35, hF35⟩ : ∃ z, z = upd F10 531 x33 := ⟨_, rfl⟩
          rw [← hF35]
          have hk36 := k_ls hk34 hF35
          have oF35 : g_ok LK_wX F35 := by rw [hF35]; exact g_ok_u oF10 rfl
          have fF35 : g_fr md_X3_parts_c1 F F35 := by rw [hF35]; exact g_fr_u fF10 rfl
          refine g_aload_n cx 0 rfl e_X3_parts_35 ?_
          refine g_get cx cl_X3 fl_X3_25 33 (.ref (ad 25)) e_X3_parts_36 rfl rfl ?_
          refine g_iconst cx 5 (by decide) e_X3_parts_39 ?_
          refine g_iload_n cx 2 rfl e_X3_parts_40 ?_
          refine g_cViW cx [.int 5, .int y8] [] (w_X2_emit_25 l X ad F35 R11 oF35 oR11 5 y8) ml_X3_66 yV_X2_emit e_X3_parts_41 (by unfold g_rr; decide) (by decide) 25 rfl rfl rfl (Nat.le_of_ble_eq_true rfl) (fun r37 w38 h39 => ?_)
          obtain ⟨F41, R42, rfl, oF41, oR42, cF41, cR42, pr37, hx40⟩ := h39
          have hk43 := k_ls3 hk36 hx40
          have fF41 : g_fr md_X3_parts_c1 F F41 := g_fr_c fF35 cF41 rfl
          have fR42 : g_fr mr_X3_parts_c1 R R42 := g_fr_c fR11 cR42 rfl
          refine g_istore_n cx [(2, .int r37), (0, .ref (ad 33)), (1, .int 1), (3, .int y9)] e_X3_parts_44 (by decide) rfl ?_
          refine g_aload_n cx 1 rfl e_X3_parts_45 ?_
          refine g_iload_n cx 2 rfl e_X3_parts_46 ?_
          refine g_cVvW cx [.int 1] [] (w_X3_pieces_c1 l X ad F41 R42 oF41 oR42) ml_X3_80 yV_X3_pieces e_X3_parts_47 (by unfold g_rr; decide) (by decide) 33 rfl rfl rfl (Nat.le_of_ble_eq_true rfl) (fun w45 h46 => ?_)
          obtain ⟨F48, R49, rfl, oF48, oR49, cF48, cR49, hx47⟩ := h46
          have hk50 := k_ls2 hk43 hx47
          have fF48 : g_fr md_X3_parts_c1 F F48 := g_fr_c fF41 cF48 rfl
          have fR49 : g_fr mr_X3_parts_c1 R R49 := g_fr_c fR42 cR49 rfl
          obtain ⟨x51, ex51⟩ : ∃ z : Int32, z = y9 + Int32.ofInt 1 := ⟨_, rfl⟩
          have hk52 := k_ls hk50 (show x51 = y9 + 1 from ex51)
          refine g_iinc cx x51 [(3, .int x51), (2, .int r37), (0, .ref (ad 33)), (1, .int 1)] 3 e_X3_parts_50 rfl ex51.symm (by decide) rfl ?_
          have zx51 := jv_add 1 200 (show x51 = y9 + 1 from ex51) p22 (jv_k (x := 1) 1 (by decide)) (by decide)
          refine g_goto cx 9 e_X3_parts_53 (by decide) ?_
          refine g_lsub [2, 3, 1, 0] [(0, .ref (ad 33)), (1, .int 1), (2, .int r37), (3, .int x51)] rfl ?_
          exact ih9 F48 R49 r37 x51 oF48 fF48 oR49 fR49 (jv_w pr37 (by decide)) (jv_w zx51.2 (by decide)) (hk52.trans (by rw [hb9])) (Nat.lt_of_lt_of_le (show (2147483647 - x51.toInt).toNat < (2147483647 - y9.toInt).toNat from by have q0 := (jv_k (x := 1) 1 (by decide)).1; have q1 := (jv_k (x := 1) 1 (by decide)).2; have q2 := (jv_k (x := 200) 200 (by decide)).1; have q3 := (jv_k (x := 200) 200 (by decide)).2; have q4 := zx51.2.1; have q5 := zx51.2.2; have q6 := p22.1; have q7 := p22.2; have q8 := (gc_nle zc19); have q9 := (g_eq0 zx51.1); omega) (Nat.le_of_lt_succ hm9))
  refine g_lsub [2, 3, 1, 0] [(0, .ref (ad 33)), (1, .int 1), (2, .int (-1)), (3, .int 0)] rfl ?_
  exact J9 8589934592 F5 R6 (-1) 0 oF5 fF5 oR6 fR6 (jv_w (jv_k (x := (-1)) (-1) (by decide)) (by decide)) (jv_w (jv_k (x := 0) 0 (by decide)) (by decide)) hk7 (show (2147483647 - (0 : Int32).toInt).toNat < 8589934592 from by have q0 := (jv_k (x := 0) 0 (by decide)).1; have q1 := (jv_k (x := 0) 0 (by decide)).2; omega)
def K_X2_addClause_25_49  (F1 : Nat → Int32) (R2 : Nat → Nat → Int32) : (Nat → Int32) × (Nat → Nat → Int32) :=
  (F1, R2)
def sp_X2_addClause_25 (F : Nat → Int32) (R : Nat → Nat → Int32) (a0 : Int32) (a1 : Int32) (a2 : Int32) : (Nat → Int32) × (Nat → Nat → Int32) :=
  if 14 ≤ (F 406) then K_X2_addClause_25_49 F R else k_lt (g_u R 28 (upd (R 28) (Int32.toNatClampNeg (F 406)) a0)) (fun R8 => k_lt (g_u R8 29 (upd (R8 29) (Int32.toNatClampNeg (F 406)) a1)) (fun R10 => k_lt (g_u R10 30 (upd (R10 30) (Int32.toNatClampNeg (F 406)) a2)) (fun R12 => k_lt ((F 406) + 1) (fun x14 => k_lt (upd F 406 x14) (fun F16 => K_X2_addClause_25_49 F16 R12)))))
theorem e_X2_addClause_0 : g_dc cX2_addClause 0 (.aload_n 0) 1 1 := ⟨by decide +kernel, rfl⟩
theorem e_X2_addClause_1 : g_dc cX2_addClause 1 (.getfield 31) 3 4 := ⟨by decide +kernel, rfl⟩
theorem e_X2_addClause_4 : g_dc cX2_addClause 4 (.bipush 14) 2 6 := ⟨by decide +kernel, rfl⟩
theorem e_X2_addClause_6 : g_dc cX2_addClause 6 (.if_icmp .ge 43) 3 9 := ⟨by decide +kernel, rfl⟩
theorem e_X2_addClause_9 : g_dc cX2_addClause 9 (.aload_n 0) 1 10 := ⟨by decide +kernel, rfl⟩
theorem e_X2_addClause_10 : g_dc cX2_addClause 10 (.getfield 22) 3 13 := ⟨by decide +kernel, rfl⟩
theorem e_X2_addClause_13 : g_dc cX2_addClause 13 (.aload_n 0) 1 14 := ⟨by decide +kernel, rfl⟩
theorem e_X2_addClause_14 : g_dc cX2_addClause 14 (.getfield 31) 3 17 := ⟨by decide +kernel, rfl⟩
theorem e_X2_addClause_17 : g_dc cX2_addClause 17 (.iload_n 1) 1 18 := ⟨by decide +kernel, rfl⟩
theorem e_X2_addClause_18 : g_dc cX2_addClause 18 (.iastore) 1 19 := ⟨by decide +kernel, rfl⟩
theorem e_X2_addClause_19 : g_dc cX2_addClause 19 (.aload_n 0) 1 20 := ⟨by decide +kernel, rfl⟩
theorem e_X2_addClause_20 : g_dc cX2_addClause 20 (.getfield 25) 3 23 := ⟨by decide +kernel, rfl⟩
theorem e_X2_addClause_23 : g_dc cX2_addClause 23 (.aload_n 0) 1 24 := ⟨by decide +kernel, rfl⟩
theorem e_X2_addClause_24 : g_dc cX2_addClause 24 (.getfield 31) 3 27 := ⟨by decide +kernel, rfl⟩
theorem e_X2_addClause_27 : g_dc cX2_addClause 27 (.iload_n 2) 1 28 := ⟨by decide +kernel, rfl⟩
theorem e_X2_addClause_28 : g_dc cX2_addClause 28 (.iastore) 1 29 := ⟨by decide +kernel, rfl⟩
theorem e_X2_addClause_29 : g_dc cX2_addClause 29 (.aload_n 0) 1 30 := ⟨by decide +kernel, rfl⟩
theorem e_X2_addClause_30 : g_dc cX2_addClause 30 (.getfield 28) 3 33 := ⟨by decide +kernel, rfl⟩
theorem e_X2_addClause_33 : g_dc cX2_addClause 33 (.aload_n 0) 1 34 := ⟨by decide +kernel, rfl⟩
theorem e_X2_addClause_34 : g_dc cX2_addClause 34 (.getfield 31) 3 37 := ⟨by decide +kernel, rfl⟩
theorem e_X2_addClause_37 : g_dc cX2_addClause 37 (.iload_n 3) 1 38 := ⟨by decide +kernel, rfl⟩
theorem e_X2_addClause_38 : g_dc cX2_addClause 38 (.iastore) 1 39 := ⟨by decide +kernel, rfl⟩
theorem e_X2_addClause_39 : g_dc cX2_addClause 39 (.aload_n 0) 1 40 := ⟨by decide +kernel, rfl⟩
theorem e_X2_addClause_40 : g_dc cX2_addClause 40 (.dup) 1 41 := ⟨by decide +kernel, rfl⟩
theorem e_X2_addClause_41 : g_dc cX2_addClause 41 (.getfield 31) 3 44 := ⟨by decide +kernel, rfl⟩
theorem e_X2_addClause_44 : g_dc cX2_addClause 44 (.iconst 1) 1 45 := ⟨by decide +kernel, rfl⟩
theorem e_X2_addClause_45 : g_dc cX2_addClause 45 (.iadd) 1 46 := ⟨by decide +kernel, rfl⟩
theorem e_X2_addClause_46 : g_dc cX2_addClause 46 (.putfield 31) 3 49 := ⟨by decide +kernel, rfl⟩
theorem e_X2_addClause_49 : g_dc cX2_addClause 49 (.return_) 1 50 := ⟨by decide +kernel, rfl⟩
def md_X2_addClause_25 : List Nat := [406]
def mr_X2_addClause_25 : List Nat := [28, 29, 30]
set_option maxHeartbeats 4000000 in
set_option maxRecDepth 100000 in
theorem w_X2_addClause_25 (l : Launch) (X : gX) (ad : Nat → Nat) (F : Nat → Int32) (R : Nat → Nat → Int32) (hI : g_ok LK_wX F) (hA : g_okR LA_wX R) (a0 : Int32) (a1 : Int32) (a2 : Int32) : g_Cv l X yX2_addClause cX2_addClause 4 1 0 0 [.ref (ad 25), .int a0, .int a1, .int a2] (wX X ad F R) (fun w => ∃ (F' : Nat → Int32) (R' : Nat → Nat → Int32), w = wX X ad F' R' ∧ g_ok LK_wX F' ∧ g_okR LA_wX R' ∧ g_fr md_X2_addClause_25 F F' ∧ g_fr mr_X2_addClause_25 R R' ∧ (F', R') = sp_X2_addClause_25 F R a0 a1 a2) := by
  refine g_mv (by decide +kernel) (Nat.le_of_ble_eq_true rfl) (fun E cx hret => ?_)
  obtain ⟨SP, hSP⟩ : ∃ z, z = sp_X2_addClause_25 F R a0 a1 a2 := ⟨_, rfl⟩
  have hk0 := hSP
  unfold sp_X2_addClause_25 at hk0
  refine g_aload_n cx 0 rfl e_X2_addClause_0 ?_
  refine g_get cx cl_X2 fl_X2_31 25 (.int (F 406)) e_X2_addClause_1 rfl rfl ?_
  refine g_bipush cx 14 (by decide) e_X2_addClause_4 ?_
  have J49 : ∀ (F1 : Nat → Int32) (R2 : Nat → Nat → Int32), (g_ok LK_wX F1) → (g_fr md_X2_addClause_25 F F1) → (g_okR LA_wX R2) → (g_fr mr_X2_addClause_25 R R2) → (SP = K_X2_addClause_25_49 F1 R2) → G X E 4 0 0 (wX X ad F1 R2) [] 49 [] := by
    intro F1 R2 oF1 fF1 oR2 fR2 hkJ49
    unfold K_X2_addClause_25_49 at hkJ49
    exact hret e_X2_addClause_49 (Nat.le_of_ble_eq_true rfl) (Nat.le_of_ble_eq_true rfl) ⟨F1, R2, rfl, oF1, oR2, fF1, fR2, (hkJ49.symm.trans hSP)⟩
  refine g_icmp_ge cx 49 e_X2_addClause_6 (by decide) (fun zc3 => ?_) (fun zc3 => ?_)
  · have p4 := gn_ge 14 14 (gc_le zc3) (g_ok_g hI 8 rfl) (jv_k (x := 14) 14 (by decide)) (by decide)
    have hk5 := hk0.trans (if_pos zc3)
    refine g_lsub [] [] rfl ?_
    exact J49 F R hI (g_fr_rf F) hA (g_fr_rf R) hk5
  · have p6 := gn_lt 0 13 (gc_nle zc3) (g_ok_g hI 8 rfl) (jv_k (x := 14) 14 (by decide)) (by decide)
    have hk7 := hk0.trans (if_neg zc3)
    refine g_aload_n cx 0 rfl e_X2_addClause_9 ?_
    refine g_get cx cl_X2 fl_X2_22 25 (.ref (ad 28)) e_X2_addClause_10 rfl rfl ?_
    refine g_aload_n cx 0 rfl e_X2_addClause_13 ?_
    refine g_get cx cl_X2 fl_X2_31 25 (.int (F 406)) e_X2_addClause_14 rfl rfl ?_
    refine g_iload_n cx 1 rfl e_X2_addClause_17 ?_
    refine g_iast cx 28 (wX X ad F (g_u R 28 (upd (R 28) (Int32.toNatClampNeg (F 406)) a0))) e_X2_addClause_18 rfl (jv_ix 14 p6 (by decide)) rfl ?_
    obtain ⟨R8, hR8⟩ : ∃ z, z = g_u R 28 (upd (R 28) (Int32.toNatClampNeg (F 406)) a0) := ⟨_, rfl⟩
    rw [← hR8]
    have hk9 := k_ls hk7 hR8
    have oR8 : g_okR LA_wX R8 := by rw [hR8]; exact g_okR_u hA rfl
    have fR8 : g_fr mr_X2_addClause_25 R R8 := by rw [hR8]; exact g_fr_r (g_fr_rf R) rfl
    refine g_aload_n cx 0 rfl e_X2_addClause_19 ?_
    refine g_get cx cl_X2 fl_X2_25 25 (.ref (ad 29)) e_X2_addClause_20 rfl rfl ?_
    refine g_aload_n cx 0 rfl e_X2_addClause_23 ?_
    refine g_get cx cl_X2 fl_X2_31 25 (.int (F 406)) e_X2_addClause_24 rfl rfl ?_
    refine g_iload_n cx 2 rfl e_X2_addClause_27 ?_
    refine g_iast cx 29 (wX X ad F (g_u R8 29 (upd (R8 29) (Int32.toNatClampNeg (F 406)) a1))) e_X2_addClause_28 rfl (jv_ix 14 p6 (by decide)) rfl ?_
    obtain ⟨R10, hR10⟩ : ∃ z, z = g_u R8 29 (upd (R8 29) (Int32.toNatClampNeg (F 406)) a1) := ⟨_, rfl⟩
    rw [← hR10]
    have hk11 := k_ls hk9 hR10
    have oR10 : g_okR LA_wX R10 := by rw [hR10]; exact g_okR_u oR8 rfl
    have fR10 : g_fr mr_X2_addClause_25 R R10 := by rw [hR10]; exact g_fr_r fR8 rfl
    refine g_aload_n cx 0 rfl e_X2_addClause_29 ?_
    refine g_get cx cl_X2 fl_X2_28 25 (.ref (ad 30)) e_X2_addClause_30 rfl rfl ?_
    refine g_aload_n cx 0 rfl e_X2_addClause_33 ?_
    refine g_get cx cl_X2 fl_X2_31 25 (.int (F 406)) e_X2_addClause_34 rfl rfl ?_
    refine g_iload_n cx 3 rfl e_X2_addClause_37 ?_
    refine g_iast cx 30 (wX X ad F (g_u R10 30 (upd (R10 30) (Int32.toNatClampNeg (F 406)) a2))) e_X2_addClause_38 rfl (jv_ix 14 p6 (by decide)) rfl ?_
    obtain ⟨R12, hR12⟩ : ∃ z, z = g_u R10 30 (upd (R10 30) (Int32.toNatClampNeg (F 406)) a2) := ⟨_, rfl⟩
    rw [← hR12]
    have hk13 := k_ls hk11 hR12
    have oR12 : g_okR LA_wX R12 := by rw [hR12]; exact g_okR_u oR10 rfl
    have fR12 : g_fr mr_X2_addClause_25 R R12 := by rw [hR12]; exact g_fr_r fR10 rfl
    refine g_aload_n cx 0 rfl e_X2_addClause_39 ?_
    refine g_dup cx rfl e_X2_addClause_40 ?_
    refine g_get cx cl_X2 fl_X2_31 25 (.int (F 406)) e_X2_addClause_41 rfl rfl ?_
    refine g_iconst cx 1 (by decide) e_X2_addClause_44 ?_
    refine g_iadd cx e_X2_addClause_45 ?_
    refine g_topi (fun x14 ex14 => ?_)
    have hk15 := k_ls hk13 ex14
    have zx14 := jv_add 1 14 ex14 p6 (jv_k (x := 1) 1 (by decide)) (by decide)
    refine g_put cx cl_X2 fl_X2_31 25 (wX X ad (upd F 406 x14) R12) e_X2_addClause_46 rfl rfl rfl rfl (Nat.le_of_ble_eq_true rfl) rfl ?_
    obtain ⟨F16, hF16⟩ : ∃ z, z = upd F 406 x14 := ⟨_, rfl⟩
    rw [← hF16]
    have hk17 := k_ls hk15 hF16
    have oF16 : g_ok LK_wX F16 := by rw [hF16]; exact g_ok_p hI zx14.2 rfl
    have fF16 : g_fr md_X2_addClause_25 F F16 := by rw [hF16]; exact g_fr_u (g_fr_rf F) rfl
    refine g_lsub [] [] rfl ?_
    exact J49 F16 R12 oF16 fF16 oR12 fR12 hk17
def K_X3_clause_22 (F : Nat → Int32) (R : Nat → Nat → Int32) (y6 : Int32) : (Nat → Int32) × (Nat → Nat → Int32) :=
  if 0 ≤ y6 then if (F 406) < 14 then k_lt ((F 531) + 1) (fun x13 => k_lt (upd F 531 x13) (fun F15 => k_lt2 (sp_X3_sum_c0 F15 R) (fun F21 R22 => k_lt3 (sp_X2_emit_25 F21 R22 0 0) (fun r24 F28 R29 => k_lt2 (sp_X3_pass F28 R29 40) (fun F35 R36 => k_lt2 (sp_X3_parts_c1 F35 R36) (fun F42 R43 => k_lt2 (sp_X3_pass F42 R43 41) (fun F49 R50 => k_lt3 (sp_X2_emit_25 F49 R50 0 0) (fun r52 F56 R57 => k_lt2 (sp_X2_addClause_25 F56 R57 y6 (F 402) (F28 402)) (fun F63 R64 => (F63, R64)))))))))) else k_lt2 (sp_X3_fail F R 4) (fun F72 R73 => (F72, R73)) else k_lt2 (sp_X3_fail F R 1) (fun F81 R82 => (F81, R82))
def sp_X3_clause (F : Nat → Int32) (R : Nat → Nat → Int32) : (Nat → Int32) × (Nat → Nat → Int32) :=
  k_lt (sp_X3_sign F R) (fun r1 => if r1 = (-1) then K_X3_clause_22 F R (-1) else k_lt (sp_X3_sign F R) (fun r86 => k_lt ((r86.toUInt32 % 65536).toInt32) (fun x91 => k_lt (sp_J0_indexOf_0f7a4_s0 x91) (fun r93 => K_X3_clause_22 F R r93))))
theorem e_X3_clause_0 : g_dc cX3_clause 0 (.aload_n 0) 1 1 := ⟨by decide +kernel, rfl⟩
theorem e_X3_clause_1 : g_dc cX3_clause 1 (.invokevirtual 42) 3 4 := ⟨by decide +kernel, rfl⟩
theorem e_X3_clause_4 : g_dc cX3_clause 4 (.iconst (-1)) 1 5 := ⟨by decide +kernel, rfl⟩
theorem e_X3_clause_5 : g_dc cX3_clause 5 (.if_icmp .ne 7) 3 8 := ⟨by decide +kernel, rfl⟩
theorem e_X3_clause_8 : g_dc cX3_clause 8 (.iconst (-1)) 1 9 := ⟨by decide +kernel, rfl⟩
theorem e_X3_clause_9 : g_dc cX3_clause 9 (.goto 13) 3 12 := ⟨by decide +kernel, rfl⟩
theorem e_X3_clause_12 : g_dc cX3_clause 12 (.ldc 50) 2 14 := ⟨by decide +kernel, rfl⟩
theorem e_X3_clause_14 : g_dc cX3_clause 14 (.aload_n 0) 1 15 := ⟨by decide +kernel, rfl⟩
theorem e_X3_clause_15 : g_dc cX3_clause 15 (.invokevirtual 42) 3 18 := ⟨by decide +kernel, rfl⟩
theorem e_X3_clause_18 : g_dc cX3_clause 18 (.i2c) 1 19 := ⟨by decide +kernel, rfl⟩
theorem e_X3_clause_19 : g_dc cX3_clause 19 (.invokevirtual 52) 3 22 := ⟨by decide +kernel, rfl⟩
theorem e_X3_clause_22 : g_dc cX3_clause 22 (.istore_n 1) 1 23 := ⟨by decide +kernel, rfl⟩
theorem e_X3_clause_23 : g_dc cX3_clause 23 (.iload_n 1) 1 24 := ⟨by decide +kernel, rfl⟩
theorem e_X3_clause_24 : g_dc cX3_clause 24 (.ifCond .ge 9) 3 27 := ⟨by decide +kernel, rfl⟩
theorem e_X3_clause_27 : g_dc cX3_clause 27 (.aload_n 0) 1 28 := ⟨by decide +kernel, rfl⟩
theorem e_X3_clause_28 : g_dc cX3_clause 28 (.iconst 1) 1 29 := ⟨by decide +kernel, rfl⟩
theorem e_X3_clause_29 : g_dc cX3_clause 29 (.invokevirtual 46) 3 32 := ⟨by decide +kernel, rfl⟩
theorem e_X3_clause_32 : g_dc cX3_clause 32 (.return_) 1 33 := ⟨by decide +kernel, rfl⟩
theorem e_X3_clause_33 : g_dc cX3_clause 33 (.aload_n 0) 1 34 := ⟨by decide +kernel, rfl⟩
theorem e_X3_clause_34 : g_dc cX3_clause 34 (.getfield 25) 3 37 := ⟨by decide +kernel, rfl⟩
theorem e_X3_clause_37 : g_dc cX3_clause 37 (.getfield 57) 3 40 := ⟨by decide +kernel, rfl⟩
theorem e_X3_clause_40 : g_dc cX3_clause 40 (.bipush 14) 2 42 := ⟨by decide +kernel, rfl⟩
theorem e_X3_clause_42 : g_dc cX3_clause 42 (.if_icmp .lt 9) 3 45 := ⟨by decide +kernel, rfl⟩
theorem e_X3_clause_45 : g_dc cX3_clause 45 (.aload_n 0) 1 46 := ⟨by decide +kernel, rfl⟩
theorem e_X3_clause_46 : g_dc cX3_clause 46 (.iconst 4) 1 47 := ⟨by decide +kernel, rfl⟩
theorem e_X3_clause_47 : g_dc cX3_clause 47 (.invokevirtual 46) 3 50 := ⟨by decide +kernel, rfl⟩
theorem e_X3_clause_50 : g_dc cX3_clause 50 (.return_) 1 51 := ⟨by decide +kernel, rfl⟩
theorem e_X3_clause_51 : g_dc cX3_clause 51 (.aload_n 0) 1 52 := ⟨by decide +kernel, rfl⟩
theorem e_X3_clause_52 : g_dc cX3_clause 52 (.dup) 1 53 := ⟨by decide +kernel, rfl⟩
theorem e_X3_clause_53 : g_dc cX3_clause 53 (.getfield 19) 3 56 := ⟨by decide +kernel, rfl⟩
theorem e_X3_clause_56 : g_dc cX3_clause 56 (.iconst 1) 1 57 := ⟨by decide +kernel, rfl⟩
theorem e_X3_clause_57 : g_dc cX3_clause 57 (.iadd) 1 58 := ⟨by decide +kernel, rfl⟩
theorem e_X3_clause_58 : g_dc cX3_clause 58 (.putfield 19) 3 61 := ⟨by decide +kernel, rfl⟩
theorem e_X3_clause_61 : g_dc cX3_clause 61 (.aload_n 0) 1 62 := ⟨by decide +kernel, rfl⟩
theorem e_X3_clause_62 : g_dc cX3_clause 62 (.getfield 25) 3 65 := ⟨by decide +kernel, rfl⟩
theorem e_X3_clause_65 : g_dc cX3_clause 65 (.getfield 60) 3 68 := ⟨by decide +kernel, rfl⟩
theorem e_X3_clause_68 : g_dc cX3_clause 68 (.istore_n 2) 1 69 := ⟨by decide +kernel, rfl⟩
theorem e_X3_clause_69 : g_dc cX3_clause 69 (.aload_n 0) 1 70 := ⟨by decide +kernel, rfl⟩
theorem e_X3_clause_70 : g_dc cX3_clause 70 (.iconst 0) 1 71 := ⟨by decide +kernel, rfl⟩
theorem e_X3_clause_71 : g_dc cX3_clause 71 (.invokevirtual 63) 3 74 := ⟨by decide +kernel, rfl⟩
theorem e_X3_clause_74 : g_dc cX3_clause 74 (.aload_n 0) 1 75 := ⟨by decide +kernel, rfl⟩
theorem e_X3_clause_75 : g_dc cX3_clause 75 (.getfield 25) 3 78 := ⟨by decide +kernel, rfl⟩
theorem e_X3_clause_78 : g_dc cX3_clause 78 (.iconst 0) 1 79 := ⟨by decide +kernel, rfl⟩
theorem e_X3_clause_79 : g_dc cX3_clause 79 (.iconst 0) 1 80 := ⟨by decide +kernel, rfl⟩
theorem e_X3_clause_80 : g_dc cX3_clause 80 (.invokevirtual 66) 3 83 := ⟨by decide +kernel, rfl⟩
theorem e_X3_clause_83 : g_dc cX3_clause 83 (.pop) 1 84 := ⟨by decide +kernel, rfl⟩
theorem e_X3_clause_84 : g_dc cX3_clause 84 (.aload_n 0) 1 85 := ⟨by decide +kernel, rfl⟩
theorem e_X3_clause_85 : g_dc cX3_clause 85 (.getfield 25) 3 88 := ⟨by decide +kernel, rfl⟩
theorem e_X3_clause_88 : g_dc cX3_clause 88 (.getfield 60) 3 91 := ⟨by decide +kernel, rfl⟩
theorem e_X3_clause_91 : g_dc cX3_clause 91 (.istore_n 3) 1 92 := ⟨by decide +kernel, rfl⟩
theorem e_X3_clause_92 : g_dc cX3_clause 92 (.aload_n 0) 1 93 := ⟨by decide +kernel, rfl⟩
theorem e_X3_clause_93 : g_dc cX3_clause 93 (.bipush 40) 2 95 := ⟨by decide +kernel, rfl⟩
theorem e_X3_clause_95 : g_dc cX3_clause 95 (.invokevirtual 70) 3 98 := ⟨by decide +kernel, rfl⟩
theorem e_X3_clause_98 : g_dc cX3_clause 98 (.aload_n 0) 1 99 := ⟨by decide +kernel, rfl⟩
theorem e_X3_clause_99 : g_dc cX3_clause 99 (.iconst 1) 1 100 := ⟨by decide +kernel, rfl⟩
theorem e_X3_clause_100 : g_dc cX3_clause 100 (.invokevirtual 73) 3 103 := ⟨by decide +kernel, rfl⟩
theorem e_X3_clause_103 : g_dc cX3_clause 103 (.aload_n 0) 1 104 := ⟨by decide +kernel, rfl⟩
theorem e_X3_clause_104 : g_dc cX3_clause 104 (.bipush 41) 2 106 := ⟨by decide +kernel, rfl⟩
theorem e_X3_clause_106 : g_dc cX3_clause 106 (.invokevirtual 70) 3 109 := ⟨by decide +kernel, rfl⟩
theorem e_X3_clause_109 : g_dc cX3_clause 109 (.aload_n 0) 1 110 := ⟨by decide +kernel, rfl⟩
theorem e_X3_clause_110 : g_dc cX3_clause 110 (.getfield 25) 3 113 := ⟨by decide +kernel, rfl⟩
theorem e_X3_clause_113 : g_dc cX3_clause 113 (.iconst 0) 1 114 := ⟨by decide +kernel, rfl⟩
theorem e_X3_clause_114 : g_dc cX3_clause 114 (.iconst 0) 1 115 := ⟨by decide +kernel, rfl⟩
theorem e_X3_clause_115 : g_dc cX3_clause 115 (.invokevirtual 66) 3 118 := ⟨by decide +kernel, rfl⟩
theorem e_X3_clause_118 : g_dc cX3_clause 118 (.pop) 1 119 := ⟨by decide +kernel, rfl⟩
theorem e_X3_clause_119 : g_dc cX3_clause 119 (.aload_n 0) 1 120 := ⟨by decide +kernel, rfl⟩
theorem e_X3_clause_120 : g_dc cX3_clause 120 (.getfield 25) 3 123 := ⟨by decide +kernel, rfl⟩
theorem e_X3_clause_123 : g_dc cX3_clause 123 (.iload_n 1) 1 124 := ⟨by decide +kernel, rfl⟩
theorem e_X3_clause_124 : g_dc cX3_clause 124 (.iload_n 2) 1 125 := ⟨by decide +kernel, rfl⟩
theorem e_X3_clause_125 : g_dc cX3_clause 125 (.iload_n 3) 1 126 := ⟨by decide +kernel, rfl⟩
theorem e_X3_clause_126 : g_dc cX3_clause 126 (.invokevirtual 76) 3 129 := ⟨by decide +kernel, rfl⟩
theorem e_X3_clause_129 : g_dc cX3_clause 129 (.return_) 1 130 := ⟨by decide +kernel, rfl⟩
def md_X3_clause : List Nat := [402, 406, 531, 532]
def mr_X3_clause : List Nat := [26, 27, 28, 29, 30]
set_option maxHeartbeats 4000000 in
set_option maxRecDepth 100000 in
theorem w_X3_clause (l : Launch) (X : gX) (ad : Nat → Nat) (F : Nat → Int32) (R : Nat → Nat → Int32) (hI : g_ok LK_wX F) (hA : g_okR LA_wX R) : g_Cv l X yX3_clause cX3_clause 4 27 0 0 [.ref (ad 33)] (wX X ad F R) (fun w => ∃ (F' : Nat → Int32) (R' : Nat → Nat → Int32), w = wX X ad F' R' ∧ g_ok LK_wX F' ∧ g_okR LA_wX R' ∧ g_fr md_X3_clause F F' ∧ g_fr mr_X3_clause R R' ∧ (F', R') = sp_X3_clause F R) := by
  refine g_mv (by decide +kernel) (Nat.le_of_ble_eq_true rfl) (fun E cx hret => ?_)
  obtain ⟨SP, hSP⟩ : ∃ z, z = sp_X3_clause F R := ⟨_, rfl⟩
  have hk0 := hSP
  unfold sp_X3_clause at hk0
  refine g_aload_n cx 0 rfl e_X3_clause_0 ?_
  refine g_cViW cx [] [] (w_X3_sign l X ad F R hI hA) ml_X3_42 yV_X3_sign e_X3_clause_1 (by unfold g_rr; decide) (by decide) 33 rfl rfl rfl (Nat.le_of_ble_eq_true rfl) (fun r1 w2 h3 => ?_)
  obtain ⟨rfl, pr1, hx4⟩ := h3
  have hk5 := k_ls hk0 hx4
  refine g_iconst cx (-1) (by decide) e_X3_clause_4 ?_
  have J22 : ∀ (y6 : Int32), (jv (-1) 5 y6) → (SP = K_X3_clause_22 F R y6) → G X E 4 0 0 (wX X ad F R) [(0, .ref (ad 33))] 22 [.int y6] := by
    intro y6 py6 hkJ22
    unfold K_X3_clause_22 at hkJ22
    refine g_istore_n cx [(1, .int y6), (0, .ref (ad 33))] e_X3_clause_22 (by decide) rfl ?_
    refine g_iload_n cx 0 rfl e_X3_clause_23 ?_
    refine g_if_ge cx 33 e_X3_clause_24 (by decide) (fun zc7 => ?_) (fun zc7 => ?_)
    · have p8 := gn_ge 0 5 (gc_le zc7) py6 (jv_k (x := 0) 0 (by decide)) (by decide)
      have hk9 := hkJ22.trans (if_pos zc7)
      refine g_aload_n cx 1 rfl e_X3_clause_33 ?_
      refine g_get cx cl_X3 fl_X3_25 33 (.ref (ad 25)) e_X3_clause_34 rfl rfl ?_
      refine g_getN cx cl_X2 fn_X3_57 25 (.int (F 406)) e_X3_clause_37 rfl rfl ?_
      refine g_bipush cx 14 (by decide) e_X3_clause_40 ?_
      refine g_icmp_lt cx 51 e_X3_clause_42 (by decide) (fun zc10 => ?_) (fun zc10 => ?_)
      · have p11 := gn_lt 0 13 (gc_lt zc10) (g_ok_g hI 8 rfl) (jv_k (x := 14) 14 (by decide)) (by decide)
        have hk12 := hk9.trans (if_pos zc10)
        refine g_aload_n cx 1 rfl e_X3_clause_51 ?_
        refine g_dup cx rfl e_X3_clause_52 ?_
        refine g_get cx cl_X3 fl_X3_19 33 (.int (F 531)) e_X3_clause_53 rfl rfl ?_
        refine g_iconst cx 1 (by decide) e_X3_clause_56 ?_
        refine g_iadd cx e_X3_clause_57 ?_
        refine g_topi (fun x13 ex13 => ?_)
        have hk14 := k_ls hk12 ex13
        refine g_put cx cl_X3 fl_X3_19 33 (wX X ad (upd F 531 x13) R) e_X3_clause_58 rfl rfl rfl rfl (Nat.le_of_ble_eq_true rfl) rfl ?_
        obtain ⟨F15, hF15⟩ : ∃ z, z = upd F 531 x13 := ⟨_, rfl⟩
        rw [← hF15]
        have hk16 := k_ls hk14 hF15
        have oF15 : g_ok LK_wX F15 := by rw [hF15]; exact g_ok_u hI rfl
        have fF15 : g_fr md_X3_clause F F15 := by rw [hF15]; exact g_fr_u (g_fr_rf F) rfl
        refine g_aload_n cx 1 rfl e_X3_clause_61 ?_
        refine g_get cx cl_X3 fl_X3_25 33 (.ref (ad 25)) e_X3_clause_62 rfl rfl ?_
        refine g_getN cx cl_X2 fn_X3_60 25 (.int (F15 402)) e_X3_clause_65 rfl rfl ?_
        refine g_toi (F 402) (g_pu2 hF15 rfl) ?_
        refine g_istore_n cx [(2, .int (F 402)), (1, .int y6), (0, .ref (ad 33))] e_X3_clause_68 (by decide) rfl ?_
        refine g_aload_n cx 2 rfl e_X3_clause_69 ?_
        refine g_iconst cx 0 (by decide) e_X3_clause_70 ?_
        refine g_cVvW cx [.int 0] [] (w_X3_sum_c0 l X ad F15 R oF15 hA) ml_X3_63 yV_X3_sum e_X3_clause_71 (by unfold g_rr; decide) (by decide) 33 rfl rfl rfl (Nat.le_of_ble_eq_true rfl) (fun w18 h19 => ?_)
        obtain ⟨F21, R22, rfl, oF21, oR22, cF21, cR22, hx20⟩ := h19
        have hk23 := k_ls2 hk16 hx20
        have fF21 : g_fr md_X3_clause F F21 := g_fr_c fF15 cF21 rfl
        have fR22 : g_fr mr_X3_clause R R22 := g_fr_c (g_fr_rf R) cR22 rfl
        refine g_aload_n cx 2 rfl e_X3_clause_74 ?_
        refine g_get cx cl_X3 fl_X3_25 33 (.ref (ad 25)) e_X3_clause_75 rfl rfl ?_
        refine g_iconst cx 0 (by decide) e_X3_clause_78 ?_
        refine g_iconst cx 0 (by decide) e_X3_clause_79 ?_
        refine g_cViW cx [.int 0, .int 0] [] (w_X2_emit_25 l X ad F21 R22 oF21 oR22 0 0) ml_X3_66 yV_X2_emit e_X3_clause_80 (by unfold g_rr; decide) (by decide) 25 rfl rfl rfl (Nat.le_of_ble_eq_true rfl) (fun r24 w25 h26 => ?_)
        obtain ⟨F28, R29, rfl, oF28, oR29, cF28, cR29, pr24, hx27⟩ := h26
        have hk30 := k_ls3 hk23 hx27
        have fF28 : g_fr md_X3_clause F F28 := g_fr_c fF21 cF28 rfl
        have fR29 : g_fr mr_X3_clause R R29 := g_fr_c fR22 cR29 rfl
        refine g_pop cx rfl e_X3_clause_83 ?_
        refine g_aload_n cx 2 rfl e_X3_clause_84 ?_
        refine g_get cx cl_X3 fl_X3_25 33 (.ref (ad 25)) e_X3_clause_85 rfl rfl ?_
        refine g_getN cx cl_X2 fn_X3_60 25 (.int (F28 402)) e_X3_clause_88 rfl rfl ?_
        refine g_istore_n cx [(3, .int (F28 402)), (2, .int (F 402)), (1, .int y6), (0, .ref (ad 33))] e_X3_clause_91 (by decide) rfl ?_
        refine g_aload_n cx 3 rfl e_X3_clause_92 ?_
        refine g_bipush cx 40 (by decide) e_X3_clause_93 ?_
        refine g_cVvW cx [.int 40] [] (w_X3_pass l X ad F28 R29 oF28 oR29 40) ml_X3_70 yV_X3_pass e_X3_clause_95 (by unfold g_rr; decide) (by decide) 33 rfl rfl rfl (Nat.le_of_ble_eq_true rfl) (fun w32 h33 => ?_)
        obtain ⟨F35, R36, rfl, oF35, oR36, cF35, cR36, hx34⟩ := h33
        have hk37 := k_ls2 hk30 hx34
        have fF35 : g_fr md_X3_clause F F35 := g_fr_c fF28 cF35 rfl
        have fR36 : g_fr mr_X3_clause R R36 := g_fr_c fR29 cR36 rfl
        refine g_aload_n cx 3 rfl e_X3_clause_98 ?_
        refine g_iconst cx 1 (by decide) e_X3_clause_99 ?_
        refine g_cVvW cx [.int 1] [] (w_X3_parts_c1 l X ad F35 R36 oF35 oR36) ml_X3_73 yV_X3_parts e_X3_clause_100 (by unfold g_rr; decide) (by decide) 33 rfl rfl rfl (Nat.le_of_ble_eq_true rfl) (fun w39 h40 => ?_)
        obtain ⟨F42, R43, rfl, oF42, oR43, cF42, cR43, hx41⟩ := h40
        have hk44 := k_ls2 hk37 hx41
        have fF42 : g_fr md_X3_clause F F42 := g_fr_c fF35 cF42 rfl
        have fR43 : g_fr mr_X3_clause R R43 := g_fr_c fR36 cR43 rfl
        refine g_aload_n cx 3 rfl e_X3_clause_103 ?_
        refine g_bipush cx 41 (by decide) e_X3_clause_104 ?_
        refine g_cVvW cx [.int 41] [] (w_X3_pass l X ad F42 R43 oF42 oR43 41) ml_X3_70 yV_X3_pass e_X3_clause_106 (by unfold g_rr; decide) (by decide) 33 rfl rfl rfl (Nat.le_of_ble_eq_true rfl) (fun w46 h47 => ?_)
        obtain ⟨F49, R50, rfl, oF49, oR50, cF49, cR50, hx48⟩ := h47
        have hk51 := k_ls2 hk44 hx48
        have fF49 : g_fr md_X3_clause F F49 := g_fr_c fF42 cF49 rfl
        have fR50 : g_fr mr_X3_clause R R50 := g_fr_c fR43 cR50 rfl
        refine g_aload_n cx 3 rfl e_X3_clause_109 ?_
        refine g_get cx cl_X3 fl_X3_25 33 (.ref (ad 25)) e_X3_clause_110 rfl rfl ?_
        refine g_iconst cx 0 (by decide) e_X3_clause_113 ?_
        refine g_iconst cx 0 (by decide) e_X3_clause_114 ?_
        refine g_cViW cx [.int 0, .int 0] [] (w_X2_emit_25 l X ad F49 R50 oF49 oR50 0 0) ml_X3_66 yV_X2_emit e_X3_clause_115 (by unfold g_rr; decide) (by decide) 25 rfl rfl rfl (Nat.le_of_ble_eq_true rfl) (fun r52 w53 h54 => ?_)
        obtain ⟨F56, R57, rfl, oF56, oR57, cF56, cR57, pr52, hx55⟩ := h54
        have hk58 := k_ls3 hk51 hx55
        have fF56 : g_fr md_X3_clause F F56 := g_fr_c fF49 cF56 rfl
        have fR57 : g_fr mr_X3_clause R R57 := g_fr_c fR50 cR57 rfl
        refine g_pop cx rfl e_X3_clause_118 ?_
        refine g_aload_n cx 3 rfl e_X3_clause_119 ?_
        refine g_get cx cl_X3 fl_X3_25 33 (.ref (ad 25)) e_X3_clause_120 rfl rfl ?_
        refine g_iload_n cx 2 rfl e_X3_clause_123 ?_
        refine g_iload_n cx 1 rfl e_X3_clause_124 ?_
        refine g_iload_n cx 0 rfl e_X3_clause_125 ?_
        refine g_cVvW cx [.int y6, .int (F 402), .int (F28 402)] [] (w_X2_addClause_25 l X ad F56 R57 oF56 oR57 y6 (F 402) (F28 402)) ml_X3_76 yV_X2_addClause e_X3_clause_126 (by unfold g_rr; decide) (by decide) 25 rfl rfl rfl (Nat.le_of_ble_eq_true rfl) (fun w60 h61 => ?_)
        obtain ⟨F63, R64, rfl, oF63, oR64, cF63, cR64, hx62⟩ := h61
        have hk65 := k_ls2 hk58 hx62
        have fF63 : g_fr md_X3_clause F F63 := g_fr_c fF56 cF63 rfl
        have fR64 : g_fr mr_X3_clause R R64 := g_fr_c fR57 cR64 rfl
        exact hret e_X3_clause_129 (Nat.le_of_ble_eq_true rfl) (Nat.le_of_ble_eq_true rfl) ⟨F63, R64, rfl, oF63, oR64, fF63, fR64, (hk65.symm.trans hSP)⟩
      · have p66 := gn_ge 14 14 (gc_nlt zc10) (g_ok_g hI 8 rfl) (jv_k (x := 14) 14 (by decide)) (by decide)
        have hk67 := hk9.trans (if_neg zc10)
        refine g_aload_n cx 1 rfl e_X3_clause_45 ?_
        refine g_iconst cx 4 (by decide) e_X3_clause_46 ?_
        refine g_cVvW cx [.int 4] [] (w_X3_fail l X ad F R hI hA 4) ml_X3_46 yV_X3_fail e_X3_clause_47 (by unfold g_rr; decide) (by decide) 33 rfl rfl rfl (Nat.le_of_ble_eq_true rfl) (fun w69 h70 => ?_)
        obtain ⟨F72, R73, rfl, oF72, oR73, cF72, cR73, hx71⟩ := h70
        have hk74 := k_ls2 hk67 hx71
        have fF72 : g_fr md_X3_clause F F72 := g_fr_c (g_fr_rf F) cF72 rfl
        have fR73 : g_fr mr_X3_clause R R73 := g_fr_c (g_fr_rf R) cR73 rfl
        exact hret e_X3_clause_50 (Nat.le_of_ble_eq_true rfl) (Nat.le_of_ble_eq_true rfl) ⟨F72, R73, rfl, oF72, oR73, fF72, fR73, (hk74.symm.trans hSP)⟩
    · have p75 := gn_lt (-1) (-1) (gc_nle zc7) py6 (jv_k (x := 0) 0 (by decide)) (by decide)
      have hk76 := hkJ22.trans (if_neg zc7)
      refine g_aload_n cx 1 rfl e_X3_clause_27 ?_
      refine g_iconst cx 1 (by decide) e_X3_clause_28 ?_
      refine g_cVvW cx [.int 1] [] (w_X3_fail l X ad F R hI hA 1) ml_X3_46 yV_X3_fail e_X3_clause_29 (by unfold g_rr; decide) (by decide) 33 rfl rfl rfl (Nat.le_of_ble_eq_true rfl) (fun w78 h79 => ?_)
      obtain ⟨F81, R82, rfl, oF81, oR82, cF81, cR82, hx80⟩ := h79
      have hk83 := k_ls2 hk76 hx80
      have fF81 : g_fr md_X3_clause F F81 := g_fr_c (g_fr_rf F) cF81 rfl
      have fR82 : g_fr mr_X3_clause R R82 := g_fr_c (g_fr_rf R) cR82 rfl
      exact hret e_X3_clause_32 (Nat.le_of_ble_eq_true rfl) (Nat.le_of_ble_eq_true rfl) ⟨F81, R82, rfl, oF81, oR82, fF81, fR82, (hk83.symm.trans hSP)⟩
  refine g_icmp_ne cx 12 e_X3_clause_5 (by decide) (fun zc84 => ?_) (fun zc84 => ?_)
  · have hk85 := hk5.trans (if_neg zc84)
    refine g_ldcS0 cx rfl e_X3_clause_12 ?_
    refine g_aload_n cx 0 rfl e_X3_clause_14 ?_
    refine g_cViW cx [] [.ref (X.1.2.2.2.1 0)] (w_X3_sign l X ad F R hI hA) ml_X3_42 yV_X3_sign e_X3_clause_15 (by unfold g_rr; decide) (by decide) 33 rfl rfl rfl (Nat.le_of_ble_eq_true rfl) (fun r86 w87 h88 => ?_)
    obtain ⟨rfl, pr86, hx89⟩ := h88
    have hk90 := k_ls hk85 hx89
    refine g_i2c cx e_X3_clause_18 ?_
    refine g_topi (fun x91 ex91 => ?_)
    have hk92 := k_ls hk90 ex91
    refine g_cVsW cx [.int x91] [] 0 (by decide) rfl (w_J0_indexOf_0f7a4_s0 l X (wX X ad F R) x91) ml_X3_52 yV_J0_indexOf_0f7a4 e_X3_clause_19 (by unfold g_rr; decide) (by decide) rfl (Nat.le_of_ble_eq_true rfl) (fun r93 w94 h95 => ?_)
    obtain ⟨rfl, pr93⟩ := h95
    obtain ⟨pr93, hxr93⟩ := pr93
    have hk96 := k_ls hk92 hxr93
    exact J22 r93 pr93 hk96
  · have p97 := gn_eq (-1) (-1) (gc_eq zc84) pr1 (jv_k (x := (-1)) (-1) (by decide)) (by decide)
    have hk98 := hk5.trans (if_pos zc84)
    refine g_iconst cx (-1) (by decide) e_X3_clause_8 ?_
    refine g_goto cx 22 e_X3_clause_9 (by decide) ?_
    exact J22 (-1) (jv_w (jv_k (x := (-1)) (-1) (by decide)) (by decide)) hk98
def K_X3_read_132  (F27 : Nat → Int32) (R28 : Nat → Nat → Int32) : Int32 × (Nat → Int32) × (Nat → Nat → Int32) :=
  (F27 532, F27, R28)
def K_X3_read_109 (F25 : Nat → Int32) (R26 : Nat → Nat → Int32)  : Int32 × (Nat → Int32) × (Nat → Nat → Int32) :=
  if (F25 532) = 0 then if (F25 530) ≤ (F25 531) then K_X3_read_132 F25 R26 else k_lt2 (sp_X3_fail F25 R26 1) (fun F42 R43 => K_X3_read_132 F42 R43) else K_X3_read_132 F25 R26
def KB_X3_read_73 (b73 : (Nat → Int32) → (Nat → Nat → Int32) → (Int32) → Int32 × (Nat → Int32) × (Nat → Nat → Int32))  (F25 : Nat → Int32) (R26 : Nat → Nat → Int32) (y24 : Int32) : Int32 × (Nat → Int32) × (Nat → Nat → Int32) :=
  if 200 ≤ y24 then K_X3_read_109 F25 R26 else k_lt (sp_X3_sign F25 R26) (fun r50 => if r50 = 59 then k_lt ((F25 531) + 1) (fun x59 => k_lt (upd F25 531 x59) (fun F61 => k_lt2 (sp_X3_clause F61 R26) (fun F67 R68 => k_lt (y24 + 1) (fun x70 => b73 F67 R68 x70)))) else K_X3_read_109 F25 R26)
def K_X3_read_73  : Nat → (Nat → Int32) → (Nat → Nat → Int32) → (Int32) → Int32 × (Nat → Int32) × (Nat → Nat → Int32)
  | 0 => fun F25 R26 _ => (0, F25, R26)
  | n + 1 => KB_X3_read_73 (K_X3_read_73 n)
def K_X3_read_50 (F4 : Nat → Int32) (R5 : Nat → Nat → Int32)  : Int32 × (Nat → Int32) × (Nat → Nat → Int32) :=
  k_lt (upd F4 531 0) (fun F6 => k_lt (upd F6 532 0) (fun F8 => k_lt2 (sp_X2_clear_25 F8 R5) (fun F14 R15 => k_lt2 (sp_X3_clause F14 R15) (fun F21 R22 => K_X3_read_73 8589934592 F21 R22 0))))
def KB_X3_read_7 (b7 : (Nat → Int32) → (Nat → Nat → Int32) → (Int32) → Int32 × (Nat → Int32) × (Nat → Nat → Int32)) (a1 : Int32) (F4 : Nat → Int32) (R5 : Nat → Nat → Int32) (y3 : Int32) : Int32 × (Nat → Int32) × (Nat → Nat → Int32) :=
  if a1 ≤ y3 then K_X3_read_50 F4 R5 else if 200 ≤ y3 then K_X3_read_50 F4 R5 else k_lt (sp_X9_at F4 R5 y3) (fun r82 => k_lt (g_u R5 34 (upd (R5 34) (Int32.toNatClampNeg y3) r82)) (fun R87 => k_lt ((F4 530) + 1) (fun x89 => k_lt (upd F4 530 x89) (fun F91 => k_lt (y3 + 1) (fun x93 => b7 F91 R87 x93)))))
def K_X3_read_7 (a1 : Int32) : Nat → (Nat → Int32) → (Nat → Nat → Int32) → (Int32) → Int32 × (Nat → Int32) × (Nat → Nat → Int32)
  | 0 => fun F4 R5 _ => (0, F4, R5)
  | n + 1 => KB_X3_read_7 (K_X3_read_7 a1 n) a1
def sp_X3_read (F : Nat → Int32) (R : Nat → Nat → Int32) (a1 : Int32) : Int32 × (Nat → Int32) × (Nat → Nat → Int32) :=
  k_lt (upd F 530 0) (fun F1 => K_X3_read_7 a1 8589934592 F1 R 0)
theorem e_X3_read_0 : g_dc cX3_read 0 (.aload_n 0) 1 1 := ⟨by decide +kernel, rfl⟩
theorem e_X3_read_1 : g_dc cX3_read 1 (.iconst 0) 1 2 := ⟨by decide +kernel, rfl⟩
theorem e_X3_read_2 : g_dc cX3_read 2 (.putfield 15) 3 5 := ⟨by decide +kernel, rfl⟩
theorem e_X3_read_5 : g_dc cX3_read 5 (.iconst 0) 1 6 := ⟨by decide +kernel, rfl⟩
theorem e_X3_read_6 : g_dc cX3_read 6 (.istore_n 3) 1 7 := ⟨by decide +kernel, rfl⟩
theorem e_X3_read_7 : g_dc cX3_read 7 (.aload_n 1) 1 8 := ⟨by decide +kernel, rfl⟩
theorem e_X3_read_8 : g_dc cX3_read 8 (.ifnull 42) 3 11 := ⟨by decide +kernel, rfl⟩
theorem e_X3_read_11 : g_dc cX3_read 11 (.iload_n 3) 1 12 := ⟨by decide +kernel, rfl⟩
theorem e_X3_read_12 : g_dc cX3_read 12 (.iload_n 2) 1 13 := ⟨by decide +kernel, rfl⟩
theorem e_X3_read_13 : g_dc cX3_read 13 (.if_icmp .ge 37) 3 16 := ⟨by decide +kernel, rfl⟩
theorem e_X3_read_16 : g_dc cX3_read 16 (.iload_n 3) 1 17 := ⟨by decide +kernel, rfl⟩
theorem e_X3_read_17 : g_dc cX3_read 17 (.sipush 200) 3 20 := ⟨by decide +kernel, rfl⟩
theorem e_X3_read_20 : g_dc cX3_read 20 (.if_icmp .ge 30) 3 23 := ⟨by decide +kernel, rfl⟩
theorem e_X3_read_23 : g_dc cX3_read 23 (.aload_n 0) 1 24 := ⟨by decide +kernel, rfl⟩
theorem e_X3_read_24 : g_dc cX3_read 24 (.getfield 9) 3 27 := ⟨by decide +kernel, rfl⟩
theorem e_X3_read_27 : g_dc cX3_read 27 (.iload_n 3) 1 28 := ⟨by decide +kernel, rfl⟩
theorem e_X3_read_28 : g_dc cX3_read 28 (.aload_n 1) 1 29 := ⟨by decide +kernel, rfl⟩
theorem e_X3_read_29 : g_dc cX3_read 29 (.iload_n 3) 1 30 := ⟨by decide +kernel, rfl⟩
theorem e_X3_read_30 : g_dc cX3_read 30 (.invokevirtual 29) 3 33 := ⟨by decide +kernel, rfl⟩
theorem e_X3_read_33 : g_dc cX3_read 33 (.iastore) 1 34 := ⟨by decide +kernel, rfl⟩
theorem e_X3_read_34 : g_dc cX3_read 34 (.aload_n 0) 1 35 := ⟨by decide +kernel, rfl⟩
theorem e_X3_read_35 : g_dc cX3_read 35 (.dup) 1 36 := ⟨by decide +kernel, rfl⟩
theorem e_X3_read_36 : g_dc cX3_read 36 (.getfield 15) 3 39 := ⟨by decide +kernel, rfl⟩
theorem e_X3_read_39 : g_dc cX3_read 39 (.iconst 1) 1 40 := ⟨by decide +kernel, rfl⟩
theorem e_X3_read_40 : g_dc cX3_read 40 (.iadd) 1 41 := ⟨by decide +kernel, rfl⟩
theorem e_X3_read_41 : g_dc cX3_read 41 (.putfield 15) 3 44 := ⟨by decide +kernel, rfl⟩
theorem e_X3_read_44 : g_dc cX3_read 44 (.iinc 3 1) 3 47 := ⟨by decide +kernel, rfl⟩
theorem e_X3_read_47 : g_dc cX3_read 47 (.goto (-40)) 3 50 := ⟨by decide +kernel, rfl⟩
theorem e_X3_read_50 : g_dc cX3_read 50 (.aload_n 0) 1 51 := ⟨by decide +kernel, rfl⟩
theorem e_X3_read_51 : g_dc cX3_read 51 (.iconst 0) 1 52 := ⟨by decide +kernel, rfl⟩
theorem e_X3_read_52 : g_dc cX3_read 52 (.putfield 19) 3 55 := ⟨by decide +kernel, rfl⟩
theorem e_X3_read_55 : g_dc cX3_read 55 (.aload_n 0) 1 56 := ⟨by decide +kernel, rfl⟩
theorem e_X3_read_56 : g_dc cX3_read 56 (.iconst 0) 1 57 := ⟨by decide +kernel, rfl⟩
theorem e_X3_read_57 : g_dc cX3_read 57 (.putfield 22) 3 60 := ⟨by decide +kernel, rfl⟩
theorem e_X3_read_60 : g_dc cX3_read 60 (.aload_n 0) 1 61 := ⟨by decide +kernel, rfl⟩
theorem e_X3_read_61 : g_dc cX3_read 61 (.getfield 25) 3 64 := ⟨by decide +kernel, rfl⟩
theorem e_X3_read_64 : g_dc cX3_read 64 (.invokevirtual 34) 3 67 := ⟨by decide +kernel, rfl⟩
theorem e_X3_read_67 : g_dc cX3_read 67 (.aload_n 0) 1 68 := ⟨by decide +kernel, rfl⟩
theorem e_X3_read_68 : g_dc cX3_read 68 (.invokevirtual 39) 3 71 := ⟨by decide +kernel, rfl⟩
theorem e_X3_read_71 : g_dc cX3_read 71 (.iconst 0) 1 72 := ⟨by decide +kernel, rfl⟩
theorem e_X3_read_72 : g_dc cX3_read 72 (.istore_n 3) 1 73 := ⟨by decide +kernel, rfl⟩
theorem e_X3_read_73 : g_dc cX3_read 73 (.iload_n 3) 1 74 := ⟨by decide +kernel, rfl⟩
theorem e_X3_read_74 : g_dc cX3_read 74 (.sipush 200) 3 77 := ⟨by decide +kernel, rfl⟩
theorem e_X3_read_77 : g_dc cX3_read 77 (.if_icmp .ge 32) 3 80 := ⟨by decide +kernel, rfl⟩
theorem e_X3_read_80 : g_dc cX3_read 80 (.aload_n 0) 1 81 := ⟨by decide +kernel, rfl⟩
theorem e_X3_read_81 : g_dc cX3_read 81 (.invokevirtual 42) 3 84 := ⟨by decide +kernel, rfl⟩
theorem e_X3_read_84 : g_dc cX3_read 84 (.bipush 59) 2 86 := ⟨by decide +kernel, rfl⟩
theorem e_X3_read_86 : g_dc cX3_read 86 (.if_icmp .ne 23) 3 89 := ⟨by decide +kernel, rfl⟩
theorem e_X3_read_89 : g_dc cX3_read 89 (.aload_n 0) 1 90 := ⟨by decide +kernel, rfl⟩
theorem e_X3_read_90 : g_dc cX3_read 90 (.dup) 1 91 := ⟨by decide +kernel, rfl⟩
theorem e_X3_read_91 : g_dc cX3_read 91 (.getfield 19) 3 94 := ⟨by decide +kernel, rfl⟩
theorem e_X3_read_94 : g_dc cX3_read 94 (.iconst 1) 1 95 := ⟨by decide +kernel, rfl⟩
theorem e_X3_read_95 : g_dc cX3_read 95 (.iadd) 1 96 := ⟨by decide +kernel, rfl⟩
theorem e_X3_read_96 : g_dc cX3_read 96 (.putfield 19) 3 99 := ⟨by decide +kernel, rfl⟩
theorem e_X3_read_99 : g_dc cX3_read 99 (.aload_n 0) 1 100 := ⟨by decide +kernel, rfl⟩
theorem e_X3_read_100 : g_dc cX3_read 100 (.invokevirtual 39) 3 103 := ⟨by decide +kernel, rfl⟩
theorem e_X3_read_103 : g_dc cX3_read 103 (.iinc 3 1) 3 106 := ⟨by decide +kernel, rfl⟩
theorem e_X3_read_106 : g_dc cX3_read 106 (.goto (-33)) 3 109 := ⟨by decide +kernel, rfl⟩
theorem e_X3_read_109 : g_dc cX3_read 109 (.aload_n 0) 1 110 := ⟨by decide +kernel, rfl⟩
theorem e_X3_read_110 : g_dc cX3_read 110 (.getfield 22) 3 113 := ⟨by decide +kernel, rfl⟩
theorem e_X3_read_113 : g_dc cX3_read 113 (.ifCond .ne 19) 3 116 := ⟨by decide +kernel, rfl⟩
theorem e_X3_read_116 : g_dc cX3_read 116 (.aload_n 0) 1 117 := ⟨by decide +kernel, rfl⟩
theorem e_X3_read_117 : g_dc cX3_read 117 (.getfield 19) 3 120 := ⟨by decide +kernel, rfl⟩
theorem e_X3_read_120 : g_dc cX3_read 120 (.aload_n 0) 1 121 := ⟨by decide +kernel, rfl⟩
theorem e_X3_read_121 : g_dc cX3_read 121 (.getfield 15) 3 124 := ⟨by decide +kernel, rfl⟩
theorem e_X3_read_124 : g_dc cX3_read 124 (.if_icmp .ge 8) 3 127 := ⟨by decide +kernel, rfl⟩
theorem e_X3_read_127 : g_dc cX3_read 127 (.aload_n 0) 1 128 := ⟨by decide +kernel, rfl⟩
theorem e_X3_read_128 : g_dc cX3_read 128 (.iconst 1) 1 129 := ⟨by decide +kernel, rfl⟩
theorem e_X3_read_129 : g_dc cX3_read 129 (.invokevirtual 46) 3 132 := ⟨by decide +kernel, rfl⟩
theorem e_X3_read_132 : g_dc cX3_read 132 (.aload_n 0) 1 133 := ⟨by decide +kernel, rfl⟩
theorem e_X3_read_133 : g_dc cX3_read 133 (.getfield 22) 3 136 := ⟨by decide +kernel, rfl⟩
theorem e_X3_read_136 : g_dc cX3_read 136 (.ireturn) 1 137 := ⟨by decide +kernel, rfl⟩
def md_X3_read : List Nat := [402, 406, 530, 531, 532]
def mr_X3_read : List Nat := [26, 27, 28, 29, 30, 34]
set_option maxHeartbeats 4000000 in
set_option maxRecDepth 100000 in
theorem w_X3_read (l : Launch) (X : gX) (ad : Nat → Nat) (F : Nat → Int32) (R : Nat → Nat → Int32) (hI : g_ok LK_wX F) (hA : g_okR LA_wX R) (a1 : Int32) : g_Ci l X yX3_read cX3_read 4 (some .int) 28 0 0 [.ref (ad 33), .ref (ad 9), .int a1] (wX X ad F R) (fun r w => ∃ (F' : Nat → Int32) (R' : Nat → Nat → Int32), w = wX X ad F' R' ∧ g_ok LK_wX F' ∧ g_okR LA_wX R' ∧ g_fr md_X3_read F F' ∧ g_fr mr_X3_read R R' ∧ jv (-2147483648) 2147483647 r ∧ (r, F', R') = sp_X3_read F R a1) := by
  refine g_mi (by decide +kernel) (Nat.le_of_ble_eq_true rfl) (fun E cx hret => ?_)
  obtain ⟨SP, hSP⟩ : ∃ z, z = sp_X3_read F R a1 := ⟨_, rfl⟩
  have hk0 := hSP
  unfold sp_X3_read at hk0
  refine g_aload_n cx 0 rfl e_X3_read_0 ?_
  refine g_iconst cx 0 (by decide) e_X3_read_1 ?_
  refine g_put cx cl_X3 fl_X3_15 33 (wX X ad (upd F 530 0) R) e_X3_read_2 rfl rfl rfl rfl (Nat.le_of_ble_eq_true rfl) rfl ?_
  obtain ⟨F1, hF1⟩ : ∃ z, z = upd F 530 0 := ⟨_, rfl⟩
  rw [← hF1]
  have hk2 := k_ls hk0 hF1
  have oF1 : g_ok LK_wX F1 := by rw [hF1]; exact g_ok_u hI rfl
  have fF1 : g_fr md_X3_read F F1 := by rw [hF1]; exact g_fr_u (g_fr_rf F) rfl
  refine g_iconst cx 0 (by decide) e_X3_read_5 ?_
  refine g_istore_n cx [(3, .int 0), (0, .ref (ad 33)), (1, .ref (ad 9)), (2, .int a1)] e_X3_read_6 (by decide) rfl ?_
  have J7 : ∀ (N : Nat) (F4 : Nat → Int32) (R5 : Nat → Nat → Int32) (y3 : Int32), (g_ok LK_wX F4) → (g_fr md_X3_read F F4) → (g_okR LA_wX R5) → (g_fr mr_X3_read R R5) → (jv 0 200 y3) → (SP = K_X3_read_7 a1 N F4 R5 y3) → (2147483647 - y3.toInt).toNat < N → G X E 4 0 0 (wX X ad F4 R5) [(0, .ref (ad 33)), (1, .ref (ad 9)), (2, .int a1), (3, .int y3)] 7 [] := by
    intro N
    induction N with
    | zero => intro F4 R5 y3 oF4 fF4 oR5 fR5 py3 hkJ7 hm; exact absurd hm (Nat.not_lt_zero _)
    | succ N ih7 =>
      intro F4 R5 y3 oF4 fF4 oR5 fR5 py3 hkJ7 hm7
      have hkK7 : SP = KB_X3_read_7 (K_X3_read_7 a1 N) a1 F4 R5 y3 := hkJ7
      obtain ⟨b7, hb7⟩ : ∃ z, z = K_X3_read_7 a1 N := ⟨_, rfl⟩
      rw [← hb7] at hkK7
      unfold KB_X3_read_7 at hkK7
      refine g_aload_n cx 1 rfl e_X3_read_7 ?_
      refine g_ifnull cx e_X3_read_8 ?_
      refine g_iload_n cx 3 rfl e_X3_read_11 ?_
      refine g_iload_n cx 2 rfl e_X3_read_12 ?_
      have J50 : (SP = K_X3_read_50 F4 R5) → G X E 4 0 0 (wX X ad F4 R5) [(0, .ref (ad 33))] 50 [] := by
        intro   hkJ50
        unfold K_X3_read_50 at hkJ50
        refine g_aload_n cx 0 rfl e_X3_read_50 ?_
        refine g_iconst cx 0 (by decide) e_X3_read_51 ?_
        refine g_put cx cl_X3 fl_X3_19 33 (wX X ad (upd F4 531 0) R5) e_X3_read_52 rfl rfl rfl rfl (Nat.le_of_ble_eq_true rfl) rfl ?_
        obtain ⟨F6, hF6⟩ : ∃ z, z = upd F4 531 0 := ⟨_, rfl⟩
        rw [← hF6]
        have hk7 := k_ls hkJ50 hF6
        have oF6 : g_ok LK_wX F6 := by rw [hF6]; exact g_ok_u oF4 rfl
        have fF6 : g_fr md_X3_read F F6 := by rw [hF6]; exact g_fr_u fF4 rfl
        refine g_aload_n cx 0 rfl e_X3_read_55 ?_
        refine g_iconst cx 0 (by decide) e_X3_read_56 ?_
        refine g_put cx cl_X3 fl_X3_22 33 (wX X ad (upd F6 532 0) R5) e_X3_read_57 rfl rfl rfl rfl (Nat.le_of_ble_eq_true rfl) rfl ?_
        obtain ⟨F8, hF8⟩ : ∃ z, z = upd F6 532 0 := ⟨_, rfl⟩
        rw [← hF8]
        have hk9 := k_ls hk7 hF8
        have oF8 : g_ok LK_wX F8 := by rw [hF8]; exact g_ok_u oF6 rfl
        have fF8 : g_fr md_X3_read F F8 := by rw [hF8]; exact g_fr_u fF6 rfl
        refine g_aload_n cx 0 rfl e_X3_read_60 ?_
        refine g_get cx cl_X3 fl_X3_25 33 (.ref (ad 25)) e_X3_read_61 rfl rfl ?_
        refine g_cVvW cx [] [] (w_X2_clear_25 l X ad F8 R5 oF8 oR5) ml_X3_34 yV_X2_clear e_X3_read_64 (by unfold g_rr; decide) (by decide) 25 rfl rfl rfl (Nat.le_of_ble_eq_true rfl) (fun w11 h12 => ?_)
        obtain ⟨F14, R15, rfl, oF14, oR15, cF14, cR15, hx13⟩ := h12
        have hk16 := k_ls2 hk9 hx13
        have fF14 : g_fr md_X3_read F F14 := g_fr_c fF8 cF14 rfl
        have fR15 : g_fr mr_X3_read R R15 := g_fr_c fR5 cR15 rfl
        refine g_aload_n cx 0 rfl e_X3_read_67 ?_
        refine g_cVvW cx [] [] (w_X3_clause l X ad F14 R15 oF14 oR15) ml_X3_39 yV_X3_clause e_X3_read_68 (by unfold g_rr; decide) (by decide) 33 rfl rfl rfl (Nat.le_of_ble_eq_true rfl) (fun w18 h19 => ?_)
        obtain ⟨F21, R22, rfl, oF21, oR22, cF21, cR22, hx20⟩ := h19
        have hk23 := k_ls2 hk16 hx20
        have fF21 : g_fr md_X3_read F F21 := g_fr_c fF14 cF21 rfl
        have fR22 : g_fr mr_X3_read R R22 := g_fr_c fR15 cR22 rfl
        refine g_iconst cx 0 (by decide) e_X3_read_71 ?_
        refine g_istore_n cx [(3, .int 0), (0, .ref (ad 33))] e_X3_read_72 (by decide) rfl ?_
        have J73 : ∀ (N : Nat) (F25 : Nat → Int32) (R26 : Nat → Nat → Int32) (y24 : Int32), (g_ok LK_wX F25) → (g_fr md_X3_read F F25) → (g_okR LA_wX R26) → (g_fr mr_X3_read R R26) → (jv 0 200 y24) → (SP = K_X3_read_73 N F25 R26 y24) → (2147483647 - y24.toInt).toNat < N → G X E 4 0 0 (wX X ad F25 R26) [(0, .ref (ad 33)), (3, .int y24)] 73 [] := by
          intro N
          induction N with
          | zero => intro F25 R26 y24 oF25 fF25 oR26 fR26 py24 hkJ73 hm; exact absurd hm (Nat.not_lt_zero _)
          | succ N ih73 =>
            intro F25 R26 y24 oF25 fF25 oR26 fR26 py24 hkJ73 hm73
            have hkK73 : SP = KB_X3_read_73 (K_X3_read_73 N) F25 R26 y24 := hkJ73
            obtain ⟨b73, hb73⟩ : ∃ z, z = K_X3_read_73 N := ⟨_, rfl⟩
            rw [← hb73] at hkK73
            unfold KB_X3_read_73 at hkK73
            refine g_iload_n cx 1 rfl e_X3_read_73 ?_
            refine g_sipush cx 200 (by decide) e_X3_read_74 ?_
            have J109 : (SP = K_X3_read_109 F25 R26) → G X E 4 0 0 (wX X ad F25 R26) [(0, .ref (ad 33))] 109 [] := by
              intro   hkJ109
              unfold K_X3_read_109 at hkJ109
              refine g_aload_n cx 0 rfl e_X3_read_109 ?_
              refine g_get cx cl_X3 fl_X3_22 33 (.int (F25 532)) e_X3_read_110 rfl rfl ?_
              have J132 : ∀ (F27 : Nat → Int32) (R28 : Nat → Nat → Int32), (g_ok LK_wX F27) → (g_fr md_X3_read F F27) → (g_okR LA_wX R28) → (g_fr mr_X3_read R R28) → (SP = K_X3_read_132 F27 R28) → G X E 4 0 0 (wX X ad F27 R28) [(0, .ref (ad 33))] 132 [] := by
                intro F27 R28 oF27 fF27 oR28 fR28 hkJ132
                unfold K_X3_read_132 at hkJ132
                refine g_aload_n cx 0 rfl e_X3_read_132 ?_
                refine g_get cx cl_X3 fl_X3_22 33 (.int (F27 532)) e_X3_read_133 rfl rfl ?_
                exact hret e_X3_read_136 (Nat.le_of_ble_eq_true rfl) (Nat.le_of_ble_eq_true rfl) rfl ⟨F27, R28, rfl, oF27, oR28, fF27, fR28, (jv_t (F27 532)), (hkJ132.symm.trans hSP)⟩
              refine g_if_ne cx 132 e_X3_read_113 (by decide) (fun zc29 => ?_) (fun zc29 => ?_)
              · have hk30 := hkJ109.trans (if_neg zc29)
                exact J132 F25 R26 oF25 fF25 oR26 fR26 hk30
              · have p31 := gn_eq 0 0 (gc_eq zc29) (jv_t (F25 532)) (jv_k (x := 0) 0 (by decide)) (by decide)
                have hk32 := hkJ109.trans (if_pos zc29)
                refine g_aload_n cx 0 rfl e_X3_read_116 ?_
                refine g_get cx cl_X3 fl_X3_19 33 (.int (F25 531)) e_X3_read_117 rfl rfl ?_
                refine g_aload_n cx 0 rfl e_X3_read_120 ?_
                refine g_get cx cl_X3 fl_X3_15 33 (.int (F25 530)) e_X3_read_121 rfl rfl ?_
                refine g_icmp_ge cx 132 e_X3_read_124 (by decide) (fun zc33 => ?_) (fun zc33 => ?_)
                · have hk34 := hk32.trans (if_pos zc33)
                  exact J132 F25 R26 oF25 fF25 oR26 fR26 hk34
                · have p35 := gn_lt (-2147483648) 2147483646 (gc_nle zc33) (jv_t (F25 531)) (jv_t (F25 530)) (by decide)
                  have p36 := gn_gt (-2147483647) 2147483647 (gc_nle zc33) (jv_t (F25 530)) (jv_t (F25 531)) (by decide)
                  have hk37 := hk32.trans (if_neg zc33)
                  refine g_aload_n cx 0 rfl e_X3_read_127 ?_
                  refine g_iconst cx 1 (by decide) e_X3_read_128 ?_
                  refine g_cVvW cx [.int 1] [] (w_X3_fail l X ad F25 R26 oF25 oR26 1) ml_X3_46 yV_X3_fail e_X3_read_129 (by unfold g_rr; decide) (by decide) 33 rfl rfl rfl (Nat.le_of_ble_eq_true rfl) (fun w39 h40 => ?_)
                  obtain ⟨F42, R43, rfl, oF42, oR43, cF42, cR43, hx41⟩ := h40
                  have hk44 := k_ls2 hk37 hx41
                  have fF42 : g_fr md_X3_read F F42 := g_fr_c fF25 cF42 rfl
                  have fR43 : g_fr mr_X3_read R R43 := g_fr_c fR26 cR43 rfl
                  exact J132 F42 R43 oF42 fF42 oR43 fR43 hk44
            refine g_icmp_ge cx 109 e_X3_read_77 (by decide) (fun zc45 => ?_) (fun zc45 => ?_)
            · have p46 := gn_ge 200 200 (gc_le zc45) py24 (jv_k (x := 200) 200 (by decide)) (by decide)
              have hk47 := hkK73.trans (if_pos zc45)
              refine g_lsub [0] [(0, .ref (ad 33))] rfl ?_
              exact J109  hk47
            · have p48 := gn_lt 0 199 (gc_nle zc45) py24 (jv_k (x := 200) 200 (by decide)) (by decide)
              have hk49 := hkK73.trans (if_neg zc45)
              refine g_aload_n cx 0 rfl e_X3_read_80 ?_
              refine g_cViW cx [] [] (w_X3_sign l X ad F25 R26 oF25 oR26) ml_X3_42 yV_X3_sign e_X3_read_81 (by unfold g_rr; decide) (by decide) 33 rfl rfl rfl (Nat.le_of_ble_eq_true rfl) (fun r50 w51 h52 => ?_)
              obtain ⟨rfl, pr50, hx53⟩ := h52
              have hk54 := k_ls hk49 hx53
              refine g_bipush cx 59 (by decide) e_X3_read_84 ?_
              refine g_icmp_ne cx 109 e_X3_read_86 (by decide) (fun zc55 => ?_) (fun zc55 => ?_)
              · have hk56 := hk54.trans (if_neg zc55)
                refine g_lsub [0] [(0, .ref (ad 33))] rfl ?_
                exact J109  hk56
              · have p57 := gn_eq 59 59 (gc_eq zc55) pr50 (jv_k (x := 59) 59 (by decide)) (by decide)
                have hk58 := hk54.trans (if_pos zc55)
                refine g_aload_n cx 0 rfl e_X3_read_89 ?_
                refine g_dup cx rfl e_X3_read_90 ?_
                refine g_get cx cl_X3 fl_X3_19 33 (.int (F25 531)) e_X3_read_91 rfl rfl ?_
                refine g_iconst cx 1 (by decide) e_X3_read_94 ?_
                refine g_iadd cx e_X3_read_95 ?_
                refine g_topi (fun x59 ex59 => ?_)
                have hk60 := k_ls hk58 ex59
                refine g_put cx cl_X3 fl_X3_19 33 (wX X ad (upd F25 531 x59) R26) e_X3_read_96 rfl rfl rfl rfl (Nat.le_of_ble_eq_true rfl) rfl ?_
                obtain ⟨F61, hF61⟩ : ∃ z, z = upd F25 531 x59 := ⟨_, rfl⟩
                rw [← hF61]
                have hk62 := k_ls hk60 hF61
                have oF61 : g_ok LK_wX F61 := by rw [hF61]; exact g_ok_u oF25 rfl
                have fF61 : g_fr md_X3_read F F61 := by rw [hF61]; exact g_fr_u fF25 rfl
                refine g_aload_n cx 0 rfl e_X3_read_99 ?_
                refine g_cVvW cx [] [] (w_X3_clause l X ad F61 R26 oF61 oR26) ml_X3_39 yV_X3_clause e_X3_read_100 (by unfold g_rr; decide) (by decide) 33 rfl rfl rfl (Nat.le_of_ble_eq_true rfl) (fun w64 h65 => ?_)
                obtain ⟨F67, R68, rfl, oF67, oR68, cF67, cR68, hx66⟩ := h65
                have hk69 := k_ls2 hk62 hx66
                have fF67 : g_fr md_X3_read F F67 := g_fr_c fF61 cF67 rfl
                have fR68 : g_fr mr_X3_read R R68 := g_fr_c fR26 cR68 rfl
                obtain ⟨x70, ex70⟩ : ∃ z : Int32, z = y24 + Int32.ofInt 1 := ⟨_, rfl⟩
                have hk71 := k_ls hk69 (show x70 = y24 + 1 from ex70)
                refine g_iinc cx x70 [(3, .int x70), (0, .ref (ad 33))] 1 e_X3_read_103 rfl ex70.symm (by decide) rfl ?_
                have zx70 := jv_add 1 200 (show x70 = y24 + 1 from ex70) p48 (jv_k (x := 1) 1 (by decide)) (by decide)
                refine g_goto cx 73 e_X3_read_106 (by decide) ?_
                refine g_lsub [1, 0] [(0, .ref (ad 33)), (3, .int x70)] rfl ?_
                exact ih73 F67 R68 x70 oF67 fF67 oR68 fR68 (jv_w zx70.2 (by decide)) (hk71.trans (by rw [hb73])) (Nat.lt_of_lt_of_le (show (2147483647 - x70.toInt).toNat < (2147483647 - y24.toInt).toNat from by have q0 := (jv_k (x := 1) 1 (by decide)).1; have q1 := (jv_k (x := 1) 1 (by decide)).2; have q2 := (jv_k (x := 200) 200 (by decide)).1; have q3 := (jv_k (x := 200) 200 (by decide)).2; have q4 := zx70.2.1; have q5 := zx70.2.2; have q6 := p48.1; have q7 := p48.2; have q8 := (gc_nle zc45); have q9 := (g_eq0 zx70.1); omega) (Nat.le_of_lt_succ hm73))
        refine g_lsub [1, 0] [(0, .ref (ad 33)), (3, .int 0)] rfl ?_
        exact J73 8589934592 F21 R22 0 oF21 fF21 oR22 fR22 (jv_w (jv_k (x := 0) 0 (by decide)) (by decide)) hk23 (show (2147483647 - (0 : Int32).toInt).toNat < 8589934592 from by have q0 := (jv_k (x := 0) 0 (by decide)).1; have q1 := (jv_k (x := 0) 0 (by decide)).2; omega)
      refine g_icmp_ge cx 50 e_X3_read_13 (by decide) (fun zc72 => ?_) (fun zc72 => ?_)
      · have p73 := gn_le (-2147483648) 200 (gc_le zc72) (jv_t a1) py3 (by decide)
        have hk74 := hkK7.trans (if_pos zc72)
        refine g_lsub [0] [(0, .ref (ad 33))] rfl ?_
        exact J50  hk74
      · have p75 := gn_gt 1 2147483647 (gc_nle zc72) (jv_t a1) py3 (by decide)
        have hk76 := hkK7.trans (if_neg zc72)
        refine g_iload_n cx 3 rfl e_X3_read_16 ?_
        refine g_sipush cx 200 (by decide) e_X3_read_17 ?_
        refine g_icmp_ge cx 50 e_X3_read_20 (by decide) (fun zc77 => ?_) (fun zc77 => ?_)
        · have p78 := gn_ge 200 200 (gc_le zc77) py3 (jv_k (x := 200) 200 (by decide)) (by decide)
          have hk79 := hk76.trans (if_pos zc77)
          refine g_lsub [0] [(0, .ref (ad 33))] rfl ?_
          exact J50  hk79
        · have p80 := gn_lt 0 199 (gc_nle zc77) py3 (jv_k (x := 200) 200 (by decide)) (by decide)
          have hk81 := hk76.trans (if_neg zc77)
          refine g_aload_n cx 0 rfl e_X3_read_23 ?_
          refine g_get cx cl_X3 fl_X3_9 33 (.ref (ad 34)) e_X3_read_24 rfl rfl ?_
          refine g_iload_n cx 3 rfl e_X3_read_27 ?_
          refine g_aload_n cx 1 rfl e_X3_read_28 ?_
          refine g_iload_n cx 3 rfl e_X3_read_29 ?_
          refine g_cViW cx [.int y3] [.int y3, .ref (ad 34)] (w_X9_at l X ad F4 R5 oF4 oR5 y3) ml_X3_29 yV_X9_at e_X3_read_30 (by unfold g_rr; decide) (by decide) 9 rfl rfl rfl (Nat.le_of_ble_eq_true rfl) (fun r82 w83 h84 => ?_)
          obtain ⟨rfl, pr82, hx85⟩ := h84
          have hk86 := k_ls hk81 hx85
          refine g_iast cx 34 (wX X ad F4 (g_u R5 34 (upd (R5 34) (Int32.toNatClampNeg y3) r82))) e_X3_read_33 rfl (jv_ix 200 p80 (by decide)) rfl ?_
          obtain ⟨R87, hR87⟩ : ∃ z, z = g_u R5 34 (upd (R5 34) (Int32.toNatClampNeg y3) r82) := ⟨_, rfl⟩
          rw [← hR87]
          have hk88 := k_ls hk86 hR87
          have oR87 : g_okR LA_wX R87 := by rw [hR87]; exact g_okR_u oR5 rfl
          have fR87 : g_fr mr_X3_read R R87 := by rw [hR87]; exact g_fr_r fR5 rfl
          refine g_aload_n cx 0 rfl e_X3_read_34 ?_
          refine g_dup cx rfl e_X3_read_35 ?_
          refine g_get cx cl_X3 fl_X3_15 33 (.int (F4 530)) e_X3_read_36 rfl rfl ?_
          refine g_iconst cx 1 (by decide) e_X3_read_39 ?_
          refine g_iadd cx e_X3_read_40 ?_
          refine g_topi (fun x89 ex89 => ?_)
          have hk90 := k_ls hk88 ex89
          refine g_put cx cl_X3 fl_X3_15 33 (wX X ad (upd F4 530 x89) R87) e_X3_read_41 rfl rfl rfl rfl (Nat.le_of_ble_eq_true rfl) rfl ?_
          obtain ⟨F91, hF91⟩ : ∃ z, z = upd F4 530 x89 := ⟨_, rfl⟩
          rw [← hF91]
          have hk92 := k_ls hk90 hF91
          have oF91 : g_ok LK_wX F91 := by rw [hF91]; exact g_ok_u oF4 rfl
          have fF91 : g_fr md_X3_read F F91 := by rw [hF91]; exact g_fr_u fF4 rfl
          obtain ⟨x93, ex93⟩ : ∃ z : Int32, z = y3 + Int32.ofInt 1 := ⟨_, rfl⟩
          have hk94 := k_ls hk92 (show x93 = y3 + 1 from ex93)
          refine g_iinc cx x93 [(3, .int x93), (0, .ref (ad 33)), (1, .ref (ad 9)), (2, .int a1)] 3 e_X3_read_44 rfl ex93.symm (by decide) rfl ?_
          have zx93 := jv_add 1 200 (show x93 = y3 + 1 from ex93) p80 (jv_k (x := 1) 1 (by decide)) (by decide)
          refine g_goto cx 7 e_X3_read_47 (by decide) ?_
          refine g_lsub [1, 2, 3, 0] [(0, .ref (ad 33)), (1, .ref (ad 9)), (2, .int a1), (3, .int x93)] rfl ?_
          exact ih7 F91 R87 x93 oF91 fF91 oR87 fR87 (jv_w zx93.2 (by decide)) (hk94.trans (by rw [hb7])) (Nat.lt_of_lt_of_le (show (2147483647 - x93.toInt).toNat < (2147483647 - y3.toInt).toNat from by have q0 := (jv_k (x := 1) 1 (by decide)).1; have q1 := (jv_k (x := 1) 1 (by decide)).2; have q2 := (jv_k (x := 200) 200 (by decide)).1; have q3 := (jv_k (x := 200) 200 (by decide)).2; have q4 := p75.1; have q5 := p75.2; have q6 := zx93.2.1; have q7 := zx93.2.2; have q8 := p80.1; have q9 := p80.2; have q10 := (gc_nle zc72); have q11 := (gc_nle zc77); have q12 := (g_eq0 zx93.1); omega) (Nat.le_of_lt_succ hm7))
  refine g_lsub [1, 2, 3, 0] [(0, .ref (ad 33)), (1, .ref (ad 9)), (2, .int a1), (3, .int 0)] rfl ?_
  exact J7 8589934592 F1 R 0 oF1 fF1 hA (g_fr_rf R) (jv_w (jv_k (x := 0) 0 (by decide)) (by decide)) hk2 (show (2147483647 - (0 : Int32).toInt).toNat < 8589934592 from by have q0 := (jv_k (x := 0) 0 (by decide)).1; have q1 := (jv_k (x := 0) 0 (by decide)).2; omega)
def sp_X2_copy_17_r25 (F : Nat → Int32) (R : Nat → Nat → Int32) : (Nat → Int32) × (Nat → Nat → Int32) :=
  k_lt (upd F 274 (F 402)) (fun F1 => k_lt (upd F1 278 (F 406)) (fun F3 => k_lt (g_u R 18 (va_cpy (R 26) (R 18) 0 0 256)) (fun R5 => k_lt (g_u R5 19 (va_cpy (R5 27) (R5 19) 0 0 256)) (fun R7 => k_lt (g_u R7 20 (va_cpy (R7 28) (R7 20) 0 0 14)) (fun R9 => k_lt (g_u R9 21 (va_cpy (R9 29) (R9 21) 0 0 14)) (fun R11 => k_lt (g_u R11 22 (va_cpy (R11 30) (R11 22) 0 0 14)) (fun R13 => (F3, R13))))))))
theorem e_X2_copy_0 : g_dc cX2_copy 0 (.aload_n 1) 1 1 := ⟨by decide +kernel, rfl⟩
theorem e_X2_copy_1 : g_dc cX2_copy 1 (.ifnonnull 4) 3 4 := ⟨by decide +kernel, rfl⟩
theorem e_X2_copy_5 : g_dc cX2_copy 5 (.aload_n 0) 1 6 := ⟨by decide +kernel, rfl⟩
theorem e_X2_copy_6 : g_dc cX2_copy 6 (.aload_n 1) 1 7 := ⟨by decide +kernel, rfl⟩
theorem e_X2_copy_7 : g_dc cX2_copy 7 (.getfield 18) 3 10 := ⟨by decide +kernel, rfl⟩
theorem e_X2_copy_10 : g_dc cX2_copy 10 (.putfield 18) 3 13 := ⟨by decide +kernel, rfl⟩
theorem e_X2_copy_13 : g_dc cX2_copy 13 (.aload_n 0) 1 14 := ⟨by decide +kernel, rfl⟩
theorem e_X2_copy_14 : g_dc cX2_copy 14 (.aload_n 1) 1 15 := ⟨by decide +kernel, rfl⟩
theorem e_X2_copy_15 : g_dc cX2_copy 15 (.getfield 31) 3 18 := ⟨by decide +kernel, rfl⟩
theorem e_X2_copy_18 : g_dc cX2_copy 18 (.putfield 31) 3 21 := ⟨by decide +kernel, rfl⟩
theorem e_X2_copy_21 : g_dc cX2_copy 21 (.aload_n 1) 1 22 := ⟨by decide +kernel, rfl⟩
theorem e_X2_copy_22 : g_dc cX2_copy 22 (.getfield 11) 3 25 := ⟨by decide +kernel, rfl⟩
theorem e_X2_copy_25 : g_dc cX2_copy 25 (.iconst 0) 1 26 := ⟨by decide +kernel, rfl⟩
theorem e_X2_copy_26 : g_dc cX2_copy 26 (.aload_n 0) 1 27 := ⟨by decide +kernel, rfl⟩
theorem e_X2_copy_27 : g_dc cX2_copy 27 (.getfield 11) 3 30 := ⟨by decide +kernel, rfl⟩
theorem e_X2_copy_30 : g_dc cX2_copy 30 (.iconst 0) 1 31 := ⟨by decide +kernel, rfl⟩
theorem e_X2_copy_31 : g_dc cX2_copy 31 (.sipush 256) 3 34 := ⟨by decide +kernel, rfl⟩
theorem e_X2_copy_34 : g_dc cX2_copy 34 (.invokestatic 40) 3 37 := ⟨by decide +kernel, rfl⟩
theorem e_X2_copy_37 : g_dc cX2_copy 37 (.aload_n 1) 1 38 := ⟨by decide +kernel, rfl⟩
theorem e_X2_copy_38 : g_dc cX2_copy 38 (.getfield 15) 3 41 := ⟨by decide +kernel, rfl⟩
theorem e_X2_copy_41 : g_dc cX2_copy 41 (.iconst 0) 1 42 := ⟨by decide +kernel, rfl⟩
theorem e_X2_copy_42 : g_dc cX2_copy 42 (.aload_n 0) 1 43 := ⟨by decide +kernel, rfl⟩
theorem e_X2_copy_43 : g_dc cX2_copy 43 (.getfield 15) 3 46 := ⟨by decide +kernel, rfl⟩
theorem e_X2_copy_46 : g_dc cX2_copy 46 (.iconst 0) 1 47 := ⟨by decide +kernel, rfl⟩
theorem e_X2_copy_47 : g_dc cX2_copy 47 (.sipush 256) 3 50 := ⟨by decide +kernel, rfl⟩
theorem e_X2_copy_50 : g_dc cX2_copy 50 (.invokestatic 40) 3 53 := ⟨by decide +kernel, rfl⟩
theorem e_X2_copy_53 : g_dc cX2_copy 53 (.aload_n 1) 1 54 := ⟨by decide +kernel, rfl⟩
theorem e_X2_copy_54 : g_dc cX2_copy 54 (.getfield 22) 3 57 := ⟨by decide +kernel, rfl⟩
theorem e_X2_copy_57 : g_dc cX2_copy 57 (.iconst 0) 1 58 := ⟨by decide +kernel, rfl⟩
theorem e_X2_copy_58 : g_dc cX2_copy 58 (.aload_n 0) 1 59 := ⟨by decide +kernel, rfl⟩
theorem e_X2_copy_59 : g_dc cX2_copy 59 (.getfield 22) 3 62 := ⟨by decide +kernel, rfl⟩
theorem e_X2_copy_62 : g_dc cX2_copy 62 (.iconst 0) 1 63 := ⟨by decide +kernel, rfl⟩
theorem e_X2_copy_63 : g_dc cX2_copy 63 (.bipush 14) 2 65 := ⟨by decide +kernel, rfl⟩
theorem e_X2_copy_65 : g_dc cX2_copy 65 (.invokestatic 40) 3 68 := ⟨by decide +kernel, rfl⟩
theorem e_X2_copy_68 : g_dc cX2_copy 68 (.aload_n 1) 1 69 := ⟨by decide +kernel, rfl⟩
theorem e_X2_copy_69 : g_dc cX2_copy 69 (.getfield 25) 3 72 := ⟨by decide +kernel, rfl⟩
theorem e_X2_copy_72 : g_dc cX2_copy 72 (.iconst 0) 1 73 := ⟨by decide +kernel, rfl⟩
theorem e_X2_copy_73 : g_dc cX2_copy 73 (.aload_n 0) 1 74 := ⟨by decide +kernel, rfl⟩
theorem e_X2_copy_74 : g_dc cX2_copy 74 (.getfield 25) 3 77 := ⟨by decide +kernel, rfl⟩
theorem e_X2_copy_77 : g_dc cX2_copy 77 (.iconst 0) 1 78 := ⟨by decide +kernel, rfl⟩
theorem e_X2_copy_78 : g_dc cX2_copy 78 (.bipush 14) 2 80 := ⟨by decide +kernel, rfl⟩
theorem e_X2_copy_80 : g_dc cX2_copy 80 (.invokestatic 40) 3 83 := ⟨by decide +kernel, rfl⟩
theorem e_X2_copy_83 : g_dc cX2_copy 83 (.aload_n 1) 1 84 := ⟨by decide +kernel, rfl⟩
theorem e_X2_copy_84 : g_dc cX2_copy 84 (.getfield 28) 3 87 := ⟨by decide +kernel, rfl⟩
theorem e_X2_copy_87 : g_dc cX2_copy 87 (.iconst 0) 1 88 := ⟨by decide +kernel, rfl⟩
theorem e_X2_copy_88 : g_dc cX2_copy 88 (.aload_n 0) 1 89 := ⟨by decide +kernel, rfl⟩
theorem e_X2_copy_89 : g_dc cX2_copy 89 (.getfield 28) 3 92 := ⟨by decide +kernel, rfl⟩
theorem e_X2_copy_92 : g_dc cX2_copy 92 (.iconst 0) 1 93 := ⟨by decide +kernel, rfl⟩
theorem e_X2_copy_93 : g_dc cX2_copy 93 (.bipush 14) 2 95 := ⟨by decide +kernel, rfl⟩
theorem e_X2_copy_95 : g_dc cX2_copy 95 (.invokestatic 40) 3 98 := ⟨by decide +kernel, rfl⟩
theorem e_X2_copy_98 : g_dc cX2_copy 98 (.return_) 1 99 := ⟨by decide +kernel, rfl⟩
def md_X2_copy_17_r25 : List Nat := [274, 278]
def mr_X2_copy_17_r25 : List Nat := [18, 19, 20, 21, 22]
set_option maxHeartbeats 4000000 in
set_option maxRecDepth 100000 in
theorem w_X2_copy_17_r25 (l : Launch) (X : gX) (ad : Nat → Nat) (F : Nat → Int32) (R : Nat → Nat → Int32) (hI : g_ok LK_wX F) (hA : g_okR LA_wX R) : g_Cv l X yX2_copy cX2_copy 2 1 0 0 [.ref (ad 17), .ref (ad 25)] (wX X ad F R) (fun w => ∃ (F' : Nat → Int32) (R' : Nat → Nat → Int32), w = wX X ad F' R' ∧ g_ok LK_wX F' ∧ g_okR LA_wX R' ∧ g_fr md_X2_copy_17_r25 F F' ∧ g_fr mr_X2_copy_17_r25 R R' ∧ (F', R') = sp_X2_copy_17_r25 F R) := by
  refine g_mv (by decide +kernel) (Nat.le_of_ble_eq_true rfl) (fun E cx hret => ?_)
  obtain ⟨SP, hSP⟩ : ∃ z, z = sp_X2_copy_17_r25 F R := ⟨_, rfl⟩
  have hk0 := hSP
  unfold sp_X2_copy_17_r25 at hk0
  refine g_aload_n cx 1 rfl e_X2_copy_0 ?_
  refine g_ifnonnull cx 5 e_X2_copy_1 (by decide) ?_
  refine g_aload_n cx 0 rfl e_X2_copy_5 ?_
  refine g_aload_n cx 1 rfl e_X2_copy_6 ?_
  refine g_get cx cl_X2 fl_X2_18 25 (.int (F 402)) e_X2_copy_7 rfl rfl ?_
  refine g_put cx cl_X2 fl_X2_18 17 (wX X ad (upd F 274 (F 402)) R) e_X2_copy_10 rfl rfl rfl rfl (Nat.le_of_ble_eq_true rfl) rfl ?_
  obtain ⟨F1, hF1⟩ : ∃ z, z = upd F 274 (F 402) := ⟨_, rfl⟩
  rw [← hF1]
  have hk2 := k_ls hk0 hF1
  have oF1 : g_ok LK_wX F1 := by rw [hF1]; exact g_ok_p hI (g_ok_g hI 6 rfl) rfl
  have fF1 : g_fr md_X2_copy_17_r25 F F1 := by rw [hF1]; exact g_fr_u (g_fr_rf F) rfl
  refine g_aload_n cx 0 rfl e_X2_copy_13 ?_
  refine g_aload_n cx 1 rfl e_X2_copy_14 ?_
  refine g_get cx cl_X2 fl_X2_31 25 (.int (F1 406)) e_X2_copy_15 rfl rfl ?_
  refine g_toi (F 406) (g_pu2 hF1 rfl) ?_
  refine g_put cx cl_X2 fl_X2_31 17 (wX X ad (upd F1 278 (F 406)) R) e_X2_copy_18 rfl rfl rfl rfl (Nat.le_of_ble_eq_true rfl) rfl ?_
  obtain ⟨F3, hF3⟩ : ∃ z, z = upd F1 278 (F 406) := ⟨_, rfl⟩
  rw [← hF3]
  have hk4 := k_ls hk2 hF3
  have oF3 : g_ok LK_wX F3 := by rw [hF3]; exact g_ok_p oF1 (g_ok_g hI 8 rfl) rfl
  have fF3 : g_fr md_X2_copy_17_r25 F F3 := by rw [hF3]; exact g_fr_u fF1 rfl
  refine g_aload_n cx 1 rfl e_X2_copy_21 ?_
  refine g_get cx cl_X2 fl_X2_11 25 (.ref (ad 26)) e_X2_copy_22 rfl rfl ?_
  refine g_iconst cx 0 (by decide) e_X2_copy_25 ?_
  refine g_aload_n cx 0 rfl e_X2_copy_26 ?_
  refine g_get cx cl_X2 fl_X2_11 17 (.ref (ad 18)) e_X2_copy_27 rfl rfl ?_
  refine g_iconst cx 0 (by decide) e_X2_copy_30 ?_
  refine g_sipush cx 256 (by decide) e_X2_copy_31 ?_
  refine g_copy cx 26 18 (wX X ad F3 (g_u R 18 (va_cpy (R 26) (R 18) 0 0 256))) ml_X2_40 e_X2_copy_34 rfl rfl (by decide) (by decide) (by decide) (by decide) rfl ?_
  obtain ⟨R5, hR5⟩ : ∃ z, z = g_u R 18 (va_cpy (R 26) (R 18) 0 0 256) := ⟨_, rfl⟩
  rw [← hR5]
  have hk6 := k_ls hk4 hR5
  have oR5 : g_okR LA_wX R5 := by rw [hR5]; exact g_okR_u hA rfl
  have fR5 : g_fr mr_X2_copy_17_r25 R R5 := by rw [hR5]; exact g_fr_r (g_fr_rf R) rfl
  refine g_aload_n cx 1 rfl e_X2_copy_37 ?_
  refine g_get cx cl_X2 fl_X2_15 25 (.ref (ad 27)) e_X2_copy_38 rfl rfl ?_
  refine g_iconst cx 0 (by decide) e_X2_copy_41 ?_
  refine g_aload_n cx 0 rfl e_X2_copy_42 ?_
  refine g_get cx cl_X2 fl_X2_15 17 (.ref (ad 19)) e_X2_copy_43 rfl rfl ?_
  refine g_iconst cx 0 (by decide) e_X2_copy_46 ?_
  refine g_sipush cx 256 (by decide) e_X2_copy_47 ?_
  refine g_copy cx 27 19 (wX X ad F3 (g_u R5 19 (va_cpy (R5 27) (R5 19) 0 0 256))) ml_X2_40 e_X2_copy_50 rfl rfl (by decide) (by decide) (by decide) (by decide) rfl ?_
  obtain ⟨R7, hR7⟩ : ∃ z, z = g_u R5 19 (va_cpy (R5 27) (R5 19) 0 0 256) := ⟨_, rfl⟩
  rw [← hR7]
  have hk8 := k_ls hk6 hR7
  have oR7 : g_okR LA_wX R7 := by rw [hR7]; exact g_okR_u oR5 rfl
  have fR7 : g_fr mr_X2_copy_17_r25 R R7 := by rw [hR7]; exact g_fr_r fR5 rfl
  refine g_aload_n cx 1 rfl e_X2_copy_53 ?_
  refine g_get cx cl_X2 fl_X2_22 25 (.ref (ad 28)) e_X2_copy_54 rfl rfl ?_
  refine g_iconst cx 0 (by decide) e_X2_copy_57 ?_
  refine g_aload_n cx 0 rfl e_X2_copy_58 ?_
  refine g_get cx cl_X2 fl_X2_22 17 (.ref (ad 20)) e_X2_copy_59 rfl rfl ?_
  refine g_iconst cx 0 (by decide) e_X2_copy_62 ?_
  refine g_bipush cx 14 (by decide) e_X2_copy_63 ?_
  refine g_copy cx 28 20 (wX X ad F3 (g_u R7 20 (va_cpy (R7 28) (R7 20) 0 0 14))) ml_X2_40 e_X2_copy_65 rfl rfl (by decide) (by decide) (by decide) (by decide) rfl ?_
  obtain ⟨R9, hR9⟩ : ∃ z, z = g_u R7 20 (va_cpy (R7 28) (R7 20) 0 0 14) := ⟨_, rfl⟩
  rw [← hR9]
  have hk10 := k_ls hk8 hR9
  have oR9 : g_okR LA_wX R9 := by rw [hR9]; exact g_okR_u oR7 rfl
  have fR9 : g_fr mr_X2_copy_17_r25 R R9 := by rw [hR9]; exact g_fr_r fR7 rfl
  refine g_aload_n cx 1 rfl e_X2_copy_68 ?_
  refine g_get cx cl_X2 fl_X2_25 25 (.ref (ad 29)) e_X2_copy_69 rfl rfl ?_
  refine g_iconst cx 0 (by decide) e_X2_copy_72 ?_
  refine g_aload_n cx 0 rfl e_X2_copy_73 ?_
  refine g_get cx cl_X2 fl_X2_25 17 (.ref (ad 21)) e_X2_copy_74 rfl rfl ?_
  refine g_iconst cx 0 (by decide) e_X2_copy_77 ?_
  refine g_bipush cx 14 (by decide) e_X2_copy_78 ?_
  refine g_copy cx 29 21 (wX X ad F3 (g_u R9 21 (va_cpy (R9 29) (R9 21) 0 0 14))) ml_X2_40 e_X2_copy_80 rfl rfl (by decide) (by decide) (by decide) (by decide) rfl ?_
  obtain ⟨R11, hR11⟩ : ∃ z, z = g_u R9 21 (va_cpy (R9 29) (R9 21) 0 0 14) := ⟨_, rfl⟩
  rw [← hR11]
  have hk12 := k_ls hk10 hR11
  have oR11 : g_okR LA_wX R11 := by rw [hR11]; exact g_okR_u oR9 rfl
  have fR11 : g_fr mr_X2_copy_17_r25 R R11 := by rw [hR11]; exact g_fr_r fR9 rfl
  refine g_aload_n cx 1 rfl e_X2_copy_83 ?_
  refine g_get cx cl_X2 fl_X2_28 25 (.ref (ad 30)) e_X2_copy_84 rfl rfl ?_
  refine g_iconst cx 0 (by decide) e_X2_copy_87 ?_
  refine g_aload_n cx 0 rfl e_X2_copy_88 ?_
  refine g_get cx cl_X2 fl_X2_28 17 (.ref (ad 22)) e_X2_copy_89 rfl rfl ?_
  refine g_iconst cx 0 (by decide) e_X2_copy_92 ?_
  refine g_bipush cx 14 (by decide) e_X2_copy_93 ?_
  refine g_copy cx 30 22 (wX X ad F3 (g_u R11 22 (va_cpy (R11 30) (R11 22) 0 0 14))) ml_X2_40 e_X2_copy_95 rfl rfl (by decide) (by decide) (by decide) (by decide) rfl ?_
  obtain ⟨R13, hR13⟩ : ∃ z, z = g_u R11 22 (va_cpy (R11 30) (R11 22) 0 0 14) := ⟨_, rfl⟩
  rw [← hR13]
  have hk14 := k_ls hk12 hR13
  have oR13 : g_okR LA_wX R13 := by rw [hR13]; exact g_okR_u oR11 rfl
  have fR13 : g_fr mr_X2_copy_17_r25 R R13 := by rw [hR13]; exact g_fr_r fR11 rfl
  exact hret e_X2_copy_98 (Nat.le_of_ble_eq_true rfl) (Nat.le_of_ble_eq_true rfl) ⟨F3, R13, rfl, oF3, oR13, fF3, fR13, (hk14.symm.trans hSP)⟩
def K_X10_law_22 (F : Nat → Int32) (R : Nat → Nat → Int32)  : Int32 × (Nat → Int32) × (Nat → Nat → Int32) :=
  ((-1), F, R)
def sp_X10_law (F : Nat → Int32) (R : Nat → Nat → Int32) (a0 : Int32) : Int32 × (Nat → Int32) × (Nat → Nat → Int32) :=
  k_lt (g_in a0 1 200) (fun r1 => if r1 = 0 then K_X10_law_22 F R else if a0 ≤ (F 145) then k_lt3 (sp_X3_read F R a0) (fun r14 F18 R19 => k_lt (upd F18 145 0) (fun F21 => if r14 = 0 then k_lt2 (sp_X2_copy_17_r25 F21 R19) (fun F30 R31 => k_lt ((F 12) + 1) (fun x33 => k_lt (upd F30 12 x33) (fun F35 => (F30 278, F35, R31)))) else (r14, F21, R19))) else K_X10_law_22 F R)
theorem e_X10_law_0 : g_dc cX10_law 0 (.iload_n 1) 1 1 := ⟨by decide +kernel, rfl⟩
theorem e_X10_law_1 : g_dc cX10_law 1 (.iconst 1) 1 2 := ⟨by decide +kernel, rfl⟩
theorem e_X10_law_2 : g_dc cX10_law 2 (.sipush 200) 3 5 := ⟨by decide +kernel, rfl⟩
theorem e_X10_law_5 : g_dc cX10_law 5 (.invokestatic 82) 3 8 := ⟨by decide +kernel, rfl⟩
theorem e_X10_law_8 : g_dc cX10_law 8 (.ifCond .eq 14) 3 11 := ⟨by decide +kernel, rfl⟩
theorem e_X10_law_11 : g_dc cX10_law 11 (.iload_n 1) 1 12 := ⟨by decide +kernel, rfl⟩
theorem e_X10_law_12 : g_dc cX10_law 12 (.aload_n 0) 1 13 := ⟨by decide +kernel, rfl⟩
theorem e_X10_law_13 : g_dc cX10_law 13 (.getfield 22) 3 16 := ⟨by decide +kernel, rfl⟩
theorem e_X10_law_16 : g_dc cX10_law 16 (.getfield 110) 3 19 := ⟨by decide +kernel, rfl⟩
theorem e_X10_law_19 : g_dc cX10_law 19 (.if_icmp .le 5) 3 22 := ⟨by decide +kernel, rfl⟩
theorem e_X10_law_22 : g_dc cX10_law 22 (.iconst (-1)) 1 23 := ⟨by decide +kernel, rfl⟩
theorem e_X10_law_23 : g_dc cX10_law 23 (.ireturn) 1 24 := ⟨by decide +kernel, rfl⟩
theorem e_X10_law_24 : g_dc cX10_law 24 (.aload_n 0) 1 25 := ⟨by decide +kernel, rfl⟩
theorem e_X10_law_25 : g_dc cX10_law 25 (.getfield 51) 3 28 := ⟨by decide +kernel, rfl⟩
theorem e_X10_law_28 : g_dc cX10_law 28 (.aload_n 0) 1 29 := ⟨by decide +kernel, rfl⟩
theorem e_X10_law_29 : g_dc cX10_law 29 (.getfield 22) 3 32 := ⟨by decide +kernel, rfl⟩
theorem e_X10_law_32 : g_dc cX10_law 32 (.iload_n 1) 1 33 := ⟨by decide +kernel, rfl⟩
theorem e_X10_law_33 : g_dc cX10_law 33 (.invokevirtual 127) 3 36 := ⟨by decide +kernel, rfl⟩
theorem e_X10_law_36 : g_dc cX10_law 36 (.istore_n 2) 1 37 := ⟨by decide +kernel, rfl⟩
theorem e_X10_law_37 : g_dc cX10_law 37 (.aload_n 0) 1 38 := ⟨by decide +kernel, rfl⟩
theorem e_X10_law_38 : g_dc cX10_law 38 (.getfield 22) 3 41 := ⟨by decide +kernel, rfl⟩
theorem e_X10_law_41 : g_dc cX10_law 41 (.iconst 0) 1 42 := ⟨by decide +kernel, rfl⟩
theorem e_X10_law_42 : g_dc cX10_law 42 (.putfield 110) 3 45 := ⟨by decide +kernel, rfl⟩
theorem e_X10_law_45 : g_dc cX10_law 45 (.iload_n 2) 1 46 := ⟨by decide +kernel, rfl⟩
theorem e_X10_law_46 : g_dc cX10_law 46 (.ifCond .eq 5) 3 49 := ⟨by decide +kernel, rfl⟩
theorem e_X10_law_49 : g_dc cX10_law 49 (.iload_n 2) 1 50 := ⟨by decide +kernel, rfl⟩
theorem e_X10_law_50 : g_dc cX10_law 50 (.ireturn) 1 51 := ⟨by decide +kernel, rfl⟩
theorem e_X10_law_51 : g_dc cX10_law 51 (.aload_n 0) 1 52 := ⟨by decide +kernel, rfl⟩
theorem e_X10_law_52 : g_dc cX10_law 52 (.getfield 39) 3 55 := ⟨by decide +kernel, rfl⟩
theorem e_X10_law_55 : g_dc cX10_law 55 (.aload_n 0) 1 56 := ⟨by decide +kernel, rfl⟩
theorem e_X10_law_56 : g_dc cX10_law 56 (.getfield 43) 3 59 := ⟨by decide +kernel, rfl⟩
theorem e_X10_law_59 : g_dc cX10_law 59 (.invokevirtual 128) 3 62 := ⟨by decide +kernel, rfl⟩
theorem e_X10_law_62 : g_dc cX10_law 62 (.aload_n 0) 1 63 := ⟨by decide +kernel, rfl⟩
theorem e_X10_law_63 : g_dc cX10_law 63 (.dup) 1 64 := ⟨by decide +kernel, rfl⟩
theorem e_X10_law_64 : g_dc cX10_law 64 (.getfield 78) 3 67 := ⟨by decide +kernel, rfl⟩
theorem e_X10_law_67 : g_dc cX10_law 67 (.iconst 1) 1 68 := ⟨by decide +kernel, rfl⟩
theorem e_X10_law_68 : g_dc cX10_law 68 (.iadd) 1 69 := ⟨by decide +kernel, rfl⟩
theorem e_X10_law_69 : g_dc cX10_law 69 (.putfield 78) 3 72 := ⟨by decide +kernel, rfl⟩
theorem e_X10_law_72 : g_dc cX10_law 72 (.aload_n 0) 1 73 := ⟨by decide +kernel, rfl⟩
theorem e_X10_law_73 : g_dc cX10_law 73 (.getfield 39) 3 76 := ⟨by decide +kernel, rfl⟩
theorem e_X10_law_76 : g_dc cX10_law 76 (.getfield 130) 3 79 := ⟨by decide +kernel, rfl⟩
theorem e_X10_law_79 : g_dc cX10_law 79 (.ireturn) 1 80 := ⟨by decide +kernel, rfl⟩
def md_X10_law : List Nat := [12, 145, 274, 278, 402, 406, 530, 531, 532]
def mr_X10_law : List Nat := [18, 19, 20, 21, 22, 26, 27, 28, 29, 30, 34]
set_option maxHeartbeats 4000000 in
set_option maxRecDepth 100000 in
theorem w_X10_law (l : Launch) (X : gX) (ad : Nat → Nat) (F : Nat → Int32) (R : Nat → Nat → Int32) (hI : g_ok LK_wX F) (hA : g_okR LA_wX R) (a0 : Int32) : g_Ci l X yX10_law cX10_law 3 (some .int) 29 0 0 [.ref (ad 0), .int a0] (wX X ad F R) (fun r w => ∃ (F' : Nat → Int32) (R' : Nat → Nat → Int32), w = wX X ad F' R' ∧ g_ok LK_wX F' ∧ g_okR LA_wX R' ∧ g_fr md_X10_law F F' ∧ g_fr mr_X10_law R R' ∧ jv (-2147483648) 2147483647 r ∧ (r, F', R') = sp_X10_law F R a0) := by
  refine g_mi (by decide +kernel) (Nat.le_of_ble_eq_true rfl) (fun E cx hret => ?_)
  obtain ⟨SP, hSP⟩ : ∃ z, z = sp_X10_law F R a0 := ⟨_, rfl⟩
  have hk0 := hSP
  unfold sp_X10_law at hk0
  refine g_iload_n cx 1 rfl e_X10_law_0 ?_
  refine g_iconst cx 1 (by decide) e_X10_law_1 ?_
  refine g_sipush cx 200 (by decide) e_X10_law_2 ?_
  refine g_cSiW cx [.int a0, .int 1, .int 200] [] (c_X10_within l X (wX X ad F R) a0 1 200) ml_X10_82 yS_X10_within rfl e_X10_law_5 (by unfold g_rr; decide) (by decide) rfl (Nat.le_of_ble_eq_true rfl) (fun r1 w2 h3 => ?_)
  obtain ⟨rfl, hr1⟩ := h3
  have pr1 : jv 0 1 r1 := by rw [hr1]; exact gi_01 _ _ _
  have hk4 := k_ls hk0 hr1
  have J22 : (SP = K_X10_law_22 F R) → G X E 3 0 0 (wX X ad F R) [] 22 [] := by
    intro   hkJ22
    unfold K_X10_law_22 at hkJ22
    refine g_iconst cx (-1) (by decide) e_X10_law_22 ?_
    exact hret e_X10_law_23 (Nat.le_of_ble_eq_true rfl) (Nat.le_of_ble_eq_true rfl) rfl ⟨F, R, rfl, hI, hA, (g_fr_rf F), (g_fr_rf R), (jv_w (jv_k (x := (-1)) (-1) (by decide)) (by decide)), (hkJ22.symm.trans hSP)⟩
  refine g_if_eq cx 22 e_X10_law_8 (by decide) (fun zc5 => ?_) (fun zc5 => ?_)
  · have p6 := gn_eq 0 0 (gc_eq zc5) pr1 (jv_k (x := 0) 0 (by decide)) (by decide)
    have hk7 := hk4.trans (if_pos zc5)
    refine g_lsub [] [] rfl ?_
    exact J22  hk7
  · have p8 := gn_neL 1 1 (gc_ne zc5) pr1 (jv_k (x := 0) 0 (by decide)) (by decide)
    have p9 := jv_i 1 200 (jv_t a0) (gi_in (A := 1) (B := 200) hr1 zc5 (by decide) (by decide)) (by decide)
    have hk10 := hk4.trans (if_neg zc5)
    refine g_iload_n cx 1 rfl e_X10_law_11 ?_
    refine g_aload_n cx 0 rfl e_X10_law_12 ?_
    refine g_get cx cl_X10 fl_X10_22 0 (.ref (ad 9)) e_X10_law_13 rfl rfl ?_
    refine g_getN cx cl_X9 fn_X10_110 9 (.int (F 145)) e_X10_law_16 rfl rfl ?_
    refine g_icmp_le cx 24 e_X10_law_19 (by decide) (fun zc11 => ?_) (fun zc11 => ?_)
    · have p12 := gn_ge 1 220 (gc_le zc11) (g_ok_g hI 1 rfl) p9 (by decide)
      have hk13 := hk10.trans (if_pos zc11)
      refine g_aload_n cx 0 rfl e_X10_law_24 ?_
      refine g_get cx cl_X10 fl_X10_51 0 (.ref (ad 33)) e_X10_law_25 rfl rfl ?_
      refine g_aload_n cx 0 rfl e_X10_law_28 ?_
      refine g_get cx cl_X10 fl_X10_22 0 (.ref (ad 9)) e_X10_law_29 rfl rfl ?_
      refine g_iload_n cx 1 rfl e_X10_law_32 ?_
      refine g_cViW cx [.ref (ad 9), .int a0] [] (w_X3_read l X ad F R hI hA a0) ml_X10_127 yV_X3_read e_X10_law_33 (by unfold g_rr; decide) (by decide) 33 rfl rfl rfl (Nat.le_of_ble_eq_true rfl) (fun r14 w15 h16 => ?_)
      obtain ⟨F18, R19, rfl, oF18, oR19, cF18, cR19, pr14, hx17⟩ := h16
      have hk20 := k_ls3 hk13 hx17
      have fF18 : g_fr md_X10_law F F18 := g_fr_c (g_fr_rf F) cF18 rfl
      have fR19 : g_fr mr_X10_law R R19 := g_fr_c (g_fr_rf R) cR19 rfl
      refine g_istore_n cx [(2, .int r14), (0, .ref (ad 0)), (1, .int a0)] e_X10_law_36 (by decide) rfl ?_
      refine g_aload_n cx 1 rfl e_X10_law_37 ?_
      refine g_get cx cl_X10 fl_X10_22 0 (.ref (ad 9)) e_X10_law_38 rfl rfl ?_
      refine g_iconst cx 0 (by decide) e_X10_law_41 ?_
      refine g_putN cx cl_X9 fn_X10_110 9 (wX X ad (upd F18 145 0) R19) e_X10_law_42 rfl rfl rfl rfl (Nat.le_of_ble_eq_true rfl) rfl ?_
      obtain ⟨F21, hF21⟩ : ∃ z, z = upd F18 145 0 := ⟨_, rfl⟩
      rw [← hF21]
      have hk22 := k_ls hk20 hF21
      have oF21 : g_ok LK_wX F21 := by rw [hF21]; exact g_ok_p oF18 (jv_k (x := 0) 0 (by decide)) rfl
      have fF21 : g_fr md_X10_law F F21 := by rw [hF21]; exact g_fr_u fF18 rfl
      refine g_iload_n cx 0 rfl e_X10_law_45 ?_
      refine g_if_eq cx 51 e_X10_law_46 (by decide) (fun zc23 => ?_) (fun zc23 => ?_)
      · have p24 := gn_eq 0 0 (gc_eq zc23) pr14 (jv_k (x := 0) 0 (by decide)) (by decide)
        have hk25 := hk22.trans (if_pos zc23)
        refine g_aload_n cx 1 rfl e_X10_law_51 ?_
        refine g_get cx cl_X10 fl_X10_39 0 (.ref (ad 17)) e_X10_law_52 rfl rfl ?_
        refine g_aload_n cx 1 rfl e_X10_law_55 ?_
        refine g_get cx cl_X10 fl_X10_43 0 (.ref (ad 25)) e_X10_law_56 rfl rfl ?_
        refine g_cVvW cx [.ref (ad 25)] [] (w_X2_copy_17_r25 l X ad F21 R19 oF21 oR19) ml_X10_128 yV_X2_copy e_X10_law_59 (by unfold g_rr; decide) (by decide) 17 rfl rfl rfl (Nat.le_of_ble_eq_true rfl) (fun w27 h28 => ?_)
        obtain ⟨F30, R31, rfl, oF30, oR31, cF30, cR31, hx29⟩ := h28
        have hk32 := k_ls2 hk25 hx29
        have fF30 : g_fr md_X10_law F F30 := g_fr_c fF21 cF30 rfl
        have fR31 : g_fr mr_X10_law R R31 := g_fr_c fR19 cR31 rfl
        refine g_aload_n cx 1 rfl e_X10_law_62 ?_
        refine g_dup cx rfl e_X10_law_63 ?_
        refine g_get cx cl_X10 fl_X10_78 0 (.int (F30 12)) e_X10_law_64 rfl rfl ?_
        refine g_toi (F 12) (((cF30 12 rfl).trans (g_pu2 hF21 rfl)).trans (cF18 12 rfl)) ?_
        refine g_iconst cx 1 (by decide) e_X10_law_67 ?_
        refine g_iadd cx e_X10_law_68 ?_
        refine g_topi (fun x33 ex33 => ?_)
        have hk34 := k_ls hk32 ex33
        refine g_put cx cl_X10 fl_X10_78 0 (wX X ad (upd F30 12 x33) R31) e_X10_law_69 rfl rfl rfl rfl (Nat.le_of_ble_eq_true rfl) rfl ?_
        obtain ⟨F35, hF35⟩ : ∃ z, z = upd F30 12 x33 := ⟨_, rfl⟩
        rw [← hF35]
        have hk36 := k_ls hk34 hF35
        have oF35 : g_ok LK_wX F35 := by rw [hF35]; exact g_ok_u oF30 rfl
        have fF35 : g_fr md_X10_law F F35 := by rw [hF35]; exact g_fr_u fF30 rfl
        refine g_aload_n cx 1 rfl e_X10_law_72 ?_
        refine g_get cx cl_X10 fl_X10_39 0 (.ref (ad 17)) e_X10_law_73 rfl rfl ?_
        refine g_getN cx cl_X2 fn_X10_130 17 (.int (F35 278)) e_X10_law_76 rfl rfl ?_
        refine g_toi (F30 278) (g_pu2 hF35 rfl) ?_
        exact hret e_X10_law_79 (Nat.le_of_ble_eq_true rfl) (Nat.le_of_ble_eq_true rfl) rfl ⟨F35, R31, rfl, oF35, oR31, fF35, fR31, (jv_w (g_ok_g oF30 7 rfl) (by decide)), (hk36.symm.trans hSP)⟩
      · have hk37 := hk22.trans (if_neg zc23)
        refine g_iload_n cx 0 rfl e_X10_law_49 ?_
        exact hret e_X10_law_50 (Nat.le_of_ble_eq_true rfl) (Nat.le_of_ble_eq_true rfl) rfl ⟨F21, R19, rfl, oF21, oR19, fF21, fR19, pr14, (hk37.symm.trans hSP)⟩
    · have p38 := gn_lt 0 199 (gc_nle zc11) (g_ok_g hI 1 rfl) p9 (by decide)
      have hk39 := hk10.trans (if_neg zc11)
      refine g_lsub [] [] rfl ?_
      exact J22  hk39
