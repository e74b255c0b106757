def g_rk (x : Int32) : Int32 := x
theorem d_X11_laysPaces_0 : g_dc cX11_laysPaces 0 (.iload_n 2) 1 1 := ⟨by decide +kernel, rfl⟩
theorem d_X11_laysPaces_1 : g_dc cX11_laysPaces 1 (.istore_n 3) 1 2 := ⟨by decide +kernel, rfl⟩
theorem d_X11_laysPaces_2 : g_dc cX11_laysPaces 2 (.iload_n 3) 1 3 := ⟨by decide +kernel, rfl⟩
theorem d_X11_laysPaces_3 : g_dc cX11_laysPaces 3 (.ifCond .le 39) 3 6 := ⟨by decide +kernel, rfl⟩
theorem d_X11_laysPaces_6 : g_dc cX11_laysPaces 6 (.aload_n 0) 1 7 := ⟨by decide +kernel, rfl⟩
theorem d_X11_laysPaces_7 : g_dc cX11_laysPaces 7 (.getfield 309) 3 10 := ⟨by decide +kernel, rfl⟩
theorem d_X11_laysPaces_10 : g_dc cX11_laysPaces 10 (.bipush 60) 2 12 := ⟨by decide +kernel, rfl⟩
theorem d_X11_laysPaces_12 : g_dc cX11_laysPaces 12 (.if_icmp .ge 30) 3 15 := ⟨by decide +kernel, rfl⟩
theorem d_X11_laysPaces_15 : g_dc cX11_laysPaces 15 (.aload_n 0) 1 16 := ⟨by decide +kernel, rfl⟩
theorem d_X11_laysPaces_16 : g_dc cX11_laysPaces 16 (.getfield 83) 3 19 := ⟨by decide +kernel, rfl⟩
theorem d_X11_laysPaces_19 : g_dc cX11_laysPaces 19 (.aload_n 0) 1 20 := ⟨by decide +kernel, rfl⟩
theorem d_X11_laysPaces_20 : g_dc cX11_laysPaces 20 (.getfield 309) 3 23 := ⟨by decide +kernel, rfl⟩
theorem d_X11_laysPaces_23 : g_dc cX11_laysPaces 23 (.iload_n 1) 1 24 := ⟨by decide +kernel, rfl⟩
theorem d_X11_laysPaces_24 : g_dc cX11_laysPaces 24 (.iastore) 1 25 := ⟨by decide +kernel, rfl⟩
theorem d_X11_laysPaces_25 : g_dc cX11_laysPaces 25 (.aload_n 0) 1 26 := ⟨by decide +kernel, rfl⟩
theorem d_X11_laysPaces_26 : g_dc cX11_laysPaces 26 (.aload_n 0) 1 27 := ⟨by decide +kernel, rfl⟩
theorem d_X11_laysPaces_27 : g_dc cX11_laysPaces 27 (.getfield 309) 3 30 := ⟨by decide +kernel, rfl⟩
theorem d_X11_laysPaces_30 : g_dc cX11_laysPaces 30 (.iconst 1) 1 31 := ⟨by decide +kernel, rfl⟩
theorem d_X11_laysPaces_31 : g_dc cX11_laysPaces 31 (.iadd) 1 32 := ⟨by decide +kernel, rfl⟩
theorem d_X11_laysPaces_32 : g_dc cX11_laysPaces 32 (.putfield 309) 3 35 := ⟨by decide +kernel, rfl⟩
theorem d_X11_laysPaces_35 : g_dc cX11_laysPaces 35 (.iload_n 3) 1 36 := ⟨by decide +kernel, rfl⟩
theorem d_X11_laysPaces_36 : g_dc cX11_laysPaces 36 (.iload_n 1) 1 37 := ⟨by decide +kernel, rfl⟩
theorem d_X11_laysPaces_37 : g_dc cX11_laysPaces 37 (.isub) 1 38 := ⟨by decide +kernel, rfl⟩
theorem d_X11_laysPaces_38 : g_dc cX11_laysPaces 38 (.istore_n 3) 1 39 := ⟨by decide +kernel, rfl⟩
theorem d_X11_laysPaces_39 : g_dc cX11_laysPaces 39 (.goto (-37)) 3 42 := ⟨by decide +kernel, rfl⟩
theorem d_X11_laysPaces_42 : g_dc cX11_laysPaces 42 (.return_) 1 43 := ⟨by decide +kernel, rfl⟩
set_option maxHeartbeats 4000000 in
set_option maxRecDepth 100000 in
theorem c_X11_laysPaces (l : Launch) (X : gX) (ad : Nat → Nat) (F : Nat → Int32) (R : Nat → Nat → Int32) (pace way : Int32) (t : Nat) (h44 : F 44 = nI t) (ht : t ≤ 60) : g_Cv l X yX11_laysPaces cX11_laysPaces 4 1 0 0 [.ref (ad 0), .int pace, .int way] (wM X ad F R) (fun w => ∃ (t' : Nat) (R' : Nat → Nat → Int32), w = wM X ad (upd F 44 (nI t')) R' ∧ t' ≤ 60) := by
  refine g_mv (by decide +kernel) (Nat.le_of_ble_eq_true rfl) (fun E cx hret => ?_)
  refine g_iload_n cx 2 rfl d_X11_laysPaces_0 ?_
  refine g_istore_n cx [(3, .int way), (0, .ref (ad 0)), (1, .int pace), (2, .int way)] d_X11_laysPaces_1 (by decide) rfl ?_
  have L2 : ∀ (N : Nat) (t : Nat) (y x3 : Int32) (zR : Nat → Nat → Int32), 60 - t < N → (y = nI t) → (t ≤ 60) → G X E 4 0 0 (wM X ad (upd F 44 y) zR) [(0, .ref (ad 0)), (1, .int pace), (2, .int way), (3, .int x3)] 2 [] := by
    intro N
    induction N with
    | zero => intro t y x3 zR hm; exact absurd hm (Nat.not_lt_zero _)
    | succ N ih2 =>
      intro t y x3 zR hm hy ht
      refine g_iload_n cx 3 rfl d_X11_laysPaces_2 ?_
      refine g_if_le cx 42 d_X11_laysPaces_3 (by decide) (fun zc3 => ?_) (fun zc3 => ?_)
      · exact hret d_X11_laysPaces_42 (Nat.le_of_ble_eq_true rfl) (Nat.le_of_ble_eq_true rfl) ⟨t, zR, by rw [hy], ht⟩
      · refine g_aload_n cx 0 rfl d_X11_laysPaces_6 ?_
        refine g_get cx cl_X11 fl_X11_309 0 (.int y) d_X11_laysPaces_7 rfl rfl ?_
        refine g_bipush cx 60 (by decide) d_X11_laysPaces_10 ?_
        refine g_icmp_ge cx 42 d_X11_laysPaces_12 (by decide) (fun zc12 => ?_) (fun zc12 => ?_)
        · exact hret d_X11_laysPaces_42 (Nat.le_of_ble_eq_true rfl) (Nat.le_of_ble_eq_true rfl) ⟨t, zR, by rw [hy], ht⟩
        · refine g_aload_n cx 0 rfl d_X11_laysPaces_15 ?_
          refine g_get cx cl_X11 fl_X11_83 0 (.ref (ad 25)) d_X11_laysPaces_16 rfl rfl ?_
          refine g_aload_n cx 0 rfl d_X11_laysPaces_19 ?_
          refine g_get cx cl_X11 fl_X11_309 0 (.int y) d_X11_laysPaces_20 rfl rfl ?_
          refine g_iload_n cx 1 rfl d_X11_laysPaces_23 ?_
          refine g_iast cx 25 (wM X ad (upd F 44 y) (g_u zR 25 (upd (zR 25) (Int32.toNatClampNeg y) pace))) d_X11_laysPaces_24 rfl (by have h6 := g_lt_of (c := 60) hy (by omega) zc12; rw [hy]; exact vp_in_nI h6 (by decide)) rfl ?_
          generalize (g_u zR 25 (upd (zR 25) (Int32.toNatClampNeg y) pace)) = zR1
          refine g_aload_n cx 0 rfl d_X11_laysPaces_25 ?_
          refine g_aload_n cx 0 rfl d_X11_laysPaces_26 ?_
          refine g_get cx cl_X11 fl_X11_309 0 (.int y) d_X11_laysPaces_27 rfl rfl ?_
          refine g_iconst cx 1 (by decide) d_X11_laysPaces_30 ?_
          refine g_iadd cx d_X11_laysPaces_31 ?_
          refine g_topi (fun x2 ex2 => ?_)
          refine g_put cx cl_X11 fl_X11_309 0 (wM X ad (upd F 44 x2) zR1) d_X11_laysPaces_32 rfl rfl rfl rfl (Nat.le_of_ble_eq_true rfl) rfl ?_
          refine g_iload_n cx 3 rfl d_X11_laysPaces_35 ?_
          refine g_iload_n cx 1 rfl d_X11_laysPaces_36 ?_
          refine g_isub cx d_X11_laysPaces_37 ?_
          refine g_topi (fun x3 ex3 => ?_)
          refine g_istore_n cx [(3, .int x3), (0, .ref (ad 0)), (1, .int pace), (2, .int way)] d_X11_laysPaces_38 (by decide) rfl ?_
          refine g_goto cx 2 d_X11_laysPaces_39 (by decide) ?_
          refine g_lsub [1, 2, 3, 0] [(0, .ref (ad 0)), (1, .int pace), (2, .int way), (3, .int x3)] rfl ?_
          exact ih2 (t + 1) x2 x3 zR1 (by have h6 := g_lt_of (c := 60) hy (by omega) zc12; omega) (by subst_vars; exact nI_1 t) (by have h6 := g_lt_of (c := 60) hy (by omega) zc12; omega)
  refine g_weq (wM X ad (upd F 44 (F 44)) R) rfl ?_
  refine g_lsub [1, 2, 3, 0] [(0, .ref (ad 0)), (1, .int pace), (2, .int way), (3, .int way)] rfl ?_
  exact L2 _ t (F 44) way R (Nat.lt_succ_self _) h44 ht
theorem d_X11_runsEven_0 : g_dc cX11_runsEven 0 (.aload_n 0) 1 1 := ⟨by decide +kernel, rfl⟩
theorem d_X11_runsEven_1 : g_dc cX11_runsEven 1 (.iconst 0) 1 2 := ⟨by decide +kernel, rfl⟩
theorem d_X11_runsEven_2 : g_dc cX11_runsEven 2 (.putfield 309) 3 5 := ⟨by decide +kernel, rfl⟩
theorem d_X11_runsEven_5 : g_dc cX11_runsEven 5 (.aload_n 0) 1 6 := ⟨by decide +kernel, rfl⟩
theorem d_X11_runsEven_6 : g_dc cX11_runsEven 6 (.iload_n 1) 1 7 := ⟨by decide +kernel, rfl⟩
theorem d_X11_runsEven_7 : g_dc cX11_runsEven 7 (.aload_n 0) 1 8 := ⟨by decide +kernel, rfl⟩
theorem d_X11_runsEven_8 : g_dc cX11_runsEven 8 (.getfield 159) 3 11 := ⟨by decide +kernel, rfl⟩
theorem d_X11_runsEven_11 : g_dc cX11_runsEven 11 (.invokevirtual 443) 3 14 := ⟨by decide +kernel, rfl⟩
theorem d_X11_runsEven_14 : g_dc cX11_runsEven 14 (.aload_n 0) 1 15 := ⟨by decide +kernel, rfl⟩
theorem d_X11_runsEven_15 : g_dc cX11_runsEven 15 (.invokevirtual 428) 3 18 := ⟨by decide +kernel, rfl⟩
theorem d_X11_runsEven_18 : g_dc cX11_runsEven 18 (.return_) 1 19 := ⟨by decide +kernel, rfl⟩
set_option maxHeartbeats 4000000 in
set_option maxRecDepth 100000 in
theorem c_X11_runsEven (l : Launch) (X : gX) (ad : Nat → Nat) (F : Nat → Int32) (R : Nat → Nat → Int32) (pace : Int32) (h42 : F 42 = 0) (h49 : F 49 = 0) (h51 : F 51 = 0) : g_Cv l X yX11_runsEven cX11_runsEven 2 6 0 0 [.ref (ad 0), .int pace] (wM X ad F R) (fun w => ∃ (F' : Nat → Int32) (R' : Nat → Nat → Int32), w = wM X ad F' R' ∧ ∀ k, k < 44 ∨ 48 < k ∧ k < 65 ∨ 69 < k → F' k = F k) := by
  refine g_mv (by decide +kernel) (Nat.le_of_ble_eq_true rfl) (fun E cx hret => ?_)
  refine g_aload_n cx 0 rfl d_X11_runsEven_0 ?_
  refine g_iconst cx 0 (by decide) d_X11_runsEven_1 ?_
  refine g_put cx cl_X11 fl_X11_309 0 (wM X ad (upd F 44 0) R) d_X11_runsEven_2 rfl rfl rfl rfl (Nat.le_of_ble_eq_true rfl) rfl ?_
  refine g_aload_n cx 0 rfl d_X11_runsEven_5 ?_
  refine g_iload_n cx 1 rfl d_X11_runsEven_6 ?_
  refine g_aload_n cx 0 rfl d_X11_runsEven_7 ?_
  refine g_get cx cl_X11 fl_X11_159 0 (.int (F 1)) d_X11_runsEven_8 rfl rfl ?_
  refine g_cVvW cx [.int pace, .int (F 1)] [] (c_X11_laysPaces l X ad (upd F 44 0) R pace (F 1) 0 rfl (by decide)) ml_X11_443 yV_X11_laysPaces d_X11_runsEven_11 (by unfold g_rr; decide) (by decide) 0 rfl rfl rfl (Nat.le_of_ble_eq_true rfl) (fun w2 h3 => ?_)
  obtain ⟨zt4, zR5, rfl, zh6⟩ := h3
  refine g_weq (wM X ad (upd F 44 (nI zt4)) zR5) rfl ?_
  refine g_aload_n cx 0 rfl d_X11_runsEven_14 ?_
  refine g_cVvW cx [] [] (c_X11_runs l X ad (upd F 44 (nI zt4)) zR5 zt4 rfl zh6 h42 (Or.inr ⟨h49, h51⟩)) ml_X11_428 yV_X11_runs d_X11_runsEven_15 (by unfold g_rr; decide) (by decide) 0 rfl rfl rfl (Nat.le_of_ble_eq_true rfl) (fun w8 h9 => ?_)
  obtain ⟨zF10, zR11, rfl, zp12⟩ := h9
  exact hret d_X11_runsEven_18 (Nat.le_of_ble_eq_true rfl) (Nat.le_of_ble_eq_true rfl) ⟨zF10, zR11, rfl, (by intro k hk; rw [zp12.1 k (by omega)]; simp only [upd]; repeat rw [if_neg (by omega)])⟩
theorem d_X11_pace_0 : g_dc cX11_pace 0 (.iconst 1) 1 1 := ⟨by decide +kernel, rfl⟩
theorem d_X11_pace_1 : g_dc cX11_pace 1 (.istore_n 1) 1 2 := ⟨by decide +kernel, rfl⟩
theorem d_X11_pace_2 : g_dc cX11_pace 2 (.iload_n 1) 1 3 := ⟨by decide +kernel, rfl⟩
theorem d_X11_pace_3 : g_dc cX11_pace 3 (.bipush 40) 2 5 := ⟨by decide +kernel, rfl⟩
theorem d_X11_pace_5 : g_dc cX11_pace 5 (.if_icmp .gt 31) 3 8 := ⟨by decide +kernel, rfl⟩
theorem d_X11_pace_8 : g_dc cX11_pace 8 (.aload_n 0) 1 9 := ⟨by decide +kernel, rfl⟩
theorem d_X11_pace_9 : g_dc cX11_pace 9 (.invokevirtual 425) 3 12 := ⟨by decide +kernel, rfl⟩
theorem d_X11_pace_12 : g_dc cX11_pace 12 (.aload_n 0) 1 13 := ⟨by decide +kernel, rfl⟩
theorem d_X11_pace_13 : g_dc cX11_pace 13 (.iload_n 1) 1 14 := ⟨by decide +kernel, rfl⟩
theorem d_X11_pace_14 : g_dc cX11_pace 14 (.invokevirtual 446) 3 17 := ⟨by decide +kernel, rfl⟩
theorem d_X11_pace_17 : g_dc cX11_pace 17 (.aload_n 0) 1 18 := ⟨by decide +kernel, rfl⟩
theorem d_X11_pace_18 : g_dc cX11_pace 18 (.invokevirtual 407) 3 21 := ⟨by decide +kernel, rfl⟩
theorem d_X11_pace_21 : g_dc cX11_pace 21 (.aload_n 0) 1 22 := ⟨by decide +kernel, rfl⟩
theorem d_X11_pace_22 : g_dc cX11_pace 22 (.getfield 172) 3 25 := ⟨by decide +kernel, rfl⟩
theorem d_X11_pace_25 : g_dc cX11_pace 25 (.if_icmp .ne 5) 3 28 := ⟨by decide +kernel, rfl⟩
theorem d_X11_pace_28 : g_dc cX11_pace 28 (.iload_n 1) 1 29 := ⟨by decide +kernel, rfl⟩
theorem d_X11_pace_29 : g_dc cX11_pace 29 (.ireturn) 1 30 := ⟨by decide +kernel, rfl⟩
set_option maxHeartbeats 4000000 in
set_option maxRecDepth 100000 in
theorem c_X11_pace (l : Launch) (X : gX) (ad : Nat → Nat) : g_Ci l X yX11_pace cX11_pace 2 (some .int) 7 0 0 [.ref (ad 0)] (wM X ad fM0 r0) (fun r _ => r = 1) := by
  refine g_mi (by decide +kernel) (Nat.le_of_ble_eq_true rfl) (fun E cx hret => ?_)
  refine g_iconst cx 1 (by decide) d_X11_pace_0 ?_
  refine g_istore_n cx [(1, .int 1), (0, .ref (ad 0))] d_X11_pace_1 (by decide) rfl ?_
  refine g_iload_n cx 0 rfl d_X11_pace_2 ?_
  refine g_bipush cx 40 (by decide) d_X11_pace_3 ?_
  refine g_icmp_gt_f cx 36 d_X11_pace_5 (by decide) (by decide) ?_
  refine g_aload_n cx 1 rfl d_X11_pace_8 ?_
  refine g_cVvW cx [] [] (c_X11_laysThings l X ad fM0 r0  ) ml_X11_425 yV_X11_laysThings d_X11_pace_9 (by unfold g_rr; decide) (by decide) 0 rfl rfl rfl (Nat.le_of_ble_eq_true rfl) (fun w2 h3 => ?_)
  obtain ⟨zR4, rfl⟩ := h3
  refine g_weq (wM X ad (upd (upd (upd (upd fM0 42 0) 43 0) 49 0) 51 0) zR4) rfl ?_
  refine g_aload_n cx 1 rfl d_X11_pace_12 ?_
  refine g_iload_n cx 0 rfl d_X11_pace_13 ?_
  refine g_cVvW cx [.int 1] [] (c_X11_runsEven l X ad (upd (upd (upd (upd fM0 42 0) 43 0) 49 0) 51 0) zR4 1 rfl rfl rfl) ml_X11_446 yV_X11_runsEven d_X11_pace_14 (by unfold g_rr; decide) (by decide) 0 rfl rfl rfl (Nat.le_of_ble_eq_true rfl) (fun w6 h7 => ?_)
  obtain ⟨zF8, zR9, rfl, zp10⟩ := h7
  refine g_aload_n cx 1 rfl d_X11_pace_17 ?_
  refine g_cViW cx [] [] (c_X11_standing l X ad zF8 zR9  ((zp10 42 (by decide)).trans (rfl))) ml_X11_407 yV_X11_standing d_X11_pace_18 (by unfold g_rr; decide) (by decide) 0 rfl rfl rfl (Nat.le_of_ble_eq_true rfl) (fun r11 w12 h13 => ?_)
  obtain ⟨rfl, rfl⟩ := h13
  refine g_aload_n cx 1 rfl d_X11_pace_21 ?_
  refine g_get cx cl_X11 fl_X11_172 0 (.int (zF8 4)) d_X11_pace_22 rfl rfl ?_
  refine g_toi 0 (zp10 4 (by decide)) ?_
  refine g_icmp_ne_f cx 30 d_X11_pace_25 (by decide) (by decide) ?_
  refine g_iload_n cx 0 rfl d_X11_pace_28 ?_
  exact hret d_X11_pace_29 (Nat.le_of_ble_eq_true rfl) (Nat.le_of_ble_eq_true rfl) rfl (rfl)
theorem d_X11_forgetsBest_0 : g_dc cX11_forgetsBest 0 (.aload_n 0) 1 1 := ⟨by decide +kernel, rfl⟩
theorem d_X11_forgetsBest_1 : g_dc cX11_forgetsBest 1 (.iconst (-1)) 1 2 := ⟨by decide +kernel, rfl⟩
theorem d_X11_forgetsBest_2 : g_dc cX11_forgetsBest 2 (.putfield 449) 3 5 := ⟨by decide +kernel, rfl⟩
theorem d_X11_forgetsBest_5 : g_dc cX11_forgetsBest 5 (.aload_n 0) 1 6 := ⟨by decide +kernel, rfl⟩
theorem d_X11_forgetsBest_6 : g_dc cX11_forgetsBest 6 (.iconst 0) 1 7 := ⟨by decide +kernel, rfl⟩
theorem d_X11_forgetsBest_7 : g_dc cX11_forgetsBest 7 (.putfield 452) 3 10 := ⟨by decide +kernel, rfl⟩
theorem d_X11_forgetsBest_10 : g_dc cX11_forgetsBest 10 (.aload_n 0) 1 11 := ⟨by decide +kernel, rfl⟩
theorem d_X11_forgetsBest_11 : g_dc cX11_forgetsBest 11 (.iconst (-1)) 1 12 := ⟨by decide +kernel, rfl⟩
theorem d_X11_forgetsBest_12 : g_dc cX11_forgetsBest 12 (.putfield 455) 3 15 := ⟨by decide +kernel, rfl⟩
theorem d_X11_forgetsBest_15 : g_dc cX11_forgetsBest 15 (.return_) 1 16 := ⟨by decide +kernel, rfl⟩
set_option maxHeartbeats 4000000 in
set_option maxRecDepth 100000 in
theorem c_X11_forgetsBest (l : Launch) (X : gX) (ad : Nat → Nat) (F : Nat → Int32) (R : Nat → Nat → Int32) : g_Cv l X yX11_forgetsBest cX11_forgetsBest 1 1 0 0 [.ref (ad 0)] (wM X ad F R) (fun w => w = wM X ad (upd (upd (upd F 70 (-1)) 71 0) 72 (-1)) R ∧ True) := by
  refine g_mv (by decide +kernel) (Nat.le_of_ble_eq_true rfl) (fun E cx hret => ?_)
  refine g_aload_n cx 0 rfl d_X11_forgetsBest_0 ?_
  refine g_iconst cx (-1) (by decide) d_X11_forgetsBest_1 ?_
  refine g_put cx cl_X11 fl_X11_449 0 (wM X ad (upd F 70 (-1)) R) d_X11_forgetsBest_2 rfl rfl rfl rfl (Nat.le_of_ble_eq_true rfl) rfl ?_
  refine g_aload_n cx 0 rfl d_X11_forgetsBest_5 ?_
  refine g_iconst cx 0 (by decide) d_X11_forgetsBest_6 ?_
  refine g_put cx cl_X11 fl_X11_452 0 (wM X ad (upd (upd F 70 (-1)) 71 0) R) d_X11_forgetsBest_7 rfl rfl rfl rfl (Nat.le_of_ble_eq_true rfl) rfl ?_
  refine g_aload_n cx 0 rfl d_X11_forgetsBest_10 ?_
  refine g_iconst cx (-1) (by decide) d_X11_forgetsBest_11 ?_
  refine g_put cx cl_X11 fl_X11_455 0 (wM X ad (upd (upd (upd F 70 (-1)) 71 0) 72 (-1)) R) d_X11_forgetsBest_12 rfl rfl rfl rfl (Nat.le_of_ble_eq_true rfl) rfl ?_
  exact hret d_X11_forgetsBest_15 (Nat.le_of_ble_eq_true rfl) (Nat.le_of_ble_eq_true rfl) (⟨rfl, trivial⟩)
theorem d_X11_better_0 : g_dc cX11_better 0 (.aload_n 0) 1 1 := ⟨by decide +kernel, rfl⟩
theorem d_X11_better_1 : g_dc cX11_better 1 (.invokevirtual 407) 3 4 := ⟨by decide +kernel, rfl⟩
theorem d_X11_better_4 : g_dc cX11_better 4 (.invokestatic 410) 3 7 := ⟨by decide +kernel, rfl⟩
theorem d_X11_better_7 : g_dc cX11_better 7 (.istore_n 2) 1 8 := ⟨by decide +kernel, rfl⟩
theorem d_X11_better_8 : g_dc cX11_better 8 (.aload_n 0) 1 9 := ⟨by decide +kernel, rfl⟩
theorem d_X11_better_9 : g_dc cX11_better 9 (.invokevirtual 413) 3 12 := ⟨by decide +kernel, rfl⟩
theorem d_X11_better_12 : g_dc cX11_better 12 (.istore_n 3) 1 13 := ⟨by decide +kernel, rfl⟩
theorem d_X11_better_13 : g_dc cX11_better 13 (.iload_n 2) 1 14 := ⟨by decide +kernel, rfl⟩
theorem d_X11_better_14 : g_dc cX11_better 14 (.aload_n 0) 1 15 := ⟨by decide +kernel, rfl⟩
theorem d_X11_better_15 : g_dc cX11_better 15 (.getfield 449) 3 18 := ⟨by decide +kernel, rfl⟩
theorem d_X11_better_18 : g_dc cX11_better 18 (.if_icmp .lt 19) 3 21 := ⟨by decide +kernel, rfl⟩
theorem d_X11_better_21 : g_dc cX11_better 21 (.iload_n 2) 1 22 := ⟨by decide +kernel, rfl⟩
theorem d_X11_better_22 : g_dc cX11_better 22 (.aload_n 0) 1 23 := ⟨by decide +kernel, rfl⟩
theorem d_X11_better_23 : g_dc cX11_better 23 (.getfield 449) 3 26 := ⟨by decide +kernel, rfl⟩
theorem d_X11_better_26 : g_dc cX11_better 26 (.if_icmp .ne 12) 3 29 := ⟨by decide +kernel, rfl⟩
theorem d_X11_better_38 : g_dc cX11_better 38 (.aload_n 0) 1 39 := ⟨by decide +kernel, rfl⟩
theorem d_X11_better_39 : g_dc cX11_better 39 (.iload_n 2) 1 40 := ⟨by decide +kernel, rfl⟩
theorem d_X11_better_40 : g_dc cX11_better 40 (.putfield 449) 3 43 := ⟨by decide +kernel, rfl⟩
theorem d_X11_better_43 : g_dc cX11_better 43 (.aload_n 0) 1 44 := ⟨by decide +kernel, rfl⟩
theorem d_X11_better_44 : g_dc cX11_better 44 (.iload_n 3) 1 45 := ⟨by decide +kernel, rfl⟩
theorem d_X11_better_45 : g_dc cX11_better 45 (.putfield 452) 3 48 := ⟨by decide +kernel, rfl⟩
theorem d_X11_better_48 : g_dc cX11_better 48 (.aload_n 0) 1 49 := ⟨by decide +kernel, rfl⟩
theorem d_X11_better_49 : g_dc cX11_better 49 (.iload_n 1) 1 50 := ⟨by decide +kernel, rfl⟩
theorem d_X11_better_50 : g_dc cX11_better 50 (.putfield 455) 3 53 := ⟨by decide +kernel, rfl⟩
theorem d_X11_better_53 : g_dc cX11_better 53 (.return_) 1 54 := ⟨by decide +kernel, rfl⟩
set_option maxHeartbeats 4000000 in
set_option maxRecDepth 100000 in
theorem c1_X11_better (l : Launch) (X : gX) (ad : Nat → Nat) (F : Nat → Int32) (R : Nat → Nat → Int32) (code : Int32) (h42 : F 42 = 0) (hs : F 70 = -1) : g_Cv l X yX11_better cX11_better 4 4 0 0 [.ref (ad 0), .int code] (wM X ad F R) (fun w => w = wM X ad (upd (upd (upd F 70 0) 71 0) 72 code) R ∧ True) := by
  refine g_mv (by decide +kernel) (Nat.le_of_ble_eq_true rfl) (fun E cx hret => ?_)
  refine g_aload_n cx 0 rfl d_X11_better_0 ?_
  refine g_cViW cx [] [] (c_X11_standing l X ad F R  h42) ml_X11_407 yV_X11_standing d_X11_better_1 (by unfold g_rr; decide) (by decide) 0 rfl rfl rfl (Nat.le_of_ble_eq_true rfl) (fun r1 w2 h3 => ?_)
  obtain ⟨rfl, rfl⟩ := h3
  refine g_cSiW cx [.int 0] [] (c0_X11_bits l X _) ml_X11_410 yS_X11_bits rfl d_X11_better_4 (by unfold g_rr; decide) (by decide) rfl (Nat.le_of_ble_eq_true rfl) (fun r4 w5 h6 => ?_)
  obtain ⟨rfl, rfl⟩ := h6
  refine g_istore_n cx [(2, .int 0), (0, .ref (ad 0)), (1, .int code)] d_X11_better_7 (by decide) rfl ?_
  refine g_aload_n cx 1 rfl d_X11_better_8 ?_
  refine g_cViW cx [] [] (c_X11_inchesAll l X ad F R  h42) ml_X11_413 yV_X11_inchesAll d_X11_better_9 (by unfold g_rr; decide) (by decide) 0 rfl rfl rfl (Nat.le_of_ble_eq_true rfl) (fun r7 w8 h9 => ?_)
  obtain ⟨rfl, rfl⟩ := h9
  refine g_istore_n cx [(3, .int 0), (2, .int 0), (0, .ref (ad 0)), (1, .int code)] d_X11_better_12 (by decide) rfl ?_
  refine g_iload_n cx 1 rfl d_X11_better_13 ?_
  refine g_aload_n cx 2 rfl d_X11_better_14 ?_
  refine g_get cx cl_X11 fl_X11_449 0 (.int (F 70)) d_X11_better_15 rfl rfl ?_
  refine g_toi (-1) (hs) ?_
  refine g_icmp_lt_f cx 37 d_X11_better_18 (by decide) (by decide) ?_
  refine g_iload_n cx 1 rfl d_X11_better_21 ?_
  refine g_aload_n cx 2 rfl d_X11_better_22 ?_
  refine g_get cx cl_X11 fl_X11_449 0 (.int (F 70)) d_X11_better_23 rfl rfl ?_
  refine g_toi (-1) (hs) ?_
  refine g_icmp_ne_t cx 38 d_X11_better_26 (by decide) (by decide) ?_
  refine g_aload_n cx 2 rfl d_X11_better_38 ?_
  refine g_iload_n cx 1 rfl d_X11_better_39 ?_
  refine g_put cx cl_X11 fl_X11_449 0 (wM X ad (upd F 70 0) R) d_X11_better_40 rfl rfl rfl rfl (Nat.le_of_ble_eq_true rfl) rfl ?_
  refine g_aload_n cx 2 rfl d_X11_better_43 ?_
  refine g_iload_n cx 0 rfl d_X11_better_44 ?_
  refine g_put cx cl_X11 fl_X11_452 0 (wM X ad (upd (upd F 70 0) 71 0) R) d_X11_better_45 rfl rfl rfl rfl (Nat.le_of_ble_eq_true rfl) rfl ?_
  refine g_aload_n cx 2 rfl d_X11_better_48 ?_
  refine g_iload_n cx 3 rfl d_X11_better_49 ?_
  refine g_put cx cl_X11 fl_X11_455 0 (wM X ad (upd (upd (upd F 70 0) 71 0) 72 code) R) d_X11_better_50 rfl rfl rfl rfl (Nat.le_of_ble_eq_true rfl) rfl ?_
  exact hret d_X11_better_53 (Nat.le_of_ble_eq_true rfl) (Nat.le_of_ble_eq_true rfl) (⟨rfl, trivial⟩)
theorem d_X11_better_29 : g_dc cX11_better 29 (.iload_n 3) 1 30 := ⟨by decide +kernel, rfl⟩
theorem d_X11_better_30 : g_dc cX11_better 30 (.aload_n 0) 1 31 := ⟨by decide +kernel, rfl⟩
theorem d_X11_better_31 : g_dc cX11_better 31 (.getfield 452) 3 34 := ⟨by decide +kernel, rfl⟩
theorem d_X11_better_34 : g_dc cX11_better 34 (.if_icmp .lt 4) 3 37 := ⟨by decide +kernel, rfl⟩
theorem d_X11_better_37 : g_dc cX11_better 37 (.return_) 1 38 := ⟨by decide +kernel, rfl⟩
set_option maxHeartbeats 4000000 in
set_option maxRecDepth 100000 in
theorem c2_X11_better (l : Launch) (X : gX) (ad : Nat → Nat) (F : Nat → Int32) (R : Nat → Nat → Int32) (code : Int32) (h42 : F 42 = 0) (hs : F 70 = 0) (hi : F 71 = 0) : g_Cv l X yX11_better cX11_better 4 4 0 0 [.ref (ad 0), .int code] (wM X ad F R) (fun w => w = wM X ad F R ∧ True) := by
  refine g_mv (by decide +kernel) (Nat.le_of_ble_eq_true rfl) (fun E cx hret => ?_)
  refine g_aload_n cx 0 rfl d_X11_better_0 ?_
  refine g_cViW cx [] [] (c_X11_standing l X ad F R  h42) ml_X11_407 yV_X11_standing d_X11_better_1 (by unfold g_rr; decide) (by decide) 0 rfl rfl rfl (Nat.le_of_ble_eq_true rfl) (fun r1 w2 h3 => ?_)
  obtain ⟨rfl, rfl⟩ := h3
  refine g_cSiW cx [.int 0] [] (c0_X11_bits l X _) ml_X11_410 yS_X11_bits rfl d_X11_better_4 (by unfold g_rr; decide) (by decide) rfl (Nat.le_of_ble_eq_true rfl) (fun r4 w5 h6 => ?_)
  obtain ⟨rfl, rfl⟩ := h6
  refine g_istore_n cx [(2, .int 0), (0, .ref (ad 0)), (1, .int code)] d_X11_better_7 (by decide) rfl ?_
  refine g_aload_n cx 1 rfl d_X11_better_8 ?_
  refine g_cViW cx [] [] (c_X11_inchesAll l X ad F R  h42) ml_X11_413 yV_X11_inchesAll d_X11_better_9 (by unfold g_rr; decide) (by decide) 0 rfl rfl rfl (Nat.le_of_ble_eq_true rfl) (fun r7 w8 h9 => ?_)
  obtain ⟨rfl, rfl⟩ := h9
  refine g_istore_n cx [(3, .int 0), (2, .int 0), (0, .ref (ad 0)), (1, .int code)] d_X11_better_12 (by decide) rfl ?_
  refine g_iload_n cx 1 rfl d_X11_better_13 ?_
  refine g_aload_n cx 2 rfl d_X11_better_14 ?_
  refine g_get cx cl_X11 fl_X11_449 0 (.int (F 70)) d_X11_better_15 rfl rfl ?_
  refine g_toi 0 (hs) ?_
  refine g_icmp_lt_f cx 37 d_X11_better_18 (by decide) (by decide) ?_
  refine g_iload_n cx 1 rfl d_X11_better_21 ?_
  refine g_aload_n cx 2 rfl d_X11_better_22 ?_
  refine g_get cx cl_X11 fl_X11_449 0 (.int (F 70)) d_X11_better_23 rfl rfl ?_
  refine g_toi 0 (hs) ?_
  refine g_icmp_ne_f cx 38 d_X11_better_26 (by decide) (by decide) ?_
  refine g_iload_n cx 0 rfl d_X11_better_29 ?_
  refine g_aload_n cx 2 rfl d_X11_better_30 ?_
  refine g_get cx cl_X11 fl_X11_452 0 (.int (F 71)) d_X11_better_31 rfl rfl ?_
  refine g_toi 0 (hi) ?_
  refine g_icmp_lt_f cx 38 d_X11_better_34 (by decide) (by decide) ?_
  exact hret d_X11_better_37 (Nat.le_of_ble_eq_true rfl) (Nat.le_of_ble_eq_true rfl) (⟨rfl, trivial⟩)
theorem d_X11_best_0 : g_dc cX11_best 0 (.iload_n 1) 1 1 := ⟨by decide +kernel, rfl⟩
theorem d_X11_best_1 : g_dc cX11_best 1 (.iconst 0) 1 2 := ⟨by decide +kernel, rfl⟩
theorem d_X11_best_2 : g_dc cX11_best 2 (.iconst 4) 1 3 := ⟨by decide +kernel, rfl⟩
theorem d_X11_best_3 : g_dc cX11_best 3 (.invokestatic 165) 3 6 := ⟨by decide +kernel, rfl⟩
theorem d_X11_best_6 : g_dc cX11_best 6 (.ifCond .ne 5) 3 9 := ⟨by decide +kernel, rfl⟩
theorem d_X11_best_9 : g_dc cX11_best 9 (.iconst (-1)) 1 10 := ⟨by decide +kernel, rfl⟩
theorem d_X11_best_10 : g_dc cX11_best 10 (.ireturn) 1 11 := ⟨by decide +kernel, rfl⟩
theorem d_X11_best_11 : g_dc cX11_best 11 (.aload_n 0) 1 12 := ⟨by decide +kernel, rfl⟩
theorem d_X11_best_12 : g_dc cX11_best 12 (.invokevirtual 458) 3 15 := ⟨by decide +kernel, rfl⟩
theorem d_X11_best_15 : g_dc cX11_best 15 (.iconst 0) 1 16 := ⟨by decide +kernel, rfl⟩
theorem d_X11_best_16 : g_dc cX11_best 16 (.istore_n 2) 1 17 := ⟨by decide +kernel, rfl⟩
theorem d_X11_best_17 : g_dc cX11_best 17 (.iload_n 2) 1 18 := ⟨by decide +kernel, rfl⟩
theorem d_X11_best_18 : g_dc cX11_best 18 (.sipush 864) 3 21 := ⟨by decide +kernel, rfl⟩
theorem d_X11_best_21 : g_dc cX11_best 21 (.if_icmp .ge 98) 3 24 := ⟨by decide +kernel, rfl⟩
theorem d_X11_best_24 : g_dc cX11_best 24 (.iload_n 2) 1 25 := ⟨by decide +kernel, rfl⟩
theorem d_X11_best_25 : g_dc cX11_best 25 (.bipush 72) 2 27 := ⟨by decide +kernel, rfl⟩
theorem d_X11_best_27 : g_dc cX11_best 27 (.idiv) 1 28 := ⟨by decide +kernel, rfl⟩
theorem d_X11_best_28 : g_dc cX11_best 28 (.iconst 1) 1 29 := ⟨by decide +kernel, rfl⟩
theorem d_X11_best_29 : g_dc cX11_best 29 (.iadd) 1 30 := ⟨by decide +kernel, rfl⟩
theorem d_X11_best_30 : g_dc cX11_best 30 (.istore_n 3) 1 31 := ⟨by decide +kernel, rfl⟩
theorem d_X11_best_31 : g_dc cX11_best 31 (.iload_n 2) 1 32 := ⟨by decide +kernel, rfl⟩
theorem d_X11_best_32 : g_dc cX11_best 32 (.bipush 6) 2 34 := ⟨by decide +kernel, rfl⟩
theorem d_X11_best_34 : g_dc cX11_best 34 (.irem) 1 35 := ⟨by decide +kernel, rfl⟩
theorem d_X11_best_35 : g_dc cX11_best 35 (.iconst 1) 1 36 := ⟨by decide +kernel, rfl⟩
theorem d_X11_best_36 : g_dc cX11_best 36 (.iadd) 1 37 := ⟨by decide +kernel, rfl⟩
theorem d_X11_best_37 : g_dc cX11_best 37 (.istore 4) 2 39 := ⟨by decide +kernel, rfl⟩
theorem d_X11_best_39 : g_dc cX11_best 39 (.aload_n 0) 1 40 := ⟨by decide +kernel, rfl⟩
theorem d_X11_best_40 : g_dc cX11_best 40 (.iconst 0) 1 41 := ⟨by decide +kernel, rfl⟩
theorem d_X11_best_41 : g_dc cX11_best 41 (.putfield 309) 3 44 := ⟨by decide +kernel, rfl⟩
theorem d_X11_best_44 : g_dc cX11_best 44 (.iconst 0) 1 45 := ⟨by decide +kernel, rfl⟩
theorem d_X11_best_45 : g_dc cX11_best 45 (.istore 5) 2 47 := ⟨by decide +kernel, rfl⟩
theorem d_X11_best_47 : g_dc cX11_best 47 (.iload 5) 2 49 := ⟨by decide +kernel, rfl⟩
theorem d_X11_best_49 : g_dc cX11_best 49 (.iload 4) 2 51 := ⟨by decide +kernel, rfl⟩
theorem d_X11_best_51 : g_dc cX11_best 51 (.if_icmp .ge 27) 3 54 := ⟨by decide +kernel, rfl⟩
theorem d_X11_best_54 : g_dc cX11_best 54 (.aload_n 0) 1 55 := ⟨by decide +kernel, rfl⟩
theorem d_X11_best_55 : g_dc cX11_best 55 (.getfield 83) 3 58 := ⟨by decide +kernel, rfl⟩
theorem d_X11_best_58 : g_dc cX11_best 58 (.iload 5) 2 60 := ⟨by decide +kernel, rfl⟩
theorem d_X11_best_60 : g_dc cX11_best 60 (.iload_n 3) 1 61 := ⟨by decide +kernel, rfl⟩
theorem d_X11_best_61 : g_dc cX11_best 61 (.iastore) 1 62 := ⟨by decide +kernel, rfl⟩
theorem d_X11_best_62 : g_dc cX11_best 62 (.aload_n 0) 1 63 := ⟨by decide +kernel, rfl⟩
theorem d_X11_best_63 : g_dc cX11_best 63 (.aload_n 0) 1 64 := ⟨by decide +kernel, rfl⟩
theorem d_X11_best_64 : g_dc cX11_best 64 (.getfield 309) 3 67 := ⟨by decide +kernel, rfl⟩
theorem d_X11_best_67 : g_dc cX11_best 67 (.iconst 1) 1 68 := ⟨by decide +kernel, rfl⟩
theorem d_X11_best_68 : g_dc cX11_best 68 (.iadd) 1 69 := ⟨by decide +kernel, rfl⟩
theorem d_X11_best_69 : g_dc cX11_best 69 (.putfield 309) 3 72 := ⟨by decide +kernel, rfl⟩
theorem d_X11_best_72 : g_dc cX11_best 72 (.iinc 5 1) 3 75 := ⟨by decide +kernel, rfl⟩
theorem d_X11_best_75 : g_dc cX11_best 75 (.goto (-28)) 3 78 := ⟨by decide +kernel, rfl⟩
theorem d_X11_best_78 : g_dc cX11_best 78 (.aload_n 0) 1 79 := ⟨by decide +kernel, rfl⟩
theorem d_X11_best_79 : g_dc cX11_best 79 (.iload_n 2) 1 80 := ⟨by decide +kernel, rfl⟩
theorem d_X11_best_80 : g_dc cX11_best 80 (.bipush 6) 2 82 := ⟨by decide +kernel, rfl⟩
theorem d_X11_best_82 : g_dc cX11_best 82 (.idiv) 1 83 := ⟨by decide +kernel, rfl⟩
theorem d_X11_best_83 : g_dc cX11_best 83 (.bipush 12) 2 85 := ⟨by decide +kernel, rfl⟩
theorem d_X11_best_85 : g_dc cX11_best 85 (.irem) 1 86 := ⟨by decide +kernel, rfl⟩
theorem d_X11_best_86 : g_dc cX11_best 86 (.iconst 1) 1 87 := ⟨by decide +kernel, rfl⟩
theorem d_X11_best_87 : g_dc cX11_best 87 (.iadd) 1 88 := ⟨by decide +kernel, rfl⟩
theorem d_X11_best_88 : g_dc cX11_best 88 (.aload_n 0) 1 89 := ⟨by decide +kernel, rfl⟩
theorem d_X11_best_89 : g_dc cX11_best 89 (.getfield 159) 3 92 := ⟨by decide +kernel, rfl⟩
theorem d_X11_best_92 : g_dc cX11_best 92 (.iload_n 3) 1 93 := ⟨by decide +kernel, rfl⟩
theorem d_X11_best_93 : g_dc cX11_best 93 (.iload 4) 2 95 := ⟨by decide +kernel, rfl⟩
theorem d_X11_best_95 : g_dc cX11_best 95 (.imul) 1 96 := ⟨by decide +kernel, rfl⟩
theorem d_X11_best_96 : g_dc cX11_best 96 (.isub) 1 97 := ⟨by decide +kernel, rfl⟩
theorem d_X11_best_97 : g_dc cX11_best 97 (.invokevirtual 443) 3 100 := ⟨by decide +kernel, rfl⟩
theorem d_X11_best_100 : g_dc cX11_best 100 (.aload_n 0) 1 101 := ⟨by decide +kernel, rfl⟩
theorem d_X11_best_101 : g_dc cX11_best 101 (.invokevirtual 425) 3 104 := ⟨by decide +kernel, rfl⟩
theorem d_X11_best_104 : g_dc cX11_best 104 (.aload_n 0) 1 105 := ⟨by decide +kernel, rfl⟩
theorem d_X11_best_105 : g_dc cX11_best 105 (.invokevirtual 428) 3 108 := ⟨by decide +kernel, rfl⟩
theorem d_X11_best_108 : g_dc cX11_best 108 (.aload_n 0) 1 109 := ⟨by decide +kernel, rfl⟩
theorem d_X11_best_109 : g_dc cX11_best 109 (.iload_n 2) 1 110 := ⟨by decide +kernel, rfl⟩
theorem d_X11_best_110 : g_dc cX11_best 110 (.invokevirtual 461) 3 113 := ⟨by decide +kernel, rfl⟩
theorem d_X11_best_113 : g_dc cX11_best 113 (.iinc 2 1) 3 116 := ⟨by decide +kernel, rfl⟩
theorem d_X11_best_116 : g_dc cX11_best 116 (.goto (-99)) 3 119 := ⟨by decide +kernel, rfl⟩
theorem d_X11_best_119 : g_dc cX11_best 119 (.iload_n 1) 1 120 := ⟨by decide +kernel, rfl⟩
theorem d_X11_best_120 : g_dc cX11_best 120 (.tableswitch 70 0 3 #[32, 42, 55, 65]) 32 152 := ⟨by decide +kernel, rfl⟩
theorem d_X11_best_152 : g_dc cX11_best 152 (.aload_n 0) 1 153 := ⟨by decide +kernel, rfl⟩
theorem d_X11_best_153 : g_dc cX11_best 153 (.getfield 455) 3 156 := ⟨by decide +kernel, rfl⟩
theorem d_X11_best_156 : g_dc cX11_best 156 (.bipush 72) 2 158 := ⟨by decide +kernel, rfl⟩
theorem d_X11_best_158 : g_dc cX11_best 158 (.idiv) 1 159 := ⟨by decide +kernel, rfl⟩
theorem d_X11_best_159 : g_dc cX11_best 159 (.iconst 1) 1 160 := ⟨by decide +kernel, rfl⟩
theorem d_X11_best_160 : g_dc cX11_best 160 (.iadd) 1 161 := ⟨by decide +kernel, rfl⟩
theorem d_X11_best_161 : g_dc cX11_best 161 (.ireturn) 1 162 := ⟨by decide +kernel, rfl⟩
theorem d_X11_best_162 : g_dc cX11_best 162 (.aload_n 0) 1 163 := ⟨by decide +kernel, rfl⟩
theorem d_X11_best_163 : g_dc cX11_best 163 (.getfield 455) 3 166 := ⟨by decide +kernel, rfl⟩
theorem d_X11_best_166 : g_dc cX11_best 166 (.bipush 6) 2 168 := ⟨by decide +kernel, rfl⟩
theorem d_X11_best_168 : g_dc cX11_best 168 (.idiv) 1 169 := ⟨by decide +kernel, rfl⟩
theorem d_X11_best_169 : g_dc cX11_best 169 (.bipush 12) 2 171 := ⟨by decide +kernel, rfl⟩
theorem d_X11_best_171 : g_dc cX11_best 171 (.irem) 1 172 := ⟨by decide +kernel, rfl⟩
theorem d_X11_best_172 : g_dc cX11_best 172 (.iconst 1) 1 173 := ⟨by decide +kernel, rfl⟩
theorem d_X11_best_173 : g_dc cX11_best 173 (.iadd) 1 174 := ⟨by decide +kernel, rfl⟩
theorem d_X11_best_174 : g_dc cX11_best 174 (.ireturn) 1 175 := ⟨by decide +kernel, rfl⟩
theorem d_X11_best_175 : g_dc cX11_best 175 (.aload_n 0) 1 176 := ⟨by decide +kernel, rfl⟩
theorem d_X11_best_176 : g_dc cX11_best 176 (.getfield 455) 3 179 := ⟨by decide +kernel, rfl⟩
theorem d_X11_best_179 : g_dc cX11_best 179 (.bipush 6) 2 181 := ⟨by decide +kernel, rfl⟩
theorem d_X11_best_181 : g_dc cX11_best 181 (.irem) 1 182 := ⟨by decide +kernel, rfl⟩
theorem d_X11_best_182 : g_dc cX11_best 182 (.iconst 1) 1 183 := ⟨by decide +kernel, rfl⟩
theorem d_X11_best_183 : g_dc cX11_best 183 (.iadd) 1 184 := ⟨by decide +kernel, rfl⟩
theorem d_X11_best_184 : g_dc cX11_best 184 (.ireturn) 1 185 := ⟨by decide +kernel, rfl⟩
theorem d_X11_best_185 : g_dc cX11_best 185 (.aload_n 0) 1 186 := ⟨by decide +kernel, rfl⟩
theorem d_X11_best_186 : g_dc cX11_best 186 (.getfield 449) 3 189 := ⟨by decide +kernel, rfl⟩
theorem d_X11_best_189 : g_dc cX11_best 189 (.ireturn) 1 190 := ⟨by decide +kernel, rfl⟩
theorem d_X11_best_190 : g_dc cX11_best 190 (.aload_n 0) 1 191 := ⟨by decide +kernel, rfl⟩
theorem d_X11_best_191 : g_dc cX11_best 191 (.getfield 452) 3 194 := ⟨by decide +kernel, rfl⟩
theorem d_X11_best_194 : g_dc cX11_best 194 (.ireturn) 1 195 := ⟨by decide +kernel, rfl⟩
set_option maxHeartbeats 4000000 in
set_option maxRecDepth 100000 in
theorem c_X11_best (l : Launch) (X : gX) (ad : Nat → Nat) (what : Int32) : g_Ci l X yX11_best cX11_best 6 (some .int) 7 0 0 [.ref (ad 0), .int what] (wM X ad fM0 r0) (fun r _ => r = S_best what) := by
  refine g_mi (by decide +kernel) (Nat.le_of_ble_eq_true rfl) (fun E cx hret => ?_)
  refine g_iload_n cx 1 rfl d_X11_best_0 ?_
  refine g_iconst cx 0 (by decide) d_X11_best_1 ?_
  refine g_iconst cx 4 (by decide) d_X11_best_2 ?_
  refine g_cSiW cx [.int what, .int 0, .int 4] [] (c_X11_in l X _ what 0 4) ml_X11_165 yS_X11_in rfl d_X11_best_3 (by unfold g_rr; decide) (by decide) rfl (Nat.le_of_ble_eq_true rfl) (fun r1 w2 h3 => ?_)
  obtain ⟨rfl, rfl⟩ := h3
  refine g_if_ne cx 11 d_X11_best_6 (by decide) (fun zc6 => ?_) (fun zc6 => ?_)
  · refine g_aload_n cx 0 rfl d_X11_best_11 ?_
    refine g_cVvW cx [] [] (c_X11_forgetsBest l X ad fM0 r0) ml_X11_458 yV_X11_forgetsBest d_X11_best_12 (by unfold g_rr; decide) (by decide) 0 rfl rfl rfl (Nat.le_of_ble_eq_true rfl) (fun w5 h6 => ?_)
    obtain ⟨rfl, -⟩ := h6
    refine g_weq (wM X ad (upd (upd (upd fM0 70 (-1)) 71 0) 72 (-1)) r0) rfl ?_
    refine g_iconst cx 0 (by decide) d_X11_best_15 ?_
    refine g_istore_n cx [(2, .int 0), (0, .ref (ad 0)), (1, .int what)] d_X11_best_16 (by decide) rfl ?_
    have L17 : ∀ (N : Nat) (c : Nat) (x2 : Int32) (zF : Nat → Int32) (zR : Nat → Nat → Int32), 864 - c < N → (x2 = nI c) → (c ≤ 864) → (zF 4 = 0) → (zF 70 = -1 ∧ c = 0 ∨ B_om zF) → G X E 6 0 0 (wM X ad zF zR) [(0, .ref (ad 0)), (1, .int what), (2, .int x2)] 17 [] := by
      intro N
      induction N with
      | zero => intro c x2 zF zR hm; exact absurd hm (Nat.not_lt_zero _)
      | succ N ih17 =>
        intro c x2 zF zR hm hxc hc h4 hb
        refine g_iload_n cx 2 rfl d_X11_best_17 ?_
        refine g_sipush cx 864 (by decide) d_X11_best_18 ?_
        refine g_icmp_ge cx 119 d_X11_best_21 (by decide) (fun zc21 => ?_) (fun zc21 => ?_)
        · refine g_iload_n cx 1 rfl d_X11_best_119 ?_
          have hB : B_om zF := hb.elim (fun h => absurd h.2 (by have := g_le (c := 864) (by decide) (hxc ▸ zc21) (by omega); omega)) id
          rcases g_in04 zc6 with rfl | rfl | rfl | rfl | rfl
          · refine g_tableIn cx 152 d_X11_best_120 (by decide) (by decide) rfl (by decide) ?_
            refine g_aload_n cx 0 rfl d_X11_best_152 ?_
            refine g_get cx cl_X11 fl_X11_455 0 (.int (zF 72)) d_X11_best_153 rfl rfl ?_
            refine g_toi 0 (hB.2.2) ?_
            refine g_bipush cx 72 (by decide) d_X11_best_156 ?_
            refine g_idiv cx (by decide) d_X11_best_158 ?_
            refine g_toi 0 (by decide) ?_
            refine g_iconst cx 1 (by decide) d_X11_best_159 ?_
            refine g_iadd cx d_X11_best_160 ?_
            refine g_toi 1 (by decide) ?_
            exact hret d_X11_best_161 (Nat.le_of_ble_eq_true rfl) (Nat.le_of_ble_eq_true rfl) rfl (by show (_ : Int32) = _; decide)
          · refine g_tableIn cx 162 d_X11_best_120 (by decide) (by decide) rfl (by decide) ?_
            refine g_aload_n cx 0 rfl d_X11_best_162 ?_
            refine g_get cx cl_X11 fl_X11_455 0 (.int (zF 72)) d_X11_best_163 rfl rfl ?_
            refine g_toi 0 (hB.2.2) ?_
            refine g_bipush cx 6 (by decide) d_X11_best_166 ?_
            refine g_idiv cx (by decide) d_X11_best_168 ?_
            refine g_toi 0 (by decide) ?_
            refine g_bipush cx 12 (by decide) d_X11_best_169 ?_
            refine g_irem cx (by decide) d_X11_best_171 ?_
            refine g_toi 0 (by decide) ?_
            refine g_iconst cx 1 (by decide) d_X11_best_172 ?_
            refine g_iadd cx d_X11_best_173 ?_
            refine g_toi 1 (by decide) ?_
            exact hret d_X11_best_174 (Nat.le_of_ble_eq_true rfl) (Nat.le_of_ble_eq_true rfl) rfl (by show (_ : Int32) = _; decide)
          · refine g_tableIn cx 175 d_X11_best_120 (by decide) (by decide) rfl (by decide) ?_
            refine g_aload_n cx 0 rfl d_X11_best_175 ?_
            refine g_get cx cl_X11 fl_X11_455 0 (.int (zF 72)) d_X11_best_176 rfl rfl ?_
            refine g_toi 0 (hB.2.2) ?_
            refine g_bipush cx 6 (by decide) d_X11_best_179 ?_
            refine g_irem cx (by decide) d_X11_best_181 ?_
            refine g_toi 0 (by decide) ?_
            refine g_iconst cx 1 (by decide) d_X11_best_182 ?_
            refine g_iadd cx d_X11_best_183 ?_
            refine g_toi 1 (by decide) ?_
            exact hret d_X11_best_184 (Nat.le_of_ble_eq_true rfl) (Nat.le_of_ble_eq_true rfl) rfl (by show (_ : Int32) = _; decide)
          · refine g_tableIn cx 185 d_X11_best_120 (by decide) (by decide) rfl (by decide) ?_
            refine g_aload_n cx 0 rfl d_X11_best_185 ?_
            refine g_get cx cl_X11 fl_X11_449 0 (.int (zF 70)) d_X11_best_186 rfl rfl ?_
            refine g_toi 0 (hB.1) ?_
            exact hret d_X11_best_189 (Nat.le_of_ble_eq_true rfl) (Nat.le_of_ble_eq_true rfl) rfl (by show (_ : Int32) = _; decide)
          · refine g_tableOut cx 190 d_X11_best_120 (by decide) (by decide) ?_
            refine g_aload_n cx 0 rfl d_X11_best_190 ?_
            refine g_get cx cl_X11 fl_X11_452 0 (.int (zF 71)) d_X11_best_191 rfl rfl ?_
            refine g_toi 0 (hB.2.1) ?_
            exact hret d_X11_best_194 (Nat.le_of_ble_eq_true rfl) (Nat.le_of_ble_eq_true rfl) rfl (by show (_ : Int32) = _; decide)
        · refine g_iload_n cx 2 rfl d_X11_best_24 ?_
          refine g_bipush cx 72 (by decide) d_X11_best_25 ?_
          refine g_idiv cx (by decide) d_X11_best_27 ?_
          refine g_iconst cx 1 (by decide) d_X11_best_28 ?_
          refine g_iadd cx d_X11_best_29 ?_
          refine g_istore_n cx [(3, .int ((x2 / 72) + 1)), (0, .ref (ad 0)), (1, .int what), (2, .int x2)] d_X11_best_30 (by decide) rfl ?_
          refine g_iload_n cx 3 rfl d_X11_best_31 ?_
          refine g_bipush cx 6 (by decide) d_X11_best_32 ?_
          refine g_irem cx (by decide) d_X11_best_34 ?_
          refine g_iconst cx 1 (by decide) d_X11_best_35 ?_
          refine g_iadd cx d_X11_best_36 ?_
          refine g_istore cx [(4, .int ((x2 - x2 / 6 * 6) + 1)), (3, .int ((x2 / 72) + 1)), (0, .ref (ad 0)), (1, .int what), (2, .int x2)] d_X11_best_37 (by decide) rfl ?_
          obtain ⟨xp, hxp⟩ : ∃ z, z = (x2 / 72) + 1 := ⟨_, rfl⟩
          obtain ⟨xk, hxk0⟩ : ∃ z, z = (x2 - x2 / 6 * 6) + 1 := ⟨_, rfl⟩
          rw [← hxp, ← hxk0]
          have hxk : xk = nI (c % 6 + 1) := by rw [hxk0, hxc, show (6 : Int32) = nI 6 from rfl, pk_rem (by have := g_lt10 (n := 864) hxc (by omega) zc21; omega) (by omega) (by omega)]; exact nI_1 _
          refine g_aload_n cx 2 rfl d_X11_best_39 ?_
          refine g_iconst cx 0 (by decide) d_X11_best_40 ?_
          refine g_put cx cl_X11 fl_X11_309 0 (wM X ad (upd zF 44 0) zR) d_X11_best_41 rfl rfl rfl rfl (Nat.le_of_ble_eq_true rfl) rfl ?_
          refine g_iconst cx 0 (by decide) d_X11_best_44 ?_
          refine g_istore cx [(5, .int 0), (4, .int xk), (3, .int xp), (0, .ref (ad 0)), (1, .int what), (2, .int x2)] d_X11_best_45 (by decide) rfl ?_
          have L47 : ∀ (N : Nat) (q : Nat) (y x5 : Int32) (zS : Nat → Nat → Int32), 7 - q < N → (x5 = nI q) → (y = nI q) → (q ≤ c % 6 + 1) → G X E 6 0 0 (wM X ad (upd zF 44 y) zS) [(0, .ref (ad 0)), (1, .int what), (2, .int x2), (3, .int xp), (4, .int xk), (5, .int x5)] 47 [] := by
            intro N
            induction N with
            | zero => intro q y x5 zS hm; exact absurd hm (Nat.not_lt_zero _)
            | succ N ih47 =>
              intro q y x5 zS hm hxq hyq hq
              refine g_iload cx 5 rfl d_X11_best_47 ?_
              refine g_iload cx 4 rfl d_X11_best_49 ?_
              refine g_icmp_ge cx 78 d_X11_best_51 (by decide) (fun zc51 => ?_) (fun zc51 => ?_)
              · refine g_aload_n cx 0 rfl d_X11_best_78 ?_
                refine g_iload_n cx 2 rfl d_X11_best_79 ?_
                refine g_bipush cx 6 (by decide) d_X11_best_80 ?_
                refine g_idiv cx (by decide) d_X11_best_82 ?_
                refine g_bipush cx 12 (by decide) d_X11_best_83 ?_
                refine g_irem cx (by decide) d_X11_best_85 ?_
                refine g_iconst cx 1 (by decide) d_X11_best_86 ?_
                refine g_iadd cx d_X11_best_87 ?_
                refine g_aload_n cx 0 rfl d_X11_best_88 ?_
                refine g_get cx cl_X11 fl_X11_159 0 (.int (zF 1)) d_X11_best_89 rfl rfl ?_
                refine g_iload_n cx 3 rfl d_X11_best_92 ?_
                refine g_iload cx 4 rfl d_X11_best_93 ?_
                refine g_imul cx d_X11_best_95 ?_
                refine g_isub cx d_X11_best_96 ?_
                refine g_cVvW cx [.int (((x2 / 6) - (x2 / 6) / 12 * 12) + 1), .int ((zF 1) - (xp * xk))] [] (c_X11_laysPaces l X ad (upd zF 44 y) zS (((x2 / 6) - (x2 / 6) / 12 * 12) + 1) ((zF 1) - (xp * xk)) q hyq (by omega)) ml_X11_443 yV_X11_laysPaces d_X11_best_97 (by unfold g_rr; decide) (by decide) 0 rfl rfl rfl (Nat.le_of_ble_eq_true rfl) (fun w8 h9 => ?_)
                obtain ⟨zt10, zR11, rfl, zh12⟩ := h9
                refine g_weq (wM X ad (upd zF 44 (nI zt10)) zR11) rfl ?_
                refine g_aload_n cx 0 rfl d_X11_best_100 ?_
                refine g_cVvW cx [] [] (c_X11_laysThings l X ad (upd zF 44 (nI zt10)) zR11  ) ml_X11_425 yV_X11_laysThings d_X11_best_101 (by unfold g_rr; decide) (by decide) 0 rfl rfl rfl (Nat.le_of_ble_eq_true rfl) (fun w14 h15 => ?_)
                obtain ⟨zR16, rfl⟩ := h15
                refine g_weq (wM X ad (upd (upd (upd (upd (upd zF 42 (zF 4)) 43 (zF 2)) 44 (nI zt10)) 49 0) 51 0) zR16) rfl ?_
                refine g_aload_n cx 0 rfl d_X11_best_104 ?_
                refine g_cVvW cx [] [] (c_X11_runs l X ad (upd (upd (upd (upd (upd zF 42 (zF 4)) 43 (zF 2)) 44 (nI zt10)) 49 0) 51 0) zR16 zt10 rfl zh12 h4 (Or.inr ⟨rfl, rfl⟩)) ml_X11_428 yV_X11_runs d_X11_best_105 (by unfold g_rr; decide) (by decide) 0 rfl rfl rfl (Nat.le_of_ble_eq_true rfl) (fun w18 h19 => ?_)
                obtain ⟨zF20, zR21, rfl, zp22⟩ := h19
                rcases hb with hb | hb
                · refine g_aload_n cx 0 rfl d_X11_best_108 ?_
                  refine g_iload_n cx 2 rfl d_X11_best_109 ?_
                  refine g_cVvW cx [.int x2] [] (c1_X11_better l X ad zF20 zR21 x2 ((zp22.1 42 (by decide)).trans (h4)) ((zp22.1 70 (by decide)).trans (hb.1))) ml_X11_461 yV_X11_better d_X11_best_110 (by unfold g_rr; decide) (by decide) 0 rfl rfl rfl (Nat.le_of_ble_eq_true rfl) (fun w24 h25 => ?_)
                  obtain ⟨rfl, -⟩ := h25
                  refine g_weq (wM X ad (upd (upd (upd zF20 70 0) 71 0) 72 x2) zR21) rfl ?_
                  refine g_iinc cx (x2 + 1) [(2, .int (x2 + 1)), (0, .ref (ad 0)), (1, .int what), (3, .int xp), (4, .int xk), (5, .int x5)] 2 d_X11_best_113 rfl (rfl) (by decide) rfl ?_
                  refine g_goto cx 17 d_X11_best_116 (by decide) ?_
                  refine g_lsub [1, 2, 0] [(0, .ref (ad 0)), (1, .int what), (2, .int (x2 + 1))] rfl ?_
                  exact ih17 (c + 1) (x2 + 1) (upd (upd (upd zF20 70 0) 71 0) 72 x2) zR21 (by have := g_lt10 (n := 864) hxc (by omega) zc21; omega) (by rw [hxc]; exact nI_1 c) (by have := g_lt10 (n := 864) hxc (by omega) zc21; omega) ((zp22.1 4 (by decide)).trans (h4)) (Or.inr ⟨rfl, rfl, hxc.trans (by rw [hb.2]; rfl)⟩)
                · refine g_aload_n cx 0 rfl d_X11_best_108 ?_
                  refine g_iload_n cx 2 rfl d_X11_best_109 ?_
                  refine g_cVvW cx [.int x2] [] (c2_X11_better l X ad zF20 zR21 x2 ((zp22.1 42 (by decide)).trans (h4)) ((zp22.1 70 (by decide)).trans (hb.1)) ((zp22.1 71 (by decide)).trans (hb.2.1))) ml_X11_461 yV_X11_better d_X11_best_110 (by unfold g_rr; decide) (by decide) 0 rfl rfl rfl (Nat.le_of_ble_eq_true rfl) (fun w27 h28 => ?_)
                  obtain ⟨rfl, -⟩ := h28
                  refine g_iinc cx (x2 + 1) [(2, .int (x2 + 1)), (0, .ref (ad 0)), (1, .int what), (3, .int xp), (4, .int xk), (5, .int x5)] 2 d_X11_best_113 rfl (rfl) (by decide) rfl ?_
                  refine g_goto cx 17 d_X11_best_116 (by decide) ?_
                  refine g_lsub [1, 2, 0] [(0, .ref (ad 0)), (1, .int what), (2, .int (x2 + 1))] rfl ?_
                  exact ih17 (c + 1) (x2 + 1) zF20 zR21 (by have := g_lt10 (n := 864) hxc (by omega) zc21; omega) (by rw [hxc]; exact nI_1 c) (by have := g_lt10 (n := 864) hxc (by omega) zc21; omega) ((zp22.1 4 (by decide)).trans (h4)) (Or.inr ⟨(zp22.1 70 (by decide)).trans (hb.1), (zp22.1 71 (by decide)).trans (hb.2.1), (zp22.1 72 (by decide)).trans (hb.2.2)⟩)
              · refine g_aload_n cx 0 rfl d_X11_best_54 ?_
                refine g_get cx cl_X11 fl_X11_83 0 (.ref (ad 25)) d_X11_best_55 rfl rfl ?_
                refine g_iload cx 5 rfl d_X11_best_58 ?_
                refine g_iload_n cx 3 rfl d_X11_best_60 ?_
                refine g_iast cx 25 (wM X ad (upd zF 44 y) (g_u zS 25 (upd (zS 25) (Int32.toNatClampNeg x5) xp))) d_X11_best_61 rfl (by have := g_lt_of2 hxq hxk (by omega) (by omega) zc51; rw [hxq]; exact vp_in_nI (by omega) (by decide)) rfl ?_
                generalize (g_u zS 25 (upd (zS 25) (Int32.toNatClampNeg x5) xp)) = zR29
                refine g_aload_n cx 0 rfl d_X11_best_62 ?_
                refine g_aload_n cx 0 rfl d_X11_best_63 ?_
                refine g_get cx cl_X11 fl_X11_309 0 (.int y) d_X11_best_64 rfl rfl ?_
                refine g_iconst cx 1 (by decide) d_X11_best_67 ?_
                refine g_iadd cx d_X11_best_68 ?_
                refine g_put cx cl_X11 fl_X11_309 0 (wM X ad (upd zF 44 (y + 1)) zR29) d_X11_best_69 rfl rfl rfl rfl (Nat.le_of_ble_eq_true rfl) rfl ?_
                refine g_iinc cx (x5 + 1) [(5, .int (x5 + 1)), (0, .ref (ad 0)), (1, .int what), (2, .int x2), (3, .int xp), (4, .int xk)] 5 d_X11_best_72 rfl (rfl) (by decide) rfl ?_
                refine g_goto cx 47 d_X11_best_75 (by decide) ?_
                refine g_lsub [1, 2, 3, 4, 5, 0] [(0, .ref (ad 0)), (1, .int what), (2, .int x2), (3, .int xp), (4, .int xk), (5, .int (x5 + 1))] rfl ?_
                exact ih47 (q + 1) (y + 1) (x5 + 1) zR29 (by have := g_lt_of2 hxq hxk (by omega) (by omega) zc51; omega) (by rw [hxq]; exact nI_1 q) (by subst_vars; exact nI_1 q) (by have := g_lt_of2 hxq hxk (by omega) (by omega) zc51; omega)
          refine g_lsub [3, 4, 5, 2, 1, 0] [(0, .ref (ad 0)), (1, .int what), (2, .int x2), (3, .int xp), (4, .int xk), (5, .int 0)] rfl ?_
          exact L47 _ 0 0 0 zR (Nat.lt_succ_self _) rfl rfl (by omega)
    refine g_lsub [1, 2, 0] [(0, .ref (ad 0)), (1, .int what), (2, .int 0)] rfl ?_
    exact L17 _ 0 0 (upd (upd (upd fM0 70 (-1)) 71 0) 72 (-1)) r0 (Nat.lt_succ_self _) rfl (by omega) rfl (Or.inl ⟨rfl, rfl⟩)
  · refine g_iconst cx (-1) (by decide) d_X11_best_9 ?_
    exact hret d_X11_best_10 (Nat.le_of_ble_eq_true rfl) (Nat.le_of_ble_eq_true rfl) rfl (by simp [S_best, *])
theorem d_X11_copies_0 : g_dc cX11_copies 0 (.iconst 0) 1 1 := ⟨by decide +kernel, rfl⟩
theorem d_X11_copies_1 : g_dc cX11_copies 1 (.istore_n 2) 1 2 := ⟨by decide +kernel, rfl⟩
theorem d_X11_copies_2 : g_dc cX11_copies 2 (.iload_n 2) 1 3 := ⟨by decide +kernel, rfl⟩
theorem d_X11_copies_3 : g_dc cX11_copies 3 (.bipush 10) 2 5 := ⟨by decide +kernel, rfl⟩
theorem d_X11_copies_5 : g_dc cX11_copies 5 (.if_icmp .ge 15) 3 8 := ⟨by decide +kernel, rfl⟩
theorem d_X11_copies_8 : g_dc cX11_copies 8 (.aload_n 1) 1 9 := ⟨by decide +kernel, rfl⟩
theorem d_X11_copies_9 : g_dc cX11_copies 9 (.iload_n 2) 1 10 := ⟨by decide +kernel, rfl⟩
theorem d_X11_copies_10 : g_dc cX11_copies 10 (.aload_n 0) 1 11 := ⟨by decide +kernel, rfl⟩
theorem d_X11_copies_11 : g_dc cX11_copies 11 (.iload_n 2) 1 12 := ⟨by decide +kernel, rfl⟩
theorem d_X11_copies_12 : g_dc cX11_copies 12 (.iaload) 1 13 := ⟨by decide +kernel, rfl⟩
theorem d_X11_copies_13 : g_dc cX11_copies 13 (.iastore) 1 14 := ⟨by decide +kernel, rfl⟩
theorem d_X11_copies_14 : g_dc cX11_copies 14 (.iinc 2 1) 3 17 := ⟨by decide +kernel, rfl⟩
theorem d_X11_copies_17 : g_dc cX11_copies 17 (.goto (-15)) 3 20 := ⟨by decide +kernel, rfl⟩
theorem d_X11_copies_20 : g_dc cX11_copies 20 (.return_) 1 21 := ⟨by decide +kernel, rfl⟩
set_option maxHeartbeats 4000000 in
set_option maxRecDepth 100000 in
theorem c_X11_copies (l : Launch) (X : gX) (a0 a1 : Nat) (f g : Nat → Int32) : g_Cv l X yX11_copies cX11_copies 3 1 0 0 [.ref a0, .ref a1] [(a0, .inl (X.2.1, 10, .inl f)), (a1, .inl (X.2.1, 10, .inl g))] (fun w => ∃ g' : Nat → Int32, w = [(a0, .inl (X.2.1, 10, .inl f)), (a1, .inl (X.2.1, 10, .inl g'))]) := by
  refine g_mv (by decide +kernel) (Nat.le_of_ble_eq_true rfl) (fun E cx hret => ?_)
  refine g_iconst cx 0 (by decide) d_X11_copies_0 ?_
  refine g_istore_n cx [(2, .int 0), (0, .ref a0), (1, .ref a1)] d_X11_copies_1 (by decide) rfl ?_
  have L2 : ∀ (N : Nat) (i : Nat) (x2 : Int32) (zg : Nat → Int32), 10 - i < N → (x2 = nI i) → (i ≤ 10) → G X E 3 0 0 [(a0, .inl (X.2.1, 10, .inl f)), (a1, .inl (X.2.1, 10, .inl zg))] [(0, .ref a0), (1, .ref a1), (2, .int x2)] 2 [] := by
    intro N
    induction N with
    | zero => intro i x2 zg hm; exact absurd hm (Nat.not_lt_zero _)
    | succ N ih2 =>
      intro i x2 zg hm hx hi
      refine g_iload_n cx 2 rfl d_X11_copies_2 ?_
      refine g_bipush cx 10 (by decide) d_X11_copies_3 ?_
      refine g_icmp_ge cx 20 d_X11_copies_5 (by decide) (fun zc5 => ?_) (fun zc5 => ?_)
      · exact hret d_X11_copies_20 (Nat.le_of_ble_eq_true rfl) (Nat.le_of_ble_eq_true rfl) ⟨_, rfl⟩
      · refine g_aload_n cx 1 rfl d_X11_copies_8 ?_
        refine g_iload_n cx 2 rfl d_X11_copies_9 ?_
        refine g_aload_n cx 0 rfl d_X11_copies_10 ?_
        refine g_iload_n cx 2 rfl d_X11_copies_11 ?_
        refine g_iald cx 0 d_X11_copies_12 rfl (by rw [hx]; exact vp_in_nI (g_lt10 (n := 10) hx (by omega) zc5) (by decide)) ?_
        refine g_iast cx 1 ([(a0, .inl (X.2.1, 10, .inl f)), (a1, .inl (X.2.1, 10, .inl (upd zg (Int32.toNatClampNeg x2) (f (Int32.toNatClampNeg x2)))))]) d_X11_copies_13 rfl (by rw [hx]; exact vp_in_nI (g_lt10 (n := 10) hx (by omega) zc5) (by decide)) rfl ?_
        refine g_iinc cx (x2 + 1) [(2, .int (x2 + 1)), (0, .ref a0), (1, .ref a1)] 2 d_X11_copies_14 rfl (rfl) (by decide) rfl ?_
        refine g_goto cx 2 d_X11_copies_17 (by decide) ?_
        refine g_lsub [1, 2, 0] [(0, .ref a0), (1, .ref a1), (2, .int (x2 + 1))] rfl ?_
        exact ih2 (i + 1) (x2 + 1) (upd zg (Int32.toNatClampNeg x2) (f (Int32.toNatClampNeg x2))) (by have := g_lt10 (n := 10) hx (by omega) zc5; omega) (by rw [hx]; exact nI_1 i) (by have := g_lt10 (n := 10) hx (by omega) zc5; omega)
  refine g_lsub [1, 2, 0] [(0, .ref a0), (1, .ref a1), (2, .int 0)] rfl ?_
  exact L2 _ 0 0 g (Nat.lt_succ_self _) nI_0.symm (by omega)
theorem d_X11_keep_0 : g_dc cX11_keep 0 (.aload_n 0) 1 1 := ⟨by decide +kernel, rfl⟩
theorem d_X11_keep_1 : g_dc cX11_keep 1 (.iconst 1) 1 2 := ⟨by decide +kernel, rfl⟩
theorem d_X11_keep_2 : g_dc cX11_keep 2 (.putfield 491) 3 5 := ⟨by decide +kernel, rfl⟩
theorem d_X11_keep_5 : g_dc cX11_keep 5 (.aload_n 0) 1 6 := ⟨by decide +kernel, rfl⟩
theorem d_X11_keep_6 : g_dc cX11_keep 6 (.aload_n 0) 1 7 := ⟨by decide +kernel, rfl⟩
theorem d_X11_keep_7 : g_dc cX11_keep 7 (.getfield 155) 3 10 := ⟨by decide +kernel, rfl⟩
theorem d_X11_keep_10 : g_dc cX11_keep 10 (.putfield 494) 3 13 := ⟨by decide +kernel, rfl⟩
theorem d_X11_keep_13 : g_dc cX11_keep 13 (.aload_n 0) 1 14 := ⟨by decide +kernel, rfl⟩
theorem d_X11_keep_14 : g_dc cX11_keep 14 (.aload_n 0) 1 15 := ⟨by decide +kernel, rfl⟩
theorem d_X11_keep_15 : g_dc cX11_keep 15 (.getfield 159) 3 18 := ⟨by decide +kernel, rfl⟩
theorem d_X11_keep_18 : g_dc cX11_keep 18 (.putfield 497) 3 21 := ⟨by decide +kernel, rfl⟩
theorem d_X11_keep_21 : g_dc cX11_keep 21 (.aload_n 0) 1 22 := ⟨by decide +kernel, rfl⟩
theorem d_X11_keep_22 : g_dc cX11_keep 22 (.aload_n 0) 1 23 := ⟨by decide +kernel, rfl⟩
theorem d_X11_keep_23 : g_dc cX11_keep 23 (.getfield 169) 3 26 := ⟨by decide +kernel, rfl⟩
theorem d_X11_keep_26 : g_dc cX11_keep 26 (.putfield 500) 3 29 := ⟨by decide +kernel, rfl⟩
theorem d_X11_keep_29 : g_dc cX11_keep 29 (.aload_n 0) 1 30 := ⟨by decide +kernel, rfl⟩
theorem d_X11_keep_30 : g_dc cX11_keep 30 (.aload_n 0) 1 31 := ⟨by decide +kernel, rfl⟩
theorem d_X11_keep_31 : g_dc cX11_keep 31 (.getfield 162) 3 34 := ⟨by decide +kernel, rfl⟩
theorem d_X11_keep_34 : g_dc cX11_keep 34 (.putfield 503) 3 37 := ⟨by decide +kernel, rfl⟩
theorem d_X11_keep_37 : g_dc cX11_keep 37 (.aload_n 0) 1 38 := ⟨by decide +kernel, rfl⟩
theorem d_X11_keep_38 : g_dc cX11_keep 38 (.aload_n 0) 1 39 := ⟨by decide +kernel, rfl⟩
theorem d_X11_keep_39 : g_dc cX11_keep 39 (.getfield 172) 3 42 := ⟨by decide +kernel, rfl⟩
theorem d_X11_keep_42 : g_dc cX11_keep 42 (.putfield 506) 3 45 := ⟨by decide +kernel, rfl⟩
theorem d_X11_keep_45 : g_dc cX11_keep 45 (.aload_n 0) 1 46 := ⟨by decide +kernel, rfl⟩
theorem d_X11_keep_46 : g_dc cX11_keep 46 (.getfield 7) 3 49 := ⟨by decide +kernel, rfl⟩
theorem d_X11_keep_49 : g_dc cX11_keep 49 (.aload_n 0) 1 50 := ⟨by decide +kernel, rfl⟩
theorem d_X11_keep_50 : g_dc cX11_keep 50 (.getfield 131) 3 53 := ⟨by decide +kernel, rfl⟩
theorem d_X11_keep_53 : g_dc cX11_keep 53 (.invokestatic 509) 3 56 := ⟨by decide +kernel, rfl⟩
theorem d_X11_keep_56 : g_dc cX11_keep 56 (.aload_n 0) 1 57 := ⟨by decide +kernel, rfl⟩
theorem d_X11_keep_57 : g_dc cX11_keep 57 (.getfield 13) 3 60 := ⟨by decide +kernel, rfl⟩
theorem d_X11_keep_60 : g_dc cX11_keep 60 (.aload_n 0) 1 61 := ⟨by decide +kernel, rfl⟩
theorem d_X11_keep_61 : g_dc cX11_keep 61 (.getfield 134) 3 64 := ⟨by decide +kernel, rfl⟩
theorem d_X11_keep_64 : g_dc cX11_keep 64 (.invokestatic 509) 3 67 := ⟨by decide +kernel, rfl⟩
theorem d_X11_keep_67 : g_dc cX11_keep 67 (.aload_n 0) 1 68 := ⟨by decide +kernel, rfl⟩
theorem d_X11_keep_68 : g_dc cX11_keep 68 (.getfield 16) 3 71 := ⟨by decide +kernel, rfl⟩
theorem d_X11_keep_71 : g_dc cX11_keep 71 (.aload_n 0) 1 72 := ⟨by decide +kernel, rfl⟩
theorem d_X11_keep_72 : g_dc cX11_keep 72 (.getfield 137) 3 75 := ⟨by decide +kernel, rfl⟩
theorem d_X11_keep_75 : g_dc cX11_keep 75 (.invokestatic 509) 3 78 := ⟨by decide +kernel, rfl⟩
theorem d_X11_keep_78 : g_dc cX11_keep 78 (.aload_n 0) 1 79 := ⟨by decide +kernel, rfl⟩
theorem d_X11_keep_79 : g_dc cX11_keep 79 (.getfield 19) 3 82 := ⟨by decide +kernel, rfl⟩
theorem d_X11_keep_82 : g_dc cX11_keep 82 (.aload_n 0) 1 83 := ⟨by decide +kernel, rfl⟩
theorem d_X11_keep_83 : g_dc cX11_keep 83 (.getfield 140) 3 86 := ⟨by decide +kernel, rfl⟩
theorem d_X11_keep_86 : g_dc cX11_keep 86 (.invokestatic 509) 3 89 := ⟨by decide +kernel, rfl⟩
theorem d_X11_keep_89 : g_dc cX11_keep 89 (.aload_n 0) 1 90 := ⟨by decide +kernel, rfl⟩
theorem d_X11_keep_90 : g_dc cX11_keep 90 (.getfield 22) 3 93 := ⟨by decide +kernel, rfl⟩
theorem d_X11_keep_93 : g_dc cX11_keep 93 (.aload_n 0) 1 94 := ⟨by decide +kernel, rfl⟩
theorem d_X11_keep_94 : g_dc cX11_keep 94 (.getfield 143) 3 97 := ⟨by decide +kernel, rfl⟩
theorem d_X11_keep_97 : g_dc cX11_keep 97 (.invokestatic 509) 3 100 := ⟨by decide +kernel, rfl⟩
theorem d_X11_keep_100 : g_dc cX11_keep 100 (.aload_n 0) 1 101 := ⟨by decide +kernel, rfl⟩
theorem d_X11_keep_101 : g_dc cX11_keep 101 (.getfield 25) 3 104 := ⟨by decide +kernel, rfl⟩
theorem d_X11_keep_104 : g_dc cX11_keep 104 (.aload_n 0) 1 105 := ⟨by decide +kernel, rfl⟩
theorem d_X11_keep_105 : g_dc cX11_keep 105 (.getfield 146) 3 108 := ⟨by decide +kernel, rfl⟩
theorem d_X11_keep_108 : g_dc cX11_keep 108 (.invokestatic 509) 3 111 := ⟨by decide +kernel, rfl⟩
theorem d_X11_keep_111 : g_dc cX11_keep 111 (.aload_n 0) 1 112 := ⟨by decide +kernel, rfl⟩
theorem d_X11_keep_112 : g_dc cX11_keep 112 (.getfield 28) 3 115 := ⟨by decide +kernel, rfl⟩
theorem d_X11_keep_115 : g_dc cX11_keep 115 (.aload_n 0) 1 116 := ⟨by decide +kernel, rfl⟩
theorem d_X11_keep_116 : g_dc cX11_keep 116 (.getfield 149) 3 119 := ⟨by decide +kernel, rfl⟩
theorem d_X11_keep_119 : g_dc cX11_keep 119 (.invokestatic 509) 3 122 := ⟨by decide +kernel, rfl⟩
theorem d_X11_keep_122 : g_dc cX11_keep 122 (.aload_n 0) 1 123 := ⟨by decide +kernel, rfl⟩
theorem d_X11_keep_123 : g_dc cX11_keep 123 (.getfield 31) 3 126 := ⟨by decide +kernel, rfl⟩
theorem d_X11_keep_126 : g_dc cX11_keep 126 (.aload_n 0) 1 127 := ⟨by decide +kernel, rfl⟩
theorem d_X11_keep_127 : g_dc cX11_keep 127 (.getfield 152) 3 130 := ⟨by decide +kernel, rfl⟩
theorem d_X11_keep_130 : g_dc cX11_keep 130 (.invokestatic 509) 3 133 := ⟨by decide +kernel, rfl⟩
theorem d_X11_keep_133 : g_dc cX11_keep 133 (.aload_n 0) 1 134 := ⟨by decide +kernel, rfl⟩
theorem d_X11_keep_134 : g_dc cX11_keep 134 (.getfield 172) 3 137 := ⟨by decide +kernel, rfl⟩
theorem d_X11_keep_137 : g_dc cX11_keep 137 (.invokestatic 410) 3 140 := ⟨by decide +kernel, rfl⟩
theorem d_X11_keep_140 : g_dc cX11_keep 140 (.ireturn) 1 141 := ⟨by decide +kernel, rfl⟩
set_option maxHeartbeats 4000000 in
set_option maxRecDepth 100000 in
theorem c_X11_keep (l : Launch) (X : gX) (ad : Nat → Nat) : g_Ci l X yX11_keep cX11_keep 1 (some .int) 2 0 0 [.ref (ad 0)] (wM X ad fM0 r0) (fun r _ => r = 0) := by
  refine g_mi (by decide +kernel) (Nat.le_of_ble_eq_true rfl) (fun E cx hret => ?_)
  refine g_aload_n cx 0 rfl d_X11_keep_0 ?_
  refine g_iconst cx 1 (by decide) d_X11_keep_1 ?_
  refine g_put cx cl_X11 fl_X11_491 0 (wM X ad (upd fM0 77 1) r0) d_X11_keep_2 rfl rfl rfl rfl (Nat.le_of_ble_eq_true rfl) rfl ?_
  refine g_aload_n cx 0 rfl d_X11_keep_5 ?_
  refine g_aload_n cx 0 rfl d_X11_keep_6 ?_
  refine g_get cx cl_X11 fl_X11_155 0 (.int 100) d_X11_keep_7 rfl rfl ?_
  refine g_put cx cl_X11 fl_X11_494 0 (wM X ad (upd (upd fM0 77 1) 78 100) r0) d_X11_keep_10 rfl rfl rfl rfl (Nat.le_of_ble_eq_true rfl) rfl ?_
  refine g_aload_n cx 0 rfl d_X11_keep_13 ?_
  refine g_aload_n cx 0 rfl d_X11_keep_14 ?_
  refine g_get cx cl_X11 fl_X11_159 0 (.int 100) d_X11_keep_15 rfl rfl ?_
  refine g_put cx cl_X11 fl_X11_497 0 (wM X ad (upd (upd (upd fM0 77 1) 78 100) 79 100) r0) d_X11_keep_18 rfl rfl rfl rfl (Nat.le_of_ble_eq_true rfl) rfl ?_
  refine g_aload_n cx 0 rfl d_X11_keep_21 ?_
  refine g_aload_n cx 0 rfl d_X11_keep_22 ?_
  refine g_get cx cl_X11 fl_X11_169 0 (.int 0) d_X11_keep_23 rfl rfl ?_
  refine g_put cx cl_X11 fl_X11_500 0 (wM X ad (upd (upd (upd (upd fM0 77 1) 78 100) 79 100) 80 0) r0) d_X11_keep_26 rfl rfl rfl rfl (Nat.le_of_ble_eq_true rfl) rfl ?_
  refine g_aload_n cx 0 rfl d_X11_keep_29 ?_
  refine g_aload_n cx 0 rfl d_X11_keep_30 ?_
  refine g_get cx cl_X11 fl_X11_162 0 (.int 1) d_X11_keep_31 rfl rfl ?_
  refine g_put cx cl_X11 fl_X11_503 0 (wM X ad (upd (upd (upd (upd (upd fM0 77 1) 78 100) 79 100) 80 0) 81 1) r0) d_X11_keep_34 rfl rfl rfl rfl (Nat.le_of_ble_eq_true rfl) rfl ?_
  refine g_aload_n cx 0 rfl d_X11_keep_37 ?_
  refine g_aload_n cx 0 rfl d_X11_keep_38 ?_
  refine g_get cx cl_X11 fl_X11_172 0 (.int 0) d_X11_keep_39 rfl rfl ?_
  refine g_put cx cl_X11 fl_X11_506 0 (wM X ad (upd (upd (upd (upd (upd (upd fM0 77 1) 78 100) 79 100) 80 0) 81 1) 82 0) r0) d_X11_keep_42 rfl rfl rfl rfl (Nat.le_of_ble_eq_true rfl) rfl ?_
  refine g_aload_n cx 0 rfl d_X11_keep_45 ?_
  refine g_get cx cl_X11 fl_X11_7 0 (.ref (ad 1)) d_X11_keep_46 rfl rfl ?_
  refine g_aload_n cx 0 rfl d_X11_keep_49 ?_
  refine g_get cx cl_X11 fl_X11_131 0 (.ref (ad 41)) d_X11_keep_50 rfl rfl ?_
  refine g_cSv cx [.ref (ad 1), .ref (ad 41)] [] (c_X11_copies l X (ad 1) (ad 41) (r0 1) (r0 41)) ml_X11_509 yS_X11_copies rfl d_X11_keep_53 (by unfold g_rr; decide) (by decide) [1, 41] rfl (by decide) rfl (Nat.le_of_ble_eq_true rfl) (by rintro _ ⟨_, rfl⟩; rfl) (fun w2 h3 => ?_)
  obtain ⟨zg4, rfl⟩ := h3
  refine g_weq (wM X ad (upd (upd (upd (upd (upd (upd fM0 77 1) 78 100) 79 100) 80 0) 81 1) 82 0) (g_u r0 41 zg4)) rfl ?_
  generalize (g_u r0 41 zg4) = zR5
  refine g_aload_n cx 0 rfl d_X11_keep_56 ?_
  refine g_get cx cl_X11 fl_X11_13 0 (.ref (ad 2)) d_X11_keep_57 rfl rfl ?_
  refine g_aload_n cx 0 rfl d_X11_keep_60 ?_
  refine g_get cx cl_X11 fl_X11_134 0 (.ref (ad 42)) d_X11_keep_61 rfl rfl ?_
  refine g_cSv cx [.ref (ad 2), .ref (ad 42)] [] (c_X11_copies l X (ad 2) (ad 42) (zR5 2) (zR5 42)) ml_X11_509 yS_X11_copies rfl d_X11_keep_64 (by unfold g_rr; decide) (by decide) [2, 42] rfl (by decide) rfl (Nat.le_of_ble_eq_true rfl) (by rintro _ ⟨_, rfl⟩; rfl) (fun w7 h8 => ?_)
  obtain ⟨zg9, rfl⟩ := h8
  refine g_weq (wM X ad (upd (upd (upd (upd (upd (upd fM0 77 1) 78 100) 79 100) 80 0) 81 1) 82 0) (g_u zR5 42 zg9)) rfl ?_
  generalize (g_u zR5 42 zg9) = zR10
  refine g_aload_n cx 0 rfl d_X11_keep_67 ?_
  refine g_get cx cl_X11 fl_X11_16 0 (.ref (ad 3)) d_X11_keep_68 rfl rfl ?_
  refine g_aload_n cx 0 rfl d_X11_keep_71 ?_
  refine g_get cx cl_X11 fl_X11_137 0 (.ref (ad 43)) d_X11_keep_72 rfl rfl ?_
  refine g_cSv cx [.ref (ad 3), .ref (ad 43)] [] (c_X11_copies l X (ad 3) (ad 43) (zR10 3) (zR10 43)) ml_X11_509 yS_X11_copies rfl d_X11_keep_75 (by unfold g_rr; decide) (by decide) [3, 43] rfl (by decide) rfl (Nat.le_of_ble_eq_true rfl) (by rintro _ ⟨_, rfl⟩; rfl) (fun w12 h13 => ?_)
  obtain ⟨zg14, rfl⟩ := h13
  refine g_weq (wM X ad (upd (upd (upd (upd (upd (upd fM0 77 1) 78 100) 79 100) 80 0) 81 1) 82 0) (g_u zR10 43 zg14)) rfl ?_
  generalize (g_u zR10 43 zg14) = zR15
  refine g_aload_n cx 0 rfl d_X11_keep_78 ?_
  refine g_get cx cl_X11 fl_X11_19 0 (.ref (ad 4)) d_X11_keep_79 rfl rfl ?_
  refine g_aload_n cx 0 rfl d_X11_keep_82 ?_
  refine g_get cx cl_X11 fl_X11_140 0 (.ref (ad 44)) d_X11_keep_83 rfl rfl ?_
  refine g_cSv cx [.ref (ad 4), .ref (ad 44)] [] (c_X11_copies l X (ad 4) (ad 44) (zR15 4) (zR15 44)) ml_X11_509 yS_X11_copies rfl d_X11_keep_86 (by unfold g_rr; decide) (by decide) [4, 44] rfl (by decide) rfl (Nat.le_of_ble_eq_true rfl) (by rintro _ ⟨_, rfl⟩; rfl) (fun w17 h18 => ?_)
  obtain ⟨zg19, rfl⟩ := h18
  refine g_weq (wM X ad (upd (upd (upd (upd (upd (upd fM0 77 1) 78 100) 79 100) 80 0) 81 1) 82 0) (g_u zR15 44 zg19)) rfl ?_
  generalize (g_u zR15 44 zg19) = zR20
  refine g_aload_n cx 0 rfl d_X11_keep_89 ?_
  refine g_get cx cl_X11 fl_X11_22 0 (.ref (ad 5)) d_X11_keep_90 rfl rfl ?_
  refine g_aload_n cx 0 rfl d_X11_keep_93 ?_
  refine g_get cx cl_X11 fl_X11_143 0 (.ref (ad 45)) d_X11_keep_94 rfl rfl ?_
  refine g_cSv cx [.ref (ad 5), .ref (ad 45)] [] (c_X11_copies l X (ad 5) (ad 45) (zR20 5) (zR20 45)) ml_X11_509 yS_X11_copies rfl d_X11_keep_97 (by unfold g_rr; decide) (by decide) [5, 45] rfl (by decide) rfl (Nat.le_of_ble_eq_true rfl) (by rintro _ ⟨_, rfl⟩; rfl) (fun w22 h23 => ?_)
  obtain ⟨zg24, rfl⟩ := h23
  refine g_weq (wM X ad (upd (upd (upd (upd (upd (upd fM0 77 1) 78 100) 79 100) 80 0) 81 1) 82 0) (g_u zR20 45 zg24)) rfl ?_
  generalize (g_u zR20 45 zg24) = zR25
  refine g_aload_n cx 0 rfl d_X11_keep_100 ?_
  refine g_get cx cl_X11 fl_X11_25 0 (.ref (ad 6)) d_X11_keep_101 rfl rfl ?_
  refine g_aload_n cx 0 rfl d_X11_keep_104 ?_
  refine g_get cx cl_X11 fl_X11_146 0 (.ref (ad 46)) d_X11_keep_105 rfl rfl ?_
  refine g_cSv cx [.ref (ad 6), .ref (ad 46)] [] (c_X11_copies l X (ad 6) (ad 46) (zR25 6) (zR25 46)) ml_X11_509 yS_X11_copies rfl d_X11_keep_108 (by unfold g_rr; decide) (by decide) [6, 46] rfl (by decide) rfl (Nat.le_of_ble_eq_true rfl) (by rintro _ ⟨_, rfl⟩; rfl) (fun w27 h28 => ?_)
  obtain ⟨zg29, rfl⟩ := h28
  refine g_weq (wM X ad (upd (upd (upd (upd (upd (upd fM0 77 1) 78 100) 79 100) 80 0) 81 1) 82 0) (g_u zR25 46 zg29)) rfl ?_
  generalize (g_u zR25 46 zg29) = zR30
  refine g_aload_n cx 0 rfl d_X11_keep_111 ?_
  refine g_get cx cl_X11 fl_X11_28 0 (.ref (ad 7)) d_X11_keep_112 rfl rfl ?_
  refine g_aload_n cx 0 rfl d_X11_keep_115 ?_
  refine g_get cx cl_X11 fl_X11_149 0 (.ref (ad 47)) d_X11_keep_116 rfl rfl ?_
  refine g_cSv cx [.ref (ad 7), .ref (ad 47)] [] (c_X11_copies l X (ad 7) (ad 47) (zR30 7) (zR30 47)) ml_X11_509 yS_X11_copies rfl d_X11_keep_119 (by unfold g_rr; decide) (by decide) [7, 47] rfl (by decide) rfl (Nat.le_of_ble_eq_true rfl) (by rintro _ ⟨_, rfl⟩; rfl) (fun w32 h33 => ?_)
  obtain ⟨zg34, rfl⟩ := h33
  refine g_weq (wM X ad (upd (upd (upd (upd (upd (upd fM0 77 1) 78 100) 79 100) 80 0) 81 1) 82 0) (g_u zR30 47 zg34)) rfl ?_
  generalize (g_u zR30 47 zg34) = zR35
  refine g_aload_n cx 0 rfl d_X11_keep_122 ?_
  refine g_get cx cl_X11 fl_X11_31 0 (.ref (ad 8)) d_X11_keep_123 rfl rfl ?_
  refine g_aload_n cx 0 rfl d_X11_keep_126 ?_
  refine g_get cx cl_X11 fl_X11_152 0 (.ref (ad 48)) d_X11_keep_127 rfl rfl ?_
  refine g_cSv cx [.ref (ad 8), .ref (ad 48)] [] (c_X11_copies l X (ad 8) (ad 48) (zR35 8) (zR35 48)) ml_X11_509 yS_X11_copies rfl d_X11_keep_130 (by unfold g_rr; decide) (by decide) [8, 48] rfl (by decide) rfl (Nat.le_of_ble_eq_true rfl) (by rintro _ ⟨_, rfl⟩; rfl) (fun w37 h38 => ?_)
  obtain ⟨zg39, rfl⟩ := h38
  refine g_weq (wM X ad (upd (upd (upd (upd (upd (upd fM0 77 1) 78 100) 79 100) 80 0) 81 1) 82 0) (g_u zR35 48 zg39)) rfl ?_
  generalize (g_u zR35 48 zg39) = zR40
  refine g_aload_n cx 0 rfl d_X11_keep_133 ?_
  refine g_get cx cl_X11 fl_X11_172 0 (.int 0) d_X11_keep_134 rfl rfl ?_
  refine g_cSiW cx [.int 0] [] (c0_X11_bits l X _) ml_X11_410 yS_X11_bits rfl d_X11_keep_137 (by unfold g_rr; decide) (by decide) rfl (Nat.le_of_ble_eq_true rfl) (fun r41 w42 h43 => ?_)
  obtain ⟨rfl, rfl⟩ := h43
  exact hret d_X11_keep_140 (Nat.le_of_ble_eq_true rfl) (Nat.le_of_ble_eq_true rfl) rfl (rfl)
