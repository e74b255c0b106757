theorem e_X11_readsRow_0 : g_dc cX11_readsRow 0 (.iload_n 1) 1 1 := ⟨by decide +kernel, rfl⟩
theorem e_X11_readsRow_1 : g_dc cX11_readsRow 1 (.istore_n 2) 1 2 := ⟨by decide +kernel, rfl⟩
theorem e_X11_readsRow_2 : g_dc cX11_readsRow 2 (.iconst 0) 1 3 := ⟨by decide +kernel, rfl⟩
theorem e_X11_readsRow_3 : g_dc cX11_readsRow 3 (.istore_n 3) 1 4 := ⟨by decide +kernel, rfl⟩
theorem e_X11_readsRow_4 : g_dc cX11_readsRow 4 (.aload_n 0) 1 5 := ⟨by decide +kernel, rfl⟩
theorem e_X11_readsRow_5 : g_dc cX11_readsRow 5 (.getfield 464) 3 8 := ⟨by decide +kernel, rfl⟩
theorem e_X11_readsRow_8 : g_dc cX11_readsRow 8 (.iconst 1) 1 9 := ⟨by decide +kernel, rfl⟩
theorem e_X11_readsRow_9 : g_dc cX11_readsRow 9 (.isub) 1 10 := ⟨by decide +kernel, rfl⟩
theorem e_X11_readsRow_10 : g_dc cX11_readsRow 10 (.istore 4) 2 12 := ⟨by decide +kernel, rfl⟩
theorem e_X11_readsRow_12 : g_dc cX11_readsRow 12 (.iload 4) 2 14 := ⟨by decide +kernel, rfl⟩
theorem e_X11_readsRow_14 : g_dc cX11_readsRow 14 (.ifCond .lt 57) 3 17 := ⟨by decide +kernel, rfl⟩
theorem e_X11_readsRow_17 : g_dc cX11_readsRow 17 (.aload_n 0) 1 18 := ⟨by decide +kernel, rfl⟩
theorem e_X11_readsRow_18 : g_dc cX11_readsRow 18 (.getfield 125) 3 21 := ⟨by decide +kernel, rfl⟩
theorem e_X11_readsRow_21 : g_dc cX11_readsRow 21 (.iload 4) 2 23 := ⟨by decide +kernel, rfl⟩
theorem e_X11_readsRow_23 : g_dc cX11_readsRow 23 (.iload_n 2) 1 24 := ⟨by decide +kernel, rfl⟩
theorem e_X11_readsRow_24 : g_dc cX11_readsRow 24 (.aload_n 0) 1 25 := ⟨by decide +kernel, rfl⟩
theorem e_X11_readsRow_25 : g_dc cX11_readsRow 25 (.getfield 464) 3 28 := ⟨by decide +kernel, rfl⟩
theorem e_X11_readsRow_28 : g_dc cX11_readsRow 28 (.irem) 1 29 := ⟨by decide +kernel, rfl⟩
theorem e_X11_readsRow_29 : g_dc cX11_readsRow 29 (.iastore) 1 30 := ⟨by decide +kernel, rfl⟩
theorem e_X11_readsRow_30 : g_dc cX11_readsRow 30 (.iload_n 2) 1 31 := ⟨by decide +kernel, rfl⟩
theorem e_X11_readsRow_31 : g_dc cX11_readsRow 31 (.aload_n 0) 1 32 := ⟨by decide +kernel, rfl⟩
theorem e_X11_readsRow_32 : g_dc cX11_readsRow 32 (.getfield 464) 3 35 := ⟨by decide +kernel, rfl⟩
theorem e_X11_readsRow_35 : g_dc cX11_readsRow 35 (.idiv) 1 36 := ⟨by decide +kernel, rfl⟩
theorem e_X11_readsRow_36 : g_dc cX11_readsRow 36 (.istore_n 2) 1 37 := ⟨by decide +kernel, rfl⟩
theorem e_X11_readsRow_37 : g_dc cX11_readsRow 37 (.iload_n 3) 1 38 := ⟨by decide +kernel, rfl⟩
theorem e_X11_readsRow_38 : g_dc cX11_readsRow 38 (.aload_n 0) 1 39 := ⟨by decide +kernel, rfl⟩
theorem e_X11_readsRow_39 : g_dc cX11_readsRow 39 (.getfield 125) 3 42 := ⟨by decide +kernel, rfl⟩
theorem e_X11_readsRow_42 : g_dc cX11_readsRow 42 (.iload 4) 2 44 := ⟨by decide +kernel, rfl⟩
theorem e_X11_readsRow_44 : g_dc cX11_readsRow 44 (.iaload) 1 45 := ⟨by decide +kernel, rfl⟩
theorem e_X11_readsRow_45 : g_dc cX11_readsRow 45 (.invokestatic 175) 3 48 := ⟨by decide +kernel, rfl⟩
theorem e_X11_readsRow_48 : g_dc cX11_readsRow 48 (.ifCond .eq 5) 3 51 := ⟨by decide +kernel, rfl⟩
theorem e_X11_readsRow_51 : g_dc cX11_readsRow 51 (.iconst 0) 1 52 := ⟨by decide +kernel, rfl⟩
theorem e_X11_readsRow_52 : g_dc cX11_readsRow 52 (.ireturn) 1 53 := ⟨by decide +kernel, rfl⟩
theorem e_X11_readsRow_53 : g_dc cX11_readsRow 53 (.iload_n 3) 1 54 := ⟨by decide +kernel, rfl⟩
theorem e_X11_readsRow_54 : g_dc cX11_readsRow 54 (.iconst 1) 1 55 := ⟨by decide +kernel, rfl⟩
theorem e_X11_readsRow_55 : g_dc cX11_readsRow 55 (.aload_n 0) 1 56 := ⟨by decide +kernel, rfl⟩
theorem e_X11_readsRow_56 : g_dc cX11_readsRow 56 (.getfield 125) 3 59 := ⟨by decide +kernel, rfl⟩
theorem e_X11_readsRow_59 : g_dc cX11_readsRow 59 (.iload 4) 2 61 := ⟨by decide +kernel, rfl⟩
theorem e_X11_readsRow_61 : g_dc cX11_readsRow 61 (.iaload) 1 62 := ⟨by decide +kernel, rfl⟩
theorem e_X11_readsRow_62 : g_dc cX11_readsRow 62 (.ishl) 1 63 := ⟨by decide +kernel, rfl⟩
theorem e_X11_readsRow_63 : g_dc cX11_readsRow 63 (.ior) 1 64 := ⟨by decide +kernel, rfl⟩
theorem e_X11_readsRow_64 : g_dc cX11_readsRow 64 (.istore_n 3) 1 65 := ⟨by decide +kernel, rfl⟩
theorem e_X11_readsRow_65 : g_dc cX11_readsRow 65 (.iinc 4 (-1)) 3 68 := ⟨by decide +kernel, rfl⟩
theorem e_X11_readsRow_68 : g_dc cX11_readsRow 68 (.goto (-56)) 3 71 := ⟨by decide +kernel, rfl⟩
theorem e_X11_readsRow_71 : g_dc cX11_readsRow 71 (.iconst 1) 1 72 := ⟨by decide +kernel, rfl⟩
theorem e_X11_readsRow_72 : g_dc cX11_readsRow 72 (.ireturn) 1 73 := ⟨by decide +kernel, rfl⟩
def md_X11_readsRow : List Nat := []
def mr_X11_readsRow : List Nat := [39]
set_option maxHeartbeats 4000000 in
set_option maxRecDepth 100000 in
theorem w_X11_readsRow (l : Launch) (X : gX) (ad : Nat → Nat) (F : Nat → Int32) (R : Nat → Nat → Int32) (hI : g_ok LK_wM F) (hA : g_okR LA_wM R) (hWT : WT F R) (hWC : WC F R) (a0 : Int32) (pa0 : jv 0 3124 a0) (hp2 : jv 2 5 (F 75)) : g_Ci l X yX11_readsRow cX11_readsRow 5 (some .boolean) 2 0 0 [.ref (ad 0), .int a0] (wM X ad F R) (fun r w => ∃ (F' : Nat → Int32) (R' : Nat → Nat → Int32), w = wM X ad F' R' ∧ g_ok LK_wM F' ∧ g_okR LA_wM R' ∧ WT F' R' ∧ WC F' R' ∧ g_fr md_X11_readsRow F F' ∧ g_fr mr_X11_readsRow R R' ∧ jv 0 1 r ∧ (r = 0 → ¬ g_spec (F 75).toInt a0.toInt)) := by
  refine g_mi (by decide +kernel) (Nat.le_of_ble_eq_true rfl) (fun E cx hret => ?_)
  rcases g_spec_c (F 75) a0 with ⟨zn, rfl⟩ | ⟨zn, rfl⟩ | ⟨zn, rfl⟩ | ⟨zn, rfl⟩ | hns
  · refine g_iload_n cx 1 rfl e_X11_readsRow_0 ?_
    refine g_istore_n cx [(2, .int 1), (0, .ref (ad 0)), (1, .int 1)] e_X11_readsRow_1 (by decide) rfl ?_
    refine g_iconst cx 0 (by decide) e_X11_readsRow_2 ?_
    refine g_istore_n cx [(3, .int 0), (2, .int 1), (0, .ref (ad 0)), (1, .int 1)] e_X11_readsRow_3 (by decide) rfl ?_
    refine g_aload_n cx 2 rfl e_X11_readsRow_4 ?_
    refine g_get cx cl_X11 fl_X11_464 0 (.int (F 75)) e_X11_readsRow_5 rfl rfl ?_
    refine g_toi 2 zn ?_
    refine g_iconst cx 1 (by decide) e_X11_readsRow_8 ?_
    refine g_isub cx e_X11_readsRow_9 ?_
    refine g_toi 1 (by decide) ?_
    refine g_istore cx [(4, .int 1), (3, .int 0), (2, .int 1), (0, .ref (ad 0)), (1, .int 1)] e_X11_readsRow_10 (by decide) rfl ?_
    refine g_iload cx 0 rfl e_X11_readsRow_12 ?_
    refine g_if_lt_f cx 71 e_X11_readsRow_14 (by decide) (by decide) ?_
    refine g_aload_n cx 3 rfl e_X11_readsRow_17 ?_
    refine g_get cx cl_X11 fl_X11_125 0 (.ref (ad 39)) e_X11_readsRow_18 rfl rfl ?_
    refine g_iload cx 0 rfl e_X11_readsRow_21 ?_
    refine g_iload_n cx 2 rfl e_X11_readsRow_23 ?_
    refine g_aload_n cx 3 rfl e_X11_readsRow_24 ?_
    refine g_get cx cl_X11 fl_X11_464 0 (.int (F 75)) e_X11_readsRow_25 rfl rfl ?_
    refine g_toi 2 zn ?_
    refine g_irem cx (by decide) e_X11_readsRow_28 ?_
    refine g_toi 1 (by decide) ?_
    refine g_iast cx 39 (wM X ad F (g_u R 39 (upd (R 39) 1 1))) e_X11_readsRow_29 rfl (jv_ix 5 (jv_k (x := 1) 1 (by decide)) (by decide)) rfl ?_
    obtain ⟨R1, hR1⟩ : ∃ z, z = g_u R 39 (upd (R 39) 1 1) := ⟨_, rfl⟩
    rw [← hR1]
    have oR1 : g_okR LA_wM R1 := by rw [hR1]; exact g_okR_p hA (jv_k (x := 1) 1 (by decide)) rfl
    have fR1 : g_fr mr_X11_readsRow R R1 := by rw [hR1]; exact g_fr_r (g_fr_rf R) rfl
    have wTR1 : WT F R1 := by rw [hR1]; exact WT_r hWT rfl
    have wCR1 : WC F R1 := by rw [hR1]; exact WC_r hWC rfl
    refine g_iload_n cx 2 rfl e_X11_readsRow_30 ?_
    refine g_aload_n cx 3 rfl e_X11_readsRow_31 ?_
    refine g_get cx cl_X11 fl_X11_464 0 (.int (F 75)) e_X11_readsRow_32 rfl rfl ?_
    refine g_toi 2 zn ?_
    refine g_idiv cx (by decide) e_X11_readsRow_35 ?_
    refine g_toi 0 (by decide) ?_
    refine g_istore_n cx [(2, .int 0), (4, .int 1), (3, .int 0), (0, .ref (ad 0)), (1, .int 1)] e_X11_readsRow_36 (by decide) rfl ?_
    refine g_iload_n cx 2 rfl e_X11_readsRow_37 ?_
    refine g_aload_n cx 3 rfl e_X11_readsRow_38 ?_
    refine g_get cx cl_X11 fl_X11_125 0 (.ref (ad 39)) e_X11_readsRow_39 rfl rfl ?_
    refine g_iload cx 1 rfl e_X11_readsRow_42 ?_
    refine g_iald cx 39 e_X11_readsRow_44 rfl (jv_ix 5 (jv_k (x := 1) 1 (by decide)) (by decide)) ?_
    refine g_topi (fun x2 ex2 => ?_)
    have p3 : jv 0 4 x2 := by rw [ex2]; exact g_okR_g oR1 5 rfl (jv_cl 5 (jv_k (x := 1) 1 (by decide)) (by decide))
    refine g_toi 1 (by rw [ex2, (g_ru1 hR1)]; exact g_us) ?_
    refine g_cSiW cx [.int 0, .int 1] [] (c_X11_has l X (wM X ad F R1) 0 1) ml_X11_175 yS_X11_has rfl e_X11_readsRow_45 (by unfold g_rr; decide) (by decide) rfl (Nat.le_of_ble_eq_true rfl) (fun r4 w5 h6 => ?_)
    obtain ⟨rfl, hr4⟩ := h6
    refine g_toi 0 (by rcases hr4 with q | q; exact q.1; exact absurd q.2 (by unfold hb; decide)) ?_
    refine g_if_eq_t cx 53 e_X11_readsRow_48 (by decide) (by decide) ?_
    refine g_iload_n cx 2 rfl e_X11_readsRow_53 ?_
    refine g_iconst cx 1 (by decide) e_X11_readsRow_54 ?_
    refine g_aload_n cx 3 rfl e_X11_readsRow_55 ?_
    refine g_get cx cl_X11 fl_X11_125 0 (.ref (ad 39)) e_X11_readsRow_56 rfl rfl ?_
    refine g_iload cx 1 rfl e_X11_readsRow_59 ?_
    refine g_iald cx 39 e_X11_readsRow_61 rfl (jv_ix 5 (jv_k (x := 1) 1 (by decide)) (by decide)) ?_
    refine g_topi (fun x7 ex7 => ?_)
    have p8 : jv 0 4 x7 := by rw [ex7]; exact g_okR_g oR1 5 rfl (jv_cl 5 (jv_k (x := 1) 1 (by decide)) (by decide))
    refine g_toi 1 (by rw [ex7, (g_ru1 hR1)]; exact g_us) ?_
    refine g_ishl cx e_X11_readsRow_62 ?_
    refine g_toi 2 (by decide) ?_
    refine g_ior cx e_X11_readsRow_63 ?_
    refine g_toi 2 (by decide) ?_
    refine g_istore_n cx [(3, .int 2), (2, .int 0), (4, .int 1), (0, .ref (ad 0)), (1, .int 1)] e_X11_readsRow_64 (by decide) rfl ?_
    refine g_iinc cx 0 [(4, .int 0), (3, .int 2), (2, .int 0), (0, .ref (ad 0)), (1, .int 1)] 2 e_X11_readsRow_65 rfl (by decide) (by decide) rfl ?_
    refine g_goto cx 12 e_X11_readsRow_68 (by decide) ?_
    refine g_iload cx 0 rfl e_X11_readsRow_12 ?_
    refine g_if_lt_f cx 71 e_X11_readsRow_14 (by decide) (by decide) ?_
    refine g_aload_n cx 3 rfl e_X11_readsRow_17 ?_
    refine g_get cx cl_X11 fl_X11_125 0 (.ref (ad 39)) e_X11_readsRow_18 rfl rfl ?_
    refine g_iload cx 0 rfl e_X11_readsRow_21 ?_
    refine g_iload_n cx 2 rfl e_X11_readsRow_23 ?_
    refine g_aload_n cx 3 rfl e_X11_readsRow_24 ?_
    refine g_get cx cl_X11 fl_X11_464 0 (.int (F 75)) e_X11_readsRow_25 rfl rfl ?_
    refine g_toi 2 zn ?_
    refine g_irem cx (by decide) e_X11_readsRow_28 ?_
    refine g_toi 0 (by decide) ?_
    refine g_iast cx 39 (wM X ad F (g_u R1 39 (upd (R1 39) 0 0))) e_X11_readsRow_29 rfl (jv_ix 5 (jv_k (x := 0) 0 (by decide)) (by decide)) rfl ?_
    obtain ⟨R9, hR9⟩ : ∃ z, z = g_u R1 39 (upd (R1 39) 0 0) := ⟨_, rfl⟩
    rw [← hR9]
    have oR9 : g_okR LA_wM R9 := by rw [hR9]; exact g_okR_p oR1 (jv_k (x := 0) 0 (by decide)) rfl
    have fR9 : g_fr mr_X11_readsRow R R9 := by rw [hR9]; exact g_fr_r fR1 rfl
    have wTR9 : WT F R9 := by rw [hR9]; exact WT_r wTR1 rfl
    have wCR9 : WC F R9 := by rw [hR9]; exact WC_r wCR1 rfl
    refine g_iload_n cx 2 rfl e_X11_readsRow_30 ?_
    refine g_aload_n cx 3 rfl e_X11_readsRow_31 ?_
    refine g_get cx cl_X11 fl_X11_464 0 (.int (F 75)) e_X11_readsRow_32 rfl rfl ?_
    refine g_toi 2 zn ?_
    refine g_idiv cx (by decide) e_X11_readsRow_35 ?_
    refine g_toi 0 (by decide) ?_
    refine g_istore_n cx [(2, .int 0), (4, .int 0), (3, .int 2), (0, .ref (ad 0)), (1, .int 1)] e_X11_readsRow_36 (by decide) rfl ?_
    refine g_iload_n cx 2 rfl e_X11_readsRow_37 ?_
    refine g_aload_n cx 3 rfl e_X11_readsRow_38 ?_
    refine g_get cx cl_X11 fl_X11_125 0 (.ref (ad 39)) e_X11_readsRow_39 rfl rfl ?_
    refine g_iload cx 1 rfl e_X11_readsRow_42 ?_
    refine g_iald cx 39 e_X11_readsRow_44 rfl (jv_ix 5 (jv_k (x := 0) 0 (by decide)) (by decide)) ?_
    refine g_topi (fun x10 ex10 => ?_)
    have p11 : jv 0 4 x10 := by rw [ex10]; exact g_okR_g oR9 5 rfl (jv_cl 5 (jv_k (x := 0) 0 (by decide)) (by decide))
    refine g_toi 0 (by rw [ex10, (g_ru1 hR9)]; exact g_us) ?_
    refine g_cSiW cx [.int 2, .int 0] [] (c_X11_has l X (wM X ad F R9) 2 0) ml_X11_175 yS_X11_has rfl e_X11_readsRow_45 (by unfold g_rr; decide) (by decide) rfl (Nat.le_of_ble_eq_true rfl) (fun r12 w13 h14 => ?_)
    obtain ⟨rfl, hr12⟩ := h14
    refine g_toi 0 (by rcases hr12 with q | q; exact q.1; exact absurd q.2 (by unfold hb; decide)) ?_
    refine g_if_eq_t cx 53 e_X11_readsRow_48 (by decide) (by decide) ?_
    refine g_iload_n cx 2 rfl e_X11_readsRow_53 ?_
    refine g_iconst cx 1 (by decide) e_X11_readsRow_54 ?_
    refine g_aload_n cx 3 rfl e_X11_readsRow_55 ?_
    refine g_get cx cl_X11 fl_X11_125 0 (.ref (ad 39)) e_X11_readsRow_56 rfl rfl ?_
    refine g_iload cx 1 rfl e_X11_readsRow_59 ?_
    refine g_iald cx 39 e_X11_readsRow_61 rfl (jv_ix 5 (jv_k (x := 0) 0 (by decide)) (by decide)) ?_
    refine g_topi (fun x15 ex15 => ?_)
    have p16 : jv 0 4 x15 := by rw [ex15]; exact g_okR_g oR9 5 rfl (jv_cl 5 (jv_k (x := 0) 0 (by decide)) (by decide))
    refine g_toi 0 (by rw [ex15, (g_ru1 hR9)]; exact g_us) ?_
    refine g_ishl cx e_X11_readsRow_62 ?_
    refine g_toi 1 (by decide) ?_
    refine g_ior cx e_X11_readsRow_63 ?_
    refine g_toi 3 (by decide) ?_
    refine g_istore_n cx [(3, .int 3), (2, .int 0), (4, .int 0), (0, .ref (ad 0)), (1, .int 1)] e_X11_readsRow_64 (by decide) rfl ?_
    refine g_iinc cx (-1) [(4, .int (-1)), (3, .int 3), (2, .int 0), (0, .ref (ad 0)), (1, .int 1)] 2 e_X11_readsRow_65 rfl (by decide) (by decide) rfl ?_
    refine g_goto cx 12 e_X11_readsRow_68 (by decide) ?_
    refine g_iload cx 0 rfl e_X11_readsRow_12 ?_
    refine g_if_lt_t cx 71 e_X11_readsRow_14 (by decide) (by decide) ?_
    refine g_iconst cx 1 (by decide) e_X11_readsRow_71 ?_
    exact hret e_X11_readsRow_72 (Nat.le_of_ble_eq_true rfl) (Nat.le_of_ble_eq_true rfl) rfl ⟨F, R9, rfl, hI, oR9, wTR9, wCR9, (g_fr_rf F), fR9, (jv_w (jv_k (x := 1) 1 (by decide)) (by decide)), (fun h => absurd h (by decide))⟩
  · refine g_iload_n cx 1 rfl e_X11_readsRow_0 ?_
    refine g_istore_n cx [(2, .int 5), (0, .ref (ad 0)), (1, .int 5)] e_X11_readsRow_1 (by decide) rfl ?_
    refine g_iconst cx 0 (by decide) e_X11_readsRow_2 ?_
    refine g_istore_n cx [(3, .int 0), (2, .int 5), (0, .ref (ad 0)), (1, .int 5)] e_X11_readsRow_3 (by decide) rfl ?_
    refine g_aload_n cx 2 rfl e_X11_readsRow_4 ?_
    refine g_get cx cl_X11 fl_X11_464 0 (.int (F 75)) e_X11_readsRow_5 rfl rfl ?_
    refine g_toi 3 zn ?_
    refine g_iconst cx 1 (by decide) e_X11_readsRow_8 ?_
    refine g_isub cx e_X11_readsRow_9 ?_
    refine g_toi 2 (by decide) ?_
    refine g_istore cx [(4, .int 2), (3, .int 0), (2, .int 5), (0, .ref (ad 0)), (1, .int 5)] e_X11_readsRow_10 (by decide) rfl ?_
    refine g_iload cx 0 rfl e_X11_readsRow_12 ?_
    refine g_if_lt_f cx 71 e_X11_readsRow_14 (by decide) (by decide) ?_
    refine g_aload_n cx 3 rfl e_X11_readsRow_17 ?_
    refine g_get cx cl_X11 fl_X11_125 0 (.ref (ad 39)) e_X11_readsRow_18 rfl rfl ?_
    refine g_iload cx 0 rfl e_X11_readsRow_21 ?_
    refine g_iload_n cx 2 rfl e_X11_readsRow_23 ?_
    refine g_aload_n cx 3 rfl e_X11_readsRow_24 ?_
    refine g_get cx cl_X11 fl_X11_464 0 (.int (F 75)) e_X11_readsRow_25 rfl rfl ?_
    refine g_toi 3 zn ?_
    refine g_irem cx (by decide) e_X11_readsRow_28 ?_
    refine g_toi 2 (by decide) ?_
    refine g_iast cx 39 (wM X ad F (g_u R 39 (upd (R 39) 2 2))) e_X11_readsRow_29 rfl (jv_ix 5 (jv_k (x := 2) 2 (by decide)) (by decide)) rfl ?_
    obtain ⟨R17, hR17⟩ : ∃ z, z = g_u R 39 (upd (R 39) 2 2) := ⟨_, rfl⟩
    rw [← hR17]
    have oR17 : g_okR LA_wM R17 := by rw [hR17]; exact g_okR_p hA (jv_k (x := 2) 2 (by decide)) rfl
    have fR17 : g_fr mr_X11_readsRow R R17 := by rw [hR17]; exact g_fr_r (g_fr_rf R) rfl
    have wTR17 : WT F R17 := by rw [hR17]; exact WT_r hWT rfl
    have wCR17 : WC F R17 := by rw [hR17]; exact WC_r hWC rfl
    refine g_iload_n cx 2 rfl e_X11_readsRow_30 ?_
    refine g_aload_n cx 3 rfl e_X11_readsRow_31 ?_
    refine g_get cx cl_X11 fl_X11_464 0 (.int (F 75)) e_X11_readsRow_32 rfl rfl ?_
    refine g_toi 3 zn ?_
    refine g_idiv cx (by decide) e_X11_readsRow_35 ?_
    refine g_toi 1 (by decide) ?_
    refine g_istore_n cx [(2, .int 1), (4, .int 2), (3, .int 0), (0, .ref (ad 0)), (1, .int 5)] e_X11_readsRow_36 (by decide) rfl ?_
    refine g_iload_n cx 2 rfl e_X11_readsRow_37 ?_
    refine g_aload_n cx 3 rfl e_X11_readsRow_38 ?_
    refine g_get cx cl_X11 fl_X11_125 0 (.ref (ad 39)) e_X11_readsRow_39 rfl rfl ?_
    refine g_iload cx 1 rfl e_X11_readsRow_42 ?_
    refine g_iald cx 39 e_X11_readsRow_44 rfl (jv_ix 5 (jv_k (x := 2) 2 (by decide)) (by decide)) ?_
    refine g_topi (fun x18 ex18 => ?_)
    have p19 : jv 0 4 x18 := by rw [ex18]; exact g_okR_g oR17 5 rfl (jv_cl 5 (jv_k (x := 2) 2 (by decide)) (by decide))
    refine g_toi 2 (by rw [ex18, (g_ru1 hR17)]; exact g_us) ?_
    refine g_cSiW cx [.int 0, .int 2] [] (c_X11_has l X (wM X ad F R17) 0 2) ml_X11_175 yS_X11_has rfl e_X11_readsRow_45 (by unfold g_rr; decide) (by decide) rfl (Nat.le_of_ble_eq_true rfl) (fun r20 w21 h22 => ?_)
    obtain ⟨rfl, hr20⟩ := h22
    refine g_toi 0 (by rcases hr20 with q | q; exact q.1; exact absurd q.2 (by unfold hb; decide)) ?_
    refine g_if_eq_t cx 53 e_X11_readsRow_48 (by decide) (by decide) ?_
    refine g_iload_n cx 2 rfl e_X11_readsRow_53 ?_
    refine g_iconst cx 1 (by decide) e_X11_readsRow_54 ?_
    refine g_aload_n cx 3 rfl e_X11_readsRow_55 ?_
    refine g_get cx cl_X11 fl_X11_125 0 (.ref (ad 39)) e_X11_readsRow_56 rfl rfl ?_
    refine g_iload cx 1 rfl e_X11_readsRow_59 ?_
    refine g_iald cx 39 e_X11_readsRow_61 rfl (jv_ix 5 (jv_k (x := 2) 2 (by decide)) (by decide)) ?_
    refine g_topi (fun x23 ex23 => ?_)
    have p24 : jv 0 4 x23 := by rw [ex23]; exact g_okR_g oR17 5 rfl (jv_cl 5 (jv_k (x := 2) 2 (by decide)) (by decide))
    refine g_toi 2 (by rw [ex23, (g_ru1 hR17)]; exact g_us) ?_
    refine g_ishl cx e_X11_readsRow_62 ?_
    refine g_toi 4 (by decide) ?_
    refine g_ior cx e_X11_readsRow_63 ?_
    refine g_toi 4 (by decide) ?_
    refine g_istore_n cx [(3, .int 4), (2, .int 1), (4, .int 2), (0, .ref (ad 0)), (1, .int 5)] e_X11_readsRow_64 (by decide) rfl ?_
    refine g_iinc cx 1 [(4, .int 1), (3, .int 4), (2, .int 1), (0, .ref (ad 0)), (1, .int 5)] 2 e_X11_readsRow_65 rfl (by decide) (by decide) rfl ?_
    refine g_goto cx 12 e_X11_readsRow_68 (by decide) ?_
    refine g_iload cx 0 rfl e_X11_readsRow_12 ?_
    refine g_if_lt_f cx 71 e_X11_readsRow_14 (by decide) (by decide) ?_
    refine g_aload_n cx 3 rfl e_X11_readsRow_17 ?_
    refine g_get cx cl_X11 fl_X11_125 0 (.ref (ad 39)) e_X11_readsRow_18 rfl rfl ?_
    refine g_iload cx 0 rfl e_X11_readsRow_21 ?_
    refine g_iload_n cx 2 rfl e_X11_readsRow_23 ?_
    refine g_aload_n cx 3 rfl e_X11_readsRow_24 ?_
    refine g_get cx cl_X11 fl_X11_464 0 (.int (F 75)) e_X11_readsRow_25 rfl rfl ?_
    refine g_toi 3 zn ?_
    refine g_irem cx (by decide) e_X11_readsRow_28 ?_
    refine g_toi 1 (by decide) ?_
    refine g_iast cx 39 (wM X ad F (g_u R17 39 (upd (R17 39) 1 1))) e_X11_readsRow_29 rfl (jv_ix 5 (jv_k (x := 1) 1 (by decide)) (by decide)) rfl ?_
    obtain ⟨R25, hR25⟩ : ∃ z, z = g_u R17 39 (upd (R17 39) 1 1) := ⟨_, rfl⟩
    rw [← hR25]
    have oR25 : g_okR LA_wM R25 := by rw [hR25]; exact g_okR_p oR17 (jv_k (x := 1) 1 (by decide)) rfl
    have fR25 : g_fr mr_X11_readsRow R R25 := by rw [hR25]; exact g_fr_r fR17 rfl
    have wTR25 : WT F R25 := by rw [hR25]; exact WT_r wTR17 rfl
    have wCR25 : WC F R25 := by rw [hR25]; exact WC_r wCR17 rfl
    refine g_iload_n cx 2 rfl e_X11_readsRow_30 ?_
    refine g_aload_n cx 3 rfl e_X11_readsRow_31 ?_
    refine g_get cx cl_X11 fl_X11_464 0 (.int (F 75)) e_X11_readsRow_32 rfl rfl ?_
    refine g_toi 3 zn ?_
    refine g_idiv cx (by decide) e_X11_readsRow_35 ?_
    refine g_toi 0 (by decide) ?_
    refine g_istore_n cx [(2, .int 0), (4, .int 1), (3, .int 4), (0, .ref (ad 0)), (1, .int 5)] e_X11_readsRow_36 (by decide) rfl ?_
    refine g_iload_n cx 2 rfl e_X11_readsRow_37 ?_
    refine g_aload_n cx 3 rfl e_X11_readsRow_38 ?_
    refine g_get cx cl_X11 fl_X11_125 0 (.ref (ad 39)) e_X11_readsRow_39 rfl rfl ?_
    refine g_iload cx 1 rfl e_X11_readsRow_42 ?_
    refine g_iald cx 39 e_X11_readsRow_44 rfl (jv_ix 5 (jv_k (x := 1) 1 (by decide)) (by decide)) ?_
    refine g_topi (fun x26 ex26 => ?_)
    have p27 : jv 0 4 x26 := by rw [ex26]; exact g_okR_g oR25 5 rfl (jv_cl 5 (jv_k (x := 1) 1 (by decide)) (by decide))
    refine g_toi 1 (by rw [ex26, (g_ru1 hR25)]; exact g_us) ?_
    refine g_cSiW cx [.int 4, .int 1] [] (c_X11_has l X (wM X ad F R25) 4 1) ml_X11_175 yS_X11_has rfl e_X11_readsRow_45 (by unfold g_rr; decide) (by decide) rfl (Nat.le_of_ble_eq_true rfl) (fun r28 w29 h30 => ?_)
    obtain ⟨rfl, hr28⟩ := h30
    refine g_toi 0 (by rcases hr28 with q | q; exact q.1; exact absurd q.2 (by unfold hb; decide)) ?_
    refine g_if_eq_t cx 53 e_X11_readsRow_48 (by decide) (by decide) ?_
    refine g_iload_n cx 2 rfl e_X11_readsRow_53 ?_
    refine g_iconst cx 1 (by decide) e_X11_readsRow_54 ?_
    refine g_aload_n cx 3 rfl e_X11_readsRow_55 ?_
    refine g_get cx cl_X11 fl_X11_125 0 (.ref (ad 39)) e_X11_readsRow_56 rfl rfl ?_
    refine g_iload cx 1 rfl e_X11_readsRow_59 ?_
    refine g_iald cx 39 e_X11_readsRow_61 rfl (jv_ix 5 (jv_k (x := 1) 1 (by decide)) (by decide)) ?_
    refine g_topi (fun x31 ex31 => ?_)
    have p32 : jv 0 4 x31 := by rw [ex31]; exact g_okR_g oR25 5 rfl (jv_cl 5 (jv_k (x := 1) 1 (by decide)) (by decide))
    refine g_toi 1 (by rw [ex31, (g_ru1 hR25)]; exact g_us) ?_
    refine g_ishl cx e_X11_readsRow_62 ?_
    refine g_toi 2 (by decide) ?_
    refine g_ior cx e_X11_readsRow_63 ?_
    refine g_toi 6 (by decide) ?_
    refine g_istore_n cx [(3, .int 6), (2, .int 0), (4, .int 1), (0, .ref (ad 0)), (1, .int 5)] e_X11_readsRow_64 (by decide) rfl ?_
    refine g_iinc cx 0 [(4, .int 0), (3, .int 6), (2, .int 0), (0, .ref (ad 0)), (1, .int 5)] 2 e_X11_readsRow_65 rfl (by decide) (by decide) rfl ?_
    refine g_goto cx 12 e_X11_readsRow_68 (by decide) ?_
    refine g_iload cx 0 rfl e_X11_readsRow_12 ?_
    refine g_if_lt_f cx 71 e_X11_readsRow_14 (by decide) (by decide) ?_
    refine g_aload_n cx 3 rfl e_X11_readsRow_17 ?_
    refine g_get cx cl_X11 fl_X11_125 0 (.ref (ad 39)) e_X11_readsRow_18 rfl rfl ?_
    refine g_iload cx 0 rfl e_X11_readsRow_21 ?_
    refine g_iload_n cx 2 rfl e_X11_readsRow_23 ?_
    refine g_aload_n cx 3 rfl e_X11_readsRow_24 ?_
    refine g_get cx cl_X11 fl_X11_464 0 (.int (F 75)) e_X11_readsRow_25 rfl rfl ?_
    refine g_toi 3 zn ?_
    refine g_irem cx (by decide) e_X11_readsRow_28 ?_
    refine g_toi 0 (by decide) ?_
    refine g_iast cx 39 (wM X ad F (g_u R25 39 (upd (R25 39) 0 0))) e_X11_readsRow_29 rfl (jv_ix 5 (jv_k (x := 0) 0 (by decide)) (by decide)) rfl ?_
    obtain ⟨R33, hR33⟩ : ∃ z, z = g_u R25 39 (upd (R25 39) 0 0) := ⟨_, rfl⟩
    rw [← hR33]
    have oR33 : g_okR LA_wM R33 := by rw [hR33]; exact g_okR_p oR25 (jv_k (x := 0) 0 (by decide)) rfl
    have fR33 : g_fr mr_X11_readsRow R R33 := by rw [hR33]; exact g_fr_r fR25 rfl
    have wTR33 : WT F R33 := by rw [hR33]; exact WT_r wTR25 rfl
    have wCR33 : WC F R33 := by rw [hR33]; exact WC_r wCR25 rfl
    refine g_iload_n cx 2 rfl e_X11_readsRow_30 ?_
    refine g_aload_n cx 3 rfl e_X11_readsRow_31 ?_
    refine g_get cx cl_X11 fl_X11_464 0 (.int (F 75)) e_X11_readsRow_32 rfl rfl ?_
    refine g_toi 3 zn ?_
    refine g_idiv cx (by decide) e_X11_readsRow_35 ?_
    refine g_toi 0 (by decide) ?_
    refine g_istore_n cx [(2, .int 0), (4, .int 0), (3, .int 6), (0, .ref (ad 0)), (1, .int 5)] e_X11_readsRow_36 (by decide) rfl ?_
    refine g_iload_n cx 2 rfl e_X11_readsRow_37 ?_
    refine g_aload_n cx 3 rfl e_X11_readsRow_38 ?_
    refine g_get cx cl_X11 fl_X11_125 0 (.ref (ad 39)) e_X11_readsRow_39 rfl rfl ?_
    refine g_iload cx 1 rfl e_X11_readsRow_42 ?_
    refine g_iald cx 39 e_X11_readsRow_44 rfl (jv_ix 5 (jv_k (x := 0) 0 (by decide)) (by decide)) ?_
    refine g_topi (fun x34 ex34 => ?_)
    have p35 : jv 0 4 x34 := by rw [ex34]; exact g_okR_g oR33 5 rfl (jv_cl 5 (jv_k (x := 0) 0 (by decide)) (by decide))
    refine g_toi 0 (by rw [ex34, (g_ru1 hR33)]; exact g_us) ?_
    refine g_cSiW cx [.int 6, .int 0] [] (c_X11_has l X (wM X ad F R33) 6 0) ml_X11_175 yS_X11_has rfl e_X11_readsRow_45 (by unfold g_rr; decide) (by decide) rfl (Nat.le_of_ble_eq_true rfl) (fun r36 w37 h38 => ?_)
    obtain ⟨rfl, hr36⟩ := h38
    refine g_toi 0 (by rcases hr36 with q | q; exact q.1; exact absurd q.2 (by unfold hb; decide)) ?_
    refine g_if_eq_t cx 53 e_X11_readsRow_48 (by decide) (by decide) ?_
    refine g_iload_n cx 2 rfl e_X11_readsRow_53 ?_
    refine g_iconst cx 1 (by decide) e_X11_readsRow_54 ?_
    refine g_aload_n cx 3 rfl e_X11_readsRow_55 ?_
    refine g_get cx cl_X11 fl_X11_125 0 (.ref (ad 39)) e_X11_readsRow_56 rfl rfl ?_
    refine g_iload cx 1 rfl e_X11_readsRow_59 ?_
    refine g_iald cx 39 e_X11_readsRow_61 rfl (jv_ix 5 (jv_k (x := 0) 0 (by decide)) (by decide)) ?_
    refine g_topi (fun x39 ex39 => ?_)
    have p40 : jv 0 4 x39 := by rw [ex39]; exact g_okR_g oR33 5 rfl (jv_cl 5 (jv_k (x := 0) 0 (by decide)) (by decide))
    refine g_toi 0 (by rw [ex39, (g_ru1 hR33)]; exact g_us) ?_
    refine g_ishl cx e_X11_readsRow_62 ?_
    refine g_toi 1 (by decide) ?_
    refine g_ior cx e_X11_readsRow_63 ?_
    refine g_toi 7 (by decide) ?_
    refine g_istore_n cx [(3, .int 7), (2, .int 0), (4, .int 0), (0, .ref (ad 0)), (1, .int 5)] e_X11_readsRow_64 (by decide) rfl ?_
    refine g_iinc cx (-1) [(4, .int (-1)), (3, .int 7), (2, .int 0), (0, .ref (ad 0)), (1, .int 5)] 2 e_X11_readsRow_65 rfl (by decide) (by decide) rfl ?_
    refine g_goto cx 12 e_X11_readsRow_68 (by decide) ?_
    refine g_iload cx 0 rfl e_X11_readsRow_12 ?_
    refine g_if_lt_t cx 71 e_X11_readsRow_14 (by decide) (by decide) ?_
    refine g_iconst cx 1 (by decide) e_X11_readsRow_71 ?_
    exact hret e_X11_readsRow_72 (Nat.le_of_ble_eq_true rfl) (Nat.le_of_ble_eq_true rfl) rfl ⟨F, R33, rfl, hI, oR33, wTR33, wCR33, (g_fr_rf F), fR33, (jv_w (jv_k (x := 1) 1 (by decide)) (by decide)), (fun h => absurd h (by decide))⟩
  · refine g_iload_n cx 1 rfl e_X11_readsRow_0 ?_
    refine g_istore_n cx [(2, .int 27), (0, .ref (ad 0)), (1, .int 27)] e_X11_readsRow_1 (by decide) rfl ?_
    refine g_iconst cx 0 (by decide) e_X11_readsRow_2 ?_
    refine g_istore_n cx [(3, .int 0), (2, .int 27), (0, .ref (ad 0)), (1, .int 27)] e_X11_readsRow_3 (by decide) rfl ?_
    refine g_aload_n cx 2 rfl e_X11_readsRow_4 ?_
    refine g_get cx cl_X11 fl_X11_464 0 (.int (F 75)) e_X11_readsRow_5 rfl rfl ?_
    refine g_toi 4 zn ?_
    refine g_iconst cx 1 (by decide) e_X11_readsRow_8 ?_
    refine g_isub cx e_X11_readsRow_9 ?_
    refine g_toi 3 (by decide) ?_
    refine g_istore cx [(4, .int 3), (3, .int 0), (2, .int 27), (0, .ref (ad 0)), (1, .int 27)] e_X11_readsRow_10 (by decide) rfl ?_
    refine g_iload cx 0 rfl e_X11_readsRow_12 ?_
    refine g_if_lt_f cx 71 e_X11_readsRow_14 (by decide) (by decide) ?_
    refine g_aload_n cx 3 rfl e_X11_readsRow_17 ?_
    refine g_get cx cl_X11 fl_X11_125 0 (.ref (ad 39)) e_X11_readsRow_18 rfl rfl ?_
    refine g_iload cx 0 rfl e_X11_readsRow_21 ?_
    refine g_iload_n cx 2 rfl e_X11_readsRow_23 ?_
    refine g_aload_n cx 3 rfl e_X11_readsRow_24 ?_
    refine g_get cx cl_X11 fl_X11_464 0 (.int (F 75)) e_X11_readsRow_25 rfl rfl ?_
    refine g_toi 4 zn ?_
    refine g_irem cx (by decide) e_X11_readsRow_28 ?_
    refine g_toi 3 (by decide) ?_
    refine g_iast cx 39 (wM X ad F (g_u R 39 (upd (R 39) 3 3))) e_X11_readsRow_29 rfl (jv_ix 5 (jv_k (x := 3) 3 (by decide)) (by decide)) rfl ?_
    obtain ⟨R41, hR41⟩ : ∃ z, z = g_u R 39 (upd (R 39) 3 3) := ⟨_, rfl⟩
    rw [← hR41]
    have oR41 : g_okR LA_wM R41 := by rw [hR41]; exact g_okR_p hA (jv_k (x := 3) 3 (by decide)) rfl
    have fR41 : g_fr mr_X11_readsRow R R41 := by rw [hR41]; exact g_fr_r (g_fr_rf R) rfl
    have wTR41 : WT F R41 := by rw [hR41]; exact WT_r hWT rfl
    have wCR41 : WC F R41 := by rw [hR41]; exact WC_r hWC rfl
    refine g_iload_n cx 2 rfl e_X11_readsRow_30 ?_
    refine g_aload_n cx 3 rfl e_X11_readsRow_31 ?_
    refine g_get cx cl_X11 fl_X11_464 0 (.int (F 75)) e_X11_readsRow_32 rfl rfl ?_
    refine g_toi 4 zn ?_
    refine g_idiv cx (by decide) e_X11_readsRow_35 ?_
    refine g_toi 6 (by decide) ?_
    refine g_istore_n cx [(2, .int 6), (4, .int 3), (3, .int 0), (0, .ref (ad 0)), (1, .int 27)] e_X11_readsRow_36 (by decide) rfl ?_
    refine g_iload_n cx 2 rfl e_X11_readsRow_37 ?_
    refine g_aload_n cx 3 rfl e_X11_readsRow_38 ?_
    refine g_get cx cl_X11 fl_X11_125 0 (.ref (ad 39)) e_X11_readsRow_39 rfl rfl ?_
    refine g_iload cx 1 rfl e_X11_readsRow_42 ?_
    refine g_iald cx 39 e_X11_readsRow_44 rfl (jv_ix 5 (jv_k (x := 3) 3 (by decide)) (by decide)) ?_
    refine g_topi (fun x42 ex42 => ?_)
    have p43 : jv 0 4 x42 := by rw [ex42]; exact g_okR_g oR41 5 rfl (jv_cl 5 (jv_k (x := 3) 3 (by decide)) (by decide))
    refine g_toi 3 (by rw [ex42, (g_ru1 hR41)]; exact g_us) ?_
    refine g_cSiW cx [.int 0, .int 3] [] (c_X11_has l X (wM X ad F R41) 0 3) ml_X11_175 yS_X11_has rfl e_X11_readsRow_45 (by unfold g_rr; decide) (by decide) rfl (Nat.le_of_ble_eq_true rfl) (fun r44 w45 h46 => ?_)
    obtain ⟨rfl, hr44⟩ := h46
    refine g_toi 0 (by rcases hr44 with q | q; exact q.1; exact absurd q.2 (by unfold hb; decide)) ?_
    refine g_if_eq_t cx 53 e_X11_readsRow_48 (by decide) (by decide) ?_
    refine g_iload_n cx 2 rfl e_X11_readsRow_53 ?_
    refine g_iconst cx 1 (by decide) e_X11_readsRow_54 ?_
    refine g_aload_n cx 3 rfl e_X11_readsRow_55 ?_
    refine g_get cx cl_X11 fl_X11_125 0 (.ref (ad 39)) e_X11_readsRow_56 rfl rfl ?_
    refine g_iload cx 1 rfl e_X11_readsRow_59 ?_
    refine g_iald cx 39 e_X11_readsRow_61 rfl (jv_ix 5 (jv_k (x := 3) 3 (by decide)) (by decide)) ?_
    refine g_topi (fun x47 ex47 => ?_)
    have p48 : jv 0 4 x47 := by rw [ex47]; exact g_okR_g oR41 5 rfl (jv_cl 5 (jv_k (x := 3) 3 (by decide)) (by decide))
    refine g_toi 3 (by rw [ex47, (g_ru1 hR41)]; exact g_us) ?_
    refine g_ishl cx e_X11_readsRow_62 ?_
    refine g_toi 8 (by decide) ?_
    refine g_ior cx e_X11_readsRow_63 ?_
    refine g_toi 8 (by decide) ?_
    refine g_istore_n cx [(3, .int 8), (2, .int 6), (4, .int 3), (0, .ref (ad 0)), (1, .int 27)] e_X11_readsRow_64 (by decide) rfl ?_
    refine g_iinc cx 2 [(4, .int 2), (3, .int 8), (2, .int 6), (0, .ref (ad 0)), (1, .int 27)] 2 e_X11_readsRow_65 rfl (by decide) (by decide) rfl ?_
    refine g_goto cx 12 e_X11_readsRow_68 (by decide) ?_
    refine g_iload cx 0 rfl e_X11_readsRow_12 ?_
    refine g_if_lt_f cx 71 e_X11_readsRow_14 (by decide) (by decide) ?_
    refine g_aload_n cx 3 rfl e_X11_readsRow_17 ?_
    refine g_get cx cl_X11 fl_X11_125 0 (.ref (ad 39)) e_X11_readsRow_18 rfl rfl ?_
    refine g_iload cx 0 rfl e_X11_readsRow_21 ?_
    refine g_iload_n cx 2 rfl e_X11_readsRow_23 ?_
    refine g_aload_n cx 3 rfl e_X11_readsRow_24 ?_
    refine g_get cx cl_X11 fl_X11_464 0 (.int (F 75)) e_X11_readsRow_25 rfl rfl ?_
    refine g_toi 4 zn ?_
    refine g_irem cx (by decide) e_X11_readsRow_28 ?_
    refine g_toi 2 (by decide) ?_
    refine g_iast cx 39 (wM X ad F (g_u R41 39 (upd (R41 39) 2 2))) e_X11_readsRow_29 rfl (jv_ix 5 (jv_k (x := 2) 2 (by decide)) (by decide)) rfl ?_
    obtain ⟨R49, hR49⟩ : ∃ z, z = g_u R41 39 (upd (R41 39) 2 2) := ⟨_, rfl⟩
    rw [← hR49]
    have oR49 : g_okR LA_wM R49 := by rw [hR49]; exact g_okR_p oR41 (jv_k (x := 2) 2 (by decide)) rfl
    have fR49 : g_fr mr_X11_readsRow R R49 := by rw [hR49]; exact g_fr_r fR41 rfl
    have wTR49 : WT F R49 := by rw [hR49]; exact WT_r wTR41 rfl
    have wCR49 : WC F R49 := by rw [hR49]; exact WC_r wCR41 rfl
    refine g_iload_n cx 2 rfl e_X11_readsRow_30 ?_
    refine g_aload_n cx 3 rfl e_X11_readsRow_31 ?_
    refine g_get cx cl_X11 fl_X11_464 0 (.int (F 75)) e_X11_readsRow_32 rfl rfl ?_
    refine g_toi 4 zn ?_
    refine g_idiv cx (by decide) e_X11_readsRow_35 ?_
    refine g_toi 1 (by decide) ?_
    refine g_istore_n cx [(2, .int 1), (4, .int 2), (3, .int 8), (0, .ref (ad 0)), (1, .int 27)] e_X11_readsRow_36 (by decide) rfl ?_
    refine g_iload_n cx 2 rfl e_X11_readsRow_37 ?_
    refine g_aload_n cx 3 rfl e_X11_readsRow_38 ?_
    refine g_get cx cl_X11 fl_X11_125 0 (.ref (ad 39)) e_X11_readsRow_39 rfl rfl ?_
    refine g_iload cx 1 rfl e_X11_readsRow_42 ?_
    refine g_iald cx 39 e_X11_readsRow_44 rfl (jv_ix 5 (jv_k (x := 2) 2 (by decide)) (by decide)) ?_
    refine g_topi (fun x50 ex50 => ?_)
    have p51 : jv 0 4 x50 := by rw [ex50]; exact g_okR_g oR49 5 rfl (jv_cl 5 (jv_k (x := 2) 2 (by decide)) (by decide))
    refine g_toi 2 (by rw [ex50, (g_ru1 hR49)]; exact g_us) ?_
    refine g_cSiW cx [.int 8, .int 2] [] (c_X11_has l X (wM X ad F R49) 8 2) ml_X11_175 yS_X11_has rfl e_X11_readsRow_45 (by unfold g_rr; decide) (by decide) rfl (Nat.le_of_ble_eq_true rfl) (fun r52 w53 h54 => ?_)
    obtain ⟨rfl, hr52⟩ := h54
    refine g_toi 0 (by rcases hr52 with q | q; exact q.1; exact absurd q.2 (by unfold hb; decide)) ?_
    refine g_if_eq_t cx 53 e_X11_readsRow_48 (by decide) (by decide) ?_
    refine g_iload_n cx 2 rfl e_X11_readsRow_53 ?_
    refine g_iconst cx 1 (by decide) e_X11_readsRow_54 ?_
    refine g_aload_n cx 3 rfl e_X11_readsRow_55 ?_
    refine g_get cx cl_X11 fl_X11_125 0 (.ref (ad 39)) e_X11_readsRow_56 rfl rfl ?_
    refine g_iload cx 1 rfl e_X11_readsRow_59 ?_
    refine g_iald cx 39 e_X11_readsRow_61 rfl (jv_ix 5 (jv_k (x := 2) 2 (by decide)) (by decide)) ?_
    refine g_topi (fun x55 ex55 => ?_)
    have p56 : jv 0 4 x55 := by rw [ex55]; exact g_okR_g oR49 5 rfl (jv_cl 5 (jv_k (x := 2) 2 (by decide)) (by decide))
    refine g_toi 2 (by rw [ex55, (g_ru1 hR49)]; exact g_us) ?_
    refine g_ishl cx e_X11_readsRow_62 ?_
    refine g_toi 4 (by decide) ?_
    refine g_ior cx e_X11_readsRow_63 ?_
    refine g_toi 12 (by decide) ?_
    refine g_istore_n cx [(3, .int 12), (2, .int 1), (4, .int 2), (0, .ref (ad 0)), (1, .int 27)] e_X11_readsRow_64 (by decide) rfl ?_
    refine g_iinc cx 1 [(4, .int 1), (3, .int 12), (2, .int 1), (0, .ref (ad 0)), (1, .int 27)] 2 e_X11_readsRow_65 rfl (by decide) (by decide) rfl ?_
    refine g_goto cx 12 e_X11_readsRow_68 (by decide) ?_
    refine g_iload cx 0 rfl e_X11_readsRow_12 ?_
    refine g_if_lt_f cx 71 e_X11_readsRow_14 (by decide) (by decide) ?_
    refine g_aload_n cx 3 rfl e_X11_readsRow_17 ?_
    refine g_get cx cl_X11 fl_X11_125 0 (.ref (ad 39)) e_X11_readsRow_18 rfl rfl ?_
    refine g_iload cx 0 rfl e_X11_readsRow_21 ?_
    refine g_iload_n cx 2 rfl e_X11_readsRow_23 ?_
    refine g_aload_n cx 3 rfl e_X11_readsRow_24 ?_
    refine g_get cx cl_X11 fl_X11_464 0 (.int (F 75)) e_X11_readsRow_25 rfl rfl ?_
    refine g_toi 4 zn ?_
    refine g_irem cx (by decide) e_X11_readsRow_28 ?_
    refine g_toi 1 (by decide) ?_
    refine g_iast cx 39 (wM X ad F (g_u R49 39 (upd (R49 39) 1 1))) e_X11_readsRow_29 rfl (jv_ix 5 (jv_k (x := 1) 1 (by decide)) (by decide)) rfl ?_
    obtain ⟨R57, hR57⟩ : ∃ z, z = g_u R49 39 (upd (R49 39) 1 1) := ⟨_, rfl⟩
    rw [← hR57]
    have oR57 : g_okR LA_wM R57 := by rw [hR57]; exact g_okR_p oR49 (jv_k (x := 1) 1 (by decide)) rfl
    have fR57 : g_fr mr_X11_readsRow R R57 := by rw [hR57]; exact g_fr_r fR49 rfl
    have wTR57 : WT F R57 := by rw [hR57]; exact WT_r wTR49 rfl
    have wCR57 : WC F R57 := by rw [hR57]; exact WC_r wCR49 rfl
    refine g_iload_n cx 2 rfl e_X11_readsRow_30 ?_
    refine g_aload_n cx 3 rfl e_X11_readsRow_31 ?_
    refine g_get cx cl_X11 fl_X11_464 0 (.int (F 75)) e_X11_readsRow_32 rfl rfl ?_
    refine g_toi 4 zn ?_
    refine g_idiv cx (by decide) e_X11_readsRow_35 ?_
    refine g_toi 0 (by decide) ?_
    refine g_istore_n cx [(2, .int 0), (4, .int 1), (3, .int 12), (0, .ref (ad 0)), (1, .int 27)] e_X11_readsRow_36 (by decide) rfl ?_
    refine g_iload_n cx 2 rfl e_X11_readsRow_37 ?_
    refine g_aload_n cx 3 rfl e_X11_readsRow_38 ?_
    refine g_get cx cl_X11 fl_X11_125 0 (.ref (ad 39)) e_X11_readsRow_39 rfl rfl ?_
    refine g_iload cx 1 rfl e_X11_readsRow_42 ?_
    refine g_iald cx 39 e_X11_readsRow_44 rfl (jv_ix 5 (jv_k (x := 1) 1 (by decide)) (by decide)) ?_
    refine g_topi (fun x58 ex58 => ?_)
    have p59 : jv 0 4 x58 := by rw [ex58]; exact g_okR_g oR57 5 rfl (jv_cl 5 (jv_k (x := 1) 1 (by decide)) (by decide))
    refine g_toi 1 (by rw [ex58, (g_ru1 hR57)]; exact g_us) ?_
    refine g_cSiW cx [.int 12, .int 1] [] (c_X11_has l X (wM X ad F R57) 12 1) ml_X11_175 yS_X11_has rfl e_X11_readsRow_45 (by unfold g_rr; decide) (by decide) rfl (Nat.le_of_ble_eq_true rfl) (fun r60 w61 h62 => ?_)
    obtain ⟨rfl, hr60⟩ := h62
    refine g_toi 0 (by rcases hr60 with q | q; exact q.1; exact absurd q.2 (by unfold hb; decide)) ?_
    refine g_if_eq_t cx 53 e_X11_readsRow_48 (by decide) (by decide) ?_
    refine g_iload_n cx 2 rfl e_X11_readsRow_53 ?_
    refine g_iconst cx 1 (by decide) e_X11_readsRow_54 ?_
    refine g_aload_n cx 3 rfl e_X11_readsRow_55 ?_
    refine g_get cx cl_X11 fl_X11_125 0 (.ref (ad 39)) e_X11_readsRow_56 rfl rfl ?_
    refine g_iload cx 1 rfl e_X11_readsRow_59 ?_
    refine g_iald cx 39 e_X11_readsRow_61 rfl (jv_ix 5 (jv_k (x := 1) 1 (by decide)) (by decide)) ?_
    refine g_topi (fun x63 ex63 => ?_)
    have p64 : jv 0 4 x63 := by rw [ex63]; exact g_okR_g oR57 5 rfl (jv_cl 5 (jv_k (x := 1) 1 (by decide)) (by decide))
    refine g_toi 1 (by rw [ex63, (g_ru1 hR57)]; exact g_us) ?_
    refine g_ishl cx e_X11_readsRow_62 ?_
    refine g_toi 2 (by decide) ?_
    refine g_ior cx e_X11_readsRow_63 ?_
    refine g_toi 14 (by decide) ?_
    refine g_istore_n cx [(3, .int 14), (2, .int 0), (4, .int 1), (0, .ref (ad 0)), (1, .int 27)] e_X11_readsRow_64 (by decide) rfl ?_
    refine g_iinc cx 0 [(4, .int 0), (3, .int 14), (2, .int 0), (0, .ref (ad 0)), (1, .int 27)] 2 e_X11_readsRow_65 rfl (by decide) (by decide) rfl ?_
    refine g_goto cx 12 e_X11_readsRow_68 (by decide) ?_
    refine g_iload cx 0 rfl e_X11_readsRow_12 ?_
    refine g_if_lt_f cx 71 e_X11_readsRow_14 (by decide) (by decide) ?_
    refine g_aload_n cx 3 rfl e_X11_readsRow_17 ?_
    refine g_get cx cl_X11 fl_X11_125 0 (.ref (ad 39)) e_X11_readsRow_18 rfl rfl ?_
    refine g_iload cx 0 rfl e_X11_readsRow_21 ?_
    refine g_iload_n cx 2 rfl e_X11_readsRow_23 ?_
    refine g_aload_n cx 3 rfl e_X11_readsRow_24 ?_
    refine g_get cx cl_X11 fl_X11_464 0 (.int (F 75)) e_X11_readsRow_25 rfl rfl ?_
    refine g_toi 4 zn ?_
    refine g_irem cx (by decide) e_X11_readsRow_28 ?_
    refine g_toi 0 (by decide) ?_
    refine g_iast cx 39 (wM X ad F (g_u R57 39 (upd (R57 39) 0 0))) e_X11_readsRow_29 rfl (jv_ix 5 (jv_k (x := 0) 0 (by decide)) (by decide)) rfl ?_
    obtain ⟨R65, hR65⟩ : ∃ z, z = g_u R57 39 (upd (R57 39) 0 0) := ⟨_, rfl⟩
    rw [← hR65]
    have oR65 : g_okR LA_wM R65 := by rw [hR65]; exact g_okR_p oR57 (jv_k (x := 0) 0 (by decide)) rfl
    have fR65 : g_fr mr_X11_readsRow R R65 := by rw [hR65]; exact g_fr_r fR57 rfl
    have wTR65 : WT F R65 := by rw [hR65]; exact WT_r wTR57 rfl
    have wCR65 : WC F R65 := by rw [hR65]; exact WC_r wCR57 rfl
    refine g_iload_n cx 2 rfl e_X11_readsRow_30 ?_
    refine g_aload_n cx 3 rfl e_X11_readsRow_31 ?_
    refine g_get cx cl_X11 fl_X11_464 0 (.int (F 75)) e_X11_readsRow_32 rfl rfl ?_
    refine g_toi 4 zn ?_
    refine g_idiv cx (by decide) e_X11_readsRow_35 ?_
    refine g_toi 0 (by decide) ?_
    refine g_istore_n cx [(2, .int 0), (4, .int 0), (3, .int 14), (0, .ref (ad 0)), (1, .int 27)] e_X11_readsRow_36 (by decide) rfl ?_
    refine g_iload_n cx 2 rfl e_X11_readsRow_37 ?_
    refine g_aload_n cx 3 rfl e_X11_readsRow_38 ?_
    refine g_get cx cl_X11 fl_X11_125 0 (.ref (ad 39)) e_X11_readsRow_39 rfl rfl ?_
    refine g_iload cx 1 rfl e_X11_readsRow_42 ?_
    refine g_iald cx 39 e_X11_readsRow_44 rfl (jv_ix 5 (jv_k (x := 0) 0 (by decide)) (by decide)) ?_
    refine g_topi (fun x66 ex66 => ?_)
    have p67 : jv 0 4 x66 := by rw [ex66]; exact g_okR_g oR65 5 rfl (jv_cl 5 (jv_k (x := 0) 0 (by decide)) (by decide))
    refine g_toi 0 (by rw [ex66, (g_ru1 hR65)]; exact g_us) ?_
    refine g_cSiW cx [.int 14, .int 0] [] (c_X11_has l X (wM X ad F R65) 14 0) ml_X11_175 yS_X11_has rfl e_X11_readsRow_45 (by unfold g_rr; decide) (by decide) rfl (Nat.le_of_ble_eq_true rfl) (fun r68 w69 h70 => ?_)
    obtain ⟨rfl, hr68⟩ := h70
    refine g_toi 0 (by rcases hr68 with q | q; exact q.1; exact absurd q.2 (by unfold hb; decide)) ?_
    refine g_if_eq_t cx 53 e_X11_readsRow_48 (by decide) (by decide) ?_
    refine g_iload_n cx 2 rfl e_X11_readsRow_53 ?_
    refine g_iconst cx 1 (by decide) e_X11_readsRow_54 ?_
    refine g_aload_n cx 3 rfl e_X11_readsRow_55 ?_
    refine g_get cx cl_X11 fl_X11_125 0 (.ref (ad 39)) e_X11_readsRow_56 rfl rfl ?_
    refine g_iload cx 1 rfl e_X11_readsRow_59 ?_
    refine g_iald cx 39 e_X11_readsRow_61 rfl (jv_ix 5 (jv_k (x := 0) 0 (by decide)) (by decide)) ?_
    refine g_topi (fun x71 ex71 => ?_)
    have p72 : jv 0 4 x71 := by rw [ex71]; exact g_okR_g oR65 5 rfl (jv_cl 5 (jv_k (x := 0) 0 (by decide)) (by decide))
    refine g_toi 0 (by rw [ex71, (g_ru1 hR65)]; exact g_us) ?_
    refine g_ishl cx e_X11_readsRow_62 ?_
    refine g_toi 1 (by decide) ?_
    refine g_ior cx e_X11_readsRow_63 ?_
    refine g_toi 15 (by decide) ?_
    refine g_istore_n cx [(3, .int 15), (2, .int 0), (4, .int 0), (0, .ref (ad 0)), (1, .int 27)] e_X11_readsRow_64 (by decide) rfl ?_
    refine g_iinc cx (-1) [(4, .int (-1)), (3, .int 15), (2, .int 0), (0, .ref (ad 0)), (1, .int 27)] 2 e_X11_readsRow_65 rfl (by decide) (by decide) rfl ?_
    refine g_goto cx 12 e_X11_readsRow_68 (by decide) ?_
    refine g_iload cx 0 rfl e_X11_readsRow_12 ?_
    refine g_if_lt_t cx 71 e_X11_readsRow_14 (by decide) (by decide) ?_
    refine g_iconst cx 1 (by decide) e_X11_readsRow_71 ?_
    exact hret e_X11_readsRow_72 (Nat.le_of_ble_eq_true rfl) (Nat.le_of_ble_eq_true rfl) rfl ⟨F, R65, rfl, hI, oR65, wTR65, wCR65, (g_fr_rf F), fR65, (jv_w (jv_k (x := 1) 1 (by decide)) (by decide)), (fun h => absurd h (by decide))⟩
  · refine g_iload_n cx 1 rfl e_X11_readsRow_0 ?_
    refine g_istore_n cx [(2, .int 194), (0, .ref (ad 0)), (1, .int 194)] e_X11_readsRow_1 (by decide) rfl ?_
    refine g_iconst cx 0 (by decide) e_X11_readsRow_2 ?_
    refine g_istore_n cx [(3, .int 0), (2, .int 194), (0, .ref (ad 0)), (1, .int 194)] e_X11_readsRow_3 (by decide) rfl ?_
    refine g_aload_n cx 2 rfl e_X11_readsRow_4 ?_
    refine g_get cx cl_X11 fl_X11_464 0 (.int (F 75)) e_X11_readsRow_5 rfl rfl ?_
    refine g_toi 5 zn ?_
    refine g_iconst cx 1 (by decide) e_X11_readsRow_8 ?_
    refine g_isub cx e_X11_readsRow_9 ?_
    refine g_toi 4 (by decide) ?_
    refine g_istore cx [(4, .int 4), (3, .int 0), (2, .int 194), (0, .ref (ad 0)), (1, .int 194)] e_X11_readsRow_10 (by decide) rfl ?_
    refine g_iload cx 0 rfl e_X11_readsRow_12 ?_
    refine g_if_lt_f cx 71 e_X11_readsRow_14 (by decide) (by decide) ?_
    refine g_aload_n cx 3 rfl e_X11_readsRow_17 ?_
    refine g_get cx cl_X11 fl_X11_125 0 (.ref (ad 39)) e_X11_readsRow_18 rfl rfl ?_
    refine g_iload cx 0 rfl e_X11_readsRow_21 ?_
    refine g_iload_n cx 2 rfl e_X11_readsRow_23 ?_
    refine g_aload_n cx 3 rfl e_X11_readsRow_24 ?_
    refine g_get cx cl_X11 fl_X11_464 0 (.int (F 75)) e_X11_readsRow_25 rfl rfl ?_
    refine g_toi 5 zn ?_
    refine g_irem cx (by decide) e_X11_readsRow_28 ?_
    refine g_toi 4 (by decide) ?_
    refine g_iast cx 39 (wM X ad F (g_u R 39 (upd (R 39) 4 4))) e_X11_readsRow_29 rfl (jv_ix 5 (jv_k (x := 4) 4 (by decide)) (by decide)) rfl ?_
    obtain ⟨R73, hR73⟩ : ∃ z, z = g_u R 39 (upd (R 39) 4 4) := ⟨_, rfl⟩
    rw [← hR73]
    have oR73 : g_okR LA_wM R73 := by rw [hR73]; exact g_okR_p hA (jv_k (x := 4) 4 (by decide)) rfl
    have fR73 : g_fr mr_X11_readsRow R R73 := by rw [hR73]; exact g_fr_r (g_fr_rf R) rfl
    have wTR73 : WT F R73 := by rw [hR73]; exact WT_r hWT rfl
    have wCR73 : WC F R73 := by rw [hR73]; exact WC_r hWC rfl
    refine g_iload_n cx 2 rfl e_X11_readsRow_30 ?_
    refine g_aload_n cx 3 rfl e_X11_readsRow_31 ?_
    refine g_get cx cl_X11 fl_X11_464 0 (.int (F 75)) e_X11_readsRow_32 rfl rfl ?_
    refine g_toi 5 zn ?_
    refine g_idiv cx (by decide) e_X11_readsRow_35 ?_
    refine g_toi 38 (by decide) ?_
    refine g_istore_n cx [(2, .int 38), (4, .int 4), (3, .int 0), (0, .ref (ad 0)), (1, .int 194)] e_X11_readsRow_36 (by decide) rfl ?_
    refine g_iload_n cx 2 rfl e_X11_readsRow_37 ?_
    refine g_aload_n cx 3 rfl e_X11_readsRow_38 ?_
    refine g_get cx cl_X11 fl_X11_125 0 (.ref (ad 39)) e_X11_readsRow_39 rfl rfl ?_
    refine g_iload cx 1 rfl e_X11_readsRow_42 ?_
    refine g_iald cx 39 e_X11_readsRow_44 rfl (jv_ix 5 (jv_k (x := 4) 4 (by decide)) (by decide)) ?_
    refine g_topi (fun x74 ex74 => ?_)
    have p75 : jv 0 4 x74 := by rw [ex74]; exact g_okR_g oR73 5 rfl (jv_cl 5 (jv_k (x := 4) 4 (by decide)) (by decide))
    refine g_toi 4 (by rw [ex74, (g_ru1 hR73)]; exact g_us) ?_
    refine g_cSiW cx [.int 0, .int 4] [] (c_X11_has l X (wM X ad F R73) 0 4) ml_X11_175 yS_X11_has rfl e_X11_readsRow_45 (by unfold g_rr; decide) (by decide) rfl (Nat.le_of_ble_eq_true rfl) (fun r76 w77 h78 => ?_)
    obtain ⟨rfl, hr76⟩ := h78
    refine g_toi 0 (by rcases hr76 with q | q; exact q.1; exact absurd q.2 (by unfold hb; decide)) ?_
    refine g_if_eq_t cx 53 e_X11_readsRow_48 (by decide) (by decide) ?_
    refine g_iload_n cx 2 rfl e_X11_readsRow_53 ?_
    refine g_iconst cx 1 (by decide) e_X11_readsRow_54 ?_
    refine g_aload_n cx 3 rfl e_X11_readsRow_55 ?_
    refine g_get cx cl_X11 fl_X11_125 0 (.ref (ad 39)) e_X11_readsRow_56 rfl rfl ?_
    refine g_iload cx 1 rfl e_X11_readsRow_59 ?_
    refine g_iald cx 39 e_X11_readsRow_61 rfl (jv_ix 5 (jv_k (x := 4) 4 (by decide)) (by decide)) ?_
    refine g_topi (fun x79 ex79 => ?_)
    have p80 : jv 0 4 x79 := by rw [ex79]; exact g_okR_g oR73 5 rfl (jv_cl 5 (jv_k (x := 4) 4 (by decide)) (by decide))
    refine g_toi 4 (by rw [ex79, (g_ru1 hR73)]; exact g_us) ?_
    refine g_ishl cx e_X11_readsRow_62 ?_
    refine g_toi 16 (by decide) ?_
    refine g_ior cx e_X11_readsRow_63 ?_
    refine g_toi 16 (by decide) ?_
    refine g_istore_n cx [(3, .int 16), (2, .int 38), (4, .int 4), (0, .ref (ad 0)), (1, .int 194)] e_X11_readsRow_64 (by decide) rfl ?_
    refine g_iinc cx 3 [(4, .int 3), (3, .int 16), (2, .int 38), (0, .ref (ad 0)), (1, .int 194)] 2 e_X11_readsRow_65 rfl (by decide) (by decide) rfl ?_
    refine g_goto cx 12 e_X11_readsRow_68 (by decide) ?_
    refine g_iload cx 0 rfl e_X11_readsRow_12 ?_
    refine g_if_lt_f cx 71 e_X11_readsRow_14 (by decide) (by decide) ?_
    refine g_aload_n cx 3 rfl e_X11_readsRow_17 ?_
    refine g_get cx cl_X11 fl_X11_125 0 (.ref (ad 39)) e_X11_readsRow_18 rfl rfl ?_
    refine g_iload cx 0 rfl e_X11_readsRow_21 ?_
    refine g_iload_n cx 2 rfl e_X11_readsRow_23 ?_
    refine g_aload_n cx 3 rfl e_X11_readsRow_24 ?_
    refine g_get cx cl_X11 fl_X11_464 0 (.int (F 75)) e_X11_readsRow_25 rfl rfl ?_
    refine g_toi 5 zn ?_
    refine g_irem cx (by decide) e_X11_readsRow_28 ?_
    refine g_toi 3 (by decide) ?_
    refine g_iast cx 39 (wM X ad F (g_u R73 39 (upd (R73 39) 3 3))) e_X11_readsRow_29 rfl (jv_ix 5 (jv_k (x := 3) 3 (by decide)) (by decide)) rfl ?_
    obtain ⟨R81, hR81⟩ : ∃ z, z = g_u R73 39 (upd (R73 39) 3 3) := ⟨_, rfl⟩
    rw [← hR81]
    have oR81 : g_okR LA_wM R81 := by rw [hR81]; exact g_okR_p oR73 (jv_k (x := 3) 3 (by decide)) rfl
    have fR81 : g_fr mr_X11_readsRow R R81 := by rw [hR81]; exact g_fr_r fR73 rfl
    have wTR81 : WT F R81 := by rw [hR81]; exact WT_r wTR73 rfl
    have wCR81 : WC F R81 := by rw [hR81]; exact WC_r wCR73 rfl
    refine g_iload_n cx 2 rfl e_X11_readsRow_30 ?_
    refine g_aload_n cx 3 rfl e_X11_readsRow_31 ?_
    refine g_get cx cl_X11 fl_X11_464 0 (.int (F 75)) e_X11_readsRow_32 rfl rfl ?_
    refine g_toi 5 zn ?_
    refine g_idiv cx (by decide) e_X11_readsRow_35 ?_
    refine g_toi 7 (by decide) ?_
    refine g_istore_n cx [(2, .int 7), (4, .int 3), (3, .int 16), (0, .ref (ad 0)), (1, .int 194)] e_X11_readsRow_36 (by decide) rfl ?_
    refine g_iload_n cx 2 rfl e_X11_readsRow_37 ?_
    refine g_aload_n cx 3 rfl e_X11_readsRow_38 ?_
    refine g_get cx cl_X11 fl_X11_125 0 (.ref (ad 39)) e_X11_readsRow_39 rfl rfl ?_
    refine g_iload cx 1 rfl e_X11_readsRow_42 ?_
    refine g_iald cx 39 e_X11_readsRow_44 rfl (jv_ix 5 (jv_k (x := 3) 3 (by decide)) (by decide)) ?_
    refine g_topi (fun x82 ex82 => ?_)
    have p83 : jv 0 4 x82 := by rw [ex82]; exact g_okR_g oR81 5 rfl (jv_cl 5 (jv_k (x := 3) 3 (by decide)) (by decide))
    refine g_toi 3 (by rw [ex82, (g_ru1 hR81)]; exact g_us) ?_
    refine g_cSiW cx [.int 16, .int 3] [] (c_X11_has l X (wM X ad F R81) 16 3) ml_X11_175 yS_X11_has rfl e_X11_readsRow_45 (by unfold g_rr; decide) (by decide) rfl (Nat.le_of_ble_eq_true rfl) (fun r84 w85 h86 => ?_)
    obtain ⟨rfl, hr84⟩ := h86
    refine g_toi 0 (by rcases hr84 with q | q; exact q.1; exact absurd q.2 (by unfold hb; decide)) ?_
    refine g_if_eq_t cx 53 e_X11_readsRow_48 (by decide) (by decide) ?_
    refine g_iload_n cx 2 rfl e_X11_readsRow_53 ?_
    refine g_iconst cx 1 (by decide) e_X11_readsRow_54 ?_
    refine g_aload_n cx 3 rfl e_X11_readsRow_55 ?_
    refine g_get cx cl_X11 fl_X11_125 0 (.ref (ad 39)) e_X11_readsRow_56 rfl rfl ?_
    refine g_iload cx 1 rfl e_X11_readsRow_59 ?_
    refine g_iald cx 39 e_X11_readsRow_61 rfl (jv_ix 5 (jv_k (x := 3) 3 (by decide)) (by decide)) ?_
    refine g_topi (fun x87 ex87 => ?_)
    have p88 : jv 0 4 x87 := by rw [ex87]; exact g_okR_g oR81 5 rfl (jv_cl 5 (jv_k (x := 3) 3 (by decide)) (by decide))
    refine g_toi 3 (by rw [ex87, (g_ru1 hR81)]; exact g_us) ?_
    refine g_ishl cx e_X11_readsRow_62 ?_
    refine g_toi 8 (by decide) ?_
    refine g_ior cx e_X11_readsRow_63 ?_
    refine g_toi 24 (by decide) ?_
    refine g_istore_n cx [(3, .int 24), (2, .int 7), (4, .int 3), (0, .ref (ad 0)), (1, .int 194)] e_X11_readsRow_64 (by decide) rfl ?_
    refine g_iinc cx 2 [(4, .int 2), (3, .int 24), (2, .int 7), (0, .ref (ad 0)), (1, .int 194)] 2 e_X11_readsRow_65 rfl (by decide) (by decide) rfl ?_
    refine g_goto cx 12 e_X11_readsRow_68 (by decide) ?_
    refine g_iload cx 0 rfl e_X11_readsRow_12 ?_
    refine g_if_lt_f cx 71 e_X11_readsRow_14 (by decide) (by decide) ?_
    refine g_aload_n cx 3 rfl e_X11_readsRow_17 ?_
    refine g_get cx cl_X11 fl_X11_125 0 (.ref (ad 39)) e_X11_readsRow_18 rfl rfl ?_
    refine g_iload cx 0 rfl e_X11_readsRow_21 ?_
    refine g_iload_n cx 2 rfl e_X11_readsRow_23 ?_
    refine g_aload_n cx 3 rfl e_X11_readsRow_24 ?_
    refine g_get cx cl_X11 fl_X11_464 0 (.int (F 75)) e_X11_readsRow_25 rfl rfl ?_
    refine g_toi 5 zn ?_
    refine g_irem cx (by decide) e_X11_readsRow_28 ?_
    refine g_toi 2 (by decide) ?_
    refine g_iast cx 39 (wM X ad F (g_u R81 39 (upd (R81 39) 2 2))) e_X11_readsRow_29 rfl (jv_ix 5 (jv_k (x := 2) 2 (by decide)) (by decide)) rfl ?_
    obtain ⟨R89, hR89⟩ : ∃ z, z = g_u R81 39 (upd (R81 39) 2 2) := ⟨_, rfl⟩
    rw [← hR89]
    have oR89 : g_okR LA_wM R89 := by rw [hR89]; exact g_okR_p oR81 (jv_k (x := 2) 2 (by decide)) rfl
    have fR89 : g_fr mr_X11_readsRow R R89 := by rw [hR89]; exact g_fr_r fR81 rfl
    have wTR89 : WT F R89 := by rw [hR89]; exact WT_r wTR81 rfl
    have wCR89 : WC F R89 := by rw [hR89]; exact WC_r wCR81 rfl
    refine g_iload_n cx 2 rfl e_X11_readsRow_30 ?_
    refine g_aload_n cx 3 rfl e_X11_readsRow_31 ?_
    refine g_get cx cl_X11 fl_X11_464 0 (.int (F 75)) e_X11_readsRow_32 rfl rfl ?_
    refine g_toi 5 zn ?_
    refine g_idiv cx (by decide) e_X11_readsRow_35 ?_
    refine g_toi 1 (by decide) ?_
    refine g_istore_n cx [(2, .int 1), (4, .int 2), (3, .int 24), (0, .ref (ad 0)), (1, .int 194)] e_X11_readsRow_36 (by decide) rfl ?_
    refine g_iload_n cx 2 rfl e_X11_readsRow_37 ?_
    refine g_aload_n cx 3 rfl e_X11_readsRow_38 ?_
    refine g_get cx cl_X11 fl_X11_125 0 (.ref (ad 39)) e_X11_readsRow_39 rfl rfl ?_
    refine g_iload cx 1 rfl e_X11_readsRow_42 ?_
    refine g_iald cx 39 e_X11_readsRow_44 rfl (jv_ix 5 (jv_k (x := 2) 2 (by decide)) (by decide)) ?_
    refine g_topi (fun x90 ex90 => ?_)
    have p91 : jv 0 4 x90 := by rw [ex90]; exact g_okR_g oR89 5 rfl (jv_cl 5 (jv_k (x := 2) 2 (by decide)) (by decide))
    refine g_toi 2 (by rw [ex90, (g_ru1 hR89)]; exact g_us) ?_
    refine g_cSiW cx [.int 24, .int 2] [] (c_X11_has l X (wM X ad F R89) 24 2) ml_X11_175 yS_X11_has rfl e_X11_readsRow_45 (by unfold g_rr; decide) (by decide) rfl (Nat.le_of_ble_eq_true rfl) (fun r92 w93 h94 => ?_)
    obtain ⟨rfl, hr92⟩ := h94
    refine g_toi 0 (by rcases hr92 with q | q; exact q.1; exact absurd q.2 (by unfold hb; decide)) ?_
    refine g_if_eq_t cx 53 e_X11_readsRow_48 (by decide) (by decide) ?_
    refine g_iload_n cx 2 rfl e_X11_readsRow_53 ?_
    refine g_iconst cx 1 (by decide) e_X11_readsRow_54 ?_
    refine g_aload_n cx 3 rfl e_X11_readsRow_55 ?_
    refine g_get cx cl_X11 fl_X11_125 0 (.ref (ad 39)) e_X11_readsRow_56 rfl rfl ?_
    refine g_iload cx 1 rfl e_X11_readsRow_59 ?_
    refine g_iald cx 39 e_X11_readsRow_61 rfl (jv_ix 5 (jv_k (x := 2) 2 (by decide)) (by decide)) ?_
    refine g_topi (fun x95 ex95 => ?_)
    have p96 : jv 0 4 x95 := by rw [ex95]; exact g_okR_g oR89 5 rfl (jv_cl 5 (jv_k (x := 2) 2 (by decide)) (by decide))
    refine g_toi 2 (by rw [ex95, (g_ru1 hR89)]; exact g_us) ?_
    refine g_ishl cx e_X11_readsRow_62 ?_
    refine g_toi 4 (by decide) ?_
    refine g_ior cx e_X11_readsRow_63 ?_
    refine g_toi 28 (by decide) ?_
    refine g_istore_n cx [(3, .int 28), (2, .int 1), (4, .int 2), (0, .ref (ad 0)), (1, .int 194)] e_X11_readsRow_64 (by decide) rfl ?_
    refine g_iinc cx 1 [(4, .int 1), (3, .int 28), (2, .int 1), (0, .ref (ad 0)), (1, .int 194)] 2 e_X11_readsRow_65 rfl (by decide) (by decide) rfl ?_
    refine g_goto cx 12 e_X11_readsRow_68 (by decide) ?_
    refine g_iload cx 0 rfl e_X11_readsRow_12 ?_
    refine g_if_lt_f cx 71 e_X11_readsRow_14 (by decide) (by decide) ?_
    refine g_aload_n cx 3 rfl e_X11_readsRow_17 ?_
    refine g_get cx cl_X11 fl_X11_125 0 (.ref (ad 39)) e_X11_readsRow_18 rfl rfl ?_
    refine g_iload cx 0 rfl e_X11_readsRow_21 ?_
    refine g_iload_n cx 2 rfl e_X11_readsRow_23 ?_
    refine g_aload_n cx 3 rfl e_X11_readsRow_24 ?_
    refine g_get cx cl_X11 fl_X11_464 0 (.int (F 75)) e_X11_readsRow_25 rfl rfl ?_
    refine g_toi 5 zn ?_
    refine g_irem cx (by decide) e_X11_readsRow_28 ?_
    refine g_toi 1 (by decide) ?_
    refine g_iast cx 39 (wM X ad F (g_u R89 39 (upd (R89 39) 1 1))) e_X11_readsRow_29 rfl (jv_ix 5 (jv_k (x := 1) 1 (by decide)) (by decide)) rfl ?_
    obtain ⟨R97, hR97⟩ : ∃ z, z = g_u R89 39 (upd (R89 39) 1 1) := ⟨_, rfl⟩
    rw [← hR97]
    have oR97 : g_okR LA_wM R97 := by rw [hR97]; exact g_okR_p oR89 (jv_k (x := 1) 1 (by decide)) rfl
    have fR97 : g_fr mr_X11_readsRow R R97 := by rw [hR97]; exact g_fr_r fR89 rfl
    have wTR97 : WT F R97 := by rw [hR97]; exact WT_r wTR89 rfl
    have wCR97 : WC F R97 := by rw [hR97]; exact WC_r wCR89 rfl
    refine g_iload_n cx 2 rfl e_X11_readsRow_30 ?_
    refine g_aload_n cx 3 rfl e_X11_readsRow_31 ?_
    refine g_get cx cl_X11 fl_X11_464 0 (.int (F 75)) e_X11_readsRow_32 rfl rfl ?_
    refine g_toi 5 zn ?_
    refine g_idiv cx (by decide) e_X11_readsRow_35 ?_
    refine g_toi 0 (by decide) ?_
    refine g_istore_n cx [(2, .int 0), (4, .int 1), (3, .int 28), (0, .ref (ad 0)), (1, .int 194)] e_X11_readsRow_36 (by decide) rfl ?_
    refine g_iload_n cx 2 rfl e_X11_readsRow_37 ?_
    refine g_aload_n cx 3 rfl e_X11_readsRow_38 ?_
    refine g_get cx cl_X11 fl_X11_125 0 (.ref (ad 39)) e_X11_readsRow_39 rfl rfl ?_
    refine g_iload cx 1 rfl e_X11_readsRow_42 ?_
    refine g_iald cx 39 e_X11_readsRow_44 rfl (jv_ix 5 (jv_k (x := 1) 1 (by decide)) (by decide)) ?_
    refine g_topi (fun x98 ex98 => ?_)
    have p99 : jv 0 4 x98 := by rw [ex98]; exact g_okR_g oR97 5 rfl (jv_cl 5 (jv_k (x := 1) 1 (by decide)) (by decide))
    refine g_toi 1 (by rw [ex98, (g_ru1 hR97)]; exact g_us) ?_
    refine g_cSiW cx [.int 28, .int 1] [] (c_X11_has l X (wM X ad F R97) 28 1) ml_X11_175 yS_X11_has rfl e_X11_readsRow_45 (by unfold g_rr; decide) (by decide) rfl (Nat.le_of_ble_eq_true rfl) (fun r100 w101 h102 => ?_)
    obtain ⟨rfl, hr100⟩ := h102
    refine g_toi 0 (by rcases hr100 with q | q; exact q.1; exact absurd q.2 (by unfold hb; decide)) ?_
    refine g_if_eq_t cx 53 e_X11_readsRow_48 (by decide) (by decide) ?_
    refine g_iload_n cx 2 rfl e_X11_readsRow_53 ?_
    refine g_iconst cx 1 (by decide) e_X11_readsRow_54 ?_
    refine g_aload_n cx 3 rfl e_X11_readsRow_55 ?_
    refine g_get cx cl_X11 fl_X11_125 0 (.ref (ad 39)) e_X11_readsRow_56 rfl rfl ?_
    refine g_iload cx 1 rfl e_X11_readsRow_59 ?_
    refine g_iald cx 39 e_X11_readsRow_61 rfl (jv_ix 5 (jv_k (x := 1) 1 (by decide)) (by decide)) ?_
    refine g_topi (fun x103 ex103 => ?_)
    have p104 : jv 0 4 x103 := by rw [ex103]; exact g_okR_g oR97 5 rfl (jv_cl 5 (jv_k (x := 1) 1 (by decide)) (by decide))
    refine g_toi 1 (by rw [ex103, (g_ru1 hR97)]; exact g_us) ?_
    refine g_ishl cx e_X11_readsRow_62 ?_
    refine g_toi 2 (by decide) ?_
    refine g_ior cx e_X11_readsRow_63 ?_
    refine g_toi 30 (by decide) ?_
    refine g_istore_n cx [(3, .int 30), (2, .int 0), (4, .int 1), (0, .ref (ad 0)), (1, .int 194)] e_X11_readsRow_64 (by decide) rfl ?_
    refine g_iinc cx 0 [(4, .int 0), (3, .int 30), (2, .int 0), (0, .ref (ad 0)), (1, .int 194)] 2 e_X11_readsRow_65 rfl (by decide) (by decide) rfl ?_
    refine g_goto cx 12 e_X11_readsRow_68 (by decide) ?_
    refine g_iload cx 0 rfl e_X11_readsRow_12 ?_
    refine g_if_lt_f cx 71 e_X11_readsRow_14 (by decide) (by decide) ?_
    refine g_aload_n cx 3 rfl e_X11_readsRow_17 ?_
    refine g_get cx cl_X11 fl_X11_125 0 (.ref (ad 39)) e_X11_readsRow_18 rfl rfl ?_
    refine g_iload cx 0 rfl e_X11_readsRow_21 ?_
    refine g_iload_n cx 2 rfl e_X11_readsRow_23 ?_
    refine g_aload_n cx 3 rfl e_X11_readsRow_24 ?_
    refine g_get cx cl_X11 fl_X11_464 0 (.int (F 75)) e_X11_readsRow_25 rfl rfl ?_
    refine g_toi 5 zn ?_
    refine g_irem cx (by decide) e_X11_readsRow_28 ?_
    refine g_toi 0 (by decide) ?_
    refine g_iast cx 39 (wM X ad F (g_u R97 39 (upd (R97 39) 0 0))) e_X11_readsRow_29 rfl (jv_ix 5 (jv_k (x := 0) 0 (by decide)) (by decide)) rfl ?_
    obtain ⟨R105, hR105⟩ : ∃ z, z = g_u R97 39 (upd (R97 39) 0 0) := ⟨_, rfl⟩
    rw [← hR105]
    have oR105 : g_okR LA_wM R105 := by rw [hR105]; exact g_okR_p oR97 (jv_k (x := 0) 0 (by decide)) rfl
    have fR105 : g_fr mr_X11_readsRow R R105 := by rw [hR105]; exact g_fr_r fR97 rfl
    have wTR105 : WT F R105 := by rw [hR105]; exact WT_r wTR97 rfl
    have wCR105 : WC F R105 := by rw [hR105]; exact WC_r wCR97 rfl
    refine g_iload_n cx 2 rfl e_X11_readsRow_30 ?_
    refine g_aload_n cx 3 rfl e_X11_readsRow_31 ?_
    refine g_get cx cl_X11 fl_X11_464 0 (.int (F 75)) e_X11_readsRow_32 rfl rfl ?_
    refine g_toi 5 zn ?_
    refine g_idiv cx (by decide) e_X11_readsRow_35 ?_
    refine g_toi 0 (by decide) ?_
    refine g_istore_n cx [(2, .int 0), (4, .int 0), (3, .int 30), (0, .ref (ad 0)), (1, .int 194)] e_X11_readsRow_36 (by decide) rfl ?_
    refine g_iload_n cx 2 rfl e_X11_readsRow_37 ?_
    refine g_aload_n cx 3 rfl e_X11_readsRow_38 ?_
    refine g_get cx cl_X11 fl_X11_125 0 (.ref (ad 39)) e_X11_readsRow_39 rfl rfl ?_
    refine g_iload cx 1 rfl e_X11_readsRow_42 ?_
    refine g_iald cx 39 e_X11_readsRow_44 rfl (jv_ix 5 (jv_k (x := 0) 0 (by decide)) (by decide)) ?_
    refine g_topi (fun x106 ex106 => ?_)
    have p107 : jv 0 4 x106 := by rw [ex106]; exact g_okR_g oR105 5 rfl (jv_cl 5 (jv_k (x := 0) 0 (by decide)) (by decide))
    refine g_toi 0 (by rw [ex106, (g_ru1 hR105)]; exact g_us) ?_
    refine g_cSiW cx [.int 30, .int 0] [] (c_X11_has l X (wM X ad F R105) 30 0) ml_X11_175 yS_X11_has rfl e_X11_readsRow_45 (by unfold g_rr; decide) (by decide) rfl (Nat.le_of_ble_eq_true rfl) (fun r108 w109 h110 => ?_)
    obtain ⟨rfl, hr108⟩ := h110
    refine g_toi 0 (by rcases hr108 with q | q; exact q.1; exact absurd q.2 (by unfold hb; decide)) ?_
    refine g_if_eq_t cx 53 e_X11_readsRow_48 (by decide) (by decide) ?_
    refine g_iload_n cx 2 rfl e_X11_readsRow_53 ?_
    refine g_iconst cx 1 (by decide) e_X11_readsRow_54 ?_
    refine g_aload_n cx 3 rfl e_X11_readsRow_55 ?_
    refine g_get cx cl_X11 fl_X11_125 0 (.ref (ad 39)) e_X11_readsRow_56 rfl rfl ?_
    refine g_iload cx 1 rfl e_X11_readsRow_59 ?_
    refine g_iald cx 39 e_X11_readsRow_61 rfl (jv_ix 5 (jv_k (x := 0) 0 (by decide)) (by decide)) ?_
    refine g_topi (fun x111 ex111 => ?_)
    have p112 : jv 0 4 x111 := by rw [ex111]; exact g_okR_g oR105 5 rfl (jv_cl 5 (jv_k (x := 0) 0 (by decide)) (by decide))
    refine g_toi 0 (by rw [ex111, (g_ru1 hR105)]; exact g_us) ?_
    refine g_ishl cx e_X11_readsRow_62 ?_
    refine g_toi 1 (by decide) ?_
    refine g_ior cx e_X11_readsRow_63 ?_
    refine g_toi 31 (by decide) ?_
    refine g_istore_n cx [(3, .int 31), (2, .int 0), (4, .int 0), (0, .ref (ad 0)), (1, .int 194)] e_X11_readsRow_64 (by decide) rfl ?_
    refine g_iinc cx (-1) [(4, .int (-1)), (3, .int 31), (2, .int 0), (0, .ref (ad 0)), (1, .int 194)] 2 e_X11_readsRow_65 rfl (by decide) (by decide) rfl ?_
    refine g_goto cx 12 e_X11_readsRow_68 (by decide) ?_
    refine g_iload cx 0 rfl e_X11_readsRow_12 ?_
    refine g_if_lt_t cx 71 e_X11_readsRow_14 (by decide) (by decide) ?_
    refine g_iconst cx 1 (by decide) e_X11_readsRow_71 ?_
    exact hret e_X11_readsRow_72 (Nat.le_of_ble_eq_true rfl) (Nat.le_of_ble_eq_true rfl) rfl ⟨F, R105, rfl, hI, oR105, wTR105, wCR105, (g_fr_rf F), fR105, (jv_w (jv_k (x := 1) 1 (by decide)) (by decide)), (fun h => absurd h (by decide))⟩
  · refine g_iload_n cx 1 rfl e_X11_readsRow_0 ?_
    refine g_istore_n cx [(2, .int a0), (0, .ref (ad 0)), (1, .int a0)] e_X11_readsRow_1 (by decide) rfl ?_
    refine g_iconst cx 0 (by decide) e_X11_readsRow_2 ?_
    refine g_istore_n cx [(3, .int 0), (2, .int a0), (0, .ref (ad 0)), (1, .int a0)] e_X11_readsRow_3 (by decide) rfl ?_
    refine g_aload_n cx 2 rfl e_X11_readsRow_4 ?_
    refine g_get cx cl_X11 fl_X11_464 0 (.int (F 75)) e_X11_readsRow_5 rfl rfl ?_
    refine g_iconst cx 1 (by decide) e_X11_readsRow_8 ?_
    refine g_isub cx e_X11_readsRow_9 ?_
    refine g_topi (fun x113 ex113 => ?_)
    have zx113 := jv_sub 1 4 ex113 hp2 (jv_k (x := 1) 1 (by decide)) (by decide)
    refine g_istore cx [(4, .int x113), (3, .int 0), (2, .int a0), (0, .ref (ad 0)), (1, .int a0)] e_X11_readsRow_10 (by decide) rfl ?_
    have J12 : ∀ (N : Nat) (R117 : Nat → Nat → Int32) (y114 : Int32) (y115 : Int32) (y116 : Int32), (g_okR LA_wM R117) → (g_fr mr_X11_readsRow R R117) → (WT F R117) → (WC F R117) → (jv 0 3124 y114) → (jv (-2147483648) 2147483647 y115) → (jv (-1) 4 y116) → (y116.toInt + 2147483648).toNat < N → G X E 5 0 0 (wM X ad F R117) [(0, .ref (ad 0)), (2, .int y114), (3, .int y115), (4, .int y116)] 12 [] := by
      intro N
      induction N with
      | zero => intro R117 y114 y115 y116 oR117 fR117 wTR117 wCR117 py114 py115 py116 hm; exact absurd hm (Nat.not_lt_zero _)
      | succ N ih12 =>
        intro R117 y114 y115 y116 oR117 fR117 wTR117 wCR117 py114 py115 py116 hm12
        refine g_iload cx 3 rfl e_X11_readsRow_12 ?_
        refine g_if_lt cx 71 e_X11_readsRow_14 (by decide) (fun zc118 => ?_) (fun zc118 => ?_)
        · have p119 := gn_lt (-1) (-1) (gc_lt zc118) py116 (jv_k (x := 0) 0 (by decide)) (by decide)
          refine g_iconst cx 1 (by decide) e_X11_readsRow_71 ?_
          exact hret e_X11_readsRow_72 (Nat.le_of_ble_eq_true rfl) (Nat.le_of_ble_eq_true rfl) rfl ⟨F, R117, rfl, hI, oR117, wTR117, wCR117, (g_fr_rf F), fR117, (jv_w (jv_k (x := 1) 1 (by decide)) (by decide)), (fun h => absurd h (by decide))⟩
        · have p120 := gn_ge 0 4 (gc_nlt zc118) py116 (jv_k (x := 0) 0 (by decide)) (by decide)
          refine g_aload_n cx 0 rfl e_X11_readsRow_17 ?_
          refine g_get cx cl_X11 fl_X11_125 0 (.ref (ad 39)) e_X11_readsRow_18 rfl rfl ?_
          refine g_iload cx 3 rfl e_X11_readsRow_21 ?_
          refine g_iload_n cx 1 rfl e_X11_readsRow_23 ?_
          refine g_aload_n cx 0 rfl e_X11_readsRow_24 ?_
          refine g_get cx cl_X11 fl_X11_464 0 (.int (F 75)) e_X11_readsRow_25 rfl rfl ?_
          refine g_irem cx (g_nz0 hp2 (by decide)) e_X11_readsRow_28 ?_
          refine g_topi (fun x121 ex121 => ?_)
          have zx121 := jv_rem 0 4 ex121 py114 hp2 (by decide)
          refine g_iast cx 39 (wM X ad F (g_u R117 39 (upd (R117 39) (Int32.toNatClampNeg y116) x121))) e_X11_readsRow_29 rfl (jv_ix 5 p120 (by decide)) rfl ?_
          obtain ⟨R122, hR122⟩ : ∃ z, z = g_u R117 39 (upd (R117 39) (Int32.toNatClampNeg y116) x121) := ⟨_, rfl⟩
          rw [← hR122]
          have oR122 : g_okR LA_wM R122 := by rw [hR122]; exact g_okR_p oR117 zx121.2 rfl
          have fR122 : g_fr mr_X11_readsRow R R122 := by rw [hR122]; exact g_fr_r fR117 rfl
          have wTR122 : WT F R122 := by rw [hR122]; exact WT_r wTR117 rfl
          have wCR122 : WC F R122 := by rw [hR122]; exact WC_r wCR117 rfl
          refine g_iload_n cx 1 rfl e_X11_readsRow_30 ?_
          refine g_aload_n cx 0 rfl e_X11_readsRow_31 ?_
          refine g_get cx cl_X11 fl_X11_464 0 (.int (F 75)) e_X11_readsRow_32 rfl rfl ?_
          refine g_idiv cx (g_nz0 hp2 (by decide)) e_X11_readsRow_35 ?_
          refine g_topi (fun x123 ex123 => ?_)
          have zx123 := jv_div 0 1562 ex123 py114 hp2 (by decide)
          refine g_istore_n cx [(2, .int x123), (0, .ref (ad 0)), (3, .int y115), (4, .int y116)] e_X11_readsRow_36 (by decide) rfl ?_
          refine g_iload_n cx 2 rfl e_X11_readsRow_37 ?_
          refine g_aload_n cx 1 rfl e_X11_readsRow_38 ?_
          refine g_get cx cl_X11 fl_X11_125 0 (.ref (ad 39)) e_X11_readsRow_39 rfl rfl ?_
          refine g_iload cx 3 rfl e_X11_readsRow_42 ?_
          refine g_iald cx 39 e_X11_readsRow_44 rfl (jv_ix 5 p120 (by decide)) ?_
          refine g_topi (fun x124 ex124 => ?_)
          have p125 : jv 0 4 x124 := by rw [ex124]; exact g_okR_g oR122 5 rfl (jv_cl 5 p120 (by decide))
          refine g_cSiW cx [.int y115, .int x124] [] (c_X11_has l X (wM X ad F R122) y115 x124) ml_X11_175 yS_X11_has rfl e_X11_readsRow_45 (by unfold g_rr; decide) (by decide) rfl (Nat.le_of_ble_eq_true rfl) (fun r126 w127 h128 => ?_)
          obtain ⟨rfl, hr126⟩ := h128
          have pr126 : jv 0 1 r126 := by rcases hr126 with q | q <;> rw [q.1] <;> exact ⟨by decide, by decide⟩
          refine g_if_eq cx 53 e_X11_readsRow_48 (by decide) (fun zc129 => ?_) (fun zc129 => ?_)
          · have p130 := gn_eq 0 0 (gc_eq zc129) pr126 (jv_k (x := 0) 0 (by decide)) (by decide)
            refine g_iload_n cx 2 rfl e_X11_readsRow_53 ?_
            refine g_iconst cx 1 (by decide) e_X11_readsRow_54 ?_
            refine g_aload_n cx 1 rfl e_X11_readsRow_55 ?_
            refine g_get cx cl_X11 fl_X11_125 0 (.ref (ad 39)) e_X11_readsRow_56 rfl rfl ?_
            refine g_iload cx 3 rfl e_X11_readsRow_59 ?_
            refine g_iald cx 39 e_X11_readsRow_61 rfl (jv_ix 5 p120 (by decide)) ?_
            refine g_topi (fun x131 ex131 => ?_)
            have p132 : jv 0 4 x131 := by rw [ex131]; exact g_okR_g oR122 5 rfl (jv_cl 5 p120 (by decide))
            refine g_ishl cx e_X11_readsRow_62 ?_
            refine g_topi (fun x133 ex133 => ?_)
            refine g_ior cx e_X11_readsRow_63 ?_
            refine g_topi (fun x134 ex134 => ?_)
            refine g_istore_n cx [(3, .int x134), (2, .int x123), (0, .ref (ad 0)), (4, .int y116)] e_X11_readsRow_64 (by decide) rfl ?_
            obtain ⟨x135, ex135⟩ : ∃ z : Int32, z = y116 + Int32.ofInt (-1) := ⟨_, rfl⟩
            refine g_iinc cx x135 [(4, .int x135), (3, .int x134), (2, .int x123), (0, .ref (ad 0))] 3 e_X11_readsRow_65 rfl ex135.symm (by decide) rfl ?_
            have zx135 := jv_add (-1) 3 (show x135 = y116 + (-1) from ex135) p120 (jv_k (x := (-1)) (-1) (by decide)) (by decide)
            refine g_goto cx 12 e_X11_readsRow_68 (by decide) ?_
            refine g_lsub [3, 2, 1, 0] [(0, .ref (ad 0)), (2, .int x123), (3, .int x134), (4, .int x135)] rfl ?_
            exact ih12 R122 x123 x134 x135 oR122 fR122 wTR122 wCR122 (jv_w zx123.2 (by decide)) (jv_t x134) (jv_w zx135.2 (by decide)) (Nat.lt_of_lt_of_le (show (x135.toInt + 2147483648).toNat < (y116.toInt + 2147483648).toNat from by have q0 := (jv_k (x := (-1)) (-1) (by decide)).1; have q1 := (jv_k (x := (-1)) (-1) (by decide)).2; have q2 := (jv_k (x := 0) 0 (by decide)).1; have q3 := (jv_k (x := 0) 0 (by decide)).2; have q4 := p130.1; have q5 := p130.2; have q6 := zx135.2.1; have q7 := zx135.2.2; have q8 := p120.1; have q9 := p120.2; have q10 := (gc_nlt zc118); have q11 := (gc_eq zc129); have q12 := (g_eq0 zx135.1); omega) (Nat.le_of_lt_succ hm12))
          · have p136 := gn_neL 1 1 (gc_ne zc129) pr126 (jv_k (x := 0) 0 (by decide)) (by decide)
            have zb137 : hb y115 x124 := g_hasy hr126 zc129
            refine g_iconst cx 0 (by decide) e_X11_readsRow_51 ?_
            exact hret e_X11_readsRow_52 (Nat.le_of_ble_eq_true rfl) (Nat.le_of_ble_eq_true rfl) rfl ⟨F, R122, rfl, hI, oR122, wTR122, wCR122, (g_fr_rf F), fR122, (jv_w (jv_k (x := 0) 0 (by decide)) (by decide)), (fun _ => hns)⟩
    refine g_lsub [3, 2, 1, 0] [(0, .ref (ad 0)), (2, .int a0), (3, .int 0), (4, .int x113)] rfl ?_
    exact J12 _ R a0 0 x113 hA (g_fr_rf R) hWT hWC pa0 (jv_w (jv_k (x := 0) 0 (by decide)) (by decide)) (jv_w zx113.2 (by decide)) (Nat.lt_succ_self _)
