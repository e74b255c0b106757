/-! ===== reading ===== -/
/-- the sign that stands next, -1 behind the end -/
def g_here (F : Nat → Int32) (R : Nat → Nat → Int32) : Int32 := if (F 15).toInt < (F 16).toInt then R 9 (F 15).toNatClampNeg &&& 255 else -1
theorem g_here_y {F : Nat → Int32} {R : Nat → Nat → Int32} {x y : Int32} (h : (F 15).toInt < (F 16).toInt) (ex : x = R 9 (F 15).toNatClampNeg) (ey : y = x &&& 255) : y = g_here F R := by
  rw [g_here, if_pos h, ey, ex]
theorem g_here_n {F : Nat → Int32} {R : Nat → Nat → Int32} (h : ¬ (F 15).toInt < (F 16).toInt) : -1 = g_here F R := by
  rw [g_here, if_neg h]
theorem g_here_lt {F : Nat → Int32} {R : Nat → Nat → Int32} (h : 0 ≤ (g_here F R).toInt) : (F 15).toInt < (F 16).toInt := by
  by_cases q : (F 15).toInt < (F 16).toInt
  · exact q
  · rw [g_here, if_neg q] at h
    exact absurd h (by decide)
theorem g_here_iv (F : Nat → Int32) (R : Nat → Nat → Int32) : jv (-1) 255 (g_here F R) := by
  unfold g_here
  split
  · exact jv_w (jv_and 0 255 rfl (jv_k (x := 255) 255 (by decide)) (by decide)) (by decide)
  · exact jv_w (jv_k (x := (-1)) (-1) (by decide)) (by decide)

theorem e_X11_here_0 : g_dc cX11_here 0 (.aload_n 0) 1 1 := ⟨by decide +kernel, rfl⟩
theorem e_X11_here_1 : g_dc cX11_here 1 (.getfield 190) 3 4 := ⟨by decide +kernel, rfl⟩
theorem e_X11_here_4 : g_dc cX11_here 4 (.aload_n 0) 1 5 := ⟨by decide +kernel, rfl⟩
theorem e_X11_here_5 : g_dc cX11_here 5 (.getfield 216) 3 8 := ⟨by decide +kernel, rfl⟩
theorem e_X11_here_8 : g_dc cX11_here 8 (.if_icmp .ge 19) 3 11 := ⟨by decide +kernel, rfl⟩
theorem e_X11_here_11 : g_dc cX11_here 11 (.aload_n 0) 1 12 := ⟨by decide +kernel, rfl⟩
theorem e_X11_here_12 : g_dc cX11_here 12 (.getfield 34) 3 15 := ⟨by decide +kernel, rfl⟩
theorem e_X11_here_15 : g_dc cX11_here 15 (.aload_n 0) 1 16 := ⟨by decide +kernel, rfl⟩
theorem e_X11_here_16 : g_dc cX11_here 16 (.getfield 190) 3 19 := ⟨by decide +kernel, rfl⟩
theorem e_X11_here_19 : g_dc cX11_here 19 (.baload) 1 20 := ⟨by decide +kernel, rfl⟩
theorem e_X11_here_20 : g_dc cX11_here 20 (.sipush 255) 3 23 := ⟨by decide +kernel, rfl⟩
theorem e_X11_here_23 : g_dc cX11_here 23 (.iand) 1 24 := ⟨by decide +kernel, rfl⟩
theorem e_X11_here_24 : g_dc cX11_here 24 (.goto 4) 3 27 := ⟨by decide +kernel, rfl⟩
theorem e_X11_here_27 : g_dc cX11_here 27 (.iconst (-1)) 1 28 := ⟨by decide +kernel, rfl⟩
theorem e_X11_here_28 : g_dc cX11_here 28 (.ireturn) 1 29 := ⟨by decide +kernel, rfl⟩
set_option maxHeartbeats 4000000 in
set_option maxRecDepth 100000 in
theorem w_X11_here (l : Launch) (X : gX) (ad : Nat → Nat) (F : Nat → Int32) (R : Nat → Nat → Int32) (hI : g_ok LK_wM F) (hA : g_okR LA_wM R) (hWT : WT F R) (hWC : WC F R) : g_Ci l X yX11_here cX11_here 1 (some .int) 1 0 0 [.ref (ad 0)] (wM X ad F R) (fun r w => w = wM X ad F R ∧ jv (-1) 255 r ∧ r = g_here F R) := by
  refine g_mi (by decide +kernel) (Nat.le_of_ble_eq_true rfl) (fun E cx hret => ?_)
  refine g_aload_n cx 0 rfl e_X11_here_0 ?_
  refine g_get cx cl_X11 fl_X11_190 0 (.int (F 15)) e_X11_here_1 rfl rfl ?_
  refine g_aload_n cx 0 rfl e_X11_here_4 ?_
  refine g_get cx cl_X11 fl_X11_216 0 (.int (F 16)) e_X11_here_5 rfl rfl ?_
  refine g_icmp_ge cx 27 e_X11_here_8 (by decide) (fun zc1 => ?_) (fun zc1 => ?_)
  · refine g_iconst cx (-1) (by decide) e_X11_here_27 ?_
    exact hret e_X11_here_28 (Nat.le_of_ble_eq_true rfl) (Nat.le_of_ble_eq_true rfl) rfl ⟨rfl, (jv_w (jv_k (x := (-1)) (-1) (by decide)) (by decide)), (g_here_n (by have q0 := (g_ok_g hI 1 rfl).1; have q1 := (g_ok_g hI 1 rfl).2; have q2 := (g_ok_g hI 2 rfl).1; have q3 := (g_ok_g hI 2 rfl).2; have q4 := (gc_le zc1); omega))⟩
  · have p2 := gn_lt 0 199 (gc_nle zc1) (g_ok_g hI 1 rfl) (g_ok_g hI 2 rfl) (by decide)
    have p3 := gn_gt 1 200 (gc_nle zc1) (g_ok_g hI 2 rfl) (g_ok_g hI 1 rfl) (by decide)
    refine g_aload_n cx 0 rfl e_X11_here_11 ?_
    refine g_get cx cl_X11 fl_X11_34 0 (.ref (ad 9)) e_X11_here_12 rfl rfl ?_
    refine g_aload_n cx 0 rfl e_X11_here_15 ?_
    refine g_get cx cl_X11 fl_X11_190 0 (.int (F 15)) e_X11_here_16 rfl rfl ?_
    refine g_bald cx 9 e_X11_here_19 rfl (jv_ix 220 p2 (by decide)) ?_
    refine g_topi (fun x4 ex4 => ?_)
    refine g_sipush cx 255 (by decide) e_X11_here_20 ?_
    refine g_iand cx e_X11_here_23 ?_
    refine g_topi (fun x5 ex5 => ?_)
    have px5 := jv_and 0 255 ex5 (jv_k (x := 255) 255 (by decide)) (by decide)
    refine g_goto cx 28 e_X11_here_24 (by decide) ?_
    exact hret e_X11_here_28 (Nat.le_of_ble_eq_true rfl) (Nat.le_of_ble_eq_true rfl) rfl ⟨rfl, (jv_w px5 (by decide)), (g_here_y (by have q0 := p2.1; have q1 := p2.2; have q2 := p3.1; have q3 := p3.2; have q4 := (gc_nle zc1); omega) ex4 ex5)⟩
theorem e_X11_isDigit_0 : g_dc cX11_isDigit 0 (.aload_n 0) 1 1 := ⟨by decide +kernel, rfl⟩
theorem e_X11_isDigit_1 : g_dc cX11_isDigit 1 (.invokevirtual 200) 3 4 := ⟨by decide +kernel, rfl⟩
theorem e_X11_isDigit_4 : g_dc cX11_isDigit 4 (.bipush 48) 2 6 := ⟨by decide +kernel, rfl⟩
theorem e_X11_isDigit_6 : g_dc cX11_isDigit 6 (.if_icmp .lt 16) 3 9 := ⟨by decide +kernel, rfl⟩
theorem e_X11_isDigit_9 : g_dc cX11_isDigit 9 (.aload_n 0) 1 10 := ⟨by decide +kernel, rfl⟩
theorem e_X11_isDigit_10 : g_dc cX11_isDigit 10 (.invokevirtual 200) 3 13 := ⟨by decide +kernel, rfl⟩
theorem e_X11_isDigit_13 : g_dc cX11_isDigit 13 (.bipush 57) 2 15 := ⟨by decide +kernel, rfl⟩
theorem e_X11_isDigit_15 : g_dc cX11_isDigit 15 (.if_icmp .gt 7) 3 18 := ⟨by decide +kernel, rfl⟩
theorem e_X11_isDigit_18 : g_dc cX11_isDigit 18 (.iconst 1) 1 19 := ⟨by decide +kernel, rfl⟩
theorem e_X11_isDigit_19 : g_dc cX11_isDigit 19 (.goto 4) 3 22 := ⟨by decide +kernel, rfl⟩
theorem e_X11_isDigit_22 : g_dc cX11_isDigit 22 (.iconst 0) 1 23 := ⟨by decide +kernel, rfl⟩
theorem e_X11_isDigit_23 : g_dc cX11_isDigit 23 (.ireturn) 1 24 := ⟨by decide +kernel, rfl⟩
set_option maxHeartbeats 4000000 in
set_option maxRecDepth 100000 in
theorem w_X11_isDigit (l : Launch) (X : gX) (ad : Nat → Nat) (F : Nat → Int32) (R : Nat → Nat → Int32) (hI : g_ok LK_wM F) (hA : g_okR LA_wM R) (hWT : WT F R) (hWC : WC F R) : g_Ci l X yX11_isDigit cX11_isDigit 1 (some .boolean) 2 0 0 [.ref (ad 0)] (wM X ad F R) (fun r w => w = wM X ad F R ∧ jv 0 1 r ∧ (¬ r = 0 → 48 ≤ (g_here F R).toInt ∧ (g_here F R).toInt ≤ 57)) := by
  refine g_mi (by decide +kernel) (Nat.le_of_ble_eq_true rfl) (fun E cx hret => ?_)
  refine g_aload_n cx 0 rfl e_X11_isDigit_0 ?_
  refine g_cViW cx [] [] (w_X11_here l X ad F R hI hA hWT hWC) ml_X11_200 yV_X11_here e_X11_isDigit_1 (by unfold g_rr; decide) (by decide) 0 rfl rfl rfl (Nat.le_of_ble_eq_true rfl) (fun r1 w2 h3 => ?_)
  obtain ⟨rfl, pr1, zx4⟩ := h3
  refine g_bipush cx 48 (by decide) e_X11_isDigit_4 ?_
  refine g_icmp_lt cx 22 e_X11_isDigit_6 (by decide) (fun zc5 => ?_) (fun zc5 => ?_)
  · have p6 := gn_lt (-1) 47 (gc_lt zc5) pr1 (jv_k (x := 48) 48 (by decide)) (by decide)
    refine g_iconst cx 0 (by decide) e_X11_isDigit_22 ?_
    exact hret e_X11_isDigit_23 (Nat.le_of_ble_eq_true rfl) (Nat.le_of_ble_eq_true rfl) rfl ⟨rfl, (jv_w (jv_k (x := 0) 0 (by decide)) (by decide)), (fun h => absurd rfl h)⟩
  · have p7 := gn_ge 48 255 (gc_nlt zc5) pr1 (jv_k (x := 48) 48 (by decide)) (by decide)
    refine g_aload_n cx 0 rfl e_X11_isDigit_9 ?_
    refine g_cViW cx [] [] (w_X11_here l X ad F R hI hA hWT hWC) ml_X11_200 yV_X11_here e_X11_isDigit_10 (by unfold g_rr; decide) (by decide) 0 rfl rfl rfl (Nat.le_of_ble_eq_true rfl) (fun r8 w9 h10 => ?_)
    obtain ⟨rfl, pr8, zx11⟩ := h10
    refine g_bipush cx 57 (by decide) e_X11_isDigit_13 ?_
    refine g_icmp_gt cx 22 e_X11_isDigit_15 (by decide) (fun zc12 => ?_) (fun zc12 => ?_)
    · have p13 := gn_gt 58 255 (gc_lt zc12) pr8 (jv_k (x := 57) 57 (by decide)) (by decide)
      refine g_iconst cx 0 (by decide) e_X11_isDigit_22 ?_
      exact hret e_X11_isDigit_23 (Nat.le_of_ble_eq_true rfl) (Nat.le_of_ble_eq_true rfl) rfl ⟨rfl, (jv_w (jv_k (x := 0) 0 (by decide)) (by decide)), (fun h => absurd rfl h)⟩
    · have p14 := gn_le (-1) 57 (gc_nlt zc12) pr8 (jv_k (x := 57) 57 (by decide)) (by decide)
      refine g_iconst cx 1 (by decide) e_X11_isDigit_18 ?_
      refine g_goto cx 23 e_X11_isDigit_19 (by decide) ?_
      exact hret e_X11_isDigit_23 (Nat.le_of_ble_eq_true rfl) (Nat.le_of_ble_eq_true rfl) rfl ⟨rfl, (jv_w (jv_k (x := 1) 1 (by decide)) (by decide)), (fun _ => by have q0 := (g_here_iv F R).1; have q1 := (g_here_iv F R).2; have q2 := (jv_k (x := 48) 48 (by decide)).1; have q3 := (jv_k (x := 48) 48 (by decide)).2; have q4 := (jv_k (x := 57) 57 (by decide)).1; have q5 := (jv_k (x := 57) 57 (by decide)).2; have q6 := (g_ok_g hI 1 rfl).1; have q7 := (g_ok_g hI 1 rfl).2; have q8 := (g_ok_g hI 2 rfl).1; have q9 := (g_ok_g hI 2 rfl).2; have q10 := p7.1; have q11 := p7.2; have q12 := p14.1; have q13 := p14.2; have q14 := (congrArg Int32.toInt zx4); have q15 := (@g_here_lt F R); have q16 := (gc_nlt zc5); have q17 := (congrArg Int32.toInt zx11); have q18 := (@g_here_lt F R); have q19 := (gc_nlt zc12); omega)⟩
theorem e_X11_wrongAt_0 : g_dc cX11_wrongAt 0 (.aload_n 0) 1 1 := ⟨by decide +kernel, rfl⟩
theorem e_X11_wrongAt_1 : g_dc cX11_wrongAt 1 (.sipush (-1000)) 3 4 := ⟨by decide +kernel, rfl⟩
theorem e_X11_wrongAt_4 : g_dc cX11_wrongAt 4 (.iload_n 1) 1 5 := ⟨by decide +kernel, rfl⟩
theorem e_X11_wrongAt_5 : g_dc cX11_wrongAt 5 (.imul) 1 6 := ⟨by decide +kernel, rfl⟩
theorem e_X11_wrongAt_6 : g_dc cX11_wrongAt 6 (.iload_n 2) 1 7 := ⟨by decide +kernel, rfl⟩
theorem e_X11_wrongAt_7 : g_dc cX11_wrongAt 7 (.isub) 1 8 := ⟨by decide +kernel, rfl⟩
theorem e_X11_wrongAt_8 : g_dc cX11_wrongAt 8 (.putfield 225) 3 11 := ⟨by decide +kernel, rfl⟩
theorem e_X11_wrongAt_11 : g_dc cX11_wrongAt 11 (.iconst 0) 1 12 := ⟨by decide +kernel, rfl⟩
theorem e_X11_wrongAt_12 : g_dc cX11_wrongAt 12 (.ireturn) 1 13 := ⟨by decide +kernel, rfl⟩
def md_X11_wrongAt : List Nat := [17]
def mr_X11_wrongAt : List Nat := []
set_option maxHeartbeats 4000000 in
set_option maxRecDepth 100000 in
theorem w_X11_wrongAt (l : Launch) (X : gX) (ad : Nat → Nat) (F : Nat → Int32) (R : Nat → Nat → Int32) (hI : g_ok LK_wM F) (hA : g_okR LA_wM R) (hWT : WT F R) (hWC : WC F R) (a0 : Int32) (a1 : Int32) : g_Ci l X yX11_wrongAt cX11_wrongAt 3 (some .boolean) 1 0 0 [.ref (ad 0), .int a0, .int a1] (wM X ad F R) (fun r w => ∃ (F' : Nat → Int32) (R' : Nat → Nat → Int32), w = wM X ad F' R' ∧ g_ok LK_wM F' ∧ g_okR LA_wM R' ∧ WT F' R' ∧ WC F' R' ∧ g_fr md_X11_wrongAt F F' ∧ g_fr mr_X11_wrongAt R R' ∧ jv 0 0 r) := by
  refine g_mi (by decide +kernel) (Nat.le_of_ble_eq_true rfl) (fun E cx hret => ?_)
  refine g_aload_n cx 0 rfl e_X11_wrongAt_0 ?_
  refine g_sipush cx (-1000) (by decide) e_X11_wrongAt_1 ?_
  refine g_iload_n cx 1 rfl e_X11_wrongAt_4 ?_
  refine g_imul cx e_X11_wrongAt_5 ?_
  refine g_topi (fun x1 ex1 => ?_)
  refine g_iload_n cx 2 rfl e_X11_wrongAt_6 ?_
  refine g_isub cx e_X11_wrongAt_7 ?_
  refine g_topi (fun x2 ex2 => ?_)
  refine g_put cx cl_X11 fl_X11_225 0 (wM X ad (upd F 17 x2) R) e_X11_wrongAt_8 rfl rfl rfl rfl (Nat.le_of_ble_eq_true rfl) rfl ?_
  obtain ⟨F3, hF3⟩ : ∃ z, z = upd F 17 x2 := ⟨_, rfl⟩
  rw [← hF3]
  have oF3 : g_ok LK_wM F3 := by rw [hF3]; exact g_ok_u hI rfl
  have fF3 : g_fr md_X11_wrongAt F F3 := by rw [hF3]; exact g_fr_u (g_fr_rf F) rfl
  have wTF3 : WT F3 R := by rw [hF3]; exact WT_u hWT rfl
  have wCF3 : WC F3 R := by rw [hF3]; exact WC_u hWC rfl
  refine g_iconst cx 0 (by decide) e_X11_wrongAt_11 ?_
  exact hret e_X11_wrongAt_12 (Nat.le_of_ble_eq_true rfl) (Nat.le_of_ble_eq_true rfl) rfl ⟨F3, R, rfl, oF3, hA, wTF3, wCF3, fF3, (g_fr_rf R), (jv_k (x := 0) 0 (by decide))⟩
theorem e_X11_readsPace_0 : g_dc cX11_readsPace 0 (.aload_n 0) 1 1 := ⟨by decide +kernel, rfl⟩
theorem e_X11_readsPace_1 : g_dc cX11_readsPace 1 (.getfield 190) 3 4 := ⟨by decide +kernel, rfl⟩
theorem e_X11_readsPace_4 : g_dc cX11_readsPace 4 (.istore_n 1) 1 5 := ⟨by decide +kernel, rfl⟩
theorem e_X11_readsPace_5 : g_dc cX11_readsPace 5 (.aload_n 0) 1 6 := ⟨by decide +kernel, rfl⟩
theorem e_X11_readsPace_6 : g_dc cX11_readsPace 6 (.iconst 0) 1 7 := ⟨by decide +kernel, rfl⟩
theorem e_X11_readsPace_7 : g_dc cX11_readsPace 7 (.putfield 193) 3 10 := ⟨by decide +kernel, rfl⟩
theorem e_X11_readsPace_10 : g_dc cX11_readsPace 10 (.aload_n 0) 1 11 := ⟨by decide +kernel, rfl⟩
theorem e_X11_readsPace_11 : g_dc cX11_readsPace 11 (.invokevirtual 196) 3 14 := ⟨by decide +kernel, rfl⟩
theorem e_X11_readsPace_14 : g_dc cX11_readsPace 14 (.ifCond .eq 45) 3 17 := ⟨by decide +kernel, rfl⟩
theorem e_X11_readsPace_17 : g_dc cX11_readsPace 17 (.aload_n 0) 1 18 := ⟨by decide +kernel, rfl⟩
theorem e_X11_readsPace_18 : g_dc cX11_readsPace 18 (.getfield 190) 3 21 := ⟨by decide +kernel, rfl⟩
theorem e_X11_readsPace_21 : g_dc cX11_readsPace 21 (.iload_n 1) 1 22 := ⟨by decide +kernel, rfl⟩
theorem e_X11_readsPace_22 : g_dc cX11_readsPace 22 (.iconst 2) 1 23 := ⟨by decide +kernel, rfl⟩
theorem e_X11_readsPace_23 : g_dc cX11_readsPace 23 (.iadd) 1 24 := ⟨by decide +kernel, rfl⟩
theorem e_X11_readsPace_24 : g_dc cX11_readsPace 24 (.if_icmp .ge 35) 3 27 := ⟨by decide +kernel, rfl⟩
theorem e_X11_readsPace_27 : g_dc cX11_readsPace 27 (.aload_n 0) 1 28 := ⟨by decide +kernel, rfl⟩
theorem e_X11_readsPace_28 : g_dc cX11_readsPace 28 (.bipush 10) 2 30 := ⟨by decide +kernel, rfl⟩
theorem e_X11_readsPace_30 : g_dc cX11_readsPace 30 (.aload_n 0) 1 31 := ⟨by decide +kernel, rfl⟩
theorem e_X11_readsPace_31 : g_dc cX11_readsPace 31 (.getfield 193) 3 34 := ⟨by decide +kernel, rfl⟩
theorem e_X11_readsPace_34 : g_dc cX11_readsPace 34 (.imul) 1 35 := ⟨by decide +kernel, rfl⟩
theorem e_X11_readsPace_35 : g_dc cX11_readsPace 35 (.aload_n 0) 1 36 := ⟨by decide +kernel, rfl⟩
theorem e_X11_readsPace_36 : g_dc cX11_readsPace 36 (.invokevirtual 200) 3 39 := ⟨by decide +kernel, rfl⟩
theorem e_X11_readsPace_39 : g_dc cX11_readsPace 39 (.iadd) 1 40 := ⟨by decide +kernel, rfl⟩
theorem e_X11_readsPace_40 : g_dc cX11_readsPace 40 (.bipush 48) 2 42 := ⟨by decide +kernel, rfl⟩
theorem e_X11_readsPace_42 : g_dc cX11_readsPace 42 (.isub) 1 43 := ⟨by decide +kernel, rfl⟩
theorem e_X11_readsPace_43 : g_dc cX11_readsPace 43 (.putfield 193) 3 46 := ⟨by decide +kernel, rfl⟩
theorem e_X11_readsPace_46 : g_dc cX11_readsPace 46 (.aload_n 0) 1 47 := ⟨by decide +kernel, rfl⟩
theorem e_X11_readsPace_47 : g_dc cX11_readsPace 47 (.aload_n 0) 1 48 := ⟨by decide +kernel, rfl⟩
theorem e_X11_readsPace_48 : g_dc cX11_readsPace 48 (.getfield 190) 3 51 := ⟨by decide +kernel, rfl⟩
theorem e_X11_readsPace_51 : g_dc cX11_readsPace 51 (.iconst 1) 1 52 := ⟨by decide +kernel, rfl⟩
theorem e_X11_readsPace_52 : g_dc cX11_readsPace 52 (.iadd) 1 53 := ⟨by decide +kernel, rfl⟩
theorem e_X11_readsPace_53 : g_dc cX11_readsPace 53 (.putfield 190) 3 56 := ⟨by decide +kernel, rfl⟩
theorem e_X11_readsPace_56 : g_dc cX11_readsPace 56 (.goto (-46)) 3 59 := ⟨by decide +kernel, rfl⟩
theorem e_X11_readsPace_59 : g_dc cX11_readsPace 59 (.aload_n 0) 1 60 := ⟨by decide +kernel, rfl⟩
theorem e_X11_readsPace_60 : g_dc cX11_readsPace 60 (.getfield 193) 3 63 := ⟨by decide +kernel, rfl⟩
theorem e_X11_readsPace_63 : g_dc cX11_readsPace 63 (.bipush 40) 2 65 := ⟨by decide +kernel, rfl⟩
theorem e_X11_readsPace_65 : g_dc cX11_readsPace 65 (.if_icmp .le 12) 3 68 := ⟨by decide +kernel, rfl⟩
theorem e_X11_readsPace_68 : g_dc cX11_readsPace 68 (.aload_n 0) 1 69 := ⟨by decide +kernel, rfl⟩
theorem e_X11_readsPace_69 : g_dc cX11_readsPace 69 (.iconst 3) 1 70 := ⟨by decide +kernel, rfl⟩
theorem e_X11_readsPace_70 : g_dc cX11_readsPace 70 (.iload_n 1) 1 71 := ⟨by decide +kernel, rfl⟩
theorem e_X11_readsPace_71 : g_dc cX11_readsPace 71 (.invokevirtual 204) 3 74 := ⟨by decide +kernel, rfl⟩
theorem e_X11_readsPace_74 : g_dc cX11_readsPace 74 (.ifCond .eq 7) 3 77 := ⟨by decide +kernel, rfl⟩
theorem e_X11_readsPace_77 : g_dc cX11_readsPace 77 (.iconst 1) 1 78 := ⟨by decide +kernel, rfl⟩
theorem e_X11_readsPace_78 : g_dc cX11_readsPace 78 (.goto 4) 3 81 := ⟨by decide +kernel, rfl⟩
theorem e_X11_readsPace_81 : g_dc cX11_readsPace 81 (.iconst 0) 1 82 := ⟨by decide +kernel, rfl⟩
theorem e_X11_readsPace_82 : g_dc cX11_readsPace 82 (.ireturn) 1 83 := ⟨by decide +kernel, rfl⟩
def md_X11_readsPace : List Nat := [15, 17, 18]
def mr_X11_readsPace : List Nat := []
set_option maxHeartbeats 4000000 in
set_option maxRecDepth 100000 in
theorem w_X11_readsPace (l : Launch) (X : gX) (ad : Nat → Nat) (F : Nat → Int32) (R : Nat → Nat → Int32) (hI : g_ok LK_wM F) (hA : g_okR LA_wM R) (hWT : WT F R) (hWC : WC F R) : g_Ci l X yX11_readsPace cX11_readsPace 2 (some .boolean) 3 0 0 [.ref (ad 0)] (wM X ad F R) (fun r w => ∃ (F' : Nat → Int32) (R' : Nat → Nat → Int32), w = wM X ad F' R' ∧ g_ok LK_wM F' ∧ g_okR LA_wM R' ∧ WT F' R' ∧ WC F' R' ∧ g_fr md_X11_readsPace F F' ∧ g_fr mr_X11_readsPace R R' ∧ jv 0 1 r ∧ (F 15).toInt ≤ (F' 15).toInt) := by
  refine g_mi (by decide +kernel) (Nat.le_of_ble_eq_true rfl) (fun E cx hret => ?_)
  refine g_aload_n cx 0 rfl e_X11_readsPace_0 ?_
  refine g_get cx cl_X11 fl_X11_190 0 (.int (F 15)) e_X11_readsPace_1 rfl rfl ?_
  refine g_istore_n cx [(1, .int (F 15)), (0, .ref (ad 0))] e_X11_readsPace_4 (by decide) rfl ?_
  refine g_aload_n cx 1 rfl e_X11_readsPace_5 ?_
  refine g_iconst cx 0 (by decide) e_X11_readsPace_6 ?_
  refine g_put cx cl_X11 fl_X11_193 0 (wM X ad (upd F 18 0) R) e_X11_readsPace_7 rfl rfl rfl rfl (Nat.le_of_ble_eq_true rfl) rfl ?_
  obtain ⟨F1, hF1⟩ : ∃ z, z = upd F 18 0 := ⟨_, rfl⟩
  rw [← hF1]
  have oF1 : g_ok LK_wM F1 := by rw [hF1]; exact g_ok_u hI rfl
  have fF1 : g_fr md_X11_readsPace F F1 := by rw [hF1]; exact g_fr_u (g_fr_rf F) rfl
  have wTF1 : WT F1 R := by rw [hF1]; exact WT_u hWT rfl
  have wCF1 : WC F1 R := by rw [hF1]; exact WC_u hWC rfl
  have J10 : ∀ (N : Nat) (F2 : Nat → Int32), (g_ok LK_wM F2) → (g_fr md_X11_readsPace F F2) → (WT F2 R) → (WC F2 R) → ((F 15).toInt ≤ (F2 15).toInt) → (2147483647 - (F2 15).toInt).toNat < N → G X E 2 0 0 (wM X ad F2 R) [(0, .ref (ad 0)), (1, .int (F 15))] 10 [] := by
    intro N
    induction N with
    | zero => intro F2 oF2 fF2 wTF2 wCF2 zi10_0 hm; exact absurd hm (Nat.not_lt_zero _)
    | succ N ih10 =>
      intro F2 oF2 fF2 wTF2 wCF2 zi10_0 hm10
      refine g_aload_n cx 0 rfl e_X11_readsPace_10 ?_
      refine g_cViW cx [] [] (w_X11_isDigit l X ad F2 R oF2 hA wTF2 wCF2) ml_X11_196 yV_X11_isDigit e_X11_readsPace_11 (by unfold g_rr; decide) (by decide) 0 rfl rfl rfl (Nat.le_of_ble_eq_true rfl) (fun r3 w4 h5 => ?_)
      obtain ⟨rfl, pr3, zx6⟩ := h5
      have J59 : ((F 15).toInt ≤ (F2 15).toInt) → G X E 2 0 0 (wM X ad F2 R) [(0, .ref (ad 0)), (1, .int (F 15))] 59 [] := by
        intro  zi59_0
        refine g_aload_n cx 0 rfl e_X11_readsPace_59 ?_
        refine g_get cx cl_X11 fl_X11_193 0 (.int (F2 18)) e_X11_readsPace_60 rfl rfl ?_
        refine g_bipush cx 40 (by decide) e_X11_readsPace_63 ?_
        have J82 : ∀ (F8 : Nat → Int32) (R9 : Nat → Nat → Int32) (y7 : Int32), (g_ok LK_wM F8) → (g_fr md_X11_readsPace F F8) → (g_okR LA_wM R9) → (g_fr mr_X11_readsPace R R9) → (WT F8 R9) → (WC F8 R9) → (jv 0 1 y7) → ((F 15).toInt ≤ (F8 15).toInt) → G X E 2 0 0 (wM X ad F8 R9) [] 82 [.int y7] := by
          intro F8 R9 y7 oF8 fF8 oR9 fR9 wTF8R9 wCF8R9 py7 zi82_0
          exact hret e_X11_readsPace_82 (Nat.le_of_ble_eq_true rfl) (Nat.le_of_ble_eq_true rfl) (g_narb py7) ⟨F8, R9, rfl, oF8, oR9, wTF8R9, wCF8R9, fF8, fR9, py7, (by have q0 := (g_here_iv F2 R).1; have q1 := (g_here_iv F2 R).2; have q2 := (g_ok_g hI 1 rfl).1; have q3 := (g_ok_g hI 1 rfl).2; have q4 := (g_ok_g hI 2 rfl).1; have q5 := (g_ok_g hI 2 rfl).2; have q6 := (g_ok_g oF2 1 rfl).1; have q7 := (g_ok_g oF2 1 rfl).2; have q8 := (g_ok_g oF2 2 rfl).1; have q9 := (g_ok_g oF2 2 rfl).2; have q10 := (g_ok_g oF8 1 rfl).1; have q11 := (g_ok_g oF8 1 rfl).2; have q12 := zi10_0; have q13 := (@g_here_lt F2 R); have q14 := (congrArg Int32.toInt (show F2 16 = F 16 from (fF2 16 rfl))); have q15 := zi59_0; have q16 := zi82_0; omega)⟩
        refine g_icmp_le cx 77 e_X11_readsPace_65 (by decide) (fun zc10 => ?_) (fun zc10 => ?_)
        · have p11 := gn_le (-2147483648) 40 (gc_le zc10) (jv_t (F2 18)) (jv_k (x := 40) 40 (by decide)) (by decide)
          refine g_iconst cx 1 (by decide) e_X11_readsPace_77 ?_
          refine g_goto cx 82 e_X11_readsPace_78 (by decide) ?_
          refine g_lsub [] [] rfl ?_
          exact J82 F2 R 1 oF2 fF2 hA (g_fr_rf R) wTF2 wCF2 (jv_w (jv_k (x := 1) 1 (by decide)) (by decide)) (by have q0 := (g_here_iv F2 R).1; have q1 := (g_here_iv F2 R).2; have q2 := (g_ok_g hI 1 rfl).1; have q3 := (g_ok_g hI 1 rfl).2; have q4 := (g_ok_g hI 2 rfl).1; have q5 := (g_ok_g hI 2 rfl).2; have q6 := (g_ok_g oF2 1 rfl).1; have q7 := (g_ok_g oF2 1 rfl).2; have q8 := (g_ok_g oF2 2 rfl).1; have q9 := (g_ok_g oF2 2 rfl).2; have q10 := zi10_0; have q11 := (@g_here_lt F2 R); have q12 := (congrArg Int32.toInt (show F2 16 = F 16 from (fF2 16 rfl))); have q13 := zi59_0; omega)
        · have p12 := gn_gt 41 2147483647 (gc_nle zc10) (jv_t (F2 18)) (jv_k (x := 40) 40 (by decide)) (by decide)
          refine g_aload_n cx 0 rfl e_X11_readsPace_68 ?_
          refine g_iconst cx 3 (by decide) e_X11_readsPace_69 ?_
          refine g_iload_n cx 1 rfl e_X11_readsPace_70 ?_
          refine g_cViW cx [.int 3, .int (F 15)] [] (w_X11_wrongAt l X ad F2 R oF2 hA wTF2 wCF2 3 (F 15)) ml_X11_204 yV_X11_wrongAt e_X11_readsPace_71 (by unfold g_rr; decide) (by decide) 0 rfl rfl rfl (Nat.le_of_ble_eq_true rfl) (fun r13 w14 h15 => ?_)
          obtain ⟨F16, R17, rfl, oF16, oR17, wTF16, wCF16, cF16, cR17, pr13⟩ := h15
          have fF16 : g_fr md_X11_readsPace F F16 := g_fr_c fF2 cF16 rfl
          have fR17 : g_fr mr_X11_readsPace R R17 := g_fr_c (g_fr_rf R) cR17 rfl
          refine g_if_eq cx 81 e_X11_readsPace_74 (by decide) (fun zc18 => ?_) (fun zc18 => ?_)
          · refine g_iconst cx 0 (by decide) e_X11_readsPace_81 ?_
            refine g_lsub [] [] rfl ?_
            exact J82 F16 R17 0 oF16 fF16 oR17 fR17 wTF16 wCF16 (jv_w (jv_k (x := 0) 0 (by decide)) (by decide)) (by have q0 := (g_here_iv F2 R).1; have q1 := (g_here_iv F2 R).2; have q2 := (g_ok_g hI 1 rfl).1; have q3 := (g_ok_g hI 1 rfl).2; have q4 := (g_ok_g hI 2 rfl).1; have q5 := (g_ok_g hI 2 rfl).2; have q6 := (g_ok_g oF16 1 rfl).1; have q7 := (g_ok_g oF16 1 rfl).2; have q8 := (g_ok_g oF2 1 rfl).1; have q9 := (g_ok_g oF2 1 rfl).2; have q10 := (g_ok_g oF2 2 rfl).1; have q11 := (g_ok_g oF2 2 rfl).2; have q12 := zi10_0; have q13 := (@g_here_lt F2 R); have q14 := (congrArg Int32.toInt (show F2 16 = F 16 from (fF2 16 rfl))); have q15 := zi59_0; have q16 := (congrArg Int32.toInt (show F16 15 = F2 15 from (cF16 15 rfl))); have q17 := (congrArg Int32.toInt (show F16 15 = F2 15 from (cF16 15 rfl))); omega)
          · exact (gf_ne (gc_ne zc18) pr13 (jv_k (x := 0) 0 (by decide)) (by decide)).elim
      refine g_if_eq cx 59 e_X11_readsPace_14 (by decide) (fun zc19 => ?_) (fun zc19 => ?_)
      · have p20 := gn_eq 0 0 (gc_eq zc19) pr3 (jv_k (x := 0) 0 (by decide)) (by decide)
        exact J59  (by have q0 := (g_here_iv F2 R).1; have q1 := (g_here_iv F2 R).2; have q2 := (g_ok_g hI 1 rfl).1; have q3 := (g_ok_g hI 1 rfl).2; have q4 := (g_ok_g hI 2 rfl).1; have q5 := (g_ok_g hI 2 rfl).2; have q6 := (g_ok_g oF2 1 rfl).1; have q7 := (g_ok_g oF2 1 rfl).2; have q8 := (g_ok_g oF2 2 rfl).1; have q9 := (g_ok_g oF2 2 rfl).2; have q10 := zi10_0; have q11 := (@g_here_lt F2 R); have q12 := (congrArg Int32.toInt (show F2 16 = F 16 from (fF2 16 rfl))); omega)
      · have p21 := gn_neL 1 1 (gc_ne zc19) pr3 (jv_k (x := 0) 0 (by decide)) (by decide)
        refine g_aload_n cx 0 rfl e_X11_readsPace_17 ?_
        refine g_get cx cl_X11 fl_X11_190 0 (.int (F2 15)) e_X11_readsPace_18 rfl rfl ?_
        refine g_iload_n cx 1 rfl e_X11_readsPace_21 ?_
        refine g_iconst cx 2 (by decide) e_X11_readsPace_22 ?_
        refine g_iadd cx e_X11_readsPace_23 ?_
        refine g_topi (fun x22 ex22 => ?_)
        have zx22 := jv_add 2 222 ex22 (g_ok_g hI 1 rfl) (jv_k (x := 2) 2 (by decide)) (by decide)
        refine g_icmp_ge cx 59 e_X11_readsPace_24 (by decide) (fun zc23 => ?_) (fun zc23 => ?_)
        · have p24 := gn_le 2 220 (gc_le zc23) zx22.2 (g_ok_g oF2 1 rfl) (by decide)
          have p25 : jv 0 218 (F 15) := ⟨by have q0 := (jv_k (x := 2) 2 (by decide)).1; have q1 := (jv_k (x := 2) 2 (by decide)).2; have q2 := (g_ok_g hI 1 rfl).1; have q3 := (g_ok_g hI 1 rfl).2; have q4 := (g_ok_g oF2 1 rfl).1; have q5 := (g_ok_g oF2 1 rfl).2; have q6 := p24.1; have q7 := p24.2; have q8 := zi10_0; have q9 := (g_eq0 zx22.1); have q10 := (gc_le zc23); omega, by have q0 := (jv_k (x := 2) 2 (by decide)).1; have q1 := (jv_k (x := 2) 2 (by decide)).2; have q2 := (g_ok_g hI 1 rfl).1; have q3 := (g_ok_g hI 1 rfl).2; have q4 := (g_ok_g oF2 1 rfl).1; have q5 := (g_ok_g oF2 1 rfl).2; have q6 := p24.1; have q7 := p24.2; have q8 := zi10_0; have q9 := (g_eq0 zx22.1); have q10 := (gc_le zc23); omega⟩
          have p26 := gn_ge 2 220 (gc_le zc23) (g_ok_g oF2 1 rfl) zx22.2 (by decide)
          exact J59  (by have q0 := (g_here_iv F2 R).1; have q1 := (g_here_iv F2 R).2; have q2 := (jv_k (x := 2) 2 (by decide)).1; have q3 := (jv_k (x := 2) 2 (by decide)).2; have q4 := p25.1; have q5 := p25.2; have q6 := (g_ok_g hI 2 rfl).1; have q7 := (g_ok_g hI 2 rfl).2; have q8 := p26.1; have q9 := p26.2; have q10 := (g_ok_g oF2 2 rfl).1; have q11 := (g_ok_g oF2 2 rfl).2; have q12 := p24.1; have q13 := p24.2; have q14 := zi10_0; have q15 := (@g_here_lt F2 R); have q16 := (congrArg Int32.toInt (show F2 16 = F 16 from (fF2 16 rfl))); have q17 := (zx6 zc19); have q18 := (g_eq0 zx22.1); have q19 := (gc_le zc23); omega)
        · refine g_aload_n cx 0 rfl e_X11_readsPace_27 ?_
          refine g_bipush cx 10 (by decide) e_X11_readsPace_28 ?_
          refine g_aload_n cx 0 rfl e_X11_readsPace_30 ?_
          refine g_get cx cl_X11 fl_X11_193 0 (.int (F2 18)) e_X11_readsPace_31 rfl rfl ?_
          refine g_imul cx e_X11_readsPace_34 ?_
          refine g_topi (fun x27 ex27 => ?_)
          refine g_aload_n cx 0 rfl e_X11_readsPace_35 ?_
          refine g_cViW cx [] [.int x27, .ref (ad 0)] (w_X11_here l X ad F2 R oF2 hA wTF2 wCF2) ml_X11_200 yV_X11_here e_X11_readsPace_36 (by unfold g_rr; decide) (by decide) 0 rfl rfl rfl (Nat.le_of_ble_eq_true rfl) (fun r28 w29 h30 => ?_)
          obtain ⟨rfl, pr28, zx31⟩ := h30
          refine g_iadd cx e_X11_readsPace_39 ?_
          refine g_topi (fun x32 ex32 => ?_)
          refine g_bipush cx 48 (by decide) e_X11_readsPace_40 ?_
          refine g_isub cx e_X11_readsPace_42 ?_
          refine g_topi (fun x33 ex33 => ?_)
          refine g_put cx cl_X11 fl_X11_193 0 (wM X ad (upd F2 18 x33) R) e_X11_readsPace_43 rfl rfl rfl rfl (Nat.le_of_ble_eq_true rfl) rfl ?_
          obtain ⟨F34, hF34⟩ : ∃ z, z = upd F2 18 x33 := ⟨_, rfl⟩
          rw [← hF34]
          have oF34 : g_ok LK_wM F34 := by rw [hF34]; exact g_ok_u oF2 rfl
          have fF34 : g_fr md_X11_readsPace F F34 := by rw [hF34]; exact g_fr_u fF2 rfl
          have wTF34 : WT F34 R := by rw [hF34]; exact WT_u wTF2 rfl
          have wCF34 : WC F34 R := by rw [hF34]; exact WC_u wCF2 rfl
          refine g_aload_n cx 0 rfl e_X11_readsPace_46 ?_
          refine g_aload_n cx 0 rfl e_X11_readsPace_47 ?_
          refine g_get cx cl_X11 fl_X11_190 0 (.int (F34 15)) e_X11_readsPace_48 rfl rfl ?_
          refine g_toi (F2 15) (g_pu2 hF34 rfl) ?_
          refine g_iconst cx 1 (by decide) e_X11_readsPace_51 ?_
          refine g_iadd cx e_X11_readsPace_52 ?_
          refine g_topi (fun x35 ex35 => ?_)
          have zx35 := jv_add 1 221 ex35 (g_ok_g oF2 1 rfl) (jv_k (x := 1) 1 (by decide)) (by decide)
          refine g_put cx cl_X11 fl_X11_190 0 (wM X ad (upd F34 15 x35) R) e_X11_readsPace_53 rfl rfl rfl rfl (Nat.le_of_ble_eq_true rfl) rfl ?_
          obtain ⟨F36, hF36⟩ : ∃ z, z = upd F34 15 x35 := ⟨_, rfl⟩
          rw [← hF36]
          have oF36 : g_ok LK_wM F36 := by rw [hF36]; exact g_ok_p oF34 (show jv 0 220 _ from ⟨by have q0 := (g_here_iv F2 R).1; have q1 := (g_here_iv F2 R).2; have q2 := (jv_k (x := 1) 1 (by decide)).1; have q3 := (jv_k (x := 1) 1 (by decide)).2; have q4 := (jv_k (x := 2) 2 (by decide)).1; have q5 := (jv_k (x := 2) 2 (by decide)).2; have q6 := (g_ok_g hI 1 rfl).1; have q7 := (g_ok_g hI 1 rfl).2; have q8 := (g_ok_g hI 2 rfl).1; have q9 := (g_ok_g hI 2 rfl).2; have q10 := (g_ok_g oF2 1 rfl).1; have q11 := (g_ok_g oF2 1 rfl).2; have q12 := (g_ok_g oF2 2 rfl).1; have q13 := (g_ok_g oF2 2 rfl).2; have q14 := pr28.1; have q15 := pr28.2; have q16 := zx22.2.1; have q17 := zx22.2.2; have q18 := zx35.2.1; have q19 := zx35.2.2; have q20 := zi10_0; have q21 := (@g_here_lt F2 R); have q22 := (congrArg Int32.toInt (show F2 16 = F 16 from (fF2 16 rfl))); have q23 := (zx6 zc19); have q24 := (g_eq0 zx22.1); have q25 := (gc_nle zc23); have q26 := (congrArg Int32.toInt zx31); have q27 := (@g_here_lt F2 R); have q28 := (congrArg Int32.toInt (show F2 16 = F 16 from (fF2 16 rfl))); have q29 := (g_eq0 zx35.1); omega, by have q0 := (g_here_iv F2 R).1; have q1 := (g_here_iv F2 R).2; have q2 := (jv_k (x := 1) 1 (by decide)).1; have q3 := (jv_k (x := 1) 1 (by decide)).2; have q4 := (jv_k (x := 2) 2 (by decide)).1; have q5 := (jv_k (x := 2) 2 (by decide)).2; have q6 := (g_ok_g hI 1 rfl).1; have q7 := (g_ok_g hI 1 rfl).2; have q8 := (g_ok_g hI 2 rfl).1; have q9 := (g_ok_g hI 2 rfl).2; have q10 := (g_ok_g oF2 1 rfl).1; have q11 := (g_ok_g oF2 1 rfl).2; have q12 := (g_ok_g oF2 2 rfl).1; have q13 := (g_ok_g oF2 2 rfl).2; have q14 := pr28.1; have q15 := pr28.2; have q16 := zx22.2.1; have q17 := zx22.2.2; have q18 := zx35.2.1; have q19 := zx35.2.2; have q20 := zi10_0; have q21 := (@g_here_lt F2 R); have q22 := (congrArg Int32.toInt (show F2 16 = F 16 from (fF2 16 rfl))); have q23 := (zx6 zc19); have q24 := (g_eq0 zx22.1); have q25 := (gc_nle zc23); have q26 := (congrArg Int32.toInt zx31); have q27 := (@g_here_lt F2 R); have q28 := (congrArg Int32.toInt (show F2 16 = F 16 from (fF2 16 rfl))); have q29 := (g_eq0 zx35.1); omega⟩) rfl
          have fF36 : g_fr md_X11_readsPace F F36 := by rw [hF36]; exact g_fr_u fF34 rfl
          have wTF36 : WT F36 R := by rw [hF36]; exact WT_u wTF34 rfl
          have wCF36 : WC F36 R := by rw [hF36]; exact WC_u wCF34 rfl
          refine g_goto cx 10 e_X11_readsPace_56 (by decide) ?_
          exact ih10 F36 oF36 fF36 wTF36 wCF36 (by have q0 := (g_here_iv F2 R).1; have q1 := (g_here_iv F2 R).2; have q2 := (jv_k (x := 1) 1 (by decide)).1; have q3 := (jv_k (x := 1) 1 (by decide)).2; have q4 := (jv_k (x := 2) 2 (by decide)).1; have q5 := (jv_k (x := 2) 2 (by decide)).2; have q6 := (g_ok_g hI 1 rfl).1; have q7 := (g_ok_g hI 1 rfl).2; have q8 := (g_ok_g hI 2 rfl).1; have q9 := (g_ok_g hI 2 rfl).2; have q10 := (g_ok_g oF2 1 rfl).1; have q11 := (g_ok_g oF2 1 rfl).2; have q12 := (g_ok_g oF2 2 rfl).1; have q13 := (g_ok_g oF2 2 rfl).2; have q14 := (g_ok_g oF36 1 rfl).1; have q15 := (g_ok_g oF36 1 rfl).2; have q16 := pr28.1; have q17 := pr28.2; have q18 := zx22.2.1; have q19 := zx22.2.2; have q20 := zx35.2.1; have q21 := zx35.2.2; have q22 := zi10_0; have q23 := (@g_here_lt F2 R); have q24 := (congrArg Int32.toInt (show F2 16 = F 16 from (fF2 16 rfl))); have q25 := (zx6 zc19); have q26 := (g_eq0 zx22.1); have q27 := (gc_nle zc23); have q28 := (congrArg Int32.toInt zx31); have q29 := (@g_here_lt F2 R); have q30 := (congrArg Int32.toInt (show F2 16 = F 16 from (fF2 16 rfl))); have q31 := (g_eq0 zx35.1); have q32 := (congrArg Int32.toInt (show F36 15 = x35 from (g_pu1 hF36))); have q33 := (congrArg Int32.toInt (show F36 15 = x35 from (g_pu1 hF36))); omega) (Nat.lt_of_lt_of_le (show (2147483647 - (F36 15).toInt).toNat < (2147483647 - (F2 15).toInt).toNat from by have q0 := (g_here_iv F2 R).1; have q1 := (g_here_iv F2 R).2; have q2 := (jv_k (x := 1) 1 (by decide)).1; have q3 := (jv_k (x := 1) 1 (by decide)).2; have q4 := (jv_k (x := 2) 2 (by decide)).1; have q5 := (jv_k (x := 2) 2 (by decide)).2; have q6 := (g_ok_g hI 1 rfl).1; have q7 := (g_ok_g hI 1 rfl).2; have q8 := (g_ok_g hI 2 rfl).1; have q9 := (g_ok_g hI 2 rfl).2; have q10 := (g_ok_g oF2 1 rfl).1; have q11 := (g_ok_g oF2 1 rfl).2; have q12 := (g_ok_g oF2 2 rfl).1; have q13 := (g_ok_g oF2 2 rfl).2; have q14 := (g_ok_g oF36 1 rfl).1; have q15 := (g_ok_g oF36 1 rfl).2; have q16 := pr28.1; have q17 := pr28.2; have q18 := zx22.2.1; have q19 := zx22.2.2; have q20 := zx35.2.1; have q21 := zx35.2.2; have q22 := zi10_0; have q23 := (@g_here_lt F2 R); have q24 := (congrArg Int32.toInt (show F2 16 = F 16 from (fF2 16 rfl))); have q25 := (zx6 zc19); have q26 := (g_eq0 zx22.1); have q27 := (gc_nle zc23); have q28 := (congrArg Int32.toInt zx31); have q29 := (@g_here_lt F2 R); have q30 := (congrArg Int32.toInt (show F2 16 = F 16 from (fF2 16 rfl))); have q31 := (g_eq0 zx35.1); have q32 := (congrArg Int32.toInt (show F36 15 = x35 from (g_pu1 hF36))); have q33 := (congrArg Int32.toInt (show F36 15 = x35 from (g_pu1 hF36))); have q34 := (congrArg Int32.toInt (show F36 15 = x35 from (g_pu1 hF36))); have q35 := (congrArg Int32.toInt (show F36 15 = x35 from (g_pu1 hF36))); omega) (Nat.le_of_lt_succ hm10))
  refine g_lsub [1, 0] [(0, .ref (ad 0)), (1, .int (F 15))] rfl ?_
  exact J10 _ F1 oF1 fF1 wTF1 wCF1 (by have q0 := (g_ok_g hI 1 rfl).1; have q1 := (g_ok_g hI 1 rfl).2; have q2 := (g_ok_g oF1 1 rfl).1; have q3 := (g_ok_g oF1 1 rfl).2; have q4 := (congrArg Int32.toInt (show F1 15 = F 15 from (g_pu2 hF1 rfl))); have q5 := (congrArg Int32.toInt (show F1 15 = F 15 from (g_pu2 hF1 rfl))); omega) (Nat.lt_succ_self _)
theorem e_X11_readsStep_0 : g_dc cX11_readsStep 0 (.aload_n 0) 1 1 := ⟨by decide +kernel, rfl⟩
theorem e_X11_readsStep_1 : g_dc cX11_readsStep 1 (.invokevirtual 196) 3 4 := ⟨by decide +kernel, rfl⟩
theorem e_X11_readsStep_4 : g_dc cX11_readsStep 4 (.ifCond .ne 13) 3 7 := ⟨by decide +kernel, rfl⟩
theorem e_X11_readsStep_7 : g_dc cX11_readsStep 7 (.aload_n 0) 1 8 := ⟨by decide +kernel, rfl⟩
theorem e_X11_readsStep_8 : g_dc cX11_readsStep 8 (.iconst 1) 1 9 := ⟨by decide +kernel, rfl⟩
theorem e_X11_readsStep_9 : g_dc cX11_readsStep 9 (.aload_n 0) 1 10 := ⟨by decide +kernel, rfl⟩
theorem e_X11_readsStep_10 : g_dc cX11_readsStep 10 (.getfield 190) 3 13 := ⟨by decide +kernel, rfl⟩
theorem e_X11_readsStep_13 : g_dc cX11_readsStep 13 (.invokevirtual 204) 3 16 := ⟨by decide +kernel, rfl⟩
theorem e_X11_readsStep_16 : g_dc cX11_readsStep 16 (.ireturn) 1 17 := ⟨by decide +kernel, rfl⟩
theorem e_X11_readsStep_17 : g_dc cX11_readsStep 17 (.aload_n 0) 1 18 := ⟨by decide +kernel, rfl⟩
theorem e_X11_readsStep_18 : g_dc cX11_readsStep 18 (.getfield 207) 3 21 := ⟨by decide +kernel, rfl⟩
theorem e_X11_readsStep_21 : g_dc cX11_readsStep 21 (.bipush 20) 2 23 := ⟨by decide +kernel, rfl⟩
theorem e_X11_readsStep_23 : g_dc cX11_readsStep 23 (.if_icmp .ne 13) 3 26 := ⟨by decide +kernel, rfl⟩
theorem e_X11_readsStep_26 : g_dc cX11_readsStep 26 (.aload_n 0) 1 27 := ⟨by decide +kernel, rfl⟩
theorem e_X11_readsStep_27 : g_dc cX11_readsStep 27 (.iconst 4) 1 28 := ⟨by decide +kernel, rfl⟩
theorem e_X11_readsStep_28 : g_dc cX11_readsStep 28 (.aload_n 0) 1 29 := ⟨by decide +kernel, rfl⟩
theorem e_X11_readsStep_29 : g_dc cX11_readsStep 29 (.getfield 190) 3 32 := ⟨by decide +kernel, rfl⟩
theorem e_X11_readsStep_32 : g_dc cX11_readsStep 32 (.invokevirtual 204) 3 35 := ⟨by decide +kernel, rfl⟩
theorem e_X11_readsStep_35 : g_dc cX11_readsStep 35 (.ireturn) 1 36 := ⟨by decide +kernel, rfl⟩
theorem e_X11_readsStep_36 : g_dc cX11_readsStep 36 (.aload_n 0) 1 37 := ⟨by decide +kernel, rfl⟩
theorem e_X11_readsStep_37 : g_dc cX11_readsStep 37 (.getfield 190) 3 40 := ⟨by decide +kernel, rfl⟩
theorem e_X11_readsStep_40 : g_dc cX11_readsStep 40 (.istore_n 1) 1 41 := ⟨by decide +kernel, rfl⟩
theorem e_X11_readsStep_41 : g_dc cX11_readsStep 41 (.aload_n 0) 1 42 := ⟨by decide +kernel, rfl⟩
theorem e_X11_readsStep_42 : g_dc cX11_readsStep 42 (.invokevirtual 210) 3 45 := ⟨by decide +kernel, rfl⟩
theorem e_X11_readsStep_45 : g_dc cX11_readsStep 45 (.ifCond .ne 5) 3 48 := ⟨by decide +kernel, rfl⟩
theorem e_X11_readsStep_48 : g_dc cX11_readsStep 48 (.iconst 0) 1 49 := ⟨by decide +kernel, rfl⟩
theorem e_X11_readsStep_49 : g_dc cX11_readsStep 49 (.ireturn) 1 50 := ⟨by decide +kernel, rfl⟩
theorem e_X11_readsStep_50 : g_dc cX11_readsStep 50 (.iconst 1) 1 51 := ⟨by decide +kernel, rfl⟩
theorem e_X11_readsStep_51 : g_dc cX11_readsStep 51 (.istore_n 2) 1 52 := ⟨by decide +kernel, rfl⟩
theorem e_X11_readsStep_52 : g_dc cX11_readsStep 52 (.aload_n 0) 1 53 := ⟨by decide +kernel, rfl⟩
theorem e_X11_readsStep_53 : g_dc cX11_readsStep 53 (.invokevirtual 200) 3 56 := ⟨by decide +kernel, rfl⟩
theorem e_X11_readsStep_56 : g_dc cX11_readsStep 56 (.bipush 42) 2 58 := ⟨by decide +kernel, rfl⟩
theorem e_X11_readsStep_58 : g_dc cX11_readsStep 58 (.if_icmp .ne 57) 3 61 := ⟨by decide +kernel, rfl⟩
theorem e_X11_readsStep_61 : g_dc cX11_readsStep 61 (.aload_n 0) 1 62 := ⟨by decide +kernel, rfl⟩
theorem e_X11_readsStep_62 : g_dc cX11_readsStep 62 (.aload_n 0) 1 63 := ⟨by decide +kernel, rfl⟩
theorem e_X11_readsStep_63 : g_dc cX11_readsStep 63 (.getfield 190) 3 66 := ⟨by decide +kernel, rfl⟩
theorem e_X11_readsStep_66 : g_dc cX11_readsStep 66 (.iconst 1) 1 67 := ⟨by decide +kernel, rfl⟩
theorem e_X11_readsStep_67 : g_dc cX11_readsStep 67 (.iadd) 1 68 := ⟨by decide +kernel, rfl⟩
theorem e_X11_readsStep_68 : g_dc cX11_readsStep 68 (.putfield 190) 3 71 := ⟨by decide +kernel, rfl⟩
theorem e_X11_readsStep_71 : g_dc cX11_readsStep 71 (.aload_n 0) 1 72 := ⟨by decide +kernel, rfl⟩
theorem e_X11_readsStep_72 : g_dc cX11_readsStep 72 (.invokevirtual 196) 3 75 := ⟨by decide +kernel, rfl⟩
theorem e_X11_readsStep_75 : g_dc cX11_readsStep 75 (.ifCond .eq 12) 3 78 := ⟨by decide +kernel, rfl⟩
theorem e_X11_readsStep_78 : g_dc cX11_readsStep 78 (.aload_n 0) 1 79 := ⟨by decide +kernel, rfl⟩
theorem e_X11_readsStep_79 : g_dc cX11_readsStep 79 (.invokevirtual 200) 3 82 := ⟨by decide +kernel, rfl⟩
theorem e_X11_readsStep_82 : g_dc cX11_readsStep 82 (.bipush 50) 2 84 := ⟨by decide +kernel, rfl⟩
theorem e_X11_readsStep_84 : g_dc cX11_readsStep 84 (.if_icmp .ge 13) 3 87 := ⟨by decide +kernel, rfl⟩
theorem e_X11_readsStep_87 : g_dc cX11_readsStep 87 (.aload_n 0) 1 88 := ⟨by decide +kernel, rfl⟩
theorem e_X11_readsStep_88 : g_dc cX11_readsStep 88 (.iconst 1) 1 89 := ⟨by decide +kernel, rfl⟩
theorem e_X11_readsStep_89 : g_dc cX11_readsStep 89 (.aload_n 0) 1 90 := ⟨by decide +kernel, rfl⟩
theorem e_X11_readsStep_90 : g_dc cX11_readsStep 90 (.getfield 190) 3 93 := ⟨by decide +kernel, rfl⟩
theorem e_X11_readsStep_93 : g_dc cX11_readsStep 93 (.invokevirtual 204) 3 96 := ⟨by decide +kernel, rfl⟩
theorem e_X11_readsStep_96 : g_dc cX11_readsStep 96 (.ireturn) 1 97 := ⟨by decide +kernel, rfl⟩
theorem e_X11_readsStep_97 : g_dc cX11_readsStep 97 (.aload_n 0) 1 98 := ⟨by decide +kernel, rfl⟩
theorem e_X11_readsStep_98 : g_dc cX11_readsStep 98 (.invokevirtual 200) 3 101 := ⟨by decide +kernel, rfl⟩
theorem e_X11_readsStep_101 : g_dc cX11_readsStep 101 (.bipush 48) 2 103 := ⟨by decide +kernel, rfl⟩
theorem e_X11_readsStep_103 : g_dc cX11_readsStep 103 (.isub) 1 104 := ⟨by decide +kernel, rfl⟩
theorem e_X11_readsStep_104 : g_dc cX11_readsStep 104 (.istore_n 2) 1 105 := ⟨by decide +kernel, rfl⟩
theorem e_X11_readsStep_105 : g_dc cX11_readsStep 105 (.aload_n 0) 1 106 := ⟨by decide +kernel, rfl⟩
theorem e_X11_readsStep_106 : g_dc cX11_readsStep 106 (.aload_n 0) 1 107 := ⟨by decide +kernel, rfl⟩
theorem e_X11_readsStep_107 : g_dc cX11_readsStep 107 (.getfield 190) 3 110 := ⟨by decide +kernel, rfl⟩
theorem e_X11_readsStep_110 : g_dc cX11_readsStep 110 (.iconst 1) 1 111 := ⟨by decide +kernel, rfl⟩
theorem e_X11_readsStep_111 : g_dc cX11_readsStep 111 (.iadd) 1 112 := ⟨by decide +kernel, rfl⟩
theorem e_X11_readsStep_112 : g_dc cX11_readsStep 112 (.putfield 190) 3 115 := ⟨by decide +kernel, rfl⟩
theorem e_X11_readsStep_115 : g_dc cX11_readsStep 115 (.aload_n 0) 1 116 := ⟨by decide +kernel, rfl⟩
theorem e_X11_readsStep_116 : g_dc cX11_readsStep 116 (.getfield 213) 3 119 := ⟨by decide +kernel, rfl⟩
theorem e_X11_readsStep_119 : g_dc cX11_readsStep 119 (.iload_n 2) 1 120 := ⟨by decide +kernel, rfl⟩
theorem e_X11_readsStep_120 : g_dc cX11_readsStep 120 (.iadd) 1 121 := ⟨by decide +kernel, rfl⟩
theorem e_X11_readsStep_121 : g_dc cX11_readsStep 121 (.bipush 60) 2 123 := ⟨by decide +kernel, rfl⟩
theorem e_X11_readsStep_123 : g_dc cX11_readsStep 123 (.if_icmp .le 11) 3 126 := ⟨by decide +kernel, rfl⟩
theorem e_X11_readsStep_126 : g_dc cX11_readsStep 126 (.aload_n 0) 1 127 := ⟨by decide +kernel, rfl⟩
theorem e_X11_readsStep_127 : g_dc cX11_readsStep 127 (.bipush 6) 2 129 := ⟨by decide +kernel, rfl⟩
theorem e_X11_readsStep_129 : g_dc cX11_readsStep 129 (.iload_n 1) 1 130 := ⟨by decide +kernel, rfl⟩
theorem e_X11_readsStep_130 : g_dc cX11_readsStep 130 (.invokevirtual 204) 3 133 := ⟨by decide +kernel, rfl⟩
theorem e_X11_readsStep_133 : g_dc cX11_readsStep 133 (.ireturn) 1 134 := ⟨by decide +kernel, rfl⟩
theorem e_X11_readsStep_134 : g_dc cX11_readsStep 134 (.iconst 0) 1 135 := ⟨by decide +kernel, rfl⟩
theorem e_X11_readsStep_135 : g_dc cX11_readsStep 135 (.istore_n 3) 1 136 := ⟨by decide +kernel, rfl⟩
theorem e_X11_readsStep_136 : g_dc cX11_readsStep 136 (.iload_n 3) 1 137 := ⟨by decide +kernel, rfl⟩
theorem e_X11_readsStep_137 : g_dc cX11_readsStep 137 (.iload_n 2) 1 138 := ⟨by decide +kernel, rfl⟩
theorem e_X11_readsStep_138 : g_dc cX11_readsStep 138 (.if_icmp .ge 24) 3 141 := ⟨by decide +kernel, rfl⟩
theorem e_X11_readsStep_141 : g_dc cX11_readsStep 141 (.aload_n 0) 1 142 := ⟨by decide +kernel, rfl⟩
theorem e_X11_readsStep_142 : g_dc cX11_readsStep 142 (.getfield 41) 3 145 := ⟨by decide +kernel, rfl⟩
theorem e_X11_readsStep_145 : g_dc cX11_readsStep 145 (.aload_n 0) 1 146 := ⟨by decide +kernel, rfl⟩
theorem e_X11_readsStep_146 : g_dc cX11_readsStep 146 (.getfield 213) 3 149 := ⟨by decide +kernel, rfl⟩
theorem e_X11_readsStep_149 : g_dc cX11_readsStep 149 (.iload_n 3) 1 150 := ⟨by decide +kernel, rfl⟩
theorem e_X11_readsStep_150 : g_dc cX11_readsStep 150 (.iadd) 1 151 := ⟨by decide +kernel, rfl⟩
theorem e_X11_readsStep_151 : g_dc cX11_readsStep 151 (.aload_n 0) 1 152 := ⟨by decide +kernel, rfl⟩
theorem e_X11_readsStep_152 : g_dc cX11_readsStep 152 (.getfield 193) 3 155 := ⟨by decide +kernel, rfl⟩
theorem e_X11_readsStep_155 : g_dc cX11_readsStep 155 (.iastore) 1 156 := ⟨by decide +kernel, rfl⟩
theorem e_X11_readsStep_156 : g_dc cX11_readsStep 156 (.iinc 3 1) 3 159 := ⟨by decide +kernel, rfl⟩
theorem e_X11_readsStep_159 : g_dc cX11_readsStep 159 (.goto (-23)) 3 162 := ⟨by decide +kernel, rfl⟩
theorem e_X11_readsStep_162 : g_dc cX11_readsStep 162 (.aload_n 0) 1 163 := ⟨by decide +kernel, rfl⟩
theorem e_X11_readsStep_163 : g_dc cX11_readsStep 163 (.aload_n 0) 1 164 := ⟨by decide +kernel, rfl⟩
theorem e_X11_readsStep_164 : g_dc cX11_readsStep 164 (.getfield 213) 3 167 := ⟨by decide +kernel, rfl⟩
theorem e_X11_readsStep_167 : g_dc cX11_readsStep 167 (.iload_n 2) 1 168 := ⟨by decide +kernel, rfl⟩
theorem e_X11_readsStep_168 : g_dc cX11_readsStep 168 (.iadd) 1 169 := ⟨by decide +kernel, rfl⟩
theorem e_X11_readsStep_169 : g_dc cX11_readsStep 169 (.putfield 213) 3 172 := ⟨by decide +kernel, rfl⟩
theorem e_X11_readsStep_172 : g_dc cX11_readsStep 172 (.aload_n 0) 1 173 := ⟨by decide +kernel, rfl⟩
theorem e_X11_readsStep_173 : g_dc cX11_readsStep 173 (.aload_n 0) 1 174 := ⟨by decide +kernel, rfl⟩
theorem e_X11_readsStep_174 : g_dc cX11_readsStep 174 (.getfield 207) 3 177 := ⟨by decide +kernel, rfl⟩
theorem e_X11_readsStep_177 : g_dc cX11_readsStep 177 (.iconst 1) 1 178 := ⟨by decide +kernel, rfl⟩
theorem e_X11_readsStep_178 : g_dc cX11_readsStep 178 (.iadd) 1 179 := ⟨by decide +kernel, rfl⟩
theorem e_X11_readsStep_179 : g_dc cX11_readsStep 179 (.putfield 207) 3 182 := ⟨by decide +kernel, rfl⟩
theorem e_X11_readsStep_182 : g_dc cX11_readsStep 182 (.iconst 1) 1 183 := ⟨by decide +kernel, rfl⟩
theorem e_X11_readsStep_183 : g_dc cX11_readsStep 183 (.ireturn) 1 184 := ⟨by decide +kernel, rfl⟩
def md_X11_readsStep : List Nat := [15, 17, 18, 20, 21]
def mr_X11_readsStep : List Nat := [11]
set_option maxHeartbeats 4000000 in
set_option maxRecDepth 100000 in
theorem w_X11_readsStep (l : Launch) (X : gX) (ad : Nat → Nat) (F : Nat → Int32) (R : Nat → Nat → Int32) (hI : g_ok LK_wM F) (hA : g_okR LA_wM R) (hWT : WT F R) (hWC : WC F R) : g_Ci l X yX11_readsStep cX11_readsStep 4 (some .boolean) 4 0 0 [.ref (ad 0)] (wM X ad F R) (fun r w => ∃ (F' : Nat → Int32) (R' : Nat → Nat → Int32), w = wM X ad F' R' ∧ g_ok LK_wM F' ∧ g_okR LA_wM R' ∧ WT F' R' ∧ WC F' R' ∧ g_fr md_X11_readsStep F F' ∧ g_fr mr_X11_readsStep R R' ∧ jv 0 1 r ∧ (F 15).toInt ≤ (F' 15).toInt) := by
  refine g_mi (by decide +kernel) (Nat.le_of_ble_eq_true rfl) (fun E cx hret => ?_)
  refine g_aload_n cx 0 rfl e_X11_readsStep_0 ?_
  refine g_cViW cx [] [] (w_X11_isDigit l X ad F R hI hA hWT hWC) ml_X11_196 yV_X11_isDigit e_X11_readsStep_1 (by unfold g_rr; decide) (by decide) 0 rfl rfl rfl (Nat.le_of_ble_eq_true rfl) (fun r1 w2 h3 => ?_)
  obtain ⟨rfl, pr1, zx4⟩ := h3
  refine g_if_ne cx 17 e_X11_readsStep_4 (by decide) (fun zc5 => ?_) (fun zc5 => ?_)
  · have p6 := gn_neL 1 1 (gc_ne zc5) pr1 (jv_k (x := 0) 0 (by decide)) (by decide)
    refine g_aload_n cx 0 rfl e_X11_readsStep_17 ?_
    refine g_get cx cl_X11 fl_X11_207 0 (.int (F 21)) e_X11_readsStep_18 rfl rfl ?_
    refine g_bipush cx 20 (by decide) e_X11_readsStep_21 ?_
    refine g_icmp_ne cx 36 e_X11_readsStep_23 (by decide) (fun zc7 => ?_) (fun zc7 => ?_)
    · have p8 := gn_neH 0 19 (gc_ne zc7) (g_ok_g hI 5 rfl) (jv_k (x := 20) 20 (by decide)) (by decide)
      refine g_aload_n cx 0 rfl e_X11_readsStep_36 ?_
      refine g_get cx cl_X11 fl_X11_190 0 (.int (F 15)) e_X11_readsStep_37 rfl rfl ?_
      refine g_istore_n cx [(1, .int (F 15)), (0, .ref (ad 0))] e_X11_readsStep_40 (by decide) rfl ?_
      refine g_aload_n cx 1 rfl e_X11_readsStep_41 ?_
      refine g_cViW cx [] [] (w_X11_readsPace l X ad F R hI hA hWT hWC) ml_X11_210 yV_X11_readsPace e_X11_readsStep_42 (by unfold g_rr; decide) (by decide) 0 rfl rfl rfl (Nat.le_of_ble_eq_true rfl) (fun r9 w10 h11 => ?_)
      obtain ⟨F13, R14, rfl, oF13, oR14, wTF13, wCF13, cF13, cR14, pr9, zx12⟩ := h11
      have fF13 : g_fr md_X11_readsStep F F13 := g_fr_c (g_fr_rf F) cF13 rfl
      have fR14 : g_fr mr_X11_readsStep R R14 := g_fr_c (g_fr_rf R) cR14 rfl
      refine g_if_ne cx 50 e_X11_readsStep_45 (by decide) (fun zc15 => ?_) (fun zc15 => ?_)
      · have p16 := gn_neL 1 1 (gc_ne zc15) pr9 (jv_k (x := 0) 0 (by decide)) (by decide)
        refine g_iconst cx 1 (by decide) e_X11_readsStep_50 ?_
        refine g_istore_n cx [(2, .int 1), (1, .int (F 15)), (0, .ref (ad 0))] e_X11_readsStep_51 (by decide) rfl ?_
        refine g_aload_n cx 2 rfl e_X11_readsStep_52 ?_
        refine g_cViW cx [] [] (w_X11_here l X ad F13 R14 oF13 oR14 wTF13 wCF13) ml_X11_200 yV_X11_here e_X11_readsStep_53 (by unfold g_rr; decide) (by decide) 0 rfl rfl rfl (Nat.le_of_ble_eq_true rfl) (fun r17 w18 h19 => ?_)
        obtain ⟨rfl, pr17, zx20⟩ := h19
        refine g_bipush cx 42 (by decide) e_X11_readsStep_56 ?_
        have J115 : ∀ (F22 : Nat → Int32) (y21 : Int32), (g_ok LK_wM F22) → (g_fr md_X11_readsStep F F22) → (WT F22 R14) → (WC F22 R14) → (jv (-2147483648) 220 y21) → (1 ≤ (y21 : Int32).toInt ∧ (y21 : Int32).toInt ≤ 9) → ((F 15).toInt ≤ (F22 15).toInt) → ((F22 21).toInt = (F 21).toInt) → G X E 4 0 0 (wM X ad F22 R14) [(0, .ref (ad 0)), (1, .int (F 15)), (2, .int y21)] 115 [] := by
          intro F22 y21 oF22 fF22 wTF22 wCF22 py21 zi115_0 zi115_1 zi115_2
          have p23 : jv 1 9 y21 := ⟨by have q0 := (jv_t (g_here F R14)).1; have q1 := (jv_t (g_here F R14)).2; have q2 := py21.1; have q3 := py21.2; have q4 := zi115_0; omega, by have q0 := (jv_t (g_here F R14)).1; have q1 := (jv_t (g_here F R14)).2; have q2 := py21.1; have q3 := py21.2; have q4 := zi115_0; omega⟩
          have p24 : jv 0 19 (F22 21) := ⟨by have q0 := (jv_k (x := 20) 20 (by decide)).1; have q1 := (jv_k (x := 20) 20 (by decide)).2; have q2 := p8.1; have q3 := p8.2; have q4 := (g_ok_g oF22 5 rfl).1; have q5 := (g_ok_g oF22 5 rfl).2; have q6 := (gc_ne zc7); have q7 := zi115_2; omega, by have q0 := (jv_k (x := 20) 20 (by decide)).1; have q1 := (jv_k (x := 20) 20 (by decide)).2; have q2 := p8.1; have q3 := p8.2; have q4 := (g_ok_g oF22 5 rfl).1; have q5 := (g_ok_g oF22 5 rfl).2; have q6 := (gc_ne zc7); have q7 := zi115_2; omega⟩
          refine g_aload_n cx 0 rfl e_X11_readsStep_115 ?_
          refine g_get cx cl_X11 fl_X11_213 0 (.int (F22 20)) e_X11_readsStep_116 rfl rfl ?_
          refine g_iload_n cx 2 rfl e_X11_readsStep_119 ?_
          refine g_iadd cx e_X11_readsStep_120 ?_
          refine g_topi (fun x25 ex25 => ?_)
          have zx25 := jv_add 1 69 ex25 (g_ok_g oF22 4 rfl) p23 (by decide)
          refine g_bipush cx 60 (by decide) e_X11_readsStep_121 ?_
          refine g_icmp_le cx 134 e_X11_readsStep_123 (by decide) (fun zc26 => ?_) (fun zc26 => ?_)
          · have p27 := gn_le 1 60 (gc_le zc26) zx25.2 (jv_k (x := 60) 60 (by decide)) (by decide)
            refine g_iconst cx 0 (by decide) e_X11_readsStep_134 ?_
            refine g_istore_n cx [(3, .int 0), (0, .ref (ad 0)), (1, .int (F 15)), (2, .int y21)] e_X11_readsStep_135 (by decide) rfl ?_
            have J136 : ∀ (N : Nat) (R29 : Nat → Nat → Int32) (y28 : Int32), (g_okR LA_wM R29) → (g_fr mr_X11_readsStep R R29) → (WT F22 R29) → (WC F22 R29) → (jv 0 9 y28) → ((F 15).toInt ≤ (F22 15).toInt) → ((F22 21).toInt = (F 21).toInt) → (2147483647 - y28.toInt).toNat < N → G X E 4 0 0 (wM X ad F22 R29) [(0, .ref (ad 0)), (2, .int y21), (3, .int y28)] 136 [] := by
              intro N
              induction N with
              | zero => intro R29 y28 oR29 fR29 wTR29 wCR29 py28 zi136_0 zi136_1 hm; exact absurd hm (Nat.not_lt_zero _)
              | succ N ih136 =>
                intro R29 y28 oR29 fR29 wTR29 wCR29 py28 zi136_0 zi136_1 hm136
                have p30 : jv 0 19 (F22 21) := ⟨by have q0 := (jv_k (x := 20) 20 (by decide)).1; have q1 := (jv_k (x := 20) 20 (by decide)).2; have q2 := p8.1; have q3 := p8.2; have q4 := p24.1; have q5 := p24.2; have q6 := (gc_ne zc7); have q7 := zi115_2; have q8 := zi136_1; omega, by have q0 := (jv_k (x := 20) 20 (by decide)).1; have q1 := (jv_k (x := 20) 20 (by decide)).2; have q2 := p8.1; have q3 := p8.2; have q4 := p24.1; have q5 := p24.2; have q6 := (gc_ne zc7); have q7 := zi115_2; have q8 := zi136_1; omega⟩
                refine g_iload_n cx 2 rfl e_X11_readsStep_136 ?_
                refine g_iload_n cx 1 rfl e_X11_readsStep_137 ?_
                refine g_icmp_ge cx 162 e_X11_readsStep_138 (by decide) (fun zc31 => ?_) (fun zc31 => ?_)
                · have p32 := gn_ge 1 9 (gc_le zc31) py28 p23 (by decide)
                  refine g_aload_n cx 0 rfl e_X11_readsStep_162 ?_
                  refine g_aload_n cx 0 rfl e_X11_readsStep_163 ?_
                  refine g_get cx cl_X11 fl_X11_213 0 (.int (F22 20)) e_X11_readsStep_164 rfl rfl ?_
                  refine g_iload_n cx 1 rfl e_X11_readsStep_167 ?_
                  refine g_iadd cx e_X11_readsStep_168 ?_
                  refine g_topi (fun x33 ex33 => ?_)
                  have zx33 := jv_add 1 69 ex33 (g_ok_g oF22 4 rfl) p23 (by decide)
                  refine g_put cx cl_X11 fl_X11_213 0 (wM X ad (upd F22 20 x33) R29) e_X11_readsStep_169 rfl rfl rfl rfl (Nat.le_of_ble_eq_true rfl) rfl ?_
                  obtain ⟨F34, hF34⟩ : ∃ z, z = upd F22 20 x33 := ⟨_, rfl⟩
                  rw [← hF34]
                  have oF34 : g_ok LK_wM F34 := by rw [hF34]; exact g_ok_p oF22 (show jv 0 60 _ from ⟨by have q0 := (jv_t (g_here F R14)).1; have q1 := (jv_t (g_here F R14)).2; have q2 := (jv_k (x := 60) 60 (by decide)).1; have q3 := (jv_k (x := 60) 60 (by decide)).2; have q4 := (g_ok_g oF22 4 rfl).1; have q5 := (g_ok_g oF22 4 rfl).2; have q6 := p27.1; have q7 := p27.2; have q8 := zx33.2.1; have q9 := zx33.2.2; have q10 := p23.1; have q11 := p23.2; have q12 := p32.1; have q13 := p32.2; have q14 := zi115_0; have q15 := (g_eq0 zx25.1); have q16 := (gc_le zc26); have q17 := (gc_le zc31); have q18 := (g_eq0 zx33.1); omega, by have q0 := (jv_t (g_here F R14)).1; have q1 := (jv_t (g_here F R14)).2; have q2 := (jv_k (x := 60) 60 (by decide)).1; have q3 := (jv_k (x := 60) 60 (by decide)).2; have q4 := (g_ok_g oF22 4 rfl).1; have q5 := (g_ok_g oF22 4 rfl).2; have q6 := p27.1; have q7 := p27.2; have q8 := zx33.2.1; have q9 := zx33.2.2; have q10 := p23.1; have q11 := p23.2; have q12 := p32.1; have q13 := p32.2; have q14 := zi115_0; have q15 := (g_eq0 zx25.1); have q16 := (gc_le zc26); have q17 := (gc_le zc31); have q18 := (g_eq0 zx33.1); omega⟩) rfl
                  have fF34 : g_fr md_X11_readsStep F F34 := by rw [hF34]; exact g_fr_u fF22 rfl
                  have wTF34 : WT F34 R29 := by rw [hF34]; exact WT_u wTR29 rfl
                  have wCF34 : WC F34 R29 := by rw [hF34]; exact WC_u wCR29 rfl
                  refine g_aload_n cx 0 rfl e_X11_readsStep_172 ?_
                  refine g_aload_n cx 0 rfl e_X11_readsStep_173 ?_
                  refine g_get cx cl_X11 fl_X11_207 0 (.int (F34 21)) e_X11_readsStep_174 rfl rfl ?_
                  refine g_toi (F22 21) (g_pu2 hF34 rfl) ?_
                  refine g_iconst cx 1 (by decide) e_X11_readsStep_177 ?_
                  refine g_iadd cx e_X11_readsStep_178 ?_
                  refine g_topi (fun x35 ex35 => ?_)
                  have zx35 := jv_add 1 20 ex35 p30 (jv_k (x := 1) 1 (by decide)) (by decide)
                  refine g_put cx cl_X11 fl_X11_207 0 (wM X ad (upd F34 21 x35) R29) e_X11_readsStep_179 rfl rfl rfl rfl (Nat.le_of_ble_eq_true rfl) rfl ?_
                  obtain ⟨F36, hF36⟩ : ∃ z, z = upd F34 21 x35 := ⟨_, rfl⟩
                  rw [← hF36]
                  have oF36 : g_ok LK_wM F36 := by rw [hF36]; exact g_ok_p oF34 zx35.2 rfl
                  have fF36 : g_fr md_X11_readsStep F F36 := by rw [hF36]; exact g_fr_u fF34 rfl
                  have wTF36 : WT F36 R29 := by rw [hF36]; exact WT_u wTF34 rfl
                  have wCF36 : WC F36 R29 := by rw [hF36]; exact WC_u wCF34 rfl
                  refine g_iconst cx 1 (by decide) e_X11_readsStep_182 ?_
                  exact hret e_X11_readsStep_183 (Nat.le_of_ble_eq_true rfl) (Nat.le_of_ble_eq_true rfl) rfl ⟨F36, R29, rfl, oF36, oR29, wTF36, wCF36, fF36, fR29, (jv_w (jv_k (x := 1) 1 (by decide)) (by decide)), (by have q0 := (g_here_iv F R).1; have q1 := (g_here_iv F R).2; have q2 := (g_here_iv F13 R14).1; have q3 := (g_here_iv F13 R14).2; have q4 := (g_ok_g hI 1 rfl).1; have q5 := (g_ok_g hI 1 rfl).2; have q6 := (g_ok_g hI 2 rfl).1; have q7 := (g_ok_g hI 2 rfl).2; have q8 := (g_ok_g oF13 1 rfl).1; have q9 := (g_ok_g oF13 1 rfl).2; have q10 := (g_ok_g oF13 2 rfl).1; have q11 := (g_ok_g oF13 2 rfl).2; have q12 := (g_ok_g oF22 1 rfl).1; have q13 := (g_ok_g oF22 1 rfl).2; have q14 := (g_ok_g oF36 1 rfl).1; have q15 := (g_ok_g oF36 1 rfl).2; have q16 := pr17.1; have q17 := pr17.2; have q18 := (@g_here_lt F R); have q19 := (zx4 zc5); have q20 := zx12; have q21 := (congrArg Int32.toInt zx20); have q22 := (@g_here_lt F13 R14); have q23 := (congrArg Int32.toInt (show F13 16 = F 16 from (cF13 16 rfl))); have q24 := zi115_1; have q25 := zi136_0; have q26 := (congrArg Int32.toInt (show F36 15 = F22 15 from ((g_pu2 hF36 rfl).trans (g_pu2 hF34 rfl)))); omega)⟩
                · have p37 := gn_lt 0 8 (gc_nle zc31) py28 p23 (by decide)
                  refine g_aload_n cx 0 rfl e_X11_readsStep_141 ?_
                  refine g_get cx cl_X11 fl_X11_41 0 (.ref (ad 11)) e_X11_readsStep_142 rfl rfl ?_
                  refine g_aload_n cx 0 rfl e_X11_readsStep_145 ?_
                  refine g_get cx cl_X11 fl_X11_213 0 (.int (F22 20)) e_X11_readsStep_146 rfl rfl ?_
                  refine g_iload_n cx 2 rfl e_X11_readsStep_149 ?_
                  refine g_iadd cx e_X11_readsStep_150 ?_
                  refine g_topi (fun x38 ex38 => ?_)
                  have zx38 := jv_add 0 68 ex38 (g_ok_g oF22 4 rfl) p37 (by decide)
                  refine g_aload_n cx 0 rfl e_X11_readsStep_151 ?_
                  refine g_get cx cl_X11 fl_X11_193 0 (.int (F22 18)) e_X11_readsStep_152 rfl rfl ?_
                  refine g_iast cx 11 (wM X ad F22 (g_u R29 11 (upd (R29 11) (Int32.toNatClampNeg x38) (F22 18)))) e_X11_readsStep_155 rfl (vp_in_iff.mpr ⟨by have q0 := (jv_t (g_here F R14)).1; have q1 := (jv_t (g_here F R14)).2; have q2 := (jv_k (x := 60) 60 (by decide)).1; have q3 := (jv_k (x := 60) 60 (by decide)).2; have q4 := (g_ok_g oF22 4 rfl).1; have q5 := (g_ok_g oF22 4 rfl).2; have q6 := p27.1; have q7 := p27.2; have q8 := zx38.2.1; have q9 := zx38.2.2; have q10 := p23.1; have q11 := p23.2; have q12 := p37.1; have q13 := p37.2; have q14 := zi115_0; have q15 := (g_eq0 zx25.1); have q16 := (gc_le zc26); have q17 := (gc_nle zc31); have q18 := (g_eq0 zx38.1); omega, by have q0 := (jv_t (g_here F R14)).1; have q1 := (jv_t (g_here F R14)).2; have q2 := (jv_k (x := 60) 60 (by decide)).1; have q3 := (jv_k (x := 60) 60 (by decide)).2; have q4 := (g_ok_g oF22 4 rfl).1; have q5 := (g_ok_g oF22 4 rfl).2; have q6 := p27.1; have q7 := p27.2; have q8 := zx38.2.1; have q9 := zx38.2.2; have q10 := p23.1; have q11 := p23.2; have q12 := p37.1; have q13 := p37.2; have q14 := zi115_0; have q15 := (g_eq0 zx25.1); have q16 := (gc_le zc26); have q17 := (gc_nle zc31); have q18 := (g_eq0 zx38.1); omega⟩) rfl ?_
                  obtain ⟨R39, hR39⟩ : ∃ z, z = g_u R29 11 (upd (R29 11) (Int32.toNatClampNeg x38) (F22 18)) := ⟨_, rfl⟩
                  rw [← hR39]
                  have oR39 : g_okR LA_wM R39 := by rw [hR39]; exact g_okR_u oR29 rfl
                  have fR39 : g_fr mr_X11_readsStep R R39 := by rw [hR39]; exact g_fr_r fR29 rfl
                  have wTR39 : WT F22 R39 := by rw [hR39]; exact WT_r wTR29 rfl
                  have wCR39 : WC F22 R39 := by rw [hR39]; exact WC_r wCR29 rfl
                  obtain ⟨x40, ex40⟩ : ∃ z : Int32, z = y28 + Int32.ofInt 1 := ⟨_, rfl⟩
                  refine g_iinc cx x40 [(3, .int x40), (0, .ref (ad 0)), (2, .int y21)] 2 e_X11_readsStep_156 rfl ex40.symm (by decide) rfl ?_
                  have zx40 := jv_add 1 9 (show x40 = y28 + 1 from ex40) p37 (jv_k (x := 1) 1 (by decide)) (by decide)
                  refine g_goto cx 136 e_X11_readsStep_159 (by decide) ?_
                  refine g_lsub [1, 2, 0] [(0, .ref (ad 0)), (2, .int y21), (3, .int x40)] rfl ?_
                  exact ih136 R39 x40 oR39 fR39 wTR39 wCR39 (jv_w zx40.2 (by decide)) (by have q0 := (g_here_iv F R).1; have q1 := (g_here_iv F R).2; have q2 := (g_here_iv F13 R14).1; have q3 := (g_here_iv F13 R14).2; have q4 := (g_ok_g hI 1 rfl).1; have q5 := (g_ok_g hI 1 rfl).2; have q6 := (g_ok_g hI 2 rfl).1; have q7 := (g_ok_g hI 2 rfl).2; have q8 := (g_ok_g oF13 1 rfl).1; have q9 := (g_ok_g oF13 1 rfl).2; have q10 := (g_ok_g oF13 2 rfl).1; have q11 := (g_ok_g oF13 2 rfl).2; have q12 := (g_ok_g oF22 1 rfl).1; have q13 := (g_ok_g oF22 1 rfl).2; have q14 := pr17.1; have q15 := pr17.2; have q16 := (@g_here_lt F R); have q17 := (zx4 zc5); have q18 := zx12; have q19 := (congrArg Int32.toInt zx20); have q20 := (@g_here_lt F13 R14); have q21 := (congrArg Int32.toInt (show F13 16 = F 16 from (cF13 16 rfl))); have q22 := zi115_1; have q23 := zi136_0; omega) (by have q0 := (jv_k (x := 20) 20 (by decide)).1; have q1 := (jv_k (x := 20) 20 (by decide)).2; have q2 := p8.1; have q3 := p8.2; have q4 := p30.1; have q5 := p30.2; have q6 := (gc_ne zc7); have q7 := zi115_2; have q8 := zi136_1; omega) (Nat.lt_of_lt_of_le (show (2147483647 - x40.toInt).toNat < (2147483647 - y28.toInt).toNat from by have q0 := (jv_t (g_here F R14)).1; have q1 := (jv_t (g_here F R14)).2; have q2 := (jv_k (x := 1) 1 (by decide)).1; have q3 := (jv_k (x := 1) 1 (by decide)).2; have q4 := (jv_k (x := 60) 60 (by decide)).1; have q5 := (jv_k (x := 60) 60 (by decide)).2; have q6 := (g_ok_g oF22 4 rfl).1; have q7 := (g_ok_g oF22 4 rfl).2; have q8 := p27.1; have q9 := p27.2; have q10 := zx38.2.1; have q11 := zx38.2.2; have q12 := zx40.2.1; have q13 := zx40.2.2; have q14 := p23.1; have q15 := p23.2; have q16 := p37.1; have q17 := p37.2; have q18 := zi115_0; have q19 := (g_eq0 zx25.1); have q20 := (gc_le zc26); have q21 := (gc_nle zc31); have q22 := (g_eq0 zx38.1); have q23 := (g_eq0 zx40.1); omega) (Nat.le_of_lt_succ hm136))
            refine g_lsub [1, 3, 0] [(0, .ref (ad 0)), (2, .int y21), (3, .int 0)] rfl ?_
            exact J136 _ R14 0 oR14 fR14 wTF22 wCF22 (jv_w (jv_k (x := 0) 0 (by decide)) (by decide)) (by have q0 := (g_here_iv F R).1; have q1 := (g_here_iv F R).2; have q2 := (g_here_iv F13 R14).1; have q3 := (g_here_iv F13 R14).2; have q4 := (g_ok_g hI 1 rfl).1; have q5 := (g_ok_g hI 1 rfl).2; have q6 := (g_ok_g hI 2 rfl).1; have q7 := (g_ok_g hI 2 rfl).2; have q8 := (g_ok_g oF13 1 rfl).1; have q9 := (g_ok_g oF13 1 rfl).2; have q10 := (g_ok_g oF13 2 rfl).1; have q11 := (g_ok_g oF13 2 rfl).2; have q12 := (g_ok_g oF22 1 rfl).1; have q13 := (g_ok_g oF22 1 rfl).2; have q14 := pr17.1; have q15 := pr17.2; have q16 := (@g_here_lt F R); have q17 := (zx4 zc5); have q18 := zx12; have q19 := (congrArg Int32.toInt zx20); have q20 := (@g_here_lt F13 R14); have q21 := (congrArg Int32.toInt (show F13 16 = F 16 from (cF13 16 rfl))); have q22 := zi115_1; omega) (by have q0 := (jv_k (x := 20) 20 (by decide)).1; have q1 := (jv_k (x := 20) 20 (by decide)).2; have q2 := p8.1; have q3 := p8.2; have q4 := p24.1; have q5 := p24.2; have q6 := (gc_ne zc7); have q7 := zi115_2; omega) (Nat.lt_succ_self _)
          · have p41 := gn_gt 61 69 (gc_nle zc26) zx25.2 (jv_k (x := 60) 60 (by decide)) (by decide)
            refine g_aload_n cx 0 rfl e_X11_readsStep_126 ?_
            refine g_bipush cx 6 (by decide) e_X11_readsStep_127 ?_
            refine g_iload_n cx 1 rfl e_X11_readsStep_129 ?_
            refine g_cViW cx [.int 6, .int (F 15)] [] (w_X11_wrongAt l X ad F22 R14 oF22 oR14 wTF22 wCF22 6 (F 15)) ml_X11_204 yV_X11_wrongAt e_X11_readsStep_130 (by unfold g_rr; decide) (by decide) 0 rfl rfl rfl (Nat.le_of_ble_eq_true rfl) (fun r42 w43 h44 => ?_)
            obtain ⟨F45, R46, rfl, oF45, oR46, wTF45, wCF45, cF45, cR46, pr42⟩ := h44
            have fF45 : g_fr md_X11_readsStep F F45 := g_fr_c fF22 cF45 rfl
            have fR46 : g_fr mr_X11_readsStep R R46 := g_fr_c fR14 cR46 rfl
            exact hret e_X11_readsStep_133 (Nat.le_of_ble_eq_true rfl) (Nat.le_of_ble_eq_true rfl) (g_narb (jv_w pr42 (by decide))) ⟨F45, R46, rfl, oF45, oR46, wTF45, wCF45, fF45, fR46, (jv_w pr42 (by decide)), (by have q0 := (g_here_iv F R).1; have q1 := (g_here_iv F R).2; have q2 := (g_here_iv F13 R14).1; have q3 := (g_here_iv F13 R14).2; have q4 := (g_ok_g hI 1 rfl).1; have q5 := (g_ok_g hI 1 rfl).2; have q6 := (g_ok_g hI 2 rfl).1; have q7 := (g_ok_g hI 2 rfl).2; have q8 := (g_ok_g oF13 1 rfl).1; have q9 := (g_ok_g oF13 1 rfl).2; have q10 := (g_ok_g oF13 2 rfl).1; have q11 := (g_ok_g oF13 2 rfl).2; have q12 := (g_ok_g oF22 1 rfl).1; have q13 := (g_ok_g oF22 1 rfl).2; have q14 := (g_ok_g oF45 1 rfl).1; have q15 := (g_ok_g oF45 1 rfl).2; have q16 := pr17.1; have q17 := pr17.2; have q18 := (@g_here_lt F R); have q19 := (zx4 zc5); have q20 := zx12; have q21 := (congrArg Int32.toInt zx20); have q22 := (@g_here_lt F13 R14); have q23 := (congrArg Int32.toInt (show F13 16 = F 16 from (cF13 16 rfl))); have q24 := zi115_1; have q25 := (congrArg Int32.toInt (show F45 15 = F22 15 from (cF45 15 rfl))); omega)⟩
        refine g_icmp_ne cx 115 e_X11_readsStep_58 (by decide) (fun zc47 => ?_) (fun zc47 => ?_)
        · refine g_lsub [2, 1, 0] [(0, .ref (ad 0)), (1, .int (F 15)), (2, .int 1)] rfl ?_
          exact J115 F13 1 oF13 fF13 wTF13 wCF13 (jv_w (jv_k (x := 1) 1 (by decide)) (by decide)) (by have q0 := (jv_t (g_here F R14)).1; have q1 := (jv_t (g_here F R14)).2; have q2 := (jv_k (x := 1) 1 (by decide)).1; have q3 := (jv_k (x := 1) 1 (by decide)).2; omega) (by have q0 := (g_here_iv F R).1; have q1 := (g_here_iv F R).2; have q2 := (g_here_iv F13 R14).1; have q3 := (g_here_iv F13 R14).2; have q4 := (jv_k (x := 42) 42 (by decide)).1; have q5 := (jv_k (x := 42) 42 (by decide)).2; have q6 := (g_ok_g hI 1 rfl).1; have q7 := (g_ok_g hI 1 rfl).2; have q8 := (g_ok_g hI 2 rfl).1; have q9 := (g_ok_g hI 2 rfl).2; have q10 := (g_ok_g oF13 1 rfl).1; have q11 := (g_ok_g oF13 1 rfl).2; have q12 := (g_ok_g oF13 2 rfl).1; have q13 := (g_ok_g oF13 2 rfl).2; have q14 := pr17.1; have q15 := pr17.2; have q16 := (@g_here_lt F R); have q17 := (zx4 zc5); have q18 := zx12; have q19 := (congrArg Int32.toInt zx20); have q20 := (@g_here_lt F13 R14); have q21 := (congrArg Int32.toInt (show F13 16 = F 16 from (cF13 16 rfl))); have q22 := (gc_ne zc47); omega) (by have q0 := (jv_k (x := 20) 20 (by decide)).1; have q1 := (jv_k (x := 20) 20 (by decide)).2; have q2 := p8.1; have q3 := p8.2; have q4 := (g_ok_g oF13 5 rfl).1; have q5 := (g_ok_g oF13 5 rfl).2; have q6 := (gc_ne zc7); have q7 := (congrArg Int32.toInt (show F13 21 = F 21 from (cF13 21 rfl))); omega)
        · have p48 := gn_eq 42 42 (gc_eq zc47) pr17 (jv_k (x := 42) 42 (by decide)) (by decide)
          refine g_aload_n cx 2 rfl e_X11_readsStep_61 ?_
          refine g_aload_n cx 2 rfl e_X11_readsStep_62 ?_
          refine g_get cx cl_X11 fl_X11_190 0 (.int (F13 15)) e_X11_readsStep_63 rfl rfl ?_
          refine g_iconst cx 1 (by decide) e_X11_readsStep_66 ?_
          refine g_iadd cx e_X11_readsStep_67 ?_
          refine g_topi (fun x49 ex49 => ?_)
          have zx49 := jv_add 1 221 ex49 (g_ok_g oF13 1 rfl) (jv_k (x := 1) 1 (by decide)) (by decide)
          refine g_put cx cl_X11 fl_X11_190 0 (wM X ad (upd F13 15 x49) R14) e_X11_readsStep_68 rfl rfl rfl rfl (Nat.le_of_ble_eq_true rfl) rfl ?_
          obtain ⟨F50, hF50⟩ : ∃ z, z = upd F13 15 x49 := ⟨_, rfl⟩
          rw [← hF50]
          have oF50 : g_ok LK_wM F50 := by rw [hF50]; exact g_ok_p oF13 (show jv 0 220 _ from ⟨by have q0 := (g_here_iv F R).1; have q1 := (g_here_iv F R).2; have q2 := (g_here_iv F13 R14).1; have q3 := (g_here_iv F13 R14).2; have q4 := (jv_k (x := 1) 1 (by decide)).1; have q5 := (jv_k (x := 1) 1 (by decide)).2; have q6 := (jv_k (x := 42) 42 (by decide)).1; have q7 := (jv_k (x := 42) 42 (by decide)).2; have q8 := (g_ok_g hI 1 rfl).1; have q9 := (g_ok_g hI 1 rfl).2; have q10 := (g_ok_g hI 2 rfl).1; have q11 := (g_ok_g hI 2 rfl).2; have q12 := (g_ok_g oF13 1 rfl).1; have q13 := (g_ok_g oF13 1 rfl).2; have q14 := (g_ok_g oF13 2 rfl).1; have q15 := (g_ok_g oF13 2 rfl).2; have q16 := p48.1; have q17 := p48.2; have q18 := zx49.2.1; have q19 := zx49.2.2; have q20 := (@g_here_lt F R); have q21 := (zx4 zc5); have q22 := zx12; have q23 := (congrArg Int32.toInt zx20); have q24 := (@g_here_lt F13 R14); have q25 := (congrArg Int32.toInt (show F13 16 = F 16 from (cF13 16 rfl))); have q26 := (gc_eq zc47); have q27 := (g_eq0 zx49.1); omega, by have q0 := (g_here_iv F R).1; have q1 := (g_here_iv F R).2; have q2 := (g_here_iv F13 R14).1; have q3 := (g_here_iv F13 R14).2; have q4 := (jv_k (x := 1) 1 (by decide)).1; have q5 := (jv_k (x := 1) 1 (by decide)).2; have q6 := (jv_k (x := 42) 42 (by decide)).1; have q7 := (jv_k (x := 42) 42 (by decide)).2; have q8 := (g_ok_g hI 1 rfl).1; have q9 := (g_ok_g hI 1 rfl).2; have q10 := (g_ok_g hI 2 rfl).1; have q11 := (g_ok_g hI 2 rfl).2; have q12 := (g_ok_g oF13 1 rfl).1; have q13 := (g_ok_g oF13 1 rfl).2; have q14 := (g_ok_g oF13 2 rfl).1; have q15 := (g_ok_g oF13 2 rfl).2; have q16 := p48.1; have q17 := p48.2; have q18 := zx49.2.1; have q19 := zx49.2.2; have q20 := (@g_here_lt F R); have q21 := (zx4 zc5); have q22 := zx12; have q23 := (congrArg Int32.toInt zx20); have q24 := (@g_here_lt F13 R14); have q25 := (congrArg Int32.toInt (show F13 16 = F 16 from (cF13 16 rfl))); have q26 := (gc_eq zc47); have q27 := (g_eq0 zx49.1); omega⟩) rfl
          have fF50 : g_fr md_X11_readsStep F F50 := by rw [hF50]; exact g_fr_u fF13 rfl
          have wTF50 : WT F50 R14 := by rw [hF50]; exact WT_u wTF13 rfl
          have wCF50 : WC F50 R14 := by rw [hF50]; exact WC_u wCF13 rfl
          refine g_aload_n cx 2 rfl e_X11_readsStep_71 ?_
          refine g_cViW cx [] [] (w_X11_isDigit l X ad F50 R14 oF50 oR14 wTF50 wCF50) ml_X11_196 yV_X11_isDigit e_X11_readsStep_72 (by unfold g_rr; decide) (by decide) 0 rfl rfl rfl (Nat.le_of_ble_eq_true rfl) (fun r51 w52 h53 => ?_)
          obtain ⟨rfl, pr51, zx54⟩ := h53
          have J87 : ((F 15).toInt ≤ (F50 15).toInt) → ((F50 21).toInt = (F 21).toInt) → G X E 4 0 0 (wM X ad F50 R14) [(0, .ref (ad 0))] 87 [] := by
            intro  zi87_0 zi87_1
            refine g_aload_n cx 0 rfl e_X11_readsStep_87 ?_
            refine g_iconst cx 1 (by decide) e_X11_readsStep_88 ?_
            refine g_aload_n cx 0 rfl e_X11_readsStep_89 ?_
            refine g_get cx cl_X11 fl_X11_190 0 (.int (F50 15)) e_X11_readsStep_90 rfl rfl ?_
            refine g_toi x49 (g_pu1 hF50) ?_
            refine g_cViW cx [.int 1, .int x49] [] (w_X11_wrongAt l X ad F50 R14 oF50 oR14 wTF50 wCF50 1 x49) ml_X11_204 yV_X11_wrongAt e_X11_readsStep_93 (by unfold g_rr; decide) (by decide) 0 rfl rfl rfl (Nat.le_of_ble_eq_true rfl) (fun r55 w56 h57 => ?_)
            obtain ⟨F58, R59, rfl, oF58, oR59, wTF58, wCF58, cF58, cR59, pr55⟩ := h57
            have fF58 : g_fr md_X11_readsStep F F58 := g_fr_c fF50 cF58 rfl
            have fR59 : g_fr mr_X11_readsStep R R59 := g_fr_c fR14 cR59 rfl
            exact hret e_X11_readsStep_96 (Nat.le_of_ble_eq_true rfl) (Nat.le_of_ble_eq_true rfl) (g_narb (jv_w pr55 (by decide))) ⟨F58, R59, rfl, oF58, oR59, wTF58, wCF58, fF58, fR59, (jv_w pr55 (by decide)), (by have q0 := (g_here_iv F R).1; have q1 := (g_here_iv F R).2; have q2 := (g_here_iv F13 R14).1; have q3 := (g_here_iv F13 R14).2; have q4 := (g_here_iv F50 R14).1; have q5 := (g_here_iv F50 R14).2; have q6 := (jv_k (x := 1) 1 (by decide)).1; have q7 := (jv_k (x := 1) 1 (by decide)).2; have q8 := (jv_k (x := 42) 42 (by decide)).1; have q9 := (jv_k (x := 42) 42 (by decide)).2; have q10 := (g_ok_g hI 1 rfl).1; have q11 := (g_ok_g hI 1 rfl).2; have q12 := (g_ok_g hI 2 rfl).1; have q13 := (g_ok_g hI 2 rfl).2; have q14 := (g_ok_g oF13 1 rfl).1; have q15 := (g_ok_g oF13 1 rfl).2; have q16 := (g_ok_g oF13 2 rfl).1; have q17 := (g_ok_g oF13 2 rfl).2; have q18 := (g_ok_g oF50 1 rfl).1; have q19 := (g_ok_g oF50 1 rfl).2; have q20 := (g_ok_g oF50 2 rfl).1; have q21 := (g_ok_g oF50 2 rfl).2; have q22 := (g_ok_g oF58 1 rfl).1; have q23 := (g_ok_g oF58 1 rfl).2; have q24 := p48.1; have q25 := p48.2; have q26 := zx49.2.1; have q27 := zx49.2.2; have q28 := (@g_here_lt F R); have q29 := (zx4 zc5); have q30 := zx12; have q31 := (congrArg Int32.toInt zx20); have q32 := (@g_here_lt F13 R14); have q33 := (congrArg Int32.toInt (show F13 16 = F 16 from (cF13 16 rfl))); have q34 := (gc_eq zc47); have q35 := (g_eq0 zx49.1); have q36 := (@g_here_lt F50 R14); have q37 := (congrArg Int32.toInt (show F50 15 = x49 from (g_pu1 hF50))); have q38 := (congrArg Int32.toInt (show F50 16 = F 16 from ((g_pu2 hF50 rfl).trans (cF13 16 rfl)))); have q39 := (congrArg Int32.toInt (show F50 15 = x49 from (g_pu1 hF50))); have q40 := (congrArg Int32.toInt (show F50 15 = x49 from (g_pu1 hF50))); have q41 := zi87_0; have q42 := (congrArg Int32.toInt (show F58 15 = x49 from ((cF58 15 rfl).trans (g_pu1 hF50)))); omega)⟩
          refine g_if_eq cx 87 e_X11_readsStep_75 (by decide) (fun zc60 => ?_) (fun zc60 => ?_)
          · have p61 := gn_eq 0 0 (gc_eq zc60) pr51 (jv_k (x := 0) 0 (by decide)) (by decide)
            refine g_lsub [2] [(0, .ref (ad 0))] rfl ?_
            exact J87  (by have q0 := (g_here_iv F R).1; have q1 := (g_here_iv F R).2; have q2 := (g_here_iv F13 R14).1; have q3 := (g_here_iv F13 R14).2; have q4 := (g_here_iv F50 R14).1; have q5 := (g_here_iv F50 R14).2; have q6 := (jv_k (x := 1) 1 (by decide)).1; have q7 := (jv_k (x := 1) 1 (by decide)).2; have q8 := (jv_k (x := 42) 42 (by decide)).1; have q9 := (jv_k (x := 42) 42 (by decide)).2; have q10 := (g_ok_g hI 1 rfl).1; have q11 := (g_ok_g hI 1 rfl).2; have q12 := (g_ok_g hI 2 rfl).1; have q13 := (g_ok_g hI 2 rfl).2; have q14 := (g_ok_g oF13 1 rfl).1; have q15 := (g_ok_g oF13 1 rfl).2; have q16 := (g_ok_g oF13 2 rfl).1; have q17 := (g_ok_g oF13 2 rfl).2; have q18 := (g_ok_g oF50 1 rfl).1; have q19 := (g_ok_g oF50 1 rfl).2; have q20 := (g_ok_g oF50 2 rfl).1; have q21 := (g_ok_g oF50 2 rfl).2; have q22 := p48.1; have q23 := p48.2; have q24 := zx49.2.1; have q25 := zx49.2.2; have q26 := (@g_here_lt F R); have q27 := (zx4 zc5); have q28 := zx12; have q29 := (congrArg Int32.toInt zx20); have q30 := (@g_here_lt F13 R14); have q31 := (congrArg Int32.toInt (show F13 16 = F 16 from (cF13 16 rfl))); have q32 := (gc_eq zc47); have q33 := (g_eq0 zx49.1); have q34 := (@g_here_lt F50 R14); have q35 := (congrArg Int32.toInt (show F50 15 = x49 from (g_pu1 hF50))); have q36 := (congrArg Int32.toInt (show F50 16 = F 16 from ((g_pu2 hF50 rfl).trans (cF13 16 rfl)))); have q37 := (congrArg Int32.toInt (show F50 15 = x49 from (g_pu1 hF50))); have q38 := (congrArg Int32.toInt (show F50 15 = x49 from (g_pu1 hF50))); omega) (by have q0 := (jv_k (x := 20) 20 (by decide)).1; have q1 := (jv_k (x := 20) 20 (by decide)).2; have q2 := p8.1; have q3 := p8.2; have q4 := (g_ok_g oF50 5 rfl).1; have q5 := (g_ok_g oF50 5 rfl).2; have q6 := (gc_ne zc7); have q7 := (congrArg Int32.toInt (show F50 21 = F 21 from ((g_pu2 hF50 rfl).trans (cF13 21 rfl)))); omega)
          · have p62 := gn_neL 1 1 (gc_ne zc60) pr51 (jv_k (x := 0) 0 (by decide)) (by decide)
            refine g_aload_n cx 2 rfl e_X11_readsStep_78 ?_
            refine g_cViW cx [] [] (w_X11_here l X ad F50 R14 oF50 oR14 wTF50 wCF50) ml_X11_200 yV_X11_here e_X11_readsStep_79 (by unfold g_rr; decide) (by decide) 0 rfl rfl rfl (Nat.le_of_ble_eq_true rfl) (fun r63 w64 h65 => ?_)
            obtain ⟨rfl, pr63, zx66⟩ := h65
            refine g_bipush cx 50 (by decide) e_X11_readsStep_82 ?_
            refine g_icmp_ge cx 97 e_X11_readsStep_84 (by decide) (fun zc67 => ?_) (fun zc67 => ?_)
            · have p68 := gn_ge 50 255 (gc_le zc67) pr63 (jv_k (x := 50) 50 (by decide)) (by decide)
              refine g_aload_n cx 2 rfl e_X11_readsStep_97 ?_
              refine g_cViW cx [] [] (w_X11_here l X ad F50 R14 oF50 oR14 wTF50 wCF50) ml_X11_200 yV_X11_here e_X11_readsStep_98 (by unfold g_rr; decide) (by decide) 0 rfl rfl rfl (Nat.le_of_ble_eq_true rfl) (fun r69 w70 h71 => ?_)
              obtain ⟨rfl, pr69, zx72⟩ := h71
              refine g_bipush cx 48 (by decide) e_X11_readsStep_101 ?_
              refine g_isub cx e_X11_readsStep_103 ?_
              refine g_topi (fun x73 ex73 => ?_)
              have zx73 := jv_sub (-49) 207 ex73 pr69 (jv_k (x := 48) 48 (by decide)) (by decide)
              refine g_istore_n cx [(2, .int x73), (1, .int (F 15)), (0, .ref (ad 0))] e_X11_readsStep_104 (by decide) rfl ?_
              refine g_aload_n cx 2 rfl e_X11_readsStep_105 ?_
              refine g_aload_n cx 2 rfl e_X11_readsStep_106 ?_
              refine g_get cx cl_X11 fl_X11_190 0 (.int (F50 15)) e_X11_readsStep_107 rfl rfl ?_
              refine g_toi x49 (g_pu1 hF50) ?_
              refine g_iconst cx 1 (by decide) e_X11_readsStep_110 ?_
              refine g_iadd cx e_X11_readsStep_111 ?_
              refine g_topi (fun x74 ex74 => ?_)
              have zx74 := jv_add 2 222 ex74 zx49.2 (jv_k (x := 1) 1 (by decide)) (by decide)
              refine g_put cx cl_X11 fl_X11_190 0 (wM X ad (upd F50 15 x74) R14) e_X11_readsStep_112 rfl rfl rfl rfl (Nat.le_of_ble_eq_true rfl) rfl ?_
              obtain ⟨F75, hF75⟩ : ∃ z, z = upd F50 15 x74 := ⟨_, rfl⟩
              rw [← hF75]
              have oF75 : g_ok LK_wM F75 := by rw [hF75]; exact g_ok_p oF50 (show jv 0 220 _ from ⟨by have q0 := (g_here_iv F R).1; have q1 := (g_here_iv F R).2; have q2 := (g_here_iv F13 R14).1; have q3 := (g_here_iv F13 R14).2; have q4 := (g_here_iv F50 R14).1; have q5 := (g_here_iv F50 R14).2; have q6 := (jv_k (x := 1) 1 (by decide)).1; have q7 := (jv_k (x := 1) 1 (by decide)).2; have q8 := (jv_k (x := 42) 42 (by decide)).1; have q9 := (jv_k (x := 42) 42 (by decide)).2; have q10 := (jv_k (x := 48) 48 (by decide)).1; have q11 := (jv_k (x := 48) 48 (by decide)).2; have q12 := (jv_k (x := 50) 50 (by decide)).1; have q13 := (jv_k (x := 50) 50 (by decide)).2; have q14 := (g_ok_g hI 1 rfl).1; have q15 := (g_ok_g hI 1 rfl).2; have q16 := (g_ok_g hI 2 rfl).1; have q17 := (g_ok_g hI 2 rfl).2; have q18 := (g_ok_g oF13 1 rfl).1; have q19 := (g_ok_g oF13 1 rfl).2; have q20 := (g_ok_g oF13 2 rfl).1; have q21 := (g_ok_g oF13 2 rfl).2; have q22 := (g_ok_g oF50 1 rfl).1; have q23 := (g_ok_g oF50 1 rfl).2; have q24 := (g_ok_g oF50 2 rfl).1; have q25 := (g_ok_g oF50 2 rfl).2; have q26 := p48.1; have q27 := p48.2; have q28 := p68.1; have q29 := p68.2; have q30 := pr69.1; have q31 := pr69.2; have q32 := zx49.2.1; have q33 := zx49.2.2; have q34 := zx73.2.1; have q35 := zx73.2.2; have q36 := zx74.2.1; have q37 := zx74.2.2; have q38 := (@g_here_lt F R); have q39 := (zx4 zc5); have q40 := zx12; have q41 := (congrArg Int32.toInt zx20); have q42 := (@g_here_lt F13 R14); have q43 := (congrArg Int32.toInt (show F13 16 = F 16 from (cF13 16 rfl))); have q44 := (gc_eq zc47); have q45 := (g_eq0 zx49.1); have q46 := (@g_here_lt F50 R14); have q47 := (congrArg Int32.toInt (show F50 15 = x49 from (g_pu1 hF50))); have q48 := (congrArg Int32.toInt (show F50 16 = F 16 from ((g_pu2 hF50 rfl).trans (cF13 16 rfl)))); have q49 := (zx54 zc60); have q50 := (congrArg Int32.toInt zx66); have q51 := (@g_here_lt F50 R14); have q52 := (congrArg Int32.toInt (show F50 15 = x49 from (g_pu1 hF50))); have q53 := (congrArg Int32.toInt (show F50 16 = F 16 from ((g_pu2 hF50 rfl).trans (cF13 16 rfl)))); have q54 := (gc_le zc67); have q55 := (congrArg Int32.toInt zx72); have q56 := (@g_here_lt F50 R14); have q57 := (congrArg Int32.toInt (show F50 15 = x49 from (g_pu1 hF50))); have q58 := (congrArg Int32.toInt (show F50 16 = F 16 from ((g_pu2 hF50 rfl).trans (cF13 16 rfl)))); have q59 := (g_eq0 zx73.1); have q60 := (g_eq0 zx74.1); omega, by have q0 := (g_here_iv F R).1; have q1 := (g_here_iv F R).2; have q2 := (g_here_iv F13 R14).1; have q3 := (g_here_iv F13 R14).2; have q4 := (g_here_iv F50 R14).1; have q5 := (g_here_iv F50 R14).2; have q6 := (jv_k (x := 1) 1 (by decide)).1; have q7 := (jv_k (x := 1) 1 (by decide)).2; have q8 := (jv_k (x := 42) 42 (by decide)).1; have q9 := (jv_k (x := 42) 42 (by decide)).2; have q10 := (jv_k (x := 48) 48 (by decide)).1; have q11 := (jv_k (x := 48) 48 (by decide)).2; have q12 := (jv_k (x := 50) 50 (by decide)).1; have q13 := (jv_k (x := 50) 50 (by decide)).2; have q14 := (g_ok_g hI 1 rfl).1; have q15 := (g_ok_g hI 1 rfl).2; have q16 := (g_ok_g hI 2 rfl).1; have q17 := (g_ok_g hI 2 rfl).2; have q18 := (g_ok_g oF13 1 rfl).1; have q19 := (g_ok_g oF13 1 rfl).2; have q20 := (g_ok_g oF13 2 rfl).1; have q21 := (g_ok_g oF13 2 rfl).2; have q22 := (g_ok_g oF50 1 rfl).1; have q23 := (g_ok_g oF50 1 rfl).2; have q24 := (g_ok_g oF50 2 rfl).1; have q25 := (g_ok_g oF50 2 rfl).2; have q26 := p48.1; have q27 := p48.2; have q28 := p68.1; have q29 := p68.2; have q30 := pr69.1; have q31 := pr69.2; have q32 := zx49.2.1; have q33 := zx49.2.2; have q34 := zx73.2.1; have q35 := zx73.2.2; have q36 := zx74.2.1; have q37 := zx74.2.2; have q38 := (@g_here_lt F R); have q39 := (zx4 zc5); have q40 := zx12; have q41 := (congrArg Int32.toInt zx20); have q42 := (@g_here_lt F13 R14); have q43 := (congrArg Int32.toInt (show F13 16 = F 16 from (cF13 16 rfl))); have q44 := (gc_eq zc47); have q45 := (g_eq0 zx49.1); have q46 := (@g_here_lt F50 R14); have q47 := (congrArg Int32.toInt (show F50 15 = x49 from (g_pu1 hF50))); have q48 := (congrArg Int32.toInt (show F50 16 = F 16 from ((g_pu2 hF50 rfl).trans (cF13 16 rfl)))); have q49 := (zx54 zc60); have q50 := (congrArg Int32.toInt zx66); have q51 := (@g_here_lt F50 R14); have q52 := (congrArg Int32.toInt (show F50 15 = x49 from (g_pu1 hF50))); have q53 := (congrArg Int32.toInt (show F50 16 = F 16 from ((g_pu2 hF50 rfl).trans (cF13 16 rfl)))); have q54 := (gc_le zc67); have q55 := (congrArg Int32.toInt zx72); have q56 := (@g_here_lt F50 R14); have q57 := (congrArg Int32.toInt (show F50 15 = x49 from (g_pu1 hF50))); have q58 := (congrArg Int32.toInt (show F50 16 = F 16 from ((g_pu2 hF50 rfl).trans (cF13 16 rfl)))); have q59 := (g_eq0 zx73.1); have q60 := (g_eq0 zx74.1); omega⟩) rfl
              have fF75 : g_fr md_X11_readsStep F F75 := by rw [hF75]; exact g_fr_u fF50 rfl
              have wTF75 : WT F75 R14 := by rw [hF75]; exact WT_u wTF50 rfl
              have wCF75 : WC F75 R14 := by rw [hF75]; exact WC_u wCF50 rfl
              refine g_lsub [2, 1, 0] [(0, .ref (ad 0)), (1, .int (F 15)), (2, .int x73)] rfl ?_
              exact J115 F75 x73 oF75 fF75 wTF75 wCF75 (jv_w zx73.2 (by decide)) (by have q0 := (g_here_iv F R).1; have q1 := (g_here_iv F R).2; have q2 := (g_here_iv F13 R14).1; have q3 := (g_here_iv F13 R14).2; have q4 := (g_here_iv F50 R14).1; have q5 := (g_here_iv F50 R14).2; have q6 := (jv_k (x := 1) 1 (by decide)).1; have q7 := (jv_k (x := 1) 1 (by decide)).2; have q8 := (jv_k (x := 42) 42 (by decide)).1; have q9 := (jv_k (x := 42) 42 (by decide)).2; have q10 := (jv_k (x := 48) 48 (by decide)).1; have q11 := (jv_k (x := 48) 48 (by decide)).2; have q12 := (jv_k (x := 50) 50 (by decide)).1; have q13 := (jv_k (x := 50) 50 (by decide)).2; have q14 := (g_ok_g hI 1 rfl).1; have q15 := (g_ok_g hI 1 rfl).2; have q16 := (g_ok_g hI 2 rfl).1; have q17 := (g_ok_g hI 2 rfl).2; have q18 := (g_ok_g oF13 1 rfl).1; have q19 := (g_ok_g oF13 1 rfl).2; have q20 := (g_ok_g oF13 2 rfl).1; have q21 := (g_ok_g oF13 2 rfl).2; have q22 := (g_ok_g oF50 1 rfl).1; have q23 := (g_ok_g oF50 1 rfl).2; have q24 := (g_ok_g oF50 2 rfl).1; have q25 := (g_ok_g oF50 2 rfl).2; have q26 := (g_ok_g oF75 1 rfl).1; have q27 := (g_ok_g oF75 1 rfl).2; have q28 := p48.1; have q29 := p48.2; have q30 := p68.1; have q31 := p68.2; have q32 := pr69.1; have q33 := pr69.2; have q34 := zx49.2.1; have q35 := zx49.2.2; have q36 := zx73.2.1; have q37 := zx73.2.2; have q38 := zx74.2.1; have q39 := zx74.2.2; have q40 := (@g_here_lt F R); have q41 := (zx4 zc5); have q42 := zx12; have q43 := (congrArg Int32.toInt zx20); have q44 := (@g_here_lt F13 R14); have q45 := (congrArg Int32.toInt (show F13 16 = F 16 from (cF13 16 rfl))); have q46 := (gc_eq zc47); have q47 := (g_eq0 zx49.1); have q48 := (@g_here_lt F50 R14); have q49 := (congrArg Int32.toInt (show F50 15 = x49 from (g_pu1 hF50))); have q50 := (congrArg Int32.toInt (show F50 16 = F 16 from ((g_pu2 hF50 rfl).trans (cF13 16 rfl)))); have q51 := (zx54 zc60); have q52 := (congrArg Int32.toInt zx66); have q53 := (@g_here_lt F50 R14); have q54 := (congrArg Int32.toInt (show F50 15 = x49 from (g_pu1 hF50))); have q55 := (congrArg Int32.toInt (show F50 16 = F 16 from ((g_pu2 hF50 rfl).trans (cF13 16 rfl)))); have q56 := (gc_le zc67); have q57 := (congrArg Int32.toInt zx72); have q58 := (@g_here_lt F50 R14); have q59 := (congrArg Int32.toInt (show F50 15 = x49 from (g_pu1 hF50))); have q60 := (congrArg Int32.toInt (show F50 16 = F 16 from ((g_pu2 hF50 rfl).trans (cF13 16 rfl)))); have q61 := (g_eq0 zx73.1); have q62 := (g_eq0 zx74.1); have q63 := (congrArg Int32.toInt (show F75 15 = x74 from (g_pu1 hF75))); have q64 := (congrArg Int32.toInt (show F75 15 = x74 from (g_pu1 hF75))); omega) (by have q0 := (g_here_iv F R).1; have q1 := (g_here_iv F R).2; have q2 := (g_here_iv F13 R14).1; have q3 := (g_here_iv F13 R14).2; have q4 := (g_here_iv F50 R14).1; have q5 := (g_here_iv F50 R14).2; have q6 := (jv_k (x := 1) 1 (by decide)).1; have q7 := (jv_k (x := 1) 1 (by decide)).2; have q8 := (jv_k (x := 42) 42 (by decide)).1; have q9 := (jv_k (x := 42) 42 (by decide)).2; have q10 := (jv_k (x := 48) 48 (by decide)).1; have q11 := (jv_k (x := 48) 48 (by decide)).2; have q12 := (jv_k (x := 50) 50 (by decide)).1; have q13 := (jv_k (x := 50) 50 (by decide)).2; have q14 := (g_ok_g hI 1 rfl).1; have q15 := (g_ok_g hI 1 rfl).2; have q16 := (g_ok_g hI 2 rfl).1; have q17 := (g_ok_g hI 2 rfl).2; have q18 := (g_ok_g oF13 1 rfl).1; have q19 := (g_ok_g oF13 1 rfl).2; have q20 := (g_ok_g oF13 2 rfl).1; have q21 := (g_ok_g oF13 2 rfl).2; have q22 := (g_ok_g oF50 1 rfl).1; have q23 := (g_ok_g oF50 1 rfl).2; have q24 := (g_ok_g oF50 2 rfl).1; have q25 := (g_ok_g oF50 2 rfl).2; have q26 := (g_ok_g oF75 1 rfl).1; have q27 := (g_ok_g oF75 1 rfl).2; have q28 := p48.1; have q29 := p48.2; have q30 := p68.1; have q31 := p68.2; have q32 := pr69.1; have q33 := pr69.2; have q34 := zx49.2.1; have q35 := zx49.2.2; have q36 := zx73.2.1; have q37 := zx73.2.2; have q38 := zx74.2.1; have q39 := zx74.2.2; have q40 := (@g_here_lt F R); have q41 := (zx4 zc5); have q42 := zx12; have q43 := (congrArg Int32.toInt zx20); have q44 := (@g_here_lt F13 R14); have q45 := (congrArg Int32.toInt (show F13 16 = F 16 from (cF13 16 rfl))); have q46 := (gc_eq zc47); have q47 := (g_eq0 zx49.1); have q48 := (@g_here_lt F50 R14); have q49 := (congrArg Int32.toInt (show F50 15 = x49 from (g_pu1 hF50))); have q50 := (congrArg Int32.toInt (show F50 16 = F 16 from ((g_pu2 hF50 rfl).trans (cF13 16 rfl)))); have q51 := (zx54 zc60); have q52 := (congrArg Int32.toInt zx66); have q53 := (@g_here_lt F50 R14); have q54 := (congrArg Int32.toInt (show F50 15 = x49 from (g_pu1 hF50))); have q55 := (congrArg Int32.toInt (show F50 16 = F 16 from ((g_pu2 hF50 rfl).trans (cF13 16 rfl)))); have q56 := (gc_le zc67); have q57 := (congrArg Int32.toInt zx72); have q58 := (@g_here_lt F50 R14); have q59 := (congrArg Int32.toInt (show F50 15 = x49 from (g_pu1 hF50))); have q60 := (congrArg Int32.toInt (show F50 16 = F 16 from ((g_pu2 hF50 rfl).trans (cF13 16 rfl)))); have q61 := (g_eq0 zx73.1); have q62 := (g_eq0 zx74.1); have q63 := (congrArg Int32.toInt (show F75 15 = x74 from (g_pu1 hF75))); have q64 := (congrArg Int32.toInt (show F75 15 = x74 from (g_pu1 hF75))); omega) (by have q0 := (jv_k (x := 20) 20 (by decide)).1; have q1 := (jv_k (x := 20) 20 (by decide)).2; have q2 := p8.1; have q3 := p8.2; have q4 := (g_ok_g oF75 5 rfl).1; have q5 := (g_ok_g oF75 5 rfl).2; have q6 := (gc_ne zc7); have q7 := (congrArg Int32.toInt (show F75 21 = F 21 from (((g_pu2 hF75 rfl).trans (g_pu2 hF50 rfl)).trans (cF13 21 rfl)))); omega)
            · have p76 := gn_lt (-1) 49 (gc_nle zc67) pr63 (jv_k (x := 50) 50 (by decide)) (by decide)
              refine g_lsub [2] [(0, .ref (ad 0))] rfl ?_
              exact J87  (by have q0 := (g_here_iv F R).1; have q1 := (g_here_iv F R).2; have q2 := (g_here_iv F13 R14).1; have q3 := (g_here_iv F13 R14).2; have q4 := (g_here_iv F50 R14).1; have q5 := (g_here_iv F50 R14).2; have q6 := (jv_k (x := 1) 1 (by decide)).1; have q7 := (jv_k (x := 1) 1 (by decide)).2; have q8 := (jv_k (x := 42) 42 (by decide)).1; have q9 := (jv_k (x := 42) 42 (by decide)).2; have q10 := (jv_k (x := 50) 50 (by decide)).1; have q11 := (jv_k (x := 50) 50 (by decide)).2; have q12 := (g_ok_g hI 1 rfl).1; have q13 := (g_ok_g hI 1 rfl).2; have q14 := (g_ok_g hI 2 rfl).1; have q15 := (g_ok_g hI 2 rfl).2; have q16 := (g_ok_g oF13 1 rfl).1; have q17 := (g_ok_g oF13 1 rfl).2; have q18 := (g_ok_g oF13 2 rfl).1; have q19 := (g_ok_g oF13 2 rfl).2; have q20 := (g_ok_g oF50 1 rfl).1; have q21 := (g_ok_g oF50 1 rfl).2; have q22 := (g_ok_g oF50 2 rfl).1; have q23 := (g_ok_g oF50 2 rfl).2; have q24 := p48.1; have q25 := p48.2; have q26 := p76.1; have q27 := p76.2; have q28 := zx49.2.1; have q29 := zx49.2.2; have q30 := (@g_here_lt F R); have q31 := (zx4 zc5); have q32 := zx12; have q33 := (congrArg Int32.toInt zx20); have q34 := (@g_here_lt F13 R14); have q35 := (congrArg Int32.toInt (show F13 16 = F 16 from (cF13 16 rfl))); have q36 := (gc_eq zc47); have q37 := (g_eq0 zx49.1); have q38 := (@g_here_lt F50 R14); have q39 := (congrArg Int32.toInt (show F50 15 = x49 from (g_pu1 hF50))); have q40 := (congrArg Int32.toInt (show F50 16 = F 16 from ((g_pu2 hF50 rfl).trans (cF13 16 rfl)))); have q41 := (zx54 zc60); have q42 := (congrArg Int32.toInt zx66); have q43 := (@g_here_lt F50 R14); have q44 := (congrArg Int32.toInt (show F50 15 = x49 from (g_pu1 hF50))); have q45 := (congrArg Int32.toInt (show F50 16 = F 16 from ((g_pu2 hF50 rfl).trans (cF13 16 rfl)))); have q46 := (gc_nle zc67); have q47 := (congrArg Int32.toInt (show F50 15 = x49 from (g_pu1 hF50))); have q48 := (congrArg Int32.toInt (show F50 15 = x49 from (g_pu1 hF50))); omega) (by have q0 := (jv_k (x := 20) 20 (by decide)).1; have q1 := (jv_k (x := 20) 20 (by decide)).2; have q2 := p8.1; have q3 := p8.2; have q4 := (g_ok_g oF50 5 rfl).1; have q5 := (g_ok_g oF50 5 rfl).2; have q6 := (gc_ne zc7); have q7 := (congrArg Int32.toInt (show F50 21 = F 21 from ((g_pu2 hF50 rfl).trans (cF13 21 rfl)))); omega)
      · have p77 := gn_eq 0 0 (gc_eq zc15) pr9 (jv_k (x := 0) 0 (by decide)) (by decide)
        refine g_iconst cx 0 (by decide) e_X11_readsStep_48 ?_
        exact hret e_X11_readsStep_49 (Nat.le_of_ble_eq_true rfl) (Nat.le_of_ble_eq_true rfl) rfl ⟨F13, R14, rfl, oF13, oR14, wTF13, wCF13, fF13, fR14, (jv_w (jv_k (x := 0) 0 (by decide)) (by decide)), (by have q0 := (g_here_iv F R).1; have q1 := (g_here_iv F R).2; have q2 := (g_ok_g hI 1 rfl).1; have q3 := (g_ok_g hI 1 rfl).2; have q4 := (g_ok_g hI 2 rfl).1; have q5 := (g_ok_g hI 2 rfl).2; have q6 := (g_ok_g oF13 1 rfl).1; have q7 := (g_ok_g oF13 1 rfl).2; have q8 := (@g_here_lt F R); have q9 := (zx4 zc5); have q10 := zx12; omega)⟩
    · have p78 := gn_eq 20 20 (gc_eq zc7) (g_ok_g hI 5 rfl) (jv_k (x := 20) 20 (by decide)) (by decide)
      refine g_aload_n cx 0 rfl e_X11_readsStep_26 ?_
      refine g_iconst cx 4 (by decide) e_X11_readsStep_27 ?_
      refine g_aload_n cx 0 rfl e_X11_readsStep_28 ?_
      refine g_get cx cl_X11 fl_X11_190 0 (.int (F 15)) e_X11_readsStep_29 rfl rfl ?_
      refine g_cViW cx [.int 4, .int (F 15)] [] (w_X11_wrongAt l X ad F R hI hA hWT hWC 4 (F 15)) ml_X11_204 yV_X11_wrongAt e_X11_readsStep_32 (by unfold g_rr; decide) (by decide) 0 rfl rfl rfl (Nat.le_of_ble_eq_true rfl) (fun r79 w80 h81 => ?_)
      obtain ⟨F82, R83, rfl, oF82, oR83, wTF82, wCF82, cF82, cR83, pr79⟩ := h81
      have fF82 : g_fr md_X11_readsStep F F82 := g_fr_c (g_fr_rf F) cF82 rfl
      have fR83 : g_fr mr_X11_readsStep R R83 := g_fr_c (g_fr_rf R) cR83 rfl
      exact hret e_X11_readsStep_35 (Nat.le_of_ble_eq_true rfl) (Nat.le_of_ble_eq_true rfl) (g_narb (jv_w pr79 (by decide))) ⟨F82, R83, rfl, oF82, oR83, wTF82, wCF82, fF82, fR83, (jv_w pr79 (by decide)), (by have q0 := (g_here_iv F R).1; have q1 := (g_here_iv F R).2; have q2 := (g_ok_g hI 1 rfl).1; have q3 := (g_ok_g hI 1 rfl).2; have q4 := (g_ok_g hI 2 rfl).1; have q5 := (g_ok_g hI 2 rfl).2; have q6 := (g_ok_g oF82 1 rfl).1; have q7 := (g_ok_g oF82 1 rfl).2; have q8 := (@g_here_lt F R); have q9 := (zx4 zc5); have q10 := (congrArg Int32.toInt (show F82 15 = F 15 from (cF82 15 rfl))); omega)⟩
  · have p84 := gn_eq 0 0 (gc_eq zc5) pr1 (jv_k (x := 0) 0 (by decide)) (by decide)
    refine g_aload_n cx 0 rfl e_X11_readsStep_7 ?_
    refine g_iconst cx 1 (by decide) e_X11_readsStep_8 ?_
    refine g_aload_n cx 0 rfl e_X11_readsStep_9 ?_
    refine g_get cx cl_X11 fl_X11_190 0 (.int (F 15)) e_X11_readsStep_10 rfl rfl ?_
    refine g_cViW cx [.int 1, .int (F 15)] [] (w_X11_wrongAt l X ad F R hI hA hWT hWC 1 (F 15)) ml_X11_204 yV_X11_wrongAt e_X11_readsStep_13 (by unfold g_rr; decide) (by decide) 0 rfl rfl rfl (Nat.le_of_ble_eq_true rfl) (fun r85 w86 h87 => ?_)
    obtain ⟨F88, R89, rfl, oF88, oR89, wTF88, wCF88, cF88, cR89, pr85⟩ := h87
    have fF88 : g_fr md_X11_readsStep F F88 := g_fr_c (g_fr_rf F) cF88 rfl
    have fR89 : g_fr mr_X11_readsStep R R89 := g_fr_c (g_fr_rf R) cR89 rfl
    exact hret e_X11_readsStep_16 (Nat.le_of_ble_eq_true rfl) (Nat.le_of_ble_eq_true rfl) (g_narb (jv_w pr85 (by decide))) ⟨F88, R89, rfl, oF88, oR89, wTF88, wCF88, fF88, fR89, (jv_w pr85 (by decide)), (by have q0 := (g_here_iv F R).1; have q1 := (g_here_iv F R).2; have q2 := (g_ok_g hI 1 rfl).1; have q3 := (g_ok_g hI 1 rfl).2; have q4 := (g_ok_g hI 2 rfl).1; have q5 := (g_ok_g hI 2 rfl).2; have q6 := (g_ok_g oF88 1 rfl).1; have q7 := (g_ok_g oF88 1 rfl).2; have q8 := (@g_here_lt F R); have q9 := (congrArg Int32.toInt (show F88 15 = F 15 from (cF88 15 rfl))); omega)⟩
theorem e_X11_takes_0 : g_dc cX11_takes 0 (.aload_n 0) 1 1 := ⟨by decide +kernel, rfl⟩
theorem e_X11_takes_1 : g_dc cX11_takes 1 (.invokevirtual 200) 3 4 := ⟨by decide +kernel, rfl⟩
theorem e_X11_takes_4 : g_dc cX11_takes 4 (.iload_n 1) 1 5 := ⟨by decide +kernel, rfl⟩
theorem e_X11_takes_5 : g_dc cX11_takes 5 (.if_icmp .eq 13) 3 8 := ⟨by decide +kernel, rfl⟩
theorem e_X11_takes_8 : g_dc cX11_takes 8 (.aload_n 0) 1 9 := ⟨by decide +kernel, rfl⟩
theorem e_X11_takes_9 : g_dc cX11_takes 9 (.iconst 1) 1 10 := ⟨by decide +kernel, rfl⟩
theorem e_X11_takes_10 : g_dc cX11_takes 10 (.aload_n 0) 1 11 := ⟨by decide +kernel, rfl⟩
theorem e_X11_takes_11 : g_dc cX11_takes 11 (.getfield 190) 3 14 := ⟨by decide +kernel, rfl⟩
theorem e_X11_takes_14 : g_dc cX11_takes 14 (.invokevirtual 204) 3 17 := ⟨by decide +kernel, rfl⟩
theorem e_X11_takes_17 : g_dc cX11_takes 17 (.ireturn) 1 18 := ⟨by decide +kernel, rfl⟩
theorem e_X11_takes_18 : g_dc cX11_takes 18 (.aload_n 0) 1 19 := ⟨by decide +kernel, rfl⟩
theorem e_X11_takes_19 : g_dc cX11_takes 19 (.aload_n 0) 1 20 := ⟨by decide +kernel, rfl⟩
theorem e_X11_takes_20 : g_dc cX11_takes 20 (.getfield 190) 3 23 := ⟨by decide +kernel, rfl⟩
theorem e_X11_takes_23 : g_dc cX11_takes 23 (.iconst 1) 1 24 := ⟨by decide +kernel, rfl⟩
theorem e_X11_takes_24 : g_dc cX11_takes 24 (.iadd) 1 25 := ⟨by decide +kernel, rfl⟩
theorem e_X11_takes_25 : g_dc cX11_takes 25 (.putfield 190) 3 28 := ⟨by decide +kernel, rfl⟩
theorem e_X11_takes_28 : g_dc cX11_takes 28 (.iconst 1) 1 29 := ⟨by decide +kernel, rfl⟩
theorem e_X11_takes_29 : g_dc cX11_takes 29 (.ireturn) 1 30 := ⟨by decide +kernel, rfl⟩
def md_X11_takes : List Nat := [15, 17]
def mr_X11_takes : List Nat := []
set_option maxHeartbeats 4000000 in
set_option maxRecDepth 100000 in
theorem w_X11_takes (l : Launch) (X : gX) (ad : Nat → Nat) (F : Nat → Int32) (R : Nat → Nat → Int32) (hI : g_ok LK_wM F) (hA : g_okR LA_wM R) (hWT : WT F R) (hWC : WC F R) (a0 : Int32) (pa0 : jv 0 127 a0) : g_Ci l X yX11_takes cX11_takes 2 (some .boolean) 2 0 0 [.ref (ad 0), .int a0] (wM X ad F R) (fun r w => ∃ (F' : Nat → Int32) (R' : Nat → Nat → Int32), w = wM X ad F' R' ∧ g_ok LK_wM F' ∧ g_okR LA_wM R' ∧ WT F' R' ∧ WC F' R' ∧ g_fr md_X11_takes F F' ∧ g_fr mr_X11_takes R R' ∧ jv 0 1 r ∧ (F 15).toInt ≤ (F' 15).toInt ∧ (¬ r = 0 → (F' 15).toInt = (F 15).toInt + 1)) := by
  refine g_mi (by decide +kernel) (Nat.le_of_ble_eq_true rfl) (fun E cx hret => ?_)
  refine g_aload_n cx 0 rfl e_X11_takes_0 ?_
  refine g_cViW cx [] [] (w_X11_here l X ad F R hI hA hWT hWC) ml_X11_200 yV_X11_here e_X11_takes_1 (by unfold g_rr; decide) (by decide) 0 rfl rfl rfl (Nat.le_of_ble_eq_true rfl) (fun r1 w2 h3 => ?_)
  obtain ⟨rfl, pr1, zx4⟩ := h3
  refine g_iload_n cx 1 rfl e_X11_takes_4 ?_
  refine g_icmp_eq cx 18 e_X11_takes_5 (by decide) (fun zc5 => ?_) (fun zc5 => ?_)
  · have p6 := gn_eq 0 127 (gc_eq zc5) pr1 pa0 (by decide)
    refine g_aload_n cx 0 rfl e_X11_takes_18 ?_
    refine g_aload_n cx 0 rfl e_X11_takes_19 ?_
    refine g_get cx cl_X11 fl_X11_190 0 (.int (F 15)) e_X11_takes_20 rfl rfl ?_
    refine g_iconst cx 1 (by decide) e_X11_takes_23 ?_
    refine g_iadd cx e_X11_takes_24 ?_
    refine g_topi (fun x7 ex7 => ?_)
    have zx7 := jv_add 1 221 ex7 (g_ok_g hI 1 rfl) (jv_k (x := 1) 1 (by decide)) (by decide)
    refine g_put cx cl_X11 fl_X11_190 0 (wM X ad (upd F 15 x7) R) e_X11_takes_25 rfl rfl rfl rfl (Nat.le_of_ble_eq_true rfl) rfl ?_
    obtain ⟨F8, hF8⟩ : ∃ z, z = upd F 15 x7 := ⟨_, rfl⟩
    rw [← hF8]
    have oF8 : g_ok LK_wM F8 := by rw [hF8]; exact g_ok_p hI (show jv 0 220 _ from ⟨by have q0 := (g_here_iv F R).1; have q1 := (g_here_iv F R).2; have q2 := (jv_k (x := 1) 1 (by decide)).1; have q3 := (jv_k (x := 1) 1 (by decide)).2; have q4 := (g_ok_g hI 1 rfl).1; have q5 := (g_ok_g hI 1 rfl).2; have q6 := (g_ok_g hI 2 rfl).1; have q7 := (g_ok_g hI 2 rfl).2; have q8 := pa0.1; have q9 := pa0.2; have q10 := p6.1; have q11 := p6.2; have q12 := zx7.2.1; have q13 := zx7.2.2; have q14 := (congrArg Int32.toInt zx4); have q15 := (@g_here_lt F R); have q16 := (gc_eq zc5); have q17 := (g_eq0 zx7.1); omega, by have q0 := (g_here_iv F R).1; have q1 := (g_here_iv F R).2; have q2 := (jv_k (x := 1) 1 (by decide)).1; have q3 := (jv_k (x := 1) 1 (by decide)).2; have q4 := (g_ok_g hI 1 rfl).1; have q5 := (g_ok_g hI 1 rfl).2; have q6 := (g_ok_g hI 2 rfl).1; have q7 := (g_ok_g hI 2 rfl).2; have q8 := pa0.1; have q9 := pa0.2; have q10 := p6.1; have q11 := p6.2; have q12 := zx7.2.1; have q13 := zx7.2.2; have q14 := (congrArg Int32.toInt zx4); have q15 := (@g_here_lt F R); have q16 := (gc_eq zc5); have q17 := (g_eq0 zx7.1); omega⟩) rfl
    have fF8 : g_fr md_X11_takes F F8 := by rw [hF8]; exact g_fr_u (g_fr_rf F) rfl
    have wTF8 : WT F8 R := by rw [hF8]; exact WT_u hWT rfl
    have wCF8 : WC F8 R := by rw [hF8]; exact WC_u hWC rfl
    refine g_iconst cx 1 (by decide) e_X11_takes_28 ?_
    exact hret e_X11_takes_29 (Nat.le_of_ble_eq_true rfl) (Nat.le_of_ble_eq_true rfl) rfl ⟨F8, R, rfl, oF8, hA, wTF8, wCF8, fF8, (g_fr_rf R), (jv_w (jv_k (x := 1) 1 (by decide)) (by decide)), (by have q0 := (g_here_iv F R).1; have q1 := (g_here_iv F R).2; have q2 := (jv_k (x := 1) 1 (by decide)).1; have q3 := (jv_k (x := 1) 1 (by decide)).2; have q4 := (g_ok_g hI 1 rfl).1; have q5 := (g_ok_g hI 1 rfl).2; have q6 := (g_ok_g hI 2 rfl).1; have q7 := (g_ok_g hI 2 rfl).2; have q8 := (g_ok_g oF8 1 rfl).1; have q9 := (g_ok_g oF8 1 rfl).2; have q10 := pa0.1; have q11 := pa0.2; have q12 := p6.1; have q13 := p6.2; have q14 := zx7.2.1; have q15 := zx7.2.2; have q16 := (congrArg Int32.toInt zx4); have q17 := (@g_here_lt F R); have q18 := (gc_eq zc5); have q19 := (g_eq0 zx7.1); have q20 := (congrArg Int32.toInt (show F8 15 = x7 from (g_pu1 hF8))); omega), (fun _ => by have q0 := (g_here_iv F R).1; have q1 := (g_here_iv F R).2; have q2 := (jv_k (x := 1) 1 (by decide)).1; have q3 := (jv_k (x := 1) 1 (by decide)).2; have q4 := (g_ok_g hI 1 rfl).1; have q5 := (g_ok_g hI 1 rfl).2; have q6 := (g_ok_g hI 2 rfl).1; have q7 := (g_ok_g hI 2 rfl).2; have q8 := (g_ok_g oF8 1 rfl).1; have q9 := (g_ok_g oF8 1 rfl).2; have q10 := pa0.1; have q11 := pa0.2; have q12 := p6.1; have q13 := p6.2; have q14 := zx7.2.1; have q15 := zx7.2.2; have q16 := (congrArg Int32.toInt zx4); have q17 := (@g_here_lt F R); have q18 := (gc_eq zc5); have q19 := (g_eq0 zx7.1); have q20 := (congrArg Int32.toInt (show F8 15 = x7 from (g_pu1 hF8))); have q21 := (congrArg Int32.toInt (show F8 15 = x7 from (g_pu1 hF8))); omega)⟩
  · refine g_aload_n cx 0 rfl e_X11_takes_8 ?_
    refine g_iconst cx 1 (by decide) e_X11_takes_9 ?_
    refine g_aload_n cx 0 rfl e_X11_takes_10 ?_
    refine g_get cx cl_X11 fl_X11_190 0 (.int (F 15)) e_X11_takes_11 rfl rfl ?_
    refine g_cViW cx [.int 1, .int (F 15)] [] (w_X11_wrongAt l X ad F R hI hA hWT hWC 1 (F 15)) ml_X11_204 yV_X11_wrongAt e_X11_takes_14 (by unfold g_rr; decide) (by decide) 0 rfl rfl rfl (Nat.le_of_ble_eq_true rfl) (fun r9 w10 h11 => ?_)
    obtain ⟨F12, R13, rfl, oF12, oR13, wTF12, wCF12, cF12, cR13, pr9⟩ := h11
    have fF12 : g_fr md_X11_takes F F12 := g_fr_c (g_fr_rf F) cF12 rfl
    have fR13 : g_fr mr_X11_takes R R13 := g_fr_c (g_fr_rf R) cR13 rfl
    exact hret e_X11_takes_17 (Nat.le_of_ble_eq_true rfl) (Nat.le_of_ble_eq_true rfl) (g_narb (jv_w pr9 (by decide))) ⟨F12, R13, rfl, oF12, oR13, wTF12, wCF12, fF12, fR13, (jv_w pr9 (by decide)), (by have q0 := (g_here_iv F R).1; have q1 := (g_here_iv F R).2; have q2 := (g_ok_g hI 1 rfl).1; have q3 := (g_ok_g hI 1 rfl).2; have q4 := (g_ok_g hI 2 rfl).1; have q5 := (g_ok_g hI 2 rfl).2; have q6 := (g_ok_g oF12 1 rfl).1; have q7 := (g_ok_g oF12 1 rfl).2; have q8 := pa0.1; have q9 := pa0.2; have q10 := pr1.1; have q11 := pr1.2; have q12 := (congrArg Int32.toInt zx4); have q13 := (@g_here_lt F R); have q14 := (gc_ne zc5); have q15 := (congrArg Int32.toInt (show F12 15 = F 15 from (cF12 15 rfl))); omega), (fun h => absurd h (by have q := pr9; exact not_not_intro (jv_c 0 q (by decide))))⟩
theorem e_X11_pull_0 : g_dc cX11_pull 0 (.iload_n 1) 1 1 := ⟨by decide +kernel, rfl⟩
theorem e_X11_pull_1 : g_dc cX11_pull 1 (.iconst 1) 1 2 := ⟨by decide +kernel, rfl⟩
theorem e_X11_pull_2 : g_dc cX11_pull 2 (.bipush 120) 2 4 := ⟨by decide +kernel, rfl⟩
theorem e_X11_pull_4 : g_dc cX11_pull 4 (.invokestatic 165) 3 7 := ⟨by decide +kernel, rfl⟩
theorem e_X11_pull_7 : g_dc cX11_pull 7 (.ifCond .eq 11) 3 10 := ⟨by decide +kernel, rfl⟩
theorem e_X11_pull_10 : g_dc cX11_pull 10 (.iload_n 1) 1 11 := ⟨by decide +kernel, rfl⟩
theorem e_X11_pull_11 : g_dc cX11_pull 11 (.aload_n 0) 1 12 := ⟨by decide +kernel, rfl⟩
theorem e_X11_pull_12 : g_dc cX11_pull 12 (.getfield 183) 3 15 := ⟨by decide +kernel, rfl⟩
theorem e_X11_pull_15 : g_dc cX11_pull 15 (.if_icmp .le 5) 3 18 := ⟨by decide +kernel, rfl⟩
theorem e_X11_pull_18 : g_dc cX11_pull 18 (.iconst (-1)) 1 19 := ⟨by decide +kernel, rfl⟩
theorem e_X11_pull_19 : g_dc cX11_pull 19 (.ireturn) 1 20 := ⟨by decide +kernel, rfl⟩
theorem e_X11_pull_20 : g_dc cX11_pull 20 (.aload_n 0) 1 21 := ⟨by decide +kernel, rfl⟩
theorem e_X11_pull_21 : g_dc cX11_pull 21 (.iconst 0) 1 22 := ⟨by decide +kernel, rfl⟩
theorem e_X11_pull_22 : g_dc cX11_pull 22 (.putfield 190) 3 25 := ⟨by decide +kernel, rfl⟩
theorem e_X11_pull_25 : g_dc cX11_pull 25 (.aload_n 0) 1 26 := ⟨by decide +kernel, rfl⟩
theorem e_X11_pull_26 : g_dc cX11_pull 26 (.iload_n 1) 1 27 := ⟨by decide +kernel, rfl⟩
theorem e_X11_pull_27 : g_dc cX11_pull 27 (.putfield 216) 3 30 := ⟨by decide +kernel, rfl⟩
theorem e_X11_pull_30 : g_dc cX11_pull 30 (.aload_n 0) 1 31 := ⟨by decide +kernel, rfl⟩
theorem e_X11_pull_31 : g_dc cX11_pull 31 (.iconst 0) 1 32 := ⟨by decide +kernel, rfl⟩
theorem e_X11_pull_32 : g_dc cX11_pull 32 (.putfield 213) 3 35 := ⟨by decide +kernel, rfl⟩
theorem e_X11_pull_35 : g_dc cX11_pull 35 (.aload_n 0) 1 36 := ⟨by decide +kernel, rfl⟩
theorem e_X11_pull_36 : g_dc cX11_pull 36 (.iconst 0) 1 37 := ⟨by decide +kernel, rfl⟩
theorem e_X11_pull_37 : g_dc cX11_pull 37 (.putfield 207) 3 40 := ⟨by decide +kernel, rfl⟩
theorem e_X11_pull_40 : g_dc cX11_pull 40 (.aload_n 0) 1 41 := ⟨by decide +kernel, rfl⟩
theorem e_X11_pull_41 : g_dc cX11_pull 41 (.invokevirtual 219) 3 44 := ⟨by decide +kernel, rfl⟩
theorem e_X11_pull_44 : g_dc cX11_pull 44 (.istore_n 2) 1 45 := ⟨by decide +kernel, rfl⟩
theorem e_X11_pull_45 : g_dc cX11_pull 45 (.iload_n 2) 1 46 := ⟨by decide +kernel, rfl⟩
theorem e_X11_pull_46 : g_dc cX11_pull 46 (.ifCond .eq 39) 3 49 := ⟨by decide +kernel, rfl⟩
theorem e_X11_pull_49 : g_dc cX11_pull 49 (.aload_n 0) 1 50 := ⟨by decide +kernel, rfl⟩
theorem e_X11_pull_50 : g_dc cX11_pull 50 (.getfield 190) 3 53 := ⟨by decide +kernel, rfl⟩
theorem e_X11_pull_53 : g_dc cX11_pull 53 (.aload_n 0) 1 54 := ⟨by decide +kernel, rfl⟩
theorem e_X11_pull_54 : g_dc cX11_pull 54 (.getfield 216) 3 57 := ⟨by decide +kernel, rfl⟩
theorem e_X11_pull_57 : g_dc cX11_pull 57 (.if_icmp .ge 28) 3 60 := ⟨by decide +kernel, rfl⟩
theorem e_X11_pull_60 : g_dc cX11_pull 60 (.aload_n 0) 1 61 := ⟨by decide +kernel, rfl⟩
theorem e_X11_pull_61 : g_dc cX11_pull 61 (.bipush 44) 2 63 := ⟨by decide +kernel, rfl⟩
theorem e_X11_pull_63 : g_dc cX11_pull 63 (.invokevirtual 222) 3 66 := ⟨by decide +kernel, rfl⟩
theorem e_X11_pull_66 : g_dc cX11_pull 66 (.ifCond .eq 14) 3 69 := ⟨by decide +kernel, rfl⟩
theorem e_X11_pull_69 : g_dc cX11_pull 69 (.aload_n 0) 1 70 := ⟨by decide +kernel, rfl⟩
theorem e_X11_pull_70 : g_dc cX11_pull 70 (.invokevirtual 219) 3 73 := ⟨by decide +kernel, rfl⟩
theorem e_X11_pull_73 : g_dc cX11_pull 73 (.ifCond .eq 7) 3 76 := ⟨by decide +kernel, rfl⟩
theorem e_X11_pull_76 : g_dc cX11_pull 76 (.iconst 1) 1 77 := ⟨by decide +kernel, rfl⟩
theorem e_X11_pull_77 : g_dc cX11_pull 77 (.goto 4) 3 80 := ⟨by decide +kernel, rfl⟩
theorem e_X11_pull_80 : g_dc cX11_pull 80 (.iconst 0) 1 81 := ⟨by decide +kernel, rfl⟩
theorem e_X11_pull_81 : g_dc cX11_pull 81 (.istore_n 2) 1 82 := ⟨by decide +kernel, rfl⟩
theorem e_X11_pull_82 : g_dc cX11_pull 82 (.goto (-37)) 3 85 := ⟨by decide +kernel, rfl⟩
theorem e_X11_pull_85 : g_dc cX11_pull 85 (.aload_n 0) 1 86 := ⟨by decide +kernel, rfl⟩
theorem e_X11_pull_86 : g_dc cX11_pull 86 (.iconst 0) 1 87 := ⟨by decide +kernel, rfl⟩
theorem e_X11_pull_87 : g_dc cX11_pull 87 (.putfield 183) 3 90 := ⟨by decide +kernel, rfl⟩
theorem e_X11_pull_90 : g_dc cX11_pull 90 (.iload_n 2) 1 91 := ⟨by decide +kernel, rfl⟩
theorem e_X11_pull_91 : g_dc cX11_pull 91 (.ifCond .ne 8) 3 94 := ⟨by decide +kernel, rfl⟩
theorem e_X11_pull_94 : g_dc cX11_pull 94 (.aload_n 0) 1 95 := ⟨by decide +kernel, rfl⟩
theorem e_X11_pull_95 : g_dc cX11_pull 95 (.getfield 225) 3 98 := ⟨by decide +kernel, rfl⟩
theorem e_X11_pull_98 : g_dc cX11_pull 98 (.ireturn) 1 99 := ⟨by decide +kernel, rfl⟩
theorem e_X11_pull_99 : g_dc cX11_pull 99 (.aload_n 0) 1 100 := ⟨by decide +kernel, rfl⟩
theorem e_X11_pull_100 : g_dc cX11_pull 100 (.aload_n 0) 1 101 := ⟨by decide +kernel, rfl⟩
theorem e_X11_pull_101 : g_dc cX11_pull 101 (.getfield 213) 3 104 := ⟨by decide +kernel, rfl⟩
theorem e_X11_pull_104 : g_dc cX11_pull 104 (.putfield 228) 3 107 := ⟨by decide +kernel, rfl⟩
theorem e_X11_pull_107 : g_dc cX11_pull 107 (.iconst 0) 1 108 := ⟨by decide +kernel, rfl⟩
theorem e_X11_pull_108 : g_dc cX11_pull 108 (.istore_n 3) 1 109 := ⟨by decide +kernel, rfl⟩
theorem e_X11_pull_109 : g_dc cX11_pull 109 (.iload_n 3) 1 110 := ⟨by decide +kernel, rfl⟩
theorem e_X11_pull_110 : g_dc cX11_pull 110 (.aload_n 0) 1 111 := ⟨by decide +kernel, rfl⟩
theorem e_X11_pull_111 : g_dc cX11_pull 111 (.getfield 228) 3 114 := ⟨by decide +kernel, rfl⟩
theorem e_X11_pull_114 : g_dc cX11_pull 114 (.if_icmp .ge 21) 3 117 := ⟨by decide +kernel, rfl⟩
theorem e_X11_pull_117 : g_dc cX11_pull 117 (.aload_n 0) 1 118 := ⟨by decide +kernel, rfl⟩
theorem e_X11_pull_118 : g_dc cX11_pull 118 (.getfield 38) 3 121 := ⟨by decide +kernel, rfl⟩
theorem e_X11_pull_121 : g_dc cX11_pull 121 (.iload_n 3) 1 122 := ⟨by decide +kernel, rfl⟩
theorem e_X11_pull_122 : g_dc cX11_pull 122 (.aload_n 0) 1 123 := ⟨by decide +kernel, rfl⟩
theorem e_X11_pull_123 : g_dc cX11_pull 123 (.getfield 41) 3 126 := ⟨by decide +kernel, rfl⟩
theorem e_X11_pull_126 : g_dc cX11_pull 126 (.iload_n 3) 1 127 := ⟨by decide +kernel, rfl⟩
theorem e_X11_pull_127 : g_dc cX11_pull 127 (.iaload) 1 128 := ⟨by decide +kernel, rfl⟩
theorem e_X11_pull_128 : g_dc cX11_pull 128 (.iastore) 1 129 := ⟨by decide +kernel, rfl⟩
theorem e_X11_pull_129 : g_dc cX11_pull 129 (.iinc 3 1) 3 132 := ⟨by decide +kernel, rfl⟩
theorem e_X11_pull_132 : g_dc cX11_pull 132 (.goto (-23)) 3 135 := ⟨by decide +kernel, rfl⟩
theorem e_X11_pull_135 : g_dc cX11_pull 135 (.aload_n 0) 1 136 := ⟨by decide +kernel, rfl⟩
theorem e_X11_pull_136 : g_dc cX11_pull 136 (.getfield 228) 3 139 := ⟨by decide +kernel, rfl⟩
theorem e_X11_pull_139 : g_dc cX11_pull 139 (.ireturn) 1 140 := ⟨by decide +kernel, rfl⟩
def md_X11_pull : List Nat := [14, 15, 16, 17, 18, 19, 20, 21]
def mr_X11_pull : List Nat := [10, 11]
set_option maxHeartbeats 4000000 in
set_option maxRecDepth 100000 in
theorem w_X11_pull (l : Launch) (X : gX) (ad : Nat → Nat) (F : Nat → Int32) (R : Nat → Nat → Int32) (hI : g_ok LK_wM F) (hA : g_okR LA_wM R) (hWT : WT F R) (hWC : WC F R) (a0 : Int32) : g_Ci l X yX11_pull cX11_pull 4 (some .int) 5 0 0 [.ref (ad 0), .int a0] (wM X ad F R) (fun r w => ∃ (F' : Nat → Int32) (R' : Nat → Nat → Int32), w = wM X ad F' R' ∧ g_ok LK_wM F' ∧ g_okR LA_wM R' ∧ WT F' R' ∧ WC F' R' ∧ g_fr md_X11_pull F F' ∧ g_fr mr_X11_pull R R' ∧ jv (-2147483648) 2147483647 r) := by
  refine g_mi (by decide +kernel) (Nat.le_of_ble_eq_true rfl) (fun E cx hret => ?_)
  refine g_iload_n cx 1 rfl e_X11_pull_0 ?_
  refine g_iconst cx 1 (by decide) e_X11_pull_1 ?_
  refine g_bipush cx 120 (by decide) e_X11_pull_2 ?_
  refine g_cSiW cx [.int a0, .int 1, .int 120] [] (c_X11_in l X (wM X ad F R) a0 1 120) ml_X11_165 yS_X11_in rfl e_X11_pull_4 (by unfold g_rr; decide) (by decide) rfl (Nat.le_of_ble_eq_true rfl) (fun r1 w2 h3 => ?_)
  obtain ⟨rfl, hr1⟩ := h3
  have pr1 : jv 0 1 r1 := by rw [hr1]; exact gi_01 _ _ _
  have J18 : G X E 4 0 0 (wM X ad F R) [] 18 [] := by
    refine g_iconst cx (-1) (by decide) e_X11_pull_18 ?_
    exact hret e_X11_pull_19 (Nat.le_of_ble_eq_true rfl) (Nat.le_of_ble_eq_true rfl) rfl ⟨F, R, rfl, hI, hA, hWT, hWC, (g_fr_rf F), (g_fr_rf R), (jv_w (jv_k (x := (-1)) (-1) (by decide)) (by decide))⟩
  refine g_if_eq cx 18 e_X11_pull_7 (by decide) (fun zc4 => ?_) (fun zc4 => ?_)
  · have p5 := gn_eq 0 0 (gc_eq zc4) pr1 (jv_k (x := 0) 0 (by decide)) (by decide)
    refine g_lsub [] [] rfl ?_
    exact J18  
  · have p6 := gn_neL 1 1 (gc_ne zc4) pr1 (jv_k (x := 0) 0 (by decide)) (by decide)
    have p7 := jv_i 1 120 (jv_t a0) (gi_in (A := 1) (B := 120) hr1 zc4 (by decide) (by decide)) (by decide)
    refine g_iload_n cx 1 rfl e_X11_pull_10 ?_
    refine g_aload_n cx 0 rfl e_X11_pull_11 ?_
    refine g_get cx cl_X11 fl_X11_183 0 (.int (F 14)) e_X11_pull_12 rfl rfl ?_
    refine g_icmp_le cx 20 e_X11_pull_15 (by decide) (fun zc8 => ?_) (fun zc8 => ?_)
    · have p9 := gn_ge 1 220 (gc_le zc8) (g_ok_g hI 0 rfl) p7 (by decide)
      refine g_aload_n cx 0 rfl e_X11_pull_20 ?_
      refine g_iconst cx 0 (by decide) e_X11_pull_21 ?_
      refine g_put cx cl_X11 fl_X11_190 0 (wM X ad (upd F 15 0) R) e_X11_pull_22 rfl rfl rfl rfl (Nat.le_of_ble_eq_true rfl) rfl ?_
      obtain ⟨F10, hF10⟩ : ∃ z, z = upd F 15 0 := ⟨_, rfl⟩
      rw [← hF10]
      have oF10 : g_ok LK_wM F10 := by rw [hF10]; exact g_ok_p hI (jv_k (x := 0) 0 (by decide)) rfl
      have fF10 : g_fr md_X11_pull F F10 := by rw [hF10]; exact g_fr_u (g_fr_rf F) rfl
      have wTF10 : WT F10 R := by rw [hF10]; exact WT_u hWT rfl
      have wCF10 : WC F10 R := by rw [hF10]; exact WC_u hWC rfl
      refine g_aload_n cx 0 rfl e_X11_pull_25 ?_
      refine g_iload_n cx 1 rfl e_X11_pull_26 ?_
      refine g_put cx cl_X11 fl_X11_216 0 (wM X ad (upd F10 16 a0) R) e_X11_pull_27 rfl rfl rfl rfl (Nat.le_of_ble_eq_true rfl) rfl ?_
      obtain ⟨F11, hF11⟩ : ∃ z, z = upd F10 16 a0 := ⟨_, rfl⟩
      rw [← hF11]
      have oF11 : g_ok LK_wM F11 := by rw [hF11]; exact g_ok_p oF10 p7 rfl
      have fF11 : g_fr md_X11_pull F F11 := by rw [hF11]; exact g_fr_u fF10 rfl
      have wTF11 : WT F11 R := by rw [hF11]; exact WT_u wTF10 rfl
      have wCF11 : WC F11 R := by rw [hF11]; exact WC_u wCF10 rfl
      refine g_aload_n cx 0 rfl e_X11_pull_30 ?_
      refine g_iconst cx 0 (by decide) e_X11_pull_31 ?_
      refine g_put cx cl_X11 fl_X11_213 0 (wM X ad (upd F11 20 0) R) e_X11_pull_32 rfl rfl rfl rfl (Nat.le_of_ble_eq_true rfl) rfl ?_
      obtain ⟨F12, hF12⟩ : ∃ z, z = upd F11 20 0 := ⟨_, rfl⟩
      rw [← hF12]
      have oF12 : g_ok LK_wM F12 := by rw [hF12]; exact g_ok_p oF11 (jv_k (x := 0) 0 (by decide)) rfl
      have fF12 : g_fr md_X11_pull F F12 := by rw [hF12]; exact g_fr_u fF11 rfl
      have wTF12 : WT F12 R := by rw [hF12]; exact WT_u wTF11 rfl
      have wCF12 : WC F12 R := by rw [hF12]; exact WC_u wCF11 rfl
      refine g_aload_n cx 0 rfl e_X11_pull_35 ?_
      refine g_iconst cx 0 (by decide) e_X11_pull_36 ?_
      refine g_put cx cl_X11 fl_X11_207 0 (wM X ad (upd F12 21 0) R) e_X11_pull_37 rfl rfl rfl rfl (Nat.le_of_ble_eq_true rfl) rfl ?_
      obtain ⟨F13, hF13⟩ : ∃ z, z = upd F12 21 0 := ⟨_, rfl⟩
      rw [← hF13]
      have oF13 : g_ok LK_wM F13 := by rw [hF13]; exact g_ok_p oF12 (jv_k (x := 0) 0 (by decide)) rfl
      have fF13 : g_fr md_X11_pull F F13 := by rw [hF13]; exact g_fr_u fF12 rfl
      have wTF13 : WT F13 R := by rw [hF13]; exact WT_u wTF12 rfl
      have wCF13 : WC F13 R := by rw [hF13]; exact WC_u wCF12 rfl
      refine g_aload_n cx 0 rfl e_X11_pull_40 ?_
      refine g_cViW cx [] [] (w_X11_readsStep l X ad F13 R oF13 hA wTF13 wCF13) ml_X11_219 yV_X11_readsStep e_X11_pull_41 (by unfold g_rr; decide) (by decide) 0 rfl rfl rfl (Nat.le_of_ble_eq_true rfl) (fun r14 w15 h16 => ?_)
      obtain ⟨F18, R19, rfl, oF18, oR19, wTF18, wCF18, cF18, cR19, pr14, zx17⟩ := h16
      have fF18 : g_fr md_X11_pull F F18 := g_fr_c fF13 cF18 rfl
      have fR19 : g_fr mr_X11_pull R R19 := g_fr_c (g_fr_rf R) cR19 rfl
      refine g_istore_n cx [(2, .int r14), (0, .ref (ad 0)), (1, .int a0)] e_X11_pull_44 (by decide) rfl ?_
      have J45 : ∀ (N : Nat) (F21 : Nat → Int32) (R22 : Nat → Nat → Int32) (y20 : Int32), (g_ok LK_wM F21) → (g_fr md_X11_pull F F21) → (g_okR LA_wM R22) → (g_fr mr_X11_pull R R22) → (WT F21 R22) → (WC F21 R22) → (jv 0 1 y20) → (1000 + (y20 : Int32).toInt - (F21 15).toInt).toNat < N → G X E 4 0 0 (wM X ad F21 R22) [(0, .ref (ad 0)), (2, .int y20)] 45 [] := by
        intro N
        induction N with
        | zero => intro F21 R22 y20 oF21 fF21 oR22 fR22 wTF21R22 wCF21R22 py20 hm; exact absurd hm (Nat.not_lt_zero _)
        | succ N ih45 =>
          intro F21 R22 y20 oF21 fF21 oR22 fR22 wTF21R22 wCF21R22 py20 hm45
          refine g_iload_n cx 1 rfl e_X11_pull_45 ?_
          have J85 : G X E 4 0 0 (wM X ad F21 R22) [(0, .ref (ad 0)), (2, .int y20)] 85 [] := by
            refine g_aload_n cx 0 rfl e_X11_pull_85 ?_
            refine g_iconst cx 0 (by decide) e_X11_pull_86 ?_
            refine g_put cx cl_X11 fl_X11_183 0 (wM X ad (upd F21 14 0) R22) e_X11_pull_87 rfl rfl rfl rfl (Nat.le_of_ble_eq_true rfl) rfl ?_
            obtain ⟨F23, hF23⟩ : ∃ z, z = upd F21 14 0 := ⟨_, rfl⟩
            rw [← hF23]
            have oF23 : g_ok LK_wM F23 := by rw [hF23]; exact g_ok_p oF21 (jv_k (x := 0) 0 (by decide)) rfl
            have fF23 : g_fr md_X11_pull F F23 := by rw [hF23]; exact g_fr_u fF21 rfl
            have wTF23 : WT F23 R22 := by rw [hF23]; exact WT_u wTF21R22 rfl
            have wCF23 : WC F23 R22 := by rw [hF23]; exact WC_u wCF21R22 rfl
            refine g_iload_n cx 1 rfl e_X11_pull_90 ?_
            refine g_if_ne cx 99 e_X11_pull_91 (by decide) (fun zc24 => ?_) (fun zc24 => ?_)
            · have p25 := gn_neL 1 1 (gc_ne zc24) py20 (jv_k (x := 0) 0 (by decide)) (by decide)
              refine g_aload_n cx 0 rfl e_X11_pull_99 ?_
              refine g_aload_n cx 0 rfl e_X11_pull_100 ?_
              refine g_get cx cl_X11 fl_X11_213 0 (.int (F23 20)) e_X11_pull_101 rfl rfl ?_
              refine g_toi (F21 20) (g_pu2 hF23 rfl) ?_
              refine g_put cx cl_X11 fl_X11_228 0 (wM X ad (upd F23 19 (F21 20)) R22) e_X11_pull_104 rfl rfl rfl rfl (Nat.le_of_ble_eq_true rfl) rfl ?_
              obtain ⟨F26, hF26⟩ : ∃ z, z = upd F23 19 (F21 20) := ⟨_, rfl⟩
              rw [← hF26]
              have oF26 : g_ok LK_wM F26 := by rw [hF26]; exact g_ok_p oF23 (g_ok_g oF21 4 rfl) rfl
              have fF26 : g_fr md_X11_pull F F26 := by rw [hF26]; exact g_fr_u fF23 rfl
              have wTF26 : WT F26 R22 := by rw [hF26]; exact WT_u wTF23 rfl
              have wCF26 : WC F26 R22 := by rw [hF26]; exact WC_u wCF23 rfl
              refine g_iconst cx 0 (by decide) e_X11_pull_107 ?_
              refine g_istore_n cx [(3, .int 0), (0, .ref (ad 0)), (2, .int y20)] e_X11_pull_108 (by decide) rfl ?_
              have J109 : ∀ (N : Nat) (R28 : Nat → Nat → Int32) (y27 : Int32), (g_okR LA_wM R28) → (g_fr mr_X11_pull R R28) → (WT F26 R28) → (WC F26 R28) → (jv 0 60 y27) → (2147483647 - y27.toInt).toNat < N → G X E 4 0 0 (wM X ad F26 R28) [(0, .ref (ad 0)), (3, .int y27)] 109 [] := by
                intro N
                induction N with
                | zero => intro R28 y27 oR28 fR28 wTR28 wCR28 py27 hm; exact absurd hm (Nat.not_lt_zero _)
                | succ N ih109 =>
                  intro R28 y27 oR28 fR28 wTR28 wCR28 py27 hm109
                  refine g_iload_n cx 1 rfl e_X11_pull_109 ?_
                  refine g_aload_n cx 0 rfl e_X11_pull_110 ?_
                  refine g_get cx cl_X11 fl_X11_228 0 (.int (F26 19)) e_X11_pull_111 rfl rfl ?_
                  refine g_toi (F21 20) (g_pu1 hF26) ?_
                  refine g_icmp_ge cx 135 e_X11_pull_114 (by decide) (fun zc29 => ?_) (fun zc29 => ?_)
                  · refine g_aload_n cx 0 rfl e_X11_pull_135 ?_
                    refine g_get cx cl_X11 fl_X11_228 0 (.int (F26 19)) e_X11_pull_136 rfl rfl ?_
                    refine g_toi (F21 20) (g_pu1 hF26) ?_
                    exact hret e_X11_pull_139 (Nat.le_of_ble_eq_true rfl) (Nat.le_of_ble_eq_true rfl) rfl ⟨F26, R28, rfl, oF26, oR28, wTR28, wCR28, fF26, fR28, (jv_w (g_ok_g oF21 4 rfl) (by decide))⟩
                  · have p30 := gn_lt 0 59 (gc_nle zc29) py27 (g_ok_g oF21 4 rfl) (by decide)
                    have p31 := gn_gt 1 60 (gc_nle zc29) (g_ok_g oF21 4 rfl) py27 (by decide)
                    refine g_aload_n cx 0 rfl e_X11_pull_117 ?_
                    refine g_get cx cl_X11 fl_X11_38 0 (.ref (ad 10)) e_X11_pull_118 rfl rfl ?_
                    refine g_iload_n cx 1 rfl e_X11_pull_121 ?_
                    refine g_aload_n cx 0 rfl e_X11_pull_122 ?_
                    refine g_get cx cl_X11 fl_X11_41 0 (.ref (ad 11)) e_X11_pull_123 rfl rfl ?_
                    refine g_iload_n cx 1 rfl e_X11_pull_126 ?_
                    refine g_iald cx 11 e_X11_pull_127 rfl (jv_ix 60 p30 (by decide)) ?_
                    refine g_topi (fun x32 ex32 => ?_)
                    refine g_iast cx 10 (wM X ad F26 (g_u R28 10 (upd (R28 10) (Int32.toNatClampNeg y27) x32))) e_X11_pull_128 rfl (jv_ix 60 p30 (by decide)) rfl ?_
                    obtain ⟨R33, hR33⟩ : ∃ z, z = g_u R28 10 (upd (R28 10) (Int32.toNatClampNeg y27) x32) := ⟨_, rfl⟩
                    rw [← hR33]
                    have oR33 : g_okR LA_wM R33 := by rw [hR33]; exact g_okR_u oR28 rfl
                    have fR33 : g_fr mr_X11_pull R R33 := by rw [hR33]; exact g_fr_r fR28 rfl
                    have wTR33 : WT F26 R33 := by rw [hR33]; exact WT_r wTR28 rfl
                    have wCR33 : WC F26 R33 := by rw [hR33]; exact WC_r wCR28 rfl
                    obtain ⟨x34, ex34⟩ : ∃ z : Int32, z = y27 + Int32.ofInt 1 := ⟨_, rfl⟩
                    refine g_iinc cx x34 [(3, .int x34), (0, .ref (ad 0))] 1 e_X11_pull_129 rfl ex34.symm (by decide) rfl ?_
                    have zx34 := jv_add 1 60 (show x34 = y27 + 1 from ex34) p30 (jv_k (x := 1) 1 (by decide)) (by decide)
                    refine g_goto cx 109 e_X11_pull_132 (by decide) ?_
                    refine g_lsub [1, 0] [(0, .ref (ad 0)), (3, .int x34)] rfl ?_
                    exact ih109 R33 x34 oR33 fR33 wTR33 wCR33 (jv_w zx34.2 (by decide)) (Nat.lt_of_lt_of_le (show (2147483647 - x34.toInt).toNat < (2147483647 - y27.toInt).toNat from by have q0 := (jv_k (x := 1) 1 (by decide)).1; have q1 := (jv_k (x := 1) 1 (by decide)).2; have q2 := p31.1; have q3 := p31.2; have q4 := zx34.2.1; have q5 := zx34.2.2; have q6 := p30.1; have q7 := p30.2; have q8 := (gc_nle zc29); have q9 := (g_eq0 zx34.1); omega) (Nat.le_of_lt_succ hm109))
              refine g_lsub [1, 0] [(0, .ref (ad 0)), (3, .int 0)] rfl ?_
              exact J109 _ R22 0 oR22 fR22 wTF26 wCF26 (jv_w (jv_k (x := 0) 0 (by decide)) (by decide)) (Nat.lt_succ_self _)
            · have p35 := gn_eq 0 0 (gc_eq zc24) py20 (jv_k (x := 0) 0 (by decide)) (by decide)
              refine g_aload_n cx 0 rfl e_X11_pull_94 ?_
              refine g_get cx cl_X11 fl_X11_225 0 (.int (F23 17)) e_X11_pull_95 rfl rfl ?_
              refine g_toi (F21 17) (g_pu2 hF23 rfl) ?_
              exact hret e_X11_pull_98 (Nat.le_of_ble_eq_true rfl) (Nat.le_of_ble_eq_true rfl) rfl ⟨F23, R22, rfl, oF23, oR22, wTF23, wCF23, fF23, fR22, (jv_t (F21 17))⟩
          refine g_if_eq cx 85 e_X11_pull_46 (by decide) (fun zc36 => ?_) (fun zc36 => ?_)
          · have p37 := gn_eq 0 0 (gc_eq zc36) py20 (jv_k (x := 0) 0 (by decide)) (by decide)
            exact J85  
          · have p38 := gn_neL 1 1 (gc_ne zc36) py20 (jv_k (x := 0) 0 (by decide)) (by decide)
            refine g_aload_n cx 0 rfl e_X11_pull_49 ?_
            refine g_get cx cl_X11 fl_X11_190 0 (.int (F21 15)) e_X11_pull_50 rfl rfl ?_
            refine g_aload_n cx 0 rfl e_X11_pull_53 ?_
            refine g_get cx cl_X11 fl_X11_216 0 (.int (F21 16)) e_X11_pull_54 rfl rfl ?_
            refine g_icmp_ge cx 85 e_X11_pull_57 (by decide) (fun zc39 => ?_) (fun zc39 => ?_)
            · exact J85  
            · have p40 := gn_lt 0 199 (gc_nle zc39) (g_ok_g oF21 1 rfl) (g_ok_g oF21 2 rfl) (by decide)
              have p41 := gn_gt 1 200 (gc_nle zc39) (g_ok_g oF21 2 rfl) (g_ok_g oF21 1 rfl) (by decide)
              refine g_aload_n cx 0 rfl e_X11_pull_60 ?_
              refine g_bipush cx 44 (by decide) e_X11_pull_61 ?_
              refine g_cViW cx [.int 44] [] (w_X11_takes l X ad F21 R22 oF21 oR22 wTF21R22 wCF21R22 44 (jv_w (jv_k (x := 44) 44 (by decide)) (by decide))) ml_X11_222 yV_X11_takes e_X11_pull_63 (by unfold g_rr; decide) (by decide) 0 rfl rfl rfl (Nat.le_of_ble_eq_true rfl) (fun r42 w43 h44 => ?_)
              obtain ⟨F47, R48, rfl, oF47, oR48, wTF47, wCF47, cF47, cR48, pr42, zx45, zx46⟩ := h44
              have fF47 : g_fr md_X11_pull F F47 := g_fr_c fF21 cF47 rfl
              have fR48 : g_fr mr_X11_pull R R48 := g_fr_c fR22 cR48 rfl
              have J81 : ∀ (F50 : Nat → Int32) (R51 : Nat → Nat → Int32) (y49 : Int32), (g_ok LK_wM F50) → (g_fr md_X11_pull F F50) → (g_okR LA_wM R51) → (g_fr mr_X11_pull R R51) → (WT F50 R51) → (WC F50 R51) → (jv 0 1 y49) → ((F21 15).toInt + (y49 : Int32).toInt ≤ (F50 15).toInt) → G X E 4 0 0 (wM X ad F50 R51) [(0, .ref (ad 0))] 81 [.int y49] := by
                intro F50 R51 y49 oF50 fF50 oR51 fR51 wTF50R51 wCF50R51 py49 zi81_0
                refine g_istore_n cx [(2, .int y49), (0, .ref (ad 0))] e_X11_pull_81 (by decide) rfl ?_
                refine g_goto cx 45 e_X11_pull_82 (by decide) ?_
                refine g_lsub [1, 0] [(0, .ref (ad 0)), (2, .int y49)] rfl ?_
                exact ih45 F50 R51 y49 oF50 fF50 oR51 fR51 wTF50R51 wCF50R51 py49 (Nat.lt_of_lt_of_le (show (1000 + (y49 : Int32).toInt - (F50 15).toInt).toNat < (1000 + (y20 : Int32).toInt - (F21 15).toInt).toNat from by have q0 := (jv_k (x := 0) 0 (by decide)).1; have q1 := (jv_k (x := 0) 0 (by decide)).2; have q2 := p40.1; have q3 := p40.2; have q4 := p41.1; have q5 := p41.2; have q6 := (g_ok_g oF47 1 rfl).1; have q7 := (g_ok_g oF47 1 rfl).2; have q8 := (g_ok_g oF50 1 rfl).1; have q9 := (g_ok_g oF50 1 rfl).2; have q10 := p6.1; have q11 := p6.2; have q12 := p38.1; have q13 := p38.2; have q14 := py49.1; have q15 := py49.2; have q16 := (gc_ne zc4); have q17 := (gc_ne zc36); have q18 := (gc_nle zc39); have q19 := zx45; have q20 := zi81_0; omega) (Nat.le_of_lt_succ hm45))
              have J80 : ∀ (F52 : Nat → Int32) (R53 : Nat → Nat → Int32), (g_ok LK_wM F52) → (g_fr md_X11_pull F F52) → (g_okR LA_wM R53) → (g_fr mr_X11_pull R R53) → (WT F52 R53) → (WC F52 R53) → ((F21 15).toInt ≤ (F52 15).toInt) → G X E 4 0 0 (wM X ad F52 R53) [(0, .ref (ad 0))] 80 [] := by
                intro F52 R53 oF52 fF52 oR53 fR53 wTF52R53 wCF52R53 zi80_0
                refine g_iconst cx 0 (by decide) e_X11_pull_80 ?_
                exact J81 F52 R53 0 oF52 fF52 oR53 fR53 wTF52R53 wCF52R53 (jv_w (jv_k (x := 0) 0 (by decide)) (by decide)) (by have q0 := (jv_k (x := 0) 0 (by decide)).1; have q1 := (jv_k (x := 0) 0 (by decide)).2; have q2 := p40.1; have q3 := p40.2; have q4 := p41.1; have q5 := p41.2; have q6 := (g_ok_g oF47 1 rfl).1; have q7 := (g_ok_g oF47 1 rfl).2; have q8 := (g_ok_g oF52 1 rfl).1; have q9 := (g_ok_g oF52 1 rfl).2; have q10 := p6.1; have q11 := p6.2; have q12 := p38.1; have q13 := p38.2; have q14 := (gc_ne zc4); have q15 := (gc_ne zc36); have q16 := (gc_nle zc39); have q17 := zx45; have q18 := zi80_0; omega)
              refine g_if_eq cx 80 e_X11_pull_66 (by decide) (fun zc54 => ?_) (fun zc54 => ?_)
              · have p55 := gn_eq 0 0 (gc_eq zc54) pr42 (jv_k (x := 0) 0 (by decide)) (by decide)
                refine g_lsub [0] [(0, .ref (ad 0))] rfl ?_
                exact J80 F47 R48 oF47 fF47 oR48 fR48 wTF47 wCF47 (by have q0 := p40.1; have q1 := p40.2; have q2 := p41.1; have q3 := p41.2; have q4 := (g_ok_g oF47 1 rfl).1; have q5 := (g_ok_g oF47 1 rfl).2; have q6 := (gc_nle zc39); have q7 := zx45; omega)
              · have p56 := gn_neL 1 1 (gc_ne zc54) pr42 (jv_k (x := 0) 0 (by decide)) (by decide)
                refine g_aload_n cx 0 rfl e_X11_pull_69 ?_
                refine g_cViW cx [] [] (w_X11_readsStep l X ad F47 R48 oF47 oR48 wTF47 wCF47) ml_X11_219 yV_X11_readsStep e_X11_pull_70 (by unfold g_rr; decide) (by decide) 0 rfl rfl rfl (Nat.le_of_ble_eq_true rfl) (fun r57 w58 h59 => ?_)
                obtain ⟨F61, R62, rfl, oF61, oR62, wTF61, wCF61, cF61, cR62, pr57, zx60⟩ := h59
                have fF61 : g_fr md_X11_pull F F61 := g_fr_c fF47 cF61 rfl
                have fR62 : g_fr mr_X11_pull R R62 := g_fr_c fR48 cR62 rfl
                refine g_if_eq cx 80 e_X11_pull_73 (by decide) (fun zc63 => ?_) (fun zc63 => ?_)
                · have p64 := gn_eq 0 0 (gc_eq zc63) pr57 (jv_k (x := 0) 0 (by decide)) (by decide)
                  refine g_lsub [0] [(0, .ref (ad 0))] rfl ?_
                  exact J80 F61 R62 oF61 fF61 oR62 fR62 wTF61 wCF61 (by have q0 := p40.1; have q1 := p40.2; have q2 := p41.1; have q3 := p41.2; have q4 := (g_ok_g oF47 1 rfl).1; have q5 := (g_ok_g oF47 1 rfl).2; have q6 := (g_ok_g oF61 1 rfl).1; have q7 := (g_ok_g oF61 1 rfl).2; have q8 := (gc_nle zc39); have q9 := zx45; have q10 := (zx46 zc54); have q11 := zx60; omega)
                · have p65 := gn_neL 1 1 (gc_ne zc63) pr57 (jv_k (x := 0) 0 (by decide)) (by decide)
                  refine g_iconst cx 1 (by decide) e_X11_pull_76 ?_
                  refine g_goto cx 81 e_X11_pull_77 (by decide) ?_
                  refine g_lsub [0] [(0, .ref (ad 0))] rfl ?_
                  exact J81 F61 R62 1 oF61 fF61 oR62 fR62 wTF61 wCF61 (jv_w (jv_k (x := 1) 1 (by decide)) (by decide)) (by have q0 := (jv_k (x := 1) 1 (by decide)).1; have q1 := (jv_k (x := 1) 1 (by decide)).2; have q2 := p40.1; have q3 := p40.2; have q4 := p41.1; have q5 := p41.2; have q6 := (g_ok_g oF47 1 rfl).1; have q7 := (g_ok_g oF47 1 rfl).2; have q8 := (g_ok_g oF61 1 rfl).1; have q9 := (g_ok_g oF61 1 rfl).2; have q10 := (gc_nle zc39); have q11 := zx45; have q12 := (zx46 zc54); have q13 := zx60; omega)
      refine g_lsub [1, 0] [(0, .ref (ad 0)), (2, .int r14)] rfl ?_
      exact J45 _ F18 R19 r14 oF18 fF18 oR19 fR19 wTF18 wCF18 pr14 (Nat.lt_succ_self _)
    · have p66 := gn_lt 0 119 (gc_nle zc8) (g_ok_g hI 0 rfl) p7 (by decide)
      refine g_lsub [] [] rfl ?_
      exact J18  
