/-! ===== reading ===== -/
/-- the sign that stands next, -1 behind the end -/
def g_here (F : Nat → Int32) (R : Nat → Nat → Int32) : Int32 := if (F 15).toInt < (F 16).toInt then R 9 (F 15).toNatClampNeg &&& 255 else -1
theorem g_here_y {F : Nat → Int32} {R : Nat → Nat → Int32} {x y : Int32} (h : (F 15).toInt < (F 16).toInt) (ex : x = R 9 (F 15).toNatClampNeg) (ey : y = x &&& 255) : y = g_here F R := by
  rw [g_here, if_pos h, ey, ex]
theorem g_here_n {F : Nat → Int32} {R : Nat → Nat → Int32} (h : ¬ (F 15).toInt < (F 16).toInt) : -1 = g_here F R := by
  rw [g_here, if_neg h]
theorem g_here_lt {F : Nat → Int32} {R : Nat → Nat → Int32} (h : 0 ≤ (g_here F R).toInt) : (F 15).toInt < (F 16).toInt := by
  by_cases q : (F 15).toInt < (F 16).toInt
  · exact q
  · rw [g_here, if_neg q] at h
    exact absurd h (by decide)
theorem g_here_iv (F : Nat → Int32) (R : Nat → Nat → Int32) : jv (-1) 255 (g_here F R) := by
  unfold g_here
  split
  · exact jv_w (jv_and 0 255 rfl (jv_k (x := 255) 255 (by decide)) (by decide)) (by decide)
  · exact jv_w (jv_k (x := (-1)) (-1) (by decide)) (by decide)

def sp_X11_here (F : Nat → Int32) (R : Nat → Nat → Int32) : Int32 :=
  if (F 16) ≤ (F 15) then (-1) else k_lt (R 9 (Int32.toNatClampNeg (F 15))) (fun x6 => k_lt (x6 &&& 255) (fun x8 => x8))
theorem e_X11_here_0 : g_dc cX11_here 0 (.aload_n 0) 1 1 := ⟨by decide +kernel, rfl⟩
theorem e_X11_here_1 : g_dc cX11_here 1 (.getfield 190) 3 4 := ⟨by decide +kernel, rfl⟩
theorem e_X11_here_4 : g_dc cX11_here 4 (.aload_n 0) 1 5 := ⟨by decide +kernel, rfl⟩
theorem e_X11_here_5 : g_dc cX11_here 5 (.getfield 216) 3 8 := ⟨by decide +kernel, rfl⟩
theorem e_X11_here_8 : g_dc cX11_here 8 (.if_icmp .ge 19) 3 11 := ⟨by decide +kernel, rfl⟩
theorem e_X11_here_11 : g_dc cX11_here 11 (.aload_n 0) 1 12 := ⟨by decide +kernel, rfl⟩
theorem e_X11_here_12 : g_dc cX11_here 12 (.getfield 34) 3 15 := ⟨by decide +kernel, rfl⟩
theorem e_X11_here_15 : g_dc cX11_here 15 (.aload_n 0) 1 16 := ⟨by decide +kernel, rfl⟩
theorem e_X11_here_16 : g_dc cX11_here 16 (.getfield 190) 3 19 := ⟨by decide +kernel, rfl⟩
theorem e_X11_here_19 : g_dc cX11_here 19 (.baload) 1 20 := ⟨by decide +kernel, rfl⟩
theorem e_X11_here_20 : g_dc cX11_here 20 (.sipush 255) 3 23 := ⟨by decide +kernel, rfl⟩
theorem e_X11_here_23 : g_dc cX11_here 23 (.iand) 1 24 := ⟨by decide +kernel, rfl⟩
theorem e_X11_here_24 : g_dc cX11_here 24 (.goto 4) 3 27 := ⟨by decide +kernel, rfl⟩
theorem e_X11_here_27 : g_dc cX11_here 27 (.iconst (-1)) 1 28 := ⟨by decide +kernel, rfl⟩
theorem e_X11_here_28 : g_dc cX11_here 28 (.ireturn) 1 29 := ⟨by decide +kernel, rfl⟩
set_option maxHeartbeats 4000000 in
set_option maxRecDepth 100000 in
theorem w_X11_here (l : Launch) (X : gX) (ad : Nat → Nat) (F : Nat → Int32) (R : Nat → Nat → Int32) (hI : g_ok LK_wM F) (hA : g_okR LA_wM R) (hWT : WT F R) (hWC : WC F R) : g_Ci l X yX11_here cX11_here 1 (some .int) 1 0 0 [.ref (ad 0)] (wM X ad F R) (fun r w => w = wM X ad F R ∧ jv (-1) 255 r ∧ r = g_here F R ∧ r = sp_X11_here F R) := by
  refine g_mi (by decide +kernel) (Nat.le_of_ble_eq_true rfl) (fun E cx hret => ?_)
  obtain ⟨SP, hSP⟩ : ∃ z, z = sp_X11_here F R := ⟨_, rfl⟩
  have hk0 := hSP
  unfold sp_X11_here at hk0
  refine g_aload_n cx 0 rfl e_X11_here_0 ?_
  refine g_get cx cl_X11 fl_X11_190 0 (.int (F 15)) e_X11_here_1 rfl rfl ?_
  refine g_aload_n cx 0 rfl e_X11_here_4 ?_
  refine g_get cx cl_X11 fl_X11_216 0 (.int (F 16)) e_X11_here_5 rfl rfl ?_
  refine g_icmp_ge cx 27 e_X11_here_8 (by decide) (fun zc1 => ?_) (fun zc1 => ?_)
  · have hk2 := hk0.trans (if_pos zc1)
    refine g_iconst cx (-1) (by decide) e_X11_here_27 ?_
    exact hret e_X11_here_28 (Nat.le_of_ble_eq_true rfl) (Nat.le_of_ble_eq_true rfl) rfl ⟨rfl, (jv_w (jv_k (x := (-1)) (-1) (by decide)) (by decide)), (g_here_n (by have q0 := (g_ok_g hI 1 rfl).1; have q1 := (g_ok_g hI 1 rfl).2; have q2 := (g_ok_g hI 2 rfl).1; have q3 := (g_ok_g hI 2 rfl).2; have q4 := (gc_le zc1); omega)), (hk2.symm.trans hSP)⟩
  · have p3 := gn_lt 0 199 (gc_nle zc1) (g_ok_g hI 1 rfl) (g_ok_g hI 2 rfl) (by decide)
    have p4 := gn_gt 1 200 (gc_nle zc1) (g_ok_g hI 2 rfl) (g_ok_g hI 1 rfl) (by decide)
    have hk5 := hk0.trans (if_neg zc1)
    refine g_aload_n cx 0 rfl e_X11_here_11 ?_
    refine g_get cx cl_X11 fl_X11_34 0 (.ref (ad 9)) e_X11_here_12 rfl rfl ?_
    refine g_aload_n cx 0 rfl e_X11_here_15 ?_
    refine g_get cx cl_X11 fl_X11_190 0 (.int (F 15)) e_X11_here_16 rfl rfl ?_
    refine g_bald cx 9 e_X11_here_19 rfl (jv_ix 220 p3 (by decide)) ?_
    refine g_topi (fun x6 ex6 => ?_)
    have hk7 := k_ls hk5 ex6
    refine g_sipush cx 255 (by decide) e_X11_here_20 ?_
    refine g_iand cx e_X11_here_23 ?_
    refine g_topi (fun x8 ex8 => ?_)
    have hk9 := k_ls hk7 ex8
    have px8 := jv_and 0 255 ex8 (jv_k (x := 255) 255 (by decide)) (by decide)
    refine g_goto cx 28 e_X11_here_24 (by decide) ?_
    exact hret e_X11_here_28 (Nat.le_of_ble_eq_true rfl) (Nat.le_of_ble_eq_true rfl) rfl ⟨rfl, (jv_w px8 (by decide)), (g_here_y (by have q0 := p3.1; have q1 := p3.2; have q2 := p4.1; have q3 := p4.2; have q4 := (gc_nle zc1); omega) ex6 ex8), (hk9.symm.trans hSP)⟩
def sp_X11_isDigit (F : Nat → Int32) (R : Nat → Nat → Int32) : Int32 :=
  k_lt (sp_X11_here F R) (fun r1 => if r1 < 48 then 0 else k_lt (sp_X11_here F R) (fun r12 => if 57 < r12 then 0 else 1))
theorem e_X11_isDigit_0 : g_dc cX11_isDigit 0 (.aload_n 0) 1 1 := ⟨by decide +kernel, rfl⟩
theorem e_X11_isDigit_1 : g_dc cX11_isDigit 1 (.invokevirtual 200) 3 4 := ⟨by decide +kernel, rfl⟩
theorem e_X11_isDigit_4 : g_dc cX11_isDigit 4 (.bipush 48) 2 6 := ⟨by decide +kernel, rfl⟩
theorem e_X11_isDigit_6 : g_dc cX11_isDigit 6 (.if_icmp .lt 16) 3 9 := ⟨by decide +kernel, rfl⟩
theorem e_X11_isDigit_9 : g_dc cX11_isDigit 9 (.aload_n 0) 1 10 := ⟨by decide +kernel, rfl⟩
theorem e_X11_isDigit_10 : g_dc cX11_isDigit 10 (.invokevirtual 200) 3 13 := ⟨by decide +kernel, rfl⟩
theorem e_X11_isDigit_13 : g_dc cX11_isDigit 13 (.bipush 57) 2 15 := ⟨by decide +kernel, rfl⟩
theorem e_X11_isDigit_15 : g_dc cX11_isDigit 15 (.if_icmp .gt 7) 3 18 := ⟨by decide +kernel, rfl⟩
theorem e_X11_isDigit_18 : g_dc cX11_isDigit 18 (.iconst 1) 1 19 := ⟨by decide +kernel, rfl⟩
theorem e_X11_isDigit_19 : g_dc cX11_isDigit 19 (.goto 4) 3 22 := ⟨by decide +kernel, rfl⟩
theorem e_X11_isDigit_22 : g_dc cX11_isDigit 22 (.iconst 0) 1 23 := ⟨by decide +kernel, rfl⟩
theorem e_X11_isDigit_23 : g_dc cX11_isDigit 23 (.ireturn) 1 24 := ⟨by decide +kernel, rfl⟩
set_option maxHeartbeats 4000000 in
set_option maxRecDepth 100000 in
theorem w_X11_isDigit (l : Launch) (X : gX) (ad : Nat → Nat) (F : Nat → Int32) (R : Nat → Nat → Int32) (hI : g_ok LK_wM F) (hA : g_okR LA_wM R) (hWT : WT F R) (hWC : WC F R) : g_Ci l X yX11_isDigit cX11_isDigit 1 (some .boolean) 2 0 0 [.ref (ad 0)] (wM X ad F R) (fun r w => w = wM X ad F R ∧ jv 0 1 r ∧ (¬ r = 0 → 48 ≤ (g_here F R).toInt ∧ (g_here F R).toInt ≤ 57) ∧ (r.toInt = 0 → (g_here F R).toInt < 48 ∨ 57 < (g_here F R).toInt) ∧ r = sp_X11_isDigit F R) := by
  refine g_mi (by decide +kernel) (Nat.le_of_ble_eq_true rfl) (fun E cx hret => ?_)
  obtain ⟨SP, hSP⟩ : ∃ z, z = sp_X11_isDigit F R := ⟨_, rfl⟩
  have hk0 := hSP
  unfold sp_X11_isDigit at hk0
  refine g_aload_n cx 0 rfl e_X11_isDigit_0 ?_
  refine g_cViW cx [] [] (w_X11_here l X ad F R hI hA hWT hWC) ml_X11_200 yV_X11_here e_X11_isDigit_1 (by unfold g_rr; decide) (by decide) 0 rfl rfl rfl (Nat.le_of_ble_eq_true rfl) (fun r1 w2 h3 => ?_)
  obtain ⟨rfl, pr1, zx4, hx5⟩ := h3
  have hk6 := k_ls hk0 hx5
  refine g_bipush cx 48 (by decide) e_X11_isDigit_4 ?_
  refine g_icmp_lt cx 22 e_X11_isDigit_6 (by decide) (fun zc7 => ?_) (fun zc7 => ?_)
  · have p8 := gn_lt (-1) 47 (gc_lt zc7) pr1 (jv_k (x := 48) 48 (by decide)) (by decide)
    have hk9 := hk6.trans (if_pos zc7)
    refine g_iconst cx 0 (by decide) e_X11_isDigit_22 ?_
    exact hret e_X11_isDigit_23 (Nat.le_of_ble_eq_true rfl) (Nat.le_of_ble_eq_true rfl) rfl ⟨rfl, (jv_w (jv_k (x := 0) 0 (by decide)) (by decide)), (fun h => absurd rfl h), (fun _ => by have q0 := (g_here_iv F R).1; have q1 := (g_here_iv F R).2; have q2 := (jv_k (x := 48) 48 (by decide)).1; have q3 := (jv_k (x := 48) 48 (by decide)).2; have q4 := (g_ok_g hI 1 rfl).1; have q5 := (g_ok_g hI 1 rfl).2; have q6 := (g_ok_g hI 2 rfl).1; have q7 := (g_ok_g hI 2 rfl).2; have q8 := p8.1; have q9 := p8.2; have q10 := (congrArg Int32.toInt zx4); have q11 := (@g_here_lt F R); have q12 := (gc_lt zc7); omega), (hk9.symm.trans hSP)⟩
  · have p10 := gn_ge 48 255 (gc_nlt zc7) pr1 (jv_k (x := 48) 48 (by decide)) (by decide)
    have hk11 := hk6.trans (if_neg zc7)
    refine g_aload_n cx 0 rfl e_X11_isDigit_9 ?_
    refine g_cViW cx [] [] (w_X11_here l X ad F R hI hA hWT hWC) ml_X11_200 yV_X11_here e_X11_isDigit_10 (by unfold g_rr; decide) (by decide) 0 rfl rfl rfl (Nat.le_of_ble_eq_true rfl) (fun r12 w13 h14 => ?_)
    obtain ⟨rfl, pr12, zx15, hx16⟩ := h14
    have hk17 := k_ls hk11 hx16
    refine g_bipush cx 57 (by decide) e_X11_isDigit_13 ?_
    refine g_icmp_gt cx 22 e_X11_isDigit_15 (by decide) (fun zc18 => ?_) (fun zc18 => ?_)
    · have p19 := gn_gt 58 255 (gc_lt zc18) pr12 (jv_k (x := 57) 57 (by decide)) (by decide)
      have hk20 := hk17.trans (if_pos zc18)
      refine g_iconst cx 0 (by decide) e_X11_isDigit_22 ?_
      exact hret e_X11_isDigit_23 (Nat.le_of_ble_eq_true rfl) (Nat.le_of_ble_eq_true rfl) rfl ⟨rfl, (jv_w (jv_k (x := 0) 0 (by decide)) (by decide)), (fun h => absurd rfl h), (fun _ => by have q0 := (g_here_iv F R).1; have q1 := (g_here_iv F R).2; have q2 := (jv_k (x := 48) 48 (by decide)).1; have q3 := (jv_k (x := 48) 48 (by decide)).2; have q4 := (jv_k (x := 57) 57 (by decide)).1; have q5 := (jv_k (x := 57) 57 (by decide)).2; have q6 := (g_ok_g hI 1 rfl).1; have q7 := (g_ok_g hI 1 rfl).2; have q8 := (g_ok_g hI 2 rfl).1; have q9 := (g_ok_g hI 2 rfl).2; have q10 := p10.1; have q11 := p10.2; have q12 := p19.1; have q13 := p19.2; have q14 := (congrArg Int32.toInt zx4); have q15 := (@g_here_lt F R); have q16 := (gc_nlt zc7); have q17 := (congrArg Int32.toInt zx15); have q18 := (@g_here_lt F R); have q19 := (gc_lt zc18); omega), (hk20.symm.trans hSP)⟩
    · have p21 := gn_le (-1) 57 (gc_nlt zc18) pr12 (jv_k (x := 57) 57 (by decide)) (by decide)
      have hk22 := hk17.trans (if_neg zc18)
      refine g_iconst cx 1 (by decide) e_X11_isDigit_18 ?_
      refine g_goto cx 23 e_X11_isDigit_19 (by decide) ?_
      exact hret e_X11_isDigit_23 (Nat.le_of_ble_eq_true rfl) (Nat.le_of_ble_eq_true rfl) rfl ⟨rfl, (jv_w (jv_k (x := 1) 1 (by decide)) (by decide)), (fun _ => by have q0 := (g_here_iv F R).1; have q1 := (g_here_iv F R).2; have q2 := (jv_k (x := 48) 48 (by decide)).1; have q3 := (jv_k (x := 48) 48 (by decide)).2; have q4 := (jv_k (x := 57) 57 (by decide)).1; have q5 := (jv_k (x := 57) 57 (by decide)).2; have q6 := (g_ok_g hI 1 rfl).1; have q7 := (g_ok_g hI 1 rfl).2; have q8 := (g_ok_g hI 2 rfl).1; have q9 := (g_ok_g hI 2 rfl).2; have q10 := p10.1; have q11 := p10.2; have q12 := p21.1; have q13 := p21.2; have q14 := (congrArg Int32.toInt zx4); have q15 := (@g_here_lt F R); have q16 := (gc_nlt zc7); have q17 := (congrArg Int32.toInt zx15); have q18 := (@g_here_lt F R); have q19 := (gc_nlt zc18); omega), (fun h => absurd h (by decide)), (hk22.symm.trans hSP)⟩
def sp_X11_wrongAt (F : Nat → Int32) (R : Nat → Nat → Int32) (a0 : Int32) (a1 : Int32) : Int32 × (Nat → Int32) × (Nat → Nat → Int32) :=
  k_lt ((-1000) * a0) (fun x1 => k_lt (x1 - a1) (fun x3 => k_lt (upd F 17 x3) (fun F5 => (0, F5, R))))
theorem e_X11_wrongAt_0 : g_dc cX11_wrongAt 0 (.aload_n 0) 1 1 := ⟨by decide +kernel, rfl⟩
theorem e_X11_wrongAt_1 : g_dc cX11_wrongAt 1 (.sipush (-1000)) 3 4 := ⟨by decide +kernel, rfl⟩
theorem e_X11_wrongAt_4 : g_dc cX11_wrongAt 4 (.iload_n 1) 1 5 := ⟨by decide +kernel, rfl⟩
theorem e_X11_wrongAt_5 : g_dc cX11_wrongAt 5 (.imul) 1 6 := ⟨by decide +kernel, rfl⟩
theorem e_X11_wrongAt_6 : g_dc cX11_wrongAt 6 (.iload_n 2) 1 7 := ⟨by decide +kernel, rfl⟩
theorem e_X11_wrongAt_7 : g_dc cX11_wrongAt 7 (.isub) 1 8 := ⟨by decide +kernel, rfl⟩
theorem e_X11_wrongAt_8 : g_dc cX11_wrongAt 8 (.putfield 225) 3 11 := ⟨by decide +kernel, rfl⟩
theorem e_X11_wrongAt_11 : g_dc cX11_wrongAt 11 (.iconst 0) 1 12 := ⟨by decide +kernel, rfl⟩
theorem e_X11_wrongAt_12 : g_dc cX11_wrongAt 12 (.ireturn) 1 13 := ⟨by decide +kernel, rfl⟩
def md_X11_wrongAt : List Nat := [17]
def mr_X11_wrongAt : List Nat := []
set_option maxHeartbeats 4000000 in
set_option maxRecDepth 100000 in
theorem w_X11_wrongAt (l : Launch) (X : gX) (ad : Nat → Nat) (F : Nat → Int32) (R : Nat → Nat → Int32) (hI : g_ok LK_wM F) (hA : g_okR LA_wM R) (hWT : WT F R) (hWC : WC F R) (a0 : Int32) (a1 : Int32) : g_Ci l X yX11_wrongAt cX11_wrongAt 3 (some .boolean) 1 0 0 [.ref (ad 0), .int a0, .int a1] (wM X ad F R) (fun r w => ∃ (F' : Nat → Int32) (R' : Nat → Nat → Int32), w = wM X ad F' R' ∧ g_ok LK_wM F' ∧ g_okR LA_wM R' ∧ WT F' R' ∧ WC F' R' ∧ g_fr md_X11_wrongAt F F' ∧ g_fr mr_X11_wrongAt R R' ∧ jv 0 0 r ∧ (r, F', R') = sp_X11_wrongAt F R a0 a1) := by
  refine g_mi (by decide +kernel) (Nat.le_of_ble_eq_true rfl) (fun E cx hret => ?_)
  obtain ⟨SP, hSP⟩ : ∃ z, z = sp_X11_wrongAt F R a0 a1 := ⟨_, rfl⟩
  have hk0 := hSP
  unfold sp_X11_wrongAt at hk0
  refine g_aload_n cx 0 rfl e_X11_wrongAt_0 ?_
  refine g_sipush cx (-1000) (by decide) e_X11_wrongAt_1 ?_
  refine g_iload_n cx 1 rfl e_X11_wrongAt_4 ?_
  refine g_imul cx e_X11_wrongAt_5 ?_
  refine g_topi (fun x1 ex1 => ?_)
  have hk2 := k_ls hk0 ex1
  refine g_iload_n cx 2 rfl e_X11_wrongAt_6 ?_
  refine g_isub cx e_X11_wrongAt_7 ?_
  refine g_topi (fun x3 ex3 => ?_)
  have hk4 := k_ls hk2 ex3
  refine g_put cx cl_X11 fl_X11_225 0 (wM X ad (upd F 17 x3) R) e_X11_wrongAt_8 rfl rfl rfl rfl (Nat.le_of_ble_eq_true rfl) rfl ?_
  obtain ⟨F5, hF5⟩ : ∃ z, z = upd F 17 x3 := ⟨_, rfl⟩
  rw [← hF5]
  have hk6 := k_ls hk4 hF5
  have oF5 : g_ok LK_wM F5 := by rw [hF5]; exact g_ok_u hI rfl
  have fF5 : g_fr md_X11_wrongAt F F5 := by rw [hF5]; exact g_fr_u (g_fr_rf F) rfl
  have wTF5 : WT F5 R := by rw [hF5]; exact WT_u hWT rfl
  have wCF5 : WC F5 R := by rw [hF5]; exact WC_u hWC rfl
  refine g_iconst cx 0 (by decide) e_X11_wrongAt_11 ?_
  exact hret e_X11_wrongAt_12 (Nat.le_of_ble_eq_true rfl) (Nat.le_of_ble_eq_true rfl) rfl ⟨F5, R, rfl, oF5, hA, wTF5, wCF5, fF5, (g_fr_rf R), (jv_k (x := 0) 0 (by decide)), (hk6.symm.trans hSP)⟩
def K_X11_readsPace_82  (F12 : Nat → Int32) (R13 : Nat → Nat → Int32) (y11 : Int32) : Int32 × (Nat → Int32) × (Nat → Nat → Int32) :=
  (y11, F12, R13)
def K_X11_readsPace_59 (F : Nat → Int32) (F3 : Nat → Int32) (R : Nat → Nat → Int32)  : Int32 × (Nat → Int32) × (Nat → Nat → Int32) :=
  if (F3 18) ≤ 40 then K_X11_readsPace_82 F3 R 1 else k_lt3 (sp_X11_wrongAt F3 R 3 (F 15)) (fun r19 F23 R24 => K_X11_readsPace_82 F23 R24 0)
def KB_X11_readsPace_10 (b10 : (Nat → Int32) → Int32 × (Nat → Int32) × (Nat → Nat → Int32)) (F : Nat → Int32) (R : Nat → Nat → Int32) (F3 : Nat → Int32) : Int32 × (Nat → Int32) × (Nat → Nat → Int32) :=
  k_lt (sp_X11_isDigit F3 R) (fun r4 => if r4 = 0 then K_X11_readsPace_59 F F3 R else k_lt ((F 15) + 2) (fun x32 => if x32 ≤ (F3 15) then K_X11_readsPace_59 F F3 R else k_lt (10 * (F3 18)) (fun x40 => k_lt (sp_X11_here F3 R) (fun r42 => k_lt (x40 + r42) (fun x48 => k_lt (x48 - 48) (fun x50 => k_lt (upd F3 18 x50) (fun F52 => k_lt ((F3 15) + 1) (fun x54 => k_lt (upd F52 15 x54) (fun F56 => b10 F56)))))))))
def K_X11_readsPace_10 (F : Nat → Int32) (R : Nat → Nat → Int32) : Nat → (Nat → Int32) → Int32 × (Nat → Int32) × (Nat → Nat → Int32)
  | 0 => fun F3 => (0, F3, R)
  | n + 1 => KB_X11_readsPace_10 (K_X11_readsPace_10 F R n) F R
def sp_X11_readsPace (F : Nat → Int32) (R : Nat → Nat → Int32) : Int32 × (Nat → Int32) × (Nat → Nat → Int32) :=
  k_lt (upd F 18 0) (fun F1 => K_X11_readsPace_10 F R 8589934592 F1)
theorem e_X11_readsPace_0 : g_dc cX11_readsPace 0 (.aload_n 0) 1 1 := ⟨by decide +kernel, rfl⟩
theorem e_X11_readsPace_1 : g_dc cX11_readsPace 1 (.getfield 190) 3 4 := ⟨by decide +kernel, rfl⟩
theorem e_X11_readsPace_4 : g_dc cX11_readsPace 4 (.istore_n 1) 1 5 := ⟨by decide +kernel, rfl⟩
theorem e_X11_readsPace_5 : g_dc cX11_readsPace 5 (.aload_n 0) 1 6 := ⟨by decide +kernel, rfl⟩
theorem e_X11_readsPace_6 : g_dc cX11_readsPace 6 (.iconst 0) 1 7 := ⟨by decide +kernel, rfl⟩
theorem e_X11_readsPace_7 : g_dc cX11_readsPace 7 (.putfield 193) 3 10 := ⟨by decide +kernel, rfl⟩
theorem e_X11_readsPace_10 : g_dc cX11_readsPace 10 (.aload_n 0) 1 11 := ⟨by decide +kernel, rfl⟩
theorem e_X11_readsPace_11 : g_dc cX11_readsPace 11 (.invokevirtual 196) 3 14 := ⟨by decide +kernel, rfl⟩
theorem e_X11_readsPace_14 : g_dc cX11_readsPace 14 (.ifCond .eq 45) 3 17 := ⟨by decide +kernel, rfl⟩
theorem e_X11_readsPace_17 : g_dc cX11_readsPace 17 (.aload_n 0) 1 18 := ⟨by decide +kernel, rfl⟩
theorem e_X11_readsPace_18 : g_dc cX11_readsPace 18 (.getfield 190) 3 21 := ⟨by decide +kernel, rfl⟩
theorem e_X11_readsPace_21 : g_dc cX11_readsPace 21 (.iload_n 1) 1 22 := ⟨by decide +kernel, rfl⟩
theorem e_X11_readsPace_22 : g_dc cX11_readsPace 22 (.iconst 2) 1 23 := ⟨by decide +kernel, rfl⟩
theorem e_X11_readsPace_23 : g_dc cX11_readsPace 23 (.iadd) 1 24 := ⟨by decide +kernel, rfl⟩
theorem e_X11_readsPace_24 : g_dc cX11_readsPace 24 (.if_icmp .ge 35) 3 27 := ⟨by decide +kernel, rfl⟩
theorem e_X11_readsPace_27 : g_dc cX11_readsPace 27 (.aload_n 0) 1 28 := ⟨by decide +kernel, rfl⟩
theorem e_X11_readsPace_28 : g_dc cX11_readsPace 28 (.bipush 10) 2 30 := ⟨by decide +kernel, rfl⟩
theorem e_X11_readsPace_30 : g_dc cX11_readsPace 30 (.aload_n 0) 1 31 := ⟨by decide +kernel, rfl⟩
theorem e_X11_readsPace_31 : g_dc cX11_readsPace 31 (.getfield 193) 3 34 := ⟨by decide +kernel, rfl⟩
theorem e_X11_readsPace_34 : g_dc cX11_readsPace 34 (.imul) 1 35 := ⟨by decide +kernel, rfl⟩
theorem e_X11_readsPace_35 : g_dc cX11_readsPace 35 (.aload_n 0) 1 36 := ⟨by decide +kernel, rfl⟩
theorem e_X11_readsPace_36 : g_dc cX11_readsPace 36 (.invokevirtual 200) 3 39 := ⟨by decide +kernel, rfl⟩
theorem e_X11_readsPace_39 : g_dc cX11_readsPace 39 (.iadd) 1 40 := ⟨by decide +kernel, rfl⟩
theorem e_X11_readsPace_40 : g_dc cX11_readsPace 40 (.bipush 48) 2 42 := ⟨by decide +kernel, rfl⟩
theorem e_X11_readsPace_42 : g_dc cX11_readsPace 42 (.isub) 1 43 := ⟨by decide +kernel, rfl⟩
theorem e_X11_readsPace_43 : g_dc cX11_readsPace 43 (.putfield 193) 3 46 := ⟨by decide +kernel, rfl⟩
theorem e_X11_readsPace_46 : g_dc cX11_readsPace 46 (.aload_n 0) 1 47 := ⟨by decide +kernel, rfl⟩
theorem e_X11_readsPace_47 : g_dc cX11_readsPace 47 (.aload_n 0) 1 48 := ⟨by decide +kernel, rfl⟩
theorem e_X11_readsPace_48 : g_dc cX11_readsPace 48 (.getfield 190) 3 51 := ⟨by decide +kernel, rfl⟩
theorem e_X11_readsPace_51 : g_dc cX11_readsPace 51 (.iconst 1) 1 52 := ⟨by decide +kernel, rfl⟩
theorem e_X11_readsPace_52 : g_dc cX11_readsPace 52 (.iadd) 1 53 := ⟨by decide +kernel, rfl⟩
theorem e_X11_readsPace_53 : g_dc cX11_readsPace 53 (.putfield 190) 3 56 := ⟨by decide +kernel, rfl⟩
theorem e_X11_readsPace_56 : g_dc cX11_readsPace 56 (.goto (-46)) 3 59 := ⟨by decide +kernel, rfl⟩
theorem e_X11_readsPace_59 : g_dc cX11_readsPace 59 (.aload_n 0) 1 60 := ⟨by decide +kernel, rfl⟩
theorem e_X11_readsPace_60 : g_dc cX11_readsPace 60 (.getfield 193) 3 63 := ⟨by decide +kernel, rfl⟩
theorem e_X11_readsPace_63 : g_dc cX11_readsPace 63 (.bipush 40) 2 65 := ⟨by decide +kernel, rfl⟩
theorem e_X11_readsPace_65 : g_dc cX11_readsPace 65 (.if_icmp .le 12) 3 68 := ⟨by decide +kernel, rfl⟩
theorem e_X11_readsPace_68 : g_dc cX11_readsPace 68 (.aload_n 0) 1 69 := ⟨by decide +kernel, rfl⟩
theorem e_X11_readsPace_69 : g_dc cX11_readsPace 69 (.iconst 3) 1 70 := ⟨by decide +kernel, rfl⟩
theorem e_X11_readsPace_70 : g_dc cX11_readsPace 70 (.iload_n 1) 1 71 := ⟨by decide +kernel, rfl⟩
theorem e_X11_readsPace_71 : g_dc cX11_readsPace 71 (.invokevirtual 204) 3 74 := ⟨by decide +kernel, rfl⟩
theorem e_X11_readsPace_74 : g_dc cX11_readsPace 74 (.ifCond .eq 7) 3 77 := ⟨by decide +kernel, rfl⟩
theorem e_X11_readsPace_77 : g_dc cX11_readsPace 77 (.iconst 1) 1 78 := ⟨by decide +kernel, rfl⟩
theorem e_X11_readsPace_78 : g_dc cX11_readsPace 78 (.goto 4) 3 81 := ⟨by decide +kernel, rfl⟩
theorem e_X11_readsPace_81 : g_dc cX11_readsPace 81 (.iconst 0) 1 82 := ⟨by decide +kernel, rfl⟩
theorem e_X11_readsPace_82 : g_dc cX11_readsPace 82 (.ireturn) 1 83 := ⟨by decide +kernel, rfl⟩
def md_X11_readsPace : List Nat := [15, 17, 18]
def mr_X11_readsPace : List Nat := []
set_option maxHeartbeats 4000000 in
set_option maxRecDepth 100000 in
theorem w_X11_readsPace (l : Launch) (X : gX) (ad : Nat → Nat) (F : Nat → Int32) (R : Nat → Nat → Int32) (hI : g_ok LK_wM F) (hA : g_okR LA_wM R) (hWT : WT F R) (hWC : WC F R) : g_Ci l X yX11_readsPace cX11_readsPace 2 (some .boolean) 3 0 0 [.ref (ad 0)] (wM X ad F R) (fun r w => ∃ (F' : Nat → Int32) (R' : Nat → Nat → Int32), w = wM X ad F' R' ∧ g_ok LK_wM F' ∧ g_okR LA_wM R' ∧ WT F' R' ∧ WC F' R' ∧ g_fr md_X11_readsPace F F' ∧ g_fr mr_X11_readsPace R R' ∧ jv 0 1 r ∧ (F 15).toInt ≤ (F' 15).toInt ∧ (r, F', R') = sp_X11_readsPace F R) := by
  refine g_mi (by decide +kernel) (Nat.le_of_ble_eq_true rfl) (fun E cx hret => ?_)
  obtain ⟨SP, hSP⟩ : ∃ z, z = sp_X11_readsPace F R := ⟨_, rfl⟩
  have hk0 := hSP
  unfold sp_X11_readsPace at hk0
  refine g_aload_n cx 0 rfl e_X11_readsPace_0 ?_
  refine g_get cx cl_X11 fl_X11_190 0 (.int (F 15)) e_X11_readsPace_1 rfl rfl ?_
  refine g_istore_n cx [(1, .int (F 15)), (0, .ref (ad 0))] e_X11_readsPace_4 (by decide) rfl ?_
  refine g_aload_n cx 1 rfl e_X11_readsPace_5 ?_
  refine g_iconst cx 0 (by decide) e_X11_readsPace_6 ?_
  refine g_put cx cl_X11 fl_X11_193 0 (wM X ad (upd F 18 0) R) e_X11_readsPace_7 rfl rfl rfl rfl (Nat.le_of_ble_eq_true rfl) rfl ?_
  obtain ⟨F1, hF1⟩ : ∃ z, z = upd F 18 0 := ⟨_, rfl⟩
  rw [← hF1]
  have hk2 := k_ls hk0 hF1
  have oF1 : g_ok LK_wM F1 := by rw [hF1]; exact g_ok_u hI rfl
  have fF1 : g_fr md_X11_readsPace F F1 := by rw [hF1]; exact g_fr_u (g_fr_rf F) rfl
  have wTF1 : WT F1 R := by rw [hF1]; exact WT_u hWT rfl
  have wCF1 : WC F1 R := by rw [hF1]; exact WC_u hWC rfl
  have J10 : ∀ (N : Nat) (F3 : Nat → Int32), (g_ok LK_wM F3) → (g_fr md_X11_readsPace F F3) → (WT F3 R) → (WC F3 R) → ((F 15).toInt ≤ (F3 15).toInt) → (SP = K_X11_readsPace_10 F R N F3) → (2147483647 - (F3 15).toInt).toNat < N → G X E 2 0 0 (wM X ad F3 R) [(0, .ref (ad 0)), (1, .int (F 15))] 10 [] := by
    intro N
    induction N with
    | zero => intro F3 oF3 fF3 wTF3 wCF3 zi10_0 hkJ10 hm; exact absurd hm (Nat.not_lt_zero _)
    | succ N ih10 =>
      intro F3 oF3 fF3 wTF3 wCF3 zi10_0 hkJ10 hm10
      have hkK10 : SP = KB_X11_readsPace_10 (K_X11_readsPace_10 F R N) F R F3 := hkJ10
      obtain ⟨b10, hb10⟩ : ∃ z, z = K_X11_readsPace_10 F R N := ⟨_, rfl⟩
      rw [← hb10] at hkK10
      unfold KB_X11_readsPace_10 at hkK10
      refine g_aload_n cx 0 rfl e_X11_readsPace_10 ?_
      refine g_cViW cx [] [] (w_X11_isDigit l X ad F3 R oF3 hA wTF3 wCF3) ml_X11_196 yV_X11_isDigit e_X11_readsPace_11 (by unfold g_rr; decide) (by decide) 0 rfl rfl rfl (Nat.le_of_ble_eq_true rfl) (fun r4 w5 h6 => ?_)
      obtain ⟨rfl, pr4, zx7, zx8, hx9⟩ := h6
      have hk10 := k_ls hkK10 hx9
      have J59 : ((F 15).toInt ≤ (F3 15).toInt) → (SP = K_X11_readsPace_59 F F3 R) → G X E 2 0 0 (wM X ad F3 R) [(0, .ref (ad 0)), (1, .int (F 15))] 59 [] := by
        intro  zi59_0 hkJ59
        unfold K_X11_readsPace_59 at hkJ59
        refine g_aload_n cx 0 rfl e_X11_readsPace_59 ?_
        refine g_get cx cl_X11 fl_X11_193 0 (.int (F3 18)) e_X11_readsPace_60 rfl rfl ?_
        refine g_bipush cx 40 (by decide) e_X11_readsPace_63 ?_
        have J82 : ∀ (F12 : Nat → Int32) (R13 : Nat → Nat → Int32) (y11 : Int32), (g_ok LK_wM F12) → (g_fr md_X11_readsPace F F12) → (g_okR LA_wM R13) → (g_fr mr_X11_readsPace R R13) → (WT F12 R13) → (WC F12 R13) → (jv 0 1 y11) → ((F 15).toInt ≤ (F12 15).toInt) → (SP = K_X11_readsPace_82 F12 R13 y11) → G X E 2 0 0 (wM X ad F12 R13) [] 82 [.int y11] := by
          intro F12 R13 y11 oF12 fF12 oR13 fR13 wTF12R13 wCF12R13 py11 zi82_0 hkJ82
          unfold K_X11_readsPace_82 at hkJ82
          exact hret e_X11_readsPace_82 (Nat.le_of_ble_eq_true rfl) (Nat.le_of_ble_eq_true rfl) (g_narb py11) ⟨F12, R13, rfl, oF12, oR13, wTF12R13, wCF12R13, fF12, fR13, py11, (by have q0 := (g_here_iv F3 R).1; have q1 := (g_here_iv F3 R).2; have q2 := (g_ok_g hI 1 rfl).1; have q3 := (g_ok_g hI 1 rfl).2; have q4 := (g_ok_g hI 2 rfl).1; have q5 := (g_ok_g hI 2 rfl).2; have q6 := (g_ok_g oF12 1 rfl).1; have q7 := (g_ok_g oF12 1 rfl).2; have q8 := (g_ok_g oF3 1 rfl).1; have q9 := (g_ok_g oF3 1 rfl).2; have q10 := (g_ok_g oF3 2 rfl).1; have q11 := (g_ok_g oF3 2 rfl).2; have q12 := pr4.1; have q13 := pr4.2; have q14 := zi10_0; have q15 := (@g_here_lt F3 R); have q16 := (congrArg Int32.toInt (show F3 16 = F 16 from (fF3 16 rfl))); have q17 := zx8; have q18 := zi59_0; have q19 := zi82_0; omega), (hkJ82.symm.trans hSP)⟩
        refine g_icmp_le cx 77 e_X11_readsPace_65 (by decide) (fun zc14 => ?_) (fun zc14 => ?_)
        · have p15 := gn_le (-2147483648) 40 (gc_le zc14) (jv_t (F3 18)) (jv_k (x := 40) 40 (by decide)) (by decide)
          have hk16 := hkJ59.trans (if_pos zc14)
          refine g_iconst cx 1 (by decide) e_X11_readsPace_77 ?_
          refine g_goto cx 82 e_X11_readsPace_78 (by decide) ?_
          refine g_lsub [] [] rfl ?_
          exact J82 F3 R 1 oF3 fF3 hA (g_fr_rf R) wTF3 wCF3 (jv_w (jv_k (x := 1) 1 (by decide)) (by decide)) (by have q0 := (g_here_iv F3 R).1; have q1 := (g_here_iv F3 R).2; have q2 := (g_ok_g hI 1 rfl).1; have q3 := (g_ok_g hI 1 rfl).2; have q4 := (g_ok_g hI 2 rfl).1; have q5 := (g_ok_g hI 2 rfl).2; have q6 := (g_ok_g oF3 1 rfl).1; have q7 := (g_ok_g oF3 1 rfl).2; have q8 := (g_ok_g oF3 2 rfl).1; have q9 := (g_ok_g oF3 2 rfl).2; have q10 := pr4.1; have q11 := pr4.2; have q12 := zi10_0; have q13 := (@g_here_lt F3 R); have q14 := (congrArg Int32.toInt (show F3 16 = F 16 from (fF3 16 rfl))); have q15 := zx8; have q16 := zi59_0; omega) hk16
        · have p17 := gn_gt 41 2147483647 (gc_nle zc14) (jv_t (F3 18)) (jv_k (x := 40) 40 (by decide)) (by decide)
          have hk18 := hkJ59.trans (if_neg zc14)
          refine g_aload_n cx 0 rfl e_X11_readsPace_68 ?_
          refine g_iconst cx 3 (by decide) e_X11_readsPace_69 ?_
          refine g_iload_n cx 1 rfl e_X11_readsPace_70 ?_
          refine g_cViW cx [.int 3, .int (F 15)] [] (w_X11_wrongAt l X ad F3 R oF3 hA wTF3 wCF3 3 (F 15)) ml_X11_204 yV_X11_wrongAt e_X11_readsPace_71 (by unfold g_rr; decide) (by decide) 0 rfl rfl rfl (Nat.le_of_ble_eq_true rfl) (fun r19 w20 h21 => ?_)
          obtain ⟨F23, R24, rfl, oF23, oR24, wTF23, wCF23, cF23, cR24, pr19, hx22⟩ := h21
          have hk25 := k_ls3 hk18 hx22
          have fF23 : g_fr md_X11_readsPace F F23 := g_fr_c fF3 cF23 rfl
          have fR24 : g_fr mr_X11_readsPace R R24 := g_fr_c (g_fr_rf R) cR24 rfl
          refine g_if_eq cx 81 e_X11_readsPace_74 (by decide) (fun zc26 => ?_) (fun zc26 => ?_)
          · refine g_iconst cx 0 (by decide) e_X11_readsPace_81 ?_
            refine g_lsub [] [] rfl ?_
            exact J82 F23 R24 0 oF23 fF23 oR24 fR24 wTF23 wCF23 (jv_w (jv_k (x := 0) 0 (by decide)) (by decide)) (by have q0 := (g_here_iv F3 R).1; have q1 := (g_here_iv F3 R).2; have q2 := (g_ok_g hI 1 rfl).1; have q3 := (g_ok_g hI 1 rfl).2; have q4 := (g_ok_g hI 2 rfl).1; have q5 := (g_ok_g hI 2 rfl).2; have q6 := (g_ok_g oF23 1 rfl).1; have q7 := (g_ok_g oF23 1 rfl).2; have q8 := (g_ok_g oF3 1 rfl).1; have q9 := (g_ok_g oF3 1 rfl).2; have q10 := (g_ok_g oF3 2 rfl).1; have q11 := (g_ok_g oF3 2 rfl).2; have q12 := pr4.1; have q13 := pr4.2; have q14 := zi10_0; have q15 := (@g_here_lt F3 R); have q16 := (congrArg Int32.toInt (show F3 16 = F 16 from (fF3 16 rfl))); have q17 := zx8; have q18 := zi59_0; have q19 := (congrArg Int32.toInt (show F23 15 = F3 15 from (cF23 15 rfl))); have q20 := (congrArg Int32.toInt (show F23 15 = F3 15 from (cF23 15 rfl))); omega) hk25
          · exact (gf_ne (gc_ne zc26) pr19 (jv_k (x := 0) 0 (by decide)) (by decide)).elim
      refine g_if_eq cx 59 e_X11_readsPace_14 (by decide) (fun zc27 => ?_) (fun zc27 => ?_)
      · have p28 := gn_eq 0 0 (gc_eq zc27) pr4 (jv_k (x := 0) 0 (by decide)) (by decide)
        have hk29 := hk10.trans (if_pos zc27)
        exact J59  (by have q0 := (g_here_iv F3 R).1; have q1 := (g_here_iv F3 R).2; have q2 := (jv_k (x := 0) 0 (by decide)).1; have q3 := (jv_k (x := 0) 0 (by decide)).2; have q4 := (g_ok_g hI 1 rfl).1; have q5 := (g_ok_g hI 1 rfl).2; have q6 := (g_ok_g hI 2 rfl).1; have q7 := (g_ok_g hI 2 rfl).2; have q8 := (g_ok_g oF3 1 rfl).1; have q9 := (g_ok_g oF3 1 rfl).2; have q10 := (g_ok_g oF3 2 rfl).1; have q11 := (g_ok_g oF3 2 rfl).2; have q12 := p28.1; have q13 := p28.2; have q14 := zi10_0; have q15 := (@g_here_lt F3 R); have q16 := (congrArg Int32.toInt (show F3 16 = F 16 from (fF3 16 rfl))); have q17 := zx8; have q18 := (gc_eq zc27); omega) hk29
      · have p30 := gn_neL 1 1 (gc_ne zc27) pr4 (jv_k (x := 0) 0 (by decide)) (by decide)
        have hk31 := hk10.trans (if_neg zc27)
        refine g_aload_n cx 0 rfl e_X11_readsPace_17 ?_
        refine g_get cx cl_X11 fl_X11_190 0 (.int (F3 15)) e_X11_readsPace_18 rfl rfl ?_
        refine g_iload_n cx 1 rfl e_X11_readsPace_21 ?_
        refine g_iconst cx 2 (by decide) e_X11_readsPace_22 ?_
        refine g_iadd cx e_X11_readsPace_23 ?_
        refine g_topi (fun x32 ex32 => ?_)
        have hk33 := k_ls hk31 ex32
        have zx32 := jv_add 2 222 ex32 (g_ok_g hI 1 rfl) (jv_k (x := 2) 2 (by decide)) (by decide)
        refine g_icmp_ge cx 59 e_X11_readsPace_24 (by decide) (fun zc34 => ?_) (fun zc34 => ?_)
        · have p35 := gn_le 2 220 (gc_le zc34) zx32.2 (g_ok_g oF3 1 rfl) (by decide)
          have p36 : jv 0 218 (F 15) := ⟨by have q0 := (jv_k (x := 2) 2 (by decide)).1; have q1 := (jv_k (x := 2) 2 (by decide)).2; have q2 := (g_ok_g hI 1 rfl).1; have q3 := (g_ok_g hI 1 rfl).2; have q4 := (g_ok_g oF3 1 rfl).1; have q5 := (g_ok_g oF3 1 rfl).2; have q6 := p35.1; have q7 := p35.2; have q8 := zi10_0; have q9 := (g_eq0 zx32.1); have q10 := (gc_le zc34); omega, by have q0 := (jv_k (x := 2) 2 (by decide)).1; have q1 := (jv_k (x := 2) 2 (by decide)).2; have q2 := (g_ok_g hI 1 rfl).1; have q3 := (g_ok_g hI 1 rfl).2; have q4 := (g_ok_g oF3 1 rfl).1; have q5 := (g_ok_g oF3 1 rfl).2; have q6 := p35.1; have q7 := p35.2; have q8 := zi10_0; have q9 := (g_eq0 zx32.1); have q10 := (gc_le zc34); omega⟩
          have p37 := gn_ge 2 220 (gc_le zc34) (g_ok_g oF3 1 rfl) zx32.2 (by decide)
          have hk38 := hk33.trans (if_pos zc34)
          exact J59  (by have q0 := (g_here_iv F3 R).1; have q1 := (g_here_iv F3 R).2; have q2 := (jv_k (x := 0) 0 (by decide)).1; have q3 := (jv_k (x := 0) 0 (by decide)).2; have q4 := (jv_k (x := 2) 2 (by decide)).1; have q5 := (jv_k (x := 2) 2 (by decide)).2; have q6 := p36.1; have q7 := p36.2; have q8 := (g_ok_g hI 2 rfl).1; have q9 := (g_ok_g hI 2 rfl).2; have q10 := p37.1; have q11 := p37.2; have q12 := (g_ok_g oF3 2 rfl).1; have q13 := (g_ok_g oF3 2 rfl).2; have q14 := p30.1; have q15 := p30.2; have q16 := p35.1; have q17 := p35.2; have q18 := zi10_0; have q19 := (@g_here_lt F3 R); have q20 := (congrArg Int32.toInt (show F3 16 = F 16 from (fF3 16 rfl))); have q21 := zx8; have q22 := (gc_ne zc27); have q23 := (zx7 zc27); have q24 := (g_eq0 zx32.1); have q25 := (gc_le zc34); omega) hk38
        · have hk39 := hk33.trans (if_neg zc34)
          refine g_aload_n cx 0 rfl e_X11_readsPace_27 ?_
          refine g_bipush cx 10 (by decide) e_X11_readsPace_28 ?_
          refine g_aload_n cx 0 rfl e_X11_readsPace_30 ?_
          refine g_get cx cl_X11 fl_X11_193 0 (.int (F3 18)) e_X11_readsPace_31 rfl rfl ?_
          refine g_imul cx e_X11_readsPace_34 ?_
          refine g_topi (fun x40 ex40 => ?_)
          have hk41 := k_ls hk39 ex40
          refine g_aload_n cx 0 rfl e_X11_readsPace_35 ?_
          refine g_cViW cx [] [.int x40, .ref (ad 0)] (w_X11_here l X ad F3 R oF3 hA wTF3 wCF3) ml_X11_200 yV_X11_here e_X11_readsPace_36 (by unfold g_rr; decide) (by decide) 0 rfl rfl rfl (Nat.le_of_ble_eq_true rfl) (fun r42 w43 h44 => ?_)
          obtain ⟨rfl, pr42, zx45, hx46⟩ := h44
          have hk47 := k_ls hk41 hx46
          refine g_iadd cx e_X11_readsPace_39 ?_
          refine g_topi (fun x48 ex48 => ?_)
          have hk49 := k_ls hk47 ex48
          refine g_bipush cx 48 (by decide) e_X11_readsPace_40 ?_
          refine g_isub cx e_X11_readsPace_42 ?_
          refine g_topi (fun x50 ex50 => ?_)
          have hk51 := k_ls hk49 ex50
          refine g_put cx cl_X11 fl_X11_193 0 (wM X ad (upd F3 18 x50) R) e_X11_readsPace_43 rfl rfl rfl rfl (Nat.le_of_ble_eq_true rfl) rfl ?_
          obtain ⟨F52, hF52⟩ : ∃ z, z = upd F3 18 x50 := ⟨_, rfl⟩
          rw [← hF52]
          have hk53 := k_ls hk51 hF52
          have oF52 : g_ok LK_wM F52 := by rw [hF52]; exact g_ok_u oF3 rfl
          have fF52 : g_fr md_X11_readsPace F F52 := by rw [hF52]; exact g_fr_u fF3 rfl
          have wTF52 : WT F52 R := by rw [hF52]; exact WT_u wTF3 rfl
          have wCF52 : WC F52 R := by rw [hF52]; exact WC_u wCF3 rfl
          refine g_aload_n cx 0 rfl e_X11_readsPace_46 ?_
          refine g_aload_n cx 0 rfl e_X11_readsPace_47 ?_
          refine g_get cx cl_X11 fl_X11_190 0 (.int (F52 15)) e_X11_readsPace_48 rfl rfl ?_
          refine g_toi (F3 15) (g_pu2 hF52 rfl) ?_
          refine g_iconst cx 1 (by decide) e_X11_readsPace_51 ?_
          refine g_iadd cx e_X11_readsPace_52 ?_
          refine g_topi (fun x54 ex54 => ?_)
          have hk55 := k_ls hk53 ex54
          have zx54 := jv_add 1 221 ex54 (g_ok_g oF3 1 rfl) (jv_k (x := 1) 1 (by decide)) (by decide)
          refine g_put cx cl_X11 fl_X11_190 0 (wM X ad (upd F52 15 x54) R) e_X11_readsPace_53 rfl rfl rfl rfl (Nat.le_of_ble_eq_true rfl) rfl ?_
          obtain ⟨F56, hF56⟩ : ∃ z, z = upd F52 15 x54 := ⟨_, rfl⟩
          rw [← hF56]
          have hk57 := k_ls hk55 hF56
          have oF56 : g_ok LK_wM F56 := by rw [hF56]; exact g_ok_p oF52 (show jv 0 220 _ from ⟨by have q0 := (g_here_iv F3 R).1; have q1 := (g_here_iv F3 R).2; have q2 := (jv_k (x := 0) 0 (by decide)).1; have q3 := (jv_k (x := 0) 0 (by decide)).2; have q4 := (jv_k (x := 1) 1 (by decide)).1; have q5 := (jv_k (x := 1) 1 (by decide)).2; have q6 := (jv_k (x := 2) 2 (by decide)).1; have q7 := (jv_k (x := 2) 2 (by decide)).2; have q8 := (g_ok_g hI 1 rfl).1; have q9 := (g_ok_g hI 1 rfl).2; have q10 := (g_ok_g hI 2 rfl).1; have q11 := (g_ok_g hI 2 rfl).2; have q12 := (g_ok_g oF3 1 rfl).1; have q13 := (g_ok_g oF3 1 rfl).2; have q14 := (g_ok_g oF3 2 rfl).1; have q15 := (g_ok_g oF3 2 rfl).2; have q16 := p30.1; have q17 := p30.2; have q18 := pr42.1; have q19 := pr42.2; have q20 := zx32.2.1; have q21 := zx32.2.2; have q22 := zx54.2.1; have q23 := zx54.2.2; have q24 := zi10_0; have q25 := (@g_here_lt F3 R); have q26 := (congrArg Int32.toInt (show F3 16 = F 16 from (fF3 16 rfl))); have q27 := zx8; have q28 := (gc_ne zc27); have q29 := (zx7 zc27); have q30 := (g_eq0 zx32.1); have q31 := (gc_nle zc34); have q32 := (congrArg Int32.toInt zx45); have q33 := (@g_here_lt F3 R); have q34 := (congrArg Int32.toInt (show F3 16 = F 16 from (fF3 16 rfl))); have q35 := (g_eq0 zx54.1); omega, by have q0 := (g_here_iv F3 R).1; have q1 := (g_here_iv F3 R).2; have q2 := (jv_k (x := 0) 0 (by decide)).1; have q3 := (jv_k (x := 0) 0 (by decide)).2; have q4 := (jv_k (x := 1) 1 (by decide)).1; have q5 := (jv_k (x := 1) 1 (by decide)).2; have q6 := (jv_k (x := 2) 2 (by decide)).1; have q7 := (jv_k (x := 2) 2 (by decide)).2; have q8 := (g_ok_g hI 1 rfl).1; have q9 := (g_ok_g hI 1 rfl).2; have q10 := (g_ok_g hI 2 rfl).1; have q11 := (g_ok_g hI 2 rfl).2; have q12 := (g_ok_g oF3 1 rfl).1; have q13 := (g_ok_g oF3 1 rfl).2; have q14 := (g_ok_g oF3 2 rfl).1; have q15 := (g_ok_g oF3 2 rfl).2; have q16 := p30.1; have q17 := p30.2; have q18 := pr42.1; have q19 := pr42.2; have q20 := zx32.2.1; have q21 := zx32.2.2; have q22 := zx54.2.1; have q23 := zx54.2.2; have q24 := zi10_0; have q25 := (@g_here_lt F3 R); have q26 := (congrArg Int32.toInt (show F3 16 = F 16 from (fF3 16 rfl))); have q27 := zx8; have q28 := (gc_ne zc27); have q29 := (zx7 zc27); have q30 := (g_eq0 zx32.1); have q31 := (gc_nle zc34); have q32 := (congrArg Int32.toInt zx45); have q33 := (@g_here_lt F3 R); have q34 := (congrArg Int32.toInt (show F3 16 = F 16 from (fF3 16 rfl))); have q35 := (g_eq0 zx54.1); omega⟩) rfl
          have fF56 : g_fr md_X11_readsPace F F56 := by rw [hF56]; exact g_fr_u fF52 rfl
          have wTF56 : WT F56 R := by rw [hF56]; exact WT_u wTF52 rfl
          have wCF56 : WC F56 R := by rw [hF56]; exact WC_u wCF52 rfl
          refine g_goto cx 10 e_X11_readsPace_56 (by decide) ?_
          exact ih10 F56 oF56 fF56 wTF56 wCF56 (by have q0 := (g_here_iv F3 R).1; have q1 := (g_here_iv F3 R).2; have q2 := (jv_k (x := 0) 0 (by decide)).1; have q3 := (jv_k (x := 0) 0 (by decide)).2; have q4 := (jv_k (x := 1) 1 (by decide)).1; have q5 := (jv_k (x := 1) 1 (by decide)).2; have q6 := (jv_k (x := 2) 2 (by decide)).1; have q7 := (jv_k (x := 2) 2 (by decide)).2; have q8 := (g_ok_g hI 1 rfl).1; have q9 := (g_ok_g hI 1 rfl).2; have q10 := (g_ok_g hI 2 rfl).1; have q11 := (g_ok_g hI 2 rfl).2; have q12 := (g_ok_g oF3 1 rfl).1; have q13 := (g_ok_g oF3 1 rfl).2; have q14 := (g_ok_g oF3 2 rfl).1; have q15 := (g_ok_g oF3 2 rfl).2; have q16 := (g_ok_g oF56 1 rfl).1; have q17 := (g_ok_g oF56 1 rfl).2; have q18 := p30.1; have q19 := p30.2; have q20 := pr42.1; have q21 := pr42.2; have q22 := zx32.2.1; have q23 := zx32.2.2; have q24 := zx54.2.1; have q25 := zx54.2.2; have q26 := zi10_0; have q27 := (@g_here_lt F3 R); have q28 := (congrArg Int32.toInt (show F3 16 = F 16 from (fF3 16 rfl))); have q29 := zx8; have q30 := (gc_ne zc27); have q31 := (zx7 zc27); have q32 := (g_eq0 zx32.1); have q33 := (gc_nle zc34); have q34 := (congrArg Int32.toInt zx45); have q35 := (@g_here_lt F3 R); have q36 := (congrArg Int32.toInt (show F3 16 = F 16 from (fF3 16 rfl))); have q37 := (g_eq0 zx54.1); have q38 := (congrArg Int32.toInt (show F56 15 = x54 from (g_pu1 hF56))); have q39 := (congrArg Int32.toInt (show F56 15 = x54 from (g_pu1 hF56))); omega) (hk57.trans (by rw [hb10])) (Nat.lt_of_lt_of_le (show (2147483647 - (F56 15).toInt).toNat < (2147483647 - (F3 15).toInt).toNat from by have q0 := (g_here_iv F3 R).1; have q1 := (g_here_iv F3 R).2; have q2 := (jv_k (x := 0) 0 (by decide)).1; have q3 := (jv_k (x := 0) 0 (by decide)).2; have q4 := (jv_k (x := 1) 1 (by decide)).1; have q5 := (jv_k (x := 1) 1 (by decide)).2; have q6 := (jv_k (x := 2) 2 (by decide)).1; have q7 := (jv_k (x := 2) 2 (by decide)).2; have q8 := (g_ok_g hI 1 rfl).1; have q9 := (g_ok_g hI 1 rfl).2; have q10 := (g_ok_g hI 2 rfl).1; have q11 := (g_ok_g hI 2 rfl).2; have q12 := (g_ok_g oF3 1 rfl).1; have q13 := (g_ok_g oF3 1 rfl).2; have q14 := (g_ok_g oF3 2 rfl).1; have q15 := (g_ok_g oF3 2 rfl).2; have q16 := (g_ok_g oF56 1 rfl).1; have q17 := (g_ok_g oF56 1 rfl).2; have q18 := p30.1; have q19 := p30.2; have q20 := pr42.1; have q21 := pr42.2; have q22 := zx32.2.1; have q23 := zx32.2.2; have q24 := zx54.2.1; have q25 := zx54.2.2; have q26 := zi10_0; have q27 := (@g_here_lt F3 R); have q28 := (congrArg Int32.toInt (show F3 16 = F 16 from (fF3 16 rfl))); have q29 := zx8; have q30 := (gc_ne zc27); have q31 := (zx7 zc27); have q32 := (g_eq0 zx32.1); have q33 := (gc_nle zc34); have q34 := (congrArg Int32.toInt zx45); have q35 := (@g_here_lt F3 R); have q36 := (congrArg Int32.toInt (show F3 16 = F 16 from (fF3 16 rfl))); have q37 := (g_eq0 zx54.1); have q38 := (congrArg Int32.toInt (show F56 15 = x54 from (g_pu1 hF56))); have q39 := (congrArg Int32.toInt (show F56 15 = x54 from (g_pu1 hF56))); have q40 := (congrArg Int32.toInt (show F56 15 = x54 from (g_pu1 hF56))); have q41 := (congrArg Int32.toInt (show F56 15 = x54 from (g_pu1 hF56))); omega) (Nat.le_of_lt_succ hm10))
  refine g_lsub [1, 0] [(0, .ref (ad 0)), (1, .int (F 15))] rfl ?_
  exact J10 8589934592 F1 oF1 fF1 wTF1 wCF1 (by have q0 := (g_ok_g hI 1 rfl).1; have q1 := (g_ok_g hI 1 rfl).2; have q2 := (g_ok_g oF1 1 rfl).1; have q3 := (g_ok_g oF1 1 rfl).2; have q4 := (congrArg Int32.toInt (show F1 15 = F 15 from (g_pu2 hF1 rfl))); have q5 := (congrArg Int32.toInt (show F1 15 = F 15 from (g_pu2 hF1 rfl))); omega) hk2 (show (2147483647 - (F1 15).toInt).toNat < 8589934592 from by have q0 := (g_ok_g oF1 1 rfl).1; have q1 := (g_ok_g oF1 1 rfl).2; omega)
def KB_X11_readsStep_136 (b136 : (Nat → Nat → Int32) → (Int32) → Int32 × (Nat → Int32) × (Nat → Nat → Int32)) (F32 : Nat → Int32) (y31 : Int32) (R41 : Nat → Nat → Int32) (y40 : Int32) : Int32 × (Nat → Int32) × (Nat → Nat → Int32) :=
  if y31 ≤ y40 then k_lt ((F32 20) + y31) (fun x46 => k_lt (upd F32 20 x46) (fun F48 => k_lt ((F32 21) + 1) (fun x50 => k_lt (upd F48 21 x50) (fun F52 => (1, F52, R41))))) else k_lt ((F32 20) + y40) (fun x56 => k_lt (g_u R41 11 (upd (R41 11) (Int32.toNatClampNeg x56) (F32 18))) (fun R58 => k_lt (y40 + 1) (fun x60 => b136 R58 x60)))
def K_X11_readsStep_136 (F32 : Nat → Int32) (y31 : Int32) : Nat → (Nat → Nat → Int32) → (Int32) → Int32 × (Nat → Int32) × (Nat → Nat → Int32)
  | 0 => fun R41 _ => (0, F32, R41)
  | n + 1 => KB_X11_readsStep_136 (K_X11_readsStep_136 F32 y31 n) F32 y31
def K_X11_readsStep_115 (F : Nat → Int32) (R20 : Nat → Nat → Int32) (F32 : Nat → Int32) (y31 : Int32) : Int32 × (Nat → Int32) × (Nat → Nat → Int32) :=
  k_lt ((F32 20) + y31) (fun x35 => if x35 ≤ 60 then K_X11_readsStep_136 F32 y31 8589934592 R20 0 else k_lt3 (sp_X11_wrongAt F32 R20 6 (F 15)) (fun r64 F68 R69 => (r64, F68, R69)))
def K_X11_readsStep_87 (F77 : Nat → Int32) (R20 : Nat → Nat → Int32) (x75 : Int32)  : Int32 × (Nat → Int32) × (Nat → Nat → Int32) :=
  k_lt3 (sp_X11_wrongAt F77 R20 1 x75) (fun r86 F90 R91 => (r86, F90, R91))
def sp_X11_readsStep (F : Nat → Int32) (R : Nat → Nat → Int32) : Int32 × (Nat → Int32) × (Nat → Nat → Int32) :=
  k_lt (sp_X11_isDigit F R) (fun r1 => if r1 = 0 then k_lt3 (sp_X11_wrongAt F R 1 (F 15)) (fun r134 F138 R139 => (r134, F138, R139)) else if (F 21) = 20 then k_lt3 (sp_X11_wrongAt F R 4 (F 15)) (fun r125 F129 R130 => (r125, F129, R130)) else k_lt3 (sp_X11_readsPace F R) (fun r14 F19 R20 => if r14 = 0 then (0, F19, R20) else k_lt (sp_X11_here F19 R20) (fun r25 => if r25 = 42 then k_lt ((F19 15) + 1) (fun x75 => k_lt (upd F19 15 x75) (fun F77 => k_lt (sp_X11_isDigit F77 R20) (fun r79 => if r79 = 0 then K_X11_readsStep_87 F77 R20 x75 else k_lt (sp_X11_here F77 R20) (fun r98 => if 50 ≤ r98 then k_lt (sp_X11_here F77 R20) (fun r107 => k_lt (r107 - 48) (fun x113 => k_lt (x75 + 1) (fun x115 => k_lt (upd F77 15 x115) (fun F117 => K_X11_readsStep_115 F R20 F117 x113)))) else K_X11_readsStep_87 F77 R20 x75)))) else K_X11_readsStep_115 F R20 F19 1)))
theorem e_X11_readsStep_0 : g_dc cX11_readsStep 0 (.aload_n 0) 1 1 := ⟨by decide +kernel, rfl⟩
theorem e_X11_readsStep_1 : g_dc cX11_readsStep 1 (.invokevirtual 196) 3 4 := ⟨by decide +kernel, rfl⟩
theorem e_X11_readsStep_4 : g_dc cX11_readsStep 4 (.ifCond .ne 13) 3 7 := ⟨by decide +kernel, rfl⟩
theorem e_X11_readsStep_7 : g_dc cX11_readsStep 7 (.aload_n 0) 1 8 := ⟨by decide +kernel, rfl⟩
theorem e_X11_readsStep_8 : g_dc cX11_readsStep 8 (.iconst 1) 1 9 := ⟨by decide +kernel, rfl⟩
theorem e_X11_readsStep_9 : g_dc cX11_readsStep 9 (.aload_n 0) 1 10 := ⟨by decide +kernel, rfl⟩
theorem e_X11_readsStep_10 : g_dc cX11_readsStep 10 (.getfield 190) 3 13 := ⟨by decide +kernel, rfl⟩
theorem e_X11_readsStep_13 : g_dc cX11_readsStep 13 (.invokevirtual 204) 3 16 := ⟨by decide +kernel, rfl⟩
theorem e_X11_readsStep_16 : g_dc cX11_readsStep 16 (.ireturn) 1 17 := ⟨by decide +kernel, rfl⟩
theorem e_X11_readsStep_17 : g_dc cX11_readsStep 17 (.aload_n 0) 1 18 := ⟨by decide +kernel, rfl⟩
theorem e_X11_readsStep_18 : g_dc cX11_readsStep 18 (.getfield 207) 3 21 := ⟨by decide +kernel, rfl⟩
theorem e_X11_readsStep_21 : g_dc cX11_readsStep 21 (.bipush 20) 2 23 := ⟨by decide +kernel, rfl⟩
theorem e_X11_readsStep_23 : g_dc cX11_readsStep 23 (.if_icmp .ne 13) 3 26 := ⟨by decide +kernel, rfl⟩
theorem e_X11_readsStep_26 : g_dc cX11_readsStep 26 (.aload_n 0) 1 27 := ⟨by decide +kernel, rfl⟩
theorem e_X11_readsStep_27 : g_dc cX11_readsStep 27 (.iconst 4) 1 28 := ⟨by decide +kernel, rfl⟩
theorem e_X11_readsStep_28 : g_dc cX11_readsStep 28 (.aload_n 0) 1 29 := ⟨by decide +kernel, rfl⟩
theorem e_X11_readsStep_29 : g_dc cX11_readsStep 29 (.getfield 190) 3 32 := ⟨by decide +kernel, rfl⟩
theorem e_X11_readsStep_32 : g_dc cX11_readsStep 32 (.invokevirtual 204) 3 35 := ⟨by decide +kernel, rfl⟩
theorem e_X11_readsStep_35 : g_dc cX11_readsStep 35 (.ireturn) 1 36 := ⟨by decide +kernel, rfl⟩
theorem e_X11_readsStep_36 : g_dc cX11_readsStep 36 (.aload_n 0) 1 37 := ⟨by decide +kernel, rfl⟩
theorem e_X11_readsStep_37 : g_dc cX11_readsStep 37 (.getfield 190) 3 40 := ⟨by decide +kernel, rfl⟩
theorem e_X11_readsStep_40 : g_dc cX11_readsStep 40 (.istore_n 1) 1 41 := ⟨by decide +kernel, rfl⟩
theorem e_X11_readsStep_41 : g_dc cX11_readsStep 41 (.aload_n 0) 1 42 := ⟨by decide +kernel, rfl⟩
theorem e_X11_readsStep_42 : g_dc cX11_readsStep 42 (.invokevirtual 210) 3 45 := ⟨by decide +kernel, rfl⟩
theorem e_X11_readsStep_45 : g_dc cX11_readsStep 45 (.ifCond .ne 5) 3 48 := ⟨by decide +kernel, rfl⟩
theorem e_X11_readsStep_48 : g_dc cX11_readsStep 48 (.iconst 0) 1 49 := ⟨by decide +kernel, rfl⟩
theorem e_X11_readsStep_49 : g_dc cX11_readsStep 49 (.ireturn) 1 50 := ⟨by decide +kernel, rfl⟩
theorem e_X11_readsStep_50 : g_dc cX11_readsStep 50 (.iconst 1) 1 51 := ⟨by decide +kernel, rfl⟩
theorem e_X11_readsStep_51 : g_dc cX11_readsStep 51 (.istore_n 2) 1 52 := ⟨by decide +kernel, rfl⟩
theorem e_X11_readsStep_52 : g_dc cX11_readsStep 52 (.aload_n 0) 1 53 := ⟨by decide +kernel, rfl⟩
theorem e_X11_readsStep_53 : g_dc cX11_readsStep 53 (.invokevirtual 200) 3 56 := ⟨by decide +kernel, rfl⟩
theorem e_X11_readsStep_56 : g_dc cX11_readsStep 56 (.bipush 42) 2 58 := ⟨by decide +kernel, rfl⟩
theorem e_X11_readsStep_58 : g_dc cX11_readsStep 58 (.if_icmp .ne 57) 3 61 := ⟨by decide +kernel, rfl⟩
theorem e_X11_readsStep_61 : g_dc cX11_readsStep 61 (.aload_n 0) 1 62 := ⟨by decide +kernel, rfl⟩
theorem e_X11_readsStep_62 : g_dc cX11_readsStep 62 (.aload_n 0) 1 63 := ⟨by decide +kernel, rfl⟩
theorem e_X11_readsStep_63 : g_dc cX11_readsStep 63 (.getfield 190) 3 66 := ⟨by decide +kernel, rfl⟩
theorem e_X11_readsStep_66 : g_dc cX11_readsStep 66 (.iconst 1) 1 67 := ⟨by decide +kernel, rfl⟩
theorem e_X11_readsStep_67 : g_dc cX11_readsStep 67 (.iadd) 1 68 := ⟨by decide +kernel, rfl⟩
theorem e_X11_readsStep_68 : g_dc cX11_readsStep 68 (.putfield 190) 3 71 := ⟨by decide +kernel, rfl⟩
theorem e_X11_readsStep_71 : g_dc cX11_readsStep 71 (.aload_n 0) 1 72 := ⟨by decide +kernel, rfl⟩
theorem e_X11_readsStep_72 : g_dc cX11_readsStep 72 (.invokevirtual 196) 3 75 := ⟨by decide +kernel, rfl⟩
theorem e_X11_readsStep_75 : g_dc cX11_readsStep 75 (.ifCond .eq 12) 3 78 := ⟨by decide +kernel, rfl⟩
theorem e_X11_readsStep_78 : g_dc cX11_readsStep 78 (.aload_n 0) 1 79 := ⟨by decide +kernel, rfl⟩
theorem e_X11_readsStep_79 : g_dc cX11_readsStep 79 (.invokevirtual 200) 3 82 := ⟨by decide +kernel, rfl⟩
theorem e_X11_readsStep_82 : g_dc cX11_readsStep 82 (.bipush 50) 2 84 := ⟨by decide +kernel, rfl⟩
theorem e_X11_readsStep_84 : g_dc cX11_readsStep 84 (.if_icmp .ge 13) 3 87 := ⟨by decide +kernel, rfl⟩
theorem e_X11_readsStep_87 : g_dc cX11_readsStep 87 (.aload_n 0) 1 88 := ⟨by decide +kernel, rfl⟩
theorem e_X11_readsStep_88 : g_dc cX11_readsStep 88 (.iconst 1) 1 89 := ⟨by decide +kernel, rfl⟩
theorem e_X11_readsStep_89 : g_dc cX11_readsStep 89 (.aload_n 0) 1 90 := ⟨by decide +kernel, rfl⟩
theorem e_X11_readsStep_90 : g_dc cX11_readsStep 90 (.getfield 190) 3 93 := ⟨by decide +kernel, rfl⟩
theorem e_X11_readsStep_93 : g_dc cX11_readsStep 93 (.invokevirtual 204) 3 96 := ⟨by decide +kernel, rfl⟩
theorem e_X11_readsStep_96 : g_dc cX11_readsStep 96 (.ireturn) 1 97 := ⟨by decide +kernel, rfl⟩
theorem e_X11_readsStep_97 : g_dc cX11_readsStep 97 (.aload_n 0) 1 98 := ⟨by decide +kernel, rfl⟩
theorem e_X11_readsStep_98 : g_dc cX11_readsStep 98 (.invokevirtual 200) 3 101 := ⟨by decide +kernel, rfl⟩
theorem e_X11_readsStep_101 : g_dc cX11_readsStep 101 (.bipush 48) 2 103 := ⟨by decide +kernel, rfl⟩
theorem e_X11_readsStep_103 : g_dc cX11_readsStep 103 (.isub) 1 104 := ⟨by decide +kernel, rfl⟩
theorem e_X11_readsStep_104 : g_dc cX11_readsStep 104 (.istore_n 2) 1 105 := ⟨by decide +kernel, rfl⟩
theorem e_X11_readsStep_105 : g_dc cX11_readsStep 105 (.aload_n 0) 1 106 := ⟨by decide +kernel, rfl⟩
theorem e_X11_readsStep_106 : g_dc cX11_readsStep 106 (.aload_n 0) 1 107 := ⟨by decide +kernel, rfl⟩
theorem e_X11_readsStep_107 : g_dc cX11_readsStep 107 (.getfield 190) 3 110 := ⟨by decide +kernel, rfl⟩
theorem e_X11_readsStep_110 : g_dc cX11_readsStep 110 (.iconst 1) 1 111 := ⟨by decide +kernel, rfl⟩
theorem e_X11_readsStep_111 : g_dc cX11_readsStep 111 (.iadd) 1 112 := ⟨by decide +kernel, rfl⟩
theorem e_X11_readsStep_112 : g_dc cX11_readsStep 112 (.putfield 190) 3 115 := ⟨by decide +kernel, rfl⟩
theorem e_X11_readsStep_115 : g_dc cX11_readsStep 115 (.aload_n 0) 1 116 := ⟨by decide +kernel, rfl⟩
theorem e_X11_readsStep_116 : g_dc cX11_readsStep 116 (.getfield 213) 3 119 := ⟨by decide +kernel, rfl⟩
theorem e_X11_readsStep_119 : g_dc cX11_readsStep 119 (.iload_n 2) 1 120 := ⟨by decide +kernel, rfl⟩
theorem e_X11_readsStep_120 : g_dc cX11_readsStep 120 (.iadd) 1 121 := ⟨by decide +kernel, rfl⟩
theorem e_X11_readsStep_121 : g_dc cX11_readsStep 121 (.bipush 60) 2 123 := ⟨by decide +kernel, rfl⟩
theorem e_X11_readsStep_123 : g_dc cX11_readsStep 123 (.if_icmp .le 11) 3 126 := ⟨by decide +kernel, rfl⟩
theorem e_X11_readsStep_126 : g_dc cX11_readsStep 126 (.aload_n 0) 1 127 := ⟨by decide +kernel, rfl⟩
theorem e_X11_readsStep_127 : g_dc cX11_readsStep 127 (.bipush 6) 2 129 := ⟨by decide +kernel, rfl⟩
theorem e_X11_readsStep_129 : g_dc cX11_readsStep 129 (.iload_n 1) 1 130 := ⟨by decide +kernel, rfl⟩
theorem e_X11_readsStep_130 : g_dc cX11_readsStep 130 (.invokevirtual 204) 3 133 := ⟨by decide +kernel, rfl⟩
theorem e_X11_readsStep_133 : g_dc cX11_readsStep 133 (.ireturn) 1 134 := ⟨by decide +kernel, rfl⟩
theorem e_X11_readsStep_134 : g_dc cX11_readsStep 134 (.iconst 0) 1 135 := ⟨by decide +kernel, rfl⟩
theorem e_X11_readsStep_135 : g_dc cX11_readsStep 135 (.istore_n 3) 1 136 := ⟨by decide +kernel, rfl⟩
theorem e_X11_readsStep_136 : g_dc cX11_readsStep 136 (.iload_n 3) 1 137 := ⟨by decide +kernel, rfl⟩
theorem e_X11_readsStep_137 : g_dc cX11_readsStep 137 (.iload_n 2) 1 138 := ⟨by decide +kernel, rfl⟩
theorem e_X11_readsStep_138 : g_dc cX11_readsStep 138 (.if_icmp .ge 24) 3 141 := ⟨by decide +kernel, rfl⟩
theorem e_X11_readsStep_141 : g_dc cX11_readsStep 141 (.aload_n 0) 1 142 := ⟨by decide +kernel, rfl⟩
theorem e_X11_readsStep_142 : g_dc cX11_readsStep 142 (.getfield 41) 3 145 := ⟨by decide +kernel, rfl⟩
theorem e_X11_readsStep_145 : g_dc cX11_readsStep 145 (.aload_n 0) 1 146 := ⟨by decide +kernel, rfl⟩
theorem e_X11_readsStep_146 : g_dc cX11_readsStep 146 (.getfield 213) 3 149 := ⟨by decide +kernel, rfl⟩
theorem e_X11_readsStep_149 : g_dc cX11_readsStep 149 (.iload_n 3) 1 150 := ⟨by decide +kernel, rfl⟩
theorem e_X11_readsStep_150 : g_dc cX11_readsStep 150 (.iadd) 1 151 := ⟨by decide +kernel, rfl⟩
theorem e_X11_readsStep_151 : g_dc cX11_readsStep 151 (.aload_n 0) 1 152 := ⟨by decide +kernel, rfl⟩
theorem e_X11_readsStep_152 : g_dc cX11_readsStep 152 (.getfield 193) 3 155 := ⟨by decide +kernel, rfl⟩
theorem e_X11_readsStep_155 : g_dc cX11_readsStep 155 (.iastore) 1 156 := ⟨by decide +kernel, rfl⟩
theorem e_X11_readsStep_156 : g_dc cX11_readsStep 156 (.iinc 3 1) 3 159 := ⟨by decide +kernel, rfl⟩
theorem e_X11_readsStep_159 : g_dc cX11_readsStep 159 (.goto (-23)) 3 162 := ⟨by decide +kernel, rfl⟩
theorem e_X11_readsStep_162 : g_dc cX11_readsStep 162 (.aload_n 0) 1 163 := ⟨by decide +kernel, rfl⟩
theorem e_X11_readsStep_163 : g_dc cX11_readsStep 163 (.aload_n 0) 1 164 := ⟨by decide +kernel, rfl⟩
theorem e_X11_readsStep_164 : g_dc cX11_readsStep 164 (.getfield 213) 3 167 := ⟨by decide +kernel, rfl⟩
theorem e_X11_readsStep_167 : g_dc cX11_readsStep 167 (.iload_n 2) 1 168 := ⟨by decide +kernel, rfl⟩
theorem e_X11_readsStep_168 : g_dc cX11_readsStep 168 (.iadd) 1 169 := ⟨by decide +kernel, rfl⟩
theorem e_X11_readsStep_169 : g_dc cX11_readsStep 169 (.putfield 213) 3 172 := ⟨by decide +kernel, rfl⟩
theorem e_X11_readsStep_172 : g_dc cX11_readsStep 172 (.aload_n 0) 1 173 := ⟨by decide +kernel, rfl⟩
theorem e_X11_readsStep_173 : g_dc cX11_readsStep 173 (.aload_n 0) 1 174 := ⟨by decide +kernel, rfl⟩
theorem e_X11_readsStep_174 : g_dc cX11_readsStep 174 (.getfield 207) 3 177 := ⟨by decide +kernel, rfl⟩
theorem e_X11_readsStep_177 : g_dc cX11_readsStep 177 (.iconst 1) 1 178 := ⟨by decide +kernel, rfl⟩
theorem e_X11_readsStep_178 : g_dc cX11_readsStep 178 (.iadd) 1 179 := ⟨by decide +kernel, rfl⟩
theorem e_X11_readsStep_179 : g_dc cX11_readsStep 179 (.putfield 207) 3 182 := ⟨by decide +kernel, rfl⟩
theorem e_X11_readsStep_182 : g_dc cX11_readsStep 182 (.iconst 1) 1 183 := ⟨by decide +kernel, rfl⟩
theorem e_X11_readsStep_183 : g_dc cX11_readsStep 183 (.ireturn) 1 184 := ⟨by decide +kernel, rfl⟩
def md_X11_readsStep : List Nat := [15, 17, 18, 20, 21]
def mr_X11_readsStep : List Nat := [11]
set_option maxHeartbeats 4000000 in
set_option maxRecDepth 100000 in
theorem w_X11_readsStep (l : Launch) (X : gX) (ad : Nat → Nat) (F : Nat → Int32) (R : Nat → Nat → Int32) (hI : g_ok LK_wM F) (hA : g_okR LA_wM R) (hWT : WT F R) (hWC : WC F R) : g_Ci l X yX11_readsStep cX11_readsStep 4 (some .boolean) 4 0 0 [.ref (ad 0)] (wM X ad F R) (fun r w => ∃ (F' : Nat → Int32) (R' : Nat → Nat → Int32), w = wM X ad F' R' ∧ g_ok LK_wM F' ∧ g_okR LA_wM R' ∧ WT F' R' ∧ WC F' R' ∧ g_fr md_X11_readsStep F F' ∧ g_fr mr_X11_readsStep R R' ∧ jv 0 1 r ∧ (F 15).toInt ≤ (F' 15).toInt ∧ (r, F', R') = sp_X11_readsStep F R) := by
  refine g_mi (by decide +kernel) (Nat.le_of_ble_eq_true rfl) (fun E cx hret => ?_)
  obtain ⟨SP, hSP⟩ : ∃ z, z = sp_X11_readsStep F R := ⟨_, rfl⟩
  have hk0 := hSP
  unfold sp_X11_readsStep at hk0
  refine g_aload_n cx 0 rfl e_X11_readsStep_0 ?_
  refine g_cViW cx [] [] (w_X11_isDigit l X ad F R hI hA hWT hWC) ml_X11_196 yV_X11_isDigit e_X11_readsStep_1 (by unfold g_rr; decide) (by decide) 0 rfl rfl rfl (Nat.le_of_ble_eq_true rfl) (fun r1 w2 h3 => ?_)
  obtain ⟨rfl, pr1, zx4, zx5, hx6⟩ := h3
  have hk7 := k_ls hk0 hx6
  refine g_if_ne cx 17 e_X11_readsStep_4 (by decide) (fun zc8 => ?_) (fun zc8 => ?_)
  · have p9 := gn_neL 1 1 (gc_ne zc8) pr1 (jv_k (x := 0) 0 (by decide)) (by decide)
    have hk10 := hk7.trans (if_neg zc8)
    refine g_aload_n cx 0 rfl e_X11_readsStep_17 ?_
    refine g_get cx cl_X11 fl_X11_207 0 (.int (F 21)) e_X11_readsStep_18 rfl rfl ?_
    refine g_bipush cx 20 (by decide) e_X11_readsStep_21 ?_
    refine g_icmp_ne cx 36 e_X11_readsStep_23 (by decide) (fun zc11 => ?_) (fun zc11 => ?_)
    · have p12 := gn_neH 0 19 (gc_ne zc11) (g_ok_g hI 5 rfl) (jv_k (x := 20) 20 (by decide)) (by decide)
      have hk13 := hk10.trans (if_neg zc11)
      refine g_aload_n cx 0 rfl e_X11_readsStep_36 ?_
      refine g_get cx cl_X11 fl_X11_190 0 (.int (F 15)) e_X11_readsStep_37 rfl rfl ?_
      refine g_istore_n cx [(1, .int (F 15)), (0, .ref (ad 0))] e_X11_readsStep_40 (by decide) rfl ?_
      refine g_aload_n cx 1 rfl e_X11_readsStep_41 ?_
      refine g_cViW cx [] [] (w_X11_readsPace l X ad F R hI hA hWT hWC) ml_X11_210 yV_X11_readsPace e_X11_readsStep_42 (by unfold g_rr; decide) (by decide) 0 rfl rfl rfl (Nat.le_of_ble_eq_true rfl) (fun r14 w15 h16 => ?_)
      obtain ⟨F19, R20, rfl, oF19, oR20, wTF19, wCF19, cF19, cR20, pr14, zx17, hx18⟩ := h16
      have hk21 := k_ls3 hk13 hx18
      have fF19 : g_fr md_X11_readsStep F F19 := g_fr_c (g_fr_rf F) cF19 rfl
      have fR20 : g_fr mr_X11_readsStep R R20 := g_fr_c (g_fr_rf R) cR20 rfl
      refine g_if_ne cx 50 e_X11_readsStep_45 (by decide) (fun zc22 => ?_) (fun zc22 => ?_)
      · have p23 := gn_neL 1 1 (gc_ne zc22) pr14 (jv_k (x := 0) 0 (by decide)) (by decide)
        have hk24 := hk21.trans (if_neg zc22)
        refine g_iconst cx 1 (by decide) e_X11_readsStep_50 ?_
        refine g_istore_n cx [(2, .int 1), (1, .int (F 15)), (0, .ref (ad 0))] e_X11_readsStep_51 (by decide) rfl ?_
        refine g_aload_n cx 2 rfl e_X11_readsStep_52 ?_
        refine g_cViW cx [] [] (w_X11_here l X ad F19 R20 oF19 oR20 wTF19 wCF19) ml_X11_200 yV_X11_here e_X11_readsStep_53 (by unfold g_rr; decide) (by decide) 0 rfl rfl rfl (Nat.le_of_ble_eq_true rfl) (fun r25 w26 h27 => ?_)
        obtain ⟨rfl, pr25, zx28, hx29⟩ := h27
        have hk30 := k_ls hk24 hx29
        refine g_bipush cx 42 (by decide) e_X11_readsStep_56 ?_
        have J115 : ∀ (F32 : Nat → Int32) (y31 : Int32), (g_ok LK_wM F32) → (g_fr md_X11_readsStep F F32) → (WT F32 R20) → (WC F32 R20) → (jv (-2147483648) 220 y31) → (1 ≤ (y31 : Int32).toInt ∧ (y31 : Int32).toInt ≤ 9) → ((F 15).toInt ≤ (F32 15).toInt) → ((F32 21).toInt = (F 21).toInt) → (SP = K_X11_readsStep_115 F R20 F32 y31) → G X E 4 0 0 (wM X ad F32 R20) [(0, .ref (ad 0)), (1, .int (F 15)), (2, .int y31)] 115 [] := by
          intro F32 y31 oF32 fF32 wTF32 wCF32 py31 zi115_0 zi115_1 zi115_2 hkJ115
          unfold K_X11_readsStep_115 at hkJ115
          have p33 : jv 1 9 y31 := ⟨by have q0 := (jv_t (g_here F R20)).1; have q1 := (jv_t (g_here F R20)).2; have q2 := py31.1; have q3 := py31.2; have q4 := zi115_0; omega, by have q0 := (jv_t (g_here F R20)).1; have q1 := (jv_t (g_here F R20)).2; have q2 := py31.1; have q3 := py31.2; have q4 := zi115_0; omega⟩
          have p34 : jv 0 19 (F32 21) := ⟨by have q0 := (jv_k (x := 20) 20 (by decide)).1; have q1 := (jv_k (x := 20) 20 (by decide)).2; have q2 := p12.1; have q3 := p12.2; have q4 := (g_ok_g oF32 5 rfl).1; have q5 := (g_ok_g oF32 5 rfl).2; have q6 := (gc_ne zc11); have q7 := zi115_2; omega, by have q0 := (jv_k (x := 20) 20 (by decide)).1; have q1 := (jv_k (x := 20) 20 (by decide)).2; have q2 := p12.1; have q3 := p12.2; have q4 := (g_ok_g oF32 5 rfl).1; have q5 := (g_ok_g oF32 5 rfl).2; have q6 := (gc_ne zc11); have q7 := zi115_2; omega⟩
          refine g_aload_n cx 0 rfl e_X11_readsStep_115 ?_
          refine g_get cx cl_X11 fl_X11_213 0 (.int (F32 20)) e_X11_readsStep_116 rfl rfl ?_
          refine g_iload_n cx 2 rfl e_X11_readsStep_119 ?_
          refine g_iadd cx e_X11_readsStep_120 ?_
          refine g_topi (fun x35 ex35 => ?_)
          have hk36 := k_ls hkJ115 ex35
          have zx35 := jv_add 1 69 ex35 (g_ok_g oF32 4 rfl) p33 (by decide)
          refine g_bipush cx 60 (by decide) e_X11_readsStep_121 ?_
          refine g_icmp_le cx 134 e_X11_readsStep_123 (by decide) (fun zc37 => ?_) (fun zc37 => ?_)
          · have p38 := gn_le 1 60 (gc_le zc37) zx35.2 (jv_k (x := 60) 60 (by decide)) (by decide)
            have hk39 := hk36.trans (if_pos zc37)
            refine g_iconst cx 0 (by decide) e_X11_readsStep_134 ?_
            refine g_istore_n cx [(3, .int 0), (0, .ref (ad 0)), (1, .int (F 15)), (2, .int y31)] e_X11_readsStep_135 (by decide) rfl ?_
            have J136 : ∀ (N : Nat) (R41 : Nat → Nat → Int32) (y40 : Int32), (g_okR LA_wM R41) → (g_fr mr_X11_readsStep R R41) → (WT F32 R41) → (WC F32 R41) → (jv 0 9 y40) → ((F 15).toInt ≤ (F32 15).toInt) → ((F32 21).toInt = (F 21).toInt) → (SP = K_X11_readsStep_136 F32 y31 N R41 y40) → (2147483647 - y40.toInt).toNat < N → G X E 4 0 0 (wM X ad F32 R41) [(0, .ref (ad 0)), (2, .int y31), (3, .int y40)] 136 [] := by
              intro N
              induction N with
              | zero => intro R41 y40 oR41 fR41 wTR41 wCR41 py40 zi136_0 zi136_1 hkJ136 hm; exact absurd hm (Nat.not_lt_zero _)
              | succ N ih136 =>
                intro R41 y40 oR41 fR41 wTR41 wCR41 py40 zi136_0 zi136_1 hkJ136 hm136
                have hkK136 : SP = KB_X11_readsStep_136 (K_X11_readsStep_136 F32 y31 N) F32 y31 R41 y40 := hkJ136
                obtain ⟨b136, hb136⟩ : ∃ z, z = K_X11_readsStep_136 F32 y31 N := ⟨_, rfl⟩
                rw [← hb136] at hkK136
                unfold KB_X11_readsStep_136 at hkK136
                have p42 : jv 0 19 (F32 21) := ⟨by have q0 := (jv_k (x := 20) 20 (by decide)).1; have q1 := (jv_k (x := 20) 20 (by decide)).2; have q2 := p12.1; have q3 := p12.2; have q4 := p34.1; have q5 := p34.2; have q6 := (gc_ne zc11); have q7 := zi115_2; have q8 := zi136_1; omega, by have q0 := (jv_k (x := 20) 20 (by decide)).1; have q1 := (jv_k (x := 20) 20 (by decide)).2; have q2 := p12.1; have q3 := p12.2; have q4 := p34.1; have q5 := p34.2; have q6 := (gc_ne zc11); have q7 := zi115_2; have q8 := zi136_1; omega⟩
                refine g_iload_n cx 2 rfl e_X11_readsStep_136 ?_
                refine g_iload_n cx 1 rfl e_X11_readsStep_137 ?_
                refine g_icmp_ge cx 162 e_X11_readsStep_138 (by decide) (fun zc43 => ?_) (fun zc43 => ?_)
                · have p44 := gn_ge 1 9 (gc_le zc43) py40 p33 (by decide)
                  have hk45 := hkK136.trans (if_pos zc43)
                  refine g_aload_n cx 0 rfl e_X11_readsStep_162 ?_
                  refine g_aload_n cx 0 rfl e_X11_readsStep_163 ?_
                  refine g_get cx cl_X11 fl_X11_213 0 (.int (F32 20)) e_X11_readsStep_164 rfl rfl ?_
                  refine g_iload_n cx 1 rfl e_X11_readsStep_167 ?_
                  refine g_iadd cx e_X11_readsStep_168 ?_
                  refine g_topi (fun x46 ex46 => ?_)
                  have hk47 := k_ls hk45 ex46
                  have zx46 := jv_add 1 69 ex46 (g_ok_g oF32 4 rfl) p33 (by decide)
                  refine g_put cx cl_X11 fl_X11_213 0 (wM X ad (upd F32 20 x46) R41) e_X11_readsStep_169 rfl rfl rfl rfl (Nat.le_of_ble_eq_true rfl) rfl ?_
                  obtain ⟨F48, hF48⟩ : ∃ z, z = upd F32 20 x46 := ⟨_, rfl⟩
                  rw [← hF48]
                  have hk49 := k_ls hk47 hF48
                  have oF48 : g_ok LK_wM F48 := by rw [hF48]; exact g_ok_p oF32 (show jv 0 60 _ from ⟨by have q0 := (jv_t (g_here F R20)).1; have q1 := (jv_t (g_here F R20)).2; have q2 := (jv_k (x := 60) 60 (by decide)).1; have q3 := (jv_k (x := 60) 60 (by decide)).2; have q4 := (g_ok_g oF32 4 rfl).1; have q5 := (g_ok_g oF32 4 rfl).2; have q6 := p38.1; have q7 := p38.2; have q8 := zx46.2.1; have q9 := zx46.2.2; have q10 := p33.1; have q11 := p33.2; have q12 := p44.1; have q13 := p44.2; have q14 := zi115_0; have q15 := (g_eq0 zx35.1); have q16 := (gc_le zc37); have q17 := (gc_le zc43); have q18 := (g_eq0 zx46.1); omega, by have q0 := (jv_t (g_here F R20)).1; have q1 := (jv_t (g_here F R20)).2; have q2 := (jv_k (x := 60) 60 (by decide)).1; have q3 := (jv_k (x := 60) 60 (by decide)).2; have q4 := (g_ok_g oF32 4 rfl).1; have q5 := (g_ok_g oF32 4 rfl).2; have q6 := p38.1; have q7 := p38.2; have q8 := zx46.2.1; have q9 := zx46.2.2; have q10 := p33.1; have q11 := p33.2; have q12 := p44.1; have q13 := p44.2; have q14 := zi115_0; have q15 := (g_eq0 zx35.1); have q16 := (gc_le zc37); have q17 := (gc_le zc43); have q18 := (g_eq0 zx46.1); omega⟩) rfl
                  have fF48 : g_fr md_X11_readsStep F F48 := by rw [hF48]; exact g_fr_u fF32 rfl
                  have wTF48 : WT F48 R41 := by rw [hF48]; exact WT_u wTR41 rfl
                  have wCF48 : WC F48 R41 := by rw [hF48]; exact WC_u wCR41 rfl
                  refine g_aload_n cx 0 rfl e_X11_readsStep_172 ?_
                  refine g_aload_n cx 0 rfl e_X11_readsStep_173 ?_
                  refine g_get cx cl_X11 fl_X11_207 0 (.int (F48 21)) e_X11_readsStep_174 rfl rfl ?_
                  refine g_toi (F32 21) (g_pu2 hF48 rfl) ?_
                  refine g_iconst cx 1 (by decide) e_X11_readsStep_177 ?_
                  refine g_iadd cx e_X11_readsStep_178 ?_
                  refine g_topi (fun x50 ex50 => ?_)
                  have hk51 := k_ls hk49 ex50
                  have zx50 := jv_add 1 20 ex50 p42 (jv_k (x := 1) 1 (by decide)) (by decide)
                  refine g_put cx cl_X11 fl_X11_207 0 (wM X ad (upd F48 21 x50) R41) e_X11_readsStep_179 rfl rfl rfl rfl (Nat.le_of_ble_eq_true rfl) rfl ?_
                  obtain ⟨F52, hF52⟩ : ∃ z, z = upd F48 21 x50 := ⟨_, rfl⟩
                  rw [← hF52]
                  have hk53 := k_ls hk51 hF52
                  have oF52 : g_ok LK_wM F52 := by rw [hF52]; exact g_ok_p oF48 zx50.2 rfl
                  have fF52 : g_fr md_X11_readsStep F F52 := by rw [hF52]; exact g_fr_u fF48 rfl
                  have wTF52 : WT F52 R41 := by rw [hF52]; exact WT_u wTF48 rfl
                  have wCF52 : WC F52 R41 := by rw [hF52]; exact WC_u wCF48 rfl
                  refine g_iconst cx 1 (by decide) e_X11_readsStep_182 ?_
                  exact hret e_X11_readsStep_183 (Nat.le_of_ble_eq_true rfl) (Nat.le_of_ble_eq_true rfl) rfl ⟨F52, R41, rfl, oF52, oR41, wTF52, wCF52, fF52, fR41, (jv_w (jv_k (x := 1) 1 (by decide)) (by decide)), (by have q0 := (g_here_iv F R).1; have q1 := (g_here_iv F R).2; have q2 := (g_here_iv F19 R20).1; have q3 := (g_here_iv F19 R20).2; have q4 := (jv_k (x := 0) 0 (by decide)).1; have q5 := (jv_k (x := 0) 0 (by decide)).2; have q6 := (g_ok_g hI 1 rfl).1; have q7 := (g_ok_g hI 1 rfl).2; have q8 := (g_ok_g hI 2 rfl).1; have q9 := (g_ok_g hI 2 rfl).2; have q10 := (g_ok_g oF19 1 rfl).1; have q11 := (g_ok_g oF19 1 rfl).2; have q12 := (g_ok_g oF19 2 rfl).1; have q13 := (g_ok_g oF19 2 rfl).2; have q14 := (g_ok_g oF32 1 rfl).1; have q15 := (g_ok_g oF32 1 rfl).2; have q16 := (g_ok_g oF52 1 rfl).1; have q17 := (g_ok_g oF52 1 rfl).2; have q18 := p9.1; have q19 := p9.2; have q20 := p23.1; have q21 := p23.2; have q22 := pr25.1; have q23 := pr25.2; have q24 := (@g_here_lt F R); have q25 := zx5; have q26 := (gc_ne zc8); have q27 := (zx4 zc8); have q28 := zx17; have q29 := (gc_ne zc22); have q30 := (congrArg Int32.toInt zx28); have q31 := (@g_here_lt F19 R20); have q32 := (congrArg Int32.toInt (show F19 16 = F 16 from (cF19 16 rfl))); have q33 := zi115_1; have q34 := zi136_0; have q35 := (congrArg Int32.toInt (show F52 15 = F32 15 from ((g_pu2 hF52 rfl).trans (g_pu2 hF48 rfl)))); omega), (hk53.symm.trans hSP)⟩
                · have p54 := gn_lt 0 8 (gc_nle zc43) py40 p33 (by decide)
                  have hk55 := hkK136.trans (if_neg zc43)
                  refine g_aload_n cx 0 rfl e_X11_readsStep_141 ?_
                  refine g_get cx cl_X11 fl_X11_41 0 (.ref (ad 11)) e_X11_readsStep_142 rfl rfl ?_
                  refine g_aload_n cx 0 rfl e_X11_readsStep_145 ?_
                  refine g_get cx cl_X11 fl_X11_213 0 (.int (F32 20)) e_X11_readsStep_146 rfl rfl ?_
                  refine g_iload_n cx 2 rfl e_X11_readsStep_149 ?_
                  refine g_iadd cx e_X11_readsStep_150 ?_
                  refine g_topi (fun x56 ex56 => ?_)
                  have hk57 := k_ls hk55 ex56
                  have zx56 := jv_add 0 68 ex56 (g_ok_g oF32 4 rfl) p54 (by decide)
                  refine g_aload_n cx 0 rfl e_X11_readsStep_151 ?_
                  refine g_get cx cl_X11 fl_X11_193 0 (.int (F32 18)) e_X11_readsStep_152 rfl rfl ?_
                  refine g_iast cx 11 (wM X ad F32 (g_u R41 11 (upd (R41 11) (Int32.toNatClampNeg x56) (F32 18)))) e_X11_readsStep_155 rfl (vp_in_iff.mpr ⟨by have q0 := (jv_t (g_here F R20)).1; have q1 := (jv_t (g_here F R20)).2; have q2 := (jv_k (x := 60) 60 (by decide)).1; have q3 := (jv_k (x := 60) 60 (by decide)).2; have q4 := (g_ok_g oF32 4 rfl).1; have q5 := (g_ok_g oF32 4 rfl).2; have q6 := p38.1; have q7 := p38.2; have q8 := zx56.2.1; have q9 := zx56.2.2; have q10 := p33.1; have q11 := p33.2; have q12 := p54.1; have q13 := p54.2; have q14 := zi115_0; have q15 := (g_eq0 zx35.1); have q16 := (gc_le zc37); have q17 := (gc_nle zc43); have q18 := (g_eq0 zx56.1); omega, by have q0 := (jv_t (g_here F R20)).1; have q1 := (jv_t (g_here F R20)).2; have q2 := (jv_k (x := 60) 60 (by decide)).1; have q3 := (jv_k (x := 60) 60 (by decide)).2; have q4 := (g_ok_g oF32 4 rfl).1; have q5 := (g_ok_g oF32 4 rfl).2; have q6 := p38.1; have q7 := p38.2; have q8 := zx56.2.1; have q9 := zx56.2.2; have q10 := p33.1; have q11 := p33.2; have q12 := p54.1; have q13 := p54.2; have q14 := zi115_0; have q15 := (g_eq0 zx35.1); have q16 := (gc_le zc37); have q17 := (gc_nle zc43); have q18 := (g_eq0 zx56.1); omega⟩) rfl ?_
                  obtain ⟨R58, hR58⟩ : ∃ z, z = g_u R41 11 (upd (R41 11) (Int32.toNatClampNeg x56) (F32 18)) := ⟨_, rfl⟩
                  rw [← hR58]
                  have hk59 := k_ls hk57 hR58
                  have oR58 : g_okR LA_wM R58 := by rw [hR58]; exact g_okR_u oR41 rfl
                  have fR58 : g_fr mr_X11_readsStep R R58 := by rw [hR58]; exact g_fr_r fR41 rfl
                  have wTR58 : WT F32 R58 := by rw [hR58]; exact WT_r wTR41 rfl
                  have wCR58 : WC F32 R58 := by rw [hR58]; exact WC_r wCR41 rfl
                  obtain ⟨x60, ex60⟩ : ∃ z : Int32, z = y40 + Int32.ofInt 1 := ⟨_, rfl⟩
                  have hk61 := k_ls hk59 (show x60 = y40 + 1 from ex60)
                  refine g_iinc cx x60 [(3, .int x60), (0, .ref (ad 0)), (2, .int y31)] 2 e_X11_readsStep_156 rfl ex60.symm (by decide) rfl ?_
                  have zx60 := jv_add 1 9 (show x60 = y40 + 1 from ex60) p54 (jv_k (x := 1) 1 (by decide)) (by decide)
                  refine g_goto cx 136 e_X11_readsStep_159 (by decide) ?_
                  refine g_lsub [1, 2, 0] [(0, .ref (ad 0)), (2, .int y31), (3, .int x60)] rfl ?_
                  exact ih136 R58 x60 oR58 fR58 wTR58 wCR58 (jv_w zx60.2 (by decide)) (by have q0 := (g_here_iv F R).1; have q1 := (g_here_iv F R).2; have q2 := (g_here_iv F19 R20).1; have q3 := (g_here_iv F19 R20).2; have q4 := (jv_k (x := 0) 0 (by decide)).1; have q5 := (jv_k (x := 0) 0 (by decide)).2; have q6 := (g_ok_g hI 1 rfl).1; have q7 := (g_ok_g hI 1 rfl).2; have q8 := (g_ok_g hI 2 rfl).1; have q9 := (g_ok_g hI 2 rfl).2; have q10 := (g_ok_g oF19 1 rfl).1; have q11 := (g_ok_g oF19 1 rfl).2; have q12 := (g_ok_g oF19 2 rfl).1; have q13 := (g_ok_g oF19 2 rfl).2; have q14 := (g_ok_g oF32 1 rfl).1; have q15 := (g_ok_g oF32 1 rfl).2; have q16 := p9.1; have q17 := p9.2; have q18 := p23.1; have q19 := p23.2; have q20 := pr25.1; have q21 := pr25.2; have q22 := (@g_here_lt F R); have q23 := zx5; have q24 := (gc_ne zc8); have q25 := (zx4 zc8); have q26 := zx17; have q27 := (gc_ne zc22); have q28 := (congrArg Int32.toInt zx28); have q29 := (@g_here_lt F19 R20); have q30 := (congrArg Int32.toInt (show F19 16 = F 16 from (cF19 16 rfl))); have q31 := zi115_1; have q32 := zi136_0; omega) (by have q0 := (jv_k (x := 20) 20 (by decide)).1; have q1 := (jv_k (x := 20) 20 (by decide)).2; have q2 := p12.1; have q3 := p12.2; have q4 := p42.1; have q5 := p42.2; have q6 := (gc_ne zc11); have q7 := zi115_2; have q8 := zi136_1; omega) (hk61.trans (by rw [hb136])) (Nat.lt_of_lt_of_le (show (2147483647 - x60.toInt).toNat < (2147483647 - y40.toInt).toNat from by have q0 := (jv_t (g_here F R20)).1; have q1 := (jv_t (g_here F R20)).2; have q2 := (jv_k (x := 1) 1 (by decide)).1; have q3 := (jv_k (x := 1) 1 (by decide)).2; have q4 := (jv_k (x := 60) 60 (by decide)).1; have q5 := (jv_k (x := 60) 60 (by decide)).2; have q6 := (g_ok_g oF32 4 rfl).1; have q7 := (g_ok_g oF32 4 rfl).2; have q8 := p38.1; have q9 := p38.2; have q10 := zx56.2.1; have q11 := zx56.2.2; have q12 := zx60.2.1; have q13 := zx60.2.2; have q14 := p33.1; have q15 := p33.2; have q16 := p54.1; have q17 := p54.2; have q18 := zi115_0; have q19 := (g_eq0 zx35.1); have q20 := (gc_le zc37); have q21 := (gc_nle zc43); have q22 := (g_eq0 zx56.1); have q23 := (g_eq0 zx60.1); omega) (Nat.le_of_lt_succ hm136))
            refine g_lsub [1, 3, 0] [(0, .ref (ad 0)), (2, .int y31), (3, .int 0)] rfl ?_
            exact J136 8589934592 R20 0 oR20 fR20 wTF32 wCF32 (jv_w (jv_k (x := 0) 0 (by decide)) (by decide)) (by have q0 := (g_here_iv F R).1; have q1 := (g_here_iv F R).2; have q2 := (g_here_iv F19 R20).1; have q3 := (g_here_iv F19 R20).2; have q4 := (jv_k (x := 0) 0 (by decide)).1; have q5 := (jv_k (x := 0) 0 (by decide)).2; have q6 := (g_ok_g hI 1 rfl).1; have q7 := (g_ok_g hI 1 rfl).2; have q8 := (g_ok_g hI 2 rfl).1; have q9 := (g_ok_g hI 2 rfl).2; have q10 := (g_ok_g oF19 1 rfl).1; have q11 := (g_ok_g oF19 1 rfl).2; have q12 := (g_ok_g oF19 2 rfl).1; have q13 := (g_ok_g oF19 2 rfl).2; have q14 := (g_ok_g oF32 1 rfl).1; have q15 := (g_ok_g oF32 1 rfl).2; have q16 := p9.1; have q17 := p9.2; have q18 := p23.1; have q19 := p23.2; have q20 := pr25.1; have q21 := pr25.2; have q22 := (@g_here_lt F R); have q23 := zx5; have q24 := (gc_ne zc8); have q25 := (zx4 zc8); have q26 := zx17; have q27 := (gc_ne zc22); have q28 := (congrArg Int32.toInt zx28); have q29 := (@g_here_lt F19 R20); have q30 := (congrArg Int32.toInt (show F19 16 = F 16 from (cF19 16 rfl))); have q31 := zi115_1; omega) (by have q0 := (jv_k (x := 20) 20 (by decide)).1; have q1 := (jv_k (x := 20) 20 (by decide)).2; have q2 := p12.1; have q3 := p12.2; have q4 := p34.1; have q5 := p34.2; have q6 := (gc_ne zc11); have q7 := zi115_2; omega) hk39 (show (2147483647 - (0 : Int32).toInt).toNat < 8589934592 from by have q0 := (jv_k (x := 0) 0 (by decide)).1; have q1 := (jv_k (x := 0) 0 (by decide)).2; omega)
          · have p62 := gn_gt 61 69 (gc_nle zc37) zx35.2 (jv_k (x := 60) 60 (by decide)) (by decide)
            have hk63 := hk36.trans (if_neg zc37)
            refine g_aload_n cx 0 rfl e_X11_readsStep_126 ?_
            refine g_bipush cx 6 (by decide) e_X11_readsStep_127 ?_
            refine g_iload_n cx 1 rfl e_X11_readsStep_129 ?_
            refine g_cViW cx [.int 6, .int (F 15)] [] (w_X11_wrongAt l X ad F32 R20 oF32 oR20 wTF32 wCF32 6 (F 15)) ml_X11_204 yV_X11_wrongAt e_X11_readsStep_130 (by unfold g_rr; decide) (by decide) 0 rfl rfl rfl (Nat.le_of_ble_eq_true rfl) (fun r64 w65 h66 => ?_)
            obtain ⟨F68, R69, rfl, oF68, oR69, wTF68, wCF68, cF68, cR69, pr64, hx67⟩ := h66
            have hk70 := k_ls3 hk63 hx67
            have fF68 : g_fr md_X11_readsStep F F68 := g_fr_c fF32 cF68 rfl
            have fR69 : g_fr mr_X11_readsStep R R69 := g_fr_c fR20 cR69 rfl
            exact hret e_X11_readsStep_133 (Nat.le_of_ble_eq_true rfl) (Nat.le_of_ble_eq_true rfl) (g_narb (jv_w pr64 (by decide))) ⟨F68, R69, rfl, oF68, oR69, wTF68, wCF68, fF68, fR69, (jv_w pr64 (by decide)), (by have q0 := (g_here_iv F R).1; have q1 := (g_here_iv F R).2; have q2 := (g_here_iv F19 R20).1; have q3 := (g_here_iv F19 R20).2; have q4 := (jv_k (x := 0) 0 (by decide)).1; have q5 := (jv_k (x := 0) 0 (by decide)).2; have q6 := (g_ok_g hI 1 rfl).1; have q7 := (g_ok_g hI 1 rfl).2; have q8 := (g_ok_g hI 2 rfl).1; have q9 := (g_ok_g hI 2 rfl).2; have q10 := (g_ok_g oF19 1 rfl).1; have q11 := (g_ok_g oF19 1 rfl).2; have q12 := (g_ok_g oF19 2 rfl).1; have q13 := (g_ok_g oF19 2 rfl).2; have q14 := (g_ok_g oF32 1 rfl).1; have q15 := (g_ok_g oF32 1 rfl).2; have q16 := (g_ok_g oF68 1 rfl).1; have q17 := (g_ok_g oF68 1 rfl).2; have q18 := p9.1; have q19 := p9.2; have q20 := p23.1; have q21 := p23.2; have q22 := pr25.1; have q23 := pr25.2; have q24 := (@g_here_lt F R); have q25 := zx5; have q26 := (gc_ne zc8); have q27 := (zx4 zc8); have q28 := zx17; have q29 := (gc_ne zc22); have q30 := (congrArg Int32.toInt zx28); have q31 := (@g_here_lt F19 R20); have q32 := (congrArg Int32.toInt (show F19 16 = F 16 from (cF19 16 rfl))); have q33 := zi115_1; have q34 := (congrArg Int32.toInt (show F68 15 = F32 15 from (cF68 15 rfl))); omega), (hk70.symm.trans hSP)⟩
        refine g_icmp_ne cx 115 e_X11_readsStep_58 (by decide) (fun zc71 => ?_) (fun zc71 => ?_)
        · have hk72 := hk30.trans (if_neg zc71)
          refine g_lsub [2, 1, 0] [(0, .ref (ad 0)), (1, .int (F 15)), (2, .int 1)] rfl ?_
          exact J115 F19 1 oF19 fF19 wTF19 wCF19 (jv_w (jv_k (x := 1) 1 (by decide)) (by decide)) (by have q0 := (jv_t (g_here F R20)).1; have q1 := (jv_t (g_here F R20)).2; have q2 := (jv_k (x := 1) 1 (by decide)).1; have q3 := (jv_k (x := 1) 1 (by decide)).2; omega) (by have q0 := (g_here_iv F R).1; have q1 := (g_here_iv F R).2; have q2 := (g_here_iv F19 R20).1; have q3 := (g_here_iv F19 R20).2; have q4 := (jv_k (x := 0) 0 (by decide)).1; have q5 := (jv_k (x := 0) 0 (by decide)).2; have q6 := (jv_k (x := 42) 42 (by decide)).1; have q7 := (jv_k (x := 42) 42 (by decide)).2; have q8 := (g_ok_g hI 1 rfl).1; have q9 := (g_ok_g hI 1 rfl).2; have q10 := (g_ok_g hI 2 rfl).1; have q11 := (g_ok_g hI 2 rfl).2; have q12 := (g_ok_g oF19 1 rfl).1; have q13 := (g_ok_g oF19 1 rfl).2; have q14 := (g_ok_g oF19 2 rfl).1; have q15 := (g_ok_g oF19 2 rfl).2; have q16 := p9.1; have q17 := p9.2; have q18 := p23.1; have q19 := p23.2; have q20 := pr25.1; have q21 := pr25.2; have q22 := (@g_here_lt F R); have q23 := zx5; have q24 := (gc_ne zc8); have q25 := (zx4 zc8); have q26 := zx17; have q27 := (gc_ne zc22); have q28 := (congrArg Int32.toInt zx28); have q29 := (@g_here_lt F19 R20); have q30 := (congrArg Int32.toInt (show F19 16 = F 16 from (cF19 16 rfl))); have q31 := (gc_ne zc71); omega) (by have q0 := (jv_k (x := 20) 20 (by decide)).1; have q1 := (jv_k (x := 20) 20 (by decide)).2; have q2 := p12.1; have q3 := p12.2; have q4 := (g_ok_g oF19 5 rfl).1; have q5 := (g_ok_g oF19 5 rfl).2; have q6 := (gc_ne zc11); have q7 := (congrArg Int32.toInt (show F19 21 = F 21 from (cF19 21 rfl))); omega) hk72
        · have p73 := gn_eq 42 42 (gc_eq zc71) pr25 (jv_k (x := 42) 42 (by decide)) (by decide)
          have hk74 := hk30.trans (if_pos zc71)
          refine g_aload_n cx 2 rfl e_X11_readsStep_61 ?_
          refine g_aload_n cx 2 rfl e_X11_readsStep_62 ?_
          refine g_get cx cl_X11 fl_X11_190 0 (.int (F19 15)) e_X11_readsStep_63 rfl rfl ?_
          refine g_iconst cx 1 (by decide) e_X11_readsStep_66 ?_
          refine g_iadd cx e_X11_readsStep_67 ?_
          refine g_topi (fun x75 ex75 => ?_)
          have hk76 := k_ls hk74 ex75
          have zx75 := jv_add 1 221 ex75 (g_ok_g oF19 1 rfl) (jv_k (x := 1) 1 (by decide)) (by decide)
          refine g_put cx cl_X11 fl_X11_190 0 (wM X ad (upd F19 15 x75) R20) e_X11_readsStep_68 rfl rfl rfl rfl (Nat.le_of_ble_eq_true rfl) rfl ?_
          obtain ⟨F77, hF77⟩ : ∃ z, z = upd F19 15 x75 := ⟨_, rfl⟩
          rw [← hF77]
          have hk78 := k_ls hk76 hF77
          have oF77 : g_ok LK_wM F77 := by rw [hF77]; exact g_ok_p oF19 (show jv 0 220 _ from ⟨by have q0 := (g_here_iv F R).1; have q1 := (g_here_iv F R).2; have q2 := (g_here_iv F19 R20).1; have q3 := (g_here_iv F19 R20).2; have q4 := (jv_k (x := 0) 0 (by decide)).1; have q5 := (jv_k (x := 0) 0 (by decide)).2; have q6 := (jv_k (x := 1) 1 (by decide)).1; have q7 := (jv_k (x := 1) 1 (by decide)).2; have q8 := (jv_k (x := 42) 42 (by decide)).1; have q9 := (jv_k (x := 42) 42 (by decide)).2; have q10 := (g_ok_g hI 1 rfl).1; have q11 := (g_ok_g hI 1 rfl).2; have q12 := (g_ok_g hI 2 rfl).1; have q13 := (g_ok_g hI 2 rfl).2; have q14 := (g_ok_g oF19 1 rfl).1; have q15 := (g_ok_g oF19 1 rfl).2; have q16 := (g_ok_g oF19 2 rfl).1; have q17 := (g_ok_g oF19 2 rfl).2; have q18 := p9.1; have q19 := p9.2; have q20 := p23.1; have q21 := p23.2; have q22 := p73.1; have q23 := p73.2; have q24 := zx75.2.1; have q25 := zx75.2.2; have q26 := (@g_here_lt F R); have q27 := zx5; have q28 := (gc_ne zc8); have q29 := (zx4 zc8); have q30 := zx17; have q31 := (gc_ne zc22); have q32 := (congrArg Int32.toInt zx28); have q33 := (@g_here_lt F19 R20); have q34 := (congrArg Int32.toInt (show F19 16 = F 16 from (cF19 16 rfl))); have q35 := (gc_eq zc71); have q36 := (g_eq0 zx75.1); omega, by have q0 := (g_here_iv F R).1; have q1 := (g_here_iv F R).2; have q2 := (g_here_iv F19 R20).1; have q3 := (g_here_iv F19 R20).2; have q4 := (jv_k (x := 0) 0 (by decide)).1; have q5 := (jv_k (x := 0) 0 (by decide)).2; have q6 := (jv_k (x := 1) 1 (by decide)).1; have q7 := (jv_k (x := 1) 1 (by decide)).2; have q8 := (jv_k (x := 42) 42 (by decide)).1; have q9 := (jv_k (x := 42) 42 (by decide)).2; have q10 := (g_ok_g hI 1 rfl).1; have q11 := (g_ok_g hI 1 rfl).2; have q12 := (g_ok_g hI 2 rfl).1; have q13 := (g_ok_g hI 2 rfl).2; have q14 := (g_ok_g oF19 1 rfl).1; have q15 := (g_ok_g oF19 1 rfl).2; have q16 := (g_ok_g oF19 2 rfl).1; have q17 := (g_ok_g oF19 2 rfl).2; have q18 := p9.1; have q19 := p9.2; have q20 := p23.1; have q21 := p23.2; have q22 := p73.1; have q23 := p73.2; have q24 := zx75.2.1; have q25 := zx75.2.2; have q26 := (@g_here_lt F R); have q27 := zx5; have q28 := (gc_ne zc8); have q29 := (zx4 zc8); have q30 := zx17; have q31 := (gc_ne zc22); have q32 := (congrArg Int32.toInt zx28); have q33 := (@g_here_lt F19 R20); have q34 := (congrArg Int32.toInt (show F19 16 = F 16 from (cF19 16 rfl))); have q35 := (gc_eq zc71); have q36 := (g_eq0 zx75.1); omega⟩) rfl
          have fF77 : g_fr md_X11_readsStep F F77 := by rw [hF77]; exact g_fr_u fF19 rfl
          have wTF77 : WT F77 R20 := by rw [hF77]; exact WT_u wTF19 rfl
          have wCF77 : WC F77 R20 := by rw [hF77]; exact WC_u wCF19 rfl
          refine g_aload_n cx 2 rfl e_X11_readsStep_71 ?_
          refine g_cViW cx [] [] (w_X11_isDigit l X ad F77 R20 oF77 oR20 wTF77 wCF77) ml_X11_196 yV_X11_isDigit e_X11_readsStep_72 (by unfold g_rr; decide) (by decide) 0 rfl rfl rfl (Nat.le_of_ble_eq_true rfl) (fun r79 w80 h81 => ?_)
          obtain ⟨rfl, pr79, zx82, zx83, hx84⟩ := h81
          have hk85 := k_ls hk78 hx84
          have J87 : ((F 15).toInt ≤ (F77 15).toInt) → ((F77 21).toInt = (F 21).toInt) → (SP = K_X11_readsStep_87 F77 R20 x75) → G X E 4 0 0 (wM X ad F77 R20) [(0, .ref (ad 0))] 87 [] := by
            intro  zi87_0 zi87_1 hkJ87
            unfold K_X11_readsStep_87 at hkJ87
            refine g_aload_n cx 0 rfl e_X11_readsStep_87 ?_
            refine g_iconst cx 1 (by decide) e_X11_readsStep_88 ?_
            refine g_aload_n cx 0 rfl e_X11_readsStep_89 ?_
            refine g_get cx cl_X11 fl_X11_190 0 (.int (F77 15)) e_X11_readsStep_90 rfl rfl ?_
            refine g_toi x75 (g_pu1 hF77) ?_
            refine g_cViW cx [.int 1, .int x75] [] (w_X11_wrongAt l X ad F77 R20 oF77 oR20 wTF77 wCF77 1 x75) ml_X11_204 yV_X11_wrongAt e_X11_readsStep_93 (by unfold g_rr; decide) (by decide) 0 rfl rfl rfl (Nat.le_of_ble_eq_true rfl) (fun r86 w87 h88 => ?_)
            obtain ⟨F90, R91, rfl, oF90, oR91, wTF90, wCF90, cF90, cR91, pr86, hx89⟩ := h88
            have hk92 := k_ls3 hkJ87 hx89
            have fF90 : g_fr md_X11_readsStep F F90 := g_fr_c fF77 cF90 rfl
            have fR91 : g_fr mr_X11_readsStep R R91 := g_fr_c fR20 cR91 rfl
            exact hret e_X11_readsStep_96 (Nat.le_of_ble_eq_true rfl) (Nat.le_of_ble_eq_true rfl) (g_narb (jv_w pr86 (by decide))) ⟨F90, R91, rfl, oF90, oR91, wTF90, wCF90, fF90, fR91, (jv_w pr86 (by decide)), (by have q0 := (g_here_iv F R).1; have q1 := (g_here_iv F R).2; have q2 := (g_here_iv F19 R20).1; have q3 := (g_here_iv F19 R20).2; have q4 := (g_here_iv F77 R20).1; have q5 := (g_here_iv F77 R20).2; have q6 := (jv_k (x := 0) 0 (by decide)).1; have q7 := (jv_k (x := 0) 0 (by decide)).2; have q8 := (jv_k (x := 1) 1 (by decide)).1; have q9 := (jv_k (x := 1) 1 (by decide)).2; have q10 := (jv_k (x := 42) 42 (by decide)).1; have q11 := (jv_k (x := 42) 42 (by decide)).2; have q12 := (g_ok_g hI 1 rfl).1; have q13 := (g_ok_g hI 1 rfl).2; have q14 := (g_ok_g hI 2 rfl).1; have q15 := (g_ok_g hI 2 rfl).2; have q16 := (g_ok_g oF19 1 rfl).1; have q17 := (g_ok_g oF19 1 rfl).2; have q18 := (g_ok_g oF19 2 rfl).1; have q19 := (g_ok_g oF19 2 rfl).2; have q20 := (g_ok_g oF77 1 rfl).1; have q21 := (g_ok_g oF77 1 rfl).2; have q22 := (g_ok_g oF77 2 rfl).1; have q23 := (g_ok_g oF77 2 rfl).2; have q24 := (g_ok_g oF90 1 rfl).1; have q25 := (g_ok_g oF90 1 rfl).2; have q26 := p9.1; have q27 := p9.2; have q28 := p23.1; have q29 := p23.2; have q30 := p73.1; have q31 := p73.2; have q32 := pr79.1; have q33 := pr79.2; have q34 := zx75.2.1; have q35 := zx75.2.2; have q36 := (@g_here_lt F R); have q37 := zx5; have q38 := (gc_ne zc8); have q39 := (zx4 zc8); have q40 := zx17; have q41 := (gc_ne zc22); have q42 := (congrArg Int32.toInt zx28); have q43 := (@g_here_lt F19 R20); have q44 := (congrArg Int32.toInt (show F19 16 = F 16 from (cF19 16 rfl))); have q45 := (gc_eq zc71); have q46 := (g_eq0 zx75.1); have q47 := (@g_here_lt F77 R20); have q48 := (congrArg Int32.toInt (show F77 15 = x75 from (g_pu1 hF77))); have q49 := (congrArg Int32.toInt (show F77 16 = F 16 from ((g_pu2 hF77 rfl).trans (cF19 16 rfl)))); have q50 := zx83; have q51 := (congrArg Int32.toInt (show F77 15 = x75 from (g_pu1 hF77))); have q52 := (congrArg Int32.toInt (show F77 15 = x75 from (g_pu1 hF77))); have q53 := zi87_0; have q54 := (congrArg Int32.toInt (show F90 15 = x75 from ((cF90 15 rfl).trans (g_pu1 hF77)))); omega), (hk92.symm.trans hSP)⟩
          refine g_if_eq cx 87 e_X11_readsStep_75 (by decide) (fun zc93 => ?_) (fun zc93 => ?_)
          · have p94 := gn_eq 0 0 (gc_eq zc93) pr79 (jv_k (x := 0) 0 (by decide)) (by decide)
            have hk95 := hk85.trans (if_pos zc93)
            refine g_lsub [2] [(0, .ref (ad 0))] rfl ?_
            exact J87  (by have q0 := (g_here_iv F R).1; have q1 := (g_here_iv F R).2; have q2 := (g_here_iv F19 R20).1; have q3 := (g_here_iv F19 R20).2; have q4 := (g_here_iv F77 R20).1; have q5 := (g_here_iv F77 R20).2; have q6 := (jv_k (x := 0) 0 (by decide)).1; have q7 := (jv_k (x := 0) 0 (by decide)).2; have q8 := (jv_k (x := 1) 1 (by decide)).1; have q9 := (jv_k (x := 1) 1 (by decide)).2; have q10 := (jv_k (x := 42) 42 (by decide)).1; have q11 := (jv_k (x := 42) 42 (by decide)).2; have q12 := (g_ok_g hI 1 rfl).1; have q13 := (g_ok_g hI 1 rfl).2; have q14 := (g_ok_g hI 2 rfl).1; have q15 := (g_ok_g hI 2 rfl).2; have q16 := (g_ok_g oF19 1 rfl).1; have q17 := (g_ok_g oF19 1 rfl).2; have q18 := (g_ok_g oF19 2 rfl).1; have q19 := (g_ok_g oF19 2 rfl).2; have q20 := (g_ok_g oF77 1 rfl).1; have q21 := (g_ok_g oF77 1 rfl).2; have q22 := (g_ok_g oF77 2 rfl).1; have q23 := (g_ok_g oF77 2 rfl).2; have q24 := p9.1; have q25 := p9.2; have q26 := p23.1; have q27 := p23.2; have q28 := p73.1; have q29 := p73.2; have q30 := p94.1; have q31 := p94.2; have q32 := zx75.2.1; have q33 := zx75.2.2; have q34 := (@g_here_lt F R); have q35 := zx5; have q36 := (gc_ne zc8); have q37 := (zx4 zc8); have q38 := zx17; have q39 := (gc_ne zc22); have q40 := (congrArg Int32.toInt zx28); have q41 := (@g_here_lt F19 R20); have q42 := (congrArg Int32.toInt (show F19 16 = F 16 from (cF19 16 rfl))); have q43 := (gc_eq zc71); have q44 := (g_eq0 zx75.1); have q45 := (@g_here_lt F77 R20); have q46 := (congrArg Int32.toInt (show F77 15 = x75 from (g_pu1 hF77))); have q47 := (congrArg Int32.toInt (show F77 16 = F 16 from ((g_pu2 hF77 rfl).trans (cF19 16 rfl)))); have q48 := zx83; have q49 := (gc_eq zc93); have q50 := (congrArg Int32.toInt (show F77 15 = x75 from (g_pu1 hF77))); have q51 := (congrArg Int32.toInt (show F77 15 = x75 from (g_pu1 hF77))); omega) (by have q0 := (jv_k (x := 20) 20 (by decide)).1; have q1 := (jv_k (x := 20) 20 (by decide)).2; have q2 := p12.1; have q3 := p12.2; have q4 := (g_ok_g oF77 5 rfl).1; have q5 := (g_ok_g oF77 5 rfl).2; have q6 := (gc_ne zc11); have q7 := (congrArg Int32.toInt (show F77 21 = F 21 from ((g_pu2 hF77 rfl).trans (cF19 21 rfl)))); omega) hk95
          · have p96 := gn_neL 1 1 (gc_ne zc93) pr79 (jv_k (x := 0) 0 (by decide)) (by decide)
            have hk97 := hk85.trans (if_neg zc93)
            refine g_aload_n cx 2 rfl e_X11_readsStep_78 ?_
            refine g_cViW cx [] [] (w_X11_here l X ad F77 R20 oF77 oR20 wTF77 wCF77) ml_X11_200 yV_X11_here e_X11_readsStep_79 (by unfold g_rr; decide) (by decide) 0 rfl rfl rfl (Nat.le_of_ble_eq_true rfl) (fun r98 w99 h100 => ?_)
            obtain ⟨rfl, pr98, zx101, hx102⟩ := h100
            have hk103 := k_ls hk97 hx102
            refine g_bipush cx 50 (by decide) e_X11_readsStep_82 ?_
            refine g_icmp_ge cx 97 e_X11_readsStep_84 (by decide) (fun zc104 => ?_) (fun zc104 => ?_)
            · have p105 := gn_ge 50 255 (gc_le zc104) pr98 (jv_k (x := 50) 50 (by decide)) (by decide)
              have hk106 := hk103.trans (if_pos zc104)
              refine g_aload_n cx 2 rfl e_X11_readsStep_97 ?_
              refine g_cViW cx [] [] (w_X11_here l X ad F77 R20 oF77 oR20 wTF77 wCF77) ml_X11_200 yV_X11_here e_X11_readsStep_98 (by unfold g_rr; decide) (by decide) 0 rfl rfl rfl (Nat.le_of_ble_eq_true rfl) (fun r107 w108 h109 => ?_)
              obtain ⟨rfl, pr107, zx110, hx111⟩ := h109
              have hk112 := k_ls hk106 hx111
              refine g_bipush cx 48 (by decide) e_X11_readsStep_101 ?_
              refine g_isub cx e_X11_readsStep_103 ?_
              refine g_topi (fun x113 ex113 => ?_)
              have hk114 := k_ls hk112 ex113
              have zx113 := jv_sub (-49) 207 ex113 pr107 (jv_k (x := 48) 48 (by decide)) (by decide)
              refine g_istore_n cx [(2, .int x113), (1, .int (F 15)), (0, .ref (ad 0))] e_X11_readsStep_104 (by decide) rfl ?_
              refine g_aload_n cx 2 rfl e_X11_readsStep_105 ?_
              refine g_aload_n cx 2 rfl e_X11_readsStep_106 ?_
              refine g_get cx cl_X11 fl_X11_190 0 (.int (F77 15)) e_X11_readsStep_107 rfl rfl ?_
              refine g_toi x75 (g_pu1 hF77) ?_
              refine g_iconst cx 1 (by decide) e_X11_readsStep_110 ?_
              refine g_iadd cx e_X11_readsStep_111 ?_
              refine g_topi (fun x115 ex115 => ?_)
              have hk116 := k_ls hk114 ex115
              have zx115 := jv_add 2 222 ex115 zx75.2 (jv_k (x := 1) 1 (by decide)) (by decide)
              refine g_put cx cl_X11 fl_X11_190 0 (wM X ad (upd F77 15 x115) R20) e_X11_readsStep_112 rfl rfl rfl rfl (Nat.le_of_ble_eq_true rfl) rfl ?_
              obtain ⟨F117, hF117⟩ : ∃ z, z = upd F77 15 x115 := ⟨_, rfl⟩
              rw [← hF117]
              have hk118 := k_ls hk116 hF117
              have oF117 : g_ok LK_wM F117 := by rw [hF117]; exact g_ok_p oF77 (show jv 0 220 _ from ⟨by have q0 := (g_here_iv F R).1; have q1 := (g_here_iv F R).2; have q2 := (g_here_iv F19 R20).1; have q3 := (g_here_iv F19 R20).2; have q4 := (g_here_iv F77 R20).1; have q5 := (g_here_iv F77 R20).2; have q6 := (jv_k (x := 0) 0 (by decide)).1; have q7 := (jv_k (x := 0) 0 (by decide)).2; have q8 := (jv_k (x := 1) 1 (by decide)).1; have q9 := (jv_k (x := 1) 1 (by decide)).2; have q10 := (jv_k (x := 42) 42 (by decide)).1; have q11 := (jv_k (x := 42) 42 (by decide)).2; have q12 := (jv_k (x := 48) 48 (by decide)).1; have q13 := (jv_k (x := 48) 48 (by decide)).2; have q14 := (jv_k (x := 50) 50 (by decide)).1; have q15 := (jv_k (x := 50) 50 (by decide)).2; have q16 := (g_ok_g hI 1 rfl).1; have q17 := (g_ok_g hI 1 rfl).2; have q18 := (g_ok_g hI 2 rfl).1; have q19 := (g_ok_g hI 2 rfl).2; have q20 := (g_ok_g oF19 1 rfl).1; have q21 := (g_ok_g oF19 1 rfl).2; have q22 := (g_ok_g oF19 2 rfl).1; have q23 := (g_ok_g oF19 2 rfl).2; have q24 := (g_ok_g oF77 1 rfl).1; have q25 := (g_ok_g oF77 1 rfl).2; have q26 := (g_ok_g oF77 2 rfl).1; have q27 := (g_ok_g oF77 2 rfl).2; have q28 := p9.1; have q29 := p9.2; have q30 := pr107.1; have q31 := pr107.2; have q32 := p23.1; have q33 := p23.2; have q34 := p73.1; have q35 := p73.2; have q36 := p96.1; have q37 := p96.2; have q38 := p105.1; have q39 := p105.2; have q40 := zx113.2.1; have q41 := zx113.2.2; have q42 := zx115.2.1; have q43 := zx115.2.2; have q44 := zx75.2.1; have q45 := zx75.2.2; have q46 := (@g_here_lt F R); have q47 := zx5; have q48 := (gc_ne zc8); have q49 := (zx4 zc8); have q50 := zx17; have q51 := (gc_ne zc22); have q52 := (congrArg Int32.toInt zx28); have q53 := (@g_here_lt F19 R20); have q54 := (congrArg Int32.toInt (show F19 16 = F 16 from (cF19 16 rfl))); have q55 := (gc_eq zc71); have q56 := (g_eq0 zx75.1); have q57 := (@g_here_lt F77 R20); have q58 := (congrArg Int32.toInt (show F77 15 = x75 from (g_pu1 hF77))); have q59 := (congrArg Int32.toInt (show F77 16 = F 16 from ((g_pu2 hF77 rfl).trans (cF19 16 rfl)))); have q60 := zx83; have q61 := (gc_ne zc93); have q62 := (zx82 zc93); have q63 := (congrArg Int32.toInt zx101); have q64 := (@g_here_lt F77 R20); have q65 := (congrArg Int32.toInt (show F77 15 = x75 from (g_pu1 hF77))); have q66 := (congrArg Int32.toInt (show F77 16 = F 16 from ((g_pu2 hF77 rfl).trans (cF19 16 rfl)))); have q67 := (gc_le zc104); have q68 := (congrArg Int32.toInt zx110); have q69 := (@g_here_lt F77 R20); have q70 := (congrArg Int32.toInt (show F77 15 = x75 from (g_pu1 hF77))); have q71 := (congrArg Int32.toInt (show F77 16 = F 16 from ((g_pu2 hF77 rfl).trans (cF19 16 rfl)))); have q72 := (g_eq0 zx113.1); have q73 := (g_eq0 zx115.1); omega, by have q0 := (g_here_iv F R).1; have q1 := (g_here_iv F R).2; have q2 := (g_here_iv F19 R20).1; have q3 := (g_here_iv F19 R20).2; have q4 := (g_here_iv F77 R20).1; have q5 := (g_here_iv F77 R20).2; have q6 := (jv_k (x := 0) 0 (by decide)).1; have q7 := (jv_k (x := 0) 0 (by decide)).2; have q8 := (jv_k (x := 1) 1 (by decide)).1; have q9 := (jv_k (x := 1) 1 (by decide)).2; have q10 := (jv_k (x := 42) 42 (by decide)).1; have q11 := (jv_k (x := 42) 42 (by decide)).2; have q12 := (jv_k (x := 48) 48 (by decide)).1; have q13 := (jv_k (x := 48) 48 (by decide)).2; have q14 := (jv_k (x := 50) 50 (by decide)).1; have q15 := (jv_k (x := 50) 50 (by decide)).2; have q16 := (g_ok_g hI 1 rfl).1; have q17 := (g_ok_g hI 1 rfl).2; have q18 := (g_ok_g hI 2 rfl).1; have q19 := (g_ok_g hI 2 rfl).2; have q20 := (g_ok_g oF19 1 rfl).1; have q21 := (g_ok_g oF19 1 rfl).2; have q22 := (g_ok_g oF19 2 rfl).1; have q23 := (g_ok_g oF19 2 rfl).2; have q24 := (g_ok_g oF77 1 rfl).1; have q25 := (g_ok_g oF77 1 rfl).2; have q26 := (g_ok_g oF77 2 rfl).1; have q27 := (g_ok_g oF77 2 rfl).2; have q28 := p9.1; have q29 := p9.2; have q30 := pr107.1; have q31 := pr107.2; have q32 := p23.1; have q33 := p23.2; have q34 := p73.1; have q35 := p73.2; have q36 := p96.1; have q37 := p96.2; have q38 := p105.1; have q39 := p105.2; have q40 := zx113.2.1; have q41 := zx113.2.2; have q42 := zx115.2.1; have q43 := zx115.2.2; have q44 := zx75.2.1; have q45 := zx75.2.2; have q46 := (@g_here_lt F R); have q47 := zx5; have q48 := (gc_ne zc8); have q49 := (zx4 zc8); have q50 := zx17; have q51 := (gc_ne zc22); have q52 := (congrArg Int32.toInt zx28); have q53 := (@g_here_lt F19 R20); have q54 := (congrArg Int32.toInt (show F19 16 = F 16 from (cF19 16 rfl))); have q55 := (gc_eq zc71); have q56 := (g_eq0 zx75.1); have q57 := (@g_here_lt F77 R20); have q58 := (congrArg Int32.toInt (show F77 15 = x75 from (g_pu1 hF77))); have q59 := (congrArg Int32.toInt (show F77 16 = F 16 from ((g_pu2 hF77 rfl).trans (cF19 16 rfl)))); have q60 := zx83; have q61 := (gc_ne zc93); have q62 := (zx82 zc93); have q63 := (congrArg Int32.toInt zx101); have q64 := (@g_here_lt F77 R20); have q65 := (congrArg Int32.toInt (show F77 15 = x75 from (g_pu1 hF77))); have q66 := (congrArg Int32.toInt (show F77 16 = F 16 from ((g_pu2 hF77 rfl).trans (cF19 16 rfl)))); have q67 := (gc_le zc104); have q68 := (congrArg Int32.toInt zx110); have q69 := (@g_here_lt F77 R20); have q70 := (congrArg Int32.toInt (show F77 15 = x75 from (g_pu1 hF77))); have q71 := (congrArg Int32.toInt (show F77 16 = F 16 from ((g_pu2 hF77 rfl).trans (cF19 16 rfl)))); have q72 := (g_eq0 zx113.1); have q73 := (g_eq0 zx115.1); omega⟩) rfl
              have fF117 : g_fr md_X11_readsStep F F117 := by rw [hF117]; exact g_fr_u fF77 rfl
              have wTF117 : WT F117 R20 := by rw [hF117]; exact WT_u wTF77 rfl
              have wCF117 : WC F117 R20 := by rw [hF117]; exact WC_u wCF77 rfl
              refine g_lsub [2, 1, 0] [(0, .ref (ad 0)), (1, .int (F 15)), (2, .int x113)] rfl ?_
              exact J115 F117 x113 oF117 fF117 wTF117 wCF117 (jv_w zx113.2 (by decide)) (by have q0 := (g_here_iv F R).1; have q1 := (g_here_iv F R).2; have q2 := (g_here_iv F19 R20).1; have q3 := (g_here_iv F19 R20).2; have q4 := (g_here_iv F77 R20).1; have q5 := (g_here_iv F77 R20).2; have q6 := (jv_k (x := 0) 0 (by decide)).1; have q7 := (jv_k (x := 0) 0 (by decide)).2; have q8 := (jv_k (x := 1) 1 (by decide)).1; have q9 := (jv_k (x := 1) 1 (by decide)).2; have q10 := (jv_k (x := 42) 42 (by decide)).1; have q11 := (jv_k (x := 42) 42 (by decide)).2; have q12 := (jv_k (x := 48) 48 (by decide)).1; have q13 := (jv_k (x := 48) 48 (by decide)).2; have q14 := (jv_k (x := 50) 50 (by decide)).1; have q15 := (jv_k (x := 50) 50 (by decide)).2; have q16 := (g_ok_g hI 1 rfl).1; have q17 := (g_ok_g hI 1 rfl).2; have q18 := (g_ok_g hI 2 rfl).1; have q19 := (g_ok_g hI 2 rfl).2; have q20 := (g_ok_g oF117 1 rfl).1; have q21 := (g_ok_g oF117 1 rfl).2; have q22 := (g_ok_g oF19 1 rfl).1; have q23 := (g_ok_g oF19 1 rfl).2; have q24 := (g_ok_g oF19 2 rfl).1; have q25 := (g_ok_g oF19 2 rfl).2; have q26 := (g_ok_g oF77 1 rfl).1; have q27 := (g_ok_g oF77 1 rfl).2; have q28 := (g_ok_g oF77 2 rfl).1; have q29 := (g_ok_g oF77 2 rfl).2; have q30 := p9.1; have q31 := p9.2; have q32 := pr107.1; have q33 := pr107.2; have q34 := p23.1; have q35 := p23.2; have q36 := p73.1; have q37 := p73.2; have q38 := p96.1; have q39 := p96.2; have q40 := p105.1; have q41 := p105.2; have q42 := zx113.2.1; have q43 := zx113.2.2; have q44 := zx115.2.1; have q45 := zx115.2.2; have q46 := zx75.2.1; have q47 := zx75.2.2; have q48 := (@g_here_lt F R); have q49 := zx5; have q50 := (gc_ne zc8); have q51 := (zx4 zc8); have q52 := zx17; have q53 := (gc_ne zc22); have q54 := (congrArg Int32.toInt zx28); have q55 := (@g_here_lt F19 R20); have q56 := (congrArg Int32.toInt (show F19 16 = F 16 from (cF19 16 rfl))); have q57 := (gc_eq zc71); have q58 := (g_eq0 zx75.1); have q59 := (@g_here_lt F77 R20); have q60 := (congrArg Int32.toInt (show F77 15 = x75 from (g_pu1 hF77))); have q61 := (congrArg Int32.toInt (show F77 16 = F 16 from ((g_pu2 hF77 rfl).trans (cF19 16 rfl)))); have q62 := zx83; have q63 := (gc_ne zc93); have q64 := (zx82 zc93); have q65 := (congrArg Int32.toInt zx101); have q66 := (@g_here_lt F77 R20); have q67 := (congrArg Int32.toInt (show F77 15 = x75 from (g_pu1 hF77))); have q68 := (congrArg Int32.toInt (show F77 16 = F 16 from ((g_pu2 hF77 rfl).trans (cF19 16 rfl)))); have q69 := (gc_le zc104); have q70 := (congrArg Int32.toInt zx110); have q71 := (@g_here_lt F77 R20); have q72 := (congrArg Int32.toInt (show F77 15 = x75 from (g_pu1 hF77))); have q73 := (congrArg Int32.toInt (show F77 16 = F 16 from ((g_pu2 hF77 rfl).trans (cF19 16 rfl)))); have q74 := (g_eq0 zx113.1); have q75 := (g_eq0 zx115.1); have q76 := (congrArg Int32.toInt (show F117 15 = x115 from (g_pu1 hF117))); have q77 := (congrArg Int32.toInt (show F117 15 = x115 from (g_pu1 hF117))); omega) (by have q0 := (g_here_iv F R).1; have q1 := (g_here_iv F R).2; have q2 := (g_here_iv F19 R20).1; have q3 := (g_here_iv F19 R20).2; have q4 := (g_here_iv F77 R20).1; have q5 := (g_here_iv F77 R20).2; have q6 := (jv_k (x := 0) 0 (by decide)).1; have q7 := (jv_k (x := 0) 0 (by decide)).2; have q8 := (jv_k (x := 1) 1 (by decide)).1; have q9 := (jv_k (x := 1) 1 (by decide)).2; have q10 := (jv_k (x := 42) 42 (by decide)).1; have q11 := (jv_k (x := 42) 42 (by decide)).2; have q12 := (jv_k (x := 48) 48 (by decide)).1; have q13 := (jv_k (x := 48) 48 (by decide)).2; have q14 := (jv_k (x := 50) 50 (by decide)).1; have q15 := (jv_k (x := 50) 50 (by decide)).2; have q16 := (g_ok_g hI 1 rfl).1; have q17 := (g_ok_g hI 1 rfl).2; have q18 := (g_ok_g hI 2 rfl).1; have q19 := (g_ok_g hI 2 rfl).2; have q20 := (g_ok_g oF117 1 rfl).1; have q21 := (g_ok_g oF117 1 rfl).2; have q22 := (g_ok_g oF19 1 rfl).1; have q23 := (g_ok_g oF19 1 rfl).2; have q24 := (g_ok_g oF19 2 rfl).1; have q25 := (g_ok_g oF19 2 rfl).2; have q26 := (g_ok_g oF77 1 rfl).1; have q27 := (g_ok_g oF77 1 rfl).2; have q28 := (g_ok_g oF77 2 rfl).1; have q29 := (g_ok_g oF77 2 rfl).2; have q30 := p9.1; have q31 := p9.2; have q32 := pr107.1; have q33 := pr107.2; have q34 := p23.1; have q35 := p23.2; have q36 := p73.1; have q37 := p73.2; have q38 := p96.1; have q39 := p96.2; have q40 := p105.1; have q41 := p105.2; have q42 := zx113.2.1; have q43 := zx113.2.2; have q44 := zx115.2.1; have q45 := zx115.2.2; have q46 := zx75.2.1; have q47 := zx75.2.2; have q48 := (@g_here_lt F R); have q49 := zx5; have q50 := (gc_ne zc8); have q51 := (zx4 zc8); have q52 := zx17; have q53 := (gc_ne zc22); have q54 := (congrArg Int32.toInt zx28); have q55 := (@g_here_lt F19 R20); have q56 := (congrArg Int32.toInt (show F19 16 = F 16 from (cF19 16 rfl))); have q57 := (gc_eq zc71); have q58 := (g_eq0 zx75.1); have q59 := (@g_here_lt F77 R20); have q60 := (congrArg Int32.toInt (show F77 15 = x75 from (g_pu1 hF77))); have q61 := (congrArg Int32.toInt (show F77 16 = F 16 from ((g_pu2 hF77 rfl).trans (cF19 16 rfl)))); have q62 := zx83; have q63 := (gc_ne zc93); have q64 := (zx82 zc93); have q65 := (congrArg Int32.toInt zx101); have q66 := (@g_here_lt F77 R20); have q67 := (congrArg Int32.toInt (show F77 15 = x75 from (g_pu1 hF77))); have q68 := (congrArg Int32.toInt (show F77 16 = F 16 from ((g_pu2 hF77 rfl).trans (cF19 16 rfl)))); have q69 := (gc_le zc104); have q70 := (congrArg Int32.toInt zx110); have q71 := (@g_here_lt F77 R20); have q72 := (congrArg Int32.toInt (show F77 15 = x75 from (g_pu1 hF77))); have q73 := (congrArg Int32.toInt (show F77 16 = F 16 from ((g_pu2 hF77 rfl).trans (cF19 16 rfl)))); have q74 := (g_eq0 zx113.1); have q75 := (g_eq0 zx115.1); have q76 := (congrArg Int32.toInt (show F117 15 = x115 from (g_pu1 hF117))); have q77 := (congrArg Int32.toInt (show F117 15 = x115 from (g_pu1 hF117))); omega) (by have q0 := (jv_k (x := 20) 20 (by decide)).1; have q1 := (jv_k (x := 20) 20 (by decide)).2; have q2 := p12.1; have q3 := p12.2; have q4 := (g_ok_g oF117 5 rfl).1; have q5 := (g_ok_g oF117 5 rfl).2; have q6 := (gc_ne zc11); have q7 := (congrArg Int32.toInt (show F117 21 = F 21 from (((g_pu2 hF117 rfl).trans (g_pu2 hF77 rfl)).trans (cF19 21 rfl)))); omega) hk118
            · have p119 := gn_lt (-1) 49 (gc_nle zc104) pr98 (jv_k (x := 50) 50 (by decide)) (by decide)
              have hk120 := hk103.trans (if_neg zc104)
              refine g_lsub [2] [(0, .ref (ad 0))] rfl ?_
              exact J87  (by have q0 := (g_here_iv F R).1; have q1 := (g_here_iv F R).2; have q2 := (g_here_iv F19 R20).1; have q3 := (g_here_iv F19 R20).2; have q4 := (g_here_iv F77 R20).1; have q5 := (g_here_iv F77 R20).2; have q6 := (jv_k (x := 0) 0 (by decide)).1; have q7 := (jv_k (x := 0) 0 (by decide)).2; have q8 := (jv_k (x := 1) 1 (by decide)).1; have q9 := (jv_k (x := 1) 1 (by decide)).2; have q10 := (jv_k (x := 42) 42 (by decide)).1; have q11 := (jv_k (x := 42) 42 (by decide)).2; have q12 := (jv_k (x := 50) 50 (by decide)).1; have q13 := (jv_k (x := 50) 50 (by decide)).2; have q14 := (g_ok_g hI 1 rfl).1; have q15 := (g_ok_g hI 1 rfl).2; have q16 := (g_ok_g hI 2 rfl).1; have q17 := (g_ok_g hI 2 rfl).2; have q18 := (g_ok_g oF19 1 rfl).1; have q19 := (g_ok_g oF19 1 rfl).2; have q20 := (g_ok_g oF19 2 rfl).1; have q21 := (g_ok_g oF19 2 rfl).2; have q22 := (g_ok_g oF77 1 rfl).1; have q23 := (g_ok_g oF77 1 rfl).2; have q24 := (g_ok_g oF77 2 rfl).1; have q25 := (g_ok_g oF77 2 rfl).2; have q26 := p9.1; have q27 := p9.2; have q28 := p23.1; have q29 := p23.2; have q30 := p73.1; have q31 := p73.2; have q32 := p96.1; have q33 := p96.2; have q34 := p119.1; have q35 := p119.2; have q36 := zx75.2.1; have q37 := zx75.2.2; have q38 := (@g_here_lt F R); have q39 := zx5; have q40 := (gc_ne zc8); have q41 := (zx4 zc8); have q42 := zx17; have q43 := (gc_ne zc22); have q44 := (congrArg Int32.toInt zx28); have q45 := (@g_here_lt F19 R20); have q46 := (congrArg Int32.toInt (show F19 16 = F 16 from (cF19 16 rfl))); have q47 := (gc_eq zc71); have q48 := (g_eq0 zx75.1); have q49 := (@g_here_lt F77 R20); have q50 := (congrArg Int32.toInt (show F77 15 = x75 from (g_pu1 hF77))); have q51 := (congrArg Int32.toInt (show F77 16 = F 16 from ((g_pu2 hF77 rfl).trans (cF19 16 rfl)))); have q52 := zx83; have q53 := (gc_ne zc93); have q54 := (zx82 zc93); have q55 := (congrArg Int32.toInt zx101); have q56 := (@g_here_lt F77 R20); have q57 := (congrArg Int32.toInt (show F77 15 = x75 from (g_pu1 hF77))); have q58 := (congrArg Int32.toInt (show F77 16 = F 16 from ((g_pu2 hF77 rfl).trans (cF19 16 rfl)))); have q59 := (gc_nle zc104); have q60 := (congrArg Int32.toInt (show F77 15 = x75 from (g_pu1 hF77))); have q61 := (congrArg Int32.toInt (show F77 15 = x75 from (g_pu1 hF77))); omega) (by have q0 := (jv_k (x := 20) 20 (by decide)).1; have q1 := (jv_k (x := 20) 20 (by decide)).2; have q2 := p12.1; have q3 := p12.2; have q4 := (g_ok_g oF77 5 rfl).1; have q5 := (g_ok_g oF77 5 rfl).2; have q6 := (gc_ne zc11); have q7 := (congrArg Int32.toInt (show F77 21 = F 21 from ((g_pu2 hF77 rfl).trans (cF19 21 rfl)))); omega) hk120
      · have p121 := gn_eq 0 0 (gc_eq zc22) pr14 (jv_k (x := 0) 0 (by decide)) (by decide)
        have hk122 := hk21.trans (if_pos zc22)
        refine g_iconst cx 0 (by decide) e_X11_readsStep_48 ?_
        exact hret e_X11_readsStep_49 (Nat.le_of_ble_eq_true rfl) (Nat.le_of_ble_eq_true rfl) rfl ⟨F19, R20, rfl, oF19, oR20, wTF19, wCF19, fF19, fR20, (jv_w (jv_k (x := 0) 0 (by decide)) (by decide)), (by have q0 := (g_here_iv F R).1; have q1 := (g_here_iv F R).2; have q2 := (jv_k (x := 0) 0 (by decide)).1; have q3 := (jv_k (x := 0) 0 (by decide)).2; have q4 := (g_ok_g hI 1 rfl).1; have q5 := (g_ok_g hI 1 rfl).2; have q6 := (g_ok_g hI 2 rfl).1; have q7 := (g_ok_g hI 2 rfl).2; have q8 := (g_ok_g oF19 1 rfl).1; have q9 := (g_ok_g oF19 1 rfl).2; have q10 := p9.1; have q11 := p9.2; have q12 := p121.1; have q13 := p121.2; have q14 := (@g_here_lt F R); have q15 := zx5; have q16 := (gc_ne zc8); have q17 := (zx4 zc8); have q18 := zx17; have q19 := (gc_eq zc22); omega), (hk122.symm.trans hSP)⟩
    · have p123 := gn_eq 20 20 (gc_eq zc11) (g_ok_g hI 5 rfl) (jv_k (x := 20) 20 (by decide)) (by decide)
      have hk124 := hk10.trans (if_pos zc11)
      refine g_aload_n cx 0 rfl e_X11_readsStep_26 ?_
      refine g_iconst cx 4 (by decide) e_X11_readsStep_27 ?_
      refine g_aload_n cx 0 rfl e_X11_readsStep_28 ?_
      refine g_get cx cl_X11 fl_X11_190 0 (.int (F 15)) e_X11_readsStep_29 rfl rfl ?_
      refine g_cViW cx [.int 4, .int (F 15)] [] (w_X11_wrongAt l X ad F R hI hA hWT hWC 4 (F 15)) ml_X11_204 yV_X11_wrongAt e_X11_readsStep_32 (by unfold g_rr; decide) (by decide) 0 rfl rfl rfl (Nat.le_of_ble_eq_true rfl) (fun r125 w126 h127 => ?_)
      obtain ⟨F129, R130, rfl, oF129, oR130, wTF129, wCF129, cF129, cR130, pr125, hx128⟩ := h127
      have hk131 := k_ls3 hk124 hx128
      have fF129 : g_fr md_X11_readsStep F F129 := g_fr_c (g_fr_rf F) cF129 rfl
      have fR130 : g_fr mr_X11_readsStep R R130 := g_fr_c (g_fr_rf R) cR130 rfl
      exact hret e_X11_readsStep_35 (Nat.le_of_ble_eq_true rfl) (Nat.le_of_ble_eq_true rfl) (g_narb (jv_w pr125 (by decide))) ⟨F129, R130, rfl, oF129, oR130, wTF129, wCF129, fF129, fR130, (jv_w pr125 (by decide)), (by have q0 := (g_here_iv F R).1; have q1 := (g_here_iv F R).2; have q2 := (jv_k (x := 0) 0 (by decide)).1; have q3 := (jv_k (x := 0) 0 (by decide)).2; have q4 := (g_ok_g hI 1 rfl).1; have q5 := (g_ok_g hI 1 rfl).2; have q6 := (g_ok_g hI 2 rfl).1; have q7 := (g_ok_g hI 2 rfl).2; have q8 := (g_ok_g oF129 1 rfl).1; have q9 := (g_ok_g oF129 1 rfl).2; have q10 := p9.1; have q11 := p9.2; have q12 := (@g_here_lt F R); have q13 := zx5; have q14 := (gc_ne zc8); have q15 := (zx4 zc8); have q16 := (congrArg Int32.toInt (show F129 15 = F 15 from (cF129 15 rfl))); omega), (hk131.symm.trans hSP)⟩
  · have p132 := gn_eq 0 0 (gc_eq zc8) pr1 (jv_k (x := 0) 0 (by decide)) (by decide)
    have hk133 := hk7.trans (if_pos zc8)
    refine g_aload_n cx 0 rfl e_X11_readsStep_7 ?_
    refine g_iconst cx 1 (by decide) e_X11_readsStep_8 ?_
    refine g_aload_n cx 0 rfl e_X11_readsStep_9 ?_
    refine g_get cx cl_X11 fl_X11_190 0 (.int (F 15)) e_X11_readsStep_10 rfl rfl ?_
    refine g_cViW cx [.int 1, .int (F 15)] [] (w_X11_wrongAt l X ad F R hI hA hWT hWC 1 (F 15)) ml_X11_204 yV_X11_wrongAt e_X11_readsStep_13 (by unfold g_rr; decide) (by decide) 0 rfl rfl rfl (Nat.le_of_ble_eq_true rfl) (fun r134 w135 h136 => ?_)
    obtain ⟨F138, R139, rfl, oF138, oR139, wTF138, wCF138, cF138, cR139, pr134, hx137⟩ := h136
    have hk140 := k_ls3 hk133 hx137
    have fF138 : g_fr md_X11_readsStep F F138 := g_fr_c (g_fr_rf F) cF138 rfl
    have fR139 : g_fr mr_X11_readsStep R R139 := g_fr_c (g_fr_rf R) cR139 rfl
    exact hret e_X11_readsStep_16 (Nat.le_of_ble_eq_true rfl) (Nat.le_of_ble_eq_true rfl) (g_narb (jv_w pr134 (by decide))) ⟨F138, R139, rfl, oF138, oR139, wTF138, wCF138, fF138, fR139, (jv_w pr134 (by decide)), (by have q0 := (g_here_iv F R).1; have q1 := (g_here_iv F R).2; have q2 := (jv_k (x := 0) 0 (by decide)).1; have q3 := (jv_k (x := 0) 0 (by decide)).2; have q4 := (g_ok_g hI 1 rfl).1; have q5 := (g_ok_g hI 1 rfl).2; have q6 := (g_ok_g hI 2 rfl).1; have q7 := (g_ok_g hI 2 rfl).2; have q8 := (g_ok_g oF138 1 rfl).1; have q9 := (g_ok_g oF138 1 rfl).2; have q10 := p132.1; have q11 := p132.2; have q12 := (@g_here_lt F R); have q13 := zx5; have q14 := (gc_eq zc8); have q15 := (congrArg Int32.toInt (show F138 15 = F 15 from (cF138 15 rfl))); omega), (hk140.symm.trans hSP)⟩
def sp_X11_takes (F : Nat → Int32) (R : Nat → Nat → Int32) (a0 : Int32) : Int32 × (Nat → Int32) × (Nat → Nat → Int32) :=
  k_lt (sp_X11_here F R) (fun r1 => if r1 = a0 then k_lt ((F 15) + 1) (fun x10 => k_lt (upd F 15 x10) (fun F12 => (1, F12, R))) else k_lt3 (sp_X11_wrongAt F R 1 (F 15)) (fun r15 F19 R20 => (r15, F19, R20)))
theorem e_X11_takes_0 : g_dc cX11_takes 0 (.aload_n 0) 1 1 := ⟨by decide +kernel, rfl⟩
theorem e_X11_takes_1 : g_dc cX11_takes 1 (.invokevirtual 200) 3 4 := ⟨by decide +kernel, rfl⟩
theorem e_X11_takes_4 : g_dc cX11_takes 4 (.iload_n 1) 1 5 := ⟨by decide +kernel, rfl⟩
theorem e_X11_takes_5 : g_dc cX11_takes 5 (.if_icmp .eq 13) 3 8 := ⟨by decide +kernel, rfl⟩
theorem e_X11_takes_8 : g_dc cX11_takes 8 (.aload_n 0) 1 9 := ⟨by decide +kernel, rfl⟩
theorem e_X11_takes_9 : g_dc cX11_takes 9 (.iconst 1) 1 10 := ⟨by decide +kernel, rfl⟩
theorem e_X11_takes_10 : g_dc cX11_takes 10 (.aload_n 0) 1 11 := ⟨by decide +kernel, rfl⟩
theorem e_X11_takes_11 : g_dc cX11_takes 11 (.getfield 190) 3 14 := ⟨by decide +kernel, rfl⟩
theorem e_X11_takes_14 : g_dc cX11_takes 14 (.invokevirtual 204) 3 17 := ⟨by decide +kernel, rfl⟩
theorem e_X11_takes_17 : g_dc cX11_takes 17 (.ireturn) 1 18 := ⟨by decide +kernel, rfl⟩
theorem e_X11_takes_18 : g_dc cX11_takes 18 (.aload_n 0) 1 19 := ⟨by decide +kernel, rfl⟩
theorem e_X11_takes_19 : g_dc cX11_takes 19 (.aload_n 0) 1 20 := ⟨by decide +kernel, rfl⟩
theorem e_X11_takes_20 : g_dc cX11_takes 20 (.getfield 190) 3 23 := ⟨by decide +kernel, rfl⟩
theorem e_X11_takes_23 : g_dc cX11_takes 23 (.iconst 1) 1 24 := ⟨by decide +kernel, rfl⟩
theorem e_X11_takes_24 : g_dc cX11_takes 24 (.iadd) 1 25 := ⟨by decide +kernel, rfl⟩
theorem e_X11_takes_25 : g_dc cX11_takes 25 (.putfield 190) 3 28 := ⟨by decide +kernel, rfl⟩
theorem e_X11_takes_28 : g_dc cX11_takes 28 (.iconst 1) 1 29 := ⟨by decide +kernel, rfl⟩
theorem e_X11_takes_29 : g_dc cX11_takes 29 (.ireturn) 1 30 := ⟨by decide +kernel, rfl⟩
def md_X11_takes : List Nat := [15, 17]
def mr_X11_takes : List Nat := []
set_option maxHeartbeats 4000000 in
set_option maxRecDepth 100000 in
theorem w_X11_takes (l : Launch) (X : gX) (ad : Nat → Nat) (F : Nat → Int32) (R : Nat → Nat → Int32) (hI : g_ok LK_wM F) (hA : g_okR LA_wM R) (hWT : WT F R) (hWC : WC F R) (a0 : Int32) (pa0 : jv 0 127 a0) : g_Ci l X yX11_takes cX11_takes 2 (some .boolean) 2 0 0 [.ref (ad 0), .int a0] (wM X ad F R) (fun r w => ∃ (F' : Nat → Int32) (R' : Nat → Nat → Int32), w = wM X ad F' R' ∧ g_ok LK_wM F' ∧ g_okR LA_wM R' ∧ WT F' R' ∧ WC F' R' ∧ g_fr md_X11_takes F F' ∧ g_fr mr_X11_takes R R' ∧ jv 0 1 r ∧ (F 15).toInt ≤ (F' 15).toInt ∧ (¬ r = 0 → (F' 15).toInt = (F 15).toInt + 1) ∧ (r, F', R') = sp_X11_takes F R a0) := by
  refine g_mi (by decide +kernel) (Nat.le_of_ble_eq_true rfl) (fun E cx hret => ?_)
  obtain ⟨SP, hSP⟩ : ∃ z, z = sp_X11_takes F R a0 := ⟨_, rfl⟩
  have hk0 := hSP
  unfold sp_X11_takes at hk0
  refine g_aload_n cx 0 rfl e_X11_takes_0 ?_
  refine g_cViW cx [] [] (w_X11_here l X ad F R hI hA hWT hWC) ml_X11_200 yV_X11_here e_X11_takes_1 (by unfold g_rr; decide) (by decide) 0 rfl rfl rfl (Nat.le_of_ble_eq_true rfl) (fun r1 w2 h3 => ?_)
  obtain ⟨rfl, pr1, zx4, hx5⟩ := h3
  have hk6 := k_ls hk0 hx5
  refine g_iload_n cx 1 rfl e_X11_takes_4 ?_
  refine g_icmp_eq cx 18 e_X11_takes_5 (by decide) (fun zc7 => ?_) (fun zc7 => ?_)
  · have p8 := gn_eq 0 127 (gc_eq zc7) pr1 pa0 (by decide)
    have hk9 := hk6.trans (if_pos zc7)
    refine g_aload_n cx 0 rfl e_X11_takes_18 ?_
    refine g_aload_n cx 0 rfl e_X11_takes_19 ?_
    refine g_get cx cl_X11 fl_X11_190 0 (.int (F 15)) e_X11_takes_20 rfl rfl ?_
    refine g_iconst cx 1 (by decide) e_X11_takes_23 ?_
    refine g_iadd cx e_X11_takes_24 ?_
    refine g_topi (fun x10 ex10 => ?_)
    have hk11 := k_ls hk9 ex10
    have zx10 := jv_add 1 221 ex10 (g_ok_g hI 1 rfl) (jv_k (x := 1) 1 (by decide)) (by decide)
    refine g_put cx cl_X11 fl_X11_190 0 (wM X ad (upd F 15 x10) R) e_X11_takes_25 rfl rfl rfl rfl (Nat.le_of_ble_eq_true rfl) rfl ?_
    obtain ⟨F12, hF12⟩ : ∃ z, z = upd F 15 x10 := ⟨_, rfl⟩
    rw [← hF12]
    have hk13 := k_ls hk11 hF12
    have oF12 : g_ok LK_wM F12 := by rw [hF12]; exact g_ok_p hI (show jv 0 220 _ from ⟨by have q0 := (g_here_iv F R).1; have q1 := (g_here_iv F R).2; have q2 := (jv_k (x := 1) 1 (by decide)).1; have q3 := (jv_k (x := 1) 1 (by decide)).2; have q4 := (g_ok_g hI 1 rfl).1; have q5 := (g_ok_g hI 1 rfl).2; have q6 := (g_ok_g hI 2 rfl).1; have q7 := (g_ok_g hI 2 rfl).2; have q8 := pa0.1; have q9 := pa0.2; have q10 := p8.1; have q11 := p8.2; have q12 := zx10.2.1; have q13 := zx10.2.2; have q14 := (congrArg Int32.toInt zx4); have q15 := (@g_here_lt F R); have q16 := (gc_eq zc7); have q17 := (g_eq0 zx10.1); omega, by have q0 := (g_here_iv F R).1; have q1 := (g_here_iv F R).2; have q2 := (jv_k (x := 1) 1 (by decide)).1; have q3 := (jv_k (x := 1) 1 (by decide)).2; have q4 := (g_ok_g hI 1 rfl).1; have q5 := (g_ok_g hI 1 rfl).2; have q6 := (g_ok_g hI 2 rfl).1; have q7 := (g_ok_g hI 2 rfl).2; have q8 := pa0.1; have q9 := pa0.2; have q10 := p8.1; have q11 := p8.2; have q12 := zx10.2.1; have q13 := zx10.2.2; have q14 := (congrArg Int32.toInt zx4); have q15 := (@g_here_lt F R); have q16 := (gc_eq zc7); have q17 := (g_eq0 zx10.1); omega⟩) rfl
    have fF12 : g_fr md_X11_takes F F12 := by rw [hF12]; exact g_fr_u (g_fr_rf F) rfl
    have wTF12 : WT F12 R := by rw [hF12]; exact WT_u hWT rfl
    have wCF12 : WC F12 R := by rw [hF12]; exact WC_u hWC rfl
    refine g_iconst cx 1 (by decide) e_X11_takes_28 ?_
    exact hret e_X11_takes_29 (Nat.le_of_ble_eq_true rfl) (Nat.le_of_ble_eq_true rfl) rfl ⟨F12, R, rfl, oF12, hA, wTF12, wCF12, fF12, (g_fr_rf R), (jv_w (jv_k (x := 1) 1 (by decide)) (by decide)), (by have q0 := (g_here_iv F R).1; have q1 := (g_here_iv F R).2; have q2 := (jv_k (x := 1) 1 (by decide)).1; have q3 := (jv_k (x := 1) 1 (by decide)).2; have q4 := (g_ok_g hI 1 rfl).1; have q5 := (g_ok_g hI 1 rfl).2; have q6 := (g_ok_g hI 2 rfl).1; have q7 := (g_ok_g hI 2 rfl).2; have q8 := (g_ok_g oF12 1 rfl).1; have q9 := (g_ok_g oF12 1 rfl).2; have q10 := pa0.1; have q11 := pa0.2; have q12 := p8.1; have q13 := p8.2; have q14 := zx10.2.1; have q15 := zx10.2.2; have q16 := (congrArg Int32.toInt zx4); have q17 := (@g_here_lt F R); have q18 := (gc_eq zc7); have q19 := (g_eq0 zx10.1); have q20 := (congrArg Int32.toInt (show F12 15 = x10 from (g_pu1 hF12))); omega), (fun _ => by have q0 := (g_here_iv F R).1; have q1 := (g_here_iv F R).2; have q2 := (jv_k (x := 1) 1 (by decide)).1; have q3 := (jv_k (x := 1) 1 (by decide)).2; have q4 := (g_ok_g hI 1 rfl).1; have q5 := (g_ok_g hI 1 rfl).2; have q6 := (g_ok_g hI 2 rfl).1; have q7 := (g_ok_g hI 2 rfl).2; have q8 := (g_ok_g oF12 1 rfl).1; have q9 := (g_ok_g oF12 1 rfl).2; have q10 := pa0.1; have q11 := pa0.2; have q12 := p8.1; have q13 := p8.2; have q14 := zx10.2.1; have q15 := zx10.2.2; have q16 := (congrArg Int32.toInt zx4); have q17 := (@g_here_lt F R); have q18 := (gc_eq zc7); have q19 := (g_eq0 zx10.1); have q20 := (congrArg Int32.toInt (show F12 15 = x10 from (g_pu1 hF12))); have q21 := (congrArg Int32.toInt (show F12 15 = x10 from (g_pu1 hF12))); omega), (hk13.symm.trans hSP)⟩
  · have hk14 := hk6.trans (if_neg zc7)
    refine g_aload_n cx 0 rfl e_X11_takes_8 ?_
    refine g_iconst cx 1 (by decide) e_X11_takes_9 ?_
    refine g_aload_n cx 0 rfl e_X11_takes_10 ?_
    refine g_get cx cl_X11 fl_X11_190 0 (.int (F 15)) e_X11_takes_11 rfl rfl ?_
    refine g_cViW cx [.int 1, .int (F 15)] [] (w_X11_wrongAt l X ad F R hI hA hWT hWC 1 (F 15)) ml_X11_204 yV_X11_wrongAt e_X11_takes_14 (by unfold g_rr; decide) (by decide) 0 rfl rfl rfl (Nat.le_of_ble_eq_true rfl) (fun r15 w16 h17 => ?_)
    obtain ⟨F19, R20, rfl, oF19, oR20, wTF19, wCF19, cF19, cR20, pr15, hx18⟩ := h17
    have hk21 := k_ls3 hk14 hx18
    have fF19 : g_fr md_X11_takes F F19 := g_fr_c (g_fr_rf F) cF19 rfl
    have fR20 : g_fr mr_X11_takes R R20 := g_fr_c (g_fr_rf R) cR20 rfl
    exact hret e_X11_takes_17 (Nat.le_of_ble_eq_true rfl) (Nat.le_of_ble_eq_true rfl) (g_narb (jv_w pr15 (by decide))) ⟨F19, R20, rfl, oF19, oR20, wTF19, wCF19, fF19, fR20, (jv_w pr15 (by decide)), (by have q0 := (g_here_iv F R).1; have q1 := (g_here_iv F R).2; have q2 := (g_ok_g hI 1 rfl).1; have q3 := (g_ok_g hI 1 rfl).2; have q4 := (g_ok_g hI 2 rfl).1; have q5 := (g_ok_g hI 2 rfl).2; have q6 := (g_ok_g oF19 1 rfl).1; have q7 := (g_ok_g oF19 1 rfl).2; have q8 := pa0.1; have q9 := pa0.2; have q10 := pr1.1; have q11 := pr1.2; have q12 := (congrArg Int32.toInt zx4); have q13 := (@g_here_lt F R); have q14 := (gc_ne zc7); have q15 := (congrArg Int32.toInt (show F19 15 = F 15 from (cF19 15 rfl))); omega), (fun h => absurd h (by have q := pr15; exact not_not_intro (jv_c 0 q (by decide)))), (hk21.symm.trans hSP)⟩
def K_X11_pull_18 (F : Nat → Int32) (R : Nat → Nat → Int32)  : Int32 × (Nat → Int32) × (Nat → Nat → Int32) :=
  ((-1), F, R)
def KB_X11_pull_109 (b109 : (Nat → Nat → Int32) → (Int32) → Int32 × (Nat → Int32) × (Nat → Nat → Int32)) (F31 : Nat → Int32) (F38 : Nat → Int32) (R41 : Nat → Nat → Int32) (y40 : Int32) : Int32 × (Nat → Int32) × (Nat → Nat → Int32) :=
  if (F31 20) ≤ y40 then (F31 20, F38, R41) else k_lt (R41 11 (Int32.toNatClampNeg y40)) (fun x47 => k_lt (g_u R41 10 (upd (R41 10) (Int32.toNatClampNeg y40) x47)) (fun R49 => k_lt (y40 + 1) (fun x51 => b109 R49 x51)))
def K_X11_pull_109 (F31 : Nat → Int32) (F38 : Nat → Int32) : Nat → (Nat → Nat → Int32) → (Int32) → Int32 × (Nat → Int32) × (Nat → Nat → Int32)
  | 0 => fun R41 _ => (0, F38, R41)
  | n + 1 => KB_X11_pull_109 (K_X11_pull_109 F31 F38 n) F31 F38
def K_X11_pull_85 (F31 : Nat → Int32) (R32 : Nat → Nat → Int32) (y30 : Int32)  : Int32 × (Nat → Int32) × (Nat → Nat → Int32) :=
  k_lt (upd F31 14 0) (fun F33 => if y30 = 0 then (F31 17, F33, R32) else k_lt (upd F33 19 (F31 20)) (fun F38 => K_X11_pull_109 F31 F38 8589934592 R32 0))
def K_X11_pull_81 (b45 : (Nat → Int32) → (Nat → Nat → Int32) → (Int32) → Int32 × (Nat → Int32) × (Nat → Nat → Int32)) (F75 : Nat → Int32) (R76 : Nat → Nat → Int32) (y74 : Int32) : Int32 × (Nat → Int32) × (Nat → Nat → Int32) :=
  b45 F75 R76 y74
def K_X11_pull_80 (b45 : (Nat → Int32) → (Nat → Nat → Int32) → (Int32) → Int32 × (Nat → Int32) × (Nat → Nat → Int32)) (F77 : Nat → Int32) (R78 : Nat → Nat → Int32) : Int32 × (Nat → Int32) × (Nat → Nat → Int32) :=
  K_X11_pull_81 b45 F77 R78 0
def KB_X11_pull_45 (b45 : (Nat → Int32) → (Nat → Nat → Int32) → (Int32) → Int32 × (Nat → Int32) × (Nat → Nat → Int32))  (F31 : Nat → Int32) (R32 : Nat → Nat → Int32) (y30 : Int32) : Int32 × (Nat → Int32) × (Nat → Nat → Int32) :=
  if y30 = 0 then K_X11_pull_85 F31 R32 y30 else if (F31 16) ≤ (F31 15) then K_X11_pull_85 F31 R32 y30 else k_lt3 (sp_X11_takes F31 R32 44) (fun r65 F71 R72 => if r65 = 0 then K_X11_pull_80 b45 F71 R72 else k_lt3 (sp_X11_readsStep F71 R72) (fun r84 F89 R90 => if r84 = 0 then K_X11_pull_80 b45 F89 R90 else K_X11_pull_81 b45 F89 R90 1))
def K_X11_pull_45  : Nat → (Nat → Int32) → (Nat → Nat → Int32) → (Int32) → Int32 × (Nat → Int32) × (Nat → Nat → Int32)
  | 0 => fun F31 R32 _ => (0, F31, R32)
  | n + 1 => KB_X11_pull_45 (K_X11_pull_45 n)
def sp_X11_pull (F : Nat → Int32) (R : Nat → Nat → Int32) (a0 : Int32) : Int32 × (Nat → Int32) × (Nat → Nat → Int32) :=
  k_lt (g_in a0 1 120) (fun r1 => if r1 = 0 then K_X11_pull_18 F R else if a0 ≤ (F 14) then k_lt (upd F 15 0) (fun F14 => k_lt (upd F14 16 a0) (fun F16 => k_lt (upd F16 20 0) (fun F18 => k_lt (upd F18 21 0) (fun F20 => k_lt3 (sp_X11_readsStep F20 R) (fun r22 F27 R28 => K_X11_pull_45 8589934592 F27 R28 r22))))) else K_X11_pull_18 F R)
theorem e_X11_pull_0 : g_dc cX11_pull 0 (.iload_n 1) 1 1 := ⟨by decide +kernel, rfl⟩
theorem e_X11_pull_1 : g_dc cX11_pull 1 (.iconst 1) 1 2 := ⟨by decide +kernel, rfl⟩
theorem e_X11_pull_2 : g_dc cX11_pull 2 (.bipush 120) 2 4 := ⟨by decide +kernel, rfl⟩
theorem e_X11_pull_4 : g_dc cX11_pull 4 (.invokestatic 165) 3 7 := ⟨by decide +kernel, rfl⟩
theorem e_X11_pull_7 : g_dc cX11_pull 7 (.ifCond .eq 11) 3 10 := ⟨by decide +kernel, rfl⟩
theorem e_X11_pull_10 : g_dc cX11_pull 10 (.iload_n 1) 1 11 := ⟨by decide +kernel, rfl⟩
theorem e_X11_pull_11 : g_dc cX11_pull 11 (.aload_n 0) 1 12 := ⟨by decide +kernel, rfl⟩
theorem e_X11_pull_12 : g_dc cX11_pull 12 (.getfield 183) 3 15 := ⟨by decide +kernel, rfl⟩
theorem e_X11_pull_15 : g_dc cX11_pull 15 (.if_icmp .le 5) 3 18 := ⟨by decide +kernel, rfl⟩
theorem e_X11_pull_18 : g_dc cX11_pull 18 (.iconst (-1)) 1 19 := ⟨by decide +kernel, rfl⟩
theorem e_X11_pull_19 : g_dc cX11_pull 19 (.ireturn) 1 20 := ⟨by decide +kernel, rfl⟩
theorem e_X11_pull_20 : g_dc cX11_pull 20 (.aload_n 0) 1 21 := ⟨by decide +kernel, rfl⟩
theorem e_X11_pull_21 : g_dc cX11_pull 21 (.iconst 0) 1 22 := ⟨by decide +kernel, rfl⟩
theorem e_X11_pull_22 : g_dc cX11_pull 22 (.putfield 190) 3 25 := ⟨by decide +kernel, rfl⟩
theorem e_X11_pull_25 : g_dc cX11_pull 25 (.aload_n 0) 1 26 := ⟨by decide +kernel, rfl⟩
theorem e_X11_pull_26 : g_dc cX11_pull 26 (.iload_n 1) 1 27 := ⟨by decide +kernel, rfl⟩
theorem e_X11_pull_27 : g_dc cX11_pull 27 (.putfield 216) 3 30 := ⟨by decide +kernel, rfl⟩
theorem e_X11_pull_30 : g_dc cX11_pull 30 (.aload_n 0) 1 31 := ⟨by decide +kernel, rfl⟩
theorem e_X11_pull_31 : g_dc cX11_pull 31 (.iconst 0) 1 32 := ⟨by decide +kernel, rfl⟩
theorem e_X11_pull_32 : g_dc cX11_pull 32 (.putfield 213) 3 35 := ⟨by decide +kernel, rfl⟩
theorem e_X11_pull_35 : g_dc cX11_pull 35 (.aload_n 0) 1 36 := ⟨by decide +kernel, rfl⟩
theorem e_X11_pull_36 : g_dc cX11_pull 36 (.iconst 0) 1 37 := ⟨by decide +kernel, rfl⟩
theorem e_X11_pull_37 : g_dc cX11_pull 37 (.putfield 207) 3 40 := ⟨by decide +kernel, rfl⟩
theorem e_X11_pull_40 : g_dc cX11_pull 40 (.aload_n 0) 1 41 := ⟨by decide +kernel, rfl⟩
theorem e_X11_pull_41 : g_dc cX11_pull 41 (.invokevirtual 219) 3 44 := ⟨by decide +kernel, rfl⟩
theorem e_X11_pull_44 : g_dc cX11_pull 44 (.istore_n 2) 1 45 := ⟨by decide +kernel, rfl⟩
theorem e_X11_pull_45 : g_dc cX11_pull 45 (.iload_n 2) 1 46 := ⟨by decide +kernel, rfl⟩
theorem e_X11_pull_46 : g_dc cX11_pull 46 (.ifCond .eq 39) 3 49 := ⟨by decide +kernel, rfl⟩
theorem e_X11_pull_49 : g_dc cX11_pull 49 (.aload_n 0) 1 50 := ⟨by decide +kernel, rfl⟩
theorem e_X11_pull_50 : g_dc cX11_pull 50 (.getfield 190) 3 53 := ⟨by decide +kernel, rfl⟩
theorem e_X11_pull_53 : g_dc cX11_pull 53 (.aload_n 0) 1 54 := ⟨by decide +kernel, rfl⟩
theorem e_X11_pull_54 : g_dc cX11_pull 54 (.getfield 216) 3 57 := ⟨by decide +kernel, rfl⟩
theorem e_X11_pull_57 : g_dc cX11_pull 57 (.if_icmp .ge 28) 3 60 := ⟨by decide +kernel, rfl⟩
theorem e_X11_pull_60 : g_dc cX11_pull 60 (.aload_n 0) 1 61 := ⟨by decide +kernel, rfl⟩
theorem e_X11_pull_61 : g_dc cX11_pull 61 (.bipush 44) 2 63 := ⟨by decide +kernel, rfl⟩
theorem e_X11_pull_63 : g_dc cX11_pull 63 (.invokevirtual 222) 3 66 := ⟨by decide +kernel, rfl⟩
theorem e_X11_pull_66 : g_dc cX11_pull 66 (.ifCond .eq 14) 3 69 := ⟨by decide +kernel, rfl⟩
theorem e_X11_pull_69 : g_dc cX11_pull 69 (.aload_n 0) 1 70 := ⟨by decide +kernel, rfl⟩
theorem e_X11_pull_70 : g_dc cX11_pull 70 (.invokevirtual 219) 3 73 := ⟨by decide +kernel, rfl⟩
theorem e_X11_pull_73 : g_dc cX11_pull 73 (.ifCond .eq 7) 3 76 := ⟨by decide +kernel, rfl⟩
theorem e_X11_pull_76 : g_dc cX11_pull 76 (.iconst 1) 1 77 := ⟨by decide +kernel, rfl⟩
theorem e_X11_pull_77 : g_dc cX11_pull 77 (.goto 4) 3 80 := ⟨by decide +kernel, rfl⟩
theorem e_X11_pull_80 : g_dc cX11_pull 80 (.iconst 0) 1 81 := ⟨by decide +kernel, rfl⟩
theorem e_X11_pull_81 : g_dc cX11_pull 81 (.istore_n 2) 1 82 := ⟨by decide +kernel, rfl⟩
theorem e_X11_pull_82 : g_dc cX11_pull 82 (.goto (-37)) 3 85 := ⟨by decide +kernel, rfl⟩
theorem e_X11_pull_85 : g_dc cX11_pull 85 (.aload_n 0) 1 86 := ⟨by decide +kernel, rfl⟩
theorem e_X11_pull_86 : g_dc cX11_pull 86 (.iconst 0) 1 87 := ⟨by decide +kernel, rfl⟩
theorem e_X11_pull_87 : g_dc cX11_pull 87 (.putfield 183) 3 90 := ⟨by decide +kernel, rfl⟩
theorem e_X11_pull_90 : g_dc cX11_pull 90 (.iload_n 2) 1 91 := ⟨by decide +kernel, rfl⟩
theorem e_X11_pull_91 : g_dc cX11_pull 91 (.ifCond .ne 8) 3 94 := ⟨by decide +kernel, rfl⟩
theorem e_X11_pull_94 : g_dc cX11_pull 94 (.aload_n 0) 1 95 := ⟨by decide +kernel, rfl⟩
theorem e_X11_pull_95 : g_dc cX11_pull 95 (.getfield 225) 3 98 := ⟨by decide +kernel, rfl⟩
theorem e_X11_pull_98 : g_dc cX11_pull 98 (.ireturn) 1 99 := ⟨by decide +kernel, rfl⟩
theorem e_X11_pull_99 : g_dc cX11_pull 99 (.aload_n 0) 1 100 := ⟨by decide +kernel, rfl⟩
theorem e_X11_pull_100 : g_dc cX11_pull 100 (.aload_n 0) 1 101 := ⟨by decide +kernel, rfl⟩
theorem e_X11_pull_101 : g_dc cX11_pull 101 (.getfield 213) 3 104 := ⟨by decide +kernel, rfl⟩
theorem e_X11_pull_104 : g_dc cX11_pull 104 (.putfield 228) 3 107 := ⟨by decide +kernel, rfl⟩
theorem e_X11_pull_107 : g_dc cX11_pull 107 (.iconst 0) 1 108 := ⟨by decide +kernel, rfl⟩
theorem e_X11_pull_108 : g_dc cX11_pull 108 (.istore_n 3) 1 109 := ⟨by decide +kernel, rfl⟩
theorem e_X11_pull_109 : g_dc cX11_pull 109 (.iload_n 3) 1 110 := ⟨by decide +kernel, rfl⟩
theorem e_X11_pull_110 : g_dc cX11_pull 110 (.aload_n 0) 1 111 := ⟨by decide +kernel, rfl⟩
theorem e_X11_pull_111 : g_dc cX11_pull 111 (.getfield 228) 3 114 := ⟨by decide +kernel, rfl⟩
theorem e_X11_pull_114 : g_dc cX11_pull 114 (.if_icmp .ge 21) 3 117 := ⟨by decide +kernel, rfl⟩
theorem e_X11_pull_117 : g_dc cX11_pull 117 (.aload_n 0) 1 118 := ⟨by decide +kernel, rfl⟩
theorem e_X11_pull_118 : g_dc cX11_pull 118 (.getfield 38) 3 121 := ⟨by decide +kernel, rfl⟩
theorem e_X11_pull_121 : g_dc cX11_pull 121 (.iload_n 3) 1 122 := ⟨by decide +kernel, rfl⟩
theorem e_X11_pull_122 : g_dc cX11_pull 122 (.aload_n 0) 1 123 := ⟨by decide +kernel, rfl⟩
theorem e_X11_pull_123 : g_dc cX11_pull 123 (.getfield 41) 3 126 := ⟨by decide +kernel, rfl⟩
theorem e_X11_pull_126 : g_dc cX11_pull 126 (.iload_n 3) 1 127 := ⟨by decide +kernel, rfl⟩
theorem e_X11_pull_127 : g_dc cX11_pull 127 (.iaload) 1 128 := ⟨by decide +kernel, rfl⟩
theorem e_X11_pull_128 : g_dc cX11_pull 128 (.iastore) 1 129 := ⟨by decide +kernel, rfl⟩
theorem e_X11_pull_129 : g_dc cX11_pull 129 (.iinc 3 1) 3 132 := ⟨by decide +kernel, rfl⟩
theorem e_X11_pull_132 : g_dc cX11_pull 132 (.goto (-23)) 3 135 := ⟨by decide +kernel, rfl⟩
theorem e_X11_pull_135 : g_dc cX11_pull 135 (.aload_n 0) 1 136 := ⟨by decide +kernel, rfl⟩
theorem e_X11_pull_136 : g_dc cX11_pull 136 (.getfield 228) 3 139 := ⟨by decide +kernel, rfl⟩
theorem e_X11_pull_139 : g_dc cX11_pull 139 (.ireturn) 1 140 := ⟨by decide +kernel, rfl⟩
def md_X11_pull : List Nat := [14, 15, 16, 17, 18, 19, 20, 21]
def mr_X11_pull : List Nat := [10, 11]
set_option maxHeartbeats 4000000 in
set_option maxRecDepth 100000 in
theorem w_X11_pull (l : Launch) (X : gX) (ad : Nat → Nat) (F : Nat → Int32) (R : Nat → Nat → Int32) (hI : g_ok LK_wM F) (hA : g_okR LA_wM R) (hWT : WT F R) (hWC : WC F R) (a0 : Int32) : g_Ci l X yX11_pull cX11_pull 4 (some .int) 5 0 0 [.ref (ad 0), .int a0] (wM X ad F R) (fun r w => ∃ (F' : Nat → Int32) (R' : Nat → Nat → Int32), w = wM X ad F' R' ∧ g_ok LK_wM F' ∧ g_okR LA_wM R' ∧ WT F' R' ∧ WC F' R' ∧ g_fr md_X11_pull F F' ∧ g_fr mr_X11_pull R R' ∧ jv (-2147483648) 2147483647 r ∧ (r, F', R') = sp_X11_pull F R a0) := by
  refine g_mi (by decide +kernel) (Nat.le_of_ble_eq_true rfl) (fun E cx hret => ?_)
  obtain ⟨SP, hSP⟩ : ∃ z, z = sp_X11_pull F R a0 := ⟨_, rfl⟩
  have hk0 := hSP
  unfold sp_X11_pull at hk0
  refine g_iload_n cx 1 rfl e_X11_pull_0 ?_
  refine g_iconst cx 1 (by decide) e_X11_pull_1 ?_
  refine g_bipush cx 120 (by decide) e_X11_pull_2 ?_
  refine g_cSiW cx [.int a0, .int 1, .int 120] [] (c_X11_in l X (wM X ad F R) a0 1 120) ml_X11_165 yS_X11_in rfl e_X11_pull_4 (by unfold g_rr; decide) (by decide) rfl (Nat.le_of_ble_eq_true rfl) (fun r1 w2 h3 => ?_)
  obtain ⟨rfl, hr1⟩ := h3
  have pr1 : jv 0 1 r1 := by rw [hr1]; exact gi_01 _ _ _
  have hk4 := k_ls hk0 hr1
  have J18 : (SP = K_X11_pull_18 F R) → G X E 4 0 0 (wM X ad F R) [] 18 [] := by
    intro   hkJ18
    unfold K_X11_pull_18 at hkJ18
    refine g_iconst cx (-1) (by decide) e_X11_pull_18 ?_
    exact hret e_X11_pull_19 (Nat.le_of_ble_eq_true rfl) (Nat.le_of_ble_eq_true rfl) rfl ⟨F, R, rfl, hI, hA, hWT, hWC, (g_fr_rf F), (g_fr_rf R), (jv_w (jv_k (x := (-1)) (-1) (by decide)) (by decide)), (hkJ18.symm.trans hSP)⟩
  refine g_if_eq cx 18 e_X11_pull_7 (by decide) (fun zc5 => ?_) (fun zc5 => ?_)
  · have p6 := gn_eq 0 0 (gc_eq zc5) pr1 (jv_k (x := 0) 0 (by decide)) (by decide)
    have hk7 := hk4.trans (if_pos zc5)
    refine g_lsub [] [] rfl ?_
    exact J18  hk7
  · have p8 := gn_neL 1 1 (gc_ne zc5) pr1 (jv_k (x := 0) 0 (by decide)) (by decide)
    have p9 := jv_i 1 120 (jv_t a0) (gi_in (A := 1) (B := 120) hr1 zc5 (by decide) (by decide)) (by decide)
    have hk10 := hk4.trans (if_neg zc5)
    refine g_iload_n cx 1 rfl e_X11_pull_10 ?_
    refine g_aload_n cx 0 rfl e_X11_pull_11 ?_
    refine g_get cx cl_X11 fl_X11_183 0 (.int (F 14)) e_X11_pull_12 rfl rfl ?_
    refine g_icmp_le cx 20 e_X11_pull_15 (by decide) (fun zc11 => ?_) (fun zc11 => ?_)
    · have p12 := gn_ge 1 220 (gc_le zc11) (g_ok_g hI 0 rfl) p9 (by decide)
      have hk13 := hk10.trans (if_pos zc11)
      refine g_aload_n cx 0 rfl e_X11_pull_20 ?_
      refine g_iconst cx 0 (by decide) e_X11_pull_21 ?_
      refine g_put cx cl_X11 fl_X11_190 0 (wM X ad (upd F 15 0) R) e_X11_pull_22 rfl rfl rfl rfl (Nat.le_of_ble_eq_true rfl) rfl ?_
      obtain ⟨F14, hF14⟩ : ∃ z, z = upd F 15 0 := ⟨_, rfl⟩
      rw [← hF14]
      have hk15 := k_ls hk13 hF14
      have oF14 : g_ok LK_wM F14 := by rw [hF14]; exact g_ok_p hI (jv_k (x := 0) 0 (by decide)) rfl
      have fF14 : g_fr md_X11_pull F F14 := by rw [hF14]; exact g_fr_u (g_fr_rf F) rfl
      have wTF14 : WT F14 R := by rw [hF14]; exact WT_u hWT rfl
      have wCF14 : WC F14 R := by rw [hF14]; exact WC_u hWC rfl
      refine g_aload_n cx 0 rfl e_X11_pull_25 ?_
      refine g_iload_n cx 1 rfl e_X11_pull_26 ?_
      refine g_put cx cl_X11 fl_X11_216 0 (wM X ad (upd F14 16 a0) R) e_X11_pull_27 rfl rfl rfl rfl (Nat.le_of_ble_eq_true rfl) rfl ?_
      obtain ⟨F16, hF16⟩ : ∃ z, z = upd F14 16 a0 := ⟨_, rfl⟩
      rw [← hF16]
      have hk17 := k_ls hk15 hF16
      have oF16 : g_ok LK_wM F16 := by rw [hF16]; exact g_ok_p oF14 p9 rfl
      have fF16 : g_fr md_X11_pull F F16 := by rw [hF16]; exact g_fr_u fF14 rfl
      have wTF16 : WT F16 R := by rw [hF16]; exact WT_u wTF14 rfl
      have wCF16 : WC F16 R := by rw [hF16]; exact WC_u wCF14 rfl
      refine g_aload_n cx 0 rfl e_X11_pull_30 ?_
      refine g_iconst cx 0 (by decide) e_X11_pull_31 ?_
      refine g_put cx cl_X11 fl_X11_213 0 (wM X ad (upd F16 20 0) R) e_X11_pull_32 rfl rfl rfl rfl (Nat.le_of_ble_eq_true rfl) rfl ?_
      obtain ⟨F18, hF18⟩ : ∃ z, z = upd F16 20 0 := ⟨_, rfl⟩
      rw [← hF18]
      have hk19 := k_ls hk17 hF18
      have oF18 : g_ok LK_wM F18 := by rw [hF18]; exact g_ok_p oF16 (jv_k (x := 0) 0 (by decide)) rfl
      have fF18 : g_fr md_X11_pull F F18 := by rw [hF18]; exact g_fr_u fF16 rfl
      have wTF18 : WT F18 R := by rw [hF18]; exact WT_u wTF16 rfl
      have wCF18 : WC F18 R := by rw [hF18]; exact WC_u wCF16 rfl
      refine g_aload_n cx 0 rfl e_X11_pull_35 ?_
      refine g_iconst cx 0 (by decide) e_X11_pull_36 ?_
      refine g_put cx cl_X11 fl_X11_207 0 (wM X ad (upd F18 21 0) R) e_X11_pull_37 rfl rfl rfl rfl (Nat.le_of_ble_eq_true rfl) rfl ?_
      obtain ⟨F20, hF20⟩ : ∃ z, z = upd F18 21 0 := ⟨_, rfl⟩
      rw [← hF20]
      have hk21 := k_ls hk19 hF20
      have oF20 : g_ok LK_wM F20 := by rw [hF20]; exact g_ok_p oF18 (jv_k (x := 0) 0 (by decide)) rfl
      have fF20 : g_fr md_X11_pull F F20 := by rw [hF20]; exact g_fr_u fF18 rfl
      have wTF20 : WT F20 R := by rw [hF20]; exact WT_u wTF18 rfl
      have wCF20 : WC F20 R := by rw [hF20]; exact WC_u wCF18 rfl
      refine g_aload_n cx 0 rfl e_X11_pull_40 ?_
      refine g_cViW cx [] [] (w_X11_readsStep l X ad F20 R oF20 hA wTF20 wCF20) ml_X11_219 yV_X11_readsStep e_X11_pull_41 (by unfold g_rr; decide) (by decide) 0 rfl rfl rfl (Nat.le_of_ble_eq_true rfl) (fun r22 w23 h24 => ?_)
      obtain ⟨F27, R28, rfl, oF27, oR28, wTF27, wCF27, cF27, cR28, pr22, zx25, hx26⟩ := h24
      have hk29 := k_ls3 hk21 hx26
      have fF27 : g_fr md_X11_pull F F27 := g_fr_c fF20 cF27 rfl
      have fR28 : g_fr mr_X11_pull R R28 := g_fr_c (g_fr_rf R) cR28 rfl
      refine g_istore_n cx [(2, .int r22), (0, .ref (ad 0)), (1, .int a0)] e_X11_pull_44 (by decide) rfl ?_
      have J45 : ∀ (N : Nat) (F31 : Nat → Int32) (R32 : Nat → Nat → Int32) (y30 : Int32), (g_ok LK_wM F31) → (g_fr md_X11_pull F F31) → (g_okR LA_wM R32) → (g_fr mr_X11_pull R R32) → (WT F31 R32) → (WC F31 R32) → (jv 0 1 y30) → (SP = K_X11_pull_45 N F31 R32 y30) → (1000 + (y30 : Int32).toInt - (F31 15).toInt).toNat < N → G X E 4 0 0 (wM X ad F31 R32) [(0, .ref (ad 0)), (2, .int y30)] 45 [] := by
        intro N
        induction N with
        | zero => intro F31 R32 y30 oF31 fF31 oR32 fR32 wTF31R32 wCF31R32 py30 hkJ45 hm; exact absurd hm (Nat.not_lt_zero _)
        | succ N ih45 =>
          intro F31 R32 y30 oF31 fF31 oR32 fR32 wTF31R32 wCF31R32 py30 hkJ45 hm45
          have hkK45 : SP = KB_X11_pull_45 (K_X11_pull_45 N) F31 R32 y30 := hkJ45
          obtain ⟨b45, hb45⟩ : ∃ z, z = K_X11_pull_45 N := ⟨_, rfl⟩
          rw [← hb45] at hkK45
          unfold KB_X11_pull_45 at hkK45
          refine g_iload_n cx 1 rfl e_X11_pull_45 ?_
          have J85 : (SP = K_X11_pull_85 F31 R32 y30) → G X E 4 0 0 (wM X ad F31 R32) [(0, .ref (ad 0)), (2, .int y30)] 85 [] := by
            intro   hkJ85
            unfold K_X11_pull_85 at hkJ85
            refine g_aload_n cx 0 rfl e_X11_pull_85 ?_
            refine g_iconst cx 0 (by decide) e_X11_pull_86 ?_
            refine g_put cx cl_X11 fl_X11_183 0 (wM X ad (upd F31 14 0) R32) e_X11_pull_87 rfl rfl rfl rfl (Nat.le_of_ble_eq_true rfl) rfl ?_
            obtain ⟨F33, hF33⟩ : ∃ z, z = upd F31 14 0 := ⟨_, rfl⟩
            rw [← hF33]
            have hk34 := k_ls hkJ85 hF33
            have oF33 : g_ok LK_wM F33 := by rw [hF33]; exact g_ok_p oF31 (jv_k (x := 0) 0 (by decide)) rfl
            have fF33 : g_fr md_X11_pull F F33 := by rw [hF33]; exact g_fr_u fF31 rfl
            have wTF33 : WT F33 R32 := by rw [hF33]; exact WT_u wTF31R32 rfl
            have wCF33 : WC F33 R32 := by rw [hF33]; exact WC_u wCF31R32 rfl
            refine g_iload_n cx 1 rfl e_X11_pull_90 ?_
            refine g_if_ne cx 99 e_X11_pull_91 (by decide) (fun zc35 => ?_) (fun zc35 => ?_)
            · have p36 := gn_neL 1 1 (gc_ne zc35) py30 (jv_k (x := 0) 0 (by decide)) (by decide)
              have hk37 := hk34.trans (if_neg zc35)
              refine g_aload_n cx 0 rfl e_X11_pull_99 ?_
              refine g_aload_n cx 0 rfl e_X11_pull_100 ?_
              refine g_get cx cl_X11 fl_X11_213 0 (.int (F33 20)) e_X11_pull_101 rfl rfl ?_
              refine g_toi (F31 20) (g_pu2 hF33 rfl) ?_
              refine g_put cx cl_X11 fl_X11_228 0 (wM X ad (upd F33 19 (F31 20)) R32) e_X11_pull_104 rfl rfl rfl rfl (Nat.le_of_ble_eq_true rfl) rfl ?_
              obtain ⟨F38, hF38⟩ : ∃ z, z = upd F33 19 (F31 20) := ⟨_, rfl⟩
              rw [← hF38]
              have hk39 := k_ls hk37 hF38
              have oF38 : g_ok LK_wM F38 := by rw [hF38]; exact g_ok_p oF33 (g_ok_g oF31 4 rfl) rfl
              have fF38 : g_fr md_X11_pull F F38 := by rw [hF38]; exact g_fr_u fF33 rfl
              have wTF38 : WT F38 R32 := by rw [hF38]; exact WT_u wTF33 rfl
              have wCF38 : WC F38 R32 := by rw [hF38]; exact WC_u wCF33 rfl
              refine g_iconst cx 0 (by decide) e_X11_pull_107 ?_
              refine g_istore_n cx [(3, .int 0), (0, .ref (ad 0)), (2, .int y30)] e_X11_pull_108 (by decide) rfl ?_
              have J109 : ∀ (N : Nat) (R41 : Nat → Nat → Int32) (y40 : Int32), (g_okR LA_wM R41) → (g_fr mr_X11_pull R R41) → (WT F38 R41) → (WC F38 R41) → (jv 0 60 y40) → (SP = K_X11_pull_109 F31 F38 N R41 y40) → (2147483647 - y40.toInt).toNat < N → G X E 4 0 0 (wM X ad F38 R41) [(0, .ref (ad 0)), (3, .int y40)] 109 [] := by
                intro N
                induction N with
                | zero => intro R41 y40 oR41 fR41 wTR41 wCR41 py40 hkJ109 hm; exact absurd hm (Nat.not_lt_zero _)
                | succ N ih109 =>
                  intro R41 y40 oR41 fR41 wTR41 wCR41 py40 hkJ109 hm109
                  have hkK109 : SP = KB_X11_pull_109 (K_X11_pull_109 F31 F38 N) F31 F38 R41 y40 := hkJ109
                  obtain ⟨b109, hb109⟩ : ∃ z, z = K_X11_pull_109 F31 F38 N := ⟨_, rfl⟩
                  rw [← hb109] at hkK109
                  unfold KB_X11_pull_109 at hkK109
                  refine g_iload_n cx 1 rfl e_X11_pull_109 ?_
                  refine g_aload_n cx 0 rfl e_X11_pull_110 ?_
                  refine g_get cx cl_X11 fl_X11_228 0 (.int (F38 19)) e_X11_pull_111 rfl rfl ?_
                  refine g_toi (F31 20) (g_pu1 hF38) ?_
                  refine g_icmp_ge cx 135 e_X11_pull_114 (by decide) (fun zc42 => ?_) (fun zc42 => ?_)
                  · have hk43 := hkK109.trans (if_pos zc42)
                    refine g_aload_n cx 0 rfl e_X11_pull_135 ?_
                    refine g_get cx cl_X11 fl_X11_228 0 (.int (F38 19)) e_X11_pull_136 rfl rfl ?_
                    refine g_toi (F31 20) (g_pu1 hF38) ?_
                    exact hret e_X11_pull_139 (Nat.le_of_ble_eq_true rfl) (Nat.le_of_ble_eq_true rfl) rfl ⟨F38, R41, rfl, oF38, oR41, wTR41, wCR41, fF38, fR41, (jv_w (g_ok_g oF31 4 rfl) (by decide)), (hk43.symm.trans hSP)⟩
                  · have p44 := gn_lt 0 59 (gc_nle zc42) py40 (g_ok_g oF31 4 rfl) (by decide)
                    have p45 := gn_gt 1 60 (gc_nle zc42) (g_ok_g oF31 4 rfl) py40 (by decide)
                    have hk46 := hkK109.trans (if_neg zc42)
                    refine g_aload_n cx 0 rfl e_X11_pull_117 ?_
                    refine g_get cx cl_X11 fl_X11_38 0 (.ref (ad 10)) e_X11_pull_118 rfl rfl ?_
                    refine g_iload_n cx 1 rfl e_X11_pull_121 ?_
                    refine g_aload_n cx 0 rfl e_X11_pull_122 ?_
                    refine g_get cx cl_X11 fl_X11_41 0 (.ref (ad 11)) e_X11_pull_123 rfl rfl ?_
                    refine g_iload_n cx 1 rfl e_X11_pull_126 ?_
                    refine g_iald cx 11 e_X11_pull_127 rfl (jv_ix 60 p44 (by decide)) ?_
                    refine g_topi (fun x47 ex47 => ?_)
                    have hk48 := k_ls hk46 ex47
                    refine g_iast cx 10 (wM X ad F38 (g_u R41 10 (upd (R41 10) (Int32.toNatClampNeg y40) x47))) e_X11_pull_128 rfl (jv_ix 60 p44 (by decide)) rfl ?_
                    obtain ⟨R49, hR49⟩ : ∃ z, z = g_u R41 10 (upd (R41 10) (Int32.toNatClampNeg y40) x47) := ⟨_, rfl⟩
                    rw [← hR49]
                    have hk50 := k_ls hk48 hR49
                    have oR49 : g_okR LA_wM R49 := by rw [hR49]; exact g_okR_u oR41 rfl
                    have fR49 : g_fr mr_X11_pull R R49 := by rw [hR49]; exact g_fr_r fR41 rfl
                    have wTR49 : WT F38 R49 := by rw [hR49]; exact WT_r wTR41 rfl
                    have wCR49 : WC F38 R49 := by rw [hR49]; exact WC_r wCR41 rfl
                    obtain ⟨x51, ex51⟩ : ∃ z : Int32, z = y40 + Int32.ofInt 1 := ⟨_, rfl⟩
                    have hk52 := k_ls hk50 (show x51 = y40 + 1 from ex51)
                    refine g_iinc cx x51 [(3, .int x51), (0, .ref (ad 0))] 1 e_X11_pull_129 rfl ex51.symm (by decide) rfl ?_
                    have zx51 := jv_add 1 60 (show x51 = y40 + 1 from ex51) p44 (jv_k (x := 1) 1 (by decide)) (by decide)
                    refine g_goto cx 109 e_X11_pull_132 (by decide) ?_
                    refine g_lsub [1, 0] [(0, .ref (ad 0)), (3, .int x51)] rfl ?_
                    exact ih109 R49 x51 oR49 fR49 wTR49 wCR49 (jv_w zx51.2 (by decide)) (hk52.trans (by rw [hb109])) (Nat.lt_of_lt_of_le (show (2147483647 - x51.toInt).toNat < (2147483647 - y40.toInt).toNat from by have q0 := (jv_k (x := 1) 1 (by decide)).1; have q1 := (jv_k (x := 1) 1 (by decide)).2; have q2 := p45.1; have q3 := p45.2; have q4 := zx51.2.1; have q5 := zx51.2.2; have q6 := p44.1; have q7 := p44.2; have q8 := (gc_nle zc42); have q9 := (g_eq0 zx51.1); omega) (Nat.le_of_lt_succ hm109))
              refine g_lsub [1, 0] [(0, .ref (ad 0)), (3, .int 0)] rfl ?_
              exact J109 8589934592 R32 0 oR32 fR32 wTF38 wCF38 (jv_w (jv_k (x := 0) 0 (by decide)) (by decide)) hk39 (show (2147483647 - (0 : Int32).toInt).toNat < 8589934592 from by have q0 := (jv_k (x := 0) 0 (by decide)).1; have q1 := (jv_k (x := 0) 0 (by decide)).2; omega)
            · have p53 := gn_eq 0 0 (gc_eq zc35) py30 (jv_k (x := 0) 0 (by decide)) (by decide)
              have hk54 := hk34.trans (if_pos zc35)
              refine g_aload_n cx 0 rfl e_X11_pull_94 ?_
              refine g_get cx cl_X11 fl_X11_225 0 (.int (F33 17)) e_X11_pull_95 rfl rfl ?_
              refine g_toi (F31 17) (g_pu2 hF33 rfl) ?_
              exact hret e_X11_pull_98 (Nat.le_of_ble_eq_true rfl) (Nat.le_of_ble_eq_true rfl) rfl ⟨F33, R32, rfl, oF33, oR32, wTF33, wCF33, fF33, fR32, (jv_t (F31 17)), (hk54.symm.trans hSP)⟩
          refine g_if_eq cx 85 e_X11_pull_46 (by decide) (fun zc55 => ?_) (fun zc55 => ?_)
          · have p56 := gn_eq 0 0 (gc_eq zc55) py30 (jv_k (x := 0) 0 (by decide)) (by decide)
            have hk57 := hkK45.trans (if_pos zc55)
            exact J85  hk57
          · have p58 := gn_neL 1 1 (gc_ne zc55) py30 (jv_k (x := 0) 0 (by decide)) (by decide)
            have hk59 := hkK45.trans (if_neg zc55)
            refine g_aload_n cx 0 rfl e_X11_pull_49 ?_
            refine g_get cx cl_X11 fl_X11_190 0 (.int (F31 15)) e_X11_pull_50 rfl rfl ?_
            refine g_aload_n cx 0 rfl e_X11_pull_53 ?_
            refine g_get cx cl_X11 fl_X11_216 0 (.int (F31 16)) e_X11_pull_54 rfl rfl ?_
            refine g_icmp_ge cx 85 e_X11_pull_57 (by decide) (fun zc60 => ?_) (fun zc60 => ?_)
            · have hk61 := hk59.trans (if_pos zc60)
              exact J85  hk61
            · have p62 := gn_lt 0 199 (gc_nle zc60) (g_ok_g oF31 1 rfl) (g_ok_g oF31 2 rfl) (by decide)
              have p63 := gn_gt 1 200 (gc_nle zc60) (g_ok_g oF31 2 rfl) (g_ok_g oF31 1 rfl) (by decide)
              have hk64 := hk59.trans (if_neg zc60)
              refine g_aload_n cx 0 rfl e_X11_pull_60 ?_
              refine g_bipush cx 44 (by decide) e_X11_pull_61 ?_
              refine g_cViW cx [.int 44] [] (w_X11_takes l X ad F31 R32 oF31 oR32 wTF31R32 wCF31R32 44 (jv_w (jv_k (x := 44) 44 (by decide)) (by decide))) ml_X11_222 yV_X11_takes e_X11_pull_63 (by unfold g_rr; decide) (by decide) 0 rfl rfl rfl (Nat.le_of_ble_eq_true rfl) (fun r65 w66 h67 => ?_)
              obtain ⟨F71, R72, rfl, oF71, oR72, wTF71, wCF71, cF71, cR72, pr65, zx68, zx69, hx70⟩ := h67
              have hk73 := k_ls3 hk64 hx70
              have fF71 : g_fr md_X11_pull F F71 := g_fr_c fF31 cF71 rfl
              have fR72 : g_fr mr_X11_pull R R72 := g_fr_c fR32 cR72 rfl
              have J81 : ∀ (F75 : Nat → Int32) (R76 : Nat → Nat → Int32) (y74 : Int32), (g_ok LK_wM F75) → (g_fr md_X11_pull F F75) → (g_okR LA_wM R76) → (g_fr mr_X11_pull R R76) → (WT F75 R76) → (WC F75 R76) → (jv 0 1 y74) → ((F31 15).toInt + (y74 : Int32).toInt ≤ (F75 15).toInt) → (SP = K_X11_pull_81 b45 F75 R76 y74) → G X E 4 0 0 (wM X ad F75 R76) [(0, .ref (ad 0))] 81 [.int y74] := by
                intro F75 R76 y74 oF75 fF75 oR76 fR76 wTF75R76 wCF75R76 py74 zi81_0 hkJ81
                unfold K_X11_pull_81 at hkJ81
                refine g_istore_n cx [(2, .int y74), (0, .ref (ad 0))] e_X11_pull_81 (by decide) rfl ?_
                refine g_goto cx 45 e_X11_pull_82 (by decide) ?_
                refine g_lsub [1, 0] [(0, .ref (ad 0)), (2, .int y74)] rfl ?_
                exact ih45 F75 R76 y74 oF75 fF75 oR76 fR76 wTF75R76 wCF75R76 py74 (hkJ81.trans (by rw [hb45])) (Nat.lt_of_lt_of_le (show (1000 + (y74 : Int32).toInt - (F75 15).toInt).toNat < (1000 + (y30 : Int32).toInt - (F31 15).toInt).toNat from by have q0 := (jv_k (x := 0) 0 (by decide)).1; have q1 := (jv_k (x := 0) 0 (by decide)).2; have q2 := p62.1; have q3 := p62.2; have q4 := p63.1; have q5 := p63.2; have q6 := (g_ok_g oF71 1 rfl).1; have q7 := (g_ok_g oF71 1 rfl).2; have q8 := (g_ok_g oF75 1 rfl).1; have q9 := (g_ok_g oF75 1 rfl).2; have q10 := p8.1; have q11 := p8.2; have q12 := p58.1; have q13 := p58.2; have q14 := py74.1; have q15 := py74.2; have q16 := (gc_ne zc5); have q17 := (gc_ne zc55); have q18 := (gc_nle zc60); have q19 := zx68; have q20 := zi81_0; omega) (Nat.le_of_lt_succ hm45))
              have J80 : ∀ (F77 : Nat → Int32) (R78 : Nat → Nat → Int32), (g_ok LK_wM F77) → (g_fr md_X11_pull F F77) → (g_okR LA_wM R78) → (g_fr mr_X11_pull R R78) → (WT F77 R78) → (WC F77 R78) → ((F31 15).toInt ≤ (F77 15).toInt) → (SP = K_X11_pull_80 b45 F77 R78) → G X E 4 0 0 (wM X ad F77 R78) [(0, .ref (ad 0))] 80 [] := by
                intro F77 R78 oF77 fF77 oR78 fR78 wTF77R78 wCF77R78 zi80_0 hkJ80
                unfold K_X11_pull_80 at hkJ80
                refine g_iconst cx 0 (by decide) e_X11_pull_80 ?_
                exact J81 F77 R78 0 oF77 fF77 oR78 fR78 wTF77R78 wCF77R78 (jv_w (jv_k (x := 0) 0 (by decide)) (by decide)) (by have q0 := (jv_k (x := 0) 0 (by decide)).1; have q1 := (jv_k (x := 0) 0 (by decide)).2; have q2 := p62.1; have q3 := p62.2; have q4 := p63.1; have q5 := p63.2; have q6 := (g_ok_g oF71 1 rfl).1; have q7 := (g_ok_g oF71 1 rfl).2; have q8 := (g_ok_g oF77 1 rfl).1; have q9 := (g_ok_g oF77 1 rfl).2; have q10 := p8.1; have q11 := p8.2; have q12 := p58.1; have q13 := p58.2; have q14 := (gc_ne zc5); have q15 := (gc_ne zc55); have q16 := (gc_nle zc60); have q17 := zx68; have q18 := zi80_0; omega) hkJ80
              refine g_if_eq cx 80 e_X11_pull_66 (by decide) (fun zc79 => ?_) (fun zc79 => ?_)
              · have p80 := gn_eq 0 0 (gc_eq zc79) pr65 (jv_k (x := 0) 0 (by decide)) (by decide)
                have hk81 := hk73.trans (if_pos zc79)
                refine g_lsub [0] [(0, .ref (ad 0))] rfl ?_
                exact J80 F71 R72 oF71 fF71 oR72 fR72 wTF71 wCF71 (by have q0 := p62.1; have q1 := p62.2; have q2 := p63.1; have q3 := p63.2; have q4 := (g_ok_g oF71 1 rfl).1; have q5 := (g_ok_g oF71 1 rfl).2; have q6 := (gc_nle zc60); have q7 := zx68; omega) hk81
              · have p82 := gn_neL 1 1 (gc_ne zc79) pr65 (jv_k (x := 0) 0 (by decide)) (by decide)
                have hk83 := hk73.trans (if_neg zc79)
                refine g_aload_n cx 0 rfl e_X11_pull_69 ?_
                refine g_cViW cx [] [] (w_X11_readsStep l X ad F71 R72 oF71 oR72 wTF71 wCF71) ml_X11_219 yV_X11_readsStep e_X11_pull_70 (by unfold g_rr; decide) (by decide) 0 rfl rfl rfl (Nat.le_of_ble_eq_true rfl) (fun r84 w85 h86 => ?_)
                obtain ⟨F89, R90, rfl, oF89, oR90, wTF89, wCF89, cF89, cR90, pr84, zx87, hx88⟩ := h86
                have hk91 := k_ls3 hk83 hx88
                have fF89 : g_fr md_X11_pull F F89 := g_fr_c fF71 cF89 rfl
                have fR90 : g_fr mr_X11_pull R R90 := g_fr_c fR72 cR90 rfl
                refine g_if_eq cx 80 e_X11_pull_73 (by decide) (fun zc92 => ?_) (fun zc92 => ?_)
                · have p93 := gn_eq 0 0 (gc_eq zc92) pr84 (jv_k (x := 0) 0 (by decide)) (by decide)
                  have hk94 := hk91.trans (if_pos zc92)
                  refine g_lsub [0] [(0, .ref (ad 0))] rfl ?_
                  exact J80 F89 R90 oF89 fF89 oR90 fR90 wTF89 wCF89 (by have q0 := p62.1; have q1 := p62.2; have q2 := p63.1; have q3 := p63.2; have q4 := (g_ok_g oF71 1 rfl).1; have q5 := (g_ok_g oF71 1 rfl).2; have q6 := (g_ok_g oF89 1 rfl).1; have q7 := (g_ok_g oF89 1 rfl).2; have q8 := (gc_nle zc60); have q9 := zx68; have q10 := (zx69 zc79); have q11 := zx87; omega) hk94
                · have p95 := gn_neL 1 1 (gc_ne zc92) pr84 (jv_k (x := 0) 0 (by decide)) (by decide)
                  have hk96 := hk91.trans (if_neg zc92)
                  refine g_iconst cx 1 (by decide) e_X11_pull_76 ?_
                  refine g_goto cx 81 e_X11_pull_77 (by decide) ?_
                  refine g_lsub [0] [(0, .ref (ad 0))] rfl ?_
                  exact J81 F89 R90 1 oF89 fF89 oR90 fR90 wTF89 wCF89 (jv_w (jv_k (x := 1) 1 (by decide)) (by decide)) (by have q0 := (jv_k (x := 1) 1 (by decide)).1; have q1 := (jv_k (x := 1) 1 (by decide)).2; have q2 := p62.1; have q3 := p62.2; have q4 := p63.1; have q5 := p63.2; have q6 := (g_ok_g oF71 1 rfl).1; have q7 := (g_ok_g oF71 1 rfl).2; have q8 := (g_ok_g oF89 1 rfl).1; have q9 := (g_ok_g oF89 1 rfl).2; have q10 := (gc_nle zc60); have q11 := zx68; have q12 := (zx69 zc79); have q13 := zx87; omega) hk96
      refine g_lsub [1, 0] [(0, .ref (ad 0)), (2, .int r22)] rfl ?_
      exact J45 8589934592 F27 R28 r22 oF27 fF27 oR28 fR28 wTF27 wCF27 pr22 hk29 (show (1000 + (r22 : Int32).toInt - (F27 15).toInt).toNat < 8589934592 from by have q0 := (g_ok_g oF27 1 rfl).1; have q1 := (g_ok_g oF27 1 rfl).2; have q2 := pr22.1; have q3 := pr22.2; omega)
    · have p97 := gn_lt 0 119 (gc_nle zc11) (g_ok_g hI 0 rfl) p9 (by decide)
      have hk98 := hk10.trans (if_neg zc11)
      refine g_lsub [] [] rfl ?_
      exact J18  hk98
