def sp_X11_isAsked (F : Nat → Int32) (R : Nat → Nat → Int32) (a0 : Int32) : Int32 :=
  k_lt (g_in a0 0 8) (fun r1 => if r1 = 0 then k_lt (g_in a0 10 69) (fun r11 => if r11 = 0 then 0 else k_lt (a0 - a0 / 10 * 10) (fun x21 => k_lt (sp_X11_isTold F R x21) (fun r23 => if r23 = 0 then 0 else 1))) else 1)
theorem e_X11_isAsked_0 : g_dc cX11_isAsked 0 (.iload_n 1) 1 1 := ⟨by decide +kernel, rfl⟩
theorem e_X11_isAsked_1 : g_dc cX11_isAsked 1 (.iconst 0) 1 2 := ⟨by decide +kernel, rfl⟩
theorem e_X11_isAsked_2 : g_dc cX11_isAsked 2 (.bipush 8) 2 4 := ⟨by decide +kernel, rfl⟩
theorem e_X11_isAsked_4 : g_dc cX11_isAsked 4 (.invokestatic 165) 3 7 := ⟨by decide +kernel, rfl⟩
theorem e_X11_isAsked_7 : g_dc cX11_isAsked 7 (.ifCond .ne 25) 3 10 := ⟨by decide +kernel, rfl⟩
theorem e_X11_isAsked_10 : g_dc cX11_isAsked 10 (.iload_n 1) 1 11 := ⟨by decide +kernel, rfl⟩
theorem e_X11_isAsked_11 : g_dc cX11_isAsked 11 (.bipush 10) 2 13 := ⟨by decide +kernel, rfl⟩
theorem e_X11_isAsked_13 : g_dc cX11_isAsked 13 (.bipush 69) 2 15 := ⟨by decide +kernel, rfl⟩
theorem e_X11_isAsked_15 : g_dc cX11_isAsked 15 (.invokestatic 165) 3 18 := ⟨by decide +kernel, rfl⟩
theorem e_X11_isAsked_18 : g_dc cX11_isAsked 18 (.ifCond .eq 18) 3 21 := ⟨by decide +kernel, rfl⟩
theorem e_X11_isAsked_21 : g_dc cX11_isAsked 21 (.aload_n 0) 1 22 := ⟨by decide +kernel, rfl⟩
theorem e_X11_isAsked_22 : g_dc cX11_isAsked 22 (.iload_n 1) 1 23 := ⟨by decide +kernel, rfl⟩
theorem e_X11_isAsked_23 : g_dc cX11_isAsked 23 (.bipush 10) 2 25 := ⟨by decide +kernel, rfl⟩
theorem e_X11_isAsked_25 : g_dc cX11_isAsked 25 (.irem) 1 26 := ⟨by decide +kernel, rfl⟩
theorem e_X11_isAsked_26 : g_dc cX11_isAsked 26 (.invokevirtual 179) 3 29 := ⟨by decide +kernel, rfl⟩
theorem e_X11_isAsked_29 : g_dc cX11_isAsked 29 (.ifCond .eq 7) 3 32 := ⟨by decide +kernel, rfl⟩
theorem e_X11_isAsked_32 : g_dc cX11_isAsked 32 (.iconst 1) 1 33 := ⟨by decide +kernel, rfl⟩
theorem e_X11_isAsked_33 : g_dc cX11_isAsked 33 (.goto 4) 3 36 := ⟨by decide +kernel, rfl⟩
theorem e_X11_isAsked_36 : g_dc cX11_isAsked 36 (.iconst 0) 1 37 := ⟨by decide +kernel, rfl⟩
theorem e_X11_isAsked_37 : g_dc cX11_isAsked 37 (.ireturn) 1 38 := ⟨by decide +kernel, rfl⟩
set_option maxHeartbeats 4000000 in
set_option maxRecDepth 100000 in
theorem w_X11_isAsked (l : Launch) (X : gX) (ad : Nat → Nat) (F : Nat → Int32) (R : Nat → Nat → Int32) (hI : g_ok LK_wM F) (hA : g_okR LA_wM R) (hWT : WT F R) (hWC : WC F R) (a0 : Int32) : g_Ci l X yX11_isAsked cX11_isAsked 2 (some .boolean) 3 0 0 [.ref (ad 0), .int a0] (wM X ad F R) (fun r w => w = wM X ad F R ∧ jv 0 1 r ∧ (¬ r = 0 → jv 0 69 a0) ∧ r = sp_X11_isAsked F R a0) := by
  refine g_mi (by decide +kernel) (Nat.le_of_ble_eq_true rfl) (fun E cx hret => ?_)
  obtain ⟨SP, hSP⟩ : ∃ z, z = sp_X11_isAsked F R a0 := ⟨_, rfl⟩
  have hk0 := hSP
  unfold sp_X11_isAsked at hk0
  refine g_iload_n cx 1 rfl e_X11_isAsked_0 ?_
  refine g_iconst cx 0 (by decide) e_X11_isAsked_1 ?_
  refine g_bipush cx 8 (by decide) e_X11_isAsked_2 ?_
  refine g_cSiW cx [.int a0, .int 0, .int 8] [] (c_X11_in l X (wM X ad F R) a0 0 8) ml_X11_165 yS_X11_in rfl e_X11_isAsked_4 (by unfold g_rr; decide) (by decide) rfl (Nat.le_of_ble_eq_true rfl) (fun r1 w2 h3 => ?_)
  obtain ⟨rfl, hr1⟩ := h3
  have pr1 : jv 0 1 r1 := by rw [hr1]; exact gi_01 _ _ _
  have hk4 := k_ls hk0 hr1
  refine g_if_ne cx 32 e_X11_isAsked_7 (by decide) (fun zc5 => ?_) (fun zc5 => ?_)
  · have p6 := gn_neL 1 1 (gc_ne zc5) pr1 (jv_k (x := 0) 0 (by decide)) (by decide)
    have p7 := jv_i 0 8 (jv_t a0) (gi_in (A := 0) (B := 8) hr1 zc5 (by decide) (by decide)) (by decide)
    have hk8 := hk4.trans (if_neg zc5)
    refine g_iconst cx 1 (by decide) e_X11_isAsked_32 ?_
    refine g_goto cx 37 e_X11_isAsked_33 (by decide) ?_
    exact hret e_X11_isAsked_37 (Nat.le_of_ble_eq_true rfl) (Nat.le_of_ble_eq_true rfl) rfl ⟨rfl, (jv_w (jv_k (x := 1) 1 (by decide)) (by decide)), (fun _ => (jv_w p7 (by decide))), (hk8.symm.trans hSP)⟩
  · have p9 := gn_eq 0 0 (gc_eq zc5) pr1 (jv_k (x := 0) 0 (by decide)) (by decide)
    have hk10 := hk4.trans (if_pos zc5)
    refine g_iload_n cx 1 rfl e_X11_isAsked_10 ?_
    refine g_bipush cx 10 (by decide) e_X11_isAsked_11 ?_
    refine g_bipush cx 69 (by decide) e_X11_isAsked_13 ?_
    refine g_cSiW cx [.int a0, .int 10, .int 69] [] (c_X11_in l X (wM X ad F R) a0 10 69) ml_X11_165 yS_X11_in rfl e_X11_isAsked_15 (by unfold g_rr; decide) (by decide) rfl (Nat.le_of_ble_eq_true rfl) (fun r11 w12 h13 => ?_)
    obtain ⟨rfl, hr11⟩ := h13
    have pr11 : jv 0 1 r11 := by rw [hr11]; exact gi_01 _ _ _
    have hk14 := k_ls hk10 hr11
    refine g_if_eq cx 36 e_X11_isAsked_18 (by decide) (fun zc15 => ?_) (fun zc15 => ?_)
    · have p16 := gn_eq 0 0 (gc_eq zc15) pr11 (jv_k (x := 0) 0 (by decide)) (by decide)
      have hk17 := hk14.trans (if_pos zc15)
      refine g_iconst cx 0 (by decide) e_X11_isAsked_36 ?_
      exact hret e_X11_isAsked_37 (Nat.le_of_ble_eq_true rfl) (Nat.le_of_ble_eq_true rfl) rfl ⟨rfl, (jv_w (jv_k (x := 0) 0 (by decide)) (by decide)), (fun h => absurd rfl h), (hk17.symm.trans hSP)⟩
    · have p18 := gn_neL 1 1 (gc_ne zc15) pr11 (jv_k (x := 0) 0 (by decide)) (by decide)
      have p19 := jv_i 10 69 (jv_t a0) (gi_in (A := 10) (B := 69) hr11 zc15 (by decide) (by decide)) (by decide)
      have hk20 := hk14.trans (if_neg zc15)
      refine g_aload_n cx 0 rfl e_X11_isAsked_21 ?_
      refine g_iload_n cx 1 rfl e_X11_isAsked_22 ?_
      refine g_bipush cx 10 (by decide) e_X11_isAsked_23 ?_
      refine g_irem cx (by decide) e_X11_isAsked_25 ?_
      refine g_topi (fun x21 ex21 => ?_)
      have hk22 := k_ls hk20 ex21
      have zx21 := jv_rem 0 9 ex21 p19 (jv_k (x := 10) 10 (by decide)) (by decide)
      refine g_cViW cx [.int x21] [] (w_X11_isTold l X ad F R hI hA hWT hWC x21) ml_X11_179 yV_X11_isTold e_X11_isAsked_26 (by unfold g_rr; decide) (by decide) 0 rfl rfl rfl (Nat.le_of_ble_eq_true rfl) (fun r23 w24 h25 => ?_)
      obtain ⟨rfl, pr23, zx26, hx27⟩ := h25
      have hk28 := k_ls hk22 hx27
      refine g_if_eq cx 36 e_X11_isAsked_29 (by decide) (fun zc29 => ?_) (fun zc29 => ?_)
      · have p30 := gn_eq 0 0 (gc_eq zc29) pr23 (jv_k (x := 0) 0 (by decide)) (by decide)
        have hk31 := hk28.trans (if_pos zc29)
        refine g_iconst cx 0 (by decide) e_X11_isAsked_36 ?_
        exact hret e_X11_isAsked_37 (Nat.le_of_ble_eq_true rfl) (Nat.le_of_ble_eq_true rfl) rfl ⟨rfl, (jv_w (jv_k (x := 0) 0 (by decide)) (by decide)), (fun h => absurd rfl h), (hk31.symm.trans hSP)⟩
      · have p32 := gn_neL 1 1 (gc_ne zc29) pr23 (jv_k (x := 0) 0 (by decide)) (by decide)
        have hk33 := hk28.trans (if_neg zc29)
        refine g_iconst cx 1 (by decide) e_X11_isAsked_32 ?_
        refine g_goto cx 37 e_X11_isAsked_33 (by decide) ?_
        exact hret e_X11_isAsked_37 (Nat.le_of_ble_eq_true rfl) (Nat.le_of_ble_eq_true rfl) rfl ⟨rfl, (jv_w (jv_k (x := 1) 1 (by decide)) (by decide)), (fun _ => (jv_w p19 (by decide))), (hk33.symm.trans hSP)⟩
def KB_X11_laysPull_10 (b10 : (Nat → Nat → Int32) → (Int32) → (Nat → Int32) × (Nat → Nat → Int32)) (F : Nat → Int32) (F1 : Nat → Int32) (R4 : Nat → Nat → Int32) (y3 : Int32) : (Nat → Int32) × (Nat → Nat → Int32) :=
  if (F 19) ≤ y3 then (F1, R4) else k_lt (R4 10 (Int32.toNatClampNeg y3)) (fun x10 => k_lt (g_u R4 25 (upd (R4 25) (Int32.toNatClampNeg y3) x10)) (fun R12 => k_lt (y3 + 1) (fun x14 => b10 R12 x14)))
def K_X11_laysPull_10 (F : Nat → Int32) (F1 : Nat → Int32) : Nat → (Nat → Nat → Int32) → (Int32) → (Nat → Int32) × (Nat → Nat → Int32)
  | 0 => fun R4 _ => (F1, R4)
  | n + 1 => KB_X11_laysPull_10 (K_X11_laysPull_10 F F1 n) F F1
def sp_X11_laysPull (F : Nat → Int32) (R : Nat → Nat → Int32) : (Nat → Int32) × (Nat → Nat → Int32) :=
  k_lt (upd F 44 (F 19)) (fun F1 => K_X11_laysPull_10 F F1 8589934592 R 0)
theorem e_X11_laysPull_0 : g_dc cX11_laysPull 0 (.aload_n 0) 1 1 := ⟨by decide +kernel, rfl⟩
theorem e_X11_laysPull_1 : g_dc cX11_laysPull 1 (.aload_n 0) 1 2 := ⟨by decide +kernel, rfl⟩
theorem e_X11_laysPull_2 : g_dc cX11_laysPull 2 (.getfield 228) 3 5 := ⟨by decide +kernel, rfl⟩
theorem e_X11_laysPull_5 : g_dc cX11_laysPull 5 (.putfield 309) 3 8 := ⟨by decide +kernel, rfl⟩
theorem e_X11_laysPull_8 : g_dc cX11_laysPull 8 (.iconst 0) 1 9 := ⟨by decide +kernel, rfl⟩
theorem e_X11_laysPull_9 : g_dc cX11_laysPull 9 (.istore_n 1) 1 10 := ⟨by decide +kernel, rfl⟩
theorem e_X11_laysPull_10 : g_dc cX11_laysPull 10 (.iload_n 1) 1 11 := ⟨by decide +kernel, rfl⟩
theorem e_X11_laysPull_11 : g_dc cX11_laysPull 11 (.aload_n 0) 1 12 := ⟨by decide +kernel, rfl⟩
theorem e_X11_laysPull_12 : g_dc cX11_laysPull 12 (.getfield 228) 3 15 := ⟨by decide +kernel, rfl⟩
theorem e_X11_laysPull_15 : g_dc cX11_laysPull 15 (.if_icmp .ge 21) 3 18 := ⟨by decide +kernel, rfl⟩
theorem e_X11_laysPull_18 : g_dc cX11_laysPull 18 (.aload_n 0) 1 19 := ⟨by decide +kernel, rfl⟩
theorem e_X11_laysPull_19 : g_dc cX11_laysPull 19 (.getfield 83) 3 22 := ⟨by decide +kernel, rfl⟩
theorem e_X11_laysPull_22 : g_dc cX11_laysPull 22 (.iload_n 1) 1 23 := ⟨by decide +kernel, rfl⟩
theorem e_X11_laysPull_23 : g_dc cX11_laysPull 23 (.aload_n 0) 1 24 := ⟨by decide +kernel, rfl⟩
theorem e_X11_laysPull_24 : g_dc cX11_laysPull 24 (.getfield 38) 3 27 := ⟨by decide +kernel, rfl⟩
theorem e_X11_laysPull_27 : g_dc cX11_laysPull 27 (.iload_n 1) 1 28 := ⟨by decide +kernel, rfl⟩
theorem e_X11_laysPull_28 : g_dc cX11_laysPull 28 (.iaload) 1 29 := ⟨by decide +kernel, rfl⟩
theorem e_X11_laysPull_29 : g_dc cX11_laysPull 29 (.iastore) 1 30 := ⟨by decide +kernel, rfl⟩
theorem e_X11_laysPull_30 : g_dc cX11_laysPull 30 (.iinc 1 1) 3 33 := ⟨by decide +kernel, rfl⟩
theorem e_X11_laysPull_33 : g_dc cX11_laysPull 33 (.goto (-23)) 3 36 := ⟨by decide +kernel, rfl⟩
theorem e_X11_laysPull_36 : g_dc cX11_laysPull 36 (.return_) 1 37 := ⟨by decide +kernel, rfl⟩
def md_X11_laysPull : List Nat := [44]
def mr_X11_laysPull : List Nat := [25]
set_option maxHeartbeats 4000000 in
set_option maxRecDepth 100000 in
theorem w_X11_laysPull (l : Launch) (X : gX) (ad : Nat → Nat) (F : Nat → Int32) (R : Nat → Nat → Int32) (hI : g_ok LK_wM F) (hA : g_okR LA_wM R) (hWT : WT F R) (hWC : WC F R) : g_Cv l X yX11_laysPull cX11_laysPull 2 1 0 0 [.ref (ad 0)] (wM X ad F R) (fun w => ∃ (F' : Nat → Int32) (R' : Nat → Nat → Int32), w = wM X ad F' R' ∧ g_ok LK_wM F' ∧ g_okR LA_wM R' ∧ WT F' R' ∧ WC F' R' ∧ g_fr md_X11_laysPull F F' ∧ g_fr mr_X11_laysPull R R' ∧ (F', R') = sp_X11_laysPull F R) := by
  refine g_mv (by decide +kernel) (Nat.le_of_ble_eq_true rfl) (fun E cx hret => ?_)
  obtain ⟨SP, hSP⟩ : ∃ z, z = sp_X11_laysPull F R := ⟨_, rfl⟩
  have hk0 := hSP
  unfold sp_X11_laysPull at hk0
  refine g_aload_n cx 0 rfl e_X11_laysPull_0 ?_
  refine g_aload_n cx 0 rfl e_X11_laysPull_1 ?_
  refine g_get cx cl_X11 fl_X11_228 0 (.int (F 19)) e_X11_laysPull_2 rfl rfl ?_
  refine g_put cx cl_X11 fl_X11_309 0 (wM X ad (upd F 44 (F 19)) R) e_X11_laysPull_5 rfl rfl rfl rfl (Nat.le_of_ble_eq_true rfl) rfl ?_
  obtain ⟨F1, hF1⟩ : ∃ z, z = upd F 44 (F 19) := ⟨_, rfl⟩
  rw [← hF1]
  have hk2 := k_ls hk0 hF1
  have oF1 : g_ok LK_wM F1 := by rw [hF1]; exact g_ok_p hI (g_ok_g hI 3 rfl) rfl
  have fF1 : g_fr md_X11_laysPull F F1 := by rw [hF1]; exact g_fr_u (g_fr_rf F) rfl
  have wTF1 : WT F1 R := by rw [hF1]; exact WT_u hWT rfl
  have wCF1 : WC F1 R := by rw [hF1]; exact WC_u hWC rfl
  refine g_iconst cx 0 (by decide) e_X11_laysPull_8 ?_
  refine g_istore_n cx [(1, .int 0), (0, .ref (ad 0))] e_X11_laysPull_9 (by decide) rfl ?_
  have J10 : ∀ (N : Nat) (R4 : Nat → Nat → Int32) (y3 : Int32), (g_okR LA_wM R4) → (g_fr mr_X11_laysPull R R4) → (WT F1 R4) → (WC F1 R4) → (jv 0 60 y3) → (SP = K_X11_laysPull_10 F F1 N R4 y3) → (2147483647 - y3.toInt).toNat < N → G X E 2 0 0 (wM X ad F1 R4) [(0, .ref (ad 0)), (1, .int y3)] 10 [] := by
    intro N
    induction N with
    | zero => intro R4 y3 oR4 fR4 wTR4 wCR4 py3 hkJ10 hm; exact absurd hm (Nat.not_lt_zero _)
    | succ N ih10 =>
      intro R4 y3 oR4 fR4 wTR4 wCR4 py3 hkJ10 hm10
      have hkK10 : SP = KB_X11_laysPull_10 (K_X11_laysPull_10 F F1 N) F F1 R4 y3 := hkJ10
      obtain ⟨b10, hb10⟩ : ∃ z, z = K_X11_laysPull_10 F F1 N := ⟨_, rfl⟩
      rw [← hb10] at hkK10
      unfold KB_X11_laysPull_10 at hkK10
      refine g_iload_n cx 1 rfl e_X11_laysPull_10 ?_
      refine g_aload_n cx 0 rfl e_X11_laysPull_11 ?_
      refine g_get cx cl_X11 fl_X11_228 0 (.int (F1 19)) e_X11_laysPull_12 rfl rfl ?_
      refine g_toi (F 19) (g_pu2 hF1 rfl) ?_
      refine g_icmp_ge cx 36 e_X11_laysPull_15 (by decide) (fun zc5 => ?_) (fun zc5 => ?_)
      · have hk6 := hkK10.trans (if_pos zc5)
        exact hret e_X11_laysPull_36 (Nat.le_of_ble_eq_true rfl) (Nat.le_of_ble_eq_true rfl) ⟨F1, R4, rfl, oF1, oR4, wTR4, wCR4, fF1, fR4, (hk6.symm.trans hSP)⟩
      · have p7 := gn_lt 0 59 (gc_nle zc5) py3 (g_ok_g hI 3 rfl) (by decide)
        have p8 := gn_gt 1 60 (gc_nle zc5) (g_ok_g hI 3 rfl) py3 (by decide)
        have hk9 := hkK10.trans (if_neg zc5)
        refine g_aload_n cx 0 rfl e_X11_laysPull_18 ?_
        refine g_get cx cl_X11 fl_X11_83 0 (.ref (ad 25)) e_X11_laysPull_19 rfl rfl ?_
        refine g_iload_n cx 1 rfl e_X11_laysPull_22 ?_
        refine g_aload_n cx 0 rfl e_X11_laysPull_23 ?_
        refine g_get cx cl_X11 fl_X11_38 0 (.ref (ad 10)) e_X11_laysPull_24 rfl rfl ?_
        refine g_iload_n cx 1 rfl e_X11_laysPull_27 ?_
        refine g_iald cx 10 e_X11_laysPull_28 rfl (jv_ix 60 p7 (by decide)) ?_
        refine g_topi (fun x10 ex10 => ?_)
        have hk11 := k_ls hk9 ex10
        refine g_iast cx 25 (wM X ad F1 (g_u R4 25 (upd (R4 25) (Int32.toNatClampNeg y3) x10))) e_X11_laysPull_29 rfl (jv_ix 60 p7 (by decide)) rfl ?_
        obtain ⟨R12, hR12⟩ : ∃ z, z = g_u R4 25 (upd (R4 25) (Int32.toNatClampNeg y3) x10) := ⟨_, rfl⟩
        rw [← hR12]
        have hk13 := k_ls hk11 hR12
        have oR12 : g_okR LA_wM R12 := by rw [hR12]; exact g_okR_u oR4 rfl
        have fR12 : g_fr mr_X11_laysPull R R12 := by rw [hR12]; exact g_fr_r fR4 rfl
        have wTR12 : WT F1 R12 := by rw [hR12]; exact WT_r wTR4 rfl
        have wCR12 : WC F1 R12 := by rw [hR12]; exact WC_r wCR4 rfl
        obtain ⟨x14, ex14⟩ : ∃ z : Int32, z = y3 + Int32.ofInt 1 := ⟨_, rfl⟩
        have hk15 := k_ls hk13 (show x14 = y3 + 1 from ex14)
        refine g_iinc cx x14 [(1, .int x14), (0, .ref (ad 0))] 1 e_X11_laysPull_30 rfl ex14.symm (by decide) rfl ?_
        have zx14 := jv_add 1 60 (show x14 = y3 + 1 from ex14) p7 (jv_k (x := 1) 1 (by decide)) (by decide)
        refine g_goto cx 10 e_X11_laysPull_33 (by decide) ?_
        refine g_lsub [1, 0] [(0, .ref (ad 0)), (1, .int x14)] rfl ?_
        exact ih10 R12 x14 oR12 fR12 wTR12 wCR12 (jv_w zx14.2 (by decide)) (hk15.trans (by rw [hb10])) (Nat.lt_of_lt_of_le (show (2147483647 - x14.toInt).toNat < (2147483647 - y3.toInt).toNat from by have q0 := (jv_k (x := 1) 1 (by decide)).1; have q1 := (jv_k (x := 1) 1 (by decide)).2; have q2 := p8.1; have q3 := p8.2; have q4 := zx14.2.1; have q5 := zx14.2.2; have q6 := p7.1; have q7 := p7.2; have q8 := (gc_nle zc5); have q9 := (g_eq0 zx14.1); omega) (Nat.le_of_lt_succ hm10))
  refine g_lsub [1, 0] [(0, .ref (ad 0)), (1, .int 0)] rfl ?_
  exact J10 8589934592 R 0 hA (g_fr_rf R) wTF1 wCF1 (jv_w (jv_k (x := 0) 0 (by decide)) (by decide)) hk2 (show (2147483647 - (0 : Int32).toInt).toNat < 8589934592 from by have q0 := (jv_k (x := 0) 0 (by decide)).1; have q1 := (jv_k (x := 0) 0 (by decide)).2; omega)
def KB_X11_laysThings_28 (b28 : (Nat → Nat → Int32) → (Int32) → (Nat → Int32) × (Nat → Nat → Int32)) (F7 : Nat → Int32) (R10 : Nat → Nat → Int32) (y9 : Int32) : (Nat → Int32) × (Nat → Nat → Int32) :=
  if 10 ≤ y9 then (F7, R10) else k_lt (R10 2 (Int32.toNatClampNeg y9)) (fun x16 => k_lt (g_u R10 26 (upd (R10 26) (Int32.toNatClampNeg y9) x16)) (fun R18 => k_lt (R18 6 (Int32.toNatClampNeg y9)) (fun x20 => k_lt (g_u R18 30 (upd (R18 30) (Int32.toNatClampNeg y9) x20)) (fun R22 => k_lt (y9 + 1) (fun x24 => b28 R22 x24)))))
def K_X11_laysThings_28 (F7 : Nat → Int32) : Nat → (Nat → Nat → Int32) → (Int32) → (Nat → Int32) × (Nat → Nat → Int32)
  | 0 => fun R10 _ => (F7, R10)
  | n + 1 => KB_X11_laysThings_28 (K_X11_laysThings_28 F7 n) F7
def sp_X11_laysThings (F : Nat → Int32) (R : Nat → Nat → Int32) : (Nat → Int32) × (Nat → Nat → Int32) :=
  k_lt (upd F 42 (F 4)) (fun F1 => k_lt (upd F1 43 (F 2)) (fun F3 => k_lt (upd F3 51 0) (fun F5 => k_lt (upd F5 49 0) (fun F7 => K_X11_laysThings_28 F7 8589934592 R 0))))
theorem e_X11_laysThings_0 : g_dc cX11_laysThings 0 (.aload_n 0) 1 1 := ⟨by decide +kernel, rfl⟩
theorem e_X11_laysThings_1 : g_dc cX11_laysThings 1 (.aload_n 0) 1 2 := ⟨by decide +kernel, rfl⟩
theorem e_X11_laysThings_2 : g_dc cX11_laysThings 2 (.getfield 172) 3 5 := ⟨by decide +kernel, rfl⟩
theorem e_X11_laysThings_5 : g_dc cX11_laysThings 5 (.putfield 312) 3 8 := ⟨by decide +kernel, rfl⟩
theorem e_X11_laysThings_8 : g_dc cX11_laysThings 8 (.aload_n 0) 1 9 := ⟨by decide +kernel, rfl⟩
theorem e_X11_laysThings_9 : g_dc cX11_laysThings 9 (.aload_n 0) 1 10 := ⟨by decide +kernel, rfl⟩
theorem e_X11_laysThings_10 : g_dc cX11_laysThings 10 (.getfield 169) 3 13 := ⟨by decide +kernel, rfl⟩
theorem e_X11_laysThings_13 : g_dc cX11_laysThings 13 (.putfield 315) 3 16 := ⟨by decide +kernel, rfl⟩
theorem e_X11_laysThings_16 : g_dc cX11_laysThings 16 (.aload_n 0) 1 17 := ⟨by decide +kernel, rfl⟩
theorem e_X11_laysThings_17 : g_dc cX11_laysThings 17 (.iconst 0) 1 18 := ⟨by decide +kernel, rfl⟩
theorem e_X11_laysThings_18 : g_dc cX11_laysThings 18 (.putfield 318) 3 21 := ⟨by decide +kernel, rfl⟩
theorem e_X11_laysThings_21 : g_dc cX11_laysThings 21 (.aload_n 0) 1 22 := ⟨by decide +kernel, rfl⟩
theorem e_X11_laysThings_22 : g_dc cX11_laysThings 22 (.iconst 0) 1 23 := ⟨by decide +kernel, rfl⟩
theorem e_X11_laysThings_23 : g_dc cX11_laysThings 23 (.putfield 322) 3 26 := ⟨by decide +kernel, rfl⟩
theorem e_X11_laysThings_26 : g_dc cX11_laysThings 26 (.iconst 0) 1 27 := ⟨by decide +kernel, rfl⟩
theorem e_X11_laysThings_27 : g_dc cX11_laysThings 27 (.istore_n 1) 1 28 := ⟨by decide +kernel, rfl⟩
theorem e_X11_laysThings_28 : g_dc cX11_laysThings 28 (.iload_n 1) 1 29 := ⟨by decide +kernel, rfl⟩
theorem e_X11_laysThings_29 : g_dc cX11_laysThings 29 (.bipush 10) 2 31 := ⟨by decide +kernel, rfl⟩
theorem e_X11_laysThings_31 : g_dc cX11_laysThings 31 (.if_icmp .ge 33) 3 34 := ⟨by decide +kernel, rfl⟩
theorem e_X11_laysThings_34 : g_dc cX11_laysThings 34 (.aload_n 0) 1 35 := ⟨by decide +kernel, rfl⟩
theorem e_X11_laysThings_35 : g_dc cX11_laysThings 35 (.getfield 86) 3 38 := ⟨by decide +kernel, rfl⟩
theorem e_X11_laysThings_38 : g_dc cX11_laysThings 38 (.iload_n 1) 1 39 := ⟨by decide +kernel, rfl⟩
theorem e_X11_laysThings_39 : g_dc cX11_laysThings 39 (.aload_n 0) 1 40 := ⟨by decide +kernel, rfl⟩
theorem e_X11_laysThings_40 : g_dc cX11_laysThings 40 (.getfield 13) 3 43 := ⟨by decide +kernel, rfl⟩
theorem e_X11_laysThings_43 : g_dc cX11_laysThings 43 (.iload_n 1) 1 44 := ⟨by decide +kernel, rfl⟩
theorem e_X11_laysThings_44 : g_dc cX11_laysThings 44 (.iaload) 1 45 := ⟨by decide +kernel, rfl⟩
theorem e_X11_laysThings_45 : g_dc cX11_laysThings 45 (.iastore) 1 46 := ⟨by decide +kernel, rfl⟩
theorem e_X11_laysThings_46 : g_dc cX11_laysThings 46 (.aload_n 0) 1 47 := ⟨by decide +kernel, rfl⟩
theorem e_X11_laysThings_47 : g_dc cX11_laysThings 47 (.getfield 98) 3 50 := ⟨by decide +kernel, rfl⟩
theorem e_X11_laysThings_50 : g_dc cX11_laysThings 50 (.iload_n 1) 1 51 := ⟨by decide +kernel, rfl⟩
theorem e_X11_laysThings_51 : g_dc cX11_laysThings 51 (.aload_n 0) 1 52 := ⟨by decide +kernel, rfl⟩
theorem e_X11_laysThings_52 : g_dc cX11_laysThings 52 (.getfield 25) 3 55 := ⟨by decide +kernel, rfl⟩
theorem e_X11_laysThings_55 : g_dc cX11_laysThings 55 (.iload_n 1) 1 56 := ⟨by decide +kernel, rfl⟩
theorem e_X11_laysThings_56 : g_dc cX11_laysThings 56 (.iaload) 1 57 := ⟨by decide +kernel, rfl⟩
theorem e_X11_laysThings_57 : g_dc cX11_laysThings 57 (.iastore) 1 58 := ⟨by decide +kernel, rfl⟩
theorem e_X11_laysThings_58 : g_dc cX11_laysThings 58 (.iinc 1 1) 3 61 := ⟨by decide +kernel, rfl⟩
theorem e_X11_laysThings_61 : g_dc cX11_laysThings 61 (.goto (-33)) 3 64 := ⟨by decide +kernel, rfl⟩
theorem e_X11_laysThings_64 : g_dc cX11_laysThings 64 (.return_) 1 65 := ⟨by decide +kernel, rfl⟩
def md_X11_laysThings : List Nat := [42, 43, 49, 51]
def mr_X11_laysThings : List Nat := [26, 30]
set_option maxHeartbeats 4000000 in
set_option maxRecDepth 100000 in
theorem w_X11_laysThings (l : Launch) (X : gX) (ad : Nat → Nat) (F : Nat → Int32) (R : Nat → Nat → Int32) (hI : g_ok LK_wM F) (hA : g_okR LA_wM R) (hWT : WT F R) (hWC : WC F R) : g_Cv l X yX11_laysThings cX11_laysThings 2 1 0 0 [.ref (ad 0)] (wM X ad F R) (fun w => ∃ (F' : Nat → Int32) (R' : Nat → Nat → Int32), w = wM X ad F' R' ∧ g_ok LK_wM F' ∧ g_okR LA_wM R' ∧ WT F' R' ∧ WC F' R' ∧ g_fr md_X11_laysThings F F' ∧ g_fr mr_X11_laysThings R R' ∧ F' 42 = F' 4 ∧ (F', R') = sp_X11_laysThings F R) := by
  refine g_mv (by decide +kernel) (Nat.le_of_ble_eq_true rfl) (fun E cx hret => ?_)
  obtain ⟨SP, hSP⟩ : ∃ z, z = sp_X11_laysThings F R := ⟨_, rfl⟩
  have hk0 := hSP
  unfold sp_X11_laysThings at hk0
  refine g_aload_n cx 0 rfl e_X11_laysThings_0 ?_
  refine g_aload_n cx 0 rfl e_X11_laysThings_1 ?_
  refine g_get cx cl_X11 fl_X11_172 0 (.int (F 4)) e_X11_laysThings_2 rfl rfl ?_
  refine g_put cx cl_X11 fl_X11_312 0 (wM X ad (upd F 42 (F 4)) R) e_X11_laysThings_5 rfl rfl rfl rfl (Nat.le_of_ble_eq_true rfl) rfl ?_
  obtain ⟨F1, hF1⟩ : ∃ z, z = upd F 42 (F 4) := ⟨_, rfl⟩
  rw [← hF1]
  have hk2 := k_ls hk0 hF1
  have oF1 : g_ok LK_wM F1 := by rw [hF1]; exact g_ok_u hI rfl
  have fF1 : g_fr md_X11_laysThings F F1 := by rw [hF1]; exact g_fr_u (g_fr_rf F) rfl
  have wTF1 : WT F1 R := by rw [hF1]; exact WT_u hWT rfl
  have wCF1 : WC F1 R := by rw [hF1]; exact WC_u hWC rfl
  refine g_aload_n cx 0 rfl e_X11_laysThings_8 ?_
  refine g_aload_n cx 0 rfl e_X11_laysThings_9 ?_
  refine g_get cx cl_X11 fl_X11_169 0 (.int (F1 2)) e_X11_laysThings_10 rfl rfl ?_
  refine g_toi (F 2) (g_pu2 hF1 rfl) ?_
  refine g_put cx cl_X11 fl_X11_315 0 (wM X ad (upd F1 43 (F 2)) R) e_X11_laysThings_13 rfl rfl rfl rfl (Nat.le_of_ble_eq_true rfl) rfl ?_
  obtain ⟨F3, hF3⟩ : ∃ z, z = upd F1 43 (F 2) := ⟨_, rfl⟩
  rw [← hF3]
  have hk4 := k_ls hk2 hF3
  have oF3 : g_ok LK_wM F3 := by rw [hF3]; exact g_ok_u oF1 rfl
  have fF3 : g_fr md_X11_laysThings F F3 := by rw [hF3]; exact g_fr_u fF1 rfl
  have wTF3 : WT F3 R := by rw [hF3]; exact WT_u wTF1 rfl
  have wCF3 : WC F3 R := by rw [hF3]; exact WC_u wCF1 rfl
  refine g_aload_n cx 0 rfl e_X11_laysThings_16 ?_
  refine g_iconst cx 0 (by decide) e_X11_laysThings_17 ?_
  refine g_put cx cl_X11 fl_X11_318 0 (wM X ad (upd F3 51 0) R) e_X11_laysThings_18 rfl rfl rfl rfl (Nat.le_of_ble_eq_true rfl) rfl ?_
  obtain ⟨F5, hF5⟩ : ∃ z, z = upd F3 51 0 := ⟨_, rfl⟩
  rw [← hF5]
  have hk6 := k_ls hk4 hF5
  have oF5 : g_ok LK_wM F5 := by rw [hF5]; exact g_ok_p oF3 (jv_k (x := 0) 0 (by decide)) rfl
  have fF5 : g_fr md_X11_laysThings F F5 := by rw [hF5]; exact g_fr_u fF3 rfl
  have wTF5 : WT F5 R := by rw [hF5]; exact WT_u wTF3 rfl
  have wCF5 : WC F5 R := by rw [hF5]; exact WC_u wCF3 rfl
  refine g_aload_n cx 0 rfl e_X11_laysThings_21 ?_
  refine g_iconst cx 0 (by decide) e_X11_laysThings_22 ?_
  refine g_put cx cl_X11 fl_X11_322 0 (wM X ad (upd F5 49 0) R) e_X11_laysThings_23 rfl rfl rfl rfl (Nat.le_of_ble_eq_true rfl) rfl ?_
  obtain ⟨F7, hF7⟩ : ∃ z, z = upd F5 49 0 := ⟨_, rfl⟩
  rw [← hF7]
  have hk8 := k_ls hk6 hF7
  have oF7 : g_ok LK_wM F7 := by rw [hF7]; exact g_ok_u oF5 rfl
  have fF7 : g_fr md_X11_laysThings F F7 := by rw [hF7]; exact g_fr_u fF5 rfl
  have wTF7 : WT F7 R := by rw [hF7]; exact WT_u wTF5 rfl
  have wCF7 : WC F7 R := by rw [hF7]; exact WC_u wCF5 rfl
  refine g_iconst cx 0 (by decide) e_X11_laysThings_26 ?_
  refine g_istore_n cx [(1, .int 0), (0, .ref (ad 0))] e_X11_laysThings_27 (by decide) rfl ?_
  have J28 : ∀ (N : Nat) (R10 : Nat → Nat → Int32) (y9 : Int32), (g_okR LA_wM R10) → (g_fr mr_X11_laysThings R R10) → (WT F7 R10) → (WC F7 R10) → (jv 0 10 y9) → (SP = K_X11_laysThings_28 F7 N R10 y9) → (2147483647 - y9.toInt).toNat < N → G X E 2 0 0 (wM X ad F7 R10) [(0, .ref (ad 0)), (1, .int y9)] 28 [] := by
    intro N
    induction N with
    | zero => intro R10 y9 oR10 fR10 wTR10 wCR10 py9 hkJ28 hm; exact absurd hm (Nat.not_lt_zero _)
    | succ N ih28 =>
      intro R10 y9 oR10 fR10 wTR10 wCR10 py9 hkJ28 hm28
      have hkK28 : SP = KB_X11_laysThings_28 (K_X11_laysThings_28 F7 N) F7 R10 y9 := hkJ28
      obtain ⟨b28, hb28⟩ : ∃ z, z = K_X11_laysThings_28 F7 N := ⟨_, rfl⟩
      rw [← hb28] at hkK28
      unfold KB_X11_laysThings_28 at hkK28
      refine g_iload_n cx 1 rfl e_X11_laysThings_28 ?_
      refine g_bipush cx 10 (by decide) e_X11_laysThings_29 ?_
      refine g_icmp_ge cx 64 e_X11_laysThings_31 (by decide) (fun zc11 => ?_) (fun zc11 => ?_)
      · have p12 := gn_ge 10 10 (gc_le zc11) py9 (jv_k (x := 10) 10 (by decide)) (by decide)
        have hk13 := hkK28.trans (if_pos zc11)
        exact hret e_X11_laysThings_64 (Nat.le_of_ble_eq_true rfl) (Nat.le_of_ble_eq_true rfl) ⟨F7, R10, rfl, oF7, oR10, wTR10, wCR10, fF7, fR10, (((((g_pu2 hF7 rfl).trans (g_pu2 hF5 rfl)).trans (g_pu2 hF3 rfl)).trans (g_pu1 hF1)).trans ((((g_pu2 hF7 rfl).trans (g_pu2 hF5 rfl)).trans (g_pu2 hF3 rfl)).trans (g_pu2 hF1 rfl)).symm), (hk13.symm.trans hSP)⟩
      · have p14 := gn_lt 0 9 (gc_nle zc11) py9 (jv_k (x := 10) 10 (by decide)) (by decide)
        have hk15 := hkK28.trans (if_neg zc11)
        refine g_aload_n cx 0 rfl e_X11_laysThings_34 ?_
        refine g_get cx cl_X11 fl_X11_86 0 (.ref (ad 26)) e_X11_laysThings_35 rfl rfl ?_
        refine g_iload_n cx 1 rfl e_X11_laysThings_38 ?_
        refine g_aload_n cx 0 rfl e_X11_laysThings_39 ?_
        refine g_get cx cl_X11 fl_X11_13 0 (.ref (ad 2)) e_X11_laysThings_40 rfl rfl ?_
        refine g_iload_n cx 1 rfl e_X11_laysThings_43 ?_
        refine g_iald cx 2 e_X11_laysThings_44 rfl (jv_ix 10 p14 (by decide)) ?_
        refine g_topi (fun x16 ex16 => ?_)
        have hk17 := k_ls hk15 ex16
        refine g_iast cx 26 (wM X ad F7 (g_u R10 26 (upd (R10 26) (Int32.toNatClampNeg y9) x16))) e_X11_laysThings_45 rfl (jv_ix 10 p14 (by decide)) rfl ?_
        obtain ⟨R18, hR18⟩ : ∃ z, z = g_u R10 26 (upd (R10 26) (Int32.toNatClampNeg y9) x16) := ⟨_, rfl⟩
        rw [← hR18]
        have hk19 := k_ls hk17 hR18
        have oR18 : g_okR LA_wM R18 := by rw [hR18]; exact g_okR_u oR10 rfl
        have fR18 : g_fr mr_X11_laysThings R R18 := by rw [hR18]; exact g_fr_r fR10 rfl
        have wTR18 : WT F7 R18 := by rw [hR18]; exact WT_r wTR10 rfl
        have wCR18 : WC F7 R18 := by rw [hR18]; exact WC_r wCR10 rfl
        refine g_aload_n cx 0 rfl e_X11_laysThings_46 ?_
        refine g_get cx cl_X11 fl_X11_98 0 (.ref (ad 30)) e_X11_laysThings_47 rfl rfl ?_
        refine g_iload_n cx 1 rfl e_X11_laysThings_50 ?_
        refine g_aload_n cx 0 rfl e_X11_laysThings_51 ?_
        refine g_get cx cl_X11 fl_X11_25 0 (.ref (ad 6)) e_X11_laysThings_52 rfl rfl ?_
        refine g_iload_n cx 1 rfl e_X11_laysThings_55 ?_
        refine g_iald cx 6 e_X11_laysThings_56 rfl (jv_ix 10 p14 (by decide)) ?_
        refine g_topi (fun x20 ex20 => ?_)
        have hk21 := k_ls hk19 ex20
        refine g_iast cx 30 (wM X ad F7 (g_u R18 30 (upd (R18 30) (Int32.toNatClampNeg y9) x20))) e_X11_laysThings_57 rfl (jv_ix 10 p14 (by decide)) rfl ?_
        obtain ⟨R22, hR22⟩ : ∃ z, z = g_u R18 30 (upd (R18 30) (Int32.toNatClampNeg y9) x20) := ⟨_, rfl⟩
        rw [← hR22]
        have hk23 := k_ls hk21 hR22
        have oR22 : g_okR LA_wM R22 := by rw [hR22]; exact g_okR_u oR18 rfl
        have fR22 : g_fr mr_X11_laysThings R R22 := by rw [hR22]; exact g_fr_r fR18 rfl
        have wTR22 : WT F7 R22 := by rw [hR22]; exact WT_r wTR18 rfl
        have wCR22 : WC F7 R22 := by rw [hR22]; exact WC_r wCR18 rfl
        obtain ⟨x24, ex24⟩ : ∃ z : Int32, z = y9 + Int32.ofInt 1 := ⟨_, rfl⟩
        have hk25 := k_ls hk23 (show x24 = y9 + 1 from ex24)
        refine g_iinc cx x24 [(1, .int x24), (0, .ref (ad 0))] 1 e_X11_laysThings_58 rfl ex24.symm (by decide) rfl ?_
        have zx24 := jv_add 1 10 (show x24 = y9 + 1 from ex24) p14 (jv_k (x := 1) 1 (by decide)) (by decide)
        refine g_goto cx 28 e_X11_laysThings_61 (by decide) ?_
        refine g_lsub [1, 0] [(0, .ref (ad 0)), (1, .int x24)] rfl ?_
        exact ih28 R22 x24 oR22 fR22 wTR22 wCR22 (jv_w zx24.2 (by decide)) (hk25.trans (by rw [hb28])) (Nat.lt_of_lt_of_le (show (2147483647 - x24.toInt).toNat < (2147483647 - y9.toInt).toNat from by have q0 := (jv_k (x := 1) 1 (by decide)).1; have q1 := (jv_k (x := 1) 1 (by decide)).2; have q2 := (jv_k (x := 10) 10 (by decide)).1; have q3 := (jv_k (x := 10) 10 (by decide)).2; have q4 := zx24.2.1; have q5 := zx24.2.2; have q6 := p14.1; have q7 := p14.2; have q8 := (gc_nle zc11); have q9 := (g_eq0 zx24.1); omega) (Nat.le_of_lt_succ hm28))
  refine g_lsub [1, 0] [(0, .ref (ad 0)), (1, .int 0)] rfl ?_
  exact J28 8589934592 R 0 hA (g_fr_rf R) wTF7 wCF7 (jv_w (jv_k (x := 0) 0 (by decide)) (by decide)) hk8 (show (2147483647 - (0 : Int32).toInt).toNat < 8589934592 from by have q0 := (jv_k (x := 0) 0 (by decide)).1; have q1 := (jv_k (x := 0) 0 (by decide)).2; omega)
def sp_X11_runsDrawn (F : Nat → Int32) (R : Nat → Nat → Int32) : (Nat → Int32) × (Nat → Nat → Int32) :=
  k_lt2 (sp_X11_laysPull F R) (fun F5 R6 => k_lt2 (sp_X11_laysThings F5 R6) (fun F13 R14 => k_lt (upd F13 51 1) (fun F16 => k_lt2 (sp_X11_runs F16 R14) (fun F22 R23 => (F22, R23)))))
theorem e_X11_runsDrawn_0 : g_dc cX11_runsDrawn 0 (.aload_n 0) 1 1 := ⟨by decide +kernel, rfl⟩
theorem e_X11_runsDrawn_1 : g_dc cX11_runsDrawn 1 (.invokevirtual 422) 3 4 := ⟨by decide +kernel, rfl⟩
theorem e_X11_runsDrawn_4 : g_dc cX11_runsDrawn 4 (.aload_n 0) 1 5 := ⟨by decide +kernel, rfl⟩
theorem e_X11_runsDrawn_5 : g_dc cX11_runsDrawn 5 (.invokevirtual 425) 3 8 := ⟨by decide +kernel, rfl⟩
theorem e_X11_runsDrawn_8 : g_dc cX11_runsDrawn 8 (.aload_n 0) 1 9 := ⟨by decide +kernel, rfl⟩
theorem e_X11_runsDrawn_9 : g_dc cX11_runsDrawn 9 (.iconst 1) 1 10 := ⟨by decide +kernel, rfl⟩
theorem e_X11_runsDrawn_10 : g_dc cX11_runsDrawn 10 (.putfield 318) 3 13 := ⟨by decide +kernel, rfl⟩
theorem e_X11_runsDrawn_13 : g_dc cX11_runsDrawn 13 (.aload_n 0) 1 14 := ⟨by decide +kernel, rfl⟩
theorem e_X11_runsDrawn_14 : g_dc cX11_runsDrawn 14 (.invokevirtual 428) 3 17 := ⟨by decide +kernel, rfl⟩
theorem e_X11_runsDrawn_17 : g_dc cX11_runsDrawn 17 (.return_) 1 18 := ⟨by decide +kernel, rfl⟩
def md_X11_runsDrawn : List Nat := [3, 42, 43, 44, 45, 46, 47, 48, 49, 50, 51, 65, 66, 67, 68, 69]
def mr_X11_runsDrawn : List Nat := [23, 24, 25, 26, 27, 28, 29, 30, 31, 32, 33, 34, 35, 36, 37]
set_option maxHeartbeats 4000000 in
set_option maxRecDepth 100000 in
theorem w_X11_runsDrawn (l : Launch) (X : gX) (ad : Nat → Nat) (F : Nat → Int32) (R : Nat → Nat → Int32) (hI : g_ok LK_wM F) (hA : g_okR LA_wM R) (hWT : WT F R) (hWC : WC F R) : g_Cv l X yX11_runsDrawn cX11_runsDrawn 1 7 0 0 [.ref (ad 0)] (wM X ad F R) (fun w => ∃ (F' : Nat → Int32) (R' : Nat → Nat → Int32), w = wM X ad F' R' ∧ g_ok LK_wM F' ∧ g_okR LA_wM R' ∧ WT F' R' ∧ WC F' R' ∧ g_fr md_X11_runsDrawn F F' ∧ g_fr mr_X11_runsDrawn R R' ∧ (F', R') = sp_X11_runsDrawn F R) := by
  refine g_mv (by decide +kernel) (Nat.le_of_ble_eq_true rfl) (fun E cx hret => ?_)
  obtain ⟨SP, hSP⟩ : ∃ z, z = sp_X11_runsDrawn F R := ⟨_, rfl⟩
  have hk0 := hSP
  unfold sp_X11_runsDrawn at hk0
  refine g_aload_n cx 0 rfl e_X11_runsDrawn_0 ?_
  refine g_cVvW cx [] [] (w_X11_laysPull l X ad F R hI hA hWT hWC) ml_X11_422 yV_X11_laysPull e_X11_runsDrawn_1 (by unfold g_rr; decide) (by decide) 0 rfl rfl rfl (Nat.le_of_ble_eq_true rfl) (fun w2 h3 => ?_)
  obtain ⟨F5, R6, rfl, oF5, oR6, wTF5, wCF5, cF5, cR6, hx4⟩ := h3
  have hk7 := k_ls2 hk0 hx4
  have fF5 : g_fr md_X11_runsDrawn F F5 := g_fr_c (g_fr_rf F) cF5 rfl
  have fR6 : g_fr mr_X11_runsDrawn R R6 := g_fr_c (g_fr_rf R) cR6 rfl
  refine g_aload_n cx 0 rfl e_X11_runsDrawn_4 ?_
  refine g_cVvW cx [] [] (w_X11_laysThings l X ad F5 R6 oF5 oR6 wTF5 wCF5) ml_X11_425 yV_X11_laysThings e_X11_runsDrawn_5 (by unfold g_rr; decide) (by decide) 0 rfl rfl rfl (Nat.le_of_ble_eq_true rfl) (fun w9 h10 => ?_)
  obtain ⟨F13, R14, rfl, oF13, oR14, wTF13, wCF13, cF13, cR14, zx11, hx12⟩ := h10
  have hk15 := k_ls2 hk7 hx12
  have fF13 : g_fr md_X11_runsDrawn F F13 := g_fr_c fF5 cF13 rfl
  have fR14 : g_fr mr_X11_runsDrawn R R14 := g_fr_c fR6 cR14 rfl
  refine g_aload_n cx 0 rfl e_X11_runsDrawn_8 ?_
  refine g_iconst cx 1 (by decide) e_X11_runsDrawn_9 ?_
  refine g_put cx cl_X11 fl_X11_318 0 (wM X ad (upd F13 51 1) R14) e_X11_runsDrawn_10 rfl rfl rfl rfl (Nat.le_of_ble_eq_true rfl) rfl ?_
  obtain ⟨F16, hF16⟩ : ∃ z, z = upd F13 51 1 := ⟨_, rfl⟩
  rw [← hF16]
  have hk17 := k_ls hk15 hF16
  have oF16 : g_ok LK_wM F16 := by rw [hF16]; exact g_ok_p oF13 (jv_k (x := 1) 1 (by decide)) rfl
  have fF16 : g_fr md_X11_runsDrawn F F16 := by rw [hF16]; exact g_fr_u fF13 rfl
  have wTF16 : WT F16 R14 := by rw [hF16]; exact WT_u wTF13 rfl
  have wCF16 : WC F16 R14 := by rw [hF16]; exact WC_u wCF13 rfl
  refine g_aload_n cx 0 rfl e_X11_runsDrawn_13 ?_
  refine g_cVvW cx [] [] (w_X11_runs l X ad F16 R14 oF16 oR14 wTF16 wCF16 (WN_of wTF16 ((((g_pu2 hF16 rfl).trans zx11).trans ((cF13 4 rfl).trans (cF5 4 rfl))).trans (((g_pu2 hF16 rfl).trans (cF13 4 rfl)).trans (cF5 4 rfl)).symm))) ml_X11_428 yV_X11_runs e_X11_runsDrawn_14 (by unfold g_rr; decide) (by decide) 0 rfl rfl rfl (Nat.le_of_ble_eq_true rfl) (fun w19 h20 => ?_)
  obtain ⟨F22, R23, rfl, oF22, oR23, wTF22, wCF22, cF22, cR23, hx21⟩ := h20
  have hk24 := k_ls2 hk17 hx21
  have fF22 : g_fr md_X11_runsDrawn F F22 := g_fr_c fF16 cF22 rfl
  have fR23 : g_fr mr_X11_runsDrawn R R23 := g_fr_c fR14 cR23 rfl
  exact hret e_X11_runsDrawn_17 (Nat.le_of_ble_eq_true rfl) (Nat.le_of_ble_eq_true rfl) ⟨F22, R23, rfl, oF22, oR23, wTF22, wCF22, fF22, fR23, (hk24.symm.trans hSP)⟩
def K_X11_endsAt_20  (y3 : Int32) : Int32 :=
  y3
def sp_X11_endsAt (F : Nat → Int32) (R : Nat → Nat → Int32) (a0 : Int32) : Int32 :=
  k_lt (R 28 (Int32.toNatClampNeg a0)) (fun x1 => if x1 = 2 then K_X11_endsAt_20 (-1) else k_lt (R 26 (Int32.toNatClampNeg a0)) (fun x6 => K_X11_endsAt_20 x6))
theorem e_X11_endsAt_0 : g_dc cX11_endsAt 0 (.aload_n 0) 1 1 := ⟨by decide +kernel, rfl⟩
theorem e_X11_endsAt_1 : g_dc cX11_endsAt 1 (.getfield 92) 3 4 := ⟨by decide +kernel, rfl⟩
theorem e_X11_endsAt_4 : g_dc cX11_endsAt 4 (.iload_n 1) 1 5 := ⟨by decide +kernel, rfl⟩
theorem e_X11_endsAt_5 : g_dc cX11_endsAt 5 (.iaload) 1 6 := ⟨by decide +kernel, rfl⟩
theorem e_X11_endsAt_6 : g_dc cX11_endsAt 6 (.iconst 2) 1 7 := ⟨by decide +kernel, rfl⟩
theorem e_X11_endsAt_7 : g_dc cX11_endsAt 7 (.if_icmp .ne 7) 3 10 := ⟨by decide +kernel, rfl⟩
theorem e_X11_endsAt_10 : g_dc cX11_endsAt 10 (.iconst (-1)) 1 11 := ⟨by decide +kernel, rfl⟩
theorem e_X11_endsAt_11 : g_dc cX11_endsAt 11 (.goto 9) 3 14 := ⟨by decide +kernel, rfl⟩
theorem e_X11_endsAt_14 : g_dc cX11_endsAt 14 (.aload_n 0) 1 15 := ⟨by decide +kernel, rfl⟩
theorem e_X11_endsAt_15 : g_dc cX11_endsAt 15 (.getfield 86) 3 18 := ⟨by decide +kernel, rfl⟩
theorem e_X11_endsAt_18 : g_dc cX11_endsAt 18 (.iload_n 1) 1 19 := ⟨by decide +kernel, rfl⟩
theorem e_X11_endsAt_19 : g_dc cX11_endsAt 19 (.iaload) 1 20 := ⟨by decide +kernel, rfl⟩
theorem e_X11_endsAt_20 : g_dc cX11_endsAt 20 (.ireturn) 1 21 := ⟨by decide +kernel, rfl⟩
set_option maxHeartbeats 4000000 in
set_option maxRecDepth 100000 in
theorem w_X11_endsAt (l : Launch) (X : gX) (ad : Nat → Nat) (F : Nat → Int32) (R : Nat → Nat → Int32) (hI : g_ok LK_wM F) (hA : g_okR LA_wM R) (hWT : WT F R) (hWC : WC F R) (a0 : Int32) (pa0 : jv 0 9 a0) : g_Ci l X yX11_endsAt cX11_endsAt 2 (some .int) 1 0 0 [.ref (ad 0), .int a0] (wM X ad F R) (fun r w => w = wM X ad F R ∧ jv (-2147483648) 2147483647 r ∧ r = sp_X11_endsAt F R a0) := by
  refine g_mi (by decide +kernel) (Nat.le_of_ble_eq_true rfl) (fun E cx hret => ?_)
  obtain ⟨SP, hSP⟩ : ∃ z, z = sp_X11_endsAt F R a0 := ⟨_, rfl⟩
  have hk0 := hSP
  unfold sp_X11_endsAt at hk0
  refine g_aload_n cx 0 rfl e_X11_endsAt_0 ?_
  refine g_get cx cl_X11 fl_X11_92 0 (.ref (ad 28)) e_X11_endsAt_1 rfl rfl ?_
  refine g_iload_n cx 1 rfl e_X11_endsAt_4 ?_
  refine g_iald cx 28 e_X11_endsAt_5 rfl (jv_ix 10 pa0 (by decide)) ?_
  refine g_topi (fun x1 ex1 => ?_)
  have hk2 := k_ls hk0 ex1
  refine g_iconst cx 2 (by decide) e_X11_endsAt_6 ?_
  have J20 : ∀ (y3 : Int32), (jv (-2147483648) 2147483647 y3) → (SP = K_X11_endsAt_20 y3) → G X E 2 0 0 (wM X ad F R) [] 20 [.int y3] := by
    intro y3 py3 hkJ20
    unfold K_X11_endsAt_20 at hkJ20
    exact hret e_X11_endsAt_20 (Nat.le_of_ble_eq_true rfl) (Nat.le_of_ble_eq_true rfl) rfl ⟨rfl, py3, (hkJ20.symm.trans hSP)⟩
  refine g_icmp_ne cx 14 e_X11_endsAt_7 (by decide) (fun zc4 => ?_) (fun zc4 => ?_)
  · have hk5 := hk2.trans (if_neg zc4)
    refine g_aload_n cx 0 rfl e_X11_endsAt_14 ?_
    refine g_get cx cl_X11 fl_X11_86 0 (.ref (ad 26)) e_X11_endsAt_15 rfl rfl ?_
    refine g_iload_n cx 1 rfl e_X11_endsAt_18 ?_
    refine g_iald cx 26 e_X11_endsAt_19 rfl (jv_ix 10 pa0 (by decide)) ?_
    refine g_topi (fun x6 ex6 => ?_)
    have hk7 := k_ls hk5 ex6
    refine g_lsub [] [] rfl ?_
    exact J20 x6 (jv_t x6) hk7
  · have p8 := gn_eq 2 2 (gc_eq zc4) (jv_t x1) (jv_k (x := 2) 2 (by decide)) (by decide)
    have hk9 := hk2.trans (if_pos zc4)
    refine g_iconst cx (-1) (by decide) e_X11_endsAt_10 ?_
    refine g_goto cx 20 e_X11_endsAt_11 (by decide) ?_
    refine g_lsub [] [] rfl ?_
    exact J20 (-1) (jv_w (jv_k (x := (-1)) (-1) (by decide)) (by decide)) hk9
def K_X11_standing_24 (b4 : (Int32) → (Int32) → Int32) (y2 : Int32) (y14 : Int32) : Int32 :=
  k_lt (y2 + 1) (fun x15 => b4 y14 x15)
def KB_X11_standing_4 (b4 : (Int32) → (Int32) → Int32) (F : Nat → Int32) (R : Nat → Nat → Int32) (y1 : Int32) (y2 : Int32) : Int32 :=
  if 10 ≤ y2 then y1 else k_lt (sp_X11_stands F R y2) (fun r8 => if r8 = 0 then K_X11_standing_24 b4 y2 y1 else k_lt (1 <<< (y2 &&& 31)) (fun x22 => k_lt (y1 ||| x22) (fun x24 => K_X11_standing_24 b4 y2 x24)))
def K_X11_standing_4 (F : Nat → Int32) (R : Nat → Nat → Int32) : Nat → (Int32) → (Int32) → Int32
  | 0 => fun _ _ => 0
  | n + 1 => KB_X11_standing_4 (K_X11_standing_4 F R n) F R
def sp_X11_standing (F : Nat → Int32) (R : Nat → Nat → Int32) : Int32 :=
  K_X11_standing_4 F R 8589934592 0 0
theorem e_X11_standing_0 : g_dc cX11_standing 0 (.iconst 0) 1 1 := ⟨by decide +kernel, rfl⟩
theorem e_X11_standing_1 : g_dc cX11_standing 1 (.istore_n 1) 1 2 := ⟨by decide +kernel, rfl⟩
theorem e_X11_standing_2 : g_dc cX11_standing 2 (.iconst 0) 1 3 := ⟨by decide +kernel, rfl⟩
theorem e_X11_standing_3 : g_dc cX11_standing 3 (.istore_n 2) 1 4 := ⟨by decide +kernel, rfl⟩
theorem e_X11_standing_4 : g_dc cX11_standing 4 (.iload_n 2) 1 5 := ⟨by decide +kernel, rfl⟩
theorem e_X11_standing_5 : g_dc cX11_standing 5 (.bipush 10) 2 7 := ⟨by decide +kernel, rfl⟩
theorem e_X11_standing_7 : g_dc cX11_standing 7 (.if_icmp .ge 23) 3 10 := ⟨by decide +kernel, rfl⟩
theorem e_X11_standing_10 : g_dc cX11_standing 10 (.aload_n 0) 1 11 := ⟨by decide +kernel, rfl⟩
theorem e_X11_standing_11 : g_dc cX11_standing 11 (.iload_n 2) 1 12 := ⟨by decide +kernel, rfl⟩
theorem e_X11_standing_12 : g_dc cX11_standing 12 (.invokevirtual 343) 3 15 := ⟨by decide +kernel, rfl⟩
theorem e_X11_standing_15 : g_dc cX11_standing 15 (.ifCond .eq 9) 3 18 := ⟨by decide +kernel, rfl⟩
theorem e_X11_standing_18 : g_dc cX11_standing 18 (.iload_n 1) 1 19 := ⟨by decide +kernel, rfl⟩
theorem e_X11_standing_19 : g_dc cX11_standing 19 (.iconst 1) 1 20 := ⟨by decide +kernel, rfl⟩
theorem e_X11_standing_20 : g_dc cX11_standing 20 (.iload_n 2) 1 21 := ⟨by decide +kernel, rfl⟩
theorem e_X11_standing_21 : g_dc cX11_standing 21 (.ishl) 1 22 := ⟨by decide +kernel, rfl⟩
theorem e_X11_standing_22 : g_dc cX11_standing 22 (.ior) 1 23 := ⟨by decide +kernel, rfl⟩
theorem e_X11_standing_23 : g_dc cX11_standing 23 (.istore_n 1) 1 24 := ⟨by decide +kernel, rfl⟩
theorem e_X11_standing_24 : g_dc cX11_standing 24 (.iinc 2 1) 3 27 := ⟨by decide +kernel, rfl⟩
theorem e_X11_standing_27 : g_dc cX11_standing 27 (.goto (-23)) 3 30 := ⟨by decide +kernel, rfl⟩
theorem e_X11_standing_30 : g_dc cX11_standing 30 (.iload_n 1) 1 31 := ⟨by decide +kernel, rfl⟩
theorem e_X11_standing_31 : g_dc cX11_standing 31 (.ireturn) 1 32 := ⟨by decide +kernel, rfl⟩
set_option maxHeartbeats 4000000 in
set_option maxRecDepth 100000 in
theorem w_X11_standing (l : Launch) (X : gX) (ad : Nat → Nat) (F : Nat → Int32) (R : Nat → Nat → Int32) (hI : g_ok LK_wM F) (hA : g_okR LA_wM R) (hWT : WT F R) (hWC : WC F R) : g_Ci l X yX11_standing cX11_standing 3 (some .int) 3 0 0 [.ref (ad 0)] (wM X ad F R) (fun r w => w = wM X ad F R ∧ jv (-2147483648) 2147483647 r ∧ r = sp_X11_standing F R) := by
  refine g_mi (by decide +kernel) (Nat.le_of_ble_eq_true rfl) (fun E cx hret => ?_)
  obtain ⟨SP, hSP⟩ : ∃ z, z = sp_X11_standing F R := ⟨_, rfl⟩
  have hk0 := hSP
  unfold sp_X11_standing at hk0
  refine g_iconst cx 0 (by decide) e_X11_standing_0 ?_
  refine g_istore_n cx [(1, .int 0), (0, .ref (ad 0))] e_X11_standing_1 (by decide) rfl ?_
  refine g_iconst cx 0 (by decide) e_X11_standing_2 ?_
  refine g_istore_n cx [(2, .int 0), (1, .int 0), (0, .ref (ad 0))] e_X11_standing_3 (by decide) rfl ?_
  have J4 : ∀ (N : Nat) (y1 : Int32) (y2 : Int32), (jv (-2147483648) 2147483647 y1) → (jv 0 10 y2) → (SP = K_X11_standing_4 F R N y1 y2) → (2147483647 - y2.toInt).toNat < N → G X E 3 0 0 (wM X ad F R) [(0, .ref (ad 0)), (1, .int y1), (2, .int y2)] 4 [] := by
    intro N
    induction N with
    | zero => intro y1 y2 py1 py2 hkJ4 hm; exact absurd hm (Nat.not_lt_zero _)
    | succ N ih4 =>
      intro y1 y2 py1 py2 hkJ4 hm4
      have hkK4 : SP = KB_X11_standing_4 (K_X11_standing_4 F R N) F R y1 y2 := hkJ4
      obtain ⟨b4, hb4⟩ : ∃ z, z = K_X11_standing_4 F R N := ⟨_, rfl⟩
      rw [← hb4] at hkK4
      unfold KB_X11_standing_4 at hkK4
      refine g_iload_n cx 2 rfl e_X11_standing_4 ?_
      refine g_bipush cx 10 (by decide) e_X11_standing_5 ?_
      refine g_icmp_ge cx 30 e_X11_standing_7 (by decide) (fun zc3 => ?_) (fun zc3 => ?_)
      · have p4 := gn_ge 10 10 (gc_le zc3) py2 (jv_k (x := 10) 10 (by decide)) (by decide)
        have hk5 := hkK4.trans (if_pos zc3)
        refine g_iload_n cx 1 rfl e_X11_standing_30 ?_
        exact hret e_X11_standing_31 (Nat.le_of_ble_eq_true rfl) (Nat.le_of_ble_eq_true rfl) rfl ⟨rfl, py1, (hk5.symm.trans hSP)⟩
      · have p6 := gn_lt 0 9 (gc_nle zc3) py2 (jv_k (x := 10) 10 (by decide)) (by decide)
        have hk7 := hkK4.trans (if_neg zc3)
        refine g_aload_n cx 0 rfl e_X11_standing_10 ?_
        refine g_iload_n cx 2 rfl e_X11_standing_11 ?_
        refine g_cViW cx [.int y2] [] (w_X11_stands l X ad F R hI hA hWT hWC y2 p6) ml_X11_343 yV_X11_stands e_X11_standing_12 (by unfold g_rr; decide) (by decide) 0 rfl rfl rfl (Nat.le_of_ble_eq_true rfl) (fun r8 w9 h10 => ?_)
        obtain ⟨rfl, pr8, zx11, hx12⟩ := h10
        have hk13 := k_ls hk7 hx12
        have J24 : ∀ (y14 : Int32), (jv (-2147483648) 2147483647 y14) → (SP = K_X11_standing_24 b4 y2 y14) → G X E 3 0 0 (wM X ad F R) [(0, .ref (ad 0)), (1, .int y14), (2, .int y2)] 24 [] := by
          intro y14 py14 hkJ24
          unfold K_X11_standing_24 at hkJ24
          obtain ⟨x15, ex15⟩ : ∃ z : Int32, z = y2 + Int32.ofInt 1 := ⟨_, rfl⟩
          have hk16 := k_ls hkJ24 (show x15 = y2 + 1 from ex15)
          refine g_iinc cx x15 [(2, .int x15), (0, .ref (ad 0)), (1, .int y14)] 2 e_X11_standing_24 rfl ex15.symm (by decide) rfl ?_
          have zx15 := jv_add 1 10 (show x15 = y2 + 1 from ex15) p6 (jv_k (x := 1) 1 (by decide)) (by decide)
          refine g_goto cx 4 e_X11_standing_27 (by decide) ?_
          refine g_lsub [1, 2, 0] [(0, .ref (ad 0)), (1, .int y14), (2, .int x15)] rfl ?_
          exact ih4 y14 x15 py14 (jv_w zx15.2 (by decide)) (hk16.trans (by rw [hb4])) (Nat.lt_of_lt_of_le (show (2147483647 - x15.toInt).toNat < (2147483647 - y2.toInt).toNat from by have q0 := (jv_k (x := 1) 1 (by decide)).1; have q1 := (jv_k (x := 1) 1 (by decide)).2; have q2 := (jv_k (x := 10) 10 (by decide)).1; have q3 := (jv_k (x := 10) 10 (by decide)).2; have q4 := zx15.2.1; have q5 := zx15.2.2; have q6 := p6.1; have q7 := p6.2; have q8 := (gc_nle zc3); have q9 := (g_eq0 zx15.1); omega) (Nat.le_of_lt_succ hm4))
        refine g_if_eq cx 24 e_X11_standing_15 (by decide) (fun zc17 => ?_) (fun zc17 => ?_)
        · have p18 := gn_eq 0 0 (gc_eq zc17) pr8 (jv_k (x := 0) 0 (by decide)) (by decide)
          have hk19 := hk13.trans (if_pos zc17)
          exact J24 y1 py1 hk19
        · have p20 := gn_neL 1 1 (gc_ne zc17) pr8 (jv_k (x := 0) 0 (by decide)) (by decide)
          have hk21 := hk13.trans (if_neg zc17)
          refine g_iload_n cx 1 rfl e_X11_standing_18 ?_
          refine g_iconst cx 1 (by decide) e_X11_standing_19 ?_
          refine g_iload_n cx 2 rfl e_X11_standing_20 ?_
          refine g_ishl cx e_X11_standing_21 ?_
          refine g_topi (fun x22 ex22 => ?_)
          have hk23 := k_ls hk21 ex22
          refine g_ior cx e_X11_standing_22 ?_
          refine g_topi (fun x24 ex24 => ?_)
          have hk25 := k_ls hk23 ex24
          refine g_istore_n cx [(1, .int x24), (0, .ref (ad 0)), (2, .int y2)] e_X11_standing_23 (by decide) rfl ?_
          refine g_lsub [1, 0, 2] [(0, .ref (ad 0)), (1, .int x24), (2, .int y2)] rfl ?_
          exact J24 x24 (jv_t x24) hk25
  refine g_lsub [2, 1, 0] [(0, .ref (ad 0)), (1, .int 0), (2, .int 0)] rfl ?_
  exact J4 8589934592 0 0 (jv_w (jv_k (x := 0) 0 (by decide)) (by decide)) (jv_w (jv_k (x := 0) 0 (by decide)) (by decide)) hk0 (show (2147483647 - (0 : Int32).toInt).toNat < 8589934592 from by have q0 := (jv_k (x := 0) 0 (by decide)).1; have q1 := (jv_k (x := 0) 0 (by decide)).2; omega)
def K_X11_inchesAll_32 (b4 : (Int32) → (Int32) → Int32) (y1 : Int32) (y2 : Int32) (y12 : Int32) : Int32 :=
  k_lt (y1 + y12) (fun x13 => k_lt (y2 + 1) (fun x15 => b4 x13 x15))
def KB_X11_inchesAll_4 (b4 : (Int32) → (Int32) → Int32) (F : Nat → Int32) (R : Nat → Nat → Int32) (y1 : Int32) (y2 : Int32) : Int32 :=
  if 10 ≤ y2 then y1 else k_lt (g_hasv (F 42) y2) (fun r8 => if r8 = 0 then K_X11_inchesAll_32 b4 y1 y2 0 else k_lt (R 32 (Int32.toNatClampNeg y2)) (fun x23 => K_X11_inchesAll_32 b4 y1 y2 x23))
def K_X11_inchesAll_4 (F : Nat → Int32) (R : Nat → Nat → Int32) : Nat → (Int32) → (Int32) → Int32
  | 0 => fun _ _ => 0
  | n + 1 => KB_X11_inchesAll_4 (K_X11_inchesAll_4 F R n) F R
def sp_X11_inchesAll (F : Nat → Int32) (R : Nat → Nat → Int32) : Int32 :=
  K_X11_inchesAll_4 F R 8589934592 0 0
theorem e_X11_inchesAll_0 : g_dc cX11_inchesAll 0 (.iconst 0) 1 1 := ⟨by decide +kernel, rfl⟩
theorem e_X11_inchesAll_1 : g_dc cX11_inchesAll 1 (.istore_n 1) 1 2 := ⟨by decide +kernel, rfl⟩
theorem e_X11_inchesAll_2 : g_dc cX11_inchesAll 2 (.iconst 0) 1 3 := ⟨by decide +kernel, rfl⟩
theorem e_X11_inchesAll_3 : g_dc cX11_inchesAll 3 (.istore_n 2) 1 4 := ⟨by decide +kernel, rfl⟩
theorem e_X11_inchesAll_4 : g_dc cX11_inchesAll 4 (.iload_n 2) 1 5 := ⟨by decide +kernel, rfl⟩
theorem e_X11_inchesAll_5 : g_dc cX11_inchesAll 5 (.bipush 10) 2 7 := ⟨by decide +kernel, rfl⟩
theorem e_X11_inchesAll_7 : g_dc cX11_inchesAll 7 (.if_icmp .ge 33) 3 10 := ⟨by decide +kernel, rfl⟩
theorem e_X11_inchesAll_10 : g_dc cX11_inchesAll 10 (.iload_n 1) 1 11 := ⟨by decide +kernel, rfl⟩
theorem e_X11_inchesAll_11 : g_dc cX11_inchesAll 11 (.aload_n 0) 1 12 := ⟨by decide +kernel, rfl⟩
theorem e_X11_inchesAll_12 : g_dc cX11_inchesAll 12 (.getfield 312) 3 15 := ⟨by decide +kernel, rfl⟩
theorem e_X11_inchesAll_15 : g_dc cX11_inchesAll 15 (.iload_n 2) 1 16 := ⟨by decide +kernel, rfl⟩
theorem e_X11_inchesAll_16 : g_dc cX11_inchesAll 16 (.invokestatic 175) 3 19 := ⟨by decide +kernel, rfl⟩
theorem e_X11_inchesAll_19 : g_dc cX11_inchesAll 19 (.ifCond .eq 12) 3 22 := ⟨by decide +kernel, rfl⟩
theorem e_X11_inchesAll_22 : g_dc cX11_inchesAll 22 (.aload_n 0) 1 23 := ⟨by decide +kernel, rfl⟩
theorem e_X11_inchesAll_23 : g_dc cX11_inchesAll 23 (.getfield 104) 3 26 := ⟨by decide +kernel, rfl⟩
theorem e_X11_inchesAll_26 : g_dc cX11_inchesAll 26 (.iload_n 2) 1 27 := ⟨by decide +kernel, rfl⟩
theorem e_X11_inchesAll_27 : g_dc cX11_inchesAll 27 (.iaload) 1 28 := ⟨by decide +kernel, rfl⟩
theorem e_X11_inchesAll_28 : g_dc cX11_inchesAll 28 (.goto 4) 3 31 := ⟨by decide +kernel, rfl⟩
theorem e_X11_inchesAll_31 : g_dc cX11_inchesAll 31 (.iconst 0) 1 32 := ⟨by decide +kernel, rfl⟩
theorem e_X11_inchesAll_32 : g_dc cX11_inchesAll 32 (.iadd) 1 33 := ⟨by decide +kernel, rfl⟩
theorem e_X11_inchesAll_33 : g_dc cX11_inchesAll 33 (.istore_n 1) 1 34 := ⟨by decide +kernel, rfl⟩
theorem e_X11_inchesAll_34 : g_dc cX11_inchesAll 34 (.iinc 2 1) 3 37 := ⟨by decide +kernel, rfl⟩
theorem e_X11_inchesAll_37 : g_dc cX11_inchesAll 37 (.goto (-33)) 3 40 := ⟨by decide +kernel, rfl⟩
theorem e_X11_inchesAll_40 : g_dc cX11_inchesAll 40 (.iload_n 1) 1 41 := ⟨by decide +kernel, rfl⟩
theorem e_X11_inchesAll_41 : g_dc cX11_inchesAll 41 (.ireturn) 1 42 := ⟨by decide +kernel, rfl⟩
set_option maxHeartbeats 4000000 in
set_option maxRecDepth 100000 in
theorem w_X11_inchesAll (l : Launch) (X : gX) (ad : Nat → Nat) (F : Nat → Int32) (R : Nat → Nat → Int32) (hI : g_ok LK_wM F) (hA : g_okR LA_wM R) (hWT : WT F R) (hWC : WC F R) : g_Ci l X yX11_inchesAll cX11_inchesAll 3 (some .int) 2 0 0 [.ref (ad 0)] (wM X ad F R) (fun r w => w = wM X ad F R ∧ jv (-2147483648) 2147483647 r ∧ r = sp_X11_inchesAll F R) := by
  refine g_mi (by decide +kernel) (Nat.le_of_ble_eq_true rfl) (fun E cx hret => ?_)
  obtain ⟨SP, hSP⟩ : ∃ z, z = sp_X11_inchesAll F R := ⟨_, rfl⟩
  have hk0 := hSP
  unfold sp_X11_inchesAll at hk0
  refine g_iconst cx 0 (by decide) e_X11_inchesAll_0 ?_
  refine g_istore_n cx [(1, .int 0), (0, .ref (ad 0))] e_X11_inchesAll_1 (by decide) rfl ?_
  refine g_iconst cx 0 (by decide) e_X11_inchesAll_2 ?_
  refine g_istore_n cx [(2, .int 0), (1, .int 0), (0, .ref (ad 0))] e_X11_inchesAll_3 (by decide) rfl ?_
  have J4 : ∀ (N : Nat) (y1 : Int32) (y2 : Int32), (jv (-2147483648) 2147483647 y1) → (jv 0 10 y2) → (SP = K_X11_inchesAll_4 F R N y1 y2) → (2147483647 - y2.toInt).toNat < N → G X E 3 0 0 (wM X ad F R) [(0, .ref (ad 0)), (1, .int y1), (2, .int y2)] 4 [] := by
    intro N
    induction N with
    | zero => intro y1 y2 py1 py2 hkJ4 hm; exact absurd hm (Nat.not_lt_zero _)
    | succ N ih4 =>
      intro y1 y2 py1 py2 hkJ4 hm4
      have hkK4 : SP = KB_X11_inchesAll_4 (K_X11_inchesAll_4 F R N) F R y1 y2 := hkJ4
      obtain ⟨b4, hb4⟩ : ∃ z, z = K_X11_inchesAll_4 F R N := ⟨_, rfl⟩
      rw [← hb4] at hkK4
      unfold KB_X11_inchesAll_4 at hkK4
      refine g_iload_n cx 2 rfl e_X11_inchesAll_4 ?_
      refine g_bipush cx 10 (by decide) e_X11_inchesAll_5 ?_
      refine g_icmp_ge cx 40 e_X11_inchesAll_7 (by decide) (fun zc3 => ?_) (fun zc3 => ?_)
      · have p4 := gn_ge 10 10 (gc_le zc3) py2 (jv_k (x := 10) 10 (by decide)) (by decide)
        have hk5 := hkK4.trans (if_pos zc3)
        refine g_iload_n cx 1 rfl e_X11_inchesAll_40 ?_
        exact hret e_X11_inchesAll_41 (Nat.le_of_ble_eq_true rfl) (Nat.le_of_ble_eq_true rfl) rfl ⟨rfl, py1, (hk5.symm.trans hSP)⟩
      · have p6 := gn_lt 0 9 (gc_nle zc3) py2 (jv_k (x := 10) 10 (by decide)) (by decide)
        have hk7 := hkK4.trans (if_neg zc3)
        refine g_iload_n cx 1 rfl e_X11_inchesAll_10 ?_
        refine g_aload_n cx 0 rfl e_X11_inchesAll_11 ?_
        refine g_get cx cl_X11 fl_X11_312 0 (.int (F 42)) e_X11_inchesAll_12 rfl rfl ?_
        refine g_iload_n cx 2 rfl e_X11_inchesAll_15 ?_
        refine g_cSiW cx [.int (F 42), .int y2] [.int y1] (c_X11_has l X (wM X ad F R) (F 42) y2) ml_X11_175 yS_X11_has rfl e_X11_inchesAll_16 (by unfold g_rr; decide) (by decide) rfl (Nat.le_of_ble_eq_true rfl) (fun r8 w9 h10 => ?_)
        obtain ⟨rfl, hr8⟩ := h10
        have pr8 : jv 0 1 r8 := by rcases hr8 with q | q <;> rw [q.1] <;> exact ⟨by decide, by decide⟩
        have hk11 := k_ls hk7 (g_has_e hr8)
        have J32 : ∀ (y12 : Int32), (jv (-2147483648) 2147483647 y12) → (SP = K_X11_inchesAll_32 b4 y1 y2 y12) → G X E 3 0 0 (wM X ad F R) [(0, .ref (ad 0)), (2, .int y2)] 32 [.int y12, .int y1] := by
          intro y12 py12 hkJ32
          unfold K_X11_inchesAll_32 at hkJ32
          refine g_iadd cx e_X11_inchesAll_32 ?_
          refine g_topi (fun x13 ex13 => ?_)
          have hk14 := k_ls hkJ32 ex13
          refine g_istore_n cx [(1, .int x13), (0, .ref (ad 0)), (2, .int y2)] e_X11_inchesAll_33 (by decide) rfl ?_
          obtain ⟨x15, ex15⟩ : ∃ z : Int32, z = y2 + Int32.ofInt 1 := ⟨_, rfl⟩
          have hk16 := k_ls hk14 (show x15 = y2 + 1 from ex15)
          refine g_iinc cx x15 [(2, .int x15), (1, .int x13), (0, .ref (ad 0))] 2 e_X11_inchesAll_34 rfl ex15.symm (by decide) rfl ?_
          have zx15 := jv_add 1 10 (show x15 = y2 + 1 from ex15) p6 (jv_k (x := 1) 1 (by decide)) (by decide)
          refine g_goto cx 4 e_X11_inchesAll_37 (by decide) ?_
          refine g_lsub [2, 1, 0] [(0, .ref (ad 0)), (1, .int x13), (2, .int x15)] rfl ?_
          exact ih4 x13 x15 (jv_t x13) (jv_w zx15.2 (by decide)) (hk16.trans (by rw [hb4])) (Nat.lt_of_lt_of_le (show (2147483647 - x15.toInt).toNat < (2147483647 - y2.toInt).toNat from by have q0 := (jv_k (x := 1) 1 (by decide)).1; have q1 := (jv_k (x := 1) 1 (by decide)).2; have q2 := (jv_k (x := 10) 10 (by decide)).1; have q3 := (jv_k (x := 10) 10 (by decide)).2; have q4 := zx15.2.1; have q5 := zx15.2.2; have q6 := p6.1; have q7 := p6.2; have q8 := (gc_nle zc3); have q9 := (g_eq0 zx15.1); omega) (Nat.le_of_lt_succ hm4))
        refine g_if_eq cx 31 e_X11_inchesAll_19 (by decide) (fun zc17 => ?_) (fun zc17 => ?_)
        · have p18 := gn_eq 0 0 (gc_eq zc17) pr8 (jv_k (x := 0) 0 (by decide)) (by decide)
          have hk19 := hk11.trans (if_pos zc17)
          refine g_iconst cx 0 (by decide) e_X11_inchesAll_31 ?_
          refine g_lsub [0, 2] [(0, .ref (ad 0)), (2, .int y2)] rfl ?_
          exact J32 0 (jv_w (jv_k (x := 0) 0 (by decide)) (by decide)) hk19
        · have p20 := gn_neL 1 1 (gc_ne zc17) pr8 (jv_k (x := 0) 0 (by decide)) (by decide)
          have zb21 : hb (F 42) y2 := g_hasy hr8 zc17
          have hk22 := hk11.trans (if_neg zc17)
          refine g_aload_n cx 0 rfl e_X11_inchesAll_22 ?_
          refine g_get cx cl_X11 fl_X11_104 0 (.ref (ad 32)) e_X11_inchesAll_23 rfl rfl ?_
          refine g_iload_n cx 2 rfl e_X11_inchesAll_26 ?_
          refine g_iald cx 32 e_X11_inchesAll_27 rfl (jv_ix 10 p6 (by decide)) ?_
          refine g_topi (fun x23 ex23 => ?_)
          have hk24 := k_ls hk22 ex23
          refine g_goto cx 32 e_X11_inchesAll_28 (by decide) ?_
          refine g_lsub [0, 2] [(0, .ref (ad 0)), (2, .int y2)] rfl ?_
          exact J32 x23 (jv_t x23) hk24
  refine g_lsub [2, 1, 0] [(0, .ref (ad 0)), (1, .int 0), (2, .int 0)] rfl ?_
  exact J4 8589934592 0 0 (jv_w (jv_k (x := 0) 0 (by decide)) (by decide)) (jv_w (jv_k (x := 0) 0 (by decide)) (by decide)) hk0 (show (2147483647 - (0 : Int32).toInt).toNat < 8589934592 from by have q0 := (jv_k (x := 0) 0 (by decide)).1; have q1 := (jv_k (x := 0) 0 (by decide)).2; omega)
def K_X11_stateBits_37 (b4 : (Int32) → (Int32) → Int32) (y2 : Int32) (y12 : Int32) : Int32 :=
  k_lt (y2 + 1) (fun x13 => b4 y12 x13)
def KB_X11_stateBits_4 (b4 : (Int32) → (Int32) → Int32) (F : Nat → Int32) (R : Nat → Nat → Int32) (a0 : Int32) (y1 : Int32) (y2 : Int32) : Int32 :=
  if 10 ≤ y2 then y1 else k_lt (g_hasv (F 42) y2) (fun r8 => if r8 = 0 then K_X11_stateBits_37 b4 y2 y1 else k_lt (R 28 (Int32.toNatClampNeg y2)) (fun x21 => if x21 = a0 then k_lt (1 <<< (y2 &&& 31)) (fun x26 => k_lt (y1 ||| x26) (fun x28 => K_X11_stateBits_37 b4 y2 x28)) else K_X11_stateBits_37 b4 y2 y1))
def K_X11_stateBits_4 (F : Nat → Int32) (R : Nat → Nat → Int32) (a0 : Int32) : Nat → (Int32) → (Int32) → Int32
  | 0 => fun _ _ => 0
  | n + 1 => KB_X11_stateBits_4 (K_X11_stateBits_4 F R a0 n) F R a0
def sp_X11_stateBits (F : Nat → Int32) (R : Nat → Nat → Int32) (a0 : Int32) : Int32 :=
  K_X11_stateBits_4 F R a0 8589934592 0 0
theorem e_X11_stateBits_0 : g_dc cX11_stateBits 0 (.iconst 0) 1 1 := ⟨by decide +kernel, rfl⟩
theorem e_X11_stateBits_1 : g_dc cX11_stateBits 1 (.istore_n 2) 1 2 := ⟨by decide +kernel, rfl⟩
theorem e_X11_stateBits_2 : g_dc cX11_stateBits 2 (.iconst 0) 1 3 := ⟨by decide +kernel, rfl⟩
theorem e_X11_stateBits_3 : g_dc cX11_stateBits 3 (.istore_n 3) 1 4 := ⟨by decide +kernel, rfl⟩
theorem e_X11_stateBits_4 : g_dc cX11_stateBits 4 (.iload_n 3) 1 5 := ⟨by decide +kernel, rfl⟩
theorem e_X11_stateBits_5 : g_dc cX11_stateBits 5 (.bipush 10) 2 7 := ⟨by decide +kernel, rfl⟩
theorem e_X11_stateBits_7 : g_dc cX11_stateBits 7 (.if_icmp .ge 36) 3 10 := ⟨by decide +kernel, rfl⟩
theorem e_X11_stateBits_10 : g_dc cX11_stateBits 10 (.aload_n 0) 1 11 := ⟨by decide +kernel, rfl⟩
theorem e_X11_stateBits_11 : g_dc cX11_stateBits 11 (.getfield 312) 3 14 := ⟨by decide +kernel, rfl⟩
theorem e_X11_stateBits_14 : g_dc cX11_stateBits 14 (.iload_n 3) 1 15 := ⟨by decide +kernel, rfl⟩
theorem e_X11_stateBits_15 : g_dc cX11_stateBits 15 (.invokestatic 175) 3 18 := ⟨by decide +kernel, rfl⟩
theorem e_X11_stateBits_18 : g_dc cX11_stateBits 18 (.ifCond .eq 19) 3 21 := ⟨by decide +kernel, rfl⟩
theorem e_X11_stateBits_21 : g_dc cX11_stateBits 21 (.aload_n 0) 1 22 := ⟨by decide +kernel, rfl⟩
theorem e_X11_stateBits_22 : g_dc cX11_stateBits 22 (.getfield 92) 3 25 := ⟨by decide +kernel, rfl⟩
theorem e_X11_stateBits_25 : g_dc cX11_stateBits 25 (.iload_n 3) 1 26 := ⟨by decide +kernel, rfl⟩
theorem e_X11_stateBits_26 : g_dc cX11_stateBits 26 (.iaload) 1 27 := ⟨by decide +kernel, rfl⟩
theorem e_X11_stateBits_27 : g_dc cX11_stateBits 27 (.iload_n 1) 1 28 := ⟨by decide +kernel, rfl⟩
theorem e_X11_stateBits_28 : g_dc cX11_stateBits 28 (.if_icmp .ne 9) 3 31 := ⟨by decide +kernel, rfl⟩
theorem e_X11_stateBits_31 : g_dc cX11_stateBits 31 (.iload_n 2) 1 32 := ⟨by decide +kernel, rfl⟩
theorem e_X11_stateBits_32 : g_dc cX11_stateBits 32 (.iconst 1) 1 33 := ⟨by decide +kernel, rfl⟩
theorem e_X11_stateBits_33 : g_dc cX11_stateBits 33 (.iload_n 3) 1 34 := ⟨by decide +kernel, rfl⟩
theorem e_X11_stateBits_34 : g_dc cX11_stateBits 34 (.ishl) 1 35 := ⟨by decide +kernel, rfl⟩
theorem e_X11_stateBits_35 : g_dc cX11_stateBits 35 (.ior) 1 36 := ⟨by decide +kernel, rfl⟩
theorem e_X11_stateBits_36 : g_dc cX11_stateBits 36 (.istore_n 2) 1 37 := ⟨by decide +kernel, rfl⟩
theorem e_X11_stateBits_37 : g_dc cX11_stateBits 37 (.iinc 3 1) 3 40 := ⟨by decide +kernel, rfl⟩
theorem e_X11_stateBits_40 : g_dc cX11_stateBits 40 (.goto (-36)) 3 43 := ⟨by decide +kernel, rfl⟩
theorem e_X11_stateBits_43 : g_dc cX11_stateBits 43 (.iload_n 2) 1 44 := ⟨by decide +kernel, rfl⟩
theorem e_X11_stateBits_44 : g_dc cX11_stateBits 44 (.ireturn) 1 45 := ⟨by decide +kernel, rfl⟩
set_option maxHeartbeats 4000000 in
set_option maxRecDepth 100000 in
theorem w_X11_stateBits (l : Launch) (X : gX) (ad : Nat → Nat) (F : Nat → Int32) (R : Nat → Nat → Int32) (hI : g_ok LK_wM F) (hA : g_okR LA_wM R) (hWT : WT F R) (hWC : WC F R) (a0 : Int32) : g_Ci l X yX11_stateBits cX11_stateBits 4 (some .int) 2 0 0 [.ref (ad 0), .int a0] (wM X ad F R) (fun r w => w = wM X ad F R ∧ jv (-2147483648) 2147483647 r ∧ r = sp_X11_stateBits F R a0) := by
  refine g_mi (by decide +kernel) (Nat.le_of_ble_eq_true rfl) (fun E cx hret => ?_)
  obtain ⟨SP, hSP⟩ : ∃ z, z = sp_X11_stateBits F R a0 := ⟨_, rfl⟩
  have hk0 := hSP
  unfold sp_X11_stateBits at hk0
  refine g_iconst cx 0 (by decide) e_X11_stateBits_0 ?_
  refine g_istore_n cx [(2, .int 0), (0, .ref (ad 0)), (1, .int a0)] e_X11_stateBits_1 (by decide) rfl ?_
  refine g_iconst cx 0 (by decide) e_X11_stateBits_2 ?_
  refine g_istore_n cx [(3, .int 0), (2, .int 0), (0, .ref (ad 0)), (1, .int a0)] e_X11_stateBits_3 (by decide) rfl ?_
  have J4 : ∀ (N : Nat) (y1 : Int32) (y2 : Int32), (jv (-2147483648) 2147483647 y1) → (jv 0 10 y2) → (SP = K_X11_stateBits_4 F R a0 N y1 y2) → (2147483647 - y2.toInt).toNat < N → G X E 4 0 0 (wM X ad F R) [(0, .ref (ad 0)), (1, .int a0), (2, .int y1), (3, .int y2)] 4 [] := by
    intro N
    induction N with
    | zero => intro y1 y2 py1 py2 hkJ4 hm; exact absurd hm (Nat.not_lt_zero _)
    | succ N ih4 =>
      intro y1 y2 py1 py2 hkJ4 hm4
      have hkK4 : SP = KB_X11_stateBits_4 (K_X11_stateBits_4 F R a0 N) F R a0 y1 y2 := hkJ4
      obtain ⟨b4, hb4⟩ : ∃ z, z = K_X11_stateBits_4 F R a0 N := ⟨_, rfl⟩
      rw [← hb4] at hkK4
      unfold KB_X11_stateBits_4 at hkK4
      refine g_iload_n cx 3 rfl e_X11_stateBits_4 ?_
      refine g_bipush cx 10 (by decide) e_X11_stateBits_5 ?_
      refine g_icmp_ge cx 43 e_X11_stateBits_7 (by decide) (fun zc3 => ?_) (fun zc3 => ?_)
      · have p4 := gn_ge 10 10 (gc_le zc3) py2 (jv_k (x := 10) 10 (by decide)) (by decide)
        have hk5 := hkK4.trans (if_pos zc3)
        refine g_iload_n cx 2 rfl e_X11_stateBits_43 ?_
        exact hret e_X11_stateBits_44 (Nat.le_of_ble_eq_true rfl) (Nat.le_of_ble_eq_true rfl) rfl ⟨rfl, py1, (hk5.symm.trans hSP)⟩
      · have p6 := gn_lt 0 9 (gc_nle zc3) py2 (jv_k (x := 10) 10 (by decide)) (by decide)
        have hk7 := hkK4.trans (if_neg zc3)
        refine g_aload_n cx 0 rfl e_X11_stateBits_10 ?_
        refine g_get cx cl_X11 fl_X11_312 0 (.int (F 42)) e_X11_stateBits_11 rfl rfl ?_
        refine g_iload_n cx 3 rfl e_X11_stateBits_14 ?_
        refine g_cSiW cx [.int (F 42), .int y2] [] (c_X11_has l X (wM X ad F R) (F 42) y2) ml_X11_175 yS_X11_has rfl e_X11_stateBits_15 (by unfold g_rr; decide) (by decide) rfl (Nat.le_of_ble_eq_true rfl) (fun r8 w9 h10 => ?_)
        obtain ⟨rfl, hr8⟩ := h10
        have pr8 : jv 0 1 r8 := by rcases hr8 with q | q <;> rw [q.1] <;> exact ⟨by decide, by decide⟩
        have hk11 := k_ls hk7 (g_has_e hr8)
        have J37 : ∀ (y12 : Int32), (jv (-2147483648) 2147483647 y12) → (SP = K_X11_stateBits_37 b4 y2 y12) → G X E 4 0 0 (wM X ad F R) [(0, .ref (ad 0)), (1, .int a0), (2, .int y12), (3, .int y2)] 37 [] := by
          intro y12 py12 hkJ37
          unfold K_X11_stateBits_37 at hkJ37
          obtain ⟨x13, ex13⟩ : ∃ z : Int32, z = y2 + Int32.ofInt 1 := ⟨_, rfl⟩
          have hk14 := k_ls hkJ37 (show x13 = y2 + 1 from ex13)
          refine g_iinc cx x13 [(3, .int x13), (0, .ref (ad 0)), (1, .int a0), (2, .int y12)] 3 e_X11_stateBits_37 rfl ex13.symm (by decide) rfl ?_
          have zx13 := jv_add 1 10 (show x13 = y2 + 1 from ex13) p6 (jv_k (x := 1) 1 (by decide)) (by decide)
          refine g_goto cx 4 e_X11_stateBits_40 (by decide) ?_
          refine g_lsub [1, 2, 3, 0] [(0, .ref (ad 0)), (1, .int a0), (2, .int y12), (3, .int x13)] rfl ?_
          exact ih4 y12 x13 py12 (jv_w zx13.2 (by decide)) (hk14.trans (by rw [hb4])) (Nat.lt_of_lt_of_le (show (2147483647 - x13.toInt).toNat < (2147483647 - y2.toInt).toNat from by have q0 := (jv_k (x := 1) 1 (by decide)).1; have q1 := (jv_k (x := 1) 1 (by decide)).2; have q2 := (jv_k (x := 10) 10 (by decide)).1; have q3 := (jv_k (x := 10) 10 (by decide)).2; have q4 := zx13.2.1; have q5 := zx13.2.2; have q6 := p6.1; have q7 := p6.2; have q8 := (gc_nle zc3); have q9 := (g_eq0 zx13.1); omega) (Nat.le_of_lt_succ hm4))
        refine g_if_eq cx 37 e_X11_stateBits_18 (by decide) (fun zc15 => ?_) (fun zc15 => ?_)
        · have p16 := gn_eq 0 0 (gc_eq zc15) pr8 (jv_k (x := 0) 0 (by decide)) (by decide)
          have hk17 := hk11.trans (if_pos zc15)
          exact J37 y1 py1 hk17
        · have p18 := gn_neL 1 1 (gc_ne zc15) pr8 (jv_k (x := 0) 0 (by decide)) (by decide)
          have zb19 : hb (F 42) y2 := g_hasy hr8 zc15
          have hk20 := hk11.trans (if_neg zc15)
          refine g_aload_n cx 0 rfl e_X11_stateBits_21 ?_
          refine g_get cx cl_X11 fl_X11_92 0 (.ref (ad 28)) e_X11_stateBits_22 rfl rfl ?_
          refine g_iload_n cx 3 rfl e_X11_stateBits_25 ?_
          refine g_iald cx 28 e_X11_stateBits_26 rfl (jv_ix 10 p6 (by decide)) ?_
          refine g_topi (fun x21 ex21 => ?_)
          have hk22 := k_ls hk20 ex21
          refine g_iload_n cx 1 rfl e_X11_stateBits_27 ?_
          refine g_icmp_ne cx 37 e_X11_stateBits_28 (by decide) (fun zc23 => ?_) (fun zc23 => ?_)
          · have hk24 := hk22.trans (if_neg zc23)
            exact J37 y1 py1 hk24
          · have hk25 := hk22.trans (if_pos zc23)
            refine g_iload_n cx 2 rfl e_X11_stateBits_31 ?_
            refine g_iconst cx 1 (by decide) e_X11_stateBits_32 ?_
            refine g_iload_n cx 3 rfl e_X11_stateBits_33 ?_
            refine g_ishl cx e_X11_stateBits_34 ?_
            refine g_topi (fun x26 ex26 => ?_)
            have hk27 := k_ls hk25 ex26
            refine g_ior cx e_X11_stateBits_35 ?_
            refine g_topi (fun x28 ex28 => ?_)
            have hk29 := k_ls hk27 ex28
            refine g_istore_n cx [(2, .int x28), (0, .ref (ad 0)), (1, .int a0), (3, .int y2)] e_X11_stateBits_36 (by decide) rfl ?_
            refine g_lsub [1, 2, 0, 3] [(0, .ref (ad 0)), (1, .int a0), (2, .int x28), (3, .int y2)] rfl ?_
            exact J37 x28 (jv_t x28) hk29
  refine g_lsub [2, 3, 1, 0] [(0, .ref (ad 0)), (1, .int a0), (2, .int 0), (3, .int 0)] rfl ?_
  exact J4 8589934592 0 0 (jv_w (jv_k (x := 0) 0 (by decide)) (by decide)) (jv_w (jv_k (x := 0) 0 (by decide)) (by decide)) hk0 (show (2147483647 - (0 : Int32).toInt).toNat < 8589934592 from by have q0 := (jv_k (x := 0) 0 (by decide)).1; have q1 := (jv_k (x := 0) 0 (by decide)).2; omega)
def K_X11_told_22 (F : Nat → Int32) (R : Nat → Nat → Int32) (x1 : Int32) (y3 : Int32) : Int32 :=
  k_lt (y3) (fun zy4 => if zy4.toInt = 0 then k_lt (sp_X11_standing F R) (fun r9 => k_lt (sp_X11_bits F R r9) (fun r14 => r14)) else if zy4.toInt = 1 then k_lt (sp_X11_inchesAll F R) (fun r22 => r22) else if zy4.toInt = 2 then (F 45) else if zy4.toInt = 3 then (F 48) else if zy4.toInt = 4 then k_lt (sp_X11_stateBits F R 1) (fun r33 => r33) else if zy4.toInt = 5 then k_lt (sp_X11_stateBits F R 2) (fun r40 => r40) else if zy4.toInt = 6 then (F 65) else if zy4.toInt = 7 then (F 66) else if zy4.toInt = 8 then (F 67) else if zy4.toInt = 9 then k_lt (R 29 (Int32.toNatClampNeg x1)) (fun x53 => x53) else if zy4.toInt = 10 then k_lt (R 29 (Int32.toNatClampNeg x1)) (fun x57 => x57) else if zy4.toInt = 11 then k_lt (sp_X11_endsAt F R x1) (fun r61 => r61) else if zy4.toInt = 12 then k_lt (R 32 (Int32.toNatClampNeg x1)) (fun x68 => x68) else if zy4.toInt = 13 then k_lt (R 33 (Int32.toNatClampNeg x1)) (fun x72 => x72) else if zy4.toInt = 14 then k_lt (R 34 (Int32.toNatClampNeg x1)) (fun x76 => x76) else if zy4.toInt = 15 then k_lt (R 35 (Int32.toNatClampNeg x1)) (fun x80 => x80) else k_lt (R 29 (Int32.toNatClampNeg x1)) (fun x84 => x84))
def sp_X11_told (F : Nat → Int32) (R : Nat → Nat → Int32) (a0 : Int32) : Int32 :=
  k_lt (a0 - a0 / 10 * 10) (fun x1 => if 10 ≤ a0 then k_lt (a0 / 10) (fun x89 => k_lt (10 + x89) (fun x91 => K_X11_told_22 F R x1 x91)) else K_X11_told_22 F R x1 a0)
theorem e_X11_told_0 : g_dc cX11_told 0 (.iload_n 1) 1 1 := ⟨by decide +kernel, rfl⟩
theorem e_X11_told_1 : g_dc cX11_told 1 (.bipush 10) 2 3 := ⟨by decide +kernel, rfl⟩
theorem e_X11_told_3 : g_dc cX11_told 3 (.irem) 1 4 := ⟨by decide +kernel, rfl⟩
theorem e_X11_told_4 : g_dc cX11_told 4 (.istore_n 2) 1 5 := ⟨by decide +kernel, rfl⟩
theorem e_X11_told_5 : g_dc cX11_told 5 (.iload_n 1) 1 6 := ⟨by decide +kernel, rfl⟩
theorem e_X11_told_6 : g_dc cX11_told 6 (.bipush 10) 2 8 := ⟨by decide +kernel, rfl⟩
theorem e_X11_told_8 : g_dc cX11_told 8 (.if_icmp .ge 7) 3 11 := ⟨by decide +kernel, rfl⟩
theorem e_X11_told_11 : g_dc cX11_told 11 (.iload_n 1) 1 12 := ⟨by decide +kernel, rfl⟩
theorem e_X11_told_12 : g_dc cX11_told 12 (.goto 10) 3 15 := ⟨by decide +kernel, rfl⟩
theorem e_X11_told_15 : g_dc cX11_told 15 (.bipush 10) 2 17 := ⟨by decide +kernel, rfl⟩
theorem e_X11_told_17 : g_dc cX11_told 17 (.iload_n 1) 1 18 := ⟨by decide +kernel, rfl⟩
theorem e_X11_told_18 : g_dc cX11_told 18 (.bipush 10) 2 20 := ⟨by decide +kernel, rfl⟩
theorem e_X11_told_20 : g_dc cX11_told 20 (.idiv) 1 21 := ⟨by decide +kernel, rfl⟩
theorem e_X11_told_21 : g_dc cX11_told 21 (.iadd) 1 22 := ⟨by decide +kernel, rfl⟩
theorem e_X11_told_22 : g_dc cX11_told 22 (.tableswitch 162 0 15 #[78, 86, 91, 96, 101, 107, 113, 118, 123, 162, 162, 128, 134, 141, 148, 155]) 78 100 := ⟨by decide +kernel, rfl⟩
theorem e_X11_told_100 : g_dc cX11_told 100 (.aload_n 0) 1 101 := ⟨by decide +kernel, rfl⟩
theorem e_X11_told_101 : g_dc cX11_told 101 (.invokevirtual 407) 3 104 := ⟨by decide +kernel, rfl⟩
theorem e_X11_told_104 : g_dc cX11_told 104 (.invokestatic 410) 3 107 := ⟨by decide +kernel, rfl⟩
theorem e_X11_told_107 : g_dc cX11_told 107 (.ireturn) 1 108 := ⟨by decide +kernel, rfl⟩
theorem e_X11_told_108 : g_dc cX11_told 108 (.aload_n 0) 1 109 := ⟨by decide +kernel, rfl⟩
theorem e_X11_told_109 : g_dc cX11_told 109 (.invokevirtual 413) 3 112 := ⟨by decide +kernel, rfl⟩
theorem e_X11_told_112 : g_dc cX11_told 112 (.ireturn) 1 113 := ⟨by decide +kernel, rfl⟩
theorem e_X11_told_113 : g_dc cX11_told 113 (.aload_n 0) 1 114 := ⟨by decide +kernel, rfl⟩
theorem e_X11_told_114 : g_dc cX11_told 114 (.getfield 325) 3 117 := ⟨by decide +kernel, rfl⟩
theorem e_X11_told_117 : g_dc cX11_told 117 (.ireturn) 1 118 := ⟨by decide +kernel, rfl⟩
theorem e_X11_told_118 : g_dc cX11_told 118 (.aload_n 0) 1 119 := ⟨by decide +kernel, rfl⟩
theorem e_X11_told_119 : g_dc cX11_told 119 (.getfield 331) 3 122 := ⟨by decide +kernel, rfl⟩
theorem e_X11_told_122 : g_dc cX11_told 122 (.ireturn) 1 123 := ⟨by decide +kernel, rfl⟩
theorem e_X11_told_123 : g_dc cX11_told 123 (.aload_n 0) 1 124 := ⟨by decide +kernel, rfl⟩
theorem e_X11_told_124 : g_dc cX11_told 124 (.iconst 1) 1 125 := ⟨by decide +kernel, rfl⟩
theorem e_X11_told_125 : g_dc cX11_told 125 (.invokevirtual 416) 3 128 := ⟨by decide +kernel, rfl⟩
theorem e_X11_told_128 : g_dc cX11_told 128 (.ireturn) 1 129 := ⟨by decide +kernel, rfl⟩
theorem e_X11_told_129 : g_dc cX11_told 129 (.aload_n 0) 1 130 := ⟨by decide +kernel, rfl⟩
theorem e_X11_told_130 : g_dc cX11_told 130 (.iconst 2) 1 131 := ⟨by decide +kernel, rfl⟩
theorem e_X11_told_131 : g_dc cX11_told 131 (.invokevirtual 416) 3 134 := ⟨by decide +kernel, rfl⟩
theorem e_X11_told_134 : g_dc cX11_told 134 (.ireturn) 1 135 := ⟨by decide +kernel, rfl⟩
theorem e_X11_told_135 : g_dc cX11_told 135 (.aload_n 0) 1 136 := ⟨by decide +kernel, rfl⟩
theorem e_X11_told_136 : g_dc cX11_told 136 (.getfield 334) 3 139 := ⟨by decide +kernel, rfl⟩
theorem e_X11_told_139 : g_dc cX11_told 139 (.ireturn) 1 140 := ⟨by decide +kernel, rfl⟩
theorem e_X11_told_140 : g_dc cX11_told 140 (.aload_n 0) 1 141 := ⟨by decide +kernel, rfl⟩
theorem e_X11_told_141 : g_dc cX11_told 141 (.getfield 337) 3 144 := ⟨by decide +kernel, rfl⟩
theorem e_X11_told_144 : g_dc cX11_told 144 (.ireturn) 1 145 := ⟨by decide +kernel, rfl⟩
theorem e_X11_told_145 : g_dc cX11_told 145 (.aload_n 0) 1 146 := ⟨by decide +kernel, rfl⟩
theorem e_X11_told_146 : g_dc cX11_told 146 (.getfield 340) 3 149 := ⟨by decide +kernel, rfl⟩
theorem e_X11_told_149 : g_dc cX11_told 149 (.ireturn) 1 150 := ⟨by decide +kernel, rfl⟩
theorem e_X11_told_150 : g_dc cX11_told 150 (.aload_n 0) 1 151 := ⟨by decide +kernel, rfl⟩
theorem e_X11_told_151 : g_dc cX11_told 151 (.iload_n 2) 1 152 := ⟨by decide +kernel, rfl⟩
theorem e_X11_told_152 : g_dc cX11_told 152 (.invokevirtual 419) 3 155 := ⟨by decide +kernel, rfl⟩
theorem e_X11_told_155 : g_dc cX11_told 155 (.ireturn) 1 156 := ⟨by decide +kernel, rfl⟩
theorem e_X11_told_156 : g_dc cX11_told 156 (.aload_n 0) 1 157 := ⟨by decide +kernel, rfl⟩
theorem e_X11_told_157 : g_dc cX11_told 157 (.getfield 104) 3 160 := ⟨by decide +kernel, rfl⟩
theorem e_X11_told_160 : g_dc cX11_told 160 (.iload_n 2) 1 161 := ⟨by decide +kernel, rfl⟩
theorem e_X11_told_161 : g_dc cX11_told 161 (.iaload) 1 162 := ⟨by decide +kernel, rfl⟩
theorem e_X11_told_162 : g_dc cX11_told 162 (.ireturn) 1 163 := ⟨by decide +kernel, rfl⟩
theorem e_X11_told_163 : g_dc cX11_told 163 (.aload_n 0) 1 164 := ⟨by decide +kernel, rfl⟩
theorem e_X11_told_164 : g_dc cX11_told 164 (.getfield 107) 3 167 := ⟨by decide +kernel, rfl⟩
theorem e_X11_told_167 : g_dc cX11_told 167 (.iload_n 2) 1 168 := ⟨by decide +kernel, rfl⟩
theorem e_X11_told_168 : g_dc cX11_told 168 (.iaload) 1 169 := ⟨by decide +kernel, rfl⟩
theorem e_X11_told_169 : g_dc cX11_told 169 (.ireturn) 1 170 := ⟨by decide +kernel, rfl⟩
theorem e_X11_told_170 : g_dc cX11_told 170 (.aload_n 0) 1 171 := ⟨by decide +kernel, rfl⟩
theorem e_X11_told_171 : g_dc cX11_told 171 (.getfield 110) 3 174 := ⟨by decide +kernel, rfl⟩
theorem e_X11_told_174 : g_dc cX11_told 174 (.iload_n 2) 1 175 := ⟨by decide +kernel, rfl⟩
theorem e_X11_told_175 : g_dc cX11_told 175 (.iaload) 1 176 := ⟨by decide +kernel, rfl⟩
theorem e_X11_told_176 : g_dc cX11_told 176 (.ireturn) 1 177 := ⟨by decide +kernel, rfl⟩
theorem e_X11_told_177 : g_dc cX11_told 177 (.aload_n 0) 1 178 := ⟨by decide +kernel, rfl⟩
theorem e_X11_told_178 : g_dc cX11_told 178 (.getfield 113) 3 181 := ⟨by decide +kernel, rfl⟩
theorem e_X11_told_181 : g_dc cX11_told 181 (.iload_n 2) 1 182 := ⟨by decide +kernel, rfl⟩
theorem e_X11_told_182 : g_dc cX11_told 182 (.iaload) 1 183 := ⟨by decide +kernel, rfl⟩
theorem e_X11_told_183 : g_dc cX11_told 183 (.ireturn) 1 184 := ⟨by decide +kernel, rfl⟩
theorem e_X11_told_184 : g_dc cX11_told 184 (.aload_n 0) 1 185 := ⟨by decide +kernel, rfl⟩
theorem e_X11_told_185 : g_dc cX11_told 185 (.getfield 95) 3 188 := ⟨by decide +kernel, rfl⟩
theorem e_X11_told_188 : g_dc cX11_told 188 (.iload_n 2) 1 189 := ⟨by decide +kernel, rfl⟩
theorem e_X11_told_189 : g_dc cX11_told 189 (.iaload) 1 190 := ⟨by decide +kernel, rfl⟩
theorem e_X11_told_190 : g_dc cX11_told 190 (.ireturn) 1 191 := ⟨by decide +kernel, rfl⟩
set_option maxHeartbeats 4000000 in
set_option maxRecDepth 100000 in
theorem w_X11_told (l : Launch) (X : gX) (ad : Nat → Nat) (F : Nat → Int32) (R : Nat → Nat → Int32) (hI : g_ok LK_wM F) (hA : g_okR LA_wM R) (hWT : WT F R) (hWC : WC F R) (a0 : Int32) (pa0 : jv 0 69 a0) : g_Ci l X yX11_told cX11_told 3 (some .int) 4 0 0 [.ref (ad 0), .int a0] (wM X ad F R) (fun r w => w = wM X ad F R ∧ jv (-2147483648) 2147483647 r ∧ r = sp_X11_told F R a0) := by
  refine g_mi (by decide +kernel) (Nat.le_of_ble_eq_true rfl) (fun E cx hret => ?_)
  obtain ⟨SP, hSP⟩ : ∃ z, z = sp_X11_told F R a0 := ⟨_, rfl⟩
  have hk0 := hSP
  unfold sp_X11_told at hk0
  refine g_iload_n cx 1 rfl e_X11_told_0 ?_
  refine g_bipush cx 10 (by decide) e_X11_told_1 ?_
  refine g_irem cx (by decide) e_X11_told_3 ?_
  refine g_topi (fun x1 ex1 => ?_)
  have hk2 := k_ls hk0 ex1
  have zx1 := jv_rem 0 9 ex1 pa0 (jv_k (x := 10) 10 (by decide)) (by decide)
  refine g_istore_n cx [(2, .int x1), (0, .ref (ad 0)), (1, .int a0)] e_X11_told_4 (by decide) rfl ?_
  refine g_iload_n cx 2 rfl e_X11_told_5 ?_
  refine g_bipush cx 10 (by decide) e_X11_told_6 ?_
  have J22 : ∀ (y3 : Int32), (jv 0 20 y3) → (SP = K_X11_told_22 F R x1 y3) → G X E 3 0 0 (wM X ad F R) [(0, .ref (ad 0)), (2, .int x1)] 22 [.int y3] := by
    intro y3 py3 hkJ22
    unfold K_X11_told_22 at hkJ22
    refine g_topi (fun zy4 ezy4 => ?_)
    have hk5 := k_ls hkJ22 ezy4
    rcases g_sw 0 15 zy4 with ⟨zw6n, zw6h, zw6e⟩ | zw6
    · have zw6d : zw6n = 0 ∨ zw6n = 1 ∨ zw6n = 2 ∨ zw6n = 3 ∨ zw6n = 4 ∨ zw6n = 5 ∨ zw6n = 6 ∨ zw6n = 7 ∨ zw6n = 8 ∨ zw6n = 9 ∨ zw6n = 10 ∨ zw6n = 11 ∨ zw6n = 12 ∨ zw6n = 13 ∨ zw6n = 14 ∨ zw6n = 15 := by omega
      rcases zw6d with rfl | rfl | rfl | rfl | rfl | rfl | rfl | rfl | rfl | rfl | rfl | rfl | rfl | rfl | rfl | rfl
      · refine g_tableIn cx 100 e_X11_told_22 (by rw [zw6e]; decide) (by rw [zw6e]; decide) (by rw [zw6e]; rfl) (by decide) ?_
        have p7 : jv 0 0 y3 := by rw [← ezy4]; exact jv_k 0 (by rw [zw6e]; rfl)
        have hk8 := (hk5.trans (if_pos (by rw [zw6e]; decide)))
        refine g_aload_n cx 0 rfl e_X11_told_100 ?_
        refine g_cViW cx [] [] (w_X11_standing l X ad F R hI hA hWT hWC) ml_X11_407 yV_X11_standing e_X11_told_101 (by unfold g_rr; decide) (by decide) 0 rfl rfl rfl (Nat.le_of_ble_eq_true rfl) (fun r9 w10 h11 => ?_)
        obtain ⟨rfl, pr9, hx12⟩ := h11
        have hk13 := k_ls hk8 hx12
        refine g_cSiW cx [.int r9] [] (w_X11_bits l X ad F R hI hA r9) ml_X11_410 yS_X11_bits rfl e_X11_told_104 (by unfold g_rr; decide) (by decide) rfl (Nat.le_of_ble_eq_true rfl) (fun r14 w15 h16 => ?_)
        obtain ⟨rfl, pr14, zx17, hx18⟩ := h16
        have hk19 := k_ls hk13 hx18
        exact hret e_X11_told_107 (Nat.le_of_ble_eq_true rfl) (Nat.le_of_ble_eq_true rfl) rfl ⟨rfl, (jv_w pr14 (by decide)), (hk19.symm.trans hSP)⟩
      · refine g_tableIn cx 108 e_X11_told_22 (by rw [zw6e]; decide) (by rw [zw6e]; decide) (by rw [zw6e]; rfl) (by decide) ?_
        have p20 : jv 1 1 y3 := by rw [← ezy4]; exact jv_k 1 (by rw [zw6e]; rfl)
        have hk21 := ((hk5.trans (if_neg (by rw [zw6e]; decide))).trans (if_pos (by rw [zw6e]; decide)))
        refine g_aload_n cx 0 rfl e_X11_told_108 ?_
        refine g_cViW cx [] [] (w_X11_inchesAll l X ad F R hI hA hWT hWC) ml_X11_413 yV_X11_inchesAll e_X11_told_109 (by unfold g_rr; decide) (by decide) 0 rfl rfl rfl (Nat.le_of_ble_eq_true rfl) (fun r22 w23 h24 => ?_)
        obtain ⟨rfl, pr22, hx25⟩ := h24
        have hk26 := k_ls hk21 hx25
        exact hret e_X11_told_112 (Nat.le_of_ble_eq_true rfl) (Nat.le_of_ble_eq_true rfl) rfl ⟨rfl, pr22, (hk26.symm.trans hSP)⟩
      · refine g_tableIn cx 113 e_X11_told_22 (by rw [zw6e]; decide) (by rw [zw6e]; decide) (by rw [zw6e]; rfl) (by decide) ?_
        have p27 : jv 2 2 y3 := by rw [← ezy4]; exact jv_k 2 (by rw [zw6e]; rfl)
        have hk28 := (((hk5.trans (if_neg (by rw [zw6e]; decide))).trans (if_neg (by rw [zw6e]; decide))).trans (if_pos (by rw [zw6e]; decide)))
        refine g_aload_n cx 0 rfl e_X11_told_113 ?_
        refine g_get cx cl_X11 fl_X11_325 0 (.int (F 45)) e_X11_told_114 rfl rfl ?_
        exact hret e_X11_told_117 (Nat.le_of_ble_eq_true rfl) (Nat.le_of_ble_eq_true rfl) rfl ⟨rfl, (jv_w (g_ok_g hI 12 rfl) (by decide)), (hk28.symm.trans hSP)⟩
      · refine g_tableIn cx 118 e_X11_told_22 (by rw [zw6e]; decide) (by rw [zw6e]; decide) (by rw [zw6e]; rfl) (by decide) ?_
        have p29 : jv 3 3 y3 := by rw [← ezy4]; exact jv_k 3 (by rw [zw6e]; rfl)
        have hk30 := ((((hk5.trans (if_neg (by rw [zw6e]; decide))).trans (if_neg (by rw [zw6e]; decide))).trans (if_neg (by rw [zw6e]; decide))).trans (if_pos (by rw [zw6e]; decide)))
        refine g_aload_n cx 0 rfl e_X11_told_118 ?_
        refine g_get cx cl_X11 fl_X11_331 0 (.int (F 48)) e_X11_told_119 rfl rfl ?_
        exact hret e_X11_told_122 (Nat.le_of_ble_eq_true rfl) (Nat.le_of_ble_eq_true rfl) rfl ⟨rfl, (jv_t (F 48)), (hk30.symm.trans hSP)⟩
      · refine g_tableIn cx 123 e_X11_told_22 (by rw [zw6e]; decide) (by rw [zw6e]; decide) (by rw [zw6e]; rfl) (by decide) ?_
        have p31 : jv 4 4 y3 := by rw [← ezy4]; exact jv_k 4 (by rw [zw6e]; rfl)
        have hk32 := (((((hk5.trans (if_neg (by rw [zw6e]; decide))).trans (if_neg (by rw [zw6e]; decide))).trans (if_neg (by rw [zw6e]; decide))).trans (if_neg (by rw [zw6e]; decide))).trans (if_pos (by rw [zw6e]; decide)))
        refine g_aload_n cx 0 rfl e_X11_told_123 ?_
        refine g_iconst cx 1 (by decide) e_X11_told_124 ?_
        refine g_cViW cx [.int 1] [] (w_X11_stateBits l X ad F R hI hA hWT hWC 1) ml_X11_416 yV_X11_stateBits e_X11_told_125 (by unfold g_rr; decide) (by decide) 0 rfl rfl rfl (Nat.le_of_ble_eq_true rfl) (fun r33 w34 h35 => ?_)
        obtain ⟨rfl, pr33, hx36⟩ := h35
        have hk37 := k_ls hk32 hx36
        exact hret e_X11_told_128 (Nat.le_of_ble_eq_true rfl) (Nat.le_of_ble_eq_true rfl) rfl ⟨rfl, pr33, (hk37.symm.trans hSP)⟩
      · refine g_tableIn cx 129 e_X11_told_22 (by rw [zw6e]; decide) (by rw [zw6e]; decide) (by rw [zw6e]; rfl) (by decide) ?_
        have p38 : jv 5 5 y3 := by rw [← ezy4]; exact jv_k 5 (by rw [zw6e]; rfl)
        have hk39 := ((((((hk5.trans (if_neg (by rw [zw6e]; decide))).trans (if_neg (by rw [zw6e]; decide))).trans (if_neg (by rw [zw6e]; decide))).trans (if_neg (by rw [zw6e]; decide))).trans (if_neg (by rw [zw6e]; decide))).trans (if_pos (by rw [zw6e]; decide)))
        refine g_aload_n cx 0 rfl e_X11_told_129 ?_
        refine g_iconst cx 2 (by decide) e_X11_told_130 ?_
        refine g_cViW cx [.int 2] [] (w_X11_stateBits l X ad F R hI hA hWT hWC 2) ml_X11_416 yV_X11_stateBits e_X11_told_131 (by unfold g_rr; decide) (by decide) 0 rfl rfl rfl (Nat.le_of_ble_eq_true rfl) (fun r40 w41 h42 => ?_)
        obtain ⟨rfl, pr40, hx43⟩ := h42
        have hk44 := k_ls hk39 hx43
        exact hret e_X11_told_134 (Nat.le_of_ble_eq_true rfl) (Nat.le_of_ble_eq_true rfl) rfl ⟨rfl, pr40, (hk44.symm.trans hSP)⟩
      · refine g_tableIn cx 135 e_X11_told_22 (by rw [zw6e]; decide) (by rw [zw6e]; decide) (by rw [zw6e]; rfl) (by decide) ?_
        have p45 : jv 6 6 y3 := by rw [← ezy4]; exact jv_k 6 (by rw [zw6e]; rfl)
        have hk46 := (((((((hk5.trans (if_neg (by rw [zw6e]; decide))).trans (if_neg (by rw [zw6e]; decide))).trans (if_neg (by rw [zw6e]; decide))).trans (if_neg (by rw [zw6e]; decide))).trans (if_neg (by rw [zw6e]; decide))).trans (if_neg (by rw [zw6e]; decide))).trans (if_pos (by rw [zw6e]; decide)))
        refine g_aload_n cx 0 rfl e_X11_told_135 ?_
        refine g_get cx cl_X11 fl_X11_334 0 (.int (F 65)) e_X11_told_136 rfl rfl ?_
        exact hret e_X11_told_139 (Nat.le_of_ble_eq_true rfl) (Nat.le_of_ble_eq_true rfl) rfl ⟨rfl, (jv_t (F 65)), (hk46.symm.trans hSP)⟩
      · refine g_tableIn cx 140 e_X11_told_22 (by rw [zw6e]; decide) (by rw [zw6e]; decide) (by rw [zw6e]; rfl) (by decide) ?_
        have p47 : jv 7 7 y3 := by rw [← ezy4]; exact jv_k 7 (by rw [zw6e]; rfl)
        have hk48 := ((((((((hk5.trans (if_neg (by rw [zw6e]; decide))).trans (if_neg (by rw [zw6e]; decide))).trans (if_neg (by rw [zw6e]; decide))).trans (if_neg (by rw [zw6e]; decide))).trans (if_neg (by rw [zw6e]; decide))).trans (if_neg (by rw [zw6e]; decide))).trans (if_neg (by rw [zw6e]; decide))).trans (if_pos (by rw [zw6e]; decide)))
        refine g_aload_n cx 0 rfl e_X11_told_140 ?_
        refine g_get cx cl_X11 fl_X11_337 0 (.int (F 66)) e_X11_told_141 rfl rfl ?_
        exact hret e_X11_told_144 (Nat.le_of_ble_eq_true rfl) (Nat.le_of_ble_eq_true rfl) rfl ⟨rfl, (jv_t (F 66)), (hk48.symm.trans hSP)⟩
      · refine g_tableIn cx 145 e_X11_told_22 (by rw [zw6e]; decide) (by rw [zw6e]; decide) (by rw [zw6e]; rfl) (by decide) ?_
        have p49 : jv 8 8 y3 := by rw [← ezy4]; exact jv_k 8 (by rw [zw6e]; rfl)
        have hk50 := (((((((((hk5.trans (if_neg (by rw [zw6e]; decide))).trans (if_neg (by rw [zw6e]; decide))).trans (if_neg (by rw [zw6e]; decide))).trans (if_neg (by rw [zw6e]; decide))).trans (if_neg (by rw [zw6e]; decide))).trans (if_neg (by rw [zw6e]; decide))).trans (if_neg (by rw [zw6e]; decide))).trans (if_neg (by rw [zw6e]; decide))).trans (if_pos (by rw [zw6e]; decide)))
        refine g_aload_n cx 0 rfl e_X11_told_145 ?_
        refine g_get cx cl_X11 fl_X11_340 0 (.int (F 67)) e_X11_told_146 rfl rfl ?_
        exact hret e_X11_told_149 (Nat.le_of_ble_eq_true rfl) (Nat.le_of_ble_eq_true rfl) rfl ⟨rfl, (jv_t (F 67)), (hk50.symm.trans hSP)⟩
      · refine g_tableIn cx 184 e_X11_told_22 (by rw [zw6e]; decide) (by rw [zw6e]; decide) (by rw [zw6e]; rfl) (by decide) ?_
        have p51 : jv 9 9 y3 := by rw [← ezy4]; exact jv_k 9 (by rw [zw6e]; rfl)
        have hk52 := ((((((((((hk5.trans (if_neg (by rw [zw6e]; decide))).trans (if_neg (by rw [zw6e]; decide))).trans (if_neg (by rw [zw6e]; decide))).trans (if_neg (by rw [zw6e]; decide))).trans (if_neg (by rw [zw6e]; decide))).trans (if_neg (by rw [zw6e]; decide))).trans (if_neg (by rw [zw6e]; decide))).trans (if_neg (by rw [zw6e]; decide))).trans (if_neg (by rw [zw6e]; decide))).trans (if_pos (by rw [zw6e]; decide)))
        refine g_aload_n cx 0 rfl e_X11_told_184 ?_
        refine g_get cx cl_X11 fl_X11_95 0 (.ref (ad 29)) e_X11_told_185 rfl rfl ?_
        refine g_iload_n cx 1 rfl e_X11_told_188 ?_
        refine g_iald cx 29 e_X11_told_189 rfl (jv_ix 10 zx1.2 (by decide)) ?_
        refine g_topi (fun x53 ex53 => ?_)
        have hk54 := k_ls hk52 ex53
        exact hret e_X11_told_190 (Nat.le_of_ble_eq_true rfl) (Nat.le_of_ble_eq_true rfl) rfl ⟨rfl, (jv_t x53), (hk54.symm.trans hSP)⟩
      · refine g_tableIn cx 184 e_X11_told_22 (by rw [zw6e]; decide) (by rw [zw6e]; decide) (by rw [zw6e]; rfl) (by decide) ?_
        have p55 : jv 10 10 y3 := by rw [← ezy4]; exact jv_k 10 (by rw [zw6e]; rfl)
        have hk56 := (((((((((((hk5.trans (if_neg (by rw [zw6e]; decide))).trans (if_neg (by rw [zw6e]; decide))).trans (if_neg (by rw [zw6e]; decide))).trans (if_neg (by rw [zw6e]; decide))).trans (if_neg (by rw [zw6e]; decide))).trans (if_neg (by rw [zw6e]; decide))).trans (if_neg (by rw [zw6e]; decide))).trans (if_neg (by rw [zw6e]; decide))).trans (if_neg (by rw [zw6e]; decide))).trans (if_neg (by rw [zw6e]; decide))).trans (if_pos (by rw [zw6e]; decide)))
        refine g_aload_n cx 0 rfl e_X11_told_184 ?_
        refine g_get cx cl_X11 fl_X11_95 0 (.ref (ad 29)) e_X11_told_185 rfl rfl ?_
        refine g_iload_n cx 1 rfl e_X11_told_188 ?_
        refine g_iald cx 29 e_X11_told_189 rfl (jv_ix 10 zx1.2 (by decide)) ?_
        refine g_topi (fun x57 ex57 => ?_)
        have hk58 := k_ls hk56 ex57
        exact hret e_X11_told_190 (Nat.le_of_ble_eq_true rfl) (Nat.le_of_ble_eq_true rfl) rfl ⟨rfl, (jv_t x57), (hk58.symm.trans hSP)⟩
      · refine g_tableIn cx 150 e_X11_told_22 (by rw [zw6e]; decide) (by rw [zw6e]; decide) (by rw [zw6e]; rfl) (by decide) ?_
        have p59 : jv 11 11 y3 := by rw [← ezy4]; exact jv_k 11 (by rw [zw6e]; rfl)
        have hk60 := ((((((((((((hk5.trans (if_neg (by rw [zw6e]; decide))).trans (if_neg (by rw [zw6e]; decide))).trans (if_neg (by rw [zw6e]; decide))).trans (if_neg (by rw [zw6e]; decide))).trans (if_neg (by rw [zw6e]; decide))).trans (if_neg (by rw [zw6e]; decide))).trans (if_neg (by rw [zw6e]; decide))).trans (if_neg (by rw [zw6e]; decide))).trans (if_neg (by rw [zw6e]; decide))).trans (if_neg (by rw [zw6e]; decide))).trans (if_neg (by rw [zw6e]; decide))).trans (if_pos (by rw [zw6e]; decide)))
        refine g_aload_n cx 0 rfl e_X11_told_150 ?_
        refine g_iload_n cx 1 rfl e_X11_told_151 ?_
        refine g_cViW cx [.int x1] [] (w_X11_endsAt l X ad F R hI hA hWT hWC x1 zx1.2) ml_X11_419 yV_X11_endsAt e_X11_told_152 (by unfold g_rr; decide) (by decide) 0 rfl rfl rfl (Nat.le_of_ble_eq_true rfl) (fun r61 w62 h63 => ?_)
        obtain ⟨rfl, pr61, hx64⟩ := h63
        have hk65 := k_ls hk60 hx64
        exact hret e_X11_told_155 (Nat.le_of_ble_eq_true rfl) (Nat.le_of_ble_eq_true rfl) rfl ⟨rfl, pr61, (hk65.symm.trans hSP)⟩
      · refine g_tableIn cx 156 e_X11_told_22 (by rw [zw6e]; decide) (by rw [zw6e]; decide) (by rw [zw6e]; rfl) (by decide) ?_
        have p66 : jv 12 12 y3 := by rw [← ezy4]; exact jv_k 12 (by rw [zw6e]; rfl)
        have hk67 := (((((((((((((hk5.trans (if_neg (by rw [zw6e]; decide))).trans (if_neg (by rw [zw6e]; decide))).trans (if_neg (by rw [zw6e]; decide))).trans (if_neg (by rw [zw6e]; decide))).trans (if_neg (by rw [zw6e]; decide))).trans (if_neg (by rw [zw6e]; decide))).trans (if_neg (by rw [zw6e]; decide))).trans (if_neg (by rw [zw6e]; decide))).trans (if_neg (by rw [zw6e]; decide))).trans (if_neg (by rw [zw6e]; decide))).trans (if_neg (by rw [zw6e]; decide))).trans (if_neg (by rw [zw6e]; decide))).trans (if_pos (by rw [zw6e]; decide)))
        refine g_aload_n cx 0 rfl e_X11_told_156 ?_
        refine g_get cx cl_X11 fl_X11_104 0 (.ref (ad 32)) e_X11_told_157 rfl rfl ?_
        refine g_iload_n cx 1 rfl e_X11_told_160 ?_
        refine g_iald cx 32 e_X11_told_161 rfl (jv_ix 10 zx1.2 (by decide)) ?_
        refine g_topi (fun x68 ex68 => ?_)
        have hk69 := k_ls hk67 ex68
        exact hret e_X11_told_162 (Nat.le_of_ble_eq_true rfl) (Nat.le_of_ble_eq_true rfl) rfl ⟨rfl, (jv_t x68), (hk69.symm.trans hSP)⟩
      · refine g_tableIn cx 163 e_X11_told_22 (by rw [zw6e]; decide) (by rw [zw6e]; decide) (by rw [zw6e]; rfl) (by decide) ?_
        have p70 : jv 13 13 y3 := by rw [← ezy4]; exact jv_k 13 (by rw [zw6e]; rfl)
        have hk71 := ((((((((((((((hk5.trans (if_neg (by rw [zw6e]; decide))).trans (if_neg (by rw [zw6e]; decide))).trans (if_neg (by rw [zw6e]; decide))).trans (if_neg (by rw [zw6e]; decide))).trans (if_neg (by rw [zw6e]; decide))).trans (if_neg (by rw [zw6e]; decide))).trans (if_neg (by rw [zw6e]; decide))).trans (if_neg (by rw [zw6e]; decide))).trans (if_neg (by rw [zw6e]; decide))).trans (if_neg (by rw [zw6e]; decide))).trans (if_neg (by rw [zw6e]; decide))).trans (if_neg (by rw [zw6e]; decide))).trans (if_neg (by rw [zw6e]; decide))).trans (if_pos (by rw [zw6e]; decide)))
        refine g_aload_n cx 0 rfl e_X11_told_163 ?_
        refine g_get cx cl_X11 fl_X11_107 0 (.ref (ad 33)) e_X11_told_164 rfl rfl ?_
        refine g_iload_n cx 1 rfl e_X11_told_167 ?_
        refine g_iald cx 33 e_X11_told_168 rfl (jv_ix 10 zx1.2 (by decide)) ?_
        refine g_topi (fun x72 ex72 => ?_)
        have hk73 := k_ls hk71 ex72
        exact hret e_X11_told_169 (Nat.le_of_ble_eq_true rfl) (Nat.le_of_ble_eq_true rfl) rfl ⟨rfl, (jv_t x72), (hk73.symm.trans hSP)⟩
      · refine g_tableIn cx 170 e_X11_told_22 (by rw [zw6e]; decide) (by rw [zw6e]; decide) (by rw [zw6e]; rfl) (by decide) ?_
        have p74 : jv 14 14 y3 := by rw [← ezy4]; exact jv_k 14 (by rw [zw6e]; rfl)
        have hk75 := (((((((((((((((hk5.trans (if_neg (by rw [zw6e]; decide))).trans (if_neg (by rw [zw6e]; decide))).trans (if_neg (by rw [zw6e]; decide))).trans (if_neg (by rw [zw6e]; decide))).trans (if_neg (by rw [zw6e]; decide))).trans (if_neg (by rw [zw6e]; decide))).trans (if_neg (by rw [zw6e]; decide))).trans (if_neg (by rw [zw6e]; decide))).trans (if_neg (by rw [zw6e]; decide))).trans (if_neg (by rw [zw6e]; decide))).trans (if_neg (by rw [zw6e]; decide))).trans (if_neg (by rw [zw6e]; decide))).trans (if_neg (by rw [zw6e]; decide))).trans (if_neg (by rw [zw6e]; decide))).trans (if_pos (by rw [zw6e]; decide)))
        refine g_aload_n cx 0 rfl e_X11_told_170 ?_
        refine g_get cx cl_X11 fl_X11_110 0 (.ref (ad 34)) e_X11_told_171 rfl rfl ?_
        refine g_iload_n cx 1 rfl e_X11_told_174 ?_
        refine g_iald cx 34 e_X11_told_175 rfl (jv_ix 10 zx1.2 (by decide)) ?_
        refine g_topi (fun x76 ex76 => ?_)
        have hk77 := k_ls hk75 ex76
        exact hret e_X11_told_176 (Nat.le_of_ble_eq_true rfl) (Nat.le_of_ble_eq_true rfl) rfl ⟨rfl, (jv_t x76), (hk77.symm.trans hSP)⟩
      · refine g_tableIn cx 177 e_X11_told_22 (by rw [zw6e]; decide) (by rw [zw6e]; decide) (by rw [zw6e]; rfl) (by decide) ?_
        have p78 : jv 15 15 y3 := by rw [← ezy4]; exact jv_k 15 (by rw [zw6e]; rfl)
        have hk79 := ((((((((((((((((hk5.trans (if_neg (by rw [zw6e]; decide))).trans (if_neg (by rw [zw6e]; decide))).trans (if_neg (by rw [zw6e]; decide))).trans (if_neg (by rw [zw6e]; decide))).trans (if_neg (by rw [zw6e]; decide))).trans (if_neg (by rw [zw6e]; decide))).trans (if_neg (by rw [zw6e]; decide))).trans (if_neg (by rw [zw6e]; decide))).trans (if_neg (by rw [zw6e]; decide))).trans (if_neg (by rw [zw6e]; decide))).trans (if_neg (by rw [zw6e]; decide))).trans (if_neg (by rw [zw6e]; decide))).trans (if_neg (by rw [zw6e]; decide))).trans (if_neg (by rw [zw6e]; decide))).trans (if_neg (by rw [zw6e]; decide))).trans (if_pos (by rw [zw6e]; decide)))
        refine g_aload_n cx 0 rfl e_X11_told_177 ?_
        refine g_get cx cl_X11 fl_X11_113 0 (.ref (ad 35)) e_X11_told_178 rfl rfl ?_
        refine g_iload_n cx 1 rfl e_X11_told_181 ?_
        refine g_iald cx 35 e_X11_told_182 rfl (jv_ix 10 zx1.2 (by decide)) ?_
        refine g_topi (fun x80 ex80 => ?_)
        have hk81 := k_ls hk79 ex80
        exact hret e_X11_told_183 (Nat.le_of_ble_eq_true rfl) (Nat.le_of_ble_eq_true rfl) rfl ⟨rfl, (jv_t x80), (hk81.symm.trans hSP)⟩
    · refine g_tableOut cx 184 e_X11_told_22 zw6 (by decide) ?_
      have p82 := jv_so 16 20 zw6 py3 ezy4 (by decide)
      have hk83 := ((((((((((((((((hk5.trans (if_neg (by omega))).trans (if_neg (by omega))).trans (if_neg (by omega))).trans (if_neg (by omega))).trans (if_neg (by omega))).trans (if_neg (by omega))).trans (if_neg (by omega))).trans (if_neg (by omega))).trans (if_neg (by omega))).trans (if_neg (by omega))).trans (if_neg (by omega))).trans (if_neg (by omega))).trans (if_neg (by omega))).trans (if_neg (by omega))).trans (if_neg (by omega))).trans (if_neg (by omega)))
      refine g_aload_n cx 0 rfl e_X11_told_184 ?_
      refine g_get cx cl_X11 fl_X11_95 0 (.ref (ad 29)) e_X11_told_185 rfl rfl ?_
      refine g_iload_n cx 1 rfl e_X11_told_188 ?_
      refine g_iald cx 29 e_X11_told_189 rfl (jv_ix 10 zx1.2 (by decide)) ?_
      refine g_topi (fun x84 ex84 => ?_)
      have hk85 := k_ls hk83 ex84
      exact hret e_X11_told_190 (Nat.le_of_ble_eq_true rfl) (Nat.le_of_ble_eq_true rfl) rfl ⟨rfl, (jv_t x84), (hk85.symm.trans hSP)⟩
  refine g_icmp_ge cx 15 e_X11_told_8 (by decide) (fun zc86 => ?_) (fun zc86 => ?_)
  · have p87 := gn_ge 10 69 (gc_le zc86) pa0 (jv_k (x := 10) 10 (by decide)) (by decide)
    have hk88 := hk2.trans (if_pos zc86)
    refine g_bipush cx 10 (by decide) e_X11_told_15 ?_
    refine g_iload_n cx 2 rfl e_X11_told_17 ?_
    refine g_bipush cx 10 (by decide) e_X11_told_18 ?_
    refine g_idiv cx (by decide) e_X11_told_20 ?_
    refine g_topi (fun x89 ex89 => ?_)
    have hk90 := k_ls hk88 ex89
    have zx89 := jv_div 0 6 ex89 p87 (jv_k (x := 10) 10 (by decide)) (by decide)
    refine g_iadd cx e_X11_told_21 ?_
    refine g_topi (fun x91 ex91 => ?_)
    have hk92 := k_ls hk90 ex91
    have zx91 := jv_add 10 16 ex91 (jv_k (x := 10) 10 (by decide)) zx89.2 (by decide)
    refine g_lsub [1, 0] [(0, .ref (ad 0)), (2, .int x1)] rfl ?_
    exact J22 x91 (jv_w zx91.2 (by decide)) hk92
  · have p93 := gn_lt 0 9 (gc_nle zc86) pa0 (jv_k (x := 10) 10 (by decide)) (by decide)
    have hk94 := hk2.trans (if_neg zc86)
    refine g_iload_n cx 2 rfl e_X11_told_11 ?_
    refine g_goto cx 22 e_X11_told_12 (by decide) ?_
    refine g_lsub [1, 0] [(0, .ref (ad 0)), (2, .int x1)] rfl ?_
    exact J22 a0 (jv_w p93 (by decide)) hk94
def sp_X11_tried (F : Nat → Int32) (R : Nat → Nat → Int32) (a0 : Int32) : Int32 × (Nat → Int32) × (Nat → Nat → Int32) :=
  k_lt (sp_X11_isAsked F R a0) (fun r1 => if r1 = 0 then ((-1), F, R) else k_lt2 (sp_X11_runsDrawn F R) (fun F15 R16 => k_lt (upd F15 3 (F 3)) (fun F18 => k_lt (sp_X11_told F18 R16 a0) (fun r20 => (r20, F18, R16)))))
theorem e_X11_tried_0 : g_dc cX11_tried 0 (.aload_n 0) 1 1 := ⟨by decide +kernel, rfl⟩
theorem e_X11_tried_1 : g_dc cX11_tried 1 (.iload_n 1) 1 2 := ⟨by decide +kernel, rfl⟩
theorem e_X11_tried_2 : g_dc cX11_tried 2 (.invokevirtual 431) 3 5 := ⟨by decide +kernel, rfl⟩
theorem e_X11_tried_5 : g_dc cX11_tried 5 (.ifCond .ne 5) 3 8 := ⟨by decide +kernel, rfl⟩
theorem e_X11_tried_8 : g_dc cX11_tried 8 (.iconst (-1)) 1 9 := ⟨by decide +kernel, rfl⟩
theorem e_X11_tried_9 : g_dc cX11_tried 9 (.ireturn) 1 10 := ⟨by decide +kernel, rfl⟩
theorem e_X11_tried_10 : g_dc cX11_tried 10 (.aload_n 0) 1 11 := ⟨by decide +kernel, rfl⟩
theorem e_X11_tried_11 : g_dc cX11_tried 11 (.getfield 162) 3 14 := ⟨by decide +kernel, rfl⟩
theorem e_X11_tried_14 : g_dc cX11_tried 14 (.istore_n 2) 1 15 := ⟨by decide +kernel, rfl⟩
theorem e_X11_tried_15 : g_dc cX11_tried 15 (.aload_n 0) 1 16 := ⟨by decide +kernel, rfl⟩
theorem e_X11_tried_16 : g_dc cX11_tried 16 (.invokevirtual 434) 3 19 := ⟨by decide +kernel, rfl⟩
theorem e_X11_tried_19 : g_dc cX11_tried 19 (.aload_n 0) 1 20 := ⟨by decide +kernel, rfl⟩
theorem e_X11_tried_20 : g_dc cX11_tried 20 (.iload_n 2) 1 21 := ⟨by decide +kernel, rfl⟩
theorem e_X11_tried_21 : g_dc cX11_tried 21 (.putfield 162) 3 24 := ⟨by decide +kernel, rfl⟩
theorem e_X11_tried_24 : g_dc cX11_tried 24 (.aload_n 0) 1 25 := ⟨by decide +kernel, rfl⟩
theorem e_X11_tried_25 : g_dc cX11_tried 25 (.iload_n 1) 1 26 := ⟨by decide +kernel, rfl⟩
theorem e_X11_tried_26 : g_dc cX11_tried 26 (.invokevirtual 437) 3 29 := ⟨by decide +kernel, rfl⟩
theorem e_X11_tried_29 : g_dc cX11_tried 29 (.ireturn) 1 30 := ⟨by decide +kernel, rfl⟩
def md_X11_tried : List Nat := [3, 42, 43, 44, 45, 46, 47, 48, 49, 50, 51, 65, 66, 67, 68, 69]
def mr_X11_tried : List Nat := [23, 24, 25, 26, 27, 28, 29, 30, 31, 32, 33, 34, 35, 36, 37]
set_option maxHeartbeats 4000000 in
set_option maxRecDepth 100000 in
theorem w_X11_tried (l : Launch) (X : gX) (ad : Nat → Nat) (F : Nat → Int32) (R : Nat → Nat → Int32) (hI : g_ok LK_wM F) (hA : g_okR LA_wM R) (hWT : WT F R) (hWC : WC F R) (a0 : Int32) : g_Ci l X yX11_tried cX11_tried 3 (some .int) 8 0 0 [.ref (ad 0), .int a0] (wM X ad F R) (fun r w => ∃ (F' : Nat → Int32) (R' : Nat → Nat → Int32), w = wM X ad F' R' ∧ g_ok LK_wM F' ∧ g_okR LA_wM R' ∧ WT F' R' ∧ WC F' R' ∧ g_fr md_X11_tried F F' ∧ g_fr mr_X11_tried R R' ∧ jv (-2147483648) 2147483647 r ∧ (r, F', R') = sp_X11_tried F R a0) := by
  refine g_mi (by decide +kernel) (Nat.le_of_ble_eq_true rfl) (fun E cx hret => ?_)
  obtain ⟨SP, hSP⟩ : ∃ z, z = sp_X11_tried F R a0 := ⟨_, rfl⟩
  have hk0 := hSP
  unfold sp_X11_tried at hk0
  refine g_aload_n cx 0 rfl e_X11_tried_0 ?_
  refine g_iload_n cx 1 rfl e_X11_tried_1 ?_
  refine g_cViW cx [.int a0] [] (w_X11_isAsked l X ad F R hI hA hWT hWC a0) ml_X11_431 yV_X11_isAsked e_X11_tried_2 (by unfold g_rr; decide) (by decide) 0 rfl rfl rfl (Nat.le_of_ble_eq_true rfl) (fun r1 w2 h3 => ?_)
  obtain ⟨rfl, pr1, zx4, hx5⟩ := h3
  have hk6 := k_ls hk0 hx5
  refine g_if_ne cx 10 e_X11_tried_5 (by decide) (fun zc7 => ?_) (fun zc7 => ?_)
  · have p8 := gn_neL 1 1 (gc_ne zc7) pr1 (jv_k (x := 0) 0 (by decide)) (by decide)
    have p9 := jv_i 0 69 (jv_t a0) (zx4 zc7) (by decide)
    have hk10 := hk6.trans (if_neg zc7)
    refine g_aload_n cx 0 rfl e_X11_tried_10 ?_
    refine g_get cx cl_X11 fl_X11_162 0 (.int (F 3)) e_X11_tried_11 rfl rfl ?_
    refine g_istore_n cx [(2, .int (F 3)), (0, .ref (ad 0)), (1, .int a0)] e_X11_tried_14 (by decide) rfl ?_
    refine g_aload_n cx 1 rfl e_X11_tried_15 ?_
    refine g_cVvW cx [] [] (w_X11_runsDrawn l X ad F R hI hA hWT hWC) ml_X11_434 yV_X11_runsDrawn e_X11_tried_16 (by unfold g_rr; decide) (by decide) 0 rfl rfl rfl (Nat.le_of_ble_eq_true rfl) (fun w12 h13 => ?_)
    obtain ⟨F15, R16, rfl, oF15, oR16, wTF15, wCF15, cF15, cR16, hx14⟩ := h13
    have hk17 := k_ls2 hk10 hx14
    have fF15 : g_fr md_X11_tried F F15 := g_fr_c (g_fr_rf F) cF15 rfl
    have fR16 : g_fr mr_X11_tried R R16 := g_fr_c (g_fr_rf R) cR16 rfl
    refine g_aload_n cx 1 rfl e_X11_tried_19 ?_
    refine g_iload_n cx 0 rfl e_X11_tried_20 ?_
    refine g_put cx cl_X11 fl_X11_162 0 (wM X ad (upd F15 3 (F 3)) R16) e_X11_tried_21 rfl rfl rfl rfl (Nat.le_of_ble_eq_true rfl) rfl ?_
    obtain ⟨F18, hF18⟩ : ∃ z, z = upd F15 3 (F 3) := ⟨_, rfl⟩
    rw [← hF18]
    have hk19 := k_ls hk17 hF18
    have oF18 : g_ok LK_wM F18 := by rw [hF18]; exact g_ok_u oF15 rfl
    have fF18 : g_fr md_X11_tried F F18 := by rw [hF18]; exact g_fr_u fF15 rfl
    have wTF18 : WT F18 R16 := by rw [hF18]; exact WT_u wTF15 rfl
    have wCF18 : WC F18 R16 := by rw [hF18]; exact WC_u wCF15 rfl
    refine g_aload_n cx 1 rfl e_X11_tried_24 ?_
    refine g_iload_n cx 2 rfl e_X11_tried_25 ?_
    refine g_cViW cx [.int a0] [] (w_X11_told l X ad F18 R16 oF18 oR16 wTF18 wCF18 a0 p9) ml_X11_437 yV_X11_told e_X11_tried_26 (by unfold g_rr; decide) (by decide) 0 rfl rfl rfl (Nat.le_of_ble_eq_true rfl) (fun r20 w21 h22 => ?_)
    obtain ⟨rfl, pr20, hx23⟩ := h22
    have hk24 := k_ls hk19 hx23
    exact hret e_X11_tried_29 (Nat.le_of_ble_eq_true rfl) (Nat.le_of_ble_eq_true rfl) rfl ⟨F18, R16, rfl, oF18, oR16, wTF18, wCF18, fF18, fR16, pr20, (hk24.symm.trans hSP)⟩
  · have p25 := gn_eq 0 0 (gc_eq zc7) pr1 (jv_k (x := 0) 0 (by decide)) (by decide)
    have hk26 := hk6.trans (if_pos zc7)
    refine g_iconst cx (-1) (by decide) e_X11_tried_8 ?_
    exact hret e_X11_tried_9 (Nat.le_of_ble_eq_true rfl) (Nat.le_of_ble_eq_true rfl) rfl ⟨F, R, rfl, hI, hA, hWT, hWC, (g_fr_rf F), (g_fr_rf R), (jv_w (jv_k (x := (-1)) (-1) (by decide)) (by decide)), (hk26.symm.trans hSP)⟩
def sp_X11_runsStill (F : Nat → Int32) (R : Nat → Nat → Int32) : (Nat → Int32) × (Nat → Nat → Int32) :=
  k_lt2 (sp_X11_laysPull F R) (fun F5 R6 => k_lt2 (sp_X11_laysThings F5 R6) (fun F13 R14 => k_lt2 (sp_X11_runs F13 R14) (fun F20 R21 => (F20, R21))))
theorem e_X11_runsStill_0 : g_dc cX11_runsStill 0 (.aload_n 0) 1 1 := ⟨by decide +kernel, rfl⟩
theorem e_X11_runsStill_1 : g_dc cX11_runsStill 1 (.invokevirtual 422) 3 4 := ⟨by decide +kernel, rfl⟩
theorem e_X11_runsStill_4 : g_dc cX11_runsStill 4 (.aload_n 0) 1 5 := ⟨by decide +kernel, rfl⟩
theorem e_X11_runsStill_5 : g_dc cX11_runsStill 5 (.invokevirtual 425) 3 8 := ⟨by decide +kernel, rfl⟩
theorem e_X11_runsStill_8 : g_dc cX11_runsStill 8 (.aload_n 0) 1 9 := ⟨by decide +kernel, rfl⟩
theorem e_X11_runsStill_9 : g_dc cX11_runsStill 9 (.invokevirtual 428) 3 12 := ⟨by decide +kernel, rfl⟩
theorem e_X11_runsStill_12 : g_dc cX11_runsStill 12 (.return_) 1 13 := ⟨by decide +kernel, rfl⟩
def md_X11_runsStill : List Nat := [3, 42, 43, 44, 45, 46, 47, 48, 49, 50, 51, 65, 66, 67, 68, 69]
def mr_X11_runsStill : List Nat := [23, 24, 25, 26, 27, 28, 29, 30, 31, 32, 33, 34, 35, 36, 37]
set_option maxHeartbeats 4000000 in
set_option maxRecDepth 100000 in
theorem w_X11_runsStill (l : Launch) (X : gX) (ad : Nat → Nat) (F : Nat → Int32) (R : Nat → Nat → Int32) (hI : g_ok LK_wM F) (hA : g_okR LA_wM R) (hWT : WT F R) (hWC : WC F R) : g_Cv l X yX11_runsStill cX11_runsStill 1 7 0 0 [.ref (ad 0)] (wM X ad F R) (fun w => ∃ (F' : Nat → Int32) (R' : Nat → Nat → Int32), w = wM X ad F' R' ∧ g_ok LK_wM F' ∧ g_okR LA_wM R' ∧ WT F' R' ∧ WC F' R' ∧ g_fr md_X11_runsStill F F' ∧ g_fr mr_X11_runsStill R R' ∧ (F', R') = sp_X11_runsStill F R) := by
  refine g_mv (by decide +kernel) (Nat.le_of_ble_eq_true rfl) (fun E cx hret => ?_)
  obtain ⟨SP, hSP⟩ : ∃ z, z = sp_X11_runsStill F R := ⟨_, rfl⟩
  have hk0 := hSP
  unfold sp_X11_runsStill at hk0
  refine g_aload_n cx 0 rfl e_X11_runsStill_0 ?_
  refine g_cVvW cx [] [] (w_X11_laysPull l X ad F R hI hA hWT hWC) ml_X11_422 yV_X11_laysPull e_X11_runsStill_1 (by unfold g_rr; decide) (by decide) 0 rfl rfl rfl (Nat.le_of_ble_eq_true rfl) (fun w2 h3 => ?_)
  obtain ⟨F5, R6, rfl, oF5, oR6, wTF5, wCF5, cF5, cR6, hx4⟩ := h3
  have hk7 := k_ls2 hk0 hx4
  have fF5 : g_fr md_X11_runsStill F F5 := g_fr_c (g_fr_rf F) cF5 rfl
  have fR6 : g_fr mr_X11_runsStill R R6 := g_fr_c (g_fr_rf R) cR6 rfl
  refine g_aload_n cx 0 rfl e_X11_runsStill_4 ?_
  refine g_cVvW cx [] [] (w_X11_laysThings l X ad F5 R6 oF5 oR6 wTF5 wCF5) ml_X11_425 yV_X11_laysThings e_X11_runsStill_5 (by unfold g_rr; decide) (by decide) 0 rfl rfl rfl (Nat.le_of_ble_eq_true rfl) (fun w9 h10 => ?_)
  obtain ⟨F13, R14, rfl, oF13, oR14, wTF13, wCF13, cF13, cR14, zx11, hx12⟩ := h10
  have hk15 := k_ls2 hk7 hx12
  have fF13 : g_fr md_X11_runsStill F F13 := g_fr_c fF5 cF13 rfl
  have fR14 : g_fr mr_X11_runsStill R R14 := g_fr_c fR6 cR14 rfl
  refine g_aload_n cx 0 rfl e_X11_runsStill_8 ?_
  refine g_cVvW cx [] [] (w_X11_runs l X ad F13 R14 oF13 oR14 wTF13 wCF13 (WN_of wTF13 ((zx11.trans ((cF13 4 rfl).trans (cF5 4 rfl))).trans ((cF13 4 rfl).trans (cF5 4 rfl)).symm))) ml_X11_428 yV_X11_runs e_X11_runsStill_9 (by unfold g_rr; decide) (by decide) 0 rfl rfl rfl (Nat.le_of_ble_eq_true rfl) (fun w17 h18 => ?_)
  obtain ⟨F20, R21, rfl, oF20, oR21, wTF20, wCF20, cF20, cR21, hx19⟩ := h18
  have hk22 := k_ls2 hk15 hx19
  have fF20 : g_fr md_X11_runsStill F F20 := g_fr_c fF13 cF20 rfl
  have fR21 : g_fr mr_X11_runsStill R R21 := g_fr_c fR14 cR21 rfl
  exact hret e_X11_runsStill_12 (Nat.le_of_ble_eq_true rfl) (Nat.le_of_ble_eq_true rfl) ⟨F20, R21, rfl, oF20, oR21, wTF20, wCF20, fF20, fR21, (hk22.symm.trans hSP)⟩
def sp_X11_still (F : Nat → Int32) (R : Nat → Nat → Int32) (a0 : Int32) : Int32 × (Nat → Int32) × (Nat → Nat → Int32) :=
  k_lt (sp_X11_isAsked F R a0) (fun r1 => if r1 = 0 then ((-1), F, R) else k_lt2 (sp_X11_runsStill F R) (fun F15 R16 => k_lt (sp_X11_told F15 R16 a0) (fun r18 => (r18, F15, R16))))
theorem e_X11_still_0 : g_dc cX11_still 0 (.aload_n 0) 1 1 := ⟨by decide +kernel, rfl⟩
theorem e_X11_still_1 : g_dc cX11_still 1 (.iload_n 1) 1 2 := ⟨by decide +kernel, rfl⟩
theorem e_X11_still_2 : g_dc cX11_still 2 (.invokevirtual 431) 3 5 := ⟨by decide +kernel, rfl⟩
theorem e_X11_still_5 : g_dc cX11_still 5 (.ifCond .ne 5) 3 8 := ⟨by decide +kernel, rfl⟩
theorem e_X11_still_8 : g_dc cX11_still 8 (.iconst (-1)) 1 9 := ⟨by decide +kernel, rfl⟩
theorem e_X11_still_9 : g_dc cX11_still 9 (.ireturn) 1 10 := ⟨by decide +kernel, rfl⟩
theorem e_X11_still_10 : g_dc cX11_still 10 (.aload_n 0) 1 11 := ⟨by decide +kernel, rfl⟩
theorem e_X11_still_11 : g_dc cX11_still 11 (.invokevirtual 440) 3 14 := ⟨by decide +kernel, rfl⟩
theorem e_X11_still_14 : g_dc cX11_still 14 (.aload_n 0) 1 15 := ⟨by decide +kernel, rfl⟩
theorem e_X11_still_15 : g_dc cX11_still 15 (.iload_n 1) 1 16 := ⟨by decide +kernel, rfl⟩
theorem e_X11_still_16 : g_dc cX11_still 16 (.invokevirtual 437) 3 19 := ⟨by decide +kernel, rfl⟩
theorem e_X11_still_19 : g_dc cX11_still 19 (.ireturn) 1 20 := ⟨by decide +kernel, rfl⟩
def md_X11_still : List Nat := [3, 42, 43, 44, 45, 46, 47, 48, 49, 50, 51, 65, 66, 67, 68, 69]
def mr_X11_still : List Nat := [23, 24, 25, 26, 27, 28, 29, 30, 31, 32, 33, 34, 35, 36, 37]
set_option maxHeartbeats 4000000 in
set_option maxRecDepth 100000 in
theorem w_X11_still (l : Launch) (X : gX) (ad : Nat → Nat) (F : Nat → Int32) (R : Nat → Nat → Int32) (hI : g_ok LK_wM F) (hA : g_okR LA_wM R) (hWT : WT F R) (hWC : WC F R) (a0 : Int32) : g_Ci l X yX11_still cX11_still 2 (some .int) 8 0 0 [.ref (ad 0), .int a0] (wM X ad F R) (fun r w => ∃ (F' : Nat → Int32) (R' : Nat → Nat → Int32), w = wM X ad F' R' ∧ g_ok LK_wM F' ∧ g_okR LA_wM R' ∧ WT F' R' ∧ WC F' R' ∧ g_fr md_X11_still F F' ∧ g_fr mr_X11_still R R' ∧ jv (-2147483648) 2147483647 r ∧ (r, F', R') = sp_X11_still F R a0) := by
  refine g_mi (by decide +kernel) (Nat.le_of_ble_eq_true rfl) (fun E cx hret => ?_)
  obtain ⟨SP, hSP⟩ : ∃ z, z = sp_X11_still F R a0 := ⟨_, rfl⟩
  have hk0 := hSP
  unfold sp_X11_still at hk0
  refine g_aload_n cx 0 rfl e_X11_still_0 ?_
  refine g_iload_n cx 1 rfl e_X11_still_1 ?_
  refine g_cViW cx [.int a0] [] (w_X11_isAsked l X ad F R hI hA hWT hWC a0) ml_X11_431 yV_X11_isAsked e_X11_still_2 (by unfold g_rr; decide) (by decide) 0 rfl rfl rfl (Nat.le_of_ble_eq_true rfl) (fun r1 w2 h3 => ?_)
  obtain ⟨rfl, pr1, zx4, hx5⟩ := h3
  have hk6 := k_ls hk0 hx5
  refine g_if_ne cx 10 e_X11_still_5 (by decide) (fun zc7 => ?_) (fun zc7 => ?_)
  · have p8 := gn_neL 1 1 (gc_ne zc7) pr1 (jv_k (x := 0) 0 (by decide)) (by decide)
    have p9 := jv_i 0 69 (jv_t a0) (zx4 zc7) (by decide)
    have hk10 := hk6.trans (if_neg zc7)
    refine g_aload_n cx 0 rfl e_X11_still_10 ?_
    refine g_cVvW cx [] [] (w_X11_runsStill l X ad F R hI hA hWT hWC) ml_X11_440 yV_X11_runsStill e_X11_still_11 (by unfold g_rr; decide) (by decide) 0 rfl rfl rfl (Nat.le_of_ble_eq_true rfl) (fun w12 h13 => ?_)
    obtain ⟨F15, R16, rfl, oF15, oR16, wTF15, wCF15, cF15, cR16, hx14⟩ := h13
    have hk17 := k_ls2 hk10 hx14
    have fF15 : g_fr md_X11_still F F15 := g_fr_c (g_fr_rf F) cF15 rfl
    have fR16 : g_fr mr_X11_still R R16 := g_fr_c (g_fr_rf R) cR16 rfl
    refine g_aload_n cx 0 rfl e_X11_still_14 ?_
    refine g_iload_n cx 1 rfl e_X11_still_15 ?_
    refine g_cViW cx [.int a0] [] (w_X11_told l X ad F15 R16 oF15 oR16 wTF15 wCF15 a0 p9) ml_X11_437 yV_X11_told e_X11_still_16 (by unfold g_rr; decide) (by decide) 0 rfl rfl rfl (Nat.le_of_ble_eq_true rfl) (fun r18 w19 h20 => ?_)
    obtain ⟨rfl, pr18, hx21⟩ := h20
    have hk22 := k_ls hk17 hx21
    exact hret e_X11_still_19 (Nat.le_of_ble_eq_true rfl) (Nat.le_of_ble_eq_true rfl) rfl ⟨F15, R16, rfl, oF15, oR16, wTF15, wCF15, fF15, fR16, pr18, (hk22.symm.trans hSP)⟩
  · have p23 := gn_eq 0 0 (gc_eq zc7) pr1 (jv_k (x := 0) 0 (by decide)) (by decide)
    have hk24 := hk6.trans (if_pos zc7)
    refine g_iconst cx (-1) (by decide) e_X11_still_8 ?_
    exact hret e_X11_still_9 (Nat.le_of_ble_eq_true rfl) (Nat.le_of_ble_eq_true rfl) rfl ⟨F, R, rfl, hI, hA, hWT, hWC, (g_fr_rf F), (g_fr_rf R), (jv_w (jv_k (x := (-1)) (-1) (by decide)) (by decide)), (hk24.symm.trans hSP)⟩
def K_X11_done_93 (b23 : (Nat → Nat → Int32) → (Int32) → Int32 × (Nat → Int32) × (Nat → Nat → Int32)) (y22 : Int32) (R46 : Nat → Nat → Int32) : Int32 × (Nat → Int32) × (Nat → Nat → Int32) :=
  k_lt (y22 + 1) (fun x47 => b23 R46 x47)
def K_X11_done_92 (b23 : (Nat → Nat → Int32) → (Int32) → Int32 × (Nat → Int32) × (Nat → Nat → Int32)) (R59 : Nat → Nat → Int32) (y22 : Int32) (y63 : Int32) : Int32 × (Nat → Int32) × (Nat → Nat → Int32) :=
  k_lt (g_u R59 4 (upd (R59 4) (Int32.toNatClampNeg y22) y63)) (fun R64 => K_X11_done_93 b23 y22 R64)
def KB_X11_done_23 (b23 : (Nat → Nat → Int32) → (Int32) → Int32 × (Nat → Int32) × (Nat → Nat → Int32)) (F : Nat → Int32) (F8 : Nat → Int32) (r16 : Int32) (R23 : Nat → Nat → Int32) (y22 : Int32) : Int32 × (Nat → Int32) × (Nat → Nat → Int32) :=
  if 10 ≤ y22 then k_lt (sp_X11_stateBits F8 R23 2) (fun r27 => k_lt (r27 ^^^ (-1)) (fun x32 => k_lt ((F 4) &&& x32) (fun x34 => k_lt (upd F8 4 x34) (fun F36 => k_lt (upd F36 1 (F8 48)) (fun F38 => (r16, F38, R23)))))) else k_lt (g_hasv (F 4) y22) (fun r42 => if r42 = 0 then K_X11_done_93 b23 y22 R23 else k_lt (R23 26 (Int32.toNatClampNeg y22)) (fun x53 => k_lt (g_u R23 2 (upd (R23 2) (Int32.toNatClampNeg y22) x53)) (fun R55 => k_lt (R55 29 (Int32.toNatClampNeg y22)) (fun x57 => k_lt (g_u R55 7 (upd (R55 7) (Int32.toNatClampNeg y22) x57)) (fun R59 => k_lt (R59 28 (Int32.toNatClampNeg y22)) (fun x61 => if x61 = 1 then K_X11_done_92 b23 R59 y22 1 else k_lt (R59 4 (Int32.toNatClampNeg y22)) (fun x68 => K_X11_done_92 b23 R59 y22 x68)))))))
def K_X11_done_23 (F : Nat → Int32) (F8 : Nat → Int32) (r16 : Int32) : Nat → (Nat → Nat → Int32) → (Int32) → Int32 × (Nat → Int32) × (Nat → Nat → Int32)
  | 0 => fun R23 _ => (0, F8, R23)
  | n + 1 => KB_X11_done_23 (K_X11_done_23 F F8 r16 n) F F8 r16
def sp_X11_done (F : Nat → Int32) (R : Nat → Nat → Int32) : Int32 × (Nat → Int32) × (Nat → Nat → Int32) :=
  if (F 19) = 0 then ((-1), F, R) else k_lt2 (sp_X11_runsDrawn F R) (fun F8 R9 => k_lt (sp_X11_standing F8 R9) (fun r11 => k_lt (sp_X11_bits F8 R9 r11) (fun r16 => K_X11_done_23 F F8 r16 8589934592 R9 0)))
theorem e_X11_done_0 : g_dc cX11_done 0 (.aload_n 0) 1 1 := ⟨by decide +kernel, rfl⟩
theorem e_X11_done_1 : g_dc cX11_done 1 (.getfield 228) 3 4 := ⟨by decide +kernel, rfl⟩
theorem e_X11_done_4 : g_dc cX11_done 4 (.ifCond .ne 5) 3 7 := ⟨by decide +kernel, rfl⟩
theorem e_X11_done_7 : g_dc cX11_done 7 (.iconst (-1)) 1 8 := ⟨by decide +kernel, rfl⟩
theorem e_X11_done_8 : g_dc cX11_done 8 (.ireturn) 1 9 := ⟨by decide +kernel, rfl⟩
theorem e_X11_done_9 : g_dc cX11_done 9 (.aload_n 0) 1 10 := ⟨by decide +kernel, rfl⟩
theorem e_X11_done_10 : g_dc cX11_done 10 (.invokevirtual 434) 3 13 := ⟨by decide +kernel, rfl⟩
theorem e_X11_done_13 : g_dc cX11_done 13 (.aload_n 0) 1 14 := ⟨by decide +kernel, rfl⟩
theorem e_X11_done_14 : g_dc cX11_done 14 (.invokevirtual 407) 3 17 := ⟨by decide +kernel, rfl⟩
theorem e_X11_done_17 : g_dc cX11_done 17 (.invokestatic 410) 3 20 := ⟨by decide +kernel, rfl⟩
theorem e_X11_done_20 : g_dc cX11_done 20 (.istore_n 1) 1 21 := ⟨by decide +kernel, rfl⟩
theorem e_X11_done_21 : g_dc cX11_done 21 (.iconst 0) 1 22 := ⟨by decide +kernel, rfl⟩
theorem e_X11_done_22 : g_dc cX11_done 22 (.istore_n 2) 1 23 := ⟨by decide +kernel, rfl⟩
theorem e_X11_done_23 : g_dc cX11_done 23 (.iload_n 2) 1 24 := ⟨by decide +kernel, rfl⟩
theorem e_X11_done_24 : g_dc cX11_done 24 (.bipush 10) 2 26 := ⟨by decide +kernel, rfl⟩
theorem e_X11_done_26 : g_dc cX11_done 26 (.if_icmp .ge 73) 3 29 := ⟨by decide +kernel, rfl⟩
theorem e_X11_done_29 : g_dc cX11_done 29 (.aload_n 0) 1 30 := ⟨by decide +kernel, rfl⟩
theorem e_X11_done_30 : g_dc cX11_done 30 (.getfield 172) 3 33 := ⟨by decide +kernel, rfl⟩
theorem e_X11_done_33 : g_dc cX11_done 33 (.iload_n 2) 1 34 := ⟨by decide +kernel, rfl⟩
theorem e_X11_done_34 : g_dc cX11_done 34 (.invokestatic 175) 3 37 := ⟨by decide +kernel, rfl⟩
theorem e_X11_done_37 : g_dc cX11_done 37 (.ifCond .ne 6) 3 40 := ⟨by decide +kernel, rfl⟩
theorem e_X11_done_40 : g_dc cX11_done 40 (.goto 53) 3 43 := ⟨by decide +kernel, rfl⟩
theorem e_X11_done_43 : g_dc cX11_done 43 (.aload_n 0) 1 44 := ⟨by decide +kernel, rfl⟩
theorem e_X11_done_44 : g_dc cX11_done 44 (.getfield 13) 3 47 := ⟨by decide +kernel, rfl⟩
theorem e_X11_done_47 : g_dc cX11_done 47 (.iload_n 2) 1 48 := ⟨by decide +kernel, rfl⟩
theorem e_X11_done_48 : g_dc cX11_done 48 (.aload_n 0) 1 49 := ⟨by decide +kernel, rfl⟩
theorem e_X11_done_49 : g_dc cX11_done 49 (.getfield 86) 3 52 := ⟨by decide +kernel, rfl⟩
theorem e_X11_done_52 : g_dc cX11_done 52 (.iload_n 2) 1 53 := ⟨by decide +kernel, rfl⟩
theorem e_X11_done_53 : g_dc cX11_done 53 (.iaload) 1 54 := ⟨by decide +kernel, rfl⟩
theorem e_X11_done_54 : g_dc cX11_done 54 (.iastore) 1 55 := ⟨by decide +kernel, rfl⟩
theorem e_X11_done_55 : g_dc cX11_done 55 (.aload_n 0) 1 56 := ⟨by decide +kernel, rfl⟩
theorem e_X11_done_56 : g_dc cX11_done 56 (.getfield 28) 3 59 := ⟨by decide +kernel, rfl⟩
theorem e_X11_done_59 : g_dc cX11_done 59 (.iload_n 2) 1 60 := ⟨by decide +kernel, rfl⟩
theorem e_X11_done_60 : g_dc cX11_done 60 (.aload_n 0) 1 61 := ⟨by decide +kernel, rfl⟩
theorem e_X11_done_61 : g_dc cX11_done 61 (.getfield 95) 3 64 := ⟨by decide +kernel, rfl⟩
theorem e_X11_done_64 : g_dc cX11_done 64 (.iload_n 2) 1 65 := ⟨by decide +kernel, rfl⟩
theorem e_X11_done_65 : g_dc cX11_done 65 (.iaload) 1 66 := ⟨by decide +kernel, rfl⟩
theorem e_X11_done_66 : g_dc cX11_done 66 (.iastore) 1 67 := ⟨by decide +kernel, rfl⟩
theorem e_X11_done_67 : g_dc cX11_done 67 (.aload_n 0) 1 68 := ⟨by decide +kernel, rfl⟩
theorem e_X11_done_68 : g_dc cX11_done 68 (.getfield 19) 3 71 := ⟨by decide +kernel, rfl⟩
theorem e_X11_done_71 : g_dc cX11_done 71 (.iload_n 2) 1 72 := ⟨by decide +kernel, rfl⟩
theorem e_X11_done_72 : g_dc cX11_done 72 (.aload_n 0) 1 73 := ⟨by decide +kernel, rfl⟩
theorem e_X11_done_73 : g_dc cX11_done 73 (.getfield 92) 3 76 := ⟨by decide +kernel, rfl⟩
theorem e_X11_done_76 : g_dc cX11_done 76 (.iload_n 2) 1 77 := ⟨by decide +kernel, rfl⟩
theorem e_X11_done_77 : g_dc cX11_done 77 (.iaload) 1 78 := ⟨by decide +kernel, rfl⟩
theorem e_X11_done_78 : g_dc cX11_done 78 (.iconst 1) 1 79 := ⟨by decide +kernel, rfl⟩
theorem e_X11_done_79 : g_dc cX11_done 79 (.if_icmp .ne 7) 3 82 := ⟨by decide +kernel, rfl⟩
theorem e_X11_done_82 : g_dc cX11_done 82 (.iconst 1) 1 83 := ⟨by decide +kernel, rfl⟩
theorem e_X11_done_83 : g_dc cX11_done 83 (.goto 9) 3 86 := ⟨by decide +kernel, rfl⟩
theorem e_X11_done_86 : g_dc cX11_done 86 (.aload_n 0) 1 87 := ⟨by decide +kernel, rfl⟩
theorem e_X11_done_87 : g_dc cX11_done 87 (.getfield 19) 3 90 := ⟨by decide +kernel, rfl⟩
theorem e_X11_done_90 : g_dc cX11_done 90 (.iload_n 2) 1 91 := ⟨by decide +kernel, rfl⟩
theorem e_X11_done_91 : g_dc cX11_done 91 (.iaload) 1 92 := ⟨by decide +kernel, rfl⟩
theorem e_X11_done_92 : g_dc cX11_done 92 (.iastore) 1 93 := ⟨by decide +kernel, rfl⟩
theorem e_X11_done_93 : g_dc cX11_done 93 (.iinc 2 1) 3 96 := ⟨by decide +kernel, rfl⟩
theorem e_X11_done_96 : g_dc cX11_done 96 (.goto (-73)) 3 99 := ⟨by decide +kernel, rfl⟩
theorem e_X11_done_99 : g_dc cX11_done 99 (.aload_n 0) 1 100 := ⟨by decide +kernel, rfl⟩
theorem e_X11_done_100 : g_dc cX11_done 100 (.aload_n 0) 1 101 := ⟨by decide +kernel, rfl⟩
theorem e_X11_done_101 : g_dc cX11_done 101 (.getfield 172) 3 104 := ⟨by decide +kernel, rfl⟩
theorem e_X11_done_104 : g_dc cX11_done 104 (.aload_n 0) 1 105 := ⟨by decide +kernel, rfl⟩
theorem e_X11_done_105 : g_dc cX11_done 105 (.iconst 2) 1 106 := ⟨by decide +kernel, rfl⟩
theorem e_X11_done_106 : g_dc cX11_done 106 (.invokevirtual 416) 3 109 := ⟨by decide +kernel, rfl⟩
theorem e_X11_done_109 : g_dc cX11_done 109 (.iconst (-1)) 1 110 := ⟨by decide +kernel, rfl⟩
theorem e_X11_done_110 : g_dc cX11_done 110 (.ixor) 1 111 := ⟨by decide +kernel, rfl⟩
theorem e_X11_done_111 : g_dc cX11_done 111 (.iand) 1 112 := ⟨by decide +kernel, rfl⟩
theorem e_X11_done_112 : g_dc cX11_done 112 (.putfield 172) 3 115 := ⟨by decide +kernel, rfl⟩
theorem e_X11_done_115 : g_dc cX11_done 115 (.aload_n 0) 1 116 := ⟨by decide +kernel, rfl⟩
theorem e_X11_done_116 : g_dc cX11_done 116 (.aload_n 0) 1 117 := ⟨by decide +kernel, rfl⟩
theorem e_X11_done_117 : g_dc cX11_done 117 (.getfield 331) 3 120 := ⟨by decide +kernel, rfl⟩
theorem e_X11_done_120 : g_dc cX11_done 120 (.putfield 159) 3 123 := ⟨by decide +kernel, rfl⟩
theorem e_X11_done_123 : g_dc cX11_done 123 (.iload_n 1) 1 124 := ⟨by decide +kernel, rfl⟩
theorem e_X11_done_124 : g_dc cX11_done 124 (.ireturn) 1 125 := ⟨by decide +kernel, rfl⟩
def md_X11_done : List Nat := [1, 3, 4, 42, 43, 44, 45, 46, 47, 48, 49, 50, 51, 65, 66, 67, 68, 69]
def mr_X11_done : List Nat := [2, 4, 7, 23, 24, 25, 26, 27, 28, 29, 30, 31, 32, 33, 34, 35, 36, 37]
set_option maxHeartbeats 4000000 in
set_option maxRecDepth 100000 in
theorem w_X11_done (l : Launch) (X : gX) (ad : Nat → Nat) (F : Nat → Int32) (R : Nat → Nat → Int32) (hI : g_ok LK_wM F) (hA : g_okR LA_wM R) (hWT : WT F R) (hWC : WC F R) : g_Ci l X yX11_done cX11_done 3 (some .int) 8 0 0 [.ref (ad 0)] (wM X ad F R) (fun r w => ∃ (F' : Nat → Int32) (R' : Nat → Nat → Int32), w = wM X ad F' R' ∧ g_ok LK_wM F' ∧ g_okR LA_wM R' ∧ WT F' R' ∧ WC F' R' ∧ g_fr md_X11_done F F' ∧ g_fr mr_X11_done R R' ∧ jv (-1) 10 r ∧ (r, F', R') = sp_X11_done F R) := by
  refine g_mi (by decide +kernel) (Nat.le_of_ble_eq_true rfl) (fun E cx hret => ?_)
  obtain ⟨SP, hSP⟩ : ∃ z, z = sp_X11_done F R := ⟨_, rfl⟩
  have hk0 := hSP
  unfold sp_X11_done at hk0
  refine g_aload_n cx 0 rfl e_X11_done_0 ?_
  refine g_get cx cl_X11 fl_X11_228 0 (.int (F 19)) e_X11_done_1 rfl rfl ?_
  refine g_if_ne cx 9 e_X11_done_4 (by decide) (fun zc1 => ?_) (fun zc1 => ?_)
  · have p2 := gn_neL 1 60 (gc_ne zc1) (g_ok_g hI 3 rfl) (jv_k (x := 0) 0 (by decide)) (by decide)
    have hk3 := hk0.trans (if_neg zc1)
    refine g_aload_n cx 0 rfl e_X11_done_9 ?_
    refine g_cVvW cx [] [] (w_X11_runsDrawn l X ad F R hI hA hWT hWC) ml_X11_434 yV_X11_runsDrawn e_X11_done_10 (by unfold g_rr; decide) (by decide) 0 rfl rfl rfl (Nat.le_of_ble_eq_true rfl) (fun w5 h6 => ?_)
    obtain ⟨F8, R9, rfl, oF8, oR9, wTF8, wCF8, cF8, cR9, hx7⟩ := h6
    have hk10 := k_ls2 hk3 hx7
    have fF8 : g_fr md_X11_done F F8 := g_fr_c (g_fr_rf F) cF8 rfl
    have fR9 : g_fr mr_X11_done R R9 := g_fr_c (g_fr_rf R) cR9 rfl
    refine g_aload_n cx 0 rfl e_X11_done_13 ?_
    refine g_cViW cx [] [] (w_X11_standing l X ad F8 R9 oF8 oR9 wTF8 wCF8) ml_X11_407 yV_X11_standing e_X11_done_14 (by unfold g_rr; decide) (by decide) 0 rfl rfl rfl (Nat.le_of_ble_eq_true rfl) (fun r11 w12 h13 => ?_)
    obtain ⟨rfl, pr11, hx14⟩ := h13
    have hk15 := k_ls hk10 hx14
    refine g_cSiW cx [.int r11] [] (w_X11_bits l X ad F8 R9 oF8 oR9 r11) ml_X11_410 yS_X11_bits rfl e_X11_done_17 (by unfold g_rr; decide) (by decide) rfl (Nat.le_of_ble_eq_true rfl) (fun r16 w17 h18 => ?_)
    obtain ⟨rfl, pr16, zx19, hx20⟩ := h18
    have hk21 := k_ls hk15 hx20
    refine g_istore_n cx [(1, .int r16), (0, .ref (ad 0))] e_X11_done_20 (by decide) rfl ?_
    refine g_iconst cx 0 (by decide) e_X11_done_21 ?_
    refine g_istore_n cx [(2, .int 0), (1, .int r16), (0, .ref (ad 0))] e_X11_done_22 (by decide) rfl ?_
    have J23 : ∀ (N : Nat) (R23 : Nat → Nat → Int32) (y22 : Int32), (g_okR LA_wM R23) → (g_fr mr_X11_done R R23) → (WT F8 R23) → (WC F8 R23) → (jv 0 10 y22) → (SP = K_X11_done_23 F F8 r16 N R23 y22) → (2147483647 - y22.toInt).toNat < N → G X E 3 0 0 (wM X ad F8 R23) [(0, .ref (ad 0)), (1, .int r16), (2, .int y22)] 23 [] := by
      intro N
      induction N with
      | zero => intro R23 y22 oR23 fR23 wTR23 wCR23 py22 hkJ23 hm; exact absurd hm (Nat.not_lt_zero _)
      | succ N ih23 =>
        intro R23 y22 oR23 fR23 wTR23 wCR23 py22 hkJ23 hm23
        have hkK23 : SP = KB_X11_done_23 (K_X11_done_23 F F8 r16 N) F F8 r16 R23 y22 := hkJ23
        obtain ⟨b23, hb23⟩ : ∃ z, z = K_X11_done_23 F F8 r16 N := ⟨_, rfl⟩
        rw [← hb23] at hkK23
        unfold KB_X11_done_23 at hkK23
        refine g_iload_n cx 2 rfl e_X11_done_23 ?_
        refine g_bipush cx 10 (by decide) e_X11_done_24 ?_
        refine g_icmp_ge cx 99 e_X11_done_26 (by decide) (fun zc24 => ?_) (fun zc24 => ?_)
        · have p25 := gn_ge 10 10 (gc_le zc24) py22 (jv_k (x := 10) 10 (by decide)) (by decide)
          have hk26 := hkK23.trans (if_pos zc24)
          refine g_aload_n cx 0 rfl e_X11_done_99 ?_
          refine g_aload_n cx 0 rfl e_X11_done_100 ?_
          refine g_get cx cl_X11 fl_X11_172 0 (.int (F8 4)) e_X11_done_101 rfl rfl ?_
          refine g_toi (F 4) (cF8 4 rfl) ?_
          refine g_aload_n cx 0 rfl e_X11_done_104 ?_
          refine g_iconst cx 2 (by decide) e_X11_done_105 ?_
          refine g_cViW cx [.int 2] [.int (F 4), .ref (ad 0)] (w_X11_stateBits l X ad F8 R23 oF8 oR23 wTR23 wCR23 2) ml_X11_416 yV_X11_stateBits e_X11_done_106 (by unfold g_rr; decide) (by decide) 0 rfl rfl rfl (Nat.le_of_ble_eq_true rfl) (fun r27 w28 h29 => ?_)
          obtain ⟨rfl, pr27, hx30⟩ := h29
          have hk31 := k_ls hk26 hx30
          refine g_iconst cx (-1) (by decide) e_X11_done_109 ?_
          refine g_ixor cx e_X11_done_110 ?_
          refine g_topi (fun x32 ex32 => ?_)
          have hk33 := k_ls hk31 ex32
          refine g_iand cx e_X11_done_111 ?_
          refine g_topi (fun x34 ex34 => ?_)
          have hk35 := k_ls hk33 ex34
          refine g_put cx cl_X11 fl_X11_172 0 (wM X ad (upd F8 4 x34) R23) e_X11_done_112 rfl rfl rfl rfl (Nat.le_of_ble_eq_true rfl) rfl ?_
          obtain ⟨F36, hF36⟩ : ∃ z, z = upd F8 4 x34 := ⟨_, rfl⟩
          rw [← hF36]
          have hk37 := k_ls hk35 hF36
          have oF36 : g_ok LK_wM F36 := by rw [hF36]; exact g_ok_u oF8 rfl
          have fF36 : g_fr md_X11_done F F36 := by rw [hF36]; exact g_fr_u fF8 rfl
          have wTF36 : WT F36 R23 := by rw [hF36]; exact WT_sub wTR23 (ex34.trans (by rw [show F8 4 = F 4 from (cF8 4 rfl)]))
          have wCF36 : WC F36 R23 := by rw [hF36]; exact WC_u wCR23 rfl
          refine g_aload_n cx 0 rfl e_X11_done_115 ?_
          refine g_aload_n cx 0 rfl e_X11_done_116 ?_
          refine g_get cx cl_X11 fl_X11_331 0 (.int (F36 48)) e_X11_done_117 rfl rfl ?_
          refine g_toi (F8 48) (g_pu2 hF36 rfl) ?_
          refine g_put cx cl_X11 fl_X11_159 0 (wM X ad (upd F36 1 (F8 48)) R23) e_X11_done_120 rfl rfl rfl rfl (Nat.le_of_ble_eq_true rfl) rfl ?_
          obtain ⟨F38, hF38⟩ : ∃ z, z = upd F36 1 (F8 48) := ⟨_, rfl⟩
          rw [← hF38]
          have hk39 := k_ls hk37 hF38
          have oF38 : g_ok LK_wM F38 := by rw [hF38]; exact g_ok_u oF36 rfl
          have fF38 : g_fr md_X11_done F F38 := by rw [hF38]; exact g_fr_u fF36 rfl
          have wTF38 : WT F38 R23 := by rw [hF38]; exact WT_u wTF36 rfl
          have wCF38 : WC F38 R23 := by rw [hF38]; exact WC_u wCF36 rfl
          refine g_iload_n cx 1 rfl e_X11_done_123 ?_
          exact hret e_X11_done_124 (Nat.le_of_ble_eq_true rfl) (Nat.le_of_ble_eq_true rfl) rfl ⟨F38, R23, rfl, oF38, oR23, wTF38, wCF38, fF38, fR23, (jv_w pr16 (by decide)), (hk39.symm.trans hSP)⟩
        · have p40 := gn_lt 0 9 (gc_nle zc24) py22 (jv_k (x := 10) 10 (by decide)) (by decide)
          have hk41 := hkK23.trans (if_neg zc24)
          refine g_aload_n cx 0 rfl e_X11_done_29 ?_
          refine g_get cx cl_X11 fl_X11_172 0 (.int (F8 4)) e_X11_done_30 rfl rfl ?_
          refine g_toi (F 4) (cF8 4 rfl) ?_
          refine g_iload_n cx 2 rfl e_X11_done_33 ?_
          refine g_cSiW cx [.int (F 4), .int y22] [] (c_X11_has l X (wM X ad F8 R23) (F 4) y22) ml_X11_175 yS_X11_has rfl e_X11_done_34 (by unfold g_rr; decide) (by decide) rfl (Nat.le_of_ble_eq_true rfl) (fun r42 w43 h44 => ?_)
          obtain ⟨rfl, hr42⟩ := h44
          have pr42 : jv 0 1 r42 := by rcases hr42 with q | q <;> rw [q.1] <;> exact ⟨by decide, by decide⟩
          have hk45 := k_ls hk41 (g_has_e hr42)
          have J93 : ∀ (R46 : Nat → Nat → Int32), (g_okR LA_wM R46) → (g_fr mr_X11_done R R46) → (WT F8 R46) → (WC F8 R46) → (SP = K_X11_done_93 b23 y22 R46) → G X E 3 0 0 (wM X ad F8 R46) [(0, .ref (ad 0)), (1, .int r16), (2, .int y22)] 93 [] := by
            intro R46 oR46 fR46 wTR46 wCR46 hkJ93
            unfold K_X11_done_93 at hkJ93
            obtain ⟨x47, ex47⟩ : ∃ z : Int32, z = y22 + Int32.ofInt 1 := ⟨_, rfl⟩
            have hk48 := k_ls hkJ93 (show x47 = y22 + 1 from ex47)
            refine g_iinc cx x47 [(2, .int x47), (0, .ref (ad 0)), (1, .int r16)] 2 e_X11_done_93 rfl ex47.symm (by decide) rfl ?_
            have zx47 := jv_add 1 10 (show x47 = y22 + 1 from ex47) p40 (jv_k (x := 1) 1 (by decide)) (by decide)
            refine g_goto cx 23 e_X11_done_96 (by decide) ?_
            refine g_lsub [1, 2, 0] [(0, .ref (ad 0)), (1, .int r16), (2, .int x47)] rfl ?_
            exact ih23 R46 x47 oR46 fR46 wTR46 wCR46 (jv_w zx47.2 (by decide)) (hk48.trans (by rw [hb23])) (Nat.lt_of_lt_of_le (show (2147483647 - x47.toInt).toNat < (2147483647 - y22.toInt).toNat from by have q0 := (jv_k (x := 1) 1 (by decide)).1; have q1 := (jv_k (x := 1) 1 (by decide)).2; have q2 := (jv_k (x := 10) 10 (by decide)).1; have q3 := (jv_k (x := 10) 10 (by decide)).2; have q4 := zx47.2.1; have q5 := zx47.2.2; have q6 := p40.1; have q7 := p40.2; have q8 := (gc_nle zc24); have q9 := (g_eq0 zx47.1); omega) (Nat.le_of_lt_succ hm23))
          refine g_if_ne cx 43 e_X11_done_37 (by decide) (fun zc49 => ?_) (fun zc49 => ?_)
          · have p50 := gn_neL 1 1 (gc_ne zc49) pr42 (jv_k (x := 0) 0 (by decide)) (by decide)
            have zb51 : hb (F 4) y22 := g_hasy hr42 zc49
            have hk52 := hk45.trans (if_neg zc49)
            refine g_aload_n cx 0 rfl e_X11_done_43 ?_
            refine g_get cx cl_X11 fl_X11_13 0 (.ref (ad 2)) e_X11_done_44 rfl rfl ?_
            refine g_iload_n cx 2 rfl e_X11_done_47 ?_
            refine g_aload_n cx 0 rfl e_X11_done_48 ?_
            refine g_get cx cl_X11 fl_X11_86 0 (.ref (ad 26)) e_X11_done_49 rfl rfl ?_
            refine g_iload_n cx 2 rfl e_X11_done_52 ?_
            refine g_iald cx 26 e_X11_done_53 rfl (jv_ix 10 p40 (by decide)) ?_
            refine g_topi (fun x53 ex53 => ?_)
            have hk54 := k_ls hk52 ex53
            refine g_iast cx 2 (wM X ad F8 (g_u R23 2 (upd (R23 2) (Int32.toNatClampNeg y22) x53))) e_X11_done_54 rfl (jv_ix 10 p40 (by decide)) rfl ?_
            obtain ⟨R55, hR55⟩ : ∃ z, z = g_u R23 2 (upd (R23 2) (Int32.toNatClampNeg y22) x53) := ⟨_, rfl⟩
            rw [← hR55]
            have hk56 := k_ls hk54 hR55
            have oR55 : g_okR LA_wM R55 := by rw [hR55]; exact g_okR_u oR23 rfl
            have fR55 : g_fr mr_X11_done R R55 := by rw [hR55]; exact g_fr_r fR23 rfl
            have wTR55 : WT F8 R55 := by rw [hR55]; exact WT_r wTR23 rfl
            have wCR55 : WC F8 R55 := by rw [hR55]; exact WC_r wCR23 rfl
            refine g_aload_n cx 0 rfl e_X11_done_55 ?_
            refine g_get cx cl_X11 fl_X11_28 0 (.ref (ad 7)) e_X11_done_56 rfl rfl ?_
            refine g_iload_n cx 2 rfl e_X11_done_59 ?_
            refine g_aload_n cx 0 rfl e_X11_done_60 ?_
            refine g_get cx cl_X11 fl_X11_95 0 (.ref (ad 29)) e_X11_done_61 rfl rfl ?_
            refine g_iload_n cx 2 rfl e_X11_done_64 ?_
            refine g_iald cx 29 e_X11_done_65 rfl (jv_ix 10 p40 (by decide)) ?_
            refine g_topi (fun x57 ex57 => ?_)
            have hk58 := k_ls hk56 ex57
            refine g_iast cx 7 (wM X ad F8 (g_u R55 7 (upd (R55 7) (Int32.toNatClampNeg y22) x57))) e_X11_done_66 rfl (jv_ix 10 p40 (by decide)) rfl ?_
            obtain ⟨R59, hR59⟩ : ∃ z, z = g_u R55 7 (upd (R55 7) (Int32.toNatClampNeg y22) x57) := ⟨_, rfl⟩
            rw [← hR59]
            have hk60 := k_ls hk58 hR59
            have oR59 : g_okR LA_wM R59 := by rw [hR59]; exact g_okR_u oR55 rfl
            have fR59 : g_fr mr_X11_done R R59 := by rw [hR59]; exact g_fr_r fR55 rfl
            have wTR59 : WT F8 R59 := by rw [hR59]; exact WT_r wTR55 rfl
            have wCR59 : WC F8 R59 := by rw [hR59]; exact WC_r wCR55 rfl
            refine g_aload_n cx 0 rfl e_X11_done_67 ?_
            refine g_get cx cl_X11 fl_X11_19 0 (.ref (ad 4)) e_X11_done_68 rfl rfl ?_
            refine g_iload_n cx 2 rfl e_X11_done_71 ?_
            refine g_aload_n cx 0 rfl e_X11_done_72 ?_
            refine g_get cx cl_X11 fl_X11_92 0 (.ref (ad 28)) e_X11_done_73 rfl rfl ?_
            refine g_iload_n cx 2 rfl e_X11_done_76 ?_
            refine g_iald cx 28 e_X11_done_77 rfl (jv_ix 10 p40 (by decide)) ?_
            refine g_topi (fun x61 ex61 => ?_)
            have hk62 := k_ls hk60 ex61
            refine g_iconst cx 1 (by decide) e_X11_done_78 ?_
            have J92 : ∀ (y63 : Int32), (jv (-2147483648) 2147483647 y63) → (SP = K_X11_done_92 b23 R59 y22 y63) → G X E 3 0 0 (wM X ad F8 R59) [(0, .ref (ad 0)), (1, .int r16), (2, .int y22)] 92 [.int y63, .int y22, .ref (ad 4)] := by
              intro y63 py63 hkJ92
              unfold K_X11_done_92 at hkJ92
              refine g_iast cx 4 (wM X ad F8 (g_u R59 4 (upd (R59 4) (Int32.toNatClampNeg y22) y63))) e_X11_done_92 rfl (jv_ix 10 p40 (by decide)) rfl ?_
              obtain ⟨R64, hR64⟩ : ∃ z, z = g_u R59 4 (upd (R59 4) (Int32.toNatClampNeg y22) y63) := ⟨_, rfl⟩
              rw [← hR64]
              have hk65 := k_ls hkJ92 hR64
              have oR64 : g_okR LA_wM R64 := by rw [hR64]; exact g_okR_u oR59 rfl
              have fR64 : g_fr mr_X11_done R R64 := by rw [hR64]; exact g_fr_r fR59 rfl
              have wTR64 : WT F8 R64 := by rw [hR64]; exact WT_r wTR59 rfl
              have wCR64 : WC F8 R64 := by rw [hR64]; exact WC_r wCR59 rfl
              exact J93 R64 oR64 fR64 wTR64 wCR64 hk65
            refine g_icmp_ne cx 86 e_X11_done_79 (by decide) (fun zc66 => ?_) (fun zc66 => ?_)
            · have hk67 := hk62.trans (if_neg zc66)
              refine g_aload_n cx 0 rfl e_X11_done_86 ?_
              refine g_get cx cl_X11 fl_X11_19 0 (.ref (ad 4)) e_X11_done_87 rfl rfl ?_
              refine g_iload_n cx 2 rfl e_X11_done_90 ?_
              refine g_iald cx 4 e_X11_done_91 rfl (jv_ix 10 p40 (by decide)) ?_
              refine g_topi (fun x68 ex68 => ?_)
              have hk69 := k_ls hk67 ex68
              exact J92 x68 (jv_t x68) hk69
            · have p70 := gn_eq 1 1 (gc_eq zc66) (jv_t x61) (jv_k (x := 1) 1 (by decide)) (by decide)
              have hk71 := hk62.trans (if_pos zc66)
              refine g_iconst cx 1 (by decide) e_X11_done_82 ?_
              refine g_goto cx 92 e_X11_done_83 (by decide) ?_
              exact J92 1 (jv_w (jv_k (x := 1) 1 (by decide)) (by decide)) hk71
          · have p72 := gn_eq 0 0 (gc_eq zc49) pr42 (jv_k (x := 0) 0 (by decide)) (by decide)
            have hk73 := hk45.trans (if_pos zc49)
            refine g_goto cx 93 e_X11_done_40 (by decide) ?_
            exact J93 R23 oR23 fR23 wTR23 wCR23 hk73
    refine g_lsub [2, 1, 0] [(0, .ref (ad 0)), (1, .int r16), (2, .int 0)] rfl ?_
    exact J23 8589934592 R9 0 oR9 fR9 wTF8 wCF8 (jv_w (jv_k (x := 0) 0 (by decide)) (by decide)) hk21 (show (2147483647 - (0 : Int32).toInt).toNat < 8589934592 from by have q0 := (jv_k (x := 0) 0 (by decide)).1; have q1 := (jv_k (x := 0) 0 (by decide)).2; omega)
  · have p74 := gn_eq 0 0 (gc_eq zc1) (g_ok_g hI 3 rfl) (jv_k (x := 0) 0 (by decide)) (by decide)
    have hk75 := hk0.trans (if_pos zc1)
    refine g_iconst cx (-1) (by decide) e_X11_done_7 ?_
    exact hret e_X11_done_8 (Nat.le_of_ble_eq_true rfl) (Nat.le_of_ble_eq_true rfl) rfl ⟨F, R, rfl, hI, hA, hWT, hWC, (g_fr_rf F), (g_fr_rf R), (jv_w (jv_k (x := (-1)) (-1) (by decide)) (by decide)), (hk75.symm.trans hSP)⟩
def K_X11_laysPaces_42 (F2 : Nat → Int32) (R3 : Nat → Nat → Int32)  : (Nat → Int32) × (Nat → Nat → Int32) :=
  (F2, R3)
def KB_X11_laysPaces_2 (b2 : (Nat → Int32) → (Nat → Nat → Int32) → (Int32) → (Nat → Int32) × (Nat → Nat → Int32)) (a0 : Int32) (F2 : Nat → Int32) (R3 : Nat → Nat → Int32) (y1 : Int32) : (Nat → Int32) × (Nat → Nat → Int32) :=
  if y1 ≤ 0 then K_X11_laysPaces_42 F2 R3 else if 60 ≤ (F2 44) then K_X11_laysPaces_42 F2 R3 else k_lt (g_u R3 25 (upd (R3 25) (Int32.toNatClampNeg (F2 44)) a0)) (fun R14 => k_lt ((F2 44) + 1) (fun x16 => k_lt (upd F2 44 x16) (fun F18 => k_lt (y1 - a0) (fun x20 => b2 F18 R14 x20))))
def K_X11_laysPaces_2 (a0 : Int32) : Nat → (Nat → Int32) → (Nat → Nat → Int32) → (Int32) → (Nat → Int32) × (Nat → Nat → Int32)
  | 0 => fun F2 R3 _ => (F2, R3)
  | n + 1 => KB_X11_laysPaces_2 (K_X11_laysPaces_2 a0 n) a0
def sp_X11_laysPaces (F : Nat → Int32) (R : Nat → Nat → Int32) (a0 : Int32) (a1 : Int32) : (Nat → Int32) × (Nat → Nat → Int32) :=
  K_X11_laysPaces_2 a0 8589934592 F R a1
theorem e_X11_laysPaces_0 : g_dc cX11_laysPaces 0 (.iload_n 2) 1 1 := ⟨by decide +kernel, rfl⟩
theorem e_X11_laysPaces_1 : g_dc cX11_laysPaces 1 (.istore_n 3) 1 2 := ⟨by decide +kernel, rfl⟩
theorem e_X11_laysPaces_2 : g_dc cX11_laysPaces 2 (.iload_n 3) 1 3 := ⟨by decide +kernel, rfl⟩
theorem e_X11_laysPaces_3 : g_dc cX11_laysPaces 3 (.ifCond .le 39) 3 6 := ⟨by decide +kernel, rfl⟩
theorem e_X11_laysPaces_6 : g_dc cX11_laysPaces 6 (.aload_n 0) 1 7 := ⟨by decide +kernel, rfl⟩
theorem e_X11_laysPaces_7 : g_dc cX11_laysPaces 7 (.getfield 309) 3 10 := ⟨by decide +kernel, rfl⟩
theorem e_X11_laysPaces_10 : g_dc cX11_laysPaces 10 (.bipush 60) 2 12 := ⟨by decide +kernel, rfl⟩
theorem e_X11_laysPaces_12 : g_dc cX11_laysPaces 12 (.if_icmp .ge 30) 3 15 := ⟨by decide +kernel, rfl⟩
theorem e_X11_laysPaces_15 : g_dc cX11_laysPaces 15 (.aload_n 0) 1 16 := ⟨by decide +kernel, rfl⟩
theorem e_X11_laysPaces_16 : g_dc cX11_laysPaces 16 (.getfield 83) 3 19 := ⟨by decide +kernel, rfl⟩
theorem e_X11_laysPaces_19 : g_dc cX11_laysPaces 19 (.aload_n 0) 1 20 := ⟨by decide +kernel, rfl⟩
theorem e_X11_laysPaces_20 : g_dc cX11_laysPaces 20 (.getfield 309) 3 23 := ⟨by decide +kernel, rfl⟩
theorem e_X11_laysPaces_23 : g_dc cX11_laysPaces 23 (.iload_n 1) 1 24 := ⟨by decide +kernel, rfl⟩
theorem e_X11_laysPaces_24 : g_dc cX11_laysPaces 24 (.iastore) 1 25 := ⟨by decide +kernel, rfl⟩
theorem e_X11_laysPaces_25 : g_dc cX11_laysPaces 25 (.aload_n 0) 1 26 := ⟨by decide +kernel, rfl⟩
theorem e_X11_laysPaces_26 : g_dc cX11_laysPaces 26 (.aload_n 0) 1 27 := ⟨by decide +kernel, rfl⟩
theorem e_X11_laysPaces_27 : g_dc cX11_laysPaces 27 (.getfield 309) 3 30 := ⟨by decide +kernel, rfl⟩
theorem e_X11_laysPaces_30 : g_dc cX11_laysPaces 30 (.iconst 1) 1 31 := ⟨by decide +kernel, rfl⟩
theorem e_X11_laysPaces_31 : g_dc cX11_laysPaces 31 (.iadd) 1 32 := ⟨by decide +kernel, rfl⟩
theorem e_X11_laysPaces_32 : g_dc cX11_laysPaces 32 (.putfield 309) 3 35 := ⟨by decide +kernel, rfl⟩
theorem e_X11_laysPaces_35 : g_dc cX11_laysPaces 35 (.iload_n 3) 1 36 := ⟨by decide +kernel, rfl⟩
theorem e_X11_laysPaces_36 : g_dc cX11_laysPaces 36 (.iload_n 1) 1 37 := ⟨by decide +kernel, rfl⟩
theorem e_X11_laysPaces_37 : g_dc cX11_laysPaces 37 (.isub) 1 38 := ⟨by decide +kernel, rfl⟩
theorem e_X11_laysPaces_38 : g_dc cX11_laysPaces 38 (.istore_n 3) 1 39 := ⟨by decide +kernel, rfl⟩
theorem e_X11_laysPaces_39 : g_dc cX11_laysPaces 39 (.goto (-37)) 3 42 := ⟨by decide +kernel, rfl⟩
theorem e_X11_laysPaces_42 : g_dc cX11_laysPaces 42 (.return_) 1 43 := ⟨by decide +kernel, rfl⟩
def md_X11_laysPaces : List Nat := [44]
def mr_X11_laysPaces : List Nat := [25]
set_option maxHeartbeats 4000000 in
set_option maxRecDepth 100000 in
theorem w_X11_laysPaces (l : Launch) (X : gX) (ad : Nat → Nat) (F : Nat → Int32) (R : Nat → Nat → Int32) (hI : g_ok LK_wM F) (hA : g_okR LA_wM R) (hWT : WT F R) (hWC : WC F R) (a0 : Int32) (a1 : Int32) : g_Cv l X yX11_laysPaces cX11_laysPaces 4 1 0 0 [.ref (ad 0), .int a0, .int a1] (wM X ad F R) (fun w => ∃ (F' : Nat → Int32) (R' : Nat → Nat → Int32), w = wM X ad F' R' ∧ g_ok LK_wM F' ∧ g_okR LA_wM R' ∧ WT F' R' ∧ WC F' R' ∧ g_fr md_X11_laysPaces F F' ∧ g_fr mr_X11_laysPaces R R' ∧ (F', R') = sp_X11_laysPaces F R a0 a1) := by
  refine g_mv (by decide +kernel) (Nat.le_of_ble_eq_true rfl) (fun E cx hret => ?_)
  obtain ⟨SP, hSP⟩ : ∃ z, z = sp_X11_laysPaces F R a0 a1 := ⟨_, rfl⟩
  have hk0 := hSP
  unfold sp_X11_laysPaces at hk0
  refine g_iload_n cx 2 rfl e_X11_laysPaces_0 ?_
  refine g_istore_n cx [(3, .int a1), (0, .ref (ad 0)), (1, .int a0), (2, .int a1)] e_X11_laysPaces_1 (by decide) rfl ?_
  have J2 : ∀ (N : Nat) (F2 : Nat → Int32) (R3 : Nat → Nat → Int32) (y1 : Int32), (g_ok LK_wM F2) → (g_fr md_X11_laysPaces F F2) → (g_okR LA_wM R3) → (g_fr mr_X11_laysPaces R R3) → (WT F2 R3) → (WC F2 R3) → (jv (-2147483648) 2147483647 y1) → (SP = K_X11_laysPaces_2 a0 N F2 R3 y1) → (2147483647 - (F2 44).toInt).toNat < N → G X E 4 0 0 (wM X ad F2 R3) [(0, .ref (ad 0)), (1, .int a0), (3, .int y1)] 2 [] := by
    intro N
    induction N with
    | zero => intro F2 R3 y1 oF2 fF2 oR3 fR3 wTF2R3 wCF2R3 py1 hkJ2 hm; exact absurd hm (Nat.not_lt_zero _)
    | succ N ih2 =>
      intro F2 R3 y1 oF2 fF2 oR3 fR3 wTF2R3 wCF2R3 py1 hkJ2 hm2
      have hkK2 : SP = KB_X11_laysPaces_2 (K_X11_laysPaces_2 a0 N) a0 F2 R3 y1 := hkJ2
      obtain ⟨b2, hb2⟩ : ∃ z, z = K_X11_laysPaces_2 a0 N := ⟨_, rfl⟩
      rw [← hb2] at hkK2
      unfold KB_X11_laysPaces_2 at hkK2
      refine g_iload_n cx 2 rfl e_X11_laysPaces_2 ?_
      have J42 : (SP = K_X11_laysPaces_42 F2 R3) → G X E 4 0 0 (wM X ad F2 R3) [] 42 [] := by
        intro   hkJ42
        unfold K_X11_laysPaces_42 at hkJ42
        exact hret e_X11_laysPaces_42 (Nat.le_of_ble_eq_true rfl) (Nat.le_of_ble_eq_true rfl) ⟨F2, R3, rfl, oF2, oR3, wTF2R3, wCF2R3, fF2, fR3, (hkJ42.symm.trans hSP)⟩
      refine g_if_le cx 42 e_X11_laysPaces_3 (by decide) (fun zc4 => ?_) (fun zc4 => ?_)
      · have p5 := gn_le (-2147483648) 0 (gc_le zc4) py1 (jv_k (x := 0) 0 (by decide)) (by decide)
        have hk6 := hkK2.trans (if_pos zc4)
        refine g_lsub [] [] rfl ?_
        exact J42  hk6
      · have p7 := gn_gt 1 2147483647 (gc_nle zc4) py1 (jv_k (x := 0) 0 (by decide)) (by decide)
        have hk8 := hkK2.trans (if_neg zc4)
        refine g_aload_n cx 0 rfl e_X11_laysPaces_6 ?_
        refine g_get cx cl_X11 fl_X11_309 0 (.int (F2 44)) e_X11_laysPaces_7 rfl rfl ?_
        refine g_bipush cx 60 (by decide) e_X11_laysPaces_10 ?_
        refine g_icmp_ge cx 42 e_X11_laysPaces_12 (by decide) (fun zc9 => ?_) (fun zc9 => ?_)
        · have p10 := gn_ge 60 60 (gc_le zc9) (g_ok_g oF2 11 rfl) (jv_k (x := 60) 60 (by decide)) (by decide)
          have hk11 := hk8.trans (if_pos zc9)
          refine g_lsub [] [] rfl ?_
          exact J42  hk11
        · have p12 := gn_lt 0 59 (gc_nle zc9) (g_ok_g oF2 11 rfl) (jv_k (x := 60) 60 (by decide)) (by decide)
          have hk13 := hk8.trans (if_neg zc9)
          refine g_aload_n cx 0 rfl e_X11_laysPaces_15 ?_
          refine g_get cx cl_X11 fl_X11_83 0 (.ref (ad 25)) e_X11_laysPaces_16 rfl rfl ?_
          refine g_aload_n cx 0 rfl e_X11_laysPaces_19 ?_
          refine g_get cx cl_X11 fl_X11_309 0 (.int (F2 44)) e_X11_laysPaces_20 rfl rfl ?_
          refine g_iload_n cx 1 rfl e_X11_laysPaces_23 ?_
          refine g_iast cx 25 (wM X ad F2 (g_u R3 25 (upd (R3 25) (Int32.toNatClampNeg (F2 44)) a0))) e_X11_laysPaces_24 rfl (jv_ix 60 p12 (by decide)) rfl ?_
          obtain ⟨R14, hR14⟩ : ∃ z, z = g_u R3 25 (upd (R3 25) (Int32.toNatClampNeg (F2 44)) a0) := ⟨_, rfl⟩
          rw [← hR14]
          have hk15 := k_ls hk13 hR14
          have oR14 : g_okR LA_wM R14 := by rw [hR14]; exact g_okR_u oR3 rfl
          have fR14 : g_fr mr_X11_laysPaces R R14 := by rw [hR14]; exact g_fr_r fR3 rfl
          have wTR14 : WT F2 R14 := by rw [hR14]; exact WT_r wTF2R3 rfl
          have wCR14 : WC F2 R14 := by rw [hR14]; exact WC_r wCF2R3 rfl
          refine g_aload_n cx 0 rfl e_X11_laysPaces_25 ?_
          refine g_aload_n cx 0 rfl e_X11_laysPaces_26 ?_
          refine g_get cx cl_X11 fl_X11_309 0 (.int (F2 44)) e_X11_laysPaces_27 rfl rfl ?_
          refine g_iconst cx 1 (by decide) e_X11_laysPaces_30 ?_
          refine g_iadd cx e_X11_laysPaces_31 ?_
          refine g_topi (fun x16 ex16 => ?_)
          have hk17 := k_ls hk15 ex16
          have zx16 := jv_add 1 60 ex16 p12 (jv_k (x := 1) 1 (by decide)) (by decide)
          refine g_put cx cl_X11 fl_X11_309 0 (wM X ad (upd F2 44 x16) R14) e_X11_laysPaces_32 rfl rfl rfl rfl (Nat.le_of_ble_eq_true rfl) rfl ?_
          obtain ⟨F18, hF18⟩ : ∃ z, z = upd F2 44 x16 := ⟨_, rfl⟩
          rw [← hF18]
          have hk19 := k_ls hk17 hF18
          have oF18 : g_ok LK_wM F18 := by rw [hF18]; exact g_ok_p oF2 zx16.2 rfl
          have fF18 : g_fr md_X11_laysPaces F F18 := by rw [hF18]; exact g_fr_u fF2 rfl
          have wTF18 : WT F18 R14 := by rw [hF18]; exact WT_u wTR14 rfl
          have wCF18 : WC F18 R14 := by rw [hF18]; exact WC_u wCR14 rfl
          refine g_iload_n cx 2 rfl e_X11_laysPaces_35 ?_
          refine g_iload_n cx 1 rfl e_X11_laysPaces_36 ?_
          refine g_isub cx e_X11_laysPaces_37 ?_
          refine g_topi (fun x20 ex20 => ?_)
          have hk21 := k_ls hk19 ex20
          refine g_istore_n cx [(3, .int x20), (0, .ref (ad 0)), (1, .int a0)] e_X11_laysPaces_38 (by decide) rfl ?_
          refine g_goto cx 2 e_X11_laysPaces_39 (by decide) ?_
          refine g_lsub [1, 2, 0] [(0, .ref (ad 0)), (1, .int a0), (3, .int x20)] rfl ?_
          exact ih2 F18 R14 x20 oF18 fF18 oR14 fR14 wTF18 wCF18 (jv_t x20) (hk21.trans (by rw [hb2])) (Nat.lt_of_lt_of_le (show (2147483647 - (F18 44).toInt).toNat < (2147483647 - (F2 44).toInt).toNat from by have q0 := (jv_k (x := 1) 1 (by decide)).1; have q1 := (jv_k (x := 1) 1 (by decide)).2; have q2 := (jv_k (x := 60) 60 (by decide)).1; have q3 := (jv_k (x := 60) 60 (by decide)).2; have q4 := (g_ok_g oF18 11 rfl).1; have q5 := (g_ok_g oF18 11 rfl).2; have q6 := p12.1; have q7 := p12.2; have q8 := zx16.2.1; have q9 := zx16.2.2; have q10 := (gc_nle zc9); have q11 := (g_eq0 zx16.1); have q12 := (congrArg Int32.toInt (show F18 44 = x16 from (g_pu1 hF18))); have q13 := (congrArg Int32.toInt (show F18 44 = x16 from (g_pu1 hF18))); omega) (Nat.le_of_lt_succ hm2))
  refine g_lsub [1, 2, 0] [(0, .ref (ad 0)), (1, .int a0), (3, .int a1)] rfl ?_
  exact J2 8589934592 F R a1 hI (g_fr_rf F) hA (g_fr_rf R) hWT hWC (jv_t a1) hk0 (show (2147483647 - (F 44).toInt).toNat < 8589934592 from by have q0 := (g_ok_g hI 11 rfl).1; have q1 := (g_ok_g hI 11 rfl).2; omega)
def sp_X11_runsEven (F : Nat → Int32) (R : Nat → Nat → Int32) (a0 : Int32) : (Nat → Int32) × (Nat → Nat → Int32) :=
  k_lt (upd F 44 0) (fun F1 => k_lt2 (sp_X11_laysPaces F1 R a0 (F 1)) (fun F7 R8 => k_lt2 (sp_X11_runs F7 R8) (fun F14 R15 => (F14, R15))))
theorem e_X11_runsEven_0 : g_dc cX11_runsEven 0 (.aload_n 0) 1 1 := ⟨by decide +kernel, rfl⟩
theorem e_X11_runsEven_1 : g_dc cX11_runsEven 1 (.iconst 0) 1 2 := ⟨by decide +kernel, rfl⟩
theorem e_X11_runsEven_2 : g_dc cX11_runsEven 2 (.putfield 309) 3 5 := ⟨by decide +kernel, rfl⟩
theorem e_X11_runsEven_5 : g_dc cX11_runsEven 5 (.aload_n 0) 1 6 := ⟨by decide +kernel, rfl⟩
theorem e_X11_runsEven_6 : g_dc cX11_runsEven 6 (.iload_n 1) 1 7 := ⟨by decide +kernel, rfl⟩
theorem e_X11_runsEven_7 : g_dc cX11_runsEven 7 (.aload_n 0) 1 8 := ⟨by decide +kernel, rfl⟩
theorem e_X11_runsEven_8 : g_dc cX11_runsEven 8 (.getfield 159) 3 11 := ⟨by decide +kernel, rfl⟩
theorem e_X11_runsEven_11 : g_dc cX11_runsEven 11 (.invokevirtual 443) 3 14 := ⟨by decide +kernel, rfl⟩
theorem e_X11_runsEven_14 : g_dc cX11_runsEven 14 (.aload_n 0) 1 15 := ⟨by decide +kernel, rfl⟩
theorem e_X11_runsEven_15 : g_dc cX11_runsEven 15 (.invokevirtual 428) 3 18 := ⟨by decide +kernel, rfl⟩
theorem e_X11_runsEven_18 : g_dc cX11_runsEven 18 (.return_) 1 19 := ⟨by decide +kernel, rfl⟩
def md_X11_runsEven : List Nat := [3, 44, 45, 46, 47, 48, 50, 65, 66, 67, 68, 69]
def mr_X11_runsEven : List Nat := [23, 24, 25, 26, 27, 28, 29, 31, 32, 33, 34, 35, 36, 37]
set_option maxHeartbeats 4000000 in
set_option maxRecDepth 100000 in
theorem w_X11_runsEven (l : Launch) (X : gX) (ad : Nat → Nat) (F : Nat → Int32) (R : Nat → Nat → Int32) (hI : g_ok LK_wM F) (hA : g_okR LA_wM R) (hWT : WT F R) (hWC : WC F R) (a0 : Int32) (hpn : WN F R) : g_Cv l X yX11_runsEven cX11_runsEven 2 7 0 0 [.ref (ad 0), .int a0] (wM X ad F R) (fun w => ∃ (F' : Nat → Int32) (R' : Nat → Nat → Int32), w = wM X ad F' R' ∧ g_ok LK_wM F' ∧ g_okR LA_wM R' ∧ WT F' R' ∧ WC F' R' ∧ g_fr md_X11_runsEven F F' ∧ g_fr mr_X11_runsEven R R' ∧ (F', R') = sp_X11_runsEven F R a0) := by
  refine g_mv (by decide +kernel) (Nat.le_of_ble_eq_true rfl) (fun E cx hret => ?_)
  obtain ⟨SP, hSP⟩ : ∃ z, z = sp_X11_runsEven F R a0 := ⟨_, rfl⟩
  have hk0 := hSP
  unfold sp_X11_runsEven at hk0
  refine g_aload_n cx 0 rfl e_X11_runsEven_0 ?_
  refine g_iconst cx 0 (by decide) e_X11_runsEven_1 ?_
  refine g_put cx cl_X11 fl_X11_309 0 (wM X ad (upd F 44 0) R) e_X11_runsEven_2 rfl rfl rfl rfl (Nat.le_of_ble_eq_true rfl) rfl ?_
  obtain ⟨F1, hF1⟩ : ∃ z, z = upd F 44 0 := ⟨_, rfl⟩
  rw [← hF1]
  have hk2 := k_ls hk0 hF1
  have oF1 : g_ok LK_wM F1 := by rw [hF1]; exact g_ok_p hI (jv_k (x := 0) 0 (by decide)) rfl
  have fF1 : g_fr md_X11_runsEven F F1 := by rw [hF1]; exact g_fr_u (g_fr_rf F) rfl
  have wTF1 : WT F1 R := by rw [hF1]; exact WT_u hWT rfl
  have wCF1 : WC F1 R := by rw [hF1]; exact WC_u hWC rfl
  refine g_aload_n cx 0 rfl e_X11_runsEven_5 ?_
  refine g_iload_n cx 1 rfl e_X11_runsEven_6 ?_
  refine g_aload_n cx 0 rfl e_X11_runsEven_7 ?_
  refine g_get cx cl_X11 fl_X11_159 0 (.int (F1 1)) e_X11_runsEven_8 rfl rfl ?_
  refine g_toi (F 1) (g_pu2 hF1 rfl) ?_
  refine g_cVvW cx [.int a0, .int (F 1)] [] (w_X11_laysPaces l X ad F1 R oF1 hA wTF1 wCF1 a0 (F 1)) ml_X11_443 yV_X11_laysPaces e_X11_runsEven_11 (by unfold g_rr; decide) (by decide) 0 rfl rfl rfl (Nat.le_of_ble_eq_true rfl) (fun w4 h5 => ?_)
  obtain ⟨F7, R8, rfl, oF7, oR8, wTF7, wCF7, cF7, cR8, hx6⟩ := h5
  have hk9 := k_ls2 hk2 hx6
  have fF7 : g_fr md_X11_runsEven F F7 := g_fr_c fF1 cF7 rfl
  have fR8 : g_fr mr_X11_runsEven R R8 := g_fr_c (g_fr_rf R) cR8 rfl
  refine g_aload_n cx 0 rfl e_X11_runsEven_14 ?_
  refine g_cVvW cx [] [] (w_X11_runs l X ad F7 R8 oF7 oR8 wTF7 wCF7 (WN_e hpn ((cF7 42 rfl).trans (g_pu2 hF1 rfl)) (cR8 3 rfl) (cR8 5 rfl))) ml_X11_428 yV_X11_runs e_X11_runsEven_15 (by unfold g_rr; decide) (by decide) 0 rfl rfl rfl (Nat.le_of_ble_eq_true rfl) (fun w11 h12 => ?_)
  obtain ⟨F14, R15, rfl, oF14, oR15, wTF14, wCF14, cF14, cR15, hx13⟩ := h12
  have hk16 := k_ls2 hk9 hx13
  have fF14 : g_fr md_X11_runsEven F F14 := g_fr_c fF7 cF14 rfl
  have fR15 : g_fr mr_X11_runsEven R R15 := g_fr_c fR8 cR15 rfl
  exact hret e_X11_runsEven_18 (Nat.le_of_ble_eq_true rfl) (Nat.le_of_ble_eq_true rfl) ⟨F14, R15, rfl, oF14, oR15, wTF14, wCF14, fF14, fR15, (hk16.symm.trans hSP)⟩
def KB_X11_pace_2 (b2 : (Nat → Int32) → (Nat → Nat → Int32) → (Int32) → Int32 × (Nat → Int32) × (Nat → Nat → Int32)) (F : Nat → Int32) (F2 : Nat → Int32) (R3 : Nat → Nat → Int32) (y1 : Int32) : Int32 × (Nat → Int32) × (Nat → Nat → Int32) :=
  if 40 < y1 then ((-2), F2, R3) else k_lt2 (sp_X11_laysThings F2 R3) (fun F14 R15 => k_lt2 (sp_X11_runsEven F14 R15 y1) (fun F21 R22 => k_lt (sp_X11_standing F21 R22) (fun r24 => if r24 = (F 4) then (y1, F21, R22) else k_lt (y1 + 1) (fun x31 => b2 F21 R22 x31))))
def K_X11_pace_2 (F : Nat → Int32) : Nat → (Nat → Int32) → (Nat → Nat → Int32) → (Int32) → Int32 × (Nat → Int32) × (Nat → Nat → Int32)
  | 0 => fun F2 R3 _ => (0, F2, R3)
  | n + 1 => KB_X11_pace_2 (K_X11_pace_2 F n) F
def sp_X11_pace (F : Nat → Int32) (R : Nat → Nat → Int32) : Int32 × (Nat → Int32) × (Nat → Nat → Int32) :=
  K_X11_pace_2 F 8589934592 F R 1
theorem e_X11_pace_0 : g_dc cX11_pace 0 (.iconst 1) 1 1 := ⟨by decide +kernel, rfl⟩
theorem e_X11_pace_1 : g_dc cX11_pace 1 (.istore_n 1) 1 2 := ⟨by decide +kernel, rfl⟩
theorem e_X11_pace_2 : g_dc cX11_pace 2 (.iload_n 1) 1 3 := ⟨by decide +kernel, rfl⟩
theorem e_X11_pace_3 : g_dc cX11_pace 3 (.bipush 40) 2 5 := ⟨by decide +kernel, rfl⟩
theorem e_X11_pace_5 : g_dc cX11_pace 5 (.if_icmp .gt 31) 3 8 := ⟨by decide +kernel, rfl⟩
theorem e_X11_pace_8 : g_dc cX11_pace 8 (.aload_n 0) 1 9 := ⟨by decide +kernel, rfl⟩
theorem e_X11_pace_9 : g_dc cX11_pace 9 (.invokevirtual 425) 3 12 := ⟨by decide +kernel, rfl⟩
theorem e_X11_pace_12 : g_dc cX11_pace 12 (.aload_n 0) 1 13 := ⟨by decide +kernel, rfl⟩
theorem e_X11_pace_13 : g_dc cX11_pace 13 (.iload_n 1) 1 14 := ⟨by decide +kernel, rfl⟩
theorem e_X11_pace_14 : g_dc cX11_pace 14 (.invokevirtual 446) 3 17 := ⟨by decide +kernel, rfl⟩
theorem e_X11_pace_17 : g_dc cX11_pace 17 (.aload_n 0) 1 18 := ⟨by decide +kernel, rfl⟩
theorem e_X11_pace_18 : g_dc cX11_pace 18 (.invokevirtual 407) 3 21 := ⟨by decide +kernel, rfl⟩
theorem e_X11_pace_21 : g_dc cX11_pace 21 (.aload_n 0) 1 22 := ⟨by decide +kernel, rfl⟩
theorem e_X11_pace_22 : g_dc cX11_pace 22 (.getfield 172) 3 25 := ⟨by decide +kernel, rfl⟩
theorem e_X11_pace_25 : g_dc cX11_pace 25 (.if_icmp .ne 5) 3 28 := ⟨by decide +kernel, rfl⟩
theorem e_X11_pace_28 : g_dc cX11_pace 28 (.iload_n 1) 1 29 := ⟨by decide +kernel, rfl⟩
theorem e_X11_pace_29 : g_dc cX11_pace 29 (.ireturn) 1 30 := ⟨by decide +kernel, rfl⟩
theorem e_X11_pace_30 : g_dc cX11_pace 30 (.iinc 1 1) 3 33 := ⟨by decide +kernel, rfl⟩
theorem e_X11_pace_33 : g_dc cX11_pace 33 (.goto (-31)) 3 36 := ⟨by decide +kernel, rfl⟩
theorem e_X11_pace_36 : g_dc cX11_pace 36 (.bipush (-2)) 2 38 := ⟨by decide +kernel, rfl⟩
theorem e_X11_pace_38 : g_dc cX11_pace 38 (.ireturn) 1 39 := ⟨by decide +kernel, rfl⟩
def md_X11_pace : List Nat := [3, 42, 43, 44, 45, 46, 47, 48, 49, 50, 51, 65, 66, 67, 68, 69]
def mr_X11_pace : List Nat := [23, 24, 25, 26, 27, 28, 29, 30, 31, 32, 33, 34, 35, 36, 37]
set_option maxHeartbeats 4000000 in
set_option maxRecDepth 100000 in
theorem w_X11_pace (l : Launch) (X : gX) (ad : Nat → Nat) (F : Nat → Int32) (R : Nat → Nat → Int32) (hI : g_ok LK_wM F) (hA : g_okR LA_wM R) (hWT : WT F R) (hWC : WC F R) : g_Ci l X yX11_pace cX11_pace 2 (some .int) 8 0 0 [.ref (ad 0)] (wM X ad F R) (fun r w => ∃ (F' : Nat → Int32) (R' : Nat → Nat → Int32), w = wM X ad F' R' ∧ g_ok LK_wM F' ∧ g_okR LA_wM R' ∧ WT F' R' ∧ WC F' R' ∧ g_fr md_X11_pace F F' ∧ g_fr mr_X11_pace R R' ∧ jv (-2) 40 r ∧ (r, F', R') = sp_X11_pace F R) := by
  refine g_mi (by decide +kernel) (Nat.le_of_ble_eq_true rfl) (fun E cx hret => ?_)
  obtain ⟨SP, hSP⟩ : ∃ z, z = sp_X11_pace F R := ⟨_, rfl⟩
  have hk0 := hSP
  unfold sp_X11_pace at hk0
  refine g_iconst cx 1 (by decide) e_X11_pace_0 ?_
  refine g_istore_n cx [(1, .int 1), (0, .ref (ad 0))] e_X11_pace_1 (by decide) rfl ?_
  have J2 : ∀ (N : Nat) (F2 : Nat → Int32) (R3 : Nat → Nat → Int32) (y1 : Int32), (g_ok LK_wM F2) → (g_fr md_X11_pace F F2) → (g_okR LA_wM R3) → (g_fr mr_X11_pace R R3) → (WT F2 R3) → (WC F2 R3) → (jv 1 41 y1) → (SP = K_X11_pace_2 F N F2 R3 y1) → (2147483647 - y1.toInt).toNat < N → G X E 2 0 0 (wM X ad F2 R3) [(0, .ref (ad 0)), (1, .int y1)] 2 [] := by
    intro N
    induction N with
    | zero => intro F2 R3 y1 oF2 fF2 oR3 fR3 wTF2R3 wCF2R3 py1 hkJ2 hm; exact absurd hm (Nat.not_lt_zero _)
    | succ N ih2 =>
      intro F2 R3 y1 oF2 fF2 oR3 fR3 wTF2R3 wCF2R3 py1 hkJ2 hm2
      have hkK2 : SP = KB_X11_pace_2 (K_X11_pace_2 F N) F F2 R3 y1 := hkJ2
      obtain ⟨b2, hb2⟩ : ∃ z, z = K_X11_pace_2 F N := ⟨_, rfl⟩
      rw [← hb2] at hkK2
      unfold KB_X11_pace_2 at hkK2
      refine g_iload_n cx 1 rfl e_X11_pace_2 ?_
      refine g_bipush cx 40 (by decide) e_X11_pace_3 ?_
      refine g_icmp_gt cx 36 e_X11_pace_5 (by decide) (fun zc4 => ?_) (fun zc4 => ?_)
      · have p5 := gn_gt 41 41 (gc_lt zc4) py1 (jv_k (x := 40) 40 (by decide)) (by decide)
        have hk6 := hkK2.trans (if_pos zc4)
        refine g_bipush cx (-2) (by decide) e_X11_pace_36 ?_
        exact hret e_X11_pace_38 (Nat.le_of_ble_eq_true rfl) (Nat.le_of_ble_eq_true rfl) rfl ⟨F2, R3, rfl, oF2, oR3, wTF2R3, wCF2R3, fF2, fR3, (jv_w (jv_k (x := (-2)) (-2) (by decide)) (by decide)), (hk6.symm.trans hSP)⟩
      · have p7 := gn_le 1 40 (gc_nlt zc4) py1 (jv_k (x := 40) 40 (by decide)) (by decide)
        have hk8 := hkK2.trans (if_neg zc4)
        refine g_aload_n cx 0 rfl e_X11_pace_8 ?_
        refine g_cVvW cx [] [] (w_X11_laysThings l X ad F2 R3 oF2 oR3 wTF2R3 wCF2R3) ml_X11_425 yV_X11_laysThings e_X11_pace_9 (by unfold g_rr; decide) (by decide) 0 rfl rfl rfl (Nat.le_of_ble_eq_true rfl) (fun w10 h11 => ?_)
        obtain ⟨F14, R15, rfl, oF14, oR15, wTF14, wCF14, cF14, cR15, zx12, hx13⟩ := h11
        have hk16 := k_ls2 hk8 hx13
        have fF14 : g_fr md_X11_pace F F14 := g_fr_c fF2 cF14 rfl
        have fR15 : g_fr mr_X11_pace R R15 := g_fr_c fR3 cR15 rfl
        refine g_aload_n cx 0 rfl e_X11_pace_12 ?_
        refine g_iload_n cx 1 rfl e_X11_pace_13 ?_
        refine g_cVvW cx [.int y1] [] (w_X11_runsEven l X ad F14 R15 oF14 oR15 wTF14 wCF14 y1 (WN_of wTF14 ((zx12.trans ((cF14 4 rfl).trans (fF2 4 rfl))).trans ((cF14 4 rfl).trans (fF2 4 rfl)).symm))) ml_X11_446 yV_X11_runsEven e_X11_pace_14 (by unfold g_rr; decide) (by decide) 0 rfl rfl rfl (Nat.le_of_ble_eq_true rfl) (fun w18 h19 => ?_)
        obtain ⟨F21, R22, rfl, oF21, oR22, wTF21, wCF21, cF21, cR22, hx20⟩ := h19
        have hk23 := k_ls2 hk16 hx20
        have fF21 : g_fr md_X11_pace F F21 := g_fr_c fF14 cF21 rfl
        have fR22 : g_fr mr_X11_pace R R22 := g_fr_c fR15 cR22 rfl
        refine g_aload_n cx 0 rfl e_X11_pace_17 ?_
        refine g_cViW cx [] [] (w_X11_standing l X ad F21 R22 oF21 oR22 wTF21 wCF21) ml_X11_407 yV_X11_standing e_X11_pace_18 (by unfold g_rr; decide) (by decide) 0 rfl rfl rfl (Nat.le_of_ble_eq_true rfl) (fun r24 w25 h26 => ?_)
        obtain ⟨rfl, pr24, hx27⟩ := h26
        have hk28 := k_ls hk23 hx27
        refine g_aload_n cx 0 rfl e_X11_pace_21 ?_
        refine g_get cx cl_X11 fl_X11_172 0 (.int (F21 4)) e_X11_pace_22 rfl rfl ?_
        refine g_toi (F 4) (((cF21 4 rfl).trans (cF14 4 rfl)).trans (fF2 4 rfl)) ?_
        refine g_icmp_ne cx 30 e_X11_pace_25 (by decide) (fun zc29 => ?_) (fun zc29 => ?_)
        · have hk30 := hk28.trans (if_neg zc29)
          obtain ⟨x31, ex31⟩ : ∃ z : Int32, z = y1 + Int32.ofInt 1 := ⟨_, rfl⟩
          have hk32 := k_ls hk30 (show x31 = y1 + 1 from ex31)
          refine g_iinc cx x31 [(1, .int x31), (0, .ref (ad 0))] 1 e_X11_pace_30 rfl ex31.symm (by decide) rfl ?_
          have zx31 := jv_add 2 41 (show x31 = y1 + 1 from ex31) p7 (jv_k (x := 1) 1 (by decide)) (by decide)
          refine g_goto cx 2 e_X11_pace_33 (by decide) ?_
          refine g_lsub [1, 0] [(0, .ref (ad 0)), (1, .int x31)] rfl ?_
          exact ih2 F21 R22 x31 oF21 fF21 oR22 fR22 wTF21 wCF21 (jv_w zx31.2 (by decide)) (hk32.trans (by rw [hb2])) (Nat.lt_of_lt_of_le (show (2147483647 - x31.toInt).toNat < (2147483647 - y1.toInt).toNat from by have q0 := (jv_k (x := 1) 1 (by decide)).1; have q1 := (jv_k (x := 1) 1 (by decide)).2; have q2 := (jv_k (x := 40) 40 (by decide)).1; have q3 := (jv_k (x := 40) 40 (by decide)).2; have q4 := zx31.2.1; have q5 := zx31.2.2; have q6 := p7.1; have q7 := p7.2; have q8 := (gc_nlt zc4); have q9 := (g_eq0 zx31.1); omega) (Nat.le_of_lt_succ hm2))
        · have hk33 := hk28.trans (if_pos zc29)
          refine g_iload_n cx 1 rfl e_X11_pace_28 ?_
          exact hret e_X11_pace_29 (Nat.le_of_ble_eq_true rfl) (Nat.le_of_ble_eq_true rfl) rfl ⟨F21, R22, rfl, oF21, oR22, wTF21, wCF21, fF21, fR22, (jv_w p7 (by decide)), (hk33.symm.trans hSP)⟩
  refine g_lsub [1, 0] [(0, .ref (ad 0)), (1, .int 1)] rfl ?_
  exact J2 8589934592 F R 1 hI (g_fr_rf F) hA (g_fr_rf R) hWT hWC (jv_w (jv_k (x := 1) 1 (by decide)) (by decide)) hk0 (show (2147483647 - (1 : Int32).toInt).toNat < 8589934592 from by have q0 := (jv_k (x := 1) 1 (by decide)).1; have q1 := (jv_k (x := 1) 1 (by decide)).2; omega)
def sp_X11_forgetsBest (F : Nat → Int32) (R : Nat → Nat → Int32) : (Nat → Int32) × (Nat → Nat → Int32) :=
  k_lt (upd F 70 (-1)) (fun F1 => k_lt (upd F1 71 0) (fun F3 => k_lt (upd F3 72 (-1)) (fun F5 => (F5, R))))
theorem e_X11_forgetsBest_0 : g_dc cX11_forgetsBest 0 (.aload_n 0) 1 1 := ⟨by decide +kernel, rfl⟩
theorem e_X11_forgetsBest_1 : g_dc cX11_forgetsBest 1 (.iconst (-1)) 1 2 := ⟨by decide +kernel, rfl⟩
theorem e_X11_forgetsBest_2 : g_dc cX11_forgetsBest 2 (.putfield 449) 3 5 := ⟨by decide +kernel, rfl⟩
theorem e_X11_forgetsBest_5 : g_dc cX11_forgetsBest 5 (.aload_n 0) 1 6 := ⟨by decide +kernel, rfl⟩
theorem e_X11_forgetsBest_6 : g_dc cX11_forgetsBest 6 (.iconst 0) 1 7 := ⟨by decide +kernel, rfl⟩
theorem e_X11_forgetsBest_7 : g_dc cX11_forgetsBest 7 (.putfield 452) 3 10 := ⟨by decide +kernel, rfl⟩
theorem e_X11_forgetsBest_10 : g_dc cX11_forgetsBest 10 (.aload_n 0) 1 11 := ⟨by decide +kernel, rfl⟩
theorem e_X11_forgetsBest_11 : g_dc cX11_forgetsBest 11 (.iconst (-1)) 1 12 := ⟨by decide +kernel, rfl⟩
theorem e_X11_forgetsBest_12 : g_dc cX11_forgetsBest 12 (.putfield 455) 3 15 := ⟨by decide +kernel, rfl⟩
theorem e_X11_forgetsBest_15 : g_dc cX11_forgetsBest 15 (.return_) 1 16 := ⟨by decide +kernel, rfl⟩
def md_X11_forgetsBest : List Nat := [70, 71, 72]
def mr_X11_forgetsBest : List Nat := []
set_option maxHeartbeats 4000000 in
set_option maxRecDepth 100000 in
theorem w_X11_forgetsBest (l : Launch) (X : gX) (ad : Nat → Nat) (F : Nat → Int32) (R : Nat → Nat → Int32) (hI : g_ok LK_wM F) (hA : g_okR LA_wM R) (hWT : WT F R) (hWC : WC F R) : g_Cv l X yX11_forgetsBest cX11_forgetsBest 1 1 0 0 [.ref (ad 0)] (wM X ad F R) (fun w => ∃ (F' : Nat → Int32) (R' : Nat → Nat → Int32), w = wM X ad F' R' ∧ g_ok LK_wM F' ∧ g_okR LA_wM R' ∧ WT F' R' ∧ WC F' R' ∧ g_fr md_X11_forgetsBest F F' ∧ g_fr mr_X11_forgetsBest R R' ∧ (F' 70).toInt = -1 ∧ (F', R') = sp_X11_forgetsBest F R) := by
  refine g_mv (by decide +kernel) (Nat.le_of_ble_eq_true rfl) (fun E cx hret => ?_)
  obtain ⟨SP, hSP⟩ : ∃ z, z = sp_X11_forgetsBest F R := ⟨_, rfl⟩
  have hk0 := hSP
  unfold sp_X11_forgetsBest at hk0
  refine g_aload_n cx 0 rfl e_X11_forgetsBest_0 ?_
  refine g_iconst cx (-1) (by decide) e_X11_forgetsBest_1 ?_
  refine g_put cx cl_X11 fl_X11_449 0 (wM X ad (upd F 70 (-1)) R) e_X11_forgetsBest_2 rfl rfl rfl rfl (Nat.le_of_ble_eq_true rfl) rfl ?_
  obtain ⟨F1, hF1⟩ : ∃ z, z = upd F 70 (-1) := ⟨_, rfl⟩
  rw [← hF1]
  have hk2 := k_ls hk0 hF1
  have oF1 : g_ok LK_wM F1 := by rw [hF1]; exact g_ok_u hI rfl
  have fF1 : g_fr md_X11_forgetsBest F F1 := by rw [hF1]; exact g_fr_u (g_fr_rf F) rfl
  have wTF1 : WT F1 R := by rw [hF1]; exact WT_u hWT rfl
  have wCF1 : WC F1 R := by rw [hF1]; exact WC_u hWC rfl
  refine g_aload_n cx 0 rfl e_X11_forgetsBest_5 ?_
  refine g_iconst cx 0 (by decide) e_X11_forgetsBest_6 ?_
  refine g_put cx cl_X11 fl_X11_452 0 (wM X ad (upd F1 71 0) R) e_X11_forgetsBest_7 rfl rfl rfl rfl (Nat.le_of_ble_eq_true rfl) rfl ?_
  obtain ⟨F3, hF3⟩ : ∃ z, z = upd F1 71 0 := ⟨_, rfl⟩
  rw [← hF3]
  have hk4 := k_ls hk2 hF3
  have oF3 : g_ok LK_wM F3 := by rw [hF3]; exact g_ok_u oF1 rfl
  have fF3 : g_fr md_X11_forgetsBest F F3 := by rw [hF3]; exact g_fr_u fF1 rfl
  have wTF3 : WT F3 R := by rw [hF3]; exact WT_u wTF1 rfl
  have wCF3 : WC F3 R := by rw [hF3]; exact WC_u wCF1 rfl
  refine g_aload_n cx 0 rfl e_X11_forgetsBest_10 ?_
  refine g_iconst cx (-1) (by decide) e_X11_forgetsBest_11 ?_
  refine g_put cx cl_X11 fl_X11_455 0 (wM X ad (upd F3 72 (-1)) R) e_X11_forgetsBest_12 rfl rfl rfl rfl (Nat.le_of_ble_eq_true rfl) rfl ?_
  obtain ⟨F5, hF5⟩ : ∃ z, z = upd F3 72 (-1) := ⟨_, rfl⟩
  rw [← hF5]
  have hk6 := k_ls hk4 hF5
  have oF5 : g_ok LK_wM F5 := by rw [hF5]; exact g_ok_u oF3 rfl
  have fF5 : g_fr md_X11_forgetsBest F F5 := by rw [hF5]; exact g_fr_u fF3 rfl
  have wTF5 : WT F5 R := by rw [hF5]; exact WT_u wTF3 rfl
  have wCF5 : WC F5 R := by rw [hF5]; exact WC_u wCF3 rfl
  exact hret e_X11_forgetsBest_15 (Nat.le_of_ble_eq_true rfl) (Nat.le_of_ble_eq_true rfl) ⟨F5, R, rfl, oF5, hA, wTF5, wCF5, fF5, (g_fr_rf R), (congrArg Int32.toInt (((g_pu2 hF5 rfl).trans (g_pu2 hF3 rfl)).trans (g_pu1 hF1))), (hk6.symm.trans hSP)⟩
def sp_X11_better (F : Nat → Int32) (R : Nat → Nat → Int32) (a0 : Int32) : (Nat → Int32) × (Nat → Nat → Int32) :=
  k_lt (sp_X11_standing F R) (fun r1 => k_lt (sp_X11_bits F R r1) (fun r6 => k_lt (sp_X11_inchesAll F R) (fun r12 => if r6 < (F 70) then (F, R) else if r6 = (F 70) then if r12 < (F 71) then k_lt (upd F 70 r6) (fun F36 => k_lt (upd F36 71 r12) (fun F38 => k_lt (upd F38 72 a0) (fun F40 => (F40, R)))) else (F, R) else k_lt (upd F 70 r6) (fun F24 => k_lt (upd F24 71 r12) (fun F26 => k_lt (upd F26 72 a0) (fun F28 => (F28, R)))))))
theorem e_X11_better_0 : g_dc cX11_better 0 (.aload_n 0) 1 1 := ⟨by decide +kernel, rfl⟩
theorem e_X11_better_1 : g_dc cX11_better 1 (.invokevirtual 407) 3 4 := ⟨by decide +kernel, rfl⟩
theorem e_X11_better_4 : g_dc cX11_better 4 (.invokestatic 410) 3 7 := ⟨by decide +kernel, rfl⟩
theorem e_X11_better_7 : g_dc cX11_better 7 (.istore_n 2) 1 8 := ⟨by decide +kernel, rfl⟩
theorem e_X11_better_8 : g_dc cX11_better 8 (.aload_n 0) 1 9 := ⟨by decide +kernel, rfl⟩
theorem e_X11_better_9 : g_dc cX11_better 9 (.invokevirtual 413) 3 12 := ⟨by decide +kernel, rfl⟩
theorem e_X11_better_12 : g_dc cX11_better 12 (.istore_n 3) 1 13 := ⟨by decide +kernel, rfl⟩
theorem e_X11_better_13 : g_dc cX11_better 13 (.iload_n 2) 1 14 := ⟨by decide +kernel, rfl⟩
theorem e_X11_better_14 : g_dc cX11_better 14 (.aload_n 0) 1 15 := ⟨by decide +kernel, rfl⟩
theorem e_X11_better_15 : g_dc cX11_better 15 (.getfield 449) 3 18 := ⟨by decide +kernel, rfl⟩
theorem e_X11_better_18 : g_dc cX11_better 18 (.if_icmp .lt 19) 3 21 := ⟨by decide +kernel, rfl⟩
theorem e_X11_better_21 : g_dc cX11_better 21 (.iload_n 2) 1 22 := ⟨by decide +kernel, rfl⟩
theorem e_X11_better_22 : g_dc cX11_better 22 (.aload_n 0) 1 23 := ⟨by decide +kernel, rfl⟩
theorem e_X11_better_23 : g_dc cX11_better 23 (.getfield 449) 3 26 := ⟨by decide +kernel, rfl⟩
theorem e_X11_better_26 : g_dc cX11_better 26 (.if_icmp .ne 12) 3 29 := ⟨by decide +kernel, rfl⟩
theorem e_X11_better_29 : g_dc cX11_better 29 (.iload_n 3) 1 30 := ⟨by decide +kernel, rfl⟩
theorem e_X11_better_30 : g_dc cX11_better 30 (.aload_n 0) 1 31 := ⟨by decide +kernel, rfl⟩
theorem e_X11_better_31 : g_dc cX11_better 31 (.getfield 452) 3 34 := ⟨by decide +kernel, rfl⟩
theorem e_X11_better_34 : g_dc cX11_better 34 (.if_icmp .lt 4) 3 37 := ⟨by decide +kernel, rfl⟩
theorem e_X11_better_37 : g_dc cX11_better 37 (.return_) 1 38 := ⟨by decide +kernel, rfl⟩
theorem e_X11_better_38 : g_dc cX11_better 38 (.aload_n 0) 1 39 := ⟨by decide +kernel, rfl⟩
theorem e_X11_better_39 : g_dc cX11_better 39 (.iload_n 2) 1 40 := ⟨by decide +kernel, rfl⟩
theorem e_X11_better_40 : g_dc cX11_better 40 (.putfield 449) 3 43 := ⟨by decide +kernel, rfl⟩
theorem e_X11_better_43 : g_dc cX11_better 43 (.aload_n 0) 1 44 := ⟨by decide +kernel, rfl⟩
theorem e_X11_better_44 : g_dc cX11_better 44 (.iload_n 3) 1 45 := ⟨by decide +kernel, rfl⟩
theorem e_X11_better_45 : g_dc cX11_better 45 (.putfield 452) 3 48 := ⟨by decide +kernel, rfl⟩
theorem e_X11_better_48 : g_dc cX11_better 48 (.aload_n 0) 1 49 := ⟨by decide +kernel, rfl⟩
theorem e_X11_better_49 : g_dc cX11_better 49 (.iload_n 1) 1 50 := ⟨by decide +kernel, rfl⟩
theorem e_X11_better_50 : g_dc cX11_better 50 (.putfield 455) 3 53 := ⟨by decide +kernel, rfl⟩
theorem e_X11_better_53 : g_dc cX11_better 53 (.return_) 1 54 := ⟨by decide +kernel, rfl⟩
def md_X11_better : List Nat := [70, 71, 72]
def mr_X11_better : List Nat := []
set_option maxHeartbeats 4000000 in
set_option maxRecDepth 100000 in
theorem w_X11_better (l : Launch) (X : gX) (ad : Nat → Nat) (F : Nat → Int32) (R : Nat → Nat → Int32) (hI : g_ok LK_wM F) (hA : g_okR LA_wM R) (hWT : WT F R) (hWC : WC F R) (a0 : Int32) : g_Cv l X yX11_better cX11_better 4 4 0 0 [.ref (ad 0), .int a0] (wM X ad F R) (fun w => ∃ (F' : Nat → Int32) (R' : Nat → Nat → Int32), w = wM X ad F' R' ∧ g_ok LK_wM F' ∧ g_okR LA_wM R' ∧ WT F' R' ∧ WC F' R' ∧ g_fr md_X11_better F F' ∧ g_fr mr_X11_better R R' ∧ ((F 70).toInt = -1 → (F' 72).toInt = a0.toInt) ∧ ((F' 72).toInt = (F 72).toInt ∧ (F' 70).toInt = (F 70).toInt ∨ (F' 72).toInt = a0.toInt) ∧ (F', R') = sp_X11_better F R a0) := by
  refine g_mv (by decide +kernel) (Nat.le_of_ble_eq_true rfl) (fun E cx hret => ?_)
  obtain ⟨SP, hSP⟩ : ∃ z, z = sp_X11_better F R a0 := ⟨_, rfl⟩
  have hk0 := hSP
  unfold sp_X11_better at hk0
  refine g_aload_n cx 0 rfl e_X11_better_0 ?_
  refine g_cViW cx [] [] (w_X11_standing l X ad F R hI hA hWT hWC) ml_X11_407 yV_X11_standing e_X11_better_1 (by unfold g_rr; decide) (by decide) 0 rfl rfl rfl (Nat.le_of_ble_eq_true rfl) (fun r1 w2 h3 => ?_)
  obtain ⟨rfl, pr1, hx4⟩ := h3
  have hk5 := k_ls hk0 hx4
  refine g_cSiW cx [.int r1] [] (w_X11_bits l X ad F R hI hA r1) ml_X11_410 yS_X11_bits rfl e_X11_better_4 (by unfold g_rr; decide) (by decide) rfl (Nat.le_of_ble_eq_true rfl) (fun r6 w7 h8 => ?_)
  obtain ⟨rfl, pr6, zx9, hx10⟩ := h8
  have hk11 := k_ls hk5 hx10
  refine g_istore_n cx [(2, .int r6), (0, .ref (ad 0)), (1, .int a0)] e_X11_better_7 (by decide) rfl ?_
  refine g_aload_n cx 1 rfl e_X11_better_8 ?_
  refine g_cViW cx [] [] (w_X11_inchesAll l X ad F R hI hA hWT hWC) ml_X11_413 yV_X11_inchesAll e_X11_better_9 (by unfold g_rr; decide) (by decide) 0 rfl rfl rfl (Nat.le_of_ble_eq_true rfl) (fun r12 w13 h14 => ?_)
  obtain ⟨rfl, pr12, hx15⟩ := h14
  have hk16 := k_ls hk11 hx15
  refine g_istore_n cx [(3, .int r12), (2, .int r6), (0, .ref (ad 0)), (1, .int a0)] e_X11_better_12 (by decide) rfl ?_
  refine g_iload_n cx 1 rfl e_X11_better_13 ?_
  refine g_aload_n cx 2 rfl e_X11_better_14 ?_
  refine g_get cx cl_X11 fl_X11_449 0 (.int (F 70)) e_X11_better_15 rfl rfl ?_
  refine g_icmp_lt cx 37 e_X11_better_18 (by decide) (fun zc17 => ?_) (fun zc17 => ?_)
  · have p18 := gn_gt 1 2147483647 (gc_lt zc17) (jv_t (F 70)) pr6 (by decide)
    have hk19 := hk16.trans (if_pos zc17)
    exact hret e_X11_better_37 (Nat.le_of_ble_eq_true rfl) (Nat.le_of_ble_eq_true rfl) ⟨F, R, rfl, hI, hA, hWT, hWC, (g_fr_rf F), (g_fr_rf R), (fun q70 => by have q0 := p18.1; have q1 := p18.2; have q2 := (jv_t (F 72)).1; have q3 := (jv_t (F 72)).2; have q4 := (jv_t a0).1; have q5 := (jv_t a0).2; have q6 := pr6.1; have q7 := pr6.2; have q8 := zx9; have q9 := (gc_lt zc17); have q10 := q70; omega), (by have q0 := p18.1; have q1 := p18.2; have q2 := (jv_t (F 72)).1; have q3 := (jv_t (F 72)).2; have q4 := (jv_t a0).1; have q5 := (jv_t a0).2; have q6 := pr6.1; have q7 := pr6.2; have q8 := zx9; have q9 := (gc_lt zc17); omega), (hk19.symm.trans hSP)⟩
  · have p20 := gn_le (-2147483648) 10 (gc_nlt zc17) (jv_t (F 70)) pr6 (by decide)
    have hk21 := hk16.trans (if_neg zc17)
    refine g_iload_n cx 1 rfl e_X11_better_21 ?_
    refine g_aload_n cx 2 rfl e_X11_better_22 ?_
    refine g_get cx cl_X11 fl_X11_449 0 (.int (F 70)) e_X11_better_23 rfl rfl ?_
    refine g_icmp_ne cx 38 e_X11_better_26 (by decide) (fun zc22 => ?_) (fun zc22 => ?_)
    · have hk23 := hk21.trans (if_neg zc22)
      refine g_aload_n cx 2 rfl e_X11_better_38 ?_
      refine g_iload_n cx 1 rfl e_X11_better_39 ?_
      refine g_put cx cl_X11 fl_X11_449 0 (wM X ad (upd F 70 r6) R) e_X11_better_40 rfl rfl rfl rfl (Nat.le_of_ble_eq_true rfl) rfl ?_
      obtain ⟨F24, hF24⟩ : ∃ z, z = upd F 70 r6 := ⟨_, rfl⟩
      rw [← hF24]
      have hk25 := k_ls hk23 hF24
      have oF24 : g_ok LK_wM F24 := by rw [hF24]; exact g_ok_u hI rfl
      have fF24 : g_fr md_X11_better F F24 := by rw [hF24]; exact g_fr_u (g_fr_rf F) rfl
      have wTF24 : WT F24 R := by rw [hF24]; exact WT_u hWT rfl
      have wCF24 : WC F24 R := by rw [hF24]; exact WC_u hWC rfl
      refine g_aload_n cx 2 rfl e_X11_better_43 ?_
      refine g_iload_n cx 0 rfl e_X11_better_44 ?_
      refine g_put cx cl_X11 fl_X11_452 0 (wM X ad (upd F24 71 r12) R) e_X11_better_45 rfl rfl rfl rfl (Nat.le_of_ble_eq_true rfl) rfl ?_
      obtain ⟨F26, hF26⟩ : ∃ z, z = upd F24 71 r12 := ⟨_, rfl⟩
      rw [← hF26]
      have hk27 := k_ls hk25 hF26
      have oF26 : g_ok LK_wM F26 := by rw [hF26]; exact g_ok_u oF24 rfl
      have fF26 : g_fr md_X11_better F F26 := by rw [hF26]; exact g_fr_u fF24 rfl
      have wTF26 : WT F26 R := by rw [hF26]; exact WT_u wTF24 rfl
      have wCF26 : WC F26 R := by rw [hF26]; exact WC_u wCF24 rfl
      refine g_aload_n cx 2 rfl e_X11_better_48 ?_
      refine g_iload_n cx 3 rfl e_X11_better_49 ?_
      refine g_put cx cl_X11 fl_X11_455 0 (wM X ad (upd F26 72 a0) R) e_X11_better_50 rfl rfl rfl rfl (Nat.le_of_ble_eq_true rfl) rfl ?_
      obtain ⟨F28, hF28⟩ : ∃ z, z = upd F26 72 a0 := ⟨_, rfl⟩
      rw [← hF28]
      have hk29 := k_ls hk27 hF28
      have oF28 : g_ok LK_wM F28 := by rw [hF28]; exact g_ok_u oF26 rfl
      have fF28 : g_fr md_X11_better F F28 := by rw [hF28]; exact g_fr_u fF26 rfl
      have wTF28 : WT F28 R := by rw [hF28]; exact WT_u wTF26 rfl
      have wCF28 : WC F28 R := by rw [hF28]; exact WC_u wCF26 rfl
      exact hret e_X11_better_53 (Nat.le_of_ble_eq_true rfl) (Nat.le_of_ble_eq_true rfl) ⟨F28, R, rfl, oF28, hA, wTF28, wCF28, fF28, (g_fr_rf R), (fun q70 => by have q0 := p20.1; have q1 := p20.2; have q2 := (jv_t (F 72)).1; have q3 := (jv_t (F 72)).2; have q4 := (jv_t (F28 70)).1; have q5 := (jv_t (F28 70)).2; have q6 := (jv_t (F28 72)).1; have q7 := (jv_t (F28 72)).2; have q8 := (jv_t a0).1; have q9 := (jv_t a0).2; have q10 := pr6.1; have q11 := pr6.2; have q12 := zx9; have q13 := (gc_nlt zc17); have q14 := (gc_ne zc22); have q15 := (congrArg Int32.toInt (show F28 72 = a0 from (g_pu1 hF28))); have q16 := (congrArg Int32.toInt (show F28 70 = r6 from (((g_pu2 hF28 rfl).trans (g_pu2 hF26 rfl)).trans (g_pu1 hF24)))); have q17 := q70; omega), (by have q0 := p20.1; have q1 := p20.2; have q2 := (jv_t (F 72)).1; have q3 := (jv_t (F 72)).2; have q4 := (jv_t (F28 70)).1; have q5 := (jv_t (F28 70)).2; have q6 := (jv_t (F28 72)).1; have q7 := (jv_t (F28 72)).2; have q8 := (jv_t a0).1; have q9 := (jv_t a0).2; have q10 := pr6.1; have q11 := pr6.2; have q12 := zx9; have q13 := (gc_nlt zc17); have q14 := (gc_ne zc22); have q15 := (congrArg Int32.toInt (show F28 72 = a0 from (g_pu1 hF28))); have q16 := (congrArg Int32.toInt (show F28 70 = r6 from (((g_pu2 hF28 rfl).trans (g_pu2 hF26 rfl)).trans (g_pu1 hF24)))); have q17 := (congrArg Int32.toInt (show F28 72 = a0 from (g_pu1 hF28))); have q18 := (congrArg Int32.toInt (show F28 70 = r6 from (((g_pu2 hF28 rfl).trans (g_pu2 hF26 rfl)).trans (g_pu1 hF24)))); omega), (hk29.symm.trans hSP)⟩
    · have p30 := gn_eq 0 10 (gc_eq zc22).symm p20 pr6 (by decide)
      have hk31 := hk21.trans (if_pos zc22)
      refine g_iload_n cx 0 rfl e_X11_better_29 ?_
      refine g_aload_n cx 2 rfl e_X11_better_30 ?_
      refine g_get cx cl_X11 fl_X11_452 0 (.int (F 71)) e_X11_better_31 rfl rfl ?_
      refine g_icmp_lt cx 38 e_X11_better_34 (by decide) (fun zc32 => ?_) (fun zc32 => ?_)
      · have p33 := gn_lt (-2147483648) 2147483646 (gc_lt zc32) pr12 (jv_t (F 71)) (by decide)
        have p34 := gn_gt (-2147483647) 2147483647 (gc_lt zc32) (jv_t (F 71)) pr12 (by decide)
        have hk35 := hk31.trans (if_pos zc32)
        refine g_aload_n cx 2 rfl e_X11_better_38 ?_
        refine g_iload_n cx 1 rfl e_X11_better_39 ?_
        refine g_put cx cl_X11 fl_X11_449 0 (wM X ad (upd F 70 r6) R) e_X11_better_40 rfl rfl rfl rfl (Nat.le_of_ble_eq_true rfl) rfl ?_
        obtain ⟨F36, hF36⟩ : ∃ z, z = upd F 70 r6 := ⟨_, rfl⟩
        rw [← hF36]
        have hk37 := k_ls hk35 hF36
        have oF36 : g_ok LK_wM F36 := by rw [hF36]; exact g_ok_u hI rfl
        have fF36 : g_fr md_X11_better F F36 := by rw [hF36]; exact g_fr_u (g_fr_rf F) rfl
        have wTF36 : WT F36 R := by rw [hF36]; exact WT_u hWT rfl
        have wCF36 : WC F36 R := by rw [hF36]; exact WC_u hWC rfl
        refine g_aload_n cx 2 rfl e_X11_better_43 ?_
        refine g_iload_n cx 0 rfl e_X11_better_44 ?_
        refine g_put cx cl_X11 fl_X11_452 0 (wM X ad (upd F36 71 r12) R) e_X11_better_45 rfl rfl rfl rfl (Nat.le_of_ble_eq_true rfl) rfl ?_
        obtain ⟨F38, hF38⟩ : ∃ z, z = upd F36 71 r12 := ⟨_, rfl⟩
        rw [← hF38]
        have hk39 := k_ls hk37 hF38
        have oF38 : g_ok LK_wM F38 := by rw [hF38]; exact g_ok_u oF36 rfl
        have fF38 : g_fr md_X11_better F F38 := by rw [hF38]; exact g_fr_u fF36 rfl
        have wTF38 : WT F38 R := by rw [hF38]; exact WT_u wTF36 rfl
        have wCF38 : WC F38 R := by rw [hF38]; exact WC_u wCF36 rfl
        refine g_aload_n cx 2 rfl e_X11_better_48 ?_
        refine g_iload_n cx 3 rfl e_X11_better_49 ?_
        refine g_put cx cl_X11 fl_X11_455 0 (wM X ad (upd F38 72 a0) R) e_X11_better_50 rfl rfl rfl rfl (Nat.le_of_ble_eq_true rfl) rfl ?_
        obtain ⟨F40, hF40⟩ : ∃ z, z = upd F38 72 a0 := ⟨_, rfl⟩
        rw [← hF40]
        have hk41 := k_ls hk39 hF40
        have oF40 : g_ok LK_wM F40 := by rw [hF40]; exact g_ok_u oF38 rfl
        have fF40 : g_fr md_X11_better F F40 := by rw [hF40]; exact g_fr_u fF38 rfl
        have wTF40 : WT F40 R := by rw [hF40]; exact WT_u wTF38 rfl
        have wCF40 : WC F40 R := by rw [hF40]; exact WC_u wCF38 rfl
        exact hret e_X11_better_53 (Nat.le_of_ble_eq_true rfl) (Nat.le_of_ble_eq_true rfl) ⟨F40, R, rfl, oF40, hA, wTF40, wCF40, fF40, (g_fr_rf R), (fun q70 => by have q0 := p30.1; have q1 := p30.2; have q2 := (jv_t (F 72)).1; have q3 := (jv_t (F 72)).2; have q4 := (jv_t (F40 70)).1; have q5 := (jv_t (F40 70)).2; have q6 := (jv_t (F40 72)).1; have q7 := (jv_t (F40 72)).2; have q8 := (jv_t a0).1; have q9 := (jv_t a0).2; have q10 := pr6.1; have q11 := pr6.2; have q12 := zx9; have q13 := (gc_nlt zc17); have q14 := (gc_eq zc22); have q15 := (congrArg Int32.toInt (show F40 72 = a0 from (g_pu1 hF40))); have q16 := (congrArg Int32.toInt (show F40 70 = r6 from (((g_pu2 hF40 rfl).trans (g_pu2 hF38 rfl)).trans (g_pu1 hF36)))); have q17 := q70; omega), (by have q0 := p30.1; have q1 := p30.2; have q2 := (jv_t (F 72)).1; have q3 := (jv_t (F 72)).2; have q4 := (jv_t (F40 70)).1; have q5 := (jv_t (F40 70)).2; have q6 := (jv_t (F40 72)).1; have q7 := (jv_t (F40 72)).2; have q8 := (jv_t a0).1; have q9 := (jv_t a0).2; have q10 := pr6.1; have q11 := pr6.2; have q12 := zx9; have q13 := (gc_nlt zc17); have q14 := (gc_eq zc22); have q15 := (congrArg Int32.toInt (show F40 72 = a0 from (g_pu1 hF40))); have q16 := (congrArg Int32.toInt (show F40 70 = r6 from (((g_pu2 hF40 rfl).trans (g_pu2 hF38 rfl)).trans (g_pu1 hF36)))); have q17 := (congrArg Int32.toInt (show F40 72 = a0 from (g_pu1 hF40))); have q18 := (congrArg Int32.toInt (show F40 70 = r6 from (((g_pu2 hF40 rfl).trans (g_pu2 hF38 rfl)).trans (g_pu1 hF36)))); omega), (hk41.symm.trans hSP)⟩
      · have hk42 := hk31.trans (if_neg zc32)
        exact hret e_X11_better_37 (Nat.le_of_ble_eq_true rfl) (Nat.le_of_ble_eq_true rfl) ⟨F, R, rfl, hI, hA, hWT, hWC, (g_fr_rf F), (g_fr_rf R), (fun q70 => by have q0 := p30.1; have q1 := p30.2; have q2 := (jv_t (F 72)).1; have q3 := (jv_t (F 72)).2; have q4 := (jv_t a0).1; have q5 := (jv_t a0).2; have q6 := pr6.1; have q7 := pr6.2; have q8 := zx9; have q9 := (gc_nlt zc17); have q10 := (gc_eq zc22); have q11 := q70; omega), (by have q0 := p30.1; have q1 := p30.2; have q2 := (jv_t (F 72)).1; have q3 := (jv_t (F 72)).2; have q4 := (jv_t a0).1; have q5 := (jv_t a0).2; have q6 := pr6.1; have q7 := pr6.2; have q8 := zx9; have q9 := (gc_nlt zc17); have q10 := (gc_eq zc22); omega), (hk42.symm.trans hSP)⟩
def KB_X11_best_47 (b47 : (Nat → Int32) → (Nat → Nat → Int32) → (Int32) → Int32 × (Nat → Int32) × (Nat → Nat → Int32)) (b17 : (Nat → Int32) → (Nat → Nat → Int32) → (Int32) → Int32 × (Nat → Int32) × (Nat → Nat → Int32)) (F : Nat → Int32) (x54 : Int32) (x58 : Int32) (y17 : Int32) (F63 : Nat → Int32) (R64 : Nat → Nat → Int32) (y62 : Int32) : Int32 × (Nat → Int32) × (Nat → Nat → Int32) :=
  if x58 ≤ y62 then k_lt (y17 / 6) (fun x69 => k_lt (x69 - x69 / 12 * 12) (fun x71 => k_lt (x71 + 1) (fun x73 => k_lt (x54 * x58) (fun x75 => k_lt ((F 1) - x75) (fun x77 => k_lt2 (sp_X11_laysPaces F63 R64 x73 x77) (fun F83 R84 => k_lt2 (sp_X11_laysThings F83 R84) (fun F91 R92 => k_lt2 (sp_X11_runs F91 R92) (fun F98 R99 => k_lt2 (sp_X11_better F98 R99 y17) (fun F107 R108 => k_lt (y17 + 1) (fun x110 => b17 F107 R108 x110)))))))))) else k_lt (g_u R64 25 (upd (R64 25) (Int32.toNatClampNeg y62) x54)) (fun R114 => k_lt ((F63 44) + 1) (fun x116 => k_lt (upd F63 44 x116) (fun F118 => k_lt (y62 + 1) (fun x120 => b47 F118 R114 x120))))
def K_X11_best_47 (b17 : (Nat → Int32) → (Nat → Nat → Int32) → (Int32) → Int32 × (Nat → Int32) × (Nat → Nat → Int32)) (F : Nat → Int32) (x54 : Int32) (x58 : Int32) (y17 : Int32) : Nat → (Nat → Int32) → (Nat → Nat → Int32) → (Int32) → Int32 × (Nat → Int32) × (Nat → Nat → Int32)
  | 0 => fun F63 R64 _ => (0, F63, R64)
  | n + 1 => KB_X11_best_47 (K_X11_best_47 b17 F x54 x58 y17 n) b17 F x54 x58 y17
def KB_X11_best_17 (b17 : (Nat → Int32) → (Nat → Nat → Int32) → (Int32) → Int32 × (Nat → Int32) × (Nat → Nat → Int32)) (F : Nat → Int32) (a0 : Int32) (F18 : Nat → Int32) (R19 : Nat → Nat → Int32) (y17 : Int32) : Int32 × (Nat → Int32) × (Nat → Nat → Int32) :=
  if 864 ≤ y17 then k_lt (a0) (fun zy23 => if zy23.toInt = 0 then k_lt ((F18 72) / 72) (fun x28 => k_lt (x28 + 1) (fun x30 => (x30, F18, R19))) else if zy23.toInt = 1 then k_lt ((F18 72) / 6) (fun x34 => k_lt (x34 - x34 / 12 * 12) (fun x36 => k_lt (x36 + 1) (fun x38 => (x38, F18, R19)))) else if zy23.toInt = 2 then k_lt ((F18 72) - (F18 72) / 6 * 6) (fun x42 => k_lt (x42 + 1) (fun x44 => (x44, F18, R19))) else if zy23.toInt = 3 then (F18 70, F18, R19) else (F18 71, F18, R19)) else k_lt (y17 / 72) (fun x52 => k_lt (x52 + 1) (fun x54 => k_lt (y17 - y17 / 6 * 6) (fun x56 => k_lt (x56 + 1) (fun x58 => k_lt (upd F18 44 0) (fun F60 => K_X11_best_47 b17 F x54 x58 y17 8589934592 F60 R19 0)))))
def K_X11_best_17 (F : Nat → Int32) (a0 : Int32) : Nat → (Nat → Int32) → (Nat → Nat → Int32) → (Int32) → Int32 × (Nat → Int32) × (Nat → Nat → Int32)
  | 0 => fun F18 R19 _ => (0, F18, R19)
  | n + 1 => KB_X11_best_17 (K_X11_best_17 F a0 n) F a0
def sp_X11_best (F : Nat → Int32) (R : Nat → Nat → Int32) (a0 : Int32) : Int32 × (Nat → Int32) × (Nat → Nat → Int32) :=
  k_lt (g_in a0 0 4) (fun r1 => if r1 = 0 then ((-1), F, R) else k_lt2 (sp_X11_forgetsBest F R) (fun F14 R15 => K_X11_best_17 F a0 8589934592 F14 R15 0))
theorem e_X11_best_0 : g_dc cX11_best 0 (.iload_n 1) 1 1 := ⟨by decide +kernel, rfl⟩
theorem e_X11_best_1 : g_dc cX11_best 1 (.iconst 0) 1 2 := ⟨by decide +kernel, rfl⟩
theorem e_X11_best_2 : g_dc cX11_best 2 (.iconst 4) 1 3 := ⟨by decide +kernel, rfl⟩
theorem e_X11_best_3 : g_dc cX11_best 3 (.invokestatic 165) 3 6 := ⟨by decide +kernel, rfl⟩
theorem e_X11_best_6 : g_dc cX11_best 6 (.ifCond .ne 5) 3 9 := ⟨by decide +kernel, rfl⟩
theorem e_X11_best_9 : g_dc cX11_best 9 (.iconst (-1)) 1 10 := ⟨by decide +kernel, rfl⟩
theorem e_X11_best_10 : g_dc cX11_best 10 (.ireturn) 1 11 := ⟨by decide +kernel, rfl⟩
theorem e_X11_best_11 : g_dc cX11_best 11 (.aload_n 0) 1 12 := ⟨by decide +kernel, rfl⟩
theorem e_X11_best_12 : g_dc cX11_best 12 (.invokevirtual 458) 3 15 := ⟨by decide +kernel, rfl⟩
theorem e_X11_best_15 : g_dc cX11_best 15 (.iconst 0) 1 16 := ⟨by decide +kernel, rfl⟩
theorem e_X11_best_16 : g_dc cX11_best 16 (.istore_n 2) 1 17 := ⟨by decide +kernel, rfl⟩
theorem e_X11_best_17 : g_dc cX11_best 17 (.iload_n 2) 1 18 := ⟨by decide +kernel, rfl⟩
theorem e_X11_best_18 : g_dc cX11_best 18 (.sipush 864) 3 21 := ⟨by decide +kernel, rfl⟩
theorem e_X11_best_21 : g_dc cX11_best 21 (.if_icmp .ge 98) 3 24 := ⟨by decide +kernel, rfl⟩
theorem e_X11_best_24 : g_dc cX11_best 24 (.iload_n 2) 1 25 := ⟨by decide +kernel, rfl⟩
theorem e_X11_best_25 : g_dc cX11_best 25 (.bipush 72) 2 27 := ⟨by decide +kernel, rfl⟩
theorem e_X11_best_27 : g_dc cX11_best 27 (.idiv) 1 28 := ⟨by decide +kernel, rfl⟩
theorem e_X11_best_28 : g_dc cX11_best 28 (.iconst 1) 1 29 := ⟨by decide +kernel, rfl⟩
theorem e_X11_best_29 : g_dc cX11_best 29 (.iadd) 1 30 := ⟨by decide +kernel, rfl⟩
theorem e_X11_best_30 : g_dc cX11_best 30 (.istore_n 3) 1 31 := ⟨by decide +kernel, rfl⟩
theorem e_X11_best_31 : g_dc cX11_best 31 (.iload_n 2) 1 32 := ⟨by decide +kernel, rfl⟩
theorem e_X11_best_32 : g_dc cX11_best 32 (.bipush 6) 2 34 := ⟨by decide +kernel, rfl⟩
theorem e_X11_best_34 : g_dc cX11_best 34 (.irem) 1 35 := ⟨by decide +kernel, rfl⟩
theorem e_X11_best_35 : g_dc cX11_best 35 (.iconst 1) 1 36 := ⟨by decide +kernel, rfl⟩
theorem e_X11_best_36 : g_dc cX11_best 36 (.iadd) 1 37 := ⟨by decide +kernel, rfl⟩
theorem e_X11_best_37 : g_dc cX11_best 37 (.istore 4) 2 39 := ⟨by decide +kernel, rfl⟩
theorem e_X11_best_39 : g_dc cX11_best 39 (.aload_n 0) 1 40 := ⟨by decide +kernel, rfl⟩
theorem e_X11_best_40 : g_dc cX11_best 40 (.iconst 0) 1 41 := ⟨by decide +kernel, rfl⟩
theorem e_X11_best_41 : g_dc cX11_best 41 (.putfield 309) 3 44 := ⟨by decide +kernel, rfl⟩
theorem e_X11_best_44 : g_dc cX11_best 44 (.iconst 0) 1 45 := ⟨by decide +kernel, rfl⟩
theorem e_X11_best_45 : g_dc cX11_best 45 (.istore 5) 2 47 := ⟨by decide +kernel, rfl⟩
theorem e_X11_best_47 : g_dc cX11_best 47 (.iload 5) 2 49 := ⟨by decide +kernel, rfl⟩
theorem e_X11_best_49 : g_dc cX11_best 49 (.iload 4) 2 51 := ⟨by decide +kernel, rfl⟩
theorem e_X11_best_51 : g_dc cX11_best 51 (.if_icmp .ge 27) 3 54 := ⟨by decide +kernel, rfl⟩
theorem e_X11_best_54 : g_dc cX11_best 54 (.aload_n 0) 1 55 := ⟨by decide +kernel, rfl⟩
theorem e_X11_best_55 : g_dc cX11_best 55 (.getfield 83) 3 58 := ⟨by decide +kernel, rfl⟩
theorem e_X11_best_58 : g_dc cX11_best 58 (.iload 5) 2 60 := ⟨by decide +kernel, rfl⟩
theorem e_X11_best_60 : g_dc cX11_best 60 (.iload_n 3) 1 61 := ⟨by decide +kernel, rfl⟩
theorem e_X11_best_61 : g_dc cX11_best 61 (.iastore) 1 62 := ⟨by decide +kernel, rfl⟩
theorem e_X11_best_62 : g_dc cX11_best 62 (.aload_n 0) 1 63 := ⟨by decide +kernel, rfl⟩
theorem e_X11_best_63 : g_dc cX11_best 63 (.aload_n 0) 1 64 := ⟨by decide +kernel, rfl⟩
theorem e_X11_best_64 : g_dc cX11_best 64 (.getfield 309) 3 67 := ⟨by decide +kernel, rfl⟩
theorem e_X11_best_67 : g_dc cX11_best 67 (.iconst 1) 1 68 := ⟨by decide +kernel, rfl⟩
theorem e_X11_best_68 : g_dc cX11_best 68 (.iadd) 1 69 := ⟨by decide +kernel, rfl⟩
theorem e_X11_best_69 : g_dc cX11_best 69 (.putfield 309) 3 72 := ⟨by decide +kernel, rfl⟩
theorem e_X11_best_72 : g_dc cX11_best 72 (.iinc 5 1) 3 75 := ⟨by decide +kernel, rfl⟩
theorem e_X11_best_75 : g_dc cX11_best 75 (.goto (-28)) 3 78 := ⟨by decide +kernel, rfl⟩
theorem e_X11_best_78 : g_dc cX11_best 78 (.aload_n 0) 1 79 := ⟨by decide +kernel, rfl⟩
theorem e_X11_best_79 : g_dc cX11_best 79 (.iload_n 2) 1 80 := ⟨by decide +kernel, rfl⟩
theorem e_X11_best_80 : g_dc cX11_best 80 (.bipush 6) 2 82 := ⟨by decide +kernel, rfl⟩
theorem e_X11_best_82 : g_dc cX11_best 82 (.idiv) 1 83 := ⟨by decide +kernel, rfl⟩
theorem e_X11_best_83 : g_dc cX11_best 83 (.bipush 12) 2 85 := ⟨by decide +kernel, rfl⟩
theorem e_X11_best_85 : g_dc cX11_best 85 (.irem) 1 86 := ⟨by decide +kernel, rfl⟩
theorem e_X11_best_86 : g_dc cX11_best 86 (.iconst 1) 1 87 := ⟨by decide +kernel, rfl⟩
theorem e_X11_best_87 : g_dc cX11_best 87 (.iadd) 1 88 := ⟨by decide +kernel, rfl⟩
theorem e_X11_best_88 : g_dc cX11_best 88 (.aload_n 0) 1 89 := ⟨by decide +kernel, rfl⟩
theorem e_X11_best_89 : g_dc cX11_best 89 (.getfield 159) 3 92 := ⟨by decide +kernel, rfl⟩
theorem e_X11_best_92 : g_dc cX11_best 92 (.iload_n 3) 1 93 := ⟨by decide +kernel, rfl⟩
theorem e_X11_best_93 : g_dc cX11_best 93 (.iload 4) 2 95 := ⟨by decide +kernel, rfl⟩
theorem e_X11_best_95 : g_dc cX11_best 95 (.imul) 1 96 := ⟨by decide +kernel, rfl⟩
theorem e_X11_best_96 : g_dc cX11_best 96 (.isub) 1 97 := ⟨by decide +kernel, rfl⟩
theorem e_X11_best_97 : g_dc cX11_best 97 (.invokevirtual 443) 3 100 := ⟨by decide +kernel, rfl⟩
theorem e_X11_best_100 : g_dc cX11_best 100 (.aload_n 0) 1 101 := ⟨by decide +kernel, rfl⟩
theorem e_X11_best_101 : g_dc cX11_best 101 (.invokevirtual 425) 3 104 := ⟨by decide +kernel, rfl⟩
theorem e_X11_best_104 : g_dc cX11_best 104 (.aload_n 0) 1 105 := ⟨by decide +kernel, rfl⟩
theorem e_X11_best_105 : g_dc cX11_best 105 (.invokevirtual 428) 3 108 := ⟨by decide +kernel, rfl⟩
theorem e_X11_best_108 : g_dc cX11_best 108 (.aload_n 0) 1 109 := ⟨by decide +kernel, rfl⟩
theorem e_X11_best_109 : g_dc cX11_best 109 (.iload_n 2) 1 110 := ⟨by decide +kernel, rfl⟩
theorem e_X11_best_110 : g_dc cX11_best 110 (.invokevirtual 461) 3 113 := ⟨by decide +kernel, rfl⟩
theorem e_X11_best_113 : g_dc cX11_best 113 (.iinc 2 1) 3 116 := ⟨by decide +kernel, rfl⟩
theorem e_X11_best_116 : g_dc cX11_best 116 (.goto (-99)) 3 119 := ⟨by decide +kernel, rfl⟩
theorem e_X11_best_119 : g_dc cX11_best 119 (.iload_n 1) 1 120 := ⟨by decide +kernel, rfl⟩
theorem e_X11_best_120 : g_dc cX11_best 120 (.tableswitch 70 0 3 #[32, 42, 55, 65]) 32 152 := ⟨by decide +kernel, rfl⟩
theorem e_X11_best_152 : g_dc cX11_best 152 (.aload_n 0) 1 153 := ⟨by decide +kernel, rfl⟩
theorem e_X11_best_153 : g_dc cX11_best 153 (.getfield 455) 3 156 := ⟨by decide +kernel, rfl⟩
theorem e_X11_best_156 : g_dc cX11_best 156 (.bipush 72) 2 158 := ⟨by decide +kernel, rfl⟩
theorem e_X11_best_158 : g_dc cX11_best 158 (.idiv) 1 159 := ⟨by decide +kernel, rfl⟩
theorem e_X11_best_159 : g_dc cX11_best 159 (.iconst 1) 1 160 := ⟨by decide +kernel, rfl⟩
theorem e_X11_best_160 : g_dc cX11_best 160 (.iadd) 1 161 := ⟨by decide +kernel, rfl⟩
theorem e_X11_best_161 : g_dc cX11_best 161 (.ireturn) 1 162 := ⟨by decide +kernel, rfl⟩
theorem e_X11_best_162 : g_dc cX11_best 162 (.aload_n 0) 1 163 := ⟨by decide +kernel, rfl⟩
theorem e_X11_best_163 : g_dc cX11_best 163 (.getfield 455) 3 166 := ⟨by decide +kernel, rfl⟩
theorem e_X11_best_166 : g_dc cX11_best 166 (.bipush 6) 2 168 := ⟨by decide +kernel, rfl⟩
theorem e_X11_best_168 : g_dc cX11_best 168 (.idiv) 1 169 := ⟨by decide +kernel, rfl⟩
theorem e_X11_best_169 : g_dc cX11_best 169 (.bipush 12) 2 171 := ⟨by decide +kernel, rfl⟩
theorem e_X11_best_171 : g_dc cX11_best 171 (.irem) 1 172 := ⟨by decide +kernel, rfl⟩
theorem e_X11_best_172 : g_dc cX11_best 172 (.iconst 1) 1 173 := ⟨by decide +kernel, rfl⟩
theorem e_X11_best_173 : g_dc cX11_best 173 (.iadd) 1 174 := ⟨by decide +kernel, rfl⟩
theorem e_X11_best_174 : g_dc cX11_best 174 (.ireturn) 1 175 := ⟨by decide +kernel, rfl⟩
theorem e_X11_best_175 : g_dc cX11_best 175 (.aload_n 0) 1 176 := ⟨by decide +kernel, rfl⟩
theorem e_X11_best_176 : g_dc cX11_best 176 (.getfield 455) 3 179 := ⟨by decide +kernel, rfl⟩
theorem e_X11_best_179 : g_dc cX11_best 179 (.bipush 6) 2 181 := ⟨by decide +kernel, rfl⟩
theorem e_X11_best_181 : g_dc cX11_best 181 (.irem) 1 182 := ⟨by decide +kernel, rfl⟩
theorem e_X11_best_182 : g_dc cX11_best 182 (.iconst 1) 1 183 := ⟨by decide +kernel, rfl⟩
theorem e_X11_best_183 : g_dc cX11_best 183 (.iadd) 1 184 := ⟨by decide +kernel, rfl⟩
theorem e_X11_best_184 : g_dc cX11_best 184 (.ireturn) 1 185 := ⟨by decide +kernel, rfl⟩
theorem e_X11_best_185 : g_dc cX11_best 185 (.aload_n 0) 1 186 := ⟨by decide +kernel, rfl⟩
theorem e_X11_best_186 : g_dc cX11_best 186 (.getfield 449) 3 189 := ⟨by decide +kernel, rfl⟩
theorem e_X11_best_189 : g_dc cX11_best 189 (.ireturn) 1 190 := ⟨by decide +kernel, rfl⟩
theorem e_X11_best_190 : g_dc cX11_best 190 (.aload_n 0) 1 191 := ⟨by decide +kernel, rfl⟩
theorem e_X11_best_191 : g_dc cX11_best 191 (.getfield 452) 3 194 := ⟨by decide +kernel, rfl⟩
theorem e_X11_best_194 : g_dc cX11_best 194 (.ireturn) 1 195 := ⟨by decide +kernel, rfl⟩
def md_X11_best : List Nat := [3, 42, 43, 44, 45, 46, 47, 48, 49, 50, 51, 65, 66, 67, 68, 69, 70, 71, 72]
def mr_X11_best : List Nat := [23, 24, 25, 26, 27, 28, 29, 30, 31, 32, 33, 34, 35, 36, 37]
set_option maxHeartbeats 4000000 in
set_option maxRecDepth 100000 in
theorem w_X11_best (l : Launch) (X : gX) (ad : Nat → Nat) (F : Nat → Int32) (R : Nat → Nat → Int32) (hI : g_ok LK_wM F) (hA : g_okR LA_wM R) (hWT : WT F R) (hWC : WC F R) (a0 : Int32) : g_Ci l X yX11_best cX11_best 6 (some .int) 7 0 0 [.ref (ad 0), .int a0] (wM X ad F R) (fun r w => ∃ (F' : Nat → Int32) (R' : Nat → Nat → Int32), w = wM X ad F' R' ∧ g_ok LK_wM F' ∧ g_okR LA_wM R' ∧ WT F' R' ∧ WC F' R' ∧ g_fr md_X11_best F F' ∧ g_fr mr_X11_best R R' ∧ jv (-2147483648) 2147483647 r ∧ (r, F', R') = sp_X11_best F R a0) := by
  refine g_mi (by decide +kernel) (Nat.le_of_ble_eq_true rfl) (fun E cx hret => ?_)
  obtain ⟨SP, hSP⟩ : ∃ z, z = sp_X11_best F R a0 := ⟨_, rfl⟩
  have hk0 := hSP
  unfold sp_X11_best at hk0
  refine g_iload_n cx 1 rfl e_X11_best_0 ?_
  refine g_iconst cx 0 (by decide) e_X11_best_1 ?_
  refine g_iconst cx 4 (by decide) e_X11_best_2 ?_
  refine g_cSiW cx [.int a0, .int 0, .int 4] [] (c_X11_in l X (wM X ad F R) a0 0 4) ml_X11_165 yS_X11_in rfl e_X11_best_3 (by unfold g_rr; decide) (by decide) rfl (Nat.le_of_ble_eq_true rfl) (fun r1 w2 h3 => ?_)
  obtain ⟨rfl, hr1⟩ := h3
  have pr1 : jv 0 1 r1 := by rw [hr1]; exact gi_01 _ _ _
  have hk4 := k_ls hk0 hr1
  refine g_if_ne cx 11 e_X11_best_6 (by decide) (fun zc5 => ?_) (fun zc5 => ?_)
  · have p6 := gn_neL 1 1 (gc_ne zc5) pr1 (jv_k (x := 0) 0 (by decide)) (by decide)
    have p7 := jv_i 0 4 (jv_t a0) (gi_in (A := 0) (B := 4) hr1 zc5 (by decide) (by decide)) (by decide)
    have hk8 := hk4.trans (if_neg zc5)
    refine g_aload_n cx 0 rfl e_X11_best_11 ?_
    refine g_cVvW cx [] [] (w_X11_forgetsBest l X ad F R hI hA hWT hWC) ml_X11_458 yV_X11_forgetsBest e_X11_best_12 (by unfold g_rr; decide) (by decide) 0 rfl rfl rfl (Nat.le_of_ble_eq_true rfl) (fun w10 h11 => ?_)
    obtain ⟨F14, R15, rfl, oF14, oR15, wTF14, wCF14, cF14, cR15, zx12, hx13⟩ := h11
    have hk16 := k_ls2 hk8 hx13
    have fF14 : g_fr md_X11_best F F14 := g_fr_c (g_fr_rf F) cF14 rfl
    have fR15 : g_fr mr_X11_best R R15 := g_fr_c (g_fr_rf R) cR15 rfl
    refine g_iconst cx 0 (by decide) e_X11_best_15 ?_
    refine g_istore_n cx [(2, .int 0), (0, .ref (ad 0)), (1, .int a0)] e_X11_best_16 (by decide) rfl ?_
    have J17 : ∀ (N : Nat) (F18 : Nat → Int32) (R19 : Nat → Nat → Int32) (y17 : Int32), (g_ok LK_wM F18) → (g_fr md_X11_best F F18) → (g_okR LA_wM R19) → (g_fr mr_X11_best R R19) → (WT F18 R19) → (WC F18 R19) → (jv 0 864 y17) → (SP = K_X11_best_17 F a0 N F18 R19 y17) → (2147483647 - y17.toInt).toNat < N → G X E 6 0 0 (wM X ad F18 R19) [(0, .ref (ad 0)), (1, .int a0), (2, .int y17)] 17 [] := by
      intro N
      induction N with
      | zero => intro F18 R19 y17 oF18 fF18 oR19 fR19 wTF18R19 wCF18R19 py17 hkJ17 hm; exact absurd hm (Nat.not_lt_zero _)
      | succ N ih17 =>
        intro F18 R19 y17 oF18 fF18 oR19 fR19 wTF18R19 wCF18R19 py17 hkJ17 hm17
        have hkK17 : SP = KB_X11_best_17 (K_X11_best_17 F a0 N) F a0 F18 R19 y17 := hkJ17
        obtain ⟨b17, hb17⟩ : ∃ z, z = K_X11_best_17 F a0 N := ⟨_, rfl⟩
        rw [← hb17] at hkK17
        unfold KB_X11_best_17 at hkK17
        refine g_iload_n cx 2 rfl e_X11_best_17 ?_
        refine g_sipush cx 864 (by decide) e_X11_best_18 ?_
        refine g_icmp_ge cx 119 e_X11_best_21 (by decide) (fun zc20 => ?_) (fun zc20 => ?_)
        · have p21 := gn_ge 864 864 (gc_le zc20) py17 (jv_k (x := 864) 864 (by decide)) (by decide)
          have hk22 := hkK17.trans (if_pos zc20)
          refine g_iload_n cx 1 rfl e_X11_best_119 ?_
          refine g_topi (fun zy23 ezy23 => ?_)
          have hk24 := k_ls hk22 ezy23
          rcases g_sw 0 3 zy23 with ⟨zw25n, zw25h, zw25e⟩ | zw25
          · have zw25d : zw25n = 0 ∨ zw25n = 1 ∨ zw25n = 2 ∨ zw25n = 3 := by omega
            rcases zw25d with rfl | rfl | rfl | rfl
            · refine g_tableIn cx 152 e_X11_best_120 (by rw [zw25e]; decide) (by rw [zw25e]; decide) (by rw [zw25e]; rfl) (by decide) ?_
              have p26 : jv 0 0 a0 := by rw [← ezy23]; exact jv_k 0 (by rw [zw25e]; rfl)
              have hk27 := (hk24.trans (if_pos (by rw [zw25e]; decide)))
              refine g_aload_n cx 0 rfl e_X11_best_152 ?_
              refine g_get cx cl_X11 fl_X11_455 0 (.int (F18 72)) e_X11_best_153 rfl rfl ?_
              refine g_bipush cx 72 (by decide) e_X11_best_156 ?_
              refine g_idiv cx (by decide) e_X11_best_158 ?_
              refine g_topi (fun x28 ex28 => ?_)
              have hk29 := k_ls hk27 ex28
              refine g_iconst cx 1 (by decide) e_X11_best_159 ?_
              refine g_iadd cx e_X11_best_160 ?_
              refine g_topi (fun x30 ex30 => ?_)
              have hk31 := k_ls hk29 ex30
              exact hret e_X11_best_161 (Nat.le_of_ble_eq_true rfl) (Nat.le_of_ble_eq_true rfl) rfl ⟨F18, R19, rfl, oF18, oR19, wTF18R19, wCF18R19, fF18, fR19, (jv_t x30), (hk31.symm.trans hSP)⟩
            · refine g_tableIn cx 162 e_X11_best_120 (by rw [zw25e]; decide) (by rw [zw25e]; decide) (by rw [zw25e]; rfl) (by decide) ?_
              have p32 : jv 1 1 a0 := by rw [← ezy23]; exact jv_k 1 (by rw [zw25e]; rfl)
              have hk33 := ((hk24.trans (if_neg (by rw [zw25e]; decide))).trans (if_pos (by rw [zw25e]; decide)))
              refine g_aload_n cx 0 rfl e_X11_best_162 ?_
              refine g_get cx cl_X11 fl_X11_455 0 (.int (F18 72)) e_X11_best_163 rfl rfl ?_
              refine g_bipush cx 6 (by decide) e_X11_best_166 ?_
              refine g_idiv cx (by decide) e_X11_best_168 ?_
              refine g_topi (fun x34 ex34 => ?_)
              have hk35 := k_ls hk33 ex34
              refine g_bipush cx 12 (by decide) e_X11_best_169 ?_
              refine g_irem cx (by decide) e_X11_best_171 ?_
              refine g_topi (fun x36 ex36 => ?_)
              have hk37 := k_ls hk35 ex36
              refine g_iconst cx 1 (by decide) e_X11_best_172 ?_
              refine g_iadd cx e_X11_best_173 ?_
              refine g_topi (fun x38 ex38 => ?_)
              have hk39 := k_ls hk37 ex38
              exact hret e_X11_best_174 (Nat.le_of_ble_eq_true rfl) (Nat.le_of_ble_eq_true rfl) rfl ⟨F18, R19, rfl, oF18, oR19, wTF18R19, wCF18R19, fF18, fR19, (jv_t x38), (hk39.symm.trans hSP)⟩
            · refine g_tableIn cx 175 e_X11_best_120 (by rw [zw25e]; decide) (by rw [zw25e]; decide) (by rw [zw25e]; rfl) (by decide) ?_
              have p40 : jv 2 2 a0 := by rw [← ezy23]; exact jv_k 2 (by rw [zw25e]; rfl)
              have hk41 := (((hk24.trans (if_neg (by rw [zw25e]; decide))).trans (if_neg (by rw [zw25e]; decide))).trans (if_pos (by rw [zw25e]; decide)))
              refine g_aload_n cx 0 rfl e_X11_best_175 ?_
              refine g_get cx cl_X11 fl_X11_455 0 (.int (F18 72)) e_X11_best_176 rfl rfl ?_
              refine g_bipush cx 6 (by decide) e_X11_best_179 ?_
              refine g_irem cx (by decide) e_X11_best_181 ?_
              refine g_topi (fun x42 ex42 => ?_)
              have hk43 := k_ls hk41 ex42
              refine g_iconst cx 1 (by decide) e_X11_best_182 ?_
              refine g_iadd cx e_X11_best_183 ?_
              refine g_topi (fun x44 ex44 => ?_)
              have hk45 := k_ls hk43 ex44
              exact hret e_X11_best_184 (Nat.le_of_ble_eq_true rfl) (Nat.le_of_ble_eq_true rfl) rfl ⟨F18, R19, rfl, oF18, oR19, wTF18R19, wCF18R19, fF18, fR19, (jv_t x44), (hk45.symm.trans hSP)⟩
            · refine g_tableIn cx 185 e_X11_best_120 (by rw [zw25e]; decide) (by rw [zw25e]; decide) (by rw [zw25e]; rfl) (by decide) ?_
              have p46 : jv 3 3 a0 := by rw [← ezy23]; exact jv_k 3 (by rw [zw25e]; rfl)
              have hk47 := ((((hk24.trans (if_neg (by rw [zw25e]; decide))).trans (if_neg (by rw [zw25e]; decide))).trans (if_neg (by rw [zw25e]; decide))).trans (if_pos (by rw [zw25e]; decide)))
              refine g_aload_n cx 0 rfl e_X11_best_185 ?_
              refine g_get cx cl_X11 fl_X11_449 0 (.int (F18 70)) e_X11_best_186 rfl rfl ?_
              exact hret e_X11_best_189 (Nat.le_of_ble_eq_true rfl) (Nat.le_of_ble_eq_true rfl) rfl ⟨F18, R19, rfl, oF18, oR19, wTF18R19, wCF18R19, fF18, fR19, (jv_t (F18 70)), (hk47.symm.trans hSP)⟩
          · refine g_tableOut cx 190 e_X11_best_120 zw25 (by decide) ?_
            have p48 := jv_so 4 4 zw25 p7 ezy23 (by decide)
            have hk49 := ((((hk24.trans (if_neg (by omega))).trans (if_neg (by omega))).trans (if_neg (by omega))).trans (if_neg (by omega)))
            refine g_aload_n cx 0 rfl e_X11_best_190 ?_
            refine g_get cx cl_X11 fl_X11_452 0 (.int (F18 71)) e_X11_best_191 rfl rfl ?_
            exact hret e_X11_best_194 (Nat.le_of_ble_eq_true rfl) (Nat.le_of_ble_eq_true rfl) rfl ⟨F18, R19, rfl, oF18, oR19, wTF18R19, wCF18R19, fF18, fR19, (jv_t (F18 71)), (hk49.symm.trans hSP)⟩
        · have p50 := gn_lt 0 863 (gc_nle zc20) py17 (jv_k (x := 864) 864 (by decide)) (by decide)
          have hk51 := hkK17.trans (if_neg zc20)
          refine g_iload_n cx 2 rfl e_X11_best_24 ?_
          refine g_bipush cx 72 (by decide) e_X11_best_25 ?_
          refine g_idiv cx (by decide) e_X11_best_27 ?_
          refine g_topi (fun x52 ex52 => ?_)
          have hk53 := k_ls hk51 ex52
          have zx52 := jv_div 0 11 ex52 p50 (jv_k (x := 72) 72 (by decide)) (by decide)
          refine g_iconst cx 1 (by decide) e_X11_best_28 ?_
          refine g_iadd cx e_X11_best_29 ?_
          refine g_topi (fun x54 ex54 => ?_)
          have hk55 := k_ls hk53 ex54
          have zx54 := jv_add 1 12 ex54 zx52.2 (jv_k (x := 1) 1 (by decide)) (by decide)
          refine g_istore_n cx [(3, .int x54), (0, .ref (ad 0)), (1, .int a0), (2, .int y17)] e_X11_best_30 (by decide) rfl ?_
          refine g_iload_n cx 3 rfl e_X11_best_31 ?_
          refine g_bipush cx 6 (by decide) e_X11_best_32 ?_
          refine g_irem cx (by decide) e_X11_best_34 ?_
          refine g_topi (fun x56 ex56 => ?_)
          have hk57 := k_ls hk55 ex56
          have zx56 := jv_rem 0 5 ex56 p50 (jv_k (x := 6) 6 (by decide)) (by decide)
          refine g_iconst cx 1 (by decide) e_X11_best_35 ?_
          refine g_iadd cx e_X11_best_36 ?_
          refine g_topi (fun x58 ex58 => ?_)
          have hk59 := k_ls hk57 ex58
          have zx58 := jv_add 1 6 ex58 zx56.2 (jv_k (x := 1) 1 (by decide)) (by decide)
          refine g_istore cx [(4, .int x58), (3, .int x54), (0, .ref (ad 0)), (1, .int a0), (2, .int y17)] e_X11_best_37 (by decide) rfl ?_
          refine g_aload_n cx 2 rfl e_X11_best_39 ?_
          refine g_iconst cx 0 (by decide) e_X11_best_40 ?_
          refine g_put cx cl_X11 fl_X11_309 0 (wM X ad (upd F18 44 0) R19) e_X11_best_41 rfl rfl rfl rfl (Nat.le_of_ble_eq_true rfl) rfl ?_
          obtain ⟨F60, hF60⟩ : ∃ z, z = upd F18 44 0 := ⟨_, rfl⟩
          rw [← hF60]
          have hk61 := k_ls hk59 hF60
          have oF60 : g_ok LK_wM F60 := by rw [hF60]; exact g_ok_p oF18 (jv_k (x := 0) 0 (by decide)) rfl
          have fF60 : g_fr md_X11_best F F60 := by rw [hF60]; exact g_fr_u fF18 rfl
          have wTF60 : WT F60 R19 := by rw [hF60]; exact WT_u wTF18R19 rfl
          have wCF60 : WC F60 R19 := by rw [hF60]; exact WC_u wCF18R19 rfl
          refine g_iconst cx 0 (by decide) e_X11_best_44 ?_
          refine g_istore cx [(5, .int 0), (4, .int x58), (3, .int x54), (0, .ref (ad 0)), (1, .int a0), (2, .int y17)] e_X11_best_45 (by decide) rfl ?_
          have J47 : ∀ (N : Nat) (F63 : Nat → Int32) (R64 : Nat → Nat → Int32) (y62 : Int32), (g_ok LK_wM F63) → (g_fr md_X11_best F F63) → (g_okR LA_wM R64) → (g_fr mr_X11_best R R64) → (WT F63 R64) → (WC F63 R64) → (jv 0 6 y62) → ((F63 44).toInt = (y62 : Int32).toInt) → (SP = K_X11_best_47 b17 F x54 x58 y17 N F63 R64 y62) → (2147483647 - y62.toInt).toNat < N → G X E 6 0 0 (wM X ad F63 R64) [(0, .ref (ad 0)), (1, .int a0), (2, .int y17), (3, .int x54), (4, .int x58), (5, .int y62)] 47 [] := by
            intro N
            induction N with
            | zero => intro F63 R64 y62 oF63 fF63 oR64 fR64 wTF63R64 wCF63R64 py62 zi47_0 hkJ47 hm; exact absurd hm (Nat.not_lt_zero _)
            | succ N ih47 =>
              intro F63 R64 y62 oF63 fF63 oR64 fR64 wTF63R64 wCF63R64 py62 zi47_0 hkJ47 hm47
              have hkK47 : SP = KB_X11_best_47 (K_X11_best_47 b17 F x54 x58 y17 N) b17 F x54 x58 y17 F63 R64 y62 := hkJ47
              obtain ⟨b47, hb47⟩ : ∃ z, z = K_X11_best_47 b17 F x54 x58 y17 N := ⟨_, rfl⟩
              rw [← hb47] at hkK47
              unfold KB_X11_best_47 at hkK47
              have p65 : jv 0 6 (F63 44) := ⟨by have q0 := (g_ok_g oF63 11 rfl).1; have q1 := (g_ok_g oF63 11 rfl).2; have q2 := py62.1; have q3 := py62.2; have q4 := zi47_0; omega, by have q0 := (g_ok_g oF63 11 rfl).1; have q1 := (g_ok_g oF63 11 rfl).2; have q2 := py62.1; have q3 := py62.2; have q4 := zi47_0; omega⟩
              refine g_iload cx 5 rfl e_X11_best_47 ?_
              refine g_iload cx 4 rfl e_X11_best_49 ?_
              refine g_icmp_ge cx 78 e_X11_best_51 (by decide) (fun zc66 => ?_) (fun zc66 => ?_)
              · have p67 := gn_ge 1 6 (gc_le zc66) py62 zx58.2 (by decide)
                have hk68 := hkK47.trans (if_pos zc66)
                refine g_aload_n cx 0 rfl e_X11_best_78 ?_
                refine g_iload_n cx 2 rfl e_X11_best_79 ?_
                refine g_bipush cx 6 (by decide) e_X11_best_80 ?_
                refine g_idiv cx (by decide) e_X11_best_82 ?_
                refine g_topi (fun x69 ex69 => ?_)
                have hk70 := k_ls hk68 ex69
                have zx69 := jv_div 0 143 ex69 p50 (jv_k (x := 6) 6 (by decide)) (by decide)
                refine g_bipush cx 12 (by decide) e_X11_best_83 ?_
                refine g_irem cx (by decide) e_X11_best_85 ?_
                refine g_topi (fun x71 ex71 => ?_)
                have hk72 := k_ls hk70 ex71
                have zx71 := jv_rem 0 11 ex71 zx69.2 (jv_k (x := 12) 12 (by decide)) (by decide)
                refine g_iconst cx 1 (by decide) e_X11_best_86 ?_
                refine g_iadd cx e_X11_best_87 ?_
                refine g_topi (fun x73 ex73 => ?_)
                have hk74 := k_ls hk72 ex73
                have zx73 := jv_add 1 12 ex73 zx71.2 (jv_k (x := 1) 1 (by decide)) (by decide)
                refine g_aload_n cx 0 rfl e_X11_best_88 ?_
                refine g_get cx cl_X11 fl_X11_159 0 (.int (F63 1)) e_X11_best_89 rfl rfl ?_
                refine g_toi (F 1) (fF63 1 rfl) ?_
                refine g_iload_n cx 3 rfl e_X11_best_92 ?_
                refine g_iload cx 4 rfl e_X11_best_93 ?_
                refine g_imul cx e_X11_best_95 ?_
                refine g_topi (fun x75 ex75 => ?_)
                have hk76 := k_ls hk74 ex75
                have zx75 := jv_mul 1 72 ex75 zx54.2 zx58.2 (by decide)
                refine g_isub cx e_X11_best_96 ?_
                refine g_topi (fun x77 ex77 => ?_)
                have hk78 := k_ls hk76 ex77
                refine g_cVvW cx [.int x73, .int x77] [] (w_X11_laysPaces l X ad F63 R64 oF63 oR64 wTF63R64 wCF63R64 x73 x77) ml_X11_443 yV_X11_laysPaces e_X11_best_97 (by unfold g_rr; decide) (by decide) 0 rfl rfl rfl (Nat.le_of_ble_eq_true rfl) (fun w80 h81 => ?_)
                obtain ⟨F83, R84, rfl, oF83, oR84, wTF83, wCF83, cF83, cR84, hx82⟩ := h81
                have hk85 := k_ls2 hk78 hx82
                have fF83 : g_fr md_X11_best F F83 := g_fr_c fF63 cF83 rfl
                have fR84 : g_fr mr_X11_best R R84 := g_fr_c fR64 cR84 rfl
                refine g_aload_n cx 0 rfl e_X11_best_100 ?_
                refine g_cVvW cx [] [] (w_X11_laysThings l X ad F83 R84 oF83 oR84 wTF83 wCF83) ml_X11_425 yV_X11_laysThings e_X11_best_101 (by unfold g_rr; decide) (by decide) 0 rfl rfl rfl (Nat.le_of_ble_eq_true rfl) (fun w87 h88 => ?_)
                obtain ⟨F91, R92, rfl, oF91, oR92, wTF91, wCF91, cF91, cR92, zx89, hx90⟩ := h88
                have hk93 := k_ls2 hk85 hx90
                have fF91 : g_fr md_X11_best F F91 := g_fr_c fF83 cF91 rfl
                have fR92 : g_fr mr_X11_best R R92 := g_fr_c fR84 cR92 rfl
                refine g_aload_n cx 0 rfl e_X11_best_104 ?_
                refine g_cVvW cx [] [] (w_X11_runs l X ad F91 R92 oF91 oR92 wTF91 wCF91 (WN_of wTF91 ((zx89.trans (((cF91 4 rfl).trans (cF83 4 rfl)).trans (fF63 4 rfl))).trans (((cF91 4 rfl).trans (cF83 4 rfl)).trans (fF63 4 rfl)).symm))) ml_X11_428 yV_X11_runs e_X11_best_105 (by unfold g_rr; decide) (by decide) 0 rfl rfl rfl (Nat.le_of_ble_eq_true rfl) (fun w95 h96 => ?_)
                obtain ⟨F98, R99, rfl, oF98, oR99, wTF98, wCF98, cF98, cR99, hx97⟩ := h96
                have hk100 := k_ls2 hk93 hx97
                have fF98 : g_fr md_X11_best F F98 := g_fr_c fF91 cF98 rfl
                have fR99 : g_fr mr_X11_best R R99 := g_fr_c fR92 cR99 rfl
                refine g_aload_n cx 0 rfl e_X11_best_108 ?_
                refine g_iload_n cx 2 rfl e_X11_best_109 ?_
                refine g_cVvW cx [.int y17] [] (w_X11_better l X ad F98 R99 oF98 oR99 wTF98 wCF98 y17) ml_X11_461 yV_X11_better e_X11_best_110 (by unfold g_rr; decide) (by decide) 0 rfl rfl rfl (Nat.le_of_ble_eq_true rfl) (fun w102 h103 => ?_)
                obtain ⟨F107, R108, rfl, oF107, oR108, wTF107, wCF107, cF107, cR108, zx104, zx105, hx106⟩ := h103
                have hk109 := k_ls2 hk100 hx106
                have fF107 : g_fr md_X11_best F F107 := g_fr_c fF98 cF107 rfl
                have fR108 : g_fr mr_X11_best R R108 := g_fr_c fR99 cR108 rfl
                obtain ⟨x110, ex110⟩ : ∃ z : Int32, z = y17 + Int32.ofInt 1 := ⟨_, rfl⟩
                have hk111 := k_ls hk109 (show x110 = y17 + 1 from ex110)
                refine g_iinc cx x110 [(2, .int x110), (0, .ref (ad 0)), (1, .int a0), (3, .int x54), (4, .int x58), (5, .int y62)] 2 e_X11_best_113 rfl ex110.symm (by decide) rfl ?_
                have zx110 := jv_add 1 864 (show x110 = y17 + 1 from ex110) p50 (jv_k (x := 1) 1 (by decide)) (by decide)
                refine g_goto cx 17 e_X11_best_116 (by decide) ?_
                refine g_lsub [1, 2, 0] [(0, .ref (ad 0)), (1, .int a0), (2, .int x110)] rfl ?_
                exact ih17 F107 R108 x110 oF107 fF107 oR108 fR108 wTF107 wCF107 (jv_w zx110.2 (by decide)) (hk111.trans (by rw [hb17])) (Nat.lt_of_lt_of_le (show (2147483647 - x110.toInt).toNat < (2147483647 - y17.toInt).toNat from by have q0 := (jv_k (x := 1) 1 (by decide)).1; have q1 := (jv_k (x := 1) 1 (by decide)).2; have q2 := (jv_k (x := 864) 864 (by decide)).1; have q3 := (jv_k (x := 864) 864 (by decide)).2; have q4 := (jv_t (F107 70)).1; have q5 := (jv_t (F107 70)).2; have q6 := (jv_t (F107 72)).1; have q7 := (jv_t (F107 72)).2; have q8 := p65.1; have q9 := p65.2; have q10 := (jv_t (F63 70)).1; have q11 := (jv_t (F63 70)).2; have q12 := (jv_t (F63 72)).1; have q13 := (jv_t (F63 72)).2; have q14 := (jv_t (F98 70)).1; have q15 := (jv_t (F98 70)).2; have q16 := (jv_t (F98 72)).1; have q17 := (jv_t (F98 72)).2; have q18 := zx110.2.1; have q19 := zx110.2.2; have q20 := zx52.2.1; have q21 := zx52.2.2; have q22 := zx54.2.1; have q23 := zx54.2.2; have q24 := zx56.2.1; have q25 := zx56.2.2; have q26 := zx58.2.1; have q27 := zx58.2.2; have q28 := zx69.2.1; have q29 := zx69.2.2; have q30 := zx71.2.1; have q31 := zx71.2.2; have q32 := zx73.2.1; have q33 := zx73.2.2; have q34 := p50.1; have q35 := p50.2; have q36 := p67.1; have q37 := p67.2; have q38 := (gc_nle zc20); have q39 := (g_ed zx52.1 (by decide : Int32.toInt 72 = 72)); have q40 := (g_eq0 zx54.1); have q41 := (g_er zx56.1 (by decide : Int32.toInt 6 = 6)); have q42 := (g_eq0 zx58.1); have q43 := zi47_0; have q44 := (gc_le zc66); have q45 := (g_ed zx69.1 (by decide : Int32.toInt 6 = 6)); have q46 := (g_er zx71.1 (by decide : Int32.toInt 12 = 12)); have q47 := (g_eq0 zx73.1); have q48 := zx104; have q49 := (congrArg Int32.toInt (show F98 70 = F63 70 from (((cF98 70 rfl).trans (cF91 70 rfl)).trans (cF83 70 rfl)))); have q50 := (congrArg Int32.toInt (show F98 72 = F63 72 from (((cF98 72 rfl).trans (cF91 72 rfl)).trans (cF83 72 rfl)))); have q51 := zx105; have q52 := (g_eq0 zx110.1); omega) (Nat.le_of_lt_succ hm17))
              · have p112 := gn_lt 0 5 (gc_nle zc66) py62 zx58.2 (by decide)
                have hk113 := hkK47.trans (if_neg zc66)
                refine g_aload_n cx 0 rfl e_X11_best_54 ?_
                refine g_get cx cl_X11 fl_X11_83 0 (.ref (ad 25)) e_X11_best_55 rfl rfl ?_
                refine g_iload cx 5 rfl e_X11_best_58 ?_
                refine g_iload_n cx 3 rfl e_X11_best_60 ?_
                refine g_iast cx 25 (wM X ad F63 (g_u R64 25 (upd (R64 25) (Int32.toNatClampNeg y62) x54))) e_X11_best_61 rfl (jv_ix 60 p112 (by decide)) rfl ?_
                obtain ⟨R114, hR114⟩ : ∃ z, z = g_u R64 25 (upd (R64 25) (Int32.toNatClampNeg y62) x54) := ⟨_, rfl⟩
                rw [← hR114]
                have hk115 := k_ls hk113 hR114
                have oR114 : g_okR LA_wM R114 := by rw [hR114]; exact g_okR_u oR64 rfl
                have fR114 : g_fr mr_X11_best R R114 := by rw [hR114]; exact g_fr_r fR64 rfl
                have wTR114 : WT F63 R114 := by rw [hR114]; exact WT_r wTF63R64 rfl
                have wCR114 : WC F63 R114 := by rw [hR114]; exact WC_r wCF63R64 rfl
                refine g_aload_n cx 0 rfl e_X11_best_62 ?_
                refine g_aload_n cx 0 rfl e_X11_best_63 ?_
                refine g_get cx cl_X11 fl_X11_309 0 (.int (F63 44)) e_X11_best_64 rfl rfl ?_
                refine g_iconst cx 1 (by decide) e_X11_best_67 ?_
                refine g_iadd cx e_X11_best_68 ?_
                refine g_topi (fun x116 ex116 => ?_)
                have hk117 := k_ls hk115 ex116
                have zx116 := jv_add 1 7 ex116 p65 (jv_k (x := 1) 1 (by decide)) (by decide)
                refine g_put cx cl_X11 fl_X11_309 0 (wM X ad (upd F63 44 x116) R114) e_X11_best_69 rfl rfl rfl rfl (Nat.le_of_ble_eq_true rfl) rfl ?_
                obtain ⟨F118, hF118⟩ : ∃ z, z = upd F63 44 x116 := ⟨_, rfl⟩
                rw [← hF118]
                have hk119 := k_ls hk117 hF118
                have oF118 : g_ok LK_wM F118 := by rw [hF118]; exact g_ok_p oF63 zx116.2 rfl
                have fF118 : g_fr md_X11_best F F118 := by rw [hF118]; exact g_fr_u fF63 rfl
                have wTF118 : WT F118 R114 := by rw [hF118]; exact WT_u wTR114 rfl
                have wCF118 : WC F118 R114 := by rw [hF118]; exact WC_u wCR114 rfl
                obtain ⟨x120, ex120⟩ : ∃ z : Int32, z = y62 + Int32.ofInt 1 := ⟨_, rfl⟩
                have hk121 := k_ls hk119 (show x120 = y62 + 1 from ex120)
                refine g_iinc cx x120 [(5, .int x120), (0, .ref (ad 0)), (1, .int a0), (2, .int y17), (3, .int x54), (4, .int x58)] 5 e_X11_best_72 rfl ex120.symm (by decide) rfl ?_
                have zx120 := jv_add 1 6 (show x120 = y62 + 1 from ex120) p112 (jv_k (x := 1) 1 (by decide)) (by decide)
                refine g_goto cx 47 e_X11_best_75 (by decide) ?_
                refine g_lsub [1, 2, 3, 4, 5, 0] [(0, .ref (ad 0)), (1, .int a0), (2, .int y17), (3, .int x54), (4, .int x58), (5, .int x120)] rfl ?_
                exact ih47 F118 R114 x120 oF118 fF118 oR114 fR114 wTF118 wCF118 (jv_w zx120.2 (by decide)) (by have q0 := (jv_k (x := 1) 1 (by decide)).1; have q1 := (jv_k (x := 1) 1 (by decide)).2; have q2 := (jv_k (x := 864) 864 (by decide)).1; have q3 := (jv_k (x := 864) 864 (by decide)).2; have q4 := (g_ok_g oF118 11 rfl).1; have q5 := (g_ok_g oF118 11 rfl).2; have q6 := p65.1; have q7 := p65.2; have q8 := zx116.2.1; have q9 := zx116.2.2; have q10 := zx120.2.1; have q11 := zx120.2.2; have q12 := zx52.2.1; have q13 := zx52.2.2; have q14 := zx54.2.1; have q15 := zx54.2.2; have q16 := zx56.2.1; have q17 := zx56.2.2; have q18 := zx58.2.1; have q19 := zx58.2.2; have q20 := p50.1; have q21 := p50.2; have q22 := p112.1; have q23 := p112.2; have q24 := (gc_nle zc20); have q25 := (g_ed zx52.1 (by decide : Int32.toInt 72 = 72)); have q26 := (g_eq0 zx54.1); have q27 := (g_er zx56.1 (by decide : Int32.toInt 6 = 6)); have q28 := (g_eq0 zx58.1); have q29 := zi47_0; have q30 := (gc_nle zc66); have q31 := (g_eq0 zx116.1); have q32 := (g_eq0 zx120.1); have q33 := (congrArg Int32.toInt (show F118 44 = x116 from (g_pu1 hF118))); have q34 := (congrArg Int32.toInt (show F118 44 = x116 from (g_pu1 hF118))); omega) (hk121.trans (by rw [hb47])) (Nat.lt_of_lt_of_le (show (2147483647 - x120.toInt).toNat < (2147483647 - y62.toInt).toNat from by have q0 := (jv_k (x := 1) 1 (by decide)).1; have q1 := (jv_k (x := 1) 1 (by decide)).2; have q2 := (jv_k (x := 864) 864 (by decide)).1; have q3 := (jv_k (x := 864) 864 (by decide)).2; have q4 := (g_ok_g oF118 11 rfl).1; have q5 := (g_ok_g oF118 11 rfl).2; have q6 := p65.1; have q7 := p65.2; have q8 := zx116.2.1; have q9 := zx116.2.2; have q10 := zx120.2.1; have q11 := zx120.2.2; have q12 := zx52.2.1; have q13 := zx52.2.2; have q14 := zx54.2.1; have q15 := zx54.2.2; have q16 := zx56.2.1; have q17 := zx56.2.2; have q18 := zx58.2.1; have q19 := zx58.2.2; have q20 := p50.1; have q21 := p50.2; have q22 := p112.1; have q23 := p112.2; have q24 := (gc_nle zc20); have q25 := (g_ed zx52.1 (by decide : Int32.toInt 72 = 72)); have q26 := (g_eq0 zx54.1); have q27 := (g_er zx56.1 (by decide : Int32.toInt 6 = 6)); have q28 := (g_eq0 zx58.1); have q29 := zi47_0; have q30 := (gc_nle zc66); have q31 := (g_eq0 zx116.1); have q32 := (g_eq0 zx120.1); have q33 := (congrArg Int32.toInt (show F118 44 = x116 from (g_pu1 hF118))); have q34 := (congrArg Int32.toInt (show F118 44 = x116 from (g_pu1 hF118))); omega) (Nat.le_of_lt_succ hm47))
          refine g_lsub [3, 4, 5, 2, 1, 0] [(0, .ref (ad 0)), (1, .int a0), (2, .int y17), (3, .int x54), (4, .int x58), (5, .int 0)] rfl ?_
          exact J47 8589934592 F60 R19 0 oF60 fF60 oR19 fR19 wTF60 wCF60 (jv_w (jv_k (x := 0) 0 (by decide)) (by decide)) (by have q0 := (jv_k (x := 0) 0 (by decide)).1; have q1 := (jv_k (x := 0) 0 (by decide)).2; have q2 := (g_ok_g oF60 11 rfl).1; have q3 := (g_ok_g oF60 11 rfl).2; have q4 := p6.1; have q5 := p6.2; have q6 := (gc_ne zc5); have q7 := (congrArg Int32.toInt (show F60 44 = 0 from (g_pu1 hF60))); have q8 := (congrArg Int32.toInt (show F60 44 = 0 from (g_pu1 hF60))); omega) hk61 (show (2147483647 - (0 : Int32).toInt).toNat < 8589934592 from by have q0 := (jv_k (x := 0) 0 (by decide)).1; have q1 := (jv_k (x := 0) 0 (by decide)).2; omega)
    refine g_lsub [1, 2, 0] [(0, .ref (ad 0)), (1, .int a0), (2, .int 0)] rfl ?_
    exact J17 8589934592 F14 R15 0 oF14 fF14 oR15 fR15 wTF14 wCF14 (jv_w (jv_k (x := 0) 0 (by decide)) (by decide)) hk16 (show (2147483647 - (0 : Int32).toInt).toNat < 8589934592 from by have q0 := (jv_k (x := 0) 0 (by decide)).1; have q1 := (jv_k (x := 0) 0 (by decide)).2; omega)
  · have p122 := gn_eq 0 0 (gc_eq zc5) pr1 (jv_k (x := 0) 0 (by decide)) (by decide)
    have hk123 := hk4.trans (if_pos zc5)
    refine g_iconst cx (-1) (by decide) e_X11_best_9 ?_
    exact hret e_X11_best_10 (Nat.le_of_ble_eq_true rfl) (Nat.le_of_ble_eq_true rfl) rfl ⟨F, R, rfl, hI, hA, hWT, hWC, (g_fr_rf F), (g_fr_rf R), (jv_w (jv_k (x := (-1)) (-1) (by decide)) (by decide)), (hk123.symm.trans hSP)⟩
def K_X11_most_92 (F11 : Nat → Int32) (R12 : Nat → Nat → Int32) (y16 : Int32) : Int32 × (Nat → Int32) × (Nat → Nat → Int32) :=
  (y16, F11, R12)
def K_X11_most_74 (b15 : (Nat → Int32) → (Nat → Nat → Int32) → (Int32) → (Int32) → Int32 × (Nat → Int32) × (Nat → Nat → Int32)) (y10 : Int32) (F35 : Nat → Int32) (R36 : Nat → Nat → Int32) (y34 : Int32) : Int32 × (Nat → Int32) × (Nat → Nat → Int32) :=
  k_lt (y10 + 1) (fun x37 => b15 F35 R36 y34 x37)
def KB_X11_most_15 (b15 : (Nat → Int32) → (Nat → Nat → Int32) → (Int32) → (Int32) → Int32 × (Nat → Int32) × (Nat → Nat → Int32)) (F : Nat → Int32) (a0 : Int32) (F11 : Nat → Int32) (R12 : Nat → Nat → Int32) (y9 : Int32) (y10 : Int32) : Int32 × (Nat → Int32) × (Nat → Nat → Int32) :=
  if 1024 ≤ y10 then if a0 = 0 then k_lt (sp_X11_bits F11 R12 y9) (fun r22 => K_X11_most_92 F11 R12 r22) else K_X11_most_92 F11 R12 y9 else k_lt ((F 4) ^^^ (-1)) (fun x30 => k_lt (y10 &&& x30) (fun x32 => if x32 = 0 then k_lt (sp_X11_bits F11 R12 y10) (fun r44 => k_lt (sp_X11_bits F11 R12 y9) (fun r50 => if r50 < r44 then k_lt2 (sp_X11_laysPull F11 R12) (fun F64 R65 => k_lt2 (sp_X11_laysThings F64 R65) (fun F72 R73 => k_lt (upd F72 42 y10) (fun F75 => k_lt2 (sp_X11_runs F75 R73) (fun F81 R82 => k_lt (sp_X11_standing F81 R82) (fun r84 => if r84 = y10 then K_X11_most_74 b15 y10 F81 R82 y10 else K_X11_most_74 b15 y10 F81 R82 y9))))) else K_X11_most_74 b15 y10 F11 R12 y9)) else K_X11_most_74 b15 y10 F11 R12 y9))
def K_X11_most_15 (F : Nat → Int32) (a0 : Int32) : Nat → (Nat → Int32) → (Nat → Nat → Int32) → (Int32) → (Int32) → Int32 × (Nat → Int32) × (Nat → Nat → Int32)
  | 0 => fun F11 R12 _ _ => (0, F11, R12)
  | n + 1 => KB_X11_most_15 (K_X11_most_15 F a0 n) F a0
def sp_X11_most (F : Nat → Int32) (R : Nat → Nat → Int32) (a0 : Int32) : Int32 × (Nat → Int32) × (Nat → Nat → Int32) :=
  k_lt (g_in a0 0 1) (fun r1 => if r1 = 0 then ((-1), F, R) else K_X11_most_15 F a0 8589934592 F R 0 1)
theorem e_X11_most_0 : g_dc cX11_most 0 (.iload_n 1) 1 1 := ⟨by decide +kernel, rfl⟩
theorem e_X11_most_1 : g_dc cX11_most 1 (.iconst 0) 1 2 := ⟨by decide +kernel, rfl⟩
theorem e_X11_most_2 : g_dc cX11_most 2 (.iconst 1) 1 3 := ⟨by decide +kernel, rfl⟩
theorem e_X11_most_3 : g_dc cX11_most 3 (.invokestatic 165) 3 6 := ⟨by decide +kernel, rfl⟩
theorem e_X11_most_6 : g_dc cX11_most 6 (.ifCond .ne 5) 3 9 := ⟨by decide +kernel, rfl⟩
theorem e_X11_most_9 : g_dc cX11_most 9 (.iconst (-1)) 1 10 := ⟨by decide +kernel, rfl⟩
theorem e_X11_most_10 : g_dc cX11_most 10 (.ireturn) 1 11 := ⟨by decide +kernel, rfl⟩
theorem e_X11_most_11 : g_dc cX11_most 11 (.iconst 0) 1 12 := ⟨by decide +kernel, rfl⟩
theorem e_X11_most_12 : g_dc cX11_most 12 (.istore_n 2) 1 13 := ⟨by decide +kernel, rfl⟩
theorem e_X11_most_13 : g_dc cX11_most 13 (.iconst 1) 1 14 := ⟨by decide +kernel, rfl⟩
theorem e_X11_most_14 : g_dc cX11_most 14 (.istore_n 3) 1 15 := ⟨by decide +kernel, rfl⟩
theorem e_X11_most_15 : g_dc cX11_most 15 (.iload_n 3) 1 16 := ⟨by decide +kernel, rfl⟩
theorem e_X11_most_16 : g_dc cX11_most 16 (.sipush 1024) 3 19 := ⟨by decide +kernel, rfl⟩
theorem e_X11_most_19 : g_dc cX11_most 19 (.if_icmp .ge 61) 3 22 := ⟨by decide +kernel, rfl⟩
theorem e_X11_most_22 : g_dc cX11_most 22 (.iload_n 3) 1 23 := ⟨by decide +kernel, rfl⟩
theorem e_X11_most_23 : g_dc cX11_most 23 (.aload_n 0) 1 24 := ⟨by decide +kernel, rfl⟩
theorem e_X11_most_24 : g_dc cX11_most 24 (.getfield 172) 3 27 := ⟨by decide +kernel, rfl⟩
theorem e_X11_most_27 : g_dc cX11_most 27 (.iconst (-1)) 1 28 := ⟨by decide +kernel, rfl⟩
theorem e_X11_most_28 : g_dc cX11_most 28 (.ixor) 1 29 := ⟨by decide +kernel, rfl⟩
theorem e_X11_most_29 : g_dc cX11_most 29 (.iand) 1 30 := ⟨by decide +kernel, rfl⟩
theorem e_X11_most_30 : g_dc cX11_most 30 (.ifCond .ne 44) 3 33 := ⟨by decide +kernel, rfl⟩
theorem e_X11_most_33 : g_dc cX11_most 33 (.iload_n 3) 1 34 := ⟨by decide +kernel, rfl⟩
theorem e_X11_most_34 : g_dc cX11_most 34 (.invokestatic 410) 3 37 := ⟨by decide +kernel, rfl⟩
theorem e_X11_most_37 : g_dc cX11_most 37 (.iload_n 2) 1 38 := ⟨by decide +kernel, rfl⟩
theorem e_X11_most_38 : g_dc cX11_most 38 (.invokestatic 410) 3 41 := ⟨by decide +kernel, rfl⟩
theorem e_X11_most_41 : g_dc cX11_most 41 (.if_icmp .gt 6) 3 44 := ⟨by decide +kernel, rfl⟩
theorem e_X11_most_44 : g_dc cX11_most 44 (.goto 30) 3 47 := ⟨by decide +kernel, rfl⟩
theorem e_X11_most_47 : g_dc cX11_most 47 (.aload_n 0) 1 48 := ⟨by decide +kernel, rfl⟩
theorem e_X11_most_48 : g_dc cX11_most 48 (.invokevirtual 422) 3 51 := ⟨by decide +kernel, rfl⟩
theorem e_X11_most_51 : g_dc cX11_most 51 (.aload_n 0) 1 52 := ⟨by decide +kernel, rfl⟩
theorem e_X11_most_52 : g_dc cX11_most 52 (.invokevirtual 425) 3 55 := ⟨by decide +kernel, rfl⟩
theorem e_X11_most_55 : g_dc cX11_most 55 (.aload_n 0) 1 56 := ⟨by decide +kernel, rfl⟩
theorem e_X11_most_56 : g_dc cX11_most 56 (.iload_n 3) 1 57 := ⟨by decide +kernel, rfl⟩
theorem e_X11_most_57 : g_dc cX11_most 57 (.putfield 312) 3 60 := ⟨by decide +kernel, rfl⟩
theorem e_X11_most_60 : g_dc cX11_most 60 (.aload_n 0) 1 61 := ⟨by decide +kernel, rfl⟩
theorem e_X11_most_61 : g_dc cX11_most 61 (.invokevirtual 428) 3 64 := ⟨by decide +kernel, rfl⟩
theorem e_X11_most_64 : g_dc cX11_most 64 (.aload_n 0) 1 65 := ⟨by decide +kernel, rfl⟩
theorem e_X11_most_65 : g_dc cX11_most 65 (.invokevirtual 407) 3 68 := ⟨by decide +kernel, rfl⟩
theorem e_X11_most_68 : g_dc cX11_most 68 (.iload_n 3) 1 69 := ⟨by decide +kernel, rfl⟩
theorem e_X11_most_69 : g_dc cX11_most 69 (.if_icmp .ne 5) 3 72 := ⟨by decide +kernel, rfl⟩
theorem e_X11_most_72 : g_dc cX11_most 72 (.iload_n 3) 1 73 := ⟨by decide +kernel, rfl⟩
theorem e_X11_most_73 : g_dc cX11_most 73 (.istore_n 2) 1 74 := ⟨by decide +kernel, rfl⟩
theorem e_X11_most_74 : g_dc cX11_most 74 (.iinc 3 1) 3 77 := ⟨by decide +kernel, rfl⟩
theorem e_X11_most_77 : g_dc cX11_most 77 (.goto (-62)) 3 80 := ⟨by decide +kernel, rfl⟩
theorem e_X11_most_80 : g_dc cX11_most 80 (.iload_n 1) 1 81 := ⟨by decide +kernel, rfl⟩
theorem e_X11_most_81 : g_dc cX11_most 81 (.ifCond .ne 10) 3 84 := ⟨by decide +kernel, rfl⟩
theorem e_X11_most_84 : g_dc cX11_most 84 (.iload_n 2) 1 85 := ⟨by decide +kernel, rfl⟩
theorem e_X11_most_85 : g_dc cX11_most 85 (.invokestatic 410) 3 88 := ⟨by decide +kernel, rfl⟩
theorem e_X11_most_88 : g_dc cX11_most 88 (.goto 4) 3 91 := ⟨by decide +kernel, rfl⟩
theorem e_X11_most_91 : g_dc cX11_most 91 (.iload_n 2) 1 92 := ⟨by decide +kernel, rfl⟩
theorem e_X11_most_92 : g_dc cX11_most 92 (.ireturn) 1 93 := ⟨by decide +kernel, rfl⟩
def md_X11_most : List Nat := [3, 42, 43, 44, 45, 46, 47, 48, 49, 50, 51, 65, 66, 67, 68, 69]
def mr_X11_most : List Nat := [23, 24, 25, 26, 27, 28, 29, 30, 31, 32, 33, 34, 35, 36, 37]
set_option maxHeartbeats 4000000 in
set_option maxRecDepth 100000 in
theorem w_X11_most (l : Launch) (X : gX) (ad : Nat → Nat) (F : Nat → Int32) (R : Nat → Nat → Int32) (hI : g_ok LK_wM F) (hA : g_okR LA_wM R) (hWT : WT F R) (hWC : WC F R) (a0 : Int32) : g_Ci l X yX11_most cX11_most 4 (some .int) 7 0 0 [.ref (ad 0), .int a0] (wM X ad F R) (fun r w => ∃ (F' : Nat → Int32) (R' : Nat → Nat → Int32), w = wM X ad F' R' ∧ g_ok LK_wM F' ∧ g_okR LA_wM R' ∧ WT F' R' ∧ WC F' R' ∧ g_fr md_X11_most F F' ∧ g_fr mr_X11_most R R' ∧ jv (-1) 1023 r ∧ (r, F', R') = sp_X11_most F R a0) := by
  refine g_mi (by decide +kernel) (Nat.le_of_ble_eq_true rfl) (fun E cx hret => ?_)
  obtain ⟨SP, hSP⟩ : ∃ z, z = sp_X11_most F R a0 := ⟨_, rfl⟩
  have hk0 := hSP
  unfold sp_X11_most at hk0
  refine g_iload_n cx 1 rfl e_X11_most_0 ?_
  refine g_iconst cx 0 (by decide) e_X11_most_1 ?_
  refine g_iconst cx 1 (by decide) e_X11_most_2 ?_
  refine g_cSiW cx [.int a0, .int 0, .int 1] [] (c_X11_in l X (wM X ad F R) a0 0 1) ml_X11_165 yS_X11_in rfl e_X11_most_3 (by unfold g_rr; decide) (by decide) rfl (Nat.le_of_ble_eq_true rfl) (fun r1 w2 h3 => ?_)
  obtain ⟨rfl, hr1⟩ := h3
  have pr1 : jv 0 1 r1 := by rw [hr1]; exact gi_01 _ _ _
  have hk4 := k_ls hk0 hr1
  refine g_if_ne cx 11 e_X11_most_6 (by decide) (fun zc5 => ?_) (fun zc5 => ?_)
  · have p6 := gn_neL 1 1 (gc_ne zc5) pr1 (jv_k (x := 0) 0 (by decide)) (by decide)
    have p7 := jv_i 0 1 (jv_t a0) (gi_in (A := 0) (B := 1) hr1 zc5 (by decide) (by decide)) (by decide)
    have hk8 := hk4.trans (if_neg zc5)
    refine g_iconst cx 0 (by decide) e_X11_most_11 ?_
    refine g_istore_n cx [(2, .int 0), (0, .ref (ad 0)), (1, .int a0)] e_X11_most_12 (by decide) rfl ?_
    refine g_iconst cx 1 (by decide) e_X11_most_13 ?_
    refine g_istore_n cx [(3, .int 1), (2, .int 0), (0, .ref (ad 0)), (1, .int a0)] e_X11_most_14 (by decide) rfl ?_
    have J15 : ∀ (N : Nat) (F11 : Nat → Int32) (R12 : Nat → Nat → Int32) (y9 : Int32) (y10 : Int32), (g_ok LK_wM F11) → (g_fr md_X11_most F F11) → (g_okR LA_wM R12) → (g_fr mr_X11_most R R12) → (WT F11 R12) → (WC F11 R12) → (jv 0 1023 y9) → (jv 1 1024 y10) → (SP = K_X11_most_15 F a0 N F11 R12 y9 y10) → (2147483647 - y10.toInt).toNat < N → G X E 4 0 0 (wM X ad F11 R12) [(0, .ref (ad 0)), (1, .int a0), (2, .int y9), (3, .int y10)] 15 [] := by
      intro N
      induction N with
      | zero => intro F11 R12 y9 y10 oF11 fF11 oR12 fR12 wTF11R12 wCF11R12 py9 py10 hkJ15 hm; exact absurd hm (Nat.not_lt_zero _)
      | succ N ih15 =>
        intro F11 R12 y9 y10 oF11 fF11 oR12 fR12 wTF11R12 wCF11R12 py9 py10 hkJ15 hm15
        have hkK15 : SP = KB_X11_most_15 (K_X11_most_15 F a0 N) F a0 F11 R12 y9 y10 := hkJ15
        obtain ⟨b15, hb15⟩ : ∃ z, z = K_X11_most_15 F a0 N := ⟨_, rfl⟩
        rw [← hb15] at hkK15
        unfold KB_X11_most_15 at hkK15
        refine g_iload_n cx 3 rfl e_X11_most_15 ?_
        refine g_sipush cx 1024 (by decide) e_X11_most_16 ?_
        refine g_icmp_ge cx 80 e_X11_most_19 (by decide) (fun zc13 => ?_) (fun zc13 => ?_)
        · have p14 := gn_ge 1024 1024 (gc_le zc13) py10 (jv_k (x := 1024) 1024 (by decide)) (by decide)
          have hk15 := hkK15.trans (if_pos zc13)
          refine g_iload_n cx 1 rfl e_X11_most_80 ?_
          have J92 : ∀ (y16 : Int32), (jv 0 1023 y16) → (SP = K_X11_most_92 F11 R12 y16) → G X E 4 0 0 (wM X ad F11 R12) [] 92 [.int y16] := by
            intro y16 py16 hkJ92
            unfold K_X11_most_92 at hkJ92
            exact hret e_X11_most_92 (Nat.le_of_ble_eq_true rfl) (Nat.le_of_ble_eq_true rfl) rfl ⟨F11, R12, rfl, oF11, oR12, wTF11R12, wCF11R12, fF11, fR12, (jv_w py16 (by decide)), (hkJ92.symm.trans hSP)⟩
          refine g_if_ne cx 91 e_X11_most_81 (by decide) (fun zc17 => ?_) (fun zc17 => ?_)
          · have p18 := gn_neL 1 1 (gc_ne zc17) p7 (jv_k (x := 0) 0 (by decide)) (by decide)
            have hk19 := hk15.trans (if_neg zc17)
            refine g_iload_n cx 2 rfl e_X11_most_91 ?_
            refine g_lsub [] [] rfl ?_
            exact J92 y9 py9 hk19
          · have p20 := gn_eq 0 0 (gc_eq zc17) p7 (jv_k (x := 0) 0 (by decide)) (by decide)
            have hk21 := hk15.trans (if_pos zc17)
            refine g_iload_n cx 2 rfl e_X11_most_84 ?_
            refine g_cSiW cx [.int y9] [] (w_X11_bits l X ad F11 R12 oF11 oR12 y9) ml_X11_410 yS_X11_bits rfl e_X11_most_85 (by unfold g_rr; decide) (by decide) rfl (Nat.le_of_ble_eq_true rfl) (fun r22 w23 h24 => ?_)
            obtain ⟨rfl, pr22, zx25, hx26⟩ := h24
            have hk27 := k_ls hk21 hx26
            refine g_goto cx 92 e_X11_most_88 (by decide) ?_
            refine g_lsub [] [] rfl ?_
            exact J92 r22 (jv_w pr22 (by decide)) hk27
        · have p28 := gn_lt 1 1023 (gc_nle zc13) py10 (jv_k (x := 1024) 1024 (by decide)) (by decide)
          have hk29 := hkK15.trans (if_neg zc13)
          refine g_iload_n cx 3 rfl e_X11_most_22 ?_
          refine g_aload_n cx 0 rfl e_X11_most_23 ?_
          refine g_get cx cl_X11 fl_X11_172 0 (.int (F11 4)) e_X11_most_24 rfl rfl ?_
          refine g_toi (F 4) (fF11 4 rfl) ?_
          refine g_iconst cx (-1) (by decide) e_X11_most_27 ?_
          refine g_ixor cx e_X11_most_28 ?_
          refine g_topi (fun x30 ex30 => ?_)
          have hk31 := k_ls hk29 ex30
          refine g_iand cx e_X11_most_29 ?_
          refine g_topi (fun x32 ex32 => ?_)
          have hk33 := k_ls hk31 ex32
          have px32 := jv_andL 0 1023 ex32 p28 (by decide)
          have J74 : ∀ (F35 : Nat → Int32) (R36 : Nat → Nat → Int32) (y34 : Int32), (g_ok LK_wM F35) → (g_fr md_X11_most F F35) → (g_okR LA_wM R36) → (g_fr mr_X11_most R R36) → (WT F35 R36) → (WC F35 R36) → (jv 0 1023 y34) → (SP = K_X11_most_74 b15 y10 F35 R36 y34) → G X E 4 0 0 (wM X ad F35 R36) [(0, .ref (ad 0)), (1, .int a0), (2, .int y34), (3, .int y10)] 74 [] := by
            intro F35 R36 y34 oF35 fF35 oR36 fR36 wTF35R36 wCF35R36 py34 hkJ74
            unfold K_X11_most_74 at hkJ74
            obtain ⟨x37, ex37⟩ : ∃ z : Int32, z = y10 + Int32.ofInt 1 := ⟨_, rfl⟩
            have hk38 := k_ls hkJ74 (show x37 = y10 + 1 from ex37)
            refine g_iinc cx x37 [(3, .int x37), (0, .ref (ad 0)), (1, .int a0), (2, .int y34)] 3 e_X11_most_74 rfl ex37.symm (by decide) rfl ?_
            have zx37 := jv_add 2 1024 (show x37 = y10 + 1 from ex37) p28 (jv_k (x := 1) 1 (by decide)) (by decide)
            refine g_goto cx 15 e_X11_most_77 (by decide) ?_
            refine g_lsub [1, 2, 3, 0] [(0, .ref (ad 0)), (1, .int a0), (2, .int y34), (3, .int x37)] rfl ?_
            exact ih15 F35 R36 y34 x37 oF35 fF35 oR36 fR36 wTF35R36 wCF35R36 py34 (jv_w zx37.2 (by decide)) (hk38.trans (by rw [hb15])) (Nat.lt_of_lt_of_le (show (2147483647 - x37.toInt).toNat < (2147483647 - y10.toInt).toNat from by have q0 := (jv_k (x := 1) 1 (by decide)).1; have q1 := (jv_k (x := 1) 1 (by decide)).2; have q2 := (jv_k (x := 1024) 1024 (by decide)).1; have q3 := (jv_k (x := 1024) 1024 (by decide)).2; have q4 := zx37.2.1; have q5 := zx37.2.2; have q6 := p28.1; have q7 := p28.2; have q8 := (gc_nle zc13); have q9 := (g_eq0 zx37.1); omega) (Nat.le_of_lt_succ hm15))
          refine g_if_ne cx 74 e_X11_most_30 (by decide) (fun zc39 => ?_) (fun zc39 => ?_)
          · have p40 := gn_neL 1 1023 (gc_ne zc39) px32 (jv_k (x := 0) 0 (by decide)) (by decide)
            have hk41 := hk33.trans (if_neg zc39)
            exact J74 F11 R12 y9 oF11 fF11 oR12 fR12 wTF11R12 wCF11R12 py9 hk41
          · have p42 := gn_eq 0 0 (gc_eq zc39) px32 (jv_k (x := 0) 0 (by decide)) (by decide)
            have hk43 := hk33.trans (if_pos zc39)
            refine g_iload_n cx 3 rfl e_X11_most_33 ?_
            refine g_cSiW cx [.int y10] [] (w_X11_bits l X ad F11 R12 oF11 oR12 y10) ml_X11_410 yS_X11_bits rfl e_X11_most_34 (by unfold g_rr; decide) (by decide) rfl (Nat.le_of_ble_eq_true rfl) (fun r44 w45 h46 => ?_)
            obtain ⟨rfl, pr44, zx47, hx48⟩ := h46
            have hk49 := k_ls hk43 hx48
            refine g_iload_n cx 2 rfl e_X11_most_37 ?_
            refine g_cSiW cx [.int y9] [.int r44] (w_X11_bits l X ad F11 R12 oF11 oR12 y9) ml_X11_410 yS_X11_bits rfl e_X11_most_38 (by unfold g_rr; decide) (by decide) rfl (Nat.le_of_ble_eq_true rfl) (fun r50 w51 h52 => ?_)
            obtain ⟨rfl, pr50, zx53, hx54⟩ := h52
            have hk55 := k_ls hk49 hx54
            refine g_icmp_gt cx 47 e_X11_most_41 (by decide) (fun zc56 => ?_) (fun zc56 => ?_)
            · have p57 := gn_lt 0 9 (gc_lt zc56) pr50 pr44 (by decide)
              have p58 := gn_gt 1 10 (gc_lt zc56) pr44 pr50 (by decide)
              have hk59 := hk55.trans (if_pos zc56)
              refine g_aload_n cx 0 rfl e_X11_most_47 ?_
              refine g_cVvW cx [] [] (w_X11_laysPull l X ad F11 R12 oF11 oR12 wTF11R12 wCF11R12) ml_X11_422 yV_X11_laysPull e_X11_most_48 (by unfold g_rr; decide) (by decide) 0 rfl rfl rfl (Nat.le_of_ble_eq_true rfl) (fun w61 h62 => ?_)
              obtain ⟨F64, R65, rfl, oF64, oR65, wTF64, wCF64, cF64, cR65, hx63⟩ := h62
              have hk66 := k_ls2 hk59 hx63
              have fF64 : g_fr md_X11_most F F64 := g_fr_c fF11 cF64 rfl
              have fR65 : g_fr mr_X11_most R R65 := g_fr_c fR12 cR65 rfl
              refine g_aload_n cx 0 rfl e_X11_most_51 ?_
              refine g_cVvW cx [] [] (w_X11_laysThings l X ad F64 R65 oF64 oR65 wTF64 wCF64) ml_X11_425 yV_X11_laysThings e_X11_most_52 (by unfold g_rr; decide) (by decide) 0 rfl rfl rfl (Nat.le_of_ble_eq_true rfl) (fun w68 h69 => ?_)
              obtain ⟨F72, R73, rfl, oF72, oR73, wTF72, wCF72, cF72, cR73, zx70, hx71⟩ := h69
              have hk74 := k_ls2 hk66 hx71
              have fF72 : g_fr md_X11_most F F72 := g_fr_c fF64 cF72 rfl
              have fR73 : g_fr mr_X11_most R R73 := g_fr_c fR65 cR73 rfl
              refine g_aload_n cx 0 rfl e_X11_most_55 ?_
              refine g_iload_n cx 3 rfl e_X11_most_56 ?_
              refine g_put cx cl_X11 fl_X11_312 0 (wM X ad (upd F72 42 y10) R73) e_X11_most_57 rfl rfl rfl rfl (Nat.le_of_ble_eq_true rfl) rfl ?_
              obtain ⟨F75, hF75⟩ : ∃ z, z = upd F72 42 y10 := ⟨_, rfl⟩
              rw [← hF75]
              have hk76 := k_ls hk74 hF75
              have oF75 : g_ok LK_wM F75 := by rw [hF75]; exact g_ok_u oF72 rfl
              have fF75 : g_fr md_X11_most F F75 := by rw [hF75]; exact g_fr_u fF72 rfl
              have wTF75 : WT F75 R73 := by rw [hF75]; exact WT_u wTF72 rfl
              have wCF75 : WC F75 R73 := by rw [hF75]; exact WC_u wCF72 rfl
              refine g_aload_n cx 0 rfl e_X11_most_60 ?_
              refine g_cVvW cx [] [] (w_X11_runs l X ad F75 R73 oF75 oR73 wTF75 wCF75 (WN_sub wTF75 (g_pu1 hF75) (by rw [show F75 4 = F 4 from ((((g_pu2 hF75 rfl).trans (cF72 4 rfl)).trans (cF64 4 rfl)).trans (fF11 4 rfl)), ← ex30, ← ex32]; exact zc39))) ml_X11_428 yV_X11_runs e_X11_most_61 (by unfold g_rr; decide) (by decide) 0 rfl rfl rfl (Nat.le_of_ble_eq_true rfl) (fun w78 h79 => ?_)
              obtain ⟨F81, R82, rfl, oF81, oR82, wTF81, wCF81, cF81, cR82, hx80⟩ := h79
              have hk83 := k_ls2 hk76 hx80
              have fF81 : g_fr md_X11_most F F81 := g_fr_c fF75 cF81 rfl
              have fR82 : g_fr mr_X11_most R R82 := g_fr_c fR73 cR82 rfl
              refine g_aload_n cx 0 rfl e_X11_most_64 ?_
              refine g_cViW cx [] [] (w_X11_standing l X ad F81 R82 oF81 oR82 wTF81 wCF81) ml_X11_407 yV_X11_standing e_X11_most_65 (by unfold g_rr; decide) (by decide) 0 rfl rfl rfl (Nat.le_of_ble_eq_true rfl) (fun r84 w85 h86 => ?_)
              obtain ⟨rfl, pr84, hx87⟩ := h86
              have hk88 := k_ls hk83 hx87
              refine g_iload_n cx 3 rfl e_X11_most_68 ?_
              refine g_icmp_ne cx 74 e_X11_most_69 (by decide) (fun zc89 => ?_) (fun zc89 => ?_)
              · have hk90 := hk88.trans (if_neg zc89)
                exact J74 F81 R82 y9 oF81 fF81 oR82 fR82 wTF81 wCF81 py9 hk90
              · have p91 := gn_eq 1 1023 (gc_eq zc89) pr84 p28 (by decide)
                have hk92 := hk88.trans (if_pos zc89)
                refine g_iload_n cx 3 rfl e_X11_most_72 ?_
                refine g_istore_n cx [(2, .int y10), (0, .ref (ad 0)), (1, .int a0), (3, .int y10)] e_X11_most_73 (by decide) rfl ?_
                refine g_lsub [1, 2, 0, 3] [(0, .ref (ad 0)), (1, .int a0), (2, .int y10), (3, .int y10)] rfl ?_
                exact J74 F81 R82 y10 oF81 fF81 oR82 fR82 wTF81 wCF81 (jv_w p28 (by decide)) hk92
            · have hk93 := hk55.trans (if_neg zc56)
              refine g_goto cx 74 e_X11_most_44 (by decide) ?_
              exact J74 F11 R12 y9 oF11 fF11 oR12 fR12 wTF11R12 wCF11R12 py9 hk93
    refine g_lsub [2, 3, 1, 0] [(0, .ref (ad 0)), (1, .int a0), (2, .int 0), (3, .int 1)] rfl ?_
    exact J15 8589934592 F R 0 1 hI (g_fr_rf F) hA (g_fr_rf R) hWT hWC (jv_w (jv_k (x := 0) 0 (by decide)) (by decide)) (jv_w (jv_k (x := 1) 1 (by decide)) (by decide)) hk8 (show (2147483647 - (1 : Int32).toInt).toNat < 8589934592 from by have q0 := (jv_k (x := 1) 1 (by decide)).1; have q1 := (jv_k (x := 1) 1 (by decide)).2; omega)
  · have p94 := gn_eq 0 0 (gc_eq zc5) pr1 (jv_k (x := 0) 0 (by decide)) (by decide)
    have hk95 := hk4.trans (if_pos zc5)
    refine g_iconst cx (-1) (by decide) e_X11_most_9 ?_
    exact hret e_X11_most_10 (Nat.le_of_ble_eq_true rfl) (Nat.le_of_ble_eq_true rfl) rfl ⟨F, R, rfl, hI, hA, hWT, hWC, (g_fr_rf F), (g_fr_rf R), (jv_w (jv_k (x := (-1)) (-1) (by decide)) (by decide)), (hk95.symm.trans hSP)⟩
def K_X11_worth_68 (F : Nat → Int32) (R : Nat → Nat → Int32)  : Int32 × (Nat → Int32) × (Nat → Nat → Int32) :=
  ((-100000), F, R)
def K_X11_worth_157  (F78 : Nat → Int32) (R79 : Nat → Nat → Int32) (y77 : Int32) : Int32 × (Nat → Int32) × (Nat → Nat → Int32) :=
  (y77, F78, R79)
def K_X11_worth_68a (F : Nat → Int32) (R : Nat → Nat → Int32)  : Int32 × (Nat → Int32) × (Nat → Nat → Int32) :=
  ((-100000), F, R)
def K_X11_worth_68b (F : Nat → Int32) (R : Nat → Nat → Int32)  : Int32 × (Nat → Int32) × (Nat → Nat → Int32) :=
  ((-100000), F, R)
def K_X11_worth_157a  (F183 : Nat → Int32) (R184 : Nat → Nat → Int32) (y182 : Int32) : Int32 × (Nat → Int32) × (Nat → Nat → Int32) :=
  (y182, F183, R184)
def K_X11_worth_68c (F : Nat → Int32) (R : Nat → Nat → Int32)  : Int32 × (Nat → Int32) × (Nat → Nat → Int32) :=
  ((-100000), F, R)
def sp_X11_worth (F : Nat → Int32) (R : Nat → Nat → Int32) (a0 : Int32) (a1 : Int32) : Int32 × (Nat → Int32) × (Nat → Nat → Int32) :=
  k_lt (g_in a1 0 3) (fun r1 => if r1 = 0 then ((-100000), F, R) else if 2 ≤ a1 then k_lt (sp_X11_isTold F R a0) (fun r12 => if r12 = 0 then K_X11_worth_68 F R else k_lt (R 6 (Int32.toNatClampNeg a0)) (fun x24 => if x24 = 0 then K_X11_worth_68a F R else k_lt2 (sp_X11_runsStill F R) (fun F32 R33 => k_lt (sp_X11_standing F32 R33) (fun r35 => k_lt (sp_X11_bits F32 R33 r35) (fun r40 => k_lt (sp_X11_inchesAll F32 R33) (fun r46 => k_lt2 (sp_X11_laysPull F32 R33) (fun F55 R56 => k_lt2 (sp_X11_laysThings F55 R56) (fun F63 R64 => k_lt (g_u R64 30 (upd (R64 30) (Int32.toNatClampNeg a0) 0)) (fun R66 => k_lt2 (sp_X11_runs F63 R66) (fun F72 R73 => k_lt (a1 - a1 / 2 * 2) (fun x75 => if x75 = 0 then k_lt (sp_X11_standing F72 R73) (fun r92 => k_lt (sp_X11_bits F72 R73 r92) (fun r97 => k_lt (r97 - r40) (fun x103 => K_X11_worth_157 F72 R73 x103))) else k_lt (sp_X11_inchesAll F72 R73) (fun r83 => k_lt (r46 - r83) (fun x88 => K_X11_worth_157 F72 R73 x88))))))))))))) else k_lt (g_in a0 0 5) (fun r109 => if r109 = 0 then K_X11_worth_68b F R else k_lt (g_hasv (F 2) a0) (fun r119 => if r119 = 0 then K_X11_worth_68c F R else k_lt2 (sp_X11_runsStill F R) (fun F131 R132 => k_lt (sp_X11_standing F131 R132) (fun r134 => k_lt (sp_X11_bits F131 R132 r134) (fun r139 => k_lt (sp_X11_inchesAll F131 R132) (fun r145 => k_lt2 (sp_X11_laysPull F131 R132) (fun F154 R155 => k_lt2 (sp_X11_laysThings F154 R155) (fun F162 R163 => k_lt (1 <<< (a0 &&& 31)) (fun x165 => k_lt (x165 ^^^ (-1)) (fun x167 => k_lt ((F 2) &&& x167) (fun x169 => k_lt (upd F162 43 x169) (fun F171 => k_lt2 (sp_X11_runs F171 R163) (fun F177 R178 => k_lt (a1 - a1 / 2 * 2) (fun x180 => if x180 = 0 then k_lt (sp_X11_standing F177 R178) (fun r197 => k_lt (sp_X11_bits F177 R178 r197) (fun r202 => k_lt (r202 - r139) (fun x208 => K_X11_worth_157a F177 R178 x208))) else k_lt (sp_X11_inchesAll F177 R178) (fun r188 => k_lt (r145 - r188) (fun x193 => K_X11_worth_157a F177 R178 x193)))))))))))))))))
theorem e_X11_worth_0 : g_dc cX11_worth 0 (.iload_n 2) 1 1 := ⟨by decide +kernel, rfl⟩
theorem e_X11_worth_1 : g_dc cX11_worth 1 (.iconst 0) 1 2 := ⟨by decide +kernel, rfl⟩
theorem e_X11_worth_2 : g_dc cX11_worth 2 (.iconst 3) 1 3 := ⟨by decide +kernel, rfl⟩
theorem e_X11_worth_3 : g_dc cX11_worth 3 (.invokestatic 165) 3 6 := ⟨by decide +kernel, rfl⟩
theorem e_X11_worth_6 : g_dc cX11_worth 6 (.ifCond .ne 7) 3 9 := ⟨by decide +kernel, rfl⟩
theorem e_X11_worth_9 : g_dc cX11_worth 9 (.ldc_w 470) 3 12 := ⟨by decide +kernel, rfl⟩
theorem e_X11_worth_12 : g_dc cX11_worth 12 (.ireturn) 1 13 := ⟨by decide +kernel, rfl⟩
theorem e_X11_worth_13 : g_dc cX11_worth 13 (.iload_n 2) 1 14 := ⟨by decide +kernel, rfl⟩
theorem e_X11_worth_14 : g_dc cX11_worth 14 (.iconst 2) 1 15 := ⟨by decide +kernel, rfl⟩
theorem e_X11_worth_15 : g_dc cX11_worth 15 (.if_icmp .ge 7) 3 18 := ⟨by decide +kernel, rfl⟩
theorem e_X11_worth_18 : g_dc cX11_worth 18 (.iconst 1) 1 19 := ⟨by decide +kernel, rfl⟩
theorem e_X11_worth_19 : g_dc cX11_worth 19 (.goto 4) 3 22 := ⟨by decide +kernel, rfl⟩
theorem e_X11_worth_22 : g_dc cX11_worth 22 (.iconst 0) 1 23 := ⟨by decide +kernel, rfl⟩
theorem e_X11_worth_23 : g_dc cX11_worth 23 (.istore_n 3) 1 24 := ⟨by decide +kernel, rfl⟩
theorem e_X11_worth_24 : g_dc cX11_worth 24 (.iload_n 3) 1 25 := ⟨by decide +kernel, rfl⟩
theorem e_X11_worth_25 : g_dc cX11_worth 25 (.ifCond .eq 26) 3 28 := ⟨by decide +kernel, rfl⟩
theorem e_X11_worth_28 : g_dc cX11_worth 28 (.iload_n 1) 1 29 := ⟨by decide +kernel, rfl⟩
theorem e_X11_worth_29 : g_dc cX11_worth 29 (.iconst 0) 1 30 := ⟨by decide +kernel, rfl⟩
theorem e_X11_worth_30 : g_dc cX11_worth 30 (.iconst 5) 1 31 := ⟨by decide +kernel, rfl⟩
theorem e_X11_worth_31 : g_dc cX11_worth 31 (.invokestatic 165) 3 34 := ⟨by decide +kernel, rfl⟩
theorem e_X11_worth_34 : g_dc cX11_worth 34 (.ifCond .eq 34) 3 37 := ⟨by decide +kernel, rfl⟩
theorem e_X11_worth_37 : g_dc cX11_worth 37 (.aload_n 0) 1 38 := ⟨by decide +kernel, rfl⟩
theorem e_X11_worth_38 : g_dc cX11_worth 38 (.getfield 169) 3 41 := ⟨by decide +kernel, rfl⟩
theorem e_X11_worth_41 : g_dc cX11_worth 41 (.iload_n 1) 1 42 := ⟨by decide +kernel, rfl⟩
theorem e_X11_worth_42 : g_dc cX11_worth 42 (.invokestatic 175) 3 45 := ⟨by decide +kernel, rfl⟩
theorem e_X11_worth_45 : g_dc cX11_worth 45 (.ifCond .ne 27) 3 48 := ⟨by decide +kernel, rfl⟩
theorem e_X11_worth_48 : g_dc cX11_worth 48 (.goto 20) 3 51 := ⟨by decide +kernel, rfl⟩
theorem e_X11_worth_51 : g_dc cX11_worth 51 (.aload_n 0) 1 52 := ⟨by decide +kernel, rfl⟩
theorem e_X11_worth_52 : g_dc cX11_worth 52 (.iload_n 1) 1 53 := ⟨by decide +kernel, rfl⟩
theorem e_X11_worth_53 : g_dc cX11_worth 53 (.invokevirtual 179) 3 56 := ⟨by decide +kernel, rfl⟩
theorem e_X11_worth_56 : g_dc cX11_worth 56 (.ifCond .eq 12) 3 59 := ⟨by decide +kernel, rfl⟩
theorem e_X11_worth_59 : g_dc cX11_worth 59 (.aload_n 0) 1 60 := ⟨by decide +kernel, rfl⟩
theorem e_X11_worth_60 : g_dc cX11_worth 60 (.getfield 25) 3 63 := ⟨by decide +kernel, rfl⟩
theorem e_X11_worth_63 : g_dc cX11_worth 63 (.iload_n 1) 1 64 := ⟨by decide +kernel, rfl⟩
theorem e_X11_worth_64 : g_dc cX11_worth 64 (.iaload) 1 65 := ⟨by decide +kernel, rfl⟩
theorem e_X11_worth_65 : g_dc cX11_worth 65 (.ifCond .ne 7) 3 68 := ⟨by decide +kernel, rfl⟩
theorem e_X11_worth_68 : g_dc cX11_worth 68 (.ldc_w 470) 3 71 := ⟨by decide +kernel, rfl⟩
theorem e_X11_worth_71 : g_dc cX11_worth 71 (.ireturn) 1 72 := ⟨by decide +kernel, rfl⟩
theorem e_X11_worth_72 : g_dc cX11_worth 72 (.aload_n 0) 1 73 := ⟨by decide +kernel, rfl⟩
theorem e_X11_worth_73 : g_dc cX11_worth 73 (.invokevirtual 440) 3 76 := ⟨by decide +kernel, rfl⟩
theorem e_X11_worth_76 : g_dc cX11_worth 76 (.aload_n 0) 1 77 := ⟨by decide +kernel, rfl⟩
theorem e_X11_worth_77 : g_dc cX11_worth 77 (.invokevirtual 407) 3 80 := ⟨by decide +kernel, rfl⟩
theorem e_X11_worth_80 : g_dc cX11_worth 80 (.invokestatic 410) 3 83 := ⟨by decide +kernel, rfl⟩
theorem e_X11_worth_83 : g_dc cX11_worth 83 (.istore 4) 2 85 := ⟨by decide +kernel, rfl⟩
theorem e_X11_worth_85 : g_dc cX11_worth 85 (.aload_n 0) 1 86 := ⟨by decide +kernel, rfl⟩
theorem e_X11_worth_86 : g_dc cX11_worth 86 (.invokevirtual 413) 3 89 := ⟨by decide +kernel, rfl⟩
theorem e_X11_worth_89 : g_dc cX11_worth 89 (.istore 5) 2 91 := ⟨by decide +kernel, rfl⟩
theorem e_X11_worth_91 : g_dc cX11_worth 91 (.aload_n 0) 1 92 := ⟨by decide +kernel, rfl⟩
theorem e_X11_worth_92 : g_dc cX11_worth 92 (.invokevirtual 422) 3 95 := ⟨by decide +kernel, rfl⟩
theorem e_X11_worth_95 : g_dc cX11_worth 95 (.aload_n 0) 1 96 := ⟨by decide +kernel, rfl⟩
theorem e_X11_worth_96 : g_dc cX11_worth 96 (.invokevirtual 425) 3 99 := ⟨by decide +kernel, rfl⟩
theorem e_X11_worth_99 : g_dc cX11_worth 99 (.iload_n 3) 1 100 := ⟨by decide +kernel, rfl⟩
theorem e_X11_worth_100 : g_dc cX11_worth 100 (.ifCond .eq 20) 3 103 := ⟨by decide +kernel, rfl⟩
theorem e_X11_worth_103 : g_dc cX11_worth 103 (.aload_n 0) 1 104 := ⟨by decide +kernel, rfl⟩
theorem e_X11_worth_104 : g_dc cX11_worth 104 (.aload_n 0) 1 105 := ⟨by decide +kernel, rfl⟩
theorem e_X11_worth_105 : g_dc cX11_worth 105 (.getfield 169) 3 108 := ⟨by decide +kernel, rfl⟩
theorem e_X11_worth_108 : g_dc cX11_worth 108 (.iconst 1) 1 109 := ⟨by decide +kernel, rfl⟩
theorem e_X11_worth_109 : g_dc cX11_worth 109 (.iload_n 1) 1 110 := ⟨by decide +kernel, rfl⟩
theorem e_X11_worth_110 : g_dc cX11_worth 110 (.ishl) 1 111 := ⟨by decide +kernel, rfl⟩
theorem e_X11_worth_111 : g_dc cX11_worth 111 (.iconst (-1)) 1 112 := ⟨by decide +kernel, rfl⟩
theorem e_X11_worth_112 : g_dc cX11_worth 112 (.ixor) 1 113 := ⟨by decide +kernel, rfl⟩
theorem e_X11_worth_113 : g_dc cX11_worth 113 (.iand) 1 114 := ⟨by decide +kernel, rfl⟩
theorem e_X11_worth_114 : g_dc cX11_worth 114 (.putfield 315) 3 117 := ⟨by decide +kernel, rfl⟩
theorem e_X11_worth_117 : g_dc cX11_worth 117 (.goto 10) 3 120 := ⟨by decide +kernel, rfl⟩
theorem e_X11_worth_120 : g_dc cX11_worth 120 (.aload_n 0) 1 121 := ⟨by decide +kernel, rfl⟩
theorem e_X11_worth_121 : g_dc cX11_worth 121 (.getfield 98) 3 124 := ⟨by decide +kernel, rfl⟩
theorem e_X11_worth_124 : g_dc cX11_worth 124 (.iload_n 1) 1 125 := ⟨by decide +kernel, rfl⟩
theorem e_X11_worth_125 : g_dc cX11_worth 125 (.iconst 0) 1 126 := ⟨by decide +kernel, rfl⟩
theorem e_X11_worth_126 : g_dc cX11_worth 126 (.iastore) 1 127 := ⟨by decide +kernel, rfl⟩
theorem e_X11_worth_127 : g_dc cX11_worth 127 (.aload_n 0) 1 128 := ⟨by decide +kernel, rfl⟩
theorem e_X11_worth_128 : g_dc cX11_worth 128 (.invokevirtual 428) 3 131 := ⟨by decide +kernel, rfl⟩
theorem e_X11_worth_131 : g_dc cX11_worth 131 (.iload_n 2) 1 132 := ⟨by decide +kernel, rfl⟩
theorem e_X11_worth_132 : g_dc cX11_worth 132 (.iconst 2) 1 133 := ⟨by decide +kernel, rfl⟩
theorem e_X11_worth_133 : g_dc cX11_worth 133 (.irem) 1 134 := ⟨by decide +kernel, rfl⟩
theorem e_X11_worth_134 : g_dc cX11_worth 134 (.ifCond .ne 16) 3 137 := ⟨by decide +kernel, rfl⟩
theorem e_X11_worth_137 : g_dc cX11_worth 137 (.aload_n 0) 1 138 := ⟨by decide +kernel, rfl⟩
theorem e_X11_worth_138 : g_dc cX11_worth 138 (.invokevirtual 407) 3 141 := ⟨by decide +kernel, rfl⟩
theorem e_X11_worth_141 : g_dc cX11_worth 141 (.invokestatic 410) 3 144 := ⟨by decide +kernel, rfl⟩
theorem e_X11_worth_144 : g_dc cX11_worth 144 (.iload 4) 2 146 := ⟨by decide +kernel, rfl⟩
theorem e_X11_worth_146 : g_dc cX11_worth 146 (.isub) 1 147 := ⟨by decide +kernel, rfl⟩
theorem e_X11_worth_147 : g_dc cX11_worth 147 (.goto 10) 3 150 := ⟨by decide +kernel, rfl⟩
theorem e_X11_worth_150 : g_dc cX11_worth 150 (.iload 5) 2 152 := ⟨by decide +kernel, rfl⟩
theorem e_X11_worth_152 : g_dc cX11_worth 152 (.aload_n 0) 1 153 := ⟨by decide +kernel, rfl⟩
theorem e_X11_worth_153 : g_dc cX11_worth 153 (.invokevirtual 413) 3 156 := ⟨by decide +kernel, rfl⟩
theorem e_X11_worth_156 : g_dc cX11_worth 156 (.isub) 1 157 := ⟨by decide +kernel, rfl⟩
theorem e_X11_worth_157 : g_dc cX11_worth 157 (.ireturn) 1 158 := ⟨by decide +kernel, rfl⟩
def md_X11_worth : List Nat := [3, 42, 43, 44, 45, 46, 47, 48, 49, 50, 51, 65, 66, 67, 68, 69]
def mr_X11_worth : List Nat := [23, 24, 25, 26, 27, 28, 29, 30, 31, 32, 33, 34, 35, 36, 37]
set_option maxHeartbeats 4000000 in
set_option maxRecDepth 100000 in
theorem w_X11_worth (l : Launch) (X : gX) (ad : Nat → Nat) (F : Nat → Int32) (R : Nat → Nat → Int32) (hI : g_ok LK_wM F) (hA : g_okR LA_wM R) (hWT : WT F R) (hWC : WC F R) (a0 : Int32) (a1 : Int32) : g_Ci l X yX11_worth cX11_worth 6 (some .int) 8 0 0 [.ref (ad 0), .int a0, .int a1] (wM X ad F R) (fun r w => ∃ (F' : Nat → Int32) (R' : Nat → Nat → Int32), w = wM X ad F' R' ∧ g_ok LK_wM F' ∧ g_okR LA_wM R' ∧ WT F' R' ∧ WC F' R' ∧ g_fr md_X11_worth F F' ∧ g_fr mr_X11_worth R R' ∧ jv (-2147483648) 2147483647 r ∧ (r, F', R') = sp_X11_worth F R a0 a1) := by
  refine g_mi (by decide +kernel) (Nat.le_of_ble_eq_true rfl) (fun E cx hret => ?_)
  obtain ⟨SP, hSP⟩ : ∃ z, z = sp_X11_worth F R a0 a1 := ⟨_, rfl⟩
  have hk0 := hSP
  unfold sp_X11_worth at hk0
  refine g_iload_n cx 2 rfl e_X11_worth_0 ?_
  refine g_iconst cx 0 (by decide) e_X11_worth_1 ?_
  refine g_iconst cx 3 (by decide) e_X11_worth_2 ?_
  refine g_cSiW cx [.int a1, .int 0, .int 3] [] (c_X11_in l X (wM X ad F R) a1 0 3) ml_X11_165 yS_X11_in rfl e_X11_worth_3 (by unfold g_rr; decide) (by decide) rfl (Nat.le_of_ble_eq_true rfl) (fun r1 w2 h3 => ?_)
  obtain ⟨rfl, hr1⟩ := h3
  have pr1 : jv 0 1 r1 := by rw [hr1]; exact gi_01 _ _ _
  have hk4 := k_ls hk0 hr1
  refine g_if_ne cx 13 e_X11_worth_6 (by decide) (fun zc5 => ?_) (fun zc5 => ?_)
  · have p6 := gn_neL 1 1 (gc_ne zc5) pr1 (jv_k (x := 0) 0 (by decide)) (by decide)
    have p7 := jv_i 0 3 (jv_t a1) (gi_in (A := 0) (B := 3) hr1 zc5 (by decide) (by decide)) (by decide)
    have hk8 := hk4.trans (if_neg zc5)
    refine g_iload_n cx 2 rfl e_X11_worth_13 ?_
    refine g_iconst cx 2 (by decide) e_X11_worth_14 ?_
    refine g_icmp_ge cx 22 e_X11_worth_15 (by decide) (fun zc9 => ?_) (fun zc9 => ?_)
    · have p10 := gn_ge 2 3 (gc_le zc9) p7 (jv_k (x := 2) 2 (by decide)) (by decide)
      have hk11 := hk8.trans (if_pos zc9)
      refine g_iconst cx 0 (by decide) e_X11_worth_22 ?_
      refine g_istore_n cx [(3, .int 0), (0, .ref (ad 0)), (1, .int a0), (2, .int a1)] e_X11_worth_23 (by decide) rfl ?_
      refine g_iload_n cx 0 rfl e_X11_worth_24 ?_
      refine g_if_eq_t cx 51 e_X11_worth_25 (by decide) (by decide) ?_
      refine g_aload_n cx 1 rfl e_X11_worth_51 ?_
      refine g_iload_n cx 2 rfl e_X11_worth_52 ?_
      refine g_cViW cx [.int a0] [] (w_X11_isTold l X ad F R hI hA hWT hWC a0) ml_X11_179 yV_X11_isTold e_X11_worth_53 (by unfold g_rr; decide) (by decide) 0 rfl rfl rfl (Nat.le_of_ble_eq_true rfl) (fun r12 w13 h14 => ?_)
      obtain ⟨rfl, pr12, zx15, hx16⟩ := h14
      have hk17 := k_ls hk11 hx16
      refine g_if_eq cx 68 e_X11_worth_56 (by decide) (fun zc18 => ?_) (fun zc18 => ?_)
      · have p19 := gn_eq 0 0 (gc_eq zc18) pr12 (jv_k (x := 0) 0 (by decide)) (by decide)
        have hk20 := hk17.trans (if_pos zc18)
        have J68 : (SP = K_X11_worth_68 F R) → G X E 6 0 0 (wM X ad F R) [] 68 [] := by
          intro   hkJ68
          unfold K_X11_worth_68 at hkJ68
          refine g_ldcw cx (-100000) kc_X11_470 e_X11_worth_68 ?_
          exact hret e_X11_worth_71 (Nat.le_of_ble_eq_true rfl) (Nat.le_of_ble_eq_true rfl) rfl ⟨F, R, rfl, hI, hA, hWT, hWC, (g_fr_rf F), (g_fr_rf R), (jv_w (jv_k (x := (-100000)) (-100000) (by decide)) (by decide)), (hkJ68.symm.trans hSP)⟩
        refine g_lsub [] [] rfl ?_
        exact J68  hk20
      · have p21 := gn_neL 1 1 (gc_ne zc18) pr12 (jv_k (x := 0) 0 (by decide)) (by decide)
        have p22 := jv_i 0 9 (jv_t a0) (zx15 zc18).1 (by decide)
        have hk23 := hk17.trans (if_neg zc18)
        refine g_aload_n cx 1 rfl e_X11_worth_59 ?_
        refine g_get cx cl_X11 fl_X11_25 0 (.ref (ad 6)) e_X11_worth_60 rfl rfl ?_
        refine g_iload_n cx 2 rfl e_X11_worth_63 ?_
        refine g_iald cx 6 e_X11_worth_64 rfl (jv_ix 10 p22 (by decide)) ?_
        refine g_topi (fun x24 ex24 => ?_)
        have hk25 := k_ls hk23 ex24
        refine g_if_ne cx 72 e_X11_worth_65 (by decide) (fun zc26 => ?_) (fun zc26 => ?_)
        · have hk27 := hk25.trans (if_neg zc26)
          refine g_aload_n cx 1 rfl e_X11_worth_72 ?_
          refine g_cVvW cx [] [] (w_X11_runsStill l X ad F R hI hA hWT hWC) ml_X11_440 yV_X11_runsStill e_X11_worth_73 (by unfold g_rr; decide) (by decide) 0 rfl rfl rfl (Nat.le_of_ble_eq_true rfl) (fun w29 h30 => ?_)
          obtain ⟨F32, R33, rfl, oF32, oR33, wTF32, wCF32, cF32, cR33, hx31⟩ := h30
          have hk34 := k_ls2 hk27 hx31
          have fF32 : g_fr md_X11_worth F F32 := g_fr_c (g_fr_rf F) cF32 rfl
          have fR33 : g_fr mr_X11_worth R R33 := g_fr_c (g_fr_rf R) cR33 rfl
          refine g_aload_n cx 1 rfl e_X11_worth_76 ?_
          refine g_cViW cx [] [] (w_X11_standing l X ad F32 R33 oF32 oR33 wTF32 wCF32) ml_X11_407 yV_X11_standing e_X11_worth_77 (by unfold g_rr; decide) (by decide) 0 rfl rfl rfl (Nat.le_of_ble_eq_true rfl) (fun r35 w36 h37 => ?_)
          obtain ⟨rfl, pr35, hx38⟩ := h37
          have hk39 := k_ls hk34 hx38
          refine g_cSiW cx [.int r35] [] (w_X11_bits l X ad F32 R33 oF32 oR33 r35) ml_X11_410 yS_X11_bits rfl e_X11_worth_80 (by unfold g_rr; decide) (by decide) rfl (Nat.le_of_ble_eq_true rfl) (fun r40 w41 h42 => ?_)
          obtain ⟨rfl, pr40, zx43, hx44⟩ := h42
          have hk45 := k_ls hk39 hx44
          refine g_istore cx [(4, .int r40), (3, .int 0), (0, .ref (ad 0)), (1, .int a0), (2, .int a1)] e_X11_worth_83 (by decide) rfl ?_
          refine g_aload_n cx 2 rfl e_X11_worth_85 ?_
          refine g_cViW cx [] [] (w_X11_inchesAll l X ad F32 R33 oF32 oR33 wTF32 wCF32) ml_X11_413 yV_X11_inchesAll e_X11_worth_86 (by unfold g_rr; decide) (by decide) 0 rfl rfl rfl (Nat.le_of_ble_eq_true rfl) (fun r46 w47 h48 => ?_)
          obtain ⟨rfl, pr46, hx49⟩ := h48
          have hk50 := k_ls hk45 hx49
          refine g_istore cx [(5, .int r46), (4, .int r40), (3, .int 0), (0, .ref (ad 0)), (1, .int a0), (2, .int a1)] e_X11_worth_89 (by decide) rfl ?_
          refine g_aload_n cx 3 rfl e_X11_worth_91 ?_
          refine g_cVvW cx [] [] (w_X11_laysPull l X ad F32 R33 oF32 oR33 wTF32 wCF32) ml_X11_422 yV_X11_laysPull e_X11_worth_92 (by unfold g_rr; decide) (by decide) 0 rfl rfl rfl (Nat.le_of_ble_eq_true rfl) (fun w52 h53 => ?_)
          obtain ⟨F55, R56, rfl, oF55, oR56, wTF55, wCF55, cF55, cR56, hx54⟩ := h53
          have hk57 := k_ls2 hk50 hx54
          have fF55 : g_fr md_X11_worth F F55 := g_fr_c fF32 cF55 rfl
          have fR56 : g_fr mr_X11_worth R R56 := g_fr_c fR33 cR56 rfl
          refine g_aload_n cx 3 rfl e_X11_worth_95 ?_
          refine g_cVvW cx [] [] (w_X11_laysThings l X ad F55 R56 oF55 oR56 wTF55 wCF55) ml_X11_425 yV_X11_laysThings e_X11_worth_96 (by unfold g_rr; decide) (by decide) 0 rfl rfl rfl (Nat.le_of_ble_eq_true rfl) (fun w59 h60 => ?_)
          obtain ⟨F63, R64, rfl, oF63, oR64, wTF63, wCF63, cF63, cR64, zx61, hx62⟩ := h60
          have hk65 := k_ls2 hk57 hx62
          have fF63 : g_fr md_X11_worth F F63 := g_fr_c fF55 cF63 rfl
          have fR64 : g_fr mr_X11_worth R R64 := g_fr_c fR56 cR64 rfl
          refine g_iload_n cx 2 rfl e_X11_worth_99 ?_
          refine g_if_eq_t cx 120 e_X11_worth_100 (by decide) (by decide) ?_
          refine g_aload_n cx 3 rfl e_X11_worth_120 ?_
          refine g_get cx cl_X11 fl_X11_98 0 (.ref (ad 30)) e_X11_worth_121 rfl rfl ?_
          refine g_iload_n cx 4 rfl e_X11_worth_124 ?_
          refine g_iconst cx 0 (by decide) e_X11_worth_125 ?_
          refine g_iast cx 30 (wM X ad F63 (g_u R64 30 (upd (R64 30) (Int32.toNatClampNeg a0) 0))) e_X11_worth_126 rfl (jv_ix 10 p22 (by decide)) rfl ?_
          obtain ⟨R66, hR66⟩ : ∃ z, z = g_u R64 30 (upd (R64 30) (Int32.toNatClampNeg a0) 0) := ⟨_, rfl⟩
          rw [← hR66]
          have hk67 := k_ls hk65 hR66
          have oR66 : g_okR LA_wM R66 := by rw [hR66]; exact g_okR_u oR64 rfl
          have fR66 : g_fr mr_X11_worth R R66 := by rw [hR66]; exact g_fr_r fR64 rfl
          have wTR66 : WT F63 R66 := by rw [hR66]; exact WT_r wTF63 rfl
          have wCR66 : WC F63 R66 := by rw [hR66]; exact WC_r wCF63 rfl
          refine g_aload_n cx 3 rfl e_X11_worth_127 ?_
          refine g_cVvW cx [] [] (w_X11_runs l X ad F63 R66 oF63 oR66 wTR66 wCR66 (WN_of wTR66 ((zx61.trans (((cF63 4 rfl).trans (cF55 4 rfl)).trans (cF32 4 rfl))).trans (((cF63 4 rfl).trans (cF55 4 rfl)).trans (cF32 4 rfl)).symm))) ml_X11_428 yV_X11_runs e_X11_worth_128 (by unfold g_rr; decide) (by decide) 0 rfl rfl rfl (Nat.le_of_ble_eq_true rfl) (fun w69 h70 => ?_)
          obtain ⟨F72, R73, rfl, oF72, oR73, wTF72, wCF72, cF72, cR73, hx71⟩ := h70
          have hk74 := k_ls2 hk67 hx71
          have fF72 : g_fr md_X11_worth F F72 := g_fr_c fF63 cF72 rfl
          have fR73 : g_fr mr_X11_worth R R73 := g_fr_c fR66 cR73 rfl
          refine g_iload_n cx 5 rfl e_X11_worth_131 ?_
          refine g_iconst cx 2 (by decide) e_X11_worth_132 ?_
          refine g_irem cx (by decide) e_X11_worth_133 ?_
          refine g_topi (fun x75 ex75 => ?_)
          have hk76 := k_ls hk74 ex75
          have zx75 := jv_rem 0 1 ex75 p10 (jv_k (x := 2) 2 (by decide)) (by decide)
          have J157 : ∀ (F78 : Nat → Int32) (R79 : Nat → Nat → Int32) (y77 : Int32), (g_ok LK_wM F78) → (g_fr md_X11_worth F F78) → (g_okR LA_wM R79) → (g_fr mr_X11_worth R R79) → (WT F78 R79) → (WC F78 R79) → (jv (-2147483648) 2147483647 y77) → (SP = K_X11_worth_157 F78 R79 y77) → G X E 6 0 0 (wM X ad F78 R79) [] 157 [.int y77] := by
            intro F78 R79 y77 oF78 fF78 oR79 fR79 wTF78R79 wCF78R79 py77 hkJ157
            unfold K_X11_worth_157 at hkJ157
            exact hret e_X11_worth_157 (Nat.le_of_ble_eq_true rfl) (Nat.le_of_ble_eq_true rfl) rfl ⟨F78, R79, rfl, oF78, oR79, wTF78R79, wCF78R79, fF78, fR79, py77, (hkJ157.symm.trans hSP)⟩
          refine g_if_ne cx 150 e_X11_worth_134 (by decide) (fun zc80 => ?_) (fun zc80 => ?_)
          · have p81 := gn_neL 1 1 (gc_ne zc80) zx75.2 (jv_k (x := 0) 0 (by decide)) (by decide)
            have hk82 := hk76.trans (if_neg zc80)
            refine g_iload cx 0 rfl e_X11_worth_150 ?_
            refine g_aload_n cx 3 rfl e_X11_worth_152 ?_
            refine g_cViW cx [] [.int r46] (w_X11_inchesAll l X ad F72 R73 oF72 oR73 wTF72 wCF72) ml_X11_413 yV_X11_inchesAll e_X11_worth_153 (by unfold g_rr; decide) (by decide) 0 rfl rfl rfl (Nat.le_of_ble_eq_true rfl) (fun r83 w84 h85 => ?_)
            obtain ⟨rfl, pr83, hx86⟩ := h85
            have hk87 := k_ls hk82 hx86
            refine g_isub cx e_X11_worth_156 ?_
            refine g_topi (fun x88 ex88 => ?_)
            have hk89 := k_ls hk87 ex88
            refine g_lsub [] [] rfl ?_
            exact J157 F72 R73 x88 oF72 fF72 oR73 fR73 wTF72 wCF72 (jv_t x88) hk89
          · have p90 := gn_eq 0 0 (gc_eq zc80) zx75.2 (jv_k (x := 0) 0 (by decide)) (by decide)
            have hk91 := hk76.trans (if_pos zc80)
            refine g_aload_n cx 3 rfl e_X11_worth_137 ?_
            refine g_cViW cx [] [] (w_X11_standing l X ad F72 R73 oF72 oR73 wTF72 wCF72) ml_X11_407 yV_X11_standing e_X11_worth_138 (by unfold g_rr; decide) (by decide) 0 rfl rfl rfl (Nat.le_of_ble_eq_true rfl) (fun r92 w93 h94 => ?_)
            obtain ⟨rfl, pr92, hx95⟩ := h94
            have hk96 := k_ls hk91 hx95
            refine g_cSiW cx [.int r92] [] (w_X11_bits l X ad F72 R73 oF72 oR73 r92) ml_X11_410 yS_X11_bits rfl e_X11_worth_141 (by unfold g_rr; decide) (by decide) rfl (Nat.le_of_ble_eq_true rfl) (fun r97 w98 h99 => ?_)
            obtain ⟨rfl, pr97, zx100, hx101⟩ := h99
            have hk102 := k_ls hk96 hx101
            refine g_iload cx 1 rfl e_X11_worth_144 ?_
            refine g_isub cx e_X11_worth_146 ?_
            refine g_topi (fun x103 ex103 => ?_)
            have hk104 := k_ls hk102 ex103
            have zx103 := jv_sub (-10) 10 ex103 pr97 pr40 (by decide)
            refine g_goto cx 157 e_X11_worth_147 (by decide) ?_
            refine g_lsub [] [] rfl ?_
            exact J157 F72 R73 x103 oF72 fF72 oR73 fR73 wTF72 wCF72 (jv_w zx103.2 (by decide)) hk104
        · have p105 := gn_eq 0 0 (gc_eq zc26) (jv_t x24) (jv_k (x := 0) 0 (by decide)) (by decide)
          have hk106 := hk25.trans (if_pos zc26)
          have J68 : (SP = K_X11_worth_68a F R) → G X E 6 0 0 (wM X ad F R) [] 68 [] := by
            intro   hkJ68
            unfold K_X11_worth_68a at hkJ68
            refine g_ldcw cx (-100000) kc_X11_470 e_X11_worth_68 ?_
            exact hret e_X11_worth_71 (Nat.le_of_ble_eq_true rfl) (Nat.le_of_ble_eq_true rfl) rfl ⟨F, R, rfl, hI, hA, hWT, hWC, (g_fr_rf F), (g_fr_rf R), (jv_w (jv_k (x := (-100000)) (-100000) (by decide)) (by decide)), (hkJ68.symm.trans hSP)⟩
          refine g_lsub [] [] rfl ?_
          exact J68  hk106
    · have p107 := gn_lt 0 1 (gc_nle zc9) p7 (jv_k (x := 2) 2 (by decide)) (by decide)
      have hk108 := hk8.trans (if_neg zc9)
      refine g_iconst cx 1 (by decide) e_X11_worth_18 ?_
      refine g_goto cx 23 e_X11_worth_19 (by decide) ?_
      refine g_istore_n cx [(3, .int 1), (0, .ref (ad 0)), (1, .int a0), (2, .int a1)] e_X11_worth_23 (by decide) rfl ?_
      refine g_iload_n cx 0 rfl e_X11_worth_24 ?_
      refine g_if_eq_f cx 51 e_X11_worth_25 (by decide) (by decide) ?_
      refine g_iload_n cx 2 rfl e_X11_worth_28 ?_
      refine g_iconst cx 0 (by decide) e_X11_worth_29 ?_
      refine g_iconst cx 5 (by decide) e_X11_worth_30 ?_
      refine g_cSiW cx [.int a0, .int 0, .int 5] [] (c_X11_in l X (wM X ad F R) a0 0 5) ml_X11_165 yS_X11_in rfl e_X11_worth_31 (by unfold g_rr; decide) (by decide) rfl (Nat.le_of_ble_eq_true rfl) (fun r109 w110 h111 => ?_)
      obtain ⟨rfl, hr109⟩ := h111
      have pr109 : jv 0 1 r109 := by rw [hr109]; exact gi_01 _ _ _
      have hk112 := k_ls hk108 hr109
      refine g_if_eq cx 68 e_X11_worth_34 (by decide) (fun zc113 => ?_) (fun zc113 => ?_)
      · have p114 := gn_eq 0 0 (gc_eq zc113) pr109 (jv_k (x := 0) 0 (by decide)) (by decide)
        have hk115 := hk112.trans (if_pos zc113)
        have J68 : (SP = K_X11_worth_68b F R) → G X E 6 0 0 (wM X ad F R) [] 68 [] := by
          intro   hkJ68
          unfold K_X11_worth_68b at hkJ68
          refine g_ldcw cx (-100000) kc_X11_470 e_X11_worth_68 ?_
          exact hret e_X11_worth_71 (Nat.le_of_ble_eq_true rfl) (Nat.le_of_ble_eq_true rfl) rfl ⟨F, R, rfl, hI, hA, hWT, hWC, (g_fr_rf F), (g_fr_rf R), (jv_w (jv_k (x := (-100000)) (-100000) (by decide)) (by decide)), (hkJ68.symm.trans hSP)⟩
        refine g_lsub [] [] rfl ?_
        exact J68  hk115
      · have p116 := gn_neL 1 1 (gc_ne zc113) pr109 (jv_k (x := 0) 0 (by decide)) (by decide)
        have p117 := jv_i 0 5 (jv_t a0) (gi_in (A := 0) (B := 5) hr109 zc113 (by decide) (by decide)) (by decide)
        have hk118 := hk112.trans (if_neg zc113)
        refine g_aload_n cx 1 rfl e_X11_worth_37 ?_
        refine g_get cx cl_X11 fl_X11_169 0 (.int (F 2)) e_X11_worth_38 rfl rfl ?_
        refine g_iload_n cx 2 rfl e_X11_worth_41 ?_
        refine g_cSiW cx [.int (F 2), .int a0] [] (c_X11_has l X (wM X ad F R) (F 2) a0) ml_X11_175 yS_X11_has rfl e_X11_worth_42 (by unfold g_rr; decide) (by decide) rfl (Nat.le_of_ble_eq_true rfl) (fun r119 w120 h121 => ?_)
        obtain ⟨rfl, hr119⟩ := h121
        have pr119 : jv 0 1 r119 := by rcases hr119 with q | q <;> rw [q.1] <;> exact ⟨by decide, by decide⟩
        have hk122 := k_ls hk118 (g_has_e hr119)
        refine g_if_ne cx 72 e_X11_worth_45 (by decide) (fun zc123 => ?_) (fun zc123 => ?_)
        · have p124 := gn_neL 1 1 (gc_ne zc123) pr119 (jv_k (x := 0) 0 (by decide)) (by decide)
          have zb125 : hb (F 2) a0 := g_hasy hr119 zc123
          have hk126 := hk122.trans (if_neg zc123)
          refine g_aload_n cx 1 rfl e_X11_worth_72 ?_
          refine g_cVvW cx [] [] (w_X11_runsStill l X ad F R hI hA hWT hWC) ml_X11_440 yV_X11_runsStill e_X11_worth_73 (by unfold g_rr; decide) (by decide) 0 rfl rfl rfl (Nat.le_of_ble_eq_true rfl) (fun w128 h129 => ?_)
          obtain ⟨F131, R132, rfl, oF131, oR132, wTF131, wCF131, cF131, cR132, hx130⟩ := h129
          have hk133 := k_ls2 hk126 hx130
          have fF131 : g_fr md_X11_worth F F131 := g_fr_c (g_fr_rf F) cF131 rfl
          have fR132 : g_fr mr_X11_worth R R132 := g_fr_c (g_fr_rf R) cR132 rfl
          refine g_aload_n cx 1 rfl e_X11_worth_76 ?_
          refine g_cViW cx [] [] (w_X11_standing l X ad F131 R132 oF131 oR132 wTF131 wCF131) ml_X11_407 yV_X11_standing e_X11_worth_77 (by unfold g_rr; decide) (by decide) 0 rfl rfl rfl (Nat.le_of_ble_eq_true rfl) (fun r134 w135 h136 => ?_)
          obtain ⟨rfl, pr134, hx137⟩ := h136
          have hk138 := k_ls hk133 hx137
          refine g_cSiW cx [.int r134] [] (w_X11_bits l X ad F131 R132 oF131 oR132 r134) ml_X11_410 yS_X11_bits rfl e_X11_worth_80 (by unfold g_rr; decide) (by decide) rfl (Nat.le_of_ble_eq_true rfl) (fun r139 w140 h141 => ?_)
          obtain ⟨rfl, pr139, zx142, hx143⟩ := h141
          have hk144 := k_ls hk138 hx143
          refine g_istore cx [(4, .int r139), (3, .int 1), (0, .ref (ad 0)), (1, .int a0), (2, .int a1)] e_X11_worth_83 (by decide) rfl ?_
          refine g_aload_n cx 2 rfl e_X11_worth_85 ?_
          refine g_cViW cx [] [] (w_X11_inchesAll l X ad F131 R132 oF131 oR132 wTF131 wCF131) ml_X11_413 yV_X11_inchesAll e_X11_worth_86 (by unfold g_rr; decide) (by decide) 0 rfl rfl rfl (Nat.le_of_ble_eq_true rfl) (fun r145 w146 h147 => ?_)
          obtain ⟨rfl, pr145, hx148⟩ := h147
          have hk149 := k_ls hk144 hx148
          refine g_istore cx [(5, .int r145), (4, .int r139), (3, .int 1), (0, .ref (ad 0)), (1, .int a0), (2, .int a1)] e_X11_worth_89 (by decide) rfl ?_
          refine g_aload_n cx 3 rfl e_X11_worth_91 ?_
          refine g_cVvW cx [] [] (w_X11_laysPull l X ad F131 R132 oF131 oR132 wTF131 wCF131) ml_X11_422 yV_X11_laysPull e_X11_worth_92 (by unfold g_rr; decide) (by decide) 0 rfl rfl rfl (Nat.le_of_ble_eq_true rfl) (fun w151 h152 => ?_)
          obtain ⟨F154, R155, rfl, oF154, oR155, wTF154, wCF154, cF154, cR155, hx153⟩ := h152
          have hk156 := k_ls2 hk149 hx153
          have fF154 : g_fr md_X11_worth F F154 := g_fr_c fF131 cF154 rfl
          have fR155 : g_fr mr_X11_worth R R155 := g_fr_c fR132 cR155 rfl
          refine g_aload_n cx 3 rfl e_X11_worth_95 ?_
          refine g_cVvW cx [] [] (w_X11_laysThings l X ad F154 R155 oF154 oR155 wTF154 wCF154) ml_X11_425 yV_X11_laysThings e_X11_worth_96 (by unfold g_rr; decide) (by decide) 0 rfl rfl rfl (Nat.le_of_ble_eq_true rfl) (fun w158 h159 => ?_)
          obtain ⟨F162, R163, rfl, oF162, oR163, wTF162, wCF162, cF162, cR163, zx160, hx161⟩ := h159
          have hk164 := k_ls2 hk156 hx161
          have fF162 : g_fr md_X11_worth F F162 := g_fr_c fF154 cF162 rfl
          have fR163 : g_fr mr_X11_worth R R163 := g_fr_c fR155 cR163 rfl
          refine g_iload_n cx 2 rfl e_X11_worth_99 ?_
          refine g_if_eq_f cx 120 e_X11_worth_100 (by decide) (by decide) ?_
          refine g_aload_n cx 3 rfl e_X11_worth_103 ?_
          refine g_aload_n cx 3 rfl e_X11_worth_104 ?_
          refine g_get cx cl_X11 fl_X11_169 0 (.int (F162 2)) e_X11_worth_105 rfl rfl ?_
          refine g_toi (F 2) (((cF162 2 rfl).trans (cF154 2 rfl)).trans (cF131 2 rfl)) ?_
          refine g_iconst cx 1 (by decide) e_X11_worth_108 ?_
          refine g_iload_n cx 4 rfl e_X11_worth_109 ?_
          refine g_ishl cx e_X11_worth_110 ?_
          refine g_topi (fun x165 ex165 => ?_)
          have hk166 := k_ls hk164 ex165
          refine g_iconst cx (-1) (by decide) e_X11_worth_111 ?_
          refine g_ixor cx e_X11_worth_112 ?_
          refine g_topi (fun x167 ex167 => ?_)
          have hk168 := k_ls hk166 ex167
          refine g_iand cx e_X11_worth_113 ?_
          refine g_topi (fun x169 ex169 => ?_)
          have hk170 := k_ls hk168 ex169
          refine g_put cx cl_X11 fl_X11_315 0 (wM X ad (upd F162 43 x169) R163) e_X11_worth_114 rfl rfl rfl rfl (Nat.le_of_ble_eq_true rfl) rfl ?_
          obtain ⟨F171, hF171⟩ : ∃ z, z = upd F162 43 x169 := ⟨_, rfl⟩
          rw [← hF171]
          have hk172 := k_ls hk170 hF171
          have oF171 : g_ok LK_wM F171 := by rw [hF171]; exact g_ok_u oF162 rfl
          have fF171 : g_fr md_X11_worth F F171 := by rw [hF171]; exact g_fr_u fF162 rfl
          have wTF171 : WT F171 R163 := by rw [hF171]; exact WT_u wTF162 rfl
          have wCF171 : WC F171 R163 := by rw [hF171]; exact WC_u wCF162 rfl
          refine g_goto cx 127 e_X11_worth_117 (by decide) ?_
          refine g_aload_n cx 3 rfl e_X11_worth_127 ?_
          refine g_cVvW cx [] [] (w_X11_runs l X ad F171 R163 oF171 oR163 wTF171 wCF171 (WN_of wTF171 ((((g_pu2 hF171 rfl).trans zx160).trans (((cF162 4 rfl).trans (cF154 4 rfl)).trans (cF131 4 rfl))).trans ((((g_pu2 hF171 rfl).trans (cF162 4 rfl)).trans (cF154 4 rfl)).trans (cF131 4 rfl)).symm))) ml_X11_428 yV_X11_runs e_X11_worth_128 (by unfold g_rr; decide) (by decide) 0 rfl rfl rfl (Nat.le_of_ble_eq_true rfl) (fun w174 h175 => ?_)
          obtain ⟨F177, R178, rfl, oF177, oR178, wTF177, wCF177, cF177, cR178, hx176⟩ := h175
          have hk179 := k_ls2 hk172 hx176
          have fF177 : g_fr md_X11_worth F F177 := g_fr_c fF171 cF177 rfl
          have fR178 : g_fr mr_X11_worth R R178 := g_fr_c fR163 cR178 rfl
          refine g_iload_n cx 5 rfl e_X11_worth_131 ?_
          refine g_iconst cx 2 (by decide) e_X11_worth_132 ?_
          refine g_irem cx (by decide) e_X11_worth_133 ?_
          refine g_topi (fun x180 ex180 => ?_)
          have hk181 := k_ls hk179 ex180
          have zx180 := jv_rem 0 1 ex180 p107 (jv_k (x := 2) 2 (by decide)) (by decide)
          have J157 : ∀ (F183 : Nat → Int32) (R184 : Nat → Nat → Int32) (y182 : Int32), (g_ok LK_wM F183) → (g_fr md_X11_worth F F183) → (g_okR LA_wM R184) → (g_fr mr_X11_worth R R184) → (WT F183 R184) → (WC F183 R184) → (jv (-2147483648) 2147483647 y182) → (SP = K_X11_worth_157a F183 R184 y182) → G X E 6 0 0 (wM X ad F183 R184) [] 157 [.int y182] := by
            intro F183 R184 y182 oF183 fF183 oR184 fR184 wTF183R184 wCF183R184 py182 hkJ157
            unfold K_X11_worth_157a at hkJ157
            exact hret e_X11_worth_157 (Nat.le_of_ble_eq_true rfl) (Nat.le_of_ble_eq_true rfl) rfl ⟨F183, R184, rfl, oF183, oR184, wTF183R184, wCF183R184, fF183, fR184, py182, (hkJ157.symm.trans hSP)⟩
          refine g_if_ne cx 150 e_X11_worth_134 (by decide) (fun zc185 => ?_) (fun zc185 => ?_)
          · have p186 := gn_neL 1 1 (gc_ne zc185) zx180.2 (jv_k (x := 0) 0 (by decide)) (by decide)
            have hk187 := hk181.trans (if_neg zc185)
            refine g_iload cx 0 rfl e_X11_worth_150 ?_
            refine g_aload_n cx 3 rfl e_X11_worth_152 ?_
            refine g_cViW cx [] [.int r145] (w_X11_inchesAll l X ad F177 R178 oF177 oR178 wTF177 wCF177) ml_X11_413 yV_X11_inchesAll e_X11_worth_153 (by unfold g_rr; decide) (by decide) 0 rfl rfl rfl (Nat.le_of_ble_eq_true rfl) (fun r188 w189 h190 => ?_)
            obtain ⟨rfl, pr188, hx191⟩ := h190
            have hk192 := k_ls hk187 hx191
            refine g_isub cx e_X11_worth_156 ?_
            refine g_topi (fun x193 ex193 => ?_)
            have hk194 := k_ls hk192 ex193
            refine g_lsub [] [] rfl ?_
            exact J157 F177 R178 x193 oF177 fF177 oR178 fR178 wTF177 wCF177 (jv_t x193) hk194
          · have p195 := gn_eq 0 0 (gc_eq zc185) zx180.2 (jv_k (x := 0) 0 (by decide)) (by decide)
            have hk196 := hk181.trans (if_pos zc185)
            refine g_aload_n cx 3 rfl e_X11_worth_137 ?_
            refine g_cViW cx [] [] (w_X11_standing l X ad F177 R178 oF177 oR178 wTF177 wCF177) ml_X11_407 yV_X11_standing e_X11_worth_138 (by unfold g_rr; decide) (by decide) 0 rfl rfl rfl (Nat.le_of_ble_eq_true rfl) (fun r197 w198 h199 => ?_)
            obtain ⟨rfl, pr197, hx200⟩ := h199
            have hk201 := k_ls hk196 hx200
            refine g_cSiW cx [.int r197] [] (w_X11_bits l X ad F177 R178 oF177 oR178 r197) ml_X11_410 yS_X11_bits rfl e_X11_worth_141 (by unfold g_rr; decide) (by decide) rfl (Nat.le_of_ble_eq_true rfl) (fun r202 w203 h204 => ?_)
            obtain ⟨rfl, pr202, zx205, hx206⟩ := h204
            have hk207 := k_ls hk201 hx206
            refine g_iload cx 1 rfl e_X11_worth_144 ?_
            refine g_isub cx e_X11_worth_146 ?_
            refine g_topi (fun x208 ex208 => ?_)
            have hk209 := k_ls hk207 ex208
            have zx208 := jv_sub (-10) 10 ex208 pr202 pr139 (by decide)
            refine g_goto cx 157 e_X11_worth_147 (by decide) ?_
            refine g_lsub [] [] rfl ?_
            exact J157 F177 R178 x208 oF177 fF177 oR178 fR178 wTF177 wCF177 (jv_w zx208.2 (by decide)) hk209
        · have p210 := gn_eq 0 0 (gc_eq zc123) pr119 (jv_k (x := 0) 0 (by decide)) (by decide)
          have hk211 := hk122.trans (if_pos zc123)
          refine g_goto cx 68 e_X11_worth_48 (by decide) ?_
          have J68 : (SP = K_X11_worth_68c F R) → G X E 6 0 0 (wM X ad F R) [] 68 [] := by
            intro   hkJ68
            unfold K_X11_worth_68c at hkJ68
            refine g_ldcw cx (-100000) kc_X11_470 e_X11_worth_68 ?_
            exact hret e_X11_worth_71 (Nat.le_of_ble_eq_true rfl) (Nat.le_of_ble_eq_true rfl) rfl ⟨F, R, rfl, hI, hA, hWT, hWC, (g_fr_rf F), (g_fr_rf R), (jv_w (jv_k (x := (-100000)) (-100000) (by decide)) (by decide)), (hkJ68.symm.trans hSP)⟩
          refine g_lsub [] [] rfl ?_
          exact J68  hk211
  · have p212 := gn_eq 0 0 (gc_eq zc5) pr1 (jv_k (x := 0) 0 (by decide)) (by decide)
    have hk213 := hk4.trans (if_pos zc5)
    refine g_ldcw cx (-100000) kc_X11_470 e_X11_worth_9 ?_
    exact hret e_X11_worth_12 (Nat.le_of_ble_eq_true rfl) (Nat.le_of_ble_eq_true rfl) rfl ⟨F, R, rfl, hI, hA, hWT, hWC, (g_fr_rf F), (g_fr_rf R), (jv_w (jv_k (x := (-100000)) (-100000) (by decide)) (by decide)), (hk213.symm.trans hSP)⟩
def K_X11_takesPlaces_21 (F : Nat → Int32) (R : Nat → Nat → Int32)  : Int32 × (Nat → Int32) × (Nat → Nat → Int32) :=
  (0, F, R)
def K_X11_takesPlaces_72 (b32 : (Nat → Nat → Int32) → (Int32) → (Int32) → Int32 × (Nat → Int32) × (Nat → Nat → Int32)) (y16 : Int32) (R29 : Nat → Nat → Int32) (y28 : Int32) : Int32 × (Nat → Int32) × (Nat → Nat → Int32) :=
  k_lt (y16 + 1) (fun x31 => b32 R29 y28 x31)
def KB_X11_takesPlaces_32 (b32 : (Nat → Nat → Int32) → (Int32) → (Int32) → Int32 × (Nat → Int32) × (Nat → Nat → Int32)) (F : Nat → Int32) (F13 : Nat → Int32) (R17 : Nat → Nat → Int32) (y15 : Int32) (y16 : Int32) : Int32 × (Nat → Int32) × (Nat → Nat → Int32) :=
  if 10 ≤ y16 then (1, F13, R17) else k_lt (g_hasv (F 4) y16) (fun r24 => if r24 = 0 then K_X11_takesPlaces_72 b32 y16 R17 y15 else k_lt (R17 9 (Int32.toNatClampNeg y15)) (fun x37 => k_lt (x37 &&& 255) (fun x39 => k_lt (g_u R17 40 (upd (R17 40) (Int32.toNatClampNeg y16) x39)) (fun R41 => k_lt (y15 + 1) (fun x43 => K_X11_takesPlaces_72 b32 y16 R41 x43)))))
def K_X11_takesPlaces_32 (F : Nat → Int32) (F13 : Nat → Int32) : Nat → (Nat → Nat → Int32) → (Int32) → (Int32) → Int32 × (Nat → Int32) × (Nat → Nat → Int32)
  | 0 => fun R17 _ _ => (0, F13, R17)
  | n + 1 => KB_X11_takesPlaces_32 (K_X11_takesPlaces_32 F F13 n) F F13
def sp_X11_takesPlaces (F : Nat → Int32) (R : Nat → Nat → Int32) : Int32 × (Nat → Int32) × (Nat → Nat → Int32) :=
  if (F 4) = 0 then K_X11_takesPlaces_21 F R else k_lt (sp_X11_bits F R (F 4)) (fun r5 => if r5 ≤ (F 14) then k_lt (upd F 14 0) (fun F13 => K_X11_takesPlaces_32 F F13 8589934592 R 0 0) else K_X11_takesPlaces_21 F R)
theorem e_X11_takesPlaces_0 : g_dc cX11_takesPlaces 0 (.aload_n 0) 1 1 := ⟨by decide +kernel, rfl⟩
theorem e_X11_takesPlaces_1 : g_dc cX11_takesPlaces 1 (.getfield 172) 3 4 := ⟨by decide +kernel, rfl⟩
theorem e_X11_takesPlaces_4 : g_dc cX11_takesPlaces 4 (.ifCond .eq 17) 3 7 := ⟨by decide +kernel, rfl⟩
theorem e_X11_takesPlaces_7 : g_dc cX11_takesPlaces 7 (.aload_n 0) 1 8 := ⟨by decide +kernel, rfl⟩
theorem e_X11_takesPlaces_8 : g_dc cX11_takesPlaces 8 (.getfield 172) 3 11 := ⟨by decide +kernel, rfl⟩
theorem e_X11_takesPlaces_11 : g_dc cX11_takesPlaces 11 (.invokestatic 410) 3 14 := ⟨by decide +kernel, rfl⟩
theorem e_X11_takesPlaces_14 : g_dc cX11_takesPlaces 14 (.aload_n 0) 1 15 := ⟨by decide +kernel, rfl⟩
theorem e_X11_takesPlaces_15 : g_dc cX11_takesPlaces 15 (.getfield 183) 3 18 := ⟨by decide +kernel, rfl⟩
theorem e_X11_takesPlaces_18 : g_dc cX11_takesPlaces 18 (.if_icmp .le 5) 3 21 := ⟨by decide +kernel, rfl⟩
theorem e_X11_takesPlaces_21 : g_dc cX11_takesPlaces 21 (.iconst 0) 1 22 := ⟨by decide +kernel, rfl⟩
theorem e_X11_takesPlaces_22 : g_dc cX11_takesPlaces 22 (.ireturn) 1 23 := ⟨by decide +kernel, rfl⟩
theorem e_X11_takesPlaces_23 : g_dc cX11_takesPlaces 23 (.aload_n 0) 1 24 := ⟨by decide +kernel, rfl⟩
theorem e_X11_takesPlaces_24 : g_dc cX11_takesPlaces 24 (.iconst 0) 1 25 := ⟨by decide +kernel, rfl⟩
theorem e_X11_takesPlaces_25 : g_dc cX11_takesPlaces 25 (.putfield 183) 3 28 := ⟨by decide +kernel, rfl⟩
theorem e_X11_takesPlaces_28 : g_dc cX11_takesPlaces 28 (.iconst 0) 1 29 := ⟨by decide +kernel, rfl⟩
theorem e_X11_takesPlaces_29 : g_dc cX11_takesPlaces 29 (.istore_n 1) 1 30 := ⟨by decide +kernel, rfl⟩
theorem e_X11_takesPlaces_30 : g_dc cX11_takesPlaces 30 (.iconst 0) 1 31 := ⟨by decide +kernel, rfl⟩
theorem e_X11_takesPlaces_31 : g_dc cX11_takesPlaces 31 (.istore_n 2) 1 32 := ⟨by decide +kernel, rfl⟩
theorem e_X11_takesPlaces_32 : g_dc cX11_takesPlaces 32 (.iload_n 2) 1 33 := ⟨by decide +kernel, rfl⟩
theorem e_X11_takesPlaces_33 : g_dc cX11_takesPlaces 33 (.bipush 10) 2 35 := ⟨by decide +kernel, rfl⟩
theorem e_X11_takesPlaces_35 : g_dc cX11_takesPlaces 35 (.if_icmp .ge 43) 3 38 := ⟨by decide +kernel, rfl⟩
theorem e_X11_takesPlaces_38 : g_dc cX11_takesPlaces 38 (.aload_n 0) 1 39 := ⟨by decide +kernel, rfl⟩
theorem e_X11_takesPlaces_39 : g_dc cX11_takesPlaces 39 (.getfield 172) 3 42 := ⟨by decide +kernel, rfl⟩
theorem e_X11_takesPlaces_42 : g_dc cX11_takesPlaces 42 (.iload_n 2) 1 43 := ⟨by decide +kernel, rfl⟩
theorem e_X11_takesPlaces_43 : g_dc cX11_takesPlaces 43 (.invokestatic 175) 3 46 := ⟨by decide +kernel, rfl⟩
theorem e_X11_takesPlaces_46 : g_dc cX11_takesPlaces 46 (.ifCond .ne 6) 3 49 := ⟨by decide +kernel, rfl⟩
theorem e_X11_takesPlaces_49 : g_dc cX11_takesPlaces 49 (.goto 23) 3 52 := ⟨by decide +kernel, rfl⟩
theorem e_X11_takesPlaces_52 : g_dc cX11_takesPlaces 52 (.aload_n 0) 1 53 := ⟨by decide +kernel, rfl⟩
theorem e_X11_takesPlaces_53 : g_dc cX11_takesPlaces 53 (.getfield 128) 3 56 := ⟨by decide +kernel, rfl⟩
theorem e_X11_takesPlaces_56 : g_dc cX11_takesPlaces 56 (.iload_n 2) 1 57 := ⟨by decide +kernel, rfl⟩
theorem e_X11_takesPlaces_57 : g_dc cX11_takesPlaces 57 (.aload_n 0) 1 58 := ⟨by decide +kernel, rfl⟩
theorem e_X11_takesPlaces_58 : g_dc cX11_takesPlaces 58 (.getfield 34) 3 61 := ⟨by decide +kernel, rfl⟩
theorem e_X11_takesPlaces_61 : g_dc cX11_takesPlaces 61 (.iload_n 1) 1 62 := ⟨by decide +kernel, rfl⟩
theorem e_X11_takesPlaces_62 : g_dc cX11_takesPlaces 62 (.baload) 1 63 := ⟨by decide +kernel, rfl⟩
theorem e_X11_takesPlaces_63 : g_dc cX11_takesPlaces 63 (.sipush 255) 3 66 := ⟨by decide +kernel, rfl⟩
theorem e_X11_takesPlaces_66 : g_dc cX11_takesPlaces 66 (.iand) 1 67 := ⟨by decide +kernel, rfl⟩
theorem e_X11_takesPlaces_67 : g_dc cX11_takesPlaces 67 (.iastore) 1 68 := ⟨by decide +kernel, rfl⟩
theorem e_X11_takesPlaces_68 : g_dc cX11_takesPlaces 68 (.iload_n 1) 1 69 := ⟨by decide +kernel, rfl⟩
theorem e_X11_takesPlaces_69 : g_dc cX11_takesPlaces 69 (.iconst 1) 1 70 := ⟨by decide +kernel, rfl⟩
theorem e_X11_takesPlaces_70 : g_dc cX11_takesPlaces 70 (.iadd) 1 71 := ⟨by decide +kernel, rfl⟩
theorem e_X11_takesPlaces_71 : g_dc cX11_takesPlaces 71 (.istore_n 1) 1 72 := ⟨by decide +kernel, rfl⟩
theorem e_X11_takesPlaces_72 : g_dc cX11_takesPlaces 72 (.iinc 2 1) 3 75 := ⟨by decide +kernel, rfl⟩
theorem e_X11_takesPlaces_75 : g_dc cX11_takesPlaces 75 (.goto (-43)) 3 78 := ⟨by decide +kernel, rfl⟩
theorem e_X11_takesPlaces_78 : g_dc cX11_takesPlaces 78 (.iconst 1) 1 79 := ⟨by decide +kernel, rfl⟩
theorem e_X11_takesPlaces_79 : g_dc cX11_takesPlaces 79 (.ireturn) 1 80 := ⟨by decide +kernel, rfl⟩
def md_X11_takesPlaces : List Nat := [14]
def mr_X11_takesPlaces : List Nat := [40]
set_option maxHeartbeats 4000000 in
set_option maxRecDepth 100000 in
theorem w_X11_takesPlaces (l : Launch) (X : gX) (ad : Nat → Nat) (F : Nat → Int32) (R : Nat → Nat → Int32) (hI : g_ok LK_wM F) (hA : g_okR LA_wM R) (hWT : WT F R) (hWC : WC F R) : g_Ci l X yX11_takesPlaces cX11_takesPlaces 3 (some .boolean) 2 0 0 [.ref (ad 0)] (wM X ad F R) (fun r w => ∃ (F' : Nat → Int32) (R' : Nat → Nat → Int32), w = wM X ad F' R' ∧ g_ok LK_wM F' ∧ g_okR LA_wM R' ∧ WT F' R' ∧ WC F' R' ∧ g_fr md_X11_takesPlaces F F' ∧ g_fr mr_X11_takesPlaces R R' ∧ jv 0 1 r ∧ (r, F', R') = sp_X11_takesPlaces F R) := by
  refine g_mi (by decide +kernel) (Nat.le_of_ble_eq_true rfl) (fun E cx hret => ?_)
  obtain ⟨SP, hSP⟩ : ∃ z, z = sp_X11_takesPlaces F R := ⟨_, rfl⟩
  have hk0 := hSP
  unfold sp_X11_takesPlaces at hk0
  refine g_aload_n cx 0 rfl e_X11_takesPlaces_0 ?_
  refine g_get cx cl_X11 fl_X11_172 0 (.int (F 4)) e_X11_takesPlaces_1 rfl rfl ?_
  have J21 : (SP = K_X11_takesPlaces_21 F R) → G X E 3 0 0 (wM X ad F R) [] 21 [] := by
    intro   hkJ21
    unfold K_X11_takesPlaces_21 at hkJ21
    refine g_iconst cx 0 (by decide) e_X11_takesPlaces_21 ?_
    exact hret e_X11_takesPlaces_22 (Nat.le_of_ble_eq_true rfl) (Nat.le_of_ble_eq_true rfl) rfl ⟨F, R, rfl, hI, hA, hWT, hWC, (g_fr_rf F), (g_fr_rf R), (jv_w (jv_k (x := 0) 0 (by decide)) (by decide)), (hkJ21.symm.trans hSP)⟩
  refine g_if_eq cx 21 e_X11_takesPlaces_4 (by decide) (fun zc1 => ?_) (fun zc1 => ?_)
  · have p2 := gn_eq 0 0 (gc_eq zc1) (jv_t (F 4)) (jv_k (x := 0) 0 (by decide)) (by decide)
    have hk3 := hk0.trans (if_pos zc1)
    refine g_lsub [] [] rfl ?_
    exact J21  hk3
  · have hk4 := hk0.trans (if_neg zc1)
    refine g_aload_n cx 0 rfl e_X11_takesPlaces_7 ?_
    refine g_get cx cl_X11 fl_X11_172 0 (.int (F 4)) e_X11_takesPlaces_8 rfl rfl ?_
    refine g_cSiW cx [.int (F 4)] [] (w_X11_bits l X ad F R hI hA (F 4)) ml_X11_410 yS_X11_bits rfl e_X11_takesPlaces_11 (by unfold g_rr; decide) (by decide) rfl (Nat.le_of_ble_eq_true rfl) (fun r5 w6 h7 => ?_)
    obtain ⟨rfl, pr5, zx8, hx9⟩ := h7
    have hk10 := k_ls hk4 hx9
    refine g_aload_n cx 0 rfl e_X11_takesPlaces_14 ?_
    refine g_get cx cl_X11 fl_X11_183 0 (.int (F 14)) e_X11_takesPlaces_15 rfl rfl ?_
    refine g_icmp_le cx 23 e_X11_takesPlaces_18 (by decide) (fun zc11 => ?_) (fun zc11 => ?_)
    · have hk12 := hk10.trans (if_pos zc11)
      refine g_aload_n cx 0 rfl e_X11_takesPlaces_23 ?_
      refine g_iconst cx 0 (by decide) e_X11_takesPlaces_24 ?_
      refine g_put cx cl_X11 fl_X11_183 0 (wM X ad (upd F 14 0) R) e_X11_takesPlaces_25 rfl rfl rfl rfl (Nat.le_of_ble_eq_true rfl) rfl ?_
      obtain ⟨F13, hF13⟩ : ∃ z, z = upd F 14 0 := ⟨_, rfl⟩
      rw [← hF13]
      have hk14 := k_ls hk12 hF13
      have oF13 : g_ok LK_wM F13 := by rw [hF13]; exact g_ok_p hI (jv_k (x := 0) 0 (by decide)) rfl
      have fF13 : g_fr md_X11_takesPlaces F F13 := by rw [hF13]; exact g_fr_u (g_fr_rf F) rfl
      have wTF13 : WT F13 R := by rw [hF13]; exact WT_u hWT rfl
      have wCF13 : WC F13 R := by rw [hF13]; exact WC_u hWC rfl
      refine g_iconst cx 0 (by decide) e_X11_takesPlaces_28 ?_
      refine g_istore_n cx [(1, .int 0), (0, .ref (ad 0))] e_X11_takesPlaces_29 (by decide) rfl ?_
      refine g_iconst cx 0 (by decide) e_X11_takesPlaces_30 ?_
      refine g_istore_n cx [(2, .int 0), (1, .int 0), (0, .ref (ad 0))] e_X11_takesPlaces_31 (by decide) rfl ?_
      have J32 : ∀ (N : Nat) (R17 : Nat → Nat → Int32) (y15 : Int32) (y16 : Int32), (g_okR LA_wM R17) → (g_fr mr_X11_takesPlaces R R17) → (WT F13 R17) → (WC F13 R17) → (jv 0 10 y15) → (jv 0 10 y16) → (0 ≤ (y15 : Int32).toInt ∧ (y15 : Int32).toInt ≤ (y16 : Int32).toInt) → (SP = K_X11_takesPlaces_32 F F13 N R17 y15 y16) → (2147483647 - y16.toInt).toNat < N → G X E 3 0 0 (wM X ad F13 R17) [(0, .ref (ad 0)), (1, .int y15), (2, .int y16)] 32 [] := by
        intro N
        induction N with
        | zero => intro R17 y15 y16 oR17 fR17 wTR17 wCR17 py15 py16 zi32_0 hkJ32 hm; exact absurd hm (Nat.not_lt_zero _)
        | succ N ih32 =>
          intro R17 y15 y16 oR17 fR17 wTR17 wCR17 py15 py16 zi32_0 hkJ32 hm32
          have hkK32 : SP = KB_X11_takesPlaces_32 (K_X11_takesPlaces_32 F F13 N) F F13 R17 y15 y16 := hkJ32
          obtain ⟨b32, hb32⟩ : ∃ z, z = K_X11_takesPlaces_32 F F13 N := ⟨_, rfl⟩
          rw [← hb32] at hkK32
          unfold KB_X11_takesPlaces_32 at hkK32
          have p18 : jv 0 10 y15 := ⟨by have q0 := py15.1; have q1 := py15.2; have q2 := py16.1; have q3 := py16.2; have q4 := zi32_0; omega, by have q0 := py15.1; have q1 := py15.2; have q2 := py16.1; have q3 := py16.2; have q4 := zi32_0; omega⟩
          refine g_iload_n cx 2 rfl e_X11_takesPlaces_32 ?_
          refine g_bipush cx 10 (by decide) e_X11_takesPlaces_33 ?_
          refine g_icmp_ge cx 78 e_X11_takesPlaces_35 (by decide) (fun zc19 => ?_) (fun zc19 => ?_)
          · have p20 := gn_ge 10 10 (gc_le zc19) py16 (jv_k (x := 10) 10 (by decide)) (by decide)
            have hk21 := hkK32.trans (if_pos zc19)
            refine g_iconst cx 1 (by decide) e_X11_takesPlaces_78 ?_
            exact hret e_X11_takesPlaces_79 (Nat.le_of_ble_eq_true rfl) (Nat.le_of_ble_eq_true rfl) rfl ⟨F13, R17, rfl, oF13, oR17, wTR17, wCR17, fF13, fR17, (jv_w (jv_k (x := 1) 1 (by decide)) (by decide)), (hk21.symm.trans hSP)⟩
          · have p22 := gn_lt 0 9 (gc_nle zc19) py16 (jv_k (x := 10) 10 (by decide)) (by decide)
            have hk23 := hkK32.trans (if_neg zc19)
            refine g_aload_n cx 0 rfl e_X11_takesPlaces_38 ?_
            refine g_get cx cl_X11 fl_X11_172 0 (.int (F13 4)) e_X11_takesPlaces_39 rfl rfl ?_
            refine g_toi (F 4) (g_pu2 hF13 rfl) ?_
            refine g_iload_n cx 2 rfl e_X11_takesPlaces_42 ?_
            refine g_cSiW cx [.int (F 4), .int y16] [] (c_X11_has l X (wM X ad F13 R17) (F 4) y16) ml_X11_175 yS_X11_has rfl e_X11_takesPlaces_43 (by unfold g_rr; decide) (by decide) rfl (Nat.le_of_ble_eq_true rfl) (fun r24 w25 h26 => ?_)
            obtain ⟨rfl, hr24⟩ := h26
            have pr24 : jv 0 1 r24 := by rcases hr24 with q | q <;> rw [q.1] <;> exact ⟨by decide, by decide⟩
            have hk27 := k_ls hk23 (g_has_e hr24)
            have J72 : ∀ (R29 : Nat → Nat → Int32) (y28 : Int32), (g_okR LA_wM R29) → (g_fr mr_X11_takesPlaces R R29) → (WT F13 R29) → (WC F13 R29) → (jv 0 11 y28) → (0 ≤ (y28 : Int32).toInt ∧ (y28 : Int32).toInt ≤ (y16 : Int32).toInt + 1) → (SP = K_X11_takesPlaces_72 b32 y16 R29 y28) → G X E 3 0 0 (wM X ad F13 R29) [(0, .ref (ad 0)), (1, .int y28), (2, .int y16)] 72 [] := by
              intro R29 y28 oR29 fR29 wTR29 wCR29 py28 zi72_0 hkJ72
              unfold K_X11_takesPlaces_72 at hkJ72
              have p30 : jv 0 10 y28 := ⟨by have q0 := (jv_k (x := 10) 10 (by decide)).1; have q1 := (jv_k (x := 10) 10 (by decide)).2; have q2 := p18.1; have q3 := p18.2; have q4 := p22.1; have q5 := p22.2; have q6 := py28.1; have q7 := py28.2; have q8 := zi32_0; have q9 := (gc_nle zc19); have q10 := zi72_0; omega, by have q0 := (jv_k (x := 10) 10 (by decide)).1; have q1 := (jv_k (x := 10) 10 (by decide)).2; have q2 := p18.1; have q3 := p18.2; have q4 := p22.1; have q5 := p22.2; have q6 := py28.1; have q7 := py28.2; have q8 := zi32_0; have q9 := (gc_nle zc19); have q10 := zi72_0; omega⟩
              obtain ⟨x31, ex31⟩ : ∃ z : Int32, z = y16 + Int32.ofInt 1 := ⟨_, rfl⟩
              have hk32 := k_ls hkJ72 (show x31 = y16 + 1 from ex31)
              refine g_iinc cx x31 [(2, .int x31), (0, .ref (ad 0)), (1, .int y28)] 2 e_X11_takesPlaces_72 rfl ex31.symm (by decide) rfl ?_
              have zx31 := jv_add 1 10 (show x31 = y16 + 1 from ex31) p22 (jv_k (x := 1) 1 (by decide)) (by decide)
              refine g_goto cx 32 e_X11_takesPlaces_75 (by decide) ?_
              refine g_lsub [1, 2, 0] [(0, .ref (ad 0)), (1, .int y28), (2, .int x31)] rfl ?_
              exact ih32 R29 y28 x31 oR29 fR29 wTR29 wCR29 p30 (jv_w zx31.2 (by decide)) (by have q0 := (jv_k (x := 1) 1 (by decide)).1; have q1 := (jv_k (x := 1) 1 (by decide)).2; have q2 := (jv_k (x := 10) 10 (by decide)).1; have q3 := (jv_k (x := 10) 10 (by decide)).2; have q4 := zx31.2.1; have q5 := zx31.2.2; have q6 := p18.1; have q7 := p18.2; have q8 := p22.1; have q9 := p22.2; have q10 := p30.1; have q11 := p30.2; have q12 := zi32_0; have q13 := (gc_nle zc19); have q14 := zi72_0; have q15 := (g_eq0 zx31.1); omega) (hk32.trans (by rw [hb32])) (Nat.lt_of_lt_of_le (show (2147483647 - x31.toInt).toNat < (2147483647 - y16.toInt).toNat from by have q0 := (jv_k (x := 1) 1 (by decide)).1; have q1 := (jv_k (x := 1) 1 (by decide)).2; have q2 := (jv_k (x := 10) 10 (by decide)).1; have q3 := (jv_k (x := 10) 10 (by decide)).2; have q4 := zx31.2.1; have q5 := zx31.2.2; have q6 := p18.1; have q7 := p18.2; have q8 := p22.1; have q9 := p22.2; have q10 := p30.1; have q11 := p30.2; have q12 := zi32_0; have q13 := (gc_nle zc19); have q14 := zi72_0; have q15 := (g_eq0 zx31.1); omega) (Nat.le_of_lt_succ hm32))
            refine g_if_ne cx 52 e_X11_takesPlaces_46 (by decide) (fun zc33 => ?_) (fun zc33 => ?_)
            · have p34 := gn_neL 1 1 (gc_ne zc33) pr24 (jv_k (x := 0) 0 (by decide)) (by decide)
              have zb35 : hb (F 4) y16 := g_hasy hr24 zc33
              have hk36 := hk27.trans (if_neg zc33)
              refine g_aload_n cx 0 rfl e_X11_takesPlaces_52 ?_
              refine g_get cx cl_X11 fl_X11_128 0 (.ref (ad 40)) e_X11_takesPlaces_53 rfl rfl ?_
              refine g_iload_n cx 2 rfl e_X11_takesPlaces_56 ?_
              refine g_aload_n cx 0 rfl e_X11_takesPlaces_57 ?_
              refine g_get cx cl_X11 fl_X11_34 0 (.ref (ad 9)) e_X11_takesPlaces_58 rfl rfl ?_
              refine g_iload_n cx 1 rfl e_X11_takesPlaces_61 ?_
              refine g_bald cx 9 e_X11_takesPlaces_62 rfl (jv_ix 220 p18 (by decide)) ?_
              refine g_topi (fun x37 ex37 => ?_)
              have hk38 := k_ls hk36 ex37
              refine g_sipush cx 255 (by decide) e_X11_takesPlaces_63 ?_
              refine g_iand cx e_X11_takesPlaces_66 ?_
              refine g_topi (fun x39 ex39 => ?_)
              have hk40 := k_ls hk38 ex39
              have px39 := jv_and 0 255 ex39 (jv_k (x := 255) 255 (by decide)) (by decide)
              refine g_iast cx 40 (wM X ad F13 (g_u R17 40 (upd (R17 40) (Int32.toNatClampNeg y16) x39))) e_X11_takesPlaces_67 rfl (jv_ix 10 p22 (by decide)) rfl ?_
              obtain ⟨R41, hR41⟩ : ∃ z, z = g_u R17 40 (upd (R17 40) (Int32.toNatClampNeg y16) x39) := ⟨_, rfl⟩
              rw [← hR41]
              have hk42 := k_ls hk40 hR41
              have oR41 : g_okR LA_wM R41 := by rw [hR41]; exact g_okR_u oR17 rfl
              have fR41 : g_fr mr_X11_takesPlaces R R41 := by rw [hR41]; exact g_fr_r fR17 rfl
              have wTR41 : WT F13 R41 := by rw [hR41]; exact WT_r wTR17 rfl
              have wCR41 : WC F13 R41 := by rw [hR41]; exact WC_r wCR17 rfl
              refine g_iload_n cx 1 rfl e_X11_takesPlaces_68 ?_
              refine g_iconst cx 1 (by decide) e_X11_takesPlaces_69 ?_
              refine g_iadd cx e_X11_takesPlaces_70 ?_
              refine g_topi (fun x43 ex43 => ?_)
              have hk44 := k_ls hk42 ex43
              have zx43 := jv_add 1 11 ex43 p18 (jv_k (x := 1) 1 (by decide)) (by decide)
              refine g_istore_n cx [(1, .int x43), (0, .ref (ad 0)), (2, .int y16)] e_X11_takesPlaces_71 (by decide) rfl ?_
              refine g_lsub [1, 0, 2] [(0, .ref (ad 0)), (1, .int x43), (2, .int y16)] rfl ?_
              exact J72 R41 x43 oR41 fR41 wTR41 wCR41 (jv_w zx43.2 (by decide)) (by have q0 := (jv_k (x := 1) 1 (by decide)).1; have q1 := (jv_k (x := 1) 1 (by decide)).2; have q2 := (jv_k (x := 10) 10 (by decide)).1; have q3 := (jv_k (x := 10) 10 (by decide)).2; have q4 := zx43.2.1; have q5 := zx43.2.2; have q6 := p18.1; have q7 := p18.2; have q8 := p22.1; have q9 := p22.2; have q10 := zi32_0; have q11 := (gc_nle zc19); have q12 := (g_eq0 zx43.1); omega) hk44
            · have p45 := gn_eq 0 0 (gc_eq zc33) pr24 (jv_k (x := 0) 0 (by decide)) (by decide)
              have hk46 := hk27.trans (if_pos zc33)
              refine g_goto cx 72 e_X11_takesPlaces_49 (by decide) ?_
              exact J72 R17 y15 oR17 fR17 wTR17 wCR17 (jv_w p18 (by decide)) (by have q0 := (jv_k (x := 10) 10 (by decide)).1; have q1 := (jv_k (x := 10) 10 (by decide)).2; have q2 := p18.1; have q3 := p18.2; have q4 := p22.1; have q5 := p22.2; have q6 := zi32_0; have q7 := (gc_nle zc19); omega) hk46
      refine g_lsub [2, 1, 0] [(0, .ref (ad 0)), (1, .int 0), (2, .int 0)] rfl ?_
      exact J32 8589934592 R 0 0 hA (g_fr_rf R) wTF13 wCF13 (jv_w (jv_k (x := 0) 0 (by decide)) (by decide)) (jv_w (jv_k (x := 0) 0 (by decide)) (by decide)) (by have q0 := (jv_k (x := 0) 0 (by decide)).1; have q1 := (jv_k (x := 0) 0 (by decide)).2; have q2 := (jv_t (F 4)).1; have q3 := (jv_t (F 4)).2; have q4 := (gc_ne zc1); omega) hk14 (show (2147483647 - (0 : Int32).toInt).toNat < 8589934592 from by have q0 := (jv_k (x := 0) 0 (by decide)).1; have q1 := (jv_k (x := 0) 0 (by decide)).2; omega)
    · have p47 := gn_lt 0 9 (gc_nle zc11) (g_ok_g hI 0 rfl) pr5 (by decide)
      have p48 := gn_gt 1 10 (gc_nle zc11) pr5 (g_ok_g hI 0 rfl) (by decide)
      have hk49 := hk10.trans (if_neg zc11)
      refine g_lsub [] [] rfl ?_
      exact J21  hk49
def K_X11_fits_52 (b2 : (Int32) → Int32) (y1 : Int32)  : Int32 :=
  k_lt (y1 + 1) (fun x11 => b2 x11)
def K_X11_fits_47 (b2 : (Int32) → Int32) (x19 : Int32) (y1 : Int32) (y23 : Int32) : Int32 :=
  if x19 = y23 then K_X11_fits_52 b2 y1 else 0
def KB_X11_fits_2 (b2 : (Int32) → Int32) (F : Nat → Int32) (R : Nat → Nat → Int32) (y1 : Int32) : Int32 :=
  if 10 ≤ y1 then 1 else k_lt (g_hasv (F 4) y1) (fun r7 => if r7 = 0 then K_X11_fits_52 b2 y1 else k_lt (R 40 (Int32.toNatClampNeg y1)) (fun x19 => k_lt (R 28 (Int32.toNatClampNeg y1)) (fun x21 => if x21 = 2 then K_X11_fits_47 b2 x19 y1 255 else k_lt (R 26 (Int32.toNatClampNeg y1)) (fun x29 => K_X11_fits_47 b2 x19 y1 x29))))
def K_X11_fits_2 (F : Nat → Int32) (R : Nat → Nat → Int32) : Nat → (Int32) → Int32
  | 0 => fun _ => 0
  | n + 1 => KB_X11_fits_2 (K_X11_fits_2 F R n) F R
def sp_X11_fits (F : Nat → Int32) (R : Nat → Nat → Int32) : Int32 :=
  K_X11_fits_2 F R 8589934592 0
theorem e_X11_fits_0 : g_dc cX11_fits 0 (.iconst 0) 1 1 := ⟨by decide +kernel, rfl⟩
theorem e_X11_fits_1 : g_dc cX11_fits 1 (.istore_n 1) 1 2 := ⟨by decide +kernel, rfl⟩
theorem e_X11_fits_2 : g_dc cX11_fits 2 (.iload_n 1) 1 3 := ⟨by decide +kernel, rfl⟩
theorem e_X11_fits_3 : g_dc cX11_fits 3 (.bipush 10) 2 5 := ⟨by decide +kernel, rfl⟩
theorem e_X11_fits_5 : g_dc cX11_fits 5 (.if_icmp .ge 53) 3 8 := ⟨by decide +kernel, rfl⟩
theorem e_X11_fits_8 : g_dc cX11_fits 8 (.aload_n 0) 1 9 := ⟨by decide +kernel, rfl⟩
theorem e_X11_fits_9 : g_dc cX11_fits 9 (.getfield 172) 3 12 := ⟨by decide +kernel, rfl⟩
theorem e_X11_fits_12 : g_dc cX11_fits 12 (.iload_n 1) 1 13 := ⟨by decide +kernel, rfl⟩
theorem e_X11_fits_13 : g_dc cX11_fits 13 (.invokestatic 175) 3 16 := ⟨by decide +kernel, rfl⟩
theorem e_X11_fits_16 : g_dc cX11_fits 16 (.ifCond .eq 36) 3 19 := ⟨by decide +kernel, rfl⟩
theorem e_X11_fits_19 : g_dc cX11_fits 19 (.aload_n 0) 1 20 := ⟨by decide +kernel, rfl⟩
theorem e_X11_fits_20 : g_dc cX11_fits 20 (.getfield 128) 3 23 := ⟨by decide +kernel, rfl⟩
theorem e_X11_fits_23 : g_dc cX11_fits 23 (.iload_n 1) 1 24 := ⟨by decide +kernel, rfl⟩
theorem e_X11_fits_24 : g_dc cX11_fits 24 (.iaload) 1 25 := ⟨by decide +kernel, rfl⟩
theorem e_X11_fits_25 : g_dc cX11_fits 25 (.aload_n 0) 1 26 := ⟨by decide +kernel, rfl⟩
theorem e_X11_fits_26 : g_dc cX11_fits 26 (.getfield 92) 3 29 := ⟨by decide +kernel, rfl⟩
theorem e_X11_fits_29 : g_dc cX11_fits 29 (.iload_n 1) 1 30 := ⟨by decide +kernel, rfl⟩
theorem e_X11_fits_30 : g_dc cX11_fits 30 (.iaload) 1 31 := ⟨by decide +kernel, rfl⟩
theorem e_X11_fits_31 : g_dc cX11_fits 31 (.iconst 2) 1 32 := ⟨by decide +kernel, rfl⟩
theorem e_X11_fits_32 : g_dc cX11_fits 32 (.if_icmp .ne 9) 3 35 := ⟨by decide +kernel, rfl⟩
theorem e_X11_fits_35 : g_dc cX11_fits 35 (.sipush 255) 3 38 := ⟨by decide +kernel, rfl⟩
theorem e_X11_fits_38 : g_dc cX11_fits 38 (.goto 9) 3 41 := ⟨by decide +kernel, rfl⟩
theorem e_X11_fits_41 : g_dc cX11_fits 41 (.aload_n 0) 1 42 := ⟨by decide +kernel, rfl⟩
theorem e_X11_fits_42 : g_dc cX11_fits 42 (.getfield 86) 3 45 := ⟨by decide +kernel, rfl⟩
theorem e_X11_fits_45 : g_dc cX11_fits 45 (.iload_n 1) 1 46 := ⟨by decide +kernel, rfl⟩
theorem e_X11_fits_46 : g_dc cX11_fits 46 (.iaload) 1 47 := ⟨by decide +kernel, rfl⟩
theorem e_X11_fits_47 : g_dc cX11_fits 47 (.if_icmp .eq 5) 3 50 := ⟨by decide +kernel, rfl⟩
theorem e_X11_fits_50 : g_dc cX11_fits 50 (.iconst 0) 1 51 := ⟨by decide +kernel, rfl⟩
theorem e_X11_fits_51 : g_dc cX11_fits 51 (.ireturn) 1 52 := ⟨by decide +kernel, rfl⟩
theorem e_X11_fits_52 : g_dc cX11_fits 52 (.iinc 1 1) 3 55 := ⟨by decide +kernel, rfl⟩
theorem e_X11_fits_55 : g_dc cX11_fits 55 (.goto (-53)) 3 58 := ⟨by decide +kernel, rfl⟩
theorem e_X11_fits_58 : g_dc cX11_fits 58 (.iconst 1) 1 59 := ⟨by decide +kernel, rfl⟩
theorem e_X11_fits_59 : g_dc cX11_fits 59 (.ireturn) 1 60 := ⟨by decide +kernel, rfl⟩
set_option maxHeartbeats 4000000 in
set_option maxRecDepth 100000 in
theorem w_X11_fits (l : Launch) (X : gX) (ad : Nat → Nat) (F : Nat → Int32) (R : Nat → Nat → Int32) (hI : g_ok LK_wM F) (hA : g_okR LA_wM R) (hWT : WT F R) (hWC : WC F R) : g_Ci l X yX11_fits cX11_fits 2 (some .boolean) 2 0 0 [.ref (ad 0)] (wM X ad F R) (fun r w => w = wM X ad F R ∧ jv 0 1 r ∧ r = sp_X11_fits F R) := by
  refine g_mi (by decide +kernel) (Nat.le_of_ble_eq_true rfl) (fun E cx hret => ?_)
  obtain ⟨SP, hSP⟩ : ∃ z, z = sp_X11_fits F R := ⟨_, rfl⟩
  have hk0 := hSP
  unfold sp_X11_fits at hk0
  refine g_iconst cx 0 (by decide) e_X11_fits_0 ?_
  refine g_istore_n cx [(1, .int 0), (0, .ref (ad 0))] e_X11_fits_1 (by decide) rfl ?_
  have J2 : ∀ (N : Nat) (y1 : Int32), (jv 0 10 y1) → (SP = K_X11_fits_2 F R N y1) → (2147483647 - y1.toInt).toNat < N → G X E 2 0 0 (wM X ad F R) [(0, .ref (ad 0)), (1, .int y1)] 2 [] := by
    intro N
    induction N with
    | zero => intro y1 py1 hkJ2 hm; exact absurd hm (Nat.not_lt_zero _)
    | succ N ih2 =>
      intro y1 py1 hkJ2 hm2
      have hkK2 : SP = KB_X11_fits_2 (K_X11_fits_2 F R N) F R y1 := hkJ2
      obtain ⟨b2, hb2⟩ : ∃ z, z = K_X11_fits_2 F R N := ⟨_, rfl⟩
      rw [← hb2] at hkK2
      unfold KB_X11_fits_2 at hkK2
      refine g_iload_n cx 1 rfl e_X11_fits_2 ?_
      refine g_bipush cx 10 (by decide) e_X11_fits_3 ?_
      refine g_icmp_ge cx 58 e_X11_fits_5 (by decide) (fun zc2 => ?_) (fun zc2 => ?_)
      · have p3 := gn_ge 10 10 (gc_le zc2) py1 (jv_k (x := 10) 10 (by decide)) (by decide)
        have hk4 := hkK2.trans (if_pos zc2)
        refine g_iconst cx 1 (by decide) e_X11_fits_58 ?_
        exact hret e_X11_fits_59 (Nat.le_of_ble_eq_true rfl) (Nat.le_of_ble_eq_true rfl) rfl ⟨rfl, (jv_w (jv_k (x := 1) 1 (by decide)) (by decide)), (hk4.symm.trans hSP)⟩
      · have p5 := gn_lt 0 9 (gc_nle zc2) py1 (jv_k (x := 10) 10 (by decide)) (by decide)
        have hk6 := hkK2.trans (if_neg zc2)
        refine g_aload_n cx 0 rfl e_X11_fits_8 ?_
        refine g_get cx cl_X11 fl_X11_172 0 (.int (F 4)) e_X11_fits_9 rfl rfl ?_
        refine g_iload_n cx 1 rfl e_X11_fits_12 ?_
        refine g_cSiW cx [.int (F 4), .int y1] [] (c_X11_has l X (wM X ad F R) (F 4) y1) ml_X11_175 yS_X11_has rfl e_X11_fits_13 (by unfold g_rr; decide) (by decide) rfl (Nat.le_of_ble_eq_true rfl) (fun r7 w8 h9 => ?_)
        obtain ⟨rfl, hr7⟩ := h9
        have pr7 : jv 0 1 r7 := by rcases hr7 with q | q <;> rw [q.1] <;> exact ⟨by decide, by decide⟩
        have hk10 := k_ls hk6 (g_has_e hr7)
        have J52 : (SP = K_X11_fits_52 b2 y1) → G X E 2 0 0 (wM X ad F R) [(0, .ref (ad 0)), (1, .int y1)] 52 [] := by
          intro   hkJ52
          unfold K_X11_fits_52 at hkJ52
          obtain ⟨x11, ex11⟩ : ∃ z : Int32, z = y1 + Int32.ofInt 1 := ⟨_, rfl⟩
          have hk12 := k_ls hkJ52 (show x11 = y1 + 1 from ex11)
          refine g_iinc cx x11 [(1, .int x11), (0, .ref (ad 0))] 1 e_X11_fits_52 rfl ex11.symm (by decide) rfl ?_
          have zx11 := jv_add 1 10 (show x11 = y1 + 1 from ex11) p5 (jv_k (x := 1) 1 (by decide)) (by decide)
          refine g_goto cx 2 e_X11_fits_55 (by decide) ?_
          refine g_lsub [1, 0] [(0, .ref (ad 0)), (1, .int x11)] rfl ?_
          exact ih2 x11 (jv_w zx11.2 (by decide)) (hk12.trans (by rw [hb2])) (Nat.lt_of_lt_of_le (show (2147483647 - x11.toInt).toNat < (2147483647 - y1.toInt).toNat from by have q0 := (jv_k (x := 1) 1 (by decide)).1; have q1 := (jv_k (x := 1) 1 (by decide)).2; have q2 := (jv_k (x := 10) 10 (by decide)).1; have q3 := (jv_k (x := 10) 10 (by decide)).2; have q4 := zx11.2.1; have q5 := zx11.2.2; have q6 := p5.1; have q7 := p5.2; have q8 := (gc_nle zc2); have q9 := (g_eq0 zx11.1); omega) (Nat.le_of_lt_succ hm2))
        refine g_if_eq cx 52 e_X11_fits_16 (by decide) (fun zc13 => ?_) (fun zc13 => ?_)
        · have p14 := gn_eq 0 0 (gc_eq zc13) pr7 (jv_k (x := 0) 0 (by decide)) (by decide)
          have hk15 := hk10.trans (if_pos zc13)
          exact J52  hk15
        · have p16 := gn_neL 1 1 (gc_ne zc13) pr7 (jv_k (x := 0) 0 (by decide)) (by decide)
          have zb17 : hb (F 4) y1 := g_hasy hr7 zc13
          have hk18 := hk10.trans (if_neg zc13)
          refine g_aload_n cx 0 rfl e_X11_fits_19 ?_
          refine g_get cx cl_X11 fl_X11_128 0 (.ref (ad 40)) e_X11_fits_20 rfl rfl ?_
          refine g_iload_n cx 1 rfl e_X11_fits_23 ?_
          refine g_iald cx 40 e_X11_fits_24 rfl (jv_ix 10 p5 (by decide)) ?_
          refine g_topi (fun x19 ex19 => ?_)
          have hk20 := k_ls hk18 ex19
          refine g_aload_n cx 0 rfl e_X11_fits_25 ?_
          refine g_get cx cl_X11 fl_X11_92 0 (.ref (ad 28)) e_X11_fits_26 rfl rfl ?_
          refine g_iload_n cx 1 rfl e_X11_fits_29 ?_
          refine g_iald cx 28 e_X11_fits_30 rfl (jv_ix 10 p5 (by decide)) ?_
          refine g_topi (fun x21 ex21 => ?_)
          have hk22 := k_ls hk20 ex21
          refine g_iconst cx 2 (by decide) e_X11_fits_31 ?_
          have J47 : ∀ (y23 : Int32), (jv (-2147483648) 2147483647 y23) → (SP = K_X11_fits_47 b2 x19 y1 y23) → G X E 2 0 0 (wM X ad F R) [(0, .ref (ad 0)), (1, .int y1)] 47 [.int y23, .int x19] := by
            intro y23 py23 hkJ47
            unfold K_X11_fits_47 at hkJ47
            refine g_icmp_eq cx 52 e_X11_fits_47 (by decide) (fun zc24 => ?_) (fun zc24 => ?_)
            · have hk25 := hkJ47.trans (if_pos zc24)
              exact J52  hk25
            · have hk26 := hkJ47.trans (if_neg zc24)
              refine g_iconst cx 0 (by decide) e_X11_fits_50 ?_
              exact hret e_X11_fits_51 (Nat.le_of_ble_eq_true rfl) (Nat.le_of_ble_eq_true rfl) rfl ⟨rfl, (jv_w (jv_k (x := 0) 0 (by decide)) (by decide)), (hk26.symm.trans hSP)⟩
          refine g_icmp_ne cx 41 e_X11_fits_32 (by decide) (fun zc27 => ?_) (fun zc27 => ?_)
          · have hk28 := hk22.trans (if_neg zc27)
            refine g_aload_n cx 0 rfl e_X11_fits_41 ?_
            refine g_get cx cl_X11 fl_X11_86 0 (.ref (ad 26)) e_X11_fits_42 rfl rfl ?_
            refine g_iload_n cx 1 rfl e_X11_fits_45 ?_
            refine g_iald cx 26 e_X11_fits_46 rfl (jv_ix 10 p5 (by decide)) ?_
            refine g_topi (fun x29 ex29 => ?_)
            have hk30 := k_ls hk28 ex29
            exact J47 x29 (jv_t x29) hk30
          · have p31 := gn_eq 2 2 (gc_eq zc27) (jv_t x21) (jv_k (x := 2) 2 (by decide)) (by decide)
            have hk32 := hk22.trans (if_pos zc27)
            refine g_sipush cx 255 (by decide) e_X11_fits_35 ?_
            refine g_goto cx 47 e_X11_fits_38 (by decide) ?_
            exact J47 255 (jv_w (jv_k (x := 255) 255 (by decide)) (by decide)) hk32
  refine g_lsub [1, 0] [(0, .ref (ad 0)), (1, .int 0)] rfl ?_
  exact J2 8589934592 0 (jv_w (jv_k (x := 0) 0 (by decide)) (by decide)) hk0 (show (2147483647 - (0 : Int32).toInt).toNat < 8589934592 from by have q0 := (jv_k (x := 0) 0 (by decide)).1; have q1 := (jv_k (x := 0) 0 (by decide)).2; omega)
def K_X11_wasWet_16  (F5 : Nat → Int32) (R6 : Nat → Nat → Int32) : Int32 × (Nat → Int32) × (Nat → Nat → Int32) :=
  ((-1), F5, R6)
def K_X11_wasWet_159 (F26 : Nat → Int32) (R27 : Nat → Nat → Int32) (y31 : Int32) : Int32 × (Nat → Int32) × (Nat → Nat → Int32) :=
  (y31, F26, R27)
def K_X11_wasWet_119 (b25 : (Nat → Int32) → (Nat → Nat → Int32) → (Int32) → (Int32) → (Int32) → Int32 × (Nat → Int32) × (Nat → Nat → Int32)) (y25 : Int32) (F61 : Nat → Int32) (R62 : Nat → Nat → Int32) (y59 : Int32) (y60 : Int32) : Int32 × (Nat → Int32) × (Nat → Nat → Int32) :=
  k_lt (y25 + 1) (fun x63 => b25 F61 R62 y59 y60 x63)
def K_X11_wasWet_114 (b25 : (Nat → Int32) → (Nat → Nat → Int32) → (Int32) → (Int32) → (Int32) → Int32 × (Nat → Int32) × (Nat → Nat → Int32)) (F100 : Nat → Int32) (R101 : Nat → Nat → Int32) (y23 : Int32) (y25 : Int32) (y111 : Int32) : Int32 × (Nat → Int32) × (Nat → Nat → Int32) :=
  k_lt (y23 + 1) (fun x112 => K_X11_wasWet_119 b25 y25 F100 R101 x112 y111)
def KB_X11_wasWet_25 (b25 : (Nat → Int32) → (Nat → Nat → Int32) → (Int32) → (Int32) → (Int32) → Int32 × (Nat → Int32) × (Nat → Nat → Int32)) (F : Nat → Int32) (a0 : Int32) (F26 : Nat → Int32) (R27 : Nat → Nat → Int32) (y23 : Int32) (y24 : Int32) (y25 : Int32) : Int32 × (Nat → Int32) × (Nat → Nat → Int32) :=
  if 100 ≤ y25 then if a0 = 0 then K_X11_wasWet_159 F26 R27 y23 else if y24 = (-1) then K_X11_wasWet_159 F26 R27 (-2) else if a0 = 1 then k_lt (y24 / 10) (fun x45 => K_X11_wasWet_159 F26 R27 x45) else k_lt (y24 - y24 / 10 * 10) (fun x41 => K_X11_wasWet_159 F26 R27 x41) else k_lt (y25 / 10) (fun x53 => k_lt (g_hasv (F 4) x53) (fun r55 => if r55 = 0 then K_X11_wasWet_119 b25 y25 F26 R27 y23 y24 else k_lt (R27 6 (Int32.toNatClampNeg x53)) (fun x71 => k_lt (y25 - y25 / 10 * 10) (fun x73 => if x71 = x73 then K_X11_wasWet_119 b25 y25 F26 R27 y23 y24 else k_lt2 (sp_X11_laysPull F26 R27) (fun F81 R82 => k_lt2 (sp_X11_laysThings F81 R82) (fun F89 R90 => k_lt (y25 - y25 / 10 * 10) (fun x92 => k_lt (g_u R90 30 (upd (R90 30) (Int32.toNatClampNeg x53) x92)) (fun R94 => k_lt2 (sp_X11_runs F89 R94) (fun F100 R101 => k_lt (sp_X11_fits F100 R101) (fun r103 => if r103 = 0 then K_X11_wasWet_119 b25 y25 F100 R101 y23 y24 else if y24 = (-1) then K_X11_wasWet_114 b25 F100 R101 y23 y25 y25 else K_X11_wasWet_114 b25 F100 R101 y23 y25 y24))))))))))
def K_X11_wasWet_25 (F : Nat → Int32) (a0 : Int32) : Nat → (Nat → Int32) → (Nat → Nat → Int32) → (Int32) → (Int32) → (Int32) → Int32 × (Nat → Int32) × (Nat → Nat → Int32)
  | 0 => fun F26 R27 _ _ _ => (0, F26, R27)
  | n + 1 => KB_X11_wasWet_25 (K_X11_wasWet_25 F a0 n) F a0
def sp_X11_wasWet (F : Nat → Int32) (R : Nat → Nat → Int32) (a0 : Int32) : Int32 × (Nat → Int32) × (Nat → Nat → Int32) :=
  k_lt (g_in a0 0 2) (fun r1 => if r1 = 0 then K_X11_wasWet_16 F R else k_lt3 (sp_X11_takesPlaces F R) (fun r13 F17 R18 => if r13 = 0 then K_X11_wasWet_16 F17 R18 else K_X11_wasWet_25 F a0 8589934592 F17 R18 0 (-1) 0))
theorem e_X11_wasWet_0 : g_dc cX11_wasWet 0 (.iload_n 1) 1 1 := ⟨by decide +kernel, rfl⟩
theorem e_X11_wasWet_1 : g_dc cX11_wasWet 1 (.iconst 0) 1 2 := ⟨by decide +kernel, rfl⟩
theorem e_X11_wasWet_2 : g_dc cX11_wasWet 2 (.iconst 2) 1 3 := ⟨by decide +kernel, rfl⟩
theorem e_X11_wasWet_3 : g_dc cX11_wasWet 3 (.invokestatic 165) 3 6 := ⟨by decide +kernel, rfl⟩
theorem e_X11_wasWet_6 : g_dc cX11_wasWet 6 (.ifCond .eq 10) 3 9 := ⟨by decide +kernel, rfl⟩
theorem e_X11_wasWet_9 : g_dc cX11_wasWet 9 (.aload_n 0) 1 10 := ⟨by decide +kernel, rfl⟩
theorem e_X11_wasWet_10 : g_dc cX11_wasWet 10 (.invokevirtual 471) 3 13 := ⟨by decide +kernel, rfl⟩
theorem e_X11_wasWet_13 : g_dc cX11_wasWet 13 (.ifCond .ne 5) 3 16 := ⟨by decide +kernel, rfl⟩
theorem e_X11_wasWet_16 : g_dc cX11_wasWet 16 (.iconst (-1)) 1 17 := ⟨by decide +kernel, rfl⟩
theorem e_X11_wasWet_17 : g_dc cX11_wasWet 17 (.ireturn) 1 18 := ⟨by decide +kernel, rfl⟩
theorem e_X11_wasWet_18 : g_dc cX11_wasWet 18 (.iconst 0) 1 19 := ⟨by decide +kernel, rfl⟩
theorem e_X11_wasWet_19 : g_dc cX11_wasWet 19 (.istore_n 2) 1 20 := ⟨by decide +kernel, rfl⟩
theorem e_X11_wasWet_20 : g_dc cX11_wasWet 20 (.iconst (-1)) 1 21 := ⟨by decide +kernel, rfl⟩
theorem e_X11_wasWet_21 : g_dc cX11_wasWet 21 (.istore_n 3) 1 22 := ⟨by decide +kernel, rfl⟩
theorem e_X11_wasWet_22 : g_dc cX11_wasWet 22 (.iconst 0) 1 23 := ⟨by decide +kernel, rfl⟩
theorem e_X11_wasWet_23 : g_dc cX11_wasWet 23 (.istore 4) 2 25 := ⟨by decide +kernel, rfl⟩
theorem e_X11_wasWet_25 : g_dc cX11_wasWet 25 (.iload 4) 2 27 := ⟨by decide +kernel, rfl⟩
theorem e_X11_wasWet_27 : g_dc cX11_wasWet 27 (.bipush 100) 2 29 := ⟨by decide +kernel, rfl⟩
theorem e_X11_wasWet_29 : g_dc cX11_wasWet 29 (.if_icmp .ge 96) 3 32 := ⟨by decide +kernel, rfl⟩
theorem e_X11_wasWet_32 : g_dc cX11_wasWet 32 (.iload 4) 2 34 := ⟨by decide +kernel, rfl⟩
theorem e_X11_wasWet_34 : g_dc cX11_wasWet 34 (.bipush 10) 2 36 := ⟨by decide +kernel, rfl⟩
theorem e_X11_wasWet_36 : g_dc cX11_wasWet 36 (.idiv) 1 37 := ⟨by decide +kernel, rfl⟩
theorem e_X11_wasWet_37 : g_dc cX11_wasWet 37 (.istore 5) 2 39 := ⟨by decide +kernel, rfl⟩
theorem e_X11_wasWet_39 : g_dc cX11_wasWet 39 (.aload_n 0) 1 40 := ⟨by decide +kernel, rfl⟩
theorem e_X11_wasWet_40 : g_dc cX11_wasWet 40 (.getfield 172) 3 43 := ⟨by decide +kernel, rfl⟩
theorem e_X11_wasWet_43 : g_dc cX11_wasWet 43 (.iload 5) 2 45 := ⟨by decide +kernel, rfl⟩
theorem e_X11_wasWet_45 : g_dc cX11_wasWet 45 (.invokestatic 175) 3 48 := ⟨by decide +kernel, rfl⟩
theorem e_X11_wasWet_48 : g_dc cX11_wasWet 48 (.ifCond .eq 71) 3 51 := ⟨by decide +kernel, rfl⟩
theorem e_X11_wasWet_51 : g_dc cX11_wasWet 51 (.aload_n 0) 1 52 := ⟨by decide +kernel, rfl⟩
theorem e_X11_wasWet_52 : g_dc cX11_wasWet 52 (.getfield 25) 3 55 := ⟨by decide +kernel, rfl⟩
theorem e_X11_wasWet_55 : g_dc cX11_wasWet 55 (.iload 5) 2 57 := ⟨by decide +kernel, rfl⟩
theorem e_X11_wasWet_57 : g_dc cX11_wasWet 57 (.iaload) 1 58 := ⟨by decide +kernel, rfl⟩
theorem e_X11_wasWet_58 : g_dc cX11_wasWet 58 (.iload 4) 2 60 := ⟨by decide +kernel, rfl⟩
theorem e_X11_wasWet_60 : g_dc cX11_wasWet 60 (.bipush 10) 2 62 := ⟨by decide +kernel, rfl⟩
theorem e_X11_wasWet_62 : g_dc cX11_wasWet 62 (.irem) 1 63 := ⟨by decide +kernel, rfl⟩
theorem e_X11_wasWet_63 : g_dc cX11_wasWet 63 (.if_icmp .ne 6) 3 66 := ⟨by decide +kernel, rfl⟩
theorem e_X11_wasWet_66 : g_dc cX11_wasWet 66 (.goto 53) 3 69 := ⟨by decide +kernel, rfl⟩
theorem e_X11_wasWet_69 : g_dc cX11_wasWet 69 (.aload_n 0) 1 70 := ⟨by decide +kernel, rfl⟩
theorem e_X11_wasWet_70 : g_dc cX11_wasWet 70 (.invokevirtual 422) 3 73 := ⟨by decide +kernel, rfl⟩
theorem e_X11_wasWet_73 : g_dc cX11_wasWet 73 (.aload_n 0) 1 74 := ⟨by decide +kernel, rfl⟩
theorem e_X11_wasWet_74 : g_dc cX11_wasWet 74 (.invokevirtual 425) 3 77 := ⟨by decide +kernel, rfl⟩
theorem e_X11_wasWet_77 : g_dc cX11_wasWet 77 (.aload_n 0) 1 78 := ⟨by decide +kernel, rfl⟩
theorem e_X11_wasWet_78 : g_dc cX11_wasWet 78 (.getfield 98) 3 81 := ⟨by decide +kernel, rfl⟩
theorem e_X11_wasWet_81 : g_dc cX11_wasWet 81 (.iload 5) 2 83 := ⟨by decide +kernel, rfl⟩
theorem e_X11_wasWet_83 : g_dc cX11_wasWet 83 (.iload 4) 2 85 := ⟨by decide +kernel, rfl⟩
theorem e_X11_wasWet_85 : g_dc cX11_wasWet 85 (.bipush 10) 2 87 := ⟨by decide +kernel, rfl⟩
theorem e_X11_wasWet_87 : g_dc cX11_wasWet 87 (.irem) 1 88 := ⟨by decide +kernel, rfl⟩
theorem e_X11_wasWet_88 : g_dc cX11_wasWet 88 (.iastore) 1 89 := ⟨by decide +kernel, rfl⟩
theorem e_X11_wasWet_89 : g_dc cX11_wasWet 89 (.aload_n 0) 1 90 := ⟨by decide +kernel, rfl⟩
theorem e_X11_wasWet_90 : g_dc cX11_wasWet 90 (.invokevirtual 428) 3 93 := ⟨by decide +kernel, rfl⟩
theorem e_X11_wasWet_93 : g_dc cX11_wasWet 93 (.aload_n 0) 1 94 := ⟨by decide +kernel, rfl⟩
theorem e_X11_wasWet_94 : g_dc cX11_wasWet 94 (.invokevirtual 474) 3 97 := ⟨by decide +kernel, rfl⟩
theorem e_X11_wasWet_97 : g_dc cX11_wasWet 97 (.ifCond .ne 6) 3 100 := ⟨by decide +kernel, rfl⟩
theorem e_X11_wasWet_100 : g_dc cX11_wasWet 100 (.goto 19) 3 103 := ⟨by decide +kernel, rfl⟩
theorem e_X11_wasWet_103 : g_dc cX11_wasWet 103 (.iload_n 3) 1 104 := ⟨by decide +kernel, rfl⟩
theorem e_X11_wasWet_104 : g_dc cX11_wasWet 104 (.iconst (-1)) 1 105 := ⟨by decide +kernel, rfl⟩
theorem e_X11_wasWet_105 : g_dc cX11_wasWet 105 (.if_icmp .ne 8) 3 108 := ⟨by decide +kernel, rfl⟩
theorem e_X11_wasWet_108 : g_dc cX11_wasWet 108 (.iload 4) 2 110 := ⟨by decide +kernel, rfl⟩
theorem e_X11_wasWet_110 : g_dc cX11_wasWet 110 (.goto 4) 3 113 := ⟨by decide +kernel, rfl⟩
theorem e_X11_wasWet_113 : g_dc cX11_wasWet 113 (.iload_n 3) 1 114 := ⟨by decide +kernel, rfl⟩
theorem e_X11_wasWet_114 : g_dc cX11_wasWet 114 (.istore_n 3) 1 115 := ⟨by decide +kernel, rfl⟩
theorem e_X11_wasWet_115 : g_dc cX11_wasWet 115 (.iload_n 2) 1 116 := ⟨by decide +kernel, rfl⟩
theorem e_X11_wasWet_116 : g_dc cX11_wasWet 116 (.iconst 1) 1 117 := ⟨by decide +kernel, rfl⟩
theorem e_X11_wasWet_117 : g_dc cX11_wasWet 117 (.iadd) 1 118 := ⟨by decide +kernel, rfl⟩
theorem e_X11_wasWet_118 : g_dc cX11_wasWet 118 (.istore_n 2) 1 119 := ⟨by decide +kernel, rfl⟩
theorem e_X11_wasWet_119 : g_dc cX11_wasWet 119 (.iinc 4 1) 3 122 := ⟨by decide +kernel, rfl⟩
theorem e_X11_wasWet_122 : g_dc cX11_wasWet 122 (.goto (-97)) 3 125 := ⟨by decide +kernel, rfl⟩
theorem e_X11_wasWet_125 : g_dc cX11_wasWet 125 (.iload_n 1) 1 126 := ⟨by decide +kernel, rfl⟩
theorem e_X11_wasWet_126 : g_dc cX11_wasWet 126 (.ifCond .ne 7) 3 129 := ⟨by decide +kernel, rfl⟩
theorem e_X11_wasWet_129 : g_dc cX11_wasWet 129 (.iload_n 2) 1 130 := ⟨by decide +kernel, rfl⟩
theorem e_X11_wasWet_130 : g_dc cX11_wasWet 130 (.goto 29) 3 133 := ⟨by decide +kernel, rfl⟩
theorem e_X11_wasWet_133 : g_dc cX11_wasWet 133 (.iload_n 3) 1 134 := ⟨by decide +kernel, rfl⟩
theorem e_X11_wasWet_134 : g_dc cX11_wasWet 134 (.iconst (-1)) 1 135 := ⟨by decide +kernel, rfl⟩
theorem e_X11_wasWet_135 : g_dc cX11_wasWet 135 (.if_icmp .ne 8) 3 138 := ⟨by decide +kernel, rfl⟩
theorem e_X11_wasWet_138 : g_dc cX11_wasWet 138 (.bipush (-2)) 2 140 := ⟨by decide +kernel, rfl⟩
theorem e_X11_wasWet_140 : g_dc cX11_wasWet 140 (.goto 19) 3 143 := ⟨by decide +kernel, rfl⟩
theorem e_X11_wasWet_143 : g_dc cX11_wasWet 143 (.iload_n 1) 1 144 := ⟨by decide +kernel, rfl⟩
theorem e_X11_wasWet_144 : g_dc cX11_wasWet 144 (.iconst 1) 1 145 := ⟨by decide +kernel, rfl⟩
theorem e_X11_wasWet_145 : g_dc cX11_wasWet 145 (.if_icmp .ne 10) 3 148 := ⟨by decide +kernel, rfl⟩
theorem e_X11_wasWet_148 : g_dc cX11_wasWet 148 (.iload_n 3) 1 149 := ⟨by decide +kernel, rfl⟩
theorem e_X11_wasWet_149 : g_dc cX11_wasWet 149 (.bipush 10) 2 151 := ⟨by decide +kernel, rfl⟩
theorem e_X11_wasWet_151 : g_dc cX11_wasWet 151 (.idiv) 1 152 := ⟨by decide +kernel, rfl⟩
theorem e_X11_wasWet_152 : g_dc cX11_wasWet 152 (.goto 7) 3 155 := ⟨by decide +kernel, rfl⟩
theorem e_X11_wasWet_155 : g_dc cX11_wasWet 155 (.iload_n 3) 1 156 := ⟨by decide +kernel, rfl⟩
theorem e_X11_wasWet_156 : g_dc cX11_wasWet 156 (.bipush 10) 2 158 := ⟨by decide +kernel, rfl⟩
theorem e_X11_wasWet_158 : g_dc cX11_wasWet 158 (.irem) 1 159 := ⟨by decide +kernel, rfl⟩
theorem e_X11_wasWet_159 : g_dc cX11_wasWet 159 (.ireturn) 1 160 := ⟨by decide +kernel, rfl⟩
def md_X11_wasWet : List Nat := [3, 14, 42, 43, 44, 45, 46, 47, 48, 49, 50, 51, 65, 66, 67, 68, 69]
def mr_X11_wasWet : List Nat := [23, 24, 25, 26, 27, 28, 29, 30, 31, 32, 33, 34, 35, 36, 37, 40]
set_option maxHeartbeats 4000000 in
set_option maxRecDepth 100000 in
theorem w_X11_wasWet (l : Launch) (X : gX) (ad : Nat → Nat) (F : Nat → Int32) (R : Nat → Nat → Int32) (hI : g_ok LK_wM F) (hA : g_okR LA_wM R) (hWT : WT F R) (hWC : WC F R) (a0 : Int32) : g_Ci l X yX11_wasWet cX11_wasWet 6 (some .int) 7 0 0 [.ref (ad 0), .int a0] (wM X ad F R) (fun r w => ∃ (F' : Nat → Int32) (R' : Nat → Nat → Int32), w = wM X ad F' R' ∧ g_ok LK_wM F' ∧ g_okR LA_wM R' ∧ WT F' R' ∧ WC F' R' ∧ g_fr md_X11_wasWet F F' ∧ g_fr mr_X11_wasWet R R' ∧ jv (-2147483648) 2147483647 r ∧ (r, F', R') = sp_X11_wasWet F R a0) := by
  refine g_mi (by decide +kernel) (Nat.le_of_ble_eq_true rfl) (fun E cx hret => ?_)
  obtain ⟨SP, hSP⟩ : ∃ z, z = sp_X11_wasWet F R a0 := ⟨_, rfl⟩
  have hk0 := hSP
  unfold sp_X11_wasWet at hk0
  refine g_iload_n cx 1 rfl e_X11_wasWet_0 ?_
  refine g_iconst cx 0 (by decide) e_X11_wasWet_1 ?_
  refine g_iconst cx 2 (by decide) e_X11_wasWet_2 ?_
  refine g_cSiW cx [.int a0, .int 0, .int 2] [] (c_X11_in l X (wM X ad F R) a0 0 2) ml_X11_165 yS_X11_in rfl e_X11_wasWet_3 (by unfold g_rr; decide) (by decide) rfl (Nat.le_of_ble_eq_true rfl) (fun r1 w2 h3 => ?_)
  obtain ⟨rfl, hr1⟩ := h3
  have pr1 : jv 0 1 r1 := by rw [hr1]; exact gi_01 _ _ _
  have hk4 := k_ls hk0 hr1
  have J16 : ∀ (F5 : Nat → Int32) (R6 : Nat → Nat → Int32), (g_ok LK_wM F5) → (g_fr md_X11_wasWet F F5) → (g_okR LA_wM R6) → (g_fr mr_X11_wasWet R R6) → (WT F5 R6) → (WC F5 R6) → (SP = K_X11_wasWet_16 F5 R6) → G X E 6 0 0 (wM X ad F5 R6) [] 16 [] := by
    intro F5 R6 oF5 fF5 oR6 fR6 wTF5R6 wCF5R6 hkJ16
    unfold K_X11_wasWet_16 at hkJ16
    refine g_iconst cx (-1) (by decide) e_X11_wasWet_16 ?_
    exact hret e_X11_wasWet_17 (Nat.le_of_ble_eq_true rfl) (Nat.le_of_ble_eq_true rfl) rfl ⟨F5, R6, rfl, oF5, oR6, wTF5R6, wCF5R6, fF5, fR6, (jv_w (jv_k (x := (-1)) (-1) (by decide)) (by decide)), (hkJ16.symm.trans hSP)⟩
  refine g_if_eq cx 16 e_X11_wasWet_6 (by decide) (fun zc7 => ?_) (fun zc7 => ?_)
  · have p8 := gn_eq 0 0 (gc_eq zc7) pr1 (jv_k (x := 0) 0 (by decide)) (by decide)
    have hk9 := hk4.trans (if_pos zc7)
    refine g_lsub [] [] rfl ?_
    exact J16 F R hI (g_fr_rf F) hA (g_fr_rf R) hWT hWC hk9
  · have p10 := gn_neL 1 1 (gc_ne zc7) pr1 (jv_k (x := 0) 0 (by decide)) (by decide)
    have p11 := jv_i 0 2 (jv_t a0) (gi_in (A := 0) (B := 2) hr1 zc7 (by decide) (by decide)) (by decide)
    have hk12 := hk4.trans (if_neg zc7)
    refine g_aload_n cx 0 rfl e_X11_wasWet_9 ?_
    refine g_cViW cx [] [] (w_X11_takesPlaces l X ad F R hI hA hWT hWC) ml_X11_471 yV_X11_takesPlaces e_X11_wasWet_10 (by unfold g_rr; decide) (by decide) 0 rfl rfl rfl (Nat.le_of_ble_eq_true rfl) (fun r13 w14 h15 => ?_)
    obtain ⟨F17, R18, rfl, oF17, oR18, wTF17, wCF17, cF17, cR18, pr13, hx16⟩ := h15
    have hk19 := k_ls3 hk12 hx16
    have fF17 : g_fr md_X11_wasWet F F17 := g_fr_c (g_fr_rf F) cF17 rfl
    have fR18 : g_fr mr_X11_wasWet R R18 := g_fr_c (g_fr_rf R) cR18 rfl
    refine g_if_ne cx 18 e_X11_wasWet_13 (by decide) (fun zc20 => ?_) (fun zc20 => ?_)
    · have p21 := gn_neL 1 1 (gc_ne zc20) pr13 (jv_k (x := 0) 0 (by decide)) (by decide)
      have hk22 := hk19.trans (if_neg zc20)
      refine g_iconst cx 0 (by decide) e_X11_wasWet_18 ?_
      refine g_istore_n cx [(2, .int 0), (0, .ref (ad 0)), (1, .int a0)] e_X11_wasWet_19 (by decide) rfl ?_
      refine g_iconst cx (-1) (by decide) e_X11_wasWet_20 ?_
      refine g_istore_n cx [(3, .int (-1)), (2, .int 0), (0, .ref (ad 0)), (1, .int a0)] e_X11_wasWet_21 (by decide) rfl ?_
      refine g_iconst cx 0 (by decide) e_X11_wasWet_22 ?_
      refine g_istore cx [(4, .int 0), (3, .int (-1)), (2, .int 0), (0, .ref (ad 0)), (1, .int a0)] e_X11_wasWet_23 (by decide) rfl ?_
      have J25 : ∀ (N : Nat) (F26 : Nat → Int32) (R27 : Nat → Nat → Int32) (y23 : Int32) (y24 : Int32) (y25 : Int32), (g_ok LK_wM F26) → (g_fr md_X11_wasWet F F26) → (g_okR LA_wM R27) → (g_fr mr_X11_wasWet R R27) → (WT F26 R27) → (WC F26 R27) → (jv (-2147483648) 2147483647 y23) → (jv (-1) 99 y24) → (jv 0 100 y25) → (SP = K_X11_wasWet_25 F a0 N F26 R27 y23 y24 y25) → (2147483647 - y25.toInt).toNat < N → G X E 6 0 0 (wM X ad F26 R27) [(0, .ref (ad 0)), (1, .int a0), (2, .int y23), (3, .int y24), (4, .int y25)] 25 [] := by
        intro N
        induction N with
        | zero => intro F26 R27 y23 y24 y25 oF26 fF26 oR27 fR27 wTF26R27 wCF26R27 py23 py24 py25 hkJ25 hm; exact absurd hm (Nat.not_lt_zero _)
        | succ N ih25 =>
          intro F26 R27 y23 y24 y25 oF26 fF26 oR27 fR27 wTF26R27 wCF26R27 py23 py24 py25 hkJ25 hm25
          have hkK25 : SP = KB_X11_wasWet_25 (K_X11_wasWet_25 F a0 N) F a0 F26 R27 y23 y24 y25 := hkJ25
          obtain ⟨b25, hb25⟩ : ∃ z, z = K_X11_wasWet_25 F a0 N := ⟨_, rfl⟩
          rw [← hb25] at hkK25
          unfold KB_X11_wasWet_25 at hkK25
          refine g_iload cx 4 rfl e_X11_wasWet_25 ?_
          refine g_bipush cx 100 (by decide) e_X11_wasWet_27 ?_
          refine g_icmp_ge cx 125 e_X11_wasWet_29 (by decide) (fun zc28 => ?_) (fun zc28 => ?_)
          · have p29 := gn_ge 100 100 (gc_le zc28) py25 (jv_k (x := 100) 100 (by decide)) (by decide)
            have hk30 := hkK25.trans (if_pos zc28)
            refine g_iload_n cx 1 rfl e_X11_wasWet_125 ?_
            have J159 : ∀ (y31 : Int32), (jv (-2147483648) 2147483647 y31) → (SP = K_X11_wasWet_159 F26 R27 y31) → G X E 6 0 0 (wM X ad F26 R27) [] 159 [.int y31] := by
              intro y31 py31 hkJ159
              unfold K_X11_wasWet_159 at hkJ159
              exact hret e_X11_wasWet_159 (Nat.le_of_ble_eq_true rfl) (Nat.le_of_ble_eq_true rfl) rfl ⟨F26, R27, rfl, oF26, oR27, wTF26R27, wCF26R27, fF26, fR27, py31, (hkJ159.symm.trans hSP)⟩
            refine g_if_ne cx 133 e_X11_wasWet_126 (by decide) (fun zc32 => ?_) (fun zc32 => ?_)
            · have p33 := gn_neL 1 2 (gc_ne zc32) p11 (jv_k (x := 0) 0 (by decide)) (by decide)
              have hk34 := hk30.trans (if_neg zc32)
              refine g_iload_n cx 3 rfl e_X11_wasWet_133 ?_
              refine g_iconst cx (-1) (by decide) e_X11_wasWet_134 ?_
              refine g_icmp_ne cx 143 e_X11_wasWet_135 (by decide) (fun zc35 => ?_) (fun zc35 => ?_)
              · have p36 := gn_neL 0 99 (gc_ne zc35) py24 (jv_k (x := (-1)) (-1) (by decide)) (by decide)
                have hk37 := hk34.trans (if_neg zc35)
                refine g_iload_n cx 1 rfl e_X11_wasWet_143 ?_
                refine g_iconst cx 1 (by decide) e_X11_wasWet_144 ?_
                refine g_icmp_ne cx 155 e_X11_wasWet_145 (by decide) (fun zc38 => ?_) (fun zc38 => ?_)
                · have p39 := gn_neL 2 2 (gc_ne zc38) p33 (jv_k (x := 1) 1 (by decide)) (by decide)
                  have hk40 := hk37.trans (if_neg zc38)
                  refine g_iload_n cx 3 rfl e_X11_wasWet_155 ?_
                  refine g_bipush cx 10 (by decide) e_X11_wasWet_156 ?_
                  refine g_irem cx (by decide) e_X11_wasWet_158 ?_
                  refine g_topi (fun x41 ex41 => ?_)
                  have hk42 := k_ls hk40 ex41
                  have zx41 := jv_rem 0 9 ex41 p36 (jv_k (x := 10) 10 (by decide)) (by decide)
                  refine g_lsub [] [] rfl ?_
                  exact J159 x41 (jv_w zx41.2 (by decide)) hk42
                · have p43 := gn_eq 1 1 (gc_eq zc38) p33 (jv_k (x := 1) 1 (by decide)) (by decide)
                  have hk44 := hk37.trans (if_pos zc38)
                  refine g_iload_n cx 3 rfl e_X11_wasWet_148 ?_
                  refine g_bipush cx 10 (by decide) e_X11_wasWet_149 ?_
                  refine g_idiv cx (by decide) e_X11_wasWet_151 ?_
                  refine g_topi (fun x45 ex45 => ?_)
                  have hk46 := k_ls hk44 ex45
                  have zx45 := jv_div 0 9 ex45 p36 (jv_k (x := 10) 10 (by decide)) (by decide)
                  refine g_goto cx 159 e_X11_wasWet_152 (by decide) ?_
                  refine g_lsub [] [] rfl ?_
                  exact J159 x45 (jv_w zx45.2 (by decide)) hk46
              · have p47 := gn_eq (-1) (-1) (gc_eq zc35) py24 (jv_k (x := (-1)) (-1) (by decide)) (by decide)
                have hk48 := hk34.trans (if_pos zc35)
                refine g_bipush cx (-2) (by decide) e_X11_wasWet_138 ?_
                refine g_goto cx 159 e_X11_wasWet_140 (by decide) ?_
                refine g_lsub [] [] rfl ?_
                exact J159 (-2) (jv_w (jv_k (x := (-2)) (-2) (by decide)) (by decide)) hk48
            · have p49 := gn_eq 0 0 (gc_eq zc32) p11 (jv_k (x := 0) 0 (by decide)) (by decide)
              have hk50 := hk30.trans (if_pos zc32)
              refine g_iload_n cx 2 rfl e_X11_wasWet_129 ?_
              refine g_goto cx 159 e_X11_wasWet_130 (by decide) ?_
              refine g_lsub [] [] rfl ?_
              exact J159 y23 py23 hk50
          · have p51 := gn_lt 0 99 (gc_nle zc28) py25 (jv_k (x := 100) 100 (by decide)) (by decide)
            have hk52 := hkK25.trans (if_neg zc28)
            refine g_iload cx 4 rfl e_X11_wasWet_32 ?_
            refine g_bipush cx 10 (by decide) e_X11_wasWet_34 ?_
            refine g_idiv cx (by decide) e_X11_wasWet_36 ?_
            refine g_topi (fun x53 ex53 => ?_)
            have hk54 := k_ls hk52 ex53
            have zx53 := jv_div 0 9 ex53 p51 (jv_k (x := 10) 10 (by decide)) (by decide)
            refine g_istore cx [(5, .int x53), (0, .ref (ad 0)), (1, .int a0), (2, .int y23), (3, .int y24), (4, .int y25)] e_X11_wasWet_37 (by decide) rfl ?_
            refine g_aload_n cx 1 rfl e_X11_wasWet_39 ?_
            refine g_get cx cl_X11 fl_X11_172 0 (.int (F26 4)) e_X11_wasWet_40 rfl rfl ?_
            refine g_toi (F 4) (fF26 4 rfl) ?_
            refine g_iload cx 0 rfl e_X11_wasWet_43 ?_
            refine g_cSiW cx [.int (F 4), .int x53] [] (c_X11_has l X (wM X ad F26 R27) (F 4) x53) ml_X11_175 yS_X11_has rfl e_X11_wasWet_45 (by unfold g_rr; decide) (by decide) rfl (Nat.le_of_ble_eq_true rfl) (fun r55 w56 h57 => ?_)
            obtain ⟨rfl, hr55⟩ := h57
            have pr55 : jv 0 1 r55 := by rcases hr55 with q | q <;> rw [q.1] <;> exact ⟨by decide, by decide⟩
            have hk58 := k_ls hk54 (g_has_e hr55)
            have J119 : ∀ (F61 : Nat → Int32) (R62 : Nat → Nat → Int32) (y59 : Int32) (y60 : Int32), (g_ok LK_wM F61) → (g_fr md_X11_wasWet F F61) → (g_okR LA_wM R62) → (g_fr mr_X11_wasWet R R62) → (WT F61 R62) → (WC F61 R62) → (jv (-2147483648) 2147483647 y59) → (jv (-1) 99 y60) → (SP = K_X11_wasWet_119 b25 y25 F61 R62 y59 y60) → G X E 6 0 0 (wM X ad F61 R62) [(0, .ref (ad 0)), (1, .int a0), (2, .int y59), (3, .int y60), (4, .int y25)] 119 [] := by
              intro F61 R62 y59 y60 oF61 fF61 oR62 fR62 wTF61R62 wCF61R62 py59 py60 hkJ119
              unfold K_X11_wasWet_119 at hkJ119
              obtain ⟨x63, ex63⟩ : ∃ z : Int32, z = y25 + Int32.ofInt 1 := ⟨_, rfl⟩
              have hk64 := k_ls hkJ119 (show x63 = y25 + 1 from ex63)
              refine g_iinc cx x63 [(4, .int x63), (0, .ref (ad 0)), (1, .int a0), (2, .int y59), (3, .int y60)] 4 e_X11_wasWet_119 rfl ex63.symm (by decide) rfl ?_
              have zx63 := jv_add 1 100 (show x63 = y25 + 1 from ex63) p51 (jv_k (x := 1) 1 (by decide)) (by decide)
              refine g_goto cx 25 e_X11_wasWet_122 (by decide) ?_
              refine g_lsub [1, 2, 3, 4, 0] [(0, .ref (ad 0)), (1, .int a0), (2, .int y59), (3, .int y60), (4, .int x63)] rfl ?_
              exact ih25 F61 R62 y59 y60 x63 oF61 fF61 oR62 fR62 wTF61R62 wCF61R62 py59 py60 (jv_w zx63.2 (by decide)) (hk64.trans (by rw [hb25])) (Nat.lt_of_lt_of_le (show (2147483647 - x63.toInt).toNat < (2147483647 - y25.toInt).toNat from by have q0 := (jv_k (x := 1) 1 (by decide)).1; have q1 := (jv_k (x := 1) 1 (by decide)).2; have q2 := (jv_k (x := 100) 100 (by decide)).1; have q3 := (jv_k (x := 100) 100 (by decide)).2; have q4 := zx53.2.1; have q5 := zx53.2.2; have q6 := zx63.2.1; have q7 := zx63.2.2; have q8 := p51.1; have q9 := p51.2; have q10 := (gc_nle zc28); have q11 := (g_ed zx53.1 (by decide : Int32.toInt 10 = 10)); have q12 := (g_eq0 zx63.1); omega) (Nat.le_of_lt_succ hm25))
            refine g_if_eq cx 119 e_X11_wasWet_48 (by decide) (fun zc65 => ?_) (fun zc65 => ?_)
            · have p66 := gn_eq 0 0 (gc_eq zc65) pr55 (jv_k (x := 0) 0 (by decide)) (by decide)
              have hk67 := hk58.trans (if_pos zc65)
              refine g_lsub [1, 2, 3, 4, 5] [(0, .ref (ad 0)), (1, .int a0), (2, .int y23), (3, .int y24), (4, .int y25)] rfl ?_
              exact J119 F26 R27 y23 y24 oF26 fF26 oR27 fR27 wTF26R27 wCF26R27 py23 py24 hk67
            · have p68 := gn_neL 1 1 (gc_ne zc65) pr55 (jv_k (x := 0) 0 (by decide)) (by decide)
              have zb69 : hb (F 4) x53 := g_hasy hr55 zc65
              have hk70 := hk58.trans (if_neg zc65)
              refine g_aload_n cx 1 rfl e_X11_wasWet_51 ?_
              refine g_get cx cl_X11 fl_X11_25 0 (.ref (ad 6)) e_X11_wasWet_52 rfl rfl ?_
              refine g_iload cx 0 rfl e_X11_wasWet_55 ?_
              refine g_iald cx 6 e_X11_wasWet_57 rfl (jv_ix 10 zx53.2 (by decide)) ?_
              refine g_topi (fun x71 ex71 => ?_)
              have hk72 := k_ls hk70 ex71
              refine g_iload cx 5 rfl e_X11_wasWet_58 ?_
              refine g_bipush cx 10 (by decide) e_X11_wasWet_60 ?_
              refine g_irem cx (by decide) e_X11_wasWet_62 ?_
              refine g_topi (fun x73 ex73 => ?_)
              have hk74 := k_ls hk72 ex73
              have zx73 := jv_rem 0 9 ex73 p51 (jv_k (x := 10) 10 (by decide)) (by decide)
              refine g_icmp_ne cx 69 e_X11_wasWet_63 (by decide) (fun zc75 => ?_) (fun zc75 => ?_)
              · have hk76 := hk74.trans (if_neg zc75)
                refine g_aload_n cx 1 rfl e_X11_wasWet_69 ?_
                refine g_cVvW cx [] [] (w_X11_laysPull l X ad F26 R27 oF26 oR27 wTF26R27 wCF26R27) ml_X11_422 yV_X11_laysPull e_X11_wasWet_70 (by unfold g_rr; decide) (by decide) 0 rfl rfl rfl (Nat.le_of_ble_eq_true rfl) (fun w78 h79 => ?_)
                obtain ⟨F81, R82, rfl, oF81, oR82, wTF81, wCF81, cF81, cR82, hx80⟩ := h79
                have hk83 := k_ls2 hk76 hx80
                have fF81 : g_fr md_X11_wasWet F F81 := g_fr_c fF26 cF81 rfl
                have fR82 : g_fr mr_X11_wasWet R R82 := g_fr_c fR27 cR82 rfl
                refine g_aload_n cx 1 rfl e_X11_wasWet_73 ?_
                refine g_cVvW cx [] [] (w_X11_laysThings l X ad F81 R82 oF81 oR82 wTF81 wCF81) ml_X11_425 yV_X11_laysThings e_X11_wasWet_74 (by unfold g_rr; decide) (by decide) 0 rfl rfl rfl (Nat.le_of_ble_eq_true rfl) (fun w85 h86 => ?_)
                obtain ⟨F89, R90, rfl, oF89, oR90, wTF89, wCF89, cF89, cR90, zx87, hx88⟩ := h86
                have hk91 := k_ls2 hk83 hx88
                have fF89 : g_fr md_X11_wasWet F F89 := g_fr_c fF81 cF89 rfl
                have fR90 : g_fr mr_X11_wasWet R R90 := g_fr_c fR82 cR90 rfl
                refine g_aload_n cx 1 rfl e_X11_wasWet_77 ?_
                refine g_get cx cl_X11 fl_X11_98 0 (.ref (ad 30)) e_X11_wasWet_78 rfl rfl ?_
                refine g_iload cx 0 rfl e_X11_wasWet_81 ?_
                refine g_iload cx 5 rfl e_X11_wasWet_83 ?_
                refine g_bipush cx 10 (by decide) e_X11_wasWet_85 ?_
                refine g_irem cx (by decide) e_X11_wasWet_87 ?_
                refine g_topi (fun x92 ex92 => ?_)
                have hk93 := k_ls hk91 ex92
                have zx92 := jv_rem 0 9 ex92 p51 (jv_k (x := 10) 10 (by decide)) (by decide)
                refine g_iast cx 30 (wM X ad F89 (g_u R90 30 (upd (R90 30) (Int32.toNatClampNeg x53) x92))) e_X11_wasWet_88 rfl (jv_ix 10 zx53.2 (by decide)) rfl ?_
                obtain ⟨R94, hR94⟩ : ∃ z, z = g_u R90 30 (upd (R90 30) (Int32.toNatClampNeg x53) x92) := ⟨_, rfl⟩
                rw [← hR94]
                have hk95 := k_ls hk93 hR94
                have oR94 : g_okR LA_wM R94 := by rw [hR94]; exact g_okR_u oR90 rfl
                have fR94 : g_fr mr_X11_wasWet R R94 := by rw [hR94]; exact g_fr_r fR90 rfl
                have wTR94 : WT F89 R94 := by rw [hR94]; exact WT_r wTF89 rfl
                have wCR94 : WC F89 R94 := by rw [hR94]; exact WC_r wCF89 rfl
                refine g_aload_n cx 1 rfl e_X11_wasWet_89 ?_
                refine g_cVvW cx [] [] (w_X11_runs l X ad F89 R94 oF89 oR94 wTR94 wCR94 (WN_of wTR94 ((zx87.trans (((cF89 4 rfl).trans (cF81 4 rfl)).trans (fF26 4 rfl))).trans (((cF89 4 rfl).trans (cF81 4 rfl)).trans (fF26 4 rfl)).symm))) ml_X11_428 yV_X11_runs e_X11_wasWet_90 (by unfold g_rr; decide) (by decide) 0 rfl rfl rfl (Nat.le_of_ble_eq_true rfl) (fun w97 h98 => ?_)
                obtain ⟨F100, R101, rfl, oF100, oR101, wTF100, wCF100, cF100, cR101, hx99⟩ := h98
                have hk102 := k_ls2 hk95 hx99
                have fF100 : g_fr md_X11_wasWet F F100 := g_fr_c fF89 cF100 rfl
                have fR101 : g_fr mr_X11_wasWet R R101 := g_fr_c fR94 cR101 rfl
                refine g_aload_n cx 1 rfl e_X11_wasWet_93 ?_
                refine g_cViW cx [] [] (w_X11_fits l X ad F100 R101 oF100 oR101 wTF100 wCF100) ml_X11_474 yV_X11_fits e_X11_wasWet_94 (by unfold g_rr; decide) (by decide) 0 rfl rfl rfl (Nat.le_of_ble_eq_true rfl) (fun r103 w104 h105 => ?_)
                obtain ⟨rfl, pr103, hx106⟩ := h105
                have hk107 := k_ls hk102 hx106
                refine g_if_ne cx 103 e_X11_wasWet_97 (by decide) (fun zc108 => ?_) (fun zc108 => ?_)
                · have p109 := gn_neL 1 1 (gc_ne zc108) pr103 (jv_k (x := 0) 0 (by decide)) (by decide)
                  have hk110 := hk107.trans (if_neg zc108)
                  refine g_iload_n cx 4 rfl e_X11_wasWet_103 ?_
                  refine g_iconst cx (-1) (by decide) e_X11_wasWet_104 ?_
                  have J114 : ∀ (y111 : Int32), (jv 0 99 y111) → (SP = K_X11_wasWet_114 b25 F100 R101 y23 y25 y111) → G X E 6 0 0 (wM X ad F100 R101) [(0, .ref (ad 0)), (1, .int a0), (2, .int y23), (4, .int y25)] 114 [.int y111] := by
                    intro y111 py111 hkJ114
                    unfold K_X11_wasWet_114 at hkJ114
                    refine g_istore_n cx [(3, .int y111), (0, .ref (ad 0)), (1, .int a0), (2, .int y23), (4, .int y25)] e_X11_wasWet_114 (by decide) rfl ?_
                    refine g_iload_n cx 3 rfl e_X11_wasWet_115 ?_
                    refine g_iconst cx 1 (by decide) e_X11_wasWet_116 ?_
                    refine g_iadd cx e_X11_wasWet_117 ?_
                    refine g_topi (fun x112 ex112 => ?_)
                    have hk113 := k_ls hkJ114 ex112
                    refine g_istore_n cx [(2, .int x112), (3, .int y111), (0, .ref (ad 0)), (1, .int a0), (4, .int y25)] e_X11_wasWet_118 (by decide) rfl ?_
                    refine g_lsub [2, 3, 0, 1, 4] [(0, .ref (ad 0)), (1, .int a0), (2, .int x112), (3, .int y111), (4, .int y25)] rfl ?_
                    exact J119 F100 R101 x112 y111 oF100 fF100 oR101 fR101 wTF100 wCF100 (jv_t x112) (jv_w py111 (by decide)) hk113
                  refine g_icmp_ne cx 113 e_X11_wasWet_105 (by decide) (fun zc114 => ?_) (fun zc114 => ?_)
                  · have p115 := gn_neL 0 99 (gc_ne zc114) py24 (jv_k (x := (-1)) (-1) (by decide)) (by decide)
                    have hk116 := hk110.trans (if_neg zc114)
                    refine g_iload_n cx 4 rfl e_X11_wasWet_113 ?_
                    refine g_lsub [1, 2, 3, 5] [(0, .ref (ad 0)), (1, .int a0), (2, .int y23), (4, .int y25)] rfl ?_
                    exact J114 y24 p115 hk116
                  · have p117 := gn_eq (-1) (-1) (gc_eq zc114) py24 (jv_k (x := (-1)) (-1) (by decide)) (by decide)
                    have hk118 := hk110.trans (if_pos zc114)
                    refine g_iload cx 5 rfl e_X11_wasWet_108 ?_
                    refine g_goto cx 114 e_X11_wasWet_110 (by decide) ?_
                    refine g_lsub [1, 2, 3, 5] [(0, .ref (ad 0)), (1, .int a0), (2, .int y23), (4, .int y25)] rfl ?_
                    exact J114 y25 p51 hk118
                · have p119 := gn_eq 0 0 (gc_eq zc108) pr103 (jv_k (x := 0) 0 (by decide)) (by decide)
                  have hk120 := hk107.trans (if_pos zc108)
                  refine g_goto cx 119 e_X11_wasWet_100 (by decide) ?_
                  refine g_lsub [1, 2, 3, 4, 5] [(0, .ref (ad 0)), (1, .int a0), (2, .int y23), (3, .int y24), (4, .int y25)] rfl ?_
                  exact J119 F100 R101 y23 y24 oF100 fF100 oR101 fR101 wTF100 wCF100 py23 py24 hk120
              · have p121 := gn_eq 0 9 (gc_eq zc75) (jv_t x71) zx73.2 (by decide)
                have hk122 := hk74.trans (if_pos zc75)
                refine g_goto cx 119 e_X11_wasWet_66 (by decide) ?_
                refine g_lsub [1, 2, 3, 4, 5] [(0, .ref (ad 0)), (1, .int a0), (2, .int y23), (3, .int y24), (4, .int y25)] rfl ?_
                exact J119 F26 R27 y23 y24 oF26 fF26 oR27 fR27 wTF26R27 wCF26R27 py23 py24 hk122
      refine g_lsub [3, 4, 2, 1, 0] [(0, .ref (ad 0)), (1, .int a0), (2, .int 0), (3, .int (-1)), (4, .int 0)] rfl ?_
      exact J25 8589934592 F17 R18 0 (-1) 0 oF17 fF17 oR18 fR18 wTF17 wCF17 (jv_w (jv_k (x := 0) 0 (by decide)) (by decide)) (jv_w (jv_k (x := (-1)) (-1) (by decide)) (by decide)) (jv_w (jv_k (x := 0) 0 (by decide)) (by decide)) hk22 (show (2147483647 - (0 : Int32).toInt).toNat < 8589934592 from by have q0 := (jv_k (x := 0) 0 (by decide)).1; have q1 := (jv_k (x := 0) 0 (by decide)).2; omega)
    · have p123 := gn_eq 0 0 (gc_eq zc20) pr13 (jv_k (x := 0) 0 (by decide)) (by decide)
      have hk124 := hk19.trans (if_pos zc20)
      refine g_lsub [] [] rfl ?_
      exact J16 F17 R18 oF17 fF17 oR18 fR18 wTF17 wCF17 hk124
def K_X11_howQuick_16  (F5 : Nat → Int32) (R6 : Nat → Nat → Int32) : Int32 × (Nat → Int32) × (Nat → Nat → Int32) :=
  ((-1), F5, R6)
def K_X11_howQuick_83 (F26 : Nat → Int32) (R27 : Nat → Nat → Int32) (y31 : Int32) : Int32 × (Nat → Int32) × (Nat → Nat → Int32) :=
  (y31, F26, R27)
def K_X11_howQuick_68 (b26 : (Nat → Int32) → (Nat → Nat → Int32) → (Int32) → (Int32) → (Int32) → Int32 × (Nat → Int32) × (Nat → Nat → Int32)) (F51 : Nat → Int32) (R52 : Nat → Nat → Int32) (y25 : Int32) (y59 : Int32) (y60 : Int32) : Int32 × (Nat → Int32) × (Nat → Nat → Int32) :=
  k_lt (y25 + 1) (fun x61 => b26 F51 R52 y59 y60 x61)
def K_X11_howQuick_63 (b26 : (Nat → Int32) → (Nat → Nat → Int32) → (Int32) → (Int32) → (Int32) → Int32 × (Nat → Int32) × (Nat → Nat → Int32)) (F51 : Nat → Int32) (R52 : Nat → Nat → Int32) (y23 : Int32) (y25 : Int32) (y66 : Int32) : Int32 × (Nat → Int32) × (Nat → Nat → Int32) :=
  k_lt (y23 + 1) (fun x67 => K_X11_howQuick_68 b26 F51 R52 y25 x67 y66)
def KB_X11_howQuick_26 (b26 : (Nat → Int32) → (Nat → Nat → Int32) → (Int32) → (Int32) → (Int32) → Int32 × (Nat → Int32) × (Nat → Nat → Int32)) (a0 : Int32) (F26 : Nat → Int32) (R27 : Nat → Nat → Int32) (y23 : Int32) (y24 : Int32) (y25 : Int32) : Int32 × (Nat → Int32) × (Nat → Nat → Int32) :=
  if 40 < y25 then if a0 = 0 then K_X11_howQuick_83 F26 R27 y23 else K_X11_howQuick_83 F26 R27 y24 else k_lt2 (sp_X11_laysThings F26 R27) (fun F44 R45 => k_lt2 (sp_X11_runsEven F44 R45 y25) (fun F51 R52 => k_lt (sp_X11_fits F51 R52) (fun r54 => if r54 = 0 then K_X11_howQuick_68 b26 F51 R52 y25 y23 y24 else if y23 = 0 then K_X11_howQuick_63 b26 F51 R52 y23 y25 y25 else K_X11_howQuick_63 b26 F51 R52 y23 y25 y24)))
def K_X11_howQuick_26 (a0 : Int32) : Nat → (Nat → Int32) → (Nat → Nat → Int32) → (Int32) → (Int32) → (Int32) → Int32 × (Nat → Int32) × (Nat → Nat → Int32)
  | 0 => fun F26 R27 _ _ _ => (0, F26, R27)
  | n + 1 => KB_X11_howQuick_26 (K_X11_howQuick_26 a0 n) a0
def sp_X11_howQuick (F : Nat → Int32) (R : Nat → Nat → Int32) (a0 : Int32) : Int32 × (Nat → Int32) × (Nat → Nat → Int32) :=
  k_lt (g_in a0 0 1) (fun r1 => if r1 = 0 then K_X11_howQuick_16 F R else k_lt3 (sp_X11_takesPlaces F R) (fun r13 F17 R18 => if r13 = 0 then K_X11_howQuick_16 F17 R18 else K_X11_howQuick_26 a0 8589934592 F17 R18 0 (-2) 1))
theorem e_X11_howQuick_0 : g_dc cX11_howQuick 0 (.iload_n 1) 1 1 := ⟨by decide +kernel, rfl⟩
theorem e_X11_howQuick_1 : g_dc cX11_howQuick 1 (.iconst 0) 1 2 := ⟨by decide +kernel, rfl⟩
theorem e_X11_howQuick_2 : g_dc cX11_howQuick 2 (.iconst 1) 1 3 := ⟨by decide +kernel, rfl⟩
theorem e_X11_howQuick_3 : g_dc cX11_howQuick 3 (.invokestatic 165) 3 6 := ⟨by decide +kernel, rfl⟩
theorem e_X11_howQuick_6 : g_dc cX11_howQuick 6 (.ifCond .eq 10) 3 9 := ⟨by decide +kernel, rfl⟩
theorem e_X11_howQuick_9 : g_dc cX11_howQuick 9 (.aload_n 0) 1 10 := ⟨by decide +kernel, rfl⟩
theorem e_X11_howQuick_10 : g_dc cX11_howQuick 10 (.invokevirtual 471) 3 13 := ⟨by decide +kernel, rfl⟩
theorem e_X11_howQuick_13 : g_dc cX11_howQuick 13 (.ifCond .ne 5) 3 16 := ⟨by decide +kernel, rfl⟩
theorem e_X11_howQuick_16 : g_dc cX11_howQuick 16 (.iconst (-1)) 1 17 := ⟨by decide +kernel, rfl⟩
theorem e_X11_howQuick_17 : g_dc cX11_howQuick 17 (.ireturn) 1 18 := ⟨by decide +kernel, rfl⟩
theorem e_X11_howQuick_18 : g_dc cX11_howQuick 18 (.iconst 0) 1 19 := ⟨by decide +kernel, rfl⟩
theorem e_X11_howQuick_19 : g_dc cX11_howQuick 19 (.istore_n 2) 1 20 := ⟨by decide +kernel, rfl⟩
theorem e_X11_howQuick_20 : g_dc cX11_howQuick 20 (.bipush (-2)) 2 22 := ⟨by decide +kernel, rfl⟩
theorem e_X11_howQuick_22 : g_dc cX11_howQuick 22 (.istore_n 3) 1 23 := ⟨by decide +kernel, rfl⟩
theorem e_X11_howQuick_23 : g_dc cX11_howQuick 23 (.iconst 1) 1 24 := ⟨by decide +kernel, rfl⟩
theorem e_X11_howQuick_24 : g_dc cX11_howQuick 24 (.istore 4) 2 26 := ⟨by decide +kernel, rfl⟩
theorem e_X11_howQuick_26 : g_dc cX11_howQuick 26 (.iload 4) 2 28 := ⟨by decide +kernel, rfl⟩
theorem e_X11_howQuick_28 : g_dc cX11_howQuick 28 (.bipush 40) 2 30 := ⟨by decide +kernel, rfl⟩
theorem e_X11_howQuick_30 : g_dc cX11_howQuick 30 (.if_icmp .gt 44) 3 33 := ⟨by decide +kernel, rfl⟩
theorem e_X11_howQuick_33 : g_dc cX11_howQuick 33 (.aload_n 0) 1 34 := ⟨by decide +kernel, rfl⟩
theorem e_X11_howQuick_34 : g_dc cX11_howQuick 34 (.invokevirtual 425) 3 37 := ⟨by decide +kernel, rfl⟩
theorem e_X11_howQuick_37 : g_dc cX11_howQuick 37 (.aload_n 0) 1 38 := ⟨by decide +kernel, rfl⟩
theorem e_X11_howQuick_38 : g_dc cX11_howQuick 38 (.iload 4) 2 40 := ⟨by decide +kernel, rfl⟩
theorem e_X11_howQuick_40 : g_dc cX11_howQuick 40 (.invokevirtual 446) 3 43 := ⟨by decide +kernel, rfl⟩
theorem e_X11_howQuick_43 : g_dc cX11_howQuick 43 (.aload_n 0) 1 44 := ⟨by decide +kernel, rfl⟩
theorem e_X11_howQuick_44 : g_dc cX11_howQuick 44 (.invokevirtual 474) 3 47 := ⟨by decide +kernel, rfl⟩
theorem e_X11_howQuick_47 : g_dc cX11_howQuick 47 (.ifCond .ne 6) 3 50 := ⟨by decide +kernel, rfl⟩
theorem e_X11_howQuick_50 : g_dc cX11_howQuick 50 (.goto 18) 3 53 := ⟨by decide +kernel, rfl⟩
theorem e_X11_howQuick_53 : g_dc cX11_howQuick 53 (.iload_n 2) 1 54 := ⟨by decide +kernel, rfl⟩
theorem e_X11_howQuick_54 : g_dc cX11_howQuick 54 (.ifCond .ne 8) 3 57 := ⟨by decide +kernel, rfl⟩
theorem e_X11_howQuick_57 : g_dc cX11_howQuick 57 (.iload 4) 2 59 := ⟨by decide +kernel, rfl⟩
theorem e_X11_howQuick_59 : g_dc cX11_howQuick 59 (.goto 4) 3 62 := ⟨by decide +kernel, rfl⟩
theorem e_X11_howQuick_62 : g_dc cX11_howQuick 62 (.iload_n 3) 1 63 := ⟨by decide +kernel, rfl⟩
theorem e_X11_howQuick_63 : g_dc cX11_howQuick 63 (.istore_n 3) 1 64 := ⟨by decide +kernel, rfl⟩
theorem e_X11_howQuick_64 : g_dc cX11_howQuick 64 (.iload_n 2) 1 65 := ⟨by decide +kernel, rfl⟩
theorem e_X11_howQuick_65 : g_dc cX11_howQuick 65 (.iconst 1) 1 66 := ⟨by decide +kernel, rfl⟩
theorem e_X11_howQuick_66 : g_dc cX11_howQuick 66 (.iadd) 1 67 := ⟨by decide +kernel, rfl⟩
theorem e_X11_howQuick_67 : g_dc cX11_howQuick 67 (.istore_n 2) 1 68 := ⟨by decide +kernel, rfl⟩
theorem e_X11_howQuick_68 : g_dc cX11_howQuick 68 (.iinc 4 1) 3 71 := ⟨by decide +kernel, rfl⟩
theorem e_X11_howQuick_71 : g_dc cX11_howQuick 71 (.goto (-45)) 3 74 := ⟨by decide +kernel, rfl⟩
theorem e_X11_howQuick_74 : g_dc cX11_howQuick 74 (.iload_n 1) 1 75 := ⟨by decide +kernel, rfl⟩
theorem e_X11_howQuick_75 : g_dc cX11_howQuick 75 (.ifCond .ne 7) 3 78 := ⟨by decide +kernel, rfl⟩
theorem e_X11_howQuick_78 : g_dc cX11_howQuick 78 (.iload_n 2) 1 79 := ⟨by decide +kernel, rfl⟩
theorem e_X11_howQuick_79 : g_dc cX11_howQuick 79 (.goto 4) 3 82 := ⟨by decide +kernel, rfl⟩
theorem e_X11_howQuick_82 : g_dc cX11_howQuick 82 (.iload_n 3) 1 83 := ⟨by decide +kernel, rfl⟩
theorem e_X11_howQuick_83 : g_dc cX11_howQuick 83 (.ireturn) 1 84 := ⟨by decide +kernel, rfl⟩
def md_X11_howQuick : List Nat := [3, 14, 42, 43, 44, 45, 46, 47, 48, 49, 50, 51, 65, 66, 67, 68, 69]
def mr_X11_howQuick : List Nat := [23, 24, 25, 26, 27, 28, 29, 30, 31, 32, 33, 34, 35, 36, 37, 40]
set_option maxHeartbeats 4000000 in
set_option maxRecDepth 100000 in
theorem w_X11_howQuick (l : Launch) (X : gX) (ad : Nat → Nat) (F : Nat → Int32) (R : Nat → Nat → Int32) (hI : g_ok LK_wM F) (hA : g_okR LA_wM R) (hWT : WT F R) (hWC : WC F R) (a0 : Int32) : g_Ci l X yX11_howQuick cX11_howQuick 5 (some .int) 8 0 0 [.ref (ad 0), .int a0] (wM X ad F R) (fun r w => ∃ (F' : Nat → Int32) (R' : Nat → Nat → Int32), w = wM X ad F' R' ∧ g_ok LK_wM F' ∧ g_okR LA_wM R' ∧ WT F' R' ∧ WC F' R' ∧ g_fr md_X11_howQuick F F' ∧ g_fr mr_X11_howQuick R R' ∧ jv (-2147483648) 2147483647 r ∧ (r, F', R') = sp_X11_howQuick F R a0) := by
  refine g_mi (by decide +kernel) (Nat.le_of_ble_eq_true rfl) (fun E cx hret => ?_)
  obtain ⟨SP, hSP⟩ : ∃ z, z = sp_X11_howQuick F R a0 := ⟨_, rfl⟩
  have hk0 := hSP
  unfold sp_X11_howQuick at hk0
  refine g_iload_n cx 1 rfl e_X11_howQuick_0 ?_
  refine g_iconst cx 0 (by decide) e_X11_howQuick_1 ?_
  refine g_iconst cx 1 (by decide) e_X11_howQuick_2 ?_
  refine g_cSiW cx [.int a0, .int 0, .int 1] [] (c_X11_in l X (wM X ad F R) a0 0 1) ml_X11_165 yS_X11_in rfl e_X11_howQuick_3 (by unfold g_rr; decide) (by decide) rfl (Nat.le_of_ble_eq_true rfl) (fun r1 w2 h3 => ?_)
  obtain ⟨rfl, hr1⟩ := h3
  have pr1 : jv 0 1 r1 := by rw [hr1]; exact gi_01 _ _ _
  have hk4 := k_ls hk0 hr1
  have J16 : ∀ (F5 : Nat → Int32) (R6 : Nat → Nat → Int32), (g_ok LK_wM F5) → (g_fr md_X11_howQuick F F5) → (g_okR LA_wM R6) → (g_fr mr_X11_howQuick R R6) → (WT F5 R6) → (WC F5 R6) → (SP = K_X11_howQuick_16 F5 R6) → G X E 5 0 0 (wM X ad F5 R6) [] 16 [] := by
    intro F5 R6 oF5 fF5 oR6 fR6 wTF5R6 wCF5R6 hkJ16
    unfold K_X11_howQuick_16 at hkJ16
    refine g_iconst cx (-1) (by decide) e_X11_howQuick_16 ?_
    exact hret e_X11_howQuick_17 (Nat.le_of_ble_eq_true rfl) (Nat.le_of_ble_eq_true rfl) rfl ⟨F5, R6, rfl, oF5, oR6, wTF5R6, wCF5R6, fF5, fR6, (jv_w (jv_k (x := (-1)) (-1) (by decide)) (by decide)), (hkJ16.symm.trans hSP)⟩
  refine g_if_eq cx 16 e_X11_howQuick_6 (by decide) (fun zc7 => ?_) (fun zc7 => ?_)
  · have p8 := gn_eq 0 0 (gc_eq zc7) pr1 (jv_k (x := 0) 0 (by decide)) (by decide)
    have hk9 := hk4.trans (if_pos zc7)
    refine g_lsub [] [] rfl ?_
    exact J16 F R hI (g_fr_rf F) hA (g_fr_rf R) hWT hWC hk9
  · have p10 := gn_neL 1 1 (gc_ne zc7) pr1 (jv_k (x := 0) 0 (by decide)) (by decide)
    have p11 := jv_i 0 1 (jv_t a0) (gi_in (A := 0) (B := 1) hr1 zc7 (by decide) (by decide)) (by decide)
    have hk12 := hk4.trans (if_neg zc7)
    refine g_aload_n cx 0 rfl e_X11_howQuick_9 ?_
    refine g_cViW cx [] [] (w_X11_takesPlaces l X ad F R hI hA hWT hWC) ml_X11_471 yV_X11_takesPlaces e_X11_howQuick_10 (by unfold g_rr; decide) (by decide) 0 rfl rfl rfl (Nat.le_of_ble_eq_true rfl) (fun r13 w14 h15 => ?_)
    obtain ⟨F17, R18, rfl, oF17, oR18, wTF17, wCF17, cF17, cR18, pr13, hx16⟩ := h15
    have hk19 := k_ls3 hk12 hx16
    have fF17 : g_fr md_X11_howQuick F F17 := g_fr_c (g_fr_rf F) cF17 rfl
    have fR18 : g_fr mr_X11_howQuick R R18 := g_fr_c (g_fr_rf R) cR18 rfl
    refine g_if_ne cx 18 e_X11_howQuick_13 (by decide) (fun zc20 => ?_) (fun zc20 => ?_)
    · have p21 := gn_neL 1 1 (gc_ne zc20) pr13 (jv_k (x := 0) 0 (by decide)) (by decide)
      have hk22 := hk19.trans (if_neg zc20)
      refine g_iconst cx 0 (by decide) e_X11_howQuick_18 ?_
      refine g_istore_n cx [(2, .int 0), (0, .ref (ad 0)), (1, .int a0)] e_X11_howQuick_19 (by decide) rfl ?_
      refine g_bipush cx (-2) (by decide) e_X11_howQuick_20 ?_
      refine g_istore_n cx [(3, .int (-2)), (2, .int 0), (0, .ref (ad 0)), (1, .int a0)] e_X11_howQuick_22 (by decide) rfl ?_
      refine g_iconst cx 1 (by decide) e_X11_howQuick_23 ?_
      refine g_istore cx [(4, .int 1), (3, .int (-2)), (2, .int 0), (0, .ref (ad 0)), (1, .int a0)] e_X11_howQuick_24 (by decide) rfl ?_
      have J26 : ∀ (N : Nat) (F26 : Nat → Int32) (R27 : Nat → Nat → Int32) (y23 : Int32) (y24 : Int32) (y25 : Int32), (g_ok LK_wM F26) → (g_fr md_X11_howQuick F F26) → (g_okR LA_wM R27) → (g_fr mr_X11_howQuick R R27) → (WT F26 R27) → (WC F26 R27) → (jv (-2147483648) 2147483647 y23) → (jv (-2) 40 y24) → (jv 1 41 y25) → (SP = K_X11_howQuick_26 a0 N F26 R27 y23 y24 y25) → (2147483647 - y25.toInt).toNat < N → G X E 5 0 0 (wM X ad F26 R27) [(0, .ref (ad 0)), (1, .int a0), (2, .int y23), (3, .int y24), (4, .int y25)] 26 [] := by
        intro N
        induction N with
        | zero => intro F26 R27 y23 y24 y25 oF26 fF26 oR27 fR27 wTF26R27 wCF26R27 py23 py24 py25 hkJ26 hm; exact absurd hm (Nat.not_lt_zero _)
        | succ N ih26 =>
          intro F26 R27 y23 y24 y25 oF26 fF26 oR27 fR27 wTF26R27 wCF26R27 py23 py24 py25 hkJ26 hm26
          have hkK26 : SP = KB_X11_howQuick_26 (K_X11_howQuick_26 a0 N) a0 F26 R27 y23 y24 y25 := hkJ26
          obtain ⟨b26, hb26⟩ : ∃ z, z = K_X11_howQuick_26 a0 N := ⟨_, rfl⟩
          rw [← hb26] at hkK26
          unfold KB_X11_howQuick_26 at hkK26
          refine g_iload cx 4 rfl e_X11_howQuick_26 ?_
          refine g_bipush cx 40 (by decide) e_X11_howQuick_28 ?_
          refine g_icmp_gt cx 74 e_X11_howQuick_30 (by decide) (fun zc28 => ?_) (fun zc28 => ?_)
          · have p29 := gn_gt 41 41 (gc_lt zc28) py25 (jv_k (x := 40) 40 (by decide)) (by decide)
            have hk30 := hkK26.trans (if_pos zc28)
            refine g_iload_n cx 1 rfl e_X11_howQuick_74 ?_
            have J83 : ∀ (y31 : Int32), (jv (-2147483648) 2147483647 y31) → (SP = K_X11_howQuick_83 F26 R27 y31) → G X E 5 0 0 (wM X ad F26 R27) [] 83 [.int y31] := by
              intro y31 py31 hkJ83
              unfold K_X11_howQuick_83 at hkJ83
              exact hret e_X11_howQuick_83 (Nat.le_of_ble_eq_true rfl) (Nat.le_of_ble_eq_true rfl) rfl ⟨F26, R27, rfl, oF26, oR27, wTF26R27, wCF26R27, fF26, fR27, py31, (hkJ83.symm.trans hSP)⟩
            refine g_if_ne cx 82 e_X11_howQuick_75 (by decide) (fun zc32 => ?_) (fun zc32 => ?_)
            · have p33 := gn_neL 1 1 (gc_ne zc32) p11 (jv_k (x := 0) 0 (by decide)) (by decide)
              have hk34 := hk30.trans (if_neg zc32)
              refine g_iload_n cx 3 rfl e_X11_howQuick_82 ?_
              refine g_lsub [] [] rfl ?_
              exact J83 y24 (jv_w py24 (by decide)) hk34
            · have p35 := gn_eq 0 0 (gc_eq zc32) p11 (jv_k (x := 0) 0 (by decide)) (by decide)
              have hk36 := hk30.trans (if_pos zc32)
              refine g_iload_n cx 2 rfl e_X11_howQuick_78 ?_
              refine g_goto cx 83 e_X11_howQuick_79 (by decide) ?_
              refine g_lsub [] [] rfl ?_
              exact J83 y23 py23 hk36
          · have p37 := gn_le 1 40 (gc_nlt zc28) py25 (jv_k (x := 40) 40 (by decide)) (by decide)
            have hk38 := hkK26.trans (if_neg zc28)
            refine g_aload_n cx 0 rfl e_X11_howQuick_33 ?_
            refine g_cVvW cx [] [] (w_X11_laysThings l X ad F26 R27 oF26 oR27 wTF26R27 wCF26R27) ml_X11_425 yV_X11_laysThings e_X11_howQuick_34 (by unfold g_rr; decide) (by decide) 0 rfl rfl rfl (Nat.le_of_ble_eq_true rfl) (fun w40 h41 => ?_)
            obtain ⟨F44, R45, rfl, oF44, oR45, wTF44, wCF44, cF44, cR45, zx42, hx43⟩ := h41
            have hk46 := k_ls2 hk38 hx43
            have fF44 : g_fr md_X11_howQuick F F44 := g_fr_c fF26 cF44 rfl
            have fR45 : g_fr mr_X11_howQuick R R45 := g_fr_c fR27 cR45 rfl
            refine g_aload_n cx 0 rfl e_X11_howQuick_37 ?_
            refine g_iload cx 4 rfl e_X11_howQuick_38 ?_
            refine g_cVvW cx [.int y25] [] (w_X11_runsEven l X ad F44 R45 oF44 oR45 wTF44 wCF44 y25 (WN_of wTF44 ((zx42.trans ((cF44 4 rfl).trans (fF26 4 rfl))).trans ((cF44 4 rfl).trans (fF26 4 rfl)).symm))) ml_X11_446 yV_X11_runsEven e_X11_howQuick_40 (by unfold g_rr; decide) (by decide) 0 rfl rfl rfl (Nat.le_of_ble_eq_true rfl) (fun w48 h49 => ?_)
            obtain ⟨F51, R52, rfl, oF51, oR52, wTF51, wCF51, cF51, cR52, hx50⟩ := h49
            have hk53 := k_ls2 hk46 hx50
            have fF51 : g_fr md_X11_howQuick F F51 := g_fr_c fF44 cF51 rfl
            have fR52 : g_fr mr_X11_howQuick R R52 := g_fr_c fR45 cR52 rfl
            refine g_aload_n cx 0 rfl e_X11_howQuick_43 ?_
            refine g_cViW cx [] [] (w_X11_fits l X ad F51 R52 oF51 oR52 wTF51 wCF51) ml_X11_474 yV_X11_fits e_X11_howQuick_44 (by unfold g_rr; decide) (by decide) 0 rfl rfl rfl (Nat.le_of_ble_eq_true rfl) (fun r54 w55 h56 => ?_)
            obtain ⟨rfl, pr54, hx57⟩ := h56
            have hk58 := k_ls hk53 hx57
            have J68 : ∀ (y59 : Int32) (y60 : Int32), (jv (-2147483648) 2147483647 y59) → (jv (-2) 40 y60) → (SP = K_X11_howQuick_68 b26 F51 R52 y25 y59 y60) → G X E 5 0 0 (wM X ad F51 R52) [(0, .ref (ad 0)), (1, .int a0), (2, .int y59), (3, .int y60), (4, .int y25)] 68 [] := by
              intro y59 y60 py59 py60 hkJ68
              unfold K_X11_howQuick_68 at hkJ68
              obtain ⟨x61, ex61⟩ : ∃ z : Int32, z = y25 + Int32.ofInt 1 := ⟨_, rfl⟩
              have hk62 := k_ls hkJ68 (show x61 = y25 + 1 from ex61)
              refine g_iinc cx x61 [(4, .int x61), (0, .ref (ad 0)), (1, .int a0), (2, .int y59), (3, .int y60)] 4 e_X11_howQuick_68 rfl ex61.symm (by decide) rfl ?_
              have zx61 := jv_add 2 41 (show x61 = y25 + 1 from ex61) p37 (jv_k (x := 1) 1 (by decide)) (by decide)
              refine g_goto cx 26 e_X11_howQuick_71 (by decide) ?_
              refine g_lsub [1, 2, 3, 4, 0] [(0, .ref (ad 0)), (1, .int a0), (2, .int y59), (3, .int y60), (4, .int x61)] rfl ?_
              exact ih26 F51 R52 y59 y60 x61 oF51 fF51 oR52 fR52 wTF51 wCF51 py59 py60 (jv_w zx61.2 (by decide)) (hk62.trans (by rw [hb26])) (Nat.lt_of_lt_of_le (show (2147483647 - x61.toInt).toNat < (2147483647 - y25.toInt).toNat from by have q0 := (jv_k (x := 1) 1 (by decide)).1; have q1 := (jv_k (x := 1) 1 (by decide)).2; have q2 := (jv_k (x := 40) 40 (by decide)).1; have q3 := (jv_k (x := 40) 40 (by decide)).2; have q4 := zx61.2.1; have q5 := zx61.2.2; have q6 := p37.1; have q7 := p37.2; have q8 := (gc_nlt zc28); have q9 := (g_eq0 zx61.1); omega) (Nat.le_of_lt_succ hm26))
            refine g_if_ne cx 53 e_X11_howQuick_47 (by decide) (fun zc63 => ?_) (fun zc63 => ?_)
            · have p64 := gn_neL 1 1 (gc_ne zc63) pr54 (jv_k (x := 0) 0 (by decide)) (by decide)
              have hk65 := hk58.trans (if_neg zc63)
              refine g_iload_n cx 2 rfl e_X11_howQuick_53 ?_
              have J63 : ∀ (y66 : Int32), (jv (-2) 40 y66) → (SP = K_X11_howQuick_63 b26 F51 R52 y23 y25 y66) → G X E 5 0 0 (wM X ad F51 R52) [(0, .ref (ad 0)), (1, .int a0), (2, .int y23), (4, .int y25)] 63 [.int y66] := by
                intro y66 py66 hkJ63
                unfold K_X11_howQuick_63 at hkJ63
                refine g_istore_n cx [(3, .int y66), (0, .ref (ad 0)), (1, .int a0), (2, .int y23), (4, .int y25)] e_X11_howQuick_63 (by decide) rfl ?_
                refine g_iload_n cx 3 rfl e_X11_howQuick_64 ?_
                refine g_iconst cx 1 (by decide) e_X11_howQuick_65 ?_
                refine g_iadd cx e_X11_howQuick_66 ?_
                refine g_topi (fun x67 ex67 => ?_)
                have hk68 := k_ls hkJ63 ex67
                refine g_istore_n cx [(2, .int x67), (3, .int y66), (0, .ref (ad 0)), (1, .int a0), (4, .int y25)] e_X11_howQuick_67 (by decide) rfl ?_
                refine g_lsub [2, 3, 0, 1, 4] [(0, .ref (ad 0)), (1, .int a0), (2, .int x67), (3, .int y66), (4, .int y25)] rfl ?_
                exact J68 x67 y66 (jv_t x67) py66 hk68
              refine g_if_ne cx 62 e_X11_howQuick_54 (by decide) (fun zc69 => ?_) (fun zc69 => ?_)
              · have hk70 := hk65.trans (if_neg zc69)
                refine g_iload_n cx 3 rfl e_X11_howQuick_62 ?_
                refine g_lsub [0, 1, 2, 4] [(0, .ref (ad 0)), (1, .int a0), (2, .int y23), (4, .int y25)] rfl ?_
                exact J63 y24 py24 hk70
              · have p71 := gn_eq 0 0 (gc_eq zc69) py23 (jv_k (x := 0) 0 (by decide)) (by decide)
                have hk72 := hk65.trans (if_pos zc69)
                refine g_iload cx 4 rfl e_X11_howQuick_57 ?_
                refine g_goto cx 63 e_X11_howQuick_59 (by decide) ?_
                refine g_lsub [0, 1, 2, 4] [(0, .ref (ad 0)), (1, .int a0), (2, .int y23), (4, .int y25)] rfl ?_
                exact J63 y25 (jv_w p37 (by decide)) hk72
            · have p73 := gn_eq 0 0 (gc_eq zc63) pr54 (jv_k (x := 0) 0 (by decide)) (by decide)
              have hk74 := hk58.trans (if_pos zc63)
              refine g_goto cx 68 e_X11_howQuick_50 (by decide) ?_
              exact J68 y23 y24 py23 py24 hk74
      refine g_lsub [3, 4, 2, 1, 0] [(0, .ref (ad 0)), (1, .int a0), (2, .int 0), (3, .int (-2)), (4, .int 1)] rfl ?_
      exact J26 8589934592 F17 R18 0 (-2) 1 oF17 fF17 oR18 fR18 wTF17 wCF17 (jv_w (jv_k (x := 0) 0 (by decide)) (by decide)) (jv_w (jv_k (x := (-2)) (-2) (by decide)) (by decide)) (jv_w (jv_k (x := 1) 1 (by decide)) (by decide)) hk22 (show (2147483647 - (1 : Int32).toInt).toNat < 8589934592 from by have q0 := (jv_k (x := 1) 1 (by decide)).1; have q1 := (jv_k (x := 1) 1 (by decide)).2; omega)
    · have p75 := gn_eq 0 0 (gc_eq zc20) pr13 (jv_k (x := 0) 0 (by decide)) (by decide)
      have hk76 := hk19.trans (if_pos zc20)
      refine g_lsub [] [] rfl ?_
      exact J16 F17 R18 oF17 fF17 oR18 fR18 wTF17 wCF17 hk76
def K_X11_rowsOf_23  (y1 : Int32) : Int32 :=
  y1
def sp_X11_rowsOf (F : Nat → Int32) (R : Nat → Nat → Int32) (a0 : Int32) : Int32 :=
  if a0 = 1 then K_X11_rowsOf_23 10 else if a0 = 2 then K_X11_rowsOf_23 100 else K_X11_rowsOf_23 1000
theorem e_X11_rowsOf_0 : g_dc cX11_rowsOf 0 (.iload_n 1) 1 1 := ⟨by decide +kernel, rfl⟩
theorem e_X11_rowsOf_1 : g_dc cX11_rowsOf 1 (.iconst 1) 1 2 := ⟨by decide +kernel, rfl⟩
theorem e_X11_rowsOf_2 : g_dc cX11_rowsOf 2 (.if_icmp .ne 8) 3 5 := ⟨by decide +kernel, rfl⟩
theorem e_X11_rowsOf_5 : g_dc cX11_rowsOf 5 (.bipush 10) 2 7 := ⟨by decide +kernel, rfl⟩
theorem e_X11_rowsOf_7 : g_dc cX11_rowsOf 7 (.goto 16) 3 10 := ⟨by decide +kernel, rfl⟩
theorem e_X11_rowsOf_10 : g_dc cX11_rowsOf 10 (.iload_n 1) 1 11 := ⟨by decide +kernel, rfl⟩
theorem e_X11_rowsOf_11 : g_dc cX11_rowsOf 11 (.iconst 2) 1 12 := ⟨by decide +kernel, rfl⟩
theorem e_X11_rowsOf_12 : g_dc cX11_rowsOf 12 (.if_icmp .ne 8) 3 15 := ⟨by decide +kernel, rfl⟩
theorem e_X11_rowsOf_15 : g_dc cX11_rowsOf 15 (.bipush 100) 2 17 := ⟨by decide +kernel, rfl⟩
theorem e_X11_rowsOf_17 : g_dc cX11_rowsOf 17 (.goto 6) 3 20 := ⟨by decide +kernel, rfl⟩
theorem e_X11_rowsOf_20 : g_dc cX11_rowsOf 20 (.sipush 1000) 3 23 := ⟨by decide +kernel, rfl⟩
theorem e_X11_rowsOf_23 : g_dc cX11_rowsOf 23 (.ireturn) 1 24 := ⟨by decide +kernel, rfl⟩
set_option maxHeartbeats 4000000 in
set_option maxRecDepth 100000 in
theorem w_X11_rowsOf (l : Launch) (X : gX) (ad : Nat → Nat) (F : Nat → Int32) (R : Nat → Nat → Int32) (hI : g_ok LK_wM F) (hA : g_okR LA_wM R) (hWT : WT F R) (hWC : WC F R) (a0 : Int32) : g_Ci l X yX11_rowsOf cX11_rowsOf 2 (some .int) 1 0 0 [.ref (ad 0), .int a0] (wM X ad F R) (fun r w => w = wM X ad F R ∧ jv 10 1000 r ∧ r = sp_X11_rowsOf F R a0) := by
  refine g_mi (by decide +kernel) (Nat.le_of_ble_eq_true rfl) (fun E cx hret => ?_)
  obtain ⟨SP, hSP⟩ : ∃ z, z = sp_X11_rowsOf F R a0 := ⟨_, rfl⟩
  have hk0 := hSP
  unfold sp_X11_rowsOf at hk0
  refine g_iload_n cx 1 rfl e_X11_rowsOf_0 ?_
  refine g_iconst cx 1 (by decide) e_X11_rowsOf_1 ?_
  have J23 : ∀ (y1 : Int32), (jv 10 1000 y1) → (SP = K_X11_rowsOf_23 y1) → G X E 2 0 0 (wM X ad F R) [] 23 [.int y1] := by
    intro y1 py1 hkJ23
    unfold K_X11_rowsOf_23 at hkJ23
    exact hret e_X11_rowsOf_23 (Nat.le_of_ble_eq_true rfl) (Nat.le_of_ble_eq_true rfl) rfl ⟨rfl, py1, (hkJ23.symm.trans hSP)⟩
  refine g_icmp_ne cx 10 e_X11_rowsOf_2 (by decide) (fun zc2 => ?_) (fun zc2 => ?_)
  · have hk3 := hk0.trans (if_neg zc2)
    refine g_iload_n cx 1 rfl e_X11_rowsOf_10 ?_
    refine g_iconst cx 2 (by decide) e_X11_rowsOf_11 ?_
    refine g_icmp_ne cx 20 e_X11_rowsOf_12 (by decide) (fun zc4 => ?_) (fun zc4 => ?_)
    · have hk5 := hk3.trans (if_neg zc4)
      refine g_sipush cx 1000 (by decide) e_X11_rowsOf_20 ?_
      refine g_lsub [] [] rfl ?_
      exact J23 1000 (jv_w (jv_k (x := 1000) 1000 (by decide)) (by decide)) hk5
    · have p6 := gn_eq 2 2 (gc_eq zc4) (jv_t a0) (jv_k (x := 2) 2 (by decide)) (by decide)
      have hk7 := hk3.trans (if_pos zc4)
      refine g_bipush cx 100 (by decide) e_X11_rowsOf_15 ?_
      refine g_goto cx 23 e_X11_rowsOf_17 (by decide) ?_
      refine g_lsub [] [] rfl ?_
      exact J23 100 (jv_w (jv_k (x := 100) 100 (by decide)) (by decide)) hk7
  · have p8 := gn_eq 1 1 (gc_eq zc2) (jv_t a0) (jv_k (x := 1) 1 (by decide)) (by decide)
    have hk9 := hk0.trans (if_pos zc2)
    refine g_bipush cx 10 (by decide) e_X11_rowsOf_5 ?_
    refine g_goto cx 23 e_X11_rowsOf_7 (by decide) ?_
    refine g_lsub [] [] rfl ?_
    exact J23 10 (jv_w (jv_k (x := 10) 10 (by decide)) (by decide)) hk9
def sp_X11_runsBy (F : Nat → Int32) (R : Nat → Nat → Int32) (a0 : Int32) (a1 : Int32) : (Nat → Int32) × (Nat → Nat → Int32) :=
  k_lt2 (sp_X11_laysPull F R) (fun F5 R6 => k_lt2 (sp_X11_laysThings F5 R6) (fun F13 R14 => k_lt (upd F13 49 a0) (fun F16 => k_lt (upd F16 50 a1) (fun F18 => k_lt2 (sp_X11_runs F18 R14) (fun F24 R25 => (F24, R25))))))
theorem e_X11_runsBy_0 : g_dc cX11_runsBy 0 (.aload_n 0) 1 1 := ⟨by decide +kernel, rfl⟩
theorem e_X11_runsBy_1 : g_dc cX11_runsBy 1 (.invokevirtual 422) 3 4 := ⟨by decide +kernel, rfl⟩
theorem e_X11_runsBy_4 : g_dc cX11_runsBy 4 (.aload_n 0) 1 5 := ⟨by decide +kernel, rfl⟩
theorem e_X11_runsBy_5 : g_dc cX11_runsBy 5 (.invokevirtual 425) 3 8 := ⟨by decide +kernel, rfl⟩
theorem e_X11_runsBy_8 : g_dc cX11_runsBy 8 (.aload_n 0) 1 9 := ⟨by decide +kernel, rfl⟩
theorem e_X11_runsBy_9 : g_dc cX11_runsBy 9 (.iload_n 1) 1 10 := ⟨by decide +kernel, rfl⟩
theorem e_X11_runsBy_10 : g_dc cX11_runsBy 10 (.putfield 322) 3 13 := ⟨by decide +kernel, rfl⟩
theorem e_X11_runsBy_13 : g_dc cX11_runsBy 13 (.aload_n 0) 1 14 := ⟨by decide +kernel, rfl⟩
theorem e_X11_runsBy_14 : g_dc cX11_runsBy 14 (.iload_n 2) 1 15 := ⟨by decide +kernel, rfl⟩
theorem e_X11_runsBy_15 : g_dc cX11_runsBy 15 (.putfield 346) 3 18 := ⟨by decide +kernel, rfl⟩
theorem e_X11_runsBy_18 : g_dc cX11_runsBy 18 (.aload_n 0) 1 19 := ⟨by decide +kernel, rfl⟩
theorem e_X11_runsBy_19 : g_dc cX11_runsBy 19 (.invokevirtual 428) 3 22 := ⟨by decide +kernel, rfl⟩
theorem e_X11_runsBy_22 : g_dc cX11_runsBy 22 (.return_) 1 23 := ⟨by decide +kernel, rfl⟩
def md_X11_runsBy : List Nat := [3, 42, 43, 44, 45, 46, 47, 48, 49, 50, 51, 65, 66, 67, 68, 69]
def mr_X11_runsBy : List Nat := [23, 24, 25, 26, 27, 28, 29, 30, 31, 32, 33, 34, 35, 36, 37]
set_option maxHeartbeats 4000000 in
set_option maxRecDepth 100000 in
theorem w_X11_runsBy (l : Launch) (X : gX) (ad : Nat → Nat) (F : Nat → Int32) (R : Nat → Nat → Int32) (hI : g_ok LK_wM F) (hA : g_okR LA_wM R) (hWT : WT F R) (hWC : WC F R) (a0 : Int32) (a1 : Int32) : g_Cv l X yX11_runsBy cX11_runsBy 3 7 0 0 [.ref (ad 0), .int a0, .int a1] (wM X ad F R) (fun w => ∃ (F' : Nat → Int32) (R' : Nat → Nat → Int32), w = wM X ad F' R' ∧ g_ok LK_wM F' ∧ g_okR LA_wM R' ∧ WT F' R' ∧ WC F' R' ∧ g_fr md_X11_runsBy F F' ∧ g_fr mr_X11_runsBy R R' ∧ (F', R') = sp_X11_runsBy F R a0 a1) := by
  refine g_mv (by decide +kernel) (Nat.le_of_ble_eq_true rfl) (fun E cx hret => ?_)
  obtain ⟨SP, hSP⟩ : ∃ z, z = sp_X11_runsBy F R a0 a1 := ⟨_, rfl⟩
  have hk0 := hSP
  unfold sp_X11_runsBy at hk0
  refine g_aload_n cx 0 rfl e_X11_runsBy_0 ?_
  refine g_cVvW cx [] [] (w_X11_laysPull l X ad F R hI hA hWT hWC) ml_X11_422 yV_X11_laysPull e_X11_runsBy_1 (by unfold g_rr; decide) (by decide) 0 rfl rfl rfl (Nat.le_of_ble_eq_true rfl) (fun w2 h3 => ?_)
  obtain ⟨F5, R6, rfl, oF5, oR6, wTF5, wCF5, cF5, cR6, hx4⟩ := h3
  have hk7 := k_ls2 hk0 hx4
  have fF5 : g_fr md_X11_runsBy F F5 := g_fr_c (g_fr_rf F) cF5 rfl
  have fR6 : g_fr mr_X11_runsBy R R6 := g_fr_c (g_fr_rf R) cR6 rfl
  refine g_aload_n cx 0 rfl e_X11_runsBy_4 ?_
  refine g_cVvW cx [] [] (w_X11_laysThings l X ad F5 R6 oF5 oR6 wTF5 wCF5) ml_X11_425 yV_X11_laysThings e_X11_runsBy_5 (by unfold g_rr; decide) (by decide) 0 rfl rfl rfl (Nat.le_of_ble_eq_true rfl) (fun w9 h10 => ?_)
  obtain ⟨F13, R14, rfl, oF13, oR14, wTF13, wCF13, cF13, cR14, zx11, hx12⟩ := h10
  have hk15 := k_ls2 hk7 hx12
  have fF13 : g_fr md_X11_runsBy F F13 := g_fr_c fF5 cF13 rfl
  have fR14 : g_fr mr_X11_runsBy R R14 := g_fr_c fR6 cR14 rfl
  refine g_aload_n cx 0 rfl e_X11_runsBy_8 ?_
  refine g_iload_n cx 1 rfl e_X11_runsBy_9 ?_
  refine g_put cx cl_X11 fl_X11_322 0 (wM X ad (upd F13 49 a0) R14) e_X11_runsBy_10 rfl rfl rfl rfl (Nat.le_of_ble_eq_true rfl) rfl ?_
  obtain ⟨F16, hF16⟩ : ∃ z, z = upd F13 49 a0 := ⟨_, rfl⟩
  rw [← hF16]
  have hk17 := k_ls hk15 hF16
  have oF16 : g_ok LK_wM F16 := by rw [hF16]; exact g_ok_u oF13 rfl
  have fF16 : g_fr md_X11_runsBy F F16 := by rw [hF16]; exact g_fr_u fF13 rfl
  have wTF16 : WT F16 R14 := by rw [hF16]; exact WT_u wTF13 rfl
  have wCF16 : WC F16 R14 := by rw [hF16]; exact WC_u wCF13 rfl
  refine g_aload_n cx 0 rfl e_X11_runsBy_13 ?_
  refine g_iload_n cx 2 rfl e_X11_runsBy_14 ?_
  refine g_put cx cl_X11 fl_X11_346 0 (wM X ad (upd F16 50 a1) R14) e_X11_runsBy_15 rfl rfl rfl rfl (Nat.le_of_ble_eq_true rfl) rfl ?_
  obtain ⟨F18, hF18⟩ : ∃ z, z = upd F16 50 a1 := ⟨_, rfl⟩
  rw [← hF18]
  have hk19 := k_ls hk17 hF18
  have oF18 : g_ok LK_wM F18 := by rw [hF18]; exact g_ok_u oF16 rfl
  have fF18 : g_fr md_X11_runsBy F F18 := by rw [hF18]; exact g_fr_u fF16 rfl
  have wTF18 : WT F18 R14 := by rw [hF18]; exact WT_u wTF16 rfl
  have wCF18 : WC F18 R14 := by rw [hF18]; exact WC_u wCF16 rfl
  refine g_aload_n cx 0 rfl e_X11_runsBy_18 ?_
  refine g_cVvW cx [] [] (w_X11_runs l X ad F18 R14 oF18 oR14 wTF18 wCF18 (WN_of wTF18 (((((g_pu2 hF18 rfl).trans (g_pu2 hF16 rfl)).trans zx11).trans ((cF13 4 rfl).trans (cF5 4 rfl))).trans ((((g_pu2 hF18 rfl).trans (g_pu2 hF16 rfl)).trans (cF13 4 rfl)).trans (cF5 4 rfl)).symm))) ml_X11_428 yV_X11_runs e_X11_runsBy_19 (by unfold g_rr; decide) (by decide) 0 rfl rfl rfl (Nat.le_of_ble_eq_true rfl) (fun w21 h22 => ?_)
  obtain ⟨F24, R25, rfl, oF24, oR25, wTF24, wCF24, cF24, cR25, hx23⟩ := h22
  have hk26 := k_ls2 hk19 hx23
  have fF24 : g_fr md_X11_runsBy F F24 := g_fr_c fF18 cF24 rfl
  have fR25 : g_fr mr_X11_runsBy R R25 := g_fr_c fR14 cR25 rfl
  exact hret e_X11_runsBy_22 (Nat.le_of_ble_eq_true rfl) (Nat.le_of_ble_eq_true rfl) ⟨F24, R25, rfl, oF24, oR25, wTF24, wCF24, fF24, fR25, (hk26.symm.trans hSP)⟩
def K_X11_odds_35 (F : Nat → Int32) (R : Nat → Nat → Int32)  : Int32 × (Nat → Int32) × (Nat → Nat → Int32) :=
  ((-1), F, R)
def K_X11_odds_119 (F36 : Nat → Int32) (R37 : Nat → Nat → Int32) (y57 : Int32) : Int32 × (Nat → Int32) × (Nat → Nat → Int32) :=
  (y57, F36, R37)
def K_X11_odds_78 (b43 : (Nat → Int32) → (Nat → Nat → Int32) → (Int32) → (Int32) → Int32 × (Nat → Int32) × (Nat → Nat → Int32)) (F78 : Nat → Int32) (R79 : Nat → Nat → Int32) (y34 : Int32) (y35 : Int32) (y92 : Int32) : Int32 × (Nat → Int32) × (Nat → Nat → Int32) :=
  k_lt (y34 + y92) (fun x93 => k_lt (y35 + 1) (fun x95 => b43 F78 R79 x93 x95))
def KB_X11_odds_43 (b43 : (Nat → Int32) → (Nat → Nat → Int32) → (Int32) → (Int32) → Int32 × (Nat → Int32) × (Nat → Nat → Int32)) (a0 : Int32) (a1 : Int32) (a2 : Int32) (F36 : Nat → Int32) (R37 : Nat → Nat → Int32) (y34 : Int32) (y35 : Int32) : Int32 × (Nat → Int32) × (Nat → Nat → Int32) :=
  k_lt (sp_X11_rowsOf F36 R37 a0) (fun r39 => if r39 ≤ y35 then k_lt (sp_X11_rowsOf F36 R37 a0) (fun r47 => k_lt (sp_X11_gcd F36 R37 y34 r47) (fun r52 => if a2 = 0 then k_lt (y34 / r52) (fun x70 => K_X11_odds_119 F36 R37 x70) else k_lt (sp_X11_rowsOf F36 R37 a0) (fun r61 => k_lt (r61 / r52) (fun x66 => K_X11_odds_119 F36 R37 x66)))) else k_lt2 (sp_X11_runsBy F36 R37 a0 y35) (fun F78 R79 => k_lt (sp_X11_standing F78 R79) (fun r81 => k_lt (sp_X11_bits F78 R79 r81) (fun r86 => if r86 < a1 then K_X11_odds_78 b43 F78 R79 y34 y35 0 else K_X11_odds_78 b43 F78 R79 y34 y35 1))))
def K_X11_odds_43 (a0 : Int32) (a1 : Int32) (a2 : Int32) : Nat → (Nat → Int32) → (Nat → Nat → Int32) → (Int32) → (Int32) → Int32 × (Nat → Int32) × (Nat → Nat → Int32)
  | 0 => fun F36 R37 _ _ => (0, F36, R37)
  | n + 1 => KB_X11_odds_43 (K_X11_odds_43 a0 a1 a2 n) a0 a1 a2
def sp_X11_odds (F : Nat → Int32) (R : Nat → Nat → Int32) (a0 : Int32) (a1 : Int32) (a2 : Int32) : Int32 × (Nat → Int32) × (Nat → Nat → Int32) :=
  k_lt (g_in a0 1 3) (fun r1 => if r1 = 0 then K_X11_odds_35 F R else k_lt (g_in a1 0 10) (fun r11 => if r11 = 0 then K_X11_odds_35 F R else k_lt (g_in a2 0 1) (fun r21 => if r21 = 0 then K_X11_odds_35 F R else if (F 19) = 0 then K_X11_odds_35 F R else K_X11_odds_43 a0 a1 a2 8589934592 F R 0 0)))
theorem e_X11_odds_0 : g_dc cX11_odds 0 (.iload_n 1) 1 1 := ⟨by decide +kernel, rfl⟩
theorem e_X11_odds_1 : g_dc cX11_odds 1 (.iconst 1) 1 2 := ⟨by decide +kernel, rfl⟩
theorem e_X11_odds_2 : g_dc cX11_odds 2 (.iconst 3) 1 3 := ⟨by decide +kernel, rfl⟩
theorem e_X11_odds_3 : g_dc cX11_odds 3 (.invokestatic 165) 3 6 := ⟨by decide +kernel, rfl⟩
theorem e_X11_odds_6 : g_dc cX11_odds 6 (.ifCond .eq 29) 3 9 := ⟨by decide +kernel, rfl⟩
theorem e_X11_odds_9 : g_dc cX11_odds 9 (.iload_n 2) 1 10 := ⟨by decide +kernel, rfl⟩
theorem e_X11_odds_10 : g_dc cX11_odds 10 (.iconst 0) 1 11 := ⟨by decide +kernel, rfl⟩
theorem e_X11_odds_11 : g_dc cX11_odds 11 (.bipush 10) 2 13 := ⟨by decide +kernel, rfl⟩
theorem e_X11_odds_13 : g_dc cX11_odds 13 (.invokestatic 165) 3 16 := ⟨by decide +kernel, rfl⟩
theorem e_X11_odds_16 : g_dc cX11_odds 16 (.ifCond .eq 19) 3 19 := ⟨by decide +kernel, rfl⟩
theorem e_X11_odds_19 : g_dc cX11_odds 19 (.iload_n 3) 1 20 := ⟨by decide +kernel, rfl⟩
theorem e_X11_odds_20 : g_dc cX11_odds 20 (.iconst 0) 1 21 := ⟨by decide +kernel, rfl⟩
theorem e_X11_odds_21 : g_dc cX11_odds 21 (.iconst 1) 1 22 := ⟨by decide +kernel, rfl⟩
theorem e_X11_odds_22 : g_dc cX11_odds 22 (.invokestatic 165) 3 25 := ⟨by decide +kernel, rfl⟩
theorem e_X11_odds_25 : g_dc cX11_odds 25 (.ifCond .eq 10) 3 28 := ⟨by decide +kernel, rfl⟩
theorem e_X11_odds_28 : g_dc cX11_odds 28 (.aload_n 0) 1 29 := ⟨by decide +kernel, rfl⟩
theorem e_X11_odds_29 : g_dc cX11_odds 29 (.getfield 228) 3 32 := ⟨by decide +kernel, rfl⟩
theorem e_X11_odds_32 : g_dc cX11_odds 32 (.ifCond .ne 5) 3 35 := ⟨by decide +kernel, rfl⟩
theorem e_X11_odds_35 : g_dc cX11_odds 35 (.iconst (-1)) 1 36 := ⟨by decide +kernel, rfl⟩
theorem e_X11_odds_36 : g_dc cX11_odds 36 (.ireturn) 1 37 := ⟨by decide +kernel, rfl⟩
theorem e_X11_odds_37 : g_dc cX11_odds 37 (.iconst 0) 1 38 := ⟨by decide +kernel, rfl⟩
theorem e_X11_odds_38 : g_dc cX11_odds 38 (.istore 4) 2 40 := ⟨by decide +kernel, rfl⟩
theorem e_X11_odds_40 : g_dc cX11_odds 40 (.iconst 0) 1 41 := ⟨by decide +kernel, rfl⟩
theorem e_X11_odds_41 : g_dc cX11_odds 41 (.istore 5) 2 43 := ⟨by decide +kernel, rfl⟩
theorem e_X11_odds_43 : g_dc cX11_odds 43 (.iload 5) 2 45 := ⟨by decide +kernel, rfl⟩
theorem e_X11_odds_45 : g_dc cX11_odds 45 (.aload_n 0) 1 46 := ⟨by decide +kernel, rfl⟩
theorem e_X11_odds_46 : g_dc cX11_odds 46 (.iload_n 1) 1 47 := ⟨by decide +kernel, rfl⟩
theorem e_X11_odds_47 : g_dc cX11_odds 47 (.invokevirtual 477) 3 50 := ⟨by decide +kernel, rfl⟩
theorem e_X11_odds_50 : g_dc cX11_odds 50 (.if_icmp .ge 37) 3 53 := ⟨by decide +kernel, rfl⟩
theorem e_X11_odds_53 : g_dc cX11_odds 53 (.aload_n 0) 1 54 := ⟨by decide +kernel, rfl⟩
theorem e_X11_odds_54 : g_dc cX11_odds 54 (.iload_n 1) 1 55 := ⟨by decide +kernel, rfl⟩
theorem e_X11_odds_55 : g_dc cX11_odds 55 (.iload 5) 2 57 := ⟨by decide +kernel, rfl⟩
theorem e_X11_odds_57 : g_dc cX11_odds 57 (.invokevirtual 480) 3 60 := ⟨by decide +kernel, rfl⟩
theorem e_X11_odds_60 : g_dc cX11_odds 60 (.iload 4) 2 62 := ⟨by decide +kernel, rfl⟩
theorem e_X11_odds_62 : g_dc cX11_odds 62 (.aload_n 0) 1 63 := ⟨by decide +kernel, rfl⟩
theorem e_X11_odds_63 : g_dc cX11_odds 63 (.invokevirtual 407) 3 66 := ⟨by decide +kernel, rfl⟩
theorem e_X11_odds_66 : g_dc cX11_odds 66 (.invokestatic 410) 3 69 := ⟨by decide +kernel, rfl⟩
theorem e_X11_odds_69 : g_dc cX11_odds 69 (.iload_n 2) 1 70 := ⟨by decide +kernel, rfl⟩
theorem e_X11_odds_70 : g_dc cX11_odds 70 (.if_icmp .lt 7) 3 73 := ⟨by decide +kernel, rfl⟩
theorem e_X11_odds_73 : g_dc cX11_odds 73 (.iconst 1) 1 74 := ⟨by decide +kernel, rfl⟩
theorem e_X11_odds_74 : g_dc cX11_odds 74 (.goto 4) 3 77 := ⟨by decide +kernel, rfl⟩
theorem e_X11_odds_77 : g_dc cX11_odds 77 (.iconst 0) 1 78 := ⟨by decide +kernel, rfl⟩
theorem e_X11_odds_78 : g_dc cX11_odds 78 (.iadd) 1 79 := ⟨by decide +kernel, rfl⟩
theorem e_X11_odds_79 : g_dc cX11_odds 79 (.istore 4) 2 81 := ⟨by decide +kernel, rfl⟩
theorem e_X11_odds_81 : g_dc cX11_odds 81 (.iinc 5 1) 3 84 := ⟨by decide +kernel, rfl⟩
theorem e_X11_odds_84 : g_dc cX11_odds 84 (.goto (-41)) 3 87 := ⟨by decide +kernel, rfl⟩
theorem e_X11_odds_87 : g_dc cX11_odds 87 (.iload 4) 2 89 := ⟨by decide +kernel, rfl⟩
theorem e_X11_odds_89 : g_dc cX11_odds 89 (.aload_n 0) 1 90 := ⟨by decide +kernel, rfl⟩
theorem e_X11_odds_90 : g_dc cX11_odds 90 (.iload_n 1) 1 91 := ⟨by decide +kernel, rfl⟩
theorem e_X11_odds_91 : g_dc cX11_odds 91 (.invokevirtual 477) 3 94 := ⟨by decide +kernel, rfl⟩
theorem e_X11_odds_94 : g_dc cX11_odds 94 (.invokestatic 483) 3 97 := ⟨by decide +kernel, rfl⟩
theorem e_X11_odds_97 : g_dc cX11_odds 97 (.istore 5) 2 99 := ⟨by decide +kernel, rfl⟩
theorem e_X11_odds_99 : g_dc cX11_odds 99 (.iload_n 3) 1 100 := ⟨by decide +kernel, rfl⟩
theorem e_X11_odds_100 : g_dc cX11_odds 100 (.ifCond .ne 11) 3 103 := ⟨by decide +kernel, rfl⟩
theorem e_X11_odds_103 : g_dc cX11_odds 103 (.iload 4) 2 105 := ⟨by decide +kernel, rfl⟩
theorem e_X11_odds_105 : g_dc cX11_odds 105 (.iload 5) 2 107 := ⟨by decide +kernel, rfl⟩
theorem e_X11_odds_107 : g_dc cX11_odds 107 (.idiv) 1 108 := ⟨by decide +kernel, rfl⟩
theorem e_X11_odds_108 : g_dc cX11_odds 108 (.goto 11) 3 111 := ⟨by decide +kernel, rfl⟩
theorem e_X11_odds_111 : g_dc cX11_odds 111 (.aload_n 0) 1 112 := ⟨by decide +kernel, rfl⟩
theorem e_X11_odds_112 : g_dc cX11_odds 112 (.iload_n 1) 1 113 := ⟨by decide +kernel, rfl⟩
theorem e_X11_odds_113 : g_dc cX11_odds 113 (.invokevirtual 477) 3 116 := ⟨by decide +kernel, rfl⟩
theorem e_X11_odds_116 : g_dc cX11_odds 116 (.iload 5) 2 118 := ⟨by decide +kernel, rfl⟩
theorem e_X11_odds_118 : g_dc cX11_odds 118 (.idiv) 1 119 := ⟨by decide +kernel, rfl⟩
theorem e_X11_odds_119 : g_dc cX11_odds 119 (.ireturn) 1 120 := ⟨by decide +kernel, rfl⟩
def md_X11_odds : List Nat := [3, 42, 43, 44, 45, 46, 47, 48, 49, 50, 51, 65, 66, 67, 68, 69]
def mr_X11_odds : List Nat := [23, 24, 25, 26, 27, 28, 29, 30, 31, 32, 33, 34, 35, 36, 37]
set_option maxHeartbeats 4000000 in
set_option maxRecDepth 100000 in
theorem w_X11_odds (l : Launch) (X : gX) (ad : Nat → Nat) (F : Nat → Int32) (R : Nat → Nat → Int32) (hI : g_ok LK_wM F) (hA : g_okR LA_wM R) (hWT : WT F R) (hWC : WC F R) (a0 : Int32) (a1 : Int32) (a2 : Int32) : g_Ci l X yX11_odds cX11_odds 6 (some .int) 8 0 0 [.ref (ad 0), .int a0, .int a1, .int a2] (wM X ad F R) (fun r w => ∃ (F' : Nat → Int32) (R' : Nat → Nat → Int32), w = wM X ad F' R' ∧ g_ok LK_wM F' ∧ g_okR LA_wM R' ∧ WT F' R' ∧ WC F' R' ∧ g_fr md_X11_odds F F' ∧ g_fr mr_X11_odds R R' ∧ jv (-1) 1000 r ∧ (r, F', R') = sp_X11_odds F R a0 a1 a2) := by
  refine g_mi (by decide +kernel) (Nat.le_of_ble_eq_true rfl) (fun E cx hret => ?_)
  obtain ⟨SP, hSP⟩ : ∃ z, z = sp_X11_odds F R a0 a1 a2 := ⟨_, rfl⟩
  have hk0 := hSP
  unfold sp_X11_odds at hk0
  refine g_iload_n cx 1 rfl e_X11_odds_0 ?_
  refine g_iconst cx 1 (by decide) e_X11_odds_1 ?_
  refine g_iconst cx 3 (by decide) e_X11_odds_2 ?_
  refine g_cSiW cx [.int a0, .int 1, .int 3] [] (c_X11_in l X (wM X ad F R) a0 1 3) ml_X11_165 yS_X11_in rfl e_X11_odds_3 (by unfold g_rr; decide) (by decide) rfl (Nat.le_of_ble_eq_true rfl) (fun r1 w2 h3 => ?_)
  obtain ⟨rfl, hr1⟩ := h3
  have pr1 : jv 0 1 r1 := by rw [hr1]; exact gi_01 _ _ _
  have hk4 := k_ls hk0 hr1
  have J35 : (SP = K_X11_odds_35 F R) → G X E 6 0 0 (wM X ad F R) [] 35 [] := by
    intro   hkJ35
    unfold K_X11_odds_35 at hkJ35
    refine g_iconst cx (-1) (by decide) e_X11_odds_35 ?_
    exact hret e_X11_odds_36 (Nat.le_of_ble_eq_true rfl) (Nat.le_of_ble_eq_true rfl) rfl ⟨F, R, rfl, hI, hA, hWT, hWC, (g_fr_rf F), (g_fr_rf R), (jv_w (jv_k (x := (-1)) (-1) (by decide)) (by decide)), (hkJ35.symm.trans hSP)⟩
  refine g_if_eq cx 35 e_X11_odds_6 (by decide) (fun zc5 => ?_) (fun zc5 => ?_)
  · have p6 := gn_eq 0 0 (gc_eq zc5) pr1 (jv_k (x := 0) 0 (by decide)) (by decide)
    have hk7 := hk4.trans (if_pos zc5)
    refine g_lsub [] [] rfl ?_
    exact J35  hk7
  · have p8 := gn_neL 1 1 (gc_ne zc5) pr1 (jv_k (x := 0) 0 (by decide)) (by decide)
    have p9 := jv_i 1 3 (jv_t a0) (gi_in (A := 1) (B := 3) hr1 zc5 (by decide) (by decide)) (by decide)
    have hk10 := hk4.trans (if_neg zc5)
    refine g_iload_n cx 2 rfl e_X11_odds_9 ?_
    refine g_iconst cx 0 (by decide) e_X11_odds_10 ?_
    refine g_bipush cx 10 (by decide) e_X11_odds_11 ?_
    refine g_cSiW cx [.int a1, .int 0, .int 10] [] (c_X11_in l X (wM X ad F R) a1 0 10) ml_X11_165 yS_X11_in rfl e_X11_odds_13 (by unfold g_rr; decide) (by decide) rfl (Nat.le_of_ble_eq_true rfl) (fun r11 w12 h13 => ?_)
    obtain ⟨rfl, hr11⟩ := h13
    have pr11 : jv 0 1 r11 := by rw [hr11]; exact gi_01 _ _ _
    have hk14 := k_ls hk10 hr11
    refine g_if_eq cx 35 e_X11_odds_16 (by decide) (fun zc15 => ?_) (fun zc15 => ?_)
    · have p16 := gn_eq 0 0 (gc_eq zc15) pr11 (jv_k (x := 0) 0 (by decide)) (by decide)
      have hk17 := hk14.trans (if_pos zc15)
      refine g_lsub [] [] rfl ?_
      exact J35  hk17
    · have p18 := gn_neL 1 1 (gc_ne zc15) pr11 (jv_k (x := 0) 0 (by decide)) (by decide)
      have p19 := jv_i 0 10 (jv_t a1) (gi_in (A := 0) (B := 10) hr11 zc15 (by decide) (by decide)) (by decide)
      have hk20 := hk14.trans (if_neg zc15)
      refine g_iload_n cx 3 rfl e_X11_odds_19 ?_
      refine g_iconst cx 0 (by decide) e_X11_odds_20 ?_
      refine g_iconst cx 1 (by decide) e_X11_odds_21 ?_
      refine g_cSiW cx [.int a2, .int 0, .int 1] [] (c_X11_in l X (wM X ad F R) a2 0 1) ml_X11_165 yS_X11_in rfl e_X11_odds_22 (by unfold g_rr; decide) (by decide) rfl (Nat.le_of_ble_eq_true rfl) (fun r21 w22 h23 => ?_)
      obtain ⟨rfl, hr21⟩ := h23
      have pr21 : jv 0 1 r21 := by rw [hr21]; exact gi_01 _ _ _
      have hk24 := k_ls hk20 hr21
      refine g_if_eq cx 35 e_X11_odds_25 (by decide) (fun zc25 => ?_) (fun zc25 => ?_)
      · have p26 := gn_eq 0 0 (gc_eq zc25) pr21 (jv_k (x := 0) 0 (by decide)) (by decide)
        have hk27 := hk24.trans (if_pos zc25)
        refine g_lsub [] [] rfl ?_
        exact J35  hk27
      · have p28 := gn_neL 1 1 (gc_ne zc25) pr21 (jv_k (x := 0) 0 (by decide)) (by decide)
        have p29 := jv_i 0 1 (jv_t a2) (gi_in (A := 0) (B := 1) hr21 zc25 (by decide) (by decide)) (by decide)
        have hk30 := hk24.trans (if_neg zc25)
        refine g_aload_n cx 0 rfl e_X11_odds_28 ?_
        refine g_get cx cl_X11 fl_X11_228 0 (.int (F 19)) e_X11_odds_29 rfl rfl ?_
        refine g_if_ne cx 37 e_X11_odds_32 (by decide) (fun zc31 => ?_) (fun zc31 => ?_)
        · have p32 := gn_neL 1 60 (gc_ne zc31) (g_ok_g hI 3 rfl) (jv_k (x := 0) 0 (by decide)) (by decide)
          have hk33 := hk30.trans (if_neg zc31)
          refine g_iconst cx 0 (by decide) e_X11_odds_37 ?_
          refine g_istore cx [(4, .int 0), (0, .ref (ad 0)), (1, .int a0), (2, .int a1), (3, .int a2)] e_X11_odds_38 (by decide) rfl ?_
          refine g_iconst cx 0 (by decide) e_X11_odds_40 ?_
          refine g_istore cx [(5, .int 0), (4, .int 0), (0, .ref (ad 0)), (1, .int a0), (2, .int a1), (3, .int a2)] e_X11_odds_41 (by decide) rfl ?_
          have J43 : ∀ (N : Nat) (F36 : Nat → Int32) (R37 : Nat → Nat → Int32) (y34 : Int32) (y35 : Int32), (g_ok LK_wM F36) → (g_fr md_X11_odds F F36) → (g_okR LA_wM R37) → (g_fr mr_X11_odds R R37) → (WT F36 R37) → (WC F36 R37) → (jv 0 13631487 y34) → (jv 0 1000 y35) → (0 ≤ (y34 : Int32).toInt ∧ (y34 : Int32).toInt ≤ (y35 : Int32).toInt) → (SP = K_X11_odds_43 a0 a1 a2 N F36 R37 y34 y35) → (2147483647 - y35.toInt).toNat < N → G X E 6 0 0 (wM X ad F36 R37) [(0, .ref (ad 0)), (1, .int a0), (2, .int a1), (3, .int a2), (4, .int y34), (5, .int y35)] 43 [] := by
            intro N
            induction N with
            | zero => intro F36 R37 y34 y35 oF36 fF36 oR37 fR37 wTF36R37 wCF36R37 py34 py35 zi43_0 hkJ43 hm; exact absurd hm (Nat.not_lt_zero _)
            | succ N ih43 =>
              intro F36 R37 y34 y35 oF36 fF36 oR37 fR37 wTF36R37 wCF36R37 py34 py35 zi43_0 hkJ43 hm43
              have hkK43 : SP = KB_X11_odds_43 (K_X11_odds_43 a0 a1 a2 N) a0 a1 a2 F36 R37 y34 y35 := hkJ43
              obtain ⟨b43, hb43⟩ : ∃ z, z = K_X11_odds_43 a0 a1 a2 N := ⟨_, rfl⟩
              rw [← hb43] at hkK43
              unfold KB_X11_odds_43 at hkK43
              have p38 : jv 0 1000 y34 := ⟨by have q0 := py34.1; have q1 := py34.2; have q2 := py35.1; have q3 := py35.2; have q4 := zi43_0; omega, by have q0 := py34.1; have q1 := py34.2; have q2 := py35.1; have q3 := py35.2; have q4 := zi43_0; omega⟩
              refine g_iload cx 5 rfl e_X11_odds_43 ?_
              refine g_aload_n cx 0 rfl e_X11_odds_45 ?_
              refine g_iload_n cx 1 rfl e_X11_odds_46 ?_
              refine g_cViW cx [.int a0] [.int y35] (w_X11_rowsOf l X ad F36 R37 oF36 oR37 wTF36R37 wCF36R37 a0) ml_X11_477 yV_X11_rowsOf e_X11_odds_47 (by unfold g_rr; decide) (by decide) 0 rfl rfl rfl (Nat.le_of_ble_eq_true rfl) (fun r39 w40 h41 => ?_)
              obtain ⟨rfl, pr39, hx42⟩ := h41
              have hk43 := k_ls hkK43 hx42
              refine g_icmp_ge cx 87 e_X11_odds_50 (by decide) (fun zc44 => ?_) (fun zc44 => ?_)
              · have p45 := gn_ge 10 1000 (gc_le zc44) py35 pr39 (by decide)
                have hk46 := hk43.trans (if_pos zc44)
                refine g_iload cx 4 rfl e_X11_odds_87 ?_
                refine g_aload_n cx 0 rfl e_X11_odds_89 ?_
                refine g_iload_n cx 1 rfl e_X11_odds_90 ?_
                refine g_cViW cx [.int a0] [.int y34] (w_X11_rowsOf l X ad F36 R37 oF36 oR37 wTF36R37 wCF36R37 a0) ml_X11_477 yV_X11_rowsOf e_X11_odds_91 (by unfold g_rr; decide) (by decide) 0 rfl rfl rfl (Nat.le_of_ble_eq_true rfl) (fun r47 w48 h49 => ?_)
                obtain ⟨rfl, pr47, hx50⟩ := h49
                have hk51 := k_ls hk46 hx50
                refine g_cSiW cx [.int y34, .int r47] [] (w_X11_gcd l X ad F36 R37 oF36 oR37 y34 r47 p38 (jv_w pr47 (by decide))) ml_X11_483 yS_X11_gcd rfl e_X11_odds_94 (by unfold g_rr; decide) (by decide) rfl (Nat.le_of_ble_eq_true rfl) (fun r52 w53 h54 => ?_)
                obtain ⟨rfl, pr52, hx55⟩ := h54
                have hk56 := k_ls hk51 hx55
                refine g_istore cx [(5, .int r52), (0, .ref (ad 0)), (1, .int a0), (2, .int a1), (3, .int a2), (4, .int y34)] e_X11_odds_97 (by decide) rfl ?_
                refine g_iload_n cx 4 rfl e_X11_odds_99 ?_
                have J119 : ∀ (y57 : Int32), (jv 0 1000 y57) → (SP = K_X11_odds_119 F36 R37 y57) → G X E 6 0 0 (wM X ad F36 R37) [] 119 [.int y57] := by
                  intro y57 py57 hkJ119
                  unfold K_X11_odds_119 at hkJ119
                  exact hret e_X11_odds_119 (Nat.le_of_ble_eq_true rfl) (Nat.le_of_ble_eq_true rfl) rfl ⟨F36, R37, rfl, oF36, oR37, wTF36R37, wCF36R37, fF36, fR37, (jv_w py57 (by decide)), (hkJ119.symm.trans hSP)⟩
                refine g_if_ne cx 111 e_X11_odds_100 (by decide) (fun zc58 => ?_) (fun zc58 => ?_)
                · have p59 := gn_neL 1 1 (gc_ne zc58) p29 (jv_k (x := 0) 0 (by decide)) (by decide)
                  have hk60 := hk56.trans (if_neg zc58)
                  refine g_aload_n cx 1 rfl e_X11_odds_111 ?_
                  refine g_iload_n cx 2 rfl e_X11_odds_112 ?_
                  refine g_cViW cx [.int a0] [] (w_X11_rowsOf l X ad F36 R37 oF36 oR37 wTF36R37 wCF36R37 a0) ml_X11_477 yV_X11_rowsOf e_X11_odds_113 (by unfold g_rr; decide) (by decide) 0 rfl rfl rfl (Nat.le_of_ble_eq_true rfl) (fun r61 w62 h63 => ?_)
                  obtain ⟨rfl, pr61, hx64⟩ := h63
                  have hk65 := k_ls hk60 hx64
                  refine g_iload cx 0 rfl e_X11_odds_116 ?_
                  refine g_idiv cx (g_nz0 pr52 (by decide)) e_X11_odds_118 ?_
                  refine g_topi (fun x66 ex66 => ?_)
                  have hk67 := k_ls hk65 ex66
                  have zx66 := jv_div 0 1000 ex66 pr61 pr52 (by decide)
                  refine g_lsub [] [] rfl ?_
                  exact J119 x66 zx66.2 hk67
                · have p68 := gn_eq 0 0 (gc_eq zc58) p29 (jv_k (x := 0) 0 (by decide)) (by decide)
                  have hk69 := hk56.trans (if_pos zc58)
                  refine g_iload cx 5 rfl e_X11_odds_103 ?_
                  refine g_iload cx 0 rfl e_X11_odds_105 ?_
                  refine g_idiv cx (g_nz0 pr52 (by decide)) e_X11_odds_107 ?_
                  refine g_topi (fun x70 ex70 => ?_)
                  have hk71 := k_ls hk69 ex70
                  have zx70 := jv_div 0 1000 ex70 p38 pr52 (by decide)
                  refine g_goto cx 119 e_X11_odds_108 (by decide) ?_
                  refine g_lsub [] [] rfl ?_
                  exact J119 x70 zx70.2 hk71
              · have p72 := gn_lt 0 999 (gc_nle zc44) py35 pr39 (by decide)
                have hk73 := hk43.trans (if_neg zc44)
                refine g_aload_n cx 0 rfl e_X11_odds_53 ?_
                refine g_iload_n cx 1 rfl e_X11_odds_54 ?_
                refine g_iload cx 5 rfl e_X11_odds_55 ?_
                refine g_cVvW cx [.int a0, .int y35] [] (w_X11_runsBy l X ad F36 R37 oF36 oR37 wTF36R37 wCF36R37 a0 y35) ml_X11_480 yV_X11_runsBy e_X11_odds_57 (by unfold g_rr; decide) (by decide) 0 rfl rfl rfl (Nat.le_of_ble_eq_true rfl) (fun w75 h76 => ?_)
                obtain ⟨F78, R79, rfl, oF78, oR79, wTF78, wCF78, cF78, cR79, hx77⟩ := h76
                have hk80 := k_ls2 hk73 hx77
                have fF78 : g_fr md_X11_odds F F78 := g_fr_c fF36 cF78 rfl
                have fR79 : g_fr mr_X11_odds R R79 := g_fr_c fR37 cR79 rfl
                refine g_iload cx 4 rfl e_X11_odds_60 ?_
                refine g_aload_n cx 0 rfl e_X11_odds_62 ?_
                refine g_cViW cx [] [.int y34] (w_X11_standing l X ad F78 R79 oF78 oR79 wTF78 wCF78) ml_X11_407 yV_X11_standing e_X11_odds_63 (by unfold g_rr; decide) (by decide) 0 rfl rfl rfl (Nat.le_of_ble_eq_true rfl) (fun r81 w82 h83 => ?_)
                obtain ⟨rfl, pr81, hx84⟩ := h83
                have hk85 := k_ls hk80 hx84
                refine g_cSiW cx [.int r81] [.int y34] (w_X11_bits l X ad F78 R79 oF78 oR79 r81) ml_X11_410 yS_X11_bits rfl e_X11_odds_66 (by unfold g_rr; decide) (by decide) rfl (Nat.le_of_ble_eq_true rfl) (fun r86 w87 h88 => ?_)
                obtain ⟨rfl, pr86, zx89, hx90⟩ := h88
                have hk91 := k_ls hk85 hx90
                refine g_iload_n cx 2 rfl e_X11_odds_69 ?_
                have J78 : ∀ (y92 : Int32), (jv 0 1 y92) → (SP = K_X11_odds_78 b43 F78 R79 y34 y35 y92) → G X E 6 0 0 (wM X ad F78 R79) [(0, .ref (ad 0)), (1, .int a0), (2, .int a1), (3, .int a2), (5, .int y35)] 78 [.int y92, .int y34] := by
                  intro y92 py92 hkJ78
                  unfold K_X11_odds_78 at hkJ78
                  refine g_iadd cx e_X11_odds_78 ?_
                  refine g_topi (fun x93 ex93 => ?_)
                  have hk94 := k_ls hkJ78 ex93
                  have zx93 := jv_add 0 1001 ex93 p38 py92 (by decide)
                  refine g_istore cx [(4, .int x93), (0, .ref (ad 0)), (1, .int a0), (2, .int a1), (3, .int a2), (5, .int y35)] e_X11_odds_79 (by decide) rfl ?_
                  obtain ⟨x95, ex95⟩ : ∃ z : Int32, z = y35 + Int32.ofInt 1 := ⟨_, rfl⟩
                  have hk96 := k_ls hk94 (show x95 = y35 + 1 from ex95)
                  refine g_iinc cx x95 [(5, .int x95), (4, .int x93), (0, .ref (ad 0)), (1, .int a0), (2, .int a1), (3, .int a2)] 5 e_X11_odds_81 rfl ex95.symm (by decide) rfl ?_
                  have zx95 := jv_add 1 1000 (show x95 = y35 + 1 from ex95) p72 (jv_k (x := 1) 1 (by decide)) (by decide)
                  refine g_goto cx 43 e_X11_odds_84 (by decide) ?_
                  refine g_lsub [2, 3, 4, 5, 1, 0] [(0, .ref (ad 0)), (1, .int a0), (2, .int a1), (3, .int a2), (4, .int x93), (5, .int x95)] rfl ?_
                  exact ih43 F78 R79 x93 x95 oF78 fF78 oR79 fR79 wTF78 wCF78 (jv_w zx93.2 (by decide)) (jv_w zx95.2 (by decide)) (by have q0 := (jv_k (x := 1) 1 (by decide)).1; have q1 := (jv_k (x := 1) 1 (by decide)).2; have q2 := pr39.1; have q3 := pr39.2; have q4 := zx93.2.1; have q5 := zx93.2.2; have q6 := zx95.2.1; have q7 := zx95.2.2; have q8 := p38.1; have q9 := p38.2; have q10 := p72.1; have q11 := p72.2; have q12 := py92.1; have q13 := py92.2; have q14 := zi43_0; have q15 := (gc_nle zc44); have q16 := (g_eq0 zx93.1); have q17 := (g_eq0 zx95.1); omega) (hk96.trans (by rw [hb43])) (Nat.lt_of_lt_of_le (show (2147483647 - x95.toInt).toNat < (2147483647 - y35.toInt).toNat from by have q0 := (jv_k (x := 1) 1 (by decide)).1; have q1 := (jv_k (x := 1) 1 (by decide)).2; have q2 := pr39.1; have q3 := pr39.2; have q4 := zx93.2.1; have q5 := zx93.2.2; have q6 := zx95.2.1; have q7 := zx95.2.2; have q8 := p38.1; have q9 := p38.2; have q10 := p72.1; have q11 := p72.2; have q12 := py92.1; have q13 := py92.2; have q14 := zi43_0; have q15 := (gc_nle zc44); have q16 := (g_eq0 zx93.1); have q17 := (g_eq0 zx95.1); omega) (Nat.le_of_lt_succ hm43))
                refine g_icmp_lt cx 77 e_X11_odds_70 (by decide) (fun zc97 => ?_) (fun zc97 => ?_)
                · have p98 := gn_lt 0 9 (gc_lt zc97) pr86 p19 (by decide)
                  have p99 := gn_gt 1 10 (gc_lt zc97) p19 pr86 (by decide)
                  have hk100 := hk91.trans (if_pos zc97)
                  refine g_iconst cx 0 (by decide) e_X11_odds_77 ?_
                  refine g_lsub [0, 1, 2, 3, 5] [(0, .ref (ad 0)), (1, .int a0), (2, .int a1), (3, .int a2), (5, .int y35)] rfl ?_
                  exact J78 0 (jv_w (jv_k (x := 0) 0 (by decide)) (by decide)) hk100
                · have hk101 := hk91.trans (if_neg zc97)
                  refine g_iconst cx 1 (by decide) e_X11_odds_73 ?_
                  refine g_goto cx 78 e_X11_odds_74 (by decide) ?_
                  refine g_lsub [0, 1, 2, 3, 5] [(0, .ref (ad 0)), (1, .int a0), (2, .int a1), (3, .int a2), (5, .int y35)] rfl ?_
                  exact J78 1 (jv_w (jv_k (x := 1) 1 (by decide)) (by decide)) hk101
          refine g_lsub [2, 3, 4, 5, 1, 0] [(0, .ref (ad 0)), (1, .int a0), (2, .int a1), (3, .int a2), (4, .int 0), (5, .int 0)] rfl ?_
          exact J43 8589934592 F R 0 0 hI (g_fr_rf F) hA (g_fr_rf R) hWT hWC (jv_w (jv_k (x := 0) 0 (by decide)) (by decide)) (jv_w (jv_k (x := 0) 0 (by decide)) (by decide)) (by have q0 := (jv_k (x := 0) 0 (by decide)).1; have q1 := (jv_k (x := 0) 0 (by decide)).2; have q2 := p32.1; have q3 := p32.2; have q4 := p8.1; have q5 := p8.2; have q6 := p18.1; have q7 := p18.2; have q8 := p28.1; have q9 := p28.2; have q10 := (gc_ne zc5); have q11 := (gc_ne zc15); have q12 := (gc_ne zc25); have q13 := (gc_ne zc31); omega) hk33 (show (2147483647 - (0 : Int32).toInt).toNat < 8589934592 from by have q0 := (jv_k (x := 0) 0 (by decide)).1; have q1 := (jv_k (x := 0) 0 (by decide)).2; omega)
        · have p102 := gn_eq 0 0 (gc_eq zc31) (g_ok_g hI 3 rfl) (jv_k (x := 0) 0 (by decide)) (by decide)
          have hk103 := hk30.trans (if_pos zc31)
          refine g_lsub [] [] rfl ?_
          exact J35  hk103
def K_X11_should_27 (F : Nat → Int32) (R : Nat → Nat → Int32)  : Int32 × (Nat → Int32) × (Nat → Nat → Int32) :=
  ((-1000000000), F, R)
def K_X11_should_114 (b75 : (Int32) → (Int32) → Int32 × (Nat → Int32) × (Nat → Nat → Int32)) (y52 : Int32) (y64 : Int32) : Int32 × (Nat → Int32) × (Nat → Nat → Int32) :=
  k_lt (y52 + 1) (fun x65 => b75 y64 x65)
def KB_X11_should_75 (b75 : (Int32) → (Int32) → Int32 × (Nat → Int32) × (Nat → Nat → Int32)) (b36 : (Nat → Int32) → (Nat → Nat → Int32) → (Int32) → (Int32) → Int32 × (Nat → Int32) × (Nat → Nat → Int32)) (F : Nat → Int32) (F42 : Nat → Int32) (R43 : Nat → Nat → Int32) (r45 : Int32) (y25 : Int32) (y51 : Int32) (y52 : Int32) : Int32 × (Nat → Int32) × (Nat → Nat → Int32) :=
  if 10 ≤ y52 then k_lt (y25 + 1) (fun x56 => b36 F42 R43 y51 x56) else k_lt (g_hasv (F 4) y52) (fun r60 => if r60 = 0 then K_X11_should_114 b75 y52 y51 else k_lt (g_hasv r45 y52) (fun r73 => if r73 = 0 then k_lt (R43 8 (Int32.toNatClampNeg y52)) (fun x83 => k_lt (y51 - x83) (fun x85 => K_X11_should_114 b75 y52 x85)) else K_X11_should_114 b75 y52 y51))
def K_X11_should_75 (b36 : (Nat → Int32) → (Nat → Nat → Int32) → (Int32) → (Int32) → Int32 × (Nat → Int32) × (Nat → Nat → Int32)) (F : Nat → Int32) (F42 : Nat → Int32) (R43 : Nat → Nat → Int32) (r45 : Int32) (y25 : Int32) : Nat → (Int32) → (Int32) → Int32 × (Nat → Int32) × (Nat → Nat → Int32)
  | 0 => fun _ _ => (0, F42, R43)
  | n + 1 => KB_X11_should_75 (K_X11_should_75 b36 F F42 R43 r45 y25 n) b36 F F42 R43 r45 y25
def K_X11_should_72 (b36 : (Nat → Int32) → (Nat → Nat → Int32) → (Int32) → (Int32) → Int32 × (Nat → Int32) × (Nat → Nat → Int32)) (F : Nat → Int32) (F42 : Nat → Int32) (R43 : Nat → Nat → Int32) (r45 : Int32) (y25 : Int32) (y50 : Int32) : Int32 × (Nat → Int32) × (Nat → Nat → Int32) :=
  K_X11_should_75 b36 F F42 R43 r45 y25 8589934592 y50 0
def KB_X11_should_36 (b36 : (Nat → Int32) → (Nat → Nat → Int32) → (Int32) → (Int32) → Int32 × (Nat → Int32) × (Nat → Nat → Int32)) (F : Nat → Int32) (a0 : Int32) (a1 : Int32) (F26 : Nat → Int32) (R27 : Nat → Nat → Int32) (y24 : Int32) (y25 : Int32) : Int32 × (Nat → Int32) × (Nat → Nat → Int32) :=
  k_lt (sp_X11_rowsOf F26 R27 a0) (fun r28 => if r28 ≤ y25 then (y24, F26, R27) else k_lt2 (sp_X11_runsBy F26 R27 a0 y25) (fun F42 R43 => k_lt (sp_X11_standing F42 R43) (fun r45 => if r45 = (F 4) then k_lt (y24 + a1) (fun x90 => K_X11_should_72 b36 F F42 R43 r45 y25 x90) else K_X11_should_72 b36 F F42 R43 r45 y25 y24)))
def K_X11_should_36 (F : Nat → Int32) (a0 : Int32) (a1 : Int32) : Nat → (Nat → Int32) → (Nat → Nat → Int32) → (Int32) → (Int32) → Int32 × (Nat → Int32) × (Nat → Nat → Int32)
  | 0 => fun F26 R27 _ _ => (0, F26, R27)
  | n + 1 => KB_X11_should_36 (K_X11_should_36 F a0 a1 n) F a0 a1
def sp_X11_should (F : Nat → Int32) (R : Nat → Nat → Int32) (a0 : Int32) (a1 : Int32) : Int32 × (Nat → Int32) × (Nat → Nat → Int32) :=
  k_lt (g_in a0 1 3) (fun r1 => if r1 = 0 then K_X11_should_27 F R else k_lt (g_in a1 0 9999) (fun r11 => if r11 = 0 then K_X11_should_27 F R else if (F 19) = 0 then K_X11_should_27 F R else K_X11_should_36 F a0 a1 8589934592 F R 0 0))
theorem e_X11_should_0 : g_dc cX11_should 0 (.iload_n 1) 1 1 := ⟨by decide +kernel, rfl⟩
theorem e_X11_should_1 : g_dc cX11_should 1 (.iconst 1) 1 2 := ⟨by decide +kernel, rfl⟩
theorem e_X11_should_2 : g_dc cX11_should 2 (.iconst 3) 1 3 := ⟨by decide +kernel, rfl⟩
theorem e_X11_should_3 : g_dc cX11_should 3 (.invokestatic 165) 3 6 := ⟨by decide +kernel, rfl⟩
theorem e_X11_should_6 : g_dc cX11_should 6 (.ifCond .eq 21) 3 9 := ⟨by decide +kernel, rfl⟩
theorem e_X11_should_9 : g_dc cX11_should 9 (.iload_n 2) 1 10 := ⟨by decide +kernel, rfl⟩
theorem e_X11_should_10 : g_dc cX11_should 10 (.iconst 0) 1 11 := ⟨by decide +kernel, rfl⟩
theorem e_X11_should_11 : g_dc cX11_should 11 (.sipush 9999) 3 14 := ⟨by decide +kernel, rfl⟩
theorem e_X11_should_14 : g_dc cX11_should 14 (.invokestatic 165) 3 17 := ⟨by decide +kernel, rfl⟩
theorem e_X11_should_17 : g_dc cX11_should 17 (.ifCond .eq 10) 3 20 := ⟨by decide +kernel, rfl⟩
theorem e_X11_should_20 : g_dc cX11_should 20 (.aload_n 0) 1 21 := ⟨by decide +kernel, rfl⟩
theorem e_X11_should_21 : g_dc cX11_should 21 (.getfield 228) 3 24 := ⟨by decide +kernel, rfl⟩
theorem e_X11_should_24 : g_dc cX11_should 24 (.ifCond .ne 7) 3 27 := ⟨by decide +kernel, rfl⟩
theorem e_X11_should_27 : g_dc cX11_should 27 (.ldc_w 486) 3 30 := ⟨by decide +kernel, rfl⟩
theorem e_X11_should_30 : g_dc cX11_should 30 (.ireturn) 1 31 := ⟨by decide +kernel, rfl⟩
theorem e_X11_should_31 : g_dc cX11_should 31 (.iconst 0) 1 32 := ⟨by decide +kernel, rfl⟩
theorem e_X11_should_32 : g_dc cX11_should 32 (.istore_n 3) 1 33 := ⟨by decide +kernel, rfl⟩
theorem e_X11_should_33 : g_dc cX11_should 33 (.iconst 0) 1 34 := ⟨by decide +kernel, rfl⟩
theorem e_X11_should_34 : g_dc cX11_should 34 (.istore 4) 2 36 := ⟨by decide +kernel, rfl⟩
theorem e_X11_should_36 : g_dc cX11_should 36 (.iload 4) 2 38 := ⟨by decide +kernel, rfl⟩
theorem e_X11_should_38 : g_dc cX11_should 38 (.aload_n 0) 1 39 := ⟨by decide +kernel, rfl⟩
theorem e_X11_should_39 : g_dc cX11_should 39 (.iload_n 1) 1 40 := ⟨by decide +kernel, rfl⟩
theorem e_X11_should_40 : g_dc cX11_should 40 (.invokevirtual 477) 3 43 := ⟨by decide +kernel, rfl⟩
theorem e_X11_should_43 : g_dc cX11_should 43 (.if_icmp .ge 83) 3 46 := ⟨by decide +kernel, rfl⟩
theorem e_X11_should_46 : g_dc cX11_should 46 (.aload_n 0) 1 47 := ⟨by decide +kernel, rfl⟩
theorem e_X11_should_47 : g_dc cX11_should 47 (.iload_n 1) 1 48 := ⟨by decide +kernel, rfl⟩
theorem e_X11_should_48 : g_dc cX11_should 48 (.iload 4) 2 50 := ⟨by decide +kernel, rfl⟩
theorem e_X11_should_50 : g_dc cX11_should 50 (.invokevirtual 480) 3 53 := ⟨by decide +kernel, rfl⟩
theorem e_X11_should_53 : g_dc cX11_should 53 (.aload_n 0) 1 54 := ⟨by decide +kernel, rfl⟩
theorem e_X11_should_54 : g_dc cX11_should 54 (.invokevirtual 407) 3 57 := ⟨by decide +kernel, rfl⟩
theorem e_X11_should_57 : g_dc cX11_should 57 (.istore 5) 2 59 := ⟨by decide +kernel, rfl⟩
theorem e_X11_should_59 : g_dc cX11_should 59 (.iload 5) 2 61 := ⟨by decide +kernel, rfl⟩
theorem e_X11_should_61 : g_dc cX11_should 61 (.aload_n 0) 1 62 := ⟨by decide +kernel, rfl⟩
theorem e_X11_should_62 : g_dc cX11_should 62 (.getfield 172) 3 65 := ⟨by decide +kernel, rfl⟩
theorem e_X11_should_65 : g_dc cX11_should 65 (.if_icmp .ne 7) 3 68 := ⟨by decide +kernel, rfl⟩
theorem e_X11_should_68 : g_dc cX11_should 68 (.iload_n 3) 1 69 := ⟨by decide +kernel, rfl⟩
theorem e_X11_should_69 : g_dc cX11_should 69 (.iload_n 2) 1 70 := ⟨by decide +kernel, rfl⟩
theorem e_X11_should_70 : g_dc cX11_should 70 (.iadd) 1 71 := ⟨by decide +kernel, rfl⟩
theorem e_X11_should_71 : g_dc cX11_should 71 (.istore_n 3) 1 72 := ⟨by decide +kernel, rfl⟩
theorem e_X11_should_72 : g_dc cX11_should 72 (.iconst 0) 1 73 := ⟨by decide +kernel, rfl⟩
theorem e_X11_should_73 : g_dc cX11_should 73 (.istore 6) 2 75 := ⟨by decide +kernel, rfl⟩
theorem e_X11_should_75 : g_dc cX11_should 75 (.iload 6) 2 77 := ⟨by decide +kernel, rfl⟩
theorem e_X11_should_77 : g_dc cX11_should 77 (.bipush 10) 2 79 := ⟨by decide +kernel, rfl⟩
theorem e_X11_should_79 : g_dc cX11_should 79 (.if_icmp .ge 41) 3 82 := ⟨by decide +kernel, rfl⟩
theorem e_X11_should_82 : g_dc cX11_should 82 (.aload_n 0) 1 83 := ⟨by decide +kernel, rfl⟩
theorem e_X11_should_83 : g_dc cX11_should 83 (.getfield 172) 3 86 := ⟨by decide +kernel, rfl⟩
theorem e_X11_should_86 : g_dc cX11_should 86 (.iload 6) 2 88 := ⟨by decide +kernel, rfl⟩
theorem e_X11_should_88 : g_dc cX11_should 88 (.invokestatic 175) 3 91 := ⟨by decide +kernel, rfl⟩
theorem e_X11_should_91 : g_dc cX11_should 91 (.ifCond .eq 23) 3 94 := ⟨by decide +kernel, rfl⟩
theorem e_X11_should_94 : g_dc cX11_should 94 (.iload 5) 2 96 := ⟨by decide +kernel, rfl⟩
theorem e_X11_should_96 : g_dc cX11_should 96 (.iload 6) 2 98 := ⟨by decide +kernel, rfl⟩
theorem e_X11_should_98 : g_dc cX11_should 98 (.invokestatic 175) 3 101 := ⟨by decide +kernel, rfl⟩
theorem e_X11_should_101 : g_dc cX11_should 101 (.ifCond .ne 13) 3 104 := ⟨by decide +kernel, rfl⟩
theorem e_X11_should_104 : g_dc cX11_should 104 (.iload_n 3) 1 105 := ⟨by decide +kernel, rfl⟩
theorem e_X11_should_105 : g_dc cX11_should 105 (.aload_n 0) 1 106 := ⟨by decide +kernel, rfl⟩
theorem e_X11_should_106 : g_dc cX11_should 106 (.getfield 31) 3 109 := ⟨by decide +kernel, rfl⟩
theorem e_X11_should_109 : g_dc cX11_should 109 (.iload 6) 2 111 := ⟨by decide +kernel, rfl⟩
theorem e_X11_should_111 : g_dc cX11_should 111 (.iaload) 1 112 := ⟨by decide +kernel, rfl⟩
theorem e_X11_should_112 : g_dc cX11_should 112 (.isub) 1 113 := ⟨by decide +kernel, rfl⟩
theorem e_X11_should_113 : g_dc cX11_should 113 (.istore_n 3) 1 114 := ⟨by decide +kernel, rfl⟩
theorem e_X11_should_114 : g_dc cX11_should 114 (.iinc 6 1) 3 117 := ⟨by decide +kernel, rfl⟩
theorem e_X11_should_117 : g_dc cX11_should 117 (.goto (-42)) 3 120 := ⟨by decide +kernel, rfl⟩
theorem e_X11_should_120 : g_dc cX11_should 120 (.iinc 4 1) 3 123 := ⟨by decide +kernel, rfl⟩
theorem e_X11_should_123 : g_dc cX11_should 123 (.goto (-87)) 3 126 := ⟨by decide +kernel, rfl⟩
theorem e_X11_should_126 : g_dc cX11_should 126 (.iload_n 3) 1 127 := ⟨by decide +kernel, rfl⟩
theorem e_X11_should_127 : g_dc cX11_should 127 (.ireturn) 1 128 := ⟨by decide +kernel, rfl⟩
def md_X11_should : List Nat := [3, 42, 43, 44, 45, 46, 47, 48, 49, 50, 51, 65, 66, 67, 68, 69]
def mr_X11_should : List Nat := [23, 24, 25, 26, 27, 28, 29, 30, 31, 32, 33, 34, 35, 36, 37]
set_option maxHeartbeats 4000000 in
set_option maxRecDepth 100000 in
theorem w_X11_should (l : Launch) (X : gX) (ad : Nat → Nat) (F : Nat → Int32) (R : Nat → Nat → Int32) (hI : g_ok LK_wM F) (hA : g_okR LA_wM R) (hWT : WT F R) (hWC : WC F R) (a0 : Int32) (a1 : Int32) : g_Ci l X yX11_should cX11_should 7 (some .int) 8 0 0 [.ref (ad 0), .int a0, .int a1] (wM X ad F R) (fun r w => ∃ (F' : Nat → Int32) (R' : Nat → Nat → Int32), w = wM X ad F' R' ∧ g_ok LK_wM F' ∧ g_okR LA_wM R' ∧ WT F' R' ∧ WC F' R' ∧ g_fr md_X11_should F F' ∧ g_fr mr_X11_should R R' ∧ jv (-2147483648) 2147483647 r ∧ (r, F', R') = sp_X11_should F R a0 a1) := by
  refine g_mi (by decide +kernel) (Nat.le_of_ble_eq_true rfl) (fun E cx hret => ?_)
  obtain ⟨SP, hSP⟩ : ∃ z, z = sp_X11_should F R a0 a1 := ⟨_, rfl⟩
  have hk0 := hSP
  unfold sp_X11_should at hk0
  refine g_iload_n cx 1 rfl e_X11_should_0 ?_
  refine g_iconst cx 1 (by decide) e_X11_should_1 ?_
  refine g_iconst cx 3 (by decide) e_X11_should_2 ?_
  refine g_cSiW cx [.int a0, .int 1, .int 3] [] (c_X11_in l X (wM X ad F R) a0 1 3) ml_X11_165 yS_X11_in rfl e_X11_should_3 (by unfold g_rr; decide) (by decide) rfl (Nat.le_of_ble_eq_true rfl) (fun r1 w2 h3 => ?_)
  obtain ⟨rfl, hr1⟩ := h3
  have pr1 : jv 0 1 r1 := by rw [hr1]; exact gi_01 _ _ _
  have hk4 := k_ls hk0 hr1
  have J27 : (SP = K_X11_should_27 F R) → G X E 7 0 0 (wM X ad F R) [] 27 [] := by
    intro   hkJ27
    unfold K_X11_should_27 at hkJ27
    refine g_ldcw cx (-1000000000) kc_X11_486 e_X11_should_27 ?_
    exact hret e_X11_should_30 (Nat.le_of_ble_eq_true rfl) (Nat.le_of_ble_eq_true rfl) rfl ⟨F, R, rfl, hI, hA, hWT, hWC, (g_fr_rf F), (g_fr_rf R), (jv_w (jv_k (x := (-1000000000)) (-1000000000) (by decide)) (by decide)), (hkJ27.symm.trans hSP)⟩
  refine g_if_eq cx 27 e_X11_should_6 (by decide) (fun zc5 => ?_) (fun zc5 => ?_)
  · have p6 := gn_eq 0 0 (gc_eq zc5) pr1 (jv_k (x := 0) 0 (by decide)) (by decide)
    have hk7 := hk4.trans (if_pos zc5)
    refine g_lsub [] [] rfl ?_
    exact J27  hk7
  · have p8 := gn_neL 1 1 (gc_ne zc5) pr1 (jv_k (x := 0) 0 (by decide)) (by decide)
    have p9 := jv_i 1 3 (jv_t a0) (gi_in (A := 1) (B := 3) hr1 zc5 (by decide) (by decide)) (by decide)
    have hk10 := hk4.trans (if_neg zc5)
    refine g_iload_n cx 2 rfl e_X11_should_9 ?_
    refine g_iconst cx 0 (by decide) e_X11_should_10 ?_
    refine g_sipush cx 9999 (by decide) e_X11_should_11 ?_
    refine g_cSiW cx [.int a1, .int 0, .int 9999] [] (c_X11_in l X (wM X ad F R) a1 0 9999) ml_X11_165 yS_X11_in rfl e_X11_should_14 (by unfold g_rr; decide) (by decide) rfl (Nat.le_of_ble_eq_true rfl) (fun r11 w12 h13 => ?_)
    obtain ⟨rfl, hr11⟩ := h13
    have pr11 : jv 0 1 r11 := by rw [hr11]; exact gi_01 _ _ _
    have hk14 := k_ls hk10 hr11
    refine g_if_eq cx 27 e_X11_should_17 (by decide) (fun zc15 => ?_) (fun zc15 => ?_)
    · have p16 := gn_eq 0 0 (gc_eq zc15) pr11 (jv_k (x := 0) 0 (by decide)) (by decide)
      have hk17 := hk14.trans (if_pos zc15)
      refine g_lsub [] [] rfl ?_
      exact J27  hk17
    · have p18 := gn_neL 1 1 (gc_ne zc15) pr11 (jv_k (x := 0) 0 (by decide)) (by decide)
      have p19 := jv_i 0 9999 (jv_t a1) (gi_in (A := 0) (B := 9999) hr11 zc15 (by decide) (by decide)) (by decide)
      have hk20 := hk14.trans (if_neg zc15)
      refine g_aload_n cx 0 rfl e_X11_should_20 ?_
      refine g_get cx cl_X11 fl_X11_228 0 (.int (F 19)) e_X11_should_21 rfl rfl ?_
      refine g_if_ne cx 31 e_X11_should_24 (by decide) (fun zc21 => ?_) (fun zc21 => ?_)
      · have p22 := gn_neL 1 60 (gc_ne zc21) (g_ok_g hI 3 rfl) (jv_k (x := 0) 0 (by decide)) (by decide)
        have hk23 := hk20.trans (if_neg zc21)
        refine g_iconst cx 0 (by decide) e_X11_should_31 ?_
        refine g_istore_n cx [(3, .int 0), (0, .ref (ad 0)), (1, .int a0), (2, .int a1)] e_X11_should_32 (by decide) rfl ?_
        refine g_iconst cx 0 (by decide) e_X11_should_33 ?_
        refine g_istore cx [(4, .int 0), (3, .int 0), (0, .ref (ad 0)), (1, .int a0), (2, .int a1)] e_X11_should_34 (by decide) rfl ?_
        have J36 : ∀ (N : Nat) (F26 : Nat → Int32) (R27 : Nat → Nat → Int32) (y24 : Int32) (y25 : Int32), (g_ok LK_wM F26) → (g_fr md_X11_should F F26) → (g_okR LA_wM R27) → (g_fr mr_X11_should R R27) → (WT F26 R27) → (WC F26 R27) → (jv (-2147483648) 2147483647 y24) → (jv 0 9998 y25) → (SP = K_X11_should_36 F a0 a1 N F26 R27 y24 y25) → (2147483647 - y25.toInt).toNat < N → G X E 7 0 0 (wM X ad F26 R27) [(0, .ref (ad 0)), (1, .int a0), (2, .int a1), (3, .int y24), (4, .int y25)] 36 [] := by
          intro N
          induction N with
          | zero => intro F26 R27 y24 y25 oF26 fF26 oR27 fR27 wTF26R27 wCF26R27 py24 py25 hkJ36 hm; exact absurd hm (Nat.not_lt_zero _)
          | succ N ih36 =>
            intro F26 R27 y24 y25 oF26 fF26 oR27 fR27 wTF26R27 wCF26R27 py24 py25 hkJ36 hm36
            have hkK36 : SP = KB_X11_should_36 (K_X11_should_36 F a0 a1 N) F a0 a1 F26 R27 y24 y25 := hkJ36
            obtain ⟨b36, hb36⟩ : ∃ z, z = K_X11_should_36 F a0 a1 N := ⟨_, rfl⟩
            rw [← hb36] at hkK36
            unfold KB_X11_should_36 at hkK36
            refine g_iload cx 4 rfl e_X11_should_36 ?_
            refine g_aload_n cx 0 rfl e_X11_should_38 ?_
            refine g_iload_n cx 1 rfl e_X11_should_39 ?_
            refine g_cViW cx [.int a0] [.int y25] (w_X11_rowsOf l X ad F26 R27 oF26 oR27 wTF26R27 wCF26R27 a0) ml_X11_477 yV_X11_rowsOf e_X11_should_40 (by unfold g_rr; decide) (by decide) 0 rfl rfl rfl (Nat.le_of_ble_eq_true rfl) (fun r28 w29 h30 => ?_)
            obtain ⟨rfl, pr28, hx31⟩ := h30
            have hk32 := k_ls hkK36 hx31
            refine g_icmp_ge cx 126 e_X11_should_43 (by decide) (fun zc33 => ?_) (fun zc33 => ?_)
            · have p34 := gn_ge 10 9998 (gc_le zc33) py25 pr28 (by decide)
              have hk35 := hk32.trans (if_pos zc33)
              refine g_iload_n cx 3 rfl e_X11_should_126 ?_
              exact hret e_X11_should_127 (Nat.le_of_ble_eq_true rfl) (Nat.le_of_ble_eq_true rfl) rfl ⟨F26, R27, rfl, oF26, oR27, wTF26R27, wCF26R27, fF26, fR27, py24, (hk35.symm.trans hSP)⟩
            · have p36 := gn_lt 0 999 (gc_nle zc33) py25 pr28 (by decide)
              have hk37 := hk32.trans (if_neg zc33)
              refine g_aload_n cx 0 rfl e_X11_should_46 ?_
              refine g_iload_n cx 1 rfl e_X11_should_47 ?_
              refine g_iload cx 4 rfl e_X11_should_48 ?_
              refine g_cVvW cx [.int a0, .int y25] [] (w_X11_runsBy l X ad F26 R27 oF26 oR27 wTF26R27 wCF26R27 a0 y25) ml_X11_480 yV_X11_runsBy e_X11_should_50 (by unfold g_rr; decide) (by decide) 0 rfl rfl rfl (Nat.le_of_ble_eq_true rfl) (fun w39 h40 => ?_)
              obtain ⟨F42, R43, rfl, oF42, oR43, wTF42, wCF42, cF42, cR43, hx41⟩ := h40
              have hk44 := k_ls2 hk37 hx41
              have fF42 : g_fr md_X11_should F F42 := g_fr_c fF26 cF42 rfl
              have fR43 : g_fr mr_X11_should R R43 := g_fr_c fR27 cR43 rfl
              refine g_aload_n cx 0 rfl e_X11_should_53 ?_
              refine g_cViW cx [] [] (w_X11_standing l X ad F42 R43 oF42 oR43 wTF42 wCF42) ml_X11_407 yV_X11_standing e_X11_should_54 (by unfold g_rr; decide) (by decide) 0 rfl rfl rfl (Nat.le_of_ble_eq_true rfl) (fun r45 w46 h47 => ?_)
              obtain ⟨rfl, pr45, hx48⟩ := h47
              have hk49 := k_ls hk44 hx48
              refine g_istore cx [(5, .int r45), (0, .ref (ad 0)), (1, .int a0), (2, .int a1), (3, .int y24), (4, .int y25)] e_X11_should_57 (by decide) rfl ?_
              refine g_iload cx 0 rfl e_X11_should_59 ?_
              refine g_aload_n cx 1 rfl e_X11_should_61 ?_
              refine g_get cx cl_X11 fl_X11_172 0 (.int (F42 4)) e_X11_should_62 rfl rfl ?_
              refine g_toi (F 4) ((cF42 4 rfl).trans (fF26 4 rfl)) ?_
              have J72 : ∀ (y50 : Int32), (jv (-2147483648) 2147483647 y50) → (SP = K_X11_should_72 b36 F F42 R43 r45 y25 y50) → G X E 7 0 0 (wM X ad F42 R43) [(0, .ref (ad 0)), (1, .int a0), (2, .int a1), (3, .int y50), (4, .int y25), (5, .int r45)] 72 [] := by
                intro y50 py50 hkJ72
                unfold K_X11_should_72 at hkJ72
                refine g_iconst cx 0 (by decide) e_X11_should_72 ?_
                refine g_istore cx [(6, .int 0), (0, .ref (ad 0)), (1, .int a0), (2, .int a1), (3, .int y50), (4, .int y25), (5, .int r45)] e_X11_should_73 (by decide) rfl ?_
                have J75 : ∀ (N : Nat) (y51 : Int32) (y52 : Int32), (jv (-2147483648) 2147483647 y51) → (jv 0 10 y52) → (SP = K_X11_should_75 b36 F F42 R43 r45 y25 N y51 y52) → (2147483647 - y52.toInt).toNat < N → G X E 7 0 0 (wM X ad F42 R43) [(0, .ref (ad 0)), (1, .int a0), (2, .int a1), (3, .int y51), (4, .int y25), (5, .int r45), (6, .int y52)] 75 [] := by
                  intro N
                  induction N with
                  | zero => intro y51 y52 py51 py52 hkJ75 hm; exact absurd hm (Nat.not_lt_zero _)
                  | succ N ih75 =>
                    intro y51 y52 py51 py52 hkJ75 hm75
                    have hkK75 : SP = KB_X11_should_75 (K_X11_should_75 b36 F F42 R43 r45 y25 N) b36 F F42 R43 r45 y25 y51 y52 := hkJ75
                    obtain ⟨b75, hb75⟩ : ∃ z, z = K_X11_should_75 b36 F F42 R43 r45 y25 N := ⟨_, rfl⟩
                    rw [← hb75] at hkK75
                    unfold KB_X11_should_75 at hkK75
                    refine g_iload cx 6 rfl e_X11_should_75 ?_
                    refine g_bipush cx 10 (by decide) e_X11_should_77 ?_
                    refine g_icmp_ge cx 120 e_X11_should_79 (by decide) (fun zc53 => ?_) (fun zc53 => ?_)
                    · have p54 := gn_ge 10 10 (gc_le zc53) py52 (jv_k (x := 10) 10 (by decide)) (by decide)
                      have hk55 := hkK75.trans (if_pos zc53)
                      obtain ⟨x56, ex56⟩ : ∃ z : Int32, z = y25 + Int32.ofInt 1 := ⟨_, rfl⟩
                      have hk57 := k_ls hk55 (show x56 = y25 + 1 from ex56)
                      refine g_iinc cx x56 [(4, .int x56), (0, .ref (ad 0)), (1, .int a0), (2, .int a1), (3, .int y51), (5, .int r45), (6, .int y52)] 4 e_X11_should_120 rfl ex56.symm (by decide) rfl ?_
                      have zx56 := jv_add 1 1000 (show x56 = y25 + 1 from ex56) p36 (jv_k (x := 1) 1 (by decide)) (by decide)
                      refine g_goto cx 36 e_X11_should_123 (by decide) ?_
                      refine g_lsub [1, 2, 3, 4, 0] [(0, .ref (ad 0)), (1, .int a0), (2, .int a1), (3, .int y51), (4, .int x56)] rfl ?_
                      exact ih36 F42 R43 y51 x56 oF42 fF42 oR43 fR43 wTF42 wCF42 py51 (jv_w zx56.2 (by decide)) (hk57.trans (by rw [hb36])) (Nat.lt_of_lt_of_le (show (2147483647 - x56.toInt).toNat < (2147483647 - y25.toInt).toNat from by have q0 := (jv_k (x := 1) 1 (by decide)).1; have q1 := (jv_k (x := 1) 1 (by decide)).2; have q2 := pr28.1; have q3 := pr28.2; have q4 := zx56.2.1; have q5 := zx56.2.2; have q6 := p36.1; have q7 := p36.2; have q8 := (gc_nle zc33); have q9 := (g_eq0 zx56.1); omega) (Nat.le_of_lt_succ hm36))
                    · have p58 := gn_lt 0 9 (gc_nle zc53) py52 (jv_k (x := 10) 10 (by decide)) (by decide)
                      have hk59 := hkK75.trans (if_neg zc53)
                      refine g_aload_n cx 0 rfl e_X11_should_82 ?_
                      refine g_get cx cl_X11 fl_X11_172 0 (.int (F42 4)) e_X11_should_83 rfl rfl ?_
                      refine g_toi (F 4) ((cF42 4 rfl).trans (fF26 4 rfl)) ?_
                      refine g_iload cx 6 rfl e_X11_should_86 ?_
                      refine g_cSiW cx [.int (F 4), .int y52] [] (c_X11_has l X (wM X ad F42 R43) (F 4) y52) ml_X11_175 yS_X11_has rfl e_X11_should_88 (by unfold g_rr; decide) (by decide) rfl (Nat.le_of_ble_eq_true rfl) (fun r60 w61 h62 => ?_)
                      obtain ⟨rfl, hr60⟩ := h62
                      have pr60 : jv 0 1 r60 := by rcases hr60 with q | q <;> rw [q.1] <;> exact ⟨by decide, by decide⟩
                      have hk63 := k_ls hk59 (g_has_e hr60)
                      have J114 : ∀ (y64 : Int32), (jv (-2147483648) 2147483647 y64) → (SP = K_X11_should_114 b75 y52 y64) → G X E 7 0 0 (wM X ad F42 R43) [(0, .ref (ad 0)), (1, .int a0), (2, .int a1), (3, .int y64), (4, .int y25), (5, .int r45), (6, .int y52)] 114 [] := by
                        intro y64 py64 hkJ114
                        unfold K_X11_should_114 at hkJ114
                        obtain ⟨x65, ex65⟩ : ∃ z : Int32, z = y52 + Int32.ofInt 1 := ⟨_, rfl⟩
                        have hk66 := k_ls hkJ114 (show x65 = y52 + 1 from ex65)
                        refine g_iinc cx x65 [(6, .int x65), (0, .ref (ad 0)), (1, .int a0), (2, .int a1), (3, .int y64), (4, .int y25), (5, .int r45)] 6 e_X11_should_114 rfl ex65.symm (by decide) rfl ?_
                        have zx65 := jv_add 1 10 (show x65 = y52 + 1 from ex65) p58 (jv_k (x := 1) 1 (by decide)) (by decide)
                        refine g_goto cx 75 e_X11_should_117 (by decide) ?_
                        refine g_lsub [1, 2, 3, 4, 5, 6, 0] [(0, .ref (ad 0)), (1, .int a0), (2, .int a1), (3, .int y64), (4, .int y25), (5, .int r45), (6, .int x65)] rfl ?_
                        exact ih75 y64 x65 py64 (jv_w zx65.2 (by decide)) (hk66.trans (by rw [hb75])) (Nat.lt_of_lt_of_le (show (2147483647 - x65.toInt).toNat < (2147483647 - y52.toInt).toNat from by have q0 := (jv_k (x := 1) 1 (by decide)).1; have q1 := (jv_k (x := 1) 1 (by decide)).2; have q2 := (jv_k (x := 10) 10 (by decide)).1; have q3 := (jv_k (x := 10) 10 (by decide)).2; have q4 := zx65.2.1; have q5 := zx65.2.2; have q6 := p58.1; have q7 := p58.2; have q8 := (gc_nle zc53); have q9 := (g_eq0 zx65.1); omega) (Nat.le_of_lt_succ hm75))
                      refine g_if_eq cx 114 e_X11_should_91 (by decide) (fun zc67 => ?_) (fun zc67 => ?_)
                      · have p68 := gn_eq 0 0 (gc_eq zc67) pr60 (jv_k (x := 0) 0 (by decide)) (by decide)
                        have hk69 := hk63.trans (if_pos zc67)
                        exact J114 y51 py51 hk69
                      · have p70 := gn_neL 1 1 (gc_ne zc67) pr60 (jv_k (x := 0) 0 (by decide)) (by decide)
                        have zb71 : hb (F 4) y52 := g_hasy hr60 zc67
                        have hk72 := hk63.trans (if_neg zc67)
                        refine g_iload cx 5 rfl e_X11_should_94 ?_
                        refine g_iload cx 6 rfl e_X11_should_96 ?_
                        refine g_cSiW cx [.int r45, .int y52] [] (c_X11_has l X (wM X ad F42 R43) r45 y52) ml_X11_175 yS_X11_has rfl e_X11_should_98 (by unfold g_rr; decide) (by decide) rfl (Nat.le_of_ble_eq_true rfl) (fun r73 w74 h75 => ?_)
                        obtain ⟨rfl, hr73⟩ := h75
                        have pr73 : jv 0 1 r73 := by rcases hr73 with q | q <;> rw [q.1] <;> exact ⟨by decide, by decide⟩
                        have hk76 := k_ls hk72 (g_has_e hr73)
                        refine g_if_ne cx 114 e_X11_should_101 (by decide) (fun zc77 => ?_) (fun zc77 => ?_)
                        · have p78 := gn_neL 1 1 (gc_ne zc77) pr73 (jv_k (x := 0) 0 (by decide)) (by decide)
                          have zb79 : hb r45 y52 := g_hasy hr73 zc77
                          have hk80 := hk76.trans (if_neg zc77)
                          exact J114 y51 py51 hk80
                        · have p81 := gn_eq 0 0 (gc_eq zc77) pr73 (jv_k (x := 0) 0 (by decide)) (by decide)
                          have hk82 := hk76.trans (if_pos zc77)
                          refine g_iload_n cx 3 rfl e_X11_should_104 ?_
                          refine g_aload_n cx 0 rfl e_X11_should_105 ?_
                          refine g_get cx cl_X11 fl_X11_31 0 (.ref (ad 8)) e_X11_should_106 rfl rfl ?_
                          refine g_iload cx 6 rfl e_X11_should_109 ?_
                          refine g_iald cx 8 e_X11_should_111 rfl (jv_ix 10 p58 (by decide)) ?_
                          refine g_topi (fun x83 ex83 => ?_)
                          have hk84 := k_ls hk82 ex83
                          refine g_isub cx e_X11_should_112 ?_
                          refine g_topi (fun x85 ex85 => ?_)
                          have hk86 := k_ls hk84 ex85
                          refine g_istore_n cx [(3, .int x85), (0, .ref (ad 0)), (1, .int a0), (2, .int a1), (4, .int y25), (5, .int r45), (6, .int y52)] e_X11_should_113 (by decide) rfl ?_
                          refine g_lsub [1, 2, 3, 0, 4, 5, 6] [(0, .ref (ad 0)), (1, .int a0), (2, .int a1), (3, .int x85), (4, .int y25), (5, .int r45), (6, .int y52)] rfl ?_
                          exact J114 x85 (jv_t x85) hk86
                refine g_lsub [1, 2, 3, 4, 5, 6, 0] [(0, .ref (ad 0)), (1, .int a0), (2, .int a1), (3, .int y50), (4, .int y25), (5, .int r45), (6, .int 0)] rfl ?_
                exact J75 8589934592 y50 0 py50 (jv_w (jv_k (x := 0) 0 (by decide)) (by decide)) hkJ72 (show (2147483647 - (0 : Int32).toInt).toNat < 8589934592 from by have q0 := (jv_k (x := 0) 0 (by decide)).1; have q1 := (jv_k (x := 0) 0 (by decide)).2; omega)
              refine g_icmp_ne cx 72 e_X11_should_65 (by decide) (fun zc87 => ?_) (fun zc87 => ?_)
              · have hk88 := hk49.trans (if_neg zc87)
                refine g_lsub [1, 2, 3, 4, 5, 0] [(0, .ref (ad 0)), (1, .int a0), (2, .int a1), (3, .int y24), (4, .int y25), (5, .int r45)] rfl ?_
                exact J72 y24 py24 hk88
              · have hk89 := hk49.trans (if_pos zc87)
                refine g_iload_n cx 4 rfl e_X11_should_68 ?_
                refine g_iload_n cx 3 rfl e_X11_should_69 ?_
                refine g_iadd cx e_X11_should_70 ?_
                refine g_topi (fun x90 ex90 => ?_)
                have hk91 := k_ls hk89 ex90
                refine g_istore_n cx [(3, .int x90), (5, .int r45), (0, .ref (ad 0)), (1, .int a0), (2, .int a1), (4, .int y25)] e_X11_should_71 (by decide) rfl ?_
                refine g_lsub [2, 3, 4, 0, 5, 1] [(0, .ref (ad 0)), (1, .int a0), (2, .int a1), (3, .int x90), (4, .int y25), (5, .int r45)] rfl ?_
                exact J72 x90 (jv_t x90) hk91
        refine g_lsub [2, 3, 4, 1, 0] [(0, .ref (ad 0)), (1, .int a0), (2, .int a1), (3, .int 0), (4, .int 0)] rfl ?_
        exact J36 8589934592 F R 0 0 hI (g_fr_rf F) hA (g_fr_rf R) hWT hWC (jv_w (jv_k (x := 0) 0 (by decide)) (by decide)) (jv_w (jv_k (x := 0) 0 (by decide)) (by decide)) hk23 (show (2147483647 - (0 : Int32).toInt).toNat < 8589934592 from by have q0 := (jv_k (x := 0) 0 (by decide)).1; have q1 := (jv_k (x := 0) 0 (by decide)).2; omega)
      · have p92 := gn_eq 0 0 (gc_eq zc21) (g_ok_g hI 3 rfl) (jv_k (x := 0) 0 (by decide)) (by decide)
        have hk93 := hk20.trans (if_pos zc21)
        refine g_lsub [] [] rfl ?_
        exact J27  hk93
