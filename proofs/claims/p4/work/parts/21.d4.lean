theorem e_X11_isAsked_0 : g_dc cX11_isAsked 0 (.iload_n 1) 1 1 := ⟨by decide +kernel, rfl⟩
theorem e_X11_isAsked_1 : g_dc cX11_isAsked 1 (.iconst 0) 1 2 := ⟨by decide +kernel, rfl⟩
theorem e_X11_isAsked_2 : g_dc cX11_isAsked 2 (.bipush 8) 2 4 := ⟨by decide +kernel, rfl⟩
theorem e_X11_isAsked_4 : g_dc cX11_isAsked 4 (.invokestatic 165) 3 7 := ⟨by decide +kernel, rfl⟩
theorem e_X11_isAsked_7 : g_dc cX11_isAsked 7 (.ifCond .ne 25) 3 10 := ⟨by decide +kernel, rfl⟩
theorem e_X11_isAsked_10 : g_dc cX11_isAsked 10 (.iload_n 1) 1 11 := ⟨by decide +kernel, rfl⟩
theorem e_X11_isAsked_11 : g_dc cX11_isAsked 11 (.bipush 10) 2 13 := ⟨by decide +kernel, rfl⟩
theorem e_X11_isAsked_13 : g_dc cX11_isAsked 13 (.bipush 69) 2 15 := ⟨by decide +kernel, rfl⟩
theorem e_X11_isAsked_15 : g_dc cX11_isAsked 15 (.invokestatic 165) 3 18 := ⟨by decide +kernel, rfl⟩
theorem e_X11_isAsked_18 : g_dc cX11_isAsked 18 (.ifCond .eq 18) 3 21 := ⟨by decide +kernel, rfl⟩
theorem e_X11_isAsked_21 : g_dc cX11_isAsked 21 (.aload_n 0) 1 22 := ⟨by decide +kernel, rfl⟩
theorem e_X11_isAsked_22 : g_dc cX11_isAsked 22 (.iload_n 1) 1 23 := ⟨by decide +kernel, rfl⟩
theorem e_X11_isAsked_23 : g_dc cX11_isAsked 23 (.bipush 10) 2 25 := ⟨by decide +kernel, rfl⟩
theorem e_X11_isAsked_25 : g_dc cX11_isAsked 25 (.irem) 1 26 := ⟨by decide +kernel, rfl⟩
theorem e_X11_isAsked_26 : g_dc cX11_isAsked 26 (.invokevirtual 179) 3 29 := ⟨by decide +kernel, rfl⟩
theorem e_X11_isAsked_29 : g_dc cX11_isAsked 29 (.ifCond .eq 7) 3 32 := ⟨by decide +kernel, rfl⟩
theorem e_X11_isAsked_32 : g_dc cX11_isAsked 32 (.iconst 1) 1 33 := ⟨by decide +kernel, rfl⟩
theorem e_X11_isAsked_33 : g_dc cX11_isAsked 33 (.goto 4) 3 36 := ⟨by decide +kernel, rfl⟩
theorem e_X11_isAsked_36 : g_dc cX11_isAsked 36 (.iconst 0) 1 37 := ⟨by decide +kernel, rfl⟩
theorem e_X11_isAsked_37 : g_dc cX11_isAsked 37 (.ireturn) 1 38 := ⟨by decide +kernel, rfl⟩
set_option maxHeartbeats 4000000 in
set_option maxRecDepth 100000 in
theorem w_X11_isAsked (l : Launch) (X : gX) (ad : Nat → Nat) (F : Nat → Int32) (R : Nat → Nat → Int32) (hI : g_ok LK_wM F) (hA : g_okR LA_wM R) (hWT : WT F R) (hWC : WC F R) (a0 : Int32) : g_Ci l X yX11_isAsked cX11_isAsked 2 (some .boolean) 3 0 0 [.ref (ad 0), .int a0] (wM X ad F R) (fun r w => w = wM X ad F R ∧ jv 0 1 r ∧ (¬ r = 0 → jv 0 69 a0)) := by
  refine g_mi (by decide +kernel) (Nat.le_of_ble_eq_true rfl) (fun E cx hret => ?_)
  refine g_iload_n cx 1 rfl e_X11_isAsked_0 ?_
  refine g_iconst cx 0 (by decide) e_X11_isAsked_1 ?_
  refine g_bipush cx 8 (by decide) e_X11_isAsked_2 ?_
  refine g_cSiW cx [.int a0, .int 0, .int 8] [] (c_X11_in l X (wM X ad F R) a0 0 8) ml_X11_165 yS_X11_in rfl e_X11_isAsked_4 (by unfold g_rr; decide) (by decide) rfl (Nat.le_of_ble_eq_true rfl) (fun r1 w2 h3 => ?_)
  obtain ⟨rfl, hr1⟩ := h3
  have pr1 : jv 0 1 r1 := by rw [hr1]; exact gi_01 _ _ _
  refine g_if_ne cx 32 e_X11_isAsked_7 (by decide) (fun zc4 => ?_) (fun zc4 => ?_)
  · have p5 := gn_neL 1 1 (gc_ne zc4) pr1 (jv_k (x := 0) 0 (by decide)) (by decide)
    have p6 := jv_i 0 8 (jv_t a0) (gi_in (A := 0) (B := 8) hr1 zc4 (by decide) (by decide)) (by decide)
    refine g_iconst cx 1 (by decide) e_X11_isAsked_32 ?_
    refine g_goto cx 37 e_X11_isAsked_33 (by decide) ?_
    exact hret e_X11_isAsked_37 (Nat.le_of_ble_eq_true rfl) (Nat.le_of_ble_eq_true rfl) rfl ⟨rfl, (jv_w (jv_k (x := 1) 1 (by decide)) (by decide)), (fun _ => (jv_w p6 (by decide)))⟩
  · have p7 := gn_eq 0 0 (gc_eq zc4) pr1 (jv_k (x := 0) 0 (by decide)) (by decide)
    refine g_iload_n cx 1 rfl e_X11_isAsked_10 ?_
    refine g_bipush cx 10 (by decide) e_X11_isAsked_11 ?_
    refine g_bipush cx 69 (by decide) e_X11_isAsked_13 ?_
    refine g_cSiW cx [.int a0, .int 10, .int 69] [] (c_X11_in l X (wM X ad F R) a0 10 69) ml_X11_165 yS_X11_in rfl e_X11_isAsked_15 (by unfold g_rr; decide) (by decide) rfl (Nat.le_of_ble_eq_true rfl) (fun r8 w9 h10 => ?_)
    obtain ⟨rfl, hr8⟩ := h10
    have pr8 : jv 0 1 r8 := by rw [hr8]; exact gi_01 _ _ _
    refine g_if_eq cx 36 e_X11_isAsked_18 (by decide) (fun zc11 => ?_) (fun zc11 => ?_)
    · have p12 := gn_eq 0 0 (gc_eq zc11) pr8 (jv_k (x := 0) 0 (by decide)) (by decide)
      refine g_iconst cx 0 (by decide) e_X11_isAsked_36 ?_
      exact hret e_X11_isAsked_37 (Nat.le_of_ble_eq_true rfl) (Nat.le_of_ble_eq_true rfl) rfl ⟨rfl, (jv_w (jv_k (x := 0) 0 (by decide)) (by decide)), (fun h => absurd rfl h)⟩
    · have p13 := gn_neL 1 1 (gc_ne zc11) pr8 (jv_k (x := 0) 0 (by decide)) (by decide)
      have p14 := jv_i 10 69 (jv_t a0) (gi_in (A := 10) (B := 69) hr8 zc11 (by decide) (by decide)) (by decide)
      refine g_aload_n cx 0 rfl e_X11_isAsked_21 ?_
      refine g_iload_n cx 1 rfl e_X11_isAsked_22 ?_
      refine g_bipush cx 10 (by decide) e_X11_isAsked_23 ?_
      refine g_irem cx (by decide) e_X11_isAsked_25 ?_
      refine g_topi (fun x15 ex15 => ?_)
      have zx15 := jv_rem 0 9 ex15 p14 (jv_k (x := 10) 10 (by decide)) (by decide)
      refine g_cViW cx [.int x15] [] (w_X11_isTold l X ad F R hI hA hWT hWC x15) ml_X11_179 yV_X11_isTold e_X11_isAsked_26 (by unfold g_rr; decide) (by decide) 0 rfl rfl rfl (Nat.le_of_ble_eq_true rfl) (fun r16 w17 h18 => ?_)
      obtain ⟨rfl, pr16, zx19⟩ := h18
      refine g_if_eq cx 36 e_X11_isAsked_29 (by decide) (fun zc20 => ?_) (fun zc20 => ?_)
      · have p21 := gn_eq 0 0 (gc_eq zc20) pr16 (jv_k (x := 0) 0 (by decide)) (by decide)
        refine g_iconst cx 0 (by decide) e_X11_isAsked_36 ?_
        exact hret e_X11_isAsked_37 (Nat.le_of_ble_eq_true rfl) (Nat.le_of_ble_eq_true rfl) rfl ⟨rfl, (jv_w (jv_k (x := 0) 0 (by decide)) (by decide)), (fun h => absurd rfl h)⟩
      · have p22 := gn_neL 1 1 (gc_ne zc20) pr16 (jv_k (x := 0) 0 (by decide)) (by decide)
        refine g_iconst cx 1 (by decide) e_X11_isAsked_32 ?_
        refine g_goto cx 37 e_X11_isAsked_33 (by decide) ?_
        exact hret e_X11_isAsked_37 (Nat.le_of_ble_eq_true rfl) (Nat.le_of_ble_eq_true rfl) rfl ⟨rfl, (jv_w (jv_k (x := 1) 1 (by decide)) (by decide)), (fun _ => (jv_w p14 (by decide)))⟩
theorem e_X11_laysPull_0 : g_dc cX11_laysPull 0 (.aload_n 0) 1 1 := ⟨by decide +kernel, rfl⟩
theorem e_X11_laysPull_1 : g_dc cX11_laysPull 1 (.aload_n 0) 1 2 := ⟨by decide +kernel, rfl⟩
theorem e_X11_laysPull_2 : g_dc cX11_laysPull 2 (.getfield 228) 3 5 := ⟨by decide +kernel, rfl⟩
theorem e_X11_laysPull_5 : g_dc cX11_laysPull 5 (.putfield 309) 3 8 := ⟨by decide +kernel, rfl⟩
theorem e_X11_laysPull_8 : g_dc cX11_laysPull 8 (.iconst 0) 1 9 := ⟨by decide +kernel, rfl⟩
theorem e_X11_laysPull_9 : g_dc cX11_laysPull 9 (.istore_n 1) 1 10 := ⟨by decide +kernel, rfl⟩
theorem e_X11_laysPull_10 : g_dc cX11_laysPull 10 (.iload_n 1) 1 11 := ⟨by decide +kernel, rfl⟩
theorem e_X11_laysPull_11 : g_dc cX11_laysPull 11 (.aload_n 0) 1 12 := ⟨by decide +kernel, rfl⟩
theorem e_X11_laysPull_12 : g_dc cX11_laysPull 12 (.getfield 228) 3 15 := ⟨by decide +kernel, rfl⟩
theorem e_X11_laysPull_15 : g_dc cX11_laysPull 15 (.if_icmp .ge 21) 3 18 := ⟨by decide +kernel, rfl⟩
theorem e_X11_laysPull_18 : g_dc cX11_laysPull 18 (.aload_n 0) 1 19 := ⟨by decide +kernel, rfl⟩
theorem e_X11_laysPull_19 : g_dc cX11_laysPull 19 (.getfield 83) 3 22 := ⟨by decide +kernel, rfl⟩
theorem e_X11_laysPull_22 : g_dc cX11_laysPull 22 (.iload_n 1) 1 23 := ⟨by decide +kernel, rfl⟩
theorem e_X11_laysPull_23 : g_dc cX11_laysPull 23 (.aload_n 0) 1 24 := ⟨by decide +kernel, rfl⟩
theorem e_X11_laysPull_24 : g_dc cX11_laysPull 24 (.getfield 38) 3 27 := ⟨by decide +kernel, rfl⟩
theorem e_X11_laysPull_27 : g_dc cX11_laysPull 27 (.iload_n 1) 1 28 := ⟨by decide +kernel, rfl⟩
theorem e_X11_laysPull_28 : g_dc cX11_laysPull 28 (.iaload) 1 29 := ⟨by decide +kernel, rfl⟩
theorem e_X11_laysPull_29 : g_dc cX11_laysPull 29 (.iastore) 1 30 := ⟨by decide +kernel, rfl⟩
theorem e_X11_laysPull_30 : g_dc cX11_laysPull 30 (.iinc 1 1) 3 33 := ⟨by decide +kernel, rfl⟩
theorem e_X11_laysPull_33 : g_dc cX11_laysPull 33 (.goto (-23)) 3 36 := ⟨by decide +kernel, rfl⟩
theorem e_X11_laysPull_36 : g_dc cX11_laysPull 36 (.return_) 1 37 := ⟨by decide +kernel, rfl⟩
def md_X11_laysPull : List Nat := [44]
def mr_X11_laysPull : List Nat := [25]
set_option maxHeartbeats 4000000 in
set_option maxRecDepth 100000 in
theorem w_X11_laysPull (l : Launch) (X : gX) (ad : Nat → Nat) (F : Nat → Int32) (R : Nat → Nat → Int32) (hI : g_ok LK_wM F) (hA : g_okR LA_wM R) (hWT : WT F R) (hWC : WC F R) : g_Cv l X yX11_laysPull cX11_laysPull 2 1 0 0 [.ref (ad 0)] (wM X ad F R) (fun w => ∃ (F' : Nat → Int32) (R' : Nat → Nat → Int32), w = wM X ad F' R' ∧ g_ok LK_wM F' ∧ g_okR LA_wM R' ∧ WT F' R' ∧ WC F' R' ∧ g_fr md_X11_laysPull F F' ∧ g_fr mr_X11_laysPull R R') := by
  refine g_mv (by decide +kernel) (Nat.le_of_ble_eq_true rfl) (fun E cx hret => ?_)
  refine g_aload_n cx 0 rfl e_X11_laysPull_0 ?_
  refine g_aload_n cx 0 rfl e_X11_laysPull_1 ?_
  refine g_get cx cl_X11 fl_X11_228 0 (.int (F 19)) e_X11_laysPull_2 rfl rfl ?_
  refine g_put cx cl_X11 fl_X11_309 0 (wM X ad (upd F 44 (F 19)) R) e_X11_laysPull_5 rfl rfl rfl rfl (Nat.le_of_ble_eq_true rfl) rfl ?_
  obtain ⟨F1, hF1⟩ : ∃ z, z = upd F 44 (F 19) := ⟨_, rfl⟩
  rw [← hF1]
  have oF1 : g_ok LK_wM F1 := by rw [hF1]; exact g_ok_p hI (g_ok_g hI 3 rfl) rfl
  have fF1 : g_fr md_X11_laysPull F F1 := by rw [hF1]; exact g_fr_u (g_fr_rf F) rfl
  have wTF1 : WT F1 R := by rw [hF1]; exact WT_u hWT rfl
  have wCF1 : WC F1 R := by rw [hF1]; exact WC_u hWC rfl
  refine g_iconst cx 0 (by decide) e_X11_laysPull_8 ?_
  refine g_istore_n cx [(1, .int 0), (0, .ref (ad 0))] e_X11_laysPull_9 (by decide) rfl ?_
  have J10 : ∀ (N : Nat) (R3 : Nat → Nat → Int32) (y2 : Int32), (g_okR LA_wM R3) → (g_fr mr_X11_laysPull R R3) → (WT F1 R3) → (WC F1 R3) → (jv 0 60 y2) → (2147483647 - y2.toInt).toNat < N → G X E 2 0 0 (wM X ad F1 R3) [(0, .ref (ad 0)), (1, .int y2)] 10 [] := by
    intro N
    induction N with
    | zero => intro R3 y2 oR3 fR3 wTR3 wCR3 py2 hm; exact absurd hm (Nat.not_lt_zero _)
    | succ N ih10 =>
      intro R3 y2 oR3 fR3 wTR3 wCR3 py2 hm10
      refine g_iload_n cx 1 rfl e_X11_laysPull_10 ?_
      refine g_aload_n cx 0 rfl e_X11_laysPull_11 ?_
      refine g_get cx cl_X11 fl_X11_228 0 (.int (F1 19)) e_X11_laysPull_12 rfl rfl ?_
      refine g_toi (F 19) (g_pu2 hF1 rfl) ?_
      refine g_icmp_ge cx 36 e_X11_laysPull_15 (by decide) (fun zc4 => ?_) (fun zc4 => ?_)
      · exact hret e_X11_laysPull_36 (Nat.le_of_ble_eq_true rfl) (Nat.le_of_ble_eq_true rfl) ⟨F1, R3, rfl, oF1, oR3, wTR3, wCR3, fF1, fR3⟩
      · have p5 := gn_lt 0 59 (gc_nle zc4) py2 (g_ok_g hI 3 rfl) (by decide)
        have p6 := gn_gt 1 60 (gc_nle zc4) (g_ok_g hI 3 rfl) py2 (by decide)
        refine g_aload_n cx 0 rfl e_X11_laysPull_18 ?_
        refine g_get cx cl_X11 fl_X11_83 0 (.ref (ad 25)) e_X11_laysPull_19 rfl rfl ?_
        refine g_iload_n cx 1 rfl e_X11_laysPull_22 ?_
        refine g_aload_n cx 0 rfl e_X11_laysPull_23 ?_
        refine g_get cx cl_X11 fl_X11_38 0 (.ref (ad 10)) e_X11_laysPull_24 rfl rfl ?_
        refine g_iload_n cx 1 rfl e_X11_laysPull_27 ?_
        refine g_iald cx 10 e_X11_laysPull_28 rfl (jv_ix 60 p5 (by decide)) ?_
        refine g_topi (fun x7 ex7 => ?_)
        refine g_iast cx 25 (wM X ad F1 (g_u R3 25 (upd (R3 25) (Int32.toNatClampNeg y2) x7))) e_X11_laysPull_29 rfl (jv_ix 60 p5 (by decide)) rfl ?_
        obtain ⟨R8, hR8⟩ : ∃ z, z = g_u R3 25 (upd (R3 25) (Int32.toNatClampNeg y2) x7) := ⟨_, rfl⟩
        rw [← hR8]
        have oR8 : g_okR LA_wM R8 := by rw [hR8]; exact g_okR_u oR3 rfl
        have fR8 : g_fr mr_X11_laysPull R R8 := by rw [hR8]; exact g_fr_r fR3 rfl
        have wTR8 : WT F1 R8 := by rw [hR8]; exact WT_r wTR3 rfl
        have wCR8 : WC F1 R8 := by rw [hR8]; exact WC_r wCR3 rfl
        obtain ⟨x9, ex9⟩ : ∃ z : Int32, z = y2 + Int32.ofInt 1 := ⟨_, rfl⟩
        refine g_iinc cx x9 [(1, .int x9), (0, .ref (ad 0))] 1 e_X11_laysPull_30 rfl ex9.symm (by decide) rfl ?_
        have zx9 := jv_add 1 60 (show x9 = y2 + 1 from ex9) p5 (jv_k (x := 1) 1 (by decide)) (by decide)
        refine g_goto cx 10 e_X11_laysPull_33 (by decide) ?_
        refine g_lsub [1, 0] [(0, .ref (ad 0)), (1, .int x9)] rfl ?_
        exact ih10 R8 x9 oR8 fR8 wTR8 wCR8 (jv_w zx9.2 (by decide)) (Nat.lt_of_lt_of_le (show (2147483647 - x9.toInt).toNat < (2147483647 - y2.toInt).toNat from by have q0 := (jv_k (x := 1) 1 (by decide)).1; have q1 := (jv_k (x := 1) 1 (by decide)).2; have q2 := p6.1; have q3 := p6.2; have q4 := zx9.2.1; have q5 := zx9.2.2; have q6 := p5.1; have q7 := p5.2; have q8 := (gc_nle zc4); have q9 := (g_eq0 zx9.1); omega) (Nat.le_of_lt_succ hm10))
  refine g_lsub [1, 0] [(0, .ref (ad 0)), (1, .int 0)] rfl ?_
  exact J10 _ R 0 hA (g_fr_rf R) wTF1 wCF1 (jv_w (jv_k (x := 0) 0 (by decide)) (by decide)) (Nat.lt_succ_self _)
theorem e_X11_laysThings_0 : g_dc cX11_laysThings 0 (.aload_n 0) 1 1 := ⟨by decide +kernel, rfl⟩
theorem e_X11_laysThings_1 : g_dc cX11_laysThings 1 (.aload_n 0) 1 2 := ⟨by decide +kernel, rfl⟩
theorem e_X11_laysThings_2 : g_dc cX11_laysThings 2 (.getfield 172) 3 5 := ⟨by decide +kernel, rfl⟩
theorem e_X11_laysThings_5 : g_dc cX11_laysThings 5 (.putfield 312) 3 8 := ⟨by decide +kernel, rfl⟩
theorem e_X11_laysThings_8 : g_dc cX11_laysThings 8 (.aload_n 0) 1 9 := ⟨by decide +kernel, rfl⟩
theorem e_X11_laysThings_9 : g_dc cX11_laysThings 9 (.aload_n 0) 1 10 := ⟨by decide +kernel, rfl⟩
theorem e_X11_laysThings_10 : g_dc cX11_laysThings 10 (.getfield 169) 3 13 := ⟨by decide +kernel, rfl⟩
theorem e_X11_laysThings_13 : g_dc cX11_laysThings 13 (.putfield 315) 3 16 := ⟨by decide +kernel, rfl⟩
theorem e_X11_laysThings_16 : g_dc cX11_laysThings 16 (.aload_n 0) 1 17 := ⟨by decide +kernel, rfl⟩
theorem e_X11_laysThings_17 : g_dc cX11_laysThings 17 (.iconst 0) 1 18 := ⟨by decide +kernel, rfl⟩
theorem e_X11_laysThings_18 : g_dc cX11_laysThings 18 (.putfield 318) 3 21 := ⟨by decide +kernel, rfl⟩
theorem e_X11_laysThings_21 : g_dc cX11_laysThings 21 (.aload_n 0) 1 22 := ⟨by decide +kernel, rfl⟩
theorem e_X11_laysThings_22 : g_dc cX11_laysThings 22 (.iconst 0) 1 23 := ⟨by decide +kernel, rfl⟩
theorem e_X11_laysThings_23 : g_dc cX11_laysThings 23 (.putfield 322) 3 26 := ⟨by decide +kernel, rfl⟩
theorem e_X11_laysThings_26 : g_dc cX11_laysThings 26 (.iconst 0) 1 27 := ⟨by decide +kernel, rfl⟩
theorem e_X11_laysThings_27 : g_dc cX11_laysThings 27 (.istore_n 1) 1 28 := ⟨by decide +kernel, rfl⟩
theorem e_X11_laysThings_28 : g_dc cX11_laysThings 28 (.iload_n 1) 1 29 := ⟨by decide +kernel, rfl⟩
theorem e_X11_laysThings_29 : g_dc cX11_laysThings 29 (.bipush 10) 2 31 := ⟨by decide +kernel, rfl⟩
theorem e_X11_laysThings_31 : g_dc cX11_laysThings 31 (.if_icmp .ge 33) 3 34 := ⟨by decide +kernel, rfl⟩
theorem e_X11_laysThings_34 : g_dc cX11_laysThings 34 (.aload_n 0) 1 35 := ⟨by decide +kernel, rfl⟩
theorem e_X11_laysThings_35 : g_dc cX11_laysThings 35 (.getfield 86) 3 38 := ⟨by decide +kernel, rfl⟩
theorem e_X11_laysThings_38 : g_dc cX11_laysThings 38 (.iload_n 1) 1 39 := ⟨by decide +kernel, rfl⟩
theorem e_X11_laysThings_39 : g_dc cX11_laysThings 39 (.aload_n 0) 1 40 := ⟨by decide +kernel, rfl⟩
theorem e_X11_laysThings_40 : g_dc cX11_laysThings 40 (.getfield 13) 3 43 := ⟨by decide +kernel, rfl⟩
theorem e_X11_laysThings_43 : g_dc cX11_laysThings 43 (.iload_n 1) 1 44 := ⟨by decide +kernel, rfl⟩
theorem e_X11_laysThings_44 : g_dc cX11_laysThings 44 (.iaload) 1 45 := ⟨by decide +kernel, rfl⟩
theorem e_X11_laysThings_45 : g_dc cX11_laysThings 45 (.iastore) 1 46 := ⟨by decide +kernel, rfl⟩
theorem e_X11_laysThings_46 : g_dc cX11_laysThings 46 (.aload_n 0) 1 47 := ⟨by decide +kernel, rfl⟩
theorem e_X11_laysThings_47 : g_dc cX11_laysThings 47 (.getfield 98) 3 50 := ⟨by decide +kernel, rfl⟩
theorem e_X11_laysThings_50 : g_dc cX11_laysThings 50 (.iload_n 1) 1 51 := ⟨by decide +kernel, rfl⟩
theorem e_X11_laysThings_51 : g_dc cX11_laysThings 51 (.aload_n 0) 1 52 := ⟨by decide +kernel, rfl⟩
theorem e_X11_laysThings_52 : g_dc cX11_laysThings 52 (.getfield 25) 3 55 := ⟨by decide +kernel, rfl⟩
theorem e_X11_laysThings_55 : g_dc cX11_laysThings 55 (.iload_n 1) 1 56 := ⟨by decide +kernel, rfl⟩
theorem e_X11_laysThings_56 : g_dc cX11_laysThings 56 (.iaload) 1 57 := ⟨by decide +kernel, rfl⟩
theorem e_X11_laysThings_57 : g_dc cX11_laysThings 57 (.iastore) 1 58 := ⟨by decide +kernel, rfl⟩
theorem e_X11_laysThings_58 : g_dc cX11_laysThings 58 (.iinc 1 1) 3 61 := ⟨by decide +kernel, rfl⟩
theorem e_X11_laysThings_61 : g_dc cX11_laysThings 61 (.goto (-33)) 3 64 := ⟨by decide +kernel, rfl⟩
theorem e_X11_laysThings_64 : g_dc cX11_laysThings 64 (.return_) 1 65 := ⟨by decide +kernel, rfl⟩
def md_X11_laysThings : List Nat := [42, 43, 49, 51]
def mr_X11_laysThings : List Nat := [26, 30]
set_option maxHeartbeats 4000000 in
set_option maxRecDepth 100000 in
theorem w_X11_laysThings (l : Launch) (X : gX) (ad : Nat → Nat) (F : Nat → Int32) (R : Nat → Nat → Int32) (hI : g_ok LK_wM F) (hA : g_okR LA_wM R) (hWT : WT F R) (hWC : WC F R) : g_Cv l X yX11_laysThings cX11_laysThings 2 1 0 0 [.ref (ad 0)] (wM X ad F R) (fun w => ∃ (F' : Nat → Int32) (R' : Nat → Nat → Int32), w = wM X ad F' R' ∧ g_ok LK_wM F' ∧ g_okR LA_wM R' ∧ WT F' R' ∧ WC F' R' ∧ g_fr md_X11_laysThings F F' ∧ g_fr mr_X11_laysThings R R' ∧ F' 42 = F' 4) := by
  refine g_mv (by decide +kernel) (Nat.le_of_ble_eq_true rfl) (fun E cx hret => ?_)
  refine g_aload_n cx 0 rfl e_X11_laysThings_0 ?_
  refine g_aload_n cx 0 rfl e_X11_laysThings_1 ?_
  refine g_get cx cl_X11 fl_X11_172 0 (.int (F 4)) e_X11_laysThings_2 rfl rfl ?_
  refine g_put cx cl_X11 fl_X11_312 0 (wM X ad (upd F 42 (F 4)) R) e_X11_laysThings_5 rfl rfl rfl rfl (Nat.le_of_ble_eq_true rfl) rfl ?_
  obtain ⟨F1, hF1⟩ : ∃ z, z = upd F 42 (F 4) := ⟨_, rfl⟩
  rw [← hF1]
  have oF1 : g_ok LK_wM F1 := by rw [hF1]; exact g_ok_u hI rfl
  have fF1 : g_fr md_X11_laysThings F F1 := by rw [hF1]; exact g_fr_u (g_fr_rf F) rfl
  have wTF1 : WT F1 R := by rw [hF1]; exact WT_u hWT rfl
  have wCF1 : WC F1 R := by rw [hF1]; exact WC_u hWC rfl
  refine g_aload_n cx 0 rfl e_X11_laysThings_8 ?_
  refine g_aload_n cx 0 rfl e_X11_laysThings_9 ?_
  refine g_get cx cl_X11 fl_X11_169 0 (.int (F1 2)) e_X11_laysThings_10 rfl rfl ?_
  refine g_toi (F 2) (g_pu2 hF1 rfl) ?_
  refine g_put cx cl_X11 fl_X11_315 0 (wM X ad (upd F1 43 (F 2)) R) e_X11_laysThings_13 rfl rfl rfl rfl (Nat.le_of_ble_eq_true rfl) rfl ?_
  obtain ⟨F2, hF2⟩ : ∃ z, z = upd F1 43 (F 2) := ⟨_, rfl⟩
  rw [← hF2]
  have oF2 : g_ok LK_wM F2 := by rw [hF2]; exact g_ok_u oF1 rfl
  have fF2 : g_fr md_X11_laysThings F F2 := by rw [hF2]; exact g_fr_u fF1 rfl
  have wTF2 : WT F2 R := by rw [hF2]; exact WT_u wTF1 rfl
  have wCF2 : WC F2 R := by rw [hF2]; exact WC_u wCF1 rfl
  refine g_aload_n cx 0 rfl e_X11_laysThings_16 ?_
  refine g_iconst cx 0 (by decide) e_X11_laysThings_17 ?_
  refine g_put cx cl_X11 fl_X11_318 0 (wM X ad (upd F2 51 0) R) e_X11_laysThings_18 rfl rfl rfl rfl (Nat.le_of_ble_eq_true rfl) rfl ?_
  obtain ⟨F3, hF3⟩ : ∃ z, z = upd F2 51 0 := ⟨_, rfl⟩
  rw [← hF3]
  have oF3 : g_ok LK_wM F3 := by rw [hF3]; exact g_ok_p oF2 (jv_k (x := 0) 0 (by decide)) rfl
  have fF3 : g_fr md_X11_laysThings F F3 := by rw [hF3]; exact g_fr_u fF2 rfl
  have wTF3 : WT F3 R := by rw [hF3]; exact WT_u wTF2 rfl
  have wCF3 : WC F3 R := by rw [hF3]; exact WC_u wCF2 rfl
  refine g_aload_n cx 0 rfl e_X11_laysThings_21 ?_
  refine g_iconst cx 0 (by decide) e_X11_laysThings_22 ?_
  refine g_put cx cl_X11 fl_X11_322 0 (wM X ad (upd F3 49 0) R) e_X11_laysThings_23 rfl rfl rfl rfl (Nat.le_of_ble_eq_true rfl) rfl ?_
  obtain ⟨F4, hF4⟩ : ∃ z, z = upd F3 49 0 := ⟨_, rfl⟩
  rw [← hF4]
  have oF4 : g_ok LK_wM F4 := by rw [hF4]; exact g_ok_u oF3 rfl
  have fF4 : g_fr md_X11_laysThings F F4 := by rw [hF4]; exact g_fr_u fF3 rfl
  have wTF4 : WT F4 R := by rw [hF4]; exact WT_u wTF3 rfl
  have wCF4 : WC F4 R := by rw [hF4]; exact WC_u wCF3 rfl
  refine g_iconst cx 0 (by decide) e_X11_laysThings_26 ?_
  refine g_istore_n cx [(1, .int 0), (0, .ref (ad 0))] e_X11_laysThings_27 (by decide) rfl ?_
  have J28 : ∀ (N : Nat) (R6 : Nat → Nat → Int32) (y5 : Int32), (g_okR LA_wM R6) → (g_fr mr_X11_laysThings R R6) → (WT F4 R6) → (WC F4 R6) → (jv 0 10 y5) → (2147483647 - y5.toInt).toNat < N → G X E 2 0 0 (wM X ad F4 R6) [(0, .ref (ad 0)), (1, .int y5)] 28 [] := by
    intro N
    induction N with
    | zero => intro R6 y5 oR6 fR6 wTR6 wCR6 py5 hm; exact absurd hm (Nat.not_lt_zero _)
    | succ N ih28 =>
      intro R6 y5 oR6 fR6 wTR6 wCR6 py5 hm28
      refine g_iload_n cx 1 rfl e_X11_laysThings_28 ?_
      refine g_bipush cx 10 (by decide) e_X11_laysThings_29 ?_
      refine g_icmp_ge cx 64 e_X11_laysThings_31 (by decide) (fun zc7 => ?_) (fun zc7 => ?_)
      · have p8 := gn_ge 10 10 (gc_le zc7) py5 (jv_k (x := 10) 10 (by decide)) (by decide)
        exact hret e_X11_laysThings_64 (Nat.le_of_ble_eq_true rfl) (Nat.le_of_ble_eq_true rfl) ⟨F4, R6, rfl, oF4, oR6, wTR6, wCR6, fF4, fR6, (((((g_pu2 hF4 rfl).trans (g_pu2 hF3 rfl)).trans (g_pu2 hF2 rfl)).trans (g_pu1 hF1)).trans ((((g_pu2 hF4 rfl).trans (g_pu2 hF3 rfl)).trans (g_pu2 hF2 rfl)).trans (g_pu2 hF1 rfl)).symm)⟩
      · have p9 := gn_lt 0 9 (gc_nle zc7) py5 (jv_k (x := 10) 10 (by decide)) (by decide)
        refine g_aload_n cx 0 rfl e_X11_laysThings_34 ?_
        refine g_get cx cl_X11 fl_X11_86 0 (.ref (ad 26)) e_X11_laysThings_35 rfl rfl ?_
        refine g_iload_n cx 1 rfl e_X11_laysThings_38 ?_
        refine g_aload_n cx 0 rfl e_X11_laysThings_39 ?_
        refine g_get cx cl_X11 fl_X11_13 0 (.ref (ad 2)) e_X11_laysThings_40 rfl rfl ?_
        refine g_iload_n cx 1 rfl e_X11_laysThings_43 ?_
        refine g_iald cx 2 e_X11_laysThings_44 rfl (jv_ix 10 p9 (by decide)) ?_
        refine g_topi (fun x10 ex10 => ?_)
        refine g_iast cx 26 (wM X ad F4 (g_u R6 26 (upd (R6 26) (Int32.toNatClampNeg y5) x10))) e_X11_laysThings_45 rfl (jv_ix 10 p9 (by decide)) rfl ?_
        obtain ⟨R11, hR11⟩ : ∃ z, z = g_u R6 26 (upd (R6 26) (Int32.toNatClampNeg y5) x10) := ⟨_, rfl⟩
        rw [← hR11]
        have oR11 : g_okR LA_wM R11 := by rw [hR11]; exact g_okR_u oR6 rfl
        have fR11 : g_fr mr_X11_laysThings R R11 := by rw [hR11]; exact g_fr_r fR6 rfl
        have wTR11 : WT F4 R11 := by rw [hR11]; exact WT_r wTR6 rfl
        have wCR11 : WC F4 R11 := by rw [hR11]; exact WC_r wCR6 rfl
        refine g_aload_n cx 0 rfl e_X11_laysThings_46 ?_
        refine g_get cx cl_X11 fl_X11_98 0 (.ref (ad 30)) e_X11_laysThings_47 rfl rfl ?_
        refine g_iload_n cx 1 rfl e_X11_laysThings_50 ?_
        refine g_aload_n cx 0 rfl e_X11_laysThings_51 ?_
        refine g_get cx cl_X11 fl_X11_25 0 (.ref (ad 6)) e_X11_laysThings_52 rfl rfl ?_
        refine g_iload_n cx 1 rfl e_X11_laysThings_55 ?_
        refine g_iald cx 6 e_X11_laysThings_56 rfl (jv_ix 10 p9 (by decide)) ?_
        refine g_topi (fun x12 ex12 => ?_)
        refine g_iast cx 30 (wM X ad F4 (g_u R11 30 (upd (R11 30) (Int32.toNatClampNeg y5) x12))) e_X11_laysThings_57 rfl (jv_ix 10 p9 (by decide)) rfl ?_
        obtain ⟨R13, hR13⟩ : ∃ z, z = g_u R11 30 (upd (R11 30) (Int32.toNatClampNeg y5) x12) := ⟨_, rfl⟩
        rw [← hR13]
        have oR13 : g_okR LA_wM R13 := by rw [hR13]; exact g_okR_u oR11 rfl
        have fR13 : g_fr mr_X11_laysThings R R13 := by rw [hR13]; exact g_fr_r fR11 rfl
        have wTR13 : WT F4 R13 := by rw [hR13]; exact WT_r wTR11 rfl
        have wCR13 : WC F4 R13 := by rw [hR13]; exact WC_r wCR11 rfl
        obtain ⟨x14, ex14⟩ : ∃ z : Int32, z = y5 + Int32.ofInt 1 := ⟨_, rfl⟩
        refine g_iinc cx x14 [(1, .int x14), (0, .ref (ad 0))] 1 e_X11_laysThings_58 rfl ex14.symm (by decide) rfl ?_
        have zx14 := jv_add 1 10 (show x14 = y5 + 1 from ex14) p9 (jv_k (x := 1) 1 (by decide)) (by decide)
        refine g_goto cx 28 e_X11_laysThings_61 (by decide) ?_
        refine g_lsub [1, 0] [(0, .ref (ad 0)), (1, .int x14)] rfl ?_
        exact ih28 R13 x14 oR13 fR13 wTR13 wCR13 (jv_w zx14.2 (by decide)) (Nat.lt_of_lt_of_le (show (2147483647 - x14.toInt).toNat < (2147483647 - y5.toInt).toNat from by have q0 := (jv_k (x := 1) 1 (by decide)).1; have q1 := (jv_k (x := 1) 1 (by decide)).2; have q2 := (jv_k (x := 10) 10 (by decide)).1; have q3 := (jv_k (x := 10) 10 (by decide)).2; have q4 := zx14.2.1; have q5 := zx14.2.2; have q6 := p9.1; have q7 := p9.2; have q8 := (gc_nle zc7); have q9 := (g_eq0 zx14.1); omega) (Nat.le_of_lt_succ hm28))
  refine g_lsub [1, 0] [(0, .ref (ad 0)), (1, .int 0)] rfl ?_
  exact J28 _ R 0 hA (g_fr_rf R) wTF4 wCF4 (jv_w (jv_k (x := 0) 0 (by decide)) (by decide)) (Nat.lt_succ_self _)
theorem e_X11_runsDrawn_0 : g_dc cX11_runsDrawn 0 (.aload_n 0) 1 1 := ⟨by decide +kernel, rfl⟩
theorem e_X11_runsDrawn_1 : g_dc cX11_runsDrawn 1 (.invokevirtual 422) 3 4 := ⟨by decide +kernel, rfl⟩
theorem e_X11_runsDrawn_4 : g_dc cX11_runsDrawn 4 (.aload_n 0) 1 5 := ⟨by decide +kernel, rfl⟩
theorem e_X11_runsDrawn_5 : g_dc cX11_runsDrawn 5 (.invokevirtual 425) 3 8 := ⟨by decide +kernel, rfl⟩
theorem e_X11_runsDrawn_8 : g_dc cX11_runsDrawn 8 (.aload_n 0) 1 9 := ⟨by decide +kernel, rfl⟩
theorem e_X11_runsDrawn_9 : g_dc cX11_runsDrawn 9 (.iconst 1) 1 10 := ⟨by decide +kernel, rfl⟩
theorem e_X11_runsDrawn_10 : g_dc cX11_runsDrawn 10 (.putfield 318) 3 13 := ⟨by decide +kernel, rfl⟩
theorem e_X11_runsDrawn_13 : g_dc cX11_runsDrawn 13 (.aload_n 0) 1 14 := ⟨by decide +kernel, rfl⟩
theorem e_X11_runsDrawn_14 : g_dc cX11_runsDrawn 14 (.invokevirtual 428) 3 17 := ⟨by decide +kernel, rfl⟩
theorem e_X11_runsDrawn_17 : g_dc cX11_runsDrawn 17 (.return_) 1 18 := ⟨by decide +kernel, rfl⟩
def md_X11_runsDrawn : List Nat := [3, 42, 43, 44, 45, 46, 47, 48, 49, 50, 51, 65, 66, 67, 68, 69]
def mr_X11_runsDrawn : List Nat := [23, 24, 25, 26, 27, 28, 29, 30, 31, 32, 33, 34, 35, 36, 37]
set_option maxHeartbeats 4000000 in
set_option maxRecDepth 100000 in
theorem w_X11_runsDrawn (l : Launch) (X : gX) (ad : Nat → Nat) (F : Nat → Int32) (R : Nat → Nat → Int32) (hI : g_ok LK_wM F) (hA : g_okR LA_wM R) (hWT : WT F R) (hWC : WC F R) : g_Cv l X yX11_runsDrawn cX11_runsDrawn 1 7 0 0 [.ref (ad 0)] (wM X ad F R) (fun w => ∃ (F' : Nat → Int32) (R' : Nat → Nat → Int32), w = wM X ad F' R' ∧ g_ok LK_wM F' ∧ g_okR LA_wM R' ∧ WT F' R' ∧ WC F' R' ∧ g_fr md_X11_runsDrawn F F' ∧ g_fr mr_X11_runsDrawn R R') := by
  refine g_mv (by decide +kernel) (Nat.le_of_ble_eq_true rfl) (fun E cx hret => ?_)
  refine g_aload_n cx 0 rfl e_X11_runsDrawn_0 ?_
  refine g_cVvW cx [] [] (w_X11_laysPull l X ad F R hI hA hWT hWC) ml_X11_422 yV_X11_laysPull e_X11_runsDrawn_1 (by unfold g_rr; decide) (by decide) 0 rfl rfl rfl (Nat.le_of_ble_eq_true rfl) (fun w2 h3 => ?_)
  obtain ⟨F4, R5, rfl, oF4, oR5, wTF4, wCF4, cF4, cR5⟩ := h3
  have fF4 : g_fr md_X11_runsDrawn F F4 := g_fr_c (g_fr_rf F) cF4 rfl
  have fR5 : g_fr mr_X11_runsDrawn R R5 := g_fr_c (g_fr_rf R) cR5 rfl
  refine g_aload_n cx 0 rfl e_X11_runsDrawn_4 ?_
  refine g_cVvW cx [] [] (w_X11_laysThings l X ad F4 R5 oF4 oR5 wTF4 wCF4) ml_X11_425 yV_X11_laysThings e_X11_runsDrawn_5 (by unfold g_rr; decide) (by decide) 0 rfl rfl rfl (Nat.le_of_ble_eq_true rfl) (fun w7 h8 => ?_)
  obtain ⟨F10, R11, rfl, oF10, oR11, wTF10, wCF10, cF10, cR11, zx9⟩ := h8
  have fF10 : g_fr md_X11_runsDrawn F F10 := g_fr_c fF4 cF10 rfl
  have fR11 : g_fr mr_X11_runsDrawn R R11 := g_fr_c fR5 cR11 rfl
  refine g_aload_n cx 0 rfl e_X11_runsDrawn_8 ?_
  refine g_iconst cx 1 (by decide) e_X11_runsDrawn_9 ?_
  refine g_put cx cl_X11 fl_X11_318 0 (wM X ad (upd F10 51 1) R11) e_X11_runsDrawn_10 rfl rfl rfl rfl (Nat.le_of_ble_eq_true rfl) rfl ?_
  obtain ⟨F12, hF12⟩ : ∃ z, z = upd F10 51 1 := ⟨_, rfl⟩
  rw [← hF12]
  have oF12 : g_ok LK_wM F12 := by rw [hF12]; exact g_ok_p oF10 (jv_k (x := 1) 1 (by decide)) rfl
  have fF12 : g_fr md_X11_runsDrawn F F12 := by rw [hF12]; exact g_fr_u fF10 rfl
  have wTF12 : WT F12 R11 := by rw [hF12]; exact WT_u wTF10 rfl
  have wCF12 : WC F12 R11 := by rw [hF12]; exact WC_u wCF10 rfl
  refine g_aload_n cx 0 rfl e_X11_runsDrawn_13 ?_
  refine g_cVvW cx [] [] (w_X11_runs l X ad F12 R11 oF12 oR11 wTF12 wCF12 (WN_of wTF12 ((((g_pu2 hF12 rfl).trans zx9).trans ((cF10 4 rfl).trans (cF4 4 rfl))).trans (((g_pu2 hF12 rfl).trans (cF10 4 rfl)).trans (cF4 4 rfl)).symm))) ml_X11_428 yV_X11_runs e_X11_runsDrawn_14 (by unfold g_rr; decide) (by decide) 0 rfl rfl rfl (Nat.le_of_ble_eq_true rfl) (fun w14 h15 => ?_)
  obtain ⟨F16, R17, rfl, oF16, oR17, wTF16, wCF16, cF16, cR17⟩ := h15
  have fF16 : g_fr md_X11_runsDrawn F F16 := g_fr_c fF12 cF16 rfl
  have fR17 : g_fr mr_X11_runsDrawn R R17 := g_fr_c fR11 cR17 rfl
  exact hret e_X11_runsDrawn_17 (Nat.le_of_ble_eq_true rfl) (Nat.le_of_ble_eq_true rfl) ⟨F16, R17, rfl, oF16, oR17, wTF16, wCF16, fF16, fR17⟩
theorem e_X11_endsAt_0 : g_dc cX11_endsAt 0 (.aload_n 0) 1 1 := ⟨by decide +kernel, rfl⟩
theorem e_X11_endsAt_1 : g_dc cX11_endsAt 1 (.getfield 92) 3 4 := ⟨by decide +kernel, rfl⟩
theorem e_X11_endsAt_4 : g_dc cX11_endsAt 4 (.iload_n 1) 1 5 := ⟨by decide +kernel, rfl⟩
theorem e_X11_endsAt_5 : g_dc cX11_endsAt 5 (.iaload) 1 6 := ⟨by decide +kernel, rfl⟩
theorem e_X11_endsAt_6 : g_dc cX11_endsAt 6 (.iconst 2) 1 7 := ⟨by decide +kernel, rfl⟩
theorem e_X11_endsAt_7 : g_dc cX11_endsAt 7 (.if_icmp .ne 7) 3 10 := ⟨by decide +kernel, rfl⟩
theorem e_X11_endsAt_10 : g_dc cX11_endsAt 10 (.iconst (-1)) 1 11 := ⟨by decide +kernel, rfl⟩
theorem e_X11_endsAt_11 : g_dc cX11_endsAt 11 (.goto 9) 3 14 := ⟨by decide +kernel, rfl⟩
theorem e_X11_endsAt_14 : g_dc cX11_endsAt 14 (.aload_n 0) 1 15 := ⟨by decide +kernel, rfl⟩
theorem e_X11_endsAt_15 : g_dc cX11_endsAt 15 (.getfield 86) 3 18 := ⟨by decide +kernel, rfl⟩
theorem e_X11_endsAt_18 : g_dc cX11_endsAt 18 (.iload_n 1) 1 19 := ⟨by decide +kernel, rfl⟩
theorem e_X11_endsAt_19 : g_dc cX11_endsAt 19 (.iaload) 1 20 := ⟨by decide +kernel, rfl⟩
theorem e_X11_endsAt_20 : g_dc cX11_endsAt 20 (.ireturn) 1 21 := ⟨by decide +kernel, rfl⟩
set_option maxHeartbeats 4000000 in
set_option maxRecDepth 100000 in
theorem w_X11_endsAt (l : Launch) (X : gX) (ad : Nat → Nat) (F : Nat → Int32) (R : Nat → Nat → Int32) (hI : g_ok LK_wM F) (hA : g_okR LA_wM R) (hWT : WT F R) (hWC : WC F R) (a0 : Int32) (pa0 : jv 0 9 a0) : g_Ci l X yX11_endsAt cX11_endsAt 2 (some .int) 1 0 0 [.ref (ad 0), .int a0] (wM X ad F R) (fun r w => w = wM X ad F R ∧ jv (-2147483648) 2147483647 r) := by
  refine g_mi (by decide +kernel) (Nat.le_of_ble_eq_true rfl) (fun E cx hret => ?_)
  refine g_aload_n cx 0 rfl e_X11_endsAt_0 ?_
  refine g_get cx cl_X11 fl_X11_92 0 (.ref (ad 28)) e_X11_endsAt_1 rfl rfl ?_
  refine g_iload_n cx 1 rfl e_X11_endsAt_4 ?_
  refine g_iald cx 28 e_X11_endsAt_5 rfl (jv_ix 10 pa0 (by decide)) ?_
  refine g_topi (fun x1 ex1 => ?_)
  refine g_iconst cx 2 (by decide) e_X11_endsAt_6 ?_
  have J20 : ∀ (y2 : Int32), (jv (-2147483648) 2147483647 y2) → G X E 2 0 0 (wM X ad F R) [] 20 [.int y2] := by
    intro y2 py2
    exact hret e_X11_endsAt_20 (Nat.le_of_ble_eq_true rfl) (Nat.le_of_ble_eq_true rfl) rfl ⟨rfl, py2⟩
  refine g_icmp_ne cx 14 e_X11_endsAt_7 (by decide) (fun zc3 => ?_) (fun zc3 => ?_)
  · refine g_aload_n cx 0 rfl e_X11_endsAt_14 ?_
    refine g_get cx cl_X11 fl_X11_86 0 (.ref (ad 26)) e_X11_endsAt_15 rfl rfl ?_
    refine g_iload_n cx 1 rfl e_X11_endsAt_18 ?_
    refine g_iald cx 26 e_X11_endsAt_19 rfl (jv_ix 10 pa0 (by decide)) ?_
    refine g_topi (fun x4 ex4 => ?_)
    refine g_lsub [] [] rfl ?_
    exact J20 x4 (jv_t x4)
  · have p5 := gn_eq 2 2 (gc_eq zc3) (jv_t x1) (jv_k (x := 2) 2 (by decide)) (by decide)
    refine g_iconst cx (-1) (by decide) e_X11_endsAt_10 ?_
    refine g_goto cx 20 e_X11_endsAt_11 (by decide) ?_
    refine g_lsub [] [] rfl ?_
    exact J20 (-1) (jv_w (jv_k (x := (-1)) (-1) (by decide)) (by decide))
theorem e_X11_standing_0 : g_dc cX11_standing 0 (.iconst 0) 1 1 := ⟨by decide +kernel, rfl⟩
theorem e_X11_standing_1 : g_dc cX11_standing 1 (.istore_n 1) 1 2 := ⟨by decide +kernel, rfl⟩
theorem e_X11_standing_2 : g_dc cX11_standing 2 (.iconst 0) 1 3 := ⟨by decide +kernel, rfl⟩
theorem e_X11_standing_3 : g_dc cX11_standing 3 (.istore_n 2) 1 4 := ⟨by decide +kernel, rfl⟩
theorem e_X11_standing_4 : g_dc cX11_standing 4 (.iload_n 2) 1 5 := ⟨by decide +kernel, rfl⟩
theorem e_X11_standing_5 : g_dc cX11_standing 5 (.bipush 10) 2 7 := ⟨by decide +kernel, rfl⟩
theorem e_X11_standing_7 : g_dc cX11_standing 7 (.if_icmp .ge 23) 3 10 := ⟨by decide +kernel, rfl⟩
theorem e_X11_standing_10 : g_dc cX11_standing 10 (.aload_n 0) 1 11 := ⟨by decide +kernel, rfl⟩
theorem e_X11_standing_11 : g_dc cX11_standing 11 (.iload_n 2) 1 12 := ⟨by decide +kernel, rfl⟩
theorem e_X11_standing_12 : g_dc cX11_standing 12 (.invokevirtual 343) 3 15 := ⟨by decide +kernel, rfl⟩
theorem e_X11_standing_15 : g_dc cX11_standing 15 (.ifCond .eq 9) 3 18 := ⟨by decide +kernel, rfl⟩
theorem e_X11_standing_18 : g_dc cX11_standing 18 (.iload_n 1) 1 19 := ⟨by decide +kernel, rfl⟩
theorem e_X11_standing_19 : g_dc cX11_standing 19 (.iconst 1) 1 20 := ⟨by decide +kernel, rfl⟩
theorem e_X11_standing_20 : g_dc cX11_standing 20 (.iload_n 2) 1 21 := ⟨by decide +kernel, rfl⟩
theorem e_X11_standing_21 : g_dc cX11_standing 21 (.ishl) 1 22 := ⟨by decide +kernel, rfl⟩
theorem e_X11_standing_22 : g_dc cX11_standing 22 (.ior) 1 23 := ⟨by decide +kernel, rfl⟩
theorem e_X11_standing_23 : g_dc cX11_standing 23 (.istore_n 1) 1 24 := ⟨by decide +kernel, rfl⟩
theorem e_X11_standing_24 : g_dc cX11_standing 24 (.iinc 2 1) 3 27 := ⟨by decide +kernel, rfl⟩
theorem e_X11_standing_27 : g_dc cX11_standing 27 (.goto (-23)) 3 30 := ⟨by decide +kernel, rfl⟩
theorem e_X11_standing_30 : g_dc cX11_standing 30 (.iload_n 1) 1 31 := ⟨by decide +kernel, rfl⟩
theorem e_X11_standing_31 : g_dc cX11_standing 31 (.ireturn) 1 32 := ⟨by decide +kernel, rfl⟩
set_option maxHeartbeats 4000000 in
set_option maxRecDepth 100000 in
theorem w_X11_standing (l : Launch) (X : gX) (ad : Nat → Nat) (F : Nat → Int32) (R : Nat → Nat → Int32) (hI : g_ok LK_wM F) (hA : g_okR LA_wM R) (hWT : WT F R) (hWC : WC F R) : g_Ci l X yX11_standing cX11_standing 3 (some .int) 3 0 0 [.ref (ad 0)] (wM X ad F R) (fun r w => w = wM X ad F R ∧ jv (-2147483648) 2147483647 r) := by
  refine g_mi (by decide +kernel) (Nat.le_of_ble_eq_true rfl) (fun E cx hret => ?_)
  refine g_iconst cx 0 (by decide) e_X11_standing_0 ?_
  refine g_istore_n cx [(1, .int 0), (0, .ref (ad 0))] e_X11_standing_1 (by decide) rfl ?_
  refine g_iconst cx 0 (by decide) e_X11_standing_2 ?_
  refine g_istore_n cx [(2, .int 0), (1, .int 0), (0, .ref (ad 0))] e_X11_standing_3 (by decide) rfl ?_
  have J4 : ∀ (N : Nat) (y1 : Int32) (y2 : Int32), (jv (-2147483648) 2147483647 y1) → (jv 0 10 y2) → (2147483647 - y2.toInt).toNat < N → G X E 3 0 0 (wM X ad F R) [(0, .ref (ad 0)), (1, .int y1), (2, .int y2)] 4 [] := by
    intro N
    induction N with
    | zero => intro y1 y2 py1 py2 hm; exact absurd hm (Nat.not_lt_zero _)
    | succ N ih4 =>
      intro y1 y2 py1 py2 hm4
      refine g_iload_n cx 2 rfl e_X11_standing_4 ?_
      refine g_bipush cx 10 (by decide) e_X11_standing_5 ?_
      refine g_icmp_ge cx 30 e_X11_standing_7 (by decide) (fun zc3 => ?_) (fun zc3 => ?_)
      · have p4 := gn_ge 10 10 (gc_le zc3) py2 (jv_k (x := 10) 10 (by decide)) (by decide)
        refine g_iload_n cx 1 rfl e_X11_standing_30 ?_
        exact hret e_X11_standing_31 (Nat.le_of_ble_eq_true rfl) (Nat.le_of_ble_eq_true rfl) rfl ⟨rfl, py1⟩
      · have p5 := gn_lt 0 9 (gc_nle zc3) py2 (jv_k (x := 10) 10 (by decide)) (by decide)
        refine g_aload_n cx 0 rfl e_X11_standing_10 ?_
        refine g_iload_n cx 2 rfl e_X11_standing_11 ?_
        refine g_cViW cx [.int y2] [] (w_X11_stands l X ad F R hI hA hWT hWC y2 p5) ml_X11_343 yV_X11_stands e_X11_standing_12 (by unfold g_rr; decide) (by decide) 0 rfl rfl rfl (Nat.le_of_ble_eq_true rfl) (fun r6 w7 h8 => ?_)
        obtain ⟨rfl, pr6, zx9⟩ := h8
        have J24 : ∀ (y10 : Int32), (jv (-2147483648) 2147483647 y10) → G X E 3 0 0 (wM X ad F R) [(0, .ref (ad 0)), (1, .int y10), (2, .int y2)] 24 [] := by
          intro y10 py10
          obtain ⟨x11, ex11⟩ : ∃ z : Int32, z = y2 + Int32.ofInt 1 := ⟨_, rfl⟩
          refine g_iinc cx x11 [(2, .int x11), (0, .ref (ad 0)), (1, .int y10)] 2 e_X11_standing_24 rfl ex11.symm (by decide) rfl ?_
          have zx11 := jv_add 1 10 (show x11 = y2 + 1 from ex11) p5 (jv_k (x := 1) 1 (by decide)) (by decide)
          refine g_goto cx 4 e_X11_standing_27 (by decide) ?_
          refine g_lsub [1, 2, 0] [(0, .ref (ad 0)), (1, .int y10), (2, .int x11)] rfl ?_
          exact ih4 y10 x11 py10 (jv_w zx11.2 (by decide)) (Nat.lt_of_lt_of_le (show (2147483647 - x11.toInt).toNat < (2147483647 - y2.toInt).toNat from by have q0 := (jv_k (x := 1) 1 (by decide)).1; have q1 := (jv_k (x := 1) 1 (by decide)).2; have q2 := (jv_k (x := 10) 10 (by decide)).1; have q3 := (jv_k (x := 10) 10 (by decide)).2; have q4 := zx11.2.1; have q5 := zx11.2.2; have q6 := p5.1; have q7 := p5.2; have q8 := (gc_nle zc3); have q9 := (g_eq0 zx11.1); omega) (Nat.le_of_lt_succ hm4))
        refine g_if_eq cx 24 e_X11_standing_15 (by decide) (fun zc12 => ?_) (fun zc12 => ?_)
        · have p13 := gn_eq 0 0 (gc_eq zc12) pr6 (jv_k (x := 0) 0 (by decide)) (by decide)
          exact J24 y1 py1
        · have p14 := gn_neL 1 1 (gc_ne zc12) pr6 (jv_k (x := 0) 0 (by decide)) (by decide)
          refine g_iload_n cx 1 rfl e_X11_standing_18 ?_
          refine g_iconst cx 1 (by decide) e_X11_standing_19 ?_
          refine g_iload_n cx 2 rfl e_X11_standing_20 ?_
          refine g_ishl cx e_X11_standing_21 ?_
          refine g_topi (fun x15 ex15 => ?_)
          refine g_ior cx e_X11_standing_22 ?_
          refine g_topi (fun x16 ex16 => ?_)
          refine g_istore_n cx [(1, .int x16), (0, .ref (ad 0)), (2, .int y2)] e_X11_standing_23 (by decide) rfl ?_
          refine g_lsub [1, 0, 2] [(0, .ref (ad 0)), (1, .int x16), (2, .int y2)] rfl ?_
          exact J24 x16 (jv_t x16)
  refine g_lsub [2, 1, 0] [(0, .ref (ad 0)), (1, .int 0), (2, .int 0)] rfl ?_
  exact J4 _ 0 0 (jv_w (jv_k (x := 0) 0 (by decide)) (by decide)) (jv_w (jv_k (x := 0) 0 (by decide)) (by decide)) (Nat.lt_succ_self _)
theorem e_X11_inchesAll_0 : g_dc cX11_inchesAll 0 (.iconst 0) 1 1 := ⟨by decide +kernel, rfl⟩
theorem e_X11_inchesAll_1 : g_dc cX11_inchesAll 1 (.istore_n 1) 1 2 := ⟨by decide +kernel, rfl⟩
theorem e_X11_inchesAll_2 : g_dc cX11_inchesAll 2 (.iconst 0) 1 3 := ⟨by decide +kernel, rfl⟩
theorem e_X11_inchesAll_3 : g_dc cX11_inchesAll 3 (.istore_n 2) 1 4 := ⟨by decide +kernel, rfl⟩
theorem e_X11_inchesAll_4 : g_dc cX11_inchesAll 4 (.iload_n 2) 1 5 := ⟨by decide +kernel, rfl⟩
theorem e_X11_inchesAll_5 : g_dc cX11_inchesAll 5 (.bipush 10) 2 7 := ⟨by decide +kernel, rfl⟩
theorem e_X11_inchesAll_7 : g_dc cX11_inchesAll 7 (.if_icmp .ge 33) 3 10 := ⟨by decide +kernel, rfl⟩
theorem e_X11_inchesAll_10 : g_dc cX11_inchesAll 10 (.iload_n 1) 1 11 := ⟨by decide +kernel, rfl⟩
theorem e_X11_inchesAll_11 : g_dc cX11_inchesAll 11 (.aload_n 0) 1 12 := ⟨by decide +kernel, rfl⟩
theorem e_X11_inchesAll_12 : g_dc cX11_inchesAll 12 (.getfield 312) 3 15 := ⟨by decide +kernel, rfl⟩
theorem e_X11_inchesAll_15 : g_dc cX11_inchesAll 15 (.iload_n 2) 1 16 := ⟨by decide +kernel, rfl⟩
theorem e_X11_inchesAll_16 : g_dc cX11_inchesAll 16 (.invokestatic 175) 3 19 := ⟨by decide +kernel, rfl⟩
theorem e_X11_inchesAll_19 : g_dc cX11_inchesAll 19 (.ifCond .eq 12) 3 22 := ⟨by decide +kernel, rfl⟩
theorem e_X11_inchesAll_22 : g_dc cX11_inchesAll 22 (.aload_n 0) 1 23 := ⟨by decide +kernel, rfl⟩
theorem e_X11_inchesAll_23 : g_dc cX11_inchesAll 23 (.getfield 104) 3 26 := ⟨by decide +kernel, rfl⟩
theorem e_X11_inchesAll_26 : g_dc cX11_inchesAll 26 (.iload_n 2) 1 27 := ⟨by decide +kernel, rfl⟩
theorem e_X11_inchesAll_27 : g_dc cX11_inchesAll 27 (.iaload) 1 28 := ⟨by decide +kernel, rfl⟩
theorem e_X11_inchesAll_28 : g_dc cX11_inchesAll 28 (.goto 4) 3 31 := ⟨by decide +kernel, rfl⟩
theorem e_X11_inchesAll_31 : g_dc cX11_inchesAll 31 (.iconst 0) 1 32 := ⟨by decide +kernel, rfl⟩
theorem e_X11_inchesAll_32 : g_dc cX11_inchesAll 32 (.iadd) 1 33 := ⟨by decide +kernel, rfl⟩
theorem e_X11_inchesAll_33 : g_dc cX11_inchesAll 33 (.istore_n 1) 1 34 := ⟨by decide +kernel, rfl⟩
theorem e_X11_inchesAll_34 : g_dc cX11_inchesAll 34 (.iinc 2 1) 3 37 := ⟨by decide +kernel, rfl⟩
theorem e_X11_inchesAll_37 : g_dc cX11_inchesAll 37 (.goto (-33)) 3 40 := ⟨by decide +kernel, rfl⟩
theorem e_X11_inchesAll_40 : g_dc cX11_inchesAll 40 (.iload_n 1) 1 41 := ⟨by decide +kernel, rfl⟩
theorem e_X11_inchesAll_41 : g_dc cX11_inchesAll 41 (.ireturn) 1 42 := ⟨by decide +kernel, rfl⟩
set_option maxHeartbeats 4000000 in
set_option maxRecDepth 100000 in
theorem w_X11_inchesAll (l : Launch) (X : gX) (ad : Nat → Nat) (F : Nat → Int32) (R : Nat → Nat → Int32) (hI : g_ok LK_wM F) (hA : g_okR LA_wM R) (hWT : WT F R) (hWC : WC F R) : g_Ci l X yX11_inchesAll cX11_inchesAll 3 (some .int) 2 0 0 [.ref (ad 0)] (wM X ad F R) (fun r w => w = wM X ad F R ∧ jv (-2147483648) 2147483647 r) := by
  refine g_mi (by decide +kernel) (Nat.le_of_ble_eq_true rfl) (fun E cx hret => ?_)
  refine g_iconst cx 0 (by decide) e_X11_inchesAll_0 ?_
  refine g_istore_n cx [(1, .int 0), (0, .ref (ad 0))] e_X11_inchesAll_1 (by decide) rfl ?_
  refine g_iconst cx 0 (by decide) e_X11_inchesAll_2 ?_
  refine g_istore_n cx [(2, .int 0), (1, .int 0), (0, .ref (ad 0))] e_X11_inchesAll_3 (by decide) rfl ?_
  have J4 : ∀ (N : Nat) (y1 : Int32) (y2 : Int32), (jv (-2147483648) 2147483647 y1) → (jv 0 10 y2) → (2147483647 - y2.toInt).toNat < N → G X E 3 0 0 (wM X ad F R) [(0, .ref (ad 0)), (1, .int y1), (2, .int y2)] 4 [] := by
    intro N
    induction N with
    | zero => intro y1 y2 py1 py2 hm; exact absurd hm (Nat.not_lt_zero _)
    | succ N ih4 =>
      intro y1 y2 py1 py2 hm4
      refine g_iload_n cx 2 rfl e_X11_inchesAll_4 ?_
      refine g_bipush cx 10 (by decide) e_X11_inchesAll_5 ?_
      refine g_icmp_ge cx 40 e_X11_inchesAll_7 (by decide) (fun zc3 => ?_) (fun zc3 => ?_)
      · have p4 := gn_ge 10 10 (gc_le zc3) py2 (jv_k (x := 10) 10 (by decide)) (by decide)
        refine g_iload_n cx 1 rfl e_X11_inchesAll_40 ?_
        exact hret e_X11_inchesAll_41 (Nat.le_of_ble_eq_true rfl) (Nat.le_of_ble_eq_true rfl) rfl ⟨rfl, py1⟩
      · have p5 := gn_lt 0 9 (gc_nle zc3) py2 (jv_k (x := 10) 10 (by decide)) (by decide)
        refine g_iload_n cx 1 rfl e_X11_inchesAll_10 ?_
        refine g_aload_n cx 0 rfl e_X11_inchesAll_11 ?_
        refine g_get cx cl_X11 fl_X11_312 0 (.int (F 42)) e_X11_inchesAll_12 rfl rfl ?_
        refine g_iload_n cx 2 rfl e_X11_inchesAll_15 ?_
        refine g_cSiW cx [.int (F 42), .int y2] [.int y1] (c_X11_has l X (wM X ad F R) (F 42) y2) ml_X11_175 yS_X11_has rfl e_X11_inchesAll_16 (by unfold g_rr; decide) (by decide) rfl (Nat.le_of_ble_eq_true rfl) (fun r6 w7 h8 => ?_)
        obtain ⟨rfl, hr6⟩ := h8
        have pr6 : jv 0 1 r6 := by rcases hr6 with q | q <;> rw [q.1] <;> exact ⟨by decide, by decide⟩
        have J32 : ∀ (y9 : Int32), (jv (-2147483648) 2147483647 y9) → G X E 3 0 0 (wM X ad F R) [(0, .ref (ad 0)), (2, .int y2)] 32 [.int y9, .int y1] := by
          intro y9 py9
          refine g_iadd cx e_X11_inchesAll_32 ?_
          refine g_topi (fun x10 ex10 => ?_)
          refine g_istore_n cx [(1, .int x10), (0, .ref (ad 0)), (2, .int y2)] e_X11_inchesAll_33 (by decide) rfl ?_
          obtain ⟨x11, ex11⟩ : ∃ z : Int32, z = y2 + Int32.ofInt 1 := ⟨_, rfl⟩
          refine g_iinc cx x11 [(2, .int x11), (1, .int x10), (0, .ref (ad 0))] 2 e_X11_inchesAll_34 rfl ex11.symm (by decide) rfl ?_
          have zx11 := jv_add 1 10 (show x11 = y2 + 1 from ex11) p5 (jv_k (x := 1) 1 (by decide)) (by decide)
          refine g_goto cx 4 e_X11_inchesAll_37 (by decide) ?_
          refine g_lsub [2, 1, 0] [(0, .ref (ad 0)), (1, .int x10), (2, .int x11)] rfl ?_
          exact ih4 x10 x11 (jv_t x10) (jv_w zx11.2 (by decide)) (Nat.lt_of_lt_of_le (show (2147483647 - x11.toInt).toNat < (2147483647 - y2.toInt).toNat from by have q0 := (jv_k (x := 1) 1 (by decide)).1; have q1 := (jv_k (x := 1) 1 (by decide)).2; have q2 := (jv_k (x := 10) 10 (by decide)).1; have q3 := (jv_k (x := 10) 10 (by decide)).2; have q4 := zx11.2.1; have q5 := zx11.2.2; have q6 := p5.1; have q7 := p5.2; have q8 := (gc_nle zc3); have q9 := (g_eq0 zx11.1); omega) (Nat.le_of_lt_succ hm4))
        refine g_if_eq cx 31 e_X11_inchesAll_19 (by decide) (fun zc12 => ?_) (fun zc12 => ?_)
        · have p13 := gn_eq 0 0 (gc_eq zc12) pr6 (jv_k (x := 0) 0 (by decide)) (by decide)
          refine g_iconst cx 0 (by decide) e_X11_inchesAll_31 ?_
          refine g_lsub [0, 2] [(0, .ref (ad 0)), (2, .int y2)] rfl ?_
          exact J32 0 (jv_w (jv_k (x := 0) 0 (by decide)) (by decide))
        · have p14 := gn_neL 1 1 (gc_ne zc12) pr6 (jv_k (x := 0) 0 (by decide)) (by decide)
          have zb15 : hb (F 42) y2 := g_hasy hr6 zc12
          refine g_aload_n cx 0 rfl e_X11_inchesAll_22 ?_
          refine g_get cx cl_X11 fl_X11_104 0 (.ref (ad 32)) e_X11_inchesAll_23 rfl rfl ?_
          refine g_iload_n cx 2 rfl e_X11_inchesAll_26 ?_
          refine g_iald cx 32 e_X11_inchesAll_27 rfl (jv_ix 10 p5 (by decide)) ?_
          refine g_topi (fun x16 ex16 => ?_)
          refine g_goto cx 32 e_X11_inchesAll_28 (by decide) ?_
          refine g_lsub [0, 2] [(0, .ref (ad 0)), (2, .int y2)] rfl ?_
          exact J32 x16 (jv_t x16)
  refine g_lsub [2, 1, 0] [(0, .ref (ad 0)), (1, .int 0), (2, .int 0)] rfl ?_
  exact J4 _ 0 0 (jv_w (jv_k (x := 0) 0 (by decide)) (by decide)) (jv_w (jv_k (x := 0) 0 (by decide)) (by decide)) (Nat.lt_succ_self _)
theorem e_X11_stateBits_0 : g_dc cX11_stateBits 0 (.iconst 0) 1 1 := ⟨by decide +kernel, rfl⟩
theorem e_X11_stateBits_1 : g_dc cX11_stateBits 1 (.istore_n 2) 1 2 := ⟨by decide +kernel, rfl⟩
theorem e_X11_stateBits_2 : g_dc cX11_stateBits 2 (.iconst 0) 1 3 := ⟨by decide +kernel, rfl⟩
theorem e_X11_stateBits_3 : g_dc cX11_stateBits 3 (.istore_n 3) 1 4 := ⟨by decide +kernel, rfl⟩
theorem e_X11_stateBits_4 : g_dc cX11_stateBits 4 (.iload_n 3) 1 5 := ⟨by decide +kernel, rfl⟩
theorem e_X11_stateBits_5 : g_dc cX11_stateBits 5 (.bipush 10) 2 7 := ⟨by decide +kernel, rfl⟩
theorem e_X11_stateBits_7 : g_dc cX11_stateBits 7 (.if_icmp .ge 36) 3 10 := ⟨by decide +kernel, rfl⟩
theorem e_X11_stateBits_10 : g_dc cX11_stateBits 10 (.aload_n 0) 1 11 := ⟨by decide +kernel, rfl⟩
theorem e_X11_stateBits_11 : g_dc cX11_stateBits 11 (.getfield 312) 3 14 := ⟨by decide +kernel, rfl⟩
theorem e_X11_stateBits_14 : g_dc cX11_stateBits 14 (.iload_n 3) 1 15 := ⟨by decide +kernel, rfl⟩
theorem e_X11_stateBits_15 : g_dc cX11_stateBits 15 (.invokestatic 175) 3 18 := ⟨by decide +kernel, rfl⟩
theorem e_X11_stateBits_18 : g_dc cX11_stateBits 18 (.ifCond .eq 19) 3 21 := ⟨by decide +kernel, rfl⟩
theorem e_X11_stateBits_21 : g_dc cX11_stateBits 21 (.aload_n 0) 1 22 := ⟨by decide +kernel, rfl⟩
theorem e_X11_stateBits_22 : g_dc cX11_stateBits 22 (.getfield 92) 3 25 := ⟨by decide +kernel, rfl⟩
theorem e_X11_stateBits_25 : g_dc cX11_stateBits 25 (.iload_n 3) 1 26 := ⟨by decide +kernel, rfl⟩
theorem e_X11_stateBits_26 : g_dc cX11_stateBits 26 (.iaload) 1 27 := ⟨by decide +kernel, rfl⟩
theorem e_X11_stateBits_27 : g_dc cX11_stateBits 27 (.iload_n 1) 1 28 := ⟨by decide +kernel, rfl⟩
theorem e_X11_stateBits_28 : g_dc cX11_stateBits 28 (.if_icmp .ne 9) 3 31 := ⟨by decide +kernel, rfl⟩
theorem e_X11_stateBits_31 : g_dc cX11_stateBits 31 (.iload_n 2) 1 32 := ⟨by decide +kernel, rfl⟩
theorem e_X11_stateBits_32 : g_dc cX11_stateBits 32 (.iconst 1) 1 33 := ⟨by decide +kernel, rfl⟩
theorem e_X11_stateBits_33 : g_dc cX11_stateBits 33 (.iload_n 3) 1 34 := ⟨by decide +kernel, rfl⟩
theorem e_X11_stateBits_34 : g_dc cX11_stateBits 34 (.ishl) 1 35 := ⟨by decide +kernel, rfl⟩
theorem e_X11_stateBits_35 : g_dc cX11_stateBits 35 (.ior) 1 36 := ⟨by decide +kernel, rfl⟩
theorem e_X11_stateBits_36 : g_dc cX11_stateBits 36 (.istore_n 2) 1 37 := ⟨by decide +kernel, rfl⟩
theorem e_X11_stateBits_37 : g_dc cX11_stateBits 37 (.iinc 3 1) 3 40 := ⟨by decide +kernel, rfl⟩
theorem e_X11_stateBits_40 : g_dc cX11_stateBits 40 (.goto (-36)) 3 43 := ⟨by decide +kernel, rfl⟩
theorem e_X11_stateBits_43 : g_dc cX11_stateBits 43 (.iload_n 2) 1 44 := ⟨by decide +kernel, rfl⟩
theorem e_X11_stateBits_44 : g_dc cX11_stateBits 44 (.ireturn) 1 45 := ⟨by decide +kernel, rfl⟩
set_option maxHeartbeats 4000000 in
set_option maxRecDepth 100000 in
theorem w_X11_stateBits (l : Launch) (X : gX) (ad : Nat → Nat) (F : Nat → Int32) (R : Nat → Nat → Int32) (hI : g_ok LK_wM F) (hA : g_okR LA_wM R) (hWT : WT F R) (hWC : WC F R) (a0 : Int32) : g_Ci l X yX11_stateBits cX11_stateBits 4 (some .int) 2 0 0 [.ref (ad 0), .int a0] (wM X ad F R) (fun r w => w = wM X ad F R ∧ jv (-2147483648) 2147483647 r) := by
  refine g_mi (by decide +kernel) (Nat.le_of_ble_eq_true rfl) (fun E cx hret => ?_)
  refine g_iconst cx 0 (by decide) e_X11_stateBits_0 ?_
  refine g_istore_n cx [(2, .int 0), (0, .ref (ad 0)), (1, .int a0)] e_X11_stateBits_1 (by decide) rfl ?_
  refine g_iconst cx 0 (by decide) e_X11_stateBits_2 ?_
  refine g_istore_n cx [(3, .int 0), (2, .int 0), (0, .ref (ad 0)), (1, .int a0)] e_X11_stateBits_3 (by decide) rfl ?_
  have J4 : ∀ (N : Nat) (y1 : Int32) (y2 : Int32), (jv (-2147483648) 2147483647 y1) → (jv 0 10 y2) → (2147483647 - y2.toInt).toNat < N → G X E 4 0 0 (wM X ad F R) [(0, .ref (ad 0)), (1, .int a0), (2, .int y1), (3, .int y2)] 4 [] := by
    intro N
    induction N with
    | zero => intro y1 y2 py1 py2 hm; exact absurd hm (Nat.not_lt_zero _)
    | succ N ih4 =>
      intro y1 y2 py1 py2 hm4
      refine g_iload_n cx 3 rfl e_X11_stateBits_4 ?_
      refine g_bipush cx 10 (by decide) e_X11_stateBits_5 ?_
      refine g_icmp_ge cx 43 e_X11_stateBits_7 (by decide) (fun zc3 => ?_) (fun zc3 => ?_)
      · have p4 := gn_ge 10 10 (gc_le zc3) py2 (jv_k (x := 10) 10 (by decide)) (by decide)
        refine g_iload_n cx 2 rfl e_X11_stateBits_43 ?_
        exact hret e_X11_stateBits_44 (Nat.le_of_ble_eq_true rfl) (Nat.le_of_ble_eq_true rfl) rfl ⟨rfl, py1⟩
      · have p5 := gn_lt 0 9 (gc_nle zc3) py2 (jv_k (x := 10) 10 (by decide)) (by decide)
        refine g_aload_n cx 0 rfl e_X11_stateBits_10 ?_
        refine g_get cx cl_X11 fl_X11_312 0 (.int (F 42)) e_X11_stateBits_11 rfl rfl ?_
        refine g_iload_n cx 3 rfl e_X11_stateBits_14 ?_
        refine g_cSiW cx [.int (F 42), .int y2] [] (c_X11_has l X (wM X ad F R) (F 42) y2) ml_X11_175 yS_X11_has rfl e_X11_stateBits_15 (by unfold g_rr; decide) (by decide) rfl (Nat.le_of_ble_eq_true rfl) (fun r6 w7 h8 => ?_)
        obtain ⟨rfl, hr6⟩ := h8
        have pr6 : jv 0 1 r6 := by rcases hr6 with q | q <;> rw [q.1] <;> exact ⟨by decide, by decide⟩
        have J37 : ∀ (y9 : Int32), (jv (-2147483648) 2147483647 y9) → G X E 4 0 0 (wM X ad F R) [(0, .ref (ad 0)), (1, .int a0), (2, .int y9), (3, .int y2)] 37 [] := by
          intro y9 py9
          obtain ⟨x10, ex10⟩ : ∃ z : Int32, z = y2 + Int32.ofInt 1 := ⟨_, rfl⟩
          refine g_iinc cx x10 [(3, .int x10), (0, .ref (ad 0)), (1, .int a0), (2, .int y9)] 3 e_X11_stateBits_37 rfl ex10.symm (by decide) rfl ?_
          have zx10 := jv_add 1 10 (show x10 = y2 + 1 from ex10) p5 (jv_k (x := 1) 1 (by decide)) (by decide)
          refine g_goto cx 4 e_X11_stateBits_40 (by decide) ?_
          refine g_lsub [1, 2, 3, 0] [(0, .ref (ad 0)), (1, .int a0), (2, .int y9), (3, .int x10)] rfl ?_
          exact ih4 y9 x10 py9 (jv_w zx10.2 (by decide)) (Nat.lt_of_lt_of_le (show (2147483647 - x10.toInt).toNat < (2147483647 - y2.toInt).toNat from by have q0 := (jv_k (x := 1) 1 (by decide)).1; have q1 := (jv_k (x := 1) 1 (by decide)).2; have q2 := (jv_k (x := 10) 10 (by decide)).1; have q3 := (jv_k (x := 10) 10 (by decide)).2; have q4 := zx10.2.1; have q5 := zx10.2.2; have q6 := p5.1; have q7 := p5.2; have q8 := (gc_nle zc3); have q9 := (g_eq0 zx10.1); omega) (Nat.le_of_lt_succ hm4))
        refine g_if_eq cx 37 e_X11_stateBits_18 (by decide) (fun zc11 => ?_) (fun zc11 => ?_)
        · have p12 := gn_eq 0 0 (gc_eq zc11) pr6 (jv_k (x := 0) 0 (by decide)) (by decide)
          exact J37 y1 py1
        · have p13 := gn_neL 1 1 (gc_ne zc11) pr6 (jv_k (x := 0) 0 (by decide)) (by decide)
          have zb14 : hb (F 42) y2 := g_hasy hr6 zc11
          refine g_aload_n cx 0 rfl e_X11_stateBits_21 ?_
          refine g_get cx cl_X11 fl_X11_92 0 (.ref (ad 28)) e_X11_stateBits_22 rfl rfl ?_
          refine g_iload_n cx 3 rfl e_X11_stateBits_25 ?_
          refine g_iald cx 28 e_X11_stateBits_26 rfl (jv_ix 10 p5 (by decide)) ?_
          refine g_topi (fun x15 ex15 => ?_)
          refine g_iload_n cx 1 rfl e_X11_stateBits_27 ?_
          refine g_icmp_ne cx 37 e_X11_stateBits_28 (by decide) (fun zc16 => ?_) (fun zc16 => ?_)
          · exact J37 y1 py1
          · refine g_iload_n cx 2 rfl e_X11_stateBits_31 ?_
            refine g_iconst cx 1 (by decide) e_X11_stateBits_32 ?_
            refine g_iload_n cx 3 rfl e_X11_stateBits_33 ?_
            refine g_ishl cx e_X11_stateBits_34 ?_
            refine g_topi (fun x17 ex17 => ?_)
            refine g_ior cx e_X11_stateBits_35 ?_
            refine g_topi (fun x18 ex18 => ?_)
            refine g_istore_n cx [(2, .int x18), (0, .ref (ad 0)), (1, .int a0), (3, .int y2)] e_X11_stateBits_36 (by decide) rfl ?_
            refine g_lsub [1, 2, 0, 3] [(0, .ref (ad 0)), (1, .int a0), (2, .int x18), (3, .int y2)] rfl ?_
            exact J37 x18 (jv_t x18)
  refine g_lsub [2, 3, 1, 0] [(0, .ref (ad 0)), (1, .int a0), (2, .int 0), (3, .int 0)] rfl ?_
  exact J4 _ 0 0 (jv_w (jv_k (x := 0) 0 (by decide)) (by decide)) (jv_w (jv_k (x := 0) 0 (by decide)) (by decide)) (Nat.lt_succ_self _)
theorem e_X11_told_0 : g_dc cX11_told 0 (.iload_n 1) 1 1 := ⟨by decide +kernel, rfl⟩
theorem e_X11_told_1 : g_dc cX11_told 1 (.bipush 10) 2 3 := ⟨by decide +kernel, rfl⟩
theorem e_X11_told_3 : g_dc cX11_told 3 (.irem) 1 4 := ⟨by decide +kernel, rfl⟩
theorem e_X11_told_4 : g_dc cX11_told 4 (.istore_n 2) 1 5 := ⟨by decide +kernel, rfl⟩
theorem e_X11_told_5 : g_dc cX11_told 5 (.iload_n 1) 1 6 := ⟨by decide +kernel, rfl⟩
theorem e_X11_told_6 : g_dc cX11_told 6 (.bipush 10) 2 8 := ⟨by decide +kernel, rfl⟩
theorem e_X11_told_8 : g_dc cX11_told 8 (.if_icmp .ge 7) 3 11 := ⟨by decide +kernel, rfl⟩
theorem e_X11_told_11 : g_dc cX11_told 11 (.iload_n 1) 1 12 := ⟨by decide +kernel, rfl⟩
theorem e_X11_told_12 : g_dc cX11_told 12 (.goto 10) 3 15 := ⟨by decide +kernel, rfl⟩
theorem e_X11_told_15 : g_dc cX11_told 15 (.bipush 10) 2 17 := ⟨by decide +kernel, rfl⟩
theorem e_X11_told_17 : g_dc cX11_told 17 (.iload_n 1) 1 18 := ⟨by decide +kernel, rfl⟩
theorem e_X11_told_18 : g_dc cX11_told 18 (.bipush 10) 2 20 := ⟨by decide +kernel, rfl⟩
theorem e_X11_told_20 : g_dc cX11_told 20 (.idiv) 1 21 := ⟨by decide +kernel, rfl⟩
theorem e_X11_told_21 : g_dc cX11_told 21 (.iadd) 1 22 := ⟨by decide +kernel, rfl⟩
theorem e_X11_told_22 : g_dc cX11_told 22 (.tableswitch 162 0 15 #[78, 86, 91, 96, 101, 107, 113, 118, 123, 162, 162, 128, 134, 141, 148, 155]) 78 100 := ⟨by decide +kernel, rfl⟩
theorem e_X11_told_100 : g_dc cX11_told 100 (.aload_n 0) 1 101 := ⟨by decide +kernel, rfl⟩
theorem e_X11_told_101 : g_dc cX11_told 101 (.invokevirtual 407) 3 104 := ⟨by decide +kernel, rfl⟩
theorem e_X11_told_104 : g_dc cX11_told 104 (.invokestatic 410) 3 107 := ⟨by decide +kernel, rfl⟩
theorem e_X11_told_107 : g_dc cX11_told 107 (.ireturn) 1 108 := ⟨by decide +kernel, rfl⟩
theorem e_X11_told_108 : g_dc cX11_told 108 (.aload_n 0) 1 109 := ⟨by decide +kernel, rfl⟩
theorem e_X11_told_109 : g_dc cX11_told 109 (.invokevirtual 413) 3 112 := ⟨by decide +kernel, rfl⟩
theorem e_X11_told_112 : g_dc cX11_told 112 (.ireturn) 1 113 := ⟨by decide +kernel, rfl⟩
theorem e_X11_told_113 : g_dc cX11_told 113 (.aload_n 0) 1 114 := ⟨by decide +kernel, rfl⟩
theorem e_X11_told_114 : g_dc cX11_told 114 (.getfield 325) 3 117 := ⟨by decide +kernel, rfl⟩
theorem e_X11_told_117 : g_dc cX11_told 117 (.ireturn) 1 118 := ⟨by decide +kernel, rfl⟩
theorem e_X11_told_118 : g_dc cX11_told 118 (.aload_n 0) 1 119 := ⟨by decide +kernel, rfl⟩
theorem e_X11_told_119 : g_dc cX11_told 119 (.getfield 331) 3 122 := ⟨by decide +kernel, rfl⟩
theorem e_X11_told_122 : g_dc cX11_told 122 (.ireturn) 1 123 := ⟨by decide +kernel, rfl⟩
theorem e_X11_told_123 : g_dc cX11_told 123 (.aload_n 0) 1 124 := ⟨by decide +kernel, rfl⟩
theorem e_X11_told_124 : g_dc cX11_told 124 (.iconst 1) 1 125 := ⟨by decide +kernel, rfl⟩
theorem e_X11_told_125 : g_dc cX11_told 125 (.invokevirtual 416) 3 128 := ⟨by decide +kernel, rfl⟩
theorem e_X11_told_128 : g_dc cX11_told 128 (.ireturn) 1 129 := ⟨by decide +kernel, rfl⟩
theorem e_X11_told_129 : g_dc cX11_told 129 (.aload_n 0) 1 130 := ⟨by decide +kernel, rfl⟩
theorem e_X11_told_130 : g_dc cX11_told 130 (.iconst 2) 1 131 := ⟨by decide +kernel, rfl⟩
theorem e_X11_told_131 : g_dc cX11_told 131 (.invokevirtual 416) 3 134 := ⟨by decide +kernel, rfl⟩
theorem e_X11_told_134 : g_dc cX11_told 134 (.ireturn) 1 135 := ⟨by decide +kernel, rfl⟩
theorem e_X11_told_135 : g_dc cX11_told 135 (.aload_n 0) 1 136 := ⟨by decide +kernel, rfl⟩
theorem e_X11_told_136 : g_dc cX11_told 136 (.getfield 334) 3 139 := ⟨by decide +kernel, rfl⟩
theorem e_X11_told_139 : g_dc cX11_told 139 (.ireturn) 1 140 := ⟨by decide +kernel, rfl⟩
theorem e_X11_told_140 : g_dc cX11_told 140 (.aload_n 0) 1 141 := ⟨by decide +kernel, rfl⟩
theorem e_X11_told_141 : g_dc cX11_told 141 (.getfield 337) 3 144 := ⟨by decide +kernel, rfl⟩
theorem e_X11_told_144 : g_dc cX11_told 144 (.ireturn) 1 145 := ⟨by decide +kernel, rfl⟩
theorem e_X11_told_145 : g_dc cX11_told 145 (.aload_n 0) 1 146 := ⟨by decide +kernel, rfl⟩
theorem e_X11_told_146 : g_dc cX11_told 146 (.getfield 340) 3 149 := ⟨by decide +kernel, rfl⟩
theorem e_X11_told_149 : g_dc cX11_told 149 (.ireturn) 1 150 := ⟨by decide +kernel, rfl⟩
theorem e_X11_told_150 : g_dc cX11_told 150 (.aload_n 0) 1 151 := ⟨by decide +kernel, rfl⟩
theorem e_X11_told_151 : g_dc cX11_told 151 (.iload_n 2) 1 152 := ⟨by decide +kernel, rfl⟩
theorem e_X11_told_152 : g_dc cX11_told 152 (.invokevirtual 419) 3 155 := ⟨by decide +kernel, rfl⟩
theorem e_X11_told_155 : g_dc cX11_told 155 (.ireturn) 1 156 := ⟨by decide +kernel, rfl⟩
theorem e_X11_told_156 : g_dc cX11_told 156 (.aload_n 0) 1 157 := ⟨by decide +kernel, rfl⟩
theorem e_X11_told_157 : g_dc cX11_told 157 (.getfield 104) 3 160 := ⟨by decide +kernel, rfl⟩
theorem e_X11_told_160 : g_dc cX11_told 160 (.iload_n 2) 1 161 := ⟨by decide +kernel, rfl⟩
theorem e_X11_told_161 : g_dc cX11_told 161 (.iaload) 1 162 := ⟨by decide +kernel, rfl⟩
theorem e_X11_told_162 : g_dc cX11_told 162 (.ireturn) 1 163 := ⟨by decide +kernel, rfl⟩
theorem e_X11_told_163 : g_dc cX11_told 163 (.aload_n 0) 1 164 := ⟨by decide +kernel, rfl⟩
theorem e_X11_told_164 : g_dc cX11_told 164 (.getfield 107) 3 167 := ⟨by decide +kernel, rfl⟩
theorem e_X11_told_167 : g_dc cX11_told 167 (.iload_n 2) 1 168 := ⟨by decide +kernel, rfl⟩
theorem e_X11_told_168 : g_dc cX11_told 168 (.iaload) 1 169 := ⟨by decide +kernel, rfl⟩
theorem e_X11_told_169 : g_dc cX11_told 169 (.ireturn) 1 170 := ⟨by decide +kernel, rfl⟩
theorem e_X11_told_170 : g_dc cX11_told 170 (.aload_n 0) 1 171 := ⟨by decide +kernel, rfl⟩
theorem e_X11_told_171 : g_dc cX11_told 171 (.getfield 110) 3 174 := ⟨by decide +kernel, rfl⟩
theorem e_X11_told_174 : g_dc cX11_told 174 (.iload_n 2) 1 175 := ⟨by decide +kernel, rfl⟩
theorem e_X11_told_175 : g_dc cX11_told 175 (.iaload) 1 176 := ⟨by decide +kernel, rfl⟩
theorem e_X11_told_176 : g_dc cX11_told 176 (.ireturn) 1 177 := ⟨by decide +kernel, rfl⟩
theorem e_X11_told_177 : g_dc cX11_told 177 (.aload_n 0) 1 178 := ⟨by decide +kernel, rfl⟩
theorem e_X11_told_178 : g_dc cX11_told 178 (.getfield 113) 3 181 := ⟨by decide +kernel, rfl⟩
theorem e_X11_told_181 : g_dc cX11_told 181 (.iload_n 2) 1 182 := ⟨by decide +kernel, rfl⟩
theorem e_X11_told_182 : g_dc cX11_told 182 (.iaload) 1 183 := ⟨by decide +kernel, rfl⟩
theorem e_X11_told_183 : g_dc cX11_told 183 (.ireturn) 1 184 := ⟨by decide +kernel, rfl⟩
theorem e_X11_told_184 : g_dc cX11_told 184 (.aload_n 0) 1 185 := ⟨by decide +kernel, rfl⟩
theorem e_X11_told_185 : g_dc cX11_told 185 (.getfield 95) 3 188 := ⟨by decide +kernel, rfl⟩
theorem e_X11_told_188 : g_dc cX11_told 188 (.iload_n 2) 1 189 := ⟨by decide +kernel, rfl⟩
theorem e_X11_told_189 : g_dc cX11_told 189 (.iaload) 1 190 := ⟨by decide +kernel, rfl⟩
theorem e_X11_told_190 : g_dc cX11_told 190 (.ireturn) 1 191 := ⟨by decide +kernel, rfl⟩
set_option maxHeartbeats 4000000 in
set_option maxRecDepth 100000 in
theorem w_X11_told (l : Launch) (X : gX) (ad : Nat → Nat) (F : Nat → Int32) (R : Nat → Nat → Int32) (hI : g_ok LK_wM F) (hA : g_okR LA_wM R) (hWT : WT F R) (hWC : WC F R) (a0 : Int32) (pa0 : jv 0 69 a0) : g_Ci l X yX11_told cX11_told 3 (some .int) 4 0 0 [.ref (ad 0), .int a0] (wM X ad F R) (fun r w => w = wM X ad F R ∧ jv (-2147483648) 2147483647 r) := by
  refine g_mi (by decide +kernel) (Nat.le_of_ble_eq_true rfl) (fun E cx hret => ?_)
  refine g_iload_n cx 1 rfl e_X11_told_0 ?_
  refine g_bipush cx 10 (by decide) e_X11_told_1 ?_
  refine g_irem cx (by decide) e_X11_told_3 ?_
  refine g_topi (fun x1 ex1 => ?_)
  have zx1 := jv_rem 0 9 ex1 pa0 (jv_k (x := 10) 10 (by decide)) (by decide)
  refine g_istore_n cx [(2, .int x1), (0, .ref (ad 0)), (1, .int a0)] e_X11_told_4 (by decide) rfl ?_
  refine g_iload_n cx 2 rfl e_X11_told_5 ?_
  refine g_bipush cx 10 (by decide) e_X11_told_6 ?_
  have J22 : ∀ (y2 : Int32), (jv 0 20 y2) → G X E 3 0 0 (wM X ad F R) [(0, .ref (ad 0)), (2, .int x1)] 22 [.int y2] := by
    intro y2 py2
    refine g_topi (fun zy3 ezy3 => ?_)
    rcases g_sw 0 15 zy3 with ⟨zw4n, zw4h, zw4e⟩ | zw4
    · have zw4d : zw4n = 0 ∨ zw4n = 1 ∨ zw4n = 2 ∨ zw4n = 3 ∨ zw4n = 4 ∨ zw4n = 5 ∨ zw4n = 6 ∨ zw4n = 7 ∨ zw4n = 8 ∨ zw4n = 9 ∨ zw4n = 10 ∨ zw4n = 11 ∨ zw4n = 12 ∨ zw4n = 13 ∨ zw4n = 14 ∨ zw4n = 15 := by omega
      rcases zw4d with rfl | rfl | rfl | rfl | rfl | rfl | rfl | rfl | rfl | rfl | rfl | rfl | rfl | rfl | rfl | rfl
      · refine g_tableIn cx 100 e_X11_told_22 (by rw [zw4e]; decide) (by rw [zw4e]; decide) (by rw [zw4e]; rfl) (by decide) ?_
        have p5 : jv 0 0 y2 := by rw [← ezy3]; exact jv_k 0 (by rw [zw4e]; rfl)
        refine g_aload_n cx 0 rfl e_X11_told_100 ?_
        refine g_cViW cx [] [] (w_X11_standing l X ad F R hI hA hWT hWC) ml_X11_407 yV_X11_standing e_X11_told_101 (by unfold g_rr; decide) (by decide) 0 rfl rfl rfl (Nat.le_of_ble_eq_true rfl) (fun r6 w7 h8 => ?_)
        obtain ⟨rfl, pr6⟩ := h8
        refine g_cSiW cx [.int r6] [] (w_X11_bits l X ad F R hI hA r6) ml_X11_410 yS_X11_bits rfl e_X11_told_104 (by unfold g_rr; decide) (by decide) rfl (Nat.le_of_ble_eq_true rfl) (fun r9 w10 h11 => ?_)
        obtain ⟨rfl, pr9⟩ := h11
        exact hret e_X11_told_107 (Nat.le_of_ble_eq_true rfl) (Nat.le_of_ble_eq_true rfl) rfl ⟨rfl, (jv_w pr9 (by decide))⟩
      · refine g_tableIn cx 108 e_X11_told_22 (by rw [zw4e]; decide) (by rw [zw4e]; decide) (by rw [zw4e]; rfl) (by decide) ?_
        have p12 : jv 1 1 y2 := by rw [← ezy3]; exact jv_k 1 (by rw [zw4e]; rfl)
        refine g_aload_n cx 0 rfl e_X11_told_108 ?_
        refine g_cViW cx [] [] (w_X11_inchesAll l X ad F R hI hA hWT hWC) ml_X11_413 yV_X11_inchesAll e_X11_told_109 (by unfold g_rr; decide) (by decide) 0 rfl rfl rfl (Nat.le_of_ble_eq_true rfl) (fun r13 w14 h15 => ?_)
        obtain ⟨rfl, pr13⟩ := h15
        exact hret e_X11_told_112 (Nat.le_of_ble_eq_true rfl) (Nat.le_of_ble_eq_true rfl) rfl ⟨rfl, pr13⟩
      · refine g_tableIn cx 113 e_X11_told_22 (by rw [zw4e]; decide) (by rw [zw4e]; decide) (by rw [zw4e]; rfl) (by decide) ?_
        have p16 : jv 2 2 y2 := by rw [← ezy3]; exact jv_k 2 (by rw [zw4e]; rfl)
        refine g_aload_n cx 0 rfl e_X11_told_113 ?_
        refine g_get cx cl_X11 fl_X11_325 0 (.int (F 45)) e_X11_told_114 rfl rfl ?_
        exact hret e_X11_told_117 (Nat.le_of_ble_eq_true rfl) (Nat.le_of_ble_eq_true rfl) rfl ⟨rfl, (jv_w (g_ok_g hI 12 rfl) (by decide))⟩
      · refine g_tableIn cx 118 e_X11_told_22 (by rw [zw4e]; decide) (by rw [zw4e]; decide) (by rw [zw4e]; rfl) (by decide) ?_
        have p17 : jv 3 3 y2 := by rw [← ezy3]; exact jv_k 3 (by rw [zw4e]; rfl)
        refine g_aload_n cx 0 rfl e_X11_told_118 ?_
        refine g_get cx cl_X11 fl_X11_331 0 (.int (F 48)) e_X11_told_119 rfl rfl ?_
        exact hret e_X11_told_122 (Nat.le_of_ble_eq_true rfl) (Nat.le_of_ble_eq_true rfl) rfl ⟨rfl, (jv_t (F 48))⟩
      · refine g_tableIn cx 123 e_X11_told_22 (by rw [zw4e]; decide) (by rw [zw4e]; decide) (by rw [zw4e]; rfl) (by decide) ?_
        have p18 : jv 4 4 y2 := by rw [← ezy3]; exact jv_k 4 (by rw [zw4e]; rfl)
        refine g_aload_n cx 0 rfl e_X11_told_123 ?_
        refine g_iconst cx 1 (by decide) e_X11_told_124 ?_
        refine g_cViW cx [.int 1] [] (w_X11_stateBits l X ad F R hI hA hWT hWC 1) ml_X11_416 yV_X11_stateBits e_X11_told_125 (by unfold g_rr; decide) (by decide) 0 rfl rfl rfl (Nat.le_of_ble_eq_true rfl) (fun r19 w20 h21 => ?_)
        obtain ⟨rfl, pr19⟩ := h21
        exact hret e_X11_told_128 (Nat.le_of_ble_eq_true rfl) (Nat.le_of_ble_eq_true rfl) rfl ⟨rfl, pr19⟩
      · refine g_tableIn cx 129 e_X11_told_22 (by rw [zw4e]; decide) (by rw [zw4e]; decide) (by rw [zw4e]; rfl) (by decide) ?_
        have p22 : jv 5 5 y2 := by rw [← ezy3]; exact jv_k 5 (by rw [zw4e]; rfl)
        refine g_aload_n cx 0 rfl e_X11_told_129 ?_
        refine g_iconst cx 2 (by decide) e_X11_told_130 ?_
        refine g_cViW cx [.int 2] [] (w_X11_stateBits l X ad F R hI hA hWT hWC 2) ml_X11_416 yV_X11_stateBits e_X11_told_131 (by unfold g_rr; decide) (by decide) 0 rfl rfl rfl (Nat.le_of_ble_eq_true rfl) (fun r23 w24 h25 => ?_)
        obtain ⟨rfl, pr23⟩ := h25
        exact hret e_X11_told_134 (Nat.le_of_ble_eq_true rfl) (Nat.le_of_ble_eq_true rfl) rfl ⟨rfl, pr23⟩
      · refine g_tableIn cx 135 e_X11_told_22 (by rw [zw4e]; decide) (by rw [zw4e]; decide) (by rw [zw4e]; rfl) (by decide) ?_
        have p26 : jv 6 6 y2 := by rw [← ezy3]; exact jv_k 6 (by rw [zw4e]; rfl)
        refine g_aload_n cx 0 rfl e_X11_told_135 ?_
        refine g_get cx cl_X11 fl_X11_334 0 (.int (F 65)) e_X11_told_136 rfl rfl ?_
        exact hret e_X11_told_139 (Nat.le_of_ble_eq_true rfl) (Nat.le_of_ble_eq_true rfl) rfl ⟨rfl, (jv_t (F 65))⟩
      · refine g_tableIn cx 140 e_X11_told_22 (by rw [zw4e]; decide) (by rw [zw4e]; decide) (by rw [zw4e]; rfl) (by decide) ?_
        have p27 : jv 7 7 y2 := by rw [← ezy3]; exact jv_k 7 (by rw [zw4e]; rfl)
        refine g_aload_n cx 0 rfl e_X11_told_140 ?_
        refine g_get cx cl_X11 fl_X11_337 0 (.int (F 66)) e_X11_told_141 rfl rfl ?_
        exact hret e_X11_told_144 (Nat.le_of_ble_eq_true rfl) (Nat.le_of_ble_eq_true rfl) rfl ⟨rfl, (jv_t (F 66))⟩
      · refine g_tableIn cx 145 e_X11_told_22 (by rw [zw4e]; decide) (by rw [zw4e]; decide) (by rw [zw4e]; rfl) (by decide) ?_
        have p28 : jv 8 8 y2 := by rw [← ezy3]; exact jv_k 8 (by rw [zw4e]; rfl)
        refine g_aload_n cx 0 rfl e_X11_told_145 ?_
        refine g_get cx cl_X11 fl_X11_340 0 (.int (F 67)) e_X11_told_146 rfl rfl ?_
        exact hret e_X11_told_149 (Nat.le_of_ble_eq_true rfl) (Nat.le_of_ble_eq_true rfl) rfl ⟨rfl, (jv_t (F 67))⟩
      · refine g_tableIn cx 184 e_X11_told_22 (by rw [zw4e]; decide) (by rw [zw4e]; decide) (by rw [zw4e]; rfl) (by decide) ?_
        have p29 : jv 9 9 y2 := by rw [← ezy3]; exact jv_k 9 (by rw [zw4e]; rfl)
        refine g_aload_n cx 0 rfl e_X11_told_184 ?_
        refine g_get cx cl_X11 fl_X11_95 0 (.ref (ad 29)) e_X11_told_185 rfl rfl ?_
        refine g_iload_n cx 1 rfl e_X11_told_188 ?_
        refine g_iald cx 29 e_X11_told_189 rfl (jv_ix 10 zx1.2 (by decide)) ?_
        refine g_topi (fun x30 ex30 => ?_)
        exact hret e_X11_told_190 (Nat.le_of_ble_eq_true rfl) (Nat.le_of_ble_eq_true rfl) rfl ⟨rfl, (jv_t x30)⟩
      · refine g_tableIn cx 184 e_X11_told_22 (by rw [zw4e]; decide) (by rw [zw4e]; decide) (by rw [zw4e]; rfl) (by decide) ?_
        have p31 : jv 10 10 y2 := by rw [← ezy3]; exact jv_k 10 (by rw [zw4e]; rfl)
        refine g_aload_n cx 0 rfl e_X11_told_184 ?_
        refine g_get cx cl_X11 fl_X11_95 0 (.ref (ad 29)) e_X11_told_185 rfl rfl ?_
        refine g_iload_n cx 1 rfl e_X11_told_188 ?_
        refine g_iald cx 29 e_X11_told_189 rfl (jv_ix 10 zx1.2 (by decide)) ?_
        refine g_topi (fun x32 ex32 => ?_)
        exact hret e_X11_told_190 (Nat.le_of_ble_eq_true rfl) (Nat.le_of_ble_eq_true rfl) rfl ⟨rfl, (jv_t x32)⟩
      · refine g_tableIn cx 150 e_X11_told_22 (by rw [zw4e]; decide) (by rw [zw4e]; decide) (by rw [zw4e]; rfl) (by decide) ?_
        have p33 : jv 11 11 y2 := by rw [← ezy3]; exact jv_k 11 (by rw [zw4e]; rfl)
        refine g_aload_n cx 0 rfl e_X11_told_150 ?_
        refine g_iload_n cx 1 rfl e_X11_told_151 ?_
        refine g_cViW cx [.int x1] [] (w_X11_endsAt l X ad F R hI hA hWT hWC x1 zx1.2) ml_X11_419 yV_X11_endsAt e_X11_told_152 (by unfold g_rr; decide) (by decide) 0 rfl rfl rfl (Nat.le_of_ble_eq_true rfl) (fun r34 w35 h36 => ?_)
        obtain ⟨rfl, pr34⟩ := h36
        exact hret e_X11_told_155 (Nat.le_of_ble_eq_true rfl) (Nat.le_of_ble_eq_true rfl) rfl ⟨rfl, pr34⟩
      · refine g_tableIn cx 156 e_X11_told_22 (by rw [zw4e]; decide) (by rw [zw4e]; decide) (by rw [zw4e]; rfl) (by decide) ?_
        have p37 : jv 12 12 y2 := by rw [← ezy3]; exact jv_k 12 (by rw [zw4e]; rfl)
        refine g_aload_n cx 0 rfl e_X11_told_156 ?_
        refine g_get cx cl_X11 fl_X11_104 0 (.ref (ad 32)) e_X11_told_157 rfl rfl ?_
        refine g_iload_n cx 1 rfl e_X11_told_160 ?_
        refine g_iald cx 32 e_X11_told_161 rfl (jv_ix 10 zx1.2 (by decide)) ?_
        refine g_topi (fun x38 ex38 => ?_)
        exact hret e_X11_told_162 (Nat.le_of_ble_eq_true rfl) (Nat.le_of_ble_eq_true rfl) rfl ⟨rfl, (jv_t x38)⟩
      · refine g_tableIn cx 163 e_X11_told_22 (by rw [zw4e]; decide) (by rw [zw4e]; decide) (by rw [zw4e]; rfl) (by decide) ?_
        have p39 : jv 13 13 y2 := by rw [← ezy3]; exact jv_k 13 (by rw [zw4e]; rfl)
        refine g_aload_n cx 0 rfl e_X11_told_163 ?_
        refine g_get cx cl_X11 fl_X11_107 0 (.ref (ad 33)) e_X11_told_164 rfl rfl ?_
        refine g_iload_n cx 1 rfl e_X11_told_167 ?_
        refine g_iald cx 33 e_X11_told_168 rfl (jv_ix 10 zx1.2 (by decide)) ?_
        refine g_topi (fun x40 ex40 => ?_)
        exact hret e_X11_told_169 (Nat.le_of_ble_eq_true rfl) (Nat.le_of_ble_eq_true rfl) rfl ⟨rfl, (jv_t x40)⟩
      · refine g_tableIn cx 170 e_X11_told_22 (by rw [zw4e]; decide) (by rw [zw4e]; decide) (by rw [zw4e]; rfl) (by decide) ?_
        have p41 : jv 14 14 y2 := by rw [← ezy3]; exact jv_k 14 (by rw [zw4e]; rfl)
        refine g_aload_n cx 0 rfl e_X11_told_170 ?_
        refine g_get cx cl_X11 fl_X11_110 0 (.ref (ad 34)) e_X11_told_171 rfl rfl ?_
        refine g_iload_n cx 1 rfl e_X11_told_174 ?_
        refine g_iald cx 34 e_X11_told_175 rfl (jv_ix 10 zx1.2 (by decide)) ?_
        refine g_topi (fun x42 ex42 => ?_)
        exact hret e_X11_told_176 (Nat.le_of_ble_eq_true rfl) (Nat.le_of_ble_eq_true rfl) rfl ⟨rfl, (jv_t x42)⟩
      · refine g_tableIn cx 177 e_X11_told_22 (by rw [zw4e]; decide) (by rw [zw4e]; decide) (by rw [zw4e]; rfl) (by decide) ?_
        have p43 : jv 15 15 y2 := by rw [← ezy3]; exact jv_k 15 (by rw [zw4e]; rfl)
        refine g_aload_n cx 0 rfl e_X11_told_177 ?_
        refine g_get cx cl_X11 fl_X11_113 0 (.ref (ad 35)) e_X11_told_178 rfl rfl ?_
        refine g_iload_n cx 1 rfl e_X11_told_181 ?_
        refine g_iald cx 35 e_X11_told_182 rfl (jv_ix 10 zx1.2 (by decide)) ?_
        refine g_topi (fun x44 ex44 => ?_)
        exact hret e_X11_told_183 (Nat.le_of_ble_eq_true rfl) (Nat.le_of_ble_eq_true rfl) rfl ⟨rfl, (jv_t x44)⟩
    · refine g_tableOut cx 184 e_X11_told_22 zw4 (by decide) ?_
      have p45 := jv_so 16 20 zw4 py2 ezy3 (by decide)
      refine g_aload_n cx 0 rfl e_X11_told_184 ?_
      refine g_get cx cl_X11 fl_X11_95 0 (.ref (ad 29)) e_X11_told_185 rfl rfl ?_
      refine g_iload_n cx 1 rfl e_X11_told_188 ?_
      refine g_iald cx 29 e_X11_told_189 rfl (jv_ix 10 zx1.2 (by decide)) ?_
      refine g_topi (fun x46 ex46 => ?_)
      exact hret e_X11_told_190 (Nat.le_of_ble_eq_true rfl) (Nat.le_of_ble_eq_true rfl) rfl ⟨rfl, (jv_t x46)⟩
  refine g_icmp_ge cx 15 e_X11_told_8 (by decide) (fun zc47 => ?_) (fun zc47 => ?_)
  · have p48 := gn_ge 10 69 (gc_le zc47) pa0 (jv_k (x := 10) 10 (by decide)) (by decide)
    refine g_bipush cx 10 (by decide) e_X11_told_15 ?_
    refine g_iload_n cx 2 rfl e_X11_told_17 ?_
    refine g_bipush cx 10 (by decide) e_X11_told_18 ?_
    refine g_idiv cx (by decide) e_X11_told_20 ?_
    refine g_topi (fun x49 ex49 => ?_)
    have zx49 := jv_div 0 6 ex49 p48 (jv_k (x := 10) 10 (by decide)) (by decide)
    refine g_iadd cx e_X11_told_21 ?_
    refine g_topi (fun x50 ex50 => ?_)
    have zx50 := jv_add 10 16 ex50 (jv_k (x := 10) 10 (by decide)) zx49.2 (by decide)
    refine g_lsub [1, 0] [(0, .ref (ad 0)), (2, .int x1)] rfl ?_
    exact J22 x50 (jv_w zx50.2 (by decide))
  · have p51 := gn_lt 0 9 (gc_nle zc47) pa0 (jv_k (x := 10) 10 (by decide)) (by decide)
    refine g_iload_n cx 2 rfl e_X11_told_11 ?_
    refine g_goto cx 22 e_X11_told_12 (by decide) ?_
    refine g_lsub [1, 0] [(0, .ref (ad 0)), (2, .int x1)] rfl ?_
    exact J22 a0 (jv_w p51 (by decide))
theorem e_X11_tried_0 : g_dc cX11_tried 0 (.aload_n 0) 1 1 := ⟨by decide +kernel, rfl⟩
theorem e_X11_tried_1 : g_dc cX11_tried 1 (.iload_n 1) 1 2 := ⟨by decide +kernel, rfl⟩
theorem e_X11_tried_2 : g_dc cX11_tried 2 (.invokevirtual 431) 3 5 := ⟨by decide +kernel, rfl⟩
theorem e_X11_tried_5 : g_dc cX11_tried 5 (.ifCond .ne 5) 3 8 := ⟨by decide +kernel, rfl⟩
theorem e_X11_tried_8 : g_dc cX11_tried 8 (.iconst (-1)) 1 9 := ⟨by decide +kernel, rfl⟩
theorem e_X11_tried_9 : g_dc cX11_tried 9 (.ireturn) 1 10 := ⟨by decide +kernel, rfl⟩
theorem e_X11_tried_10 : g_dc cX11_tried 10 (.aload_n 0) 1 11 := ⟨by decide +kernel, rfl⟩
theorem e_X11_tried_11 : g_dc cX11_tried 11 (.getfield 162) 3 14 := ⟨by decide +kernel, rfl⟩
theorem e_X11_tried_14 : g_dc cX11_tried 14 (.istore_n 2) 1 15 := ⟨by decide +kernel, rfl⟩
theorem e_X11_tried_15 : g_dc cX11_tried 15 (.aload_n 0) 1 16 := ⟨by decide +kernel, rfl⟩
theorem e_X11_tried_16 : g_dc cX11_tried 16 (.invokevirtual 434) 3 19 := ⟨by decide +kernel, rfl⟩
theorem e_X11_tried_19 : g_dc cX11_tried 19 (.aload_n 0) 1 20 := ⟨by decide +kernel, rfl⟩
theorem e_X11_tried_20 : g_dc cX11_tried 20 (.iload_n 2) 1 21 := ⟨by decide +kernel, rfl⟩
theorem e_X11_tried_21 : g_dc cX11_tried 21 (.putfield 162) 3 24 := ⟨by decide +kernel, rfl⟩
theorem e_X11_tried_24 : g_dc cX11_tried 24 (.aload_n 0) 1 25 := ⟨by decide +kernel, rfl⟩
theorem e_X11_tried_25 : g_dc cX11_tried 25 (.iload_n 1) 1 26 := ⟨by decide +kernel, rfl⟩
theorem e_X11_tried_26 : g_dc cX11_tried 26 (.invokevirtual 437) 3 29 := ⟨by decide +kernel, rfl⟩
theorem e_X11_tried_29 : g_dc cX11_tried 29 (.ireturn) 1 30 := ⟨by decide +kernel, rfl⟩
def md_X11_tried : List Nat := [3, 42, 43, 44, 45, 46, 47, 48, 49, 50, 51, 65, 66, 67, 68, 69]
def mr_X11_tried : List Nat := [23, 24, 25, 26, 27, 28, 29, 30, 31, 32, 33, 34, 35, 36, 37]
set_option maxHeartbeats 4000000 in
set_option maxRecDepth 100000 in
theorem w_X11_tried (l : Launch) (X : gX) (ad : Nat → Nat) (F : Nat → Int32) (R : Nat → Nat → Int32) (hI : g_ok LK_wM F) (hA : g_okR LA_wM R) (hWT : WT F R) (hWC : WC F R) (a0 : Int32) : g_Ci l X yX11_tried cX11_tried 3 (some .int) 8 0 0 [.ref (ad 0), .int a0] (wM X ad F R) (fun r w => ∃ (F' : Nat → Int32) (R' : Nat → Nat → Int32), w = wM X ad F' R' ∧ g_ok LK_wM F' ∧ g_okR LA_wM R' ∧ WT F' R' ∧ WC F' R' ∧ g_fr md_X11_tried F F' ∧ g_fr mr_X11_tried R R' ∧ jv (-2147483648) 2147483647 r) := by
  refine g_mi (by decide +kernel) (Nat.le_of_ble_eq_true rfl) (fun E cx hret => ?_)
  refine g_aload_n cx 0 rfl e_X11_tried_0 ?_
  refine g_iload_n cx 1 rfl e_X11_tried_1 ?_
  refine g_cViW cx [.int a0] [] (w_X11_isAsked l X ad F R hI hA hWT hWC a0) ml_X11_431 yV_X11_isAsked e_X11_tried_2 (by unfold g_rr; decide) (by decide) 0 rfl rfl rfl (Nat.le_of_ble_eq_true rfl) (fun r1 w2 h3 => ?_)
  obtain ⟨rfl, pr1, zx4⟩ := h3
  refine g_if_ne cx 10 e_X11_tried_5 (by decide) (fun zc5 => ?_) (fun zc5 => ?_)
  · have p6 := gn_neL 1 1 (gc_ne zc5) pr1 (jv_k (x := 0) 0 (by decide)) (by decide)
    have p7 := jv_i 0 69 (jv_t a0) (zx4 zc5) (by decide)
    refine g_aload_n cx 0 rfl e_X11_tried_10 ?_
    refine g_get cx cl_X11 fl_X11_162 0 (.int (F 3)) e_X11_tried_11 rfl rfl ?_
    refine g_istore_n cx [(2, .int (F 3)), (0, .ref (ad 0)), (1, .int a0)] e_X11_tried_14 (by decide) rfl ?_
    refine g_aload_n cx 1 rfl e_X11_tried_15 ?_
    refine g_cVvW cx [] [] (w_X11_runsDrawn l X ad F R hI hA hWT hWC) ml_X11_434 yV_X11_runsDrawn e_X11_tried_16 (by unfold g_rr; decide) (by decide) 0 rfl rfl rfl (Nat.le_of_ble_eq_true rfl) (fun w9 h10 => ?_)
    obtain ⟨F11, R12, rfl, oF11, oR12, wTF11, wCF11, cF11, cR12⟩ := h10
    have fF11 : g_fr md_X11_tried F F11 := g_fr_c (g_fr_rf F) cF11 rfl
    have fR12 : g_fr mr_X11_tried R R12 := g_fr_c (g_fr_rf R) cR12 rfl
    refine g_aload_n cx 1 rfl e_X11_tried_19 ?_
    refine g_iload_n cx 0 rfl e_X11_tried_20 ?_
    refine g_put cx cl_X11 fl_X11_162 0 (wM X ad (upd F11 3 (F 3)) R12) e_X11_tried_21 rfl rfl rfl rfl (Nat.le_of_ble_eq_true rfl) rfl ?_
    obtain ⟨F13, hF13⟩ : ∃ z, z = upd F11 3 (F 3) := ⟨_, rfl⟩
    rw [← hF13]
    have oF13 : g_ok LK_wM F13 := by rw [hF13]; exact g_ok_u oF11 rfl
    have fF13 : g_fr md_X11_tried F F13 := by rw [hF13]; exact g_fr_u fF11 rfl
    have wTF13 : WT F13 R12 := by rw [hF13]; exact WT_u wTF11 rfl
    have wCF13 : WC F13 R12 := by rw [hF13]; exact WC_u wCF11 rfl
    refine g_aload_n cx 1 rfl e_X11_tried_24 ?_
    refine g_iload_n cx 2 rfl e_X11_tried_25 ?_
    refine g_cViW cx [.int a0] [] (w_X11_told l X ad F13 R12 oF13 oR12 wTF13 wCF13 a0 p7) ml_X11_437 yV_X11_told e_X11_tried_26 (by unfold g_rr; decide) (by decide) 0 rfl rfl rfl (Nat.le_of_ble_eq_true rfl) (fun r14 w15 h16 => ?_)
    obtain ⟨rfl, pr14⟩ := h16
    exact hret e_X11_tried_29 (Nat.le_of_ble_eq_true rfl) (Nat.le_of_ble_eq_true rfl) rfl ⟨F13, R12, rfl, oF13, oR12, wTF13, wCF13, fF13, fR12, pr14⟩
  · have p17 := gn_eq 0 0 (gc_eq zc5) pr1 (jv_k (x := 0) 0 (by decide)) (by decide)
    refine g_iconst cx (-1) (by decide) e_X11_tried_8 ?_
    exact hret e_X11_tried_9 (Nat.le_of_ble_eq_true rfl) (Nat.le_of_ble_eq_true rfl) rfl ⟨F, R, rfl, hI, hA, hWT, hWC, (g_fr_rf F), (g_fr_rf R), (jv_w (jv_k (x := (-1)) (-1) (by decide)) (by decide))⟩
theorem e_X11_runsStill_0 : g_dc cX11_runsStill 0 (.aload_n 0) 1 1 := ⟨by decide +kernel, rfl⟩
theorem e_X11_runsStill_1 : g_dc cX11_runsStill 1 (.invokevirtual 422) 3 4 := ⟨by decide +kernel, rfl⟩
theorem e_X11_runsStill_4 : g_dc cX11_runsStill 4 (.aload_n 0) 1 5 := ⟨by decide +kernel, rfl⟩
theorem e_X11_runsStill_5 : g_dc cX11_runsStill 5 (.invokevirtual 425) 3 8 := ⟨by decide +kernel, rfl⟩
theorem e_X11_runsStill_8 : g_dc cX11_runsStill 8 (.aload_n 0) 1 9 := ⟨by decide +kernel, rfl⟩
theorem e_X11_runsStill_9 : g_dc cX11_runsStill 9 (.invokevirtual 428) 3 12 := ⟨by decide +kernel, rfl⟩
theorem e_X11_runsStill_12 : g_dc cX11_runsStill 12 (.return_) 1 13 := ⟨by decide +kernel, rfl⟩
def md_X11_runsStill : List Nat := [3, 42, 43, 44, 45, 46, 47, 48, 49, 50, 51, 65, 66, 67, 68, 69]
def mr_X11_runsStill : List Nat := [23, 24, 25, 26, 27, 28, 29, 30, 31, 32, 33, 34, 35, 36, 37]
set_option maxHeartbeats 4000000 in
set_option maxRecDepth 100000 in
theorem w_X11_runsStill (l : Launch) (X : gX) (ad : Nat → Nat) (F : Nat → Int32) (R : Nat → Nat → Int32) (hI : g_ok LK_wM F) (hA : g_okR LA_wM R) (hWT : WT F R) (hWC : WC F R) : g_Cv l X yX11_runsStill cX11_runsStill 1 7 0 0 [.ref (ad 0)] (wM X ad F R) (fun w => ∃ (F' : Nat → Int32) (R' : Nat → Nat → Int32), w = wM X ad F' R' ∧ g_ok LK_wM F' ∧ g_okR LA_wM R' ∧ WT F' R' ∧ WC F' R' ∧ g_fr md_X11_runsStill F F' ∧ g_fr mr_X11_runsStill R R') := by
  refine g_mv (by decide +kernel) (Nat.le_of_ble_eq_true rfl) (fun E cx hret => ?_)
  refine g_aload_n cx 0 rfl e_X11_runsStill_0 ?_
  refine g_cVvW cx [] [] (w_X11_laysPull l X ad F R hI hA hWT hWC) ml_X11_422 yV_X11_laysPull e_X11_runsStill_1 (by unfold g_rr; decide) (by decide) 0 rfl rfl rfl (Nat.le_of_ble_eq_true rfl) (fun w2 h3 => ?_)
  obtain ⟨F4, R5, rfl, oF4, oR5, wTF4, wCF4, cF4, cR5⟩ := h3
  have fF4 : g_fr md_X11_runsStill F F4 := g_fr_c (g_fr_rf F) cF4 rfl
  have fR5 : g_fr mr_X11_runsStill R R5 := g_fr_c (g_fr_rf R) cR5 rfl
  refine g_aload_n cx 0 rfl e_X11_runsStill_4 ?_
  refine g_cVvW cx [] [] (w_X11_laysThings l X ad F4 R5 oF4 oR5 wTF4 wCF4) ml_X11_425 yV_X11_laysThings e_X11_runsStill_5 (by unfold g_rr; decide) (by decide) 0 rfl rfl rfl (Nat.le_of_ble_eq_true rfl) (fun w7 h8 => ?_)
  obtain ⟨F10, R11, rfl, oF10, oR11, wTF10, wCF10, cF10, cR11, zx9⟩ := h8
  have fF10 : g_fr md_X11_runsStill F F10 := g_fr_c fF4 cF10 rfl
  have fR11 : g_fr mr_X11_runsStill R R11 := g_fr_c fR5 cR11 rfl
  refine g_aload_n cx 0 rfl e_X11_runsStill_8 ?_
  refine g_cVvW cx [] [] (w_X11_runs l X ad F10 R11 oF10 oR11 wTF10 wCF10 (WN_of wTF10 ((zx9.trans ((cF10 4 rfl).trans (cF4 4 rfl))).trans ((cF10 4 rfl).trans (cF4 4 rfl)).symm))) ml_X11_428 yV_X11_runs e_X11_runsStill_9 (by unfold g_rr; decide) (by decide) 0 rfl rfl rfl (Nat.le_of_ble_eq_true rfl) (fun w13 h14 => ?_)
  obtain ⟨F15, R16, rfl, oF15, oR16, wTF15, wCF15, cF15, cR16⟩ := h14
  have fF15 : g_fr md_X11_runsStill F F15 := g_fr_c fF10 cF15 rfl
  have fR16 : g_fr mr_X11_runsStill R R16 := g_fr_c fR11 cR16 rfl
  exact hret e_X11_runsStill_12 (Nat.le_of_ble_eq_true rfl) (Nat.le_of_ble_eq_true rfl) ⟨F15, R16, rfl, oF15, oR16, wTF15, wCF15, fF15, fR16⟩
theorem e_X11_still_0 : g_dc cX11_still 0 (.aload_n 0) 1 1 := ⟨by decide +kernel, rfl⟩
theorem e_X11_still_1 : g_dc cX11_still 1 (.iload_n 1) 1 2 := ⟨by decide +kernel, rfl⟩
theorem e_X11_still_2 : g_dc cX11_still 2 (.invokevirtual 431) 3 5 := ⟨by decide +kernel, rfl⟩
theorem e_X11_still_5 : g_dc cX11_still 5 (.ifCond .ne 5) 3 8 := ⟨by decide +kernel, rfl⟩
theorem e_X11_still_8 : g_dc cX11_still 8 (.iconst (-1)) 1 9 := ⟨by decide +kernel, rfl⟩
theorem e_X11_still_9 : g_dc cX11_still 9 (.ireturn) 1 10 := ⟨by decide +kernel, rfl⟩
theorem e_X11_still_10 : g_dc cX11_still 10 (.aload_n 0) 1 11 := ⟨by decide +kernel, rfl⟩
theorem e_X11_still_11 : g_dc cX11_still 11 (.invokevirtual 440) 3 14 := ⟨by decide +kernel, rfl⟩
theorem e_X11_still_14 : g_dc cX11_still 14 (.aload_n 0) 1 15 := ⟨by decide +kernel, rfl⟩
theorem e_X11_still_15 : g_dc cX11_still 15 (.iload_n 1) 1 16 := ⟨by decide +kernel, rfl⟩
theorem e_X11_still_16 : g_dc cX11_still 16 (.invokevirtual 437) 3 19 := ⟨by decide +kernel, rfl⟩
theorem e_X11_still_19 : g_dc cX11_still 19 (.ireturn) 1 20 := ⟨by decide +kernel, rfl⟩
def md_X11_still : List Nat := [3, 42, 43, 44, 45, 46, 47, 48, 49, 50, 51, 65, 66, 67, 68, 69]
def mr_X11_still : List Nat := [23, 24, 25, 26, 27, 28, 29, 30, 31, 32, 33, 34, 35, 36, 37]
set_option maxHeartbeats 4000000 in
set_option maxRecDepth 100000 in
theorem w_X11_still (l : Launch) (X : gX) (ad : Nat → Nat) (F : Nat → Int32) (R : Nat → Nat → Int32) (hI : g_ok LK_wM F) (hA : g_okR LA_wM R) (hWT : WT F R) (hWC : WC F R) (a0 : Int32) : g_Ci l X yX11_still cX11_still 2 (some .int) 8 0 0 [.ref (ad 0), .int a0] (wM X ad F R) (fun r w => ∃ (F' : Nat → Int32) (R' : Nat → Nat → Int32), w = wM X ad F' R' ∧ g_ok LK_wM F' ∧ g_okR LA_wM R' ∧ WT F' R' ∧ WC F' R' ∧ g_fr md_X11_still F F' ∧ g_fr mr_X11_still R R' ∧ jv (-2147483648) 2147483647 r) := by
  refine g_mi (by decide +kernel) (Nat.le_of_ble_eq_true rfl) (fun E cx hret => ?_)
  refine g_aload_n cx 0 rfl e_X11_still_0 ?_
  refine g_iload_n cx 1 rfl e_X11_still_1 ?_
  refine g_cViW cx [.int a0] [] (w_X11_isAsked l X ad F R hI hA hWT hWC a0) ml_X11_431 yV_X11_isAsked e_X11_still_2 (by unfold g_rr; decide) (by decide) 0 rfl rfl rfl (Nat.le_of_ble_eq_true rfl) (fun r1 w2 h3 => ?_)
  obtain ⟨rfl, pr1, zx4⟩ := h3
  refine g_if_ne cx 10 e_X11_still_5 (by decide) (fun zc5 => ?_) (fun zc5 => ?_)
  · have p6 := gn_neL 1 1 (gc_ne zc5) pr1 (jv_k (x := 0) 0 (by decide)) (by decide)
    have p7 := jv_i 0 69 (jv_t a0) (zx4 zc5) (by decide)
    refine g_aload_n cx 0 rfl e_X11_still_10 ?_
    refine g_cVvW cx [] [] (w_X11_runsStill l X ad F R hI hA hWT hWC) ml_X11_440 yV_X11_runsStill e_X11_still_11 (by unfold g_rr; decide) (by decide) 0 rfl rfl rfl (Nat.le_of_ble_eq_true rfl) (fun w9 h10 => ?_)
    obtain ⟨F11, R12, rfl, oF11, oR12, wTF11, wCF11, cF11, cR12⟩ := h10
    have fF11 : g_fr md_X11_still F F11 := g_fr_c (g_fr_rf F) cF11 rfl
    have fR12 : g_fr mr_X11_still R R12 := g_fr_c (g_fr_rf R) cR12 rfl
    refine g_aload_n cx 0 rfl e_X11_still_14 ?_
    refine g_iload_n cx 1 rfl e_X11_still_15 ?_
    refine g_cViW cx [.int a0] [] (w_X11_told l X ad F11 R12 oF11 oR12 wTF11 wCF11 a0 p7) ml_X11_437 yV_X11_told e_X11_still_16 (by unfold g_rr; decide) (by decide) 0 rfl rfl rfl (Nat.le_of_ble_eq_true rfl) (fun r13 w14 h15 => ?_)
    obtain ⟨rfl, pr13⟩ := h15
    exact hret e_X11_still_19 (Nat.le_of_ble_eq_true rfl) (Nat.le_of_ble_eq_true rfl) rfl ⟨F11, R12, rfl, oF11, oR12, wTF11, wCF11, fF11, fR12, pr13⟩
  · have p16 := gn_eq 0 0 (gc_eq zc5) pr1 (jv_k (x := 0) 0 (by decide)) (by decide)
    refine g_iconst cx (-1) (by decide) e_X11_still_8 ?_
    exact hret e_X11_still_9 (Nat.le_of_ble_eq_true rfl) (Nat.le_of_ble_eq_true rfl) rfl ⟨F, R, rfl, hI, hA, hWT, hWC, (g_fr_rf F), (g_fr_rf R), (jv_w (jv_k (x := (-1)) (-1) (by decide)) (by decide))⟩
theorem e_X11_done_0 : g_dc cX11_done 0 (.aload_n 0) 1 1 := ⟨by decide +kernel, rfl⟩
theorem e_X11_done_1 : g_dc cX11_done 1 (.getfield 228) 3 4 := ⟨by decide +kernel, rfl⟩
theorem e_X11_done_4 : g_dc cX11_done 4 (.ifCond .ne 5) 3 7 := ⟨by decide +kernel, rfl⟩
theorem e_X11_done_7 : g_dc cX11_done 7 (.iconst (-1)) 1 8 := ⟨by decide +kernel, rfl⟩
theorem e_X11_done_8 : g_dc cX11_done 8 (.ireturn) 1 9 := ⟨by decide +kernel, rfl⟩
theorem e_X11_done_9 : g_dc cX11_done 9 (.aload_n 0) 1 10 := ⟨by decide +kernel, rfl⟩
theorem e_X11_done_10 : g_dc cX11_done 10 (.invokevirtual 434) 3 13 := ⟨by decide +kernel, rfl⟩
theorem e_X11_done_13 : g_dc cX11_done 13 (.aload_n 0) 1 14 := ⟨by decide +kernel, rfl⟩
theorem e_X11_done_14 : g_dc cX11_done 14 (.invokevirtual 407) 3 17 := ⟨by decide +kernel, rfl⟩
theorem e_X11_done_17 : g_dc cX11_done 17 (.invokestatic 410) 3 20 := ⟨by decide +kernel, rfl⟩
theorem e_X11_done_20 : g_dc cX11_done 20 (.istore_n 1) 1 21 := ⟨by decide +kernel, rfl⟩
theorem e_X11_done_21 : g_dc cX11_done 21 (.iconst 0) 1 22 := ⟨by decide +kernel, rfl⟩
theorem e_X11_done_22 : g_dc cX11_done 22 (.istore_n 2) 1 23 := ⟨by decide +kernel, rfl⟩
theorem e_X11_done_23 : g_dc cX11_done 23 (.iload_n 2) 1 24 := ⟨by decide +kernel, rfl⟩
theorem e_X11_done_24 : g_dc cX11_done 24 (.bipush 10) 2 26 := ⟨by decide +kernel, rfl⟩
theorem e_X11_done_26 : g_dc cX11_done 26 (.if_icmp .ge 73) 3 29 := ⟨by decide +kernel, rfl⟩
theorem e_X11_done_29 : g_dc cX11_done 29 (.aload_n 0) 1 30 := ⟨by decide +kernel, rfl⟩
theorem e_X11_done_30 : g_dc cX11_done 30 (.getfield 172) 3 33 := ⟨by decide +kernel, rfl⟩
theorem e_X11_done_33 : g_dc cX11_done 33 (.iload_n 2) 1 34 := ⟨by decide +kernel, rfl⟩
theorem e_X11_done_34 : g_dc cX11_done 34 (.invokestatic 175) 3 37 := ⟨by decide +kernel, rfl⟩
theorem e_X11_done_37 : g_dc cX11_done 37 (.ifCond .ne 6) 3 40 := ⟨by decide +kernel, rfl⟩
theorem e_X11_done_40 : g_dc cX11_done 40 (.goto 53) 3 43 := ⟨by decide +kernel, rfl⟩
theorem e_X11_done_43 : g_dc cX11_done 43 (.aload_n 0) 1 44 := ⟨by decide +kernel, rfl⟩
theorem e_X11_done_44 : g_dc cX11_done 44 (.getfield 13) 3 47 := ⟨by decide +kernel, rfl⟩
theorem e_X11_done_47 : g_dc cX11_done 47 (.iload_n 2) 1 48 := ⟨by decide +kernel, rfl⟩
theorem e_X11_done_48 : g_dc cX11_done 48 (.aload_n 0) 1 49 := ⟨by decide +kernel, rfl⟩
theorem e_X11_done_49 : g_dc cX11_done 49 (.getfield 86) 3 52 := ⟨by decide +kernel, rfl⟩
theorem e_X11_done_52 : g_dc cX11_done 52 (.iload_n 2) 1 53 := ⟨by decide +kernel, rfl⟩
theorem e_X11_done_53 : g_dc cX11_done 53 (.iaload) 1 54 := ⟨by decide +kernel, rfl⟩
theorem e_X11_done_54 : g_dc cX11_done 54 (.iastore) 1 55 := ⟨by decide +kernel, rfl⟩
theorem e_X11_done_55 : g_dc cX11_done 55 (.aload_n 0) 1 56 := ⟨by decide +kernel, rfl⟩
theorem e_X11_done_56 : g_dc cX11_done 56 (.getfield 28) 3 59 := ⟨by decide +kernel, rfl⟩
theorem e_X11_done_59 : g_dc cX11_done 59 (.iload_n 2) 1 60 := ⟨by decide +kernel, rfl⟩
theorem e_X11_done_60 : g_dc cX11_done 60 (.aload_n 0) 1 61 := ⟨by decide +kernel, rfl⟩
theorem e_X11_done_61 : g_dc cX11_done 61 (.getfield 95) 3 64 := ⟨by decide +kernel, rfl⟩
theorem e_X11_done_64 : g_dc cX11_done 64 (.iload_n 2) 1 65 := ⟨by decide +kernel, rfl⟩
theorem e_X11_done_65 : g_dc cX11_done 65 (.iaload) 1 66 := ⟨by decide +kernel, rfl⟩
theorem e_X11_done_66 : g_dc cX11_done 66 (.iastore) 1 67 := ⟨by decide +kernel, rfl⟩
theorem e_X11_done_67 : g_dc cX11_done 67 (.aload_n 0) 1 68 := ⟨by decide +kernel, rfl⟩
theorem e_X11_done_68 : g_dc cX11_done 68 (.getfield 19) 3 71 := ⟨by decide +kernel, rfl⟩
theorem e_X11_done_71 : g_dc cX11_done 71 (.iload_n 2) 1 72 := ⟨by decide +kernel, rfl⟩
theorem e_X11_done_72 : g_dc cX11_done 72 (.aload_n 0) 1 73 := ⟨by decide +kernel, rfl⟩
theorem e_X11_done_73 : g_dc cX11_done 73 (.getfield 92) 3 76 := ⟨by decide +kernel, rfl⟩
theorem e_X11_done_76 : g_dc cX11_done 76 (.iload_n 2) 1 77 := ⟨by decide +kernel, rfl⟩
theorem e_X11_done_77 : g_dc cX11_done 77 (.iaload) 1 78 := ⟨by decide +kernel, rfl⟩
theorem e_X11_done_78 : g_dc cX11_done 78 (.iconst 1) 1 79 := ⟨by decide +kernel, rfl⟩
theorem e_X11_done_79 : g_dc cX11_done 79 (.if_icmp .ne 7) 3 82 := ⟨by decide +kernel, rfl⟩
theorem e_X11_done_82 : g_dc cX11_done 82 (.iconst 1) 1 83 := ⟨by decide +kernel, rfl⟩
theorem e_X11_done_83 : g_dc cX11_done 83 (.goto 9) 3 86 := ⟨by decide +kernel, rfl⟩
theorem e_X11_done_86 : g_dc cX11_done 86 (.aload_n 0) 1 87 := ⟨by decide +kernel, rfl⟩
theorem e_X11_done_87 : g_dc cX11_done 87 (.getfield 19) 3 90 := ⟨by decide +kernel, rfl⟩
theorem e_X11_done_90 : g_dc cX11_done 90 (.iload_n 2) 1 91 := ⟨by decide +kernel, rfl⟩
theorem e_X11_done_91 : g_dc cX11_done 91 (.iaload) 1 92 := ⟨by decide +kernel, rfl⟩
theorem e_X11_done_92 : g_dc cX11_done 92 (.iastore) 1 93 := ⟨by decide +kernel, rfl⟩
theorem e_X11_done_93 : g_dc cX11_done 93 (.iinc 2 1) 3 96 := ⟨by decide +kernel, rfl⟩
theorem e_X11_done_96 : g_dc cX11_done 96 (.goto (-73)) 3 99 := ⟨by decide +kernel, rfl⟩
theorem e_X11_done_99 : g_dc cX11_done 99 (.aload_n 0) 1 100 := ⟨by decide +kernel, rfl⟩
theorem e_X11_done_100 : g_dc cX11_done 100 (.aload_n 0) 1 101 := ⟨by decide +kernel, rfl⟩
theorem e_X11_done_101 : g_dc cX11_done 101 (.getfield 172) 3 104 := ⟨by decide +kernel, rfl⟩
theorem e_X11_done_104 : g_dc cX11_done 104 (.aload_n 0) 1 105 := ⟨by decide +kernel, rfl⟩
theorem e_X11_done_105 : g_dc cX11_done 105 (.iconst 2) 1 106 := ⟨by decide +kernel, rfl⟩
theorem e_X11_done_106 : g_dc cX11_done 106 (.invokevirtual 416) 3 109 := ⟨by decide +kernel, rfl⟩
theorem e_X11_done_109 : g_dc cX11_done 109 (.iconst (-1)) 1 110 := ⟨by decide +kernel, rfl⟩
theorem e_X11_done_110 : g_dc cX11_done 110 (.ixor) 1 111 := ⟨by decide +kernel, rfl⟩
theorem e_X11_done_111 : g_dc cX11_done 111 (.iand) 1 112 := ⟨by decide +kernel, rfl⟩
theorem e_X11_done_112 : g_dc cX11_done 112 (.putfield 172) 3 115 := ⟨by decide +kernel, rfl⟩
theorem e_X11_done_115 : g_dc cX11_done 115 (.aload_n 0) 1 116 := ⟨by decide +kernel, rfl⟩
theorem e_X11_done_116 : g_dc cX11_done 116 (.aload_n 0) 1 117 := ⟨by decide +kernel, rfl⟩
theorem e_X11_done_117 : g_dc cX11_done 117 (.getfield 331) 3 120 := ⟨by decide +kernel, rfl⟩
theorem e_X11_done_120 : g_dc cX11_done 120 (.putfield 159) 3 123 := ⟨by decide +kernel, rfl⟩
theorem e_X11_done_123 : g_dc cX11_done 123 (.iload_n 1) 1 124 := ⟨by decide +kernel, rfl⟩
theorem e_X11_done_124 : g_dc cX11_done 124 (.ireturn) 1 125 := ⟨by decide +kernel, rfl⟩
def md_X11_done : List Nat := [1, 3, 4, 42, 43, 44, 45, 46, 47, 48, 49, 50, 51, 65, 66, 67, 68, 69]
def mr_X11_done : List Nat := [2, 4, 7, 23, 24, 25, 26, 27, 28, 29, 30, 31, 32, 33, 34, 35, 36, 37]
set_option maxHeartbeats 4000000 in
set_option maxRecDepth 100000 in
theorem w_X11_done (l : Launch) (X : gX) (ad : Nat → Nat) (F : Nat → Int32) (R : Nat → Nat → Int32) (hI : g_ok LK_wM F) (hA : g_okR LA_wM R) (hWT : WT F R) (hWC : WC F R) : g_Ci l X yX11_done cX11_done 3 (some .int) 8 0 0 [.ref (ad 0)] (wM X ad F R) (fun r w => ∃ (F' : Nat → Int32) (R' : Nat → Nat → Int32), w = wM X ad F' R' ∧ g_ok LK_wM F' ∧ g_okR LA_wM R' ∧ WT F' R' ∧ WC F' R' ∧ g_fr md_X11_done F F' ∧ g_fr mr_X11_done R R' ∧ jv (-1) 10 r) := by
  refine g_mi (by decide +kernel) (Nat.le_of_ble_eq_true rfl) (fun E cx hret => ?_)
  refine g_aload_n cx 0 rfl e_X11_done_0 ?_
  refine g_get cx cl_X11 fl_X11_228 0 (.int (F 19)) e_X11_done_1 rfl rfl ?_
  refine g_if_ne cx 9 e_X11_done_4 (by decide) (fun zc1 => ?_) (fun zc1 => ?_)
  · have p2 := gn_neL 1 60 (gc_ne zc1) (g_ok_g hI 3 rfl) (jv_k (x := 0) 0 (by decide)) (by decide)
    refine g_aload_n cx 0 rfl e_X11_done_9 ?_
    refine g_cVvW cx [] [] (w_X11_runsDrawn l X ad F R hI hA hWT hWC) ml_X11_434 yV_X11_runsDrawn e_X11_done_10 (by unfold g_rr; decide) (by decide) 0 rfl rfl rfl (Nat.le_of_ble_eq_true rfl) (fun w4 h5 => ?_)
    obtain ⟨F6, R7, rfl, oF6, oR7, wTF6, wCF6, cF6, cR7⟩ := h5
    have fF6 : g_fr md_X11_done F F6 := g_fr_c (g_fr_rf F) cF6 rfl
    have fR7 : g_fr mr_X11_done R R7 := g_fr_c (g_fr_rf R) cR7 rfl
    refine g_aload_n cx 0 rfl e_X11_done_13 ?_
    refine g_cViW cx [] [] (w_X11_standing l X ad F6 R7 oF6 oR7 wTF6 wCF6) ml_X11_407 yV_X11_standing e_X11_done_14 (by unfold g_rr; decide) (by decide) 0 rfl rfl rfl (Nat.le_of_ble_eq_true rfl) (fun r8 w9 h10 => ?_)
    obtain ⟨rfl, pr8⟩ := h10
    refine g_cSiW cx [.int r8] [] (w_X11_bits l X ad F6 R7 oF6 oR7 r8) ml_X11_410 yS_X11_bits rfl e_X11_done_17 (by unfold g_rr; decide) (by decide) rfl (Nat.le_of_ble_eq_true rfl) (fun r11 w12 h13 => ?_)
    obtain ⟨rfl, pr11⟩ := h13
    refine g_istore_n cx [(1, .int r11), (0, .ref (ad 0))] e_X11_done_20 (by decide) rfl ?_
    refine g_iconst cx 0 (by decide) e_X11_done_21 ?_
    refine g_istore_n cx [(2, .int 0), (1, .int r11), (0, .ref (ad 0))] e_X11_done_22 (by decide) rfl ?_
    have J23 : ∀ (N : Nat) (R15 : Nat → Nat → Int32) (y14 : Int32), (g_okR LA_wM R15) → (g_fr mr_X11_done R R15) → (WT F6 R15) → (WC F6 R15) → (jv 0 10 y14) → (2147483647 - y14.toInt).toNat < N → G X E 3 0 0 (wM X ad F6 R15) [(0, .ref (ad 0)), (1, .int r11), (2, .int y14)] 23 [] := by
      intro N
      induction N with
      | zero => intro R15 y14 oR15 fR15 wTR15 wCR15 py14 hm; exact absurd hm (Nat.not_lt_zero _)
      | succ N ih23 =>
        intro R15 y14 oR15 fR15 wTR15 wCR15 py14 hm23
        refine g_iload_n cx 2 rfl e_X11_done_23 ?_
        refine g_bipush cx 10 (by decide) e_X11_done_24 ?_
        refine g_icmp_ge cx 99 e_X11_done_26 (by decide) (fun zc16 => ?_) (fun zc16 => ?_)
        · have p17 := gn_ge 10 10 (gc_le zc16) py14 (jv_k (x := 10) 10 (by decide)) (by decide)
          refine g_aload_n cx 0 rfl e_X11_done_99 ?_
          refine g_aload_n cx 0 rfl e_X11_done_100 ?_
          refine g_get cx cl_X11 fl_X11_172 0 (.int (F6 4)) e_X11_done_101 rfl rfl ?_
          refine g_toi (F 4) (cF6 4 rfl) ?_
          refine g_aload_n cx 0 rfl e_X11_done_104 ?_
          refine g_iconst cx 2 (by decide) e_X11_done_105 ?_
          refine g_cViW cx [.int 2] [.int (F 4), .ref (ad 0)] (w_X11_stateBits l X ad F6 R15 oF6 oR15 wTR15 wCR15 2) ml_X11_416 yV_X11_stateBits e_X11_done_106 (by unfold g_rr; decide) (by decide) 0 rfl rfl rfl (Nat.le_of_ble_eq_true rfl) (fun r18 w19 h20 => ?_)
          obtain ⟨rfl, pr18⟩ := h20
          refine g_iconst cx (-1) (by decide) e_X11_done_109 ?_
          refine g_ixor cx e_X11_done_110 ?_
          refine g_topi (fun x21 ex21 => ?_)
          refine g_iand cx e_X11_done_111 ?_
          refine g_topi (fun x22 ex22 => ?_)
          refine g_put cx cl_X11 fl_X11_172 0 (wM X ad (upd F6 4 x22) R15) e_X11_done_112 rfl rfl rfl rfl (Nat.le_of_ble_eq_true rfl) rfl ?_
          obtain ⟨F23, hF23⟩ : ∃ z, z = upd F6 4 x22 := ⟨_, rfl⟩
          rw [← hF23]
          have oF23 : g_ok LK_wM F23 := by rw [hF23]; exact g_ok_u oF6 rfl
          have fF23 : g_fr md_X11_done F F23 := by rw [hF23]; exact g_fr_u fF6 rfl
          have wTF23 : WT F23 R15 := by rw [hF23]; exact WT_sub wTR15 (ex22.trans (by rw [show F6 4 = F 4 from (cF6 4 rfl)]))
          have wCF23 : WC F23 R15 := by rw [hF23]; exact WC_u wCR15 rfl
          refine g_aload_n cx 0 rfl e_X11_done_115 ?_
          refine g_aload_n cx 0 rfl e_X11_done_116 ?_
          refine g_get cx cl_X11 fl_X11_331 0 (.int (F23 48)) e_X11_done_117 rfl rfl ?_
          refine g_toi (F6 48) (g_pu2 hF23 rfl) ?_
          refine g_put cx cl_X11 fl_X11_159 0 (wM X ad (upd F23 1 (F6 48)) R15) e_X11_done_120 rfl rfl rfl rfl (Nat.le_of_ble_eq_true rfl) rfl ?_
          obtain ⟨F24, hF24⟩ : ∃ z, z = upd F23 1 (F6 48) := ⟨_, rfl⟩
          rw [← hF24]
          have oF24 : g_ok LK_wM F24 := by rw [hF24]; exact g_ok_u oF23 rfl
          have fF24 : g_fr md_X11_done F F24 := by rw [hF24]; exact g_fr_u fF23 rfl
          have wTF24 : WT F24 R15 := by rw [hF24]; exact WT_u wTF23 rfl
          have wCF24 : WC F24 R15 := by rw [hF24]; exact WC_u wCF23 rfl
          refine g_iload_n cx 1 rfl e_X11_done_123 ?_
          exact hret e_X11_done_124 (Nat.le_of_ble_eq_true rfl) (Nat.le_of_ble_eq_true rfl) rfl ⟨F24, R15, rfl, oF24, oR15, wTF24, wCF24, fF24, fR15, (jv_w pr11 (by decide))⟩
        · have p25 := gn_lt 0 9 (gc_nle zc16) py14 (jv_k (x := 10) 10 (by decide)) (by decide)
          refine g_aload_n cx 0 rfl e_X11_done_29 ?_
          refine g_get cx cl_X11 fl_X11_172 0 (.int (F6 4)) e_X11_done_30 rfl rfl ?_
          refine g_toi (F 4) (cF6 4 rfl) ?_
          refine g_iload_n cx 2 rfl e_X11_done_33 ?_
          refine g_cSiW cx [.int (F 4), .int y14] [] (c_X11_has l X (wM X ad F6 R15) (F 4) y14) ml_X11_175 yS_X11_has rfl e_X11_done_34 (by unfold g_rr; decide) (by decide) rfl (Nat.le_of_ble_eq_true rfl) (fun r26 w27 h28 => ?_)
          obtain ⟨rfl, hr26⟩ := h28
          have pr26 : jv 0 1 r26 := by rcases hr26 with q | q <;> rw [q.1] <;> exact ⟨by decide, by decide⟩
          have J93 : ∀ (R29 : Nat → Nat → Int32), (g_okR LA_wM R29) → (g_fr mr_X11_done R R29) → (WT F6 R29) → (WC F6 R29) → G X E 3 0 0 (wM X ad F6 R29) [(0, .ref (ad 0)), (1, .int r11), (2, .int y14)] 93 [] := by
            intro R29 oR29 fR29 wTR29 wCR29
            obtain ⟨x30, ex30⟩ : ∃ z : Int32, z = y14 + Int32.ofInt 1 := ⟨_, rfl⟩
            refine g_iinc cx x30 [(2, .int x30), (0, .ref (ad 0)), (1, .int r11)] 2 e_X11_done_93 rfl ex30.symm (by decide) rfl ?_
            have zx30 := jv_add 1 10 (show x30 = y14 + 1 from ex30) p25 (jv_k (x := 1) 1 (by decide)) (by decide)
            refine g_goto cx 23 e_X11_done_96 (by decide) ?_
            refine g_lsub [1, 2, 0] [(0, .ref (ad 0)), (1, .int r11), (2, .int x30)] rfl ?_
            exact ih23 R29 x30 oR29 fR29 wTR29 wCR29 (jv_w zx30.2 (by decide)) (Nat.lt_of_lt_of_le (show (2147483647 - x30.toInt).toNat < (2147483647 - y14.toInt).toNat from by have q0 := (jv_k (x := 1) 1 (by decide)).1; have q1 := (jv_k (x := 1) 1 (by decide)).2; have q2 := (jv_k (x := 10) 10 (by decide)).1; have q3 := (jv_k (x := 10) 10 (by decide)).2; have q4 := zx30.2.1; have q5 := zx30.2.2; have q6 := p25.1; have q7 := p25.2; have q8 := (gc_nle zc16); have q9 := (g_eq0 zx30.1); omega) (Nat.le_of_lt_succ hm23))
          refine g_if_ne cx 43 e_X11_done_37 (by decide) (fun zc31 => ?_) (fun zc31 => ?_)
          · have p32 := gn_neL 1 1 (gc_ne zc31) pr26 (jv_k (x := 0) 0 (by decide)) (by decide)
            have zb33 : hb (F 4) y14 := g_hasy hr26 zc31
            refine g_aload_n cx 0 rfl e_X11_done_43 ?_
            refine g_get cx cl_X11 fl_X11_13 0 (.ref (ad 2)) e_X11_done_44 rfl rfl ?_
            refine g_iload_n cx 2 rfl e_X11_done_47 ?_
            refine g_aload_n cx 0 rfl e_X11_done_48 ?_
            refine g_get cx cl_X11 fl_X11_86 0 (.ref (ad 26)) e_X11_done_49 rfl rfl ?_
            refine g_iload_n cx 2 rfl e_X11_done_52 ?_
            refine g_iald cx 26 e_X11_done_53 rfl (jv_ix 10 p25 (by decide)) ?_
            refine g_topi (fun x34 ex34 => ?_)
            refine g_iast cx 2 (wM X ad F6 (g_u R15 2 (upd (R15 2) (Int32.toNatClampNeg y14) x34))) e_X11_done_54 rfl (jv_ix 10 p25 (by decide)) rfl ?_
            obtain ⟨R35, hR35⟩ : ∃ z, z = g_u R15 2 (upd (R15 2) (Int32.toNatClampNeg y14) x34) := ⟨_, rfl⟩
            rw [← hR35]
            have oR35 : g_okR LA_wM R35 := by rw [hR35]; exact g_okR_u oR15 rfl
            have fR35 : g_fr mr_X11_done R R35 := by rw [hR35]; exact g_fr_r fR15 rfl
            have wTR35 : WT F6 R35 := by rw [hR35]; exact WT_r wTR15 rfl
            have wCR35 : WC F6 R35 := by rw [hR35]; exact WC_r wCR15 rfl
            refine g_aload_n cx 0 rfl e_X11_done_55 ?_
            refine g_get cx cl_X11 fl_X11_28 0 (.ref (ad 7)) e_X11_done_56 rfl rfl ?_
            refine g_iload_n cx 2 rfl e_X11_done_59 ?_
            refine g_aload_n cx 0 rfl e_X11_done_60 ?_
            refine g_get cx cl_X11 fl_X11_95 0 (.ref (ad 29)) e_X11_done_61 rfl rfl ?_
            refine g_iload_n cx 2 rfl e_X11_done_64 ?_
            refine g_iald cx 29 e_X11_done_65 rfl (jv_ix 10 p25 (by decide)) ?_
            refine g_topi (fun x36 ex36 => ?_)
            refine g_iast cx 7 (wM X ad F6 (g_u R35 7 (upd (R35 7) (Int32.toNatClampNeg y14) x36))) e_X11_done_66 rfl (jv_ix 10 p25 (by decide)) rfl ?_
            obtain ⟨R37, hR37⟩ : ∃ z, z = g_u R35 7 (upd (R35 7) (Int32.toNatClampNeg y14) x36) := ⟨_, rfl⟩
            rw [← hR37]
            have oR37 : g_okR LA_wM R37 := by rw [hR37]; exact g_okR_u oR35 rfl
            have fR37 : g_fr mr_X11_done R R37 := by rw [hR37]; exact g_fr_r fR35 rfl
            have wTR37 : WT F6 R37 := by rw [hR37]; exact WT_r wTR35 rfl
            have wCR37 : WC F6 R37 := by rw [hR37]; exact WC_r wCR35 rfl
            refine g_aload_n cx 0 rfl e_X11_done_67 ?_
            refine g_get cx cl_X11 fl_X11_19 0 (.ref (ad 4)) e_X11_done_68 rfl rfl ?_
            refine g_iload_n cx 2 rfl e_X11_done_71 ?_
            refine g_aload_n cx 0 rfl e_X11_done_72 ?_
            refine g_get cx cl_X11 fl_X11_92 0 (.ref (ad 28)) e_X11_done_73 rfl rfl ?_
            refine g_iload_n cx 2 rfl e_X11_done_76 ?_
            refine g_iald cx 28 e_X11_done_77 rfl (jv_ix 10 p25 (by decide)) ?_
            refine g_topi (fun x38 ex38 => ?_)
            refine g_iconst cx 1 (by decide) e_X11_done_78 ?_
            have J92 : ∀ (y39 : Int32), (jv (-2147483648) 2147483647 y39) → G X E 3 0 0 (wM X ad F6 R37) [(0, .ref (ad 0)), (1, .int r11), (2, .int y14)] 92 [.int y39, .int y14, .ref (ad 4)] := by
              intro y39 py39
              refine g_iast cx 4 (wM X ad F6 (g_u R37 4 (upd (R37 4) (Int32.toNatClampNeg y14) y39))) e_X11_done_92 rfl (jv_ix 10 p25 (by decide)) rfl ?_
              obtain ⟨R40, hR40⟩ : ∃ z, z = g_u R37 4 (upd (R37 4) (Int32.toNatClampNeg y14) y39) := ⟨_, rfl⟩
              rw [← hR40]
              have oR40 : g_okR LA_wM R40 := by rw [hR40]; exact g_okR_u oR37 rfl
              have fR40 : g_fr mr_X11_done R R40 := by rw [hR40]; exact g_fr_r fR37 rfl
              have wTR40 : WT F6 R40 := by rw [hR40]; exact WT_r wTR37 rfl
              have wCR40 : WC F6 R40 := by rw [hR40]; exact WC_r wCR37 rfl
              exact J93 R40 oR40 fR40 wTR40 wCR40
            refine g_icmp_ne cx 86 e_X11_done_79 (by decide) (fun zc41 => ?_) (fun zc41 => ?_)
            · refine g_aload_n cx 0 rfl e_X11_done_86 ?_
              refine g_get cx cl_X11 fl_X11_19 0 (.ref (ad 4)) e_X11_done_87 rfl rfl ?_
              refine g_iload_n cx 2 rfl e_X11_done_90 ?_
              refine g_iald cx 4 e_X11_done_91 rfl (jv_ix 10 p25 (by decide)) ?_
              refine g_topi (fun x42 ex42 => ?_)
              exact J92 x42 (jv_t x42)
            · have p43 := gn_eq 1 1 (gc_eq zc41) (jv_t x38) (jv_k (x := 1) 1 (by decide)) (by decide)
              refine g_iconst cx 1 (by decide) e_X11_done_82 ?_
              refine g_goto cx 92 e_X11_done_83 (by decide) ?_
              exact J92 1 (jv_w (jv_k (x := 1) 1 (by decide)) (by decide))
          · have p44 := gn_eq 0 0 (gc_eq zc31) pr26 (jv_k (x := 0) 0 (by decide)) (by decide)
            refine g_goto cx 93 e_X11_done_40 (by decide) ?_
            exact J93 R15 oR15 fR15 wTR15 wCR15
    refine g_lsub [2, 1, 0] [(0, .ref (ad 0)), (1, .int r11), (2, .int 0)] rfl ?_
    exact J23 _ R7 0 oR7 fR7 wTF6 wCF6 (jv_w (jv_k (x := 0) 0 (by decide)) (by decide)) (Nat.lt_succ_self _)
  · have p45 := gn_eq 0 0 (gc_eq zc1) (g_ok_g hI 3 rfl) (jv_k (x := 0) 0 (by decide)) (by decide)
    refine g_iconst cx (-1) (by decide) e_X11_done_7 ?_
    exact hret e_X11_done_8 (Nat.le_of_ble_eq_true rfl) (Nat.le_of_ble_eq_true rfl) rfl ⟨F, R, rfl, hI, hA, hWT, hWC, (g_fr_rf F), (g_fr_rf R), (jv_w (jv_k (x := (-1)) (-1) (by decide)) (by decide))⟩
theorem e_X11_laysPaces_0 : g_dc cX11_laysPaces 0 (.iload_n 2) 1 1 := ⟨by decide +kernel, rfl⟩
theorem e_X11_laysPaces_1 : g_dc cX11_laysPaces 1 (.istore_n 3) 1 2 := ⟨by decide +kernel, rfl⟩
theorem e_X11_laysPaces_2 : g_dc cX11_laysPaces 2 (.iload_n 3) 1 3 := ⟨by decide +kernel, rfl⟩
theorem e_X11_laysPaces_3 : g_dc cX11_laysPaces 3 (.ifCond .le 39) 3 6 := ⟨by decide +kernel, rfl⟩
theorem e_X11_laysPaces_6 : g_dc cX11_laysPaces 6 (.aload_n 0) 1 7 := ⟨by decide +kernel, rfl⟩
theorem e_X11_laysPaces_7 : g_dc cX11_laysPaces 7 (.getfield 309) 3 10 := ⟨by decide +kernel, rfl⟩
theorem e_X11_laysPaces_10 : g_dc cX11_laysPaces 10 (.bipush 60) 2 12 := ⟨by decide +kernel, rfl⟩
theorem e_X11_laysPaces_12 : g_dc cX11_laysPaces 12 (.if_icmp .ge 30) 3 15 := ⟨by decide +kernel, rfl⟩
theorem e_X11_laysPaces_15 : g_dc cX11_laysPaces 15 (.aload_n 0) 1 16 := ⟨by decide +kernel, rfl⟩
theorem e_X11_laysPaces_16 : g_dc cX11_laysPaces 16 (.getfield 83) 3 19 := ⟨by decide +kernel, rfl⟩
theorem e_X11_laysPaces_19 : g_dc cX11_laysPaces 19 (.aload_n 0) 1 20 := ⟨by decide +kernel, rfl⟩
theorem e_X11_laysPaces_20 : g_dc cX11_laysPaces 20 (.getfield 309) 3 23 := ⟨by decide +kernel, rfl⟩
theorem e_X11_laysPaces_23 : g_dc cX11_laysPaces 23 (.iload_n 1) 1 24 := ⟨by decide +kernel, rfl⟩
theorem e_X11_laysPaces_24 : g_dc cX11_laysPaces 24 (.iastore) 1 25 := ⟨by decide +kernel, rfl⟩
theorem e_X11_laysPaces_25 : g_dc cX11_laysPaces 25 (.aload_n 0) 1 26 := ⟨by decide +kernel, rfl⟩
theorem e_X11_laysPaces_26 : g_dc cX11_laysPaces 26 (.aload_n 0) 1 27 := ⟨by decide +kernel, rfl⟩
theorem e_X11_laysPaces_27 : g_dc cX11_laysPaces 27 (.getfield 309) 3 30 := ⟨by decide +kernel, rfl⟩
theorem e_X11_laysPaces_30 : g_dc cX11_laysPaces 30 (.iconst 1) 1 31 := ⟨by decide +kernel, rfl⟩
theorem e_X11_laysPaces_31 : g_dc cX11_laysPaces 31 (.iadd) 1 32 := ⟨by decide +kernel, rfl⟩
theorem e_X11_laysPaces_32 : g_dc cX11_laysPaces 32 (.putfield 309) 3 35 := ⟨by decide +kernel, rfl⟩
theorem e_X11_laysPaces_35 : g_dc cX11_laysPaces 35 (.iload_n 3) 1 36 := ⟨by decide +kernel, rfl⟩
theorem e_X11_laysPaces_36 : g_dc cX11_laysPaces 36 (.iload_n 1) 1 37 := ⟨by decide +kernel, rfl⟩
theorem e_X11_laysPaces_37 : g_dc cX11_laysPaces 37 (.isub) 1 38 := ⟨by decide +kernel, rfl⟩
theorem e_X11_laysPaces_38 : g_dc cX11_laysPaces 38 (.istore_n 3) 1 39 := ⟨by decide +kernel, rfl⟩
theorem e_X11_laysPaces_39 : g_dc cX11_laysPaces 39 (.goto (-37)) 3 42 := ⟨by decide +kernel, rfl⟩
theorem e_X11_laysPaces_42 : g_dc cX11_laysPaces 42 (.return_) 1 43 := ⟨by decide +kernel, rfl⟩
def md_X11_laysPaces : List Nat := [44]
def mr_X11_laysPaces : List Nat := [25]
set_option maxHeartbeats 4000000 in
set_option maxRecDepth 100000 in
theorem w_X11_laysPaces (l : Launch) (X : gX) (ad : Nat → Nat) (F : Nat → Int32) (R : Nat → Nat → Int32) (hI : g_ok LK_wM F) (hA : g_okR LA_wM R) (hWT : WT F R) (hWC : WC F R) (a0 : Int32) (a1 : Int32) : g_Cv l X yX11_laysPaces cX11_laysPaces 4 1 0 0 [.ref (ad 0), .int a0, .int a1] (wM X ad F R) (fun w => ∃ (F' : Nat → Int32) (R' : Nat → Nat → Int32), w = wM X ad F' R' ∧ g_ok LK_wM F' ∧ g_okR LA_wM R' ∧ WT F' R' ∧ WC F' R' ∧ g_fr md_X11_laysPaces F F' ∧ g_fr mr_X11_laysPaces R R') := by
  refine g_mv (by decide +kernel) (Nat.le_of_ble_eq_true rfl) (fun E cx hret => ?_)
  refine g_iload_n cx 2 rfl e_X11_laysPaces_0 ?_
  refine g_istore_n cx [(3, .int a1), (0, .ref (ad 0)), (1, .int a0), (2, .int a1)] e_X11_laysPaces_1 (by decide) rfl ?_
  have J2 : ∀ (N : Nat) (F2 : Nat → Int32) (R3 : Nat → Nat → Int32) (y1 : Int32), (g_ok LK_wM F2) → (g_fr md_X11_laysPaces F F2) → (g_okR LA_wM R3) → (g_fr mr_X11_laysPaces R R3) → (WT F2 R3) → (WC F2 R3) → (jv (-2147483648) 2147483647 y1) → (2147483647 - (F2 44).toInt).toNat < N → G X E 4 0 0 (wM X ad F2 R3) [(0, .ref (ad 0)), (1, .int a0), (3, .int y1)] 2 [] := by
    intro N
    induction N with
    | zero => intro F2 R3 y1 oF2 fF2 oR3 fR3 wTF2R3 wCF2R3 py1 hm; exact absurd hm (Nat.not_lt_zero _)
    | succ N ih2 =>
      intro F2 R3 y1 oF2 fF2 oR3 fR3 wTF2R3 wCF2R3 py1 hm2
      refine g_iload_n cx 2 rfl e_X11_laysPaces_2 ?_
      have J42 : G X E 4 0 0 (wM X ad F2 R3) [] 42 [] := by
        exact hret e_X11_laysPaces_42 (Nat.le_of_ble_eq_true rfl) (Nat.le_of_ble_eq_true rfl) ⟨F2, R3, rfl, oF2, oR3, wTF2R3, wCF2R3, fF2, fR3⟩
      refine g_if_le cx 42 e_X11_laysPaces_3 (by decide) (fun zc4 => ?_) (fun zc4 => ?_)
      · have p5 := gn_le (-2147483648) 0 (gc_le zc4) py1 (jv_k (x := 0) 0 (by decide)) (by decide)
        refine g_lsub [] [] rfl ?_
        exact J42  
      · have p6 := gn_gt 1 2147483647 (gc_nle zc4) py1 (jv_k (x := 0) 0 (by decide)) (by decide)
        refine g_aload_n cx 0 rfl e_X11_laysPaces_6 ?_
        refine g_get cx cl_X11 fl_X11_309 0 (.int (F2 44)) e_X11_laysPaces_7 rfl rfl ?_
        refine g_bipush cx 60 (by decide) e_X11_laysPaces_10 ?_
        refine g_icmp_ge cx 42 e_X11_laysPaces_12 (by decide) (fun zc7 => ?_) (fun zc7 => ?_)
        · have p8 := gn_ge 60 60 (gc_le zc7) (g_ok_g oF2 11 rfl) (jv_k (x := 60) 60 (by decide)) (by decide)
          refine g_lsub [] [] rfl ?_
          exact J42  
        · have p9 := gn_lt 0 59 (gc_nle zc7) (g_ok_g oF2 11 rfl) (jv_k (x := 60) 60 (by decide)) (by decide)
          refine g_aload_n cx 0 rfl e_X11_laysPaces_15 ?_
          refine g_get cx cl_X11 fl_X11_83 0 (.ref (ad 25)) e_X11_laysPaces_16 rfl rfl ?_
          refine g_aload_n cx 0 rfl e_X11_laysPaces_19 ?_
          refine g_get cx cl_X11 fl_X11_309 0 (.int (F2 44)) e_X11_laysPaces_20 rfl rfl ?_
          refine g_iload_n cx 1 rfl e_X11_laysPaces_23 ?_
          refine g_iast cx 25 (wM X ad F2 (g_u R3 25 (upd (R3 25) (Int32.toNatClampNeg (F2 44)) a0))) e_X11_laysPaces_24 rfl (jv_ix 60 p9 (by decide)) rfl ?_
          obtain ⟨R10, hR10⟩ : ∃ z, z = g_u R3 25 (upd (R3 25) (Int32.toNatClampNeg (F2 44)) a0) := ⟨_, rfl⟩
          rw [← hR10]
          have oR10 : g_okR LA_wM R10 := by rw [hR10]; exact g_okR_u oR3 rfl
          have fR10 : g_fr mr_X11_laysPaces R R10 := by rw [hR10]; exact g_fr_r fR3 rfl
          have wTR10 : WT F2 R10 := by rw [hR10]; exact WT_r wTF2R3 rfl
          have wCR10 : WC F2 R10 := by rw [hR10]; exact WC_r wCF2R3 rfl
          refine g_aload_n cx 0 rfl e_X11_laysPaces_25 ?_
          refine g_aload_n cx 0 rfl e_X11_laysPaces_26 ?_
          refine g_get cx cl_X11 fl_X11_309 0 (.int (F2 44)) e_X11_laysPaces_27 rfl rfl ?_
          refine g_iconst cx 1 (by decide) e_X11_laysPaces_30 ?_
          refine g_iadd cx e_X11_laysPaces_31 ?_
          refine g_topi (fun x11 ex11 => ?_)
          have zx11 := jv_add 1 60 ex11 p9 (jv_k (x := 1) 1 (by decide)) (by decide)
          refine g_put cx cl_X11 fl_X11_309 0 (wM X ad (upd F2 44 x11) R10) e_X11_laysPaces_32 rfl rfl rfl rfl (Nat.le_of_ble_eq_true rfl) rfl ?_
          obtain ⟨F12, hF12⟩ : ∃ z, z = upd F2 44 x11 := ⟨_, rfl⟩
          rw [← hF12]
          have oF12 : g_ok LK_wM F12 := by rw [hF12]; exact g_ok_p oF2 zx11.2 rfl
          have fF12 : g_fr md_X11_laysPaces F F12 := by rw [hF12]; exact g_fr_u fF2 rfl
          have wTF12 : WT F12 R10 := by rw [hF12]; exact WT_u wTR10 rfl
          have wCF12 : WC F12 R10 := by rw [hF12]; exact WC_u wCR10 rfl
          refine g_iload_n cx 2 rfl e_X11_laysPaces_35 ?_
          refine g_iload_n cx 1 rfl e_X11_laysPaces_36 ?_
          refine g_isub cx e_X11_laysPaces_37 ?_
          refine g_topi (fun x13 ex13 => ?_)
          refine g_istore_n cx [(3, .int x13), (0, .ref (ad 0)), (1, .int a0)] e_X11_laysPaces_38 (by decide) rfl ?_
          refine g_goto cx 2 e_X11_laysPaces_39 (by decide) ?_
          refine g_lsub [1, 2, 0] [(0, .ref (ad 0)), (1, .int a0), (3, .int x13)] rfl ?_
          exact ih2 F12 R10 x13 oF12 fF12 oR10 fR10 wTF12 wCF12 (jv_t x13) (Nat.lt_of_lt_of_le (show (2147483647 - (F12 44).toInt).toNat < (2147483647 - (F2 44).toInt).toNat from by have q0 := (jv_k (x := 1) 1 (by decide)).1; have q1 := (jv_k (x := 1) 1 (by decide)).2; have q2 := (jv_k (x := 60) 60 (by decide)).1; have q3 := (jv_k (x := 60) 60 (by decide)).2; have q4 := (g_ok_g oF12 11 rfl).1; have q5 := (g_ok_g oF12 11 rfl).2; have q6 := p9.1; have q7 := p9.2; have q8 := zx11.2.1; have q9 := zx11.2.2; have q10 := (gc_nle zc7); have q11 := (g_eq0 zx11.1); have q12 := (congrArg Int32.toInt (show F12 44 = x11 from (g_pu1 hF12))); have q13 := (congrArg Int32.toInt (show F12 44 = x11 from (g_pu1 hF12))); omega) (Nat.le_of_lt_succ hm2))
  refine g_lsub [1, 2, 0] [(0, .ref (ad 0)), (1, .int a0), (3, .int a1)] rfl ?_
  exact J2 _ F R a1 hI (g_fr_rf F) hA (g_fr_rf R) hWT hWC (jv_t a1) (Nat.lt_succ_self _)
theorem e_X11_runsEven_0 : g_dc cX11_runsEven 0 (.aload_n 0) 1 1 := ⟨by decide +kernel, rfl⟩
theorem e_X11_runsEven_1 : g_dc cX11_runsEven 1 (.iconst 0) 1 2 := ⟨by decide +kernel, rfl⟩
theorem e_X11_runsEven_2 : g_dc cX11_runsEven 2 (.putfield 309) 3 5 := ⟨by decide +kernel, rfl⟩
theorem e_X11_runsEven_5 : g_dc cX11_runsEven 5 (.aload_n 0) 1 6 := ⟨by decide +kernel, rfl⟩
theorem e_X11_runsEven_6 : g_dc cX11_runsEven 6 (.iload_n 1) 1 7 := ⟨by decide +kernel, rfl⟩
theorem e_X11_runsEven_7 : g_dc cX11_runsEven 7 (.aload_n 0) 1 8 := ⟨by decide +kernel, rfl⟩
theorem e_X11_runsEven_8 : g_dc cX11_runsEven 8 (.getfield 159) 3 11 := ⟨by decide +kernel, rfl⟩
theorem e_X11_runsEven_11 : g_dc cX11_runsEven 11 (.invokevirtual 443) 3 14 := ⟨by decide +kernel, rfl⟩
theorem e_X11_runsEven_14 : g_dc cX11_runsEven 14 (.aload_n 0) 1 15 := ⟨by decide +kernel, rfl⟩
theorem e_X11_runsEven_15 : g_dc cX11_runsEven 15 (.invokevirtual 428) 3 18 := ⟨by decide +kernel, rfl⟩
theorem e_X11_runsEven_18 : g_dc cX11_runsEven 18 (.return_) 1 19 := ⟨by decide +kernel, rfl⟩
def md_X11_runsEven : List Nat := [3, 44, 45, 46, 47, 48, 50, 65, 66, 67, 68, 69]
def mr_X11_runsEven : List Nat := [23, 24, 25, 26, 27, 28, 29, 31, 32, 33, 34, 35, 36, 37]
set_option maxHeartbeats 4000000 in
set_option maxRecDepth 100000 in
theorem w_X11_runsEven (l : Launch) (X : gX) (ad : Nat → Nat) (F : Nat → Int32) (R : Nat → Nat → Int32) (hI : g_ok LK_wM F) (hA : g_okR LA_wM R) (hWT : WT F R) (hWC : WC F R) (a0 : Int32) (hpn : WN F R) : g_Cv l X yX11_runsEven cX11_runsEven 2 7 0 0 [.ref (ad 0), .int a0] (wM X ad F R) (fun w => ∃ (F' : Nat → Int32) (R' : Nat → Nat → Int32), w = wM X ad F' R' ∧ g_ok LK_wM F' ∧ g_okR LA_wM R' ∧ WT F' R' ∧ WC F' R' ∧ g_fr md_X11_runsEven F F' ∧ g_fr mr_X11_runsEven R R') := by
  refine g_mv (by decide +kernel) (Nat.le_of_ble_eq_true rfl) (fun E cx hret => ?_)
  refine g_aload_n cx 0 rfl e_X11_runsEven_0 ?_
  refine g_iconst cx 0 (by decide) e_X11_runsEven_1 ?_
  refine g_put cx cl_X11 fl_X11_309 0 (wM X ad (upd F 44 0) R) e_X11_runsEven_2 rfl rfl rfl rfl (Nat.le_of_ble_eq_true rfl) rfl ?_
  obtain ⟨F1, hF1⟩ : ∃ z, z = upd F 44 0 := ⟨_, rfl⟩
  rw [← hF1]
  have oF1 : g_ok LK_wM F1 := by rw [hF1]; exact g_ok_p hI (jv_k (x := 0) 0 (by decide)) rfl
  have fF1 : g_fr md_X11_runsEven F F1 := by rw [hF1]; exact g_fr_u (g_fr_rf F) rfl
  have wTF1 : WT F1 R := by rw [hF1]; exact WT_u hWT rfl
  have wCF1 : WC F1 R := by rw [hF1]; exact WC_u hWC rfl
  refine g_aload_n cx 0 rfl e_X11_runsEven_5 ?_
  refine g_iload_n cx 1 rfl e_X11_runsEven_6 ?_
  refine g_aload_n cx 0 rfl e_X11_runsEven_7 ?_
  refine g_get cx cl_X11 fl_X11_159 0 (.int (F1 1)) e_X11_runsEven_8 rfl rfl ?_
  refine g_toi (F 1) (g_pu2 hF1 rfl) ?_
  refine g_cVvW cx [.int a0, .int (F 1)] [] (w_X11_laysPaces l X ad F1 R oF1 hA wTF1 wCF1 a0 (F 1)) ml_X11_443 yV_X11_laysPaces e_X11_runsEven_11 (by unfold g_rr; decide) (by decide) 0 rfl rfl rfl (Nat.le_of_ble_eq_true rfl) (fun w3 h4 => ?_)
  obtain ⟨F5, R6, rfl, oF5, oR6, wTF5, wCF5, cF5, cR6⟩ := h4
  have fF5 : g_fr md_X11_runsEven F F5 := g_fr_c fF1 cF5 rfl
  have fR6 : g_fr mr_X11_runsEven R R6 := g_fr_c (g_fr_rf R) cR6 rfl
  refine g_aload_n cx 0 rfl e_X11_runsEven_14 ?_
  refine g_cVvW cx [] [] (w_X11_runs l X ad F5 R6 oF5 oR6 wTF5 wCF5 (WN_e hpn ((cF5 42 rfl).trans (g_pu2 hF1 rfl)) (cR6 3 rfl) (cR6 5 rfl))) ml_X11_428 yV_X11_runs e_X11_runsEven_15 (by unfold g_rr; decide) (by decide) 0 rfl rfl rfl (Nat.le_of_ble_eq_true rfl) (fun w8 h9 => ?_)
  obtain ⟨F10, R11, rfl, oF10, oR11, wTF10, wCF10, cF10, cR11⟩ := h9
  have fF10 : g_fr md_X11_runsEven F F10 := g_fr_c fF5 cF10 rfl
  have fR11 : g_fr mr_X11_runsEven R R11 := g_fr_c fR6 cR11 rfl
  exact hret e_X11_runsEven_18 (Nat.le_of_ble_eq_true rfl) (Nat.le_of_ble_eq_true rfl) ⟨F10, R11, rfl, oF10, oR11, wTF10, wCF10, fF10, fR11⟩
theorem e_X11_pace_0 : g_dc cX11_pace 0 (.iconst 1) 1 1 := ⟨by decide +kernel, rfl⟩
theorem e_X11_pace_1 : g_dc cX11_pace 1 (.istore_n 1) 1 2 := ⟨by decide +kernel, rfl⟩
theorem e_X11_pace_2 : g_dc cX11_pace 2 (.iload_n 1) 1 3 := ⟨by decide +kernel, rfl⟩
theorem e_X11_pace_3 : g_dc cX11_pace 3 (.bipush 40) 2 5 := ⟨by decide +kernel, rfl⟩
theorem e_X11_pace_5 : g_dc cX11_pace 5 (.if_icmp .gt 31) 3 8 := ⟨by decide +kernel, rfl⟩
theorem e_X11_pace_8 : g_dc cX11_pace 8 (.aload_n 0) 1 9 := ⟨by decide +kernel, rfl⟩
theorem e_X11_pace_9 : g_dc cX11_pace 9 (.invokevirtual 425) 3 12 := ⟨by decide +kernel, rfl⟩
theorem e_X11_pace_12 : g_dc cX11_pace 12 (.aload_n 0) 1 13 := ⟨by decide +kernel, rfl⟩
theorem e_X11_pace_13 : g_dc cX11_pace 13 (.iload_n 1) 1 14 := ⟨by decide +kernel, rfl⟩
theorem e_X11_pace_14 : g_dc cX11_pace 14 (.invokevirtual 446) 3 17 := ⟨by decide +kernel, rfl⟩
theorem e_X11_pace_17 : g_dc cX11_pace 17 (.aload_n 0) 1 18 := ⟨by decide +kernel, rfl⟩
theorem e_X11_pace_18 : g_dc cX11_pace 18 (.invokevirtual 407) 3 21 := ⟨by decide +kernel, rfl⟩
theorem e_X11_pace_21 : g_dc cX11_pace 21 (.aload_n 0) 1 22 := ⟨by decide +kernel, rfl⟩
theorem e_X11_pace_22 : g_dc cX11_pace 22 (.getfield 172) 3 25 := ⟨by decide +kernel, rfl⟩
theorem e_X11_pace_25 : g_dc cX11_pace 25 (.if_icmp .ne 5) 3 28 := ⟨by decide +kernel, rfl⟩
theorem e_X11_pace_28 : g_dc cX11_pace 28 (.iload_n 1) 1 29 := ⟨by decide +kernel, rfl⟩
theorem e_X11_pace_29 : g_dc cX11_pace 29 (.ireturn) 1 30 := ⟨by decide +kernel, rfl⟩
theorem e_X11_pace_30 : g_dc cX11_pace 30 (.iinc 1 1) 3 33 := ⟨by decide +kernel, rfl⟩
theorem e_X11_pace_33 : g_dc cX11_pace 33 (.goto (-31)) 3 36 := ⟨by decide +kernel, rfl⟩
theorem e_X11_pace_36 : g_dc cX11_pace 36 (.bipush (-2)) 2 38 := ⟨by decide +kernel, rfl⟩
theorem e_X11_pace_38 : g_dc cX11_pace 38 (.ireturn) 1 39 := ⟨by decide +kernel, rfl⟩
def md_X11_pace : List Nat := [3, 42, 43, 44, 45, 46, 47, 48, 49, 50, 51, 65, 66, 67, 68, 69]
def mr_X11_pace : List Nat := [23, 24, 25, 26, 27, 28, 29, 30, 31, 32, 33, 34, 35, 36, 37]
set_option maxHeartbeats 4000000 in
set_option maxRecDepth 100000 in
theorem w_X11_pace (l : Launch) (X : gX) (ad : Nat → Nat) (F : Nat → Int32) (R : Nat → Nat → Int32) (hI : g_ok LK_wM F) (hA : g_okR LA_wM R) (hWT : WT F R) (hWC : WC F R) : g_Ci l X yX11_pace cX11_pace 2 (some .int) 8 0 0 [.ref (ad 0)] (wM X ad F R) (fun r w => ∃ (F' : Nat → Int32) (R' : Nat → Nat → Int32), w = wM X ad F' R' ∧ g_ok LK_wM F' ∧ g_okR LA_wM R' ∧ WT F' R' ∧ WC F' R' ∧ g_fr md_X11_pace F F' ∧ g_fr mr_X11_pace R R' ∧ jv (-2) 40 r) := by
  refine g_mi (by decide +kernel) (Nat.le_of_ble_eq_true rfl) (fun E cx hret => ?_)
  refine g_iconst cx 1 (by decide) e_X11_pace_0 ?_
  refine g_istore_n cx [(1, .int 1), (0, .ref (ad 0))] e_X11_pace_1 (by decide) rfl ?_
  have J2 : ∀ (N : Nat) (F2 : Nat → Int32) (R3 : Nat → Nat → Int32) (y1 : Int32), (g_ok LK_wM F2) → (g_fr md_X11_pace F F2) → (g_okR LA_wM R3) → (g_fr mr_X11_pace R R3) → (WT F2 R3) → (WC F2 R3) → (jv 1 41 y1) → (2147483647 - y1.toInt).toNat < N → G X E 2 0 0 (wM X ad F2 R3) [(0, .ref (ad 0)), (1, .int y1)] 2 [] := by
    intro N
    induction N with
    | zero => intro F2 R3 y1 oF2 fF2 oR3 fR3 wTF2R3 wCF2R3 py1 hm; exact absurd hm (Nat.not_lt_zero _)
    | succ N ih2 =>
      intro F2 R3 y1 oF2 fF2 oR3 fR3 wTF2R3 wCF2R3 py1 hm2
      refine g_iload_n cx 1 rfl e_X11_pace_2 ?_
      refine g_bipush cx 40 (by decide) e_X11_pace_3 ?_
      refine g_icmp_gt cx 36 e_X11_pace_5 (by decide) (fun zc4 => ?_) (fun zc4 => ?_)
      · have p5 := gn_gt 41 41 (gc_lt zc4) py1 (jv_k (x := 40) 40 (by decide)) (by decide)
        refine g_bipush cx (-2) (by decide) e_X11_pace_36 ?_
        exact hret e_X11_pace_38 (Nat.le_of_ble_eq_true rfl) (Nat.le_of_ble_eq_true rfl) rfl ⟨F2, R3, rfl, oF2, oR3, wTF2R3, wCF2R3, fF2, fR3, (jv_w (jv_k (x := (-2)) (-2) (by decide)) (by decide))⟩
      · have p6 := gn_le 1 40 (gc_nlt zc4) py1 (jv_k (x := 40) 40 (by decide)) (by decide)
        refine g_aload_n cx 0 rfl e_X11_pace_8 ?_
        refine g_cVvW cx [] [] (w_X11_laysThings l X ad F2 R3 oF2 oR3 wTF2R3 wCF2R3) ml_X11_425 yV_X11_laysThings e_X11_pace_9 (by unfold g_rr; decide) (by decide) 0 rfl rfl rfl (Nat.le_of_ble_eq_true rfl) (fun w8 h9 => ?_)
        obtain ⟨F11, R12, rfl, oF11, oR12, wTF11, wCF11, cF11, cR12, zx10⟩ := h9
        have fF11 : g_fr md_X11_pace F F11 := g_fr_c fF2 cF11 rfl
        have fR12 : g_fr mr_X11_pace R R12 := g_fr_c fR3 cR12 rfl
        refine g_aload_n cx 0 rfl e_X11_pace_12 ?_
        refine g_iload_n cx 1 rfl e_X11_pace_13 ?_
        refine g_cVvW cx [.int y1] [] (w_X11_runsEven l X ad F11 R12 oF11 oR12 wTF11 wCF11 y1 (WN_of wTF11 ((zx10.trans ((cF11 4 rfl).trans (fF2 4 rfl))).trans ((cF11 4 rfl).trans (fF2 4 rfl)).symm))) ml_X11_446 yV_X11_runsEven e_X11_pace_14 (by unfold g_rr; decide) (by decide) 0 rfl rfl rfl (Nat.le_of_ble_eq_true rfl) (fun w14 h15 => ?_)
        obtain ⟨F16, R17, rfl, oF16, oR17, wTF16, wCF16, cF16, cR17⟩ := h15
        have fF16 : g_fr md_X11_pace F F16 := g_fr_c fF11 cF16 rfl
        have fR17 : g_fr mr_X11_pace R R17 := g_fr_c fR12 cR17 rfl
        refine g_aload_n cx 0 rfl e_X11_pace_17 ?_
        refine g_cViW cx [] [] (w_X11_standing l X ad F16 R17 oF16 oR17 wTF16 wCF16) ml_X11_407 yV_X11_standing e_X11_pace_18 (by unfold g_rr; decide) (by decide) 0 rfl rfl rfl (Nat.le_of_ble_eq_true rfl) (fun r18 w19 h20 => ?_)
        obtain ⟨rfl, pr18⟩ := h20
        refine g_aload_n cx 0 rfl e_X11_pace_21 ?_
        refine g_get cx cl_X11 fl_X11_172 0 (.int (F16 4)) e_X11_pace_22 rfl rfl ?_
        refine g_toi (F 4) (((cF16 4 rfl).trans (cF11 4 rfl)).trans (fF2 4 rfl)) ?_
        refine g_icmp_ne cx 30 e_X11_pace_25 (by decide) (fun zc21 => ?_) (fun zc21 => ?_)
        · obtain ⟨x22, ex22⟩ : ∃ z : Int32, z = y1 + Int32.ofInt 1 := ⟨_, rfl⟩
          refine g_iinc cx x22 [(1, .int x22), (0, .ref (ad 0))] 1 e_X11_pace_30 rfl ex22.symm (by decide) rfl ?_
          have zx22 := jv_add 2 41 (show x22 = y1 + 1 from ex22) p6 (jv_k (x := 1) 1 (by decide)) (by decide)
          refine g_goto cx 2 e_X11_pace_33 (by decide) ?_
          refine g_lsub [1, 0] [(0, .ref (ad 0)), (1, .int x22)] rfl ?_
          exact ih2 F16 R17 x22 oF16 fF16 oR17 fR17 wTF16 wCF16 (jv_w zx22.2 (by decide)) (Nat.lt_of_lt_of_le (show (2147483647 - x22.toInt).toNat < (2147483647 - y1.toInt).toNat from by have q0 := (jv_k (x := 1) 1 (by decide)).1; have q1 := (jv_k (x := 1) 1 (by decide)).2; have q2 := (jv_k (x := 40) 40 (by decide)).1; have q3 := (jv_k (x := 40) 40 (by decide)).2; have q4 := zx22.2.1; have q5 := zx22.2.2; have q6 := p6.1; have q7 := p6.2; have q8 := (gc_nlt zc4); have q9 := (g_eq0 zx22.1); omega) (Nat.le_of_lt_succ hm2))
        · refine g_iload_n cx 1 rfl e_X11_pace_28 ?_
          exact hret e_X11_pace_29 (Nat.le_of_ble_eq_true rfl) (Nat.le_of_ble_eq_true rfl) rfl ⟨F16, R17, rfl, oF16, oR17, wTF16, wCF16, fF16, fR17, (jv_w p6 (by decide))⟩
  refine g_lsub [1, 0] [(0, .ref (ad 0)), (1, .int 1)] rfl ?_
  exact J2 _ F R 1 hI (g_fr_rf F) hA (g_fr_rf R) hWT hWC (jv_w (jv_k (x := 1) 1 (by decide)) (by decide)) (Nat.lt_succ_self _)
theorem e_X11_forgetsBest_0 : g_dc cX11_forgetsBest 0 (.aload_n 0) 1 1 := ⟨by decide +kernel, rfl⟩
theorem e_X11_forgetsBest_1 : g_dc cX11_forgetsBest 1 (.iconst (-1)) 1 2 := ⟨by decide +kernel, rfl⟩
theorem e_X11_forgetsBest_2 : g_dc cX11_forgetsBest 2 (.putfield 449) 3 5 := ⟨by decide +kernel, rfl⟩
theorem e_X11_forgetsBest_5 : g_dc cX11_forgetsBest 5 (.aload_n 0) 1 6 := ⟨by decide +kernel, rfl⟩
theorem e_X11_forgetsBest_6 : g_dc cX11_forgetsBest 6 (.iconst 0) 1 7 := ⟨by decide +kernel, rfl⟩
theorem e_X11_forgetsBest_7 : g_dc cX11_forgetsBest 7 (.putfield 452) 3 10 := ⟨by decide +kernel, rfl⟩
theorem e_X11_forgetsBest_10 : g_dc cX11_forgetsBest 10 (.aload_n 0) 1 11 := ⟨by decide +kernel, rfl⟩
theorem e_X11_forgetsBest_11 : g_dc cX11_forgetsBest 11 (.iconst (-1)) 1 12 := ⟨by decide +kernel, rfl⟩
theorem e_X11_forgetsBest_12 : g_dc cX11_forgetsBest 12 (.putfield 455) 3 15 := ⟨by decide +kernel, rfl⟩
theorem e_X11_forgetsBest_15 : g_dc cX11_forgetsBest 15 (.return_) 1 16 := ⟨by decide +kernel, rfl⟩
def md_X11_forgetsBest : List Nat := [70, 71, 72]
def mr_X11_forgetsBest : List Nat := []
set_option maxHeartbeats 4000000 in
set_option maxRecDepth 100000 in
theorem w_X11_forgetsBest (l : Launch) (X : gX) (ad : Nat → Nat) (F : Nat → Int32) (R : Nat → Nat → Int32) (hI : g_ok LK_wM F) (hA : g_okR LA_wM R) (hWT : WT F R) (hWC : WC F R) : g_Cv l X yX11_forgetsBest cX11_forgetsBest 1 1 0 0 [.ref (ad 0)] (wM X ad F R) (fun w => ∃ (F' : Nat → Int32) (R' : Nat → Nat → Int32), w = wM X ad F' R' ∧ g_ok LK_wM F' ∧ g_okR LA_wM R' ∧ WT F' R' ∧ WC F' R' ∧ g_fr md_X11_forgetsBest F F' ∧ g_fr mr_X11_forgetsBest R R') := by
  refine g_mv (by decide +kernel) (Nat.le_of_ble_eq_true rfl) (fun E cx hret => ?_)
  refine g_aload_n cx 0 rfl e_X11_forgetsBest_0 ?_
  refine g_iconst cx (-1) (by decide) e_X11_forgetsBest_1 ?_
  refine g_put cx cl_X11 fl_X11_449 0 (wM X ad (upd F 70 (-1)) R) e_X11_forgetsBest_2 rfl rfl rfl rfl (Nat.le_of_ble_eq_true rfl) rfl ?_
  obtain ⟨F1, hF1⟩ : ∃ z, z = upd F 70 (-1) := ⟨_, rfl⟩
  rw [← hF1]
  have oF1 : g_ok LK_wM F1 := by rw [hF1]; exact g_ok_u hI rfl
  have fF1 : g_fr md_X11_forgetsBest F F1 := by rw [hF1]; exact g_fr_u (g_fr_rf F) rfl
  have wTF1 : WT F1 R := by rw [hF1]; exact WT_u hWT rfl
  have wCF1 : WC F1 R := by rw [hF1]; exact WC_u hWC rfl
  refine g_aload_n cx 0 rfl e_X11_forgetsBest_5 ?_
  refine g_iconst cx 0 (by decide) e_X11_forgetsBest_6 ?_
  refine g_put cx cl_X11 fl_X11_452 0 (wM X ad (upd F1 71 0) R) e_X11_forgetsBest_7 rfl rfl rfl rfl (Nat.le_of_ble_eq_true rfl) rfl ?_
  obtain ⟨F2, hF2⟩ : ∃ z, z = upd F1 71 0 := ⟨_, rfl⟩
  rw [← hF2]
  have oF2 : g_ok LK_wM F2 := by rw [hF2]; exact g_ok_u oF1 rfl
  have fF2 : g_fr md_X11_forgetsBest F F2 := by rw [hF2]; exact g_fr_u fF1 rfl
  have wTF2 : WT F2 R := by rw [hF2]; exact WT_u wTF1 rfl
  have wCF2 : WC F2 R := by rw [hF2]; exact WC_u wCF1 rfl
  refine g_aload_n cx 0 rfl e_X11_forgetsBest_10 ?_
  refine g_iconst cx (-1) (by decide) e_X11_forgetsBest_11 ?_
  refine g_put cx cl_X11 fl_X11_455 0 (wM X ad (upd F2 72 (-1)) R) e_X11_forgetsBest_12 rfl rfl rfl rfl (Nat.le_of_ble_eq_true rfl) rfl ?_
  obtain ⟨F3, hF3⟩ : ∃ z, z = upd F2 72 (-1) := ⟨_, rfl⟩
  rw [← hF3]
  have oF3 : g_ok LK_wM F3 := by rw [hF3]; exact g_ok_u oF2 rfl
  have fF3 : g_fr md_X11_forgetsBest F F3 := by rw [hF3]; exact g_fr_u fF2 rfl
  have wTF3 : WT F3 R := by rw [hF3]; exact WT_u wTF2 rfl
  have wCF3 : WC F3 R := by rw [hF3]; exact WC_u wCF2 rfl
  exact hret e_X11_forgetsBest_15 (Nat.le_of_ble_eq_true rfl) (Nat.le_of_ble_eq_true rfl) ⟨F3, R, rfl, oF3, hA, wTF3, wCF3, fF3, (g_fr_rf R)⟩
theorem e_X11_better_0 : g_dc cX11_better 0 (.aload_n 0) 1 1 := ⟨by decide +kernel, rfl⟩
theorem e_X11_better_1 : g_dc cX11_better 1 (.invokevirtual 407) 3 4 := ⟨by decide +kernel, rfl⟩
theorem e_X11_better_4 : g_dc cX11_better 4 (.invokestatic 410) 3 7 := ⟨by decide +kernel, rfl⟩
theorem e_X11_better_7 : g_dc cX11_better 7 (.istore_n 2) 1 8 := ⟨by decide +kernel, rfl⟩
theorem e_X11_better_8 : g_dc cX11_better 8 (.aload_n 0) 1 9 := ⟨by decide +kernel, rfl⟩
theorem e_X11_better_9 : g_dc cX11_better 9 (.invokevirtual 413) 3 12 := ⟨by decide +kernel, rfl⟩
theorem e_X11_better_12 : g_dc cX11_better 12 (.istore_n 3) 1 13 := ⟨by decide +kernel, rfl⟩
theorem e_X11_better_13 : g_dc cX11_better 13 (.iload_n 2) 1 14 := ⟨by decide +kernel, rfl⟩
theorem e_X11_better_14 : g_dc cX11_better 14 (.aload_n 0) 1 15 := ⟨by decide +kernel, rfl⟩
theorem e_X11_better_15 : g_dc cX11_better 15 (.getfield 449) 3 18 := ⟨by decide +kernel, rfl⟩
theorem e_X11_better_18 : g_dc cX11_better 18 (.if_icmp .lt 19) 3 21 := ⟨by decide +kernel, rfl⟩
theorem e_X11_better_21 : g_dc cX11_better 21 (.iload_n 2) 1 22 := ⟨by decide +kernel, rfl⟩
theorem e_X11_better_22 : g_dc cX11_better 22 (.aload_n 0) 1 23 := ⟨by decide +kernel, rfl⟩
theorem e_X11_better_23 : g_dc cX11_better 23 (.getfield 449) 3 26 := ⟨by decide +kernel, rfl⟩
theorem e_X11_better_26 : g_dc cX11_better 26 (.if_icmp .ne 12) 3 29 := ⟨by decide +kernel, rfl⟩
theorem e_X11_better_29 : g_dc cX11_better 29 (.iload_n 3) 1 30 := ⟨by decide +kernel, rfl⟩
theorem e_X11_better_30 : g_dc cX11_better 30 (.aload_n 0) 1 31 := ⟨by decide +kernel, rfl⟩
theorem e_X11_better_31 : g_dc cX11_better 31 (.getfield 452) 3 34 := ⟨by decide +kernel, rfl⟩
theorem e_X11_better_34 : g_dc cX11_better 34 (.if_icmp .lt 4) 3 37 := ⟨by decide +kernel, rfl⟩
theorem e_X11_better_37 : g_dc cX11_better 37 (.return_) 1 38 := ⟨by decide +kernel, rfl⟩
theorem e_X11_better_38 : g_dc cX11_better 38 (.aload_n 0) 1 39 := ⟨by decide +kernel, rfl⟩
theorem e_X11_better_39 : g_dc cX11_better 39 (.iload_n 2) 1 40 := ⟨by decide +kernel, rfl⟩
theorem e_X11_better_40 : g_dc cX11_better 40 (.putfield 449) 3 43 := ⟨by decide +kernel, rfl⟩
theorem e_X11_better_43 : g_dc cX11_better 43 (.aload_n 0) 1 44 := ⟨by decide +kernel, rfl⟩
theorem e_X11_better_44 : g_dc cX11_better 44 (.iload_n 3) 1 45 := ⟨by decide +kernel, rfl⟩
theorem e_X11_better_45 : g_dc cX11_better 45 (.putfield 452) 3 48 := ⟨by decide +kernel, rfl⟩
theorem e_X11_better_48 : g_dc cX11_better 48 (.aload_n 0) 1 49 := ⟨by decide +kernel, rfl⟩
theorem e_X11_better_49 : g_dc cX11_better 49 (.iload_n 1) 1 50 := ⟨by decide +kernel, rfl⟩
theorem e_X11_better_50 : g_dc cX11_better 50 (.putfield 455) 3 53 := ⟨by decide +kernel, rfl⟩
theorem e_X11_better_53 : g_dc cX11_better 53 (.return_) 1 54 := ⟨by decide +kernel, rfl⟩
def md_X11_better : List Nat := [70, 71, 72]
def mr_X11_better : List Nat := []
set_option maxHeartbeats 4000000 in
set_option maxRecDepth 100000 in
theorem w_X11_better (l : Launch) (X : gX) (ad : Nat → Nat) (F : Nat → Int32) (R : Nat → Nat → Int32) (hI : g_ok LK_wM F) (hA : g_okR LA_wM R) (hWT : WT F R) (hWC : WC F R) (a0 : Int32) : g_Cv l X yX11_better cX11_better 4 4 0 0 [.ref (ad 0), .int a0] (wM X ad F R) (fun w => ∃ (F' : Nat → Int32) (R' : Nat → Nat → Int32), w = wM X ad F' R' ∧ g_ok LK_wM F' ∧ g_okR LA_wM R' ∧ WT F' R' ∧ WC F' R' ∧ g_fr md_X11_better F F' ∧ g_fr mr_X11_better R R') := by
  refine g_mv (by decide +kernel) (Nat.le_of_ble_eq_true rfl) (fun E cx hret => ?_)
  refine g_aload_n cx 0 rfl e_X11_better_0 ?_
  refine g_cViW cx [] [] (w_X11_standing l X ad F R hI hA hWT hWC) ml_X11_407 yV_X11_standing e_X11_better_1 (by unfold g_rr; decide) (by decide) 0 rfl rfl rfl (Nat.le_of_ble_eq_true rfl) (fun r1 w2 h3 => ?_)
  obtain ⟨rfl, pr1⟩ := h3
  refine g_cSiW cx [.int r1] [] (w_X11_bits l X ad F R hI hA r1) ml_X11_410 yS_X11_bits rfl e_X11_better_4 (by unfold g_rr; decide) (by decide) rfl (Nat.le_of_ble_eq_true rfl) (fun r4 w5 h6 => ?_)
  obtain ⟨rfl, pr4⟩ := h6
  refine g_istore_n cx [(2, .int r4), (0, .ref (ad 0)), (1, .int a0)] e_X11_better_7 (by decide) rfl ?_
  refine g_aload_n cx 1 rfl e_X11_better_8 ?_
  refine g_cViW cx [] [] (w_X11_inchesAll l X ad F R hI hA hWT hWC) ml_X11_413 yV_X11_inchesAll e_X11_better_9 (by unfold g_rr; decide) (by decide) 0 rfl rfl rfl (Nat.le_of_ble_eq_true rfl) (fun r7 w8 h9 => ?_)
  obtain ⟨rfl, pr7⟩ := h9
  refine g_istore_n cx [(3, .int r7), (2, .int r4), (0, .ref (ad 0)), (1, .int a0)] e_X11_better_12 (by decide) rfl ?_
  refine g_iload_n cx 1 rfl e_X11_better_13 ?_
  refine g_aload_n cx 2 rfl e_X11_better_14 ?_
  refine g_get cx cl_X11 fl_X11_449 0 (.int (F 70)) e_X11_better_15 rfl rfl ?_
  have J37 : G X E 4 0 0 (wM X ad F R) [] 37 [] := by
    exact hret e_X11_better_37 (Nat.le_of_ble_eq_true rfl) (Nat.le_of_ble_eq_true rfl) ⟨F, R, rfl, hI, hA, hWT, hWC, (g_fr_rf F), (g_fr_rf R)⟩
  refine g_icmp_lt cx 37 e_X11_better_18 (by decide) (fun zc10 => ?_) (fun zc10 => ?_)
  · have p11 := gn_gt 1 2147483647 (gc_lt zc10) (jv_t (F 70)) pr4 (by decide)
    refine g_lsub [] [] rfl ?_
    exact J37  
  · have p12 := gn_le (-2147483648) 10 (gc_nlt zc10) (jv_t (F 70)) pr4 (by decide)
    refine g_iload_n cx 1 rfl e_X11_better_21 ?_
    refine g_aload_n cx 2 rfl e_X11_better_22 ?_
    refine g_get cx cl_X11 fl_X11_449 0 (.int (F 70)) e_X11_better_23 rfl rfl ?_
    have J38 : G X E 4 0 0 (wM X ad F R) [(0, .ref (ad 0)), (1, .int a0), (2, .int r4), (3, .int r7)] 38 [] := by
      refine g_aload_n cx 0 rfl e_X11_better_38 ?_
      refine g_iload_n cx 2 rfl e_X11_better_39 ?_
      refine g_put cx cl_X11 fl_X11_449 0 (wM X ad (upd F 70 r4) R) e_X11_better_40 rfl rfl rfl rfl (Nat.le_of_ble_eq_true rfl) rfl ?_
      obtain ⟨F13, hF13⟩ : ∃ z, z = upd F 70 r4 := ⟨_, rfl⟩
      rw [← hF13]
      have oF13 : g_ok LK_wM F13 := by rw [hF13]; exact g_ok_u hI rfl
      have fF13 : g_fr md_X11_better F F13 := by rw [hF13]; exact g_fr_u (g_fr_rf F) rfl
      have wTF13 : WT F13 R := by rw [hF13]; exact WT_u hWT rfl
      have wCF13 : WC F13 R := by rw [hF13]; exact WC_u hWC rfl
      refine g_aload_n cx 0 rfl e_X11_better_43 ?_
      refine g_iload_n cx 3 rfl e_X11_better_44 ?_
      refine g_put cx cl_X11 fl_X11_452 0 (wM X ad (upd F13 71 r7) R) e_X11_better_45 rfl rfl rfl rfl (Nat.le_of_ble_eq_true rfl) rfl ?_
      obtain ⟨F14, hF14⟩ : ∃ z, z = upd F13 71 r7 := ⟨_, rfl⟩
      rw [← hF14]
      have oF14 : g_ok LK_wM F14 := by rw [hF14]; exact g_ok_u oF13 rfl
      have fF14 : g_fr md_X11_better F F14 := by rw [hF14]; exact g_fr_u fF13 rfl
      have wTF14 : WT F14 R := by rw [hF14]; exact WT_u wTF13 rfl
      have wCF14 : WC F14 R := by rw [hF14]; exact WC_u wCF13 rfl
      refine g_aload_n cx 0 rfl e_X11_better_48 ?_
      refine g_iload_n cx 1 rfl e_X11_better_49 ?_
      refine g_put cx cl_X11 fl_X11_455 0 (wM X ad (upd F14 72 a0) R) e_X11_better_50 rfl rfl rfl rfl (Nat.le_of_ble_eq_true rfl) rfl ?_
      obtain ⟨F15, hF15⟩ : ∃ z, z = upd F14 72 a0 := ⟨_, rfl⟩
      rw [← hF15]
      have oF15 : g_ok LK_wM F15 := by rw [hF15]; exact g_ok_u oF14 rfl
      have fF15 : g_fr md_X11_better F F15 := by rw [hF15]; exact g_fr_u fF14 rfl
      have wTF15 : WT F15 R := by rw [hF15]; exact WT_u wTF14 rfl
      have wCF15 : WC F15 R := by rw [hF15]; exact WC_u wCF14 rfl
      exact hret e_X11_better_53 (Nat.le_of_ble_eq_true rfl) (Nat.le_of_ble_eq_true rfl) ⟨F15, R, rfl, oF15, hA, wTF15, wCF15, fF15, (g_fr_rf R)⟩
    refine g_icmp_ne cx 38 e_X11_better_26 (by decide) (fun zc16 => ?_) (fun zc16 => ?_)
    · refine g_lsub [2, 3, 1, 0] [(0, .ref (ad 0)), (1, .int a0), (2, .int r4), (3, .int r7)] rfl ?_
      exact J38  
    · have p17 := gn_eq 0 10 (gc_eq zc16).symm p12 pr4 (by decide)
      refine g_iload_n cx 0 rfl e_X11_better_29 ?_
      refine g_aload_n cx 2 rfl e_X11_better_30 ?_
      refine g_get cx cl_X11 fl_X11_452 0 (.int (F 71)) e_X11_better_31 rfl rfl ?_
      refine g_icmp_lt cx 38 e_X11_better_34 (by decide) (fun zc18 => ?_) (fun zc18 => ?_)
      · have p19 := gn_lt (-2147483648) 2147483646 (gc_lt zc18) pr7 (jv_t (F 71)) (by decide)
        have p20 := gn_gt (-2147483647) 2147483647 (gc_lt zc18) (jv_t (F 71)) pr7 (by decide)
        refine g_lsub [2, 3, 1, 0] [(0, .ref (ad 0)), (1, .int a0), (2, .int r4), (3, .int r7)] rfl ?_
        exact J38  
      · refine g_lsub [] [] rfl ?_
        exact J37  
theorem e_X11_best_0 : g_dc cX11_best 0 (.iload_n 1) 1 1 := ⟨by decide +kernel, rfl⟩
theorem e_X11_best_1 : g_dc cX11_best 1 (.iconst 0) 1 2 := ⟨by decide +kernel, rfl⟩
theorem e_X11_best_2 : g_dc cX11_best 2 (.iconst 4) 1 3 := ⟨by decide +kernel, rfl⟩
theorem e_X11_best_3 : g_dc cX11_best 3 (.invokestatic 165) 3 6 := ⟨by decide +kernel, rfl⟩
theorem e_X11_best_6 : g_dc cX11_best 6 (.ifCond .ne 5) 3 9 := ⟨by decide +kernel, rfl⟩
theorem e_X11_best_9 : g_dc cX11_best 9 (.iconst (-1)) 1 10 := ⟨by decide +kernel, rfl⟩
theorem e_X11_best_10 : g_dc cX11_best 10 (.ireturn) 1 11 := ⟨by decide +kernel, rfl⟩
theorem e_X11_best_11 : g_dc cX11_best 11 (.aload_n 0) 1 12 := ⟨by decide +kernel, rfl⟩
theorem e_X11_best_12 : g_dc cX11_best 12 (.invokevirtual 458) 3 15 := ⟨by decide +kernel, rfl⟩
theorem e_X11_best_15 : g_dc cX11_best 15 (.iconst 0) 1 16 := ⟨by decide +kernel, rfl⟩
theorem e_X11_best_16 : g_dc cX11_best 16 (.istore_n 2) 1 17 := ⟨by decide +kernel, rfl⟩
theorem e_X11_best_17 : g_dc cX11_best 17 (.iload_n 2) 1 18 := ⟨by decide +kernel, rfl⟩
theorem e_X11_best_18 : g_dc cX11_best 18 (.sipush 864) 3 21 := ⟨by decide +kernel, rfl⟩
theorem e_X11_best_21 : g_dc cX11_best 21 (.if_icmp .ge 98) 3 24 := ⟨by decide +kernel, rfl⟩
theorem e_X11_best_24 : g_dc cX11_best 24 (.iload_n 2) 1 25 := ⟨by decide +kernel, rfl⟩
theorem e_X11_best_25 : g_dc cX11_best 25 (.bipush 72) 2 27 := ⟨by decide +kernel, rfl⟩
theorem e_X11_best_27 : g_dc cX11_best 27 (.idiv) 1 28 := ⟨by decide +kernel, rfl⟩
theorem e_X11_best_28 : g_dc cX11_best 28 (.iconst 1) 1 29 := ⟨by decide +kernel, rfl⟩
theorem e_X11_best_29 : g_dc cX11_best 29 (.iadd) 1 30 := ⟨by decide +kernel, rfl⟩
theorem e_X11_best_30 : g_dc cX11_best 30 (.istore_n 3) 1 31 := ⟨by decide +kernel, rfl⟩
theorem e_X11_best_31 : g_dc cX11_best 31 (.iload_n 2) 1 32 := ⟨by decide +kernel, rfl⟩
theorem e_X11_best_32 : g_dc cX11_best 32 (.bipush 6) 2 34 := ⟨by decide +kernel, rfl⟩
theorem e_X11_best_34 : g_dc cX11_best 34 (.irem) 1 35 := ⟨by decide +kernel, rfl⟩
theorem e_X11_best_35 : g_dc cX11_best 35 (.iconst 1) 1 36 := ⟨by decide +kernel, rfl⟩
theorem e_X11_best_36 : g_dc cX11_best 36 (.iadd) 1 37 := ⟨by decide +kernel, rfl⟩
theorem e_X11_best_37 : g_dc cX11_best 37 (.istore 4) 2 39 := ⟨by decide +kernel, rfl⟩
theorem e_X11_best_39 : g_dc cX11_best 39 (.aload_n 0) 1 40 := ⟨by decide +kernel, rfl⟩
theorem e_X11_best_40 : g_dc cX11_best 40 (.iconst 0) 1 41 := ⟨by decide +kernel, rfl⟩
theorem e_X11_best_41 : g_dc cX11_best 41 (.putfield 309) 3 44 := ⟨by decide +kernel, rfl⟩
theorem e_X11_best_44 : g_dc cX11_best 44 (.iconst 0) 1 45 := ⟨by decide +kernel, rfl⟩
theorem e_X11_best_45 : g_dc cX11_best 45 (.istore 5) 2 47 := ⟨by decide +kernel, rfl⟩
theorem e_X11_best_47 : g_dc cX11_best 47 (.iload 5) 2 49 := ⟨by decide +kernel, rfl⟩
theorem e_X11_best_49 : g_dc cX11_best 49 (.iload 4) 2 51 := ⟨by decide +kernel, rfl⟩
theorem e_X11_best_51 : g_dc cX11_best 51 (.if_icmp .ge 27) 3 54 := ⟨by decide +kernel, rfl⟩
theorem e_X11_best_54 : g_dc cX11_best 54 (.aload_n 0) 1 55 := ⟨by decide +kernel, rfl⟩
theorem e_X11_best_55 : g_dc cX11_best 55 (.getfield 83) 3 58 := ⟨by decide +kernel, rfl⟩
theorem e_X11_best_58 : g_dc cX11_best 58 (.iload 5) 2 60 := ⟨by decide +kernel, rfl⟩
theorem e_X11_best_60 : g_dc cX11_best 60 (.iload_n 3) 1 61 := ⟨by decide +kernel, rfl⟩
theorem e_X11_best_61 : g_dc cX11_best 61 (.iastore) 1 62 := ⟨by decide +kernel, rfl⟩
theorem e_X11_best_62 : g_dc cX11_best 62 (.aload_n 0) 1 63 := ⟨by decide +kernel, rfl⟩
theorem e_X11_best_63 : g_dc cX11_best 63 (.aload_n 0) 1 64 := ⟨by decide +kernel, rfl⟩
theorem e_X11_best_64 : g_dc cX11_best 64 (.getfield 309) 3 67 := ⟨by decide +kernel, rfl⟩
theorem e_X11_best_67 : g_dc cX11_best 67 (.iconst 1) 1 68 := ⟨by decide +kernel, rfl⟩
theorem e_X11_best_68 : g_dc cX11_best 68 (.iadd) 1 69 := ⟨by decide +kernel, rfl⟩
theorem e_X11_best_69 : g_dc cX11_best 69 (.putfield 309) 3 72 := ⟨by decide +kernel, rfl⟩
theorem e_X11_best_72 : g_dc cX11_best 72 (.iinc 5 1) 3 75 := ⟨by decide +kernel, rfl⟩
theorem e_X11_best_75 : g_dc cX11_best 75 (.goto (-28)) 3 78 := ⟨by decide +kernel, rfl⟩
theorem e_X11_best_78 : g_dc cX11_best 78 (.aload_n 0) 1 79 := ⟨by decide +kernel, rfl⟩
theorem e_X11_best_79 : g_dc cX11_best 79 (.iload_n 2) 1 80 := ⟨by decide +kernel, rfl⟩
theorem e_X11_best_80 : g_dc cX11_best 80 (.bipush 6) 2 82 := ⟨by decide +kernel, rfl⟩
theorem e_X11_best_82 : g_dc cX11_best 82 (.idiv) 1 83 := ⟨by decide +kernel, rfl⟩
theorem e_X11_best_83 : g_dc cX11_best 83 (.bipush 12) 2 85 := ⟨by decide +kernel, rfl⟩
theorem e_X11_best_85 : g_dc cX11_best 85 (.irem) 1 86 := ⟨by decide +kernel, rfl⟩
theorem e_X11_best_86 : g_dc cX11_best 86 (.iconst 1) 1 87 := ⟨by decide +kernel, rfl⟩
theorem e_X11_best_87 : g_dc cX11_best 87 (.iadd) 1 88 := ⟨by decide +kernel, rfl⟩
theorem e_X11_best_88 : g_dc cX11_best 88 (.aload_n 0) 1 89 := ⟨by decide +kernel, rfl⟩
theorem e_X11_best_89 : g_dc cX11_best 89 (.getfield 159) 3 92 := ⟨by decide +kernel, rfl⟩
theorem e_X11_best_92 : g_dc cX11_best 92 (.iload_n 3) 1 93 := ⟨by decide +kernel, rfl⟩
theorem e_X11_best_93 : g_dc cX11_best 93 (.iload 4) 2 95 := ⟨by decide +kernel, rfl⟩
theorem e_X11_best_95 : g_dc cX11_best 95 (.imul) 1 96 := ⟨by decide +kernel, rfl⟩
theorem e_X11_best_96 : g_dc cX11_best 96 (.isub) 1 97 := ⟨by decide +kernel, rfl⟩
theorem e_X11_best_97 : g_dc cX11_best 97 (.invokevirtual 443) 3 100 := ⟨by decide +kernel, rfl⟩
theorem e_X11_best_100 : g_dc cX11_best 100 (.aload_n 0) 1 101 := ⟨by decide +kernel, rfl⟩
theorem e_X11_best_101 : g_dc cX11_best 101 (.invokevirtual 425) 3 104 := ⟨by decide +kernel, rfl⟩
theorem e_X11_best_104 : g_dc cX11_best 104 (.aload_n 0) 1 105 := ⟨by decide +kernel, rfl⟩
theorem e_X11_best_105 : g_dc cX11_best 105 (.invokevirtual 428) 3 108 := ⟨by decide +kernel, rfl⟩
theorem e_X11_best_108 : g_dc cX11_best 108 (.aload_n 0) 1 109 := ⟨by decide +kernel, rfl⟩
theorem e_X11_best_109 : g_dc cX11_best 109 (.iload_n 2) 1 110 := ⟨by decide +kernel, rfl⟩
theorem e_X11_best_110 : g_dc cX11_best 110 (.invokevirtual 461) 3 113 := ⟨by decide +kernel, rfl⟩
theorem e_X11_best_113 : g_dc cX11_best 113 (.iinc 2 1) 3 116 := ⟨by decide +kernel, rfl⟩
theorem e_X11_best_116 : g_dc cX11_best 116 (.goto (-99)) 3 119 := ⟨by decide +kernel, rfl⟩
theorem e_X11_best_119 : g_dc cX11_best 119 (.iload_n 1) 1 120 := ⟨by decide +kernel, rfl⟩
theorem e_X11_best_120 : g_dc cX11_best 120 (.tableswitch 70 0 3 #[32, 42, 55, 65]) 32 152 := ⟨by decide +kernel, rfl⟩
theorem e_X11_best_152 : g_dc cX11_best 152 (.aload_n 0) 1 153 := ⟨by decide +kernel, rfl⟩
theorem e_X11_best_153 : g_dc cX11_best 153 (.getfield 455) 3 156 := ⟨by decide +kernel, rfl⟩
theorem e_X11_best_156 : g_dc cX11_best 156 (.bipush 72) 2 158 := ⟨by decide +kernel, rfl⟩
theorem e_X11_best_158 : g_dc cX11_best 158 (.idiv) 1 159 := ⟨by decide +kernel, rfl⟩
theorem e_X11_best_159 : g_dc cX11_best 159 (.iconst 1) 1 160 := ⟨by decide +kernel, rfl⟩
theorem e_X11_best_160 : g_dc cX11_best 160 (.iadd) 1 161 := ⟨by decide +kernel, rfl⟩
theorem e_X11_best_161 : g_dc cX11_best 161 (.ireturn) 1 162 := ⟨by decide +kernel, rfl⟩
theorem e_X11_best_162 : g_dc cX11_best 162 (.aload_n 0) 1 163 := ⟨by decide +kernel, rfl⟩
theorem e_X11_best_163 : g_dc cX11_best 163 (.getfield 455) 3 166 := ⟨by decide +kernel, rfl⟩
theorem e_X11_best_166 : g_dc cX11_best 166 (.bipush 6) 2 168 := ⟨by decide +kernel, rfl⟩
theorem e_X11_best_168 : g_dc cX11_best 168 (.idiv) 1 169 := ⟨by decide +kernel, rfl⟩
theorem e_X11_best_169 : g_dc cX11_best 169 (.bipush 12) 2 171 := ⟨by decide +kernel, rfl⟩
theorem e_X11_best_171 : g_dc cX11_best 171 (.irem) 1 172 := ⟨by decide +kernel, rfl⟩
theorem e_X11_best_172 : g_dc cX11_best 172 (.iconst 1) 1 173 := ⟨by decide +kernel, rfl⟩
theorem e_X11_best_173 : g_dc cX11_best 173 (.iadd) 1 174 := ⟨by decide +kernel, rfl⟩
theorem e_X11_best_174 : g_dc cX11_best 174 (.ireturn) 1 175 := ⟨by decide +kernel, rfl⟩
theorem e_X11_best_175 : g_dc cX11_best 175 (.aload_n 0) 1 176 := ⟨by decide +kernel, rfl⟩
theorem e_X11_best_176 : g_dc cX11_best 176 (.getfield 455) 3 179 := ⟨by decide +kernel, rfl⟩
theorem e_X11_best_179 : g_dc cX11_best 179 (.bipush 6) 2 181 := ⟨by decide +kernel, rfl⟩
theorem e_X11_best_181 : g_dc cX11_best 181 (.irem) 1 182 := ⟨by decide +kernel, rfl⟩
theorem e_X11_best_182 : g_dc cX11_best 182 (.iconst 1) 1 183 := ⟨by decide +kernel, rfl⟩
theorem e_X11_best_183 : g_dc cX11_best 183 (.iadd) 1 184 := ⟨by decide +kernel, rfl⟩
theorem e_X11_best_184 : g_dc cX11_best 184 (.ireturn) 1 185 := ⟨by decide +kernel, rfl⟩
theorem e_X11_best_185 : g_dc cX11_best 185 (.aload_n 0) 1 186 := ⟨by decide +kernel, rfl⟩
theorem e_X11_best_186 : g_dc cX11_best 186 (.getfield 449) 3 189 := ⟨by decide +kernel, rfl⟩
theorem e_X11_best_189 : g_dc cX11_best 189 (.ireturn) 1 190 := ⟨by decide +kernel, rfl⟩
theorem e_X11_best_190 : g_dc cX11_best 190 (.aload_n 0) 1 191 := ⟨by decide +kernel, rfl⟩
theorem e_X11_best_191 : g_dc cX11_best 191 (.getfield 452) 3 194 := ⟨by decide +kernel, rfl⟩
theorem e_X11_best_194 : g_dc cX11_best 194 (.ireturn) 1 195 := ⟨by decide +kernel, rfl⟩
def md_X11_best : List Nat := [3, 42, 43, 44, 45, 46, 47, 48, 49, 50, 51, 65, 66, 67, 68, 69, 70, 71, 72]
def mr_X11_best : List Nat := [23, 24, 25, 26, 27, 28, 29, 30, 31, 32, 33, 34, 35, 36, 37]
set_option maxHeartbeats 4000000 in
set_option maxRecDepth 100000 in
theorem w_X11_best (l : Launch) (X : gX) (ad : Nat → Nat) (F : Nat → Int32) (R : Nat → Nat → Int32) (hI : g_ok LK_wM F) (hA : g_okR LA_wM R) (hWT : WT F R) (hWC : WC F R) (a0 : Int32) : g_Ci l X yX11_best cX11_best 6 (some .int) 7 0 0 [.ref (ad 0), .int a0] (wM X ad F R) (fun r w => ∃ (F' : Nat → Int32) (R' : Nat → Nat → Int32), w = wM X ad F' R' ∧ g_ok LK_wM F' ∧ g_okR LA_wM R' ∧ WT F' R' ∧ WC F' R' ∧ g_fr md_X11_best F F' ∧ g_fr mr_X11_best R R' ∧ jv (-2147483648) 2147483647 r) := by
  refine g_mi (by decide +kernel) (Nat.le_of_ble_eq_true rfl) (fun E cx hret => ?_)
  refine g_iload_n cx 1 rfl e_X11_best_0 ?_
  refine g_iconst cx 0 (by decide) e_X11_best_1 ?_
  refine g_iconst cx 4 (by decide) e_X11_best_2 ?_
  refine g_cSiW cx [.int a0, .int 0, .int 4] [] (c_X11_in l X (wM X ad F R) a0 0 4) ml_X11_165 yS_X11_in rfl e_X11_best_3 (by unfold g_rr; decide) (by decide) rfl (Nat.le_of_ble_eq_true rfl) (fun r1 w2 h3 => ?_)
  obtain ⟨rfl, hr1⟩ := h3
  have pr1 : jv 0 1 r1 := by rw [hr1]; exact gi_01 _ _ _
  refine g_if_ne cx 11 e_X11_best_6 (by decide) (fun zc4 => ?_) (fun zc4 => ?_)
  · have p5 := gn_neL 1 1 (gc_ne zc4) pr1 (jv_k (x := 0) 0 (by decide)) (by decide)
    have p6 := jv_i 0 4 (jv_t a0) (gi_in (A := 0) (B := 4) hr1 zc4 (by decide) (by decide)) (by decide)
    refine g_aload_n cx 0 rfl e_X11_best_11 ?_
    refine g_cVvW cx [] [] (w_X11_forgetsBest l X ad F R hI hA hWT hWC) ml_X11_458 yV_X11_forgetsBest e_X11_best_12 (by unfold g_rr; decide) (by decide) 0 rfl rfl rfl (Nat.le_of_ble_eq_true rfl) (fun w8 h9 => ?_)
    obtain ⟨F10, R11, rfl, oF10, oR11, wTF10, wCF10, cF10, cR11⟩ := h9
    have fF10 : g_fr md_X11_best F F10 := g_fr_c (g_fr_rf F) cF10 rfl
    have fR11 : g_fr mr_X11_best R R11 := g_fr_c (g_fr_rf R) cR11 rfl
    refine g_iconst cx 0 (by decide) e_X11_best_15 ?_
    refine g_istore_n cx [(2, .int 0), (0, .ref (ad 0)), (1, .int a0)] e_X11_best_16 (by decide) rfl ?_
    have J17 : ∀ (N : Nat) (F13 : Nat → Int32) (R14 : Nat → Nat → Int32) (y12 : Int32), (g_ok LK_wM F13) → (g_fr md_X11_best F F13) → (g_okR LA_wM R14) → (g_fr mr_X11_best R R14) → (WT F13 R14) → (WC F13 R14) → (jv 0 864 y12) → (2147483647 - y12.toInt).toNat < N → G X E 6 0 0 (wM X ad F13 R14) [(0, .ref (ad 0)), (1, .int a0), (2, .int y12)] 17 [] := by
      intro N
      induction N with
      | zero => intro F13 R14 y12 oF13 fF13 oR14 fR14 wTF13R14 wCF13R14 py12 hm; exact absurd hm (Nat.not_lt_zero _)
      | succ N ih17 =>
        intro F13 R14 y12 oF13 fF13 oR14 fR14 wTF13R14 wCF13R14 py12 hm17
        refine g_iload_n cx 2 rfl e_X11_best_17 ?_
        refine g_sipush cx 864 (by decide) e_X11_best_18 ?_
        refine g_icmp_ge cx 119 e_X11_best_21 (by decide) (fun zc15 => ?_) (fun zc15 => ?_)
        · have p16 := gn_ge 864 864 (gc_le zc15) py12 (jv_k (x := 864) 864 (by decide)) (by decide)
          refine g_iload_n cx 1 rfl e_X11_best_119 ?_
          refine g_topi (fun zy17 ezy17 => ?_)
          rcases g_sw 0 3 zy17 with ⟨zw18n, zw18h, zw18e⟩ | zw18
          · have zw18d : zw18n = 0 ∨ zw18n = 1 ∨ zw18n = 2 ∨ zw18n = 3 := by omega
            rcases zw18d with rfl | rfl | rfl | rfl
            · refine g_tableIn cx 152 e_X11_best_120 (by rw [zw18e]; decide) (by rw [zw18e]; decide) (by rw [zw18e]; rfl) (by decide) ?_
              have p19 : jv 0 0 a0 := by rw [← ezy17]; exact jv_k 0 (by rw [zw18e]; rfl)
              refine g_aload_n cx 0 rfl e_X11_best_152 ?_
              refine g_get cx cl_X11 fl_X11_455 0 (.int (F13 72)) e_X11_best_153 rfl rfl ?_
              refine g_bipush cx 72 (by decide) e_X11_best_156 ?_
              refine g_idiv cx (by decide) e_X11_best_158 ?_
              refine g_topi (fun x20 ex20 => ?_)
              refine g_iconst cx 1 (by decide) e_X11_best_159 ?_
              refine g_iadd cx e_X11_best_160 ?_
              refine g_topi (fun x21 ex21 => ?_)
              exact hret e_X11_best_161 (Nat.le_of_ble_eq_true rfl) (Nat.le_of_ble_eq_true rfl) rfl ⟨F13, R14, rfl, oF13, oR14, wTF13R14, wCF13R14, fF13, fR14, (jv_t x21)⟩
            · refine g_tableIn cx 162 e_X11_best_120 (by rw [zw18e]; decide) (by rw [zw18e]; decide) (by rw [zw18e]; rfl) (by decide) ?_
              have p22 : jv 1 1 a0 := by rw [← ezy17]; exact jv_k 1 (by rw [zw18e]; rfl)
              refine g_aload_n cx 0 rfl e_X11_best_162 ?_
              refine g_get cx cl_X11 fl_X11_455 0 (.int (F13 72)) e_X11_best_163 rfl rfl ?_
              refine g_bipush cx 6 (by decide) e_X11_best_166 ?_
              refine g_idiv cx (by decide) e_X11_best_168 ?_
              refine g_topi (fun x23 ex23 => ?_)
              refine g_bipush cx 12 (by decide) e_X11_best_169 ?_
              refine g_irem cx (by decide) e_X11_best_171 ?_
              refine g_topi (fun x24 ex24 => ?_)
              refine g_iconst cx 1 (by decide) e_X11_best_172 ?_
              refine g_iadd cx e_X11_best_173 ?_
              refine g_topi (fun x25 ex25 => ?_)
              exact hret e_X11_best_174 (Nat.le_of_ble_eq_true rfl) (Nat.le_of_ble_eq_true rfl) rfl ⟨F13, R14, rfl, oF13, oR14, wTF13R14, wCF13R14, fF13, fR14, (jv_t x25)⟩
            · refine g_tableIn cx 175 e_X11_best_120 (by rw [zw18e]; decide) (by rw [zw18e]; decide) (by rw [zw18e]; rfl) (by decide) ?_
              have p26 : jv 2 2 a0 := by rw [← ezy17]; exact jv_k 2 (by rw [zw18e]; rfl)
              refine g_aload_n cx 0 rfl e_X11_best_175 ?_
              refine g_get cx cl_X11 fl_X11_455 0 (.int (F13 72)) e_X11_best_176 rfl rfl ?_
              refine g_bipush cx 6 (by decide) e_X11_best_179 ?_
              refine g_irem cx (by decide) e_X11_best_181 ?_
              refine g_topi (fun x27 ex27 => ?_)
              refine g_iconst cx 1 (by decide) e_X11_best_182 ?_
              refine g_iadd cx e_X11_best_183 ?_
              refine g_topi (fun x28 ex28 => ?_)
              exact hret e_X11_best_184 (Nat.le_of_ble_eq_true rfl) (Nat.le_of_ble_eq_true rfl) rfl ⟨F13, R14, rfl, oF13, oR14, wTF13R14, wCF13R14, fF13, fR14, (jv_t x28)⟩
            · refine g_tableIn cx 185 e_X11_best_120 (by rw [zw18e]; decide) (by rw [zw18e]; decide) (by rw [zw18e]; rfl) (by decide) ?_
              have p29 : jv 3 3 a0 := by rw [← ezy17]; exact jv_k 3 (by rw [zw18e]; rfl)
              refine g_aload_n cx 0 rfl e_X11_best_185 ?_
              refine g_get cx cl_X11 fl_X11_449 0 (.int (F13 70)) e_X11_best_186 rfl rfl ?_
              exact hret e_X11_best_189 (Nat.le_of_ble_eq_true rfl) (Nat.le_of_ble_eq_true rfl) rfl ⟨F13, R14, rfl, oF13, oR14, wTF13R14, wCF13R14, fF13, fR14, (jv_t (F13 70))⟩
          · refine g_tableOut cx 190 e_X11_best_120 zw18 (by decide) ?_
            have p30 := jv_so 4 4 zw18 p6 ezy17 (by decide)
            refine g_aload_n cx 0 rfl e_X11_best_190 ?_
            refine g_get cx cl_X11 fl_X11_452 0 (.int (F13 71)) e_X11_best_191 rfl rfl ?_
            exact hret e_X11_best_194 (Nat.le_of_ble_eq_true rfl) (Nat.le_of_ble_eq_true rfl) rfl ⟨F13, R14, rfl, oF13, oR14, wTF13R14, wCF13R14, fF13, fR14, (jv_t (F13 71))⟩
        · have p31 := gn_lt 0 863 (gc_nle zc15) py12 (jv_k (x := 864) 864 (by decide)) (by decide)
          refine g_iload_n cx 2 rfl e_X11_best_24 ?_
          refine g_bipush cx 72 (by decide) e_X11_best_25 ?_
          refine g_idiv cx (by decide) e_X11_best_27 ?_
          refine g_topi (fun x32 ex32 => ?_)
          have zx32 := jv_div 0 11 ex32 p31 (jv_k (x := 72) 72 (by decide)) (by decide)
          refine g_iconst cx 1 (by decide) e_X11_best_28 ?_
          refine g_iadd cx e_X11_best_29 ?_
          refine g_topi (fun x33 ex33 => ?_)
          have zx33 := jv_add 1 12 ex33 zx32.2 (jv_k (x := 1) 1 (by decide)) (by decide)
          refine g_istore_n cx [(3, .int x33), (0, .ref (ad 0)), (1, .int a0), (2, .int y12)] e_X11_best_30 (by decide) rfl ?_
          refine g_iload_n cx 3 rfl e_X11_best_31 ?_
          refine g_bipush cx 6 (by decide) e_X11_best_32 ?_
          refine g_irem cx (by decide) e_X11_best_34 ?_
          refine g_topi (fun x34 ex34 => ?_)
          have zx34 := jv_rem 0 5 ex34 p31 (jv_k (x := 6) 6 (by decide)) (by decide)
          refine g_iconst cx 1 (by decide) e_X11_best_35 ?_
          refine g_iadd cx e_X11_best_36 ?_
          refine g_topi (fun x35 ex35 => ?_)
          have zx35 := jv_add 1 6 ex35 zx34.2 (jv_k (x := 1) 1 (by decide)) (by decide)
          refine g_istore cx [(4, .int x35), (3, .int x33), (0, .ref (ad 0)), (1, .int a0), (2, .int y12)] e_X11_best_37 (by decide) rfl ?_
          refine g_aload_n cx 2 rfl e_X11_best_39 ?_
          refine g_iconst cx 0 (by decide) e_X11_best_40 ?_
          refine g_put cx cl_X11 fl_X11_309 0 (wM X ad (upd F13 44 0) R14) e_X11_best_41 rfl rfl rfl rfl (Nat.le_of_ble_eq_true rfl) rfl ?_
          obtain ⟨F36, hF36⟩ : ∃ z, z = upd F13 44 0 := ⟨_, rfl⟩
          rw [← hF36]
          have oF36 : g_ok LK_wM F36 := by rw [hF36]; exact g_ok_p oF13 (jv_k (x := 0) 0 (by decide)) rfl
          have fF36 : g_fr md_X11_best F F36 := by rw [hF36]; exact g_fr_u fF13 rfl
          have wTF36 : WT F36 R14 := by rw [hF36]; exact WT_u wTF13R14 rfl
          have wCF36 : WC F36 R14 := by rw [hF36]; exact WC_u wCF13R14 rfl
          refine g_iconst cx 0 (by decide) e_X11_best_44 ?_
          refine g_istore cx [(5, .int 0), (4, .int x35), (3, .int x33), (0, .ref (ad 0)), (1, .int a0), (2, .int y12)] e_X11_best_45 (by decide) rfl ?_
          have J47 : ∀ (N : Nat) (F38 : Nat → Int32) (R39 : Nat → Nat → Int32) (y37 : Int32), (g_ok LK_wM F38) → (g_fr md_X11_best F F38) → (g_okR LA_wM R39) → (g_fr mr_X11_best R R39) → (WT F38 R39) → (WC F38 R39) → (jv 0 6 y37) → ((F38 44).toInt = (y37 : Int32).toInt) → (2147483647 - y37.toInt).toNat < N → G X E 6 0 0 (wM X ad F38 R39) [(0, .ref (ad 0)), (1, .int a0), (2, .int y12), (3, .int x33), (4, .int x35), (5, .int y37)] 47 [] := by
            intro N
            induction N with
            | zero => intro F38 R39 y37 oF38 fF38 oR39 fR39 wTF38R39 wCF38R39 py37 zi47_0 hm; exact absurd hm (Nat.not_lt_zero _)
            | succ N ih47 =>
              intro F38 R39 y37 oF38 fF38 oR39 fR39 wTF38R39 wCF38R39 py37 zi47_0 hm47
              have p40 : jv 0 6 (F38 44) := ⟨by have q0 := (g_ok_g oF38 11 rfl).1; have q1 := (g_ok_g oF38 11 rfl).2; have q2 := py37.1; have q3 := py37.2; have q4 := zi47_0; omega, by have q0 := (g_ok_g oF38 11 rfl).1; have q1 := (g_ok_g oF38 11 rfl).2; have q2 := py37.1; have q3 := py37.2; have q4 := zi47_0; omega⟩
              refine g_iload cx 5 rfl e_X11_best_47 ?_
              refine g_iload cx 4 rfl e_X11_best_49 ?_
              refine g_icmp_ge cx 78 e_X11_best_51 (by decide) (fun zc41 => ?_) (fun zc41 => ?_)
              · have p42 := gn_ge 1 6 (gc_le zc41) py37 zx35.2 (by decide)
                refine g_aload_n cx 0 rfl e_X11_best_78 ?_
                refine g_iload_n cx 2 rfl e_X11_best_79 ?_
                refine g_bipush cx 6 (by decide) e_X11_best_80 ?_
                refine g_idiv cx (by decide) e_X11_best_82 ?_
                refine g_topi (fun x43 ex43 => ?_)
                have zx43 := jv_div 0 143 ex43 p31 (jv_k (x := 6) 6 (by decide)) (by decide)
                refine g_bipush cx 12 (by decide) e_X11_best_83 ?_
                refine g_irem cx (by decide) e_X11_best_85 ?_
                refine g_topi (fun x44 ex44 => ?_)
                have zx44 := jv_rem 0 11 ex44 zx43.2 (jv_k (x := 12) 12 (by decide)) (by decide)
                refine g_iconst cx 1 (by decide) e_X11_best_86 ?_
                refine g_iadd cx e_X11_best_87 ?_
                refine g_topi (fun x45 ex45 => ?_)
                have zx45 := jv_add 1 12 ex45 zx44.2 (jv_k (x := 1) 1 (by decide)) (by decide)
                refine g_aload_n cx 0 rfl e_X11_best_88 ?_
                refine g_get cx cl_X11 fl_X11_159 0 (.int (F38 1)) e_X11_best_89 rfl rfl ?_
                refine g_toi (F 1) (fF38 1 rfl) ?_
                refine g_iload_n cx 3 rfl e_X11_best_92 ?_
                refine g_iload cx 4 rfl e_X11_best_93 ?_
                refine g_imul cx e_X11_best_95 ?_
                refine g_topi (fun x46 ex46 => ?_)
                have zx46 := jv_mul 1 72 ex46 zx33.2 zx35.2 (by decide)
                refine g_isub cx e_X11_best_96 ?_
                refine g_topi (fun x47 ex47 => ?_)
                refine g_cVvW cx [.int x45, .int x47] [] (w_X11_laysPaces l X ad F38 R39 oF38 oR39 wTF38R39 wCF38R39 x45 x47) ml_X11_443 yV_X11_laysPaces e_X11_best_97 (by unfold g_rr; decide) (by decide) 0 rfl rfl rfl (Nat.le_of_ble_eq_true rfl) (fun w49 h50 => ?_)
                obtain ⟨F51, R52, rfl, oF51, oR52, wTF51, wCF51, cF51, cR52⟩ := h50
                have fF51 : g_fr md_X11_best F F51 := g_fr_c fF38 cF51 rfl
                have fR52 : g_fr mr_X11_best R R52 := g_fr_c fR39 cR52 rfl
                refine g_aload_n cx 0 rfl e_X11_best_100 ?_
                refine g_cVvW cx [] [] (w_X11_laysThings l X ad F51 R52 oF51 oR52 wTF51 wCF51) ml_X11_425 yV_X11_laysThings e_X11_best_101 (by unfold g_rr; decide) (by decide) 0 rfl rfl rfl (Nat.le_of_ble_eq_true rfl) (fun w54 h55 => ?_)
                obtain ⟨F57, R58, rfl, oF57, oR58, wTF57, wCF57, cF57, cR58, zx56⟩ := h55
                have fF57 : g_fr md_X11_best F F57 := g_fr_c fF51 cF57 rfl
                have fR58 : g_fr mr_X11_best R R58 := g_fr_c fR52 cR58 rfl
                refine g_aload_n cx 0 rfl e_X11_best_104 ?_
                refine g_cVvW cx [] [] (w_X11_runs l X ad F57 R58 oF57 oR58 wTF57 wCF57 (WN_of wTF57 ((zx56.trans (((cF57 4 rfl).trans (cF51 4 rfl)).trans (fF38 4 rfl))).trans (((cF57 4 rfl).trans (cF51 4 rfl)).trans (fF38 4 rfl)).symm))) ml_X11_428 yV_X11_runs e_X11_best_105 (by unfold g_rr; decide) (by decide) 0 rfl rfl rfl (Nat.le_of_ble_eq_true rfl) (fun w60 h61 => ?_)
                obtain ⟨F62, R63, rfl, oF62, oR63, wTF62, wCF62, cF62, cR63⟩ := h61
                have fF62 : g_fr md_X11_best F F62 := g_fr_c fF57 cF62 rfl
                have fR63 : g_fr mr_X11_best R R63 := g_fr_c fR58 cR63 rfl
                refine g_aload_n cx 0 rfl e_X11_best_108 ?_
                refine g_iload_n cx 2 rfl e_X11_best_109 ?_
                refine g_cVvW cx [.int y12] [] (w_X11_better l X ad F62 R63 oF62 oR63 wTF62 wCF62 y12) ml_X11_461 yV_X11_better e_X11_best_110 (by unfold g_rr; decide) (by decide) 0 rfl rfl rfl (Nat.le_of_ble_eq_true rfl) (fun w65 h66 => ?_)
                obtain ⟨F67, R68, rfl, oF67, oR68, wTF67, wCF67, cF67, cR68⟩ := h66
                have fF67 : g_fr md_X11_best F F67 := g_fr_c fF62 cF67 rfl
                have fR68 : g_fr mr_X11_best R R68 := g_fr_c fR63 cR68 rfl
                obtain ⟨x69, ex69⟩ : ∃ z : Int32, z = y12 + Int32.ofInt 1 := ⟨_, rfl⟩
                refine g_iinc cx x69 [(2, .int x69), (0, .ref (ad 0)), (1, .int a0), (3, .int x33), (4, .int x35), (5, .int y37)] 2 e_X11_best_113 rfl ex69.symm (by decide) rfl ?_
                have zx69 := jv_add 1 864 (show x69 = y12 + 1 from ex69) p31 (jv_k (x := 1) 1 (by decide)) (by decide)
                refine g_goto cx 17 e_X11_best_116 (by decide) ?_
                refine g_lsub [1, 2, 0] [(0, .ref (ad 0)), (1, .int a0), (2, .int x69)] rfl ?_
                exact ih17 F67 R68 x69 oF67 fF67 oR68 fR68 wTF67 wCF67 (jv_w zx69.2 (by decide)) (Nat.lt_of_lt_of_le (show (2147483647 - x69.toInt).toNat < (2147483647 - y12.toInt).toNat from by have q0 := (jv_k (x := 1) 1 (by decide)).1; have q1 := (jv_k (x := 1) 1 (by decide)).2; have q2 := (jv_k (x := 864) 864 (by decide)).1; have q3 := (jv_k (x := 864) 864 (by decide)).2; have q4 := p40.1; have q5 := p40.2; have q6 := zx32.2.1; have q7 := zx32.2.2; have q8 := zx33.2.1; have q9 := zx33.2.2; have q10 := zx34.2.1; have q11 := zx34.2.2; have q12 := zx35.2.1; have q13 := zx35.2.2; have q14 := zx43.2.1; have q15 := zx43.2.2; have q16 := zx44.2.1; have q17 := zx44.2.2; have q18 := zx45.2.1; have q19 := zx45.2.2; have q20 := zx69.2.1; have q21 := zx69.2.2; have q22 := p31.1; have q23 := p31.2; have q24 := p42.1; have q25 := p42.2; have q26 := (gc_nle zc15); have q27 := (g_ed zx32.1 (by decide : Int32.toInt 72 = 72)); have q28 := (g_eq0 zx33.1); have q29 := (g_er zx34.1 (by decide : Int32.toInt 6 = 6)); have q30 := (g_eq0 zx35.1); have q31 := zi47_0; have q32 := (gc_le zc41); have q33 := (g_ed zx43.1 (by decide : Int32.toInt 6 = 6)); have q34 := (g_er zx44.1 (by decide : Int32.toInt 12 = 12)); have q35 := (g_eq0 zx45.1); have q36 := (g_eq0 zx69.1); omega) (Nat.le_of_lt_succ hm17))
              · have p70 := gn_lt 0 5 (gc_nle zc41) py37 zx35.2 (by decide)
                refine g_aload_n cx 0 rfl e_X11_best_54 ?_
                refine g_get cx cl_X11 fl_X11_83 0 (.ref (ad 25)) e_X11_best_55 rfl rfl ?_
                refine g_iload cx 5 rfl e_X11_best_58 ?_
                refine g_iload_n cx 3 rfl e_X11_best_60 ?_
                refine g_iast cx 25 (wM X ad F38 (g_u R39 25 (upd (R39 25) (Int32.toNatClampNeg y37) x33))) e_X11_best_61 rfl (jv_ix 60 p70 (by decide)) rfl ?_
                obtain ⟨R71, hR71⟩ : ∃ z, z = g_u R39 25 (upd (R39 25) (Int32.toNatClampNeg y37) x33) := ⟨_, rfl⟩
                rw [← hR71]
                have oR71 : g_okR LA_wM R71 := by rw [hR71]; exact g_okR_u oR39 rfl
                have fR71 : g_fr mr_X11_best R R71 := by rw [hR71]; exact g_fr_r fR39 rfl
                have wTR71 : WT F38 R71 := by rw [hR71]; exact WT_r wTF38R39 rfl
                have wCR71 : WC F38 R71 := by rw [hR71]; exact WC_r wCF38R39 rfl
                refine g_aload_n cx 0 rfl e_X11_best_62 ?_
                refine g_aload_n cx 0 rfl e_X11_best_63 ?_
                refine g_get cx cl_X11 fl_X11_309 0 (.int (F38 44)) e_X11_best_64 rfl rfl ?_
                refine g_iconst cx 1 (by decide) e_X11_best_67 ?_
                refine g_iadd cx e_X11_best_68 ?_
                refine g_topi (fun x72 ex72 => ?_)
                have zx72 := jv_add 1 7 ex72 p40 (jv_k (x := 1) 1 (by decide)) (by decide)
                refine g_put cx cl_X11 fl_X11_309 0 (wM X ad (upd F38 44 x72) R71) e_X11_best_69 rfl rfl rfl rfl (Nat.le_of_ble_eq_true rfl) rfl ?_
                obtain ⟨F73, hF73⟩ : ∃ z, z = upd F38 44 x72 := ⟨_, rfl⟩
                rw [← hF73]
                have oF73 : g_ok LK_wM F73 := by rw [hF73]; exact g_ok_p oF38 zx72.2 rfl
                have fF73 : g_fr md_X11_best F F73 := by rw [hF73]; exact g_fr_u fF38 rfl
                have wTF73 : WT F73 R71 := by rw [hF73]; exact WT_u wTR71 rfl
                have wCF73 : WC F73 R71 := by rw [hF73]; exact WC_u wCR71 rfl
                obtain ⟨x74, ex74⟩ : ∃ z : Int32, z = y37 + Int32.ofInt 1 := ⟨_, rfl⟩
                refine g_iinc cx x74 [(5, .int x74), (0, .ref (ad 0)), (1, .int a0), (2, .int y12), (3, .int x33), (4, .int x35)] 5 e_X11_best_72 rfl ex74.symm (by decide) rfl ?_
                have zx74 := jv_add 1 6 (show x74 = y37 + 1 from ex74) p70 (jv_k (x := 1) 1 (by decide)) (by decide)
                refine g_goto cx 47 e_X11_best_75 (by decide) ?_
                refine g_lsub [1, 2, 3, 4, 5, 0] [(0, .ref (ad 0)), (1, .int a0), (2, .int y12), (3, .int x33), (4, .int x35), (5, .int x74)] rfl ?_
                exact ih47 F73 R71 x74 oF73 fF73 oR71 fR71 wTF73 wCF73 (jv_w zx74.2 (by decide)) (by have q0 := (jv_k (x := 1) 1 (by decide)).1; have q1 := (jv_k (x := 1) 1 (by decide)).2; have q2 := (jv_k (x := 864) 864 (by decide)).1; have q3 := (jv_k (x := 864) 864 (by decide)).2; have q4 := p40.1; have q5 := p40.2; have q6 := (g_ok_g oF73 11 rfl).1; have q7 := (g_ok_g oF73 11 rfl).2; have q8 := zx32.2.1; have q9 := zx32.2.2; have q10 := zx33.2.1; have q11 := zx33.2.2; have q12 := zx34.2.1; have q13 := zx34.2.2; have q14 := zx35.2.1; have q15 := zx35.2.2; have q16 := zx72.2.1; have q17 := zx72.2.2; have q18 := zx74.2.1; have q19 := zx74.2.2; have q20 := p31.1; have q21 := p31.2; have q22 := p70.1; have q23 := p70.2; have q24 := (gc_nle zc15); have q25 := (g_ed zx32.1 (by decide : Int32.toInt 72 = 72)); have q26 := (g_eq0 zx33.1); have q27 := (g_er zx34.1 (by decide : Int32.toInt 6 = 6)); have q28 := (g_eq0 zx35.1); have q29 := zi47_0; have q30 := (gc_nle zc41); have q31 := (g_eq0 zx72.1); have q32 := (g_eq0 zx74.1); have q33 := (congrArg Int32.toInt (show F73 44 = x72 from (g_pu1 hF73))); have q34 := (congrArg Int32.toInt (show F73 44 = x72 from (g_pu1 hF73))); omega) (Nat.lt_of_lt_of_le (show (2147483647 - x74.toInt).toNat < (2147483647 - y37.toInt).toNat from by have q0 := (jv_k (x := 1) 1 (by decide)).1; have q1 := (jv_k (x := 1) 1 (by decide)).2; have q2 := (jv_k (x := 864) 864 (by decide)).1; have q3 := (jv_k (x := 864) 864 (by decide)).2; have q4 := p40.1; have q5 := p40.2; have q6 := (g_ok_g oF73 11 rfl).1; have q7 := (g_ok_g oF73 11 rfl).2; have q8 := zx32.2.1; have q9 := zx32.2.2; have q10 := zx33.2.1; have q11 := zx33.2.2; have q12 := zx34.2.1; have q13 := zx34.2.2; have q14 := zx35.2.1; have q15 := zx35.2.2; have q16 := zx72.2.1; have q17 := zx72.2.2; have q18 := zx74.2.1; have q19 := zx74.2.2; have q20 := p31.1; have q21 := p31.2; have q22 := p70.1; have q23 := p70.2; have q24 := (gc_nle zc15); have q25 := (g_ed zx32.1 (by decide : Int32.toInt 72 = 72)); have q26 := (g_eq0 zx33.1); have q27 := (g_er zx34.1 (by decide : Int32.toInt 6 = 6)); have q28 := (g_eq0 zx35.1); have q29 := zi47_0; have q30 := (gc_nle zc41); have q31 := (g_eq0 zx72.1); have q32 := (g_eq0 zx74.1); have q33 := (congrArg Int32.toInt (show F73 44 = x72 from (g_pu1 hF73))); have q34 := (congrArg Int32.toInt (show F73 44 = x72 from (g_pu1 hF73))); omega) (Nat.le_of_lt_succ hm47))
          refine g_lsub [3, 4, 5, 2, 1, 0] [(0, .ref (ad 0)), (1, .int a0), (2, .int y12), (3, .int x33), (4, .int x35), (5, .int 0)] rfl ?_
          exact J47 _ F36 R14 0 oF36 fF36 oR14 fR14 wTF36 wCF36 (jv_w (jv_k (x := 0) 0 (by decide)) (by decide)) (by have q0 := (jv_k (x := 0) 0 (by decide)).1; have q1 := (jv_k (x := 0) 0 (by decide)).2; have q2 := (g_ok_g oF36 11 rfl).1; have q3 := (g_ok_g oF36 11 rfl).2; have q4 := p5.1; have q5 := p5.2; have q6 := (gc_ne zc4); have q7 := (congrArg Int32.toInt (show F36 44 = 0 from (g_pu1 hF36))); have q8 := (congrArg Int32.toInt (show F36 44 = 0 from (g_pu1 hF36))); omega) (Nat.lt_succ_self _)
    refine g_lsub [1, 2, 0] [(0, .ref (ad 0)), (1, .int a0), (2, .int 0)] rfl ?_
    exact J17 _ F10 R11 0 oF10 fF10 oR11 fR11 wTF10 wCF10 (jv_w (jv_k (x := 0) 0 (by decide)) (by decide)) (Nat.lt_succ_self _)
  · have p75 := gn_eq 0 0 (gc_eq zc4) pr1 (jv_k (x := 0) 0 (by decide)) (by decide)
    refine g_iconst cx (-1) (by decide) e_X11_best_9 ?_
    exact hret e_X11_best_10 (Nat.le_of_ble_eq_true rfl) (Nat.le_of_ble_eq_true rfl) rfl ⟨F, R, rfl, hI, hA, hWT, hWC, (g_fr_rf F), (g_fr_rf R), (jv_w (jv_k (x := (-1)) (-1) (by decide)) (by decide))⟩
theorem e_X11_most_0 : g_dc cX11_most 0 (.iload_n 1) 1 1 := ⟨by decide +kernel, rfl⟩
theorem e_X11_most_1 : g_dc cX11_most 1 (.iconst 0) 1 2 := ⟨by decide +kernel, rfl⟩
theorem e_X11_most_2 : g_dc cX11_most 2 (.iconst 1) 1 3 := ⟨by decide +kernel, rfl⟩
theorem e_X11_most_3 : g_dc cX11_most 3 (.invokestatic 165) 3 6 := ⟨by decide +kernel, rfl⟩
theorem e_X11_most_6 : g_dc cX11_most 6 (.ifCond .ne 5) 3 9 := ⟨by decide +kernel, rfl⟩
theorem e_X11_most_9 : g_dc cX11_most 9 (.iconst (-1)) 1 10 := ⟨by decide +kernel, rfl⟩
theorem e_X11_most_10 : g_dc cX11_most 10 (.ireturn) 1 11 := ⟨by decide +kernel, rfl⟩
theorem e_X11_most_11 : g_dc cX11_most 11 (.iconst 0) 1 12 := ⟨by decide +kernel, rfl⟩
theorem e_X11_most_12 : g_dc cX11_most 12 (.istore_n 2) 1 13 := ⟨by decide +kernel, rfl⟩
theorem e_X11_most_13 : g_dc cX11_most 13 (.iconst 1) 1 14 := ⟨by decide +kernel, rfl⟩
theorem e_X11_most_14 : g_dc cX11_most 14 (.istore_n 3) 1 15 := ⟨by decide +kernel, rfl⟩
theorem e_X11_most_15 : g_dc cX11_most 15 (.iload_n 3) 1 16 := ⟨by decide +kernel, rfl⟩
theorem e_X11_most_16 : g_dc cX11_most 16 (.sipush 1024) 3 19 := ⟨by decide +kernel, rfl⟩
theorem e_X11_most_19 : g_dc cX11_most 19 (.if_icmp .ge 61) 3 22 := ⟨by decide +kernel, rfl⟩
theorem e_X11_most_22 : g_dc cX11_most 22 (.iload_n 3) 1 23 := ⟨by decide +kernel, rfl⟩
theorem e_X11_most_23 : g_dc cX11_most 23 (.aload_n 0) 1 24 := ⟨by decide +kernel, rfl⟩
theorem e_X11_most_24 : g_dc cX11_most 24 (.getfield 172) 3 27 := ⟨by decide +kernel, rfl⟩
theorem e_X11_most_27 : g_dc cX11_most 27 (.iconst (-1)) 1 28 := ⟨by decide +kernel, rfl⟩
theorem e_X11_most_28 : g_dc cX11_most 28 (.ixor) 1 29 := ⟨by decide +kernel, rfl⟩
theorem e_X11_most_29 : g_dc cX11_most 29 (.iand) 1 30 := ⟨by decide +kernel, rfl⟩
theorem e_X11_most_30 : g_dc cX11_most 30 (.ifCond .ne 44) 3 33 := ⟨by decide +kernel, rfl⟩
theorem e_X11_most_33 : g_dc cX11_most 33 (.iload_n 3) 1 34 := ⟨by decide +kernel, rfl⟩
theorem e_X11_most_34 : g_dc cX11_most 34 (.invokestatic 410) 3 37 := ⟨by decide +kernel, rfl⟩
theorem e_X11_most_37 : g_dc cX11_most 37 (.iload_n 2) 1 38 := ⟨by decide +kernel, rfl⟩
theorem e_X11_most_38 : g_dc cX11_most 38 (.invokestatic 410) 3 41 := ⟨by decide +kernel, rfl⟩
theorem e_X11_most_41 : g_dc cX11_most 41 (.if_icmp .gt 6) 3 44 := ⟨by decide +kernel, rfl⟩
theorem e_X11_most_44 : g_dc cX11_most 44 (.goto 30) 3 47 := ⟨by decide +kernel, rfl⟩
theorem e_X11_most_47 : g_dc cX11_most 47 (.aload_n 0) 1 48 := ⟨by decide +kernel, rfl⟩
theorem e_X11_most_48 : g_dc cX11_most 48 (.invokevirtual 422) 3 51 := ⟨by decide +kernel, rfl⟩
theorem e_X11_most_51 : g_dc cX11_most 51 (.aload_n 0) 1 52 := ⟨by decide +kernel, rfl⟩
theorem e_X11_most_52 : g_dc cX11_most 52 (.invokevirtual 425) 3 55 := ⟨by decide +kernel, rfl⟩
theorem e_X11_most_55 : g_dc cX11_most 55 (.aload_n 0) 1 56 := ⟨by decide +kernel, rfl⟩
theorem e_X11_most_56 : g_dc cX11_most 56 (.iload_n 3) 1 57 := ⟨by decide +kernel, rfl⟩
theorem e_X11_most_57 : g_dc cX11_most 57 (.putfield 312) 3 60 := ⟨by decide +kernel, rfl⟩
theorem e_X11_most_60 : g_dc cX11_most 60 (.aload_n 0) 1 61 := ⟨by decide +kernel, rfl⟩
theorem e_X11_most_61 : g_dc cX11_most 61 (.invokevirtual 428) 3 64 := ⟨by decide +kernel, rfl⟩
theorem e_X11_most_64 : g_dc cX11_most 64 (.aload_n 0) 1 65 := ⟨by decide +kernel, rfl⟩
theorem e_X11_most_65 : g_dc cX11_most 65 (.invokevirtual 407) 3 68 := ⟨by decide +kernel, rfl⟩
theorem e_X11_most_68 : g_dc cX11_most 68 (.iload_n 3) 1 69 := ⟨by decide +kernel, rfl⟩
theorem e_X11_most_69 : g_dc cX11_most 69 (.if_icmp .ne 5) 3 72 := ⟨by decide +kernel, rfl⟩
theorem e_X11_most_72 : g_dc cX11_most 72 (.iload_n 3) 1 73 := ⟨by decide +kernel, rfl⟩
theorem e_X11_most_73 : g_dc cX11_most 73 (.istore_n 2) 1 74 := ⟨by decide +kernel, rfl⟩
theorem e_X11_most_74 : g_dc cX11_most 74 (.iinc 3 1) 3 77 := ⟨by decide +kernel, rfl⟩
theorem e_X11_most_77 : g_dc cX11_most 77 (.goto (-62)) 3 80 := ⟨by decide +kernel, rfl⟩
theorem e_X11_most_80 : g_dc cX11_most 80 (.iload_n 1) 1 81 := ⟨by decide +kernel, rfl⟩
theorem e_X11_most_81 : g_dc cX11_most 81 (.ifCond .ne 10) 3 84 := ⟨by decide +kernel, rfl⟩
theorem e_X11_most_84 : g_dc cX11_most 84 (.iload_n 2) 1 85 := ⟨by decide +kernel, rfl⟩
theorem e_X11_most_85 : g_dc cX11_most 85 (.invokestatic 410) 3 88 := ⟨by decide +kernel, rfl⟩
theorem e_X11_most_88 : g_dc cX11_most 88 (.goto 4) 3 91 := ⟨by decide +kernel, rfl⟩
theorem e_X11_most_91 : g_dc cX11_most 91 (.iload_n 2) 1 92 := ⟨by decide +kernel, rfl⟩
theorem e_X11_most_92 : g_dc cX11_most 92 (.ireturn) 1 93 := ⟨by decide +kernel, rfl⟩
def md_X11_most : List Nat := [3, 42, 43, 44, 45, 46, 47, 48, 49, 50, 51, 65, 66, 67, 68, 69]
def mr_X11_most : List Nat := [23, 24, 25, 26, 27, 28, 29, 30, 31, 32, 33, 34, 35, 36, 37]
set_option maxHeartbeats 4000000 in
set_option maxRecDepth 100000 in
theorem w_X11_most (l : Launch) (X : gX) (ad : Nat → Nat) (F : Nat → Int32) (R : Nat → Nat → Int32) (hI : g_ok LK_wM F) (hA : g_okR LA_wM R) (hWT : WT F R) (hWC : WC F R) (a0 : Int32) : g_Ci l X yX11_most cX11_most 4 (some .int) 7 0 0 [.ref (ad 0), .int a0] (wM X ad F R) (fun r w => ∃ (F' : Nat → Int32) (R' : Nat → Nat → Int32), w = wM X ad F' R' ∧ g_ok LK_wM F' ∧ g_okR LA_wM R' ∧ WT F' R' ∧ WC F' R' ∧ g_fr md_X11_most F F' ∧ g_fr mr_X11_most R R' ∧ jv (-1) 1023 r) := by
  refine g_mi (by decide +kernel) (Nat.le_of_ble_eq_true rfl) (fun E cx hret => ?_)
  refine g_iload_n cx 1 rfl e_X11_most_0 ?_
  refine g_iconst cx 0 (by decide) e_X11_most_1 ?_
  refine g_iconst cx 1 (by decide) e_X11_most_2 ?_
  refine g_cSiW cx [.int a0, .int 0, .int 1] [] (c_X11_in l X (wM X ad F R) a0 0 1) ml_X11_165 yS_X11_in rfl e_X11_most_3 (by unfold g_rr; decide) (by decide) rfl (Nat.le_of_ble_eq_true rfl) (fun r1 w2 h3 => ?_)
  obtain ⟨rfl, hr1⟩ := h3
  have pr1 : jv 0 1 r1 := by rw [hr1]; exact gi_01 _ _ _
  refine g_if_ne cx 11 e_X11_most_6 (by decide) (fun zc4 => ?_) (fun zc4 => ?_)
  · have p5 := gn_neL 1 1 (gc_ne zc4) pr1 (jv_k (x := 0) 0 (by decide)) (by decide)
    have p6 := jv_i 0 1 (jv_t a0) (gi_in (A := 0) (B := 1) hr1 zc4 (by decide) (by decide)) (by decide)
    refine g_iconst cx 0 (by decide) e_X11_most_11 ?_
    refine g_istore_n cx [(2, .int 0), (0, .ref (ad 0)), (1, .int a0)] e_X11_most_12 (by decide) rfl ?_
    refine g_iconst cx 1 (by decide) e_X11_most_13 ?_
    refine g_istore_n cx [(3, .int 1), (2, .int 0), (0, .ref (ad 0)), (1, .int a0)] e_X11_most_14 (by decide) rfl ?_
    have J15 : ∀ (N : Nat) (F9 : Nat → Int32) (R10 : Nat → Nat → Int32) (y7 : Int32) (y8 : Int32), (g_ok LK_wM F9) → (g_fr md_X11_most F F9) → (g_okR LA_wM R10) → (g_fr mr_X11_most R R10) → (WT F9 R10) → (WC F9 R10) → (jv 0 1023 y7) → (jv 1 1024 y8) → (2147483647 - y8.toInt).toNat < N → G X E 4 0 0 (wM X ad F9 R10) [(0, .ref (ad 0)), (1, .int a0), (2, .int y7), (3, .int y8)] 15 [] := by
      intro N
      induction N with
      | zero => intro F9 R10 y7 y8 oF9 fF9 oR10 fR10 wTF9R10 wCF9R10 py7 py8 hm; exact absurd hm (Nat.not_lt_zero _)
      | succ N ih15 =>
        intro F9 R10 y7 y8 oF9 fF9 oR10 fR10 wTF9R10 wCF9R10 py7 py8 hm15
        refine g_iload_n cx 3 rfl e_X11_most_15 ?_
        refine g_sipush cx 1024 (by decide) e_X11_most_16 ?_
        refine g_icmp_ge cx 80 e_X11_most_19 (by decide) (fun zc11 => ?_) (fun zc11 => ?_)
        · have p12 := gn_ge 1024 1024 (gc_le zc11) py8 (jv_k (x := 1024) 1024 (by decide)) (by decide)
          refine g_iload_n cx 1 rfl e_X11_most_80 ?_
          have J92 : ∀ (y13 : Int32), (jv 0 1023 y13) → G X E 4 0 0 (wM X ad F9 R10) [] 92 [.int y13] := by
            intro y13 py13
            exact hret e_X11_most_92 (Nat.le_of_ble_eq_true rfl) (Nat.le_of_ble_eq_true rfl) rfl ⟨F9, R10, rfl, oF9, oR10, wTF9R10, wCF9R10, fF9, fR10, (jv_w py13 (by decide))⟩
          refine g_if_ne cx 91 e_X11_most_81 (by decide) (fun zc14 => ?_) (fun zc14 => ?_)
          · have p15 := gn_neL 1 1 (gc_ne zc14) p6 (jv_k (x := 0) 0 (by decide)) (by decide)
            refine g_iload_n cx 2 rfl e_X11_most_91 ?_
            refine g_lsub [] [] rfl ?_
            exact J92 y7 py7
          · have p16 := gn_eq 0 0 (gc_eq zc14) p6 (jv_k (x := 0) 0 (by decide)) (by decide)
            refine g_iload_n cx 2 rfl e_X11_most_84 ?_
            refine g_cSiW cx [.int y7] [] (w_X11_bits l X ad F9 R10 oF9 oR10 y7) ml_X11_410 yS_X11_bits rfl e_X11_most_85 (by unfold g_rr; decide) (by decide) rfl (Nat.le_of_ble_eq_true rfl) (fun r17 w18 h19 => ?_)
            obtain ⟨rfl, pr17⟩ := h19
            refine g_goto cx 92 e_X11_most_88 (by decide) ?_
            refine g_lsub [] [] rfl ?_
            exact J92 r17 (jv_w pr17 (by decide))
        · have p20 := gn_lt 1 1023 (gc_nle zc11) py8 (jv_k (x := 1024) 1024 (by decide)) (by decide)
          refine g_iload_n cx 3 rfl e_X11_most_22 ?_
          refine g_aload_n cx 0 rfl e_X11_most_23 ?_
          refine g_get cx cl_X11 fl_X11_172 0 (.int (F9 4)) e_X11_most_24 rfl rfl ?_
          refine g_toi (F 4) (fF9 4 rfl) ?_
          refine g_iconst cx (-1) (by decide) e_X11_most_27 ?_
          refine g_ixor cx e_X11_most_28 ?_
          refine g_topi (fun x21 ex21 => ?_)
          refine g_iand cx e_X11_most_29 ?_
          refine g_topi (fun x22 ex22 => ?_)
          have px22 := jv_andL 0 1023 ex22 p20 (by decide)
          have J74 : ∀ (F24 : Nat → Int32) (R25 : Nat → Nat → Int32) (y23 : Int32), (g_ok LK_wM F24) → (g_fr md_X11_most F F24) → (g_okR LA_wM R25) → (g_fr mr_X11_most R R25) → (WT F24 R25) → (WC F24 R25) → (jv 0 1023 y23) → G X E 4 0 0 (wM X ad F24 R25) [(0, .ref (ad 0)), (1, .int a0), (2, .int y23), (3, .int y8)] 74 [] := by
            intro F24 R25 y23 oF24 fF24 oR25 fR25 wTF24R25 wCF24R25 py23
            obtain ⟨x26, ex26⟩ : ∃ z : Int32, z = y8 + Int32.ofInt 1 := ⟨_, rfl⟩
            refine g_iinc cx x26 [(3, .int x26), (0, .ref (ad 0)), (1, .int a0), (2, .int y23)] 3 e_X11_most_74 rfl ex26.symm (by decide) rfl ?_
            have zx26 := jv_add 2 1024 (show x26 = y8 + 1 from ex26) p20 (jv_k (x := 1) 1 (by decide)) (by decide)
            refine g_goto cx 15 e_X11_most_77 (by decide) ?_
            refine g_lsub [1, 2, 3, 0] [(0, .ref (ad 0)), (1, .int a0), (2, .int y23), (3, .int x26)] rfl ?_
            exact ih15 F24 R25 y23 x26 oF24 fF24 oR25 fR25 wTF24R25 wCF24R25 py23 (jv_w zx26.2 (by decide)) (Nat.lt_of_lt_of_le (show (2147483647 - x26.toInt).toNat < (2147483647 - y8.toInt).toNat from by have q0 := (jv_k (x := 1) 1 (by decide)).1; have q1 := (jv_k (x := 1) 1 (by decide)).2; have q2 := (jv_k (x := 1024) 1024 (by decide)).1; have q3 := (jv_k (x := 1024) 1024 (by decide)).2; have q4 := zx26.2.1; have q5 := zx26.2.2; have q6 := p20.1; have q7 := p20.2; have q8 := (gc_nle zc11); have q9 := (g_eq0 zx26.1); omega) (Nat.le_of_lt_succ hm15))
          refine g_if_ne cx 74 e_X11_most_30 (by decide) (fun zc27 => ?_) (fun zc27 => ?_)
          · have p28 := gn_neL 1 1023 (gc_ne zc27) px22 (jv_k (x := 0) 0 (by decide)) (by decide)
            exact J74 F9 R10 y7 oF9 fF9 oR10 fR10 wTF9R10 wCF9R10 py7
          · have p29 := gn_eq 0 0 (gc_eq zc27) px22 (jv_k (x := 0) 0 (by decide)) (by decide)
            refine g_iload_n cx 3 rfl e_X11_most_33 ?_
            refine g_cSiW cx [.int y8] [] (w_X11_bits l X ad F9 R10 oF9 oR10 y8) ml_X11_410 yS_X11_bits rfl e_X11_most_34 (by unfold g_rr; decide) (by decide) rfl (Nat.le_of_ble_eq_true rfl) (fun r30 w31 h32 => ?_)
            obtain ⟨rfl, pr30⟩ := h32
            refine g_iload_n cx 2 rfl e_X11_most_37 ?_
            refine g_cSiW cx [.int y7] [.int r30] (w_X11_bits l X ad F9 R10 oF9 oR10 y7) ml_X11_410 yS_X11_bits rfl e_X11_most_38 (by unfold g_rr; decide) (by decide) rfl (Nat.le_of_ble_eq_true rfl) (fun r33 w34 h35 => ?_)
            obtain ⟨rfl, pr33⟩ := h35
            refine g_icmp_gt cx 47 e_X11_most_41 (by decide) (fun zc36 => ?_) (fun zc36 => ?_)
            · have p37 := gn_lt 0 9 (gc_lt zc36) pr33 pr30 (by decide)
              have p38 := gn_gt 1 10 (gc_lt zc36) pr30 pr33 (by decide)
              refine g_aload_n cx 0 rfl e_X11_most_47 ?_
              refine g_cVvW cx [] [] (w_X11_laysPull l X ad F9 R10 oF9 oR10 wTF9R10 wCF9R10) ml_X11_422 yV_X11_laysPull e_X11_most_48 (by unfold g_rr; decide) (by decide) 0 rfl rfl rfl (Nat.le_of_ble_eq_true rfl) (fun w40 h41 => ?_)
              obtain ⟨F42, R43, rfl, oF42, oR43, wTF42, wCF42, cF42, cR43⟩ := h41
              have fF42 : g_fr md_X11_most F F42 := g_fr_c fF9 cF42 rfl
              have fR43 : g_fr mr_X11_most R R43 := g_fr_c fR10 cR43 rfl
              refine g_aload_n cx 0 rfl e_X11_most_51 ?_
              refine g_cVvW cx [] [] (w_X11_laysThings l X ad F42 R43 oF42 oR43 wTF42 wCF42) ml_X11_425 yV_X11_laysThings e_X11_most_52 (by unfold g_rr; decide) (by decide) 0 rfl rfl rfl (Nat.le_of_ble_eq_true rfl) (fun w45 h46 => ?_)
              obtain ⟨F48, R49, rfl, oF48, oR49, wTF48, wCF48, cF48, cR49, zx47⟩ := h46
              have fF48 : g_fr md_X11_most F F48 := g_fr_c fF42 cF48 rfl
              have fR49 : g_fr mr_X11_most R R49 := g_fr_c fR43 cR49 rfl
              refine g_aload_n cx 0 rfl e_X11_most_55 ?_
              refine g_iload_n cx 3 rfl e_X11_most_56 ?_
              refine g_put cx cl_X11 fl_X11_312 0 (wM X ad (upd F48 42 y8) R49) e_X11_most_57 rfl rfl rfl rfl (Nat.le_of_ble_eq_true rfl) rfl ?_
              obtain ⟨F50, hF50⟩ : ∃ z, z = upd F48 42 y8 := ⟨_, rfl⟩
              rw [← hF50]
              have oF50 : g_ok LK_wM F50 := by rw [hF50]; exact g_ok_u oF48 rfl
              have fF50 : g_fr md_X11_most F F50 := by rw [hF50]; exact g_fr_u fF48 rfl
              have wTF50 : WT F50 R49 := by rw [hF50]; exact WT_u wTF48 rfl
              have wCF50 : WC F50 R49 := by rw [hF50]; exact WC_u wCF48 rfl
              refine g_aload_n cx 0 rfl e_X11_most_60 ?_
              refine g_cVvW cx [] [] (w_X11_runs l X ad F50 R49 oF50 oR49 wTF50 wCF50 (WN_sub wTF50 (g_pu1 hF50) (by rw [show F50 4 = F 4 from ((((g_pu2 hF50 rfl).trans (cF48 4 rfl)).trans (cF42 4 rfl)).trans (fF9 4 rfl)), ← ex21, ← ex22]; exact zc27))) ml_X11_428 yV_X11_runs e_X11_most_61 (by unfold g_rr; decide) (by decide) 0 rfl rfl rfl (Nat.le_of_ble_eq_true rfl) (fun w52 h53 => ?_)
              obtain ⟨F54, R55, rfl, oF54, oR55, wTF54, wCF54, cF54, cR55⟩ := h53
              have fF54 : g_fr md_X11_most F F54 := g_fr_c fF50 cF54 rfl
              have fR55 : g_fr mr_X11_most R R55 := g_fr_c fR49 cR55 rfl
              refine g_aload_n cx 0 rfl e_X11_most_64 ?_
              refine g_cViW cx [] [] (w_X11_standing l X ad F54 R55 oF54 oR55 wTF54 wCF54) ml_X11_407 yV_X11_standing e_X11_most_65 (by unfold g_rr; decide) (by decide) 0 rfl rfl rfl (Nat.le_of_ble_eq_true rfl) (fun r56 w57 h58 => ?_)
              obtain ⟨rfl, pr56⟩ := h58
              refine g_iload_n cx 3 rfl e_X11_most_68 ?_
              refine g_icmp_ne cx 74 e_X11_most_69 (by decide) (fun zc59 => ?_) (fun zc59 => ?_)
              · exact J74 F54 R55 y7 oF54 fF54 oR55 fR55 wTF54 wCF54 py7
              · have p60 := gn_eq 1 1023 (gc_eq zc59) pr56 p20 (by decide)
                refine g_iload_n cx 3 rfl e_X11_most_72 ?_
                refine g_istore_n cx [(2, .int y8), (0, .ref (ad 0)), (1, .int a0), (3, .int y8)] e_X11_most_73 (by decide) rfl ?_
                refine g_lsub [1, 2, 0, 3] [(0, .ref (ad 0)), (1, .int a0), (2, .int y8), (3, .int y8)] rfl ?_
                exact J74 F54 R55 y8 oF54 fF54 oR55 fR55 wTF54 wCF54 (jv_w p20 (by decide))
            · refine g_goto cx 74 e_X11_most_44 (by decide) ?_
              exact J74 F9 R10 y7 oF9 fF9 oR10 fR10 wTF9R10 wCF9R10 py7
    refine g_lsub [2, 3, 1, 0] [(0, .ref (ad 0)), (1, .int a0), (2, .int 0), (3, .int 1)] rfl ?_
    exact J15 _ F R 0 1 hI (g_fr_rf F) hA (g_fr_rf R) hWT hWC (jv_w (jv_k (x := 0) 0 (by decide)) (by decide)) (jv_w (jv_k (x := 1) 1 (by decide)) (by decide)) (Nat.lt_succ_self _)
  · have p61 := gn_eq 0 0 (gc_eq zc4) pr1 (jv_k (x := 0) 0 (by decide)) (by decide)
    refine g_iconst cx (-1) (by decide) e_X11_most_9 ?_
    exact hret e_X11_most_10 (Nat.le_of_ble_eq_true rfl) (Nat.le_of_ble_eq_true rfl) rfl ⟨F, R, rfl, hI, hA, hWT, hWC, (g_fr_rf F), (g_fr_rf R), (jv_w (jv_k (x := (-1)) (-1) (by decide)) (by decide))⟩
theorem e_X11_worth_0 : g_dc cX11_worth 0 (.iload_n 2) 1 1 := ⟨by decide +kernel, rfl⟩
theorem e_X11_worth_1 : g_dc cX11_worth 1 (.iconst 0) 1 2 := ⟨by decide +kernel, rfl⟩
theorem e_X11_worth_2 : g_dc cX11_worth 2 (.iconst 3) 1 3 := ⟨by decide +kernel, rfl⟩
theorem e_X11_worth_3 : g_dc cX11_worth 3 (.invokestatic 165) 3 6 := ⟨by decide +kernel, rfl⟩
theorem e_X11_worth_6 : g_dc cX11_worth 6 (.ifCond .ne 7) 3 9 := ⟨by decide +kernel, rfl⟩
theorem e_X11_worth_9 : g_dc cX11_worth 9 (.ldc_w 470) 3 12 := ⟨by decide +kernel, rfl⟩
theorem e_X11_worth_12 : g_dc cX11_worth 12 (.ireturn) 1 13 := ⟨by decide +kernel, rfl⟩
theorem e_X11_worth_13 : g_dc cX11_worth 13 (.iload_n 2) 1 14 := ⟨by decide +kernel, rfl⟩
theorem e_X11_worth_14 : g_dc cX11_worth 14 (.iconst 2) 1 15 := ⟨by decide +kernel, rfl⟩
theorem e_X11_worth_15 : g_dc cX11_worth 15 (.if_icmp .ge 7) 3 18 := ⟨by decide +kernel, rfl⟩
theorem e_X11_worth_18 : g_dc cX11_worth 18 (.iconst 1) 1 19 := ⟨by decide +kernel, rfl⟩
theorem e_X11_worth_19 : g_dc cX11_worth 19 (.goto 4) 3 22 := ⟨by decide +kernel, rfl⟩
theorem e_X11_worth_22 : g_dc cX11_worth 22 (.iconst 0) 1 23 := ⟨by decide +kernel, rfl⟩
theorem e_X11_worth_23 : g_dc cX11_worth 23 (.istore_n 3) 1 24 := ⟨by decide +kernel, rfl⟩
theorem e_X11_worth_24 : g_dc cX11_worth 24 (.iload_n 3) 1 25 := ⟨by decide +kernel, rfl⟩
theorem e_X11_worth_25 : g_dc cX11_worth 25 (.ifCond .eq 26) 3 28 := ⟨by decide +kernel, rfl⟩
theorem e_X11_worth_28 : g_dc cX11_worth 28 (.iload_n 1) 1 29 := ⟨by decide +kernel, rfl⟩
theorem e_X11_worth_29 : g_dc cX11_worth 29 (.iconst 0) 1 30 := ⟨by decide +kernel, rfl⟩
theorem e_X11_worth_30 : g_dc cX11_worth 30 (.iconst 5) 1 31 := ⟨by decide +kernel, rfl⟩
theorem e_X11_worth_31 : g_dc cX11_worth 31 (.invokestatic 165) 3 34 := ⟨by decide +kernel, rfl⟩
theorem e_X11_worth_34 : g_dc cX11_worth 34 (.ifCond .eq 34) 3 37 := ⟨by decide +kernel, rfl⟩
theorem e_X11_worth_37 : g_dc cX11_worth 37 (.aload_n 0) 1 38 := ⟨by decide +kernel, rfl⟩
theorem e_X11_worth_38 : g_dc cX11_worth 38 (.getfield 169) 3 41 := ⟨by decide +kernel, rfl⟩
theorem e_X11_worth_41 : g_dc cX11_worth 41 (.iload_n 1) 1 42 := ⟨by decide +kernel, rfl⟩
theorem e_X11_worth_42 : g_dc cX11_worth 42 (.invokestatic 175) 3 45 := ⟨by decide +kernel, rfl⟩
theorem e_X11_worth_45 : g_dc cX11_worth 45 (.ifCond .ne 27) 3 48 := ⟨by decide +kernel, rfl⟩
theorem e_X11_worth_48 : g_dc cX11_worth 48 (.goto 20) 3 51 := ⟨by decide +kernel, rfl⟩
theorem e_X11_worth_51 : g_dc cX11_worth 51 (.aload_n 0) 1 52 := ⟨by decide +kernel, rfl⟩
theorem e_X11_worth_52 : g_dc cX11_worth 52 (.iload_n 1) 1 53 := ⟨by decide +kernel, rfl⟩
theorem e_X11_worth_53 : g_dc cX11_worth 53 (.invokevirtual 179) 3 56 := ⟨by decide +kernel, rfl⟩
theorem e_X11_worth_56 : g_dc cX11_worth 56 (.ifCond .eq 12) 3 59 := ⟨by decide +kernel, rfl⟩
theorem e_X11_worth_59 : g_dc cX11_worth 59 (.aload_n 0) 1 60 := ⟨by decide +kernel, rfl⟩
theorem e_X11_worth_60 : g_dc cX11_worth 60 (.getfield 25) 3 63 := ⟨by decide +kernel, rfl⟩
theorem e_X11_worth_63 : g_dc cX11_worth 63 (.iload_n 1) 1 64 := ⟨by decide +kernel, rfl⟩
theorem e_X11_worth_64 : g_dc cX11_worth 64 (.iaload) 1 65 := ⟨by decide +kernel, rfl⟩
theorem e_X11_worth_65 : g_dc cX11_worth 65 (.ifCond .ne 7) 3 68 := ⟨by decide +kernel, rfl⟩
theorem e_X11_worth_68 : g_dc cX11_worth 68 (.ldc_w 470) 3 71 := ⟨by decide +kernel, rfl⟩
theorem e_X11_worth_71 : g_dc cX11_worth 71 (.ireturn) 1 72 := ⟨by decide +kernel, rfl⟩
theorem e_X11_worth_72 : g_dc cX11_worth 72 (.aload_n 0) 1 73 := ⟨by decide +kernel, rfl⟩
theorem e_X11_worth_73 : g_dc cX11_worth 73 (.invokevirtual 440) 3 76 := ⟨by decide +kernel, rfl⟩
theorem e_X11_worth_76 : g_dc cX11_worth 76 (.aload_n 0) 1 77 := ⟨by decide +kernel, rfl⟩
theorem e_X11_worth_77 : g_dc cX11_worth 77 (.invokevirtual 407) 3 80 := ⟨by decide +kernel, rfl⟩
theorem e_X11_worth_80 : g_dc cX11_worth 80 (.invokestatic 410) 3 83 := ⟨by decide +kernel, rfl⟩
theorem e_X11_worth_83 : g_dc cX11_worth 83 (.istore 4) 2 85 := ⟨by decide +kernel, rfl⟩
theorem e_X11_worth_85 : g_dc cX11_worth 85 (.aload_n 0) 1 86 := ⟨by decide +kernel, rfl⟩
theorem e_X11_worth_86 : g_dc cX11_worth 86 (.invokevirtual 413) 3 89 := ⟨by decide +kernel, rfl⟩
theorem e_X11_worth_89 : g_dc cX11_worth 89 (.istore 5) 2 91 := ⟨by decide +kernel, rfl⟩
theorem e_X11_worth_91 : g_dc cX11_worth 91 (.aload_n 0) 1 92 := ⟨by decide +kernel, rfl⟩
theorem e_X11_worth_92 : g_dc cX11_worth 92 (.invokevirtual 422) 3 95 := ⟨by decide +kernel, rfl⟩
theorem e_X11_worth_95 : g_dc cX11_worth 95 (.aload_n 0) 1 96 := ⟨by decide +kernel, rfl⟩
theorem e_X11_worth_96 : g_dc cX11_worth 96 (.invokevirtual 425) 3 99 := ⟨by decide +kernel, rfl⟩
theorem e_X11_worth_99 : g_dc cX11_worth 99 (.iload_n 3) 1 100 := ⟨by decide +kernel, rfl⟩
theorem e_X11_worth_100 : g_dc cX11_worth 100 (.ifCond .eq 20) 3 103 := ⟨by decide +kernel, rfl⟩
theorem e_X11_worth_103 : g_dc cX11_worth 103 (.aload_n 0) 1 104 := ⟨by decide +kernel, rfl⟩
theorem e_X11_worth_104 : g_dc cX11_worth 104 (.aload_n 0) 1 105 := ⟨by decide +kernel, rfl⟩
theorem e_X11_worth_105 : g_dc cX11_worth 105 (.getfield 169) 3 108 := ⟨by decide +kernel, rfl⟩
theorem e_X11_worth_108 : g_dc cX11_worth 108 (.iconst 1) 1 109 := ⟨by decide +kernel, rfl⟩
theorem e_X11_worth_109 : g_dc cX11_worth 109 (.iload_n 1) 1 110 := ⟨by decide +kernel, rfl⟩
theorem e_X11_worth_110 : g_dc cX11_worth 110 (.ishl) 1 111 := ⟨by decide +kernel, rfl⟩
theorem e_X11_worth_111 : g_dc cX11_worth 111 (.iconst (-1)) 1 112 := ⟨by decide +kernel, rfl⟩
theorem e_X11_worth_112 : g_dc cX11_worth 112 (.ixor) 1 113 := ⟨by decide +kernel, rfl⟩
theorem e_X11_worth_113 : g_dc cX11_worth 113 (.iand) 1 114 := ⟨by decide +kernel, rfl⟩
theorem e_X11_worth_114 : g_dc cX11_worth 114 (.putfield 315) 3 117 := ⟨by decide +kernel, rfl⟩
theorem e_X11_worth_117 : g_dc cX11_worth 117 (.goto 10) 3 120 := ⟨by decide +kernel, rfl⟩
theorem e_X11_worth_120 : g_dc cX11_worth 120 (.aload_n 0) 1 121 := ⟨by decide +kernel, rfl⟩
theorem e_X11_worth_121 : g_dc cX11_worth 121 (.getfield 98) 3 124 := ⟨by decide +kernel, rfl⟩
theorem e_X11_worth_124 : g_dc cX11_worth 124 (.iload_n 1) 1 125 := ⟨by decide +kernel, rfl⟩
theorem e_X11_worth_125 : g_dc cX11_worth 125 (.iconst 0) 1 126 := ⟨by decide +kernel, rfl⟩
theorem e_X11_worth_126 : g_dc cX11_worth 126 (.iastore) 1 127 := ⟨by decide +kernel, rfl⟩
theorem e_X11_worth_127 : g_dc cX11_worth 127 (.aload_n 0) 1 128 := ⟨by decide +kernel, rfl⟩
theorem e_X11_worth_128 : g_dc cX11_worth 128 (.invokevirtual 428) 3 131 := ⟨by decide +kernel, rfl⟩
theorem e_X11_worth_131 : g_dc cX11_worth 131 (.iload_n 2) 1 132 := ⟨by decide +kernel, rfl⟩
theorem e_X11_worth_132 : g_dc cX11_worth 132 (.iconst 2) 1 133 := ⟨by decide +kernel, rfl⟩
theorem e_X11_worth_133 : g_dc cX11_worth 133 (.irem) 1 134 := ⟨by decide +kernel, rfl⟩
theorem e_X11_worth_134 : g_dc cX11_worth 134 (.ifCond .ne 16) 3 137 := ⟨by decide +kernel, rfl⟩
theorem e_X11_worth_137 : g_dc cX11_worth 137 (.aload_n 0) 1 138 := ⟨by decide +kernel, rfl⟩
theorem e_X11_worth_138 : g_dc cX11_worth 138 (.invokevirtual 407) 3 141 := ⟨by decide +kernel, rfl⟩
theorem e_X11_worth_141 : g_dc cX11_worth 141 (.invokestatic 410) 3 144 := ⟨by decide +kernel, rfl⟩
theorem e_X11_worth_144 : g_dc cX11_worth 144 (.iload 4) 2 146 := ⟨by decide +kernel, rfl⟩
theorem e_X11_worth_146 : g_dc cX11_worth 146 (.isub) 1 147 := ⟨by decide +kernel, rfl⟩
theorem e_X11_worth_147 : g_dc cX11_worth 147 (.goto 10) 3 150 := ⟨by decide +kernel, rfl⟩
theorem e_X11_worth_150 : g_dc cX11_worth 150 (.iload 5) 2 152 := ⟨by decide +kernel, rfl⟩
theorem e_X11_worth_152 : g_dc cX11_worth 152 (.aload_n 0) 1 153 := ⟨by decide +kernel, rfl⟩
theorem e_X11_worth_153 : g_dc cX11_worth 153 (.invokevirtual 413) 3 156 := ⟨by decide +kernel, rfl⟩
theorem e_X11_worth_156 : g_dc cX11_worth 156 (.isub) 1 157 := ⟨by decide +kernel, rfl⟩
theorem e_X11_worth_157 : g_dc cX11_worth 157 (.ireturn) 1 158 := ⟨by decide +kernel, rfl⟩
def md_X11_worth : List Nat := [3, 42, 43, 44, 45, 46, 47, 48, 49, 50, 51, 65, 66, 67, 68, 69]
def mr_X11_worth : List Nat := [23, 24, 25, 26, 27, 28, 29, 30, 31, 32, 33, 34, 35, 36, 37]
set_option maxHeartbeats 4000000 in
set_option maxRecDepth 100000 in
theorem w_X11_worth (l : Launch) (X : gX) (ad : Nat → Nat) (F : Nat → Int32) (R : Nat → Nat → Int32) (hI : g_ok LK_wM F) (hA : g_okR LA_wM R) (hWT : WT F R) (hWC : WC F R) (a0 : Int32) (a1 : Int32) : g_Ci l X yX11_worth cX11_worth 6 (some .int) 8 0 0 [.ref (ad 0), .int a0, .int a1] (wM X ad F R) (fun r w => ∃ (F' : Nat → Int32) (R' : Nat → Nat → Int32), w = wM X ad F' R' ∧ g_ok LK_wM F' ∧ g_okR LA_wM R' ∧ WT F' R' ∧ WC F' R' ∧ g_fr md_X11_worth F F' ∧ g_fr mr_X11_worth R R' ∧ jv (-2147483648) 2147483647 r) := by
  refine g_mi (by decide +kernel) (Nat.le_of_ble_eq_true rfl) (fun E cx hret => ?_)
  refine g_iload_n cx 2 rfl e_X11_worth_0 ?_
  refine g_iconst cx 0 (by decide) e_X11_worth_1 ?_
  refine g_iconst cx 3 (by decide) e_X11_worth_2 ?_
  refine g_cSiW cx [.int a1, .int 0, .int 3] [] (c_X11_in l X (wM X ad F R) a1 0 3) ml_X11_165 yS_X11_in rfl e_X11_worth_3 (by unfold g_rr; decide) (by decide) rfl (Nat.le_of_ble_eq_true rfl) (fun r1 w2 h3 => ?_)
  obtain ⟨rfl, hr1⟩ := h3
  have pr1 : jv 0 1 r1 := by rw [hr1]; exact gi_01 _ _ _
  refine g_if_ne cx 13 e_X11_worth_6 (by decide) (fun zc4 => ?_) (fun zc4 => ?_)
  · have p5 := gn_neL 1 1 (gc_ne zc4) pr1 (jv_k (x := 0) 0 (by decide)) (by decide)
    have p6 := jv_i 0 3 (jv_t a1) (gi_in (A := 0) (B := 3) hr1 zc4 (by decide) (by decide)) (by decide)
    refine g_iload_n cx 2 rfl e_X11_worth_13 ?_
    refine g_iconst cx 2 (by decide) e_X11_worth_14 ?_
    refine g_icmp_ge cx 22 e_X11_worth_15 (by decide) (fun zc7 => ?_) (fun zc7 => ?_)
    · have p8 := gn_ge 2 3 (gc_le zc7) p6 (jv_k (x := 2) 2 (by decide)) (by decide)
      refine g_iconst cx 0 (by decide) e_X11_worth_22 ?_
      refine g_istore_n cx [(3, .int 0), (0, .ref (ad 0)), (1, .int a0), (2, .int a1)] e_X11_worth_23 (by decide) rfl ?_
      refine g_iload_n cx 0 rfl e_X11_worth_24 ?_
      refine g_if_eq_t cx 51 e_X11_worth_25 (by decide) (by decide) ?_
      refine g_aload_n cx 1 rfl e_X11_worth_51 ?_
      refine g_iload_n cx 2 rfl e_X11_worth_52 ?_
      refine g_cViW cx [.int a0] [] (w_X11_isTold l X ad F R hI hA hWT hWC a0) ml_X11_179 yV_X11_isTold e_X11_worth_53 (by unfold g_rr; decide) (by decide) 0 rfl rfl rfl (Nat.le_of_ble_eq_true rfl) (fun r9 w10 h11 => ?_)
      obtain ⟨rfl, pr9, zx12⟩ := h11
      refine g_if_eq cx 68 e_X11_worth_56 (by decide) (fun zc13 => ?_) (fun zc13 => ?_)
      · have p14 := gn_eq 0 0 (gc_eq zc13) pr9 (jv_k (x := 0) 0 (by decide)) (by decide)
        have J68 : G X E 6 0 0 (wM X ad F R) [] 68 [] := by
          refine g_ldcw cx (-100000) kc_X11_470 e_X11_worth_68 ?_
          exact hret e_X11_worth_71 (Nat.le_of_ble_eq_true rfl) (Nat.le_of_ble_eq_true rfl) rfl ⟨F, R, rfl, hI, hA, hWT, hWC, (g_fr_rf F), (g_fr_rf R), (jv_w (jv_k (x := (-100000)) (-100000) (by decide)) (by decide))⟩
        refine g_lsub [] [] rfl ?_
        exact J68  
      · have p15 := gn_neL 1 1 (gc_ne zc13) pr9 (jv_k (x := 0) 0 (by decide)) (by decide)
        have p16 := jv_i 0 9 (jv_t a0) (zx12 zc13).1 (by decide)
        refine g_aload_n cx 1 rfl e_X11_worth_59 ?_
        refine g_get cx cl_X11 fl_X11_25 0 (.ref (ad 6)) e_X11_worth_60 rfl rfl ?_
        refine g_iload_n cx 2 rfl e_X11_worth_63 ?_
        refine g_iald cx 6 e_X11_worth_64 rfl (jv_ix 10 p16 (by decide)) ?_
        refine g_topi (fun x17 ex17 => ?_)
        refine g_if_ne cx 72 e_X11_worth_65 (by decide) (fun zc18 => ?_) (fun zc18 => ?_)
        · refine g_aload_n cx 1 rfl e_X11_worth_72 ?_
          refine g_cVvW cx [] [] (w_X11_runsStill l X ad F R hI hA hWT hWC) ml_X11_440 yV_X11_runsStill e_X11_worth_73 (by unfold g_rr; decide) (by decide) 0 rfl rfl rfl (Nat.le_of_ble_eq_true rfl) (fun w20 h21 => ?_)
          obtain ⟨F22, R23, rfl, oF22, oR23, wTF22, wCF22, cF22, cR23⟩ := h21
          have fF22 : g_fr md_X11_worth F F22 := g_fr_c (g_fr_rf F) cF22 rfl
          have fR23 : g_fr mr_X11_worth R R23 := g_fr_c (g_fr_rf R) cR23 rfl
          refine g_aload_n cx 1 rfl e_X11_worth_76 ?_
          refine g_cViW cx [] [] (w_X11_standing l X ad F22 R23 oF22 oR23 wTF22 wCF22) ml_X11_407 yV_X11_standing e_X11_worth_77 (by unfold g_rr; decide) (by decide) 0 rfl rfl rfl (Nat.le_of_ble_eq_true rfl) (fun r24 w25 h26 => ?_)
          obtain ⟨rfl, pr24⟩ := h26
          refine g_cSiW cx [.int r24] [] (w_X11_bits l X ad F22 R23 oF22 oR23 r24) ml_X11_410 yS_X11_bits rfl e_X11_worth_80 (by unfold g_rr; decide) (by decide) rfl (Nat.le_of_ble_eq_true rfl) (fun r27 w28 h29 => ?_)
          obtain ⟨rfl, pr27⟩ := h29
          refine g_istore cx [(4, .int r27), (3, .int 0), (0, .ref (ad 0)), (1, .int a0), (2, .int a1)] e_X11_worth_83 (by decide) rfl ?_
          refine g_aload_n cx 2 rfl e_X11_worth_85 ?_
          refine g_cViW cx [] [] (w_X11_inchesAll l X ad F22 R23 oF22 oR23 wTF22 wCF22) ml_X11_413 yV_X11_inchesAll e_X11_worth_86 (by unfold g_rr; decide) (by decide) 0 rfl rfl rfl (Nat.le_of_ble_eq_true rfl) (fun r30 w31 h32 => ?_)
          obtain ⟨rfl, pr30⟩ := h32
          refine g_istore cx [(5, .int r30), (4, .int r27), (3, .int 0), (0, .ref (ad 0)), (1, .int a0), (2, .int a1)] e_X11_worth_89 (by decide) rfl ?_
          refine g_aload_n cx 3 rfl e_X11_worth_91 ?_
          refine g_cVvW cx [] [] (w_X11_laysPull l X ad F22 R23 oF22 oR23 wTF22 wCF22) ml_X11_422 yV_X11_laysPull e_X11_worth_92 (by unfold g_rr; decide) (by decide) 0 rfl rfl rfl (Nat.le_of_ble_eq_true rfl) (fun w34 h35 => ?_)
          obtain ⟨F36, R37, rfl, oF36, oR37, wTF36, wCF36, cF36, cR37⟩ := h35
          have fF36 : g_fr md_X11_worth F F36 := g_fr_c fF22 cF36 rfl
          have fR37 : g_fr mr_X11_worth R R37 := g_fr_c fR23 cR37 rfl
          refine g_aload_n cx 3 rfl e_X11_worth_95 ?_
          refine g_cVvW cx [] [] (w_X11_laysThings l X ad F36 R37 oF36 oR37 wTF36 wCF36) ml_X11_425 yV_X11_laysThings e_X11_worth_96 (by unfold g_rr; decide) (by decide) 0 rfl rfl rfl (Nat.le_of_ble_eq_true rfl) (fun w39 h40 => ?_)
          obtain ⟨F42, R43, rfl, oF42, oR43, wTF42, wCF42, cF42, cR43, zx41⟩ := h40
          have fF42 : g_fr md_X11_worth F F42 := g_fr_c fF36 cF42 rfl
          have fR43 : g_fr mr_X11_worth R R43 := g_fr_c fR37 cR43 rfl
          refine g_iload_n cx 2 rfl e_X11_worth_99 ?_
          refine g_if_eq_t cx 120 e_X11_worth_100 (by decide) (by decide) ?_
          refine g_aload_n cx 3 rfl e_X11_worth_120 ?_
          refine g_get cx cl_X11 fl_X11_98 0 (.ref (ad 30)) e_X11_worth_121 rfl rfl ?_
          refine g_iload_n cx 4 rfl e_X11_worth_124 ?_
          refine g_iconst cx 0 (by decide) e_X11_worth_125 ?_
          refine g_iast cx 30 (wM X ad F42 (g_u R43 30 (upd (R43 30) (Int32.toNatClampNeg a0) 0))) e_X11_worth_126 rfl (jv_ix 10 p16 (by decide)) rfl ?_
          obtain ⟨R44, hR44⟩ : ∃ z, z = g_u R43 30 (upd (R43 30) (Int32.toNatClampNeg a0) 0) := ⟨_, rfl⟩
          rw [← hR44]
          have oR44 : g_okR LA_wM R44 := by rw [hR44]; exact g_okR_u oR43 rfl
          have fR44 : g_fr mr_X11_worth R R44 := by rw [hR44]; exact g_fr_r fR43 rfl
          have wTR44 : WT F42 R44 := by rw [hR44]; exact WT_r wTF42 rfl
          have wCR44 : WC F42 R44 := by rw [hR44]; exact WC_r wCF42 rfl
          refine g_aload_n cx 3 rfl e_X11_worth_127 ?_
          refine g_cVvW cx [] [] (w_X11_runs l X ad F42 R44 oF42 oR44 wTR44 wCR44 (WN_of wTR44 ((zx41.trans (((cF42 4 rfl).trans (cF36 4 rfl)).trans (cF22 4 rfl))).trans (((cF42 4 rfl).trans (cF36 4 rfl)).trans (cF22 4 rfl)).symm))) ml_X11_428 yV_X11_runs e_X11_worth_128 (by unfold g_rr; decide) (by decide) 0 rfl rfl rfl (Nat.le_of_ble_eq_true rfl) (fun w46 h47 => ?_)
          obtain ⟨F48, R49, rfl, oF48, oR49, wTF48, wCF48, cF48, cR49⟩ := h47
          have fF48 : g_fr md_X11_worth F F48 := g_fr_c fF42 cF48 rfl
          have fR49 : g_fr mr_X11_worth R R49 := g_fr_c fR44 cR49 rfl
          refine g_iload_n cx 5 rfl e_X11_worth_131 ?_
          refine g_iconst cx 2 (by decide) e_X11_worth_132 ?_
          refine g_irem cx (by decide) e_X11_worth_133 ?_
          refine g_topi (fun x50 ex50 => ?_)
          have zx50 := jv_rem 0 1 ex50 p8 (jv_k (x := 2) 2 (by decide)) (by decide)
          have J157 : ∀ (F52 : Nat → Int32) (R53 : Nat → Nat → Int32) (y51 : Int32), (g_ok LK_wM F52) → (g_fr md_X11_worth F F52) → (g_okR LA_wM R53) → (g_fr mr_X11_worth R R53) → (WT F52 R53) → (WC F52 R53) → (jv (-2147483648) 2147483647 y51) → G X E 6 0 0 (wM X ad F52 R53) [] 157 [.int y51] := by
            intro F52 R53 y51 oF52 fF52 oR53 fR53 wTF52R53 wCF52R53 py51
            exact hret e_X11_worth_157 (Nat.le_of_ble_eq_true rfl) (Nat.le_of_ble_eq_true rfl) rfl ⟨F52, R53, rfl, oF52, oR53, wTF52R53, wCF52R53, fF52, fR53, py51⟩
          refine g_if_ne cx 150 e_X11_worth_134 (by decide) (fun zc54 => ?_) (fun zc54 => ?_)
          · have p55 := gn_neL 1 1 (gc_ne zc54) zx50.2 (jv_k (x := 0) 0 (by decide)) (by decide)
            refine g_iload cx 0 rfl e_X11_worth_150 ?_
            refine g_aload_n cx 3 rfl e_X11_worth_152 ?_
            refine g_cViW cx [] [.int r30] (w_X11_inchesAll l X ad F48 R49 oF48 oR49 wTF48 wCF48) ml_X11_413 yV_X11_inchesAll e_X11_worth_153 (by unfold g_rr; decide) (by decide) 0 rfl rfl rfl (Nat.le_of_ble_eq_true rfl) (fun r56 w57 h58 => ?_)
            obtain ⟨rfl, pr56⟩ := h58
            refine g_isub cx e_X11_worth_156 ?_
            refine g_topi (fun x59 ex59 => ?_)
            refine g_lsub [] [] rfl ?_
            exact J157 F48 R49 x59 oF48 fF48 oR49 fR49 wTF48 wCF48 (jv_t x59)
          · have p60 := gn_eq 0 0 (gc_eq zc54) zx50.2 (jv_k (x := 0) 0 (by decide)) (by decide)
            refine g_aload_n cx 3 rfl e_X11_worth_137 ?_
            refine g_cViW cx [] [] (w_X11_standing l X ad F48 R49 oF48 oR49 wTF48 wCF48) ml_X11_407 yV_X11_standing e_X11_worth_138 (by unfold g_rr; decide) (by decide) 0 rfl rfl rfl (Nat.le_of_ble_eq_true rfl) (fun r61 w62 h63 => ?_)
            obtain ⟨rfl, pr61⟩ := h63
            refine g_cSiW cx [.int r61] [] (w_X11_bits l X ad F48 R49 oF48 oR49 r61) ml_X11_410 yS_X11_bits rfl e_X11_worth_141 (by unfold g_rr; decide) (by decide) rfl (Nat.le_of_ble_eq_true rfl) (fun r64 w65 h66 => ?_)
            obtain ⟨rfl, pr64⟩ := h66
            refine g_iload cx 1 rfl e_X11_worth_144 ?_
            refine g_isub cx e_X11_worth_146 ?_
            refine g_topi (fun x67 ex67 => ?_)
            have zx67 := jv_sub (-10) 10 ex67 pr64 pr27 (by decide)
            refine g_goto cx 157 e_X11_worth_147 (by decide) ?_
            refine g_lsub [] [] rfl ?_
            exact J157 F48 R49 x67 oF48 fF48 oR49 fR49 wTF48 wCF48 (jv_w zx67.2 (by decide))
        · have p68 := gn_eq 0 0 (gc_eq zc18) (jv_t x17) (jv_k (x := 0) 0 (by decide)) (by decide)
          have J68 : G X E 6 0 0 (wM X ad F R) [] 68 [] := by
            refine g_ldcw cx (-100000) kc_X11_470 e_X11_worth_68 ?_
            exact hret e_X11_worth_71 (Nat.le_of_ble_eq_true rfl) (Nat.le_of_ble_eq_true rfl) rfl ⟨F, R, rfl, hI, hA, hWT, hWC, (g_fr_rf F), (g_fr_rf R), (jv_w (jv_k (x := (-100000)) (-100000) (by decide)) (by decide))⟩
          refine g_lsub [] [] rfl ?_
          exact J68  
    · have p69 := gn_lt 0 1 (gc_nle zc7) p6 (jv_k (x := 2) 2 (by decide)) (by decide)
      refine g_iconst cx 1 (by decide) e_X11_worth_18 ?_
      refine g_goto cx 23 e_X11_worth_19 (by decide) ?_
      refine g_istore_n cx [(3, .int 1), (0, .ref (ad 0)), (1, .int a0), (2, .int a1)] e_X11_worth_23 (by decide) rfl ?_
      refine g_iload_n cx 0 rfl e_X11_worth_24 ?_
      refine g_if_eq_f cx 51 e_X11_worth_25 (by decide) (by decide) ?_
      refine g_iload_n cx 2 rfl e_X11_worth_28 ?_
      refine g_iconst cx 0 (by decide) e_X11_worth_29 ?_
      refine g_iconst cx 5 (by decide) e_X11_worth_30 ?_
      refine g_cSiW cx [.int a0, .int 0, .int 5] [] (c_X11_in l X (wM X ad F R) a0 0 5) ml_X11_165 yS_X11_in rfl e_X11_worth_31 (by unfold g_rr; decide) (by decide) rfl (Nat.le_of_ble_eq_true rfl) (fun r70 w71 h72 => ?_)
      obtain ⟨rfl, hr70⟩ := h72
      have pr70 : jv 0 1 r70 := by rw [hr70]; exact gi_01 _ _ _
      refine g_if_eq cx 68 e_X11_worth_34 (by decide) (fun zc73 => ?_) (fun zc73 => ?_)
      · have p74 := gn_eq 0 0 (gc_eq zc73) pr70 (jv_k (x := 0) 0 (by decide)) (by decide)
        have J68 : G X E 6 0 0 (wM X ad F R) [] 68 [] := by
          refine g_ldcw cx (-100000) kc_X11_470 e_X11_worth_68 ?_
          exact hret e_X11_worth_71 (Nat.le_of_ble_eq_true rfl) (Nat.le_of_ble_eq_true rfl) rfl ⟨F, R, rfl, hI, hA, hWT, hWC, (g_fr_rf F), (g_fr_rf R), (jv_w (jv_k (x := (-100000)) (-100000) (by decide)) (by decide))⟩
        refine g_lsub [] [] rfl ?_
        exact J68  
      · have p75 := gn_neL 1 1 (gc_ne zc73) pr70 (jv_k (x := 0) 0 (by decide)) (by decide)
        have p76 := jv_i 0 5 (jv_t a0) (gi_in (A := 0) (B := 5) hr70 zc73 (by decide) (by decide)) (by decide)
        refine g_aload_n cx 1 rfl e_X11_worth_37 ?_
        refine g_get cx cl_X11 fl_X11_169 0 (.int (F 2)) e_X11_worth_38 rfl rfl ?_
        refine g_iload_n cx 2 rfl e_X11_worth_41 ?_
        refine g_cSiW cx [.int (F 2), .int a0] [] (c_X11_has l X (wM X ad F R) (F 2) a0) ml_X11_175 yS_X11_has rfl e_X11_worth_42 (by unfold g_rr; decide) (by decide) rfl (Nat.le_of_ble_eq_true rfl) (fun r77 w78 h79 => ?_)
        obtain ⟨rfl, hr77⟩ := h79
        have pr77 : jv 0 1 r77 := by rcases hr77 with q | q <;> rw [q.1] <;> exact ⟨by decide, by decide⟩
        refine g_if_ne cx 72 e_X11_worth_45 (by decide) (fun zc80 => ?_) (fun zc80 => ?_)
        · have p81 := gn_neL 1 1 (gc_ne zc80) pr77 (jv_k (x := 0) 0 (by decide)) (by decide)
          have zb82 : hb (F 2) a0 := g_hasy hr77 zc80
          refine g_aload_n cx 1 rfl e_X11_worth_72 ?_
          refine g_cVvW cx [] [] (w_X11_runsStill l X ad F R hI hA hWT hWC) ml_X11_440 yV_X11_runsStill e_X11_worth_73 (by unfold g_rr; decide) (by decide) 0 rfl rfl rfl (Nat.le_of_ble_eq_true rfl) (fun w84 h85 => ?_)
          obtain ⟨F86, R87, rfl, oF86, oR87, wTF86, wCF86, cF86, cR87⟩ := h85
          have fF86 : g_fr md_X11_worth F F86 := g_fr_c (g_fr_rf F) cF86 rfl
          have fR87 : g_fr mr_X11_worth R R87 := g_fr_c (g_fr_rf R) cR87 rfl
          refine g_aload_n cx 1 rfl e_X11_worth_76 ?_
          refine g_cViW cx [] [] (w_X11_standing l X ad F86 R87 oF86 oR87 wTF86 wCF86) ml_X11_407 yV_X11_standing e_X11_worth_77 (by unfold g_rr; decide) (by decide) 0 rfl rfl rfl (Nat.le_of_ble_eq_true rfl) (fun r88 w89 h90 => ?_)
          obtain ⟨rfl, pr88⟩ := h90
          refine g_cSiW cx [.int r88] [] (w_X11_bits l X ad F86 R87 oF86 oR87 r88) ml_X11_410 yS_X11_bits rfl e_X11_worth_80 (by unfold g_rr; decide) (by decide) rfl (Nat.le_of_ble_eq_true rfl) (fun r91 w92 h93 => ?_)
          obtain ⟨rfl, pr91⟩ := h93
          refine g_istore cx [(4, .int r91), (3, .int 1), (0, .ref (ad 0)), (1, .int a0), (2, .int a1)] e_X11_worth_83 (by decide) rfl ?_
          refine g_aload_n cx 2 rfl e_X11_worth_85 ?_
          refine g_cViW cx [] [] (w_X11_inchesAll l X ad F86 R87 oF86 oR87 wTF86 wCF86) ml_X11_413 yV_X11_inchesAll e_X11_worth_86 (by unfold g_rr; decide) (by decide) 0 rfl rfl rfl (Nat.le_of_ble_eq_true rfl) (fun r94 w95 h96 => ?_)
          obtain ⟨rfl, pr94⟩ := h96
          refine g_istore cx [(5, .int r94), (4, .int r91), (3, .int 1), (0, .ref (ad 0)), (1, .int a0), (2, .int a1)] e_X11_worth_89 (by decide) rfl ?_
          refine g_aload_n cx 3 rfl e_X11_worth_91 ?_
          refine g_cVvW cx [] [] (w_X11_laysPull l X ad F86 R87 oF86 oR87 wTF86 wCF86) ml_X11_422 yV_X11_laysPull e_X11_worth_92 (by unfold g_rr; decide) (by decide) 0 rfl rfl rfl (Nat.le_of_ble_eq_true rfl) (fun w98 h99 => ?_)
          obtain ⟨F100, R101, rfl, oF100, oR101, wTF100, wCF100, cF100, cR101⟩ := h99
          have fF100 : g_fr md_X11_worth F F100 := g_fr_c fF86 cF100 rfl
          have fR101 : g_fr mr_X11_worth R R101 := g_fr_c fR87 cR101 rfl
          refine g_aload_n cx 3 rfl e_X11_worth_95 ?_
          refine g_cVvW cx [] [] (w_X11_laysThings l X ad F100 R101 oF100 oR101 wTF100 wCF100) ml_X11_425 yV_X11_laysThings e_X11_worth_96 (by unfold g_rr; decide) (by decide) 0 rfl rfl rfl (Nat.le_of_ble_eq_true rfl) (fun w103 h104 => ?_)
          obtain ⟨F106, R107, rfl, oF106, oR107, wTF106, wCF106, cF106, cR107, zx105⟩ := h104
          have fF106 : g_fr md_X11_worth F F106 := g_fr_c fF100 cF106 rfl
          have fR107 : g_fr mr_X11_worth R R107 := g_fr_c fR101 cR107 rfl
          refine g_iload_n cx 2 rfl e_X11_worth_99 ?_
          refine g_if_eq_f cx 120 e_X11_worth_100 (by decide) (by decide) ?_
          refine g_aload_n cx 3 rfl e_X11_worth_103 ?_
          refine g_aload_n cx 3 rfl e_X11_worth_104 ?_
          refine g_get cx cl_X11 fl_X11_169 0 (.int (F106 2)) e_X11_worth_105 rfl rfl ?_
          refine g_toi (F 2) (((cF106 2 rfl).trans (cF100 2 rfl)).trans (cF86 2 rfl)) ?_
          refine g_iconst cx 1 (by decide) e_X11_worth_108 ?_
          refine g_iload_n cx 4 rfl e_X11_worth_109 ?_
          refine g_ishl cx e_X11_worth_110 ?_
          refine g_topi (fun x108 ex108 => ?_)
          refine g_iconst cx (-1) (by decide) e_X11_worth_111 ?_
          refine g_ixor cx e_X11_worth_112 ?_
          refine g_topi (fun x109 ex109 => ?_)
          refine g_iand cx e_X11_worth_113 ?_
          refine g_topi (fun x110 ex110 => ?_)
          refine g_put cx cl_X11 fl_X11_315 0 (wM X ad (upd F106 43 x110) R107) e_X11_worth_114 rfl rfl rfl rfl (Nat.le_of_ble_eq_true rfl) rfl ?_
          obtain ⟨F111, hF111⟩ : ∃ z, z = upd F106 43 x110 := ⟨_, rfl⟩
          rw [← hF111]
          have oF111 : g_ok LK_wM F111 := by rw [hF111]; exact g_ok_u oF106 rfl
          have fF111 : g_fr md_X11_worth F F111 := by rw [hF111]; exact g_fr_u fF106 rfl
          have wTF111 : WT F111 R107 := by rw [hF111]; exact WT_u wTF106 rfl
          have wCF111 : WC F111 R107 := by rw [hF111]; exact WC_u wCF106 rfl
          refine g_goto cx 127 e_X11_worth_117 (by decide) ?_
          refine g_aload_n cx 3 rfl e_X11_worth_127 ?_
          refine g_cVvW cx [] [] (w_X11_runs l X ad F111 R107 oF111 oR107 wTF111 wCF111 (WN_of wTF111 ((((g_pu2 hF111 rfl).trans zx105).trans (((cF106 4 rfl).trans (cF100 4 rfl)).trans (cF86 4 rfl))).trans ((((g_pu2 hF111 rfl).trans (cF106 4 rfl)).trans (cF100 4 rfl)).trans (cF86 4 rfl)).symm))) ml_X11_428 yV_X11_runs e_X11_worth_128 (by unfold g_rr; decide) (by decide) 0 rfl rfl rfl (Nat.le_of_ble_eq_true rfl) (fun w113 h114 => ?_)
          obtain ⟨F115, R116, rfl, oF115, oR116, wTF115, wCF115, cF115, cR116⟩ := h114
          have fF115 : g_fr md_X11_worth F F115 := g_fr_c fF111 cF115 rfl
          have fR116 : g_fr mr_X11_worth R R116 := g_fr_c fR107 cR116 rfl
          refine g_iload_n cx 5 rfl e_X11_worth_131 ?_
          refine g_iconst cx 2 (by decide) e_X11_worth_132 ?_
          refine g_irem cx (by decide) e_X11_worth_133 ?_
          refine g_topi (fun x117 ex117 => ?_)
          have zx117 := jv_rem 0 1 ex117 p69 (jv_k (x := 2) 2 (by decide)) (by decide)
          have J157 : ∀ (F119 : Nat → Int32) (R120 : Nat → Nat → Int32) (y118 : Int32), (g_ok LK_wM F119) → (g_fr md_X11_worth F F119) → (g_okR LA_wM R120) → (g_fr mr_X11_worth R R120) → (WT F119 R120) → (WC F119 R120) → (jv (-2147483648) 2147483647 y118) → G X E 6 0 0 (wM X ad F119 R120) [] 157 [.int y118] := by
            intro F119 R120 y118 oF119 fF119 oR120 fR120 wTF119R120 wCF119R120 py118
            exact hret e_X11_worth_157 (Nat.le_of_ble_eq_true rfl) (Nat.le_of_ble_eq_true rfl) rfl ⟨F119, R120, rfl, oF119, oR120, wTF119R120, wCF119R120, fF119, fR120, py118⟩
          refine g_if_ne cx 150 e_X11_worth_134 (by decide) (fun zc121 => ?_) (fun zc121 => ?_)
          · have p122 := gn_neL 1 1 (gc_ne zc121) zx117.2 (jv_k (x := 0) 0 (by decide)) (by decide)
            refine g_iload cx 0 rfl e_X11_worth_150 ?_
            refine g_aload_n cx 3 rfl e_X11_worth_152 ?_
            refine g_cViW cx [] [.int r94] (w_X11_inchesAll l X ad F115 R116 oF115 oR116 wTF115 wCF115) ml_X11_413 yV_X11_inchesAll e_X11_worth_153 (by unfold g_rr; decide) (by decide) 0 rfl rfl rfl (Nat.le_of_ble_eq_true rfl) (fun r123 w124 h125 => ?_)
            obtain ⟨rfl, pr123⟩ := h125
            refine g_isub cx e_X11_worth_156 ?_
            refine g_topi (fun x126 ex126 => ?_)
            refine g_lsub [] [] rfl ?_
            exact J157 F115 R116 x126 oF115 fF115 oR116 fR116 wTF115 wCF115 (jv_t x126)
          · have p127 := gn_eq 0 0 (gc_eq zc121) zx117.2 (jv_k (x := 0) 0 (by decide)) (by decide)
            refine g_aload_n cx 3 rfl e_X11_worth_137 ?_
            refine g_cViW cx [] [] (w_X11_standing l X ad F115 R116 oF115 oR116 wTF115 wCF115) ml_X11_407 yV_X11_standing e_X11_worth_138 (by unfold g_rr; decide) (by decide) 0 rfl rfl rfl (Nat.le_of_ble_eq_true rfl) (fun r128 w129 h130 => ?_)
            obtain ⟨rfl, pr128⟩ := h130
            refine g_cSiW cx [.int r128] [] (w_X11_bits l X ad F115 R116 oF115 oR116 r128) ml_X11_410 yS_X11_bits rfl e_X11_worth_141 (by unfold g_rr; decide) (by decide) rfl (Nat.le_of_ble_eq_true rfl) (fun r131 w132 h133 => ?_)
            obtain ⟨rfl, pr131⟩ := h133
            refine g_iload cx 1 rfl e_X11_worth_144 ?_
            refine g_isub cx e_X11_worth_146 ?_
            refine g_topi (fun x134 ex134 => ?_)
            have zx134 := jv_sub (-10) 10 ex134 pr131 pr91 (by decide)
            refine g_goto cx 157 e_X11_worth_147 (by decide) ?_
            refine g_lsub [] [] rfl ?_
            exact J157 F115 R116 x134 oF115 fF115 oR116 fR116 wTF115 wCF115 (jv_w zx134.2 (by decide))
        · have p135 := gn_eq 0 0 (gc_eq zc80) pr77 (jv_k (x := 0) 0 (by decide)) (by decide)
          refine g_goto cx 68 e_X11_worth_48 (by decide) ?_
          have J68 : G X E 6 0 0 (wM X ad F R) [] 68 [] := by
            refine g_ldcw cx (-100000) kc_X11_470 e_X11_worth_68 ?_
            exact hret e_X11_worth_71 (Nat.le_of_ble_eq_true rfl) (Nat.le_of_ble_eq_true rfl) rfl ⟨F, R, rfl, hI, hA, hWT, hWC, (g_fr_rf F), (g_fr_rf R), (jv_w (jv_k (x := (-100000)) (-100000) (by decide)) (by decide))⟩
          refine g_lsub [] [] rfl ?_
          exact J68  
  · have p136 := gn_eq 0 0 (gc_eq zc4) pr1 (jv_k (x := 0) 0 (by decide)) (by decide)
    refine g_ldcw cx (-100000) kc_X11_470 e_X11_worth_9 ?_
    exact hret e_X11_worth_12 (Nat.le_of_ble_eq_true rfl) (Nat.le_of_ble_eq_true rfl) rfl ⟨F, R, rfl, hI, hA, hWT, hWC, (g_fr_rf F), (g_fr_rf R), (jv_w (jv_k (x := (-100000)) (-100000) (by decide)) (by decide))⟩
theorem e_X11_takesPlaces_0 : g_dc cX11_takesPlaces 0 (.aload_n 0) 1 1 := ⟨by decide +kernel, rfl⟩
theorem e_X11_takesPlaces_1 : g_dc cX11_takesPlaces 1 (.getfield 172) 3 4 := ⟨by decide +kernel, rfl⟩
theorem e_X11_takesPlaces_4 : g_dc cX11_takesPlaces 4 (.ifCond .eq 17) 3 7 := ⟨by decide +kernel, rfl⟩
theorem e_X11_takesPlaces_7 : g_dc cX11_takesPlaces 7 (.aload_n 0) 1 8 := ⟨by decide +kernel, rfl⟩
theorem e_X11_takesPlaces_8 : g_dc cX11_takesPlaces 8 (.getfield 172) 3 11 := ⟨by decide +kernel, rfl⟩
theorem e_X11_takesPlaces_11 : g_dc cX11_takesPlaces 11 (.invokestatic 410) 3 14 := ⟨by decide +kernel, rfl⟩
theorem e_X11_takesPlaces_14 : g_dc cX11_takesPlaces 14 (.aload_n 0) 1 15 := ⟨by decide +kernel, rfl⟩
theorem e_X11_takesPlaces_15 : g_dc cX11_takesPlaces 15 (.getfield 183) 3 18 := ⟨by decide +kernel, rfl⟩
theorem e_X11_takesPlaces_18 : g_dc cX11_takesPlaces 18 (.if_icmp .le 5) 3 21 := ⟨by decide +kernel, rfl⟩
theorem e_X11_takesPlaces_21 : g_dc cX11_takesPlaces 21 (.iconst 0) 1 22 := ⟨by decide +kernel, rfl⟩
theorem e_X11_takesPlaces_22 : g_dc cX11_takesPlaces 22 (.ireturn) 1 23 := ⟨by decide +kernel, rfl⟩
theorem e_X11_takesPlaces_23 : g_dc cX11_takesPlaces 23 (.aload_n 0) 1 24 := ⟨by decide +kernel, rfl⟩
theorem e_X11_takesPlaces_24 : g_dc cX11_takesPlaces 24 (.iconst 0) 1 25 := ⟨by decide +kernel, rfl⟩
theorem e_X11_takesPlaces_25 : g_dc cX11_takesPlaces 25 (.putfield 183) 3 28 := ⟨by decide +kernel, rfl⟩
theorem e_X11_takesPlaces_28 : g_dc cX11_takesPlaces 28 (.iconst 0) 1 29 := ⟨by decide +kernel, rfl⟩
theorem e_X11_takesPlaces_29 : g_dc cX11_takesPlaces 29 (.istore_n 1) 1 30 := ⟨by decide +kernel, rfl⟩
theorem e_X11_takesPlaces_30 : g_dc cX11_takesPlaces 30 (.iconst 0) 1 31 := ⟨by decide +kernel, rfl⟩
theorem e_X11_takesPlaces_31 : g_dc cX11_takesPlaces 31 (.istore_n 2) 1 32 := ⟨by decide +kernel, rfl⟩
theorem e_X11_takesPlaces_32 : g_dc cX11_takesPlaces 32 (.iload_n 2) 1 33 := ⟨by decide +kernel, rfl⟩
theorem e_X11_takesPlaces_33 : g_dc cX11_takesPlaces 33 (.bipush 10) 2 35 := ⟨by decide +kernel, rfl⟩
theorem e_X11_takesPlaces_35 : g_dc cX11_takesPlaces 35 (.if_icmp .ge 43) 3 38 := ⟨by decide +kernel, rfl⟩
theorem e_X11_takesPlaces_38 : g_dc cX11_takesPlaces 38 (.aload_n 0) 1 39 := ⟨by decide +kernel, rfl⟩
theorem e_X11_takesPlaces_39 : g_dc cX11_takesPlaces 39 (.getfield 172) 3 42 := ⟨by decide +kernel, rfl⟩
theorem e_X11_takesPlaces_42 : g_dc cX11_takesPlaces 42 (.iload_n 2) 1 43 := ⟨by decide +kernel, rfl⟩
theorem e_X11_takesPlaces_43 : g_dc cX11_takesPlaces 43 (.invokestatic 175) 3 46 := ⟨by decide +kernel, rfl⟩
theorem e_X11_takesPlaces_46 : g_dc cX11_takesPlaces 46 (.ifCond .ne 6) 3 49 := ⟨by decide +kernel, rfl⟩
theorem e_X11_takesPlaces_49 : g_dc cX11_takesPlaces 49 (.goto 23) 3 52 := ⟨by decide +kernel, rfl⟩
theorem e_X11_takesPlaces_52 : g_dc cX11_takesPlaces 52 (.aload_n 0) 1 53 := ⟨by decide +kernel, rfl⟩
theorem e_X11_takesPlaces_53 : g_dc cX11_takesPlaces 53 (.getfield 128) 3 56 := ⟨by decide +kernel, rfl⟩
theorem e_X11_takesPlaces_56 : g_dc cX11_takesPlaces 56 (.iload_n 2) 1 57 := ⟨by decide +kernel, rfl⟩
theorem e_X11_takesPlaces_57 : g_dc cX11_takesPlaces 57 (.aload_n 0) 1 58 := ⟨by decide +kernel, rfl⟩
theorem e_X11_takesPlaces_58 : g_dc cX11_takesPlaces 58 (.getfield 34) 3 61 := ⟨by decide +kernel, rfl⟩
theorem e_X11_takesPlaces_61 : g_dc cX11_takesPlaces 61 (.iload_n 1) 1 62 := ⟨by decide +kernel, rfl⟩
theorem e_X11_takesPlaces_62 : g_dc cX11_takesPlaces 62 (.baload) 1 63 := ⟨by decide +kernel, rfl⟩
theorem e_X11_takesPlaces_63 : g_dc cX11_takesPlaces 63 (.sipush 255) 3 66 := ⟨by decide +kernel, rfl⟩
theorem e_X11_takesPlaces_66 : g_dc cX11_takesPlaces 66 (.iand) 1 67 := ⟨by decide +kernel, rfl⟩
theorem e_X11_takesPlaces_67 : g_dc cX11_takesPlaces 67 (.iastore) 1 68 := ⟨by decide +kernel, rfl⟩
theorem e_X11_takesPlaces_68 : g_dc cX11_takesPlaces 68 (.iload_n 1) 1 69 := ⟨by decide +kernel, rfl⟩
theorem e_X11_takesPlaces_69 : g_dc cX11_takesPlaces 69 (.iconst 1) 1 70 := ⟨by decide +kernel, rfl⟩
theorem e_X11_takesPlaces_70 : g_dc cX11_takesPlaces 70 (.iadd) 1 71 := ⟨by decide +kernel, rfl⟩
theorem e_X11_takesPlaces_71 : g_dc cX11_takesPlaces 71 (.istore_n 1) 1 72 := ⟨by decide +kernel, rfl⟩
theorem e_X11_takesPlaces_72 : g_dc cX11_takesPlaces 72 (.iinc 2 1) 3 75 := ⟨by decide +kernel, rfl⟩
theorem e_X11_takesPlaces_75 : g_dc cX11_takesPlaces 75 (.goto (-43)) 3 78 := ⟨by decide +kernel, rfl⟩
theorem e_X11_takesPlaces_78 : g_dc cX11_takesPlaces 78 (.iconst 1) 1 79 := ⟨by decide +kernel, rfl⟩
theorem e_X11_takesPlaces_79 : g_dc cX11_takesPlaces 79 (.ireturn) 1 80 := ⟨by decide +kernel, rfl⟩
def md_X11_takesPlaces : List Nat := [14]
def mr_X11_takesPlaces : List Nat := [40]
set_option maxHeartbeats 4000000 in
set_option maxRecDepth 100000 in
theorem w_X11_takesPlaces (l : Launch) (X : gX) (ad : Nat → Nat) (F : Nat → Int32) (R : Nat → Nat → Int32) (hI : g_ok LK_wM F) (hA : g_okR LA_wM R) (hWT : WT F R) (hWC : WC F R) : g_Ci l X yX11_takesPlaces cX11_takesPlaces 3 (some .boolean) 2 0 0 [.ref (ad 0)] (wM X ad F R) (fun r w => ∃ (F' : Nat → Int32) (R' : Nat → Nat → Int32), w = wM X ad F' R' ∧ g_ok LK_wM F' ∧ g_okR LA_wM R' ∧ WT F' R' ∧ WC F' R' ∧ g_fr md_X11_takesPlaces F F' ∧ g_fr mr_X11_takesPlaces R R' ∧ jv 0 1 r) := by
  refine g_mi (by decide +kernel) (Nat.le_of_ble_eq_true rfl) (fun E cx hret => ?_)
  refine g_aload_n cx 0 rfl e_X11_takesPlaces_0 ?_
  refine g_get cx cl_X11 fl_X11_172 0 (.int (F 4)) e_X11_takesPlaces_1 rfl rfl ?_
  have J21 : G X E 3 0 0 (wM X ad F R) [] 21 [] := by
    refine g_iconst cx 0 (by decide) e_X11_takesPlaces_21 ?_
    exact hret e_X11_takesPlaces_22 (Nat.le_of_ble_eq_true rfl) (Nat.le_of_ble_eq_true rfl) rfl ⟨F, R, rfl, hI, hA, hWT, hWC, (g_fr_rf F), (g_fr_rf R), (jv_w (jv_k (x := 0) 0 (by decide)) (by decide))⟩
  refine g_if_eq cx 21 e_X11_takesPlaces_4 (by decide) (fun zc1 => ?_) (fun zc1 => ?_)
  · have p2 := gn_eq 0 0 (gc_eq zc1) (jv_t (F 4)) (jv_k (x := 0) 0 (by decide)) (by decide)
    refine g_lsub [] [] rfl ?_
    exact J21  
  · refine g_aload_n cx 0 rfl e_X11_takesPlaces_7 ?_
    refine g_get cx cl_X11 fl_X11_172 0 (.int (F 4)) e_X11_takesPlaces_8 rfl rfl ?_
    refine g_cSiW cx [.int (F 4)] [] (w_X11_bits l X ad F R hI hA (F 4)) ml_X11_410 yS_X11_bits rfl e_X11_takesPlaces_11 (by unfold g_rr; decide) (by decide) rfl (Nat.le_of_ble_eq_true rfl) (fun r3 w4 h5 => ?_)
    obtain ⟨rfl, pr3⟩ := h5
    refine g_aload_n cx 0 rfl e_X11_takesPlaces_14 ?_
    refine g_get cx cl_X11 fl_X11_183 0 (.int (F 14)) e_X11_takesPlaces_15 rfl rfl ?_
    refine g_icmp_le cx 23 e_X11_takesPlaces_18 (by decide) (fun zc6 => ?_) (fun zc6 => ?_)
    · refine g_aload_n cx 0 rfl e_X11_takesPlaces_23 ?_
      refine g_iconst cx 0 (by decide) e_X11_takesPlaces_24 ?_
      refine g_put cx cl_X11 fl_X11_183 0 (wM X ad (upd F 14 0) R) e_X11_takesPlaces_25 rfl rfl rfl rfl (Nat.le_of_ble_eq_true rfl) rfl ?_
      obtain ⟨F7, hF7⟩ : ∃ z, z = upd F 14 0 := ⟨_, rfl⟩
      rw [← hF7]
      have oF7 : g_ok LK_wM F7 := by rw [hF7]; exact g_ok_p hI (jv_k (x := 0) 0 (by decide)) rfl
      have fF7 : g_fr md_X11_takesPlaces F F7 := by rw [hF7]; exact g_fr_u (g_fr_rf F) rfl
      have wTF7 : WT F7 R := by rw [hF7]; exact WT_u hWT rfl
      have wCF7 : WC F7 R := by rw [hF7]; exact WC_u hWC rfl
      refine g_iconst cx 0 (by decide) e_X11_takesPlaces_28 ?_
      refine g_istore_n cx [(1, .int 0), (0, .ref (ad 0))] e_X11_takesPlaces_29 (by decide) rfl ?_
      refine g_iconst cx 0 (by decide) e_X11_takesPlaces_30 ?_
      refine g_istore_n cx [(2, .int 0), (1, .int 0), (0, .ref (ad 0))] e_X11_takesPlaces_31 (by decide) rfl ?_
      have J32 : ∀ (N : Nat) (R10 : Nat → Nat → Int32) (y8 : Int32) (y9 : Int32), (g_okR LA_wM R10) → (g_fr mr_X11_takesPlaces R R10) → (WT F7 R10) → (WC F7 R10) → (jv 0 10 y8) → (jv 0 10 y9) → (0 ≤ (y8 : Int32).toInt ∧ (y8 : Int32).toInt ≤ (y9 : Int32).toInt) → (2147483647 - y9.toInt).toNat < N → G X E 3 0 0 (wM X ad F7 R10) [(0, .ref (ad 0)), (1, .int y8), (2, .int y9)] 32 [] := by
        intro N
        induction N with
        | zero => intro R10 y8 y9 oR10 fR10 wTR10 wCR10 py8 py9 zi32_0 hm; exact absurd hm (Nat.not_lt_zero _)
        | succ N ih32 =>
          intro R10 y8 y9 oR10 fR10 wTR10 wCR10 py8 py9 zi32_0 hm32
          have p11 : jv 0 10 y8 := ⟨by have q0 := py8.1; have q1 := py8.2; have q2 := py9.1; have q3 := py9.2; have q4 := zi32_0; omega, by have q0 := py8.1; have q1 := py8.2; have q2 := py9.1; have q3 := py9.2; have q4 := zi32_0; omega⟩
          refine g_iload_n cx 2 rfl e_X11_takesPlaces_32 ?_
          refine g_bipush cx 10 (by decide) e_X11_takesPlaces_33 ?_
          refine g_icmp_ge cx 78 e_X11_takesPlaces_35 (by decide) (fun zc12 => ?_) (fun zc12 => ?_)
          · have p13 := gn_ge 10 10 (gc_le zc12) py9 (jv_k (x := 10) 10 (by decide)) (by decide)
            refine g_iconst cx 1 (by decide) e_X11_takesPlaces_78 ?_
            exact hret e_X11_takesPlaces_79 (Nat.le_of_ble_eq_true rfl) (Nat.le_of_ble_eq_true rfl) rfl ⟨F7, R10, rfl, oF7, oR10, wTR10, wCR10, fF7, fR10, (jv_w (jv_k (x := 1) 1 (by decide)) (by decide))⟩
          · have p14 := gn_lt 0 9 (gc_nle zc12) py9 (jv_k (x := 10) 10 (by decide)) (by decide)
            refine g_aload_n cx 0 rfl e_X11_takesPlaces_38 ?_
            refine g_get cx cl_X11 fl_X11_172 0 (.int (F7 4)) e_X11_takesPlaces_39 rfl rfl ?_
            refine g_toi (F 4) (g_pu2 hF7 rfl) ?_
            refine g_iload_n cx 2 rfl e_X11_takesPlaces_42 ?_
            refine g_cSiW cx [.int (F 4), .int y9] [] (c_X11_has l X (wM X ad F7 R10) (F 4) y9) ml_X11_175 yS_X11_has rfl e_X11_takesPlaces_43 (by unfold g_rr; decide) (by decide) rfl (Nat.le_of_ble_eq_true rfl) (fun r15 w16 h17 => ?_)
            obtain ⟨rfl, hr15⟩ := h17
            have pr15 : jv 0 1 r15 := by rcases hr15 with q | q <;> rw [q.1] <;> exact ⟨by decide, by decide⟩
            have J72 : ∀ (R19 : Nat → Nat → Int32) (y18 : Int32), (g_okR LA_wM R19) → (g_fr mr_X11_takesPlaces R R19) → (WT F7 R19) → (WC F7 R19) → (jv 0 11 y18) → (0 ≤ (y18 : Int32).toInt ∧ (y18 : Int32).toInt ≤ (y9 : Int32).toInt + 1) → G X E 3 0 0 (wM X ad F7 R19) [(0, .ref (ad 0)), (1, .int y18), (2, .int y9)] 72 [] := by
              intro R19 y18 oR19 fR19 wTR19 wCR19 py18 zi72_0
              have p20 : jv 0 10 y18 := ⟨by have q0 := (jv_k (x := 10) 10 (by decide)).1; have q1 := (jv_k (x := 10) 10 (by decide)).2; have q2 := py18.1; have q3 := py18.2; have q4 := p11.1; have q5 := p11.2; have q6 := p14.1; have q7 := p14.2; have q8 := zi32_0; have q9 := (gc_nle zc12); have q10 := zi72_0; omega, by have q0 := (jv_k (x := 10) 10 (by decide)).1; have q1 := (jv_k (x := 10) 10 (by decide)).2; have q2 := py18.1; have q3 := py18.2; have q4 := p11.1; have q5 := p11.2; have q6 := p14.1; have q7 := p14.2; have q8 := zi32_0; have q9 := (gc_nle zc12); have q10 := zi72_0; omega⟩
              obtain ⟨x21, ex21⟩ : ∃ z : Int32, z = y9 + Int32.ofInt 1 := ⟨_, rfl⟩
              refine g_iinc cx x21 [(2, .int x21), (0, .ref (ad 0)), (1, .int y18)] 2 e_X11_takesPlaces_72 rfl ex21.symm (by decide) rfl ?_
              have zx21 := jv_add 1 10 (show x21 = y9 + 1 from ex21) p14 (jv_k (x := 1) 1 (by decide)) (by decide)
              refine g_goto cx 32 e_X11_takesPlaces_75 (by decide) ?_
              refine g_lsub [1, 2, 0] [(0, .ref (ad 0)), (1, .int y18), (2, .int x21)] rfl ?_
              exact ih32 R19 y18 x21 oR19 fR19 wTR19 wCR19 p20 (jv_w zx21.2 (by decide)) (by have q0 := (jv_k (x := 1) 1 (by decide)).1; have q1 := (jv_k (x := 1) 1 (by decide)).2; have q2 := (jv_k (x := 10) 10 (by decide)).1; have q3 := (jv_k (x := 10) 10 (by decide)).2; have q4 := zx21.2.1; have q5 := zx21.2.2; have q6 := p20.1; have q7 := p20.2; have q8 := p11.1; have q9 := p11.2; have q10 := p14.1; have q11 := p14.2; have q12 := zi32_0; have q13 := (gc_nle zc12); have q14 := zi72_0; have q15 := (g_eq0 zx21.1); omega) (Nat.lt_of_lt_of_le (show (2147483647 - x21.toInt).toNat < (2147483647 - y9.toInt).toNat from by have q0 := (jv_k (x := 1) 1 (by decide)).1; have q1 := (jv_k (x := 1) 1 (by decide)).2; have q2 := (jv_k (x := 10) 10 (by decide)).1; have q3 := (jv_k (x := 10) 10 (by decide)).2; have q4 := zx21.2.1; have q5 := zx21.2.2; have q6 := p20.1; have q7 := p20.2; have q8 := p11.1; have q9 := p11.2; have q10 := p14.1; have q11 := p14.2; have q12 := zi32_0; have q13 := (gc_nle zc12); have q14 := zi72_0; have q15 := (g_eq0 zx21.1); omega) (Nat.le_of_lt_succ hm32))
            refine g_if_ne cx 52 e_X11_takesPlaces_46 (by decide) (fun zc22 => ?_) (fun zc22 => ?_)
            · have p23 := gn_neL 1 1 (gc_ne zc22) pr15 (jv_k (x := 0) 0 (by decide)) (by decide)
              have zb24 : hb (F 4) y9 := g_hasy hr15 zc22
              refine g_aload_n cx 0 rfl e_X11_takesPlaces_52 ?_
              refine g_get cx cl_X11 fl_X11_128 0 (.ref (ad 40)) e_X11_takesPlaces_53 rfl rfl ?_
              refine g_iload_n cx 2 rfl e_X11_takesPlaces_56 ?_
              refine g_aload_n cx 0 rfl e_X11_takesPlaces_57 ?_
              refine g_get cx cl_X11 fl_X11_34 0 (.ref (ad 9)) e_X11_takesPlaces_58 rfl rfl ?_
              refine g_iload_n cx 1 rfl e_X11_takesPlaces_61 ?_
              refine g_bald cx 9 e_X11_takesPlaces_62 rfl (jv_ix 220 p11 (by decide)) ?_
              refine g_topi (fun x25 ex25 => ?_)
              refine g_sipush cx 255 (by decide) e_X11_takesPlaces_63 ?_
              refine g_iand cx e_X11_takesPlaces_66 ?_
              refine g_topi (fun x26 ex26 => ?_)
              have px26 := jv_and 0 255 ex26 (jv_k (x := 255) 255 (by decide)) (by decide)
              refine g_iast cx 40 (wM X ad F7 (g_u R10 40 (upd (R10 40) (Int32.toNatClampNeg y9) x26))) e_X11_takesPlaces_67 rfl (jv_ix 10 p14 (by decide)) rfl ?_
              obtain ⟨R27, hR27⟩ : ∃ z, z = g_u R10 40 (upd (R10 40) (Int32.toNatClampNeg y9) x26) := ⟨_, rfl⟩
              rw [← hR27]
              have oR27 : g_okR LA_wM R27 := by rw [hR27]; exact g_okR_u oR10 rfl
              have fR27 : g_fr mr_X11_takesPlaces R R27 := by rw [hR27]; exact g_fr_r fR10 rfl
              have wTR27 : WT F7 R27 := by rw [hR27]; exact WT_r wTR10 rfl
              have wCR27 : WC F7 R27 := by rw [hR27]; exact WC_r wCR10 rfl
              refine g_iload_n cx 1 rfl e_X11_takesPlaces_68 ?_
              refine g_iconst cx 1 (by decide) e_X11_takesPlaces_69 ?_
              refine g_iadd cx e_X11_takesPlaces_70 ?_
              refine g_topi (fun x28 ex28 => ?_)
              have zx28 := jv_add 1 11 ex28 p11 (jv_k (x := 1) 1 (by decide)) (by decide)
              refine g_istore_n cx [(1, .int x28), (0, .ref (ad 0)), (2, .int y9)] e_X11_takesPlaces_71 (by decide) rfl ?_
              refine g_lsub [1, 0, 2] [(0, .ref (ad 0)), (1, .int x28), (2, .int y9)] rfl ?_
              exact J72 R27 x28 oR27 fR27 wTR27 wCR27 (jv_w zx28.2 (by decide)) (by have q0 := (jv_k (x := 1) 1 (by decide)).1; have q1 := (jv_k (x := 1) 1 (by decide)).2; have q2 := (jv_k (x := 10) 10 (by decide)).1; have q3 := (jv_k (x := 10) 10 (by decide)).2; have q4 := zx28.2.1; have q5 := zx28.2.2; have q6 := p11.1; have q7 := p11.2; have q8 := p14.1; have q9 := p14.2; have q10 := zi32_0; have q11 := (gc_nle zc12); have q12 := (g_eq0 zx28.1); omega)
            · have p29 := gn_eq 0 0 (gc_eq zc22) pr15 (jv_k (x := 0) 0 (by decide)) (by decide)
              refine g_goto cx 72 e_X11_takesPlaces_49 (by decide) ?_
              exact J72 R10 y8 oR10 fR10 wTR10 wCR10 (jv_w p11 (by decide)) (by have q0 := (jv_k (x := 10) 10 (by decide)).1; have q1 := (jv_k (x := 10) 10 (by decide)).2; have q2 := p11.1; have q3 := p11.2; have q4 := p14.1; have q5 := p14.2; have q6 := zi32_0; have q7 := (gc_nle zc12); omega)
      refine g_lsub [2, 1, 0] [(0, .ref (ad 0)), (1, .int 0), (2, .int 0)] rfl ?_
      exact J32 _ R 0 0 hA (g_fr_rf R) wTF7 wCF7 (jv_w (jv_k (x := 0) 0 (by decide)) (by decide)) (jv_w (jv_k (x := 0) 0 (by decide)) (by decide)) (by have q0 := (jv_k (x := 0) 0 (by decide)).1; have q1 := (jv_k (x := 0) 0 (by decide)).2; have q2 := (jv_t (F 4)).1; have q3 := (jv_t (F 4)).2; have q4 := (gc_ne zc1); omega) (Nat.lt_succ_self _)
    · have p30 := gn_lt 0 9 (gc_nle zc6) (g_ok_g hI 0 rfl) pr3 (by decide)
      have p31 := gn_gt 1 10 (gc_nle zc6) pr3 (g_ok_g hI 0 rfl) (by decide)
      refine g_lsub [] [] rfl ?_
      exact J21  
theorem e_X11_fits_0 : g_dc cX11_fits 0 (.iconst 0) 1 1 := ⟨by decide +kernel, rfl⟩
theorem e_X11_fits_1 : g_dc cX11_fits 1 (.istore_n 1) 1 2 := ⟨by decide +kernel, rfl⟩
theorem e_X11_fits_2 : g_dc cX11_fits 2 (.iload_n 1) 1 3 := ⟨by decide +kernel, rfl⟩
theorem e_X11_fits_3 : g_dc cX11_fits 3 (.bipush 10) 2 5 := ⟨by decide +kernel, rfl⟩
theorem e_X11_fits_5 : g_dc cX11_fits 5 (.if_icmp .ge 53) 3 8 := ⟨by decide +kernel, rfl⟩
theorem e_X11_fits_8 : g_dc cX11_fits 8 (.aload_n 0) 1 9 := ⟨by decide +kernel, rfl⟩
theorem e_X11_fits_9 : g_dc cX11_fits 9 (.getfield 172) 3 12 := ⟨by decide +kernel, rfl⟩
theorem e_X11_fits_12 : g_dc cX11_fits 12 (.iload_n 1) 1 13 := ⟨by decide +kernel, rfl⟩
theorem e_X11_fits_13 : g_dc cX11_fits 13 (.invokestatic 175) 3 16 := ⟨by decide +kernel, rfl⟩
theorem e_X11_fits_16 : g_dc cX11_fits 16 (.ifCond .eq 36) 3 19 := ⟨by decide +kernel, rfl⟩
theorem e_X11_fits_19 : g_dc cX11_fits 19 (.aload_n 0) 1 20 := ⟨by decide +kernel, rfl⟩
theorem e_X11_fits_20 : g_dc cX11_fits 20 (.getfield 128) 3 23 := ⟨by decide +kernel, rfl⟩
theorem e_X11_fits_23 : g_dc cX11_fits 23 (.iload_n 1) 1 24 := ⟨by decide +kernel, rfl⟩
theorem e_X11_fits_24 : g_dc cX11_fits 24 (.iaload) 1 25 := ⟨by decide +kernel, rfl⟩
theorem e_X11_fits_25 : g_dc cX11_fits 25 (.aload_n 0) 1 26 := ⟨by decide +kernel, rfl⟩
theorem e_X11_fits_26 : g_dc cX11_fits 26 (.getfield 92) 3 29 := ⟨by decide +kernel, rfl⟩
theorem e_X11_fits_29 : g_dc cX11_fits 29 (.iload_n 1) 1 30 := ⟨by decide +kernel, rfl⟩
theorem e_X11_fits_30 : g_dc cX11_fits 30 (.iaload) 1 31 := ⟨by decide +kernel, rfl⟩
theorem e_X11_fits_31 : g_dc cX11_fits 31 (.iconst 2) 1 32 := ⟨by decide +kernel, rfl⟩
theorem e_X11_fits_32 : g_dc cX11_fits 32 (.if_icmp .ne 9) 3 35 := ⟨by decide +kernel, rfl⟩
theorem e_X11_fits_35 : g_dc cX11_fits 35 (.sipush 255) 3 38 := ⟨by decide +kernel, rfl⟩
theorem e_X11_fits_38 : g_dc cX11_fits 38 (.goto 9) 3 41 := ⟨by decide +kernel, rfl⟩
theorem e_X11_fits_41 : g_dc cX11_fits 41 (.aload_n 0) 1 42 := ⟨by decide +kernel, rfl⟩
theorem e_X11_fits_42 : g_dc cX11_fits 42 (.getfield 86) 3 45 := ⟨by decide +kernel, rfl⟩
theorem e_X11_fits_45 : g_dc cX11_fits 45 (.iload_n 1) 1 46 := ⟨by decide +kernel, rfl⟩
theorem e_X11_fits_46 : g_dc cX11_fits 46 (.iaload) 1 47 := ⟨by decide +kernel, rfl⟩
theorem e_X11_fits_47 : g_dc cX11_fits 47 (.if_icmp .eq 5) 3 50 := ⟨by decide +kernel, rfl⟩
theorem e_X11_fits_50 : g_dc cX11_fits 50 (.iconst 0) 1 51 := ⟨by decide +kernel, rfl⟩
theorem e_X11_fits_51 : g_dc cX11_fits 51 (.ireturn) 1 52 := ⟨by decide +kernel, rfl⟩
theorem e_X11_fits_52 : g_dc cX11_fits 52 (.iinc 1 1) 3 55 := ⟨by decide +kernel, rfl⟩
theorem e_X11_fits_55 : g_dc cX11_fits 55 (.goto (-53)) 3 58 := ⟨by decide +kernel, rfl⟩
theorem e_X11_fits_58 : g_dc cX11_fits 58 (.iconst 1) 1 59 := ⟨by decide +kernel, rfl⟩
theorem e_X11_fits_59 : g_dc cX11_fits 59 (.ireturn) 1 60 := ⟨by decide +kernel, rfl⟩
set_option maxHeartbeats 4000000 in
set_option maxRecDepth 100000 in
theorem w_X11_fits (l : Launch) (X : gX) (ad : Nat → Nat) (F : Nat → Int32) (R : Nat → Nat → Int32) (hI : g_ok LK_wM F) (hA : g_okR LA_wM R) (hWT : WT F R) (hWC : WC F R) : g_Ci l X yX11_fits cX11_fits 2 (some .boolean) 2 0 0 [.ref (ad 0)] (wM X ad F R) (fun r w => w = wM X ad F R ∧ jv 0 1 r) := by
  refine g_mi (by decide +kernel) (Nat.le_of_ble_eq_true rfl) (fun E cx hret => ?_)
  refine g_iconst cx 0 (by decide) e_X11_fits_0 ?_
  refine g_istore_n cx [(1, .int 0), (0, .ref (ad 0))] e_X11_fits_1 (by decide) rfl ?_
  have J2 : ∀ (N : Nat) (y1 : Int32), (jv 0 10 y1) → (2147483647 - y1.toInt).toNat < N → G X E 2 0 0 (wM X ad F R) [(0, .ref (ad 0)), (1, .int y1)] 2 [] := by
    intro N
    induction N with
    | zero => intro y1 py1 hm; exact absurd hm (Nat.not_lt_zero _)
    | succ N ih2 =>
      intro y1 py1 hm2
      refine g_iload_n cx 1 rfl e_X11_fits_2 ?_
      refine g_bipush cx 10 (by decide) e_X11_fits_3 ?_
      refine g_icmp_ge cx 58 e_X11_fits_5 (by decide) (fun zc2 => ?_) (fun zc2 => ?_)
      · have p3 := gn_ge 10 10 (gc_le zc2) py1 (jv_k (x := 10) 10 (by decide)) (by decide)
        refine g_iconst cx 1 (by decide) e_X11_fits_58 ?_
        exact hret e_X11_fits_59 (Nat.le_of_ble_eq_true rfl) (Nat.le_of_ble_eq_true rfl) rfl ⟨rfl, (jv_w (jv_k (x := 1) 1 (by decide)) (by decide))⟩
      · have p4 := gn_lt 0 9 (gc_nle zc2) py1 (jv_k (x := 10) 10 (by decide)) (by decide)
        refine g_aload_n cx 0 rfl e_X11_fits_8 ?_
        refine g_get cx cl_X11 fl_X11_172 0 (.int (F 4)) e_X11_fits_9 rfl rfl ?_
        refine g_iload_n cx 1 rfl e_X11_fits_12 ?_
        refine g_cSiW cx [.int (F 4), .int y1] [] (c_X11_has l X (wM X ad F R) (F 4) y1) ml_X11_175 yS_X11_has rfl e_X11_fits_13 (by unfold g_rr; decide) (by decide) rfl (Nat.le_of_ble_eq_true rfl) (fun r5 w6 h7 => ?_)
        obtain ⟨rfl, hr5⟩ := h7
        have pr5 : jv 0 1 r5 := by rcases hr5 with q | q <;> rw [q.1] <;> exact ⟨by decide, by decide⟩
        have J52 : G X E 2 0 0 (wM X ad F R) [(0, .ref (ad 0)), (1, .int y1)] 52 [] := by
          obtain ⟨x8, ex8⟩ : ∃ z : Int32, z = y1 + Int32.ofInt 1 := ⟨_, rfl⟩
          refine g_iinc cx x8 [(1, .int x8), (0, .ref (ad 0))] 1 e_X11_fits_52 rfl ex8.symm (by decide) rfl ?_
          have zx8 := jv_add 1 10 (show x8 = y1 + 1 from ex8) p4 (jv_k (x := 1) 1 (by decide)) (by decide)
          refine g_goto cx 2 e_X11_fits_55 (by decide) ?_
          refine g_lsub [1, 0] [(0, .ref (ad 0)), (1, .int x8)] rfl ?_
          exact ih2 x8 (jv_w zx8.2 (by decide)) (Nat.lt_of_lt_of_le (show (2147483647 - x8.toInt).toNat < (2147483647 - y1.toInt).toNat from by have q0 := (jv_k (x := 1) 1 (by decide)).1; have q1 := (jv_k (x := 1) 1 (by decide)).2; have q2 := (jv_k (x := 10) 10 (by decide)).1; have q3 := (jv_k (x := 10) 10 (by decide)).2; have q4 := zx8.2.1; have q5 := zx8.2.2; have q6 := p4.1; have q7 := p4.2; have q8 := (gc_nle zc2); have q9 := (g_eq0 zx8.1); omega) (Nat.le_of_lt_succ hm2))
        refine g_if_eq cx 52 e_X11_fits_16 (by decide) (fun zc9 => ?_) (fun zc9 => ?_)
        · have p10 := gn_eq 0 0 (gc_eq zc9) pr5 (jv_k (x := 0) 0 (by decide)) (by decide)
          exact J52  
        · have p11 := gn_neL 1 1 (gc_ne zc9) pr5 (jv_k (x := 0) 0 (by decide)) (by decide)
          have zb12 : hb (F 4) y1 := g_hasy hr5 zc9
          refine g_aload_n cx 0 rfl e_X11_fits_19 ?_
          refine g_get cx cl_X11 fl_X11_128 0 (.ref (ad 40)) e_X11_fits_20 rfl rfl ?_
          refine g_iload_n cx 1 rfl e_X11_fits_23 ?_
          refine g_iald cx 40 e_X11_fits_24 rfl (jv_ix 10 p4 (by decide)) ?_
          refine g_topi (fun x13 ex13 => ?_)
          refine g_aload_n cx 0 rfl e_X11_fits_25 ?_
          refine g_get cx cl_X11 fl_X11_92 0 (.ref (ad 28)) e_X11_fits_26 rfl rfl ?_
          refine g_iload_n cx 1 rfl e_X11_fits_29 ?_
          refine g_iald cx 28 e_X11_fits_30 rfl (jv_ix 10 p4 (by decide)) ?_
          refine g_topi (fun x14 ex14 => ?_)
          refine g_iconst cx 2 (by decide) e_X11_fits_31 ?_
          have J47 : ∀ (y15 : Int32), (jv (-2147483648) 2147483647 y15) → G X E 2 0 0 (wM X ad F R) [(0, .ref (ad 0)), (1, .int y1)] 47 [.int y15, .int x13] := by
            intro y15 py15
            refine g_icmp_eq cx 52 e_X11_fits_47 (by decide) (fun zc16 => ?_) (fun zc16 => ?_)
            · exact J52  
            · refine g_iconst cx 0 (by decide) e_X11_fits_50 ?_
              exact hret e_X11_fits_51 (Nat.le_of_ble_eq_true rfl) (Nat.le_of_ble_eq_true rfl) rfl ⟨rfl, (jv_w (jv_k (x := 0) 0 (by decide)) (by decide))⟩
          refine g_icmp_ne cx 41 e_X11_fits_32 (by decide) (fun zc17 => ?_) (fun zc17 => ?_)
          · refine g_aload_n cx 0 rfl e_X11_fits_41 ?_
            refine g_get cx cl_X11 fl_X11_86 0 (.ref (ad 26)) e_X11_fits_42 rfl rfl ?_
            refine g_iload_n cx 1 rfl e_X11_fits_45 ?_
            refine g_iald cx 26 e_X11_fits_46 rfl (jv_ix 10 p4 (by decide)) ?_
            refine g_topi (fun x18 ex18 => ?_)
            exact J47 x18 (jv_t x18)
          · have p19 := gn_eq 2 2 (gc_eq zc17) (jv_t x14) (jv_k (x := 2) 2 (by decide)) (by decide)
            refine g_sipush cx 255 (by decide) e_X11_fits_35 ?_
            refine g_goto cx 47 e_X11_fits_38 (by decide) ?_
            exact J47 255 (jv_w (jv_k (x := 255) 255 (by decide)) (by decide))
  refine g_lsub [1, 0] [(0, .ref (ad 0)), (1, .int 0)] rfl ?_
  exact J2 _ 0 (jv_w (jv_k (x := 0) 0 (by decide)) (by decide)) (Nat.lt_succ_self _)
theorem e_X11_wasWet_0 : g_dc cX11_wasWet 0 (.iload_n 1) 1 1 := ⟨by decide +kernel, rfl⟩
theorem e_X11_wasWet_1 : g_dc cX11_wasWet 1 (.iconst 0) 1 2 := ⟨by decide +kernel, rfl⟩
theorem e_X11_wasWet_2 : g_dc cX11_wasWet 2 (.iconst 2) 1 3 := ⟨by decide +kernel, rfl⟩
theorem e_X11_wasWet_3 : g_dc cX11_wasWet 3 (.invokestatic 165) 3 6 := ⟨by decide +kernel, rfl⟩
theorem e_X11_wasWet_6 : g_dc cX11_wasWet 6 (.ifCond .eq 10) 3 9 := ⟨by decide +kernel, rfl⟩
theorem e_X11_wasWet_9 : g_dc cX11_wasWet 9 (.aload_n 0) 1 10 := ⟨by decide +kernel, rfl⟩
theorem e_X11_wasWet_10 : g_dc cX11_wasWet 10 (.invokevirtual 471) 3 13 := ⟨by decide +kernel, rfl⟩
theorem e_X11_wasWet_13 : g_dc cX11_wasWet 13 (.ifCond .ne 5) 3 16 := ⟨by decide +kernel, rfl⟩
theorem e_X11_wasWet_16 : g_dc cX11_wasWet 16 (.iconst (-1)) 1 17 := ⟨by decide +kernel, rfl⟩
theorem e_X11_wasWet_17 : g_dc cX11_wasWet 17 (.ireturn) 1 18 := ⟨by decide +kernel, rfl⟩
theorem e_X11_wasWet_18 : g_dc cX11_wasWet 18 (.iconst 0) 1 19 := ⟨by decide +kernel, rfl⟩
theorem e_X11_wasWet_19 : g_dc cX11_wasWet 19 (.istore_n 2) 1 20 := ⟨by decide +kernel, rfl⟩
theorem e_X11_wasWet_20 : g_dc cX11_wasWet 20 (.iconst (-1)) 1 21 := ⟨by decide +kernel, rfl⟩
theorem e_X11_wasWet_21 : g_dc cX11_wasWet 21 (.istore_n 3) 1 22 := ⟨by decide +kernel, rfl⟩
theorem e_X11_wasWet_22 : g_dc cX11_wasWet 22 (.iconst 0) 1 23 := ⟨by decide +kernel, rfl⟩
theorem e_X11_wasWet_23 : g_dc cX11_wasWet 23 (.istore 4) 2 25 := ⟨by decide +kernel, rfl⟩
theorem e_X11_wasWet_25 : g_dc cX11_wasWet 25 (.iload 4) 2 27 := ⟨by decide +kernel, rfl⟩
theorem e_X11_wasWet_27 : g_dc cX11_wasWet 27 (.bipush 100) 2 29 := ⟨by decide +kernel, rfl⟩
theorem e_X11_wasWet_29 : g_dc cX11_wasWet 29 (.if_icmp .ge 96) 3 32 := ⟨by decide +kernel, rfl⟩
theorem e_X11_wasWet_32 : g_dc cX11_wasWet 32 (.iload 4) 2 34 := ⟨by decide +kernel, rfl⟩
theorem e_X11_wasWet_34 : g_dc cX11_wasWet 34 (.bipush 10) 2 36 := ⟨by decide +kernel, rfl⟩
theorem e_X11_wasWet_36 : g_dc cX11_wasWet 36 (.idiv) 1 37 := ⟨by decide +kernel, rfl⟩
theorem e_X11_wasWet_37 : g_dc cX11_wasWet 37 (.istore 5) 2 39 := ⟨by decide +kernel, rfl⟩
theorem e_X11_wasWet_39 : g_dc cX11_wasWet 39 (.aload_n 0) 1 40 := ⟨by decide +kernel, rfl⟩
theorem e_X11_wasWet_40 : g_dc cX11_wasWet 40 (.getfield 172) 3 43 := ⟨by decide +kernel, rfl⟩
theorem e_X11_wasWet_43 : g_dc cX11_wasWet 43 (.iload 5) 2 45 := ⟨by decide +kernel, rfl⟩
theorem e_X11_wasWet_45 : g_dc cX11_wasWet 45 (.invokestatic 175) 3 48 := ⟨by decide +kernel, rfl⟩
theorem e_X11_wasWet_48 : g_dc cX11_wasWet 48 (.ifCond .eq 71) 3 51 := ⟨by decide +kernel, rfl⟩
theorem e_X11_wasWet_51 : g_dc cX11_wasWet 51 (.aload_n 0) 1 52 := ⟨by decide +kernel, rfl⟩
theorem e_X11_wasWet_52 : g_dc cX11_wasWet 52 (.getfield 25) 3 55 := ⟨by decide +kernel, rfl⟩
theorem e_X11_wasWet_55 : g_dc cX11_wasWet 55 (.iload 5) 2 57 := ⟨by decide +kernel, rfl⟩
theorem e_X11_wasWet_57 : g_dc cX11_wasWet 57 (.iaload) 1 58 := ⟨by decide +kernel, rfl⟩
theorem e_X11_wasWet_58 : g_dc cX11_wasWet 58 (.iload 4) 2 60 := ⟨by decide +kernel, rfl⟩
theorem e_X11_wasWet_60 : g_dc cX11_wasWet 60 (.bipush 10) 2 62 := ⟨by decide +kernel, rfl⟩
theorem e_X11_wasWet_62 : g_dc cX11_wasWet 62 (.irem) 1 63 := ⟨by decide +kernel, rfl⟩
theorem e_X11_wasWet_63 : g_dc cX11_wasWet 63 (.if_icmp .ne 6) 3 66 := ⟨by decide +kernel, rfl⟩
theorem e_X11_wasWet_66 : g_dc cX11_wasWet 66 (.goto 53) 3 69 := ⟨by decide +kernel, rfl⟩
theorem e_X11_wasWet_69 : g_dc cX11_wasWet 69 (.aload_n 0) 1 70 := ⟨by decide +kernel, rfl⟩
theorem e_X11_wasWet_70 : g_dc cX11_wasWet 70 (.invokevirtual 422) 3 73 := ⟨by decide +kernel, rfl⟩
theorem e_X11_wasWet_73 : g_dc cX11_wasWet 73 (.aload_n 0) 1 74 := ⟨by decide +kernel, rfl⟩
theorem e_X11_wasWet_74 : g_dc cX11_wasWet 74 (.invokevirtual 425) 3 77 := ⟨by decide +kernel, rfl⟩
theorem e_X11_wasWet_77 : g_dc cX11_wasWet 77 (.aload_n 0) 1 78 := ⟨by decide +kernel, rfl⟩
theorem e_X11_wasWet_78 : g_dc cX11_wasWet 78 (.getfield 98) 3 81 := ⟨by decide +kernel, rfl⟩
theorem e_X11_wasWet_81 : g_dc cX11_wasWet 81 (.iload 5) 2 83 := ⟨by decide +kernel, rfl⟩
theorem e_X11_wasWet_83 : g_dc cX11_wasWet 83 (.iload 4) 2 85 := ⟨by decide +kernel, rfl⟩
theorem e_X11_wasWet_85 : g_dc cX11_wasWet 85 (.bipush 10) 2 87 := ⟨by decide +kernel, rfl⟩
theorem e_X11_wasWet_87 : g_dc cX11_wasWet 87 (.irem) 1 88 := ⟨by decide +kernel, rfl⟩
theorem e_X11_wasWet_88 : g_dc cX11_wasWet 88 (.iastore) 1 89 := ⟨by decide +kernel, rfl⟩
theorem e_X11_wasWet_89 : g_dc cX11_wasWet 89 (.aload_n 0) 1 90 := ⟨by decide +kernel, rfl⟩
theorem e_X11_wasWet_90 : g_dc cX11_wasWet 90 (.invokevirtual 428) 3 93 := ⟨by decide +kernel, rfl⟩
theorem e_X11_wasWet_93 : g_dc cX11_wasWet 93 (.aload_n 0) 1 94 := ⟨by decide +kernel, rfl⟩
theorem e_X11_wasWet_94 : g_dc cX11_wasWet 94 (.invokevirtual 474) 3 97 := ⟨by decide +kernel, rfl⟩
theorem e_X11_wasWet_97 : g_dc cX11_wasWet 97 (.ifCond .ne 6) 3 100 := ⟨by decide +kernel, rfl⟩
theorem e_X11_wasWet_100 : g_dc cX11_wasWet 100 (.goto 19) 3 103 := ⟨by decide +kernel, rfl⟩
theorem e_X11_wasWet_103 : g_dc cX11_wasWet 103 (.iload_n 3) 1 104 := ⟨by decide +kernel, rfl⟩
theorem e_X11_wasWet_104 : g_dc cX11_wasWet 104 (.iconst (-1)) 1 105 := ⟨by decide +kernel, rfl⟩
theorem e_X11_wasWet_105 : g_dc cX11_wasWet 105 (.if_icmp .ne 8) 3 108 := ⟨by decide +kernel, rfl⟩
theorem e_X11_wasWet_108 : g_dc cX11_wasWet 108 (.iload 4) 2 110 := ⟨by decide +kernel, rfl⟩
theorem e_X11_wasWet_110 : g_dc cX11_wasWet 110 (.goto 4) 3 113 := ⟨by decide +kernel, rfl⟩
theorem e_X11_wasWet_113 : g_dc cX11_wasWet 113 (.iload_n 3) 1 114 := ⟨by decide +kernel, rfl⟩
theorem e_X11_wasWet_114 : g_dc cX11_wasWet 114 (.istore_n 3) 1 115 := ⟨by decide +kernel, rfl⟩
theorem e_X11_wasWet_115 : g_dc cX11_wasWet 115 (.iload_n 2) 1 116 := ⟨by decide +kernel, rfl⟩
theorem e_X11_wasWet_116 : g_dc cX11_wasWet 116 (.iconst 1) 1 117 := ⟨by decide +kernel, rfl⟩
theorem e_X11_wasWet_117 : g_dc cX11_wasWet 117 (.iadd) 1 118 := ⟨by decide +kernel, rfl⟩
theorem e_X11_wasWet_118 : g_dc cX11_wasWet 118 (.istore_n 2) 1 119 := ⟨by decide +kernel, rfl⟩
theorem e_X11_wasWet_119 : g_dc cX11_wasWet 119 (.iinc 4 1) 3 122 := ⟨by decide +kernel, rfl⟩
theorem e_X11_wasWet_122 : g_dc cX11_wasWet 122 (.goto (-97)) 3 125 := ⟨by decide +kernel, rfl⟩
theorem e_X11_wasWet_125 : g_dc cX11_wasWet 125 (.iload_n 1) 1 126 := ⟨by decide +kernel, rfl⟩
theorem e_X11_wasWet_126 : g_dc cX11_wasWet 126 (.ifCond .ne 7) 3 129 := ⟨by decide +kernel, rfl⟩
theorem e_X11_wasWet_129 : g_dc cX11_wasWet 129 (.iload_n 2) 1 130 := ⟨by decide +kernel, rfl⟩
theorem e_X11_wasWet_130 : g_dc cX11_wasWet 130 (.goto 29) 3 133 := ⟨by decide +kernel, rfl⟩
theorem e_X11_wasWet_133 : g_dc cX11_wasWet 133 (.iload_n 3) 1 134 := ⟨by decide +kernel, rfl⟩
theorem e_X11_wasWet_134 : g_dc cX11_wasWet 134 (.iconst (-1)) 1 135 := ⟨by decide +kernel, rfl⟩
theorem e_X11_wasWet_135 : g_dc cX11_wasWet 135 (.if_icmp .ne 8) 3 138 := ⟨by decide +kernel, rfl⟩
theorem e_X11_wasWet_138 : g_dc cX11_wasWet 138 (.bipush (-2)) 2 140 := ⟨by decide +kernel, rfl⟩
theorem e_X11_wasWet_140 : g_dc cX11_wasWet 140 (.goto 19) 3 143 := ⟨by decide +kernel, rfl⟩
theorem e_X11_wasWet_143 : g_dc cX11_wasWet 143 (.iload_n 1) 1 144 := ⟨by decide +kernel, rfl⟩
theorem e_X11_wasWet_144 : g_dc cX11_wasWet 144 (.iconst 1) 1 145 := ⟨by decide +kernel, rfl⟩
theorem e_X11_wasWet_145 : g_dc cX11_wasWet 145 (.if_icmp .ne 10) 3 148 := ⟨by decide +kernel, rfl⟩
theorem e_X11_wasWet_148 : g_dc cX11_wasWet 148 (.iload_n 3) 1 149 := ⟨by decide +kernel, rfl⟩
theorem e_X11_wasWet_149 : g_dc cX11_wasWet 149 (.bipush 10) 2 151 := ⟨by decide +kernel, rfl⟩
theorem e_X11_wasWet_151 : g_dc cX11_wasWet 151 (.idiv) 1 152 := ⟨by decide +kernel, rfl⟩
theorem e_X11_wasWet_152 : g_dc cX11_wasWet 152 (.goto 7) 3 155 := ⟨by decide +kernel, rfl⟩
theorem e_X11_wasWet_155 : g_dc cX11_wasWet 155 (.iload_n 3) 1 156 := ⟨by decide +kernel, rfl⟩
theorem e_X11_wasWet_156 : g_dc cX11_wasWet 156 (.bipush 10) 2 158 := ⟨by decide +kernel, rfl⟩
theorem e_X11_wasWet_158 : g_dc cX11_wasWet 158 (.irem) 1 159 := ⟨by decide +kernel, rfl⟩
theorem e_X11_wasWet_159 : g_dc cX11_wasWet 159 (.ireturn) 1 160 := ⟨by decide +kernel, rfl⟩
def md_X11_wasWet : List Nat := [3, 14, 42, 43, 44, 45, 46, 47, 48, 49, 50, 51, 65, 66, 67, 68, 69]
def mr_X11_wasWet : List Nat := [23, 24, 25, 26, 27, 28, 29, 30, 31, 32, 33, 34, 35, 36, 37, 40]
set_option maxHeartbeats 4000000 in
set_option maxRecDepth 100000 in
theorem w_X11_wasWet (l : Launch) (X : gX) (ad : Nat → Nat) (F : Nat → Int32) (R : Nat → Nat → Int32) (hI : g_ok LK_wM F) (hA : g_okR LA_wM R) (hWT : WT F R) (hWC : WC F R) (a0 : Int32) : g_Ci l X yX11_wasWet cX11_wasWet 6 (some .int) 7 0 0 [.ref (ad 0), .int a0] (wM X ad F R) (fun r w => ∃ (F' : Nat → Int32) (R' : Nat → Nat → Int32), w = wM X ad F' R' ∧ g_ok LK_wM F' ∧ g_okR LA_wM R' ∧ WT F' R' ∧ WC F' R' ∧ g_fr md_X11_wasWet F F' ∧ g_fr mr_X11_wasWet R R' ∧ jv (-2147483648) 2147483647 r) := by
  refine g_mi (by decide +kernel) (Nat.le_of_ble_eq_true rfl) (fun E cx hret => ?_)
  refine g_iload_n cx 1 rfl e_X11_wasWet_0 ?_
  refine g_iconst cx 0 (by decide) e_X11_wasWet_1 ?_
  refine g_iconst cx 2 (by decide) e_X11_wasWet_2 ?_
  refine g_cSiW cx [.int a0, .int 0, .int 2] [] (c_X11_in l X (wM X ad F R) a0 0 2) ml_X11_165 yS_X11_in rfl e_X11_wasWet_3 (by unfold g_rr; decide) (by decide) rfl (Nat.le_of_ble_eq_true rfl) (fun r1 w2 h3 => ?_)
  obtain ⟨rfl, hr1⟩ := h3
  have pr1 : jv 0 1 r1 := by rw [hr1]; exact gi_01 _ _ _
  have J16 : ∀ (F4 : Nat → Int32) (R5 : Nat → Nat → Int32), (g_ok LK_wM F4) → (g_fr md_X11_wasWet F F4) → (g_okR LA_wM R5) → (g_fr mr_X11_wasWet R R5) → (WT F4 R5) → (WC F4 R5) → G X E 6 0 0 (wM X ad F4 R5) [] 16 [] := by
    intro F4 R5 oF4 fF4 oR5 fR5 wTF4R5 wCF4R5
    refine g_iconst cx (-1) (by decide) e_X11_wasWet_16 ?_
    exact hret e_X11_wasWet_17 (Nat.le_of_ble_eq_true rfl) (Nat.le_of_ble_eq_true rfl) rfl ⟨F4, R5, rfl, oF4, oR5, wTF4R5, wCF4R5, fF4, fR5, (jv_w (jv_k (x := (-1)) (-1) (by decide)) (by decide))⟩
  refine g_if_eq cx 16 e_X11_wasWet_6 (by decide) (fun zc6 => ?_) (fun zc6 => ?_)
  · have p7 := gn_eq 0 0 (gc_eq zc6) pr1 (jv_k (x := 0) 0 (by decide)) (by decide)
    refine g_lsub [] [] rfl ?_
    exact J16 F R hI (g_fr_rf F) hA (g_fr_rf R) hWT hWC
  · have p8 := gn_neL 1 1 (gc_ne zc6) pr1 (jv_k (x := 0) 0 (by decide)) (by decide)
    have p9 := jv_i 0 2 (jv_t a0) (gi_in (A := 0) (B := 2) hr1 zc6 (by decide) (by decide)) (by decide)
    refine g_aload_n cx 0 rfl e_X11_wasWet_9 ?_
    refine g_cViW cx [] [] (w_X11_takesPlaces l X ad F R hI hA hWT hWC) ml_X11_471 yV_X11_takesPlaces e_X11_wasWet_10 (by unfold g_rr; decide) (by decide) 0 rfl rfl rfl (Nat.le_of_ble_eq_true rfl) (fun r10 w11 h12 => ?_)
    obtain ⟨F13, R14, rfl, oF13, oR14, wTF13, wCF13, cF13, cR14, pr10⟩ := h12
    have fF13 : g_fr md_X11_wasWet F F13 := g_fr_c (g_fr_rf F) cF13 rfl
    have fR14 : g_fr mr_X11_wasWet R R14 := g_fr_c (g_fr_rf R) cR14 rfl
    refine g_if_ne cx 18 e_X11_wasWet_13 (by decide) (fun zc15 => ?_) (fun zc15 => ?_)
    · have p16 := gn_neL 1 1 (gc_ne zc15) pr10 (jv_k (x := 0) 0 (by decide)) (by decide)
      refine g_iconst cx 0 (by decide) e_X11_wasWet_18 ?_
      refine g_istore_n cx [(2, .int 0), (0, .ref (ad 0)), (1, .int a0)] e_X11_wasWet_19 (by decide) rfl ?_
      refine g_iconst cx (-1) (by decide) e_X11_wasWet_20 ?_
      refine g_istore_n cx [(3, .int (-1)), (2, .int 0), (0, .ref (ad 0)), (1, .int a0)] e_X11_wasWet_21 (by decide) rfl ?_
      refine g_iconst cx 0 (by decide) e_X11_wasWet_22 ?_
      refine g_istore cx [(4, .int 0), (3, .int (-1)), (2, .int 0), (0, .ref (ad 0)), (1, .int a0)] e_X11_wasWet_23 (by decide) rfl ?_
      have J25 : ∀ (N : Nat) (F20 : Nat → Int32) (R21 : Nat → Nat → Int32) (y17 : Int32) (y18 : Int32) (y19 : Int32), (g_ok LK_wM F20) → (g_fr md_X11_wasWet F F20) → (g_okR LA_wM R21) → (g_fr mr_X11_wasWet R R21) → (WT F20 R21) → (WC F20 R21) → (jv (-2147483648) 2147483647 y17) → (jv (-1) 99 y18) → (jv 0 100 y19) → (2147483647 - y19.toInt).toNat < N → G X E 6 0 0 (wM X ad F20 R21) [(0, .ref (ad 0)), (1, .int a0), (2, .int y17), (3, .int y18), (4, .int y19)] 25 [] := by
        intro N
        induction N with
        | zero => intro F20 R21 y17 y18 y19 oF20 fF20 oR21 fR21 wTF20R21 wCF20R21 py17 py18 py19 hm; exact absurd hm (Nat.not_lt_zero _)
        | succ N ih25 =>
          intro F20 R21 y17 y18 y19 oF20 fF20 oR21 fR21 wTF20R21 wCF20R21 py17 py18 py19 hm25
          refine g_iload cx 4 rfl e_X11_wasWet_25 ?_
          refine g_bipush cx 100 (by decide) e_X11_wasWet_27 ?_
          refine g_icmp_ge cx 125 e_X11_wasWet_29 (by decide) (fun zc22 => ?_) (fun zc22 => ?_)
          · have p23 := gn_ge 100 100 (gc_le zc22) py19 (jv_k (x := 100) 100 (by decide)) (by decide)
            refine g_iload_n cx 1 rfl e_X11_wasWet_125 ?_
            have J159 : ∀ (y24 : Int32), (jv (-2147483648) 2147483647 y24) → G X E 6 0 0 (wM X ad F20 R21) [] 159 [.int y24] := by
              intro y24 py24
              exact hret e_X11_wasWet_159 (Nat.le_of_ble_eq_true rfl) (Nat.le_of_ble_eq_true rfl) rfl ⟨F20, R21, rfl, oF20, oR21, wTF20R21, wCF20R21, fF20, fR21, py24⟩
            refine g_if_ne cx 133 e_X11_wasWet_126 (by decide) (fun zc25 => ?_) (fun zc25 => ?_)
            · have p26 := gn_neL 1 2 (gc_ne zc25) p9 (jv_k (x := 0) 0 (by decide)) (by decide)
              refine g_iload_n cx 3 rfl e_X11_wasWet_133 ?_
              refine g_iconst cx (-1) (by decide) e_X11_wasWet_134 ?_
              refine g_icmp_ne cx 143 e_X11_wasWet_135 (by decide) (fun zc27 => ?_) (fun zc27 => ?_)
              · have p28 := gn_neL 0 99 (gc_ne zc27) py18 (jv_k (x := (-1)) (-1) (by decide)) (by decide)
                refine g_iload_n cx 1 rfl e_X11_wasWet_143 ?_
                refine g_iconst cx 1 (by decide) e_X11_wasWet_144 ?_
                refine g_icmp_ne cx 155 e_X11_wasWet_145 (by decide) (fun zc29 => ?_) (fun zc29 => ?_)
                · have p30 := gn_neL 2 2 (gc_ne zc29) p26 (jv_k (x := 1) 1 (by decide)) (by decide)
                  refine g_iload_n cx 3 rfl e_X11_wasWet_155 ?_
                  refine g_bipush cx 10 (by decide) e_X11_wasWet_156 ?_
                  refine g_irem cx (by decide) e_X11_wasWet_158 ?_
                  refine g_topi (fun x31 ex31 => ?_)
                  have zx31 := jv_rem 0 9 ex31 p28 (jv_k (x := 10) 10 (by decide)) (by decide)
                  refine g_lsub [] [] rfl ?_
                  exact J159 x31 (jv_w zx31.2 (by decide))
                · have p32 := gn_eq 1 1 (gc_eq zc29) p26 (jv_k (x := 1) 1 (by decide)) (by decide)
                  refine g_iload_n cx 3 rfl e_X11_wasWet_148 ?_
                  refine g_bipush cx 10 (by decide) e_X11_wasWet_149 ?_
                  refine g_idiv cx (by decide) e_X11_wasWet_151 ?_
                  refine g_topi (fun x33 ex33 => ?_)
                  have zx33 := jv_div 0 9 ex33 p28 (jv_k (x := 10) 10 (by decide)) (by decide)
                  refine g_goto cx 159 e_X11_wasWet_152 (by decide) ?_
                  refine g_lsub [] [] rfl ?_
                  exact J159 x33 (jv_w zx33.2 (by decide))
              · have p34 := gn_eq (-1) (-1) (gc_eq zc27) py18 (jv_k (x := (-1)) (-1) (by decide)) (by decide)
                refine g_bipush cx (-2) (by decide) e_X11_wasWet_138 ?_
                refine g_goto cx 159 e_X11_wasWet_140 (by decide) ?_
                refine g_lsub [] [] rfl ?_
                exact J159 (-2) (jv_w (jv_k (x := (-2)) (-2) (by decide)) (by decide))
            · have p35 := gn_eq 0 0 (gc_eq zc25) p9 (jv_k (x := 0) 0 (by decide)) (by decide)
              refine g_iload_n cx 2 rfl e_X11_wasWet_129 ?_
              refine g_goto cx 159 e_X11_wasWet_130 (by decide) ?_
              refine g_lsub [] [] rfl ?_
              exact J159 y17 py17
          · have p36 := gn_lt 0 99 (gc_nle zc22) py19 (jv_k (x := 100) 100 (by decide)) (by decide)
            refine g_iload cx 4 rfl e_X11_wasWet_32 ?_
            refine g_bipush cx 10 (by decide) e_X11_wasWet_34 ?_
            refine g_idiv cx (by decide) e_X11_wasWet_36 ?_
            refine g_topi (fun x37 ex37 => ?_)
            have zx37 := jv_div 0 9 ex37 p36 (jv_k (x := 10) 10 (by decide)) (by decide)
            refine g_istore cx [(5, .int x37), (0, .ref (ad 0)), (1, .int a0), (2, .int y17), (3, .int y18), (4, .int y19)] e_X11_wasWet_37 (by decide) rfl ?_
            refine g_aload_n cx 1 rfl e_X11_wasWet_39 ?_
            refine g_get cx cl_X11 fl_X11_172 0 (.int (F20 4)) e_X11_wasWet_40 rfl rfl ?_
            refine g_toi (F 4) (fF20 4 rfl) ?_
            refine g_iload cx 0 rfl e_X11_wasWet_43 ?_
            refine g_cSiW cx [.int (F 4), .int x37] [] (c_X11_has l X (wM X ad F20 R21) (F 4) x37) ml_X11_175 yS_X11_has rfl e_X11_wasWet_45 (by unfold g_rr; decide) (by decide) rfl (Nat.le_of_ble_eq_true rfl) (fun r38 w39 h40 => ?_)
            obtain ⟨rfl, hr38⟩ := h40
            have pr38 : jv 0 1 r38 := by rcases hr38 with q | q <;> rw [q.1] <;> exact ⟨by decide, by decide⟩
            have J119 : ∀ (F43 : Nat → Int32) (R44 : Nat → Nat → Int32) (y41 : Int32) (y42 : Int32), (g_ok LK_wM F43) → (g_fr md_X11_wasWet F F43) → (g_okR LA_wM R44) → (g_fr mr_X11_wasWet R R44) → (WT F43 R44) → (WC F43 R44) → (jv (-2147483648) 2147483647 y41) → (jv (-1) 99 y42) → G X E 6 0 0 (wM X ad F43 R44) [(0, .ref (ad 0)), (1, .int a0), (2, .int y41), (3, .int y42), (4, .int y19)] 119 [] := by
              intro F43 R44 y41 y42 oF43 fF43 oR44 fR44 wTF43R44 wCF43R44 py41 py42
              obtain ⟨x45, ex45⟩ : ∃ z : Int32, z = y19 + Int32.ofInt 1 := ⟨_, rfl⟩
              refine g_iinc cx x45 [(4, .int x45), (0, .ref (ad 0)), (1, .int a0), (2, .int y41), (3, .int y42)] 4 e_X11_wasWet_119 rfl ex45.symm (by decide) rfl ?_
              have zx45 := jv_add 1 100 (show x45 = y19 + 1 from ex45) p36 (jv_k (x := 1) 1 (by decide)) (by decide)
              refine g_goto cx 25 e_X11_wasWet_122 (by decide) ?_
              refine g_lsub [1, 2, 3, 4, 0] [(0, .ref (ad 0)), (1, .int a0), (2, .int y41), (3, .int y42), (4, .int x45)] rfl ?_
              exact ih25 F43 R44 y41 y42 x45 oF43 fF43 oR44 fR44 wTF43R44 wCF43R44 py41 py42 (jv_w zx45.2 (by decide)) (Nat.lt_of_lt_of_le (show (2147483647 - x45.toInt).toNat < (2147483647 - y19.toInt).toNat from by have q0 := (jv_k (x := 1) 1 (by decide)).1; have q1 := (jv_k (x := 1) 1 (by decide)).2; have q2 := (jv_k (x := 100) 100 (by decide)).1; have q3 := (jv_k (x := 100) 100 (by decide)).2; have q4 := zx37.2.1; have q5 := zx37.2.2; have q6 := zx45.2.1; have q7 := zx45.2.2; have q8 := p36.1; have q9 := p36.2; have q10 := (gc_nle zc22); have q11 := (g_ed zx37.1 (by decide : Int32.toInt 10 = 10)); have q12 := (g_eq0 zx45.1); omega) (Nat.le_of_lt_succ hm25))
            refine g_if_eq cx 119 e_X11_wasWet_48 (by decide) (fun zc46 => ?_) (fun zc46 => ?_)
            · have p47 := gn_eq 0 0 (gc_eq zc46) pr38 (jv_k (x := 0) 0 (by decide)) (by decide)
              refine g_lsub [1, 2, 3, 4, 5] [(0, .ref (ad 0)), (1, .int a0), (2, .int y17), (3, .int y18), (4, .int y19)] rfl ?_
              exact J119 F20 R21 y17 y18 oF20 fF20 oR21 fR21 wTF20R21 wCF20R21 py17 py18
            · have p48 := gn_neL 1 1 (gc_ne zc46) pr38 (jv_k (x := 0) 0 (by decide)) (by decide)
              have zb49 : hb (F 4) x37 := g_hasy hr38 zc46
              refine g_aload_n cx 1 rfl e_X11_wasWet_51 ?_
              refine g_get cx cl_X11 fl_X11_25 0 (.ref (ad 6)) e_X11_wasWet_52 rfl rfl ?_
              refine g_iload cx 0 rfl e_X11_wasWet_55 ?_
              refine g_iald cx 6 e_X11_wasWet_57 rfl (jv_ix 10 zx37.2 (by decide)) ?_
              refine g_topi (fun x50 ex50 => ?_)
              refine g_iload cx 5 rfl e_X11_wasWet_58 ?_
              refine g_bipush cx 10 (by decide) e_X11_wasWet_60 ?_
              refine g_irem cx (by decide) e_X11_wasWet_62 ?_
              refine g_topi (fun x51 ex51 => ?_)
              have zx51 := jv_rem 0 9 ex51 p36 (jv_k (x := 10) 10 (by decide)) (by decide)
              refine g_icmp_ne cx 69 e_X11_wasWet_63 (by decide) (fun zc52 => ?_) (fun zc52 => ?_)
              · refine g_aload_n cx 1 rfl e_X11_wasWet_69 ?_
                refine g_cVvW cx [] [] (w_X11_laysPull l X ad F20 R21 oF20 oR21 wTF20R21 wCF20R21) ml_X11_422 yV_X11_laysPull e_X11_wasWet_70 (by unfold g_rr; decide) (by decide) 0 rfl rfl rfl (Nat.le_of_ble_eq_true rfl) (fun w54 h55 => ?_)
                obtain ⟨F56, R57, rfl, oF56, oR57, wTF56, wCF56, cF56, cR57⟩ := h55
                have fF56 : g_fr md_X11_wasWet F F56 := g_fr_c fF20 cF56 rfl
                have fR57 : g_fr mr_X11_wasWet R R57 := g_fr_c fR21 cR57 rfl
                refine g_aload_n cx 1 rfl e_X11_wasWet_73 ?_
                refine g_cVvW cx [] [] (w_X11_laysThings l X ad F56 R57 oF56 oR57 wTF56 wCF56) ml_X11_425 yV_X11_laysThings e_X11_wasWet_74 (by unfold g_rr; decide) (by decide) 0 rfl rfl rfl (Nat.le_of_ble_eq_true rfl) (fun w59 h60 => ?_)
                obtain ⟨F62, R63, rfl, oF62, oR63, wTF62, wCF62, cF62, cR63, zx61⟩ := h60
                have fF62 : g_fr md_X11_wasWet F F62 := g_fr_c fF56 cF62 rfl
                have fR63 : g_fr mr_X11_wasWet R R63 := g_fr_c fR57 cR63 rfl
                refine g_aload_n cx 1 rfl e_X11_wasWet_77 ?_
                refine g_get cx cl_X11 fl_X11_98 0 (.ref (ad 30)) e_X11_wasWet_78 rfl rfl ?_
                refine g_iload cx 0 rfl e_X11_wasWet_81 ?_
                refine g_iload cx 5 rfl e_X11_wasWet_83 ?_
                refine g_bipush cx 10 (by decide) e_X11_wasWet_85 ?_
                refine g_irem cx (by decide) e_X11_wasWet_87 ?_
                refine g_topi (fun x64 ex64 => ?_)
                have zx64 := jv_rem 0 9 ex64 p36 (jv_k (x := 10) 10 (by decide)) (by decide)
                refine g_iast cx 30 (wM X ad F62 (g_u R63 30 (upd (R63 30) (Int32.toNatClampNeg x37) x64))) e_X11_wasWet_88 rfl (jv_ix 10 zx37.2 (by decide)) rfl ?_
                obtain ⟨R65, hR65⟩ : ∃ z, z = g_u R63 30 (upd (R63 30) (Int32.toNatClampNeg x37) x64) := ⟨_, rfl⟩
                rw [← hR65]
                have oR65 : g_okR LA_wM R65 := by rw [hR65]; exact g_okR_u oR63 rfl
                have fR65 : g_fr mr_X11_wasWet R R65 := by rw [hR65]; exact g_fr_r fR63 rfl
                have wTR65 : WT F62 R65 := by rw [hR65]; exact WT_r wTF62 rfl
                have wCR65 : WC F62 R65 := by rw [hR65]; exact WC_r wCF62 rfl
                refine g_aload_n cx 1 rfl e_X11_wasWet_89 ?_
                refine g_cVvW cx [] [] (w_X11_runs l X ad F62 R65 oF62 oR65 wTR65 wCR65 (WN_of wTR65 ((zx61.trans (((cF62 4 rfl).trans (cF56 4 rfl)).trans (fF20 4 rfl))).trans (((cF62 4 rfl).trans (cF56 4 rfl)).trans (fF20 4 rfl)).symm))) ml_X11_428 yV_X11_runs e_X11_wasWet_90 (by unfold g_rr; decide) (by decide) 0 rfl rfl rfl (Nat.le_of_ble_eq_true rfl) (fun w67 h68 => ?_)
                obtain ⟨F69, R70, rfl, oF69, oR70, wTF69, wCF69, cF69, cR70⟩ := h68
                have fF69 : g_fr md_X11_wasWet F F69 := g_fr_c fF62 cF69 rfl
                have fR70 : g_fr mr_X11_wasWet R R70 := g_fr_c fR65 cR70 rfl
                refine g_aload_n cx 1 rfl e_X11_wasWet_93 ?_
                refine g_cViW cx [] [] (w_X11_fits l X ad F69 R70 oF69 oR70 wTF69 wCF69) ml_X11_474 yV_X11_fits e_X11_wasWet_94 (by unfold g_rr; decide) (by decide) 0 rfl rfl rfl (Nat.le_of_ble_eq_true rfl) (fun r71 w72 h73 => ?_)
                obtain ⟨rfl, pr71⟩ := h73
                refine g_if_ne cx 103 e_X11_wasWet_97 (by decide) (fun zc74 => ?_) (fun zc74 => ?_)
                · have p75 := gn_neL 1 1 (gc_ne zc74) pr71 (jv_k (x := 0) 0 (by decide)) (by decide)
                  refine g_iload_n cx 4 rfl e_X11_wasWet_103 ?_
                  refine g_iconst cx (-1) (by decide) e_X11_wasWet_104 ?_
                  have J114 : ∀ (y76 : Int32), (jv 0 99 y76) → G X E 6 0 0 (wM X ad F69 R70) [(0, .ref (ad 0)), (1, .int a0), (2, .int y17), (4, .int y19)] 114 [.int y76] := by
                    intro y76 py76
                    refine g_istore_n cx [(3, .int y76), (0, .ref (ad 0)), (1, .int a0), (2, .int y17), (4, .int y19)] e_X11_wasWet_114 (by decide) rfl ?_
                    refine g_iload_n cx 3 rfl e_X11_wasWet_115 ?_
                    refine g_iconst cx 1 (by decide) e_X11_wasWet_116 ?_
                    refine g_iadd cx e_X11_wasWet_117 ?_
                    refine g_topi (fun x77 ex77 => ?_)
                    refine g_istore_n cx [(2, .int x77), (3, .int y76), (0, .ref (ad 0)), (1, .int a0), (4, .int y19)] e_X11_wasWet_118 (by decide) rfl ?_
                    refine g_lsub [2, 3, 0, 1, 4] [(0, .ref (ad 0)), (1, .int a0), (2, .int x77), (3, .int y76), (4, .int y19)] rfl ?_
                    exact J119 F69 R70 x77 y76 oF69 fF69 oR70 fR70 wTF69 wCF69 (jv_t x77) (jv_w py76 (by decide))
                  refine g_icmp_ne cx 113 e_X11_wasWet_105 (by decide) (fun zc78 => ?_) (fun zc78 => ?_)
                  · have p79 := gn_neL 0 99 (gc_ne zc78) py18 (jv_k (x := (-1)) (-1) (by decide)) (by decide)
                    refine g_iload_n cx 4 rfl e_X11_wasWet_113 ?_
                    refine g_lsub [1, 2, 3, 5] [(0, .ref (ad 0)), (1, .int a0), (2, .int y17), (4, .int y19)] rfl ?_
                    exact J114 y18 p79
                  · have p80 := gn_eq (-1) (-1) (gc_eq zc78) py18 (jv_k (x := (-1)) (-1) (by decide)) (by decide)
                    refine g_iload cx 5 rfl e_X11_wasWet_108 ?_
                    refine g_goto cx 114 e_X11_wasWet_110 (by decide) ?_
                    refine g_lsub [1, 2, 3, 5] [(0, .ref (ad 0)), (1, .int a0), (2, .int y17), (4, .int y19)] rfl ?_
                    exact J114 y19 p36
                · have p81 := gn_eq 0 0 (gc_eq zc74) pr71 (jv_k (x := 0) 0 (by decide)) (by decide)
                  refine g_goto cx 119 e_X11_wasWet_100 (by decide) ?_
                  refine g_lsub [1, 2, 3, 4, 5] [(0, .ref (ad 0)), (1, .int a0), (2, .int y17), (3, .int y18), (4, .int y19)] rfl ?_
                  exact J119 F69 R70 y17 y18 oF69 fF69 oR70 fR70 wTF69 wCF69 py17 py18
              · have p82 := gn_eq 0 9 (gc_eq zc52) (jv_t x50) zx51.2 (by decide)
                refine g_goto cx 119 e_X11_wasWet_66 (by decide) ?_
                refine g_lsub [1, 2, 3, 4, 5] [(0, .ref (ad 0)), (1, .int a0), (2, .int y17), (3, .int y18), (4, .int y19)] rfl ?_
                exact J119 F20 R21 y17 y18 oF20 fF20 oR21 fR21 wTF20R21 wCF20R21 py17 py18
      refine g_lsub [3, 4, 2, 1, 0] [(0, .ref (ad 0)), (1, .int a0), (2, .int 0), (3, .int (-1)), (4, .int 0)] rfl ?_
      exact J25 _ F13 R14 0 (-1) 0 oF13 fF13 oR14 fR14 wTF13 wCF13 (jv_w (jv_k (x := 0) 0 (by decide)) (by decide)) (jv_w (jv_k (x := (-1)) (-1) (by decide)) (by decide)) (jv_w (jv_k (x := 0) 0 (by decide)) (by decide)) (Nat.lt_succ_self _)
    · have p83 := gn_eq 0 0 (gc_eq zc15) pr10 (jv_k (x := 0) 0 (by decide)) (by decide)
      refine g_lsub [] [] rfl ?_
      exact J16 F13 R14 oF13 fF13 oR14 fR14 wTF13 wCF13
theorem e_X11_howQuick_0 : g_dc cX11_howQuick 0 (.iload_n 1) 1 1 := ⟨by decide +kernel, rfl⟩
theorem e_X11_howQuick_1 : g_dc cX11_howQuick 1 (.iconst 0) 1 2 := ⟨by decide +kernel, rfl⟩
theorem e_X11_howQuick_2 : g_dc cX11_howQuick 2 (.iconst 1) 1 3 := ⟨by decide +kernel, rfl⟩
theorem e_X11_howQuick_3 : g_dc cX11_howQuick 3 (.invokestatic 165) 3 6 := ⟨by decide +kernel, rfl⟩
theorem e_X11_howQuick_6 : g_dc cX11_howQuick 6 (.ifCond .eq 10) 3 9 := ⟨by decide +kernel, rfl⟩
theorem e_X11_howQuick_9 : g_dc cX11_howQuick 9 (.aload_n 0) 1 10 := ⟨by decide +kernel, rfl⟩
theorem e_X11_howQuick_10 : g_dc cX11_howQuick 10 (.invokevirtual 471) 3 13 := ⟨by decide +kernel, rfl⟩
theorem e_X11_howQuick_13 : g_dc cX11_howQuick 13 (.ifCond .ne 5) 3 16 := ⟨by decide +kernel, rfl⟩
theorem e_X11_howQuick_16 : g_dc cX11_howQuick 16 (.iconst (-1)) 1 17 := ⟨by decide +kernel, rfl⟩
theorem e_X11_howQuick_17 : g_dc cX11_howQuick 17 (.ireturn) 1 18 := ⟨by decide +kernel, rfl⟩
theorem e_X11_howQuick_18 : g_dc cX11_howQuick 18 (.iconst 0) 1 19 := ⟨by decide +kernel, rfl⟩
theorem e_X11_howQuick_19 : g_dc cX11_howQuick 19 (.istore_n 2) 1 20 := ⟨by decide +kernel, rfl⟩
theorem e_X11_howQuick_20 : g_dc cX11_howQuick 20 (.bipush (-2)) 2 22 := ⟨by decide +kernel, rfl⟩
theorem e_X11_howQuick_22 : g_dc cX11_howQuick 22 (.istore_n 3) 1 23 := ⟨by decide +kernel, rfl⟩
theorem e_X11_howQuick_23 : g_dc cX11_howQuick 23 (.iconst 1) 1 24 := ⟨by decide +kernel, rfl⟩
theorem e_X11_howQuick_24 : g_dc cX11_howQuick 24 (.istore 4) 2 26 := ⟨by decide +kernel, rfl⟩
theorem e_X11_howQuick_26 : g_dc cX11_howQuick 26 (.iload 4) 2 28 := ⟨by decide +kernel, rfl⟩
theorem e_X11_howQuick_28 : g_dc cX11_howQuick 28 (.bipush 40) 2 30 := ⟨by decide +kernel, rfl⟩
theorem e_X11_howQuick_30 : g_dc cX11_howQuick 30 (.if_icmp .gt 44) 3 33 := ⟨by decide +kernel, rfl⟩
theorem e_X11_howQuick_33 : g_dc cX11_howQuick 33 (.aload_n 0) 1 34 := ⟨by decide +kernel, rfl⟩
theorem e_X11_howQuick_34 : g_dc cX11_howQuick 34 (.invokevirtual 425) 3 37 := ⟨by decide +kernel, rfl⟩
theorem e_X11_howQuick_37 : g_dc cX11_howQuick 37 (.aload_n 0) 1 38 := ⟨by decide +kernel, rfl⟩
theorem e_X11_howQuick_38 : g_dc cX11_howQuick 38 (.iload 4) 2 40 := ⟨by decide +kernel, rfl⟩
theorem e_X11_howQuick_40 : g_dc cX11_howQuick 40 (.invokevirtual 446) 3 43 := ⟨by decide +kernel, rfl⟩
theorem e_X11_howQuick_43 : g_dc cX11_howQuick 43 (.aload_n 0) 1 44 := ⟨by decide +kernel, rfl⟩
theorem e_X11_howQuick_44 : g_dc cX11_howQuick 44 (.invokevirtual 474) 3 47 := ⟨by decide +kernel, rfl⟩
theorem e_X11_howQuick_47 : g_dc cX11_howQuick 47 (.ifCond .ne 6) 3 50 := ⟨by decide +kernel, rfl⟩
theorem e_X11_howQuick_50 : g_dc cX11_howQuick 50 (.goto 18) 3 53 := ⟨by decide +kernel, rfl⟩
theorem e_X11_howQuick_53 : g_dc cX11_howQuick 53 (.iload_n 2) 1 54 := ⟨by decide +kernel, rfl⟩
theorem e_X11_howQuick_54 : g_dc cX11_howQuick 54 (.ifCond .ne 8) 3 57 := ⟨by decide +kernel, rfl⟩
theorem e_X11_howQuick_57 : g_dc cX11_howQuick 57 (.iload 4) 2 59 := ⟨by decide +kernel, rfl⟩
theorem e_X11_howQuick_59 : g_dc cX11_howQuick 59 (.goto 4) 3 62 := ⟨by decide +kernel, rfl⟩
theorem e_X11_howQuick_62 : g_dc cX11_howQuick 62 (.iload_n 3) 1 63 := ⟨by decide +kernel, rfl⟩
theorem e_X11_howQuick_63 : g_dc cX11_howQuick 63 (.istore_n 3) 1 64 := ⟨by decide +kernel, rfl⟩
theorem e_X11_howQuick_64 : g_dc cX11_howQuick 64 (.iload_n 2) 1 65 := ⟨by decide +kernel, rfl⟩
theorem e_X11_howQuick_65 : g_dc cX11_howQuick 65 (.iconst 1) 1 66 := ⟨by decide +kernel, rfl⟩
theorem e_X11_howQuick_66 : g_dc cX11_howQuick 66 (.iadd) 1 67 := ⟨by decide +kernel, rfl⟩
theorem e_X11_howQuick_67 : g_dc cX11_howQuick 67 (.istore_n 2) 1 68 := ⟨by decide +kernel, rfl⟩
theorem e_X11_howQuick_68 : g_dc cX11_howQuick 68 (.iinc 4 1) 3 71 := ⟨by decide +kernel, rfl⟩
theorem e_X11_howQuick_71 : g_dc cX11_howQuick 71 (.goto (-45)) 3 74 := ⟨by decide +kernel, rfl⟩
theorem e_X11_howQuick_74 : g_dc cX11_howQuick 74 (.iload_n 1) 1 75 := ⟨by decide +kernel, rfl⟩
theorem e_X11_howQuick_75 : g_dc cX11_howQuick 75 (.ifCond .ne 7) 3 78 := ⟨by decide +kernel, rfl⟩
theorem e_X11_howQuick_78 : g_dc cX11_howQuick 78 (.iload_n 2) 1 79 := ⟨by decide +kernel, rfl⟩
theorem e_X11_howQuick_79 : g_dc cX11_howQuick 79 (.goto 4) 3 82 := ⟨by decide +kernel, rfl⟩
theorem e_X11_howQuick_82 : g_dc cX11_howQuick 82 (.iload_n 3) 1 83 := ⟨by decide +kernel, rfl⟩
theorem e_X11_howQuick_83 : g_dc cX11_howQuick 83 (.ireturn) 1 84 := ⟨by decide +kernel, rfl⟩
def md_X11_howQuick : List Nat := [3, 14, 42, 43, 44, 45, 46, 47, 48, 49, 50, 51, 65, 66, 67, 68, 69]
def mr_X11_howQuick : List Nat := [23, 24, 25, 26, 27, 28, 29, 30, 31, 32, 33, 34, 35, 36, 37, 40]
set_option maxHeartbeats 4000000 in
set_option maxRecDepth 100000 in
theorem w_X11_howQuick (l : Launch) (X : gX) (ad : Nat → Nat) (F : Nat → Int32) (R : Nat → Nat → Int32) (hI : g_ok LK_wM F) (hA : g_okR LA_wM R) (hWT : WT F R) (hWC : WC F R) (a0 : Int32) : g_Ci l X yX11_howQuick cX11_howQuick 5 (some .int) 8 0 0 [.ref (ad 0), .int a0] (wM X ad F R) (fun r w => ∃ (F' : Nat → Int32) (R' : Nat → Nat → Int32), w = wM X ad F' R' ∧ g_ok LK_wM F' ∧ g_okR LA_wM R' ∧ WT F' R' ∧ WC F' R' ∧ g_fr md_X11_howQuick F F' ∧ g_fr mr_X11_howQuick R R' ∧ jv (-2147483648) 2147483647 r) := by
  refine g_mi (by decide +kernel) (Nat.le_of_ble_eq_true rfl) (fun E cx hret => ?_)
  refine g_iload_n cx 1 rfl e_X11_howQuick_0 ?_
  refine g_iconst cx 0 (by decide) e_X11_howQuick_1 ?_
  refine g_iconst cx 1 (by decide) e_X11_howQuick_2 ?_
  refine g_cSiW cx [.int a0, .int 0, .int 1] [] (c_X11_in l X (wM X ad F R) a0 0 1) ml_X11_165 yS_X11_in rfl e_X11_howQuick_3 (by unfold g_rr; decide) (by decide) rfl (Nat.le_of_ble_eq_true rfl) (fun r1 w2 h3 => ?_)
  obtain ⟨rfl, hr1⟩ := h3
  have pr1 : jv 0 1 r1 := by rw [hr1]; exact gi_01 _ _ _
  have J16 : ∀ (F4 : Nat → Int32) (R5 : Nat → Nat → Int32), (g_ok LK_wM F4) → (g_fr md_X11_howQuick F F4) → (g_okR LA_wM R5) → (g_fr mr_X11_howQuick R R5) → (WT F4 R5) → (WC F4 R5) → G X E 5 0 0 (wM X ad F4 R5) [] 16 [] := by
    intro F4 R5 oF4 fF4 oR5 fR5 wTF4R5 wCF4R5
    refine g_iconst cx (-1) (by decide) e_X11_howQuick_16 ?_
    exact hret e_X11_howQuick_17 (Nat.le_of_ble_eq_true rfl) (Nat.le_of_ble_eq_true rfl) rfl ⟨F4, R5, rfl, oF4, oR5, wTF4R5, wCF4R5, fF4, fR5, (jv_w (jv_k (x := (-1)) (-1) (by decide)) (by decide))⟩
  refine g_if_eq cx 16 e_X11_howQuick_6 (by decide) (fun zc6 => ?_) (fun zc6 => ?_)
  · have p7 := gn_eq 0 0 (gc_eq zc6) pr1 (jv_k (x := 0) 0 (by decide)) (by decide)
    refine g_lsub [] [] rfl ?_
    exact J16 F R hI (g_fr_rf F) hA (g_fr_rf R) hWT hWC
  · have p8 := gn_neL 1 1 (gc_ne zc6) pr1 (jv_k (x := 0) 0 (by decide)) (by decide)
    have p9 := jv_i 0 1 (jv_t a0) (gi_in (A := 0) (B := 1) hr1 zc6 (by decide) (by decide)) (by decide)
    refine g_aload_n cx 0 rfl e_X11_howQuick_9 ?_
    refine g_cViW cx [] [] (w_X11_takesPlaces l X ad F R hI hA hWT hWC) ml_X11_471 yV_X11_takesPlaces e_X11_howQuick_10 (by unfold g_rr; decide) (by decide) 0 rfl rfl rfl (Nat.le_of_ble_eq_true rfl) (fun r10 w11 h12 => ?_)
    obtain ⟨F13, R14, rfl, oF13, oR14, wTF13, wCF13, cF13, cR14, pr10⟩ := h12
    have fF13 : g_fr md_X11_howQuick F F13 := g_fr_c (g_fr_rf F) cF13 rfl
    have fR14 : g_fr mr_X11_howQuick R R14 := g_fr_c (g_fr_rf R) cR14 rfl
    refine g_if_ne cx 18 e_X11_howQuick_13 (by decide) (fun zc15 => ?_) (fun zc15 => ?_)
    · have p16 := gn_neL 1 1 (gc_ne zc15) pr10 (jv_k (x := 0) 0 (by decide)) (by decide)
      refine g_iconst cx 0 (by decide) e_X11_howQuick_18 ?_
      refine g_istore_n cx [(2, .int 0), (0, .ref (ad 0)), (1, .int a0)] e_X11_howQuick_19 (by decide) rfl ?_
      refine g_bipush cx (-2) (by decide) e_X11_howQuick_20 ?_
      refine g_istore_n cx [(3, .int (-2)), (2, .int 0), (0, .ref (ad 0)), (1, .int a0)] e_X11_howQuick_22 (by decide) rfl ?_
      refine g_iconst cx 1 (by decide) e_X11_howQuick_23 ?_
      refine g_istore cx [(4, .int 1), (3, .int (-2)), (2, .int 0), (0, .ref (ad 0)), (1, .int a0)] e_X11_howQuick_24 (by decide) rfl ?_
      have J26 : ∀ (N : Nat) (F20 : Nat → Int32) (R21 : Nat → Nat → Int32) (y17 : Int32) (y18 : Int32) (y19 : Int32), (g_ok LK_wM F20) → (g_fr md_X11_howQuick F F20) → (g_okR LA_wM R21) → (g_fr mr_X11_howQuick R R21) → (WT F20 R21) → (WC F20 R21) → (jv (-2147483648) 2147483647 y17) → (jv (-2) 40 y18) → (jv 1 41 y19) → (2147483647 - y19.toInt).toNat < N → G X E 5 0 0 (wM X ad F20 R21) [(0, .ref (ad 0)), (1, .int a0), (2, .int y17), (3, .int y18), (4, .int y19)] 26 [] := by
        intro N
        induction N with
        | zero => intro F20 R21 y17 y18 y19 oF20 fF20 oR21 fR21 wTF20R21 wCF20R21 py17 py18 py19 hm; exact absurd hm (Nat.not_lt_zero _)
        | succ N ih26 =>
          intro F20 R21 y17 y18 y19 oF20 fF20 oR21 fR21 wTF20R21 wCF20R21 py17 py18 py19 hm26
          refine g_iload cx 4 rfl e_X11_howQuick_26 ?_
          refine g_bipush cx 40 (by decide) e_X11_howQuick_28 ?_
          refine g_icmp_gt cx 74 e_X11_howQuick_30 (by decide) (fun zc22 => ?_) (fun zc22 => ?_)
          · have p23 := gn_gt 41 41 (gc_lt zc22) py19 (jv_k (x := 40) 40 (by decide)) (by decide)
            refine g_iload_n cx 1 rfl e_X11_howQuick_74 ?_
            have J83 : ∀ (y24 : Int32), (jv (-2147483648) 2147483647 y24) → G X E 5 0 0 (wM X ad F20 R21) [] 83 [.int y24] := by
              intro y24 py24
              exact hret e_X11_howQuick_83 (Nat.le_of_ble_eq_true rfl) (Nat.le_of_ble_eq_true rfl) rfl ⟨F20, R21, rfl, oF20, oR21, wTF20R21, wCF20R21, fF20, fR21, py24⟩
            refine g_if_ne cx 82 e_X11_howQuick_75 (by decide) (fun zc25 => ?_) (fun zc25 => ?_)
            · have p26 := gn_neL 1 1 (gc_ne zc25) p9 (jv_k (x := 0) 0 (by decide)) (by decide)
              refine g_iload_n cx 3 rfl e_X11_howQuick_82 ?_
              refine g_lsub [] [] rfl ?_
              exact J83 y18 (jv_w py18 (by decide))
            · have p27 := gn_eq 0 0 (gc_eq zc25) p9 (jv_k (x := 0) 0 (by decide)) (by decide)
              refine g_iload_n cx 2 rfl e_X11_howQuick_78 ?_
              refine g_goto cx 83 e_X11_howQuick_79 (by decide) ?_
              refine g_lsub [] [] rfl ?_
              exact J83 y17 py17
          · have p28 := gn_le 1 40 (gc_nlt zc22) py19 (jv_k (x := 40) 40 (by decide)) (by decide)
            refine g_aload_n cx 0 rfl e_X11_howQuick_33 ?_
            refine g_cVvW cx [] [] (w_X11_laysThings l X ad F20 R21 oF20 oR21 wTF20R21 wCF20R21) ml_X11_425 yV_X11_laysThings e_X11_howQuick_34 (by unfold g_rr; decide) (by decide) 0 rfl rfl rfl (Nat.le_of_ble_eq_true rfl) (fun w30 h31 => ?_)
            obtain ⟨F33, R34, rfl, oF33, oR34, wTF33, wCF33, cF33, cR34, zx32⟩ := h31
            have fF33 : g_fr md_X11_howQuick F F33 := g_fr_c fF20 cF33 rfl
            have fR34 : g_fr mr_X11_howQuick R R34 := g_fr_c fR21 cR34 rfl
            refine g_aload_n cx 0 rfl e_X11_howQuick_37 ?_
            refine g_iload cx 4 rfl e_X11_howQuick_38 ?_
            refine g_cVvW cx [.int y19] [] (w_X11_runsEven l X ad F33 R34 oF33 oR34 wTF33 wCF33 y19 (WN_of wTF33 ((zx32.trans ((cF33 4 rfl).trans (fF20 4 rfl))).trans ((cF33 4 rfl).trans (fF20 4 rfl)).symm))) ml_X11_446 yV_X11_runsEven e_X11_howQuick_40 (by unfold g_rr; decide) (by decide) 0 rfl rfl rfl (Nat.le_of_ble_eq_true rfl) (fun w36 h37 => ?_)
            obtain ⟨F38, R39, rfl, oF38, oR39, wTF38, wCF38, cF38, cR39⟩ := h37
            have fF38 : g_fr md_X11_howQuick F F38 := g_fr_c fF33 cF38 rfl
            have fR39 : g_fr mr_X11_howQuick R R39 := g_fr_c fR34 cR39 rfl
            refine g_aload_n cx 0 rfl e_X11_howQuick_43 ?_
            refine g_cViW cx [] [] (w_X11_fits l X ad F38 R39 oF38 oR39 wTF38 wCF38) ml_X11_474 yV_X11_fits e_X11_howQuick_44 (by unfold g_rr; decide) (by decide) 0 rfl rfl rfl (Nat.le_of_ble_eq_true rfl) (fun r40 w41 h42 => ?_)
            obtain ⟨rfl, pr40⟩ := h42
            have J68 : ∀ (y43 : Int32) (y44 : Int32), (jv (-2147483648) 2147483647 y43) → (jv (-2) 40 y44) → G X E 5 0 0 (wM X ad F38 R39) [(0, .ref (ad 0)), (1, .int a0), (2, .int y43), (3, .int y44), (4, .int y19)] 68 [] := by
              intro y43 y44 py43 py44
              obtain ⟨x45, ex45⟩ : ∃ z : Int32, z = y19 + Int32.ofInt 1 := ⟨_, rfl⟩
              refine g_iinc cx x45 [(4, .int x45), (0, .ref (ad 0)), (1, .int a0), (2, .int y43), (3, .int y44)] 4 e_X11_howQuick_68 rfl ex45.symm (by decide) rfl ?_
              have zx45 := jv_add 2 41 (show x45 = y19 + 1 from ex45) p28 (jv_k (x := 1) 1 (by decide)) (by decide)
              refine g_goto cx 26 e_X11_howQuick_71 (by decide) ?_
              refine g_lsub [1, 2, 3, 4, 0] [(0, .ref (ad 0)), (1, .int a0), (2, .int y43), (3, .int y44), (4, .int x45)] rfl ?_
              exact ih26 F38 R39 y43 y44 x45 oF38 fF38 oR39 fR39 wTF38 wCF38 py43 py44 (jv_w zx45.2 (by decide)) (Nat.lt_of_lt_of_le (show (2147483647 - x45.toInt).toNat < (2147483647 - y19.toInt).toNat from by have q0 := (jv_k (x := 1) 1 (by decide)).1; have q1 := (jv_k (x := 1) 1 (by decide)).2; have q2 := (jv_k (x := 40) 40 (by decide)).1; have q3 := (jv_k (x := 40) 40 (by decide)).2; have q4 := zx45.2.1; have q5 := zx45.2.2; have q6 := p28.1; have q7 := p28.2; have q8 := (gc_nlt zc22); have q9 := (g_eq0 zx45.1); omega) (Nat.le_of_lt_succ hm26))
            refine g_if_ne cx 53 e_X11_howQuick_47 (by decide) (fun zc46 => ?_) (fun zc46 => ?_)
            · have p47 := gn_neL 1 1 (gc_ne zc46) pr40 (jv_k (x := 0) 0 (by decide)) (by decide)
              refine g_iload_n cx 2 rfl e_X11_howQuick_53 ?_
              have J63 : ∀ (y48 : Int32), (jv (-2) 40 y48) → G X E 5 0 0 (wM X ad F38 R39) [(0, .ref (ad 0)), (1, .int a0), (2, .int y17), (4, .int y19)] 63 [.int y48] := by
                intro y48 py48
                refine g_istore_n cx [(3, .int y48), (0, .ref (ad 0)), (1, .int a0), (2, .int y17), (4, .int y19)] e_X11_howQuick_63 (by decide) rfl ?_
                refine g_iload_n cx 3 rfl e_X11_howQuick_64 ?_
                refine g_iconst cx 1 (by decide) e_X11_howQuick_65 ?_
                refine g_iadd cx e_X11_howQuick_66 ?_
                refine g_topi (fun x49 ex49 => ?_)
                refine g_istore_n cx [(2, .int x49), (3, .int y48), (0, .ref (ad 0)), (1, .int a0), (4, .int y19)] e_X11_howQuick_67 (by decide) rfl ?_
                refine g_lsub [2, 3, 0, 1, 4] [(0, .ref (ad 0)), (1, .int a0), (2, .int x49), (3, .int y48), (4, .int y19)] rfl ?_
                exact J68 x49 y48 (jv_t x49) py48
              refine g_if_ne cx 62 e_X11_howQuick_54 (by decide) (fun zc50 => ?_) (fun zc50 => ?_)
              · refine g_iload_n cx 3 rfl e_X11_howQuick_62 ?_
                refine g_lsub [0, 1, 2, 4] [(0, .ref (ad 0)), (1, .int a0), (2, .int y17), (4, .int y19)] rfl ?_
                exact J63 y18 py18
              · have p51 := gn_eq 0 0 (gc_eq zc50) py17 (jv_k (x := 0) 0 (by decide)) (by decide)
                refine g_iload cx 4 rfl e_X11_howQuick_57 ?_
                refine g_goto cx 63 e_X11_howQuick_59 (by decide) ?_
                refine g_lsub [0, 1, 2, 4] [(0, .ref (ad 0)), (1, .int a0), (2, .int y17), (4, .int y19)] rfl ?_
                exact J63 y19 (jv_w p28 (by decide))
            · have p52 := gn_eq 0 0 (gc_eq zc46) pr40 (jv_k (x := 0) 0 (by decide)) (by decide)
              refine g_goto cx 68 e_X11_howQuick_50 (by decide) ?_
              exact J68 y17 y18 py17 py18
      refine g_lsub [3, 4, 2, 1, 0] [(0, .ref (ad 0)), (1, .int a0), (2, .int 0), (3, .int (-2)), (4, .int 1)] rfl ?_
      exact J26 _ F13 R14 0 (-2) 1 oF13 fF13 oR14 fR14 wTF13 wCF13 (jv_w (jv_k (x := 0) 0 (by decide)) (by decide)) (jv_w (jv_k (x := (-2)) (-2) (by decide)) (by decide)) (jv_w (jv_k (x := 1) 1 (by decide)) (by decide)) (Nat.lt_succ_self _)
    · have p53 := gn_eq 0 0 (gc_eq zc15) pr10 (jv_k (x := 0) 0 (by decide)) (by decide)
      refine g_lsub [] [] rfl ?_
      exact J16 F13 R14 oF13 fF13 oR14 fR14 wTF13 wCF13
theorem e_X11_rowsOf_0 : g_dc cX11_rowsOf 0 (.iload_n 1) 1 1 := ⟨by decide +kernel, rfl⟩
theorem e_X11_rowsOf_1 : g_dc cX11_rowsOf 1 (.iconst 1) 1 2 := ⟨by decide +kernel, rfl⟩
theorem e_X11_rowsOf_2 : g_dc cX11_rowsOf 2 (.if_icmp .ne 8) 3 5 := ⟨by decide +kernel, rfl⟩
theorem e_X11_rowsOf_5 : g_dc cX11_rowsOf 5 (.bipush 10) 2 7 := ⟨by decide +kernel, rfl⟩
theorem e_X11_rowsOf_7 : g_dc cX11_rowsOf 7 (.goto 16) 3 10 := ⟨by decide +kernel, rfl⟩
theorem e_X11_rowsOf_10 : g_dc cX11_rowsOf 10 (.iload_n 1) 1 11 := ⟨by decide +kernel, rfl⟩
theorem e_X11_rowsOf_11 : g_dc cX11_rowsOf 11 (.iconst 2) 1 12 := ⟨by decide +kernel, rfl⟩
theorem e_X11_rowsOf_12 : g_dc cX11_rowsOf 12 (.if_icmp .ne 8) 3 15 := ⟨by decide +kernel, rfl⟩
theorem e_X11_rowsOf_15 : g_dc cX11_rowsOf 15 (.bipush 100) 2 17 := ⟨by decide +kernel, rfl⟩
theorem e_X11_rowsOf_17 : g_dc cX11_rowsOf 17 (.goto 6) 3 20 := ⟨by decide +kernel, rfl⟩
theorem e_X11_rowsOf_20 : g_dc cX11_rowsOf 20 (.sipush 1000) 3 23 := ⟨by decide +kernel, rfl⟩
theorem e_X11_rowsOf_23 : g_dc cX11_rowsOf 23 (.ireturn) 1 24 := ⟨by decide +kernel, rfl⟩
set_option maxHeartbeats 4000000 in
set_option maxRecDepth 100000 in
theorem w_X11_rowsOf (l : Launch) (X : gX) (ad : Nat → Nat) (F : Nat → Int32) (R : Nat → Nat → Int32) (hI : g_ok LK_wM F) (hA : g_okR LA_wM R) (hWT : WT F R) (hWC : WC F R) (a0 : Int32) : g_Ci l X yX11_rowsOf cX11_rowsOf 2 (some .int) 1 0 0 [.ref (ad 0), .int a0] (wM X ad F R) (fun r w => w = wM X ad F R ∧ jv 10 1000 r) := by
  refine g_mi (by decide +kernel) (Nat.le_of_ble_eq_true rfl) (fun E cx hret => ?_)
  refine g_iload_n cx 1 rfl e_X11_rowsOf_0 ?_
  refine g_iconst cx 1 (by decide) e_X11_rowsOf_1 ?_
  have J23 : ∀ (y1 : Int32), (jv 10 1000 y1) → G X E 2 0 0 (wM X ad F R) [] 23 [.int y1] := by
    intro y1 py1
    exact hret e_X11_rowsOf_23 (Nat.le_of_ble_eq_true rfl) (Nat.le_of_ble_eq_true rfl) rfl ⟨rfl, py1⟩
  refine g_icmp_ne cx 10 e_X11_rowsOf_2 (by decide) (fun zc2 => ?_) (fun zc2 => ?_)
  · refine g_iload_n cx 1 rfl e_X11_rowsOf_10 ?_
    refine g_iconst cx 2 (by decide) e_X11_rowsOf_11 ?_
    refine g_icmp_ne cx 20 e_X11_rowsOf_12 (by decide) (fun zc3 => ?_) (fun zc3 => ?_)
    · refine g_sipush cx 1000 (by decide) e_X11_rowsOf_20 ?_
      refine g_lsub [] [] rfl ?_
      exact J23 1000 (jv_w (jv_k (x := 1000) 1000 (by decide)) (by decide))
    · have p4 := gn_eq 2 2 (gc_eq zc3) (jv_t a0) (jv_k (x := 2) 2 (by decide)) (by decide)
      refine g_bipush cx 100 (by decide) e_X11_rowsOf_15 ?_
      refine g_goto cx 23 e_X11_rowsOf_17 (by decide) ?_
      refine g_lsub [] [] rfl ?_
      exact J23 100 (jv_w (jv_k (x := 100) 100 (by decide)) (by decide))
  · have p5 := gn_eq 1 1 (gc_eq zc2) (jv_t a0) (jv_k (x := 1) 1 (by decide)) (by decide)
    refine g_bipush cx 10 (by decide) e_X11_rowsOf_5 ?_
    refine g_goto cx 23 e_X11_rowsOf_7 (by decide) ?_
    refine g_lsub [] [] rfl ?_
    exact J23 10 (jv_w (jv_k (x := 10) 10 (by decide)) (by decide))
theorem e_X11_runsBy_0 : g_dc cX11_runsBy 0 (.aload_n 0) 1 1 := ⟨by decide +kernel, rfl⟩
theorem e_X11_runsBy_1 : g_dc cX11_runsBy 1 (.invokevirtual 422) 3 4 := ⟨by decide +kernel, rfl⟩
theorem e_X11_runsBy_4 : g_dc cX11_runsBy 4 (.aload_n 0) 1 5 := ⟨by decide +kernel, rfl⟩
theorem e_X11_runsBy_5 : g_dc cX11_runsBy 5 (.invokevirtual 425) 3 8 := ⟨by decide +kernel, rfl⟩
theorem e_X11_runsBy_8 : g_dc cX11_runsBy 8 (.aload_n 0) 1 9 := ⟨by decide +kernel, rfl⟩
theorem e_X11_runsBy_9 : g_dc cX11_runsBy 9 (.iload_n 1) 1 10 := ⟨by decide +kernel, rfl⟩
theorem e_X11_runsBy_10 : g_dc cX11_runsBy 10 (.putfield 322) 3 13 := ⟨by decide +kernel, rfl⟩
theorem e_X11_runsBy_13 : g_dc cX11_runsBy 13 (.aload_n 0) 1 14 := ⟨by decide +kernel, rfl⟩
theorem e_X11_runsBy_14 : g_dc cX11_runsBy 14 (.iload_n 2) 1 15 := ⟨by decide +kernel, rfl⟩
theorem e_X11_runsBy_15 : g_dc cX11_runsBy 15 (.putfield 346) 3 18 := ⟨by decide +kernel, rfl⟩
theorem e_X11_runsBy_18 : g_dc cX11_runsBy 18 (.aload_n 0) 1 19 := ⟨by decide +kernel, rfl⟩
theorem e_X11_runsBy_19 : g_dc cX11_runsBy 19 (.invokevirtual 428) 3 22 := ⟨by decide +kernel, rfl⟩
theorem e_X11_runsBy_22 : g_dc cX11_runsBy 22 (.return_) 1 23 := ⟨by decide +kernel, rfl⟩
def md_X11_runsBy : List Nat := [3, 42, 43, 44, 45, 46, 47, 48, 49, 50, 51, 65, 66, 67, 68, 69]
def mr_X11_runsBy : List Nat := [23, 24, 25, 26, 27, 28, 29, 30, 31, 32, 33, 34, 35, 36, 37]
set_option maxHeartbeats 4000000 in
set_option maxRecDepth 100000 in
theorem w_X11_runsBy (l : Launch) (X : gX) (ad : Nat → Nat) (F : Nat → Int32) (R : Nat → Nat → Int32) (hI : g_ok LK_wM F) (hA : g_okR LA_wM R) (hWT : WT F R) (hWC : WC F R) (a0 : Int32) (a1 : Int32) : g_Cv l X yX11_runsBy cX11_runsBy 3 7 0 0 [.ref (ad 0), .int a0, .int a1] (wM X ad F R) (fun w => ∃ (F' : Nat → Int32) (R' : Nat → Nat → Int32), w = wM X ad F' R' ∧ g_ok LK_wM F' ∧ g_okR LA_wM R' ∧ WT F' R' ∧ WC F' R' ∧ g_fr md_X11_runsBy F F' ∧ g_fr mr_X11_runsBy R R') := by
  refine g_mv (by decide +kernel) (Nat.le_of_ble_eq_true rfl) (fun E cx hret => ?_)
  refine g_aload_n cx 0 rfl e_X11_runsBy_0 ?_
  refine g_cVvW cx [] [] (w_X11_laysPull l X ad F R hI hA hWT hWC) ml_X11_422 yV_X11_laysPull e_X11_runsBy_1 (by unfold g_rr; decide) (by decide) 0 rfl rfl rfl (Nat.le_of_ble_eq_true rfl) (fun w2 h3 => ?_)
  obtain ⟨F4, R5, rfl, oF4, oR5, wTF4, wCF4, cF4, cR5⟩ := h3
  have fF4 : g_fr md_X11_runsBy F F4 := g_fr_c (g_fr_rf F) cF4 rfl
  have fR5 : g_fr mr_X11_runsBy R R5 := g_fr_c (g_fr_rf R) cR5 rfl
  refine g_aload_n cx 0 rfl e_X11_runsBy_4 ?_
  refine g_cVvW cx [] [] (w_X11_laysThings l X ad F4 R5 oF4 oR5 wTF4 wCF4) ml_X11_425 yV_X11_laysThings e_X11_runsBy_5 (by unfold g_rr; decide) (by decide) 0 rfl rfl rfl (Nat.le_of_ble_eq_true rfl) (fun w7 h8 => ?_)
  obtain ⟨F10, R11, rfl, oF10, oR11, wTF10, wCF10, cF10, cR11, zx9⟩ := h8
  have fF10 : g_fr md_X11_runsBy F F10 := g_fr_c fF4 cF10 rfl
  have fR11 : g_fr mr_X11_runsBy R R11 := g_fr_c fR5 cR11 rfl
  refine g_aload_n cx 0 rfl e_X11_runsBy_8 ?_
  refine g_iload_n cx 1 rfl e_X11_runsBy_9 ?_
  refine g_put cx cl_X11 fl_X11_322 0 (wM X ad (upd F10 49 a0) R11) e_X11_runsBy_10 rfl rfl rfl rfl (Nat.le_of_ble_eq_true rfl) rfl ?_
  obtain ⟨F12, hF12⟩ : ∃ z, z = upd F10 49 a0 := ⟨_, rfl⟩
  rw [← hF12]
  have oF12 : g_ok LK_wM F12 := by rw [hF12]; exact g_ok_u oF10 rfl
  have fF12 : g_fr md_X11_runsBy F F12 := by rw [hF12]; exact g_fr_u fF10 rfl
  have wTF12 : WT F12 R11 := by rw [hF12]; exact WT_u wTF10 rfl
  have wCF12 : WC F12 R11 := by rw [hF12]; exact WC_u wCF10 rfl
  refine g_aload_n cx 0 rfl e_X11_runsBy_13 ?_
  refine g_iload_n cx 2 rfl e_X11_runsBy_14 ?_
  refine g_put cx cl_X11 fl_X11_346 0 (wM X ad (upd F12 50 a1) R11) e_X11_runsBy_15 rfl rfl rfl rfl (Nat.le_of_ble_eq_true rfl) rfl ?_
  obtain ⟨F13, hF13⟩ : ∃ z, z = upd F12 50 a1 := ⟨_, rfl⟩
  rw [← hF13]
  have oF13 : g_ok LK_wM F13 := by rw [hF13]; exact g_ok_u oF12 rfl
  have fF13 : g_fr md_X11_runsBy F F13 := by rw [hF13]; exact g_fr_u fF12 rfl
  have wTF13 : WT F13 R11 := by rw [hF13]; exact WT_u wTF12 rfl
  have wCF13 : WC F13 R11 := by rw [hF13]; exact WC_u wCF12 rfl
  refine g_aload_n cx 0 rfl e_X11_runsBy_18 ?_
  refine g_cVvW cx [] [] (w_X11_runs l X ad F13 R11 oF13 oR11 wTF13 wCF13 (WN_of wTF13 (((((g_pu2 hF13 rfl).trans (g_pu2 hF12 rfl)).trans zx9).trans ((cF10 4 rfl).trans (cF4 4 rfl))).trans ((((g_pu2 hF13 rfl).trans (g_pu2 hF12 rfl)).trans (cF10 4 rfl)).trans (cF4 4 rfl)).symm))) ml_X11_428 yV_X11_runs e_X11_runsBy_19 (by unfold g_rr; decide) (by decide) 0 rfl rfl rfl (Nat.le_of_ble_eq_true rfl) (fun w15 h16 => ?_)
  obtain ⟨F17, R18, rfl, oF17, oR18, wTF17, wCF17, cF17, cR18⟩ := h16
  have fF17 : g_fr md_X11_runsBy F F17 := g_fr_c fF13 cF17 rfl
  have fR18 : g_fr mr_X11_runsBy R R18 := g_fr_c fR11 cR18 rfl
  exact hret e_X11_runsBy_22 (Nat.le_of_ble_eq_true rfl) (Nat.le_of_ble_eq_true rfl) ⟨F17, R18, rfl, oF17, oR18, wTF17, wCF17, fF17, fR18⟩
theorem e_X11_odds_0 : g_dc cX11_odds 0 (.iload_n 1) 1 1 := ⟨by decide +kernel, rfl⟩
theorem e_X11_odds_1 : g_dc cX11_odds 1 (.iconst 1) 1 2 := ⟨by decide +kernel, rfl⟩
theorem e_X11_odds_2 : g_dc cX11_odds 2 (.iconst 3) 1 3 := ⟨by decide +kernel, rfl⟩
theorem e_X11_odds_3 : g_dc cX11_odds 3 (.invokestatic 165) 3 6 := ⟨by decide +kernel, rfl⟩
theorem e_X11_odds_6 : g_dc cX11_odds 6 (.ifCond .eq 29) 3 9 := ⟨by decide +kernel, rfl⟩
theorem e_X11_odds_9 : g_dc cX11_odds 9 (.iload_n 2) 1 10 := ⟨by decide +kernel, rfl⟩
theorem e_X11_odds_10 : g_dc cX11_odds 10 (.iconst 0) 1 11 := ⟨by decide +kernel, rfl⟩
theorem e_X11_odds_11 : g_dc cX11_odds 11 (.bipush 10) 2 13 := ⟨by decide +kernel, rfl⟩
theorem e_X11_odds_13 : g_dc cX11_odds 13 (.invokestatic 165) 3 16 := ⟨by decide +kernel, rfl⟩
theorem e_X11_odds_16 : g_dc cX11_odds 16 (.ifCond .eq 19) 3 19 := ⟨by decide +kernel, rfl⟩
theorem e_X11_odds_19 : g_dc cX11_odds 19 (.iload_n 3) 1 20 := ⟨by decide +kernel, rfl⟩
theorem e_X11_odds_20 : g_dc cX11_odds 20 (.iconst 0) 1 21 := ⟨by decide +kernel, rfl⟩
theorem e_X11_odds_21 : g_dc cX11_odds 21 (.iconst 1) 1 22 := ⟨by decide +kernel, rfl⟩
theorem e_X11_odds_22 : g_dc cX11_odds 22 (.invokestatic 165) 3 25 := ⟨by decide +kernel, rfl⟩
theorem e_X11_odds_25 : g_dc cX11_odds 25 (.ifCond .eq 10) 3 28 := ⟨by decide +kernel, rfl⟩
theorem e_X11_odds_28 : g_dc cX11_odds 28 (.aload_n 0) 1 29 := ⟨by decide +kernel, rfl⟩
theorem e_X11_odds_29 : g_dc cX11_odds 29 (.getfield 228) 3 32 := ⟨by decide +kernel, rfl⟩
theorem e_X11_odds_32 : g_dc cX11_odds 32 (.ifCond .ne 5) 3 35 := ⟨by decide +kernel, rfl⟩
theorem e_X11_odds_35 : g_dc cX11_odds 35 (.iconst (-1)) 1 36 := ⟨by decide +kernel, rfl⟩
theorem e_X11_odds_36 : g_dc cX11_odds 36 (.ireturn) 1 37 := ⟨by decide +kernel, rfl⟩
theorem e_X11_odds_37 : g_dc cX11_odds 37 (.iconst 0) 1 38 := ⟨by decide +kernel, rfl⟩
theorem e_X11_odds_38 : g_dc cX11_odds 38 (.istore 4) 2 40 := ⟨by decide +kernel, rfl⟩
theorem e_X11_odds_40 : g_dc cX11_odds 40 (.iconst 0) 1 41 := ⟨by decide +kernel, rfl⟩
theorem e_X11_odds_41 : g_dc cX11_odds 41 (.istore 5) 2 43 := ⟨by decide +kernel, rfl⟩
theorem e_X11_odds_43 : g_dc cX11_odds 43 (.iload 5) 2 45 := ⟨by decide +kernel, rfl⟩
theorem e_X11_odds_45 : g_dc cX11_odds 45 (.aload_n 0) 1 46 := ⟨by decide +kernel, rfl⟩
theorem e_X11_odds_46 : g_dc cX11_odds 46 (.iload_n 1) 1 47 := ⟨by decide +kernel, rfl⟩
theorem e_X11_odds_47 : g_dc cX11_odds 47 (.invokevirtual 477) 3 50 := ⟨by decide +kernel, rfl⟩
theorem e_X11_odds_50 : g_dc cX11_odds 50 (.if_icmp .ge 37) 3 53 := ⟨by decide +kernel, rfl⟩
theorem e_X11_odds_53 : g_dc cX11_odds 53 (.aload_n 0) 1 54 := ⟨by decide +kernel, rfl⟩
theorem e_X11_odds_54 : g_dc cX11_odds 54 (.iload_n 1) 1 55 := ⟨by decide +kernel, rfl⟩
theorem e_X11_odds_55 : g_dc cX11_odds 55 (.iload 5) 2 57 := ⟨by decide +kernel, rfl⟩
theorem e_X11_odds_57 : g_dc cX11_odds 57 (.invokevirtual 480) 3 60 := ⟨by decide +kernel, rfl⟩
theorem e_X11_odds_60 : g_dc cX11_odds 60 (.iload 4) 2 62 := ⟨by decide +kernel, rfl⟩
theorem e_X11_odds_62 : g_dc cX11_odds 62 (.aload_n 0) 1 63 := ⟨by decide +kernel, rfl⟩
theorem e_X11_odds_63 : g_dc cX11_odds 63 (.invokevirtual 407) 3 66 := ⟨by decide +kernel, rfl⟩
theorem e_X11_odds_66 : g_dc cX11_odds 66 (.invokestatic 410) 3 69 := ⟨by decide +kernel, rfl⟩
theorem e_X11_odds_69 : g_dc cX11_odds 69 (.iload_n 2) 1 70 := ⟨by decide +kernel, rfl⟩
theorem e_X11_odds_70 : g_dc cX11_odds 70 (.if_icmp .lt 7) 3 73 := ⟨by decide +kernel, rfl⟩
theorem e_X11_odds_73 : g_dc cX11_odds 73 (.iconst 1) 1 74 := ⟨by decide +kernel, rfl⟩
theorem e_X11_odds_74 : g_dc cX11_odds 74 (.goto 4) 3 77 := ⟨by decide +kernel, rfl⟩
theorem e_X11_odds_77 : g_dc cX11_odds 77 (.iconst 0) 1 78 := ⟨by decide +kernel, rfl⟩
theorem e_X11_odds_78 : g_dc cX11_odds 78 (.iadd) 1 79 := ⟨by decide +kernel, rfl⟩
theorem e_X11_odds_79 : g_dc cX11_odds 79 (.istore 4) 2 81 := ⟨by decide +kernel, rfl⟩
theorem e_X11_odds_81 : g_dc cX11_odds 81 (.iinc 5 1) 3 84 := ⟨by decide +kernel, rfl⟩
theorem e_X11_odds_84 : g_dc cX11_odds 84 (.goto (-41)) 3 87 := ⟨by decide +kernel, rfl⟩
theorem e_X11_odds_87 : g_dc cX11_odds 87 (.iload 4) 2 89 := ⟨by decide +kernel, rfl⟩
theorem e_X11_odds_89 : g_dc cX11_odds 89 (.aload_n 0) 1 90 := ⟨by decide +kernel, rfl⟩
theorem e_X11_odds_90 : g_dc cX11_odds 90 (.iload_n 1) 1 91 := ⟨by decide +kernel, rfl⟩
theorem e_X11_odds_91 : g_dc cX11_odds 91 (.invokevirtual 477) 3 94 := ⟨by decide +kernel, rfl⟩
theorem e_X11_odds_94 : g_dc cX11_odds 94 (.invokestatic 483) 3 97 := ⟨by decide +kernel, rfl⟩
theorem e_X11_odds_97 : g_dc cX11_odds 97 (.istore 5) 2 99 := ⟨by decide +kernel, rfl⟩
theorem e_X11_odds_99 : g_dc cX11_odds 99 (.iload_n 3) 1 100 := ⟨by decide +kernel, rfl⟩
theorem e_X11_odds_100 : g_dc cX11_odds 100 (.ifCond .ne 11) 3 103 := ⟨by decide +kernel, rfl⟩
theorem e_X11_odds_103 : g_dc cX11_odds 103 (.iload 4) 2 105 := ⟨by decide +kernel, rfl⟩
theorem e_X11_odds_105 : g_dc cX11_odds 105 (.iload 5) 2 107 := ⟨by decide +kernel, rfl⟩
theorem e_X11_odds_107 : g_dc cX11_odds 107 (.idiv) 1 108 := ⟨by decide +kernel, rfl⟩
theorem e_X11_odds_108 : g_dc cX11_odds 108 (.goto 11) 3 111 := ⟨by decide +kernel, rfl⟩
theorem e_X11_odds_111 : g_dc cX11_odds 111 (.aload_n 0) 1 112 := ⟨by decide +kernel, rfl⟩
theorem e_X11_odds_112 : g_dc cX11_odds 112 (.iload_n 1) 1 113 := ⟨by decide +kernel, rfl⟩
theorem e_X11_odds_113 : g_dc cX11_odds 113 (.invokevirtual 477) 3 116 := ⟨by decide +kernel, rfl⟩
theorem e_X11_odds_116 : g_dc cX11_odds 116 (.iload 5) 2 118 := ⟨by decide +kernel, rfl⟩
theorem e_X11_odds_118 : g_dc cX11_odds 118 (.idiv) 1 119 := ⟨by decide +kernel, rfl⟩
theorem e_X11_odds_119 : g_dc cX11_odds 119 (.ireturn) 1 120 := ⟨by decide +kernel, rfl⟩
def md_X11_odds : List Nat := [3, 42, 43, 44, 45, 46, 47, 48, 49, 50, 51, 65, 66, 67, 68, 69]
def mr_X11_odds : List Nat := [23, 24, 25, 26, 27, 28, 29, 30, 31, 32, 33, 34, 35, 36, 37]
set_option maxHeartbeats 4000000 in
set_option maxRecDepth 100000 in
theorem w_X11_odds (l : Launch) (X : gX) (ad : Nat → Nat) (F : Nat → Int32) (R : Nat → Nat → Int32) (hI : g_ok LK_wM F) (hA : g_okR LA_wM R) (hWT : WT F R) (hWC : WC F R) (a0 : Int32) (a1 : Int32) (a2 : Int32) : g_Ci l X yX11_odds cX11_odds 6 (some .int) 8 0 0 [.ref (ad 0), .int a0, .int a1, .int a2] (wM X ad F R) (fun r w => ∃ (F' : Nat → Int32) (R' : Nat → Nat → Int32), w = wM X ad F' R' ∧ g_ok LK_wM F' ∧ g_okR LA_wM R' ∧ WT F' R' ∧ WC F' R' ∧ g_fr md_X11_odds F F' ∧ g_fr mr_X11_odds R R' ∧ jv (-1) 1000 r) := by
  refine g_mi (by decide +kernel) (Nat.le_of_ble_eq_true rfl) (fun E cx hret => ?_)
  refine g_iload_n cx 1 rfl e_X11_odds_0 ?_
  refine g_iconst cx 1 (by decide) e_X11_odds_1 ?_
  refine g_iconst cx 3 (by decide) e_X11_odds_2 ?_
  refine g_cSiW cx [.int a0, .int 1, .int 3] [] (c_X11_in l X (wM X ad F R) a0 1 3) ml_X11_165 yS_X11_in rfl e_X11_odds_3 (by unfold g_rr; decide) (by decide) rfl (Nat.le_of_ble_eq_true rfl) (fun r1 w2 h3 => ?_)
  obtain ⟨rfl, hr1⟩ := h3
  have pr1 : jv 0 1 r1 := by rw [hr1]; exact gi_01 _ _ _
  have J35 : G X E 6 0 0 (wM X ad F R) [] 35 [] := by
    refine g_iconst cx (-1) (by decide) e_X11_odds_35 ?_
    exact hret e_X11_odds_36 (Nat.le_of_ble_eq_true rfl) (Nat.le_of_ble_eq_true rfl) rfl ⟨F, R, rfl, hI, hA, hWT, hWC, (g_fr_rf F), (g_fr_rf R), (jv_w (jv_k (x := (-1)) (-1) (by decide)) (by decide))⟩
  refine g_if_eq cx 35 e_X11_odds_6 (by decide) (fun zc4 => ?_) (fun zc4 => ?_)
  · have p5 := gn_eq 0 0 (gc_eq zc4) pr1 (jv_k (x := 0) 0 (by decide)) (by decide)
    refine g_lsub [] [] rfl ?_
    exact J35  
  · have p6 := gn_neL 1 1 (gc_ne zc4) pr1 (jv_k (x := 0) 0 (by decide)) (by decide)
    have p7 := jv_i 1 3 (jv_t a0) (gi_in (A := 1) (B := 3) hr1 zc4 (by decide) (by decide)) (by decide)
    refine g_iload_n cx 2 rfl e_X11_odds_9 ?_
    refine g_iconst cx 0 (by decide) e_X11_odds_10 ?_
    refine g_bipush cx 10 (by decide) e_X11_odds_11 ?_
    refine g_cSiW cx [.int a1, .int 0, .int 10] [] (c_X11_in l X (wM X ad F R) a1 0 10) ml_X11_165 yS_X11_in rfl e_X11_odds_13 (by unfold g_rr; decide) (by decide) rfl (Nat.le_of_ble_eq_true rfl) (fun r8 w9 h10 => ?_)
    obtain ⟨rfl, hr8⟩ := h10
    have pr8 : jv 0 1 r8 := by rw [hr8]; exact gi_01 _ _ _
    refine g_if_eq cx 35 e_X11_odds_16 (by decide) (fun zc11 => ?_) (fun zc11 => ?_)
    · have p12 := gn_eq 0 0 (gc_eq zc11) pr8 (jv_k (x := 0) 0 (by decide)) (by decide)
      refine g_lsub [] [] rfl ?_
      exact J35  
    · have p13 := gn_neL 1 1 (gc_ne zc11) pr8 (jv_k (x := 0) 0 (by decide)) (by decide)
      have p14 := jv_i 0 10 (jv_t a1) (gi_in (A := 0) (B := 10) hr8 zc11 (by decide) (by decide)) (by decide)
      refine g_iload_n cx 3 rfl e_X11_odds_19 ?_
      refine g_iconst cx 0 (by decide) e_X11_odds_20 ?_
      refine g_iconst cx 1 (by decide) e_X11_odds_21 ?_
      refine g_cSiW cx [.int a2, .int 0, .int 1] [] (c_X11_in l X (wM X ad F R) a2 0 1) ml_X11_165 yS_X11_in rfl e_X11_odds_22 (by unfold g_rr; decide) (by decide) rfl (Nat.le_of_ble_eq_true rfl) (fun r15 w16 h17 => ?_)
      obtain ⟨rfl, hr15⟩ := h17
      have pr15 : jv 0 1 r15 := by rw [hr15]; exact gi_01 _ _ _
      refine g_if_eq cx 35 e_X11_odds_25 (by decide) (fun zc18 => ?_) (fun zc18 => ?_)
      · have p19 := gn_eq 0 0 (gc_eq zc18) pr15 (jv_k (x := 0) 0 (by decide)) (by decide)
        refine g_lsub [] [] rfl ?_
        exact J35  
      · have p20 := gn_neL 1 1 (gc_ne zc18) pr15 (jv_k (x := 0) 0 (by decide)) (by decide)
        have p21 := jv_i 0 1 (jv_t a2) (gi_in (A := 0) (B := 1) hr15 zc18 (by decide) (by decide)) (by decide)
        refine g_aload_n cx 0 rfl e_X11_odds_28 ?_
        refine g_get cx cl_X11 fl_X11_228 0 (.int (F 19)) e_X11_odds_29 rfl rfl ?_
        refine g_if_ne cx 37 e_X11_odds_32 (by decide) (fun zc22 => ?_) (fun zc22 => ?_)
        · have p23 := gn_neL 1 60 (gc_ne zc22) (g_ok_g hI 3 rfl) (jv_k (x := 0) 0 (by decide)) (by decide)
          refine g_iconst cx 0 (by decide) e_X11_odds_37 ?_
          refine g_istore cx [(4, .int 0), (0, .ref (ad 0)), (1, .int a0), (2, .int a1), (3, .int a2)] e_X11_odds_38 (by decide) rfl ?_
          refine g_iconst cx 0 (by decide) e_X11_odds_40 ?_
          refine g_istore cx [(5, .int 0), (4, .int 0), (0, .ref (ad 0)), (1, .int a0), (2, .int a1), (3, .int a2)] e_X11_odds_41 (by decide) rfl ?_
          have J43 : ∀ (N : Nat) (F26 : Nat → Int32) (R27 : Nat → Nat → Int32) (y24 : Int32) (y25 : Int32), (g_ok LK_wM F26) → (g_fr md_X11_odds F F26) → (g_okR LA_wM R27) → (g_fr mr_X11_odds R R27) → (WT F26 R27) → (WC F26 R27) → (jv 0 13631487 y24) → (jv 0 1000 y25) → (0 ≤ (y24 : Int32).toInt ∧ (y24 : Int32).toInt ≤ (y25 : Int32).toInt) → (2147483647 - y25.toInt).toNat < N → G X E 6 0 0 (wM X ad F26 R27) [(0, .ref (ad 0)), (1, .int a0), (2, .int a1), (3, .int a2), (4, .int y24), (5, .int y25)] 43 [] := by
            intro N
            induction N with
            | zero => intro F26 R27 y24 y25 oF26 fF26 oR27 fR27 wTF26R27 wCF26R27 py24 py25 zi43_0 hm; exact absurd hm (Nat.not_lt_zero _)
            | succ N ih43 =>
              intro F26 R27 y24 y25 oF26 fF26 oR27 fR27 wTF26R27 wCF26R27 py24 py25 zi43_0 hm43
              have p28 : jv 0 1000 y24 := ⟨by have q0 := py24.1; have q1 := py24.2; have q2 := py25.1; have q3 := py25.2; have q4 := zi43_0; omega, by have q0 := py24.1; have q1 := py24.2; have q2 := py25.1; have q3 := py25.2; have q4 := zi43_0; omega⟩
              refine g_iload cx 5 rfl e_X11_odds_43 ?_
              refine g_aload_n cx 0 rfl e_X11_odds_45 ?_
              refine g_iload_n cx 1 rfl e_X11_odds_46 ?_
              refine g_cViW cx [.int a0] [.int y25] (w_X11_rowsOf l X ad F26 R27 oF26 oR27 wTF26R27 wCF26R27 a0) ml_X11_477 yV_X11_rowsOf e_X11_odds_47 (by unfold g_rr; decide) (by decide) 0 rfl rfl rfl (Nat.le_of_ble_eq_true rfl) (fun r29 w30 h31 => ?_)
              obtain ⟨rfl, pr29⟩ := h31
              refine g_icmp_ge cx 87 e_X11_odds_50 (by decide) (fun zc32 => ?_) (fun zc32 => ?_)
              · have p33 := gn_ge 10 1000 (gc_le zc32) py25 pr29 (by decide)
                refine g_iload cx 4 rfl e_X11_odds_87 ?_
                refine g_aload_n cx 0 rfl e_X11_odds_89 ?_
                refine g_iload_n cx 1 rfl e_X11_odds_90 ?_
                refine g_cViW cx [.int a0] [.int y24] (w_X11_rowsOf l X ad F26 R27 oF26 oR27 wTF26R27 wCF26R27 a0) ml_X11_477 yV_X11_rowsOf e_X11_odds_91 (by unfold g_rr; decide) (by decide) 0 rfl rfl rfl (Nat.le_of_ble_eq_true rfl) (fun r34 w35 h36 => ?_)
                obtain ⟨rfl, pr34⟩ := h36
                refine g_cSiW cx [.int y24, .int r34] [] (w_X11_gcd l X ad F26 R27 oF26 oR27 y24 r34 p28 (jv_w pr34 (by decide))) ml_X11_483 yS_X11_gcd rfl e_X11_odds_94 (by unfold g_rr; decide) (by decide) rfl (Nat.le_of_ble_eq_true rfl) (fun r37 w38 h39 => ?_)
                obtain ⟨rfl, pr37⟩ := h39
                refine g_istore cx [(5, .int r37), (0, .ref (ad 0)), (1, .int a0), (2, .int a1), (3, .int a2), (4, .int y24)] e_X11_odds_97 (by decide) rfl ?_
                refine g_iload_n cx 4 rfl e_X11_odds_99 ?_
                have J119 : ∀ (y40 : Int32), (jv 0 1000 y40) → G X E 6 0 0 (wM X ad F26 R27) [] 119 [.int y40] := by
                  intro y40 py40
                  exact hret e_X11_odds_119 (Nat.le_of_ble_eq_true rfl) (Nat.le_of_ble_eq_true rfl) rfl ⟨F26, R27, rfl, oF26, oR27, wTF26R27, wCF26R27, fF26, fR27, (jv_w py40 (by decide))⟩
                refine g_if_ne cx 111 e_X11_odds_100 (by decide) (fun zc41 => ?_) (fun zc41 => ?_)
                · have p42 := gn_neL 1 1 (gc_ne zc41) p21 (jv_k (x := 0) 0 (by decide)) (by decide)
                  refine g_aload_n cx 1 rfl e_X11_odds_111 ?_
                  refine g_iload_n cx 2 rfl e_X11_odds_112 ?_
                  refine g_cViW cx [.int a0] [] (w_X11_rowsOf l X ad F26 R27 oF26 oR27 wTF26R27 wCF26R27 a0) ml_X11_477 yV_X11_rowsOf e_X11_odds_113 (by unfold g_rr; decide) (by decide) 0 rfl rfl rfl (Nat.le_of_ble_eq_true rfl) (fun r43 w44 h45 => ?_)
                  obtain ⟨rfl, pr43⟩ := h45
                  refine g_iload cx 0 rfl e_X11_odds_116 ?_
                  refine g_idiv cx (g_nz0 pr37 (by decide)) e_X11_odds_118 ?_
                  refine g_topi (fun x46 ex46 => ?_)
                  have zx46 := jv_div 0 1000 ex46 pr43 pr37 (by decide)
                  refine g_lsub [] [] rfl ?_
                  exact J119 x46 zx46.2
                · have p47 := gn_eq 0 0 (gc_eq zc41) p21 (jv_k (x := 0) 0 (by decide)) (by decide)
                  refine g_iload cx 5 rfl e_X11_odds_103 ?_
                  refine g_iload cx 0 rfl e_X11_odds_105 ?_
                  refine g_idiv cx (g_nz0 pr37 (by decide)) e_X11_odds_107 ?_
                  refine g_topi (fun x48 ex48 => ?_)
                  have zx48 := jv_div 0 1000 ex48 p28 pr37 (by decide)
                  refine g_goto cx 119 e_X11_odds_108 (by decide) ?_
                  refine g_lsub [] [] rfl ?_
                  exact J119 x48 zx48.2
              · have p49 := gn_lt 0 999 (gc_nle zc32) py25 pr29 (by decide)
                refine g_aload_n cx 0 rfl e_X11_odds_53 ?_
                refine g_iload_n cx 1 rfl e_X11_odds_54 ?_
                refine g_iload cx 5 rfl e_X11_odds_55 ?_
                refine g_cVvW cx [.int a0, .int y25] [] (w_X11_runsBy l X ad F26 R27 oF26 oR27 wTF26R27 wCF26R27 a0 y25) ml_X11_480 yV_X11_runsBy e_X11_odds_57 (by unfold g_rr; decide) (by decide) 0 rfl rfl rfl (Nat.le_of_ble_eq_true rfl) (fun w51 h52 => ?_)
                obtain ⟨F53, R54, rfl, oF53, oR54, wTF53, wCF53, cF53, cR54⟩ := h52
                have fF53 : g_fr md_X11_odds F F53 := g_fr_c fF26 cF53 rfl
                have fR54 : g_fr mr_X11_odds R R54 := g_fr_c fR27 cR54 rfl
                refine g_iload cx 4 rfl e_X11_odds_60 ?_
                refine g_aload_n cx 0 rfl e_X11_odds_62 ?_
                refine g_cViW cx [] [.int y24] (w_X11_standing l X ad F53 R54 oF53 oR54 wTF53 wCF53) ml_X11_407 yV_X11_standing e_X11_odds_63 (by unfold g_rr; decide) (by decide) 0 rfl rfl rfl (Nat.le_of_ble_eq_true rfl) (fun r55 w56 h57 => ?_)
                obtain ⟨rfl, pr55⟩ := h57
                refine g_cSiW cx [.int r55] [.int y24] (w_X11_bits l X ad F53 R54 oF53 oR54 r55) ml_X11_410 yS_X11_bits rfl e_X11_odds_66 (by unfold g_rr; decide) (by decide) rfl (Nat.le_of_ble_eq_true rfl) (fun r58 w59 h60 => ?_)
                obtain ⟨rfl, pr58⟩ := h60
                refine g_iload_n cx 2 rfl e_X11_odds_69 ?_
                have J78 : ∀ (y61 : Int32), (jv 0 1 y61) → G X E 6 0 0 (wM X ad F53 R54) [(0, .ref (ad 0)), (1, .int a0), (2, .int a1), (3, .int a2), (5, .int y25)] 78 [.int y61, .int y24] := by
                  intro y61 py61
                  refine g_iadd cx e_X11_odds_78 ?_
                  refine g_topi (fun x62 ex62 => ?_)
                  have zx62 := jv_add 0 1001 ex62 p28 py61 (by decide)
                  refine g_istore cx [(4, .int x62), (0, .ref (ad 0)), (1, .int a0), (2, .int a1), (3, .int a2), (5, .int y25)] e_X11_odds_79 (by decide) rfl ?_
                  obtain ⟨x63, ex63⟩ : ∃ z : Int32, z = y25 + Int32.ofInt 1 := ⟨_, rfl⟩
                  refine g_iinc cx x63 [(5, .int x63), (4, .int x62), (0, .ref (ad 0)), (1, .int a0), (2, .int a1), (3, .int a2)] 5 e_X11_odds_81 rfl ex63.symm (by decide) rfl ?_
                  have zx63 := jv_add 1 1000 (show x63 = y25 + 1 from ex63) p49 (jv_k (x := 1) 1 (by decide)) (by decide)
                  refine g_goto cx 43 e_X11_odds_84 (by decide) ?_
                  refine g_lsub [2, 3, 4, 5, 1, 0] [(0, .ref (ad 0)), (1, .int a0), (2, .int a1), (3, .int a2), (4, .int x62), (5, .int x63)] rfl ?_
                  exact ih43 F53 R54 x62 x63 oF53 fF53 oR54 fR54 wTF53 wCF53 (jv_w zx62.2 (by decide)) (jv_w zx63.2 (by decide)) (by have q0 := (jv_k (x := 1) 1 (by decide)).1; have q1 := (jv_k (x := 1) 1 (by decide)).2; have q2 := pr29.1; have q3 := pr29.2; have q4 := zx62.2.1; have q5 := zx62.2.2; have q6 := zx63.2.1; have q7 := zx63.2.2; have q8 := p28.1; have q9 := p28.2; have q10 := p49.1; have q11 := p49.2; have q12 := py61.1; have q13 := py61.2; have q14 := zi43_0; have q15 := (gc_nle zc32); have q16 := (g_eq0 zx62.1); have q17 := (g_eq0 zx63.1); omega) (Nat.lt_of_lt_of_le (show (2147483647 - x63.toInt).toNat < (2147483647 - y25.toInt).toNat from by have q0 := (jv_k (x := 1) 1 (by decide)).1; have q1 := (jv_k (x := 1) 1 (by decide)).2; have q2 := pr29.1; have q3 := pr29.2; have q4 := zx62.2.1; have q5 := zx62.2.2; have q6 := zx63.2.1; have q7 := zx63.2.2; have q8 := p28.1; have q9 := p28.2; have q10 := p49.1; have q11 := p49.2; have q12 := py61.1; have q13 := py61.2; have q14 := zi43_0; have q15 := (gc_nle zc32); have q16 := (g_eq0 zx62.1); have q17 := (g_eq0 zx63.1); omega) (Nat.le_of_lt_succ hm43))
                refine g_icmp_lt cx 77 e_X11_odds_70 (by decide) (fun zc64 => ?_) (fun zc64 => ?_)
                · have p65 := gn_lt 0 9 (gc_lt zc64) pr58 p14 (by decide)
                  have p66 := gn_gt 1 10 (gc_lt zc64) p14 pr58 (by decide)
                  refine g_iconst cx 0 (by decide) e_X11_odds_77 ?_
                  refine g_lsub [0, 1, 2, 3, 5] [(0, .ref (ad 0)), (1, .int a0), (2, .int a1), (3, .int a2), (5, .int y25)] rfl ?_
                  exact J78 0 (jv_w (jv_k (x := 0) 0 (by decide)) (by decide))
                · refine g_iconst cx 1 (by decide) e_X11_odds_73 ?_
                  refine g_goto cx 78 e_X11_odds_74 (by decide) ?_
                  refine g_lsub [0, 1, 2, 3, 5] [(0, .ref (ad 0)), (1, .int a0), (2, .int a1), (3, .int a2), (5, .int y25)] rfl ?_
                  exact J78 1 (jv_w (jv_k (x := 1) 1 (by decide)) (by decide))
          refine g_lsub [2, 3, 4, 5, 1, 0] [(0, .ref (ad 0)), (1, .int a0), (2, .int a1), (3, .int a2), (4, .int 0), (5, .int 0)] rfl ?_
          exact J43 _ F R 0 0 hI (g_fr_rf F) hA (g_fr_rf R) hWT hWC (jv_w (jv_k (x := 0) 0 (by decide)) (by decide)) (jv_w (jv_k (x := 0) 0 (by decide)) (by decide)) (by have q0 := (jv_k (x := 0) 0 (by decide)).1; have q1 := (jv_k (x := 0) 0 (by decide)).2; have q2 := p23.1; have q3 := p23.2; have q4 := p6.1; have q5 := p6.2; have q6 := p20.1; have q7 := p20.2; have q8 := p13.1; have q9 := p13.2; have q10 := (gc_ne zc4); have q11 := (gc_ne zc11); have q12 := (gc_ne zc18); have q13 := (gc_ne zc22); omega) (Nat.lt_succ_self _)
        · have p67 := gn_eq 0 0 (gc_eq zc22) (g_ok_g hI 3 rfl) (jv_k (x := 0) 0 (by decide)) (by decide)
          refine g_lsub [] [] rfl ?_
          exact J35  
theorem e_X11_should_0 : g_dc cX11_should 0 (.iload_n 1) 1 1 := ⟨by decide +kernel, rfl⟩
theorem e_X11_should_1 : g_dc cX11_should 1 (.iconst 1) 1 2 := ⟨by decide +kernel, rfl⟩
theorem e_X11_should_2 : g_dc cX11_should 2 (.iconst 3) 1 3 := ⟨by decide +kernel, rfl⟩
theorem e_X11_should_3 : g_dc cX11_should 3 (.invokestatic 165) 3 6 := ⟨by decide +kernel, rfl⟩
theorem e_X11_should_6 : g_dc cX11_should 6 (.ifCond .eq 21) 3 9 := ⟨by decide +kernel, rfl⟩
theorem e_X11_should_9 : g_dc cX11_should 9 (.iload_n 2) 1 10 := ⟨by decide +kernel, rfl⟩
theorem e_X11_should_10 : g_dc cX11_should 10 (.iconst 0) 1 11 := ⟨by decide +kernel, rfl⟩
theorem e_X11_should_11 : g_dc cX11_should 11 (.sipush 9999) 3 14 := ⟨by decide +kernel, rfl⟩
theorem e_X11_should_14 : g_dc cX11_should 14 (.invokestatic 165) 3 17 := ⟨by decide +kernel, rfl⟩
theorem e_X11_should_17 : g_dc cX11_should 17 (.ifCond .eq 10) 3 20 := ⟨by decide +kernel, rfl⟩
theorem e_X11_should_20 : g_dc cX11_should 20 (.aload_n 0) 1 21 := ⟨by decide +kernel, rfl⟩
theorem e_X11_should_21 : g_dc cX11_should 21 (.getfield 228) 3 24 := ⟨by decide +kernel, rfl⟩
theorem e_X11_should_24 : g_dc cX11_should 24 (.ifCond .ne 7) 3 27 := ⟨by decide +kernel, rfl⟩
theorem e_X11_should_27 : g_dc cX11_should 27 (.ldc_w 486) 3 30 := ⟨by decide +kernel, rfl⟩
theorem e_X11_should_30 : g_dc cX11_should 30 (.ireturn) 1 31 := ⟨by decide +kernel, rfl⟩
theorem e_X11_should_31 : g_dc cX11_should 31 (.iconst 0) 1 32 := ⟨by decide +kernel, rfl⟩
theorem e_X11_should_32 : g_dc cX11_should 32 (.istore_n 3) 1 33 := ⟨by decide +kernel, rfl⟩
theorem e_X11_should_33 : g_dc cX11_should 33 (.iconst 0) 1 34 := ⟨by decide +kernel, rfl⟩
theorem e_X11_should_34 : g_dc cX11_should 34 (.istore 4) 2 36 := ⟨by decide +kernel, rfl⟩
theorem e_X11_should_36 : g_dc cX11_should 36 (.iload 4) 2 38 := ⟨by decide +kernel, rfl⟩
theorem e_X11_should_38 : g_dc cX11_should 38 (.aload_n 0) 1 39 := ⟨by decide +kernel, rfl⟩
theorem e_X11_should_39 : g_dc cX11_should 39 (.iload_n 1) 1 40 := ⟨by decide +kernel, rfl⟩
theorem e_X11_should_40 : g_dc cX11_should 40 (.invokevirtual 477) 3 43 := ⟨by decide +kernel, rfl⟩
theorem e_X11_should_43 : g_dc cX11_should 43 (.if_icmp .ge 83) 3 46 := ⟨by decide +kernel, rfl⟩
theorem e_X11_should_46 : g_dc cX11_should 46 (.aload_n 0) 1 47 := ⟨by decide +kernel, rfl⟩
theorem e_X11_should_47 : g_dc cX11_should 47 (.iload_n 1) 1 48 := ⟨by decide +kernel, rfl⟩
theorem e_X11_should_48 : g_dc cX11_should 48 (.iload 4) 2 50 := ⟨by decide +kernel, rfl⟩
theorem e_X11_should_50 : g_dc cX11_should 50 (.invokevirtual 480) 3 53 := ⟨by decide +kernel, rfl⟩
theorem e_X11_should_53 : g_dc cX11_should 53 (.aload_n 0) 1 54 := ⟨by decide +kernel, rfl⟩
theorem e_X11_should_54 : g_dc cX11_should 54 (.invokevirtual 407) 3 57 := ⟨by decide +kernel, rfl⟩
theorem e_X11_should_57 : g_dc cX11_should 57 (.istore 5) 2 59 := ⟨by decide +kernel, rfl⟩
theorem e_X11_should_59 : g_dc cX11_should 59 (.iload 5) 2 61 := ⟨by decide +kernel, rfl⟩
theorem e_X11_should_61 : g_dc cX11_should 61 (.aload_n 0) 1 62 := ⟨by decide +kernel, rfl⟩
theorem e_X11_should_62 : g_dc cX11_should 62 (.getfield 172) 3 65 := ⟨by decide +kernel, rfl⟩
theorem e_X11_should_65 : g_dc cX11_should 65 (.if_icmp .ne 7) 3 68 := ⟨by decide +kernel, rfl⟩
theorem e_X11_should_68 : g_dc cX11_should 68 (.iload_n 3) 1 69 := ⟨by decide +kernel, rfl⟩
theorem e_X11_should_69 : g_dc cX11_should 69 (.iload_n 2) 1 70 := ⟨by decide +kernel, rfl⟩
theorem e_X11_should_70 : g_dc cX11_should 70 (.iadd) 1 71 := ⟨by decide +kernel, rfl⟩
theorem e_X11_should_71 : g_dc cX11_should 71 (.istore_n 3) 1 72 := ⟨by decide +kernel, rfl⟩
theorem e_X11_should_72 : g_dc cX11_should 72 (.iconst 0) 1 73 := ⟨by decide +kernel, rfl⟩
theorem e_X11_should_73 : g_dc cX11_should 73 (.istore 6) 2 75 := ⟨by decide +kernel, rfl⟩
theorem e_X11_should_75 : g_dc cX11_should 75 (.iload 6) 2 77 := ⟨by decide +kernel, rfl⟩
theorem e_X11_should_77 : g_dc cX11_should 77 (.bipush 10) 2 79 := ⟨by decide +kernel, rfl⟩
theorem e_X11_should_79 : g_dc cX11_should 79 (.if_icmp .ge 41) 3 82 := ⟨by decide +kernel, rfl⟩
theorem e_X11_should_82 : g_dc cX11_should 82 (.aload_n 0) 1 83 := ⟨by decide +kernel, rfl⟩
theorem e_X11_should_83 : g_dc cX11_should 83 (.getfield 172) 3 86 := ⟨by decide +kernel, rfl⟩
theorem e_X11_should_86 : g_dc cX11_should 86 (.iload 6) 2 88 := ⟨by decide +kernel, rfl⟩
theorem e_X11_should_88 : g_dc cX11_should 88 (.invokestatic 175) 3 91 := ⟨by decide +kernel, rfl⟩
theorem e_X11_should_91 : g_dc cX11_should 91 (.ifCond .eq 23) 3 94 := ⟨by decide +kernel, rfl⟩
theorem e_X11_should_94 : g_dc cX11_should 94 (.iload 5) 2 96 := ⟨by decide +kernel, rfl⟩
theorem e_X11_should_96 : g_dc cX11_should 96 (.iload 6) 2 98 := ⟨by decide +kernel, rfl⟩
theorem e_X11_should_98 : g_dc cX11_should 98 (.invokestatic 175) 3 101 := ⟨by decide +kernel, rfl⟩
theorem e_X11_should_101 : g_dc cX11_should 101 (.ifCond .ne 13) 3 104 := ⟨by decide +kernel, rfl⟩
theorem e_X11_should_104 : g_dc cX11_should 104 (.iload_n 3) 1 105 := ⟨by decide +kernel, rfl⟩
theorem e_X11_should_105 : g_dc cX11_should 105 (.aload_n 0) 1 106 := ⟨by decide +kernel, rfl⟩
theorem e_X11_should_106 : g_dc cX11_should 106 (.getfield 31) 3 109 := ⟨by decide +kernel, rfl⟩
theorem e_X11_should_109 : g_dc cX11_should 109 (.iload 6) 2 111 := ⟨by decide +kernel, rfl⟩
theorem e_X11_should_111 : g_dc cX11_should 111 (.iaload) 1 112 := ⟨by decide +kernel, rfl⟩
theorem e_X11_should_112 : g_dc cX11_should 112 (.isub) 1 113 := ⟨by decide +kernel, rfl⟩
theorem e_X11_should_113 : g_dc cX11_should 113 (.istore_n 3) 1 114 := ⟨by decide +kernel, rfl⟩
theorem e_X11_should_114 : g_dc cX11_should 114 (.iinc 6 1) 3 117 := ⟨by decide +kernel, rfl⟩
theorem e_X11_should_117 : g_dc cX11_should 117 (.goto (-42)) 3 120 := ⟨by decide +kernel, rfl⟩
theorem e_X11_should_120 : g_dc cX11_should 120 (.iinc 4 1) 3 123 := ⟨by decide +kernel, rfl⟩
theorem e_X11_should_123 : g_dc cX11_should 123 (.goto (-87)) 3 126 := ⟨by decide +kernel, rfl⟩
theorem e_X11_should_126 : g_dc cX11_should 126 (.iload_n 3) 1 127 := ⟨by decide +kernel, rfl⟩
theorem e_X11_should_127 : g_dc cX11_should 127 (.ireturn) 1 128 := ⟨by decide +kernel, rfl⟩
def md_X11_should : List Nat := [3, 42, 43, 44, 45, 46, 47, 48, 49, 50, 51, 65, 66, 67, 68, 69]
def mr_X11_should : List Nat := [23, 24, 25, 26, 27, 28, 29, 30, 31, 32, 33, 34, 35, 36, 37]
set_option maxHeartbeats 4000000 in
set_option maxRecDepth 100000 in
theorem w_X11_should (l : Launch) (X : gX) (ad : Nat → Nat) (F : Nat → Int32) (R : Nat → Nat → Int32) (hI : g_ok LK_wM F) (hA : g_okR LA_wM R) (hWT : WT F R) (hWC : WC F R) (a0 : Int32) (a1 : Int32) : g_Ci l X yX11_should cX11_should 7 (some .int) 8 0 0 [.ref (ad 0), .int a0, .int a1] (wM X ad F R) (fun r w => ∃ (F' : Nat → Int32) (R' : Nat → Nat → Int32), w = wM X ad F' R' ∧ g_ok LK_wM F' ∧ g_okR LA_wM R' ∧ WT F' R' ∧ WC F' R' ∧ g_fr md_X11_should F F' ∧ g_fr mr_X11_should R R' ∧ jv (-2147483648) 2147483647 r) := by
  refine g_mi (by decide +kernel) (Nat.le_of_ble_eq_true rfl) (fun E cx hret => ?_)
  refine g_iload_n cx 1 rfl e_X11_should_0 ?_
  refine g_iconst cx 1 (by decide) e_X11_should_1 ?_
  refine g_iconst cx 3 (by decide) e_X11_should_2 ?_
  refine g_cSiW cx [.int a0, .int 1, .int 3] [] (c_X11_in l X (wM X ad F R) a0 1 3) ml_X11_165 yS_X11_in rfl e_X11_should_3 (by unfold g_rr; decide) (by decide) rfl (Nat.le_of_ble_eq_true rfl) (fun r1 w2 h3 => ?_)
  obtain ⟨rfl, hr1⟩ := h3
  have pr1 : jv 0 1 r1 := by rw [hr1]; exact gi_01 _ _ _
  have J27 : G X E 7 0 0 (wM X ad F R) [] 27 [] := by
    refine g_ldcw cx (-1000000000) kc_X11_486 e_X11_should_27 ?_
    exact hret e_X11_should_30 (Nat.le_of_ble_eq_true rfl) (Nat.le_of_ble_eq_true rfl) rfl ⟨F, R, rfl, hI, hA, hWT, hWC, (g_fr_rf F), (g_fr_rf R), (jv_w (jv_k (x := (-1000000000)) (-1000000000) (by decide)) (by decide))⟩
  refine g_if_eq cx 27 e_X11_should_6 (by decide) (fun zc4 => ?_) (fun zc4 => ?_)
  · have p5 := gn_eq 0 0 (gc_eq zc4) pr1 (jv_k (x := 0) 0 (by decide)) (by decide)
    refine g_lsub [] [] rfl ?_
    exact J27  
  · have p6 := gn_neL 1 1 (gc_ne zc4) pr1 (jv_k (x := 0) 0 (by decide)) (by decide)
    have p7 := jv_i 1 3 (jv_t a0) (gi_in (A := 1) (B := 3) hr1 zc4 (by decide) (by decide)) (by decide)
    refine g_iload_n cx 2 rfl e_X11_should_9 ?_
    refine g_iconst cx 0 (by decide) e_X11_should_10 ?_
    refine g_sipush cx 9999 (by decide) e_X11_should_11 ?_
    refine g_cSiW cx [.int a1, .int 0, .int 9999] [] (c_X11_in l X (wM X ad F R) a1 0 9999) ml_X11_165 yS_X11_in rfl e_X11_should_14 (by unfold g_rr; decide) (by decide) rfl (Nat.le_of_ble_eq_true rfl) (fun r8 w9 h10 => ?_)
    obtain ⟨rfl, hr8⟩ := h10
    have pr8 : jv 0 1 r8 := by rw [hr8]; exact gi_01 _ _ _
    refine g_if_eq cx 27 e_X11_should_17 (by decide) (fun zc11 => ?_) (fun zc11 => ?_)
    · have p12 := gn_eq 0 0 (gc_eq zc11) pr8 (jv_k (x := 0) 0 (by decide)) (by decide)
      refine g_lsub [] [] rfl ?_
      exact J27  
    · have p13 := gn_neL 1 1 (gc_ne zc11) pr8 (jv_k (x := 0) 0 (by decide)) (by decide)
      have p14 := jv_i 0 9999 (jv_t a1) (gi_in (A := 0) (B := 9999) hr8 zc11 (by decide) (by decide)) (by decide)
      refine g_aload_n cx 0 rfl e_X11_should_20 ?_
      refine g_get cx cl_X11 fl_X11_228 0 (.int (F 19)) e_X11_should_21 rfl rfl ?_
      refine g_if_ne cx 31 e_X11_should_24 (by decide) (fun zc15 => ?_) (fun zc15 => ?_)
      · have p16 := gn_neL 1 60 (gc_ne zc15) (g_ok_g hI 3 rfl) (jv_k (x := 0) 0 (by decide)) (by decide)
        refine g_iconst cx 0 (by decide) e_X11_should_31 ?_
        refine g_istore_n cx [(3, .int 0), (0, .ref (ad 0)), (1, .int a0), (2, .int a1)] e_X11_should_32 (by decide) rfl ?_
        refine g_iconst cx 0 (by decide) e_X11_should_33 ?_
        refine g_istore cx [(4, .int 0), (3, .int 0), (0, .ref (ad 0)), (1, .int a0), (2, .int a1)] e_X11_should_34 (by decide) rfl ?_
        have J36 : ∀ (N : Nat) (F19 : Nat → Int32) (R20 : Nat → Nat → Int32) (y17 : Int32) (y18 : Int32), (g_ok LK_wM F19) → (g_fr md_X11_should F F19) → (g_okR LA_wM R20) → (g_fr mr_X11_should R R20) → (WT F19 R20) → (WC F19 R20) → (jv (-2147483648) 2147483647 y17) → (jv 0 9998 y18) → (2147483647 - y18.toInt).toNat < N → G X E 7 0 0 (wM X ad F19 R20) [(0, .ref (ad 0)), (1, .int a0), (2, .int a1), (3, .int y17), (4, .int y18)] 36 [] := by
          intro N
          induction N with
          | zero => intro F19 R20 y17 y18 oF19 fF19 oR20 fR20 wTF19R20 wCF19R20 py17 py18 hm; exact absurd hm (Nat.not_lt_zero _)
          | succ N ih36 =>
            intro F19 R20 y17 y18 oF19 fF19 oR20 fR20 wTF19R20 wCF19R20 py17 py18 hm36
            refine g_iload cx 4 rfl e_X11_should_36 ?_
            refine g_aload_n cx 0 rfl e_X11_should_38 ?_
            refine g_iload_n cx 1 rfl e_X11_should_39 ?_
            refine g_cViW cx [.int a0] [.int y18] (w_X11_rowsOf l X ad F19 R20 oF19 oR20 wTF19R20 wCF19R20 a0) ml_X11_477 yV_X11_rowsOf e_X11_should_40 (by unfold g_rr; decide) (by decide) 0 rfl rfl rfl (Nat.le_of_ble_eq_true rfl) (fun r21 w22 h23 => ?_)
            obtain ⟨rfl, pr21⟩ := h23
            refine g_icmp_ge cx 126 e_X11_should_43 (by decide) (fun zc24 => ?_) (fun zc24 => ?_)
            · have p25 := gn_ge 10 9998 (gc_le zc24) py18 pr21 (by decide)
              refine g_iload_n cx 3 rfl e_X11_should_126 ?_
              exact hret e_X11_should_127 (Nat.le_of_ble_eq_true rfl) (Nat.le_of_ble_eq_true rfl) rfl ⟨F19, R20, rfl, oF19, oR20, wTF19R20, wCF19R20, fF19, fR20, py17⟩
            · have p26 := gn_lt 0 999 (gc_nle zc24) py18 pr21 (by decide)
              refine g_aload_n cx 0 rfl e_X11_should_46 ?_
              refine g_iload_n cx 1 rfl e_X11_should_47 ?_
              refine g_iload cx 4 rfl e_X11_should_48 ?_
              refine g_cVvW cx [.int a0, .int y18] [] (w_X11_runsBy l X ad F19 R20 oF19 oR20 wTF19R20 wCF19R20 a0 y18) ml_X11_480 yV_X11_runsBy e_X11_should_50 (by unfold g_rr; decide) (by decide) 0 rfl rfl rfl (Nat.le_of_ble_eq_true rfl) (fun w28 h29 => ?_)
              obtain ⟨F30, R31, rfl, oF30, oR31, wTF30, wCF30, cF30, cR31⟩ := h29
              have fF30 : g_fr md_X11_should F F30 := g_fr_c fF19 cF30 rfl
              have fR31 : g_fr mr_X11_should R R31 := g_fr_c fR20 cR31 rfl
              refine g_aload_n cx 0 rfl e_X11_should_53 ?_
              refine g_cViW cx [] [] (w_X11_standing l X ad F30 R31 oF30 oR31 wTF30 wCF30) ml_X11_407 yV_X11_standing e_X11_should_54 (by unfold g_rr; decide) (by decide) 0 rfl rfl rfl (Nat.le_of_ble_eq_true rfl) (fun r32 w33 h34 => ?_)
              obtain ⟨rfl, pr32⟩ := h34
              refine g_istore cx [(5, .int r32), (0, .ref (ad 0)), (1, .int a0), (2, .int a1), (3, .int y17), (4, .int y18)] e_X11_should_57 (by decide) rfl ?_
              refine g_iload cx 0 rfl e_X11_should_59 ?_
              refine g_aload_n cx 1 rfl e_X11_should_61 ?_
              refine g_get cx cl_X11 fl_X11_172 0 (.int (F30 4)) e_X11_should_62 rfl rfl ?_
              refine g_toi (F 4) ((cF30 4 rfl).trans (fF19 4 rfl)) ?_
              have J72 : ∀ (y35 : Int32), (jv (-2147483648) 2147483647 y35) → G X E 7 0 0 (wM X ad F30 R31) [(0, .ref (ad 0)), (1, .int a0), (2, .int a1), (3, .int y35), (4, .int y18), (5, .int r32)] 72 [] := by
                intro y35 py35
                refine g_iconst cx 0 (by decide) e_X11_should_72 ?_
                refine g_istore cx [(6, .int 0), (0, .ref (ad 0)), (1, .int a0), (2, .int a1), (3, .int y35), (4, .int y18), (5, .int r32)] e_X11_should_73 (by decide) rfl ?_
                have J75 : ∀ (N : Nat) (y36 : Int32) (y37 : Int32), (jv (-2147483648) 2147483647 y36) → (jv 0 10 y37) → (2147483647 - y37.toInt).toNat < N → G X E 7 0 0 (wM X ad F30 R31) [(0, .ref (ad 0)), (1, .int a0), (2, .int a1), (3, .int y36), (4, .int y18), (5, .int r32), (6, .int y37)] 75 [] := by
                  intro N
                  induction N with
                  | zero => intro y36 y37 py36 py37 hm; exact absurd hm (Nat.not_lt_zero _)
                  | succ N ih75 =>
                    intro y36 y37 py36 py37 hm75
                    refine g_iload cx 6 rfl e_X11_should_75 ?_
                    refine g_bipush cx 10 (by decide) e_X11_should_77 ?_
                    refine g_icmp_ge cx 120 e_X11_should_79 (by decide) (fun zc38 => ?_) (fun zc38 => ?_)
                    · have p39 := gn_ge 10 10 (gc_le zc38) py37 (jv_k (x := 10) 10 (by decide)) (by decide)
                      obtain ⟨x40, ex40⟩ : ∃ z : Int32, z = y18 + Int32.ofInt 1 := ⟨_, rfl⟩
                      refine g_iinc cx x40 [(4, .int x40), (0, .ref (ad 0)), (1, .int a0), (2, .int a1), (3, .int y36), (5, .int r32), (6, .int y37)] 4 e_X11_should_120 rfl ex40.symm (by decide) rfl ?_
                      have zx40 := jv_add 1 1000 (show x40 = y18 + 1 from ex40) p26 (jv_k (x := 1) 1 (by decide)) (by decide)
                      refine g_goto cx 36 e_X11_should_123 (by decide) ?_
                      refine g_lsub [1, 2, 3, 4, 0] [(0, .ref (ad 0)), (1, .int a0), (2, .int a1), (3, .int y36), (4, .int x40)] rfl ?_
                      exact ih36 F30 R31 y36 x40 oF30 fF30 oR31 fR31 wTF30 wCF30 py36 (jv_w zx40.2 (by decide)) (Nat.lt_of_lt_of_le (show (2147483647 - x40.toInt).toNat < (2147483647 - y18.toInt).toNat from by have q0 := (jv_k (x := 1) 1 (by decide)).1; have q1 := (jv_k (x := 1) 1 (by decide)).2; have q2 := pr21.1; have q3 := pr21.2; have q4 := zx40.2.1; have q5 := zx40.2.2; have q6 := p26.1; have q7 := p26.2; have q8 := (gc_nle zc24); have q9 := (g_eq0 zx40.1); omega) (Nat.le_of_lt_succ hm36))
                    · have p41 := gn_lt 0 9 (gc_nle zc38) py37 (jv_k (x := 10) 10 (by decide)) (by decide)
                      refine g_aload_n cx 0 rfl e_X11_should_82 ?_
                      refine g_get cx cl_X11 fl_X11_172 0 (.int (F30 4)) e_X11_should_83 rfl rfl ?_
                      refine g_toi (F 4) ((cF30 4 rfl).trans (fF19 4 rfl)) ?_
                      refine g_iload cx 6 rfl e_X11_should_86 ?_
                      refine g_cSiW cx [.int (F 4), .int y37] [] (c_X11_has l X (wM X ad F30 R31) (F 4) y37) ml_X11_175 yS_X11_has rfl e_X11_should_88 (by unfold g_rr; decide) (by decide) rfl (Nat.le_of_ble_eq_true rfl) (fun r42 w43 h44 => ?_)
                      obtain ⟨rfl, hr42⟩ := h44
                      have pr42 : jv 0 1 r42 := by rcases hr42 with q | q <;> rw [q.1] <;> exact ⟨by decide, by decide⟩
                      have J114 : ∀ (y45 : Int32), (jv (-2147483648) 2147483647 y45) → G X E 7 0 0 (wM X ad F30 R31) [(0, .ref (ad 0)), (1, .int a0), (2, .int a1), (3, .int y45), (4, .int y18), (5, .int r32), (6, .int y37)] 114 [] := by
                        intro y45 py45
                        obtain ⟨x46, ex46⟩ : ∃ z : Int32, z = y37 + Int32.ofInt 1 := ⟨_, rfl⟩
                        refine g_iinc cx x46 [(6, .int x46), (0, .ref (ad 0)), (1, .int a0), (2, .int a1), (3, .int y45), (4, .int y18), (5, .int r32)] 6 e_X11_should_114 rfl ex46.symm (by decide) rfl ?_
                        have zx46 := jv_add 1 10 (show x46 = y37 + 1 from ex46) p41 (jv_k (x := 1) 1 (by decide)) (by decide)
                        refine g_goto cx 75 e_X11_should_117 (by decide) ?_
                        refine g_lsub [1, 2, 3, 4, 5, 6, 0] [(0, .ref (ad 0)), (1, .int a0), (2, .int a1), (3, .int y45), (4, .int y18), (5, .int r32), (6, .int x46)] rfl ?_
                        exact ih75 y45 x46 py45 (jv_w zx46.2 (by decide)) (Nat.lt_of_lt_of_le (show (2147483647 - x46.toInt).toNat < (2147483647 - y37.toInt).toNat from by have q0 := (jv_k (x := 1) 1 (by decide)).1; have q1 := (jv_k (x := 1) 1 (by decide)).2; have q2 := (jv_k (x := 10) 10 (by decide)).1; have q3 := (jv_k (x := 10) 10 (by decide)).2; have q4 := zx46.2.1; have q5 := zx46.2.2; have q6 := p41.1; have q7 := p41.2; have q8 := (gc_nle zc38); have q9 := (g_eq0 zx46.1); omega) (Nat.le_of_lt_succ hm75))
                      refine g_if_eq cx 114 e_X11_should_91 (by decide) (fun zc47 => ?_) (fun zc47 => ?_)
                      · have p48 := gn_eq 0 0 (gc_eq zc47) pr42 (jv_k (x := 0) 0 (by decide)) (by decide)
                        exact J114 y36 py36
                      · have p49 := gn_neL 1 1 (gc_ne zc47) pr42 (jv_k (x := 0) 0 (by decide)) (by decide)
                        have zb50 : hb (F 4) y37 := g_hasy hr42 zc47
                        refine g_iload cx 5 rfl e_X11_should_94 ?_
                        refine g_iload cx 6 rfl e_X11_should_96 ?_
                        refine g_cSiW cx [.int r32, .int y37] [] (c_X11_has l X (wM X ad F30 R31) r32 y37) ml_X11_175 yS_X11_has rfl e_X11_should_98 (by unfold g_rr; decide) (by decide) rfl (Nat.le_of_ble_eq_true rfl) (fun r51 w52 h53 => ?_)
                        obtain ⟨rfl, hr51⟩ := h53
                        have pr51 : jv 0 1 r51 := by rcases hr51 with q | q <;> rw [q.1] <;> exact ⟨by decide, by decide⟩
                        refine g_if_ne cx 114 e_X11_should_101 (by decide) (fun zc54 => ?_) (fun zc54 => ?_)
                        · have p55 := gn_neL 1 1 (gc_ne zc54) pr51 (jv_k (x := 0) 0 (by decide)) (by decide)
                          have zb56 : hb r32 y37 := g_hasy hr51 zc54
                          exact J114 y36 py36
                        · have p57 := gn_eq 0 0 (gc_eq zc54) pr51 (jv_k (x := 0) 0 (by decide)) (by decide)
                          refine g_iload_n cx 3 rfl e_X11_should_104 ?_
                          refine g_aload_n cx 0 rfl e_X11_should_105 ?_
                          refine g_get cx cl_X11 fl_X11_31 0 (.ref (ad 8)) e_X11_should_106 rfl rfl ?_
                          refine g_iload cx 6 rfl e_X11_should_109 ?_
                          refine g_iald cx 8 e_X11_should_111 rfl (jv_ix 10 p41 (by decide)) ?_
                          refine g_topi (fun x58 ex58 => ?_)
                          refine g_isub cx e_X11_should_112 ?_
                          refine g_topi (fun x59 ex59 => ?_)
                          refine g_istore_n cx [(3, .int x59), (0, .ref (ad 0)), (1, .int a0), (2, .int a1), (4, .int y18), (5, .int r32), (6, .int y37)] e_X11_should_113 (by decide) rfl ?_
                          refine g_lsub [1, 2, 3, 0, 4, 5, 6] [(0, .ref (ad 0)), (1, .int a0), (2, .int a1), (3, .int x59), (4, .int y18), (5, .int r32), (6, .int y37)] rfl ?_
                          exact J114 x59 (jv_t x59)
                refine g_lsub [1, 2, 3, 4, 5, 6, 0] [(0, .ref (ad 0)), (1, .int a0), (2, .int a1), (3, .int y35), (4, .int y18), (5, .int r32), (6, .int 0)] rfl ?_
                exact J75 _ y35 0 py35 (jv_w (jv_k (x := 0) 0 (by decide)) (by decide)) (Nat.lt_succ_self _)
              refine g_icmp_ne cx 72 e_X11_should_65 (by decide) (fun zc60 => ?_) (fun zc60 => ?_)
              · refine g_lsub [1, 2, 3, 4, 5, 0] [(0, .ref (ad 0)), (1, .int a0), (2, .int a1), (3, .int y17), (4, .int y18), (5, .int r32)] rfl ?_
                exact J72 y17 py17
              · refine g_iload_n cx 4 rfl e_X11_should_68 ?_
                refine g_iload_n cx 3 rfl e_X11_should_69 ?_
                refine g_iadd cx e_X11_should_70 ?_
                refine g_topi (fun x61 ex61 => ?_)
                refine g_istore_n cx [(3, .int x61), (5, .int r32), (0, .ref (ad 0)), (1, .int a0), (2, .int a1), (4, .int y18)] e_X11_should_71 (by decide) rfl ?_
                refine g_lsub [2, 3, 4, 0, 5, 1] [(0, .ref (ad 0)), (1, .int a0), (2, .int a1), (3, .int x61), (4, .int y18), (5, .int r32)] rfl ?_
                exact J72 x61 (jv_t x61)
        refine g_lsub [2, 3, 4, 1, 0] [(0, .ref (ad 0)), (1, .int a0), (2, .int a1), (3, .int 0), (4, .int 0)] rfl ?_
        exact J36 _ F R 0 0 hI (g_fr_rf F) hA (g_fr_rf R) hWT hWC (jv_w (jv_k (x := 0) 0 (by decide)) (by decide)) (jv_w (jv_k (x := 0) 0 (by decide)) (by decide)) (Nat.lt_succ_self _)
      · have p62 := gn_eq 0 0 (gc_eq zc15) (g_ok_g hI 3 rfl) (jv_k (x := 0) 0 (by decide)) (by decide)
        refine g_lsub [] [] rfl ?_
        exact J27  
