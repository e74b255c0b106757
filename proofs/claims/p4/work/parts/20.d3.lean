theorem e_X11_byLaw_0 : g_dc cX11_byLaw 0 (.iconst 0) 1 1 := ⟨by decide +kernel, rfl⟩
theorem e_X11_byLaw_1 : g_dc cX11_byLaw 1 (.istore 4) 2 3 := ⟨by decide +kernel, rfl⟩
theorem e_X11_byLaw_3 : g_dc cX11_byLaw 3 (.iload 4) 2 5 := ⟨by decide +kernel, rfl⟩
theorem e_X11_byLaw_5 : g_dc cX11_byLaw 5 (.aload_n 0) 1 6 := ⟨by decide +kernel, rfl⟩
theorem e_X11_byLaw_6 : g_dc cX11_byLaw 6 (.getfield 298) 3 9 := ⟨by decide +kernel, rfl⟩
theorem e_X11_byLaw_9 : g_dc cX11_byLaw 9 (.if_icmp .ge 88) 3 12 := ⟨by decide +kernel, rfl⟩
theorem e_X11_byLaw_12 : g_dc cX11_byLaw 12 (.aload_n 0) 1 13 := ⟨by decide +kernel, rfl⟩
theorem e_X11_byLaw_13 : g_dc cX11_byLaw 13 (.getfield 65) 3 16 := ⟨by decide +kernel, rfl⟩
theorem e_X11_byLaw_16 : g_dc cX11_byLaw 16 (.iload 4) 2 18 := ⟨by decide +kernel, rfl⟩
theorem e_X11_byLaw_18 : g_dc cX11_byLaw 18 (.iaload) 1 19 := ⟨by decide +kernel, rfl⟩
theorem e_X11_byLaw_19 : g_dc cX11_byLaw 19 (.iload_n 1) 1 20 := ⟨by decide +kernel, rfl⟩
theorem e_X11_byLaw_20 : g_dc cX11_byLaw 20 (.if_icmp .ne 71) 3 23 := ⟨by decide +kernel, rfl⟩
theorem e_X11_byLaw_23 : g_dc cX11_byLaw 23 (.aload_n 0) 1 24 := ⟨by decide +kernel, rfl⟩
theorem e_X11_byLaw_24 : g_dc cX11_byLaw 24 (.aload_n 0) 1 25 := ⟨by decide +kernel, rfl⟩
theorem e_X11_byLaw_25 : g_dc cX11_byLaw 25 (.getfield 71) 3 28 := ⟨by decide +kernel, rfl⟩
theorem e_X11_byLaw_28 : g_dc cX11_byLaw 28 (.iload 4) 2 30 := ⟨by decide +kernel, rfl⟩
theorem e_X11_byLaw_30 : g_dc cX11_byLaw 30 (.iaload) 1 31 := ⟨by decide +kernel, rfl⟩
theorem e_X11_byLaw_31 : g_dc cX11_byLaw 31 (.aload_n 0) 1 32 := ⟨by decide +kernel, rfl⟩
theorem e_X11_byLaw_32 : g_dc cX11_byLaw 32 (.getfield 74) 3 35 := ⟨by decide +kernel, rfl⟩
theorem e_X11_byLaw_35 : g_dc cX11_byLaw 35 (.iload 4) 2 37 := ⟨by decide +kernel, rfl⟩
theorem e_X11_byLaw_37 : g_dc cX11_byLaw 37 (.iaload) 1 38 := ⟨by decide +kernel, rfl⟩
theorem e_X11_byLaw_38 : g_dc cX11_byLaw 38 (.invokevirtual 305) 3 41 := ⟨by decide +kernel, rfl⟩
theorem e_X11_byLaw_41 : g_dc cX11_byLaw 41 (.iconst 1) 1 42 := ⟨by decide +kernel, rfl⟩
theorem e_X11_byLaw_42 : g_dc cX11_byLaw 42 (.if_icmp .eq 6) 3 45 := ⟨by decide +kernel, rfl⟩
theorem e_X11_byLaw_45 : g_dc cX11_byLaw 45 (.goto 46) 3 48 := ⟨by decide +kernel, rfl⟩
theorem e_X11_byLaw_48 : g_dc cX11_byLaw 48 (.aload_n 0) 1 49 := ⟨by decide +kernel, rfl⟩
theorem e_X11_byLaw_49 : g_dc cX11_byLaw 49 (.aload_n 0) 1 50 := ⟨by decide +kernel, rfl⟩
theorem e_X11_byLaw_50 : g_dc cX11_byLaw 50 (.getfield 68) 3 53 := ⟨by decide +kernel, rfl⟩
theorem e_X11_byLaw_53 : g_dc cX11_byLaw 53 (.iload 4) 2 55 := ⟨by decide +kernel, rfl⟩
theorem e_X11_byLaw_55 : g_dc cX11_byLaw 55 (.iaload) 1 56 := ⟨by decide +kernel, rfl⟩
theorem e_X11_byLaw_56 : g_dc cX11_byLaw 56 (.aload_n 0) 1 57 := ⟨by decide +kernel, rfl⟩
theorem e_X11_byLaw_57 : g_dc cX11_byLaw 57 (.getfield 71) 3 60 := ⟨by decide +kernel, rfl⟩
theorem e_X11_byLaw_60 : g_dc cX11_byLaw 60 (.iload 4) 2 62 := ⟨by decide +kernel, rfl⟩
theorem e_X11_byLaw_62 : g_dc cX11_byLaw 62 (.iaload) 1 63 := ⟨by decide +kernel, rfl⟩
theorem e_X11_byLaw_63 : g_dc cX11_byLaw 63 (.invokevirtual 305) 3 66 := ⟨by decide +kernel, rfl⟩
theorem e_X11_byLaw_66 : g_dc cX11_byLaw 66 (.istore 5) 2 68 := ⟨by decide +kernel, rfl⟩
theorem e_X11_byLaw_68 : g_dc cX11_byLaw 68 (.iload 5) 2 70 := ⟨by decide +kernel, rfl⟩
theorem e_X11_byLaw_70 : g_dc cX11_byLaw 70 (.iload_n 2) 1 71 := ⟨by decide +kernel, rfl⟩
theorem e_X11_byLaw_71 : g_dc cX11_byLaw 71 (.if_icmp .ge 7) 3 74 := ⟨by decide +kernel, rfl⟩
theorem e_X11_byLaw_74 : g_dc cX11_byLaw 74 (.iload_n 2) 1 75 := ⟨by decide +kernel, rfl⟩
theorem e_X11_byLaw_75 : g_dc cX11_byLaw 75 (.goto 15) 3 78 := ⟨by decide +kernel, rfl⟩
theorem e_X11_byLaw_78 : g_dc cX11_byLaw 78 (.iload 5) 2 80 := ⟨by decide +kernel, rfl⟩
theorem e_X11_byLaw_80 : g_dc cX11_byLaw 80 (.iload_n 3) 1 81 := ⟨by decide +kernel, rfl⟩
theorem e_X11_byLaw_81 : g_dc cX11_byLaw 81 (.if_icmp .le 7) 3 84 := ⟨by decide +kernel, rfl⟩
theorem e_X11_byLaw_84 : g_dc cX11_byLaw 84 (.iload_n 3) 1 85 := ⟨by decide +kernel, rfl⟩
theorem e_X11_byLaw_85 : g_dc cX11_byLaw 85 (.goto 5) 3 88 := ⟨by decide +kernel, rfl⟩
theorem e_X11_byLaw_88 : g_dc cX11_byLaw 88 (.iload 5) 2 90 := ⟨by decide +kernel, rfl⟩
theorem e_X11_byLaw_90 : g_dc cX11_byLaw 90 (.ireturn) 1 91 := ⟨by decide +kernel, rfl⟩
theorem e_X11_byLaw_91 : g_dc cX11_byLaw 91 (.iinc 4 1) 3 94 := ⟨by decide +kernel, rfl⟩
theorem e_X11_byLaw_94 : g_dc cX11_byLaw 94 (.goto (-91)) 3 97 := ⟨by decide +kernel, rfl⟩
theorem e_X11_byLaw_97 : g_dc cX11_byLaw 97 (.iload_n 2) 1 98 := ⟨by decide +kernel, rfl⟩
theorem e_X11_byLaw_98 : g_dc cX11_byLaw 98 (.ireturn) 1 99 := ⟨by decide +kernel, rfl⟩
def md_X11_byLaw : List Nat := []
def mr_X11_byLaw : List Nat := [23]
set_option maxHeartbeats 4000000 in
set_option maxRecDepth 100000 in
theorem w_X11_byLaw (l : Launch) (X : gX) (ad : Nat → Nat) (F : Nat → Int32) (R : Nat → Nat → Int32) (hI : g_ok LK_wM F) (hA : g_okR LA_wM R) (hWT : WT F R) (hWC : WC F R) (a0 : Int32) (a1 : Int32) (a2 : Int32) : g_Ci l X yX11_byLaw cX11_byLaw 6 (some .int) 3 0 0 [.ref (ad 0), .int a0, .int a1, .int a2] (wM X ad F R) (fun r w => ∃ (F' : Nat → Int32) (R' : Nat → Nat → Int32), w = wM X ad F' R' ∧ g_ok LK_wM F' ∧ g_okR LA_wM R' ∧ WT F' R' ∧ WC F' R' ∧ g_fr md_X11_byLaw F F' ∧ g_fr mr_X11_byLaw R R' ∧ jv (-2147483648) 2147483647 r) := by
  refine g_mi (by decide +kernel) (Nat.le_of_ble_eq_true rfl) (fun E cx hret => ?_)
  refine g_iconst cx 0 (by decide) e_X11_byLaw_0 ?_
  refine g_istore cx [(4, .int 0), (0, .ref (ad 0)), (1, .int a0), (2, .int a1), (3, .int a2)] e_X11_byLaw_1 (by decide) rfl ?_
  have J3 : ∀ (N : Nat) (F2 : Nat → Int32) (R3 : Nat → Nat → Int32) (y1 : Int32), (g_ok LK_wM F2) → (g_fr md_X11_byLaw F F2) → (g_okR LA_wM R3) → (g_fr mr_X11_byLaw R R3) → (WT F2 R3) → (WC F2 R3) → (jv 0 14 y1) → (2147483647 - y1.toInt).toNat < N → G X E 6 0 0 (wM X ad F2 R3) [(0, .ref (ad 0)), (1, .int a0), (2, .int a1), (3, .int a2), (4, .int y1)] 3 [] := by
    intro N
    induction N with
    | zero => intro F2 R3 y1 oF2 fF2 oR3 fR3 wTF2R3 wCF2R3 py1 hm; exact absurd hm (Nat.not_lt_zero _)
    | succ N ih3 =>
      intro F2 R3 y1 oF2 fF2 oR3 fR3 wTF2R3 wCF2R3 py1 hm3
      refine g_iload cx 4 rfl e_X11_byLaw_3 ?_
      refine g_aload_n cx 0 rfl e_X11_byLaw_5 ?_
      refine g_get cx cl_X11 fl_X11_298 0 (.int (F2 28)) e_X11_byLaw_6 rfl rfl ?_
      refine g_toi (F 28) (fF2 28 rfl) ?_
      refine g_icmp_ge cx 97 e_X11_byLaw_9 (by decide) (fun zc4 => ?_) (fun zc4 => ?_)
      · refine g_iload_n cx 2 rfl e_X11_byLaw_97 ?_
        exact hret e_X11_byLaw_98 (Nat.le_of_ble_eq_true rfl) (Nat.le_of_ble_eq_true rfl) rfl ⟨F2, R3, rfl, oF2, oR3, wTF2R3, wCF2R3, fF2, fR3, (jv_t a1)⟩
      · have p5 := gn_lt 0 13 (gc_nle zc4) py1 (g_ok_g hI 10 rfl) (by decide)
        have p6 := gn_gt 1 14 (gc_nle zc4) (g_ok_g hI 10 rfl) py1 (by decide)
        refine g_aload_n cx 0 rfl e_X11_byLaw_12 ?_
        refine g_get cx cl_X11 fl_X11_65 0 (.ref (ad 19)) e_X11_byLaw_13 rfl rfl ?_
        refine g_iload cx 4 rfl e_X11_byLaw_16 ?_
        refine g_iald cx 19 e_X11_byLaw_18 rfl (jv_ix 14 p5 (by decide)) ?_
        refine g_topi (fun x7 ex7 => ?_)
        refine g_iload_n cx 1 rfl e_X11_byLaw_19 ?_
        have J91 : ∀ (F8 : Nat → Int32) (R9 : Nat → Nat → Int32), (g_ok LK_wM F8) → (g_fr md_X11_byLaw F F8) → (g_okR LA_wM R9) → (g_fr mr_X11_byLaw R R9) → (WT F8 R9) → (WC F8 R9) → G X E 6 0 0 (wM X ad F8 R9) [(0, .ref (ad 0)), (1, .int a0), (2, .int a1), (3, .int a2), (4, .int y1)] 91 [] := by
          intro F8 R9 oF8 fF8 oR9 fR9 wTF8R9 wCF8R9
          obtain ⟨x10, ex10⟩ : ∃ z : Int32, z = y1 + Int32.ofInt 1 := ⟨_, rfl⟩
          refine g_iinc cx x10 [(4, .int x10), (0, .ref (ad 0)), (1, .int a0), (2, .int a1), (3, .int a2)] 4 e_X11_byLaw_91 rfl ex10.symm (by decide) rfl ?_
          have zx10 := jv_add 1 14 (show x10 = y1 + 1 from ex10) p5 (jv_k (x := 1) 1 (by decide)) (by decide)
          refine g_goto cx 3 e_X11_byLaw_94 (by decide) ?_
          refine g_lsub [1, 2, 3, 4, 0] [(0, .ref (ad 0)), (1, .int a0), (2, .int a1), (3, .int a2), (4, .int x10)] rfl ?_
          exact ih3 F8 R9 x10 oF8 fF8 oR9 fR9 wTF8R9 wCF8R9 (jv_w zx10.2 (by decide)) (Nat.lt_of_lt_of_le (show (2147483647 - x10.toInt).toNat < (2147483647 - y1.toInt).toNat from by have q0 := (jv_k (x := 1) 1 (by decide)).1; have q1 := (jv_k (x := 1) 1 (by decide)).2; have q2 := p6.1; have q3 := p6.2; have q4 := zx10.2.1; have q5 := zx10.2.2; have q6 := p5.1; have q7 := p5.2; have q8 := (gc_nle zc4); have q9 := (g_eq0 zx10.1); omega) (Nat.le_of_lt_succ hm3))
        refine g_icmp_ne cx 91 e_X11_byLaw_20 (by decide) (fun zc11 => ?_) (fun zc11 => ?_)
        · exact J91 F2 R3 oF2 fF2 oR3 fR3 wTF2R3 wCF2R3
        · refine g_aload_n cx 0 rfl e_X11_byLaw_23 ?_
          refine g_aload_n cx 0 rfl e_X11_byLaw_24 ?_
          refine g_get cx cl_X11 fl_X11_71 0 (.ref (ad 21)) e_X11_byLaw_25 rfl rfl ?_
          refine g_iload cx 4 rfl e_X11_byLaw_28 ?_
          refine g_iald cx 21 e_X11_byLaw_30 rfl (jv_ix 14 p5 (by decide)) ?_
          refine g_topi (fun x12 ex12 => ?_)
          refine g_aload_n cx 0 rfl e_X11_byLaw_31 ?_
          refine g_get cx cl_X11 fl_X11_74 0 (.ref (ad 22)) e_X11_byLaw_32 rfl rfl ?_
          refine g_iload cx 4 rfl e_X11_byLaw_35 ?_
          refine g_iald cx 22 e_X11_byLaw_37 rfl (jv_ix 14 p5 (by decide)) ?_
          refine g_topi (fun x13 ex13 => ?_)
          refine g_cViW cx [.int x12, .int x13] [] (w_X11_comesTo l X ad F2 R3 oF2 oR3 wTF2R3 wCF2R3 x12 x13 (g_runH wCF2R3 p5 (by have q0 := p6.1; have q1 := p6.2; have q2 := (g_ok_g oF2 10 rfl).1; have q3 := (g_ok_g oF2 10 rfl).2; have q4 := p5.1; have q5 := p5.2; have q6 := (gc_nle zc4); have q7 := (congrArg Int32.toInt (show F2 28 = F 28 from (fF2 28 rfl))); omega) ex12 ex13)) ml_X11_305 yV_X11_comesTo e_X11_byLaw_38 (by unfold g_rr; decide) (by decide) 0 rfl rfl rfl (Nat.le_of_ble_eq_true rfl) (fun r14 w15 h16 => ?_)
          obtain ⟨F17, R18, rfl, oF17, oR18, wTF17, wCF17, cF17, cR18, pr14⟩ := h16
          have fF17 : g_fr md_X11_byLaw F F17 := g_fr_c fF2 cF17 rfl
          have fR18 : g_fr mr_X11_byLaw R R18 := g_fr_c fR3 cR18 rfl
          refine g_iconst cx 1 (by decide) e_X11_byLaw_41 ?_
          refine g_icmp_eq cx 48 e_X11_byLaw_42 (by decide) (fun zc19 => ?_) (fun zc19 => ?_)
          · have p20 := gn_eq 1 1 (gc_eq zc19) pr14 (jv_k (x := 1) 1 (by decide)) (by decide)
            refine g_aload_n cx 0 rfl e_X11_byLaw_48 ?_
            refine g_aload_n cx 0 rfl e_X11_byLaw_49 ?_
            refine g_get cx cl_X11 fl_X11_68 0 (.ref (ad 20)) e_X11_byLaw_50 rfl rfl ?_
            refine g_iload cx 4 rfl e_X11_byLaw_53 ?_
            refine g_iald cx 20 e_X11_byLaw_55 rfl (jv_ix 14 p5 (by decide)) ?_
            refine g_topi (fun x21 ex21 => ?_)
            refine g_aload_n cx 0 rfl e_X11_byLaw_56 ?_
            refine g_get cx cl_X11 fl_X11_71 0 (.ref (ad 21)) e_X11_byLaw_57 rfl rfl ?_
            refine g_iload cx 4 rfl e_X11_byLaw_60 ?_
            refine g_iald cx 21 e_X11_byLaw_62 rfl (jv_ix 14 p5 (by decide)) ?_
            refine g_topi (fun x22 ex22 => ?_)
            refine g_cViW cx [.int x21, .int x22] [] (w_X11_comesTo l X ad F17 R18 oF17 oR18 wTF17 wCF17 x21 x22 (g_runF wCF17 p5 (by have q0 := p6.1; have q1 := p6.2; have q2 := (g_ok_g oF17 10 rfl).1; have q3 := (g_ok_g oF17 10 rfl).2; have q4 := (g_ok_g oF2 10 rfl).1; have q5 := (g_ok_g oF2 10 rfl).2; have q6 := p5.1; have q7 := p5.2; have q8 := (gc_nle zc4); have q9 := (congrArg Int32.toInt (show F2 28 = F 28 from (fF2 28 rfl))); have q10 := (congrArg Int32.toInt (show F17 28 = F 28 from ((cF17 28 rfl).trans (fF2 28 rfl)))); omega) ex21 ex22)) ml_X11_305 yV_X11_comesTo e_X11_byLaw_63 (by unfold g_rr; decide) (by decide) 0 rfl rfl rfl (Nat.le_of_ble_eq_true rfl) (fun r23 w24 h25 => ?_)
            obtain ⟨F26, R27, rfl, oF26, oR27, wTF26, wCF26, cF26, cR27, pr23⟩ := h25
            have fF26 : g_fr md_X11_byLaw F F26 := g_fr_c fF17 cF26 rfl
            have fR27 : g_fr mr_X11_byLaw R R27 := g_fr_c fR18 cR27 rfl
            refine g_istore cx [(5, .int r23), (0, .ref (ad 0)), (1, .int a0), (2, .int a1), (3, .int a2), (4, .int y1)] e_X11_byLaw_66 (by decide) rfl ?_
            refine g_iload cx 0 rfl e_X11_byLaw_68 ?_
            refine g_iload_n cx 3 rfl e_X11_byLaw_70 ?_
            have J90 : ∀ (y28 : Int32), (jv (-2147483648) 2147483647 y28) → G X E 6 0 0 (wM X ad F26 R27) [] 90 [.int y28] := by
              intro y28 py28
              exact hret e_X11_byLaw_90 (Nat.le_of_ble_eq_true rfl) (Nat.le_of_ble_eq_true rfl) rfl ⟨F26, R27, rfl, oF26, oR27, wTF26, wCF26, fF26, fR27, py28⟩
            refine g_icmp_ge cx 78 e_X11_byLaw_71 (by decide) (fun zc29 => ?_) (fun zc29 => ?_)
            · refine g_iload cx 0 rfl e_X11_byLaw_78 ?_
              refine g_iload_n cx 4 rfl e_X11_byLaw_80 ?_
              refine g_icmp_le cx 88 e_X11_byLaw_81 (by decide) (fun zc30 => ?_) (fun zc30 => ?_)
              · refine g_iload cx 0 rfl e_X11_byLaw_88 ?_
                refine g_lsub [] [] rfl ?_
                exact J90 r23 pr23
              · have p31 := gn_lt (-2147483648) 2147483646 (gc_nle zc30) (jv_t a2) pr23 (by decide)
                have p32 := gn_gt (-2147483647) 2147483647 (gc_nle zc30) pr23 (jv_t a2) (by decide)
                refine g_iload_n cx 4 rfl e_X11_byLaw_84 ?_
                refine g_goto cx 90 e_X11_byLaw_85 (by decide) ?_
                refine g_lsub [] [] rfl ?_
                exact J90 a2 (jv_w p31 (by decide))
            · have p33 := gn_lt (-2147483648) 2147483646 (gc_nle zc29) pr23 (jv_t a1) (by decide)
              have p34 := gn_gt (-2147483647) 2147483647 (gc_nle zc29) (jv_t a1) pr23 (by decide)
              refine g_iload_n cx 3 rfl e_X11_byLaw_74 ?_
              refine g_goto cx 90 e_X11_byLaw_75 (by decide) ?_
              refine g_lsub [] [] rfl ?_
              exact J90 a1 (jv_w p34 (by decide))
          · refine g_goto cx 91 e_X11_byLaw_45 (by decide) ?_
            exact J91 F17 R18 oF17 fF17 oR18 fR18 wTF17 wCF17
  refine g_lsub [1, 2, 3, 4, 0] [(0, .ref (ad 0)), (1, .int a0), (2, .int a1), (3, .int a2), (4, .int 0)] rfl ?_
  exact J3 _ F R 0 hI (g_fr_rf F) hA (g_fr_rf R) hWT hWC (jv_w (jv_k (x := 0) 0 (by decide)) (by decide)) (Nat.lt_succ_self _)
theorem e_X11_stands_0 : g_dc cX11_stands 0 (.aload_n 0) 1 1 := ⟨by decide +kernel, rfl⟩
theorem e_X11_stands_1 : g_dc cX11_stands 1 (.getfield 312) 3 4 := ⟨by decide +kernel, rfl⟩
theorem e_X11_stands_4 : g_dc cX11_stands 4 (.iload_n 1) 1 5 := ⟨by decide +kernel, rfl⟩
theorem e_X11_stands_5 : g_dc cX11_stands 5 (.invokestatic 175) 3 8 := ⟨by decide +kernel, rfl⟩
theorem e_X11_stands_8 : g_dc cX11_stands 8 (.ifCond .eq 16) 3 11 := ⟨by decide +kernel, rfl⟩
theorem e_X11_stands_11 : g_dc cX11_stands 11 (.aload_n 0) 1 12 := ⟨by decide +kernel, rfl⟩
theorem e_X11_stands_12 : g_dc cX11_stands 12 (.getfield 92) 3 15 := ⟨by decide +kernel, rfl⟩
theorem e_X11_stands_15 : g_dc cX11_stands 15 (.iload_n 1) 1 16 := ⟨by decide +kernel, rfl⟩
theorem e_X11_stands_16 : g_dc cX11_stands 16 (.iaload) 1 17 := ⟨by decide +kernel, rfl⟩
theorem e_X11_stands_17 : g_dc cX11_stands 17 (.ifCond .ne 7) 3 20 := ⟨by decide +kernel, rfl⟩
theorem e_X11_stands_20 : g_dc cX11_stands 20 (.iconst 1) 1 21 := ⟨by decide +kernel, rfl⟩
theorem e_X11_stands_21 : g_dc cX11_stands 21 (.goto 4) 3 24 := ⟨by decide +kernel, rfl⟩
theorem e_X11_stands_24 : g_dc cX11_stands 24 (.iconst 0) 1 25 := ⟨by decide +kernel, rfl⟩
theorem e_X11_stands_25 : g_dc cX11_stands 25 (.ireturn) 1 26 := ⟨by decide +kernel, rfl⟩
set_option maxHeartbeats 4000000 in
set_option maxRecDepth 100000 in
theorem w_X11_stands (l : Launch) (X : gX) (ad : Nat → Nat) (F : Nat → Int32) (R : Nat → Nat → Int32) (hI : g_ok LK_wM F) (hA : g_okR LA_wM R) (hWT : WT F R) (hWC : WC F R) (a0 : Int32) (pa0 : jv 0 9 a0) : g_Ci l X yX11_stands cX11_stands 2 (some .boolean) 2 0 0 [.ref (ad 0), .int a0] (wM X ad F R) (fun r w => w = wM X ad F R ∧ jv 0 1 r ∧ (¬ r = 0 → hb (F 42) a0)) := by
  refine g_mi (by decide +kernel) (Nat.le_of_ble_eq_true rfl) (fun E cx hret => ?_)
  refine g_aload_n cx 0 rfl e_X11_stands_0 ?_
  refine g_get cx cl_X11 fl_X11_312 0 (.int (F 42)) e_X11_stands_1 rfl rfl ?_
  refine g_iload_n cx 1 rfl e_X11_stands_4 ?_
  refine g_cSiW cx [.int (F 42), .int a0] [] (c_X11_has l X (wM X ad F R) (F 42) a0) ml_X11_175 yS_X11_has rfl e_X11_stands_5 (by unfold g_rr; decide) (by decide) rfl (Nat.le_of_ble_eq_true rfl) (fun r1 w2 h3 => ?_)
  obtain ⟨rfl, hr1⟩ := h3
  have pr1 : jv 0 1 r1 := by rcases hr1 with q | q <;> rw [q.1] <;> exact ⟨by decide, by decide⟩
  refine g_if_eq cx 24 e_X11_stands_8 (by decide) (fun zc4 => ?_) (fun zc4 => ?_)
  · have p5 := gn_eq 0 0 (gc_eq zc4) pr1 (jv_k (x := 0) 0 (by decide)) (by decide)
    refine g_iconst cx 0 (by decide) e_X11_stands_24 ?_
    exact hret e_X11_stands_25 (Nat.le_of_ble_eq_true rfl) (Nat.le_of_ble_eq_true rfl) rfl ⟨rfl, (jv_w (jv_k (x := 0) 0 (by decide)) (by decide)), (fun h => absurd rfl h)⟩
  · have p6 := gn_neL 1 1 (gc_ne zc4) pr1 (jv_k (x := 0) 0 (by decide)) (by decide)
    have zb7 : hb (F 42) a0 := g_hasy hr1 zc4
    refine g_aload_n cx 0 rfl e_X11_stands_11 ?_
    refine g_get cx cl_X11 fl_X11_92 0 (.ref (ad 28)) e_X11_stands_12 rfl rfl ?_
    refine g_iload_n cx 1 rfl e_X11_stands_15 ?_
    refine g_iald cx 28 e_X11_stands_16 rfl (jv_ix 10 pa0 (by decide)) ?_
    refine g_topi (fun x8 ex8 => ?_)
    refine g_if_ne cx 24 e_X11_stands_17 (by decide) (fun zc9 => ?_) (fun zc9 => ?_)
    · refine g_iconst cx 0 (by decide) e_X11_stands_24 ?_
      exact hret e_X11_stands_25 (Nat.le_of_ble_eq_true rfl) (Nat.le_of_ble_eq_true rfl) rfl ⟨rfl, (jv_w (jv_k (x := 0) 0 (by decide)) (by decide)), (fun h => absurd rfl h)⟩
    · have p10 := gn_eq 0 0 (gc_eq zc9) (jv_t x8) (jv_k (x := 0) 0 (by decide)) (by decide)
      refine g_iconst cx 1 (by decide) e_X11_stands_20 ?_
      refine g_goto cx 25 e_X11_stands_21 (by decide) ?_
      exact hret e_X11_stands_25 (Nat.le_of_ble_eq_true rfl) (Nat.le_of_ble_eq_true rfl) rfl ⟨rfl, (jv_w (jv_k (x := 1) 1 (by decide)) (by decide)), (fun _ => zb7)⟩
theorem e_X11_laysOrder_0 : g_dc cX11_laysOrder 0 (.iconst 0) 1 1 := ⟨by decide +kernel, rfl⟩
theorem e_X11_laysOrder_1 : g_dc cX11_laysOrder 1 (.istore_n 1) 1 2 := ⟨by decide +kernel, rfl⟩
theorem e_X11_laysOrder_2 : g_dc cX11_laysOrder 2 (.iconst 0) 1 3 := ⟨by decide +kernel, rfl⟩
theorem e_X11_laysOrder_3 : g_dc cX11_laysOrder 3 (.istore_n 2) 1 4 := ⟨by decide +kernel, rfl⟩
theorem e_X11_laysOrder_4 : g_dc cX11_laysOrder 4 (.iload_n 2) 1 5 := ⟨by decide +kernel, rfl⟩
theorem e_X11_laysOrder_5 : g_dc cX11_laysOrder 5 (.bipush 10) 2 7 := ⟨by decide +kernel, rfl⟩
theorem e_X11_laysOrder_7 : g_dc cX11_laysOrder 7 (.if_icmp .ge 80) 3 10 := ⟨by decide +kernel, rfl⟩
theorem e_X11_laysOrder_10 : g_dc cX11_laysOrder 10 (.aload_n 0) 1 11 := ⟨by decide +kernel, rfl⟩
theorem e_X11_laysOrder_11 : g_dc cX11_laysOrder 11 (.iload_n 2) 1 12 := ⟨by decide +kernel, rfl⟩
theorem e_X11_laysOrder_12 : g_dc cX11_laysOrder 12 (.invokevirtual 343) 3 15 := ⟨by decide +kernel, rfl⟩
theorem e_X11_laysOrder_15 : g_dc cX11_laysOrder 15 (.ifCond .ne 6) 3 18 := ⟨by decide +kernel, rfl⟩
theorem e_X11_laysOrder_18 : g_dc cX11_laysOrder 18 (.goto 63) 3 21 := ⟨by decide +kernel, rfl⟩
theorem e_X11_laysOrder_21 : g_dc cX11_laysOrder 21 (.iload_n 1) 1 22 := ⟨by decide +kernel, rfl⟩
theorem e_X11_laysOrder_22 : g_dc cX11_laysOrder 22 (.istore_n 3) 1 23 := ⟨by decide +kernel, rfl⟩
theorem e_X11_laysOrder_23 : g_dc cX11_laysOrder 23 (.iload_n 3) 1 24 := ⟨by decide +kernel, rfl⟩
theorem e_X11_laysOrder_24 : g_dc cX11_laysOrder 24 (.ifCond .le 46) 3 27 := ⟨by decide +kernel, rfl⟩
theorem e_X11_laysOrder_27 : g_dc cX11_laysOrder 27 (.aload_n 0) 1 28 := ⟨by decide +kernel, rfl⟩
theorem e_X11_laysOrder_28 : g_dc cX11_laysOrder 28 (.getfield 86) 3 31 := ⟨by decide +kernel, rfl⟩
theorem e_X11_laysOrder_31 : g_dc cX11_laysOrder 31 (.aload_n 0) 1 32 := ⟨by decide +kernel, rfl⟩
theorem e_X11_laysOrder_32 : g_dc cX11_laysOrder 32 (.getfield 119) 3 35 := ⟨by decide +kernel, rfl⟩
theorem e_X11_laysOrder_35 : g_dc cX11_laysOrder 35 (.iload_n 3) 1 36 := ⟨by decide +kernel, rfl⟩
theorem e_X11_laysOrder_36 : g_dc cX11_laysOrder 36 (.iconst 1) 1 37 := ⟨by decide +kernel, rfl⟩
theorem e_X11_laysOrder_37 : g_dc cX11_laysOrder 37 (.isub) 1 38 := ⟨by decide +kernel, rfl⟩
theorem e_X11_laysOrder_38 : g_dc cX11_laysOrder 38 (.iaload) 1 39 := ⟨by decide +kernel, rfl⟩
theorem e_X11_laysOrder_39 : g_dc cX11_laysOrder 39 (.iaload) 1 40 := ⟨by decide +kernel, rfl⟩
theorem e_X11_laysOrder_40 : g_dc cX11_laysOrder 40 (.aload_n 0) 1 41 := ⟨by decide +kernel, rfl⟩
theorem e_X11_laysOrder_41 : g_dc cX11_laysOrder 41 (.getfield 86) 3 44 := ⟨by decide +kernel, rfl⟩
theorem e_X11_laysOrder_44 : g_dc cX11_laysOrder 44 (.iload_n 2) 1 45 := ⟨by decide +kernel, rfl⟩
theorem e_X11_laysOrder_45 : g_dc cX11_laysOrder 45 (.iaload) 1 46 := ⟨by decide +kernel, rfl⟩
theorem e_X11_laysOrder_46 : g_dc cX11_laysOrder 46 (.if_icmp .le 24) 3 49 := ⟨by decide +kernel, rfl⟩
theorem e_X11_laysOrder_49 : g_dc cX11_laysOrder 49 (.aload_n 0) 1 50 := ⟨by decide +kernel, rfl⟩
theorem e_X11_laysOrder_50 : g_dc cX11_laysOrder 50 (.getfield 119) 3 53 := ⟨by decide +kernel, rfl⟩
theorem e_X11_laysOrder_53 : g_dc cX11_laysOrder 53 (.iload_n 3) 1 54 := ⟨by decide +kernel, rfl⟩
theorem e_X11_laysOrder_54 : g_dc cX11_laysOrder 54 (.aload_n 0) 1 55 := ⟨by decide +kernel, rfl⟩
theorem e_X11_laysOrder_55 : g_dc cX11_laysOrder 55 (.getfield 119) 3 58 := ⟨by decide +kernel, rfl⟩
theorem e_X11_laysOrder_58 : g_dc cX11_laysOrder 58 (.iload_n 3) 1 59 := ⟨by decide +kernel, rfl⟩
theorem e_X11_laysOrder_59 : g_dc cX11_laysOrder 59 (.iconst 1) 1 60 := ⟨by decide +kernel, rfl⟩
theorem e_X11_laysOrder_60 : g_dc cX11_laysOrder 60 (.isub) 1 61 := ⟨by decide +kernel, rfl⟩
theorem e_X11_laysOrder_61 : g_dc cX11_laysOrder 61 (.iaload) 1 62 := ⟨by decide +kernel, rfl⟩
theorem e_X11_laysOrder_62 : g_dc cX11_laysOrder 62 (.iastore) 1 63 := ⟨by decide +kernel, rfl⟩
theorem e_X11_laysOrder_63 : g_dc cX11_laysOrder 63 (.iload_n 3) 1 64 := ⟨by decide +kernel, rfl⟩
theorem e_X11_laysOrder_64 : g_dc cX11_laysOrder 64 (.iconst 1) 1 65 := ⟨by decide +kernel, rfl⟩
theorem e_X11_laysOrder_65 : g_dc cX11_laysOrder 65 (.isub) 1 66 := ⟨by decide +kernel, rfl⟩
theorem e_X11_laysOrder_66 : g_dc cX11_laysOrder 66 (.istore_n 3) 1 67 := ⟨by decide +kernel, rfl⟩
theorem e_X11_laysOrder_67 : g_dc cX11_laysOrder 67 (.goto (-44)) 3 70 := ⟨by decide +kernel, rfl⟩
theorem e_X11_laysOrder_70 : g_dc cX11_laysOrder 70 (.aload_n 0) 1 71 := ⟨by decide +kernel, rfl⟩
theorem e_X11_laysOrder_71 : g_dc cX11_laysOrder 71 (.getfield 119) 3 74 := ⟨by decide +kernel, rfl⟩
theorem e_X11_laysOrder_74 : g_dc cX11_laysOrder 74 (.iload_n 3) 1 75 := ⟨by decide +kernel, rfl⟩
theorem e_X11_laysOrder_75 : g_dc cX11_laysOrder 75 (.iload_n 2) 1 76 := ⟨by decide +kernel, rfl⟩
theorem e_X11_laysOrder_76 : g_dc cX11_laysOrder 76 (.iastore) 1 77 := ⟨by decide +kernel, rfl⟩
theorem e_X11_laysOrder_77 : g_dc cX11_laysOrder 77 (.iload_n 1) 1 78 := ⟨by decide +kernel, rfl⟩
theorem e_X11_laysOrder_78 : g_dc cX11_laysOrder 78 (.iconst 1) 1 79 := ⟨by decide +kernel, rfl⟩
theorem e_X11_laysOrder_79 : g_dc cX11_laysOrder 79 (.iadd) 1 80 := ⟨by decide +kernel, rfl⟩
theorem e_X11_laysOrder_80 : g_dc cX11_laysOrder 80 (.istore_n 1) 1 81 := ⟨by decide +kernel, rfl⟩
theorem e_X11_laysOrder_81 : g_dc cX11_laysOrder 81 (.iinc 2 1) 3 84 := ⟨by decide +kernel, rfl⟩
theorem e_X11_laysOrder_84 : g_dc cX11_laysOrder 84 (.goto (-80)) 3 87 := ⟨by decide +kernel, rfl⟩
theorem e_X11_laysOrder_87 : g_dc cX11_laysOrder 87 (.iload_n 1) 1 88 := ⟨by decide +kernel, rfl⟩
theorem e_X11_laysOrder_88 : g_dc cX11_laysOrder 88 (.ireturn) 1 89 := ⟨by decide +kernel, rfl⟩
def md_X11_laysOrder : List Nat := []
def mr_X11_laysOrder : List Nat := [37]
set_option maxHeartbeats 4000000 in
set_option maxRecDepth 100000 in
theorem w_X11_laysOrder (l : Launch) (X : gX) (ad : Nat → Nat) (F : Nat → Int32) (R : Nat → Nat → Int32) (hI : g_ok LK_wM F) (hA : g_okR LA_wM R) (hWT : WT F R) (hWC : WC F R) (hpn : WN F R) : g_Ci l X yX11_laysOrder cX11_laysOrder 4 (some .int) 3 0 0 [.ref (ad 0)] (wM X ad F R) (fun r w => ∃ (F' : Nat → Int32) (R' : Nat → Nat → Int32), w = wM X ad F' R' ∧ g_ok LK_wM F' ∧ g_okR LA_wM R' ∧ WT F' R' ∧ WC F' R' ∧ g_fr md_X11_laysOrder F F' ∧ g_fr mr_X11_laysOrder R R' ∧ jv 0 10 r ∧ OW (R 5) (R' 37) r.toInt) := by
  refine g_mi (by decide +kernel) (Nat.le_of_ble_eq_true rfl) (fun E cx hret => ?_)
  refine g_iconst cx 0 (by decide) e_X11_laysOrder_0 ?_
  refine g_istore_n cx [(1, .int 0), (0, .ref (ad 0))] e_X11_laysOrder_1 (by decide) rfl ?_
  refine g_iconst cx 0 (by decide) e_X11_laysOrder_2 ?_
  refine g_istore_n cx [(2, .int 0), (1, .int 0), (0, .ref (ad 0))] e_X11_laysOrder_3 (by decide) rfl ?_
  have J4 : ∀ (N : Nat) (R3 : Nat → Nat → Int32) (y1 : Int32) (y2 : Int32), (g_okR LA_wM R3) → (g_fr mr_X11_laysOrder R R3) → (WT F R3) → (WC F R3) → (jv 0 10 y1) → (jv 0 10 y2) → (0 ≤ (y1 : Int32).toInt ∧ (y1 : Int32).toInt ≤ (y2 : Int32).toInt) → (OW (R 5) (R3 37) (y1 : Int32).toInt) → (2147483647 - y2.toInt).toNat < N → G X E 4 0 0 (wM X ad F R3) [(0, .ref (ad 0)), (1, .int y1), (2, .int y2)] 4 [] := by
    intro N
    induction N with
    | zero => intro R3 y1 y2 oR3 fR3 wTR3 wCR3 py1 py2 zi4_0 zq4_0 hm; exact absurd hm (Nat.not_lt_zero _)
    | succ N ih4 =>
      intro R3 y1 y2 oR3 fR3 wTR3 wCR3 py1 py2 zi4_0 zq4_0 hm4
      have p4 : jv 0 10 y1 := ⟨by have q0 := py1.1; have q1 := py1.2; have q2 := py2.1; have q3 := py2.2; have q4 := zi4_0; omega, by have q0 := py1.1; have q1 := py1.2; have q2 := py2.1; have q3 := py2.2; have q4 := zi4_0; omega⟩
      refine g_iload_n cx 2 rfl e_X11_laysOrder_4 ?_
      refine g_bipush cx 10 (by decide) e_X11_laysOrder_5 ?_
      refine g_icmp_ge cx 87 e_X11_laysOrder_7 (by decide) (fun zc5 => ?_) (fun zc5 => ?_)
      · have p6 := gn_ge 10 10 (gc_le zc5) py2 (jv_k (x := 10) 10 (by decide)) (by decide)
        refine g_iload_n cx 1 rfl e_X11_laysOrder_87 ?_
        exact hret e_X11_laysOrder_88 (Nat.le_of_ble_eq_true rfl) (Nat.le_of_ble_eq_true rfl) rfl ⟨F, R3, rfl, hI, oR3, wTR3, wCR3, (g_fr_rf F), fR3, p4, zq4_0⟩
      · have p7 := gn_lt 0 9 (gc_nle zc5) py2 (jv_k (x := 10) 10 (by decide)) (by decide)
        refine g_aload_n cx 0 rfl e_X11_laysOrder_10 ?_
        refine g_iload_n cx 2 rfl e_X11_laysOrder_11 ?_
        refine g_cViW cx [.int y2] [] (w_X11_stands l X ad F R3 hI oR3 wTR3 wCR3 y2 p7) ml_X11_343 yV_X11_stands e_X11_laysOrder_12 (by unfold g_rr; decide) (by decide) 0 rfl rfl rfl (Nat.le_of_ble_eq_true rfl) (fun r8 w9 h10 => ?_)
        obtain ⟨rfl, pr8, zx11⟩ := h10
        have J81 : ∀ (R13 : Nat → Nat → Int32) (y12 : Int32), (g_okR LA_wM R13) → (g_fr mr_X11_laysOrder R R13) → (WT F R13) → (WC F R13) → (jv 0 11 y12) → (0 ≤ (y12 : Int32).toInt ∧ (y12 : Int32).toInt ≤ (y2 : Int32).toInt + 1) → (OW (R 5) (R13 37) (y12 : Int32).toInt) → G X E 4 0 0 (wM X ad F R13) [(0, .ref (ad 0)), (1, .int y12), (2, .int y2)] 81 [] := by
          intro R13 y12 oR13 fR13 wTR13 wCR13 py12 zi81_0 zq81_0
          have p14 : jv 0 10 y12 := ⟨by have q0 := (jv_k (x := 10) 10 (by decide)).1; have q1 := (jv_k (x := 10) 10 (by decide)).2; have q2 := p4.1; have q3 := p4.2; have q4 := py12.1; have q5 := py12.2; have q6 := p7.1; have q7 := p7.2; have q8 := zi4_0; have q9 := (gc_nle zc5); have q10 := zi81_0; omega, by have q0 := (jv_k (x := 10) 10 (by decide)).1; have q1 := (jv_k (x := 10) 10 (by decide)).2; have q2 := p4.1; have q3 := p4.2; have q4 := py12.1; have q5 := py12.2; have q6 := p7.1; have q7 := p7.2; have q8 := zi4_0; have q9 := (gc_nle zc5); have q10 := zi81_0; omega⟩
          obtain ⟨x15, ex15⟩ : ∃ z : Int32, z = y2 + Int32.ofInt 1 := ⟨_, rfl⟩
          refine g_iinc cx x15 [(2, .int x15), (0, .ref (ad 0)), (1, .int y12)] 2 e_X11_laysOrder_81 rfl ex15.symm (by decide) rfl ?_
          have zx15 := jv_add 1 10 (show x15 = y2 + 1 from ex15) p7 (jv_k (x := 1) 1 (by decide)) (by decide)
          refine g_goto cx 4 e_X11_laysOrder_84 (by decide) ?_
          refine g_lsub [1, 2, 0] [(0, .ref (ad 0)), (1, .int y12), (2, .int x15)] rfl ?_
          exact ih4 R13 y12 x15 oR13 fR13 wTR13 wCR13 p14 (jv_w zx15.2 (by decide)) (by have q0 := (jv_k (x := 1) 1 (by decide)).1; have q1 := (jv_k (x := 1) 1 (by decide)).2; have q2 := (jv_k (x := 10) 10 (by decide)).1; have q3 := (jv_k (x := 10) 10 (by decide)).2; have q4 := zx15.2.1; have q5 := zx15.2.2; have q6 := p4.1; have q7 := p4.2; have q8 := p14.1; have q9 := p14.2; have q10 := p7.1; have q11 := p7.2; have q12 := zi4_0; have q13 := (gc_nle zc5); have q14 := zi81_0; have q15 := (g_eq0 zx15.1); omega) (zq81_0) (Nat.lt_of_lt_of_le (show (2147483647 - x15.toInt).toNat < (2147483647 - y2.toInt).toNat from by have q0 := (jv_k (x := 1) 1 (by decide)).1; have q1 := (jv_k (x := 1) 1 (by decide)).2; have q2 := (jv_k (x := 10) 10 (by decide)).1; have q3 := (jv_k (x := 10) 10 (by decide)).2; have q4 := zx15.2.1; have q5 := zx15.2.2; have q6 := p4.1; have q7 := p4.2; have q8 := p14.1; have q9 := p14.2; have q10 := p7.1; have q11 := p7.2; have q12 := zi4_0; have q13 := (gc_nle zc5); have q14 := zi81_0; have q15 := (g_eq0 zx15.1); omega) (Nat.le_of_lt_succ hm4))
        refine g_if_ne cx 21 e_X11_laysOrder_15 (by decide) (fun zc16 => ?_) (fun zc16 => ?_)
        · have p17 := gn_neL 1 1 (gc_ne zc16) pr8 (jv_k (x := 0) 0 (by decide)) (by decide)
          refine g_iload_n cx 1 rfl e_X11_laysOrder_21 ?_
          refine g_istore_n cx [(3, .int y1), (0, .ref (ad 0)), (1, .int y1), (2, .int y2)] e_X11_laysOrder_22 (by decide) rfl ?_
          have J23 : ∀ (N : Nat) (R19 : Nat → Nat → Int32) (y18 : Int32), (g_okR LA_wM R19) → (g_fr mr_X11_laysOrder R R19) → (WT F R19) → (WC F R19) → (jv 0 10 y18) → (0 ≤ (y18 : Int32).toInt ∧ (y18 : Int32).toInt ≤ (y1 : Int32).toInt) → (OH (R 5) (R19 37) (y1 : Int32).toInt (y18 : Int32).toInt) → (y18.toInt + 2147483648).toNat < N → G X E 4 0 0 (wM X ad F R19) [(0, .ref (ad 0)), (1, .int y1), (2, .int y2), (3, .int y18)] 23 [] := by
            intro N
            induction N with
            | zero => intro R19 y18 oR19 fR19 wTR19 wCR19 py18 zi23_0 zq23_0 hm; exact absurd hm (Nat.not_lt_zero _)
            | succ N ih23 =>
              intro R19 y18 oR19 fR19 wTR19 wCR19 py18 zi23_0 zq23_0 hm23
              have p20 : jv 0 9 y18 := ⟨by have q0 := (jv_k (x := 10) 10 (by decide)).1; have q1 := (jv_k (x := 10) 10 (by decide)).2; have q2 := p4.1; have q3 := p4.2; have q4 := py18.1; have q5 := py18.2; have q6 := p7.1; have q7 := p7.2; have q8 := zi4_0; have q9 := (gc_nle zc5); have q10 := zi23_0; omega, by have q0 := (jv_k (x := 10) 10 (by decide)).1; have q1 := (jv_k (x := 10) 10 (by decide)).2; have q2 := p4.1; have q3 := p4.2; have q4 := py18.1; have q5 := py18.2; have q6 := p7.1; have q7 := p7.2; have q8 := zi4_0; have q9 := (gc_nle zc5); have q10 := zi23_0; omega⟩
              refine g_iload_n cx 3 rfl e_X11_laysOrder_23 ?_
              have J70 : G X E 4 0 0 (wM X ad F R19) [(0, .ref (ad 0)), (1, .int y1), (2, .int y2), (3, .int y18)] 70 [] := by
                refine g_aload_n cx 0 rfl e_X11_laysOrder_70 ?_
                refine g_get cx cl_X11 fl_X11_119 0 (.ref (ad 37)) e_X11_laysOrder_71 rfl rfl ?_
                refine g_iload_n cx 3 rfl e_X11_laysOrder_74 ?_
                refine g_iload_n cx 2 rfl e_X11_laysOrder_75 ?_
                refine g_iast cx 37 (wM X ad F (g_u R19 37 (upd (R19 37) (Int32.toNatClampNeg y18) y2))) e_X11_laysOrder_76 rfl (jv_ix 10 p20 (by decide)) rfl ?_
                obtain ⟨R21, hR21⟩ : ∃ z, z = g_u R19 37 (upd (R19 37) (Int32.toNatClampNeg y18) y2) := ⟨_, rfl⟩
                rw [← hR21]
                have oR21 : g_okR LA_wM R21 := by rw [hR21]; exact g_okR_p oR19 p7 rfl
                have fR21 : g_fr mr_X11_laysOrder R R21 := by rw [hR21]; exact g_fr_r fR19 rfl
                have wTR21 : WT F R21 := by rw [hR21]; exact WT_r wTR19 rfl
                have wCR21 : WC F R21 := by rw [hR21]; exact WC_r wCR19 rfl
                refine g_iload_n cx 1 rfl e_X11_laysOrder_77 ?_
                refine g_iconst cx 1 (by decide) e_X11_laysOrder_78 ?_
                refine g_iadd cx e_X11_laysOrder_79 ?_
                refine g_topi (fun x22 ex22 => ?_)
                have zx22 := jv_add 1 11 ex22 p4 (jv_k (x := 1) 1 (by decide)) (by decide)
                refine g_istore_n cx [(1, .int x22), (0, .ref (ad 0)), (2, .int y2), (3, .int y18)] e_X11_laysOrder_80 (by decide) rfl ?_
                refine g_lsub [1, 0, 2] [(0, .ref (ad 0)), (1, .int x22), (2, .int y2)] rfl ?_
                exact J81 R21 x22 oR21 fR21 wTR21 wCR21 (jv_w zx22.2 (by decide)) (by have q0 := (jv_k (x := 1) 1 (by decide)).1; have q1 := (jv_k (x := 1) 1 (by decide)).2; have q2 := (jv_k (x := 10) 10 (by decide)).1; have q3 := (jv_k (x := 10) 10 (by decide)).2; have q4 := zx22.2.1; have q5 := zx22.2.2; have q6 := p4.1; have q7 := p4.2; have q8 := p20.1; have q9 := p20.2; have q10 := p7.1; have q11 := p7.2; have q12 := zi4_0; have q13 := (gc_nle zc5); have q14 := zi23_0; have q15 := (g_eq0 zx22.1); omega) (OW_put (k := y18) (i := y2) zq23_0 p20 (wn_weight hpn p7 (zx11 zc16)) (g_ru1 hR21) (by have q0 := (jv_k (x := 1) 1 (by decide)).1; have q1 := (jv_k (x := 1) 1 (by decide)).2; have q2 := (jv_k (x := 10) 10 (by decide)).1; have q3 := (jv_k (x := 10) 10 (by decide)).2; have q4 := zx22.2.1; have q5 := zx22.2.2; have q6 := p4.1; have q7 := p4.2; have q8 := p20.1; have q9 := p20.2; have q10 := p7.1; have q11 := p7.2; have q12 := zi4_0; have q13 := (gc_nle zc5); have q14 := zi23_0; have q15 := (g_eq0 zx22.1); omega))
              refine g_if_le cx 70 e_X11_laysOrder_24 (by decide) (fun zc23 => ?_) (fun zc23 => ?_)
              · have p24 := gn_le 0 0 (gc_le zc23) p20 (jv_k (x := 0) 0 (by decide)) (by decide)
                exact J70  
              · have p25 := gn_gt 1 9 (gc_nle zc23) p20 (jv_k (x := 0) 0 (by decide)) (by decide)
                refine g_aload_n cx 0 rfl e_X11_laysOrder_27 ?_
                refine g_get cx cl_X11 fl_X11_86 0 (.ref (ad 26)) e_X11_laysOrder_28 rfl rfl ?_
                refine g_aload_n cx 0 rfl e_X11_laysOrder_31 ?_
                refine g_get cx cl_X11 fl_X11_119 0 (.ref (ad 37)) e_X11_laysOrder_32 rfl rfl ?_
                refine g_iload_n cx 3 rfl e_X11_laysOrder_35 ?_
                refine g_iconst cx 1 (by decide) e_X11_laysOrder_36 ?_
                refine g_isub cx e_X11_laysOrder_37 ?_
                refine g_topi (fun x26 ex26 => ?_)
                have zx26 := jv_sub 0 8 ex26 p25 (jv_k (x := 1) 1 (by decide)) (by decide)
                refine g_iald cx 37 e_X11_laysOrder_38 rfl (jv_ix 10 zx26.2 (by decide)) ?_
                refine g_topi (fun x27 ex27 => ?_)
                have p28 : jv 0 9 x27 := by rw [ex27]; exact g_okR_g oR19 3 rfl (jv_cl 10 zx26.2 (by decide))
                refine g_iald cx 26 e_X11_laysOrder_39 rfl (jv_ix 10 p28 (by decide)) ?_
                refine g_topi (fun x29 ex29 => ?_)
                refine g_aload_n cx 0 rfl e_X11_laysOrder_40 ?_
                refine g_get cx cl_X11 fl_X11_86 0 (.ref (ad 26)) e_X11_laysOrder_41 rfl rfl ?_
                refine g_iload_n cx 2 rfl e_X11_laysOrder_44 ?_
                refine g_iald cx 26 e_X11_laysOrder_45 rfl (jv_ix 10 p7 (by decide)) ?_
                refine g_topi (fun x30 ex30 => ?_)
                refine g_icmp_le cx 70 e_X11_laysOrder_46 (by decide) (fun zc31 => ?_) (fun zc31 => ?_)
                · exact J70  
                · have p32 := gn_lt (-2147483648) 2147483646 (gc_nle zc31) (jv_t x30) (jv_t x29) (by decide)
                  have p33 := gn_gt (-2147483647) 2147483647 (gc_nle zc31) (jv_t x29) (jv_t x30) (by decide)
                  refine g_aload_n cx 0 rfl e_X11_laysOrder_49 ?_
                  refine g_get cx cl_X11 fl_X11_119 0 (.ref (ad 37)) e_X11_laysOrder_50 rfl rfl ?_
                  refine g_iload_n cx 3 rfl e_X11_laysOrder_53 ?_
                  refine g_aload_n cx 0 rfl e_X11_laysOrder_54 ?_
                  refine g_get cx cl_X11 fl_X11_119 0 (.ref (ad 37)) e_X11_laysOrder_55 rfl rfl ?_
                  refine g_iload_n cx 3 rfl e_X11_laysOrder_58 ?_
                  refine g_iconst cx 1 (by decide) e_X11_laysOrder_59 ?_
                  refine g_isub cx e_X11_laysOrder_60 ?_
                  refine g_topi (fun x34 ex34 => ?_)
                  have zx34 := jv_sub 0 8 ex34 p25 (jv_k (x := 1) 1 (by decide)) (by decide)
                  refine g_iald cx 37 e_X11_laysOrder_61 rfl (jv_ix 10 zx34.2 (by decide)) ?_
                  refine g_topi (fun x35 ex35 => ?_)
                  have p36 : jv 0 9 x35 := by rw [ex35]; exact g_okR_g oR19 3 rfl (jv_cl 10 zx34.2 (by decide))
                  refine g_iast cx 37 (wM X ad F (g_u R19 37 (upd (R19 37) (Int32.toNatClampNeg y18) x35))) e_X11_laysOrder_62 rfl (jv_ix 10 p25 (by decide)) rfl ?_
                  obtain ⟨R37, hR37⟩ : ∃ z, z = g_u R19 37 (upd (R19 37) (Int32.toNatClampNeg y18) x35) := ⟨_, rfl⟩
                  rw [← hR37]
                  have oR37 : g_okR LA_wM R37 := by rw [hR37]; exact g_okR_p oR19 p36 rfl
                  have fR37 : g_fr mr_X11_laysOrder R R37 := by rw [hR37]; exact g_fr_r fR19 rfl
                  have wTR37 : WT F R37 := by rw [hR37]; exact WT_r wTR19 rfl
                  have wCR37 : WC F R37 := by rw [hR37]; exact WC_r wCR19 rfl
                  refine g_iload_n cx 3 rfl e_X11_laysOrder_63 ?_
                  refine g_iconst cx 1 (by decide) e_X11_laysOrder_64 ?_
                  refine g_isub cx e_X11_laysOrder_65 ?_
                  refine g_topi (fun x38 ex38 => ?_)
                  have zx38 := jv_sub 0 8 ex38 p25 (jv_k (x := 1) 1 (by decide)) (by decide)
                  refine g_istore_n cx [(3, .int x38), (0, .ref (ad 0)), (1, .int y1), (2, .int y2)] e_X11_laysOrder_66 (by decide) rfl ?_
                  refine g_goto cx 23 e_X11_laysOrder_67 (by decide) ?_
                  refine g_lsub [1, 2, 3, 0] [(0, .ref (ad 0)), (1, .int y1), (2, .int y2), (3, .int x38)] rfl ?_
                  exact ih23 R37 x38 oR37 fR37 wTR37 wCR37 (jv_w zx38.2 (by decide)) (by have q0 := (jv_k (x := 0) 0 (by decide)).1; have q1 := (jv_k (x := 0) 0 (by decide)).2; have q2 := (jv_k (x := 1) 1 (by decide)).1; have q3 := (jv_k (x := 1) 1 (by decide)).2; have q4 := (jv_k (x := 10) 10 (by decide)).1; have q5 := (jv_k (x := 10) 10 (by decide)).2; have q6 := p17.1; have q7 := p17.2; have q8 := zx26.2.1; have q9 := zx26.2.2; have q10 := zx34.2.1; have q11 := zx34.2.2; have q12 := zx38.2.1; have q13 := zx38.2.2; have q14 := p4.1; have q15 := p4.2; have q16 := p25.1; have q17 := p25.2; have q18 := p7.1; have q19 := p7.2; have q20 := zi4_0; have q21 := (gc_nle zc5); have q22 := (gc_ne zc16); have q23 := zi23_0; have q24 := (gc_nle zc23); have q25 := (g_eq0 zx26.1); have q26 := (g_eq0 zx34.1); have q27 := (g_eq0 zx38.1); omega) (OH_step (k := y18) (v := x35) zq23_0 p25 (by have q0 := (jv_k (x := 0) 0 (by decide)).1; have q1 := (jv_k (x := 0) 0 (by decide)).2; have q2 := (jv_k (x := 1) 1 (by decide)).1; have q3 := (jv_k (x := 1) 1 (by decide)).2; have q4 := (jv_k (x := 10) 10 (by decide)).1; have q5 := (jv_k (x := 10) 10 (by decide)).2; have q6 := p17.1; have q7 := p17.2; have q8 := zx26.2.1; have q9 := zx26.2.2; have q10 := zx34.2.1; have q11 := zx34.2.2; have q12 := zx38.2.1; have q13 := zx38.2.2; have q14 := p4.1; have q15 := p4.2; have q16 := p25.1; have q17 := p25.2; have q18 := p7.1; have q19 := p7.2; have q20 := zi4_0; have q21 := (gc_nle zc5); have q22 := (gc_ne zc16); have q23 := zi23_0; have q24 := (gc_nle zc23); have q25 := (g_eq0 zx26.1); have q26 := (g_eq0 zx34.1); have q27 := (g_eq0 zx38.1); omega) (g_eq0 zx38.1) (x := x34) (g_eq0 zx34.1) ex35 (g_ru1 hR37)) (Nat.lt_of_lt_of_le (show (x38.toInt + 2147483648).toNat < (y18.toInt + 2147483648).toNat from by have q0 := (jv_k (x := 0) 0 (by decide)).1; have q1 := (jv_k (x := 0) 0 (by decide)).2; have q2 := (jv_k (x := 1) 1 (by decide)).1; have q3 := (jv_k (x := 1) 1 (by decide)).2; have q4 := (jv_k (x := 10) 10 (by decide)).1; have q5 := (jv_k (x := 10) 10 (by decide)).2; have q6 := p17.1; have q7 := p17.2; have q8 := zx26.2.1; have q9 := zx26.2.2; have q10 := zx34.2.1; have q11 := zx34.2.2; have q12 := zx38.2.1; have q13 := zx38.2.2; have q14 := p4.1; have q15 := p4.2; have q16 := p25.1; have q17 := p25.2; have q18 := p7.1; have q19 := p7.2; have q20 := zi4_0; have q21 := (gc_nle zc5); have q22 := (gc_ne zc16); have q23 := zi23_0; have q24 := (gc_nle zc23); have q25 := (g_eq0 zx26.1); have q26 := (g_eq0 zx34.1); have q27 := (g_eq0 zx38.1); omega) (Nat.le_of_lt_succ hm23))
          refine g_lsub [1, 2, 3, 0] [(0, .ref (ad 0)), (1, .int y1), (2, .int y2), (3, .int y1)] rfl ?_
          exact J23 _ R3 y1 oR3 fR3 wTR3 wCR3 p4 (by have q0 := (jv_k (x := 10) 10 (by decide)).1; have q1 := (jv_k (x := 10) 10 (by decide)).2; have q2 := p4.1; have q3 := p4.2; have q4 := p7.1; have q5 := p7.2; have q6 := zi4_0; have q7 := (gc_nle zc5); omega) (OH_of zq4_0 rfl) (Nat.lt_succ_self _)
        · have p39 := gn_eq 0 0 (gc_eq zc16) pr8 (jv_k (x := 0) 0 (by decide)) (by decide)
          refine g_goto cx 81 e_X11_laysOrder_18 (by decide) ?_
          exact J81 R3 y1 oR3 fR3 wTR3 wCR3 (jv_w p4 (by decide)) (by have q0 := (jv_k (x := 10) 10 (by decide)).1; have q1 := (jv_k (x := 10) 10 (by decide)).2; have q2 := p4.1; have q3 := p4.2; have q4 := p7.1; have q5 := p7.2; have q6 := zi4_0; have q7 := (gc_nle zc5); omega) (zq4_0)
  refine g_lsub [2, 1, 0] [(0, .ref (ad 0)), (1, .int 0), (2, .int 0)] rfl ?_
  exact J4 _ R 0 0 hA (g_fr_rf R) hWT hWC (jv_w (jv_k (x := 0) 0 (by decide)) (by decide)) (jv_w (jv_k (x := 0) 0 (by decide)) (by decide)) (by have q0 := (jv_k (x := 0) 0 (by decide)).1; have q1 := (jv_k (x := 0) 0 (by decide)).2; omega) (OW_0 _ _) (Nat.lt_succ_self _)
theorem e_X11_paceNow_0 : g_dc cX11_paceNow 0 (.aload_n 0) 1 1 := ⟨by decide +kernel, rfl⟩
theorem e_X11_paceNow_1 : g_dc cX11_paceNow 1 (.getfield 325) 3 4 := ⟨by decide +kernel, rfl⟩
theorem e_X11_paceNow_4 : g_dc cX11_paceNow 4 (.aload_n 0) 1 5 := ⟨by decide +kernel, rfl⟩
theorem e_X11_paceNow_5 : g_dc cX11_paceNow 5 (.getfield 309) 3 8 := ⟨by decide +kernel, rfl⟩
theorem e_X11_paceNow_8 : g_dc cX11_paceNow 8 (.if_icmp .ge 15) 3 11 := ⟨by decide +kernel, rfl⟩
theorem e_X11_paceNow_11 : g_dc cX11_paceNow 11 (.aload_n 0) 1 12 := ⟨by decide +kernel, rfl⟩
theorem e_X11_paceNow_12 : g_dc cX11_paceNow 12 (.getfield 83) 3 15 := ⟨by decide +kernel, rfl⟩
theorem e_X11_paceNow_15 : g_dc cX11_paceNow 15 (.aload_n 0) 1 16 := ⟨by decide +kernel, rfl⟩
theorem e_X11_paceNow_16 : g_dc cX11_paceNow 16 (.getfield 325) 3 19 := ⟨by decide +kernel, rfl⟩
theorem e_X11_paceNow_19 : g_dc cX11_paceNow 19 (.iaload) 1 20 := ⟨by decide +kernel, rfl⟩
theorem e_X11_paceNow_20 : g_dc cX11_paceNow 20 (.goto 4) 3 23 := ⟨by decide +kernel, rfl⟩
theorem e_X11_paceNow_23 : g_dc cX11_paceNow 23 (.iconst 0) 1 24 := ⟨by decide +kernel, rfl⟩
theorem e_X11_paceNow_24 : g_dc cX11_paceNow 24 (.ireturn) 1 25 := ⟨by decide +kernel, rfl⟩
set_option maxHeartbeats 4000000 in
set_option maxRecDepth 100000 in
theorem w_X11_paceNow (l : Launch) (X : gX) (ad : Nat → Nat) (F : Nat → Int32) (R : Nat → Nat → Int32) (hI : g_ok LK_wM F) (hA : g_okR LA_wM R) (hWT : WT F R) (hWC : WC F R) : g_Ci l X yX11_paceNow cX11_paceNow 1 (some .int) 1 0 0 [.ref (ad 0)] (wM X ad F R) (fun r w => w = wM X ad F R ∧ jv (-2147483648) 2147483647 r) := by
  refine g_mi (by decide +kernel) (Nat.le_of_ble_eq_true rfl) (fun E cx hret => ?_)
  refine g_aload_n cx 0 rfl e_X11_paceNow_0 ?_
  refine g_get cx cl_X11 fl_X11_325 0 (.int (F 45)) e_X11_paceNow_1 rfl rfl ?_
  refine g_aload_n cx 0 rfl e_X11_paceNow_4 ?_
  refine g_get cx cl_X11 fl_X11_309 0 (.int (F 44)) e_X11_paceNow_5 rfl rfl ?_
  have J24 : ∀ (y1 : Int32), (jv (-2147483648) 2147483647 y1) → G X E 1 0 0 (wM X ad F R) [] 24 [.int y1] := by
    intro y1 py1
    exact hret e_X11_paceNow_24 (Nat.le_of_ble_eq_true rfl) (Nat.le_of_ble_eq_true rfl) rfl ⟨rfl, py1⟩
  refine g_icmp_ge cx 23 e_X11_paceNow_8 (by decide) (fun zc2 => ?_) (fun zc2 => ?_)
  · refine g_iconst cx 0 (by decide) e_X11_paceNow_23 ?_
    refine g_lsub [] [] rfl ?_
    exact J24 0 (jv_w (jv_k (x := 0) 0 (by decide)) (by decide))
  · have p3 := gn_lt 0 59 (gc_nle zc2) (g_ok_g hI 12 rfl) (g_ok_g hI 11 rfl) (by decide)
    have p4 := gn_gt 1 60 (gc_nle zc2) (g_ok_g hI 11 rfl) (g_ok_g hI 12 rfl) (by decide)
    refine g_aload_n cx 0 rfl e_X11_paceNow_11 ?_
    refine g_get cx cl_X11 fl_X11_83 0 (.ref (ad 25)) e_X11_paceNow_12 rfl rfl ?_
    refine g_aload_n cx 0 rfl e_X11_paceNow_15 ?_
    refine g_get cx cl_X11 fl_X11_325 0 (.int (F 45)) e_X11_paceNow_16 rfl rfl ?_
    refine g_iald cx 25 e_X11_paceNow_19 rfl (jv_ix 60 p3 (by decide)) ?_
    refine g_topi (fun x5 ex5 => ?_)
    refine g_goto cx 24 e_X11_paceNow_20 (by decide) ?_
    refine g_lsub [] [] rfl ?_
    exact J24 x5 (jv_t x5)
theorem e_X11_slipsNow_0 : g_dc cX11_slipsNow 0 (.aload_n 0) 1 1 := ⟨by decide +kernel, rfl⟩
theorem e_X11_slipsNow_1 : g_dc cX11_slipsNow 1 (.getfield 325) 3 4 := ⟨by decide +kernel, rfl⟩
theorem e_X11_slipsNow_4 : g_dc cX11_slipsNow 4 (.aload_n 0) 1 5 := ⟨by decide +kernel, rfl⟩
theorem e_X11_slipsNow_5 : g_dc cX11_slipsNow 5 (.getfield 309) 3 8 := ⟨by decide +kernel, rfl⟩
theorem e_X11_slipsNow_8 : g_dc cX11_slipsNow 8 (.if_icmp .lt 5) 3 11 := ⟨by decide +kernel, rfl⟩
theorem e_X11_slipsNow_11 : g_dc cX11_slipsNow 11 (.iconst 0) 1 12 := ⟨by decide +kernel, rfl⟩
theorem e_X11_slipsNow_12 : g_dc cX11_slipsNow 12 (.ireturn) 1 13 := ⟨by decide +kernel, rfl⟩
theorem e_X11_slipsNow_13 : g_dc cX11_slipsNow 13 (.aload_n 0) 1 14 := ⟨by decide +kernel, rfl⟩
theorem e_X11_slipsNow_14 : g_dc cX11_slipsNow 14 (.getfield 318) 3 17 := ⟨by decide +kernel, rfl⟩
theorem e_X11_slipsNow_17 : g_dc cX11_slipsNow 17 (.ifCond .ne 16) 3 20 := ⟨by decide +kernel, rfl⟩
theorem e_X11_slipsNow_20 : g_dc cX11_slipsNow 20 (.aload_n 0) 1 21 := ⟨by decide +kernel, rfl⟩
theorem e_X11_slipsNow_21 : g_dc cX11_slipsNow 21 (.getfield 325) 3 24 := ⟨by decide +kernel, rfl⟩
theorem e_X11_slipsNow_24 : g_dc cX11_slipsNow 24 (.aload_n 0) 1 25 := ⟨by decide +kernel, rfl⟩
theorem e_X11_slipsNow_25 : g_dc cX11_slipsNow 25 (.getfield 322) 3 28 := ⟨by decide +kernel, rfl⟩
theorem e_X11_slipsNow_28 : g_dc cX11_slipsNow 28 (.if_icmp .lt 5) 3 31 := ⟨by decide +kernel, rfl⟩
theorem e_X11_slipsNow_31 : g_dc cX11_slipsNow 31 (.iconst 0) 1 32 := ⟨by decide +kernel, rfl⟩
theorem e_X11_slipsNow_32 : g_dc cX11_slipsNow 32 (.ireturn) 1 33 := ⟨by decide +kernel, rfl⟩
theorem e_X11_slipsNow_33 : g_dc cX11_slipsNow 33 (.aload_n 0) 1 34 := ⟨by decide +kernel, rfl⟩
theorem e_X11_slipsNow_34 : g_dc cX11_slipsNow 34 (.getfield 346) 3 37 := ⟨by decide +kernel, rfl⟩
theorem e_X11_slipsNow_37 : g_dc cX11_slipsNow 37 (.bipush 10) 2 39 := ⟨by decide +kernel, rfl⟩
theorem e_X11_slipsNow_39 : g_dc cX11_slipsNow 39 (.irem) 1 40 := ⟨by decide +kernel, rfl⟩
theorem e_X11_slipsNow_40 : g_dc cX11_slipsNow 40 (.istore_n 1) 1 41 := ⟨by decide +kernel, rfl⟩
theorem e_X11_slipsNow_41 : g_dc cX11_slipsNow 41 (.aload_n 0) 1 42 := ⟨by decide +kernel, rfl⟩
theorem e_X11_slipsNow_42 : g_dc cX11_slipsNow 42 (.getfield 318) 3 45 := ⟨by decide +kernel, rfl⟩
theorem e_X11_slipsNow_45 : g_dc cX11_slipsNow 45 (.ifCond .eq 34) 3 48 := ⟨by decide +kernel, rfl⟩
theorem e_X11_slipsNow_48 : g_dc cX11_slipsNow 48 (.aload_n 0) 1 49 := ⟨by decide +kernel, rfl⟩
theorem e_X11_slipsNow_49 : g_dc cX11_slipsNow 49 (.sipush 25173) 3 52 := ⟨by decide +kernel, rfl⟩
theorem e_X11_slipsNow_52 : g_dc cX11_slipsNow 52 (.aload_n 0) 1 53 := ⟨by decide +kernel, rfl⟩
theorem e_X11_slipsNow_53 : g_dc cX11_slipsNow 53 (.getfield 162) 3 56 := ⟨by decide +kernel, rfl⟩
theorem e_X11_slipsNow_56 : g_dc cX11_slipsNow 56 (.imul) 1 57 := ⟨by decide +kernel, rfl⟩
theorem e_X11_slipsNow_57 : g_dc cX11_slipsNow 57 (.sipush 13849) 3 60 := ⟨by decide +kernel, rfl⟩
theorem e_X11_slipsNow_60 : g_dc cX11_slipsNow 60 (.iadd) 1 61 := ⟨by decide +kernel, rfl⟩
theorem e_X11_slipsNow_61 : g_dc cX11_slipsNow 61 (.ldc_w 349) 3 64 := ⟨by decide +kernel, rfl⟩
theorem e_X11_slipsNow_64 : g_dc cX11_slipsNow 64 (.irem) 1 65 := ⟨by decide +kernel, rfl⟩
theorem e_X11_slipsNow_65 : g_dc cX11_slipsNow 65 (.putfield 162) 3 68 := ⟨by decide +kernel, rfl⟩
theorem e_X11_slipsNow_68 : g_dc cX11_slipsNow 68 (.aload_n 0) 1 69 := ⟨by decide +kernel, rfl⟩
theorem e_X11_slipsNow_69 : g_dc cX11_slipsNow 69 (.getfield 162) 3 72 := ⟨by decide +kernel, rfl⟩
theorem e_X11_slipsNow_72 : g_dc cX11_slipsNow 72 (.bipush 10) 2 74 := ⟨by decide +kernel, rfl⟩
theorem e_X11_slipsNow_74 : g_dc cX11_slipsNow 74 (.irem) 1 75 := ⟨by decide +kernel, rfl⟩
theorem e_X11_slipsNow_75 : g_dc cX11_slipsNow 75 (.istore_n 1) 1 76 := ⟨by decide +kernel, rfl⟩
theorem e_X11_slipsNow_76 : g_dc cX11_slipsNow 76 (.goto 14) 3 79 := ⟨by decide +kernel, rfl⟩
theorem e_X11_slipsNow_79 : g_dc cX11_slipsNow 79 (.aload_n 0) 1 80 := ⟨by decide +kernel, rfl⟩
theorem e_X11_slipsNow_80 : g_dc cX11_slipsNow 80 (.aload_n 0) 1 81 := ⟨by decide +kernel, rfl⟩
theorem e_X11_slipsNow_81 : g_dc cX11_slipsNow 81 (.getfield 346) 3 84 := ⟨by decide +kernel, rfl⟩
theorem e_X11_slipsNow_84 : g_dc cX11_slipsNow 84 (.bipush 10) 2 86 := ⟨by decide +kernel, rfl⟩
theorem e_X11_slipsNow_86 : g_dc cX11_slipsNow 86 (.idiv) 1 87 := ⟨by decide +kernel, rfl⟩
theorem e_X11_slipsNow_87 : g_dc cX11_slipsNow 87 (.putfield 346) 3 90 := ⟨by decide +kernel, rfl⟩
theorem e_X11_slipsNow_90 : g_dc cX11_slipsNow 90 (.iconst 0) 1 91 := ⟨by decide +kernel, rfl⟩
theorem e_X11_slipsNow_91 : g_dc cX11_slipsNow 91 (.istore_n 2) 1 92 := ⟨by decide +kernel, rfl⟩
theorem e_X11_slipsNow_92 : g_dc cX11_slipsNow 92 (.iload_n 2) 1 93 := ⟨by decide +kernel, rfl⟩
theorem e_X11_slipsNow_93 : g_dc cX11_slipsNow 93 (.bipush 12) 2 95 := ⟨by decide +kernel, rfl⟩
theorem e_X11_slipsNow_95 : g_dc cX11_slipsNow 95 (.if_icmp .ge 16) 3 98 := ⟨by decide +kernel, rfl⟩
theorem e_X11_slipsNow_98 : g_dc cX11_slipsNow 98 (.aload_n 0) 1 99 := ⟨by decide +kernel, rfl⟩
theorem e_X11_slipsNow_99 : g_dc cX11_slipsNow 99 (.getfield 80) 3 102 := ⟨by decide +kernel, rfl⟩
theorem e_X11_slipsNow_102 : g_dc cX11_slipsNow 102 (.iload_n 2) 1 103 := ⟨by decide +kernel, rfl⟩
theorem e_X11_slipsNow_103 : g_dc cX11_slipsNow 103 (.iconst 0) 1 104 := ⟨by decide +kernel, rfl⟩
theorem e_X11_slipsNow_104 : g_dc cX11_slipsNow 104 (.iastore) 1 105 := ⟨by decide +kernel, rfl⟩
theorem e_X11_slipsNow_105 : g_dc cX11_slipsNow 105 (.iinc 2 1) 3 108 := ⟨by decide +kernel, rfl⟩
theorem e_X11_slipsNow_108 : g_dc cX11_slipsNow 108 (.goto (-16)) 3 111 := ⟨by decide +kernel, rfl⟩
theorem e_X11_slipsNow_111 : g_dc cX11_slipsNow 111 (.aload_n 0) 1 112 := ⟨by decide +kernel, rfl⟩
theorem e_X11_slipsNow_112 : g_dc cX11_slipsNow 112 (.getfield 80) 3 115 := ⟨by decide +kernel, rfl⟩
theorem e_X11_slipsNow_115 : g_dc cX11_slipsNow 115 (.iconst 0) 1 116 := ⟨by decide +kernel, rfl⟩
theorem e_X11_slipsNow_116 : g_dc cX11_slipsNow 116 (.aload_n 0) 1 117 := ⟨by decide +kernel, rfl⟩
theorem e_X11_slipsNow_117 : g_dc cX11_slipsNow 117 (.getfield 325) 3 120 := ⟨by decide +kernel, rfl⟩
theorem e_X11_slipsNow_120 : g_dc cX11_slipsNow 120 (.iastore) 1 121 := ⟨by decide +kernel, rfl⟩
theorem e_X11_slipsNow_121 : g_dc cX11_slipsNow 121 (.aload_n 0) 1 122 := ⟨by decide +kernel, rfl⟩
theorem e_X11_slipsNow_122 : g_dc cX11_slipsNow 122 (.getfield 80) 3 125 := ⟨by decide +kernel, rfl⟩
theorem e_X11_slipsNow_125 : g_dc cX11_slipsNow 125 (.iconst 1) 1 126 := ⟨by decide +kernel, rfl⟩
theorem e_X11_slipsNow_126 : g_dc cX11_slipsNow 126 (.aload_n 0) 1 127 := ⟨by decide +kernel, rfl⟩
theorem e_X11_slipsNow_127 : g_dc cX11_slipsNow 127 (.invokevirtual 350) 3 130 := ⟨by decide +kernel, rfl⟩
theorem e_X11_slipsNow_130 : g_dc cX11_slipsNow 130 (.iastore) 1 131 := ⟨by decide +kernel, rfl⟩
theorem e_X11_slipsNow_131 : g_dc cX11_slipsNow 131 (.aload_n 0) 1 132 := ⟨by decide +kernel, rfl⟩
theorem e_X11_slipsNow_132 : g_dc cX11_slipsNow 132 (.getfield 80) 3 135 := ⟨by decide +kernel, rfl⟩
theorem e_X11_slipsNow_135 : g_dc cX11_slipsNow 135 (.iconst 2) 1 136 := ⟨by decide +kernel, rfl⟩
theorem e_X11_slipsNow_136 : g_dc cX11_slipsNow 136 (.iload_n 1) 1 137 := ⟨by decide +kernel, rfl⟩
theorem e_X11_slipsNow_137 : g_dc cX11_slipsNow 137 (.iastore) 1 138 := ⟨by decide +kernel, rfl⟩
theorem e_X11_slipsNow_138 : g_dc cX11_slipsNow 138 (.aload_n 0) 1 139 := ⟨by decide +kernel, rfl⟩
theorem e_X11_slipsNow_139 : g_dc cX11_slipsNow 139 (.bipush 104) 2 141 := ⟨by decide +kernel, rfl⟩
theorem e_X11_slipsNow_141 : g_dc cX11_slipsNow 141 (.iconst 0) 1 142 := ⟨by decide +kernel, rfl⟩
theorem e_X11_slipsNow_142 : g_dc cX11_slipsNow 142 (.bipush 40) 2 144 := ⟨by decide +kernel, rfl⟩
theorem e_X11_slipsNow_144 : g_dc cX11_slipsNow 144 (.invokevirtual 353) 3 147 := ⟨by decide +kernel, rfl⟩
theorem e_X11_slipsNow_147 : g_dc cX11_slipsNow 147 (.ireturn) 1 148 := ⟨by decide +kernel, rfl⟩
def md_X11_slipsNow : List Nat := [3, 50]
def mr_X11_slipsNow : List Nat := [23, 24]
set_option maxHeartbeats 4000000 in
set_option maxRecDepth 100000 in
theorem w_X11_slipsNow (l : Launch) (X : gX) (ad : Nat → Nat) (F : Nat → Int32) (R : Nat → Nat → Int32) (hI : g_ok LK_wM F) (hA : g_okR LA_wM R) (hWT : WT F R) (hWC : WC F R) : g_Ci l X yX11_slipsNow cX11_slipsNow 3 (some .int) 4 0 0 [.ref (ad 0)] (wM X ad F R) (fun r w => ∃ (F' : Nat → Int32) (R' : Nat → Nat → Int32), w = wM X ad F' R' ∧ g_ok LK_wM F' ∧ g_okR LA_wM R' ∧ WT F' R' ∧ WC F' R' ∧ g_fr md_X11_slipsNow F F' ∧ g_fr mr_X11_slipsNow R R' ∧ jv (-2147483648) 2147483647 r) := by
  refine g_mi (by decide +kernel) (Nat.le_of_ble_eq_true rfl) (fun E cx hret => ?_)
  refine g_aload_n cx 0 rfl e_X11_slipsNow_0 ?_
  refine g_get cx cl_X11 fl_X11_325 0 (.int (F 45)) e_X11_slipsNow_1 rfl rfl ?_
  refine g_aload_n cx 0 rfl e_X11_slipsNow_4 ?_
  refine g_get cx cl_X11 fl_X11_309 0 (.int (F 44)) e_X11_slipsNow_5 rfl rfl ?_
  refine g_icmp_lt cx 13 e_X11_slipsNow_8 (by decide) (fun zc1 => ?_) (fun zc1 => ?_)
  · have p2 := gn_lt 0 59 (gc_lt zc1) (g_ok_g hI 12 rfl) (g_ok_g hI 11 rfl) (by decide)
    have p3 := gn_gt 1 60 (gc_lt zc1) (g_ok_g hI 11 rfl) (g_ok_g hI 12 rfl) (by decide)
    refine g_aload_n cx 0 rfl e_X11_slipsNow_13 ?_
    refine g_get cx cl_X11 fl_X11_318 0 (.int (F 51)) e_X11_slipsNow_14 rfl rfl ?_
    have J33 : G X E 3 0 0 (wM X ad F R) [(0, .ref (ad 0))] 33 [] := by
      refine g_aload_n cx 0 rfl e_X11_slipsNow_33 ?_
      refine g_get cx cl_X11 fl_X11_346 0 (.int (F 50)) e_X11_slipsNow_34 rfl rfl ?_
      refine g_bipush cx 10 (by decide) e_X11_slipsNow_37 ?_
      refine g_irem cx (by decide) e_X11_slipsNow_39 ?_
      refine g_topi (fun x4 ex4 => ?_)
      refine g_istore_n cx [(1, .int x4), (0, .ref (ad 0))] e_X11_slipsNow_40 (by decide) rfl ?_
      refine g_aload_n cx 1 rfl e_X11_slipsNow_41 ?_
      refine g_get cx cl_X11 fl_X11_318 0 (.int (F 51)) e_X11_slipsNow_42 rfl rfl ?_
      have J90 : ∀ (F6 : Nat → Int32) (y5 : Int32), (g_ok LK_wM F6) → (g_fr md_X11_slipsNow F F6) → (WT F6 R) → (WC F6 R) → (jv (-2147483648) 2147483647 y5) → G X E 3 0 0 (wM X ad F6 R) [(0, .ref (ad 0)), (1, .int y5)] 90 [] := by
        intro F6 y5 oF6 fF6 wTF6 wCF6 py5
        refine g_iconst cx 0 (by decide) e_X11_slipsNow_90 ?_
        refine g_istore_n cx [(2, .int 0), (0, .ref (ad 0)), (1, .int y5)] e_X11_slipsNow_91 (by decide) rfl ?_
        have J92 : ∀ (N : Nat) (R8 : Nat → Nat → Int32) (y7 : Int32), (g_okR LA_wM R8) → (g_fr mr_X11_slipsNow R R8) → (WT F6 R8) → (WC F6 R8) → (jv 0 12 y7) → (2147483647 - y7.toInt).toNat < N → G X E 3 0 0 (wM X ad F6 R8) [(0, .ref (ad 0)), (1, .int y5), (2, .int y7)] 92 [] := by
          intro N
          induction N with
          | zero => intro R8 y7 oR8 fR8 wTR8 wCR8 py7 hm; exact absurd hm (Nat.not_lt_zero _)
          | succ N ih92 =>
            intro R8 y7 oR8 fR8 wTR8 wCR8 py7 hm92
            refine g_iload_n cx 2 rfl e_X11_slipsNow_92 ?_
            refine g_bipush cx 12 (by decide) e_X11_slipsNow_93 ?_
            refine g_icmp_ge cx 111 e_X11_slipsNow_95 (by decide) (fun zc9 => ?_) (fun zc9 => ?_)
            · have p10 := gn_ge 12 12 (gc_le zc9) py7 (jv_k (x := 12) 12 (by decide)) (by decide)
              refine g_aload_n cx 0 rfl e_X11_slipsNow_111 ?_
              refine g_get cx cl_X11 fl_X11_80 0 (.ref (ad 24)) e_X11_slipsNow_112 rfl rfl ?_
              refine g_iconst cx 0 (by decide) e_X11_slipsNow_115 ?_
              refine g_aload_n cx 0 rfl e_X11_slipsNow_116 ?_
              refine g_get cx cl_X11 fl_X11_325 0 (.int (F6 45)) e_X11_slipsNow_117 rfl rfl ?_
              refine g_toi (F 45) (fF6 45 rfl) ?_
              refine g_iast cx 24 (wM X ad F6 (g_u R8 24 (upd (R8 24) 0 (F 45)))) e_X11_slipsNow_120 rfl (jv_ix 12 (jv_k (x := 0) 0 (by decide)) (by decide)) rfl ?_
              obtain ⟨R11, hR11⟩ : ∃ z, z = g_u R8 24 (upd (R8 24) 0 (F 45)) := ⟨_, rfl⟩
              rw [← hR11]
              have oR11 : g_okR LA_wM R11 := by rw [hR11]; exact g_okR_u oR8 rfl
              have fR11 : g_fr mr_X11_slipsNow R R11 := by rw [hR11]; exact g_fr_r fR8 rfl
              have wTR11 : WT F6 R11 := by rw [hR11]; exact WT_r wTR8 rfl
              have wCR11 : WC F6 R11 := by rw [hR11]; exact WC_r wCR8 rfl
              refine g_aload_n cx 0 rfl e_X11_slipsNow_121 ?_
              refine g_get cx cl_X11 fl_X11_80 0 (.ref (ad 24)) e_X11_slipsNow_122 rfl rfl ?_
              refine g_iconst cx 1 (by decide) e_X11_slipsNow_125 ?_
              refine g_aload_n cx 0 rfl e_X11_slipsNow_126 ?_
              refine g_cViW cx [] [.int 1, .ref (ad 24)] (w_X11_paceNow l X ad F6 R11 oF6 oR11 wTR11 wCR11) ml_X11_350 yV_X11_paceNow e_X11_slipsNow_127 (by unfold g_rr; decide) (by decide) 0 rfl rfl rfl (Nat.le_of_ble_eq_true rfl) (fun r12 w13 h14 => ?_)
              obtain ⟨rfl, pr12⟩ := h14
              refine g_iast cx 24 (wM X ad F6 (g_u R11 24 (upd (R11 24) 1 r12))) e_X11_slipsNow_130 rfl (jv_ix 12 (jv_k (x := 1) 1 (by decide)) (by decide)) rfl ?_
              obtain ⟨R15, hR15⟩ : ∃ z, z = g_u R11 24 (upd (R11 24) 1 r12) := ⟨_, rfl⟩
              rw [← hR15]
              have oR15 : g_okR LA_wM R15 := by rw [hR15]; exact g_okR_u oR11 rfl
              have fR15 : g_fr mr_X11_slipsNow R R15 := by rw [hR15]; exact g_fr_r fR11 rfl
              have wTR15 : WT F6 R15 := by rw [hR15]; exact WT_r wTR11 rfl
              have wCR15 : WC F6 R15 := by rw [hR15]; exact WC_r wCR11 rfl
              refine g_aload_n cx 0 rfl e_X11_slipsNow_131 ?_
              refine g_get cx cl_X11 fl_X11_80 0 (.ref (ad 24)) e_X11_slipsNow_132 rfl rfl ?_
              refine g_iconst cx 2 (by decide) e_X11_slipsNow_135 ?_
              refine g_iload_n cx 1 rfl e_X11_slipsNow_136 ?_
              refine g_iast cx 24 (wM X ad F6 (g_u R15 24 (upd (R15 24) 2 y5))) e_X11_slipsNow_137 rfl (jv_ix 12 (jv_k (x := 2) 2 (by decide)) (by decide)) rfl ?_
              obtain ⟨R16, hR16⟩ : ∃ z, z = g_u R15 24 (upd (R15 24) 2 y5) := ⟨_, rfl⟩
              rw [← hR16]
              have oR16 : g_okR LA_wM R16 := by rw [hR16]; exact g_okR_u oR15 rfl
              have fR16 : g_fr mr_X11_slipsNow R R16 := by rw [hR16]; exact g_fr_r fR15 rfl
              have wTR16 : WT F6 R16 := by rw [hR16]; exact WT_r wTR15 rfl
              have wCR16 : WC F6 R16 := by rw [hR16]; exact WC_r wCR15 rfl
              refine g_aload_n cx 0 rfl e_X11_slipsNow_138 ?_
              refine g_bipush cx 104 (by decide) e_X11_slipsNow_139 ?_
              refine g_iconst cx 0 (by decide) e_X11_slipsNow_141 ?_
              refine g_bipush cx 40 (by decide) e_X11_slipsNow_142 ?_
              refine g_cViW cx [.int 104, .int 0, .int 40] [] (w_X11_byLaw l X ad F6 R16 oF6 oR16 wTR16 wCR16 104 0 40) ml_X11_353 yV_X11_byLaw e_X11_slipsNow_144 (by unfold g_rr; decide) (by decide) 0 rfl rfl rfl (Nat.le_of_ble_eq_true rfl) (fun r17 w18 h19 => ?_)
              obtain ⟨F20, R21, rfl, oF20, oR21, wTF20, wCF20, cF20, cR21, pr17⟩ := h19
              have fF20 : g_fr md_X11_slipsNow F F20 := g_fr_c fF6 cF20 rfl
              have fR21 : g_fr mr_X11_slipsNow R R21 := g_fr_c fR16 cR21 rfl
              exact hret e_X11_slipsNow_147 (Nat.le_of_ble_eq_true rfl) (Nat.le_of_ble_eq_true rfl) rfl ⟨F20, R21, rfl, oF20, oR21, wTF20, wCF20, fF20, fR21, pr17⟩
            · have p22 := gn_lt 0 11 (gc_nle zc9) py7 (jv_k (x := 12) 12 (by decide)) (by decide)
              refine g_aload_n cx 0 rfl e_X11_slipsNow_98 ?_
              refine g_get cx cl_X11 fl_X11_80 0 (.ref (ad 24)) e_X11_slipsNow_99 rfl rfl ?_
              refine g_iload_n cx 2 rfl e_X11_slipsNow_102 ?_
              refine g_iconst cx 0 (by decide) e_X11_slipsNow_103 ?_
              refine g_iast cx 24 (wM X ad F6 (g_u R8 24 (upd (R8 24) (Int32.toNatClampNeg y7) 0))) e_X11_slipsNow_104 rfl (jv_ix 12 p22 (by decide)) rfl ?_
              obtain ⟨R23, hR23⟩ : ∃ z, z = g_u R8 24 (upd (R8 24) (Int32.toNatClampNeg y7) 0) := ⟨_, rfl⟩
              rw [← hR23]
              have oR23 : g_okR LA_wM R23 := by rw [hR23]; exact g_okR_u oR8 rfl
              have fR23 : g_fr mr_X11_slipsNow R R23 := by rw [hR23]; exact g_fr_r fR8 rfl
              have wTR23 : WT F6 R23 := by rw [hR23]; exact WT_r wTR8 rfl
              have wCR23 : WC F6 R23 := by rw [hR23]; exact WC_r wCR8 rfl
              obtain ⟨x24, ex24⟩ : ∃ z : Int32, z = y7 + Int32.ofInt 1 := ⟨_, rfl⟩
              refine g_iinc cx x24 [(2, .int x24), (0, .ref (ad 0)), (1, .int y5)] 2 e_X11_slipsNow_105 rfl ex24.symm (by decide) rfl ?_
              have zx24 := jv_add 1 12 (show x24 = y7 + 1 from ex24) p22 (jv_k (x := 1) 1 (by decide)) (by decide)
              refine g_goto cx 92 e_X11_slipsNow_108 (by decide) ?_
              refine g_lsub [1, 2, 0] [(0, .ref (ad 0)), (1, .int y5), (2, .int x24)] rfl ?_
              exact ih92 R23 x24 oR23 fR23 wTR23 wCR23 (jv_w zx24.2 (by decide)) (Nat.lt_of_lt_of_le (show (2147483647 - x24.toInt).toNat < (2147483647 - y7.toInt).toNat from by have q0 := (jv_k (x := 1) 1 (by decide)).1; have q1 := (jv_k (x := 1) 1 (by decide)).2; have q2 := (jv_k (x := 12) 12 (by decide)).1; have q3 := (jv_k (x := 12) 12 (by decide)).2; have q4 := zx24.2.1; have q5 := zx24.2.2; have q6 := p22.1; have q7 := p22.2; have q8 := (gc_nle zc9); have q9 := (g_eq0 zx24.1); omega) (Nat.le_of_lt_succ hm92))
        refine g_lsub [1, 2, 0] [(0, .ref (ad 0)), (1, .int y5), (2, .int 0)] rfl ?_
        exact J92 _ R 0 hA (g_fr_rf R) wTF6 wCF6 (jv_w (jv_k (x := 0) 0 (by decide)) (by decide)) (Nat.lt_succ_self _)
      refine g_if_eq cx 79 e_X11_slipsNow_45 (by decide) (fun zc25 => ?_) (fun zc25 => ?_)
      · have p26 := gn_eq 0 0 (gc_eq zc25) (g_ok_g hI 13 rfl) (jv_k (x := 0) 0 (by decide)) (by decide)
        refine g_aload_n cx 1 rfl e_X11_slipsNow_79 ?_
        refine g_aload_n cx 1 rfl e_X11_slipsNow_80 ?_
        refine g_get cx cl_X11 fl_X11_346 0 (.int (F 50)) e_X11_slipsNow_81 rfl rfl ?_
        refine g_bipush cx 10 (by decide) e_X11_slipsNow_84 ?_
        refine g_idiv cx (by decide) e_X11_slipsNow_86 ?_
        refine g_topi (fun x27 ex27 => ?_)
        refine g_put cx cl_X11 fl_X11_346 0 (wM X ad (upd F 50 x27) R) e_X11_slipsNow_87 rfl rfl rfl rfl (Nat.le_of_ble_eq_true rfl) rfl ?_
        obtain ⟨F28, hF28⟩ : ∃ z, z = upd F 50 x27 := ⟨_, rfl⟩
        rw [← hF28]
        have oF28 : g_ok LK_wM F28 := by rw [hF28]; exact g_ok_u hI rfl
        have fF28 : g_fr md_X11_slipsNow F F28 := by rw [hF28]; exact g_fr_u (g_fr_rf F) rfl
        have wTF28 : WT F28 R := by rw [hF28]; exact WT_u hWT rfl
        have wCF28 : WC F28 R := by rw [hF28]; exact WC_u hWC rfl
        refine g_lsub [1, 0] [(0, .ref (ad 0)), (1, .int x4)] rfl ?_
        exact J90 F28 x4 oF28 fF28 wTF28 wCF28 (jv_t x4)
      · have p29 := gn_neL 1 1 (gc_ne zc25) (g_ok_g hI 13 rfl) (jv_k (x := 0) 0 (by decide)) (by decide)
        refine g_aload_n cx 1 rfl e_X11_slipsNow_48 ?_
        refine g_sipush cx 25173 (by decide) e_X11_slipsNow_49 ?_
        refine g_aload_n cx 1 rfl e_X11_slipsNow_52 ?_
        refine g_get cx cl_X11 fl_X11_162 0 (.int (F 3)) e_X11_slipsNow_53 rfl rfl ?_
        refine g_imul cx e_X11_slipsNow_56 ?_
        refine g_topi (fun x30 ex30 => ?_)
        refine g_sipush cx 13849 (by decide) e_X11_slipsNow_57 ?_
        refine g_iadd cx e_X11_slipsNow_60 ?_
        refine g_topi (fun x31 ex31 => ?_)
        refine g_ldcw cx 65536 kc_X11_349 e_X11_slipsNow_61 ?_
        refine g_irem cx (by decide) e_X11_slipsNow_64 ?_
        refine g_topi (fun x32 ex32 => ?_)
        refine g_put cx cl_X11 fl_X11_162 0 (wM X ad (upd F 3 x32) R) e_X11_slipsNow_65 rfl rfl rfl rfl (Nat.le_of_ble_eq_true rfl) rfl ?_
        obtain ⟨F33, hF33⟩ : ∃ z, z = upd F 3 x32 := ⟨_, rfl⟩
        rw [← hF33]
        have oF33 : g_ok LK_wM F33 := by rw [hF33]; exact g_ok_u hI rfl
        have fF33 : g_fr md_X11_slipsNow F F33 := by rw [hF33]; exact g_fr_u (g_fr_rf F) rfl
        have wTF33 : WT F33 R := by rw [hF33]; exact WT_u hWT rfl
        have wCF33 : WC F33 R := by rw [hF33]; exact WC_u hWC rfl
        refine g_aload_n cx 1 rfl e_X11_slipsNow_68 ?_
        refine g_get cx cl_X11 fl_X11_162 0 (.int (F33 3)) e_X11_slipsNow_69 rfl rfl ?_
        refine g_toi x32 (g_pu1 hF33) ?_
        refine g_bipush cx 10 (by decide) e_X11_slipsNow_72 ?_
        refine g_irem cx (by decide) e_X11_slipsNow_74 ?_
        refine g_topi (fun x34 ex34 => ?_)
        refine g_istore_n cx [(1, .int x34), (0, .ref (ad 0))] e_X11_slipsNow_75 (by decide) rfl ?_
        refine g_goto cx 90 e_X11_slipsNow_76 (by decide) ?_
        refine g_lsub [1, 0] [(0, .ref (ad 0)), (1, .int x34)] rfl ?_
        exact J90 F33 x34 oF33 fF33 wTF33 wCF33 (jv_t x34)
    refine g_if_ne cx 33 e_X11_slipsNow_17 (by decide) (fun zc35 => ?_) (fun zc35 => ?_)
    · have p36 := gn_neL 1 1 (gc_ne zc35) (g_ok_g hI 13 rfl) (jv_k (x := 0) 0 (by decide)) (by decide)
      exact J33  
    · have p37 := gn_eq 0 0 (gc_eq zc35) (g_ok_g hI 13 rfl) (jv_k (x := 0) 0 (by decide)) (by decide)
      refine g_aload_n cx 0 rfl e_X11_slipsNow_20 ?_
      refine g_get cx cl_X11 fl_X11_325 0 (.int (F 45)) e_X11_slipsNow_21 rfl rfl ?_
      refine g_aload_n cx 0 rfl e_X11_slipsNow_24 ?_
      refine g_get cx cl_X11 fl_X11_322 0 (.int (F 49)) e_X11_slipsNow_25 rfl rfl ?_
      refine g_icmp_lt cx 33 e_X11_slipsNow_28 (by decide) (fun zc38 => ?_) (fun zc38 => ?_)
      · have p39 := gn_gt 1 2147483647 (gc_lt zc38) (jv_t (F 49)) p2 (by decide)
        exact J33  
      · have p40 := gn_le (-2147483648) 59 (gc_nlt zc38) (jv_t (F 49)) p2 (by decide)
        refine g_iconst cx 0 (by decide) e_X11_slipsNow_31 ?_
        exact hret e_X11_slipsNow_32 (Nat.le_of_ble_eq_true rfl) (Nat.le_of_ble_eq_true rfl) rfl ⟨F, R, rfl, hI, hA, hWT, hWC, (g_fr_rf F), (g_fr_rf R), (jv_w (jv_k (x := 0) 0 (by decide)) (by decide))⟩
  · refine g_iconst cx 0 (by decide) e_X11_slipsNow_11 ?_
    exact hret e_X11_slipsNow_12 (Nat.le_of_ble_eq_true rfl) (Nat.le_of_ble_eq_true rfl) rfl ⟨F, R, rfl, hI, hA, hWT, hWC, (g_fr_rf F), (g_fr_rf R), (jv_w (jv_k (x := 0) 0 (by decide)) (by decide))⟩
theorem e_X11_max_0 : g_dc cX11_max 0 (.iload_n 0) 1 1 := ⟨by decide +kernel, rfl⟩
theorem e_X11_max_1 : g_dc cX11_max 1 (.iload_n 1) 1 2 := ⟨by decide +kernel, rfl⟩
theorem e_X11_max_2 : g_dc cX11_max 2 (.if_icmp .le 7) 3 5 := ⟨by decide +kernel, rfl⟩
theorem e_X11_max_5 : g_dc cX11_max 5 (.iload_n 0) 1 6 := ⟨by decide +kernel, rfl⟩
theorem e_X11_max_6 : g_dc cX11_max 6 (.goto 4) 3 9 := ⟨by decide +kernel, rfl⟩
theorem e_X11_max_9 : g_dc cX11_max 9 (.iload_n 1) 1 10 := ⟨by decide +kernel, rfl⟩
theorem e_X11_max_10 : g_dc cX11_max 10 (.ireturn) 1 11 := ⟨by decide +kernel, rfl⟩
set_option maxHeartbeats 4000000 in
set_option maxRecDepth 100000 in
theorem w_X11_max (l : Launch) (X : gX) (ad : Nat → Nat) (F : Nat → Int32) (R : Nat → Nat → Int32) (hI : g_ok LK_wM F) (hA : g_okR LA_wM R) (a0 : Int32) (a1 : Int32) : g_Ci l X yX11_max cX11_max 2 (some .int) 1 0 0 [.int a0, .int a1] (wM X ad F R) (fun r w => w = wM X ad F R ∧ jv (-2147483648) 2147483647 r) := by
  refine g_mi (by decide +kernel) (Nat.le_of_ble_eq_true rfl) (fun E cx hret => ?_)
  refine g_iload_n cx 0 rfl e_X11_max_0 ?_
  refine g_iload_n cx 1 rfl e_X11_max_1 ?_
  have J10 : ∀ (y1 : Int32), (jv (-2147483648) 2147483647 y1) → G X E 2 0 0 (wM X ad F R) [] 10 [.int y1] := by
    intro y1 py1
    exact hret e_X11_max_10 (Nat.le_of_ble_eq_true rfl) (Nat.le_of_ble_eq_true rfl) rfl ⟨rfl, py1⟩
  refine g_icmp_le cx 9 e_X11_max_2 (by decide) (fun zc2 => ?_) (fun zc2 => ?_)
  · refine g_iload_n cx 1 rfl e_X11_max_9 ?_
    refine g_lsub [] [] rfl ?_
    exact J10 a1 (jv_t a1)
  · have p3 := gn_lt (-2147483648) 2147483646 (gc_nle zc2) (jv_t a1) (jv_t a0) (by decide)
    have p4 := gn_gt (-2147483647) 2147483647 (gc_nle zc2) (jv_t a0) (jv_t a1) (by decide)
    refine g_iload_n cx 0 rfl e_X11_max_5 ?_
    refine g_goto cx 10 e_X11_max_6 (by decide) ?_
    refine g_lsub [] [] rfl ?_
    exact J10 a0 (jv_w p4 (by decide))
theorem e_X11_feels_0 : g_dc cX11_feels 0 (.aload_n 0) 1 1 := ⟨by decide +kernel, rfl⟩
theorem e_X11_feels_1 : g_dc cX11_feels 1 (.getfield 80) 3 4 := ⟨by decide +kernel, rfl⟩
theorem e_X11_feels_4 : g_dc cX11_feels 4 (.iconst 0) 1 5 := ⟨by decide +kernel, rfl⟩
theorem e_X11_feels_5 : g_dc cX11_feels 5 (.aload_n 0) 1 6 := ⟨by decide +kernel, rfl⟩
theorem e_X11_feels_6 : g_dc cX11_feels 6 (.getfield 325) 3 9 := ⟨by decide +kernel, rfl⟩
theorem e_X11_feels_9 : g_dc cX11_feels 9 (.iastore) 1 10 := ⟨by decide +kernel, rfl⟩
theorem e_X11_feels_10 : g_dc cX11_feels 10 (.aload_n 0) 1 11 := ⟨by decide +kernel, rfl⟩
theorem e_X11_feels_11 : g_dc cX11_feels 11 (.getfield 80) 3 14 := ⟨by decide +kernel, rfl⟩
theorem e_X11_feels_14 : g_dc cX11_feels 14 (.iconst 1) 1 15 := ⟨by decide +kernel, rfl⟩
theorem e_X11_feels_15 : g_dc cX11_feels 15 (.aload_n 0) 1 16 := ⟨by decide +kernel, rfl⟩
theorem e_X11_feels_16 : g_dc cX11_feels 16 (.invokevirtual 350) 3 19 := ⟨by decide +kernel, rfl⟩
theorem e_X11_feels_19 : g_dc cX11_feels 19 (.iastore) 1 20 := ⟨by decide +kernel, rfl⟩
theorem e_X11_feels_20 : g_dc cX11_feels 20 (.aload_n 0) 1 21 := ⟨by decide +kernel, rfl⟩
theorem e_X11_feels_21 : g_dc cX11_feels 21 (.getfield 80) 3 24 := ⟨by decide +kernel, rfl⟩
theorem e_X11_feels_24 : g_dc cX11_feels 24 (.iconst 2) 1 25 := ⟨by decide +kernel, rfl⟩
theorem e_X11_feels_25 : g_dc cX11_feels 25 (.iconst 0) 1 26 := ⟨by decide +kernel, rfl⟩
theorem e_X11_feels_26 : g_dc cX11_feels 26 (.iastore) 1 27 := ⟨by decide +kernel, rfl⟩
theorem e_X11_feels_27 : g_dc cX11_feels 27 (.aload_n 0) 1 28 := ⟨by decide +kernel, rfl⟩
theorem e_X11_feels_28 : g_dc cX11_feels 28 (.getfield 80) 3 31 := ⟨by decide +kernel, rfl⟩
theorem e_X11_feels_31 : g_dc cX11_feels 31 (.iconst 3) 1 32 := ⟨by decide +kernel, rfl⟩
theorem e_X11_feels_32 : g_dc cX11_feels 32 (.iload_n 1) 1 33 := ⟨by decide +kernel, rfl⟩
theorem e_X11_feels_33 : g_dc cX11_feels 33 (.iastore) 1 34 := ⟨by decide +kernel, rfl⟩
theorem e_X11_feels_34 : g_dc cX11_feels 34 (.aload_n 0) 1 35 := ⟨by decide +kernel, rfl⟩
theorem e_X11_feels_35 : g_dc cX11_feels 35 (.getfield 80) 3 38 := ⟨by decide +kernel, rfl⟩
theorem e_X11_feels_38 : g_dc cX11_feels 38 (.iconst 4) 1 39 := ⟨by decide +kernel, rfl⟩
theorem e_X11_feels_39 : g_dc cX11_feels 39 (.aload_n 0) 1 40 := ⟨by decide +kernel, rfl⟩
theorem e_X11_feels_40 : g_dc cX11_feels 40 (.getfield 7) 3 43 := ⟨by decide +kernel, rfl⟩
theorem e_X11_feels_43 : g_dc cX11_feels 43 (.iload_n 1) 1 44 := ⟨by decide +kernel, rfl⟩
theorem e_X11_feels_44 : g_dc cX11_feels 44 (.iaload) 1 45 := ⟨by decide +kernel, rfl⟩
theorem e_X11_feels_45 : g_dc cX11_feels 45 (.iastore) 1 46 := ⟨by decide +kernel, rfl⟩
theorem e_X11_feels_46 : g_dc cX11_feels 46 (.aload_n 0) 1 47 := ⟨by decide +kernel, rfl⟩
theorem e_X11_feels_47 : g_dc cX11_feels 47 (.getfield 80) 3 50 := ⟨by decide +kernel, rfl⟩
theorem e_X11_feels_50 : g_dc cX11_feels 50 (.iconst 5) 1 51 := ⟨by decide +kernel, rfl⟩
theorem e_X11_feels_51 : g_dc cX11_feels 51 (.aload_n 0) 1 52 := ⟨by decide +kernel, rfl⟩
theorem e_X11_feels_52 : g_dc cX11_feels 52 (.getfield 86) 3 55 := ⟨by decide +kernel, rfl⟩
theorem e_X11_feels_55 : g_dc cX11_feels 55 (.iload_n 1) 1 56 := ⟨by decide +kernel, rfl⟩
theorem e_X11_feels_56 : g_dc cX11_feels 56 (.iaload) 1 57 := ⟨by decide +kernel, rfl⟩
theorem e_X11_feels_57 : g_dc cX11_feels 57 (.iastore) 1 58 := ⟨by decide +kernel, rfl⟩
theorem e_X11_feels_58 : g_dc cX11_feels 58 (.aload_n 0) 1 59 := ⟨by decide +kernel, rfl⟩
theorem e_X11_feels_59 : g_dc cX11_feels 59 (.getfield 80) 3 62 := ⟨by decide +kernel, rfl⟩
theorem e_X11_feels_62 : g_dc cX11_feels 62 (.bipush 6) 2 64 := ⟨by decide +kernel, rfl⟩
theorem e_X11_feels_64 : g_dc cX11_feels 64 (.aload_n 0) 1 65 := ⟨by decide +kernel, rfl⟩
theorem e_X11_feels_65 : g_dc cX11_feels 65 (.getfield 16) 3 68 := ⟨by decide +kernel, rfl⟩
theorem e_X11_feels_68 : g_dc cX11_feels 68 (.iload_n 1) 1 69 := ⟨by decide +kernel, rfl⟩
theorem e_X11_feels_69 : g_dc cX11_feels 69 (.iaload) 1 70 := ⟨by decide +kernel, rfl⟩
theorem e_X11_feels_70 : g_dc cX11_feels 70 (.iastore) 1 71 := ⟨by decide +kernel, rfl⟩
theorem e_X11_feels_71 : g_dc cX11_feels 71 (.aload_n 0) 1 72 := ⟨by decide +kernel, rfl⟩
theorem e_X11_feels_72 : g_dc cX11_feels 72 (.getfield 80) 3 75 := ⟨by decide +kernel, rfl⟩
theorem e_X11_feels_75 : g_dc cX11_feels 75 (.bipush 7) 2 77 := ⟨by decide +kernel, rfl⟩
theorem e_X11_feels_77 : g_dc cX11_feels 77 (.aload_n 0) 1 78 := ⟨by decide +kernel, rfl⟩
theorem e_X11_feels_78 : g_dc cX11_feels 78 (.getfield 22) 3 81 := ⟨by decide +kernel, rfl⟩
theorem e_X11_feels_81 : g_dc cX11_feels 81 (.iload_n 1) 1 82 := ⟨by decide +kernel, rfl⟩
theorem e_X11_feels_82 : g_dc cX11_feels 82 (.iaload) 1 83 := ⟨by decide +kernel, rfl⟩
theorem e_X11_feels_83 : g_dc cX11_feels 83 (.iastore) 1 84 := ⟨by decide +kernel, rfl⟩
theorem e_X11_feels_84 : g_dc cX11_feels 84 (.aload_n 0) 1 85 := ⟨by decide +kernel, rfl⟩
theorem e_X11_feels_85 : g_dc cX11_feels 85 (.getfield 80) 3 88 := ⟨by decide +kernel, rfl⟩
theorem e_X11_feels_88 : g_dc cX11_feels 88 (.bipush 8) 2 90 := ⟨by decide +kernel, rfl⟩
theorem e_X11_feels_90 : g_dc cX11_feels 90 (.aload_n 0) 1 91 := ⟨by decide +kernel, rfl⟩
theorem e_X11_feels_91 : g_dc cX11_feels 91 (.getfield 98) 3 94 := ⟨by decide +kernel, rfl⟩
theorem e_X11_feels_94 : g_dc cX11_feels 94 (.iload_n 1) 1 95 := ⟨by decide +kernel, rfl⟩
theorem e_X11_feels_95 : g_dc cX11_feels 95 (.iaload) 1 96 := ⟨by decide +kernel, rfl⟩
theorem e_X11_feels_96 : g_dc cX11_feels 96 (.iastore) 1 97 := ⟨by decide +kernel, rfl⟩
theorem e_X11_feels_97 : g_dc cX11_feels 97 (.aload_n 0) 1 98 := ⟨by decide +kernel, rfl⟩
theorem e_X11_feels_98 : g_dc cX11_feels 98 (.getfield 80) 3 101 := ⟨by decide +kernel, rfl⟩
theorem e_X11_feels_101 : g_dc cX11_feels 101 (.bipush 9) 2 103 := ⟨by decide +kernel, rfl⟩
theorem e_X11_feels_103 : g_dc cX11_feels 103 (.aload_n 0) 1 104 := ⟨by decide +kernel, rfl⟩
theorem e_X11_feels_104 : g_dc cX11_feels 104 (.getfield 95) 3 107 := ⟨by decide +kernel, rfl⟩
theorem e_X11_feels_107 : g_dc cX11_feels 107 (.iload_n 1) 1 108 := ⟨by decide +kernel, rfl⟩
theorem e_X11_feels_108 : g_dc cX11_feels 108 (.iaload) 1 109 := ⟨by decide +kernel, rfl⟩
theorem e_X11_feels_109 : g_dc cX11_feels 109 (.iastore) 1 110 := ⟨by decide +kernel, rfl⟩
theorem e_X11_feels_110 : g_dc cX11_feels 110 (.aload_n 0) 1 111 := ⟨by decide +kernel, rfl⟩
theorem e_X11_feels_111 : g_dc cX11_feels 111 (.getfield 80) 3 114 := ⟨by decide +kernel, rfl⟩
theorem e_X11_feels_114 : g_dc cX11_feels 114 (.bipush 10) 2 116 := ⟨by decide +kernel, rfl⟩
theorem e_X11_feels_116 : g_dc cX11_feels 116 (.aload_n 0) 1 117 := ⟨by decide +kernel, rfl⟩
theorem e_X11_feels_117 : g_dc cX11_feels 117 (.getfield 89) 3 120 := ⟨by decide +kernel, rfl⟩
theorem e_X11_feels_120 : g_dc cX11_feels 120 (.iload_n 1) 1 121 := ⟨by decide +kernel, rfl⟩
theorem e_X11_feels_121 : g_dc cX11_feels 121 (.iaload) 1 122 := ⟨by decide +kernel, rfl⟩
theorem e_X11_feels_122 : g_dc cX11_feels 122 (.iastore) 1 123 := ⟨by decide +kernel, rfl⟩
theorem e_X11_feels_123 : g_dc cX11_feels 123 (.aload_n 0) 1 124 := ⟨by decide +kernel, rfl⟩
theorem e_X11_feels_124 : g_dc cX11_feels 124 (.getfield 80) 3 127 := ⟨by decide +kernel, rfl⟩
theorem e_X11_feels_127 : g_dc cX11_feels 127 (.bipush 11) 2 129 := ⟨by decide +kernel, rfl⟩
theorem e_X11_feels_129 : g_dc cX11_feels 129 (.aload_n 0) 1 130 := ⟨by decide +kernel, rfl⟩
theorem e_X11_feels_130 : g_dc cX11_feels 130 (.getfield 356) 3 133 := ⟨by decide +kernel, rfl⟩
theorem e_X11_feels_133 : g_dc cX11_feels 133 (.iastore) 1 134 := ⟨by decide +kernel, rfl⟩
theorem e_X11_feels_134 : g_dc cX11_feels 134 (.return_) 1 135 := ⟨by decide +kernel, rfl⟩
def md_X11_feels : List Nat := []
def mr_X11_feels : List Nat := [24]
set_option maxHeartbeats 4000000 in
set_option maxRecDepth 100000 in
theorem w_X11_feels (l : Launch) (X : gX) (ad : Nat → Nat) (F : Nat → Int32) (R : Nat → Nat → Int32) (hI : g_ok LK_wM F) (hA : g_okR LA_wM R) (hWT : WT F R) (hWC : WC F R) (a0 : Int32) (pa0 : jv 0 9 a0) : g_Cv l X yX11_feels cX11_feels 2 2 0 0 [.ref (ad 0), .int a0] (wM X ad F R) (fun w => ∃ (F' : Nat → Int32) (R' : Nat → Nat → Int32), w = wM X ad F' R' ∧ g_ok LK_wM F' ∧ g_okR LA_wM R' ∧ WT F' R' ∧ WC F' R' ∧ g_fr md_X11_feels F F' ∧ g_fr mr_X11_feels R R') := by
  refine g_mv (by decide +kernel) (Nat.le_of_ble_eq_true rfl) (fun E cx hret => ?_)
  refine g_aload_n cx 0 rfl e_X11_feels_0 ?_
  refine g_get cx cl_X11 fl_X11_80 0 (.ref (ad 24)) e_X11_feels_1 rfl rfl ?_
  refine g_iconst cx 0 (by decide) e_X11_feels_4 ?_
  refine g_aload_n cx 0 rfl e_X11_feels_5 ?_
  refine g_get cx cl_X11 fl_X11_325 0 (.int (F 45)) e_X11_feels_6 rfl rfl ?_
  refine g_iast cx 24 (wM X ad F (g_u R 24 (upd (R 24) 0 (F 45)))) e_X11_feels_9 rfl (jv_ix 12 (jv_k (x := 0) 0 (by decide)) (by decide)) rfl ?_
  obtain ⟨R1, hR1⟩ : ∃ z, z = g_u R 24 (upd (R 24) 0 (F 45)) := ⟨_, rfl⟩
  rw [← hR1]
  have oR1 : g_okR LA_wM R1 := by rw [hR1]; exact g_okR_u hA rfl
  have fR1 : g_fr mr_X11_feels R R1 := by rw [hR1]; exact g_fr_r (g_fr_rf R) rfl
  have wTR1 : WT F R1 := by rw [hR1]; exact WT_r hWT rfl
  have wCR1 : WC F R1 := by rw [hR1]; exact WC_r hWC rfl
  refine g_aload_n cx 0 rfl e_X11_feels_10 ?_
  refine g_get cx cl_X11 fl_X11_80 0 (.ref (ad 24)) e_X11_feels_11 rfl rfl ?_
  refine g_iconst cx 1 (by decide) e_X11_feels_14 ?_
  refine g_aload_n cx 0 rfl e_X11_feels_15 ?_
  refine g_cViW cx [] [.int 1, .ref (ad 24)] (w_X11_paceNow l X ad F R1 hI oR1 wTR1 wCR1) ml_X11_350 yV_X11_paceNow e_X11_feels_16 (by unfold g_rr; decide) (by decide) 0 rfl rfl rfl (Nat.le_of_ble_eq_true rfl) (fun r2 w3 h4 => ?_)
  obtain ⟨rfl, pr2⟩ := h4
  refine g_iast cx 24 (wM X ad F (g_u R1 24 (upd (R1 24) 1 r2))) e_X11_feels_19 rfl (jv_ix 12 (jv_k (x := 1) 1 (by decide)) (by decide)) rfl ?_
  obtain ⟨R5, hR5⟩ : ∃ z, z = g_u R1 24 (upd (R1 24) 1 r2) := ⟨_, rfl⟩
  rw [← hR5]
  have oR5 : g_okR LA_wM R5 := by rw [hR5]; exact g_okR_u oR1 rfl
  have fR5 : g_fr mr_X11_feels R R5 := by rw [hR5]; exact g_fr_r fR1 rfl
  have wTR5 : WT F R5 := by rw [hR5]; exact WT_r wTR1 rfl
  have wCR5 : WC F R5 := by rw [hR5]; exact WC_r wCR1 rfl
  refine g_aload_n cx 0 rfl e_X11_feels_20 ?_
  refine g_get cx cl_X11 fl_X11_80 0 (.ref (ad 24)) e_X11_feels_21 rfl rfl ?_
  refine g_iconst cx 2 (by decide) e_X11_feels_24 ?_
  refine g_iconst cx 0 (by decide) e_X11_feels_25 ?_
  refine g_iast cx 24 (wM X ad F (g_u R5 24 (upd (R5 24) 2 0))) e_X11_feels_26 rfl (jv_ix 12 (jv_k (x := 2) 2 (by decide)) (by decide)) rfl ?_
  obtain ⟨R6, hR6⟩ : ∃ z, z = g_u R5 24 (upd (R5 24) 2 0) := ⟨_, rfl⟩
  rw [← hR6]
  have oR6 : g_okR LA_wM R6 := by rw [hR6]; exact g_okR_u oR5 rfl
  have fR6 : g_fr mr_X11_feels R R6 := by rw [hR6]; exact g_fr_r fR5 rfl
  have wTR6 : WT F R6 := by rw [hR6]; exact WT_r wTR5 rfl
  have wCR6 : WC F R6 := by rw [hR6]; exact WC_r wCR5 rfl
  refine g_aload_n cx 0 rfl e_X11_feels_27 ?_
  refine g_get cx cl_X11 fl_X11_80 0 (.ref (ad 24)) e_X11_feels_28 rfl rfl ?_
  refine g_iconst cx 3 (by decide) e_X11_feels_31 ?_
  refine g_iload_n cx 1 rfl e_X11_feels_32 ?_
  refine g_iast cx 24 (wM X ad F (g_u R6 24 (upd (R6 24) 3 a0))) e_X11_feels_33 rfl (jv_ix 12 (jv_k (x := 3) 3 (by decide)) (by decide)) rfl ?_
  obtain ⟨R7, hR7⟩ : ∃ z, z = g_u R6 24 (upd (R6 24) 3 a0) := ⟨_, rfl⟩
  rw [← hR7]
  have oR7 : g_okR LA_wM R7 := by rw [hR7]; exact g_okR_u oR6 rfl
  have fR7 : g_fr mr_X11_feels R R7 := by rw [hR7]; exact g_fr_r fR6 rfl
  have wTR7 : WT F R7 := by rw [hR7]; exact WT_r wTR6 rfl
  have wCR7 : WC F R7 := by rw [hR7]; exact WC_r wCR6 rfl
  refine g_aload_n cx 0 rfl e_X11_feels_34 ?_
  refine g_get cx cl_X11 fl_X11_80 0 (.ref (ad 24)) e_X11_feels_35 rfl rfl ?_
  refine g_iconst cx 4 (by decide) e_X11_feels_38 ?_
  refine g_aload_n cx 0 rfl e_X11_feels_39 ?_
  refine g_get cx cl_X11 fl_X11_7 0 (.ref (ad 1)) e_X11_feels_40 rfl rfl ?_
  refine g_iload_n cx 1 rfl e_X11_feels_43 ?_
  refine g_iald cx 1 e_X11_feels_44 rfl (jv_ix 10 pa0 (by decide)) ?_
  refine g_topi (fun x8 ex8 => ?_)
  refine g_iast cx 24 (wM X ad F (g_u R7 24 (upd (R7 24) 4 x8))) e_X11_feels_45 rfl (jv_ix 12 (jv_k (x := 4) 4 (by decide)) (by decide)) rfl ?_
  obtain ⟨R9, hR9⟩ : ∃ z, z = g_u R7 24 (upd (R7 24) 4 x8) := ⟨_, rfl⟩
  rw [← hR9]
  have oR9 : g_okR LA_wM R9 := by rw [hR9]; exact g_okR_u oR7 rfl
  have fR9 : g_fr mr_X11_feels R R9 := by rw [hR9]; exact g_fr_r fR7 rfl
  have wTR9 : WT F R9 := by rw [hR9]; exact WT_r wTR7 rfl
  have wCR9 : WC F R9 := by rw [hR9]; exact WC_r wCR7 rfl
  refine g_aload_n cx 0 rfl e_X11_feels_46 ?_
  refine g_get cx cl_X11 fl_X11_80 0 (.ref (ad 24)) e_X11_feels_47 rfl rfl ?_
  refine g_iconst cx 5 (by decide) e_X11_feels_50 ?_
  refine g_aload_n cx 0 rfl e_X11_feels_51 ?_
  refine g_get cx cl_X11 fl_X11_86 0 (.ref (ad 26)) e_X11_feels_52 rfl rfl ?_
  refine g_iload_n cx 1 rfl e_X11_feels_55 ?_
  refine g_iald cx 26 e_X11_feels_56 rfl (jv_ix 10 pa0 (by decide)) ?_
  refine g_topi (fun x10 ex10 => ?_)
  refine g_iast cx 24 (wM X ad F (g_u R9 24 (upd (R9 24) 5 x10))) e_X11_feels_57 rfl (jv_ix 12 (jv_k (x := 5) 5 (by decide)) (by decide)) rfl ?_
  obtain ⟨R11, hR11⟩ : ∃ z, z = g_u R9 24 (upd (R9 24) 5 x10) := ⟨_, rfl⟩
  rw [← hR11]
  have oR11 : g_okR LA_wM R11 := by rw [hR11]; exact g_okR_u oR9 rfl
  have fR11 : g_fr mr_X11_feels R R11 := by rw [hR11]; exact g_fr_r fR9 rfl
  have wTR11 : WT F R11 := by rw [hR11]; exact WT_r wTR9 rfl
  have wCR11 : WC F R11 := by rw [hR11]; exact WC_r wCR9 rfl
  refine g_aload_n cx 0 rfl e_X11_feels_58 ?_
  refine g_get cx cl_X11 fl_X11_80 0 (.ref (ad 24)) e_X11_feels_59 rfl rfl ?_
  refine g_bipush cx 6 (by decide) e_X11_feels_62 ?_
  refine g_aload_n cx 0 rfl e_X11_feels_64 ?_
  refine g_get cx cl_X11 fl_X11_16 0 (.ref (ad 3)) e_X11_feels_65 rfl rfl ?_
  refine g_iload_n cx 1 rfl e_X11_feels_68 ?_
  refine g_iald cx 3 e_X11_feels_69 rfl (jv_ix 10 pa0 (by decide)) ?_
  refine g_topi (fun x12 ex12 => ?_)
  have p13 : jv 0 40 x12 := by rw [ex12]; exact g_okR_g oR11 6 rfl (jv_cl 10 pa0 (by decide))
  refine g_iast cx 24 (wM X ad F (g_u R11 24 (upd (R11 24) 6 x12))) e_X11_feels_70 rfl (jv_ix 12 (jv_k (x := 6) 6 (by decide)) (by decide)) rfl ?_
  obtain ⟨R14, hR14⟩ : ∃ z, z = g_u R11 24 (upd (R11 24) 6 x12) := ⟨_, rfl⟩
  rw [← hR14]
  have oR14 : g_okR LA_wM R14 := by rw [hR14]; exact g_okR_u oR11 rfl
  have fR14 : g_fr mr_X11_feels R R14 := by rw [hR14]; exact g_fr_r fR11 rfl
  have wTR14 : WT F R14 := by rw [hR14]; exact WT_r wTR11 rfl
  have wCR14 : WC F R14 := by rw [hR14]; exact WC_r wCR11 rfl
  refine g_aload_n cx 0 rfl e_X11_feels_71 ?_
  refine g_get cx cl_X11 fl_X11_80 0 (.ref (ad 24)) e_X11_feels_72 rfl rfl ?_
  refine g_bipush cx 7 (by decide) e_X11_feels_75 ?_
  refine g_aload_n cx 0 rfl e_X11_feels_77 ?_
  refine g_get cx cl_X11 fl_X11_22 0 (.ref (ad 5)) e_X11_feels_78 rfl rfl ?_
  refine g_iload_n cx 1 rfl e_X11_feels_81 ?_
  refine g_iald cx 5 e_X11_feels_82 rfl (jv_ix 10 pa0 (by decide)) ?_
  refine g_topi (fun x15 ex15 => ?_)
  have p16 : jv 0 99 x15 := by rw [ex15]; exact g_okR_g oR14 7 rfl (jv_cl 10 pa0 (by decide))
  refine g_iast cx 24 (wM X ad F (g_u R14 24 (upd (R14 24) 7 x15))) e_X11_feels_83 rfl (jv_ix 12 (jv_k (x := 7) 7 (by decide)) (by decide)) rfl ?_
  obtain ⟨R17, hR17⟩ : ∃ z, z = g_u R14 24 (upd (R14 24) 7 x15) := ⟨_, rfl⟩
  rw [← hR17]
  have oR17 : g_okR LA_wM R17 := by rw [hR17]; exact g_okR_u oR14 rfl
  have fR17 : g_fr mr_X11_feels R R17 := by rw [hR17]; exact g_fr_r fR14 rfl
  have wTR17 : WT F R17 := by rw [hR17]; exact WT_r wTR14 rfl
  have wCR17 : WC F R17 := by rw [hR17]; exact WC_r wCR14 rfl
  refine g_aload_n cx 0 rfl e_X11_feels_84 ?_
  refine g_get cx cl_X11 fl_X11_80 0 (.ref (ad 24)) e_X11_feels_85 rfl rfl ?_
  refine g_bipush cx 8 (by decide) e_X11_feels_88 ?_
  refine g_aload_n cx 0 rfl e_X11_feels_90 ?_
  refine g_get cx cl_X11 fl_X11_98 0 (.ref (ad 30)) e_X11_feels_91 rfl rfl ?_
  refine g_iload_n cx 1 rfl e_X11_feels_94 ?_
  refine g_iald cx 30 e_X11_feels_95 rfl (jv_ix 10 pa0 (by decide)) ?_
  refine g_topi (fun x18 ex18 => ?_)
  refine g_iast cx 24 (wM X ad F (g_u R17 24 (upd (R17 24) 8 x18))) e_X11_feels_96 rfl (jv_ix 12 (jv_k (x := 8) 8 (by decide)) (by decide)) rfl ?_
  obtain ⟨R19, hR19⟩ : ∃ z, z = g_u R17 24 (upd (R17 24) 8 x18) := ⟨_, rfl⟩
  rw [← hR19]
  have oR19 : g_okR LA_wM R19 := by rw [hR19]; exact g_okR_u oR17 rfl
  have fR19 : g_fr mr_X11_feels R R19 := by rw [hR19]; exact g_fr_r fR17 rfl
  have wTR19 : WT F R19 := by rw [hR19]; exact WT_r wTR17 rfl
  have wCR19 : WC F R19 := by rw [hR19]; exact WC_r wCR17 rfl
  refine g_aload_n cx 0 rfl e_X11_feels_97 ?_
  refine g_get cx cl_X11 fl_X11_80 0 (.ref (ad 24)) e_X11_feels_98 rfl rfl ?_
  refine g_bipush cx 9 (by decide) e_X11_feels_101 ?_
  refine g_aload_n cx 0 rfl e_X11_feels_103 ?_
  refine g_get cx cl_X11 fl_X11_95 0 (.ref (ad 29)) e_X11_feels_104 rfl rfl ?_
  refine g_iload_n cx 1 rfl e_X11_feels_107 ?_
  refine g_iald cx 29 e_X11_feels_108 rfl (jv_ix 10 pa0 (by decide)) ?_
  refine g_topi (fun x20 ex20 => ?_)
  refine g_iast cx 24 (wM X ad F (g_u R19 24 (upd (R19 24) 9 x20))) e_X11_feels_109 rfl (jv_ix 12 (jv_k (x := 9) 9 (by decide)) (by decide)) rfl ?_
  obtain ⟨R21, hR21⟩ : ∃ z, z = g_u R19 24 (upd (R19 24) 9 x20) := ⟨_, rfl⟩
  rw [← hR21]
  have oR21 : g_okR LA_wM R21 := by rw [hR21]; exact g_okR_u oR19 rfl
  have fR21 : g_fr mr_X11_feels R R21 := by rw [hR21]; exact g_fr_r fR19 rfl
  have wTR21 : WT F R21 := by rw [hR21]; exact WT_r wTR19 rfl
  have wCR21 : WC F R21 := by rw [hR21]; exact WC_r wCR19 rfl
  refine g_aload_n cx 0 rfl e_X11_feels_110 ?_
  refine g_get cx cl_X11 fl_X11_80 0 (.ref (ad 24)) e_X11_feels_111 rfl rfl ?_
  refine g_bipush cx 10 (by decide) e_X11_feels_114 ?_
  refine g_aload_n cx 0 rfl e_X11_feels_116 ?_
  refine g_get cx cl_X11 fl_X11_89 0 (.ref (ad 27)) e_X11_feels_117 rfl rfl ?_
  refine g_iload_n cx 1 rfl e_X11_feels_120 ?_
  refine g_iald cx 27 e_X11_feels_121 rfl (jv_ix 10 pa0 (by decide)) ?_
  refine g_topi (fun x22 ex22 => ?_)
  refine g_iast cx 24 (wM X ad F (g_u R21 24 (upd (R21 24) 10 x22))) e_X11_feels_122 rfl (jv_ix 12 (jv_k (x := 10) 10 (by decide)) (by decide)) rfl ?_
  obtain ⟨R23, hR23⟩ : ∃ z, z = g_u R21 24 (upd (R21 24) 10 x22) := ⟨_, rfl⟩
  rw [← hR23]
  have oR23 : g_okR LA_wM R23 := by rw [hR23]; exact g_okR_u oR21 rfl
  have fR23 : g_fr mr_X11_feels R R23 := by rw [hR23]; exact g_fr_r fR21 rfl
  have wTR23 : WT F R23 := by rw [hR23]; exact WT_r wTR21 rfl
  have wCR23 : WC F R23 := by rw [hR23]; exact WC_r wCR21 rfl
  refine g_aload_n cx 0 rfl e_X11_feels_123 ?_
  refine g_get cx cl_X11 fl_X11_80 0 (.ref (ad 24)) e_X11_feels_124 rfl rfl ?_
  refine g_bipush cx 11 (by decide) e_X11_feels_127 ?_
  refine g_aload_n cx 0 rfl e_X11_feels_129 ?_
  refine g_get cx cl_X11 fl_X11_356 0 (.int (F 47)) e_X11_feels_130 rfl rfl ?_
  refine g_iast cx 24 (wM X ad F (g_u R23 24 (upd (R23 24) 11 (F 47)))) e_X11_feels_133 rfl (jv_ix 12 (jv_k (x := 11) 11 (by decide)) (by decide)) rfl ?_
  obtain ⟨R24, hR24⟩ : ∃ z, z = g_u R23 24 (upd (R23 24) 11 (F 47)) := ⟨_, rfl⟩
  rw [← hR24]
  have oR24 : g_okR LA_wM R24 := by rw [hR24]; exact g_okR_u oR23 rfl
  have fR24 : g_fr mr_X11_feels R R24 := by rw [hR24]; exact g_fr_r fR23 rfl
  have wTR24 : WT F R24 := by rw [hR24]; exact WT_r wTR23 rfl
  have wCR24 : WC F R24 := by rw [hR24]; exact WC_r wCR23 rfl
  exact hret e_X11_feels_134 (Nat.le_of_ble_eq_true rfl) (Nat.le_of_ble_eq_true rfl) ⟨F, R24, rfl, hI, oR24, wTR24, wCR24, (g_fr_rf F), fR24⟩
theorem e_X11_size_0 : g_dc cX11_size 0 (.iload_n 0) 1 1 := ⟨by decide +kernel, rfl⟩
theorem e_X11_size_1 : g_dc cX11_size 1 (.ifCond .ge 8) 3 4 := ⟨by decide +kernel, rfl⟩
theorem e_X11_size_4 : g_dc cX11_size 4 (.iload_n 0) 1 5 := ⟨by decide +kernel, rfl⟩
theorem e_X11_size_5 : g_dc cX11_size 5 (.ineg) 1 6 := ⟨by decide +kernel, rfl⟩
theorem e_X11_size_6 : g_dc cX11_size 6 (.goto 4) 3 9 := ⟨by decide +kernel, rfl⟩
theorem e_X11_size_9 : g_dc cX11_size 9 (.iload_n 0) 1 10 := ⟨by decide +kernel, rfl⟩
theorem e_X11_size_10 : g_dc cX11_size 10 (.ireturn) 1 11 := ⟨by decide +kernel, rfl⟩
set_option maxHeartbeats 4000000 in
set_option maxRecDepth 100000 in
theorem w_X11_size (l : Launch) (X : gX) (ad : Nat → Nat) (F : Nat → Int32) (R : Nat → Nat → Int32) (hI : g_ok LK_wM F) (hA : g_okR LA_wM R) (a0 : Int32) : g_Ci l X yX11_size cX11_size 1 (some .int) 1 0 0 [.int a0] (wM X ad F R) (fun r w => w = wM X ad F R ∧ jv (-2147483648) 2147483647 r) := by
  refine g_mi (by decide +kernel) (Nat.le_of_ble_eq_true rfl) (fun E cx hret => ?_)
  refine g_iload_n cx 0 rfl e_X11_size_0 ?_
  have J10 : ∀ (y1 : Int32), (jv (-2147483648) 2147483647 y1) → G X E 1 0 0 (wM X ad F R) [] 10 [.int y1] := by
    intro y1 py1
    exact hret e_X11_size_10 (Nat.le_of_ble_eq_true rfl) (Nat.le_of_ble_eq_true rfl) rfl ⟨rfl, py1⟩
  refine g_if_ge cx 9 e_X11_size_1 (by decide) (fun zc2 => ?_) (fun zc2 => ?_)
  · have p3 := gn_ge 0 2147483647 (gc_le zc2) (jv_t a0) (jv_k (x := 0) 0 (by decide)) (by decide)
    refine g_iload_n cx 0 rfl e_X11_size_9 ?_
    refine g_lsub [] [] rfl ?_
    exact J10 a0 (jv_w p3 (by decide))
  · have p4 := gn_lt (-2147483648) (-1) (gc_nle zc2) (jv_t a0) (jv_k (x := 0) 0 (by decide)) (by decide)
    refine g_iload_n cx 0 rfl e_X11_size_4 ?_
    refine g_ineg cx e_X11_size_5 ?_
    refine g_topi (fun x5 ex5 => ?_)
    refine g_goto cx 10 e_X11_size_6 (by decide) ?_
    refine g_lsub [] [] rfl ?_
    exact J10 x5 (jv_t x5)
theorem e_X11_min_0 : g_dc cX11_min 0 (.iload_n 0) 1 1 := ⟨by decide +kernel, rfl⟩
theorem e_X11_min_1 : g_dc cX11_min 1 (.iload_n 1) 1 2 := ⟨by decide +kernel, rfl⟩
theorem e_X11_min_2 : g_dc cX11_min 2 (.if_icmp .ge 7) 3 5 := ⟨by decide +kernel, rfl⟩
theorem e_X11_min_5 : g_dc cX11_min 5 (.iload_n 0) 1 6 := ⟨by decide +kernel, rfl⟩
theorem e_X11_min_6 : g_dc cX11_min 6 (.goto 4) 3 9 := ⟨by decide +kernel, rfl⟩
theorem e_X11_min_9 : g_dc cX11_min 9 (.iload_n 1) 1 10 := ⟨by decide +kernel, rfl⟩
theorem e_X11_min_10 : g_dc cX11_min 10 (.ireturn) 1 11 := ⟨by decide +kernel, rfl⟩
set_option maxHeartbeats 4000000 in
set_option maxRecDepth 100000 in
theorem w_X11_min (l : Launch) (X : gX) (ad : Nat → Nat) (F : Nat → Int32) (R : Nat → Nat → Int32) (hI : g_ok LK_wM F) (hA : g_okR LA_wM R) (a0 : Int32) (a1 : Int32) : g_Ci l X yX11_min cX11_min 2 (some .int) 1 0 0 [.int a0, .int a1] (wM X ad F R) (fun r w => w = wM X ad F R ∧ jv (-2147483648) 2147483647 r) := by
  refine g_mi (by decide +kernel) (Nat.le_of_ble_eq_true rfl) (fun E cx hret => ?_)
  refine g_iload_n cx 0 rfl e_X11_min_0 ?_
  refine g_iload_n cx 1 rfl e_X11_min_1 ?_
  have J10 : ∀ (y1 : Int32), (jv (-2147483648) 2147483647 y1) → G X E 2 0 0 (wM X ad F R) [] 10 [.int y1] := by
    intro y1 py1
    exact hret e_X11_min_10 (Nat.le_of_ble_eq_true rfl) (Nat.le_of_ble_eq_true rfl) rfl ⟨rfl, py1⟩
  refine g_icmp_ge cx 9 e_X11_min_2 (by decide) (fun zc2 => ?_) (fun zc2 => ?_)
  · refine g_iload_n cx 1 rfl e_X11_min_9 ?_
    refine g_lsub [] [] rfl ?_
    exact J10 a1 (jv_t a1)
  · have p3 := gn_lt (-2147483648) 2147483646 (gc_nle zc2) (jv_t a0) (jv_t a1) (by decide)
    have p4 := gn_gt (-2147483647) 2147483647 (gc_nle zc2) (jv_t a1) (jv_t a0) (by decide)
    refine g_iload_n cx 0 rfl e_X11_min_5 ?_
    refine g_goto cx 10 e_X11_min_6 (by decide) ?_
    refine g_lsub [] [] rfl ?_
    exact J10 a0 (jv_w p3 (by decide))
theorem e_X11_foldPasses_0 : g_dc cX11_foldPasses 0 (.iconst 0) 1 1 := ⟨by decide +kernel, rfl⟩
theorem e_X11_foldPasses_1 : g_dc cX11_foldPasses 1 (.istore_n 2) 1 2 := ⟨by decide +kernel, rfl⟩
theorem e_X11_foldPasses_2 : g_dc cX11_foldPasses 2 (.iload_n 2) 1 3 := ⟨by decide +kernel, rfl⟩
theorem e_X11_foldPasses_3 : g_dc cX11_foldPasses 3 (.bipush 6) 2 5 := ⟨by decide +kernel, rfl⟩
theorem e_X11_foldPasses_5 : g_dc cX11_foldPasses 5 (.if_icmp .ge 65) 3 8 := ⟨by decide +kernel, rfl⟩
theorem e_X11_foldPasses_8 : g_dc cX11_foldPasses 8 (.iload_n 2) 1 9 := ⟨by decide +kernel, rfl⟩
theorem e_X11_foldPasses_9 : g_dc cX11_foldPasses 9 (.aload_n 0) 1 10 := ⟨by decide +kernel, rfl⟩
theorem e_X11_foldPasses_10 : g_dc cX11_foldPasses 10 (.getfield 155) 3 13 := ⟨by decide +kernel, rfl⟩
theorem e_X11_foldPasses_13 : g_dc cX11_foldPasses 13 (.imul) 1 14 := ⟨by decide +kernel, rfl⟩
theorem e_X11_foldPasses_14 : g_dc cX11_foldPasses 14 (.bipush 6) 2 16 := ⟨by decide +kernel, rfl⟩
theorem e_X11_foldPasses_16 : g_dc cX11_foldPasses 16 (.idiv) 1 17 := ⟨by decide +kernel, rfl⟩
theorem e_X11_foldPasses_17 : g_dc cX11_foldPasses 17 (.istore_n 3) 1 18 := ⟨by decide +kernel, rfl⟩
theorem e_X11_foldPasses_18 : g_dc cX11_foldPasses 18 (.aload_n 0) 1 19 := ⟨by decide +kernel, rfl⟩
theorem e_X11_foldPasses_19 : g_dc cX11_foldPasses 19 (.getfield 315) 3 22 := ⟨by decide +kernel, rfl⟩
theorem e_X11_foldPasses_22 : g_dc cX11_foldPasses 22 (.iload_n 2) 1 23 := ⟨by decide +kernel, rfl⟩
theorem e_X11_foldPasses_23 : g_dc cX11_foldPasses 23 (.invokestatic 175) 3 26 := ⟨by decide +kernel, rfl⟩
theorem e_X11_foldPasses_26 : g_dc cX11_foldPasses 26 (.ifCond .eq 38) 3 29 := ⟨by decide +kernel, rfl⟩
theorem e_X11_foldPasses_29 : g_dc cX11_foldPasses 29 (.iload_n 3) 1 30 := ⟨by decide +kernel, rfl⟩
theorem e_X11_foldPasses_30 : g_dc cX11_foldPasses 30 (.aload_n 0) 1 31 := ⟨by decide +kernel, rfl⟩
theorem e_X11_foldPasses_31 : g_dc cX11_foldPasses 31 (.getfield 159) 3 34 := ⟨by decide +kernel, rfl⟩
theorem e_X11_foldPasses_34 : g_dc cX11_foldPasses 34 (.if_icmp .ge 30) 3 37 := ⟨by decide +kernel, rfl⟩
theorem e_X11_foldPasses_37 : g_dc cX11_foldPasses 37 (.iload_n 3) 1 38 := ⟨by decide +kernel, rfl⟩
theorem e_X11_foldPasses_38 : g_dc cX11_foldPasses 38 (.aload_n 0) 1 39 := ⟨by decide +kernel, rfl⟩
theorem e_X11_foldPasses_39 : g_dc cX11_foldPasses 39 (.getfield 328) 3 42 := ⟨by decide +kernel, rfl⟩
theorem e_X11_foldPasses_42 : g_dc cX11_foldPasses 42 (.isub) 1 43 := ⟨by decide +kernel, rfl⟩
theorem e_X11_foldPasses_43 : g_dc cX11_foldPasses 43 (.iload_n 1) 1 44 := ⟨by decide +kernel, rfl⟩
theorem e_X11_foldPasses_44 : g_dc cX11_foldPasses 44 (.if_icmp .lt 20) 3 47 := ⟨by decide +kernel, rfl⟩
theorem e_X11_foldPasses_47 : g_dc cX11_foldPasses 47 (.iload_n 3) 1 48 := ⟨by decide +kernel, rfl⟩
theorem e_X11_foldPasses_48 : g_dc cX11_foldPasses 48 (.aload_n 0) 1 49 := ⟨by decide +kernel, rfl⟩
theorem e_X11_foldPasses_49 : g_dc cX11_foldPasses 49 (.getfield 328) 3 52 := ⟨by decide +kernel, rfl⟩
theorem e_X11_foldPasses_52 : g_dc cX11_foldPasses 52 (.isub) 1 53 := ⟨by decide +kernel, rfl⟩
theorem e_X11_foldPasses_53 : g_dc cX11_foldPasses 53 (.aload_n 0) 1 54 := ⟨by decide +kernel, rfl⟩
theorem e_X11_foldPasses_54 : g_dc cX11_foldPasses 54 (.getfield 356) 3 57 := ⟨by decide +kernel, rfl⟩
theorem e_X11_foldPasses_57 : g_dc cX11_foldPasses 57 (.isub) 1 58 := ⟨by decide +kernel, rfl⟩
theorem e_X11_foldPasses_58 : g_dc cX11_foldPasses 58 (.iload_n 1) 1 59 := ⟨by decide +kernel, rfl⟩
theorem e_X11_foldPasses_59 : g_dc cX11_foldPasses 59 (.if_icmp .ge 5) 3 62 := ⟨by decide +kernel, rfl⟩
theorem e_X11_foldPasses_62 : g_dc cX11_foldPasses 62 (.iconst 1) 1 63 := ⟨by decide +kernel, rfl⟩
theorem e_X11_foldPasses_63 : g_dc cX11_foldPasses 63 (.ireturn) 1 64 := ⟨by decide +kernel, rfl⟩
theorem e_X11_foldPasses_64 : g_dc cX11_foldPasses 64 (.iinc 2 1) 3 67 := ⟨by decide +kernel, rfl⟩
theorem e_X11_foldPasses_67 : g_dc cX11_foldPasses 67 (.goto (-65)) 3 70 := ⟨by decide +kernel, rfl⟩
theorem e_X11_foldPasses_70 : g_dc cX11_foldPasses 70 (.iconst 0) 1 71 := ⟨by decide +kernel, rfl⟩
theorem e_X11_foldPasses_71 : g_dc cX11_foldPasses 71 (.ireturn) 1 72 := ⟨by decide +kernel, rfl⟩
set_option maxHeartbeats 4000000 in
set_option maxRecDepth 100000 in
theorem w_X11_foldPasses (l : Launch) (X : gX) (ad : Nat → Nat) (F : Nat → Int32) (R : Nat → Nat → Int32) (hI : g_ok LK_wM F) (hA : g_okR LA_wM R) (hWT : WT F R) (hWC : WC F R) (a0 : Int32) : g_Ci l X yX11_foldPasses cX11_foldPasses 4 (some .boolean) 2 0 0 [.ref (ad 0), .int a0] (wM X ad F R) (fun r w => w = wM X ad F R ∧ jv 0 1 r) := by
  refine g_mi (by decide +kernel) (Nat.le_of_ble_eq_true rfl) (fun E cx hret => ?_)
  refine g_iconst cx 0 (by decide) e_X11_foldPasses_0 ?_
  refine g_istore_n cx [(2, .int 0), (0, .ref (ad 0)), (1, .int a0)] e_X11_foldPasses_1 (by decide) rfl ?_
  have J2 : ∀ (N : Nat) (y1 : Int32), (jv 0 6 y1) → (2147483647 - y1.toInt).toNat < N → G X E 4 0 0 (wM X ad F R) [(0, .ref (ad 0)), (1, .int a0), (2, .int y1)] 2 [] := by
    intro N
    induction N with
    | zero => intro y1 py1 hm; exact absurd hm (Nat.not_lt_zero _)
    | succ N ih2 =>
      intro y1 py1 hm2
      refine g_iload_n cx 2 rfl e_X11_foldPasses_2 ?_
      refine g_bipush cx 6 (by decide) e_X11_foldPasses_3 ?_
      refine g_icmp_ge cx 70 e_X11_foldPasses_5 (by decide) (fun zc2 => ?_) (fun zc2 => ?_)
      · have p3 := gn_ge 6 6 (gc_le zc2) py1 (jv_k (x := 6) 6 (by decide)) (by decide)
        refine g_iconst cx 0 (by decide) e_X11_foldPasses_70 ?_
        exact hret e_X11_foldPasses_71 (Nat.le_of_ble_eq_true rfl) (Nat.le_of_ble_eq_true rfl) rfl ⟨rfl, (jv_w (jv_k (x := 0) 0 (by decide)) (by decide))⟩
      · have p4 := gn_lt 0 5 (gc_nle zc2) py1 (jv_k (x := 6) 6 (by decide)) (by decide)
        refine g_iload_n cx 2 rfl e_X11_foldPasses_8 ?_
        refine g_aload_n cx 0 rfl e_X11_foldPasses_9 ?_
        refine g_get cx cl_X11 fl_X11_155 0 (.int (F 0)) e_X11_foldPasses_10 rfl rfl ?_
        refine g_imul cx e_X11_foldPasses_13 ?_
        refine g_topi (fun x5 ex5 => ?_)
        refine g_bipush cx 6 (by decide) e_X11_foldPasses_14 ?_
        refine g_idiv cx (by decide) e_X11_foldPasses_16 ?_
        refine g_topi (fun x6 ex6 => ?_)
        refine g_istore_n cx [(3, .int x6), (0, .ref (ad 0)), (1, .int a0), (2, .int y1)] e_X11_foldPasses_17 (by decide) rfl ?_
        refine g_aload_n cx 1 rfl e_X11_foldPasses_18 ?_
        refine g_get cx cl_X11 fl_X11_315 0 (.int (F 43)) e_X11_foldPasses_19 rfl rfl ?_
        refine g_iload_n cx 3 rfl e_X11_foldPasses_22 ?_
        refine g_cSiW cx [.int (F 43), .int y1] [] (c_X11_has l X (wM X ad F R) (F 43) y1) ml_X11_175 yS_X11_has rfl e_X11_foldPasses_23 (by unfold g_rr; decide) (by decide) rfl (Nat.le_of_ble_eq_true rfl) (fun r7 w8 h9 => ?_)
        obtain ⟨rfl, hr7⟩ := h9
        have pr7 : jv 0 1 r7 := by rcases hr7 with q | q <;> rw [q.1] <;> exact ⟨by decide, by decide⟩
        have J64 : G X E 4 0 0 (wM X ad F R) [(0, .ref (ad 0)), (1, .int a0), (2, .int y1)] 64 [] := by
          obtain ⟨x10, ex10⟩ : ∃ z : Int32, z = y1 + Int32.ofInt 1 := ⟨_, rfl⟩
          refine g_iinc cx x10 [(2, .int x10), (0, .ref (ad 0)), (1, .int a0)] 2 e_X11_foldPasses_64 rfl ex10.symm (by decide) rfl ?_
          have zx10 := jv_add 1 6 (show x10 = y1 + 1 from ex10) p4 (jv_k (x := 1) 1 (by decide)) (by decide)
          refine g_goto cx 2 e_X11_foldPasses_67 (by decide) ?_
          refine g_lsub [1, 2, 0] [(0, .ref (ad 0)), (1, .int a0), (2, .int x10)] rfl ?_
          exact ih2 x10 (jv_w zx10.2 (by decide)) (Nat.lt_of_lt_of_le (show (2147483647 - x10.toInt).toNat < (2147483647 - y1.toInt).toNat from by have q0 := (jv_k (x := 1) 1 (by decide)).1; have q1 := (jv_k (x := 1) 1 (by decide)).2; have q2 := (jv_k (x := 6) 6 (by decide)).1; have q3 := (jv_k (x := 6) 6 (by decide)).2; have q4 := zx10.2.1; have q5 := zx10.2.2; have q6 := p4.1; have q7 := p4.2; have q8 := (gc_nle zc2); have q9 := (g_eq0 zx10.1); omega) (Nat.le_of_lt_succ hm2))
        refine g_if_eq cx 64 e_X11_foldPasses_26 (by decide) (fun zc11 => ?_) (fun zc11 => ?_)
        · have p12 := gn_eq 0 0 (gc_eq zc11) pr7 (jv_k (x := 0) 0 (by decide)) (by decide)
          refine g_lsub [1, 2, 3] [(0, .ref (ad 0)), (1, .int a0), (2, .int y1)] rfl ?_
          exact J64  
        · have p13 := gn_neL 1 1 (gc_ne zc11) pr7 (jv_k (x := 0) 0 (by decide)) (by decide)
          have zb14 : hb (F 43) y1 := g_hasy hr7 zc11
          refine g_iload_n cx 0 rfl e_X11_foldPasses_29 ?_
          refine g_aload_n cx 1 rfl e_X11_foldPasses_30 ?_
          refine g_get cx cl_X11 fl_X11_159 0 (.int (F 1)) e_X11_foldPasses_31 rfl rfl ?_
          refine g_icmp_ge cx 64 e_X11_foldPasses_34 (by decide) (fun zc15 => ?_) (fun zc15 => ?_)
          · refine g_lsub [1, 2, 3] [(0, .ref (ad 0)), (1, .int a0), (2, .int y1)] rfl ?_
            exact J64  
          · have p16 := gn_lt (-2147483648) 2147483646 (gc_nle zc15) (jv_t x6) (jv_t (F 1)) (by decide)
            have p17 := gn_gt (-2147483647) 2147483647 (gc_nle zc15) (jv_t (F 1)) (jv_t x6) (by decide)
            refine g_iload_n cx 0 rfl e_X11_foldPasses_37 ?_
            refine g_aload_n cx 1 rfl e_X11_foldPasses_38 ?_
            refine g_get cx cl_X11 fl_X11_328 0 (.int (F 46)) e_X11_foldPasses_39 rfl rfl ?_
            refine g_isub cx e_X11_foldPasses_42 ?_
            refine g_topi (fun x18 ex18 => ?_)
            refine g_iload_n cx 2 rfl e_X11_foldPasses_43 ?_
            refine g_icmp_lt cx 64 e_X11_foldPasses_44 (by decide) (fun zc19 => ?_) (fun zc19 => ?_)
            · have p20 := gn_lt (-2147483648) 2147483646 (gc_lt zc19) (jv_t x18) (jv_t a0) (by decide)
              have p21 := gn_gt (-2147483647) 2147483647 (gc_lt zc19) (jv_t a0) (jv_t x18) (by decide)
              refine g_lsub [1, 2, 3] [(0, .ref (ad 0)), (1, .int a0), (2, .int y1)] rfl ?_
              exact J64  
            · refine g_iload_n cx 0 rfl e_X11_foldPasses_47 ?_
              refine g_aload_n cx 1 rfl e_X11_foldPasses_48 ?_
              refine g_get cx cl_X11 fl_X11_328 0 (.int (F 46)) e_X11_foldPasses_49 rfl rfl ?_
              refine g_isub cx e_X11_foldPasses_52 ?_
              refine g_topi (fun x22 ex22 => ?_)
              refine g_aload_n cx 1 rfl e_X11_foldPasses_53 ?_
              refine g_get cx cl_X11 fl_X11_356 0 (.int (F 47)) e_X11_foldPasses_54 rfl rfl ?_
              refine g_isub cx e_X11_foldPasses_57 ?_
              refine g_topi (fun x23 ex23 => ?_)
              refine g_iload_n cx 2 rfl e_X11_foldPasses_58 ?_
              refine g_icmp_ge cx 64 e_X11_foldPasses_59 (by decide) (fun zc24 => ?_) (fun zc24 => ?_)
              · refine g_lsub [1, 2, 3] [(0, .ref (ad 0)), (1, .int a0), (2, .int y1)] rfl ?_
                exact J64  
              · have p25 := gn_lt (-2147483648) 2147483646 (gc_nle zc24) (jv_t x23) (jv_t a0) (by decide)
                have p26 := gn_gt (-2147483647) 2147483647 (gc_nle zc24) (jv_t a0) (jv_t x23) (by decide)
                refine g_iconst cx 1 (by decide) e_X11_foldPasses_62 ?_
                exact hret e_X11_foldPasses_63 (Nat.le_of_ble_eq_true rfl) (Nat.le_of_ble_eq_true rfl) rfl ⟨rfl, (jv_w (jv_k (x := 1) 1 (by decide)) (by decide))⟩
  refine g_lsub [1, 2, 0] [(0, .ref (ad 0)), (1, .int a0), (2, .int 0)] rfl ?_
  exact J2 _ 0 (jv_w (jv_k (x := 0) 0 (by decide)) (by decide)) (Nat.lt_succ_self _)
theorem e_X11_hurries_0 : g_dc cX11_hurries 0 (.aload_n 0) 1 1 := ⟨by decide +kernel, rfl⟩
theorem e_X11_hurries_1 : g_dc cX11_hurries 1 (.iload_n 1) 1 2 := ⟨by decide +kernel, rfl⟩
theorem e_X11_hurries_2 : g_dc cX11_hurries 2 (.invokevirtual 359) 3 5 := ⟨by decide +kernel, rfl⟩
theorem e_X11_hurries_5 : g_dc cX11_hurries 5 (.aload_n 0) 1 6 := ⟨by decide +kernel, rfl⟩
theorem e_X11_hurries_6 : g_dc cX11_hurries 6 (.getfield 89) 3 9 := ⟨by decide +kernel, rfl⟩
theorem e_X11_hurries_9 : g_dc cX11_hurries 9 (.iload_n 1) 1 10 := ⟨by decide +kernel, rfl⟩
theorem e_X11_hurries_10 : g_dc cX11_hurries 10 (.iaload) 1 11 := ⟨by decide +kernel, rfl⟩
theorem e_X11_hurries_11 : g_dc cX11_hurries 11 (.istore_n 2) 1 12 := ⟨by decide +kernel, rfl⟩
theorem e_X11_hurries_12 : g_dc cX11_hurries 12 (.iload_n 2) 1 13 := ⟨by decide +kernel, rfl⟩
theorem e_X11_hurries_13 : g_dc cX11_hurries 13 (.istore_n 3) 1 14 := ⟨by decide +kernel, rfl⟩
theorem e_X11_hurries_14 : g_dc cX11_hurries 14 (.aload_n 0) 1 15 := ⟨by decide +kernel, rfl⟩
theorem e_X11_hurries_15 : g_dc cX11_hurries 15 (.getfield 362) 3 18 := ⟨by decide +kernel, rfl⟩
theorem e_X11_hurries_18 : g_dc cX11_hurries 18 (.iload_n 1) 1 19 := ⟨by decide +kernel, rfl⟩
theorem e_X11_hurries_19 : g_dc cX11_hurries 19 (.invokestatic 175) 3 22 := ⟨by decide +kernel, rfl⟩
theorem e_X11_hurries_22 : g_dc cX11_hurries 22 (.ifCond .eq 68) 3 25 := ⟨by decide +kernel, rfl⟩
theorem e_X11_hurries_25 : g_dc cX11_hurries 25 (.iload_n 2) 1 26 := ⟨by decide +kernel, rfl⟩
theorem e_X11_hurries_26 : g_dc cX11_hurries 26 (.aload_n 0) 1 27 := ⟨by decide +kernel, rfl⟩
theorem e_X11_hurries_27 : g_dc cX11_hurries 27 (.getfield 356) 3 30 := ⟨by decide +kernel, rfl⟩
theorem e_X11_hurries_30 : g_dc cX11_hurries 30 (.if_icmp .le 9) 3 33 := ⟨by decide +kernel, rfl⟩
theorem e_X11_hurries_33 : g_dc cX11_hurries 33 (.iload_n 2) 1 34 := ⟨by decide +kernel, rfl⟩
theorem e_X11_hurries_34 : g_dc cX11_hurries 34 (.iconst 1) 1 35 := ⟨by decide +kernel, rfl⟩
theorem e_X11_hurries_35 : g_dc cX11_hurries 35 (.isub) 1 36 := ⟨by decide +kernel, rfl⟩
theorem e_X11_hurries_36 : g_dc cX11_hurries 36 (.goto 21) 3 39 := ⟨by decide +kernel, rfl⟩
theorem e_X11_hurries_39 : g_dc cX11_hurries 39 (.iload_n 2) 1 40 := ⟨by decide +kernel, rfl⟩
theorem e_X11_hurries_40 : g_dc cX11_hurries 40 (.aload_n 0) 1 41 := ⟨by decide +kernel, rfl⟩
theorem e_X11_hurries_41 : g_dc cX11_hurries 41 (.bipush 97) 2 43 := ⟨by decide +kernel, rfl⟩
theorem e_X11_hurries_43 : g_dc cX11_hurries 43 (.iconst 0) 1 44 := ⟨by decide +kernel, rfl⟩
theorem e_X11_hurries_44 : g_dc cX11_hurries 44 (.bipush 40) 2 46 := ⟨by decide +kernel, rfl⟩
theorem e_X11_hurries_46 : g_dc cX11_hurries 46 (.invokevirtual 353) 3 49 := ⟨by decide +kernel, rfl⟩
theorem e_X11_hurries_49 : g_dc cX11_hurries 49 (.iadd) 1 50 := ⟨by decide +kernel, rfl⟩
theorem e_X11_hurries_50 : g_dc cX11_hurries 50 (.aload_n 0) 1 51 := ⟨by decide +kernel, rfl⟩
theorem e_X11_hurries_51 : g_dc cX11_hurries 51 (.getfield 356) 3 54 := ⟨by decide +kernel, rfl⟩
theorem e_X11_hurries_54 : g_dc cX11_hurries 54 (.invokestatic 365) 3 57 := ⟨by decide +kernel, rfl⟩
theorem e_X11_hurries_57 : g_dc cX11_hurries 57 (.istore_n 3) 1 58 := ⟨by decide +kernel, rfl⟩
theorem e_X11_hurries_58 : g_dc cX11_hurries 58 (.iload_n 3) 1 59 := ⟨by decide +kernel, rfl⟩
theorem e_X11_hurries_59 : g_dc cX11_hurries 59 (.aload_n 0) 1 60 := ⟨by decide +kernel, rfl⟩
theorem e_X11_hurries_60 : g_dc cX11_hurries 60 (.aload_n 0) 1 61 := ⟨by decide +kernel, rfl⟩
theorem e_X11_hurries_61 : g_dc cX11_hurries 61 (.getfield 86) 3 64 := ⟨by decide +kernel, rfl⟩
theorem e_X11_hurries_64 : g_dc cX11_hurries 64 (.iload_n 1) 1 65 := ⟨by decide +kernel, rfl⟩
theorem e_X11_hurries_65 : g_dc cX11_hurries 65 (.iaload) 1 66 := ⟨by decide +kernel, rfl⟩
theorem e_X11_hurries_66 : g_dc cX11_hurries 66 (.invokevirtual 368) 3 69 := ⟨by decide +kernel, rfl⟩
theorem e_X11_hurries_69 : g_dc cX11_hurries 69 (.ifCond .eq 15) 3 72 := ⟨by decide +kernel, rfl⟩
theorem e_X11_hurries_72 : g_dc cX11_hurries 72 (.aload_n 0) 1 73 := ⟨by decide +kernel, rfl⟩
theorem e_X11_hurries_73 : g_dc cX11_hurries 73 (.bipush 106) 2 75 := ⟨by decide +kernel, rfl⟩
theorem e_X11_hurries_75 : g_dc cX11_hurries 75 (.iconst 0) 1 76 := ⟨by decide +kernel, rfl⟩
theorem e_X11_hurries_76 : g_dc cX11_hurries 76 (.bipush 40) 2 78 := ⟨by decide +kernel, rfl⟩
theorem e_X11_hurries_78 : g_dc cX11_hurries 78 (.invokevirtual 353) 3 81 := ⟨by decide +kernel, rfl⟩
theorem e_X11_hurries_81 : g_dc cX11_hurries 81 (.goto 4) 3 84 := ⟨by decide +kernel, rfl⟩
theorem e_X11_hurries_84 : g_dc cX11_hurries 84 (.iconst 0) 1 85 := ⟨by decide +kernel, rfl⟩
theorem e_X11_hurries_85 : g_dc cX11_hurries 85 (.iadd) 1 86 := ⟨by decide +kernel, rfl⟩
theorem e_X11_hurries_86 : g_dc cX11_hurries 86 (.istore_n 3) 1 87 := ⟨by decide +kernel, rfl⟩
theorem e_X11_hurries_87 : g_dc cX11_hurries 87 (.goto 19) 3 90 := ⟨by decide +kernel, rfl⟩
theorem e_X11_hurries_90 : g_dc cX11_hurries 90 (.iconst 0) 1 91 := ⟨by decide +kernel, rfl⟩
theorem e_X11_hurries_91 : g_dc cX11_hurries 91 (.iload_n 2) 1 92 := ⟨by decide +kernel, rfl⟩
theorem e_X11_hurries_92 : g_dc cX11_hurries 92 (.aload_n 0) 1 93 := ⟨by decide +kernel, rfl⟩
theorem e_X11_hurries_93 : g_dc cX11_hurries 93 (.bipush 115) 2 95 := ⟨by decide +kernel, rfl⟩
theorem e_X11_hurries_95 : g_dc cX11_hurries 95 (.iconst 1) 1 96 := ⟨by decide +kernel, rfl⟩
theorem e_X11_hurries_96 : g_dc cX11_hurries 96 (.bipush 40) 2 98 := ⟨by decide +kernel, rfl⟩
theorem e_X11_hurries_98 : g_dc cX11_hurries 98 (.invokevirtual 353) 3 101 := ⟨by decide +kernel, rfl⟩
theorem e_X11_hurries_101 : g_dc cX11_hurries 101 (.isub) 1 102 := ⟨by decide +kernel, rfl⟩
theorem e_X11_hurries_102 : g_dc cX11_hurries 102 (.invokestatic 371) 3 105 := ⟨by decide +kernel, rfl⟩
theorem e_X11_hurries_105 : g_dc cX11_hurries 105 (.istore_n 3) 1 106 := ⟨by decide +kernel, rfl⟩
theorem e_X11_hurries_106 : g_dc cX11_hurries 106 (.iload_n 3) 1 107 := ⟨by decide +kernel, rfl⟩
theorem e_X11_hurries_107 : g_dc cX11_hurries 107 (.iload_n 2) 1 108 := ⟨by decide +kernel, rfl⟩
theorem e_X11_hurries_108 : g_dc cX11_hurries 108 (.isub) 1 109 := ⟨by decide +kernel, rfl⟩
theorem e_X11_hurries_109 : g_dc cX11_hurries 109 (.invokestatic 374) 3 112 := ⟨by decide +kernel, rfl⟩
theorem e_X11_hurries_112 : g_dc cX11_hurries 112 (.istore 4) 2 114 := ⟨by decide +kernel, rfl⟩
theorem e_X11_hurries_114 : g_dc cX11_hurries 114 (.aload_n 0) 1 115 := ⟨by decide +kernel, rfl⟩
theorem e_X11_hurries_115 : g_dc cX11_hurries 115 (.bipush 98) 2 117 := ⟨by decide +kernel, rfl⟩
theorem e_X11_hurries_117 : g_dc cX11_hurries 117 (.iconst 0) 1 118 := ⟨by decide +kernel, rfl⟩
theorem e_X11_hurries_118 : g_dc cX11_hurries 118 (.sipush 999) 3 121 := ⟨by decide +kernel, rfl⟩
theorem e_X11_hurries_121 : g_dc cX11_hurries 121 (.invokevirtual 353) 3 124 := ⟨by decide +kernel, rfl⟩
theorem e_X11_hurries_124 : g_dc cX11_hurries 124 (.istore 5) 2 126 := ⟨by decide +kernel, rfl⟩
theorem e_X11_hurries_126 : g_dc cX11_hurries 126 (.iload 4) 2 128 := ⟨by decide +kernel, rfl⟩
theorem e_X11_hurries_128 : g_dc cX11_hurries 128 (.aload_n 0) 1 129 := ⟨by decide +kernel, rfl⟩
theorem e_X11_hurries_129 : g_dc cX11_hurries 129 (.bipush 122) 2 131 := ⟨by decide +kernel, rfl⟩
theorem e_X11_hurries_131 : g_dc cX11_hurries 131 (.iconst 0) 1 132 := ⟨by decide +kernel, rfl⟩
theorem e_X11_hurries_132 : g_dc cX11_hurries 132 (.bipush 99) 2 134 := ⟨by decide +kernel, rfl⟩
theorem e_X11_hurries_134 : g_dc cX11_hurries 134 (.invokevirtual 353) 3 137 := ⟨by decide +kernel, rfl⟩
theorem e_X11_hurries_137 : g_dc cX11_hurries 137 (.if_icmp .le 7) 3 140 := ⟨by decide +kernel, rfl⟩
theorem e_X11_hurries_140 : g_dc cX11_hurries 140 (.iconst 1) 1 141 := ⟨by decide +kernel, rfl⟩
theorem e_X11_hurries_141 : g_dc cX11_hurries 141 (.goto 4) 3 144 := ⟨by decide +kernel, rfl⟩
theorem e_X11_hurries_144 : g_dc cX11_hurries 144 (.iconst 0) 1 145 := ⟨by decide +kernel, rfl⟩
theorem e_X11_hurries_145 : g_dc cX11_hurries 145 (.istore 6) 2 147 := ⟨by decide +kernel, rfl⟩
theorem e_X11_hurries_147 : g_dc cX11_hurries 147 (.aload_n 0) 1 148 := ⟨by decide +kernel, rfl⟩
theorem e_X11_hurries_148 : g_dc cX11_hurries 148 (.getfield 89) 3 151 := ⟨by decide +kernel, rfl⟩
theorem e_X11_hurries_151 : g_dc cX11_hurries 151 (.iload_n 1) 1 152 := ⟨by decide +kernel, rfl⟩
theorem e_X11_hurries_152 : g_dc cX11_hurries 152 (.iload_n 3) 1 153 := ⟨by decide +kernel, rfl⟩
theorem e_X11_hurries_153 : g_dc cX11_hurries 153 (.iastore) 1 154 := ⟨by decide +kernel, rfl⟩
theorem e_X11_hurries_154 : g_dc cX11_hurries 154 (.iload 4) 2 156 := ⟨by decide +kernel, rfl⟩
theorem e_X11_hurries_156 : g_dc cX11_hurries 156 (.aload_n 0) 1 157 := ⟨by decide +kernel, rfl⟩
theorem e_X11_hurries_157 : g_dc cX11_hurries 157 (.getfield 101) 3 160 := ⟨by decide +kernel, rfl⟩
theorem e_X11_hurries_160 : g_dc cX11_hurries 160 (.iload_n 1) 1 161 := ⟨by decide +kernel, rfl⟩
theorem e_X11_hurries_161 : g_dc cX11_hurries 161 (.iaload) 1 162 := ⟨by decide +kernel, rfl⟩
theorem e_X11_hurries_162 : g_dc cX11_hurries 162 (.imul) 1 163 := ⟨by decide +kernel, rfl⟩
theorem e_X11_hurries_163 : g_dc cX11_hurries 163 (.aload_n 0) 1 164 := ⟨by decide +kernel, rfl⟩
theorem e_X11_hurries_164 : g_dc cX11_hurries 164 (.getfield 16) 3 167 := ⟨by decide +kernel, rfl⟩
theorem e_X11_hurries_167 : g_dc cX11_hurries 167 (.iload_n 1) 1 168 := ⟨by decide +kernel, rfl⟩
theorem e_X11_hurries_168 : g_dc cX11_hurries 168 (.iaload) 1 169 := ⟨by decide +kernel, rfl⟩
theorem e_X11_hurries_169 : g_dc cX11_hurries 169 (.idiv) 1 170 := ⟨by decide +kernel, rfl⟩
theorem e_X11_hurries_170 : g_dc cX11_hurries 170 (.istore 7) 2 172 := ⟨by decide +kernel, rfl⟩
theorem e_X11_hurries_172 : g_dc cX11_hurries 172 (.iload 7) 2 174 := ⟨by decide +kernel, rfl⟩
theorem e_X11_hurries_174 : g_dc cX11_hurries 174 (.iload 5) 2 176 := ⟨by decide +kernel, rfl⟩
theorem e_X11_hurries_176 : g_dc cX11_hurries 176 (.if_icmp .le 20) 3 179 := ⟨by decide +kernel, rfl⟩
theorem e_X11_hurries_179 : g_dc cX11_hurries 179 (.aload_n 0) 1 180 := ⟨by decide +kernel, rfl⟩
theorem e_X11_hurries_180 : g_dc cX11_hurries 180 (.getfield 92) 3 183 := ⟨by decide +kernel, rfl⟩
theorem e_X11_hurries_183 : g_dc cX11_hurries 183 (.iload_n 1) 1 184 := ⟨by decide +kernel, rfl⟩
theorem e_X11_hurries_184 : g_dc cX11_hurries 184 (.iconst 1) 1 185 := ⟨by decide +kernel, rfl⟩
theorem e_X11_hurries_185 : g_dc cX11_hurries 185 (.iastore) 1 186 := ⟨by decide +kernel, rfl⟩
theorem e_X11_hurries_186 : g_dc cX11_hurries 186 (.aload_n 0) 1 187 := ⟨by decide +kernel, rfl⟩
theorem e_X11_hurries_187 : g_dc cX11_hurries 187 (.getfield 89) 3 190 := ⟨by decide +kernel, rfl⟩
theorem e_X11_hurries_190 : g_dc cX11_hurries 190 (.iload_n 1) 1 191 := ⟨by decide +kernel, rfl⟩
theorem e_X11_hurries_191 : g_dc cX11_hurries 191 (.iconst 0) 1 192 := ⟨by decide +kernel, rfl⟩
theorem e_X11_hurries_192 : g_dc cX11_hurries 192 (.iastore) 1 193 := ⟨by decide +kernel, rfl⟩
theorem e_X11_hurries_193 : g_dc cX11_hurries 193 (.goto 24) 3 196 := ⟨by decide +kernel, rfl⟩
theorem e_X11_hurries_196 : g_dc cX11_hurries 196 (.iload 7) 2 198 := ⟨by decide +kernel, rfl⟩
theorem e_X11_hurries_198 : g_dc cX11_hurries 198 (.iload 5) 2 200 := ⟨by decide +kernel, rfl⟩
theorem e_X11_hurries_200 : g_dc cX11_hurries 200 (.iconst 2) 1 201 := ⟨by decide +kernel, rfl⟩
theorem e_X11_hurries_201 : g_dc cX11_hurries 201 (.idiv) 1 202 := ⟨by decide +kernel, rfl⟩
theorem e_X11_hurries_202 : g_dc cX11_hurries 202 (.if_icmp .le 15) 3 205 := ⟨by decide +kernel, rfl⟩
theorem e_X11_hurries_205 : g_dc cX11_hurries 205 (.aload_n 0) 1 206 := ⟨by decide +kernel, rfl⟩
theorem e_X11_hurries_206 : g_dc cX11_hurries 206 (.aload_n 0) 1 207 := ⟨by decide +kernel, rfl⟩
theorem e_X11_hurries_207 : g_dc cX11_hurries 207 (.getfield 334) 3 210 := ⟨by decide +kernel, rfl⟩
theorem e_X11_hurries_210 : g_dc cX11_hurries 210 (.iconst 1) 1 211 := ⟨by decide +kernel, rfl⟩
theorem e_X11_hurries_211 : g_dc cX11_hurries 211 (.iload_n 1) 1 212 := ⟨by decide +kernel, rfl⟩
theorem e_X11_hurries_212 : g_dc cX11_hurries 212 (.ishl) 1 213 := ⟨by decide +kernel, rfl⟩
theorem e_X11_hurries_213 : g_dc cX11_hurries 213 (.ior) 1 214 := ⟨by decide +kernel, rfl⟩
theorem e_X11_hurries_214 : g_dc cX11_hurries 214 (.putfield 334) 3 217 := ⟨by decide +kernel, rfl⟩
theorem e_X11_hurries_217 : g_dc cX11_hurries 217 (.iload 6) 2 219 := ⟨by decide +kernel, rfl⟩
theorem e_X11_hurries_219 : g_dc cX11_hurries 219 (.ifCond .eq 12) 3 222 := ⟨by decide +kernel, rfl⟩
theorem e_X11_hurries_222 : g_dc cX11_hurries 222 (.aload_n 0) 1 223 := ⟨by decide +kernel, rfl⟩
theorem e_X11_hurries_223 : g_dc cX11_hurries 223 (.getfield 95) 3 226 := ⟨by decide +kernel, rfl⟩
theorem e_X11_hurries_226 : g_dc cX11_hurries 226 (.iload_n 1) 1 227 := ⟨by decide +kernel, rfl⟩
theorem e_X11_hurries_227 : g_dc cX11_hurries 227 (.iaload) 1 228 := ⟨by decide +kernel, rfl⟩
theorem e_X11_hurries_228 : g_dc cX11_hurries 228 (.ifCond .ne 4) 3 231 := ⟨by decide +kernel, rfl⟩
theorem e_X11_hurries_231 : g_dc cX11_hurries 231 (.return_) 1 232 := ⟨by decide +kernel, rfl⟩
theorem e_X11_hurries_232 : g_dc cX11_hurries 232 (.aload_n 0) 1 233 := ⟨by decide +kernel, rfl⟩
theorem e_X11_hurries_233 : g_dc cX11_hurries 233 (.getfield 95) 3 236 := ⟨by decide +kernel, rfl⟩
theorem e_X11_hurries_236 : g_dc cX11_hurries 236 (.iload_n 1) 1 237 := ⟨by decide +kernel, rfl⟩
theorem e_X11_hurries_237 : g_dc cX11_hurries 237 (.aload_n 0) 1 238 := ⟨by decide +kernel, rfl⟩
theorem e_X11_hurries_238 : g_dc cX11_hurries 238 (.getfield 95) 3 241 := ⟨by decide +kernel, rfl⟩
theorem e_X11_hurries_241 : g_dc cX11_hurries 241 (.iload_n 1) 1 242 := ⟨by decide +kernel, rfl⟩
theorem e_X11_hurries_242 : g_dc cX11_hurries 242 (.iaload) 1 243 := ⟨by decide +kernel, rfl⟩
theorem e_X11_hurries_243 : g_dc cX11_hurries 243 (.iconst 1) 1 244 := ⟨by decide +kernel, rfl⟩
theorem e_X11_hurries_244 : g_dc cX11_hurries 244 (.isub) 1 245 := ⟨by decide +kernel, rfl⟩
theorem e_X11_hurries_245 : g_dc cX11_hurries 245 (.iastore) 1 246 := ⟨by decide +kernel, rfl⟩
theorem e_X11_hurries_246 : g_dc cX11_hurries 246 (.aload_n 0) 1 247 := ⟨by decide +kernel, rfl⟩
theorem e_X11_hurries_247 : g_dc cX11_hurries 247 (.aload_n 0) 1 248 := ⟨by decide +kernel, rfl⟩
theorem e_X11_hurries_248 : g_dc cX11_hurries 248 (.getfield 340) 3 251 := ⟨by decide +kernel, rfl⟩
theorem e_X11_hurries_251 : g_dc cX11_hurries 251 (.iconst 1) 1 252 := ⟨by decide +kernel, rfl⟩
theorem e_X11_hurries_252 : g_dc cX11_hurries 252 (.iload_n 1) 1 253 := ⟨by decide +kernel, rfl⟩
theorem e_X11_hurries_253 : g_dc cX11_hurries 253 (.ishl) 1 254 := ⟨by decide +kernel, rfl⟩
theorem e_X11_hurries_254 : g_dc cX11_hurries 254 (.ior) 1 255 := ⟨by decide +kernel, rfl⟩
theorem e_X11_hurries_255 : g_dc cX11_hurries 255 (.putfield 340) 3 258 := ⟨by decide +kernel, rfl⟩
theorem e_X11_hurries_258 : g_dc cX11_hurries 258 (.return_) 1 259 := ⟨by decide +kernel, rfl⟩
def md_X11_hurries : List Nat := [65, 67]
def mr_X11_hurries : List Nat := [23, 24, 27, 28, 29]
set_option maxHeartbeats 4000000 in
set_option maxRecDepth 100000 in
theorem w_X11_hurries (l : Launch) (X : gX) (ad : Nat → Nat) (F : Nat → Int32) (R : Nat → Nat → Int32) (hI : g_ok LK_wM F) (hA : g_okR LA_wM R) (hWT : WT F R) (hWC : WC F R) (a0 : Int32) (pa0 : jv 0 9 a0) (hpn : WN F R) (hpb : hb (F 42) a0) : g_Cv l X yX11_hurries cX11_hurries 8 4 0 0 [.ref (ad 0), .int a0] (wM X ad F R) (fun w => ∃ (F' : Nat → Int32) (R' : Nat → Nat → Int32), w = wM X ad F' R' ∧ g_ok LK_wM F' ∧ g_okR LA_wM R' ∧ WT F' R' ∧ WC F' R' ∧ g_fr md_X11_hurries F F' ∧ g_fr mr_X11_hurries R R') := by
  refine g_mv (by decide +kernel) (Nat.le_of_ble_eq_true rfl) (fun E cx hret => ?_)
  refine g_aload_n cx 0 rfl e_X11_hurries_0 ?_
  refine g_iload_n cx 1 rfl e_X11_hurries_1 ?_
  refine g_cVvW cx [.int a0] [] (w_X11_feels l X ad F R hI hA hWT hWC a0 pa0) ml_X11_359 yV_X11_feels e_X11_hurries_2 (by unfold g_rr; decide) (by decide) 0 rfl rfl rfl (Nat.le_of_ble_eq_true rfl) (fun w2 h3 => ?_)
  obtain ⟨F4, R5, rfl, oF4, oR5, wTF4, wCF4, cF4, cR5⟩ := h3
  have fF4 : g_fr md_X11_hurries F F4 := g_fr_c (g_fr_rf F) cF4 rfl
  have fR5 : g_fr mr_X11_hurries R R5 := g_fr_c (g_fr_rf R) cR5 rfl
  refine g_aload_n cx 0 rfl e_X11_hurries_5 ?_
  refine g_get cx cl_X11 fl_X11_89 0 (.ref (ad 27)) e_X11_hurries_6 rfl rfl ?_
  refine g_iload_n cx 1 rfl e_X11_hurries_9 ?_
  refine g_iald cx 27 e_X11_hurries_10 rfl (jv_ix 10 pa0 (by decide)) ?_
  refine g_topi (fun x6 ex6 => ?_)
  refine g_istore_n cx [(2, .int x6), (0, .ref (ad 0)), (1, .int a0)] e_X11_hurries_11 (by decide) rfl ?_
  refine g_iload_n cx 0 rfl e_X11_hurries_12 ?_
  refine g_istore_n cx [(3, .int x6), (2, .int x6), (0, .ref (ad 0)), (1, .int a0)] e_X11_hurries_13 (by decide) rfl ?_
  refine g_aload_n cx 2 rfl e_X11_hurries_14 ?_
  refine g_get cx cl_X11 fl_X11_362 0 (.int (F4 69)) e_X11_hurries_15 rfl rfl ?_
  refine g_toi (F 69) (cF4 69 rfl) ?_
  refine g_iload_n cx 3 rfl e_X11_hurries_18 ?_
  refine g_cSiW cx [.int (F 69), .int a0] [] (c_X11_has l X (wM X ad F4 R5) (F 69) a0) ml_X11_175 yS_X11_has rfl e_X11_hurries_19 (by unfold g_rr; decide) (by decide) rfl (Nat.le_of_ble_eq_true rfl) (fun r7 w8 h9 => ?_)
  obtain ⟨rfl, hr7⟩ := h9
  have pr7 : jv 0 1 r7 := by rcases hr7 with q | q <;> rw [q.1] <;> exact ⟨by decide, by decide⟩
  have J106 : ∀ (F11 : Nat → Int32) (R12 : Nat → Nat → Int32) (y10 : Int32), (g_ok LK_wM F11) → (g_fr md_X11_hurries F F11) → (g_okR LA_wM R12) → (g_fr mr_X11_hurries R R12) → (WT F11 R12) → (WC F11 R12) → (jv (-2147483648) 2147483647 y10) → G X E 8 0 0 (wM X ad F11 R12) [(0, .ref (ad 0)), (1, .int a0), (2, .int x6), (3, .int y10)] 106 [] := by
    intro F11 R12 y10 oF11 fF11 oR12 fR12 wTF11R12 wCF11R12 py10
    refine g_iload_n cx 3 rfl e_X11_hurries_106 ?_
    refine g_iload_n cx 2 rfl e_X11_hurries_107 ?_
    refine g_isub cx e_X11_hurries_108 ?_
    refine g_topi (fun x13 ex13 => ?_)
    refine g_cSiW cx [.int x13] [] (w_X11_size l X ad F11 R12 oF11 oR12 x13) ml_X11_374 yS_X11_size rfl e_X11_hurries_109 (by unfold g_rr; decide) (by decide) rfl (Nat.le_of_ble_eq_true rfl) (fun r14 w15 h16 => ?_)
    obtain ⟨rfl, pr14⟩ := h16
    refine g_istore cx [(4, .int r14), (0, .ref (ad 0)), (1, .int a0), (2, .int x6), (3, .int y10)] e_X11_hurries_112 (by decide) rfl ?_
    refine g_aload_n cx 1 rfl e_X11_hurries_114 ?_
    refine g_bipush cx 98 (by decide) e_X11_hurries_115 ?_
    refine g_iconst cx 0 (by decide) e_X11_hurries_117 ?_
    refine g_sipush cx 999 (by decide) e_X11_hurries_118 ?_
    refine g_cViW cx [.int 98, .int 0, .int 999] [] (w_X11_byLaw l X ad F11 R12 oF11 oR12 wTF11R12 wCF11R12 98 0 999) ml_X11_353 yV_X11_byLaw e_X11_hurries_121 (by unfold g_rr; decide) (by decide) 0 rfl rfl rfl (Nat.le_of_ble_eq_true rfl) (fun r17 w18 h19 => ?_)
    obtain ⟨F20, R21, rfl, oF20, oR21, wTF20, wCF20, cF20, cR21, pr17⟩ := h19
    have fF20 : g_fr md_X11_hurries F F20 := g_fr_c fF11 cF20 rfl
    have fR21 : g_fr mr_X11_hurries R R21 := g_fr_c fR12 cR21 rfl
    refine g_istore cx [(5, .int r17), (4, .int r14), (0, .ref (ad 0)), (1, .int a0), (2, .int x6), (3, .int y10)] e_X11_hurries_124 (by decide) rfl ?_
    refine g_iload cx 1 rfl e_X11_hurries_126 ?_
    refine g_aload_n cx 2 rfl e_X11_hurries_128 ?_
    refine g_bipush cx 122 (by decide) e_X11_hurries_129 ?_
    refine g_iconst cx 0 (by decide) e_X11_hurries_131 ?_
    refine g_bipush cx 99 (by decide) e_X11_hurries_132 ?_
    refine g_cViW cx [.int 122, .int 0, .int 99] [.int r14] (w_X11_byLaw l X ad F20 R21 oF20 oR21 wTF20 wCF20 122 0 99) ml_X11_353 yV_X11_byLaw e_X11_hurries_134 (by unfold g_rr; decide) (by decide) 0 rfl rfl rfl (Nat.le_of_ble_eq_true rfl) (fun r22 w23 h24 => ?_)
    obtain ⟨F25, R26, rfl, oF25, oR26, wTF25, wCF25, cF25, cR26, pr22⟩ := h24
    have fF25 : g_fr md_X11_hurries F F25 := g_fr_c fF20 cF25 rfl
    have fR26 : g_fr mr_X11_hurries R R26 := g_fr_c fR21 cR26 rfl
    have J145 : ∀ (y27 : Int32), (jv 0 1 y27) → G X E 8 0 0 (wM X ad F25 R26) [(0, .ref (ad 0)), (1, .int a0), (3, .int y10), (4, .int r14), (5, .int r17)] 145 [.int y27] := by
      intro y27 py27
      refine g_istore cx [(6, .int y27), (0, .ref (ad 0)), (1, .int a0), (3, .int y10), (4, .int r14), (5, .int r17)] e_X11_hurries_145 (by decide) rfl ?_
      refine g_aload_n cx 1 rfl e_X11_hurries_147 ?_
      refine g_get cx cl_X11 fl_X11_89 0 (.ref (ad 27)) e_X11_hurries_148 rfl rfl ?_
      refine g_iload_n cx 2 rfl e_X11_hurries_151 ?_
      refine g_iload_n cx 3 rfl e_X11_hurries_152 ?_
      refine g_iast cx 27 (wM X ad F25 (g_u R26 27 (upd (R26 27) (Int32.toNatClampNeg a0) y10))) e_X11_hurries_153 rfl (jv_ix 10 pa0 (by decide)) rfl ?_
      obtain ⟨R28, hR28⟩ : ∃ z, z = g_u R26 27 (upd (R26 27) (Int32.toNatClampNeg a0) y10) := ⟨_, rfl⟩
      rw [← hR28]
      have oR28 : g_okR LA_wM R28 := by rw [hR28]; exact g_okR_u oR26 rfl
      have fR28 : g_fr mr_X11_hurries R R28 := by rw [hR28]; exact g_fr_r fR26 rfl
      have wTR28 : WT F25 R28 := by rw [hR28]; exact WT_r wTF25 rfl
      have wCR28 : WC F25 R28 := by rw [hR28]; exact WC_r wCF25 rfl
      refine g_iload cx 4 rfl e_X11_hurries_154 ?_
      refine g_aload_n cx 1 rfl e_X11_hurries_156 ?_
      refine g_get cx cl_X11 fl_X11_101 0 (.ref (ad 31)) e_X11_hurries_157 rfl rfl ?_
      refine g_iload_n cx 2 rfl e_X11_hurries_160 ?_
      refine g_iald cx 31 e_X11_hurries_161 rfl (jv_ix 10 pa0 (by decide)) ?_
      refine g_topi (fun x29 ex29 => ?_)
      refine g_imul cx e_X11_hurries_162 ?_
      refine g_topi (fun x30 ex30 => ?_)
      refine g_aload_n cx 1 rfl e_X11_hurries_163 ?_
      refine g_get cx cl_X11 fl_X11_16 0 (.ref (ad 3)) e_X11_hurries_164 rfl rfl ?_
      refine g_iload_n cx 2 rfl e_X11_hurries_167 ?_
      refine g_iald cx 3 e_X11_hurries_168 rfl (jv_ix 10 pa0 (by decide)) ?_
      refine g_topi (fun x31 ex31 => ?_)
      have p32 : jv 0 40 x31 := by rw [ex31]; exact g_okR_g oR28 6 rfl (jv_cl 10 pa0 (by decide))
      refine g_idiv cx (g_nz0 (wn_foot hpn pa0 hpb (ex31.trans (by rw [show R28 3 = R 3 from ((((g_ru2 hR28 rfl).trans (cR26 3 rfl)).trans (cR21 3 rfl)).trans (fR12 3 rfl))]))) (by decide)) e_X11_hurries_169 ?_
      refine g_topi (fun x33 ex33 => ?_)
      refine g_istore cx [(7, .int x33), (6, .int y27), (0, .ref (ad 0)), (1, .int a0), (3, .int y10), (4, .int r14), (5, .int r17)] e_X11_hurries_170 (by decide) rfl ?_
      refine g_iload cx 0 rfl e_X11_hurries_172 ?_
      refine g_iload cx 6 rfl e_X11_hurries_174 ?_
      have J217 : ∀ (F34 : Nat → Int32) (R35 : Nat → Nat → Int32), (g_ok LK_wM F34) → (g_fr md_X11_hurries F F34) → (g_okR LA_wM R35) → (g_fr mr_X11_hurries R R35) → (WT F34 R35) → (WC F34 R35) → G X E 8 0 0 (wM X ad F34 R35) [(0, .ref (ad 0)), (1, .int a0), (6, .int y27)] 217 [] := by
        intro F34 R35 oF34 fF34 oR35 fR35 wTF34R35 wCF34R35
        refine g_iload cx 2 rfl e_X11_hurries_217 ?_
        have J231 : G X E 8 0 0 (wM X ad F34 R35) [] 231 [] := by
          exact hret e_X11_hurries_231 (Nat.le_of_ble_eq_true rfl) (Nat.le_of_ble_eq_true rfl) ⟨F34, R35, rfl, oF34, oR35, wTF34R35, wCF34R35, fF34, fR35⟩
        refine g_if_eq cx 231 e_X11_hurries_219 (by decide) (fun zc36 => ?_) (fun zc36 => ?_)
        · have p37 := gn_eq 0 0 (gc_eq zc36) py27 (jv_k (x := 0) 0 (by decide)) (by decide)
          refine g_lsub [] [] rfl ?_
          exact J231  
        · have p38 := gn_neL 1 1 (gc_ne zc36) py27 (jv_k (x := 0) 0 (by decide)) (by decide)
          refine g_aload_n cx 0 rfl e_X11_hurries_222 ?_
          refine g_get cx cl_X11 fl_X11_95 0 (.ref (ad 29)) e_X11_hurries_223 rfl rfl ?_
          refine g_iload_n cx 1 rfl e_X11_hurries_226 ?_
          refine g_iald cx 29 e_X11_hurries_227 rfl (jv_ix 10 pa0 (by decide)) ?_
          refine g_topi (fun x39 ex39 => ?_)
          refine g_if_ne cx 232 e_X11_hurries_228 (by decide) (fun zc40 => ?_) (fun zc40 => ?_)
          · refine g_aload_n cx 0 rfl e_X11_hurries_232 ?_
            refine g_get cx cl_X11 fl_X11_95 0 (.ref (ad 29)) e_X11_hurries_233 rfl rfl ?_
            refine g_iload_n cx 1 rfl e_X11_hurries_236 ?_
            refine g_aload_n cx 0 rfl e_X11_hurries_237 ?_
            refine g_get cx cl_X11 fl_X11_95 0 (.ref (ad 29)) e_X11_hurries_238 rfl rfl ?_
            refine g_iload_n cx 1 rfl e_X11_hurries_241 ?_
            refine g_iald cx 29 e_X11_hurries_242 rfl (jv_ix 10 pa0 (by decide)) ?_
            refine g_topi (fun x41 ex41 => ?_)
            refine g_iconst cx 1 (by decide) e_X11_hurries_243 ?_
            refine g_isub cx e_X11_hurries_244 ?_
            refine g_topi (fun x42 ex42 => ?_)
            refine g_iast cx 29 (wM X ad F34 (g_u R35 29 (upd (R35 29) (Int32.toNatClampNeg a0) x42))) e_X11_hurries_245 rfl (jv_ix 10 pa0 (by decide)) rfl ?_
            obtain ⟨R43, hR43⟩ : ∃ z, z = g_u R35 29 (upd (R35 29) (Int32.toNatClampNeg a0) x42) := ⟨_, rfl⟩
            rw [← hR43]
            have oR43 : g_okR LA_wM R43 := by rw [hR43]; exact g_okR_u oR35 rfl
            have fR43 : g_fr mr_X11_hurries R R43 := by rw [hR43]; exact g_fr_r fR35 rfl
            have wTR43 : WT F34 R43 := by rw [hR43]; exact WT_r wTF34R35 rfl
            have wCR43 : WC F34 R43 := by rw [hR43]; exact WC_r wCF34R35 rfl
            refine g_aload_n cx 0 rfl e_X11_hurries_246 ?_
            refine g_aload_n cx 0 rfl e_X11_hurries_247 ?_
            refine g_get cx cl_X11 fl_X11_340 0 (.int (F34 67)) e_X11_hurries_248 rfl rfl ?_
            refine g_iconst cx 1 (by decide) e_X11_hurries_251 ?_
            refine g_iload_n cx 1 rfl e_X11_hurries_252 ?_
            refine g_ishl cx e_X11_hurries_253 ?_
            refine g_topi (fun x44 ex44 => ?_)
            refine g_ior cx e_X11_hurries_254 ?_
            refine g_topi (fun x45 ex45 => ?_)
            refine g_put cx cl_X11 fl_X11_340 0 (wM X ad (upd F34 67 x45) R43) e_X11_hurries_255 rfl rfl rfl rfl (Nat.le_of_ble_eq_true rfl) rfl ?_
            obtain ⟨F46, hF46⟩ : ∃ z, z = upd F34 67 x45 := ⟨_, rfl⟩
            rw [← hF46]
            have oF46 : g_ok LK_wM F46 := by rw [hF46]; exact g_ok_u oF34 rfl
            have fF46 : g_fr md_X11_hurries F F46 := by rw [hF46]; exact g_fr_u fF34 rfl
            have wTF46 : WT F46 R43 := by rw [hF46]; exact WT_u wTR43 rfl
            have wCF46 : WC F46 R43 := by rw [hF46]; exact WC_u wCR43 rfl
            exact hret e_X11_hurries_258 (Nat.le_of_ble_eq_true rfl) (Nat.le_of_ble_eq_true rfl) ⟨F46, R43, rfl, oF46, oR43, wTF46, wCF46, fF46, fR43⟩
          · have p47 := gn_eq 0 0 (gc_eq zc40) (jv_t x39) (jv_k (x := 0) 0 (by decide)) (by decide)
            refine g_lsub [] [] rfl ?_
            exact J231  
      refine g_icmp_le cx 196 e_X11_hurries_176 (by decide) (fun zc48 => ?_) (fun zc48 => ?_)
      · refine g_iload cx 0 rfl e_X11_hurries_196 ?_
        refine g_iload cx 6 rfl e_X11_hurries_198 ?_
        refine g_iconst cx 2 (by decide) e_X11_hurries_200 ?_
        refine g_idiv cx (by decide) e_X11_hurries_201 ?_
        refine g_topi (fun x49 ex49 => ?_)
        refine g_icmp_le cx 217 e_X11_hurries_202 (by decide) (fun zc50 => ?_) (fun zc50 => ?_)
        · refine g_lsub [2, 3, 1] [(0, .ref (ad 0)), (1, .int a0), (6, .int y27)] rfl ?_
          exact J217 F25 R28 oF25 fF25 oR28 fR28 wTR28 wCR28
        · have p51 := gn_lt (-2147483648) 2147483646 (gc_nle zc50) (jv_t x49) (jv_t x33) (by decide)
          have p52 := gn_gt (-2147483647) 2147483647 (gc_nle zc50) (jv_t x33) (jv_t x49) (by decide)
          refine g_aload_n cx 2 rfl e_X11_hurries_205 ?_
          refine g_aload_n cx 2 rfl e_X11_hurries_206 ?_
          refine g_get cx cl_X11 fl_X11_334 0 (.int (F25 65)) e_X11_hurries_207 rfl rfl ?_
          refine g_toi (F11 65) ((cF25 65 rfl).trans (cF20 65 rfl)) ?_
          refine g_iconst cx 1 (by decide) e_X11_hurries_210 ?_
          refine g_iload_n cx 3 rfl e_X11_hurries_211 ?_
          refine g_ishl cx e_X11_hurries_212 ?_
          refine g_topi (fun x53 ex53 => ?_)
          refine g_ior cx e_X11_hurries_213 ?_
          refine g_topi (fun x54 ex54 => ?_)
          refine g_put cx cl_X11 fl_X11_334 0 (wM X ad (upd F25 65 x54) R28) e_X11_hurries_214 rfl rfl rfl rfl (Nat.le_of_ble_eq_true rfl) rfl ?_
          obtain ⟨F55, hF55⟩ : ∃ z, z = upd F25 65 x54 := ⟨_, rfl⟩
          rw [← hF55]
          have oF55 : g_ok LK_wM F55 := by rw [hF55]; exact g_ok_u oF25 rfl
          have fF55 : g_fr md_X11_hurries F F55 := by rw [hF55]; exact g_fr_u fF25 rfl
          have wTF55 : WT F55 R28 := by rw [hF55]; exact WT_u wTR28 rfl
          have wCF55 : WC F55 R28 := by rw [hF55]; exact WC_u wCR28 rfl
          refine g_lsub [2, 3, 1] [(0, .ref (ad 0)), (1, .int a0), (6, .int y27)] rfl ?_
          exact J217 F55 R28 oF55 fF55 oR28 fR28 wTF55 wCF55
      · have p56 := gn_lt (-2147483648) 2147483646 (gc_nle zc48) pr17 (jv_t x33) (by decide)
        have p57 := gn_gt (-2147483647) 2147483647 (gc_nle zc48) (jv_t x33) pr17 (by decide)
        refine g_aload_n cx 2 rfl e_X11_hurries_179 ?_
        refine g_get cx cl_X11 fl_X11_92 0 (.ref (ad 28)) e_X11_hurries_180 rfl rfl ?_
        refine g_iload_n cx 3 rfl e_X11_hurries_183 ?_
        refine g_iconst cx 1 (by decide) e_X11_hurries_184 ?_
        refine g_iast cx 28 (wM X ad F25 (g_u R28 28 (upd (R28 28) (Int32.toNatClampNeg a0) 1))) e_X11_hurries_185 rfl (jv_ix 10 pa0 (by decide)) rfl ?_
        obtain ⟨R58, hR58⟩ : ∃ z, z = g_u R28 28 (upd (R28 28) (Int32.toNatClampNeg a0) 1) := ⟨_, rfl⟩
        rw [← hR58]
        have oR58 : g_okR LA_wM R58 := by rw [hR58]; exact g_okR_u oR28 rfl
        have fR58 : g_fr mr_X11_hurries R R58 := by rw [hR58]; exact g_fr_r fR28 rfl
        have wTR58 : WT F25 R58 := by rw [hR58]; exact WT_r wTR28 rfl
        have wCR58 : WC F25 R58 := by rw [hR58]; exact WC_r wCR28 rfl
        refine g_aload_n cx 2 rfl e_X11_hurries_186 ?_
        refine g_get cx cl_X11 fl_X11_89 0 (.ref (ad 27)) e_X11_hurries_187 rfl rfl ?_
        refine g_iload_n cx 3 rfl e_X11_hurries_190 ?_
        refine g_iconst cx 0 (by decide) e_X11_hurries_191 ?_
        refine g_iast cx 27 (wM X ad F25 (g_u R58 27 (upd (R58 27) (Int32.toNatClampNeg a0) 0))) e_X11_hurries_192 rfl (jv_ix 10 pa0 (by decide)) rfl ?_
        obtain ⟨R59, hR59⟩ : ∃ z, z = g_u R58 27 (upd (R58 27) (Int32.toNatClampNeg a0) 0) := ⟨_, rfl⟩
        rw [← hR59]
        have oR59 : g_okR LA_wM R59 := by rw [hR59]; exact g_okR_u oR58 rfl
        have fR59 : g_fr mr_X11_hurries R R59 := by rw [hR59]; exact g_fr_r fR58 rfl
        have wTR59 : WT F25 R59 := by rw [hR59]; exact WT_r wTR58 rfl
        have wCR59 : WC F25 R59 := by rw [hR59]; exact WC_r wCR58 rfl
        refine g_goto cx 217 e_X11_hurries_193 (by decide) ?_
        refine g_lsub [2, 3, 1] [(0, .ref (ad 0)), (1, .int a0), (6, .int y27)] rfl ?_
        exact J217 F25 R59 oF25 fF25 oR59 fR59 wTR59 wCR59
    refine g_icmp_le cx 144 e_X11_hurries_137 (by decide) (fun zc60 => ?_) (fun zc60 => ?_)
    · refine g_iconst cx 0 (by decide) e_X11_hurries_144 ?_
      refine g_lsub [2, 3, 5, 1, 0] [(0, .ref (ad 0)), (1, .int a0), (3, .int y10), (4, .int r14), (5, .int r17)] rfl ?_
      exact J145 0 (jv_w (jv_k (x := 0) 0 (by decide)) (by decide))
    · have p61 := gn_lt (-2147483648) 2147483646 (gc_nle zc60) pr22 pr14 (by decide)
      have p62 := gn_gt (-2147483647) 2147483647 (gc_nle zc60) pr14 pr22 (by decide)
      refine g_iconst cx 1 (by decide) e_X11_hurries_140 ?_
      refine g_goto cx 145 e_X11_hurries_141 (by decide) ?_
      refine g_lsub [2, 3, 5, 1, 0] [(0, .ref (ad 0)), (1, .int a0), (3, .int y10), (4, .int r14), (5, .int r17)] rfl ?_
      exact J145 1 (jv_w (jv_k (x := 1) 1 (by decide)) (by decide))
  refine g_if_eq cx 90 e_X11_hurries_22 (by decide) (fun zc63 => ?_) (fun zc63 => ?_)
  · have p64 := gn_eq 0 0 (gc_eq zc63) pr7 (jv_k (x := 0) 0 (by decide)) (by decide)
    refine g_iconst cx 0 (by decide) e_X11_hurries_90 ?_
    refine g_iload_n cx 1 rfl e_X11_hurries_91 ?_
    refine g_aload_n cx 2 rfl e_X11_hurries_92 ?_
    refine g_bipush cx 115 (by decide) e_X11_hurries_93 ?_
    refine g_iconst cx 1 (by decide) e_X11_hurries_95 ?_
    refine g_bipush cx 40 (by decide) e_X11_hurries_96 ?_
    refine g_cViW cx [.int 115, .int 1, .int 40] [.int x6, .int 0] (w_X11_byLaw l X ad F4 R5 oF4 oR5 wTF4 wCF4 115 1 40) ml_X11_353 yV_X11_byLaw e_X11_hurries_98 (by unfold g_rr; decide) (by decide) 0 rfl rfl rfl (Nat.le_of_ble_eq_true rfl) (fun r65 w66 h67 => ?_)
    obtain ⟨F68, R69, rfl, oF68, oR69, wTF68, wCF68, cF68, cR69, pr65⟩ := h67
    have fF68 : g_fr md_X11_hurries F F68 := g_fr_c fF4 cF68 rfl
    have fR69 : g_fr mr_X11_hurries R R69 := g_fr_c fR5 cR69 rfl
    refine g_isub cx e_X11_hurries_101 ?_
    refine g_topi (fun x70 ex70 => ?_)
    refine g_cSiW cx [.int 0, .int x70] [] (w_X11_max l X ad F68 R69 oF68 oR69 0 x70) ml_X11_371 yS_X11_max rfl e_X11_hurries_102 (by unfold g_rr; decide) (by decide) rfl (Nat.le_of_ble_eq_true rfl) (fun r71 w72 h73 => ?_)
    obtain ⟨rfl, pr71⟩ := h73
    refine g_istore_n cx [(3, .int r71), (2, .int x6), (0, .ref (ad 0)), (1, .int a0)] e_X11_hurries_105 (by decide) rfl ?_
    refine g_lsub [2, 3, 1, 0] [(0, .ref (ad 0)), (1, .int a0), (2, .int x6), (3, .int r71)] rfl ?_
    exact J106 F68 R69 r71 oF68 fF68 oR69 fR69 wTF68 wCF68 pr71
  · have p74 := gn_neL 1 1 (gc_ne zc63) pr7 (jv_k (x := 0) 0 (by decide)) (by decide)
    have zb75 : hb (F 69) a0 := g_hasy hr7 zc63
    refine g_iload_n cx 1 rfl e_X11_hurries_25 ?_
    refine g_aload_n cx 2 rfl e_X11_hurries_26 ?_
    refine g_get cx cl_X11 fl_X11_356 0 (.int (F4 47)) e_X11_hurries_27 rfl rfl ?_
    refine g_toi (F 47) (cF4 47 rfl) ?_
    have J57 : ∀ (F77 : Nat → Int32) (R78 : Nat → Nat → Int32) (y76 : Int32), (g_ok LK_wM F77) → (g_fr md_X11_hurries F F77) → (g_okR LA_wM R78) → (g_fr mr_X11_hurries R R78) → (WT F77 R78) → (WC F77 R78) → (jv (-2147483648) 2147483647 y76) → G X E 8 0 0 (wM X ad F77 R78) [(0, .ref (ad 0)), (1, .int a0), (2, .int x6)] 57 [.int y76] := by
      intro F77 R78 y76 oF77 fF77 oR78 fR78 wTF77R78 wCF77R78 py76
      refine g_istore_n cx [(3, .int y76), (0, .ref (ad 0)), (1, .int a0), (2, .int x6)] e_X11_hurries_57 (by decide) rfl ?_
      refine g_iload_n cx 0 rfl e_X11_hurries_58 ?_
      refine g_aload_n cx 1 rfl e_X11_hurries_59 ?_
      refine g_aload_n cx 1 rfl e_X11_hurries_60 ?_
      refine g_get cx cl_X11 fl_X11_86 0 (.ref (ad 26)) e_X11_hurries_61 rfl rfl ?_
      refine g_iload_n cx 2 rfl e_X11_hurries_64 ?_
      refine g_iald cx 26 e_X11_hurries_65 rfl (jv_ix 10 pa0 (by decide)) ?_
      refine g_topi (fun x79 ex79 => ?_)
      refine g_cViW cx [.int x79] [.int y76] (w_X11_foldPasses l X ad F77 R78 oF77 oR78 wTF77R78 wCF77R78 x79) ml_X11_368 yV_X11_foldPasses e_X11_hurries_66 (by unfold g_rr; decide) (by decide) 0 rfl rfl rfl (Nat.le_of_ble_eq_true rfl) (fun r80 w81 h82 => ?_)
      obtain ⟨rfl, pr80⟩ := h82
      have J85 : ∀ (F84 : Nat → Int32) (R85 : Nat → Nat → Int32) (y83 : Int32), (g_ok LK_wM F84) → (g_fr md_X11_hurries F F84) → (g_okR LA_wM R85) → (g_fr mr_X11_hurries R R85) → (WT F84 R85) → (WC F84 R85) → (jv (-2147483648) 2147483647 y83) → G X E 8 0 0 (wM X ad F84 R85) [(0, .ref (ad 0)), (1, .int a0), (2, .int x6)] 85 [.int y83, .int y76] := by
        intro F84 R85 y83 oF84 fF84 oR85 fR85 wTF84R85 wCF84R85 py83
        refine g_iadd cx e_X11_hurries_85 ?_
        refine g_topi (fun x86 ex86 => ?_)
        refine g_istore_n cx [(3, .int x86), (0, .ref (ad 0)), (1, .int a0), (2, .int x6)] e_X11_hurries_86 (by decide) rfl ?_
        refine g_goto cx 106 e_X11_hurries_87 (by decide) ?_
        refine g_lsub [1, 2, 3, 0] [(0, .ref (ad 0)), (1, .int a0), (2, .int x6), (3, .int x86)] rfl ?_
        exact J106 F84 R85 x86 oF84 fF84 oR85 fR85 wTF84R85 wCF84R85 (jv_t x86)
      refine g_if_eq cx 84 e_X11_hurries_69 (by decide) (fun zc87 => ?_) (fun zc87 => ?_)
      · have p88 := gn_eq 0 0 (gc_eq zc87) pr80 (jv_k (x := 0) 0 (by decide)) (by decide)
        refine g_iconst cx 0 (by decide) e_X11_hurries_84 ?_
        refine g_lsub [1, 2, 3] [(0, .ref (ad 0)), (1, .int a0), (2, .int x6)] rfl ?_
        exact J85 F77 R78 0 oF77 fF77 oR78 fR78 wTF77R78 wCF77R78 (jv_w (jv_k (x := 0) 0 (by decide)) (by decide))
      · have p89 := gn_neL 1 1 (gc_ne zc87) pr80 (jv_k (x := 0) 0 (by decide)) (by decide)
        refine g_aload_n cx 1 rfl e_X11_hurries_72 ?_
        refine g_bipush cx 106 (by decide) e_X11_hurries_73 ?_
        refine g_iconst cx 0 (by decide) e_X11_hurries_75 ?_
        refine g_bipush cx 40 (by decide) e_X11_hurries_76 ?_
        refine g_cViW cx [.int 106, .int 0, .int 40] [.int y76] (w_X11_byLaw l X ad F77 R78 oF77 oR78 wTF77R78 wCF77R78 106 0 40) ml_X11_353 yV_X11_byLaw e_X11_hurries_78 (by unfold g_rr; decide) (by decide) 0 rfl rfl rfl (Nat.le_of_ble_eq_true rfl) (fun r90 w91 h92 => ?_)
        obtain ⟨F93, R94, rfl, oF93, oR94, wTF93, wCF93, cF93, cR94, pr90⟩ := h92
        have fF93 : g_fr md_X11_hurries F F93 := g_fr_c fF77 cF93 rfl
        have fR94 : g_fr mr_X11_hurries R R94 := g_fr_c fR78 cR94 rfl
        refine g_goto cx 85 e_X11_hurries_81 (by decide) ?_
        refine g_lsub [1, 2, 3] [(0, .ref (ad 0)), (1, .int a0), (2, .int x6)] rfl ?_
        exact J85 F93 R94 r90 oF93 fF93 oR94 fR94 wTF93 wCF93 pr90
    refine g_icmp_le cx 39 e_X11_hurries_30 (by decide) (fun zc95 => ?_) (fun zc95 => ?_)
    · refine g_iload_n cx 1 rfl e_X11_hurries_39 ?_
      refine g_aload_n cx 2 rfl e_X11_hurries_40 ?_
      refine g_bipush cx 97 (by decide) e_X11_hurries_41 ?_
      refine g_iconst cx 0 (by decide) e_X11_hurries_43 ?_
      refine g_bipush cx 40 (by decide) e_X11_hurries_44 ?_
      refine g_cViW cx [.int 97, .int 0, .int 40] [.int x6] (w_X11_byLaw l X ad F4 R5 oF4 oR5 wTF4 wCF4 97 0 40) ml_X11_353 yV_X11_byLaw e_X11_hurries_46 (by unfold g_rr; decide) (by decide) 0 rfl rfl rfl (Nat.le_of_ble_eq_true rfl) (fun r96 w97 h98 => ?_)
      obtain ⟨F99, R100, rfl, oF99, oR100, wTF99, wCF99, cF99, cR100, pr96⟩ := h98
      have fF99 : g_fr md_X11_hurries F F99 := g_fr_c fF4 cF99 rfl
      have fR100 : g_fr mr_X11_hurries R R100 := g_fr_c fR5 cR100 rfl
      refine g_iadd cx e_X11_hurries_49 ?_
      refine g_topi (fun x101 ex101 => ?_)
      refine g_aload_n cx 2 rfl e_X11_hurries_50 ?_
      refine g_get cx cl_X11 fl_X11_356 0 (.int (F99 47)) e_X11_hurries_51 rfl rfl ?_
      refine g_toi (F 47) ((cF99 47 rfl).trans (cF4 47 rfl)) ?_
      refine g_cSiW cx [.int x101, .int (F 47)] [] (w_X11_min l X ad F99 R100 oF99 oR100 x101 (F 47)) ml_X11_365 yS_X11_min rfl e_X11_hurries_54 (by unfold g_rr; decide) (by decide) rfl (Nat.le_of_ble_eq_true rfl) (fun r102 w103 h104 => ?_)
      obtain ⟨rfl, pr102⟩ := h104
      refine g_lsub [2, 3, 1] [(0, .ref (ad 0)), (1, .int a0), (2, .int x6)] rfl ?_
      exact J57 F99 R100 r102 oF99 fF99 oR100 fR100 wTF99 wCF99 pr102
    · have p105 := gn_lt (-2147483648) 2147483646 (gc_nle zc95) (jv_t (F 47)) (jv_t x6) (by decide)
      have p106 := gn_gt (-2147483647) 2147483647 (gc_nle zc95) (jv_t x6) (jv_t (F 47)) (by decide)
      refine g_iload_n cx 1 rfl e_X11_hurries_33 ?_
      refine g_iconst cx 1 (by decide) e_X11_hurries_34 ?_
      refine g_isub cx e_X11_hurries_35 ?_
      refine g_topi (fun x107 ex107 => ?_)
      have zx107 := jv_sub (-2147483648) 2147483646 ex107 p106 (jv_k (x := 1) 1 (by decide)) (by decide)
      refine g_goto cx 57 e_X11_hurries_36 (by decide) ?_
      refine g_lsub [2, 3, 1] [(0, .ref (ad 0)), (1, .int a0), (2, .int x6)] rfl ?_
      exact J57 F4 R5 x107 oF4 fF4 oR5 fR5 wTF4 wCF4 (jv_w zx107.2 (by decide))
theorem e_X11_goes_0 : g_dc cX11_goes 0 (.aload_n 0) 1 1 := ⟨by decide +kernel, rfl⟩
theorem e_X11_goes_1 : g_dc cX11_goes 1 (.getfield 86) 3 4 := ⟨by decide +kernel, rfl⟩
theorem e_X11_goes_4 : g_dc cX11_goes 4 (.iload_n 1) 1 5 := ⟨by decide +kernel, rfl⟩
theorem e_X11_goes_5 : g_dc cX11_goes 5 (.aload_n 0) 1 6 := ⟨by decide +kernel, rfl⟩
theorem e_X11_goes_6 : g_dc cX11_goes 6 (.getfield 86) 3 9 := ⟨by decide +kernel, rfl⟩
theorem e_X11_goes_9 : g_dc cX11_goes 9 (.iload_n 1) 1 10 := ⟨by decide +kernel, rfl⟩
theorem e_X11_goes_10 : g_dc cX11_goes 10 (.iaload) 1 11 := ⟨by decide +kernel, rfl⟩
theorem e_X11_goes_11 : g_dc cX11_goes 11 (.aload_n 0) 1 12 := ⟨by decide +kernel, rfl⟩
theorem e_X11_goes_12 : g_dc cX11_goes 12 (.getfield 89) 3 15 := ⟨by decide +kernel, rfl⟩
theorem e_X11_goes_15 : g_dc cX11_goes 15 (.iload_n 1) 1 16 := ⟨by decide +kernel, rfl⟩
theorem e_X11_goes_16 : g_dc cX11_goes 16 (.iaload) 1 17 := ⟨by decide +kernel, rfl⟩
theorem e_X11_goes_17 : g_dc cX11_goes 17 (.isub) 1 18 := ⟨by decide +kernel, rfl⟩
theorem e_X11_goes_18 : g_dc cX11_goes 18 (.iastore) 1 19 := ⟨by decide +kernel, rfl⟩
theorem e_X11_goes_19 : g_dc cX11_goes 19 (.aload_n 0) 1 20 := ⟨by decide +kernel, rfl⟩
theorem e_X11_goes_20 : g_dc cX11_goes 20 (.getfield 86) 3 23 := ⟨by decide +kernel, rfl⟩
theorem e_X11_goes_23 : g_dc cX11_goes 23 (.iload_n 1) 1 24 := ⟨by decide +kernel, rfl⟩
theorem e_X11_goes_24 : g_dc cX11_goes 24 (.iaload) 1 25 := ⟨by decide +kernel, rfl⟩
theorem e_X11_goes_25 : g_dc cX11_goes 25 (.ifCond .ge 10) 3 28 := ⟨by decide +kernel, rfl⟩
theorem e_X11_goes_28 : g_dc cX11_goes 28 (.aload_n 0) 1 29 := ⟨by decide +kernel, rfl⟩
theorem e_X11_goes_29 : g_dc cX11_goes 29 (.getfield 92) 3 32 := ⟨by decide +kernel, rfl⟩
theorem e_X11_goes_32 : g_dc cX11_goes 32 (.iload_n 1) 1 33 := ⟨by decide +kernel, rfl⟩
theorem e_X11_goes_33 : g_dc cX11_goes 33 (.iconst 2) 1 34 := ⟨by decide +kernel, rfl⟩
theorem e_X11_goes_34 : g_dc cX11_goes 34 (.iastore) 1 35 := ⟨by decide +kernel, rfl⟩
theorem e_X11_goes_35 : g_dc cX11_goes 35 (.return_) 1 36 := ⟨by decide +kernel, rfl⟩
def md_X11_goes : List Nat := []
def mr_X11_goes : List Nat := [26, 28]
set_option maxHeartbeats 4000000 in
set_option maxRecDepth 100000 in
theorem w_X11_goes (l : Launch) (X : gX) (ad : Nat → Nat) (F : Nat → Int32) (R : Nat → Nat → Int32) (hI : g_ok LK_wM F) (hA : g_okR LA_wM R) (hWT : WT F R) (hWC : WC F R) (a0 : Int32) (pa0 : jv 0 9 a0) : g_Cv l X yX11_goes cX11_goes 2 1 0 0 [.ref (ad 0), .int a0] (wM X ad F R) (fun w => ∃ (F' : Nat → Int32) (R' : Nat → Nat → Int32), w = wM X ad F' R' ∧ g_ok LK_wM F' ∧ g_okR LA_wM R' ∧ WT F' R' ∧ WC F' R' ∧ g_fr md_X11_goes F F' ∧ g_fr mr_X11_goes R R') := by
  refine g_mv (by decide +kernel) (Nat.le_of_ble_eq_true rfl) (fun E cx hret => ?_)
  refine g_aload_n cx 0 rfl e_X11_goes_0 ?_
  refine g_get cx cl_X11 fl_X11_86 0 (.ref (ad 26)) e_X11_goes_1 rfl rfl ?_
  refine g_iload_n cx 1 rfl e_X11_goes_4 ?_
  refine g_aload_n cx 0 rfl e_X11_goes_5 ?_
  refine g_get cx cl_X11 fl_X11_86 0 (.ref (ad 26)) e_X11_goes_6 rfl rfl ?_
  refine g_iload_n cx 1 rfl e_X11_goes_9 ?_
  refine g_iald cx 26 e_X11_goes_10 rfl (jv_ix 10 pa0 (by decide)) ?_
  refine g_topi (fun x1 ex1 => ?_)
  refine g_aload_n cx 0 rfl e_X11_goes_11 ?_
  refine g_get cx cl_X11 fl_X11_89 0 (.ref (ad 27)) e_X11_goes_12 rfl rfl ?_
  refine g_iload_n cx 1 rfl e_X11_goes_15 ?_
  refine g_iald cx 27 e_X11_goes_16 rfl (jv_ix 10 pa0 (by decide)) ?_
  refine g_topi (fun x2 ex2 => ?_)
  refine g_isub cx e_X11_goes_17 ?_
  refine g_topi (fun x3 ex3 => ?_)
  refine g_iast cx 26 (wM X ad F (g_u R 26 (upd (R 26) (Int32.toNatClampNeg a0) x3))) e_X11_goes_18 rfl (jv_ix 10 pa0 (by decide)) rfl ?_
  obtain ⟨R4, hR4⟩ : ∃ z, z = g_u R 26 (upd (R 26) (Int32.toNatClampNeg a0) x3) := ⟨_, rfl⟩
  rw [← hR4]
  have oR4 : g_okR LA_wM R4 := by rw [hR4]; exact g_okR_u hA rfl
  have fR4 : g_fr mr_X11_goes R R4 := by rw [hR4]; exact g_fr_r (g_fr_rf R) rfl
  have wTR4 : WT F R4 := by rw [hR4]; exact WT_r hWT rfl
  have wCR4 : WC F R4 := by rw [hR4]; exact WC_r hWC rfl
  refine g_aload_n cx 0 rfl e_X11_goes_19 ?_
  refine g_get cx cl_X11 fl_X11_86 0 (.ref (ad 26)) e_X11_goes_20 rfl rfl ?_
  refine g_iload_n cx 1 rfl e_X11_goes_23 ?_
  refine g_iald cx 26 e_X11_goes_24 rfl (jv_ix 10 pa0 (by decide)) ?_
  refine g_topi (fun x5 ex5 => ?_)
  have J35 : ∀ (R6 : Nat → Nat → Int32), (g_okR LA_wM R6) → (g_fr mr_X11_goes R R6) → (WT F R6) → (WC F R6) → G X E 2 0 0 (wM X ad F R6) [] 35 [] := by
    intro R6 oR6 fR6 wTR6 wCR6
    exact hret e_X11_goes_35 (Nat.le_of_ble_eq_true rfl) (Nat.le_of_ble_eq_true rfl) ⟨F, R6, rfl, hI, oR6, wTR6, wCR6, (g_fr_rf F), fR6⟩
  refine g_if_ge cx 35 e_X11_goes_25 (by decide) (fun zc7 => ?_) (fun zc7 => ?_)
  · have p8 := gn_ge 0 2147483647 (gc_le zc7) (jv_t x5) (jv_k (x := 0) 0 (by decide)) (by decide)
    refine g_lsub [] [] rfl ?_
    exact J35 R4 oR4 fR4 wTR4 wCR4
  · have p9 := gn_lt (-2147483648) (-1) (gc_nle zc7) (jv_t x5) (jv_k (x := 0) 0 (by decide)) (by decide)
    refine g_aload_n cx 0 rfl e_X11_goes_28 ?_
    refine g_get cx cl_X11 fl_X11_92 0 (.ref (ad 28)) e_X11_goes_29 rfl rfl ?_
    refine g_iload_n cx 1 rfl e_X11_goes_32 ?_
    refine g_iconst cx 2 (by decide) e_X11_goes_33 ?_
    refine g_iast cx 28 (wM X ad F (g_u R4 28 (upd (R4 28) (Int32.toNatClampNeg a0) 2))) e_X11_goes_34 rfl (jv_ix 10 pa0 (by decide)) rfl ?_
    obtain ⟨R10, hR10⟩ : ∃ z, z = g_u R4 28 (upd (R4 28) (Int32.toNatClampNeg a0) 2) := ⟨_, rfl⟩
    rw [← hR10]
    have oR10 : g_okR LA_wM R10 := by rw [hR10]; exact g_okR_u oR4 rfl
    have fR10 : g_fr mr_X11_goes R R10 := by rw [hR10]; exact g_fr_r fR4 rfl
    have wTR10 : WT F R10 := by rw [hR10]; exact WT_r wTR4 rfl
    have wCR10 : WC F R10 := by rw [hR10]; exact WC_r wCR4 rfl
    refine g_lsub [] [] rfl ?_
    exact J35 R10 oR10 fR10 wTR10 wCR10
theorem e_X11_counts_0 : g_dc cX11_counts 0 (.aload_n 0) 1 1 := ⟨by decide +kernel, rfl⟩
theorem e_X11_counts_1 : g_dc cX11_counts 1 (.getfield 116) 3 4 := ⟨by decide +kernel, rfl⟩
theorem e_X11_counts_4 : g_dc cX11_counts 4 (.iload_n 1) 1 5 := ⟨by decide +kernel, rfl⟩
theorem e_X11_counts_5 : g_dc cX11_counts 5 (.iaload) 1 6 := ⟨by decide +kernel, rfl⟩
theorem e_X11_counts_6 : g_dc cX11_counts 6 (.aload_n 0) 1 7 := ⟨by decide +kernel, rfl⟩
theorem e_X11_counts_7 : g_dc cX11_counts 7 (.getfield 86) 3 10 := ⟨by decide +kernel, rfl⟩
theorem e_X11_counts_10 : g_dc cX11_counts 10 (.iload_n 1) 1 11 := ⟨by decide +kernel, rfl⟩
theorem e_X11_counts_11 : g_dc cX11_counts 11 (.iaload) 1 12 := ⟨by decide +kernel, rfl⟩
theorem e_X11_counts_12 : g_dc cX11_counts 12 (.isub) 1 13 := ⟨by decide +kernel, rfl⟩
theorem e_X11_counts_13 : g_dc cX11_counts 13 (.istore_n 2) 1 14 := ⟨by decide +kernel, rfl⟩
theorem e_X11_counts_14 : g_dc cX11_counts 14 (.aload_n 0) 1 15 := ⟨by decide +kernel, rfl⟩
theorem e_X11_counts_15 : g_dc cX11_counts 15 (.getfield 104) 3 18 := ⟨by decide +kernel, rfl⟩
theorem e_X11_counts_18 : g_dc cX11_counts 18 (.iload_n 1) 1 19 := ⟨by decide +kernel, rfl⟩
theorem e_X11_counts_19 : g_dc cX11_counts 19 (.aload_n 0) 1 20 := ⟨by decide +kernel, rfl⟩
theorem e_X11_counts_20 : g_dc cX11_counts 20 (.getfield 104) 3 23 := ⟨by decide +kernel, rfl⟩
theorem e_X11_counts_23 : g_dc cX11_counts 23 (.iload_n 1) 1 24 := ⟨by decide +kernel, rfl⟩
theorem e_X11_counts_24 : g_dc cX11_counts 24 (.iaload) 1 25 := ⟨by decide +kernel, rfl⟩
theorem e_X11_counts_25 : g_dc cX11_counts 25 (.iload_n 2) 1 26 := ⟨by decide +kernel, rfl⟩
theorem e_X11_counts_26 : g_dc cX11_counts 26 (.iadd) 1 27 := ⟨by decide +kernel, rfl⟩
theorem e_X11_counts_27 : g_dc cX11_counts 27 (.iastore) 1 28 := ⟨by decide +kernel, rfl⟩
theorem e_X11_counts_28 : g_dc cX11_counts 28 (.aload_n 0) 1 29 := ⟨by decide +kernel, rfl⟩
theorem e_X11_counts_29 : g_dc cX11_counts 29 (.getfield 377) 3 32 := ⟨by decide +kernel, rfl⟩
theorem e_X11_counts_32 : g_dc cX11_counts 32 (.iload_n 1) 1 33 := ⟨by decide +kernel, rfl⟩
theorem e_X11_counts_33 : g_dc cX11_counts 33 (.invokestatic 175) 3 36 := ⟨by decide +kernel, rfl⟩
theorem e_X11_counts_36 : g_dc cX11_counts 36 (.ifCond .eq 20) 3 39 := ⟨by decide +kernel, rfl⟩
theorem e_X11_counts_39 : g_dc cX11_counts 39 (.aload_n 0) 1 40 := ⟨by decide +kernel, rfl⟩
theorem e_X11_counts_40 : g_dc cX11_counts 40 (.getfield 113) 3 43 := ⟨by decide +kernel, rfl⟩
theorem e_X11_counts_43 : g_dc cX11_counts 43 (.iload_n 1) 1 44 := ⟨by decide +kernel, rfl⟩
theorem e_X11_counts_44 : g_dc cX11_counts 44 (.aload_n 0) 1 45 := ⟨by decide +kernel, rfl⟩
theorem e_X11_counts_45 : g_dc cX11_counts 45 (.getfield 113) 3 48 := ⟨by decide +kernel, rfl⟩
theorem e_X11_counts_48 : g_dc cX11_counts 48 (.iload_n 1) 1 49 := ⟨by decide +kernel, rfl⟩
theorem e_X11_counts_49 : g_dc cX11_counts 49 (.iaload) 1 50 := ⟨by decide +kernel, rfl⟩
theorem e_X11_counts_50 : g_dc cX11_counts 50 (.iload_n 2) 1 51 := ⟨by decide +kernel, rfl⟩
theorem e_X11_counts_51 : g_dc cX11_counts 51 (.iadd) 1 52 := ⟨by decide +kernel, rfl⟩
theorem e_X11_counts_52 : g_dc cX11_counts 52 (.iastore) 1 53 := ⟨by decide +kernel, rfl⟩
theorem e_X11_counts_53 : g_dc cX11_counts 53 (.goto 45) 3 56 := ⟨by decide +kernel, rfl⟩
theorem e_X11_counts_56 : g_dc cX11_counts 56 (.aload_n 0) 1 57 := ⟨by decide +kernel, rfl⟩
theorem e_X11_counts_57 : g_dc cX11_counts 57 (.getfield 362) 3 60 := ⟨by decide +kernel, rfl⟩
theorem e_X11_counts_60 : g_dc cX11_counts 60 (.iload_n 1) 1 61 := ⟨by decide +kernel, rfl⟩
theorem e_X11_counts_61 : g_dc cX11_counts 61 (.invokestatic 175) 3 64 := ⟨by decide +kernel, rfl⟩
theorem e_X11_counts_64 : g_dc cX11_counts 64 (.ifCond .eq 20) 3 67 := ⟨by decide +kernel, rfl⟩
theorem e_X11_counts_67 : g_dc cX11_counts 67 (.aload_n 0) 1 68 := ⟨by decide +kernel, rfl⟩
theorem e_X11_counts_68 : g_dc cX11_counts 68 (.getfield 107) 3 71 := ⟨by decide +kernel, rfl⟩
theorem e_X11_counts_71 : g_dc cX11_counts 71 (.iload_n 1) 1 72 := ⟨by decide +kernel, rfl⟩
theorem e_X11_counts_72 : g_dc cX11_counts 72 (.aload_n 0) 1 73 := ⟨by decide +kernel, rfl⟩
theorem e_X11_counts_73 : g_dc cX11_counts 73 (.getfield 107) 3 76 := ⟨by decide +kernel, rfl⟩
theorem e_X11_counts_76 : g_dc cX11_counts 76 (.iload_n 1) 1 77 := ⟨by decide +kernel, rfl⟩
theorem e_X11_counts_77 : g_dc cX11_counts 77 (.iaload) 1 78 := ⟨by decide +kernel, rfl⟩
theorem e_X11_counts_78 : g_dc cX11_counts 78 (.iload_n 2) 1 79 := ⟨by decide +kernel, rfl⟩
theorem e_X11_counts_79 : g_dc cX11_counts 79 (.iadd) 1 80 := ⟨by decide +kernel, rfl⟩
theorem e_X11_counts_80 : g_dc cX11_counts 80 (.iastore) 1 81 := ⟨by decide +kernel, rfl⟩
theorem e_X11_counts_81 : g_dc cX11_counts 81 (.goto 17) 3 84 := ⟨by decide +kernel, rfl⟩
theorem e_X11_counts_84 : g_dc cX11_counts 84 (.aload_n 0) 1 85 := ⟨by decide +kernel, rfl⟩
theorem e_X11_counts_85 : g_dc cX11_counts 85 (.getfield 110) 3 88 := ⟨by decide +kernel, rfl⟩
theorem e_X11_counts_88 : g_dc cX11_counts 88 (.iload_n 1) 1 89 := ⟨by decide +kernel, rfl⟩
theorem e_X11_counts_89 : g_dc cX11_counts 89 (.aload_n 0) 1 90 := ⟨by decide +kernel, rfl⟩
theorem e_X11_counts_90 : g_dc cX11_counts 90 (.getfield 110) 3 93 := ⟨by decide +kernel, rfl⟩
theorem e_X11_counts_93 : g_dc cX11_counts 93 (.iload_n 1) 1 94 := ⟨by decide +kernel, rfl⟩
theorem e_X11_counts_94 : g_dc cX11_counts 94 (.iaload) 1 95 := ⟨by decide +kernel, rfl⟩
theorem e_X11_counts_95 : g_dc cX11_counts 95 (.iload_n 2) 1 96 := ⟨by decide +kernel, rfl⟩
theorem e_X11_counts_96 : g_dc cX11_counts 96 (.iadd) 1 97 := ⟨by decide +kernel, rfl⟩
theorem e_X11_counts_97 : g_dc cX11_counts 97 (.iastore) 1 98 := ⟨by decide +kernel, rfl⟩
theorem e_X11_counts_98 : g_dc cX11_counts 98 (.return_) 1 99 := ⟨by decide +kernel, rfl⟩
def md_X11_counts : List Nat := []
def mr_X11_counts : List Nat := [32, 33, 34, 35]
set_option maxHeartbeats 4000000 in
set_option maxRecDepth 100000 in
theorem w_X11_counts (l : Launch) (X : gX) (ad : Nat → Nat) (F : Nat → Int32) (R : Nat → Nat → Int32) (hI : g_ok LK_wM F) (hA : g_okR LA_wM R) (hWT : WT F R) (hWC : WC F R) (a0 : Int32) (pa0 : jv 0 9 a0) : g_Cv l X yX11_counts cX11_counts 3 2 0 0 [.ref (ad 0), .int a0] (wM X ad F R) (fun w => ∃ (F' : Nat → Int32) (R' : Nat → Nat → Int32), w = wM X ad F' R' ∧ g_ok LK_wM F' ∧ g_okR LA_wM R' ∧ WT F' R' ∧ WC F' R' ∧ g_fr md_X11_counts F F' ∧ g_fr mr_X11_counts R R') := by
  refine g_mv (by decide +kernel) (Nat.le_of_ble_eq_true rfl) (fun E cx hret => ?_)
  refine g_aload_n cx 0 rfl e_X11_counts_0 ?_
  refine g_get cx cl_X11 fl_X11_116 0 (.ref (ad 36)) e_X11_counts_1 rfl rfl ?_
  refine g_iload_n cx 1 rfl e_X11_counts_4 ?_
  refine g_iald cx 36 e_X11_counts_5 rfl (jv_ix 10 pa0 (by decide)) ?_
  refine g_topi (fun x1 ex1 => ?_)
  refine g_aload_n cx 0 rfl e_X11_counts_6 ?_
  refine g_get cx cl_X11 fl_X11_86 0 (.ref (ad 26)) e_X11_counts_7 rfl rfl ?_
  refine g_iload_n cx 1 rfl e_X11_counts_10 ?_
  refine g_iald cx 26 e_X11_counts_11 rfl (jv_ix 10 pa0 (by decide)) ?_
  refine g_topi (fun x2 ex2 => ?_)
  refine g_isub cx e_X11_counts_12 ?_
  refine g_topi (fun x3 ex3 => ?_)
  refine g_istore_n cx [(2, .int x3), (0, .ref (ad 0)), (1, .int a0)] e_X11_counts_13 (by decide) rfl ?_
  refine g_aload_n cx 1 rfl e_X11_counts_14 ?_
  refine g_get cx cl_X11 fl_X11_104 0 (.ref (ad 32)) e_X11_counts_15 rfl rfl ?_
  refine g_iload_n cx 2 rfl e_X11_counts_18 ?_
  refine g_aload_n cx 1 rfl e_X11_counts_19 ?_
  refine g_get cx cl_X11 fl_X11_104 0 (.ref (ad 32)) e_X11_counts_20 rfl rfl ?_
  refine g_iload_n cx 2 rfl e_X11_counts_23 ?_
  refine g_iald cx 32 e_X11_counts_24 rfl (jv_ix 10 pa0 (by decide)) ?_
  refine g_topi (fun x4 ex4 => ?_)
  refine g_iload_n cx 0 rfl e_X11_counts_25 ?_
  refine g_iadd cx e_X11_counts_26 ?_
  refine g_topi (fun x5 ex5 => ?_)
  refine g_iast cx 32 (wM X ad F (g_u R 32 (upd (R 32) (Int32.toNatClampNeg a0) x5))) e_X11_counts_27 rfl (jv_ix 10 pa0 (by decide)) rfl ?_
  obtain ⟨R6, hR6⟩ : ∃ z, z = g_u R 32 (upd (R 32) (Int32.toNatClampNeg a0) x5) := ⟨_, rfl⟩
  rw [← hR6]
  have oR6 : g_okR LA_wM R6 := by rw [hR6]; exact g_okR_u hA rfl
  have fR6 : g_fr mr_X11_counts R R6 := by rw [hR6]; exact g_fr_r (g_fr_rf R) rfl
  have wTR6 : WT F R6 := by rw [hR6]; exact WT_r hWT rfl
  have wCR6 : WC F R6 := by rw [hR6]; exact WC_r hWC rfl
  refine g_aload_n cx 1 rfl e_X11_counts_28 ?_
  refine g_get cx cl_X11 fl_X11_377 0 (.int (F 68)) e_X11_counts_29 rfl rfl ?_
  refine g_iload_n cx 2 rfl e_X11_counts_32 ?_
  refine g_cSiW cx [.int (F 68), .int a0] [] (c_X11_has l X (wM X ad F R6) (F 68) a0) ml_X11_175 yS_X11_has rfl e_X11_counts_33 (by unfold g_rr; decide) (by decide) rfl (Nat.le_of_ble_eq_true rfl) (fun r7 w8 h9 => ?_)
  obtain ⟨rfl, hr7⟩ := h9
  have pr7 : jv 0 1 r7 := by rcases hr7 with q | q <;> rw [q.1] <;> exact ⟨by decide, by decide⟩
  have J98 : ∀ (R10 : Nat → Nat → Int32), (g_okR LA_wM R10) → (g_fr mr_X11_counts R R10) → (WT F R10) → (WC F R10) → G X E 3 0 0 (wM X ad F R10) [] 98 [] := by
    intro R10 oR10 fR10 wTR10 wCR10
    exact hret e_X11_counts_98 (Nat.le_of_ble_eq_true rfl) (Nat.le_of_ble_eq_true rfl) ⟨F, R10, rfl, hI, oR10, wTR10, wCR10, (g_fr_rf F), fR10⟩
  refine g_if_eq cx 56 e_X11_counts_36 (by decide) (fun zc11 => ?_) (fun zc11 => ?_)
  · have p12 := gn_eq 0 0 (gc_eq zc11) pr7 (jv_k (x := 0) 0 (by decide)) (by decide)
    refine g_aload_n cx 1 rfl e_X11_counts_56 ?_
    refine g_get cx cl_X11 fl_X11_362 0 (.int (F 69)) e_X11_counts_57 rfl rfl ?_
    refine g_iload_n cx 2 rfl e_X11_counts_60 ?_
    refine g_cSiW cx [.int (F 69), .int a0] [] (c_X11_has l X (wM X ad F R6) (F 69) a0) ml_X11_175 yS_X11_has rfl e_X11_counts_61 (by unfold g_rr; decide) (by decide) rfl (Nat.le_of_ble_eq_true rfl) (fun r13 w14 h15 => ?_)
    obtain ⟨rfl, hr13⟩ := h15
    have pr13 : jv 0 1 r13 := by rcases hr13 with q | q <;> rw [q.1] <;> exact ⟨by decide, by decide⟩
    refine g_if_eq cx 84 e_X11_counts_64 (by decide) (fun zc16 => ?_) (fun zc16 => ?_)
    · have p17 := gn_eq 0 0 (gc_eq zc16) pr13 (jv_k (x := 0) 0 (by decide)) (by decide)
      refine g_aload_n cx 1 rfl e_X11_counts_84 ?_
      refine g_get cx cl_X11 fl_X11_110 0 (.ref (ad 34)) e_X11_counts_85 rfl rfl ?_
      refine g_iload_n cx 2 rfl e_X11_counts_88 ?_
      refine g_aload_n cx 1 rfl e_X11_counts_89 ?_
      refine g_get cx cl_X11 fl_X11_110 0 (.ref (ad 34)) e_X11_counts_90 rfl rfl ?_
      refine g_iload_n cx 2 rfl e_X11_counts_93 ?_
      refine g_iald cx 34 e_X11_counts_94 rfl (jv_ix 10 pa0 (by decide)) ?_
      refine g_topi (fun x18 ex18 => ?_)
      refine g_iload_n cx 0 rfl e_X11_counts_95 ?_
      refine g_iadd cx e_X11_counts_96 ?_
      refine g_topi (fun x19 ex19 => ?_)
      refine g_iast cx 34 (wM X ad F (g_u R6 34 (upd (R6 34) (Int32.toNatClampNeg a0) x19))) e_X11_counts_97 rfl (jv_ix 10 pa0 (by decide)) rfl ?_
      obtain ⟨R20, hR20⟩ : ∃ z, z = g_u R6 34 (upd (R6 34) (Int32.toNatClampNeg a0) x19) := ⟨_, rfl⟩
      rw [← hR20]
      have oR20 : g_okR LA_wM R20 := by rw [hR20]; exact g_okR_u oR6 rfl
      have fR20 : g_fr mr_X11_counts R R20 := by rw [hR20]; exact g_fr_r fR6 rfl
      have wTR20 : WT F R20 := by rw [hR20]; exact WT_r wTR6 rfl
      have wCR20 : WC F R20 := by rw [hR20]; exact WC_r wCR6 rfl
      refine g_lsub [] [] rfl ?_
      exact J98 R20 oR20 fR20 wTR20 wCR20
    · have p21 := gn_neL 1 1 (gc_ne zc16) pr13 (jv_k (x := 0) 0 (by decide)) (by decide)
      have zb22 : hb (F 69) a0 := g_hasy hr13 zc16
      refine g_aload_n cx 1 rfl e_X11_counts_67 ?_
      refine g_get cx cl_X11 fl_X11_107 0 (.ref (ad 33)) e_X11_counts_68 rfl rfl ?_
      refine g_iload_n cx 2 rfl e_X11_counts_71 ?_
      refine g_aload_n cx 1 rfl e_X11_counts_72 ?_
      refine g_get cx cl_X11 fl_X11_107 0 (.ref (ad 33)) e_X11_counts_73 rfl rfl ?_
      refine g_iload_n cx 2 rfl e_X11_counts_76 ?_
      refine g_iald cx 33 e_X11_counts_77 rfl (jv_ix 10 pa0 (by decide)) ?_
      refine g_topi (fun x23 ex23 => ?_)
      refine g_iload_n cx 0 rfl e_X11_counts_78 ?_
      refine g_iadd cx e_X11_counts_79 ?_
      refine g_topi (fun x24 ex24 => ?_)
      refine g_iast cx 33 (wM X ad F (g_u R6 33 (upd (R6 33) (Int32.toNatClampNeg a0) x24))) e_X11_counts_80 rfl (jv_ix 10 pa0 (by decide)) rfl ?_
      obtain ⟨R25, hR25⟩ : ∃ z, z = g_u R6 33 (upd (R6 33) (Int32.toNatClampNeg a0) x24) := ⟨_, rfl⟩
      rw [← hR25]
      have oR25 : g_okR LA_wM R25 := by rw [hR25]; exact g_okR_u oR6 rfl
      have fR25 : g_fr mr_X11_counts R R25 := by rw [hR25]; exact g_fr_r fR6 rfl
      have wTR25 : WT F R25 := by rw [hR25]; exact WT_r wTR6 rfl
      have wCR25 : WC F R25 := by rw [hR25]; exact WC_r wCR6 rfl
      refine g_goto cx 98 e_X11_counts_81 (by decide) ?_
      refine g_lsub [] [] rfl ?_
      exact J98 R25 oR25 fR25 wTR25 wCR25
  · have p26 := gn_neL 1 1 (gc_ne zc11) pr7 (jv_k (x := 0) 0 (by decide)) (by decide)
    have zb27 : hb (F 68) a0 := g_hasy hr7 zc11
    refine g_aload_n cx 1 rfl e_X11_counts_39 ?_
    refine g_get cx cl_X11 fl_X11_113 0 (.ref (ad 35)) e_X11_counts_40 rfl rfl ?_
    refine g_iload_n cx 2 rfl e_X11_counts_43 ?_
    refine g_aload_n cx 1 rfl e_X11_counts_44 ?_
    refine g_get cx cl_X11 fl_X11_113 0 (.ref (ad 35)) e_X11_counts_45 rfl rfl ?_
    refine g_iload_n cx 2 rfl e_X11_counts_48 ?_
    refine g_iald cx 35 e_X11_counts_49 rfl (jv_ix 10 pa0 (by decide)) ?_
    refine g_topi (fun x28 ex28 => ?_)
    refine g_iload_n cx 0 rfl e_X11_counts_50 ?_
    refine g_iadd cx e_X11_counts_51 ?_
    refine g_topi (fun x29 ex29 => ?_)
    refine g_iast cx 35 (wM X ad F (g_u R6 35 (upd (R6 35) (Int32.toNatClampNeg a0) x29))) e_X11_counts_52 rfl (jv_ix 10 pa0 (by decide)) rfl ?_
    obtain ⟨R30, hR30⟩ : ∃ z, z = g_u R6 35 (upd (R6 35) (Int32.toNatClampNeg a0) x29) := ⟨_, rfl⟩
    rw [← hR30]
    have oR30 : g_okR LA_wM R30 := by rw [hR30]; exact g_okR_u oR6 rfl
    have fR30 : g_fr mr_X11_counts R R30 := by rw [hR30]; exact g_fr_r fR6 rfl
    have wTR30 : WT F R30 := by rw [hR30]; exact WT_r wTR6 rfl
    have wCR30 : WC F R30 := by rw [hR30]; exact WC_r wCR6 rfl
    refine g_goto cx 98 e_X11_counts_53 (by decide) ?_
    refine g_lsub [] [] rfl ?_
    exact J98 R30 oR30 fR30 wTR30 wCR30
theorem e_X11_meet_0 : g_dc cX11_meet 0 (.aload_n 0) 1 1 := ⟨by decide +kernel, rfl⟩
theorem e_X11_meet_1 : g_dc cX11_meet 1 (.getfield 16) 3 4 := ⟨by decide +kernel, rfl⟩
theorem e_X11_meet_4 : g_dc cX11_meet 4 (.iload_n 1) 1 5 := ⟨by decide +kernel, rfl⟩
theorem e_X11_meet_5 : g_dc cX11_meet 5 (.iaload) 1 6 := ⟨by decide +kernel, rfl⟩
theorem e_X11_meet_6 : g_dc cX11_meet 6 (.aload_n 0) 1 7 := ⟨by decide +kernel, rfl⟩
theorem e_X11_meet_7 : g_dc cX11_meet 7 (.getfield 16) 3 10 := ⟨by decide +kernel, rfl⟩
theorem e_X11_meet_10 : g_dc cX11_meet 10 (.iload_n 2) 1 11 := ⟨by decide +kernel, rfl⟩
theorem e_X11_meet_11 : g_dc cX11_meet 11 (.iaload) 1 12 := ⟨by decide +kernel, rfl⟩
theorem e_X11_meet_12 : g_dc cX11_meet 12 (.iadd) 1 13 := ⟨by decide +kernel, rfl⟩
theorem e_X11_meet_13 : g_dc cX11_meet 13 (.iconst 2) 1 14 := ⟨by decide +kernel, rfl⟩
theorem e_X11_meet_14 : g_dc cX11_meet 14 (.idiv) 1 15 := ⟨by decide +kernel, rfl⟩
theorem e_X11_meet_15 : g_dc cX11_meet 15 (.istore_n 3) 1 16 := ⟨by decide +kernel, rfl⟩
theorem e_X11_meet_16 : g_dc cX11_meet 16 (.aload_n 0) 1 17 := ⟨by decide +kernel, rfl⟩
theorem e_X11_meet_17 : g_dc cX11_meet 17 (.getfield 86) 3 20 := ⟨by decide +kernel, rfl⟩
theorem e_X11_meet_20 : g_dc cX11_meet 20 (.iload_n 2) 1 21 := ⟨by decide +kernel, rfl⟩
theorem e_X11_meet_21 : g_dc cX11_meet 21 (.iaload) 1 22 := ⟨by decide +kernel, rfl⟩
theorem e_X11_meet_22 : g_dc cX11_meet 22 (.aload_n 0) 1 23 := ⟨by decide +kernel, rfl⟩
theorem e_X11_meet_23 : g_dc cX11_meet 23 (.getfield 86) 3 26 := ⟨by decide +kernel, rfl⟩
theorem e_X11_meet_26 : g_dc cX11_meet 26 (.iload_n 1) 1 27 := ⟨by decide +kernel, rfl⟩
theorem e_X11_meet_27 : g_dc cX11_meet 27 (.iaload) 1 28 := ⟨by decide +kernel, rfl⟩
theorem e_X11_meet_28 : g_dc cX11_meet 28 (.isub) 1 29 := ⟨by decide +kernel, rfl⟩
theorem e_X11_meet_29 : g_dc cX11_meet 29 (.iload_n 3) 1 30 := ⟨by decide +kernel, rfl⟩
theorem e_X11_meet_30 : g_dc cX11_meet 30 (.if_icmp .ge 18) 3 33 := ⟨by decide +kernel, rfl⟩
theorem e_X11_meet_33 : g_dc cX11_meet 33 (.aload_n 0) 1 34 := ⟨by decide +kernel, rfl⟩
theorem e_X11_meet_34 : g_dc cX11_meet 34 (.getfield 89) 3 37 := ⟨by decide +kernel, rfl⟩
theorem e_X11_meet_37 : g_dc cX11_meet 37 (.iload_n 2) 1 38 := ⟨by decide +kernel, rfl⟩
theorem e_X11_meet_38 : g_dc cX11_meet 38 (.iaload) 1 39 := ⟨by decide +kernel, rfl⟩
theorem e_X11_meet_39 : g_dc cX11_meet 39 (.aload_n 0) 1 40 := ⟨by decide +kernel, rfl⟩
theorem e_X11_meet_40 : g_dc cX11_meet 40 (.getfield 89) 3 43 := ⟨by decide +kernel, rfl⟩
theorem e_X11_meet_43 : g_dc cX11_meet 43 (.iload_n 1) 1 44 := ⟨by decide +kernel, rfl⟩
theorem e_X11_meet_44 : g_dc cX11_meet 44 (.iaload) 1 45 := ⟨by decide +kernel, rfl⟩
theorem e_X11_meet_45 : g_dc cX11_meet 45 (.if_icmp .gt 4) 3 48 := ⟨by decide +kernel, rfl⟩
theorem e_X11_meet_48 : g_dc cX11_meet 48 (.return_) 1 49 := ⟨by decide +kernel, rfl⟩
theorem e_X11_meet_49 : g_dc cX11_meet 49 (.aload_n 0) 1 50 := ⟨by decide +kernel, rfl⟩
theorem e_X11_meet_50 : g_dc cX11_meet 50 (.getfield 89) 3 53 := ⟨by decide +kernel, rfl⟩
theorem e_X11_meet_53 : g_dc cX11_meet 53 (.iload_n 1) 1 54 := ⟨by decide +kernel, rfl⟩
theorem e_X11_meet_54 : g_dc cX11_meet 54 (.iaload) 1 55 := ⟨by decide +kernel, rfl⟩
theorem e_X11_meet_55 : g_dc cX11_meet 55 (.aload_n 0) 1 56 := ⟨by decide +kernel, rfl⟩
theorem e_X11_meet_56 : g_dc cX11_meet 56 (.getfield 22) 3 59 := ⟨by decide +kernel, rfl⟩
theorem e_X11_meet_59 : g_dc cX11_meet 59 (.iload_n 1) 1 60 := ⟨by decide +kernel, rfl⟩
theorem e_X11_meet_60 : g_dc cX11_meet 60 (.iaload) 1 61 := ⟨by decide +kernel, rfl⟩
theorem e_X11_meet_61 : g_dc cX11_meet 61 (.imul) 1 62 := ⟨by decide +kernel, rfl⟩
theorem e_X11_meet_62 : g_dc cX11_meet 62 (.aload_n 0) 1 63 := ⟨by decide +kernel, rfl⟩
theorem e_X11_meet_63 : g_dc cX11_meet 63 (.getfield 89) 3 66 := ⟨by decide +kernel, rfl⟩
theorem e_X11_meet_66 : g_dc cX11_meet 66 (.iload_n 2) 1 67 := ⟨by decide +kernel, rfl⟩
theorem e_X11_meet_67 : g_dc cX11_meet 67 (.iaload) 1 68 := ⟨by decide +kernel, rfl⟩
theorem e_X11_meet_68 : g_dc cX11_meet 68 (.aload_n 0) 1 69 := ⟨by decide +kernel, rfl⟩
theorem e_X11_meet_69 : g_dc cX11_meet 69 (.getfield 22) 3 72 := ⟨by decide +kernel, rfl⟩
theorem e_X11_meet_72 : g_dc cX11_meet 72 (.iload_n 2) 1 73 := ⟨by decide +kernel, rfl⟩
theorem e_X11_meet_73 : g_dc cX11_meet 73 (.iaload) 1 74 := ⟨by decide +kernel, rfl⟩
theorem e_X11_meet_74 : g_dc cX11_meet 74 (.imul) 1 75 := ⟨by decide +kernel, rfl⟩
theorem e_X11_meet_75 : g_dc cX11_meet 75 (.iadd) 1 76 := ⟨by decide +kernel, rfl⟩
theorem e_X11_meet_76 : g_dc cX11_meet 76 (.aload_n 0) 1 77 := ⟨by decide +kernel, rfl⟩
theorem e_X11_meet_77 : g_dc cX11_meet 77 (.getfield 22) 3 80 := ⟨by decide +kernel, rfl⟩
theorem e_X11_meet_80 : g_dc cX11_meet 80 (.iload_n 1) 1 81 := ⟨by decide +kernel, rfl⟩
theorem e_X11_meet_81 : g_dc cX11_meet 81 (.iaload) 1 82 := ⟨by decide +kernel, rfl⟩
theorem e_X11_meet_82 : g_dc cX11_meet 82 (.aload_n 0) 1 83 := ⟨by decide +kernel, rfl⟩
theorem e_X11_meet_83 : g_dc cX11_meet 83 (.getfield 22) 3 86 := ⟨by decide +kernel, rfl⟩
theorem e_X11_meet_86 : g_dc cX11_meet 86 (.iload_n 2) 1 87 := ⟨by decide +kernel, rfl⟩
theorem e_X11_meet_87 : g_dc cX11_meet 87 (.iaload) 1 88 := ⟨by decide +kernel, rfl⟩
theorem e_X11_meet_88 : g_dc cX11_meet 88 (.iadd) 1 89 := ⟨by decide +kernel, rfl⟩
theorem e_X11_meet_89 : g_dc cX11_meet 89 (.idiv) 1 90 := ⟨by decide +kernel, rfl⟩
theorem e_X11_meet_90 : g_dc cX11_meet 90 (.istore 4) 2 92 := ⟨by decide +kernel, rfl⟩
theorem e_X11_meet_92 : g_dc cX11_meet 92 (.aload_n 0) 1 93 := ⟨by decide +kernel, rfl⟩
theorem e_X11_meet_93 : g_dc cX11_meet 93 (.getfield 89) 3 96 := ⟨by decide +kernel, rfl⟩
theorem e_X11_meet_96 : g_dc cX11_meet 96 (.iload_n 1) 1 97 := ⟨by decide +kernel, rfl⟩
theorem e_X11_meet_97 : g_dc cX11_meet 97 (.iload 4) 2 99 := ⟨by decide +kernel, rfl⟩
theorem e_X11_meet_99 : g_dc cX11_meet 99 (.iastore) 1 100 := ⟨by decide +kernel, rfl⟩
theorem e_X11_meet_100 : g_dc cX11_meet 100 (.aload_n 0) 1 101 := ⟨by decide +kernel, rfl⟩
theorem e_X11_meet_101 : g_dc cX11_meet 101 (.getfield 89) 3 104 := ⟨by decide +kernel, rfl⟩
theorem e_X11_meet_104 : g_dc cX11_meet 104 (.iload_n 2) 1 105 := ⟨by decide +kernel, rfl⟩
theorem e_X11_meet_105 : g_dc cX11_meet 105 (.iload 4) 2 107 := ⟨by decide +kernel, rfl⟩
theorem e_X11_meet_107 : g_dc cX11_meet 107 (.iastore) 1 108 := ⟨by decide +kernel, rfl⟩
theorem e_X11_meet_108 : g_dc cX11_meet 108 (.aload_n 0) 1 109 := ⟨by decide +kernel, rfl⟩
theorem e_X11_meet_109 : g_dc cX11_meet 109 (.getfield 86) 3 112 := ⟨by decide +kernel, rfl⟩
theorem e_X11_meet_112 : g_dc cX11_meet 112 (.iload_n 2) 1 113 := ⟨by decide +kernel, rfl⟩
theorem e_X11_meet_113 : g_dc cX11_meet 113 (.aload_n 0) 1 114 := ⟨by decide +kernel, rfl⟩
theorem e_X11_meet_114 : g_dc cX11_meet 114 (.getfield 116) 3 117 := ⟨by decide +kernel, rfl⟩
theorem e_X11_meet_117 : g_dc cX11_meet 117 (.iload_n 2) 1 118 := ⟨by decide +kernel, rfl⟩
theorem e_X11_meet_118 : g_dc cX11_meet 118 (.iaload) 1 119 := ⟨by decide +kernel, rfl⟩
theorem e_X11_meet_119 : g_dc cX11_meet 119 (.aload_n 0) 1 120 := ⟨by decide +kernel, rfl⟩
theorem e_X11_meet_120 : g_dc cX11_meet 120 (.getfield 86) 3 123 := ⟨by decide +kernel, rfl⟩
theorem e_X11_meet_123 : g_dc cX11_meet 123 (.iload_n 1) 1 124 := ⟨by decide +kernel, rfl⟩
theorem e_X11_meet_124 : g_dc cX11_meet 124 (.iaload) 1 125 := ⟨by decide +kernel, rfl⟩
theorem e_X11_meet_125 : g_dc cX11_meet 125 (.iload_n 3) 1 126 := ⟨by decide +kernel, rfl⟩
theorem e_X11_meet_126 : g_dc cX11_meet 126 (.iadd) 1 127 := ⟨by decide +kernel, rfl⟩
theorem e_X11_meet_127 : g_dc cX11_meet 127 (.invokestatic 365) 3 130 := ⟨by decide +kernel, rfl⟩
theorem e_X11_meet_130 : g_dc cX11_meet 130 (.iastore) 1 131 := ⟨by decide +kernel, rfl⟩
theorem e_X11_meet_131 : g_dc cX11_meet 131 (.aload_n 0) 1 132 := ⟨by decide +kernel, rfl⟩
theorem e_X11_meet_132 : g_dc cX11_meet 132 (.aload_n 0) 1 133 := ⟨by decide +kernel, rfl⟩
theorem e_X11_meet_133 : g_dc cX11_meet 133 (.getfield 377) 3 136 := ⟨by decide +kernel, rfl⟩
theorem e_X11_meet_136 : g_dc cX11_meet 136 (.iconst 1) 1 137 := ⟨by decide +kernel, rfl⟩
theorem e_X11_meet_137 : g_dc cX11_meet 137 (.iload_n 1) 1 138 := ⟨by decide +kernel, rfl⟩
theorem e_X11_meet_138 : g_dc cX11_meet 138 (.ishl) 1 139 := ⟨by decide +kernel, rfl⟩
theorem e_X11_meet_139 : g_dc cX11_meet 139 (.ior) 1 140 := ⟨by decide +kernel, rfl⟩
theorem e_X11_meet_140 : g_dc cX11_meet 140 (.iconst 1) 1 141 := ⟨by decide +kernel, rfl⟩
theorem e_X11_meet_141 : g_dc cX11_meet 141 (.iload_n 2) 1 142 := ⟨by decide +kernel, rfl⟩
theorem e_X11_meet_142 : g_dc cX11_meet 142 (.ishl) 1 143 := ⟨by decide +kernel, rfl⟩
theorem e_X11_meet_143 : g_dc cX11_meet 143 (.ior) 1 144 := ⟨by decide +kernel, rfl⟩
theorem e_X11_meet_144 : g_dc cX11_meet 144 (.putfield 377) 3 147 := ⟨by decide +kernel, rfl⟩
theorem e_X11_meet_147 : g_dc cX11_meet 147 (.return_) 1 148 := ⟨by decide +kernel, rfl⟩
def md_X11_meet : List Nat := [68]
def mr_X11_meet : List Nat := [26, 27]
set_option maxHeartbeats 4000000 in
set_option maxRecDepth 100000 in
theorem w_X11_meet (l : Launch) (X : gX) (ad : Nat → Nat) (F : Nat → Int32) (R : Nat → Nat → Int32) (hI : g_ok LK_wM F) (hA : g_okR LA_wM R) (hWT : WT F R) (hWC : WC F R) (a0 : Int32) (a1 : Int32) (pa0 : jv 0 9 a0) (pa1 : jv 0 9 a1) (hpw : 1 ≤ (R 5 a0.toNatClampNeg).toInt) : g_Cv l X yX11_meet cX11_meet 5 2 0 0 [.ref (ad 0), .int a0, .int a1] (wM X ad F R) (fun w => ∃ (F' : Nat → Int32) (R' : Nat → Nat → Int32), w = wM X ad F' R' ∧ g_ok LK_wM F' ∧ g_okR LA_wM R' ∧ WT F' R' ∧ WC F' R' ∧ g_fr md_X11_meet F F' ∧ g_fr mr_X11_meet R R') := by
  refine g_mv (by decide +kernel) (Nat.le_of_ble_eq_true rfl) (fun E cx hret => ?_)
  refine g_aload_n cx 0 rfl e_X11_meet_0 ?_
  refine g_get cx cl_X11 fl_X11_16 0 (.ref (ad 3)) e_X11_meet_1 rfl rfl ?_
  refine g_iload_n cx 1 rfl e_X11_meet_4 ?_
  refine g_iald cx 3 e_X11_meet_5 rfl (jv_ix 10 pa0 (by decide)) ?_
  refine g_topi (fun x1 ex1 => ?_)
  have p2 : jv 0 40 x1 := by rw [ex1]; exact g_okR_g hA 6 rfl (jv_cl 10 pa0 (by decide))
  refine g_aload_n cx 0 rfl e_X11_meet_6 ?_
  refine g_get cx cl_X11 fl_X11_16 0 (.ref (ad 3)) e_X11_meet_7 rfl rfl ?_
  refine g_iload_n cx 2 rfl e_X11_meet_10 ?_
  refine g_iald cx 3 e_X11_meet_11 rfl (jv_ix 10 pa1 (by decide)) ?_
  refine g_topi (fun x3 ex3 => ?_)
  have p4 : jv 0 40 x3 := by rw [ex3]; exact g_okR_g hA 6 rfl (jv_cl 10 pa1 (by decide))
  refine g_iadd cx e_X11_meet_12 ?_
  refine g_topi (fun x5 ex5 => ?_)
  have zx5 := jv_add 0 80 ex5 p2 p4 (by decide)
  refine g_iconst cx 2 (by decide) e_X11_meet_13 ?_
  refine g_idiv cx (by decide) e_X11_meet_14 ?_
  refine g_topi (fun x6 ex6 => ?_)
  have zx6 := jv_div 0 40 ex6 zx5.2 (jv_k (x := 2) 2 (by decide)) (by decide)
  refine g_istore_n cx [(3, .int x6), (0, .ref (ad 0)), (1, .int a0), (2, .int a1)] e_X11_meet_15 (by decide) rfl ?_
  refine g_aload_n cx 1 rfl e_X11_meet_16 ?_
  refine g_get cx cl_X11 fl_X11_86 0 (.ref (ad 26)) e_X11_meet_17 rfl rfl ?_
  refine g_iload_n cx 3 rfl e_X11_meet_20 ?_
  refine g_iald cx 26 e_X11_meet_21 rfl (jv_ix 10 pa1 (by decide)) ?_
  refine g_topi (fun x7 ex7 => ?_)
  refine g_aload_n cx 1 rfl e_X11_meet_22 ?_
  refine g_get cx cl_X11 fl_X11_86 0 (.ref (ad 26)) e_X11_meet_23 rfl rfl ?_
  refine g_iload_n cx 2 rfl e_X11_meet_26 ?_
  refine g_iald cx 26 e_X11_meet_27 rfl (jv_ix 10 pa0 (by decide)) ?_
  refine g_topi (fun x8 ex8 => ?_)
  refine g_isub cx e_X11_meet_28 ?_
  refine g_topi (fun x9 ex9 => ?_)
  refine g_iload_n cx 0 rfl e_X11_meet_29 ?_
  have J48 : G X E 5 0 0 (wM X ad F R) [] 48 [] := by
    exact hret e_X11_meet_48 (Nat.le_of_ble_eq_true rfl) (Nat.le_of_ble_eq_true rfl) ⟨F, R, rfl, hI, hA, hWT, hWC, (g_fr_rf F), (g_fr_rf R)⟩
  refine g_icmp_ge cx 48 e_X11_meet_30 (by decide) (fun zc10 => ?_) (fun zc10 => ?_)
  · have p11 := gn_ge 0 2147483647 (gc_le zc10) (jv_t x9) zx6.2 (by decide)
    refine g_lsub [] [] rfl ?_
    exact J48  
  · have p12 := gn_lt (-2147483648) 39 (gc_nle zc10) (jv_t x9) zx6.2 (by decide)
    refine g_aload_n cx 1 rfl e_X11_meet_33 ?_
    refine g_get cx cl_X11 fl_X11_89 0 (.ref (ad 27)) e_X11_meet_34 rfl rfl ?_
    refine g_iload_n cx 3 rfl e_X11_meet_37 ?_
    refine g_iald cx 27 e_X11_meet_38 rfl (jv_ix 10 pa1 (by decide)) ?_
    refine g_topi (fun x13 ex13 => ?_)
    refine g_aload_n cx 1 rfl e_X11_meet_39 ?_
    refine g_get cx cl_X11 fl_X11_89 0 (.ref (ad 27)) e_X11_meet_40 rfl rfl ?_
    refine g_iload_n cx 2 rfl e_X11_meet_43 ?_
    refine g_iald cx 27 e_X11_meet_44 rfl (jv_ix 10 pa0 (by decide)) ?_
    refine g_topi (fun x14 ex14 => ?_)
    refine g_icmp_gt cx 49 e_X11_meet_45 (by decide) (fun zc15 => ?_) (fun zc15 => ?_)
    · have p16 := gn_lt (-2147483648) 2147483646 (gc_lt zc15) (jv_t x14) (jv_t x13) (by decide)
      have p17 := gn_gt (-2147483647) 2147483647 (gc_lt zc15) (jv_t x13) (jv_t x14) (by decide)
      refine g_aload_n cx 1 rfl e_X11_meet_49 ?_
      refine g_get cx cl_X11 fl_X11_89 0 (.ref (ad 27)) e_X11_meet_50 rfl rfl ?_
      refine g_iload_n cx 2 rfl e_X11_meet_53 ?_
      refine g_iald cx 27 e_X11_meet_54 rfl (jv_ix 10 pa0 (by decide)) ?_
      refine g_topi (fun x18 ex18 => ?_)
      refine g_aload_n cx 1 rfl e_X11_meet_55 ?_
      refine g_get cx cl_X11 fl_X11_22 0 (.ref (ad 5)) e_X11_meet_56 rfl rfl ?_
      refine g_iload_n cx 2 rfl e_X11_meet_59 ?_
      refine g_iald cx 5 e_X11_meet_60 rfl (jv_ix 10 pa0 (by decide)) ?_
      refine g_topi (fun x19 ex19 => ?_)
      have p20 : jv 0 99 x19 := by rw [ex19]; exact g_okR_g hA 7 rfl (jv_cl 10 pa0 (by decide))
      refine g_imul cx e_X11_meet_61 ?_
      refine g_topi (fun x21 ex21 => ?_)
      refine g_aload_n cx 1 rfl e_X11_meet_62 ?_
      refine g_get cx cl_X11 fl_X11_89 0 (.ref (ad 27)) e_X11_meet_63 rfl rfl ?_
      refine g_iload_n cx 3 rfl e_X11_meet_66 ?_
      refine g_iald cx 27 e_X11_meet_67 rfl (jv_ix 10 pa1 (by decide)) ?_
      refine g_topi (fun x22 ex22 => ?_)
      refine g_aload_n cx 1 rfl e_X11_meet_68 ?_
      refine g_get cx cl_X11 fl_X11_22 0 (.ref (ad 5)) e_X11_meet_69 rfl rfl ?_
      refine g_iload_n cx 3 rfl e_X11_meet_72 ?_
      refine g_iald cx 5 e_X11_meet_73 rfl (jv_ix 10 pa1 (by decide)) ?_
      refine g_topi (fun x23 ex23 => ?_)
      have p24 : jv 0 99 x23 := by rw [ex23]; exact g_okR_g hA 7 rfl (jv_cl 10 pa1 (by decide))
      refine g_imul cx e_X11_meet_74 ?_
      refine g_topi (fun x25 ex25 => ?_)
      refine g_iadd cx e_X11_meet_75 ?_
      refine g_topi (fun x26 ex26 => ?_)
      refine g_aload_n cx 1 rfl e_X11_meet_76 ?_
      refine g_get cx cl_X11 fl_X11_22 0 (.ref (ad 5)) e_X11_meet_77 rfl rfl ?_
      refine g_iload_n cx 2 rfl e_X11_meet_80 ?_
      refine g_iald cx 5 e_X11_meet_81 rfl (jv_ix 10 pa0 (by decide)) ?_
      refine g_topi (fun x27 ex27 => ?_)
      have p28 : jv 0 99 x27 := by rw [ex27]; exact g_okR_g hA 7 rfl (jv_cl 10 pa0 (by decide))
      have hwx27 : 1 ≤ x27.toInt := by rw [ex27]; exact hpw
      refine g_aload_n cx 1 rfl e_X11_meet_82 ?_
      refine g_get cx cl_X11 fl_X11_22 0 (.ref (ad 5)) e_X11_meet_83 rfl rfl ?_
      refine g_iload_n cx 3 rfl e_X11_meet_86 ?_
      refine g_iald cx 5 e_X11_meet_87 rfl (jv_ix 10 pa1 (by decide)) ?_
      refine g_topi (fun x29 ex29 => ?_)
      have p30 : jv 0 99 x29 := by rw [ex29]; exact g_okR_g hA 7 rfl (jv_cl 10 pa1 (by decide))
      refine g_iadd cx e_X11_meet_88 ?_
      refine g_topi (fun x31 ex31 => ?_)
      have zx31 := jv_add 0 198 ex31 p28 p30 (by decide)
      refine g_idiv cx (fun h0 => absurd (congrArg Int32.toInt h0) (by have z0 : (0 : Int32).toInt = 0 := rfl; rw [z0]; have q0 := p28.1; have q1 := p28.2; have q2 := p30.1; have q3 := p30.2; have q4 := zx31.2.1; have q5 := zx31.2.2; have q6 := hwx27; have q7 := (g_eq0 zx31.1); omega)) e_X11_meet_89 ?_
      refine g_topi (fun x32 ex32 => ?_)
      refine g_istore cx [(4, .int x32), (3, .int x6), (0, .ref (ad 0)), (1, .int a0), (2, .int a1)] e_X11_meet_90 (by decide) rfl ?_
      refine g_aload_n cx 2 rfl e_X11_meet_92 ?_
      refine g_get cx cl_X11 fl_X11_89 0 (.ref (ad 27)) e_X11_meet_93 rfl rfl ?_
      refine g_iload_n cx 3 rfl e_X11_meet_96 ?_
      refine g_iload cx 0 rfl e_X11_meet_97 ?_
      refine g_iast cx 27 (wM X ad F (g_u R 27 (upd (R 27) (Int32.toNatClampNeg a0) x32))) e_X11_meet_99 rfl (jv_ix 10 pa0 (by decide)) rfl ?_
      obtain ⟨R33, hR33⟩ : ∃ z, z = g_u R 27 (upd (R 27) (Int32.toNatClampNeg a0) x32) := ⟨_, rfl⟩
      rw [← hR33]
      have oR33 : g_okR LA_wM R33 := by rw [hR33]; exact g_okR_u hA rfl
      have fR33 : g_fr mr_X11_meet R R33 := by rw [hR33]; exact g_fr_r (g_fr_rf R) rfl
      have wTR33 : WT F R33 := by rw [hR33]; exact WT_r hWT rfl
      have wCR33 : WC F R33 := by rw [hR33]; exact WC_r hWC rfl
      refine g_aload_n cx 2 rfl e_X11_meet_100 ?_
      refine g_get cx cl_X11 fl_X11_89 0 (.ref (ad 27)) e_X11_meet_101 rfl rfl ?_
      refine g_iload_n cx 4 rfl e_X11_meet_104 ?_
      refine g_iload cx 0 rfl e_X11_meet_105 ?_
      refine g_iast cx 27 (wM X ad F (g_u R33 27 (upd (R33 27) (Int32.toNatClampNeg a1) x32))) e_X11_meet_107 rfl (jv_ix 10 pa1 (by decide)) rfl ?_
      obtain ⟨R34, hR34⟩ : ∃ z, z = g_u R33 27 (upd (R33 27) (Int32.toNatClampNeg a1) x32) := ⟨_, rfl⟩
      rw [← hR34]
      have oR34 : g_okR LA_wM R34 := by rw [hR34]; exact g_okR_u oR33 rfl
      have fR34 : g_fr mr_X11_meet R R34 := by rw [hR34]; exact g_fr_r fR33 rfl
      have wTR34 : WT F R34 := by rw [hR34]; exact WT_r wTR33 rfl
      have wCR34 : WC F R34 := by rw [hR34]; exact WC_r wCR33 rfl
      refine g_aload_n cx 2 rfl e_X11_meet_108 ?_
      refine g_get cx cl_X11 fl_X11_86 0 (.ref (ad 26)) e_X11_meet_109 rfl rfl ?_
      refine g_iload_n cx 4 rfl e_X11_meet_112 ?_
      refine g_aload_n cx 2 rfl e_X11_meet_113 ?_
      refine g_get cx cl_X11 fl_X11_116 0 (.ref (ad 36)) e_X11_meet_114 rfl rfl ?_
      refine g_iload_n cx 4 rfl e_X11_meet_117 ?_
      refine g_iald cx 36 e_X11_meet_118 rfl (jv_ix 10 pa1 (by decide)) ?_
      refine g_topi (fun x35 ex35 => ?_)
      refine g_aload_n cx 2 rfl e_X11_meet_119 ?_
      refine g_get cx cl_X11 fl_X11_86 0 (.ref (ad 26)) e_X11_meet_120 rfl rfl ?_
      refine g_iload_n cx 3 rfl e_X11_meet_123 ?_
      refine g_iald cx 26 e_X11_meet_124 rfl (jv_ix 10 pa0 (by decide)) ?_
      refine g_topi (fun x36 ex36 => ?_)
      refine g_iload_n cx 1 rfl e_X11_meet_125 ?_
      refine g_iadd cx e_X11_meet_126 ?_
      refine g_topi (fun x37 ex37 => ?_)
      refine g_cSiW cx [.int x35, .int x37] [.int a1, .ref (ad 26)] (w_X11_min l X ad F R34 hI oR34 x35 x37) ml_X11_365 yS_X11_min rfl e_X11_meet_127 (by unfold g_rr; decide) (by decide) rfl (Nat.le_of_ble_eq_true rfl) (fun r38 w39 h40 => ?_)
      obtain ⟨rfl, pr38⟩ := h40
      refine g_iast cx 26 (wM X ad F (g_u R34 26 (upd (R34 26) (Int32.toNatClampNeg a1) r38))) e_X11_meet_130 rfl (jv_ix 10 pa1 (by decide)) rfl ?_
      obtain ⟨R41, hR41⟩ : ∃ z, z = g_u R34 26 (upd (R34 26) (Int32.toNatClampNeg a1) r38) := ⟨_, rfl⟩
      rw [← hR41]
      have oR41 : g_okR LA_wM R41 := by rw [hR41]; exact g_okR_u oR34 rfl
      have fR41 : g_fr mr_X11_meet R R41 := by rw [hR41]; exact g_fr_r fR34 rfl
      have wTR41 : WT F R41 := by rw [hR41]; exact WT_r wTR34 rfl
      have wCR41 : WC F R41 := by rw [hR41]; exact WC_r wCR34 rfl
      refine g_aload_n cx 2 rfl e_X11_meet_131 ?_
      refine g_aload_n cx 2 rfl e_X11_meet_132 ?_
      refine g_get cx cl_X11 fl_X11_377 0 (.int (F 68)) e_X11_meet_133 rfl rfl ?_
      refine g_iconst cx 1 (by decide) e_X11_meet_136 ?_
      refine g_iload_n cx 3 rfl e_X11_meet_137 ?_
      refine g_ishl cx e_X11_meet_138 ?_
      refine g_topi (fun x42 ex42 => ?_)
      refine g_ior cx e_X11_meet_139 ?_
      refine g_topi (fun x43 ex43 => ?_)
      refine g_iconst cx 1 (by decide) e_X11_meet_140 ?_
      refine g_iload_n cx 4 rfl e_X11_meet_141 ?_
      refine g_ishl cx e_X11_meet_142 ?_
      refine g_topi (fun x44 ex44 => ?_)
      refine g_ior cx e_X11_meet_143 ?_
      refine g_topi (fun x45 ex45 => ?_)
      refine g_put cx cl_X11 fl_X11_377 0 (wM X ad (upd F 68 x45) R41) e_X11_meet_144 rfl rfl rfl rfl (Nat.le_of_ble_eq_true rfl) rfl ?_
      obtain ⟨F46, hF46⟩ : ∃ z, z = upd F 68 x45 := ⟨_, rfl⟩
      rw [← hF46]
      have oF46 : g_ok LK_wM F46 := by rw [hF46]; exact g_ok_u hI rfl
      have fF46 : g_fr md_X11_meet F F46 := by rw [hF46]; exact g_fr_u (g_fr_rf F) rfl
      have wTF46 : WT F46 R41 := by rw [hF46]; exact WT_u wTR41 rfl
      have wCF46 : WC F46 R41 := by rw [hF46]; exact WC_u wCR41 rfl
      exact hret e_X11_meet_147 (Nat.le_of_ble_eq_true rfl) (Nat.le_of_ble_eq_true rfl) ⟨F46, R41, rfl, oF46, oR41, wTF46, wCF46, fF46, fR41⟩
    · refine g_lsub [] [] rfl ?_
      exact J48  
theorem e_X11_ticks_0 : g_dc cX11_ticks 0 (.aload_n 0) 1 1 := ⟨by decide +kernel, rfl⟩
theorem e_X11_ticks_1 : g_dc cX11_ticks 1 (.iconst 0) 1 2 := ⟨by decide +kernel, rfl⟩
theorem e_X11_ticks_2 : g_dc cX11_ticks 2 (.aload_n 0) 1 3 := ⟨by decide +kernel, rfl⟩
theorem e_X11_ticks_3 : g_dc cX11_ticks 3 (.invokevirtual 350) 3 6 := ⟨by decide +kernel, rfl⟩
theorem e_X11_ticks_6 : g_dc cX11_ticks 6 (.aload_n 0) 1 7 := ⟨by decide +kernel, rfl⟩
theorem e_X11_ticks_7 : g_dc cX11_ticks 7 (.invokevirtual 380) 3 10 := ⟨by decide +kernel, rfl⟩
theorem e_X11_ticks_10 : g_dc cX11_ticks 10 (.isub) 1 11 := ⟨by decide +kernel, rfl⟩
theorem e_X11_ticks_11 : g_dc cX11_ticks 11 (.invokestatic 371) 3 14 := ⟨by decide +kernel, rfl⟩
theorem e_X11_ticks_14 : g_dc cX11_ticks 14 (.putfield 356) 3 17 := ⟨by decide +kernel, rfl⟩
theorem e_X11_ticks_17 : g_dc cX11_ticks 17 (.aload_n 0) 1 18 := ⟨by decide +kernel, rfl⟩
theorem e_X11_ticks_18 : g_dc cX11_ticks 18 (.iconst 0) 1 19 := ⟨by decide +kernel, rfl⟩
theorem e_X11_ticks_19 : g_dc cX11_ticks 19 (.aload_n 0) 1 20 := ⟨by decide +kernel, rfl⟩
theorem e_X11_ticks_20 : g_dc cX11_ticks 20 (.getfield 331) 3 23 := ⟨by decide +kernel, rfl⟩
theorem e_X11_ticks_23 : g_dc cX11_ticks 23 (.aload_n 0) 1 24 := ⟨by decide +kernel, rfl⟩
theorem e_X11_ticks_24 : g_dc cX11_ticks 24 (.getfield 356) 3 27 := ⟨by decide +kernel, rfl⟩
theorem e_X11_ticks_27 : g_dc cX11_ticks 27 (.isub) 1 28 := ⟨by decide +kernel, rfl⟩
theorem e_X11_ticks_28 : g_dc cX11_ticks 28 (.invokestatic 371) 3 31 := ⟨by decide +kernel, rfl⟩
theorem e_X11_ticks_31 : g_dc cX11_ticks 31 (.putfield 331) 3 34 := ⟨by decide +kernel, rfl⟩
theorem e_X11_ticks_34 : g_dc cX11_ticks 34 (.iconst 0) 1 35 := ⟨by decide +kernel, rfl⟩
theorem e_X11_ticks_35 : g_dc cX11_ticks 35 (.istore_n 1) 1 36 := ⟨by decide +kernel, rfl⟩
theorem e_X11_ticks_36 : g_dc cX11_ticks 36 (.aload_n 0) 1 37 := ⟨by decide +kernel, rfl⟩
theorem e_X11_ticks_37 : g_dc cX11_ticks 37 (.iconst 0) 1 38 := ⟨by decide +kernel, rfl⟩
theorem e_X11_ticks_38 : g_dc cX11_ticks 38 (.putfield 362) 3 41 := ⟨by decide +kernel, rfl⟩
theorem e_X11_ticks_41 : g_dc cX11_ticks 41 (.aload_n 0) 1 42 := ⟨by decide +kernel, rfl⟩
theorem e_X11_ticks_42 : g_dc cX11_ticks 42 (.iconst 0) 1 43 := ⟨by decide +kernel, rfl⟩
theorem e_X11_ticks_43 : g_dc cX11_ticks 43 (.putfield 377) 3 46 := ⟨by decide +kernel, rfl⟩
theorem e_X11_ticks_46 : g_dc cX11_ticks 46 (.iconst 0) 1 47 := ⟨by decide +kernel, rfl⟩
theorem e_X11_ticks_47 : g_dc cX11_ticks 47 (.istore_n 2) 1 48 := ⟨by decide +kernel, rfl⟩
theorem e_X11_ticks_48 : g_dc cX11_ticks 48 (.iload_n 2) 1 49 := ⟨by decide +kernel, rfl⟩
theorem e_X11_ticks_49 : g_dc cX11_ticks 49 (.bipush 10) 2 51 := ⟨by decide +kernel, rfl⟩
theorem e_X11_ticks_51 : g_dc cX11_ticks 51 (.if_icmp .ge 63) 3 54 := ⟨by decide +kernel, rfl⟩
theorem e_X11_ticks_54 : g_dc cX11_ticks 54 (.aload_n 0) 1 55 := ⟨by decide +kernel, rfl⟩
theorem e_X11_ticks_55 : g_dc cX11_ticks 55 (.iload_n 2) 1 56 := ⟨by decide +kernel, rfl⟩
theorem e_X11_ticks_56 : g_dc cX11_ticks 56 (.invokevirtual 343) 3 59 := ⟨by decide +kernel, rfl⟩
theorem e_X11_ticks_59 : g_dc cX11_ticks 59 (.ifCond .ne 6) 3 62 := ⟨by decide +kernel, rfl⟩
theorem e_X11_ticks_62 : g_dc cX11_ticks 62 (.goto 46) 3 65 := ⟨by decide +kernel, rfl⟩
theorem e_X11_ticks_65 : g_dc cX11_ticks 65 (.iload_n 1) 1 66 := ⟨by decide +kernel, rfl⟩
theorem e_X11_ticks_66 : g_dc cX11_ticks 66 (.iconst 1) 1 67 := ⟨by decide +kernel, rfl⟩
theorem e_X11_ticks_67 : g_dc cX11_ticks 67 (.iload_n 2) 1 68 := ⟨by decide +kernel, rfl⟩
theorem e_X11_ticks_68 : g_dc cX11_ticks 68 (.ishl) 1 69 := ⟨by decide +kernel, rfl⟩
theorem e_X11_ticks_69 : g_dc cX11_ticks 69 (.ior) 1 70 := ⟨by decide +kernel, rfl⟩
theorem e_X11_ticks_70 : g_dc cX11_ticks 70 (.istore_n 1) 1 71 := ⟨by decide +kernel, rfl⟩
theorem e_X11_ticks_71 : g_dc cX11_ticks 71 (.aload_n 0) 1 72 := ⟨by decide +kernel, rfl⟩
theorem e_X11_ticks_72 : g_dc cX11_ticks 72 (.getfield 116) 3 75 := ⟨by decide +kernel, rfl⟩
theorem e_X11_ticks_75 : g_dc cX11_ticks 75 (.iload_n 2) 1 76 := ⟨by decide +kernel, rfl⟩
theorem e_X11_ticks_76 : g_dc cX11_ticks 76 (.aload_n 0) 1 77 := ⟨by decide +kernel, rfl⟩
theorem e_X11_ticks_77 : g_dc cX11_ticks 77 (.getfield 86) 3 80 := ⟨by decide +kernel, rfl⟩
theorem e_X11_ticks_80 : g_dc cX11_ticks 80 (.iload_n 2) 1 81 := ⟨by decide +kernel, rfl⟩
theorem e_X11_ticks_81 : g_dc cX11_ticks 81 (.iaload) 1 82 := ⟨by decide +kernel, rfl⟩
theorem e_X11_ticks_82 : g_dc cX11_ticks 82 (.iastore) 1 83 := ⟨by decide +kernel, rfl⟩
theorem e_X11_ticks_83 : g_dc cX11_ticks 83 (.aload_n 0) 1 84 := ⟨by decide +kernel, rfl⟩
theorem e_X11_ticks_84 : g_dc cX11_ticks 84 (.getfield 86) 3 87 := ⟨by decide +kernel, rfl⟩
theorem e_X11_ticks_87 : g_dc cX11_ticks 87 (.iload_n 2) 1 88 := ⟨by decide +kernel, rfl⟩
theorem e_X11_ticks_88 : g_dc cX11_ticks 88 (.iaload) 1 89 := ⟨by decide +kernel, rfl⟩
theorem e_X11_ticks_89 : g_dc cX11_ticks 89 (.aload_n 0) 1 90 := ⟨by decide +kernel, rfl⟩
theorem e_X11_ticks_90 : g_dc cX11_ticks 90 (.getfield 331) 3 93 := ⟨by decide +kernel, rfl⟩
theorem e_X11_ticks_93 : g_dc cX11_ticks 93 (.if_icmp .ge 15) 3 96 := ⟨by decide +kernel, rfl⟩
theorem e_X11_ticks_96 : g_dc cX11_ticks 96 (.aload_n 0) 1 97 := ⟨by decide +kernel, rfl⟩
theorem e_X11_ticks_97 : g_dc cX11_ticks 97 (.aload_n 0) 1 98 := ⟨by decide +kernel, rfl⟩
theorem e_X11_ticks_98 : g_dc cX11_ticks 98 (.getfield 362) 3 101 := ⟨by decide +kernel, rfl⟩
theorem e_X11_ticks_101 : g_dc cX11_ticks 101 (.iconst 1) 1 102 := ⟨by decide +kernel, rfl⟩
theorem e_X11_ticks_102 : g_dc cX11_ticks 102 (.iload_n 2) 1 103 := ⟨by decide +kernel, rfl⟩
theorem e_X11_ticks_103 : g_dc cX11_ticks 103 (.ishl) 1 104 := ⟨by decide +kernel, rfl⟩
theorem e_X11_ticks_104 : g_dc cX11_ticks 104 (.ior) 1 105 := ⟨by decide +kernel, rfl⟩
theorem e_X11_ticks_105 : g_dc cX11_ticks 105 (.putfield 362) 3 108 := ⟨by decide +kernel, rfl⟩
theorem e_X11_ticks_108 : g_dc cX11_ticks 108 (.iinc 2 1) 3 111 := ⟨by decide +kernel, rfl⟩
theorem e_X11_ticks_111 : g_dc cX11_ticks 111 (.goto (-63)) 3 114 := ⟨by decide +kernel, rfl⟩
theorem e_X11_ticks_114 : g_dc cX11_ticks 114 (.iconst 0) 1 115 := ⟨by decide +kernel, rfl⟩
theorem e_X11_ticks_115 : g_dc cX11_ticks 115 (.istore_n 2) 1 116 := ⟨by decide +kernel, rfl⟩
theorem e_X11_ticks_116 : g_dc cX11_ticks 116 (.iload_n 2) 1 117 := ⟨by decide +kernel, rfl⟩
theorem e_X11_ticks_117 : g_dc cX11_ticks 117 (.bipush 10) 2 119 := ⟨by decide +kernel, rfl⟩
theorem e_X11_ticks_119 : g_dc cX11_ticks 119 (.if_icmp .ge 22) 3 122 := ⟨by decide +kernel, rfl⟩
theorem e_X11_ticks_122 : g_dc cX11_ticks 122 (.iload_n 1) 1 123 := ⟨by decide +kernel, rfl⟩
theorem e_X11_ticks_123 : g_dc cX11_ticks 123 (.iload_n 2) 1 124 := ⟨by decide +kernel, rfl⟩
theorem e_X11_ticks_124 : g_dc cX11_ticks 124 (.invokestatic 175) 3 127 := ⟨by decide +kernel, rfl⟩
theorem e_X11_ticks_127 : g_dc cX11_ticks 127 (.ifCond .eq 8) 3 130 := ⟨by decide +kernel, rfl⟩
theorem e_X11_ticks_130 : g_dc cX11_ticks 130 (.aload_n 0) 1 131 := ⟨by decide +kernel, rfl⟩
theorem e_X11_ticks_131 : g_dc cX11_ticks 131 (.iload_n 2) 1 132 := ⟨by decide +kernel, rfl⟩
theorem e_X11_ticks_132 : g_dc cX11_ticks 132 (.invokevirtual 383) 3 135 := ⟨by decide +kernel, rfl⟩
theorem e_X11_ticks_135 : g_dc cX11_ticks 135 (.iinc 2 1) 3 138 := ⟨by decide +kernel, rfl⟩
theorem e_X11_ticks_138 : g_dc cX11_ticks 138 (.goto (-22)) 3 141 := ⟨by decide +kernel, rfl⟩
theorem e_X11_ticks_141 : g_dc cX11_ticks 141 (.iconst 0) 1 142 := ⟨by decide +kernel, rfl⟩
theorem e_X11_ticks_142 : g_dc cX11_ticks 142 (.istore_n 2) 1 143 := ⟨by decide +kernel, rfl⟩
theorem e_X11_ticks_143 : g_dc cX11_ticks 143 (.iload_n 2) 1 144 := ⟨by decide +kernel, rfl⟩
theorem e_X11_ticks_144 : g_dc cX11_ticks 144 (.bipush 10) 2 146 := ⟨by decide +kernel, rfl⟩
theorem e_X11_ticks_146 : g_dc cX11_ticks 146 (.if_icmp .ge 31) 3 149 := ⟨by decide +kernel, rfl⟩
theorem e_X11_ticks_149 : g_dc cX11_ticks 149 (.iload_n 1) 1 150 := ⟨by decide +kernel, rfl⟩
theorem e_X11_ticks_150 : g_dc cX11_ticks 150 (.iload_n 2) 1 151 := ⟨by decide +kernel, rfl⟩
theorem e_X11_ticks_151 : g_dc cX11_ticks 151 (.invokestatic 175) 3 154 := ⟨by decide +kernel, rfl⟩
theorem e_X11_ticks_154 : g_dc cX11_ticks 154 (.ifCond .eq 17) 3 157 := ⟨by decide +kernel, rfl⟩
theorem e_X11_ticks_157 : g_dc cX11_ticks 157 (.aload_n 0) 1 158 := ⟨by decide +kernel, rfl⟩
theorem e_X11_ticks_158 : g_dc cX11_ticks 158 (.getfield 92) 3 161 := ⟨by decide +kernel, rfl⟩
theorem e_X11_ticks_161 : g_dc cX11_ticks 161 (.iload_n 2) 1 162 := ⟨by decide +kernel, rfl⟩
theorem e_X11_ticks_162 : g_dc cX11_ticks 162 (.iaload) 1 163 := ⟨by decide +kernel, rfl⟩
theorem e_X11_ticks_163 : g_dc cX11_ticks 163 (.ifCond .ne 8) 3 166 := ⟨by decide +kernel, rfl⟩
theorem e_X11_ticks_166 : g_dc cX11_ticks 166 (.aload_n 0) 1 167 := ⟨by decide +kernel, rfl⟩
theorem e_X11_ticks_167 : g_dc cX11_ticks 167 (.iload_n 2) 1 168 := ⟨by decide +kernel, rfl⟩
theorem e_X11_ticks_168 : g_dc cX11_ticks 168 (.invokevirtual 386) 3 171 := ⟨by decide +kernel, rfl⟩
theorem e_X11_ticks_171 : g_dc cX11_ticks 171 (.iinc 2 1) 3 174 := ⟨by decide +kernel, rfl⟩
theorem e_X11_ticks_174 : g_dc cX11_ticks 174 (.goto (-31)) 3 177 := ⟨by decide +kernel, rfl⟩
theorem e_X11_ticks_177 : g_dc cX11_ticks 177 (.aload_n 0) 1 178 := ⟨by decide +kernel, rfl⟩
theorem e_X11_ticks_178 : g_dc cX11_ticks 178 (.invokevirtual 389) 3 181 := ⟨by decide +kernel, rfl⟩
theorem e_X11_ticks_181 : g_dc cX11_ticks 181 (.istore_n 2) 1 182 := ⟨by decide +kernel, rfl⟩
theorem e_X11_ticks_182 : g_dc cX11_ticks 182 (.iconst 0) 1 183 := ⟨by decide +kernel, rfl⟩
theorem e_X11_ticks_183 : g_dc cX11_ticks 183 (.istore_n 3) 1 184 := ⟨by decide +kernel, rfl⟩
theorem e_X11_ticks_184 : g_dc cX11_ticks 184 (.iload_n 3) 1 185 := ⟨by decide +kernel, rfl⟩
theorem e_X11_ticks_185 : g_dc cX11_ticks 185 (.iconst 1) 1 186 := ⟨by decide +kernel, rfl⟩
theorem e_X11_ticks_186 : g_dc cX11_ticks 186 (.iadd) 1 187 := ⟨by decide +kernel, rfl⟩
theorem e_X11_ticks_187 : g_dc cX11_ticks 187 (.iload_n 2) 1 188 := ⟨by decide +kernel, rfl⟩
theorem e_X11_ticks_188 : g_dc cX11_ticks 188 (.if_icmp .ge 27) 3 191 := ⟨by decide +kernel, rfl⟩
theorem e_X11_ticks_191 : g_dc cX11_ticks 191 (.aload_n 0) 1 192 := ⟨by decide +kernel, rfl⟩
theorem e_X11_ticks_192 : g_dc cX11_ticks 192 (.aload_n 0) 1 193 := ⟨by decide +kernel, rfl⟩
theorem e_X11_ticks_193 : g_dc cX11_ticks 193 (.getfield 119) 3 196 := ⟨by decide +kernel, rfl⟩
theorem e_X11_ticks_196 : g_dc cX11_ticks 196 (.iload_n 3) 1 197 := ⟨by decide +kernel, rfl⟩
theorem e_X11_ticks_197 : g_dc cX11_ticks 197 (.iaload) 1 198 := ⟨by decide +kernel, rfl⟩
theorem e_X11_ticks_198 : g_dc cX11_ticks 198 (.aload_n 0) 1 199 := ⟨by decide +kernel, rfl⟩
theorem e_X11_ticks_199 : g_dc cX11_ticks 199 (.getfield 119) 3 202 := ⟨by decide +kernel, rfl⟩
theorem e_X11_ticks_202 : g_dc cX11_ticks 202 (.iload_n 3) 1 203 := ⟨by decide +kernel, rfl⟩
theorem e_X11_ticks_203 : g_dc cX11_ticks 203 (.iconst 1) 1 204 := ⟨by decide +kernel, rfl⟩
theorem e_X11_ticks_204 : g_dc cX11_ticks 204 (.iadd) 1 205 := ⟨by decide +kernel, rfl⟩
theorem e_X11_ticks_205 : g_dc cX11_ticks 205 (.iaload) 1 206 := ⟨by decide +kernel, rfl⟩
theorem e_X11_ticks_206 : g_dc cX11_ticks 206 (.invokevirtual 392) 3 209 := ⟨by decide +kernel, rfl⟩
theorem e_X11_ticks_209 : g_dc cX11_ticks 209 (.iinc 3 1) 3 212 := ⟨by decide +kernel, rfl⟩
theorem e_X11_ticks_212 : g_dc cX11_ticks 212 (.goto (-28)) 3 215 := ⟨by decide +kernel, rfl⟩
theorem e_X11_ticks_215 : g_dc cX11_ticks 215 (.iconst 0) 1 216 := ⟨by decide +kernel, rfl⟩
theorem e_X11_ticks_216 : g_dc cX11_ticks 216 (.istore_n 3) 1 217 := ⟨by decide +kernel, rfl⟩
theorem e_X11_ticks_217 : g_dc cX11_ticks 217 (.iload_n 3) 1 218 := ⟨by decide +kernel, rfl⟩
theorem e_X11_ticks_218 : g_dc cX11_ticks 218 (.bipush 10) 2 220 := ⟨by decide +kernel, rfl⟩
theorem e_X11_ticks_220 : g_dc cX11_ticks 220 (.if_icmp .ge 22) 3 223 := ⟨by decide +kernel, rfl⟩
theorem e_X11_ticks_223 : g_dc cX11_ticks 223 (.iload_n 1) 1 224 := ⟨by decide +kernel, rfl⟩
theorem e_X11_ticks_224 : g_dc cX11_ticks 224 (.iload_n 3) 1 225 := ⟨by decide +kernel, rfl⟩
theorem e_X11_ticks_225 : g_dc cX11_ticks 225 (.invokestatic 175) 3 228 := ⟨by decide +kernel, rfl⟩
theorem e_X11_ticks_228 : g_dc cX11_ticks 228 (.ifCond .eq 8) 3 231 := ⟨by decide +kernel, rfl⟩
theorem e_X11_ticks_231 : g_dc cX11_ticks 231 (.aload_n 0) 1 232 := ⟨by decide +kernel, rfl⟩
theorem e_X11_ticks_232 : g_dc cX11_ticks 232 (.iload_n 3) 1 233 := ⟨by decide +kernel, rfl⟩
theorem e_X11_ticks_233 : g_dc cX11_ticks 233 (.invokevirtual 395) 3 236 := ⟨by decide +kernel, rfl⟩
theorem e_X11_ticks_236 : g_dc cX11_ticks 236 (.iinc 3 1) 3 239 := ⟨by decide +kernel, rfl⟩
theorem e_X11_ticks_239 : g_dc cX11_ticks 239 (.goto (-22)) 3 242 := ⟨by decide +kernel, rfl⟩
theorem e_X11_ticks_242 : g_dc cX11_ticks 242 (.aload_n 0) 1 243 := ⟨by decide +kernel, rfl⟩
theorem e_X11_ticks_243 : g_dc cX11_ticks 243 (.aload_n 0) 1 244 := ⟨by decide +kernel, rfl⟩
theorem e_X11_ticks_244 : g_dc cX11_ticks 244 (.getfield 337) 3 247 := ⟨by decide +kernel, rfl⟩
theorem e_X11_ticks_247 : g_dc cX11_ticks 247 (.aload_n 0) 1 248 := ⟨by decide +kernel, rfl⟩
theorem e_X11_ticks_248 : g_dc cX11_ticks 248 (.getfield 377) 3 251 := ⟨by decide +kernel, rfl⟩
theorem e_X11_ticks_251 : g_dc cX11_ticks 251 (.ior) 1 252 := ⟨by decide +kernel, rfl⟩
theorem e_X11_ticks_252 : g_dc cX11_ticks 252 (.putfield 337) 3 255 := ⟨by decide +kernel, rfl⟩
theorem e_X11_ticks_255 : g_dc cX11_ticks 255 (.aload_n 0) 1 256 := ⟨by decide +kernel, rfl⟩
theorem e_X11_ticks_256 : g_dc cX11_ticks 256 (.aload_n 0) 1 257 := ⟨by decide +kernel, rfl⟩
theorem e_X11_ticks_257 : g_dc cX11_ticks 257 (.getfield 328) 3 260 := ⟨by decide +kernel, rfl⟩
theorem e_X11_ticks_260 : g_dc cX11_ticks 260 (.aload_n 0) 1 261 := ⟨by decide +kernel, rfl⟩
theorem e_X11_ticks_261 : g_dc cX11_ticks 261 (.getfield 356) 3 264 := ⟨by decide +kernel, rfl⟩
theorem e_X11_ticks_264 : g_dc cX11_ticks 264 (.iadd) 1 265 := ⟨by decide +kernel, rfl⟩
theorem e_X11_ticks_265 : g_dc cX11_ticks 265 (.putfield 328) 3 268 := ⟨by decide +kernel, rfl⟩
theorem e_X11_ticks_268 : g_dc cX11_ticks 268 (.aload_n 0) 1 269 := ⟨by decide +kernel, rfl⟩
theorem e_X11_ticks_269 : g_dc cX11_ticks 269 (.aload_n 0) 1 270 := ⟨by decide +kernel, rfl⟩
theorem e_X11_ticks_270 : g_dc cX11_ticks 270 (.getfield 325) 3 273 := ⟨by decide +kernel, rfl⟩
theorem e_X11_ticks_273 : g_dc cX11_ticks 273 (.iconst 1) 1 274 := ⟨by decide +kernel, rfl⟩
theorem e_X11_ticks_274 : g_dc cX11_ticks 274 (.iadd) 1 275 := ⟨by decide +kernel, rfl⟩
theorem e_X11_ticks_275 : g_dc cX11_ticks 275 (.putfield 325) 3 278 := ⟨by decide +kernel, rfl⟩
theorem e_X11_ticks_278 : g_dc cX11_ticks 278 (.return_) 1 279 := ⟨by decide +kernel, rfl⟩
def md_X11_ticks : List Nat := [3, 45, 46, 47, 48, 50, 65, 66, 67, 68, 69]
def mr_X11_ticks : List Nat := [23, 24, 26, 27, 28, 29, 32, 33, 34, 35, 36, 37]
set_option maxHeartbeats 4000000 in
set_option maxRecDepth 100000 in
theorem w_X11_ticks (l : Launch) (X : gX) (ad : Nat → Nat) (F : Nat → Int32) (R : Nat → Nat → Int32) (hI : g_ok LK_wM F) (hA : g_okR LA_wM R) (hWT : WT F R) (hWC : WC F R) (hpn : WN F R) (hpt : (F 45).toInt ≤ 299) : g_Cv l X yX11_ticks cX11_ticks 4 5 0 0 [.ref (ad 0)] (wM X ad F R) (fun w => ∃ (F' : Nat → Int32) (R' : Nat → Nat → Int32), w = wM X ad F' R' ∧ g_ok LK_wM F' ∧ g_okR LA_wM R' ∧ WT F' R' ∧ WC F' R' ∧ g_fr md_X11_ticks F F' ∧ g_fr mr_X11_ticks R R' ∧ (F' 45).toInt = (F 45).toInt + 1) := by
  refine g_mv (by decide +kernel) (Nat.le_of_ble_eq_true rfl) (fun E cx hret => ?_)
  refine g_aload_n cx 0 rfl e_X11_ticks_0 ?_
  refine g_iconst cx 0 (by decide) e_X11_ticks_1 ?_
  refine g_aload_n cx 0 rfl e_X11_ticks_2 ?_
  refine g_cViW cx [] [.int 0, .ref (ad 0)] (w_X11_paceNow l X ad F R hI hA hWT hWC) ml_X11_350 yV_X11_paceNow e_X11_ticks_3 (by unfold g_rr; decide) (by decide) 0 rfl rfl rfl (Nat.le_of_ble_eq_true rfl) (fun r1 w2 h3 => ?_)
  obtain ⟨rfl, pr1⟩ := h3
  refine g_aload_n cx 0 rfl e_X11_ticks_6 ?_
  refine g_cViW cx [] [.int r1, .int 0, .ref (ad 0)] (w_X11_slipsNow l X ad F R hI hA hWT hWC) ml_X11_380 yV_X11_slipsNow e_X11_ticks_7 (by unfold g_rr; decide) (by decide) 0 rfl rfl rfl (Nat.le_of_ble_eq_true rfl) (fun r4 w5 h6 => ?_)
  obtain ⟨F7, R8, rfl, oF7, oR8, wTF7, wCF7, cF7, cR8, pr4⟩ := h6
  have fF7 : g_fr md_X11_ticks F F7 := g_fr_c (g_fr_rf F) cF7 rfl
  have fR8 : g_fr mr_X11_ticks R R8 := g_fr_c (g_fr_rf R) cR8 rfl
  refine g_isub cx e_X11_ticks_10 ?_
  refine g_topi (fun x9 ex9 => ?_)
  refine g_cSiW cx [.int 0, .int x9] [.ref (ad 0)] (w_X11_max l X ad F7 R8 oF7 oR8 0 x9) ml_X11_371 yS_X11_max rfl e_X11_ticks_11 (by unfold g_rr; decide) (by decide) rfl (Nat.le_of_ble_eq_true rfl) (fun r10 w11 h12 => ?_)
  obtain ⟨rfl, pr10⟩ := h12
  refine g_put cx cl_X11 fl_X11_356 0 (wM X ad (upd F7 47 r10) R8) e_X11_ticks_14 rfl rfl rfl rfl (Nat.le_of_ble_eq_true rfl) rfl ?_
  obtain ⟨F13, hF13⟩ : ∃ z, z = upd F7 47 r10 := ⟨_, rfl⟩
  rw [← hF13]
  have oF13 : g_ok LK_wM F13 := by rw [hF13]; exact g_ok_u oF7 rfl
  have fF13 : g_fr md_X11_ticks F F13 := by rw [hF13]; exact g_fr_u fF7 rfl
  have wTF13 : WT F13 R8 := by rw [hF13]; exact WT_u wTF7 rfl
  have wCF13 : WC F13 R8 := by rw [hF13]; exact WC_u wCF7 rfl
  refine g_aload_n cx 0 rfl e_X11_ticks_17 ?_
  refine g_iconst cx 0 (by decide) e_X11_ticks_18 ?_
  refine g_aload_n cx 0 rfl e_X11_ticks_19 ?_
  refine g_get cx cl_X11 fl_X11_331 0 (.int (F13 48)) e_X11_ticks_20 rfl rfl ?_
  refine g_toi (F 48) ((g_pu2 hF13 rfl).trans (cF7 48 rfl)) ?_
  refine g_aload_n cx 0 rfl e_X11_ticks_23 ?_
  refine g_get cx cl_X11 fl_X11_356 0 (.int (F13 47)) e_X11_ticks_24 rfl rfl ?_
  refine g_toi r10 (g_pu1 hF13) ?_
  refine g_isub cx e_X11_ticks_27 ?_
  refine g_topi (fun x14 ex14 => ?_)
  refine g_cSiW cx [.int 0, .int x14] [.ref (ad 0)] (w_X11_max l X ad F13 R8 oF13 oR8 0 x14) ml_X11_371 yS_X11_max rfl e_X11_ticks_28 (by unfold g_rr; decide) (by decide) rfl (Nat.le_of_ble_eq_true rfl) (fun r15 w16 h17 => ?_)
  obtain ⟨rfl, pr15⟩ := h17
  refine g_put cx cl_X11 fl_X11_331 0 (wM X ad (upd F13 48 r15) R8) e_X11_ticks_31 rfl rfl rfl rfl (Nat.le_of_ble_eq_true rfl) rfl ?_
  obtain ⟨F18, hF18⟩ : ∃ z, z = upd F13 48 r15 := ⟨_, rfl⟩
  rw [← hF18]
  have oF18 : g_ok LK_wM F18 := by rw [hF18]; exact g_ok_u oF13 rfl
  have fF18 : g_fr md_X11_ticks F F18 := by rw [hF18]; exact g_fr_u fF13 rfl
  have wTF18 : WT F18 R8 := by rw [hF18]; exact WT_u wTF13 rfl
  have wCF18 : WC F18 R8 := by rw [hF18]; exact WC_u wCF13 rfl
  refine g_iconst cx 0 (by decide) e_X11_ticks_34 ?_
  refine g_istore_n cx [(1, .int 0), (0, .ref (ad 0))] e_X11_ticks_35 (by decide) rfl ?_
  refine g_aload_n cx 1 rfl e_X11_ticks_36 ?_
  refine g_iconst cx 0 (by decide) e_X11_ticks_37 ?_
  refine g_put cx cl_X11 fl_X11_362 0 (wM X ad (upd F18 69 0) R8) e_X11_ticks_38 rfl rfl rfl rfl (Nat.le_of_ble_eq_true rfl) rfl ?_
  obtain ⟨F19, hF19⟩ : ∃ z, z = upd F18 69 0 := ⟨_, rfl⟩
  rw [← hF19]
  have oF19 : g_ok LK_wM F19 := by rw [hF19]; exact g_ok_u oF18 rfl
  have fF19 : g_fr md_X11_ticks F F19 := by rw [hF19]; exact g_fr_u fF18 rfl
  have wTF19 : WT F19 R8 := by rw [hF19]; exact WT_u wTF18 rfl
  have wCF19 : WC F19 R8 := by rw [hF19]; exact WC_u wCF18 rfl
  refine g_aload_n cx 1 rfl e_X11_ticks_41 ?_
  refine g_iconst cx 0 (by decide) e_X11_ticks_42 ?_
  refine g_put cx cl_X11 fl_X11_377 0 (wM X ad (upd F19 68 0) R8) e_X11_ticks_43 rfl rfl rfl rfl (Nat.le_of_ble_eq_true rfl) rfl ?_
  obtain ⟨F20, hF20⟩ : ∃ z, z = upd F19 68 0 := ⟨_, rfl⟩
  rw [← hF20]
  have oF20 : g_ok LK_wM F20 := by rw [hF20]; exact g_ok_u oF19 rfl
  have fF20 : g_fr md_X11_ticks F F20 := by rw [hF20]; exact g_fr_u fF19 rfl
  have wTF20 : WT F20 R8 := by rw [hF20]; exact WT_u wTF19 rfl
  have wCF20 : WC F20 R8 := by rw [hF20]; exact WC_u wCF19 rfl
  refine g_iconst cx 0 (by decide) e_X11_ticks_46 ?_
  refine g_istore_n cx [(2, .int 0), (1, .int 0), (0, .ref (ad 0))] e_X11_ticks_47 (by decide) rfl ?_
  have J48 : ∀ (N : Nat) (F23 : Nat → Int32) (R24 : Nat → Nat → Int32) (y21 : Int32) (y22 : Int32), (g_ok LK_wM F23) → (g_fr md_X11_ticks F F23) → (g_okR LA_wM R24) → (g_fr mr_X11_ticks R R24) → (WT F23 R24) → (WC F23 R24) → (jv (-2147483648) 2147483647 y21) → (jv 0 10 y22) → ((F23 45).toInt = (F 45).toInt) → (HS y21 (F 42)) → (2147483647 - y22.toInt).toNat < N → G X E 4 0 0 (wM X ad F23 R24) [(0, .ref (ad 0)), (1, .int y21), (2, .int y22)] 48 [] := by
    intro N
    induction N with
    | zero => intro F23 R24 y21 y22 oF23 fF23 oR24 fR24 wTF23R24 wCF23R24 py21 py22 zi48_0 zq48_0 hm; exact absurd hm (Nat.not_lt_zero _)
    | succ N ih48 =>
      intro F23 R24 y21 y22 oF23 fF23 oR24 fR24 wTF23R24 wCF23R24 py21 py22 zi48_0 zq48_0 hm48
      refine g_iload_n cx 2 rfl e_X11_ticks_48 ?_
      refine g_bipush cx 10 (by decide) e_X11_ticks_49 ?_
      refine g_icmp_ge cx 114 e_X11_ticks_51 (by decide) (fun zc25 => ?_) (fun zc25 => ?_)
      · have p26 := gn_ge 10 10 (gc_le zc25) py22 (jv_k (x := 10) 10 (by decide)) (by decide)
        refine g_iconst cx 0 (by decide) e_X11_ticks_114 ?_
        refine g_istore_n cx [(2, .int 0), (0, .ref (ad 0)), (1, .int y21)] e_X11_ticks_115 (by decide) rfl ?_
        have J116 : ∀ (N : Nat) (F28 : Nat → Int32) (R29 : Nat → Nat → Int32) (y27 : Int32), (g_ok LK_wM F28) → (g_fr md_X11_ticks F F28) → (g_okR LA_wM R29) → (g_fr mr_X11_ticks R R29) → (WT F28 R29) → (WC F28 R29) → (jv 0 10 y27) → ((F28 45).toInt = (F 45).toInt) → (2147483647 - y27.toInt).toNat < N → G X E 4 0 0 (wM X ad F28 R29) [(0, .ref (ad 0)), (1, .int y21), (2, .int y27)] 116 [] := by
          intro N
          induction N with
          | zero => intro F28 R29 y27 oF28 fF28 oR29 fR29 wTF28R29 wCF28R29 py27 zi116_0 hm; exact absurd hm (Nat.not_lt_zero _)
          | succ N ih116 =>
            intro F28 R29 y27 oF28 fF28 oR29 fR29 wTF28R29 wCF28R29 py27 zi116_0 hm116
            refine g_iload_n cx 2 rfl e_X11_ticks_116 ?_
            refine g_bipush cx 10 (by decide) e_X11_ticks_117 ?_
            refine g_icmp_ge cx 141 e_X11_ticks_119 (by decide) (fun zc30 => ?_) (fun zc30 => ?_)
            · have p31 := gn_ge 10 10 (gc_le zc30) py27 (jv_k (x := 10) 10 (by decide)) (by decide)
              refine g_iconst cx 0 (by decide) e_X11_ticks_141 ?_
              refine g_istore_n cx [(2, .int 0), (0, .ref (ad 0)), (1, .int y21)] e_X11_ticks_142 (by decide) rfl ?_
              have J143 : ∀ (N : Nat) (F33 : Nat → Int32) (R34 : Nat → Nat → Int32) (y32 : Int32), (g_ok LK_wM F33) → (g_fr md_X11_ticks F F33) → (g_okR LA_wM R34) → (g_fr mr_X11_ticks R R34) → (WT F33 R34) → (WC F33 R34) → (jv 0 10 y32) → ((F33 45).toInt = (F 45).toInt) → (2147483647 - y32.toInt).toNat < N → G X E 4 0 0 (wM X ad F33 R34) [(0, .ref (ad 0)), (1, .int y21), (2, .int y32)] 143 [] := by
                intro N
                induction N with
                | zero => intro F33 R34 y32 oF33 fF33 oR34 fR34 wTF33R34 wCF33R34 py32 zi143_0 hm; exact absurd hm (Nat.not_lt_zero _)
                | succ N ih143 =>
                  intro F33 R34 y32 oF33 fF33 oR34 fR34 wTF33R34 wCF33R34 py32 zi143_0 hm143
                  refine g_iload_n cx 2 rfl e_X11_ticks_143 ?_
                  refine g_bipush cx 10 (by decide) e_X11_ticks_144 ?_
                  refine g_icmp_ge cx 177 e_X11_ticks_146 (by decide) (fun zc35 => ?_) (fun zc35 => ?_)
                  · have p36 := gn_ge 10 10 (gc_le zc35) py32 (jv_k (x := 10) 10 (by decide)) (by decide)
                    refine g_aload_n cx 0 rfl e_X11_ticks_177 ?_
                    refine g_cViW cx [] [] (w_X11_laysOrder l X ad F33 R34 oF33 oR34 wTF33R34 wCF33R34 (WN_e hpn (fF33 42 rfl) (fR34 3 rfl) (fR34 5 rfl))) ml_X11_389 yV_X11_laysOrder e_X11_ticks_178 (by unfold g_rr; decide) (by decide) 0 rfl rfl rfl (Nat.le_of_ble_eq_true rfl) (fun r37 w38 h39 => ?_)
                    obtain ⟨F41, R42, rfl, oF41, oR42, wTF41, wCF41, cF41, cR42, pr37, zx40⟩ := h39
                    have fF41 : g_fr md_X11_ticks F F41 := g_fr_c fF33 cF41 rfl
                    have fR42 : g_fr mr_X11_ticks R R42 := g_fr_c fR34 cR42 rfl
                    refine g_istore_n cx [(2, .int r37), (0, .ref (ad 0)), (1, .int y21)] e_X11_ticks_181 (by decide) rfl ?_
                    refine g_iconst cx 0 (by decide) e_X11_ticks_182 ?_
                    refine g_istore_n cx [(3, .int 0), (2, .int r37), (0, .ref (ad 0)), (1, .int y21)] e_X11_ticks_183 (by decide) rfl ?_
                    have J184 : ∀ (N : Nat) (F44 : Nat → Int32) (R45 : Nat → Nat → Int32) (y43 : Int32), (g_ok LK_wM F44) → (g_fr md_X11_ticks F F44) → (g_okR LA_wM R45) → (g_fr mr_X11_ticks R R45) → (WT F44 R45) → (WC F44 R45) → (jv 0 9 y43) → ((F44 45).toInt = (F 45).toInt) → (OW (R 5) (R45 37) (r37 : Int32).toInt) → (2147483647 - y43.toInt).toNat < N → G X E 4 0 0 (wM X ad F44 R45) [(0, .ref (ad 0)), (1, .int y21), (2, .int r37), (3, .int y43)] 184 [] := by
                      intro N
                      induction N with
                      | zero => intro F44 R45 y43 oF44 fF44 oR45 fR45 wTF44R45 wCF44R45 py43 zi184_0 zq184_0 hm; exact absurd hm (Nat.not_lt_zero _)
                      | succ N ih184 =>
                        intro F44 R45 y43 oF44 fF44 oR45 fR45 wTF44R45 wCF44R45 py43 zi184_0 zq184_0 hm184
                        refine g_iload_n cx 3 rfl e_X11_ticks_184 ?_
                        refine g_iconst cx 1 (by decide) e_X11_ticks_185 ?_
                        refine g_iadd cx e_X11_ticks_186 ?_
                        refine g_topi (fun x46 ex46 => ?_)
                        have zx46 := jv_add 1 10 ex46 py43 (jv_k (x := 1) 1 (by decide)) (by decide)
                        refine g_iload_n cx 2 rfl e_X11_ticks_187 ?_
                        refine g_icmp_ge cx 215 e_X11_ticks_188 (by decide) (fun zc47 => ?_) (fun zc47 => ?_)
                        · refine g_iconst cx 0 (by decide) e_X11_ticks_215 ?_
                          refine g_istore_n cx [(3, .int 0), (0, .ref (ad 0)), (1, .int y21), (2, .int r37)] e_X11_ticks_216 (by decide) rfl ?_
                          have J217 : ∀ (N : Nat) (F49 : Nat → Int32) (R50 : Nat → Nat → Int32) (y48 : Int32), (g_ok LK_wM F49) → (g_fr md_X11_ticks F F49) → (g_okR LA_wM R50) → (g_fr mr_X11_ticks R R50) → (WT F49 R50) → (WC F49 R50) → (jv 0 10 y48) → ((F49 45).toInt = (F 45).toInt) → (2147483647 - y48.toInt).toNat < N → G X E 4 0 0 (wM X ad F49 R50) [(0, .ref (ad 0)), (1, .int y21), (3, .int y48)] 217 [] := by
                            intro N
                            induction N with
                            | zero => intro F49 R50 y48 oF49 fF49 oR50 fR50 wTF49R50 wCF49R50 py48 zi217_0 hm; exact absurd hm (Nat.not_lt_zero _)
                            | succ N ih217 =>
                              intro F49 R50 y48 oF49 fF49 oR50 fR50 wTF49R50 wCF49R50 py48 zi217_0 hm217
                              refine g_iload_n cx 2 rfl e_X11_ticks_217 ?_
                              refine g_bipush cx 10 (by decide) e_X11_ticks_218 ?_
                              refine g_icmp_ge cx 242 e_X11_ticks_220 (by decide) (fun zc51 => ?_) (fun zc51 => ?_)
                              · have p52 := gn_ge 10 10 (gc_le zc51) py48 (jv_k (x := 10) 10 (by decide)) (by decide)
                                refine g_aload_n cx 0 rfl e_X11_ticks_242 ?_
                                refine g_aload_n cx 0 rfl e_X11_ticks_243 ?_
                                refine g_get cx cl_X11 fl_X11_337 0 (.int (F49 66)) e_X11_ticks_244 rfl rfl ?_
                                refine g_aload_n cx 0 rfl e_X11_ticks_247 ?_
                                refine g_get cx cl_X11 fl_X11_377 0 (.int (F49 68)) e_X11_ticks_248 rfl rfl ?_
                                refine g_ior cx e_X11_ticks_251 ?_
                                refine g_topi (fun x53 ex53 => ?_)
                                refine g_put cx cl_X11 fl_X11_337 0 (wM X ad (upd F49 66 x53) R50) e_X11_ticks_252 rfl rfl rfl rfl (Nat.le_of_ble_eq_true rfl) rfl ?_
                                obtain ⟨F54, hF54⟩ : ∃ z, z = upd F49 66 x53 := ⟨_, rfl⟩
                                rw [← hF54]
                                have oF54 : g_ok LK_wM F54 := by rw [hF54]; exact g_ok_u oF49 rfl
                                have fF54 : g_fr md_X11_ticks F F54 := by rw [hF54]; exact g_fr_u fF49 rfl
                                have wTF54 : WT F54 R50 := by rw [hF54]; exact WT_u wTF49R50 rfl
                                have wCF54 : WC F54 R50 := by rw [hF54]; exact WC_u wCF49R50 rfl
                                refine g_aload_n cx 0 rfl e_X11_ticks_255 ?_
                                refine g_aload_n cx 0 rfl e_X11_ticks_256 ?_
                                refine g_get cx cl_X11 fl_X11_328 0 (.int (F54 46)) e_X11_ticks_257 rfl rfl ?_
                                refine g_toi (F49 46) (g_pu2 hF54 rfl) ?_
                                refine g_aload_n cx 0 rfl e_X11_ticks_260 ?_
                                refine g_get cx cl_X11 fl_X11_356 0 (.int (F54 47)) e_X11_ticks_261 rfl rfl ?_
                                refine g_toi (F49 47) (g_pu2 hF54 rfl) ?_
                                refine g_iadd cx e_X11_ticks_264 ?_
                                refine g_topi (fun x55 ex55 => ?_)
                                refine g_put cx cl_X11 fl_X11_328 0 (wM X ad (upd F54 46 x55) R50) e_X11_ticks_265 rfl rfl rfl rfl (Nat.le_of_ble_eq_true rfl) rfl ?_
                                obtain ⟨F56, hF56⟩ : ∃ z, z = upd F54 46 x55 := ⟨_, rfl⟩
                                rw [← hF56]
                                have oF56 : g_ok LK_wM F56 := by rw [hF56]; exact g_ok_u oF54 rfl
                                have fF56 : g_fr md_X11_ticks F F56 := by rw [hF56]; exact g_fr_u fF54 rfl
                                have wTF56 : WT F56 R50 := by rw [hF56]; exact WT_u wTF54 rfl
                                have wCF56 : WC F56 R50 := by rw [hF56]; exact WC_u wCF54 rfl
                                refine g_aload_n cx 0 rfl e_X11_ticks_268 ?_
                                refine g_aload_n cx 0 rfl e_X11_ticks_269 ?_
                                refine g_get cx cl_X11 fl_X11_325 0 (.int (F56 45)) e_X11_ticks_270 rfl rfl ?_
                                refine g_toi (F49 45) ((g_pu2 hF56 rfl).trans (g_pu2 hF54 rfl)) ?_
                                refine g_iconst cx 1 (by decide) e_X11_ticks_273 ?_
                                refine g_iadd cx e_X11_ticks_274 ?_
                                refine g_topi (fun x57 ex57 => ?_)
                                have zx57 := jv_add 1 301 ex57 (g_ok_g oF49 12 rfl) (jv_k (x := 1) 1 (by decide)) (by decide)
                                refine g_put cx cl_X11 fl_X11_325 0 (wM X ad (upd F56 45 x57) R50) e_X11_ticks_275 rfl rfl rfl rfl (Nat.le_of_ble_eq_true rfl) rfl ?_
                                obtain ⟨F58, hF58⟩ : ∃ z, z = upd F56 45 x57 := ⟨_, rfl⟩
                                rw [← hF58]
                                have oF58 : g_ok LK_wM F58 := by rw [hF58]; exact g_ok_p oF56 (show jv 0 300 _ from ⟨by have q0 := (jv_k (x := 1) 1 (by decide)).1; have q1 := (jv_k (x := 1) 1 (by decide)).2; have q2 := (g_ok_g hI 12 rfl).1; have q3 := (g_ok_g hI 12 rfl).2; have q4 := (g_ok_g oF23 12 rfl).1; have q5 := (g_ok_g oF23 12 rfl).2; have q6 := (g_ok_g oF28 12 rfl).1; have q7 := (g_ok_g oF28 12 rfl).2; have q8 := (g_ok_g oF33 12 rfl).1; have q9 := (g_ok_g oF33 12 rfl).2; have q10 := (g_ok_g oF44 12 rfl).1; have q11 := (g_ok_g oF44 12 rfl).2; have q12 := (g_ok_g oF49 12 rfl).1; have q13 := (g_ok_g oF49 12 rfl).2; have q14 := pr37.1; have q15 := pr37.2; have q16 := zx46.2.1; have q17 := zx46.2.2; have q18 := zx57.2.1; have q19 := zx57.2.2; have q20 := py43.1; have q21 := py43.2; have q22 := hpt; have q23 := zi48_0; have q24 := zi116_0; have q25 := zi143_0; have q26 := zi184_0; have q27 := (g_eq0 zx46.1); have q28 := (gc_le zc47); have q29 := zi217_0; have q30 := (g_eq0 zx57.1); omega, by have q0 := (jv_k (x := 1) 1 (by decide)).1; have q1 := (jv_k (x := 1) 1 (by decide)).2; have q2 := (g_ok_g hI 12 rfl).1; have q3 := (g_ok_g hI 12 rfl).2; have q4 := (g_ok_g oF23 12 rfl).1; have q5 := (g_ok_g oF23 12 rfl).2; have q6 := (g_ok_g oF28 12 rfl).1; have q7 := (g_ok_g oF28 12 rfl).2; have q8 := (g_ok_g oF33 12 rfl).1; have q9 := (g_ok_g oF33 12 rfl).2; have q10 := (g_ok_g oF44 12 rfl).1; have q11 := (g_ok_g oF44 12 rfl).2; have q12 := (g_ok_g oF49 12 rfl).1; have q13 := (g_ok_g oF49 12 rfl).2; have q14 := pr37.1; have q15 := pr37.2; have q16 := zx46.2.1; have q17 := zx46.2.2; have q18 := zx57.2.1; have q19 := zx57.2.2; have q20 := py43.1; have q21 := py43.2; have q22 := hpt; have q23 := zi48_0; have q24 := zi116_0; have q25 := zi143_0; have q26 := zi184_0; have q27 := (g_eq0 zx46.1); have q28 := (gc_le zc47); have q29 := zi217_0; have q30 := (g_eq0 zx57.1); omega⟩) rfl
                                have fF58 : g_fr md_X11_ticks F F58 := by rw [hF58]; exact g_fr_u fF56 rfl
                                have wTF58 : WT F58 R50 := by rw [hF58]; exact WT_u wTF56 rfl
                                have wCF58 : WC F58 R50 := by rw [hF58]; exact WC_u wCF56 rfl
                                exact hret e_X11_ticks_278 (Nat.le_of_ble_eq_true rfl) (Nat.le_of_ble_eq_true rfl) ⟨F58, R50, rfl, oF58, oR50, wTF58, wCF58, fF58, fR50, (by have q0 := (jv_k (x := 1) 1 (by decide)).1; have q1 := (jv_k (x := 1) 1 (by decide)).2; have q2 := (g_ok_g hI 12 rfl).1; have q3 := (g_ok_g hI 12 rfl).2; have q4 := (g_ok_g oF23 12 rfl).1; have q5 := (g_ok_g oF23 12 rfl).2; have q6 := (g_ok_g oF28 12 rfl).1; have q7 := (g_ok_g oF28 12 rfl).2; have q8 := (g_ok_g oF33 12 rfl).1; have q9 := (g_ok_g oF33 12 rfl).2; have q10 := (g_ok_g oF44 12 rfl).1; have q11 := (g_ok_g oF44 12 rfl).2; have q12 := (g_ok_g oF49 12 rfl).1; have q13 := (g_ok_g oF49 12 rfl).2; have q14 := (g_ok_g oF58 12 rfl).1; have q15 := (g_ok_g oF58 12 rfl).2; have q16 := pr37.1; have q17 := pr37.2; have q18 := zx46.2.1; have q19 := zx46.2.2; have q20 := zx57.2.1; have q21 := zx57.2.2; have q22 := py43.1; have q23 := py43.2; have q24 := hpt; have q25 := zi48_0; have q26 := zi116_0; have q27 := zi143_0; have q28 := zi184_0; have q29 := (g_eq0 zx46.1); have q30 := (gc_le zc47); have q31 := zi217_0; have q32 := (g_eq0 zx57.1); have q33 := (congrArg Int32.toInt (show F58 45 = x57 from (g_pu1 hF58))); omega)⟩
                              · have p59 := gn_lt 0 9 (gc_nle zc51) py48 (jv_k (x := 10) 10 (by decide)) (by decide)
                                refine g_iload_n cx 1 rfl e_X11_ticks_223 ?_
                                refine g_iload_n cx 2 rfl e_X11_ticks_224 ?_
                                refine g_cSiW cx [.int y21, .int y48] [] (c_X11_has l X (wM X ad F49 R50) y21 y48) ml_X11_175 yS_X11_has rfl e_X11_ticks_225 (by unfold g_rr; decide) (by decide) rfl (Nat.le_of_ble_eq_true rfl) (fun r60 w61 h62 => ?_)
                                obtain ⟨rfl, hr60⟩ := h62
                                have pr60 : jv 0 1 r60 := by rcases hr60 with q | q <;> rw [q.1] <;> exact ⟨by decide, by decide⟩
                                have J236 : ∀ (F63 : Nat → Int32) (R64 : Nat → Nat → Int32), (g_ok LK_wM F63) → (g_fr md_X11_ticks F F63) → (g_okR LA_wM R64) → (g_fr mr_X11_ticks R R64) → (WT F63 R64) → (WC F63 R64) → ((F63 45).toInt = (F 45).toInt) → G X E 4 0 0 (wM X ad F63 R64) [(0, .ref (ad 0)), (1, .int y21), (3, .int y48)] 236 [] := by
                                  intro F63 R64 oF63 fF63 oR64 fR64 wTF63R64 wCF63R64 zi236_0
                                  obtain ⟨x65, ex65⟩ : ∃ z : Int32, z = y48 + Int32.ofInt 1 := ⟨_, rfl⟩
                                  refine g_iinc cx x65 [(3, .int x65), (0, .ref (ad 0)), (1, .int y21)] 2 e_X11_ticks_236 rfl ex65.symm (by decide) rfl ?_
                                  have zx65 := jv_add 1 10 (show x65 = y48 + 1 from ex65) p59 (jv_k (x := 1) 1 (by decide)) (by decide)
                                  refine g_goto cx 217 e_X11_ticks_239 (by decide) ?_
                                  refine g_lsub [1, 2, 0] [(0, .ref (ad 0)), (1, .int y21), (3, .int x65)] rfl ?_
                                  exact ih217 F63 R64 x65 oF63 fF63 oR64 fR64 wTF63R64 wCF63R64 (jv_w zx65.2 (by decide)) (by have q0 := (g_ok_g hI 12 rfl).1; have q1 := (g_ok_g hI 12 rfl).2; have q2 := (g_ok_g oF23 12 rfl).1; have q3 := (g_ok_g oF23 12 rfl).2; have q4 := (g_ok_g oF28 12 rfl).1; have q5 := (g_ok_g oF28 12 rfl).2; have q6 := (g_ok_g oF33 12 rfl).1; have q7 := (g_ok_g oF33 12 rfl).2; have q8 := (g_ok_g oF44 12 rfl).1; have q9 := (g_ok_g oF44 12 rfl).2; have q10 := (g_ok_g oF49 12 rfl).1; have q11 := (g_ok_g oF49 12 rfl).2; have q12 := (g_ok_g oF63 12 rfl).1; have q13 := (g_ok_g oF63 12 rfl).2; have q14 := hpt; have q15 := zi48_0; have q16 := zi116_0; have q17 := zi143_0; have q18 := zi184_0; have q19 := zi217_0; have q20 := zi236_0; omega) (Nat.lt_of_lt_of_le (show (2147483647 - x65.toInt).toNat < (2147483647 - y48.toInt).toNat from by have q0 := (jv_k (x := 1) 1 (by decide)).1; have q1 := (jv_k (x := 1) 1 (by decide)).2; have q2 := (jv_k (x := 10) 10 (by decide)).1; have q3 := (jv_k (x := 10) 10 (by decide)).2; have q4 := pr37.1; have q5 := pr37.2; have q6 := zx46.2.1; have q7 := zx46.2.2; have q8 := zx65.2.1; have q9 := zx65.2.2; have q10 := p26.1; have q11 := p26.2; have q12 := p31.1; have q13 := p31.2; have q14 := p36.1; have q15 := p36.2; have q16 := py43.1; have q17 := py43.2; have q18 := p59.1; have q19 := p59.2; have q20 := (gc_le zc25); have q21 := (gc_le zc30); have q22 := (gc_le zc35); have q23 := (g_eq0 zx46.1); have q24 := (gc_le zc47); have q25 := (gc_nle zc51); have q26 := (g_eq0 zx65.1); omega) (Nat.le_of_lt_succ hm217))
                                refine g_if_eq cx 236 e_X11_ticks_228 (by decide) (fun zc66 => ?_) (fun zc66 => ?_)
                                · have p67 := gn_eq 0 0 (gc_eq zc66) pr60 (jv_k (x := 0) 0 (by decide)) (by decide)
                                  exact J236 F49 R50 oF49 fF49 oR50 fR50 wTF49R50 wCF49R50 (by have q0 := (g_ok_g hI 12 rfl).1; have q1 := (g_ok_g hI 12 rfl).2; have q2 := (g_ok_g oF23 12 rfl).1; have q3 := (g_ok_g oF23 12 rfl).2; have q4 := (g_ok_g oF28 12 rfl).1; have q5 := (g_ok_g oF28 12 rfl).2; have q6 := (g_ok_g oF33 12 rfl).1; have q7 := (g_ok_g oF33 12 rfl).2; have q8 := (g_ok_g oF44 12 rfl).1; have q9 := (g_ok_g oF44 12 rfl).2; have q10 := (g_ok_g oF49 12 rfl).1; have q11 := (g_ok_g oF49 12 rfl).2; have q12 := hpt; have q13 := zi48_0; have q14 := zi116_0; have q15 := zi143_0; have q16 := zi184_0; have q17 := zi217_0; omega)
                                · have p68 := gn_neL 1 1 (gc_ne zc66) pr60 (jv_k (x := 0) 0 (by decide)) (by decide)
                                  have zb69 : hb y21 y48 := g_hasy hr60 zc66
                                  refine g_aload_n cx 0 rfl e_X11_ticks_231 ?_
                                  refine g_iload_n cx 2 rfl e_X11_ticks_232 ?_
                                  refine g_cVvW cx [.int y48] [] (w_X11_counts l X ad F49 R50 oF49 oR50 wTF49R50 wCF49R50 y48 p59) ml_X11_395 yV_X11_counts e_X11_ticks_233 (by unfold g_rr; decide) (by decide) 0 rfl rfl rfl (Nat.le_of_ble_eq_true rfl) (fun w71 h72 => ?_)
                                  obtain ⟨F73, R74, rfl, oF73, oR74, wTF73, wCF73, cF73, cR74⟩ := h72
                                  have fF73 : g_fr md_X11_ticks F F73 := g_fr_c fF49 cF73 rfl
                                  have fR74 : g_fr mr_X11_ticks R R74 := g_fr_c fR50 cR74 rfl
                                  exact J236 F73 R74 oF73 fF73 oR74 fR74 wTF73 wCF73 (by have q0 := (g_ok_g hI 12 rfl).1; have q1 := (g_ok_g hI 12 rfl).2; have q2 := (g_ok_g oF23 12 rfl).1; have q3 := (g_ok_g oF23 12 rfl).2; have q4 := (g_ok_g oF28 12 rfl).1; have q5 := (g_ok_g oF28 12 rfl).2; have q6 := (g_ok_g oF33 12 rfl).1; have q7 := (g_ok_g oF33 12 rfl).2; have q8 := (g_ok_g oF44 12 rfl).1; have q9 := (g_ok_g oF44 12 rfl).2; have q10 := (g_ok_g oF49 12 rfl).1; have q11 := (g_ok_g oF49 12 rfl).2; have q12 := (g_ok_g oF73 12 rfl).1; have q13 := (g_ok_g oF73 12 rfl).2; have q14 := hpt; have q15 := zi48_0; have q16 := zi116_0; have q17 := zi143_0; have q18 := zi184_0; have q19 := zi217_0; have q20 := (congrArg Int32.toInt (show F73 45 = F49 45 from (cF73 45 rfl))); omega)
                          refine g_lsub [1, 2, 0] [(0, .ref (ad 0)), (1, .int y21), (3, .int 0)] rfl ?_
                          exact J217 _ F44 R45 0 oF44 fF44 oR45 fR45 wTF44R45 wCF44R45 (jv_w (jv_k (x := 0) 0 (by decide)) (by decide)) (by have q0 := (g_ok_g hI 12 rfl).1; have q1 := (g_ok_g hI 12 rfl).2; have q2 := (g_ok_g oF23 12 rfl).1; have q3 := (g_ok_g oF23 12 rfl).2; have q4 := (g_ok_g oF28 12 rfl).1; have q5 := (g_ok_g oF28 12 rfl).2; have q6 := (g_ok_g oF33 12 rfl).1; have q7 := (g_ok_g oF33 12 rfl).2; have q8 := (g_ok_g oF44 12 rfl).1; have q9 := (g_ok_g oF44 12 rfl).2; have q10 := hpt; have q11 := zi48_0; have q12 := zi116_0; have q13 := zi143_0; have q14 := zi184_0; omega) (Nat.lt_succ_self _)
                        · have p75 := gn_lt 1 9 (gc_nle zc47) zx46.2 pr37 (by decide)
                          have p76 : jv 0 8 y43 := ⟨by have q0 := (jv_k (x := 1) 1 (by decide)).1; have q1 := (jv_k (x := 1) 1 (by decide)).2; have q2 := pr37.1; have q3 := pr37.2; have q4 := p75.1; have q5 := p75.2; have q6 := py43.1; have q7 := py43.2; have q8 := (g_eq0 zx46.1); have q9 := (gc_nle zc47); omega, by have q0 := (jv_k (x := 1) 1 (by decide)).1; have q1 := (jv_k (x := 1) 1 (by decide)).2; have q2 := pr37.1; have q3 := pr37.2; have q4 := p75.1; have q5 := p75.2; have q6 := py43.1; have q7 := py43.2; have q8 := (g_eq0 zx46.1); have q9 := (gc_nle zc47); omega⟩
                          have p77 := gn_gt 2 10 (gc_nle zc47) pr37 zx46.2 (by decide)
                          refine g_aload_n cx 0 rfl e_X11_ticks_191 ?_
                          refine g_aload_n cx 0 rfl e_X11_ticks_192 ?_
                          refine g_get cx cl_X11 fl_X11_119 0 (.ref (ad 37)) e_X11_ticks_193 rfl rfl ?_
                          refine g_iload_n cx 3 rfl e_X11_ticks_196 ?_
                          refine g_iald cx 37 e_X11_ticks_197 rfl (jv_ix 10 p76 (by decide)) ?_
                          refine g_topi (fun x78 ex78 => ?_)
                          have p79 : jv 0 9 x78 := by rw [ex78]; exact g_okR_g oR45 3 rfl (jv_cl 10 p76 (by decide))
                          refine g_aload_n cx 0 rfl e_X11_ticks_198 ?_
                          refine g_get cx cl_X11 fl_X11_119 0 (.ref (ad 37)) e_X11_ticks_199 rfl rfl ?_
                          refine g_iload_n cx 3 rfl e_X11_ticks_202 ?_
                          refine g_iconst cx 1 (by decide) e_X11_ticks_203 ?_
                          refine g_iadd cx e_X11_ticks_204 ?_
                          refine g_topi (fun x80 ex80 => ?_)
                          have zx80 := jv_add 1 9 ex80 p76 (jv_k (x := 1) 1 (by decide)) (by decide)
                          refine g_iald cx 37 e_X11_ticks_205 rfl (jv_ix 10 zx80.2 (by decide)) ?_
                          refine g_topi (fun x81 ex81 => ?_)
                          have p82 : jv 0 9 x81 := by rw [ex81]; exact g_okR_g oR45 3 rfl (jv_cl 10 zx80.2 (by decide))
                          refine g_cVvW cx [.int x78, .int x81] [] (w_X11_meet l X ad F44 R45 oF44 oR45 wTF44R45 wCF44R45 x78 x81 p79 p82 (by rw [show R45 5 = R 5 from (fR45 5 rfl)]; exact OW_at zq184_0 p76 (by have q0 := (jv_k (x := 1) 1 (by decide)).1; have q1 := (jv_k (x := 1) 1 (by decide)).2; have q2 := p77.1; have q3 := p77.2; have q4 := p75.1; have q5 := p75.2; have q6 := zx80.2.1; have q7 := zx80.2.2; have q8 := p76.1; have q9 := p76.2; have q10 := (g_eq0 zx46.1); have q11 := (gc_nle zc47); have q12 := (g_eq0 zx80.1); omega) ex78)) ml_X11_392 yV_X11_meet e_X11_ticks_206 (by unfold g_rr; decide) (by decide) 0 rfl rfl rfl (Nat.le_of_ble_eq_true rfl) (fun w84 h85 => ?_)
                          obtain ⟨F86, R87, rfl, oF86, oR87, wTF86, wCF86, cF86, cR87⟩ := h85
                          have fF86 : g_fr md_X11_ticks F F86 := g_fr_c fF44 cF86 rfl
                          have fR87 : g_fr mr_X11_ticks R R87 := g_fr_c fR45 cR87 rfl
                          obtain ⟨x88, ex88⟩ : ∃ z : Int32, z = y43 + Int32.ofInt 1 := ⟨_, rfl⟩
                          refine g_iinc cx x88 [(3, .int x88), (0, .ref (ad 0)), (1, .int y21), (2, .int r37)] 3 e_X11_ticks_209 rfl ex88.symm (by decide) rfl ?_
                          have zx88 := jv_add 1 9 (show x88 = y43 + 1 from ex88) p76 (jv_k (x := 1) 1 (by decide)) (by decide)
                          refine g_goto cx 184 e_X11_ticks_212 (by decide) ?_
                          refine g_lsub [1, 2, 3, 0] [(0, .ref (ad 0)), (1, .int y21), (2, .int r37), (3, .int x88)] rfl ?_
                          exact ih184 F86 R87 x88 oF86 fF86 oR87 fR87 wTF86 wCF86 (jv_w zx88.2 (by decide)) (by have q0 := (g_ok_g hI 12 rfl).1; have q1 := (g_ok_g hI 12 rfl).2; have q2 := (g_ok_g oF23 12 rfl).1; have q3 := (g_ok_g oF23 12 rfl).2; have q4 := (g_ok_g oF28 12 rfl).1; have q5 := (g_ok_g oF28 12 rfl).2; have q6 := (g_ok_g oF33 12 rfl).1; have q7 := (g_ok_g oF33 12 rfl).2; have q8 := (g_ok_g oF44 12 rfl).1; have q9 := (g_ok_g oF44 12 rfl).2; have q10 := (g_ok_g oF86 12 rfl).1; have q11 := (g_ok_g oF86 12 rfl).2; have q12 := hpt; have q13 := zi48_0; have q14 := zi116_0; have q15 := zi143_0; have q16 := zi184_0; have q17 := (congrArg Int32.toInt (show F86 45 = F44 45 from (cF86 45 rfl))); omega) (OW_e zq184_0 rfl (cR87 37 rfl)) (Nat.lt_of_lt_of_le (show (2147483647 - x88.toInt).toNat < (2147483647 - y43.toInt).toNat from by have q0 := (jv_k (x := 1) 1 (by decide)).1; have q1 := (jv_k (x := 1) 1 (by decide)).2; have q2 := p77.1; have q3 := p77.2; have q4 := p75.1; have q5 := p75.2; have q6 := zx80.2.1; have q7 := zx80.2.2; have q8 := zx88.2.1; have q9 := zx88.2.2; have q10 := p76.1; have q11 := p76.2; have q12 := (g_eq0 zx46.1); have q13 := (gc_nle zc47); have q14 := (g_eq0 zx80.1); have q15 := (g_eq0 zx88.1); omega) (Nat.le_of_lt_succ hm184))
                    refine g_lsub [2, 3, 1, 0] [(0, .ref (ad 0)), (1, .int y21), (2, .int r37), (3, .int 0)] rfl ?_
                    exact J184 _ F41 R42 0 oF41 fF41 oR42 fR42 wTF41 wCF41 (jv_w (jv_k (x := 0) 0 (by decide)) (by decide)) (by have q0 := (g_ok_g hI 12 rfl).1; have q1 := (g_ok_g hI 12 rfl).2; have q2 := (g_ok_g oF23 12 rfl).1; have q3 := (g_ok_g oF23 12 rfl).2; have q4 := (g_ok_g oF28 12 rfl).1; have q5 := (g_ok_g oF28 12 rfl).2; have q6 := (g_ok_g oF33 12 rfl).1; have q7 := (g_ok_g oF33 12 rfl).2; have q8 := (g_ok_g oF41 12 rfl).1; have q9 := (g_ok_g oF41 12 rfl).2; have q10 := hpt; have q11 := zi48_0; have q12 := zi116_0; have q13 := zi143_0; have q14 := (congrArg Int32.toInt (show F41 45 = F33 45 from (cF41 45 rfl))); omega) (OW_e zx40 (fR34 5 rfl).symm rfl) (Nat.lt_succ_self _)
                  · have p89 := gn_lt 0 9 (gc_nle zc35) py32 (jv_k (x := 10) 10 (by decide)) (by decide)
                    refine g_iload_n cx 1 rfl e_X11_ticks_149 ?_
                    refine g_iload_n cx 2 rfl e_X11_ticks_150 ?_
                    refine g_cSiW cx [.int y21, .int y32] [] (c_X11_has l X (wM X ad F33 R34) y21 y32) ml_X11_175 yS_X11_has rfl e_X11_ticks_151 (by unfold g_rr; decide) (by decide) rfl (Nat.le_of_ble_eq_true rfl) (fun r90 w91 h92 => ?_)
                    obtain ⟨rfl, hr90⟩ := h92
                    have pr90 : jv 0 1 r90 := by rcases hr90 with q | q <;> rw [q.1] <;> exact ⟨by decide, by decide⟩
                    have J171 : ∀ (F93 : Nat → Int32) (R94 : Nat → Nat → Int32), (g_ok LK_wM F93) → (g_fr md_X11_ticks F F93) → (g_okR LA_wM R94) → (g_fr mr_X11_ticks R R94) → (WT F93 R94) → (WC F93 R94) → ((F93 45).toInt = (F 45).toInt) → G X E 4 0 0 (wM X ad F93 R94) [(0, .ref (ad 0)), (1, .int y21), (2, .int y32)] 171 [] := by
                      intro F93 R94 oF93 fF93 oR94 fR94 wTF93R94 wCF93R94 zi171_0
                      obtain ⟨x95, ex95⟩ : ∃ z : Int32, z = y32 + Int32.ofInt 1 := ⟨_, rfl⟩
                      refine g_iinc cx x95 [(2, .int x95), (0, .ref (ad 0)), (1, .int y21)] 2 e_X11_ticks_171 rfl ex95.symm (by decide) rfl ?_
                      have zx95 := jv_add 1 10 (show x95 = y32 + 1 from ex95) p89 (jv_k (x := 1) 1 (by decide)) (by decide)
                      refine g_goto cx 143 e_X11_ticks_174 (by decide) ?_
                      refine g_lsub [1, 2, 0] [(0, .ref (ad 0)), (1, .int y21), (2, .int x95)] rfl ?_
                      exact ih143 F93 R94 x95 oF93 fF93 oR94 fR94 wTF93R94 wCF93R94 (jv_w zx95.2 (by decide)) (by have q0 := (g_ok_g hI 12 rfl).1; have q1 := (g_ok_g hI 12 rfl).2; have q2 := (g_ok_g oF23 12 rfl).1; have q3 := (g_ok_g oF23 12 rfl).2; have q4 := (g_ok_g oF28 12 rfl).1; have q5 := (g_ok_g oF28 12 rfl).2; have q6 := (g_ok_g oF33 12 rfl).1; have q7 := (g_ok_g oF33 12 rfl).2; have q8 := (g_ok_g oF93 12 rfl).1; have q9 := (g_ok_g oF93 12 rfl).2; have q10 := hpt; have q11 := zi48_0; have q12 := zi116_0; have q13 := zi143_0; have q14 := zi171_0; omega) (Nat.lt_of_lt_of_le (show (2147483647 - x95.toInt).toNat < (2147483647 - y32.toInt).toNat from by have q0 := (jv_k (x := 1) 1 (by decide)).1; have q1 := (jv_k (x := 1) 1 (by decide)).2; have q2 := (jv_k (x := 10) 10 (by decide)).1; have q3 := (jv_k (x := 10) 10 (by decide)).2; have q4 := zx95.2.1; have q5 := zx95.2.2; have q6 := p26.1; have q7 := p26.2; have q8 := p31.1; have q9 := p31.2; have q10 := p89.1; have q11 := p89.2; have q12 := (gc_le zc25); have q13 := (gc_le zc30); have q14 := (gc_nle zc35); have q15 := (g_eq0 zx95.1); omega) (Nat.le_of_lt_succ hm143))
                    refine g_if_eq cx 171 e_X11_ticks_154 (by decide) (fun zc96 => ?_) (fun zc96 => ?_)
                    · have p97 := gn_eq 0 0 (gc_eq zc96) pr90 (jv_k (x := 0) 0 (by decide)) (by decide)
                      exact J171 F33 R34 oF33 fF33 oR34 fR34 wTF33R34 wCF33R34 (by have q0 := (g_ok_g hI 12 rfl).1; have q1 := (g_ok_g hI 12 rfl).2; have q2 := (g_ok_g oF23 12 rfl).1; have q3 := (g_ok_g oF23 12 rfl).2; have q4 := (g_ok_g oF28 12 rfl).1; have q5 := (g_ok_g oF28 12 rfl).2; have q6 := (g_ok_g oF33 12 rfl).1; have q7 := (g_ok_g oF33 12 rfl).2; have q8 := hpt; have q9 := zi48_0; have q10 := zi116_0; have q11 := zi143_0; omega)
                    · have p98 := gn_neL 1 1 (gc_ne zc96) pr90 (jv_k (x := 0) 0 (by decide)) (by decide)
                      have zb99 : hb y21 y32 := g_hasy hr90 zc96
                      refine g_aload_n cx 0 rfl e_X11_ticks_157 ?_
                      refine g_get cx cl_X11 fl_X11_92 0 (.ref (ad 28)) e_X11_ticks_158 rfl rfl ?_
                      refine g_iload_n cx 2 rfl e_X11_ticks_161 ?_
                      refine g_iald cx 28 e_X11_ticks_162 rfl (jv_ix 10 p89 (by decide)) ?_
                      refine g_topi (fun x100 ex100 => ?_)
                      refine g_if_ne cx 171 e_X11_ticks_163 (by decide) (fun zc101 => ?_) (fun zc101 => ?_)
                      · exact J171 F33 R34 oF33 fF33 oR34 fR34 wTF33R34 wCF33R34 (by have q0 := (g_ok_g hI 12 rfl).1; have q1 := (g_ok_g hI 12 rfl).2; have q2 := (g_ok_g oF23 12 rfl).1; have q3 := (g_ok_g oF23 12 rfl).2; have q4 := (g_ok_g oF28 12 rfl).1; have q5 := (g_ok_g oF28 12 rfl).2; have q6 := (g_ok_g oF33 12 rfl).1; have q7 := (g_ok_g oF33 12 rfl).2; have q8 := hpt; have q9 := zi48_0; have q10 := zi116_0; have q11 := zi143_0; omega)
                      · have p102 := gn_eq 0 0 (gc_eq zc101) (jv_t x100) (jv_k (x := 0) 0 (by decide)) (by decide)
                        refine g_aload_n cx 0 rfl e_X11_ticks_166 ?_
                        refine g_iload_n cx 2 rfl e_X11_ticks_167 ?_
                        refine g_cVvW cx [.int y32] [] (w_X11_goes l X ad F33 R34 oF33 oR34 wTF33R34 wCF33R34 y32 p89) ml_X11_386 yV_X11_goes e_X11_ticks_168 (by unfold g_rr; decide) (by decide) 0 rfl rfl rfl (Nat.le_of_ble_eq_true rfl) (fun w104 h105 => ?_)
                        obtain ⟨F106, R107, rfl, oF106, oR107, wTF106, wCF106, cF106, cR107⟩ := h105
                        have fF106 : g_fr md_X11_ticks F F106 := g_fr_c fF33 cF106 rfl
                        have fR107 : g_fr mr_X11_ticks R R107 := g_fr_c fR34 cR107 rfl
                        exact J171 F106 R107 oF106 fF106 oR107 fR107 wTF106 wCF106 (by have q0 := (g_ok_g hI 12 rfl).1; have q1 := (g_ok_g hI 12 rfl).2; have q2 := (g_ok_g oF106 12 rfl).1; have q3 := (g_ok_g oF106 12 rfl).2; have q4 := (g_ok_g oF23 12 rfl).1; have q5 := (g_ok_g oF23 12 rfl).2; have q6 := (g_ok_g oF28 12 rfl).1; have q7 := (g_ok_g oF28 12 rfl).2; have q8 := (g_ok_g oF33 12 rfl).1; have q9 := (g_ok_g oF33 12 rfl).2; have q10 := hpt; have q11 := zi48_0; have q12 := zi116_0; have q13 := zi143_0; have q14 := (congrArg Int32.toInt (show F106 45 = F33 45 from (cF106 45 rfl))); omega)
              refine g_lsub [1, 2, 0] [(0, .ref (ad 0)), (1, .int y21), (2, .int 0)] rfl ?_
              exact J143 _ F28 R29 0 oF28 fF28 oR29 fR29 wTF28R29 wCF28R29 (jv_w (jv_k (x := 0) 0 (by decide)) (by decide)) (by have q0 := (g_ok_g hI 12 rfl).1; have q1 := (g_ok_g hI 12 rfl).2; have q2 := (g_ok_g oF23 12 rfl).1; have q3 := (g_ok_g oF23 12 rfl).2; have q4 := (g_ok_g oF28 12 rfl).1; have q5 := (g_ok_g oF28 12 rfl).2; have q6 := hpt; have q7 := zi48_0; have q8 := zi116_0; omega) (Nat.lt_succ_self _)
            · have p108 := gn_lt 0 9 (gc_nle zc30) py27 (jv_k (x := 10) 10 (by decide)) (by decide)
              refine g_iload_n cx 1 rfl e_X11_ticks_122 ?_
              refine g_iload_n cx 2 rfl e_X11_ticks_123 ?_
              refine g_cSiW cx [.int y21, .int y27] [] (c_X11_has l X (wM X ad F28 R29) y21 y27) ml_X11_175 yS_X11_has rfl e_X11_ticks_124 (by unfold g_rr; decide) (by decide) rfl (Nat.le_of_ble_eq_true rfl) (fun r109 w110 h111 => ?_)
              obtain ⟨rfl, hr109⟩ := h111
              have pr109 : jv 0 1 r109 := by rcases hr109 with q | q <;> rw [q.1] <;> exact ⟨by decide, by decide⟩
              have J135 : ∀ (F112 : Nat → Int32) (R113 : Nat → Nat → Int32), (g_ok LK_wM F112) → (g_fr md_X11_ticks F F112) → (g_okR LA_wM R113) → (g_fr mr_X11_ticks R R113) → (WT F112 R113) → (WC F112 R113) → ((F112 45).toInt = (F 45).toInt) → G X E 4 0 0 (wM X ad F112 R113) [(0, .ref (ad 0)), (1, .int y21), (2, .int y27)] 135 [] := by
                intro F112 R113 oF112 fF112 oR113 fR113 wTF112R113 wCF112R113 zi135_0
                obtain ⟨x114, ex114⟩ : ∃ z : Int32, z = y27 + Int32.ofInt 1 := ⟨_, rfl⟩
                refine g_iinc cx x114 [(2, .int x114), (0, .ref (ad 0)), (1, .int y21)] 2 e_X11_ticks_135 rfl ex114.symm (by decide) rfl ?_
                have zx114 := jv_add 1 10 (show x114 = y27 + 1 from ex114) p108 (jv_k (x := 1) 1 (by decide)) (by decide)
                refine g_goto cx 116 e_X11_ticks_138 (by decide) ?_
                refine g_lsub [1, 2, 0] [(0, .ref (ad 0)), (1, .int y21), (2, .int x114)] rfl ?_
                exact ih116 F112 R113 x114 oF112 fF112 oR113 fR113 wTF112R113 wCF112R113 (jv_w zx114.2 (by decide)) (by have q0 := (g_ok_g hI 12 rfl).1; have q1 := (g_ok_g hI 12 rfl).2; have q2 := (g_ok_g oF112 12 rfl).1; have q3 := (g_ok_g oF112 12 rfl).2; have q4 := (g_ok_g oF23 12 rfl).1; have q5 := (g_ok_g oF23 12 rfl).2; have q6 := (g_ok_g oF28 12 rfl).1; have q7 := (g_ok_g oF28 12 rfl).2; have q8 := hpt; have q9 := zi48_0; have q10 := zi116_0; have q11 := zi135_0; omega) (Nat.lt_of_lt_of_le (show (2147483647 - x114.toInt).toNat < (2147483647 - y27.toInt).toNat from by have q0 := (jv_k (x := 1) 1 (by decide)).1; have q1 := (jv_k (x := 1) 1 (by decide)).2; have q2 := (jv_k (x := 10) 10 (by decide)).1; have q3 := (jv_k (x := 10) 10 (by decide)).2; have q4 := zx114.2.1; have q5 := zx114.2.2; have q6 := p26.1; have q7 := p26.2; have q8 := p108.1; have q9 := p108.2; have q10 := (gc_le zc25); have q11 := (gc_nle zc30); have q12 := (g_eq0 zx114.1); omega) (Nat.le_of_lt_succ hm116))
              refine g_if_eq cx 135 e_X11_ticks_127 (by decide) (fun zc115 => ?_) (fun zc115 => ?_)
              · have p116 := gn_eq 0 0 (gc_eq zc115) pr109 (jv_k (x := 0) 0 (by decide)) (by decide)
                exact J135 F28 R29 oF28 fF28 oR29 fR29 wTF28R29 wCF28R29 (by have q0 := (g_ok_g hI 12 rfl).1; have q1 := (g_ok_g hI 12 rfl).2; have q2 := (g_ok_g oF23 12 rfl).1; have q3 := (g_ok_g oF23 12 rfl).2; have q4 := (g_ok_g oF28 12 rfl).1; have q5 := (g_ok_g oF28 12 rfl).2; have q6 := hpt; have q7 := zi48_0; have q8 := zi116_0; omega)
              · have p117 := gn_neL 1 1 (gc_ne zc115) pr109 (jv_k (x := 0) 0 (by decide)) (by decide)
                have zb118 : hb y21 y27 := g_hasy hr109 zc115
                refine g_aload_n cx 0 rfl e_X11_ticks_130 ?_
                refine g_iload_n cx 2 rfl e_X11_ticks_131 ?_
                refine g_cVvW cx [.int y27] [] (w_X11_hurries l X ad F28 R29 oF28 oR29 wTF28R29 wCF28R29 y27 p108 (WN_e hpn (fF28 42 rfl) (fR29 3 rfl) (fR29 5 rfl)) (by rw [(fF28 42 rfl)]; exact (zq48_0 y27 p108 zb118))) ml_X11_383 yV_X11_hurries e_X11_ticks_132 (by unfold g_rr; decide) (by decide) 0 rfl rfl rfl (Nat.le_of_ble_eq_true rfl) (fun w120 h121 => ?_)
                obtain ⟨F122, R123, rfl, oF122, oR123, wTF122, wCF122, cF122, cR123⟩ := h121
                have fF122 : g_fr md_X11_ticks F F122 := g_fr_c fF28 cF122 rfl
                have fR123 : g_fr mr_X11_ticks R R123 := g_fr_c fR29 cR123 rfl
                exact J135 F122 R123 oF122 fF122 oR123 fR123 wTF122 wCF122 (by have q0 := (g_ok_g hI 12 rfl).1; have q1 := (g_ok_g hI 12 rfl).2; have q2 := (g_ok_g oF122 12 rfl).1; have q3 := (g_ok_g oF122 12 rfl).2; have q4 := (g_ok_g oF23 12 rfl).1; have q5 := (g_ok_g oF23 12 rfl).2; have q6 := (g_ok_g oF28 12 rfl).1; have q7 := (g_ok_g oF28 12 rfl).2; have q8 := hpt; have q9 := zi48_0; have q10 := zi116_0; have q11 := (congrArg Int32.toInt (show F122 45 = F28 45 from (cF122 45 rfl))); omega)
        refine g_lsub [1, 2, 0] [(0, .ref (ad 0)), (1, .int y21), (2, .int 0)] rfl ?_
        exact J116 _ F23 R24 0 oF23 fF23 oR24 fR24 wTF23R24 wCF23R24 (jv_w (jv_k (x := 0) 0 (by decide)) (by decide)) (by have q0 := (g_ok_g hI 12 rfl).1; have q1 := (g_ok_g hI 12 rfl).2; have q2 := (g_ok_g oF23 12 rfl).1; have q3 := (g_ok_g oF23 12 rfl).2; have q4 := hpt; have q5 := zi48_0; omega) (Nat.lt_succ_self _)
      · have p124 := gn_lt 0 9 (gc_nle zc25) py22 (jv_k (x := 10) 10 (by decide)) (by decide)
        refine g_aload_n cx 0 rfl e_X11_ticks_54 ?_
        refine g_iload_n cx 2 rfl e_X11_ticks_55 ?_
        refine g_cViW cx [.int y22] [] (w_X11_stands l X ad F23 R24 oF23 oR24 wTF23R24 wCF23R24 y22 p124) ml_X11_343 yV_X11_stands e_X11_ticks_56 (by unfold g_rr; decide) (by decide) 0 rfl rfl rfl (Nat.le_of_ble_eq_true rfl) (fun r125 w126 h127 => ?_)
        obtain ⟨rfl, pr125, zx128⟩ := h127
        have J108 : ∀ (F130 : Nat → Int32) (R131 : Nat → Nat → Int32) (y129 : Int32), (g_ok LK_wM F130) → (g_fr md_X11_ticks F F130) → (g_okR LA_wM R131) → (g_fr mr_X11_ticks R R131) → (WT F130 R131) → (WC F130 R131) → (jv (-2147483648) 2147483647 y129) → ((F130 45).toInt = (F 45).toInt) → (HS y129 (F 42)) → G X E 4 0 0 (wM X ad F130 R131) [(0, .ref (ad 0)), (1, .int y129), (2, .int y22)] 108 [] := by
          intro F130 R131 y129 oF130 fF130 oR131 fR131 wTF130R131 wCF130R131 py129 zi108_0 zq108_0
          obtain ⟨x132, ex132⟩ : ∃ z : Int32, z = y22 + Int32.ofInt 1 := ⟨_, rfl⟩
          refine g_iinc cx x132 [(2, .int x132), (0, .ref (ad 0)), (1, .int y129)] 2 e_X11_ticks_108 rfl ex132.symm (by decide) rfl ?_
          have zx132 := jv_add 1 10 (show x132 = y22 + 1 from ex132) p124 (jv_k (x := 1) 1 (by decide)) (by decide)
          refine g_goto cx 48 e_X11_ticks_111 (by decide) ?_
          refine g_lsub [1, 2, 0] [(0, .ref (ad 0)), (1, .int y129), (2, .int x132)] rfl ?_
          exact ih48 F130 R131 y129 x132 oF130 fF130 oR131 fR131 wTF130R131 wCF130R131 py129 (jv_w zx132.2 (by decide)) (by have q0 := (g_ok_g hI 12 rfl).1; have q1 := (g_ok_g hI 12 rfl).2; have q2 := (g_ok_g oF130 12 rfl).1; have q3 := (g_ok_g oF130 12 rfl).2; have q4 := (g_ok_g oF23 12 rfl).1; have q5 := (g_ok_g oF23 12 rfl).2; have q6 := hpt; have q7 := zi48_0; have q8 := zi108_0; omega) (zq108_0) (Nat.lt_of_lt_of_le (show (2147483647 - x132.toInt).toNat < (2147483647 - y22.toInt).toNat from by have q0 := (jv_k (x := 1) 1 (by decide)).1; have q1 := (jv_k (x := 1) 1 (by decide)).2; have q2 := (jv_k (x := 10) 10 (by decide)).1; have q3 := (jv_k (x := 10) 10 (by decide)).2; have q4 := zx132.2.1; have q5 := zx132.2.2; have q6 := p124.1; have q7 := p124.2; have q8 := (gc_nle zc25); have q9 := (g_eq0 zx132.1); omega) (Nat.le_of_lt_succ hm48))
        refine g_if_ne cx 65 e_X11_ticks_59 (by decide) (fun zc133 => ?_) (fun zc133 => ?_)
        · have p134 := gn_neL 1 1 (gc_ne zc133) pr125 (jv_k (x := 0) 0 (by decide)) (by decide)
          refine g_iload_n cx 1 rfl e_X11_ticks_65 ?_
          refine g_iconst cx 1 (by decide) e_X11_ticks_66 ?_
          refine g_iload_n cx 2 rfl e_X11_ticks_67 ?_
          refine g_ishl cx e_X11_ticks_68 ?_
          refine g_topi (fun x135 ex135 => ?_)
          refine g_ior cx e_X11_ticks_69 ?_
          refine g_topi (fun x136 ex136 => ?_)
          refine g_istore_n cx [(1, .int x136), (0, .ref (ad 0)), (2, .int y22)] e_X11_ticks_70 (by decide) rfl ?_
          refine g_aload_n cx 1 rfl e_X11_ticks_71 ?_
          refine g_get cx cl_X11 fl_X11_116 0 (.ref (ad 36)) e_X11_ticks_72 rfl rfl ?_
          refine g_iload_n cx 2 rfl e_X11_ticks_75 ?_
          refine g_aload_n cx 1 rfl e_X11_ticks_76 ?_
          refine g_get cx cl_X11 fl_X11_86 0 (.ref (ad 26)) e_X11_ticks_77 rfl rfl ?_
          refine g_iload_n cx 2 rfl e_X11_ticks_80 ?_
          refine g_iald cx 26 e_X11_ticks_81 rfl (jv_ix 10 p124 (by decide)) ?_
          refine g_topi (fun x137 ex137 => ?_)
          refine g_iast cx 36 (wM X ad F23 (g_u R24 36 (upd (R24 36) (Int32.toNatClampNeg y22) x137))) e_X11_ticks_82 rfl (jv_ix 10 p124 (by decide)) rfl ?_
          obtain ⟨R138, hR138⟩ : ∃ z, z = g_u R24 36 (upd (R24 36) (Int32.toNatClampNeg y22) x137) := ⟨_, rfl⟩
          rw [← hR138]
          have oR138 : g_okR LA_wM R138 := by rw [hR138]; exact g_okR_u oR24 rfl
          have fR138 : g_fr mr_X11_ticks R R138 := by rw [hR138]; exact g_fr_r fR24 rfl
          have wTR138 : WT F23 R138 := by rw [hR138]; exact WT_r wTF23R24 rfl
          have wCR138 : WC F23 R138 := by rw [hR138]; exact WC_r wCF23R24 rfl
          refine g_aload_n cx 1 rfl e_X11_ticks_83 ?_
          refine g_get cx cl_X11 fl_X11_86 0 (.ref (ad 26)) e_X11_ticks_84 rfl rfl ?_
          refine g_iload_n cx 2 rfl e_X11_ticks_87 ?_
          refine g_iald cx 26 e_X11_ticks_88 rfl (jv_ix 10 p124 (by decide)) ?_
          refine g_topi (fun x139 ex139 => ?_)
          refine g_aload_n cx 1 rfl e_X11_ticks_89 ?_
          refine g_get cx cl_X11 fl_X11_331 0 (.int (F23 48)) e_X11_ticks_90 rfl rfl ?_
          refine g_icmp_ge cx 108 e_X11_ticks_93 (by decide) (fun zc140 => ?_) (fun zc140 => ?_)
          · refine g_lsub [1, 0, 2] [(0, .ref (ad 0)), (1, .int x136), (2, .int y22)] rfl ?_
            exact J108 F23 R138 x136 oF23 fF23 oR138 fR138 wTR138 wCR138 (jv_t x136) (by have q0 := (g_ok_g hI 12 rfl).1; have q1 := (g_ok_g hI 12 rfl).2; have q2 := (g_ok_g oF23 12 rfl).1; have q3 := (g_ok_g oF23 12 rfl).2; have q4 := hpt; have q5 := zi48_0; omega) (HS_or zq48_0 p124 (by have q := (zx128 zc133); rw [(fF23 42 rfl)] at q; exact q) (ex136.trans (by rw [ex135])))
          · have p141 := gn_lt (-2147483648) 2147483646 (gc_nle zc140) (jv_t x139) (jv_t (F23 48)) (by decide)
            have p142 := gn_gt (-2147483647) 2147483647 (gc_nle zc140) (jv_t (F23 48)) (jv_t x139) (by decide)
            refine g_aload_n cx 1 rfl e_X11_ticks_96 ?_
            refine g_aload_n cx 1 rfl e_X11_ticks_97 ?_
            refine g_get cx cl_X11 fl_X11_362 0 (.int (F23 69)) e_X11_ticks_98 rfl rfl ?_
            refine g_iconst cx 1 (by decide) e_X11_ticks_101 ?_
            refine g_iload_n cx 2 rfl e_X11_ticks_102 ?_
            refine g_ishl cx e_X11_ticks_103 ?_
            refine g_topi (fun x143 ex143 => ?_)
            refine g_ior cx e_X11_ticks_104 ?_
            refine g_topi (fun x144 ex144 => ?_)
            refine g_put cx cl_X11 fl_X11_362 0 (wM X ad (upd F23 69 x144) R138) e_X11_ticks_105 rfl rfl rfl rfl (Nat.le_of_ble_eq_true rfl) rfl ?_
            obtain ⟨F145, hF145⟩ : ∃ z, z = upd F23 69 x144 := ⟨_, rfl⟩
            rw [← hF145]
            have oF145 : g_ok LK_wM F145 := by rw [hF145]; exact g_ok_u oF23 rfl
            have fF145 : g_fr md_X11_ticks F F145 := by rw [hF145]; exact g_fr_u fF23 rfl
            have wTF145 : WT F145 R138 := by rw [hF145]; exact WT_u wTR138 rfl
            have wCF145 : WC F145 R138 := by rw [hF145]; exact WC_u wCR138 rfl
            refine g_lsub [1, 0, 2] [(0, .ref (ad 0)), (1, .int x136), (2, .int y22)] rfl ?_
            exact J108 F145 R138 x136 oF145 fF145 oR138 fR138 wTF145 wCF145 (jv_t x136) (by have q0 := (g_ok_g hI 12 rfl).1; have q1 := (g_ok_g hI 12 rfl).2; have q2 := (g_ok_g oF145 12 rfl).1; have q3 := (g_ok_g oF145 12 rfl).2; have q4 := (g_ok_g oF23 12 rfl).1; have q5 := (g_ok_g oF23 12 rfl).2; have q6 := hpt; have q7 := zi48_0; have q8 := (congrArg Int32.toInt (show F145 45 = F23 45 from (g_pu2 hF145 rfl))); omega) (HS_or zq48_0 p124 (by have q := (zx128 zc133); rw [(fF23 42 rfl)] at q; exact q) (ex136.trans (by rw [ex135])))
        · have p146 := gn_eq 0 0 (gc_eq zc133) pr125 (jv_k (x := 0) 0 (by decide)) (by decide)
          refine g_goto cx 108 e_X11_ticks_62 (by decide) ?_
          exact J108 F23 R24 y21 oF23 fF23 oR24 fR24 wTF23R24 wCF23R24 py21 (by have q0 := (g_ok_g hI 12 rfl).1; have q1 := (g_ok_g hI 12 rfl).2; have q2 := (g_ok_g oF23 12 rfl).1; have q3 := (g_ok_g oF23 12 rfl).2; have q4 := hpt; have q5 := zi48_0; omega) (zq48_0)
  refine g_lsub [2, 1, 0] [(0, .ref (ad 0)), (1, .int 0), (2, .int 0)] rfl ?_
  exact J48 _ F20 R8 0 0 oF20 fF20 oR8 fR8 wTF20 wCF20 (jv_w (jv_k (x := 0) 0 (by decide)) (by decide)) (jv_w (jv_k (x := 0) 0 (by decide)) (by decide)) (by have q0 := (g_ok_g hI 12 rfl).1; have q1 := (g_ok_g hI 12 rfl).2; have q2 := (g_ok_g oF20 12 rfl).1; have q3 := (g_ok_g oF20 12 rfl).2; have q4 := hpt; have q5 := (congrArg Int32.toInt (show F20 45 = F 45 from (((((g_pu2 hF20 rfl).trans (g_pu2 hF19 rfl)).trans (g_pu2 hF18 rfl)).trans (g_pu2 hF13 rfl)).trans (cF7 45 rfl)))); omega) (HS_0 _) (Nat.lt_succ_self _)
theorem e_X11_begins_0 : g_dc cX11_begins 0 (.aload_n 0) 1 1 := ⟨by decide +kernel, rfl⟩
theorem e_X11_begins_1 : g_dc cX11_begins 1 (.iconst 0) 1 2 := ⟨by decide +kernel, rfl⟩
theorem e_X11_begins_2 : g_dc cX11_begins 2 (.putfield 325) 3 5 := ⟨by decide +kernel, rfl⟩
theorem e_X11_begins_5 : g_dc cX11_begins 5 (.aload_n 0) 1 6 := ⟨by decide +kernel, rfl⟩
theorem e_X11_begins_6 : g_dc cX11_begins 6 (.iconst 0) 1 7 := ⟨by decide +kernel, rfl⟩
theorem e_X11_begins_7 : g_dc cX11_begins 7 (.putfield 328) 3 10 := ⟨by decide +kernel, rfl⟩
theorem e_X11_begins_10 : g_dc cX11_begins 10 (.aload_n 0) 1 11 := ⟨by decide +kernel, rfl⟩
theorem e_X11_begins_11 : g_dc cX11_begins 11 (.aload_n 0) 1 12 := ⟨by decide +kernel, rfl⟩
theorem e_X11_begins_12 : g_dc cX11_begins 12 (.getfield 159) 3 15 := ⟨by decide +kernel, rfl⟩
theorem e_X11_begins_15 : g_dc cX11_begins 15 (.putfield 331) 3 18 := ⟨by decide +kernel, rfl⟩
theorem e_X11_begins_18 : g_dc cX11_begins 18 (.aload_n 0) 1 19 := ⟨by decide +kernel, rfl⟩
theorem e_X11_begins_19 : g_dc cX11_begins 19 (.iconst 0) 1 20 := ⟨by decide +kernel, rfl⟩
theorem e_X11_begins_20 : g_dc cX11_begins 20 (.putfield 334) 3 23 := ⟨by decide +kernel, rfl⟩
theorem e_X11_begins_23 : g_dc cX11_begins 23 (.aload_n 0) 1 24 := ⟨by decide +kernel, rfl⟩
theorem e_X11_begins_24 : g_dc cX11_begins 24 (.iconst 0) 1 25 := ⟨by decide +kernel, rfl⟩
theorem e_X11_begins_25 : g_dc cX11_begins 25 (.putfield 337) 3 28 := ⟨by decide +kernel, rfl⟩
theorem e_X11_begins_28 : g_dc cX11_begins 28 (.aload_n 0) 1 29 := ⟨by decide +kernel, rfl⟩
theorem e_X11_begins_29 : g_dc cX11_begins 29 (.iconst 0) 1 30 := ⟨by decide +kernel, rfl⟩
theorem e_X11_begins_30 : g_dc cX11_begins 30 (.putfield 340) 3 33 := ⟨by decide +kernel, rfl⟩
theorem e_X11_begins_33 : g_dc cX11_begins 33 (.iconst 0) 1 34 := ⟨by decide +kernel, rfl⟩
theorem e_X11_begins_34 : g_dc cX11_begins 34 (.istore_n 1) 1 35 := ⟨by decide +kernel, rfl⟩
theorem e_X11_begins_35 : g_dc cX11_begins 35 (.iload_n 1) 1 36 := ⟨by decide +kernel, rfl⟩
theorem e_X11_begins_36 : g_dc cX11_begins 36 (.bipush 10) 2 38 := ⟨by decide +kernel, rfl⟩
theorem e_X11_begins_38 : g_dc cX11_begins 38 (.if_icmp .ge 75) 3 41 := ⟨by decide +kernel, rfl⟩
theorem e_X11_begins_41 : g_dc cX11_begins 41 (.aload_n 0) 1 42 := ⟨by decide +kernel, rfl⟩
theorem e_X11_begins_42 : g_dc cX11_begins 42 (.getfield 89) 3 45 := ⟨by decide +kernel, rfl⟩
theorem e_X11_begins_45 : g_dc cX11_begins 45 (.iload_n 1) 1 46 := ⟨by decide +kernel, rfl⟩
theorem e_X11_begins_46 : g_dc cX11_begins 46 (.iconst 0) 1 47 := ⟨by decide +kernel, rfl⟩
theorem e_X11_begins_47 : g_dc cX11_begins 47 (.iastore) 1 48 := ⟨by decide +kernel, rfl⟩
theorem e_X11_begins_48 : g_dc cX11_begins 48 (.aload_n 0) 1 49 := ⟨by decide +kernel, rfl⟩
theorem e_X11_begins_49 : g_dc cX11_begins 49 (.getfield 92) 3 52 := ⟨by decide +kernel, rfl⟩
theorem e_X11_begins_52 : g_dc cX11_begins 52 (.iload_n 1) 1 53 := ⟨by decide +kernel, rfl⟩
theorem e_X11_begins_53 : g_dc cX11_begins 53 (.iconst 0) 1 54 := ⟨by decide +kernel, rfl⟩
theorem e_X11_begins_54 : g_dc cX11_begins 54 (.iastore) 1 55 := ⟨by decide +kernel, rfl⟩
theorem e_X11_begins_55 : g_dc cX11_begins 55 (.aload_n 0) 1 56 := ⟨by decide +kernel, rfl⟩
theorem e_X11_begins_56 : g_dc cX11_begins 56 (.getfield 95) 3 59 := ⟨by decide +kernel, rfl⟩
theorem e_X11_begins_59 : g_dc cX11_begins 59 (.iload_n 1) 1 60 := ⟨by decide +kernel, rfl⟩
theorem e_X11_begins_60 : g_dc cX11_begins 60 (.aload_n 0) 1 61 := ⟨by decide +kernel, rfl⟩
theorem e_X11_begins_61 : g_dc cX11_begins 61 (.getfield 28) 3 64 := ⟨by decide +kernel, rfl⟩
theorem e_X11_begins_64 : g_dc cX11_begins 64 (.iload_n 1) 1 65 := ⟨by decide +kernel, rfl⟩
theorem e_X11_begins_65 : g_dc cX11_begins 65 (.iaload) 1 66 := ⟨by decide +kernel, rfl⟩
theorem e_X11_begins_66 : g_dc cX11_begins 66 (.iastore) 1 67 := ⟨by decide +kernel, rfl⟩
theorem e_X11_begins_67 : g_dc cX11_begins 67 (.aload_n 0) 1 68 := ⟨by decide +kernel, rfl⟩
theorem e_X11_begins_68 : g_dc cX11_begins 68 (.getfield 101) 3 71 := ⟨by decide +kernel, rfl⟩
theorem e_X11_begins_71 : g_dc cX11_begins 71 (.iload_n 1) 1 72 := ⟨by decide +kernel, rfl⟩
theorem e_X11_begins_72 : g_dc cX11_begins 72 (.aload_n 0) 1 73 := ⟨by decide +kernel, rfl⟩
theorem e_X11_begins_73 : g_dc cX11_begins 73 (.getfield 19) 3 76 := ⟨by decide +kernel, rfl⟩
theorem e_X11_begins_76 : g_dc cX11_begins 76 (.iload_n 1) 1 77 := ⟨by decide +kernel, rfl⟩
theorem e_X11_begins_77 : g_dc cX11_begins 77 (.iaload) 1 78 := ⟨by decide +kernel, rfl⟩
theorem e_X11_begins_78 : g_dc cX11_begins 78 (.iastore) 1 79 := ⟨by decide +kernel, rfl⟩
theorem e_X11_begins_79 : g_dc cX11_begins 79 (.aload_n 0) 1 80 := ⟨by decide +kernel, rfl⟩
theorem e_X11_begins_80 : g_dc cX11_begins 80 (.getfield 104) 3 83 := ⟨by decide +kernel, rfl⟩
theorem e_X11_begins_83 : g_dc cX11_begins 83 (.iload_n 1) 1 84 := ⟨by decide +kernel, rfl⟩
theorem e_X11_begins_84 : g_dc cX11_begins 84 (.iconst 0) 1 85 := ⟨by decide +kernel, rfl⟩
theorem e_X11_begins_85 : g_dc cX11_begins 85 (.iastore) 1 86 := ⟨by decide +kernel, rfl⟩
theorem e_X11_begins_86 : g_dc cX11_begins 86 (.aload_n 0) 1 87 := ⟨by decide +kernel, rfl⟩
theorem e_X11_begins_87 : g_dc cX11_begins 87 (.getfield 107) 3 90 := ⟨by decide +kernel, rfl⟩
theorem e_X11_begins_90 : g_dc cX11_begins 90 (.iload_n 1) 1 91 := ⟨by decide +kernel, rfl⟩
theorem e_X11_begins_91 : g_dc cX11_begins 91 (.iconst 0) 1 92 := ⟨by decide +kernel, rfl⟩
theorem e_X11_begins_92 : g_dc cX11_begins 92 (.iastore) 1 93 := ⟨by decide +kernel, rfl⟩
theorem e_X11_begins_93 : g_dc cX11_begins 93 (.aload_n 0) 1 94 := ⟨by decide +kernel, rfl⟩
theorem e_X11_begins_94 : g_dc cX11_begins 94 (.getfield 110) 3 97 := ⟨by decide +kernel, rfl⟩
theorem e_X11_begins_97 : g_dc cX11_begins 97 (.iload_n 1) 1 98 := ⟨by decide +kernel, rfl⟩
theorem e_X11_begins_98 : g_dc cX11_begins 98 (.iconst 0) 1 99 := ⟨by decide +kernel, rfl⟩
theorem e_X11_begins_99 : g_dc cX11_begins 99 (.iastore) 1 100 := ⟨by decide +kernel, rfl⟩
theorem e_X11_begins_100 : g_dc cX11_begins 100 (.aload_n 0) 1 101 := ⟨by decide +kernel, rfl⟩
theorem e_X11_begins_101 : g_dc cX11_begins 101 (.getfield 113) 3 104 := ⟨by decide +kernel, rfl⟩
theorem e_X11_begins_104 : g_dc cX11_begins 104 (.iload_n 1) 1 105 := ⟨by decide +kernel, rfl⟩
theorem e_X11_begins_105 : g_dc cX11_begins 105 (.iconst 0) 1 106 := ⟨by decide +kernel, rfl⟩
theorem e_X11_begins_106 : g_dc cX11_begins 106 (.iastore) 1 107 := ⟨by decide +kernel, rfl⟩
theorem e_X11_begins_107 : g_dc cX11_begins 107 (.iinc 1 1) 3 110 := ⟨by decide +kernel, rfl⟩
theorem e_X11_begins_110 : g_dc cX11_begins 110 (.goto (-75)) 3 113 := ⟨by decide +kernel, rfl⟩
theorem e_X11_begins_113 : g_dc cX11_begins 113 (.return_) 1 114 := ⟨by decide +kernel, rfl⟩
def md_X11_begins : List Nat := [45, 46, 48, 65, 66, 67]
def mr_X11_begins : List Nat := [27, 28, 29, 31, 32, 33, 34, 35]
set_option maxHeartbeats 4000000 in
set_option maxRecDepth 100000 in
theorem w_X11_begins (l : Launch) (X : gX) (ad : Nat → Nat) (F : Nat → Int32) (R : Nat → Nat → Int32) (hI : g_ok LK_wM F) (hA : g_okR LA_wM R) (hWT : WT F R) (hWC : WC F R) : g_Cv l X yX11_begins cX11_begins 2 1 0 0 [.ref (ad 0)] (wM X ad F R) (fun w => ∃ (F' : Nat → Int32) (R' : Nat → Nat → Int32), w = wM X ad F' R' ∧ g_ok LK_wM F' ∧ g_okR LA_wM R' ∧ WT F' R' ∧ WC F' R' ∧ g_fr md_X11_begins F F' ∧ g_fr mr_X11_begins R R') := by
  refine g_mv (by decide +kernel) (Nat.le_of_ble_eq_true rfl) (fun E cx hret => ?_)
  refine g_aload_n cx 0 rfl e_X11_begins_0 ?_
  refine g_iconst cx 0 (by decide) e_X11_begins_1 ?_
  refine g_put cx cl_X11 fl_X11_325 0 (wM X ad (upd F 45 0) R) e_X11_begins_2 rfl rfl rfl rfl (Nat.le_of_ble_eq_true rfl) rfl ?_
  obtain ⟨F1, hF1⟩ : ∃ z, z = upd F 45 0 := ⟨_, rfl⟩
  rw [← hF1]
  have oF1 : g_ok LK_wM F1 := by rw [hF1]; exact g_ok_p hI (jv_k (x := 0) 0 (by decide)) rfl
  have fF1 : g_fr md_X11_begins F F1 := by rw [hF1]; exact g_fr_u (g_fr_rf F) rfl
  have wTF1 : WT F1 R := by rw [hF1]; exact WT_u hWT rfl
  have wCF1 : WC F1 R := by rw [hF1]; exact WC_u hWC rfl
  refine g_aload_n cx 0 rfl e_X11_begins_5 ?_
  refine g_iconst cx 0 (by decide) e_X11_begins_6 ?_
  refine g_put cx cl_X11 fl_X11_328 0 (wM X ad (upd F1 46 0) R) e_X11_begins_7 rfl rfl rfl rfl (Nat.le_of_ble_eq_true rfl) rfl ?_
  obtain ⟨F2, hF2⟩ : ∃ z, z = upd F1 46 0 := ⟨_, rfl⟩
  rw [← hF2]
  have oF2 : g_ok LK_wM F2 := by rw [hF2]; exact g_ok_u oF1 rfl
  have fF2 : g_fr md_X11_begins F F2 := by rw [hF2]; exact g_fr_u fF1 rfl
  have wTF2 : WT F2 R := by rw [hF2]; exact WT_u wTF1 rfl
  have wCF2 : WC F2 R := by rw [hF2]; exact WC_u wCF1 rfl
  refine g_aload_n cx 0 rfl e_X11_begins_10 ?_
  refine g_aload_n cx 0 rfl e_X11_begins_11 ?_
  refine g_get cx cl_X11 fl_X11_159 0 (.int (F2 1)) e_X11_begins_12 rfl rfl ?_
  refine g_toi (F 1) ((g_pu2 hF2 rfl).trans (g_pu2 hF1 rfl)) ?_
  refine g_put cx cl_X11 fl_X11_331 0 (wM X ad (upd F2 48 (F 1)) R) e_X11_begins_15 rfl rfl rfl rfl (Nat.le_of_ble_eq_true rfl) rfl ?_
  obtain ⟨F3, hF3⟩ : ∃ z, z = upd F2 48 (F 1) := ⟨_, rfl⟩
  rw [← hF3]
  have oF3 : g_ok LK_wM F3 := by rw [hF3]; exact g_ok_u oF2 rfl
  have fF3 : g_fr md_X11_begins F F3 := by rw [hF3]; exact g_fr_u fF2 rfl
  have wTF3 : WT F3 R := by rw [hF3]; exact WT_u wTF2 rfl
  have wCF3 : WC F3 R := by rw [hF3]; exact WC_u wCF2 rfl
  refine g_aload_n cx 0 rfl e_X11_begins_18 ?_
  refine g_iconst cx 0 (by decide) e_X11_begins_19 ?_
  refine g_put cx cl_X11 fl_X11_334 0 (wM X ad (upd F3 65 0) R) e_X11_begins_20 rfl rfl rfl rfl (Nat.le_of_ble_eq_true rfl) rfl ?_
  obtain ⟨F4, hF4⟩ : ∃ z, z = upd F3 65 0 := ⟨_, rfl⟩
  rw [← hF4]
  have oF4 : g_ok LK_wM F4 := by rw [hF4]; exact g_ok_u oF3 rfl
  have fF4 : g_fr md_X11_begins F F4 := by rw [hF4]; exact g_fr_u fF3 rfl
  have wTF4 : WT F4 R := by rw [hF4]; exact WT_u wTF3 rfl
  have wCF4 : WC F4 R := by rw [hF4]; exact WC_u wCF3 rfl
  refine g_aload_n cx 0 rfl e_X11_begins_23 ?_
  refine g_iconst cx 0 (by decide) e_X11_begins_24 ?_
  refine g_put cx cl_X11 fl_X11_337 0 (wM X ad (upd F4 66 0) R) e_X11_begins_25 rfl rfl rfl rfl (Nat.le_of_ble_eq_true rfl) rfl ?_
  obtain ⟨F5, hF5⟩ : ∃ z, z = upd F4 66 0 := ⟨_, rfl⟩
  rw [← hF5]
  have oF5 : g_ok LK_wM F5 := by rw [hF5]; exact g_ok_u oF4 rfl
  have fF5 : g_fr md_X11_begins F F5 := by rw [hF5]; exact g_fr_u fF4 rfl
  have wTF5 : WT F5 R := by rw [hF5]; exact WT_u wTF4 rfl
  have wCF5 : WC F5 R := by rw [hF5]; exact WC_u wCF4 rfl
  refine g_aload_n cx 0 rfl e_X11_begins_28 ?_
  refine g_iconst cx 0 (by decide) e_X11_begins_29 ?_
  refine g_put cx cl_X11 fl_X11_340 0 (wM X ad (upd F5 67 0) R) e_X11_begins_30 rfl rfl rfl rfl (Nat.le_of_ble_eq_true rfl) rfl ?_
  obtain ⟨F6, hF6⟩ : ∃ z, z = upd F5 67 0 := ⟨_, rfl⟩
  rw [← hF6]
  have oF6 : g_ok LK_wM F6 := by rw [hF6]; exact g_ok_u oF5 rfl
  have fF6 : g_fr md_X11_begins F F6 := by rw [hF6]; exact g_fr_u fF5 rfl
  have wTF6 : WT F6 R := by rw [hF6]; exact WT_u wTF5 rfl
  have wCF6 : WC F6 R := by rw [hF6]; exact WC_u wCF5 rfl
  refine g_iconst cx 0 (by decide) e_X11_begins_33 ?_
  refine g_istore_n cx [(1, .int 0), (0, .ref (ad 0))] e_X11_begins_34 (by decide) rfl ?_
  have J35 : ∀ (N : Nat) (R8 : Nat → Nat → Int32) (y7 : Int32), (g_okR LA_wM R8) → (g_fr mr_X11_begins R R8) → (WT F6 R8) → (WC F6 R8) → (jv 0 10 y7) → (2147483647 - y7.toInt).toNat < N → G X E 2 0 0 (wM X ad F6 R8) [(0, .ref (ad 0)), (1, .int y7)] 35 [] := by
    intro N
    induction N with
    | zero => intro R8 y7 oR8 fR8 wTR8 wCR8 py7 hm; exact absurd hm (Nat.not_lt_zero _)
    | succ N ih35 =>
      intro R8 y7 oR8 fR8 wTR8 wCR8 py7 hm35
      refine g_iload_n cx 1 rfl e_X11_begins_35 ?_
      refine g_bipush cx 10 (by decide) e_X11_begins_36 ?_
      refine g_icmp_ge cx 113 e_X11_begins_38 (by decide) (fun zc9 => ?_) (fun zc9 => ?_)
      · have p10 := gn_ge 10 10 (gc_le zc9) py7 (jv_k (x := 10) 10 (by decide)) (by decide)
        exact hret e_X11_begins_113 (Nat.le_of_ble_eq_true rfl) (Nat.le_of_ble_eq_true rfl) ⟨F6, R8, rfl, oF6, oR8, wTR8, wCR8, fF6, fR8⟩
      · have p11 := gn_lt 0 9 (gc_nle zc9) py7 (jv_k (x := 10) 10 (by decide)) (by decide)
        refine g_aload_n cx 0 rfl e_X11_begins_41 ?_
        refine g_get cx cl_X11 fl_X11_89 0 (.ref (ad 27)) e_X11_begins_42 rfl rfl ?_
        refine g_iload_n cx 1 rfl e_X11_begins_45 ?_
        refine g_iconst cx 0 (by decide) e_X11_begins_46 ?_
        refine g_iast cx 27 (wM X ad F6 (g_u R8 27 (upd (R8 27) (Int32.toNatClampNeg y7) 0))) e_X11_begins_47 rfl (jv_ix 10 p11 (by decide)) rfl ?_
        obtain ⟨R12, hR12⟩ : ∃ z, z = g_u R8 27 (upd (R8 27) (Int32.toNatClampNeg y7) 0) := ⟨_, rfl⟩
        rw [← hR12]
        have oR12 : g_okR LA_wM R12 := by rw [hR12]; exact g_okR_u oR8 rfl
        have fR12 : g_fr mr_X11_begins R R12 := by rw [hR12]; exact g_fr_r fR8 rfl
        have wTR12 : WT F6 R12 := by rw [hR12]; exact WT_r wTR8 rfl
        have wCR12 : WC F6 R12 := by rw [hR12]; exact WC_r wCR8 rfl
        refine g_aload_n cx 0 rfl e_X11_begins_48 ?_
        refine g_get cx cl_X11 fl_X11_92 0 (.ref (ad 28)) e_X11_begins_49 rfl rfl ?_
        refine g_iload_n cx 1 rfl e_X11_begins_52 ?_
        refine g_iconst cx 0 (by decide) e_X11_begins_53 ?_
        refine g_iast cx 28 (wM X ad F6 (g_u R12 28 (upd (R12 28) (Int32.toNatClampNeg y7) 0))) e_X11_begins_54 rfl (jv_ix 10 p11 (by decide)) rfl ?_
        obtain ⟨R13, hR13⟩ : ∃ z, z = g_u R12 28 (upd (R12 28) (Int32.toNatClampNeg y7) 0) := ⟨_, rfl⟩
        rw [← hR13]
        have oR13 : g_okR LA_wM R13 := by rw [hR13]; exact g_okR_u oR12 rfl
        have fR13 : g_fr mr_X11_begins R R13 := by rw [hR13]; exact g_fr_r fR12 rfl
        have wTR13 : WT F6 R13 := by rw [hR13]; exact WT_r wTR12 rfl
        have wCR13 : WC F6 R13 := by rw [hR13]; exact WC_r wCR12 rfl
        refine g_aload_n cx 0 rfl e_X11_begins_55 ?_
        refine g_get cx cl_X11 fl_X11_95 0 (.ref (ad 29)) e_X11_begins_56 rfl rfl ?_
        refine g_iload_n cx 1 rfl e_X11_begins_59 ?_
        refine g_aload_n cx 0 rfl e_X11_begins_60 ?_
        refine g_get cx cl_X11 fl_X11_28 0 (.ref (ad 7)) e_X11_begins_61 rfl rfl ?_
        refine g_iload_n cx 1 rfl e_X11_begins_64 ?_
        refine g_iald cx 7 e_X11_begins_65 rfl (jv_ix 10 p11 (by decide)) ?_
        refine g_topi (fun x14 ex14 => ?_)
        refine g_iast cx 29 (wM X ad F6 (g_u R13 29 (upd (R13 29) (Int32.toNatClampNeg y7) x14))) e_X11_begins_66 rfl (jv_ix 10 p11 (by decide)) rfl ?_
        obtain ⟨R15, hR15⟩ : ∃ z, z = g_u R13 29 (upd (R13 29) (Int32.toNatClampNeg y7) x14) := ⟨_, rfl⟩
        rw [← hR15]
        have oR15 : g_okR LA_wM R15 := by rw [hR15]; exact g_okR_u oR13 rfl
        have fR15 : g_fr mr_X11_begins R R15 := by rw [hR15]; exact g_fr_r fR13 rfl
        have wTR15 : WT F6 R15 := by rw [hR15]; exact WT_r wTR13 rfl
        have wCR15 : WC F6 R15 := by rw [hR15]; exact WC_r wCR13 rfl
        refine g_aload_n cx 0 rfl e_X11_begins_67 ?_
        refine g_get cx cl_X11 fl_X11_101 0 (.ref (ad 31)) e_X11_begins_68 rfl rfl ?_
        refine g_iload_n cx 1 rfl e_X11_begins_71 ?_
        refine g_aload_n cx 0 rfl e_X11_begins_72 ?_
        refine g_get cx cl_X11 fl_X11_19 0 (.ref (ad 4)) e_X11_begins_73 rfl rfl ?_
        refine g_iload_n cx 1 rfl e_X11_begins_76 ?_
        refine g_iald cx 4 e_X11_begins_77 rfl (jv_ix 10 p11 (by decide)) ?_
        refine g_topi (fun x16 ex16 => ?_)
        refine g_iast cx 31 (wM X ad F6 (g_u R15 31 (upd (R15 31) (Int32.toNatClampNeg y7) x16))) e_X11_begins_78 rfl (jv_ix 10 p11 (by decide)) rfl ?_
        obtain ⟨R17, hR17⟩ : ∃ z, z = g_u R15 31 (upd (R15 31) (Int32.toNatClampNeg y7) x16) := ⟨_, rfl⟩
        rw [← hR17]
        have oR17 : g_okR LA_wM R17 := by rw [hR17]; exact g_okR_u oR15 rfl
        have fR17 : g_fr mr_X11_begins R R17 := by rw [hR17]; exact g_fr_r fR15 rfl
        have wTR17 : WT F6 R17 := by rw [hR17]; exact WT_r wTR15 rfl
        have wCR17 : WC F6 R17 := by rw [hR17]; exact WC_r wCR15 rfl
        refine g_aload_n cx 0 rfl e_X11_begins_79 ?_
        refine g_get cx cl_X11 fl_X11_104 0 (.ref (ad 32)) e_X11_begins_80 rfl rfl ?_
        refine g_iload_n cx 1 rfl e_X11_begins_83 ?_
        refine g_iconst cx 0 (by decide) e_X11_begins_84 ?_
        refine g_iast cx 32 (wM X ad F6 (g_u R17 32 (upd (R17 32) (Int32.toNatClampNeg y7) 0))) e_X11_begins_85 rfl (jv_ix 10 p11 (by decide)) rfl ?_
        obtain ⟨R18, hR18⟩ : ∃ z, z = g_u R17 32 (upd (R17 32) (Int32.toNatClampNeg y7) 0) := ⟨_, rfl⟩
        rw [← hR18]
        have oR18 : g_okR LA_wM R18 := by rw [hR18]; exact g_okR_u oR17 rfl
        have fR18 : g_fr mr_X11_begins R R18 := by rw [hR18]; exact g_fr_r fR17 rfl
        have wTR18 : WT F6 R18 := by rw [hR18]; exact WT_r wTR17 rfl
        have wCR18 : WC F6 R18 := by rw [hR18]; exact WC_r wCR17 rfl
        refine g_aload_n cx 0 rfl e_X11_begins_86 ?_
        refine g_get cx cl_X11 fl_X11_107 0 (.ref (ad 33)) e_X11_begins_87 rfl rfl ?_
        refine g_iload_n cx 1 rfl e_X11_begins_90 ?_
        refine g_iconst cx 0 (by decide) e_X11_begins_91 ?_
        refine g_iast cx 33 (wM X ad F6 (g_u R18 33 (upd (R18 33) (Int32.toNatClampNeg y7) 0))) e_X11_begins_92 rfl (jv_ix 10 p11 (by decide)) rfl ?_
        obtain ⟨R19, hR19⟩ : ∃ z, z = g_u R18 33 (upd (R18 33) (Int32.toNatClampNeg y7) 0) := ⟨_, rfl⟩
        rw [← hR19]
        have oR19 : g_okR LA_wM R19 := by rw [hR19]; exact g_okR_u oR18 rfl
        have fR19 : g_fr mr_X11_begins R R19 := by rw [hR19]; exact g_fr_r fR18 rfl
        have wTR19 : WT F6 R19 := by rw [hR19]; exact WT_r wTR18 rfl
        have wCR19 : WC F6 R19 := by rw [hR19]; exact WC_r wCR18 rfl
        refine g_aload_n cx 0 rfl e_X11_begins_93 ?_
        refine g_get cx cl_X11 fl_X11_110 0 (.ref (ad 34)) e_X11_begins_94 rfl rfl ?_
        refine g_iload_n cx 1 rfl e_X11_begins_97 ?_
        refine g_iconst cx 0 (by decide) e_X11_begins_98 ?_
        refine g_iast cx 34 (wM X ad F6 (g_u R19 34 (upd (R19 34) (Int32.toNatClampNeg y7) 0))) e_X11_begins_99 rfl (jv_ix 10 p11 (by decide)) rfl ?_
        obtain ⟨R20, hR20⟩ : ∃ z, z = g_u R19 34 (upd (R19 34) (Int32.toNatClampNeg y7) 0) := ⟨_, rfl⟩
        rw [← hR20]
        have oR20 : g_okR LA_wM R20 := by rw [hR20]; exact g_okR_u oR19 rfl
        have fR20 : g_fr mr_X11_begins R R20 := by rw [hR20]; exact g_fr_r fR19 rfl
        have wTR20 : WT F6 R20 := by rw [hR20]; exact WT_r wTR19 rfl
        have wCR20 : WC F6 R20 := by rw [hR20]; exact WC_r wCR19 rfl
        refine g_aload_n cx 0 rfl e_X11_begins_100 ?_
        refine g_get cx cl_X11 fl_X11_113 0 (.ref (ad 35)) e_X11_begins_101 rfl rfl ?_
        refine g_iload_n cx 1 rfl e_X11_begins_104 ?_
        refine g_iconst cx 0 (by decide) e_X11_begins_105 ?_
        refine g_iast cx 35 (wM X ad F6 (g_u R20 35 (upd (R20 35) (Int32.toNatClampNeg y7) 0))) e_X11_begins_106 rfl (jv_ix 10 p11 (by decide)) rfl ?_
        obtain ⟨R21, hR21⟩ : ∃ z, z = g_u R20 35 (upd (R20 35) (Int32.toNatClampNeg y7) 0) := ⟨_, rfl⟩
        rw [← hR21]
        have oR21 : g_okR LA_wM R21 := by rw [hR21]; exact g_okR_u oR20 rfl
        have fR21 : g_fr mr_X11_begins R R21 := by rw [hR21]; exact g_fr_r fR20 rfl
        have wTR21 : WT F6 R21 := by rw [hR21]; exact WT_r wTR20 rfl
        have wCR21 : WC F6 R21 := by rw [hR21]; exact WC_r wCR20 rfl
        obtain ⟨x22, ex22⟩ : ∃ z : Int32, z = y7 + Int32.ofInt 1 := ⟨_, rfl⟩
        refine g_iinc cx x22 [(1, .int x22), (0, .ref (ad 0))] 1 e_X11_begins_107 rfl ex22.symm (by decide) rfl ?_
        have zx22 := jv_add 1 10 (show x22 = y7 + 1 from ex22) p11 (jv_k (x := 1) 1 (by decide)) (by decide)
        refine g_goto cx 35 e_X11_begins_110 (by decide) ?_
        refine g_lsub [1, 0] [(0, .ref (ad 0)), (1, .int x22)] rfl ?_
        exact ih35 R21 x22 oR21 fR21 wTR21 wCR21 (jv_w zx22.2 (by decide)) (Nat.lt_of_lt_of_le (show (2147483647 - x22.toInt).toNat < (2147483647 - y7.toInt).toNat from by have q0 := (jv_k (x := 1) 1 (by decide)).1; have q1 := (jv_k (x := 1) 1 (by decide)).2; have q2 := (jv_k (x := 10) 10 (by decide)).1; have q3 := (jv_k (x := 10) 10 (by decide)).2; have q4 := zx22.2.1; have q5 := zx22.2.2; have q6 := p11.1; have q7 := p11.2; have q8 := (gc_nle zc9); have q9 := (g_eq0 zx22.1); omega) (Nat.le_of_lt_succ hm35))
  refine g_lsub [1, 0] [(0, .ref (ad 0)), (1, .int 0)] rfl ?_
  exact J35 _ R 0 hA (g_fr_rf R) wTF6 wCF6 (jv_w (jv_k (x := 0) 0 (by decide)) (by decide)) (Nat.lt_succ_self _)
theorem e_X11_someMove_0 : g_dc cX11_someMove 0 (.iconst 0) 1 1 := ⟨by decide +kernel, rfl⟩
theorem e_X11_someMove_1 : g_dc cX11_someMove 1 (.istore_n 1) 1 2 := ⟨by decide +kernel, rfl⟩
theorem e_X11_someMove_2 : g_dc cX11_someMove 2 (.iload_n 1) 1 3 := ⟨by decide +kernel, rfl⟩
theorem e_X11_someMove_3 : g_dc cX11_someMove 3 (.bipush 10) 2 5 := ⟨by decide +kernel, rfl⟩
theorem e_X11_someMove_5 : g_dc cX11_someMove 5 (.if_icmp .ge 28) 3 8 := ⟨by decide +kernel, rfl⟩
theorem e_X11_someMove_8 : g_dc cX11_someMove 8 (.aload_n 0) 1 9 := ⟨by decide +kernel, rfl⟩
theorem e_X11_someMove_9 : g_dc cX11_someMove 9 (.iload_n 1) 1 10 := ⟨by decide +kernel, rfl⟩
theorem e_X11_someMove_10 : g_dc cX11_someMove 10 (.invokevirtual 343) 3 13 := ⟨by decide +kernel, rfl⟩
theorem e_X11_someMove_13 : g_dc cX11_someMove 13 (.ifCond .eq 14) 3 16 := ⟨by decide +kernel, rfl⟩
theorem e_X11_someMove_16 : g_dc cX11_someMove 16 (.aload_n 0) 1 17 := ⟨by decide +kernel, rfl⟩
theorem e_X11_someMove_17 : g_dc cX11_someMove 17 (.getfield 89) 3 20 := ⟨by decide +kernel, rfl⟩
theorem e_X11_someMove_20 : g_dc cX11_someMove 20 (.iload_n 1) 1 21 := ⟨by decide +kernel, rfl⟩
theorem e_X11_someMove_21 : g_dc cX11_someMove 21 (.iaload) 1 22 := ⟨by decide +kernel, rfl⟩
theorem e_X11_someMove_22 : g_dc cX11_someMove 22 (.ifCond .le 5) 3 25 := ⟨by decide +kernel, rfl⟩
theorem e_X11_someMove_25 : g_dc cX11_someMove 25 (.iconst 1) 1 26 := ⟨by decide +kernel, rfl⟩
theorem e_X11_someMove_26 : g_dc cX11_someMove 26 (.ireturn) 1 27 := ⟨by decide +kernel, rfl⟩
theorem e_X11_someMove_27 : g_dc cX11_someMove 27 (.iinc 1 1) 3 30 := ⟨by decide +kernel, rfl⟩
theorem e_X11_someMove_30 : g_dc cX11_someMove 30 (.goto (-28)) 3 33 := ⟨by decide +kernel, rfl⟩
theorem e_X11_someMove_33 : g_dc cX11_someMove 33 (.iconst 0) 1 34 := ⟨by decide +kernel, rfl⟩
theorem e_X11_someMove_34 : g_dc cX11_someMove 34 (.ireturn) 1 35 := ⟨by decide +kernel, rfl⟩
set_option maxHeartbeats 4000000 in
set_option maxRecDepth 100000 in
theorem w_X11_someMove (l : Launch) (X : gX) (ad : Nat → Nat) (F : Nat → Int32) (R : Nat → Nat → Int32) (hI : g_ok LK_wM F) (hA : g_okR LA_wM R) (hWT : WT F R) (hWC : WC F R) : g_Ci l X yX11_someMove cX11_someMove 2 (some .boolean) 3 0 0 [.ref (ad 0)] (wM X ad F R) (fun r w => w = wM X ad F R ∧ jv 0 1 r) := by
  refine g_mi (by decide +kernel) (Nat.le_of_ble_eq_true rfl) (fun E cx hret => ?_)
  refine g_iconst cx 0 (by decide) e_X11_someMove_0 ?_
  refine g_istore_n cx [(1, .int 0), (0, .ref (ad 0))] e_X11_someMove_1 (by decide) rfl ?_
  have J2 : ∀ (N : Nat) (y1 : Int32), (jv 0 10 y1) → (2147483647 - y1.toInt).toNat < N → G X E 2 0 0 (wM X ad F R) [(0, .ref (ad 0)), (1, .int y1)] 2 [] := by
    intro N
    induction N with
    | zero => intro y1 py1 hm; exact absurd hm (Nat.not_lt_zero _)
    | succ N ih2 =>
      intro y1 py1 hm2
      refine g_iload_n cx 1 rfl e_X11_someMove_2 ?_
      refine g_bipush cx 10 (by decide) e_X11_someMove_3 ?_
      refine g_icmp_ge cx 33 e_X11_someMove_5 (by decide) (fun zc2 => ?_) (fun zc2 => ?_)
      · have p3 := gn_ge 10 10 (gc_le zc2) py1 (jv_k (x := 10) 10 (by decide)) (by decide)
        refine g_iconst cx 0 (by decide) e_X11_someMove_33 ?_
        exact hret e_X11_someMove_34 (Nat.le_of_ble_eq_true rfl) (Nat.le_of_ble_eq_true rfl) rfl ⟨rfl, (jv_w (jv_k (x := 0) 0 (by decide)) (by decide))⟩
      · have p4 := gn_lt 0 9 (gc_nle zc2) py1 (jv_k (x := 10) 10 (by decide)) (by decide)
        refine g_aload_n cx 0 rfl e_X11_someMove_8 ?_
        refine g_iload_n cx 1 rfl e_X11_someMove_9 ?_
        refine g_cViW cx [.int y1] [] (w_X11_stands l X ad F R hI hA hWT hWC y1 p4) ml_X11_343 yV_X11_stands e_X11_someMove_10 (by unfold g_rr; decide) (by decide) 0 rfl rfl rfl (Nat.le_of_ble_eq_true rfl) (fun r5 w6 h7 => ?_)
        obtain ⟨rfl, pr5, zx8⟩ := h7
        have J27 : G X E 2 0 0 (wM X ad F R) [(0, .ref (ad 0)), (1, .int y1)] 27 [] := by
          obtain ⟨x9, ex9⟩ : ∃ z : Int32, z = y1 + Int32.ofInt 1 := ⟨_, rfl⟩
          refine g_iinc cx x9 [(1, .int x9), (0, .ref (ad 0))] 1 e_X11_someMove_27 rfl ex9.symm (by decide) rfl ?_
          have zx9 := jv_add 1 10 (show x9 = y1 + 1 from ex9) p4 (jv_k (x := 1) 1 (by decide)) (by decide)
          refine g_goto cx 2 e_X11_someMove_30 (by decide) ?_
          refine g_lsub [1, 0] [(0, .ref (ad 0)), (1, .int x9)] rfl ?_
          exact ih2 x9 (jv_w zx9.2 (by decide)) (Nat.lt_of_lt_of_le (show (2147483647 - x9.toInt).toNat < (2147483647 - y1.toInt).toNat from by have q0 := (jv_k (x := 1) 1 (by decide)).1; have q1 := (jv_k (x := 1) 1 (by decide)).2; have q2 := (jv_k (x := 10) 10 (by decide)).1; have q3 := (jv_k (x := 10) 10 (by decide)).2; have q4 := zx9.2.1; have q5 := zx9.2.2; have q6 := p4.1; have q7 := p4.2; have q8 := (gc_nle zc2); have q9 := (g_eq0 zx9.1); omega) (Nat.le_of_lt_succ hm2))
        refine g_if_eq cx 27 e_X11_someMove_13 (by decide) (fun zc10 => ?_) (fun zc10 => ?_)
        · have p11 := gn_eq 0 0 (gc_eq zc10) pr5 (jv_k (x := 0) 0 (by decide)) (by decide)
          exact J27  
        · have p12 := gn_neL 1 1 (gc_ne zc10) pr5 (jv_k (x := 0) 0 (by decide)) (by decide)
          refine g_aload_n cx 0 rfl e_X11_someMove_16 ?_
          refine g_get cx cl_X11 fl_X11_89 0 (.ref (ad 27)) e_X11_someMove_17 rfl rfl ?_
          refine g_iload_n cx 1 rfl e_X11_someMove_20 ?_
          refine g_iald cx 27 e_X11_someMove_21 rfl (jv_ix 10 p4 (by decide)) ?_
          refine g_topi (fun x13 ex13 => ?_)
          refine g_if_le cx 27 e_X11_someMove_22 (by decide) (fun zc14 => ?_) (fun zc14 => ?_)
          · have p15 := gn_le (-2147483648) 0 (gc_le zc14) (jv_t x13) (jv_k (x := 0) 0 (by decide)) (by decide)
            exact J27  
          · have p16 := gn_gt 1 2147483647 (gc_nle zc14) (jv_t x13) (jv_k (x := 0) 0 (by decide)) (by decide)
            refine g_iconst cx 1 (by decide) e_X11_someMove_25 ?_
            exact hret e_X11_someMove_26 (Nat.le_of_ble_eq_true rfl) (Nat.le_of_ble_eq_true rfl) rfl ⟨rfl, (jv_w (jv_k (x := 1) 1 (by decide)) (by decide))⟩
  refine g_lsub [1, 0] [(0, .ref (ad 0)), (1, .int 0)] rfl ?_
  exact J2 _ 0 (jv_w (jv_k (x := 0) 0 (by decide)) (by decide)) (Nat.lt_succ_self _)
theorem e_X11_runs_0 : g_dc cX11_runs 0 (.aload_n 0) 1 1 := ⟨by decide +kernel, rfl⟩
theorem e_X11_runs_1 : g_dc cX11_runs 1 (.invokevirtual 398) 3 4 := ⟨by decide +kernel, rfl⟩
theorem e_X11_runs_4 : g_dc cX11_runs 4 (.aload_n 0) 1 5 := ⟨by decide +kernel, rfl⟩
theorem e_X11_runs_5 : g_dc cX11_runs 5 (.getfield 325) 3 8 := ⟨by decide +kernel, rfl⟩
theorem e_X11_runs_8 : g_dc cX11_runs 8 (.sipush 300) 3 11 := ⟨by decide +kernel, rfl⟩
theorem e_X11_runs_11 : g_dc cX11_runs 11 (.if_icmp .ge 28) 3 14 := ⟨by decide +kernel, rfl⟩
theorem e_X11_runs_14 : g_dc cX11_runs 14 (.aload_n 0) 1 15 := ⟨by decide +kernel, rfl⟩
theorem e_X11_runs_15 : g_dc cX11_runs 15 (.getfield 325) 3 18 := ⟨by decide +kernel, rfl⟩
theorem e_X11_runs_18 : g_dc cX11_runs 18 (.aload_n 0) 1 19 := ⟨by decide +kernel, rfl⟩
theorem e_X11_runs_19 : g_dc cX11_runs 19 (.getfield 309) 3 22 := ⟨by decide +kernel, rfl⟩
theorem e_X11_runs_22 : g_dc cX11_runs 22 (.if_icmp .lt 10) 3 25 := ⟨by decide +kernel, rfl⟩
theorem e_X11_runs_25 : g_dc cX11_runs 25 (.aload_n 0) 1 26 := ⟨by decide +kernel, rfl⟩
theorem e_X11_runs_26 : g_dc cX11_runs 26 (.invokevirtual 401) 3 29 := ⟨by decide +kernel, rfl⟩
theorem e_X11_runs_29 : g_dc cX11_runs 29 (.ifCond .eq 10) 3 32 := ⟨by decide +kernel, rfl⟩
theorem e_X11_runs_32 : g_dc cX11_runs 32 (.aload_n 0) 1 33 := ⟨by decide +kernel, rfl⟩
theorem e_X11_runs_33 : g_dc cX11_runs 33 (.invokevirtual 404) 3 36 := ⟨by decide +kernel, rfl⟩
theorem e_X11_runs_36 : g_dc cX11_runs 36 (.goto (-32)) 3 39 := ⟨by decide +kernel, rfl⟩
theorem e_X11_runs_39 : g_dc cX11_runs 39 (.return_) 1 40 := ⟨by decide +kernel, rfl⟩
def md_X11_runs : List Nat := [3, 45, 46, 47, 48, 50, 65, 66, 67, 68, 69]
def mr_X11_runs : List Nat := [23, 24, 26, 27, 28, 29, 31, 32, 33, 34, 35, 36, 37]
set_option maxHeartbeats 4000000 in
set_option maxRecDepth 100000 in
theorem w_X11_runs (l : Launch) (X : gX) (ad : Nat → Nat) (F : Nat → Int32) (R : Nat → Nat → Int32) (hI : g_ok LK_wM F) (hA : g_okR LA_wM R) (hWT : WT F R) (hWC : WC F R) (hpn : WN F R) : g_Cv l X yX11_runs cX11_runs 1 6 0 0 [.ref (ad 0)] (wM X ad F R) (fun w => ∃ (F' : Nat → Int32) (R' : Nat → Nat → Int32), w = wM X ad F' R' ∧ g_ok LK_wM F' ∧ g_okR LA_wM R' ∧ WT F' R' ∧ WC F' R' ∧ g_fr md_X11_runs F F' ∧ g_fr mr_X11_runs R R') := by
  refine g_mv (by decide +kernel) (Nat.le_of_ble_eq_true rfl) (fun E cx hret => ?_)
  refine g_aload_n cx 0 rfl e_X11_runs_0 ?_
  refine g_cVvW cx [] [] (w_X11_begins l X ad F R hI hA hWT hWC) ml_X11_398 yV_X11_begins e_X11_runs_1 (by unfold g_rr; decide) (by decide) 0 rfl rfl rfl (Nat.le_of_ble_eq_true rfl) (fun w2 h3 => ?_)
  obtain ⟨F4, R5, rfl, oF4, oR5, wTF4, wCF4, cF4, cR5⟩ := h3
  have fF4 : g_fr md_X11_runs F F4 := g_fr_c (g_fr_rf F) cF4 rfl
  have fR5 : g_fr mr_X11_runs R R5 := g_fr_c (g_fr_rf R) cR5 rfl
  have J4 : ∀ (N : Nat) (F6 : Nat → Int32) (R7 : Nat → Nat → Int32), (g_ok LK_wM F6) → (g_fr md_X11_runs F F6) → (g_okR LA_wM R7) → (g_fr mr_X11_runs R R7) → (WT F6 R7) → (WC F6 R7) → (2147483647 - (F6 45).toInt).toNat < N → G X E 1 0 0 (wM X ad F6 R7) [(0, .ref (ad 0))] 4 [] := by
    intro N
    induction N with
    | zero => intro F6 R7 oF6 fF6 oR7 fR7 wTF6R7 wCF6R7 hm; exact absurd hm (Nat.not_lt_zero _)
    | succ N ih4 =>
      intro F6 R7 oF6 fF6 oR7 fR7 wTF6R7 wCF6R7 hm4
      refine g_aload_n cx 0 rfl e_X11_runs_4 ?_
      refine g_get cx cl_X11 fl_X11_325 0 (.int (F6 45)) e_X11_runs_5 rfl rfl ?_
      refine g_sipush cx 300 (by decide) e_X11_runs_8 ?_
      have J39 : G X E 1 0 0 (wM X ad F6 R7) [] 39 [] := by
        exact hret e_X11_runs_39 (Nat.le_of_ble_eq_true rfl) (Nat.le_of_ble_eq_true rfl) ⟨F6, R7, rfl, oF6, oR7, wTF6R7, wCF6R7, fF6, fR7⟩
      refine g_icmp_ge cx 39 e_X11_runs_11 (by decide) (fun zc8 => ?_) (fun zc8 => ?_)
      · have p9 := gn_ge 300 300 (gc_le zc8) (g_ok_g oF6 12 rfl) (jv_k (x := 300) 300 (by decide)) (by decide)
        refine g_lsub [] [] rfl ?_
        exact J39  
      · have p10 := gn_lt 0 299 (gc_nle zc8) (g_ok_g oF6 12 rfl) (jv_k (x := 300) 300 (by decide)) (by decide)
        refine g_aload_n cx 0 rfl e_X11_runs_14 ?_
        refine g_get cx cl_X11 fl_X11_325 0 (.int (F6 45)) e_X11_runs_15 rfl rfl ?_
        refine g_aload_n cx 0 rfl e_X11_runs_18 ?_
        refine g_get cx cl_X11 fl_X11_309 0 (.int (F6 44)) e_X11_runs_19 rfl rfl ?_
        refine g_toi (F 44) (fF6 44 rfl) ?_
        have J32 : G X E 1 0 0 (wM X ad F6 R7) [(0, .ref (ad 0))] 32 [] := by
          refine g_aload_n cx 0 rfl e_X11_runs_32 ?_
          refine g_cVvW cx [] [] (w_X11_ticks l X ad F6 R7 oF6 oR7 wTF6R7 wCF6R7 (WN_e hpn (fF6 42 rfl) (fR7 3 rfl) (fR7 5 rfl)) (by have q0 := (jv_k (x := 300) 300 (by decide)).1; have q1 := (jv_k (x := 300) 300 (by decide)).2; have q2 := p10.1; have q3 := p10.2; have q4 := (gc_nle zc8); omega)) ml_X11_404 yV_X11_ticks e_X11_runs_33 (by unfold g_rr; decide) (by decide) 0 rfl rfl rfl (Nat.le_of_ble_eq_true rfl) (fun w12 h13 => ?_)
          obtain ⟨F15, R16, rfl, oF15, oR16, wTF15, wCF15, cF15, cR16, zx14⟩ := h13
          have fF15 : g_fr md_X11_runs F F15 := g_fr_c fF6 cF15 rfl
          have fR16 : g_fr mr_X11_runs R R16 := g_fr_c fR7 cR16 rfl
          refine g_goto cx 4 e_X11_runs_36 (by decide) ?_
          exact ih4 F15 R16 oF15 fF15 oR16 fR16 wTF15 wCF15 (Nat.lt_of_lt_of_le (show (2147483647 - (F15 45).toInt).toNat < (2147483647 - (F6 45).toInt).toNat from by have q0 := (jv_k (x := 300) 300 (by decide)).1; have q1 := (jv_k (x := 300) 300 (by decide)).2; have q2 := (g_ok_g oF15 12 rfl).1; have q3 := (g_ok_g oF15 12 rfl).2; have q4 := p10.1; have q5 := p10.2; have q6 := (gc_nle zc8); have q7 := zx14; omega) (Nat.le_of_lt_succ hm4))
        refine g_icmp_lt cx 32 e_X11_runs_22 (by decide) (fun zc17 => ?_) (fun zc17 => ?_)
        · have p18 := gn_lt 0 59 (gc_lt zc17) p10 (g_ok_g hI 11 rfl) (by decide)
          have p19 := gn_gt 1 60 (gc_lt zc17) (g_ok_g hI 11 rfl) p10 (by decide)
          exact J32  
        · refine g_aload_n cx 0 rfl e_X11_runs_25 ?_
          refine g_cViW cx [] [] (w_X11_someMove l X ad F6 R7 oF6 oR7 wTF6R7 wCF6R7) ml_X11_401 yV_X11_someMove e_X11_runs_26 (by unfold g_rr; decide) (by decide) 0 rfl rfl rfl (Nat.le_of_ble_eq_true rfl) (fun r20 w21 h22 => ?_)
          obtain ⟨rfl, pr20⟩ := h22
          refine g_if_eq cx 39 e_X11_runs_29 (by decide) (fun zc23 => ?_) (fun zc23 => ?_)
          · have p24 := gn_eq 0 0 (gc_eq zc23) pr20 (jv_k (x := 0) 0 (by decide)) (by decide)
            refine g_lsub [] [] rfl ?_
            exact J39  
          · have p25 := gn_neL 1 1 (gc_ne zc23) pr20 (jv_k (x := 0) 0 (by decide)) (by decide)
            exact J32  
  exact J4 _ F4 R5 oF4 fF4 oR5 fR5 wTF4 wCF4 (Nat.lt_succ_self _)
