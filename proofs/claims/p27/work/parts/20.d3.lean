def K_X11_byLaw_91 (b3 : (Nat → Int32) → (Nat → Nat → Int32) → (Int32) → Int32 × (Nat → Int32) × (Nat → Nat → Int32)) (y1 : Int32) (F11 : Nat → Int32) (R12 : Nat → Nat → Int32) : Int32 × (Nat → Int32) × (Nat → Nat → Int32) :=
  k_lt (y1 + 1) (fun x13 => b3 F11 R12 x13)
def K_X11_byLaw_90 (F40 : Nat → Int32) (R41 : Nat → Nat → Int32) (y43 : Int32) : Int32 × (Nat → Int32) × (Nat → Nat → Int32) :=
  (y43, F40, R41)
def KB_X11_byLaw_3 (b3 : (Nat → Int32) → (Nat → Nat → Int32) → (Int32) → Int32 × (Nat → Int32) × (Nat → Nat → Int32)) (F : Nat → Int32) (a0 : Int32) (a1 : Int32) (a2 : Int32) (F2 : Nat → Int32) (R3 : Nat → Nat → Int32) (y1 : Int32) : Int32 × (Nat → Int32) × (Nat → Nat → Int32) :=
  if (F 28) ≤ y1 then (a1, F2, R3) else k_lt (R3 19 (Int32.toNatClampNeg y1)) (fun x9 => if x9 = a0 then k_lt (R3 21 (Int32.toNatClampNeg y1)) (fun x18 => k_lt (R3 22 (Int32.toNatClampNeg y1)) (fun x20 => k_lt3 (sp_X11_comesTo F2 R3 x18 x20) (fun r22 F26 R27 => if r22 = 1 then k_lt (R27 20 (Int32.toNatClampNeg y1)) (fun x32 => k_lt (R27 21 (Int32.toNatClampNeg y1)) (fun x34 => k_lt3 (sp_X11_comesTo F26 R27 x32 x34) (fun r36 F40 R41 => if a1 ≤ r36 then if r36 ≤ a2 then K_X11_byLaw_90 F40 R41 r36 else K_X11_byLaw_90 F40 R41 a2 else K_X11_byLaw_90 F40 R41 a1))) else K_X11_byLaw_91 b3 y1 F26 R27))) else K_X11_byLaw_91 b3 y1 F2 R3)
def K_X11_byLaw_3 (F : Nat → Int32) (a0 : Int32) (a1 : Int32) (a2 : Int32) : Nat → (Nat → Int32) → (Nat → Nat → Int32) → (Int32) → Int32 × (Nat → Int32) × (Nat → Nat → Int32)
  | 0 => fun F2 R3 _ => (0, F2, R3)
  | n + 1 => KB_X11_byLaw_3 (K_X11_byLaw_3 F a0 a1 a2 n) F a0 a1 a2
def sp_X11_byLaw (F : Nat → Int32) (R : Nat → Nat → Int32) (a0 : Int32) (a1 : Int32) (a2 : Int32) : Int32 × (Nat → Int32) × (Nat → Nat → Int32) :=
  K_X11_byLaw_3 F a0 a1 a2 8589934592 F R 0
theorem e_X11_byLaw_0 : g_dc cX11_byLaw 0 (.iconst 0) 1 1 := ⟨by decide +kernel, rfl⟩
theorem e_X11_byLaw_1 : g_dc cX11_byLaw 1 (.istore 4) 2 3 := ⟨by decide +kernel, rfl⟩
theorem e_X11_byLaw_3 : g_dc cX11_byLaw 3 (.iload 4) 2 5 := ⟨by decide +kernel, rfl⟩
theorem e_X11_byLaw_5 : g_dc cX11_byLaw 5 (.aload_n 0) 1 6 := ⟨by decide +kernel, rfl⟩
theorem e_X11_byLaw_6 : g_dc cX11_byLaw 6 (.getfield 298) 3 9 := ⟨by decide +kernel, rfl⟩
theorem e_X11_byLaw_9 : g_dc cX11_byLaw 9 (.if_icmp .ge 88) 3 12 := ⟨by decide +kernel, rfl⟩
theorem e_X11_byLaw_12 : g_dc cX11_byLaw 12 (.aload_n 0) 1 13 := ⟨by decide +kernel, rfl⟩
theorem e_X11_byLaw_13 : g_dc cX11_byLaw 13 (.getfield 65) 3 16 := ⟨by decide +kernel, rfl⟩
theorem e_X11_byLaw_16 : g_dc cX11_byLaw 16 (.iload 4) 2 18 := ⟨by decide +kernel, rfl⟩
theorem e_X11_byLaw_18 : g_dc cX11_byLaw 18 (.iaload) 1 19 := ⟨by decide +kernel, rfl⟩
theorem e_X11_byLaw_19 : g_dc cX11_byLaw 19 (.iload_n 1) 1 20 := ⟨by decide +kernel, rfl⟩
theorem e_X11_byLaw_20 : g_dc cX11_byLaw 20 (.if_icmp .ne 71) 3 23 := ⟨by decide +kernel, rfl⟩
theorem e_X11_byLaw_23 : g_dc cX11_byLaw 23 (.aload_n 0) 1 24 := ⟨by decide +kernel, rfl⟩
theorem e_X11_byLaw_24 : g_dc cX11_byLaw 24 (.aload_n 0) 1 25 := ⟨by decide +kernel, rfl⟩
theorem e_X11_byLaw_25 : g_dc cX11_byLaw 25 (.getfield 71) 3 28 := ⟨by decide +kernel, rfl⟩
theorem e_X11_byLaw_28 : g_dc cX11_byLaw 28 (.iload 4) 2 30 := ⟨by decide +kernel, rfl⟩
theorem e_X11_byLaw_30 : g_dc cX11_byLaw 30 (.iaload) 1 31 := ⟨by decide +kernel, rfl⟩
theorem e_X11_byLaw_31 : g_dc cX11_byLaw 31 (.aload_n 0) 1 32 := ⟨by decide +kernel, rfl⟩
theorem e_X11_byLaw_32 : g_dc cX11_byLaw 32 (.getfield 74) 3 35 := ⟨by decide +kernel, rfl⟩
theorem e_X11_byLaw_35 : g_dc cX11_byLaw 35 (.iload 4) 2 37 := ⟨by decide +kernel, rfl⟩
theorem e_X11_byLaw_37 : g_dc cX11_byLaw 37 (.iaload) 1 38 := ⟨by decide +kernel, rfl⟩
theorem e_X11_byLaw_38 : g_dc cX11_byLaw 38 (.invokevirtual 305) 3 41 := ⟨by decide +kernel, rfl⟩
theorem e_X11_byLaw_41 : g_dc cX11_byLaw 41 (.iconst 1) 1 42 := ⟨by decide +kernel, rfl⟩
theorem e_X11_byLaw_42 : g_dc cX11_byLaw 42 (.if_icmp .eq 6) 3 45 := ⟨by decide +kernel, rfl⟩
theorem e_X11_byLaw_45 : g_dc cX11_byLaw 45 (.goto 46) 3 48 := ⟨by decide +kernel, rfl⟩
theorem e_X11_byLaw_48 : g_dc cX11_byLaw 48 (.aload_n 0) 1 49 := ⟨by decide +kernel, rfl⟩
theorem e_X11_byLaw_49 : g_dc cX11_byLaw 49 (.aload_n 0) 1 50 := ⟨by decide +kernel, rfl⟩
theorem e_X11_byLaw_50 : g_dc cX11_byLaw 50 (.getfield 68) 3 53 := ⟨by decide +kernel, rfl⟩
theorem e_X11_byLaw_53 : g_dc cX11_byLaw 53 (.iload 4) 2 55 := ⟨by decide +kernel, rfl⟩
theorem e_X11_byLaw_55 : g_dc cX11_byLaw 55 (.iaload) 1 56 := ⟨by decide +kernel, rfl⟩
theorem e_X11_byLaw_56 : g_dc cX11_byLaw 56 (.aload_n 0) 1 57 := ⟨by decide +kernel, rfl⟩
theorem e_X11_byLaw_57 : g_dc cX11_byLaw 57 (.getfield 71) 3 60 := ⟨by decide +kernel, rfl⟩
theorem e_X11_byLaw_60 : g_dc cX11_byLaw 60 (.iload 4) 2 62 := ⟨by decide +kernel, rfl⟩
theorem e_X11_byLaw_62 : g_dc cX11_byLaw 62 (.iaload) 1 63 := ⟨by decide +kernel, rfl⟩
theorem e_X11_byLaw_63 : g_dc cX11_byLaw 63 (.invokevirtual 305) 3 66 := ⟨by decide +kernel, rfl⟩
theorem e_X11_byLaw_66 : g_dc cX11_byLaw 66 (.istore 5) 2 68 := ⟨by decide +kernel, rfl⟩
theorem e_X11_byLaw_68 : g_dc cX11_byLaw 68 (.iload 5) 2 70 := ⟨by decide +kernel, rfl⟩
theorem e_X11_byLaw_70 : g_dc cX11_byLaw 70 (.iload_n 2) 1 71 := ⟨by decide +kernel, rfl⟩
theorem e_X11_byLaw_71 : g_dc cX11_byLaw 71 (.if_icmp .ge 7) 3 74 := ⟨by decide +kernel, rfl⟩
theorem e_X11_byLaw_74 : g_dc cX11_byLaw 74 (.iload_n 2) 1 75 := ⟨by decide +kernel, rfl⟩
theorem e_X11_byLaw_75 : g_dc cX11_byLaw 75 (.goto 15) 3 78 := ⟨by decide +kernel, rfl⟩
theorem e_X11_byLaw_78 : g_dc cX11_byLaw 78 (.iload 5) 2 80 := ⟨by decide +kernel, rfl⟩
theorem e_X11_byLaw_80 : g_dc cX11_byLaw 80 (.iload_n 3) 1 81 := ⟨by decide +kernel, rfl⟩
theorem e_X11_byLaw_81 : g_dc cX11_byLaw 81 (.if_icmp .le 7) 3 84 := ⟨by decide +kernel, rfl⟩
theorem e_X11_byLaw_84 : g_dc cX11_byLaw 84 (.iload_n 3) 1 85 := ⟨by decide +kernel, rfl⟩
theorem e_X11_byLaw_85 : g_dc cX11_byLaw 85 (.goto 5) 3 88 := ⟨by decide +kernel, rfl⟩
theorem e_X11_byLaw_88 : g_dc cX11_byLaw 88 (.iload 5) 2 90 := ⟨by decide +kernel, rfl⟩
theorem e_X11_byLaw_90 : g_dc cX11_byLaw 90 (.ireturn) 1 91 := ⟨by decide +kernel, rfl⟩
theorem e_X11_byLaw_91 : g_dc cX11_byLaw 91 (.iinc 4 1) 3 94 := ⟨by decide +kernel, rfl⟩
theorem e_X11_byLaw_94 : g_dc cX11_byLaw 94 (.goto (-91)) 3 97 := ⟨by decide +kernel, rfl⟩
theorem e_X11_byLaw_97 : g_dc cX11_byLaw 97 (.iload_n 2) 1 98 := ⟨by decide +kernel, rfl⟩
theorem e_X11_byLaw_98 : g_dc cX11_byLaw 98 (.ireturn) 1 99 := ⟨by decide +kernel, rfl⟩
def md_X11_byLaw : List Nat := []
def mr_X11_byLaw : List Nat := [23]
set_option maxHeartbeats 4000000 in
set_option maxRecDepth 100000 in
theorem w_X11_byLaw (l : Launch) (X : gX) (ad : Nat → Nat) (F : Nat → Int32) (R : Nat → Nat → Int32) (hI : g_ok LK_wM F) (hA : g_okR LA_wM R) (hWT : WT F R) (hWC : WC F R) (a0 : Int32) (a1 : Int32) (a2 : Int32) : g_Ci l X yX11_byLaw cX11_byLaw 6 (some .int) 3 0 0 [.ref (ad 0), .int a0, .int a1, .int a2] (wM X ad F R) (fun r w => ∃ (F' : Nat → Int32) (R' : Nat → Nat → Int32), w = wM X ad F' R' ∧ g_ok LK_wM F' ∧ g_okR LA_wM R' ∧ WT F' R' ∧ WC F' R' ∧ g_fr md_X11_byLaw F F' ∧ g_fr mr_X11_byLaw R R' ∧ jv (-2147483648) 2147483647 r ∧ (r, F', R') = sp_X11_byLaw F R a0 a1 a2) := by
  refine g_mi (by decide +kernel) (Nat.le_of_ble_eq_true rfl) (fun E cx hret => ?_)
  obtain ⟨SP, hSP⟩ : ∃ z, z = sp_X11_byLaw F R a0 a1 a2 := ⟨_, rfl⟩
  have hk0 := hSP
  unfold sp_X11_byLaw at hk0
  refine g_iconst cx 0 (by decide) e_X11_byLaw_0 ?_
  refine g_istore cx [(4, .int 0), (0, .ref (ad 0)), (1, .int a0), (2, .int a1), (3, .int a2)] e_X11_byLaw_1 (by decide) rfl ?_
  have J3 : ∀ (N : Nat) (F2 : Nat → Int32) (R3 : Nat → Nat → Int32) (y1 : Int32), (g_ok LK_wM F2) → (g_fr md_X11_byLaw F F2) → (g_okR LA_wM R3) → (g_fr mr_X11_byLaw R R3) → (WT F2 R3) → (WC F2 R3) → (jv 0 14 y1) → (SP = K_X11_byLaw_3 F a0 a1 a2 N F2 R3 y1) → (2147483647 - y1.toInt).toNat < N → G X E 6 0 0 (wM X ad F2 R3) [(0, .ref (ad 0)), (1, .int a0), (2, .int a1), (3, .int a2), (4, .int y1)] 3 [] := by
    intro N
    induction N with
    | zero => intro F2 R3 y1 oF2 fF2 oR3 fR3 wTF2R3 wCF2R3 py1 hkJ3 hm; exact absurd hm (Nat.not_lt_zero _)
    | succ N ih3 =>
      intro F2 R3 y1 oF2 fF2 oR3 fR3 wTF2R3 wCF2R3 py1 hkJ3 hm3
      have hkK3 : SP = KB_X11_byLaw_3 (K_X11_byLaw_3 F a0 a1 a2 N) F a0 a1 a2 F2 R3 y1 := hkJ3
      obtain ⟨b3, hb3⟩ : ∃ z, z = K_X11_byLaw_3 F a0 a1 a2 N := ⟨_, rfl⟩
      rw [← hb3] at hkK3
      unfold KB_X11_byLaw_3 at hkK3
      refine g_iload cx 4 rfl e_X11_byLaw_3 ?_
      refine g_aload_n cx 0 rfl e_X11_byLaw_5 ?_
      refine g_get cx cl_X11 fl_X11_298 0 (.int (F2 28)) e_X11_byLaw_6 rfl rfl ?_
      refine g_toi (F 28) (fF2 28 rfl) ?_
      refine g_icmp_ge cx 97 e_X11_byLaw_9 (by decide) (fun zc4 => ?_) (fun zc4 => ?_)
      · have hk5 := hkK3.trans (if_pos zc4)
        refine g_iload_n cx 2 rfl e_X11_byLaw_97 ?_
        exact hret e_X11_byLaw_98 (Nat.le_of_ble_eq_true rfl) (Nat.le_of_ble_eq_true rfl) rfl ⟨F2, R3, rfl, oF2, oR3, wTF2R3, wCF2R3, fF2, fR3, (jv_t a1), (hk5.symm.trans hSP)⟩
      · have p6 := gn_lt 0 13 (gc_nle zc4) py1 (g_ok_g hI 10 rfl) (by decide)
        have p7 := gn_gt 1 14 (gc_nle zc4) (g_ok_g hI 10 rfl) py1 (by decide)
        have hk8 := hkK3.trans (if_neg zc4)
        refine g_aload_n cx 0 rfl e_X11_byLaw_12 ?_
        refine g_get cx cl_X11 fl_X11_65 0 (.ref (ad 19)) e_X11_byLaw_13 rfl rfl ?_
        refine g_iload cx 4 rfl e_X11_byLaw_16 ?_
        refine g_iald cx 19 e_X11_byLaw_18 rfl (jv_ix 14 p6 (by decide)) ?_
        refine g_topi (fun x9 ex9 => ?_)
        have hk10 := k_ls hk8 ex9
        refine g_iload_n cx 1 rfl e_X11_byLaw_19 ?_
        have J91 : ∀ (F11 : Nat → Int32) (R12 : Nat → Nat → Int32), (g_ok LK_wM F11) → (g_fr md_X11_byLaw F F11) → (g_okR LA_wM R12) → (g_fr mr_X11_byLaw R R12) → (WT F11 R12) → (WC F11 R12) → (SP = K_X11_byLaw_91 b3 y1 F11 R12) → G X E 6 0 0 (wM X ad F11 R12) [(0, .ref (ad 0)), (1, .int a0), (2, .int a1), (3, .int a2), (4, .int y1)] 91 [] := by
          intro F11 R12 oF11 fF11 oR12 fR12 wTF11R12 wCF11R12 hkJ91
          unfold K_X11_byLaw_91 at hkJ91
          obtain ⟨x13, ex13⟩ : ∃ z : Int32, z = y1 + Int32.ofInt 1 := ⟨_, rfl⟩
          have hk14 := k_ls hkJ91 (show x13 = y1 + 1 from ex13)
          refine g_iinc cx x13 [(4, .int x13), (0, .ref (ad 0)), (1, .int a0), (2, .int a1), (3, .int a2)] 4 e_X11_byLaw_91 rfl ex13.symm (by decide) rfl ?_
          have zx13 := jv_add 1 14 (show x13 = y1 + 1 from ex13) p6 (jv_k (x := 1) 1 (by decide)) (by decide)
          refine g_goto cx 3 e_X11_byLaw_94 (by decide) ?_
          refine g_lsub [1, 2, 3, 4, 0] [(0, .ref (ad 0)), (1, .int a0), (2, .int a1), (3, .int a2), (4, .int x13)] rfl ?_
          exact ih3 F11 R12 x13 oF11 fF11 oR12 fR12 wTF11R12 wCF11R12 (jv_w zx13.2 (by decide)) (hk14.trans (by rw [hb3])) (Nat.lt_of_lt_of_le (show (2147483647 - x13.toInt).toNat < (2147483647 - y1.toInt).toNat from by have q0 := (jv_k (x := 1) 1 (by decide)).1; have q1 := (jv_k (x := 1) 1 (by decide)).2; have q2 := p7.1; have q3 := p7.2; have q4 := zx13.2.1; have q5 := zx13.2.2; have q6 := p6.1; have q7 := p6.2; have q8 := (gc_nle zc4); have q9 := (g_eq0 zx13.1); omega) (Nat.le_of_lt_succ hm3))
        refine g_icmp_ne cx 91 e_X11_byLaw_20 (by decide) (fun zc15 => ?_) (fun zc15 => ?_)
        · have hk16 := hk10.trans (if_neg zc15)
          exact J91 F2 R3 oF2 fF2 oR3 fR3 wTF2R3 wCF2R3 hk16
        · have hk17 := hk10.trans (if_pos zc15)
          refine g_aload_n cx 0 rfl e_X11_byLaw_23 ?_
          refine g_aload_n cx 0 rfl e_X11_byLaw_24 ?_
          refine g_get cx cl_X11 fl_X11_71 0 (.ref (ad 21)) e_X11_byLaw_25 rfl rfl ?_
          refine g_iload cx 4 rfl e_X11_byLaw_28 ?_
          refine g_iald cx 21 e_X11_byLaw_30 rfl (jv_ix 14 p6 (by decide)) ?_
          refine g_topi (fun x18 ex18 => ?_)
          have hk19 := k_ls hk17 ex18
          refine g_aload_n cx 0 rfl e_X11_byLaw_31 ?_
          refine g_get cx cl_X11 fl_X11_74 0 (.ref (ad 22)) e_X11_byLaw_32 rfl rfl ?_
          refine g_iload cx 4 rfl e_X11_byLaw_35 ?_
          refine g_iald cx 22 e_X11_byLaw_37 rfl (jv_ix 14 p6 (by decide)) ?_
          refine g_topi (fun x20 ex20 => ?_)
          have hk21 := k_ls hk19 ex20
          refine g_cViW cx [.int x18, .int x20] [] (w_X11_comesTo l X ad F2 R3 oF2 oR3 wTF2R3 wCF2R3 x18 x20 (g_runH wCF2R3 p6 (by have q0 := p7.1; have q1 := p7.2; have q2 := (g_ok_g oF2 10 rfl).1; have q3 := (g_ok_g oF2 10 rfl).2; have q4 := p6.1; have q5 := p6.2; have q6 := (gc_nle zc4); have q7 := (congrArg Int32.toInt (show F2 28 = F 28 from (fF2 28 rfl))); omega) ex18 ex20)) ml_X11_305 yV_X11_comesTo e_X11_byLaw_38 (by unfold g_rr; decide) (by decide) 0 rfl rfl rfl (Nat.le_of_ble_eq_true rfl) (fun r22 w23 h24 => ?_)
          obtain ⟨F26, R27, rfl, oF26, oR27, wTF26, wCF26, cF26, cR27, pr22, hx25⟩ := h24
          have hk28 := k_ls3 hk21 hx25
          have fF26 : g_fr md_X11_byLaw F F26 := g_fr_c fF2 cF26 rfl
          have fR27 : g_fr mr_X11_byLaw R R27 := g_fr_c fR3 cR27 rfl
          refine g_iconst cx 1 (by decide) e_X11_byLaw_41 ?_
          refine g_icmp_eq cx 48 e_X11_byLaw_42 (by decide) (fun zc29 => ?_) (fun zc29 => ?_)
          · have p30 := gn_eq 1 1 (gc_eq zc29) pr22 (jv_k (x := 1) 1 (by decide)) (by decide)
            have hk31 := hk28.trans (if_pos zc29)
            refine g_aload_n cx 0 rfl e_X11_byLaw_48 ?_
            refine g_aload_n cx 0 rfl e_X11_byLaw_49 ?_
            refine g_get cx cl_X11 fl_X11_68 0 (.ref (ad 20)) e_X11_byLaw_50 rfl rfl ?_
            refine g_iload cx 4 rfl e_X11_byLaw_53 ?_
            refine g_iald cx 20 e_X11_byLaw_55 rfl (jv_ix 14 p6 (by decide)) ?_
            refine g_topi (fun x32 ex32 => ?_)
            have hk33 := k_ls hk31 ex32
            refine g_aload_n cx 0 rfl e_X11_byLaw_56 ?_
            refine g_get cx cl_X11 fl_X11_71 0 (.ref (ad 21)) e_X11_byLaw_57 rfl rfl ?_
            refine g_iload cx 4 rfl e_X11_byLaw_60 ?_
            refine g_iald cx 21 e_X11_byLaw_62 rfl (jv_ix 14 p6 (by decide)) ?_
            refine g_topi (fun x34 ex34 => ?_)
            have hk35 := k_ls hk33 ex34
            refine g_cViW cx [.int x32, .int x34] [] (w_X11_comesTo l X ad F26 R27 oF26 oR27 wTF26 wCF26 x32 x34 (g_runF wCF26 p6 (by have q0 := p7.1; have q1 := p7.2; have q2 := (g_ok_g oF2 10 rfl).1; have q3 := (g_ok_g oF2 10 rfl).2; have q4 := (g_ok_g oF26 10 rfl).1; have q5 := (g_ok_g oF26 10 rfl).2; have q6 := p6.1; have q7 := p6.2; have q8 := (gc_nle zc4); have q9 := (congrArg Int32.toInt (show F2 28 = F 28 from (fF2 28 rfl))); have q10 := (congrArg Int32.toInt (show F26 28 = F 28 from ((cF26 28 rfl).trans (fF2 28 rfl)))); omega) ex32 ex34)) ml_X11_305 yV_X11_comesTo e_X11_byLaw_63 (by unfold g_rr; decide) (by decide) 0 rfl rfl rfl (Nat.le_of_ble_eq_true rfl) (fun r36 w37 h38 => ?_)
            obtain ⟨F40, R41, rfl, oF40, oR41, wTF40, wCF40, cF40, cR41, pr36, hx39⟩ := h38
            have hk42 := k_ls3 hk35 hx39
            have fF40 : g_fr md_X11_byLaw F F40 := g_fr_c fF26 cF40 rfl
            have fR41 : g_fr mr_X11_byLaw R R41 := g_fr_c fR27 cR41 rfl
            refine g_istore cx [(5, .int r36), (0, .ref (ad 0)), (1, .int a0), (2, .int a1), (3, .int a2), (4, .int y1)] e_X11_byLaw_66 (by decide) rfl ?_
            refine g_iload cx 0 rfl e_X11_byLaw_68 ?_
            refine g_iload_n cx 3 rfl e_X11_byLaw_70 ?_
            have J90 : ∀ (y43 : Int32), (jv (-2147483648) 2147483647 y43) → (SP = K_X11_byLaw_90 F40 R41 y43) → G X E 6 0 0 (wM X ad F40 R41) [] 90 [.int y43] := by
              intro y43 py43 hkJ90
              unfold K_X11_byLaw_90 at hkJ90
              exact hret e_X11_byLaw_90 (Nat.le_of_ble_eq_true rfl) (Nat.le_of_ble_eq_true rfl) rfl ⟨F40, R41, rfl, oF40, oR41, wTF40, wCF40, fF40, fR41, py43, (hkJ90.symm.trans hSP)⟩
            refine g_icmp_ge cx 78 e_X11_byLaw_71 (by decide) (fun zc44 => ?_) (fun zc44 => ?_)
            · have hk45 := hk42.trans (if_pos zc44)
              refine g_iload cx 0 rfl e_X11_byLaw_78 ?_
              refine g_iload_n cx 4 rfl e_X11_byLaw_80 ?_
              refine g_icmp_le cx 88 e_X11_byLaw_81 (by decide) (fun zc46 => ?_) (fun zc46 => ?_)
              · have hk47 := hk45.trans (if_pos zc46)
                refine g_iload cx 0 rfl e_X11_byLaw_88 ?_
                refine g_lsub [] [] rfl ?_
                exact J90 r36 pr36 hk47
              · have p48 := gn_lt (-2147483648) 2147483646 (gc_nle zc46) (jv_t a2) pr36 (by decide)
                have p49 := gn_gt (-2147483647) 2147483647 (gc_nle zc46) pr36 (jv_t a2) (by decide)
                have hk50 := hk45.trans (if_neg zc46)
                refine g_iload_n cx 4 rfl e_X11_byLaw_84 ?_
                refine g_goto cx 90 e_X11_byLaw_85 (by decide) ?_
                refine g_lsub [] [] rfl ?_
                exact J90 a2 (jv_w p48 (by decide)) hk50
            · have p51 := gn_lt (-2147483648) 2147483646 (gc_nle zc44) pr36 (jv_t a1) (by decide)
              have p52 := gn_gt (-2147483647) 2147483647 (gc_nle zc44) (jv_t a1) pr36 (by decide)
              have hk53 := hk42.trans (if_neg zc44)
              refine g_iload_n cx 3 rfl e_X11_byLaw_74 ?_
              refine g_goto cx 90 e_X11_byLaw_75 (by decide) ?_
              refine g_lsub [] [] rfl ?_
              exact J90 a1 (jv_w p52 (by decide)) hk53
          · have hk54 := hk28.trans (if_neg zc29)
            refine g_goto cx 91 e_X11_byLaw_45 (by decide) ?_
            exact J91 F26 R27 oF26 fF26 oR27 fR27 wTF26 wCF26 hk54
  refine g_lsub [1, 2, 3, 4, 0] [(0, .ref (ad 0)), (1, .int a0), (2, .int a1), (3, .int a2), (4, .int 0)] rfl ?_
  exact J3 8589934592 F R 0 hI (g_fr_rf F) hA (g_fr_rf R) hWT hWC (jv_w (jv_k (x := 0) 0 (by decide)) (by decide)) hk0 (show (2147483647 - (0 : Int32).toInt).toNat < 8589934592 from by have q0 := (jv_k (x := 0) 0 (by decide)).1; have q1 := (jv_k (x := 0) 0 (by decide)).2; omega)
def sp_X11_stands (F : Nat → Int32) (R : Nat → Nat → Int32) (a0 : Int32) : Int32 :=
  k_lt (g_hasv (F 42) a0) (fun r1 => if r1 = 0 then 0 else k_lt (R 28 (Int32.toNatClampNeg a0)) (fun x11 => if x11 = 0 then 1 else 0))
theorem e_X11_stands_0 : g_dc cX11_stands 0 (.aload_n 0) 1 1 := ⟨by decide +kernel, rfl⟩
theorem e_X11_stands_1 : g_dc cX11_stands 1 (.getfield 312) 3 4 := ⟨by decide +kernel, rfl⟩
theorem e_X11_stands_4 : g_dc cX11_stands 4 (.iload_n 1) 1 5 := ⟨by decide +kernel, rfl⟩
theorem e_X11_stands_5 : g_dc cX11_stands 5 (.invokestatic 175) 3 8 := ⟨by decide +kernel, rfl⟩
theorem e_X11_stands_8 : g_dc cX11_stands 8 (.ifCond .eq 16) 3 11 := ⟨by decide +kernel, rfl⟩
theorem e_X11_stands_11 : g_dc cX11_stands 11 (.aload_n 0) 1 12 := ⟨by decide +kernel, rfl⟩
theorem e_X11_stands_12 : g_dc cX11_stands 12 (.getfield 92) 3 15 := ⟨by decide +kernel, rfl⟩
theorem e_X11_stands_15 : g_dc cX11_stands 15 (.iload_n 1) 1 16 := ⟨by decide +kernel, rfl⟩
theorem e_X11_stands_16 : g_dc cX11_stands 16 (.iaload) 1 17 := ⟨by decide +kernel, rfl⟩
theorem e_X11_stands_17 : g_dc cX11_stands 17 (.ifCond .ne 7) 3 20 := ⟨by decide +kernel, rfl⟩
theorem e_X11_stands_20 : g_dc cX11_stands 20 (.iconst 1) 1 21 := ⟨by decide +kernel, rfl⟩
theorem e_X11_stands_21 : g_dc cX11_stands 21 (.goto 4) 3 24 := ⟨by decide +kernel, rfl⟩
theorem e_X11_stands_24 : g_dc cX11_stands 24 (.iconst 0) 1 25 := ⟨by decide +kernel, rfl⟩
theorem e_X11_stands_25 : g_dc cX11_stands 25 (.ireturn) 1 26 := ⟨by decide +kernel, rfl⟩
set_option maxHeartbeats 4000000 in
set_option maxRecDepth 100000 in
theorem w_X11_stands (l : Launch) (X : gX) (ad : Nat → Nat) (F : Nat → Int32) (R : Nat → Nat → Int32) (hI : g_ok LK_wM F) (hA : g_okR LA_wM R) (hWT : WT F R) (hWC : WC F R) (a0 : Int32) (pa0 : jv 0 9 a0) : g_Ci l X yX11_stands cX11_stands 2 (some .boolean) 2 0 0 [.ref (ad 0), .int a0] (wM X ad F R) (fun r w => w = wM X ad F R ∧ jv 0 1 r ∧ (¬ r = 0 → hb (F 42) a0) ∧ r = sp_X11_stands F R a0) := by
  refine g_mi (by decide +kernel) (Nat.le_of_ble_eq_true rfl) (fun E cx hret => ?_)
  obtain ⟨SP, hSP⟩ : ∃ z, z = sp_X11_stands F R a0 := ⟨_, rfl⟩
  have hk0 := hSP
  unfold sp_X11_stands at hk0
  refine g_aload_n cx 0 rfl e_X11_stands_0 ?_
  refine g_get cx cl_X11 fl_X11_312 0 (.int (F 42)) e_X11_stands_1 rfl rfl ?_
  refine g_iload_n cx 1 rfl e_X11_stands_4 ?_
  refine g_cSiW cx [.int (F 42), .int a0] [] (c_X11_has l X (wM X ad F R) (F 42) a0) ml_X11_175 yS_X11_has rfl e_X11_stands_5 (by unfold g_rr; decide) (by decide) rfl (Nat.le_of_ble_eq_true rfl) (fun r1 w2 h3 => ?_)
  obtain ⟨rfl, hr1⟩ := h3
  have pr1 : jv 0 1 r1 := by rcases hr1 with q | q <;> rw [q.1] <;> exact ⟨by decide, by decide⟩
  have hk4 := k_ls hk0 (g_has_e hr1)
  refine g_if_eq cx 24 e_X11_stands_8 (by decide) (fun zc5 => ?_) (fun zc5 => ?_)
  · have p6 := gn_eq 0 0 (gc_eq zc5) pr1 (jv_k (x := 0) 0 (by decide)) (by decide)
    have hk7 := hk4.trans (if_pos zc5)
    refine g_iconst cx 0 (by decide) e_X11_stands_24 ?_
    exact hret e_X11_stands_25 (Nat.le_of_ble_eq_true rfl) (Nat.le_of_ble_eq_true rfl) rfl ⟨rfl, (jv_w (jv_k (x := 0) 0 (by decide)) (by decide)), (fun h => absurd rfl h), (hk7.symm.trans hSP)⟩
  · have p8 := gn_neL 1 1 (gc_ne zc5) pr1 (jv_k (x := 0) 0 (by decide)) (by decide)
    have zb9 : hb (F 42) a0 := g_hasy hr1 zc5
    have hk10 := hk4.trans (if_neg zc5)
    refine g_aload_n cx 0 rfl e_X11_stands_11 ?_
    refine g_get cx cl_X11 fl_X11_92 0 (.ref (ad 28)) e_X11_stands_12 rfl rfl ?_
    refine g_iload_n cx 1 rfl e_X11_stands_15 ?_
    refine g_iald cx 28 e_X11_stands_16 rfl (jv_ix 10 pa0 (by decide)) ?_
    refine g_topi (fun x11 ex11 => ?_)
    have hk12 := k_ls hk10 ex11
    refine g_if_ne cx 24 e_X11_stands_17 (by decide) (fun zc13 => ?_) (fun zc13 => ?_)
    · have hk14 := hk12.trans (if_neg zc13)
      refine g_iconst cx 0 (by decide) e_X11_stands_24 ?_
      exact hret e_X11_stands_25 (Nat.le_of_ble_eq_true rfl) (Nat.le_of_ble_eq_true rfl) rfl ⟨rfl, (jv_w (jv_k (x := 0) 0 (by decide)) (by decide)), (fun h => absurd rfl h), (hk14.symm.trans hSP)⟩
    · have p15 := gn_eq 0 0 (gc_eq zc13) (jv_t x11) (jv_k (x := 0) 0 (by decide)) (by decide)
      have hk16 := hk12.trans (if_pos zc13)
      refine g_iconst cx 1 (by decide) e_X11_stands_20 ?_
      refine g_goto cx 25 e_X11_stands_21 (by decide) ?_
      exact hret e_X11_stands_25 (Nat.le_of_ble_eq_true rfl) (Nat.le_of_ble_eq_true rfl) rfl ⟨rfl, (jv_w (jv_k (x := 1) 1 (by decide)) (by decide)), (fun _ => zb9), (hk16.symm.trans hSP)⟩
def K_X11_laysOrder_81 (b4 : (Nat → Nat → Int32) → (Int32) → (Int32) → Int32 × (Nat → Int32) × (Nat → Nat → Int32)) (y2 : Int32) (R17 : Nat → Nat → Int32) (y16 : Int32) : Int32 × (Nat → Int32) × (Nat → Nat → Int32) :=
  k_lt (y2 + 1) (fun x19 => b4 R17 y16 x19)
def K_X11_laysOrder_70 (b4 : (Nat → Nat → Int32) → (Int32) → (Int32) → Int32 × (Nat → Int32) × (Nat → Nat → Int32)) (R25 : Nat → Nat → Int32) (y1 : Int32) (y2 : Int32) (y24 : Int32)  : Int32 × (Nat → Int32) × (Nat → Nat → Int32) :=
  k_lt (g_u R25 37 (upd (R25 37) (Int32.toNatClampNeg y24) y2)) (fun R27 => k_lt (y1 + 1) (fun x29 => K_X11_laysOrder_81 b4 y2 R27 x29))
def KB_X11_laysOrder_23 (b23 : (Nat → Nat → Int32) → (Int32) → Int32 × (Nat → Int32) × (Nat → Nat → Int32)) (b4 : (Nat → Nat → Int32) → (Int32) → (Int32) → Int32 × (Nat → Int32) × (Nat → Nat → Int32)) (F : Nat → Int32) (y1 : Int32) (y2 : Int32) (R25 : Nat → Nat → Int32) (y24 : Int32) : Int32 × (Nat → Int32) × (Nat → Nat → Int32) :=
  if y24 ≤ 0 then K_X11_laysOrder_70 b4 R25 y1 y2 y24 else k_lt (y24 - 1) (fun x36 => k_lt (R25 37 (Int32.toNatClampNeg x36)) (fun x38 => k_lt (R25 26 (Int32.toNatClampNeg x38)) (fun x41 => k_lt (R25 26 (Int32.toNatClampNeg y2)) (fun x43 => if x41 ≤ x43 then K_X11_laysOrder_70 b4 R25 y1 y2 y24 else k_lt (y24 - 1) (fun x50 => k_lt (R25 37 (Int32.toNatClampNeg x50)) (fun x52 => k_lt (g_u R25 37 (upd (R25 37) (Int32.toNatClampNeg y24) x52)) (fun R55 => k_lt (y24 - 1) (fun x57 => b23 R55 x57))))))))
def K_X11_laysOrder_23 (b4 : (Nat → Nat → Int32) → (Int32) → (Int32) → Int32 × (Nat → Int32) × (Nat → Nat → Int32)) (F : Nat → Int32) (y1 : Int32) (y2 : Int32) : Nat → (Nat → Nat → Int32) → (Int32) → Int32 × (Nat → Int32) × (Nat → Nat → Int32)
  | 0 => fun R25 _ => (0, F, R25)
  | n + 1 => KB_X11_laysOrder_23 (K_X11_laysOrder_23 b4 F y1 y2 n) b4 F y1 y2
def KB_X11_laysOrder_4 (b4 : (Nat → Nat → Int32) → (Int32) → (Int32) → Int32 × (Nat → Int32) × (Nat → Nat → Int32)) (F : Nat → Int32) (R3 : Nat → Nat → Int32) (y1 : Int32) (y2 : Int32) : Int32 × (Nat → Int32) × (Nat → Nat → Int32) :=
  if 10 ≤ y2 then (y1, F, R3) else k_lt (sp_X11_stands F R3 y2) (fun r10 => if r10 = 0 then K_X11_laysOrder_81 b4 y2 R3 y1 else K_X11_laysOrder_23 b4 F y1 y2 8589934592 R3 y1)
def K_X11_laysOrder_4 (F : Nat → Int32) : Nat → (Nat → Nat → Int32) → (Int32) → (Int32) → Int32 × (Nat → Int32) × (Nat → Nat → Int32)
  | 0 => fun R3 _ _ => (0, F, R3)
  | n + 1 => KB_X11_laysOrder_4 (K_X11_laysOrder_4 F n) F
def sp_X11_laysOrder (F : Nat → Int32) (R : Nat → Nat → Int32) : Int32 × (Nat → Int32) × (Nat → Nat → Int32) :=
  K_X11_laysOrder_4 F 8589934592 R 0 0
theorem e_X11_laysOrder_0 : g_dc cX11_laysOrder 0 (.iconst 0) 1 1 := ⟨by decide +kernel, rfl⟩
theorem e_X11_laysOrder_1 : g_dc cX11_laysOrder 1 (.istore_n 1) 1 2 := ⟨by decide +kernel, rfl⟩
theorem e_X11_laysOrder_2 : g_dc cX11_laysOrder 2 (.iconst 0) 1 3 := ⟨by decide +kernel, rfl⟩
theorem e_X11_laysOrder_3 : g_dc cX11_laysOrder 3 (.istore_n 2) 1 4 := ⟨by decide +kernel, rfl⟩
theorem e_X11_laysOrder_4 : g_dc cX11_laysOrder 4 (.iload_n 2) 1 5 := ⟨by decide +kernel, rfl⟩
theorem e_X11_laysOrder_5 : g_dc cX11_laysOrder 5 (.bipush 10) 2 7 := ⟨by decide +kernel, rfl⟩
theorem e_X11_laysOrder_7 : g_dc cX11_laysOrder 7 (.if_icmp .ge 80) 3 10 := ⟨by decide +kernel, rfl⟩
theorem e_X11_laysOrder_10 : g_dc cX11_laysOrder 10 (.aload_n 0) 1 11 := ⟨by decide +kernel, rfl⟩
theorem e_X11_laysOrder_11 : g_dc cX11_laysOrder 11 (.iload_n 2) 1 12 := ⟨by decide +kernel, rfl⟩
theorem e_X11_laysOrder_12 : g_dc cX11_laysOrder 12 (.invokevirtual 343) 3 15 := ⟨by decide +kernel, rfl⟩
theorem e_X11_laysOrder_15 : g_dc cX11_laysOrder 15 (.ifCond .ne 6) 3 18 := ⟨by decide +kernel, rfl⟩
theorem e_X11_laysOrder_18 : g_dc cX11_laysOrder 18 (.goto 63) 3 21 := ⟨by decide +kernel, rfl⟩
theorem e_X11_laysOrder_21 : g_dc cX11_laysOrder 21 (.iload_n 1) 1 22 := ⟨by decide +kernel, rfl⟩
theorem e_X11_laysOrder_22 : g_dc cX11_laysOrder 22 (.istore_n 3) 1 23 := ⟨by decide +kernel, rfl⟩
theorem e_X11_laysOrder_23 : g_dc cX11_laysOrder 23 (.iload_n 3) 1 24 := ⟨by decide +kernel, rfl⟩
theorem e_X11_laysOrder_24 : g_dc cX11_laysOrder 24 (.ifCond .le 46) 3 27 := ⟨by decide +kernel, rfl⟩
theorem e_X11_laysOrder_27 : g_dc cX11_laysOrder 27 (.aload_n 0) 1 28 := ⟨by decide +kernel, rfl⟩
theorem e_X11_laysOrder_28 : g_dc cX11_laysOrder 28 (.getfield 86) 3 31 := ⟨by decide +kernel, rfl⟩
theorem e_X11_laysOrder_31 : g_dc cX11_laysOrder 31 (.aload_n 0) 1 32 := ⟨by decide +kernel, rfl⟩
theorem e_X11_laysOrder_32 : g_dc cX11_laysOrder 32 (.getfield 119) 3 35 := ⟨by decide +kernel, rfl⟩
theorem e_X11_laysOrder_35 : g_dc cX11_laysOrder 35 (.iload_n 3) 1 36 := ⟨by decide +kernel, rfl⟩
theorem e_X11_laysOrder_36 : g_dc cX11_laysOrder 36 (.iconst 1) 1 37 := ⟨by decide +kernel, rfl⟩
theorem e_X11_laysOrder_37 : g_dc cX11_laysOrder 37 (.isub) 1 38 := ⟨by decide +kernel, rfl⟩
theorem e_X11_laysOrder_38 : g_dc cX11_laysOrder 38 (.iaload) 1 39 := ⟨by decide +kernel, rfl⟩
theorem e_X11_laysOrder_39 : g_dc cX11_laysOrder 39 (.iaload) 1 40 := ⟨by decide +kernel, rfl⟩
theorem e_X11_laysOrder_40 : g_dc cX11_laysOrder 40 (.aload_n 0) 1 41 := ⟨by decide +kernel, rfl⟩
theorem e_X11_laysOrder_41 : g_dc cX11_laysOrder 41 (.getfield 86) 3 44 := ⟨by decide +kernel, rfl⟩
theorem e_X11_laysOrder_44 : g_dc cX11_laysOrder 44 (.iload_n 2) 1 45 := ⟨by decide +kernel, rfl⟩
theorem e_X11_laysOrder_45 : g_dc cX11_laysOrder 45 (.iaload) 1 46 := ⟨by decide +kernel, rfl⟩
theorem e_X11_laysOrder_46 : g_dc cX11_laysOrder 46 (.if_icmp .le 24) 3 49 := ⟨by decide +kernel, rfl⟩
theorem e_X11_laysOrder_49 : g_dc cX11_laysOrder 49 (.aload_n 0) 1 50 := ⟨by decide +kernel, rfl⟩
theorem e_X11_laysOrder_50 : g_dc cX11_laysOrder 50 (.getfield 119) 3 53 := ⟨by decide +kernel, rfl⟩
theorem e_X11_laysOrder_53 : g_dc cX11_laysOrder 53 (.iload_n 3) 1 54 := ⟨by decide +kernel, rfl⟩
theorem e_X11_laysOrder_54 : g_dc cX11_laysOrder 54 (.aload_n 0) 1 55 := ⟨by decide +kernel, rfl⟩
theorem e_X11_laysOrder_55 : g_dc cX11_laysOrder 55 (.getfield 119) 3 58 := ⟨by decide +kernel, rfl⟩
theorem e_X11_laysOrder_58 : g_dc cX11_laysOrder 58 (.iload_n 3) 1 59 := ⟨by decide +kernel, rfl⟩
theorem e_X11_laysOrder_59 : g_dc cX11_laysOrder 59 (.iconst 1) 1 60 := ⟨by decide +kernel, rfl⟩
theorem e_X11_laysOrder_60 : g_dc cX11_laysOrder 60 (.isub) 1 61 := ⟨by decide +kernel, rfl⟩
theorem e_X11_laysOrder_61 : g_dc cX11_laysOrder 61 (.iaload) 1 62 := ⟨by decide +kernel, rfl⟩
theorem e_X11_laysOrder_62 : g_dc cX11_laysOrder 62 (.iastore) 1 63 := ⟨by decide +kernel, rfl⟩
theorem e_X11_laysOrder_63 : g_dc cX11_laysOrder 63 (.iload_n 3) 1 64 := ⟨by decide +kernel, rfl⟩
theorem e_X11_laysOrder_64 : g_dc cX11_laysOrder 64 (.iconst 1) 1 65 := ⟨by decide +kernel, rfl⟩
theorem e_X11_laysOrder_65 : g_dc cX11_laysOrder 65 (.isub) 1 66 := ⟨by decide +kernel, rfl⟩
theorem e_X11_laysOrder_66 : g_dc cX11_laysOrder 66 (.istore_n 3) 1 67 := ⟨by decide +kernel, rfl⟩
theorem e_X11_laysOrder_67 : g_dc cX11_laysOrder 67 (.goto (-44)) 3 70 := ⟨by decide +kernel, rfl⟩
theorem e_X11_laysOrder_70 : g_dc cX11_laysOrder 70 (.aload_n 0) 1 71 := ⟨by decide +kernel, rfl⟩
theorem e_X11_laysOrder_71 : g_dc cX11_laysOrder 71 (.getfield 119) 3 74 := ⟨by decide +kernel, rfl⟩
theorem e_X11_laysOrder_74 : g_dc cX11_laysOrder 74 (.iload_n 3) 1 75 := ⟨by decide +kernel, rfl⟩
theorem e_X11_laysOrder_75 : g_dc cX11_laysOrder 75 (.iload_n 2) 1 76 := ⟨by decide +kernel, rfl⟩
theorem e_X11_laysOrder_76 : g_dc cX11_laysOrder 76 (.iastore) 1 77 := ⟨by decide +kernel, rfl⟩
theorem e_X11_laysOrder_77 : g_dc cX11_laysOrder 77 (.iload_n 1) 1 78 := ⟨by decide +kernel, rfl⟩
theorem e_X11_laysOrder_78 : g_dc cX11_laysOrder 78 (.iconst 1) 1 79 := ⟨by decide +kernel, rfl⟩
theorem e_X11_laysOrder_79 : g_dc cX11_laysOrder 79 (.iadd) 1 80 := ⟨by decide +kernel, rfl⟩
theorem e_X11_laysOrder_80 : g_dc cX11_laysOrder 80 (.istore_n 1) 1 81 := ⟨by decide +kernel, rfl⟩
theorem e_X11_laysOrder_81 : g_dc cX11_laysOrder 81 (.iinc 2 1) 3 84 := ⟨by decide +kernel, rfl⟩
theorem e_X11_laysOrder_84 : g_dc cX11_laysOrder 84 (.goto (-80)) 3 87 := ⟨by decide +kernel, rfl⟩
theorem e_X11_laysOrder_87 : g_dc cX11_laysOrder 87 (.iload_n 1) 1 88 := ⟨by decide +kernel, rfl⟩
theorem e_X11_laysOrder_88 : g_dc cX11_laysOrder 88 (.ireturn) 1 89 := ⟨by decide +kernel, rfl⟩
def md_X11_laysOrder : List Nat := []
def mr_X11_laysOrder : List Nat := [37]
set_option maxHeartbeats 4000000 in
set_option maxRecDepth 100000 in
theorem w_X11_laysOrder (l : Launch) (X : gX) (ad : Nat → Nat) (F : Nat → Int32) (R : Nat → Nat → Int32) (hI : g_ok LK_wM F) (hA : g_okR LA_wM R) (hWT : WT F R) (hWC : WC F R) (hpn : WN F R) : g_Ci l X yX11_laysOrder cX11_laysOrder 4 (some .int) 3 0 0 [.ref (ad 0)] (wM X ad F R) (fun r w => ∃ (F' : Nat → Int32) (R' : Nat → Nat → Int32), w = wM X ad F' R' ∧ g_ok LK_wM F' ∧ g_okR LA_wM R' ∧ WT F' R' ∧ WC F' R' ∧ g_fr md_X11_laysOrder F F' ∧ g_fr mr_X11_laysOrder R R' ∧ jv 0 10 r ∧ OW (R 5) (R' 37) r.toInt ∧ (r, F', R') = sp_X11_laysOrder F R) := by
  refine g_mi (by decide +kernel) (Nat.le_of_ble_eq_true rfl) (fun E cx hret => ?_)
  obtain ⟨SP, hSP⟩ : ∃ z, z = sp_X11_laysOrder F R := ⟨_, rfl⟩
  have hk0 := hSP
  unfold sp_X11_laysOrder at hk0
  refine g_iconst cx 0 (by decide) e_X11_laysOrder_0 ?_
  refine g_istore_n cx [(1, .int 0), (0, .ref (ad 0))] e_X11_laysOrder_1 (by decide) rfl ?_
  refine g_iconst cx 0 (by decide) e_X11_laysOrder_2 ?_
  refine g_istore_n cx [(2, .int 0), (1, .int 0), (0, .ref (ad 0))] e_X11_laysOrder_3 (by decide) rfl ?_
  have J4 : ∀ (N : Nat) (R3 : Nat → Nat → Int32) (y1 : Int32) (y2 : Int32), (g_okR LA_wM R3) → (g_fr mr_X11_laysOrder R R3) → (WT F R3) → (WC F R3) → (jv 0 10 y1) → (jv 0 10 y2) → (0 ≤ (y1 : Int32).toInt ∧ (y1 : Int32).toInt ≤ (y2 : Int32).toInt) → (OW (R 5) (R3 37) (y1 : Int32).toInt) → (SP = K_X11_laysOrder_4 F N R3 y1 y2) → (2147483647 - y2.toInt).toNat < N → G X E 4 0 0 (wM X ad F R3) [(0, .ref (ad 0)), (1, .int y1), (2, .int y2)] 4 [] := by
    intro N
    induction N with
    | zero => intro R3 y1 y2 oR3 fR3 wTR3 wCR3 py1 py2 zi4_0 zq4_0 hkJ4 hm; exact absurd hm (Nat.not_lt_zero _)
    | succ N ih4 =>
      intro R3 y1 y2 oR3 fR3 wTR3 wCR3 py1 py2 zi4_0 zq4_0 hkJ4 hm4
      have hkK4 : SP = KB_X11_laysOrder_4 (K_X11_laysOrder_4 F N) F R3 y1 y2 := hkJ4
      obtain ⟨b4, hb4⟩ : ∃ z, z = K_X11_laysOrder_4 F N := ⟨_, rfl⟩
      rw [← hb4] at hkK4
      unfold KB_X11_laysOrder_4 at hkK4
      have p4 : jv 0 10 y1 := ⟨by have q0 := py1.1; have q1 := py1.2; have q2 := py2.1; have q3 := py2.2; have q4 := zi4_0; omega, by have q0 := py1.1; have q1 := py1.2; have q2 := py2.1; have q3 := py2.2; have q4 := zi4_0; omega⟩
      refine g_iload_n cx 2 rfl e_X11_laysOrder_4 ?_
      refine g_bipush cx 10 (by decide) e_X11_laysOrder_5 ?_
      refine g_icmp_ge cx 87 e_X11_laysOrder_7 (by decide) (fun zc5 => ?_) (fun zc5 => ?_)
      · have p6 := gn_ge 10 10 (gc_le zc5) py2 (jv_k (x := 10) 10 (by decide)) (by decide)
        have hk7 := hkK4.trans (if_pos zc5)
        refine g_iload_n cx 1 rfl e_X11_laysOrder_87 ?_
        exact hret e_X11_laysOrder_88 (Nat.le_of_ble_eq_true rfl) (Nat.le_of_ble_eq_true rfl) rfl ⟨F, R3, rfl, hI, oR3, wTR3, wCR3, (g_fr_rf F), fR3, p4, zq4_0, (hk7.symm.trans hSP)⟩
      · have p8 := gn_lt 0 9 (gc_nle zc5) py2 (jv_k (x := 10) 10 (by decide)) (by decide)
        have hk9 := hkK4.trans (if_neg zc5)
        refine g_aload_n cx 0 rfl e_X11_laysOrder_10 ?_
        refine g_iload_n cx 2 rfl e_X11_laysOrder_11 ?_
        refine g_cViW cx [.int y2] [] (w_X11_stands l X ad F R3 hI oR3 wTR3 wCR3 y2 p8) ml_X11_343 yV_X11_stands e_X11_laysOrder_12 (by unfold g_rr; decide) (by decide) 0 rfl rfl rfl (Nat.le_of_ble_eq_true rfl) (fun r10 w11 h12 => ?_)
        obtain ⟨rfl, pr10, zx13, hx14⟩ := h12
        have hk15 := k_ls hk9 hx14
        have J81 : ∀ (R17 : Nat → Nat → Int32) (y16 : Int32), (g_okR LA_wM R17) → (g_fr mr_X11_laysOrder R R17) → (WT F R17) → (WC F R17) → (jv 0 11 y16) → (0 ≤ (y16 : Int32).toInt ∧ (y16 : Int32).toInt ≤ (y2 : Int32).toInt + 1) → (OW (R 5) (R17 37) (y16 : Int32).toInt) → (SP = K_X11_laysOrder_81 b4 y2 R17 y16) → G X E 4 0 0 (wM X ad F R17) [(0, .ref (ad 0)), (1, .int y16), (2, .int y2)] 81 [] := by
          intro R17 y16 oR17 fR17 wTR17 wCR17 py16 zi81_0 zq81_0 hkJ81
          unfold K_X11_laysOrder_81 at hkJ81
          have p18 : jv 0 10 y16 := ⟨by have q0 := (jv_k (x := 10) 10 (by decide)).1; have q1 := (jv_k (x := 10) 10 (by decide)).2; have q2 := p4.1; have q3 := p4.2; have q4 := py16.1; have q5 := py16.2; have q6 := p8.1; have q7 := p8.2; have q8 := zi4_0; have q9 := (gc_nle zc5); have q10 := zi81_0; omega, by have q0 := (jv_k (x := 10) 10 (by decide)).1; have q1 := (jv_k (x := 10) 10 (by decide)).2; have q2 := p4.1; have q3 := p4.2; have q4 := py16.1; have q5 := py16.2; have q6 := p8.1; have q7 := p8.2; have q8 := zi4_0; have q9 := (gc_nle zc5); have q10 := zi81_0; omega⟩
          obtain ⟨x19, ex19⟩ : ∃ z : Int32, z = y2 + Int32.ofInt 1 := ⟨_, rfl⟩
          have hk20 := k_ls hkJ81 (show x19 = y2 + 1 from ex19)
          refine g_iinc cx x19 [(2, .int x19), (0, .ref (ad 0)), (1, .int y16)] 2 e_X11_laysOrder_81 rfl ex19.symm (by decide) rfl ?_
          have zx19 := jv_add 1 10 (show x19 = y2 + 1 from ex19) p8 (jv_k (x := 1) 1 (by decide)) (by decide)
          refine g_goto cx 4 e_X11_laysOrder_84 (by decide) ?_
          refine g_lsub [1, 2, 0] [(0, .ref (ad 0)), (1, .int y16), (2, .int x19)] rfl ?_
          exact ih4 R17 y16 x19 oR17 fR17 wTR17 wCR17 p18 (jv_w zx19.2 (by decide)) (by have q0 := (jv_k (x := 1) 1 (by decide)).1; have q1 := (jv_k (x := 1) 1 (by decide)).2; have q2 := (jv_k (x := 10) 10 (by decide)).1; have q3 := (jv_k (x := 10) 10 (by decide)).2; have q4 := zx19.2.1; have q5 := zx19.2.2; have q6 := p4.1; have q7 := p4.2; have q8 := p18.1; have q9 := p18.2; have q10 := p8.1; have q11 := p8.2; have q12 := zi4_0; have q13 := (gc_nle zc5); have q14 := zi81_0; have q15 := (g_eq0 zx19.1); omega) (zq81_0) (hk20.trans (by rw [hb4])) (Nat.lt_of_lt_of_le (show (2147483647 - x19.toInt).toNat < (2147483647 - y2.toInt).toNat from by have q0 := (jv_k (x := 1) 1 (by decide)).1; have q1 := (jv_k (x := 1) 1 (by decide)).2; have q2 := (jv_k (x := 10) 10 (by decide)).1; have q3 := (jv_k (x := 10) 10 (by decide)).2; have q4 := zx19.2.1; have q5 := zx19.2.2; have q6 := p4.1; have q7 := p4.2; have q8 := p18.1; have q9 := p18.2; have q10 := p8.1; have q11 := p8.2; have q12 := zi4_0; have q13 := (gc_nle zc5); have q14 := zi81_0; have q15 := (g_eq0 zx19.1); omega) (Nat.le_of_lt_succ hm4))
        refine g_if_ne cx 21 e_X11_laysOrder_15 (by decide) (fun zc21 => ?_) (fun zc21 => ?_)
        · have p22 := gn_neL 1 1 (gc_ne zc21) pr10 (jv_k (x := 0) 0 (by decide)) (by decide)
          have hk23 := hk15.trans (if_neg zc21)
          refine g_iload_n cx 1 rfl e_X11_laysOrder_21 ?_
          refine g_istore_n cx [(3, .int y1), (0, .ref (ad 0)), (1, .int y1), (2, .int y2)] e_X11_laysOrder_22 (by decide) rfl ?_
          have J23 : ∀ (N : Nat) (R25 : Nat → Nat → Int32) (y24 : Int32), (g_okR LA_wM R25) → (g_fr mr_X11_laysOrder R R25) → (WT F R25) → (WC F R25) → (jv 0 10 y24) → (0 ≤ (y24 : Int32).toInt ∧ (y24 : Int32).toInt ≤ (y1 : Int32).toInt) → (OH (R 5) (R25 37) (y1 : Int32).toInt (y24 : Int32).toInt) → (SP = K_X11_laysOrder_23 b4 F y1 y2 N R25 y24) → (y24.toInt + 2147483648).toNat < N → G X E 4 0 0 (wM X ad F R25) [(0, .ref (ad 0)), (1, .int y1), (2, .int y2), (3, .int y24)] 23 [] := by
            intro N
            induction N with
            | zero => intro R25 y24 oR25 fR25 wTR25 wCR25 py24 zi23_0 zq23_0 hkJ23 hm; exact absurd hm (Nat.not_lt_zero _)
            | succ N ih23 =>
              intro R25 y24 oR25 fR25 wTR25 wCR25 py24 zi23_0 zq23_0 hkJ23 hm23
              have hkK23 : SP = KB_X11_laysOrder_23 (K_X11_laysOrder_23 b4 F y1 y2 N) b4 F y1 y2 R25 y24 := hkJ23
              obtain ⟨b23, hb23⟩ : ∃ z, z = K_X11_laysOrder_23 b4 F y1 y2 N := ⟨_, rfl⟩
              rw [← hb23] at hkK23
              unfold KB_X11_laysOrder_23 at hkK23
              have p26 : jv 0 9 y24 := ⟨by have q0 := (jv_k (x := 10) 10 (by decide)).1; have q1 := (jv_k (x := 10) 10 (by decide)).2; have q2 := p4.1; have q3 := p4.2; have q4 := p8.1; have q5 := p8.2; have q6 := py24.1; have q7 := py24.2; have q8 := zi4_0; have q9 := (gc_nle zc5); have q10 := zi23_0; omega, by have q0 := (jv_k (x := 10) 10 (by decide)).1; have q1 := (jv_k (x := 10) 10 (by decide)).2; have q2 := p4.1; have q3 := p4.2; have q4 := p8.1; have q5 := p8.2; have q6 := py24.1; have q7 := py24.2; have q8 := zi4_0; have q9 := (gc_nle zc5); have q10 := zi23_0; omega⟩
              refine g_iload_n cx 3 rfl e_X11_laysOrder_23 ?_
              have J70 : (SP = K_X11_laysOrder_70 b4 R25 y1 y2 y24) → G X E 4 0 0 (wM X ad F R25) [(0, .ref (ad 0)), (1, .int y1), (2, .int y2), (3, .int y24)] 70 [] := by
                intro   hkJ70
                unfold K_X11_laysOrder_70 at hkJ70
                refine g_aload_n cx 0 rfl e_X11_laysOrder_70 ?_
                refine g_get cx cl_X11 fl_X11_119 0 (.ref (ad 37)) e_X11_laysOrder_71 rfl rfl ?_
                refine g_iload_n cx 3 rfl e_X11_laysOrder_74 ?_
                refine g_iload_n cx 2 rfl e_X11_laysOrder_75 ?_
                refine g_iast cx 37 (wM X ad F (g_u R25 37 (upd (R25 37) (Int32.toNatClampNeg y24) y2))) e_X11_laysOrder_76 rfl (jv_ix 10 p26 (by decide)) rfl ?_
                obtain ⟨R27, hR27⟩ : ∃ z, z = g_u R25 37 (upd (R25 37) (Int32.toNatClampNeg y24) y2) := ⟨_, rfl⟩
                rw [← hR27]
                have hk28 := k_ls hkJ70 hR27
                have oR27 : g_okR LA_wM R27 := by rw [hR27]; exact g_okR_p oR25 p8 rfl
                have fR27 : g_fr mr_X11_laysOrder R R27 := by rw [hR27]; exact g_fr_r fR25 rfl
                have wTR27 : WT F R27 := by rw [hR27]; exact WT_r wTR25 rfl
                have wCR27 : WC F R27 := by rw [hR27]; exact WC_r wCR25 rfl
                refine g_iload_n cx 1 rfl e_X11_laysOrder_77 ?_
                refine g_iconst cx 1 (by decide) e_X11_laysOrder_78 ?_
                refine g_iadd cx e_X11_laysOrder_79 ?_
                refine g_topi (fun x29 ex29 => ?_)
                have hk30 := k_ls hk28 ex29
                have zx29 := jv_add 1 11 ex29 p4 (jv_k (x := 1) 1 (by decide)) (by decide)
                refine g_istore_n cx [(1, .int x29), (0, .ref (ad 0)), (2, .int y2), (3, .int y24)] e_X11_laysOrder_80 (by decide) rfl ?_
                refine g_lsub [1, 0, 2] [(0, .ref (ad 0)), (1, .int x29), (2, .int y2)] rfl ?_
                exact J81 R27 x29 oR27 fR27 wTR27 wCR27 (jv_w zx29.2 (by decide)) (by have q0 := (jv_k (x := 1) 1 (by decide)).1; have q1 := (jv_k (x := 1) 1 (by decide)).2; have q2 := (jv_k (x := 10) 10 (by decide)).1; have q3 := (jv_k (x := 10) 10 (by decide)).2; have q4 := zx29.2.1; have q5 := zx29.2.2; have q6 := p4.1; have q7 := p4.2; have q8 := p8.1; have q9 := p8.2; have q10 := p26.1; have q11 := p26.2; have q12 := zi4_0; have q13 := (gc_nle zc5); have q14 := zi23_0; have q15 := (g_eq0 zx29.1); omega) (OW_put (k := y24) (i := y2) zq23_0 p26 (wn_weight hpn p8 (zx13 zc21)) (g_ru1 hR27) (by have q0 := (jv_k (x := 1) 1 (by decide)).1; have q1 := (jv_k (x := 1) 1 (by decide)).2; have q2 := (jv_k (x := 10) 10 (by decide)).1; have q3 := (jv_k (x := 10) 10 (by decide)).2; have q4 := zx29.2.1; have q5 := zx29.2.2; have q6 := p4.1; have q7 := p4.2; have q8 := p8.1; have q9 := p8.2; have q10 := p26.1; have q11 := p26.2; have q12 := zi4_0; have q13 := (gc_nle zc5); have q14 := zi23_0; have q15 := (g_eq0 zx29.1); omega)) hk30
              refine g_if_le cx 70 e_X11_laysOrder_24 (by decide) (fun zc31 => ?_) (fun zc31 => ?_)
              · have p32 := gn_le 0 0 (gc_le zc31) p26 (jv_k (x := 0) 0 (by decide)) (by decide)
                have hk33 := hkK23.trans (if_pos zc31)
                exact J70  hk33
              · have p34 := gn_gt 1 9 (gc_nle zc31) p26 (jv_k (x := 0) 0 (by decide)) (by decide)
                have hk35 := hkK23.trans (if_neg zc31)
                refine g_aload_n cx 0 rfl e_X11_laysOrder_27 ?_
                refine g_get cx cl_X11 fl_X11_86 0 (.ref (ad 26)) e_X11_laysOrder_28 rfl rfl ?_
                refine g_aload_n cx 0 rfl e_X11_laysOrder_31 ?_
                refine g_get cx cl_X11 fl_X11_119 0 (.ref (ad 37)) e_X11_laysOrder_32 rfl rfl ?_
                refine g_iload_n cx 3 rfl e_X11_laysOrder_35 ?_
                refine g_iconst cx 1 (by decide) e_X11_laysOrder_36 ?_
                refine g_isub cx e_X11_laysOrder_37 ?_
                refine g_topi (fun x36 ex36 => ?_)
                have hk37 := k_ls hk35 ex36
                have zx36 := jv_sub 0 8 ex36 p34 (jv_k (x := 1) 1 (by decide)) (by decide)
                refine g_iald cx 37 e_X11_laysOrder_38 rfl (jv_ix 10 zx36.2 (by decide)) ?_
                refine g_topi (fun x38 ex38 => ?_)
                have hk39 := k_ls hk37 ex38
                have p40 : jv 0 9 x38 := by rw [ex38]; exact g_okR_g oR25 3 rfl (jv_cl 10 zx36.2 (by decide))
                refine g_iald cx 26 e_X11_laysOrder_39 rfl (jv_ix 10 p40 (by decide)) ?_
                refine g_topi (fun x41 ex41 => ?_)
                have hk42 := k_ls hk39 ex41
                refine g_aload_n cx 0 rfl e_X11_laysOrder_40 ?_
                refine g_get cx cl_X11 fl_X11_86 0 (.ref (ad 26)) e_X11_laysOrder_41 rfl rfl ?_
                refine g_iload_n cx 2 rfl e_X11_laysOrder_44 ?_
                refine g_iald cx 26 e_X11_laysOrder_45 rfl (jv_ix 10 p8 (by decide)) ?_
                refine g_topi (fun x43 ex43 => ?_)
                have hk44 := k_ls hk42 ex43
                refine g_icmp_le cx 70 e_X11_laysOrder_46 (by decide) (fun zc45 => ?_) (fun zc45 => ?_)
                · have hk46 := hk44.trans (if_pos zc45)
                  exact J70  hk46
                · have p47 := gn_lt (-2147483648) 2147483646 (gc_nle zc45) (jv_t x43) (jv_t x41) (by decide)
                  have p48 := gn_gt (-2147483647) 2147483647 (gc_nle zc45) (jv_t x41) (jv_t x43) (by decide)
                  have hk49 := hk44.trans (if_neg zc45)
                  refine g_aload_n cx 0 rfl e_X11_laysOrder_49 ?_
                  refine g_get cx cl_X11 fl_X11_119 0 (.ref (ad 37)) e_X11_laysOrder_50 rfl rfl ?_
                  refine g_iload_n cx 3 rfl e_X11_laysOrder_53 ?_
                  refine g_aload_n cx 0 rfl e_X11_laysOrder_54 ?_
                  refine g_get cx cl_X11 fl_X11_119 0 (.ref (ad 37)) e_X11_laysOrder_55 rfl rfl ?_
                  refine g_iload_n cx 3 rfl e_X11_laysOrder_58 ?_
                  refine g_iconst cx 1 (by decide) e_X11_laysOrder_59 ?_
                  refine g_isub cx e_X11_laysOrder_60 ?_
                  refine g_topi (fun x50 ex50 => ?_)
                  have hk51 := k_ls hk49 ex50
                  have zx50 := jv_sub 0 8 ex50 p34 (jv_k (x := 1) 1 (by decide)) (by decide)
                  refine g_iald cx 37 e_X11_laysOrder_61 rfl (jv_ix 10 zx50.2 (by decide)) ?_
                  refine g_topi (fun x52 ex52 => ?_)
                  have hk53 := k_ls hk51 ex52
                  have p54 : jv 0 9 x52 := by rw [ex52]; exact g_okR_g oR25 3 rfl (jv_cl 10 zx50.2 (by decide))
                  refine g_iast cx 37 (wM X ad F (g_u R25 37 (upd (R25 37) (Int32.toNatClampNeg y24) x52))) e_X11_laysOrder_62 rfl (jv_ix 10 p34 (by decide)) rfl ?_
                  obtain ⟨R55, hR55⟩ : ∃ z, z = g_u R25 37 (upd (R25 37) (Int32.toNatClampNeg y24) x52) := ⟨_, rfl⟩
                  rw [← hR55]
                  have hk56 := k_ls hk53 hR55
                  have oR55 : g_okR LA_wM R55 := by rw [hR55]; exact g_okR_p oR25 p54 rfl
                  have fR55 : g_fr mr_X11_laysOrder R R55 := by rw [hR55]; exact g_fr_r fR25 rfl
                  have wTR55 : WT F R55 := by rw [hR55]; exact WT_r wTR25 rfl
                  have wCR55 : WC F R55 := by rw [hR55]; exact WC_r wCR25 rfl
                  refine g_iload_n cx 3 rfl e_X11_laysOrder_63 ?_
                  refine g_iconst cx 1 (by decide) e_X11_laysOrder_64 ?_
                  refine g_isub cx e_X11_laysOrder_65 ?_
                  refine g_topi (fun x57 ex57 => ?_)
                  have hk58 := k_ls hk56 ex57
                  have zx57 := jv_sub 0 8 ex57 p34 (jv_k (x := 1) 1 (by decide)) (by decide)
                  refine g_istore_n cx [(3, .int x57), (0, .ref (ad 0)), (1, .int y1), (2, .int y2)] e_X11_laysOrder_66 (by decide) rfl ?_
                  refine g_goto cx 23 e_X11_laysOrder_67 (by decide) ?_
                  refine g_lsub [1, 2, 3, 0] [(0, .ref (ad 0)), (1, .int y1), (2, .int y2), (3, .int x57)] rfl ?_
                  exact ih23 R55 x57 oR55 fR55 wTR55 wCR55 (jv_w zx57.2 (by decide)) (by have q0 := (jv_k (x := 0) 0 (by decide)).1; have q1 := (jv_k (x := 0) 0 (by decide)).2; have q2 := (jv_k (x := 1) 1 (by decide)).1; have q3 := (jv_k (x := 1) 1 (by decide)).2; have q4 := (jv_k (x := 10) 10 (by decide)).1; have q5 := (jv_k (x := 10) 10 (by decide)).2; have q6 := p22.1; have q7 := p22.2; have q8 := zx36.2.1; have q9 := zx36.2.2; have q10 := zx50.2.1; have q11 := zx50.2.2; have q12 := zx57.2.1; have q13 := zx57.2.2; have q14 := p4.1; have q15 := p4.2; have q16 := p8.1; have q17 := p8.2; have q18 := p34.1; have q19 := p34.2; have q20 := zi4_0; have q21 := (gc_nle zc5); have q22 := (gc_ne zc21); have q23 := zi23_0; have q24 := (gc_nle zc31); have q25 := (g_eq0 zx36.1); have q26 := (g_eq0 zx50.1); have q27 := (g_eq0 zx57.1); omega) (OH_step (k := y24) (v := x52) zq23_0 p34 (by have q0 := (jv_k (x := 0) 0 (by decide)).1; have q1 := (jv_k (x := 0) 0 (by decide)).2; have q2 := (jv_k (x := 1) 1 (by decide)).1; have q3 := (jv_k (x := 1) 1 (by decide)).2; have q4 := (jv_k (x := 10) 10 (by decide)).1; have q5 := (jv_k (x := 10) 10 (by decide)).2; have q6 := p22.1; have q7 := p22.2; have q8 := zx36.2.1; have q9 := zx36.2.2; have q10 := zx50.2.1; have q11 := zx50.2.2; have q12 := zx57.2.1; have q13 := zx57.2.2; have q14 := p4.1; have q15 := p4.2; have q16 := p8.1; have q17 := p8.2; have q18 := p34.1; have q19 := p34.2; have q20 := zi4_0; have q21 := (gc_nle zc5); have q22 := (gc_ne zc21); have q23 := zi23_0; have q24 := (gc_nle zc31); have q25 := (g_eq0 zx36.1); have q26 := (g_eq0 zx50.1); have q27 := (g_eq0 zx57.1); omega) (g_eq0 zx57.1) (x := x50) (g_eq0 zx50.1) ex52 (g_ru1 hR55)) (hk58.trans (by rw [hb23])) (Nat.lt_of_lt_of_le (show (x57.toInt + 2147483648).toNat < (y24.toInt + 2147483648).toNat from by have q0 := (jv_k (x := 0) 0 (by decide)).1; have q1 := (jv_k (x := 0) 0 (by decide)).2; have q2 := (jv_k (x := 1) 1 (by decide)).1; have q3 := (jv_k (x := 1) 1 (by decide)).2; have q4 := (jv_k (x := 10) 10 (by decide)).1; have q5 := (jv_k (x := 10) 10 (by decide)).2; have q6 := p22.1; have q7 := p22.2; have q8 := zx36.2.1; have q9 := zx36.2.2; have q10 := zx50.2.1; have q11 := zx50.2.2; have q12 := zx57.2.1; have q13 := zx57.2.2; have q14 := p4.1; have q15 := p4.2; have q16 := p8.1; have q17 := p8.2; have q18 := p34.1; have q19 := p34.2; have q20 := zi4_0; have q21 := (gc_nle zc5); have q22 := (gc_ne zc21); have q23 := zi23_0; have q24 := (gc_nle zc31); have q25 := (g_eq0 zx36.1); have q26 := (g_eq0 zx50.1); have q27 := (g_eq0 zx57.1); omega) (Nat.le_of_lt_succ hm23))
          refine g_lsub [1, 2, 3, 0] [(0, .ref (ad 0)), (1, .int y1), (2, .int y2), (3, .int y1)] rfl ?_
          exact J23 8589934592 R3 y1 oR3 fR3 wTR3 wCR3 p4 (by have q0 := (jv_k (x := 10) 10 (by decide)).1; have q1 := (jv_k (x := 10) 10 (by decide)).2; have q2 := p4.1; have q3 := p4.2; have q4 := p8.1; have q5 := p8.2; have q6 := zi4_0; have q7 := (gc_nle zc5); omega) (OH_of zq4_0 rfl) hk23 (show (y1.toInt + 2147483648).toNat < 8589934592 from by have q0 := p4.1; have q1 := p4.2; omega)
        · have p59 := gn_eq 0 0 (gc_eq zc21) pr10 (jv_k (x := 0) 0 (by decide)) (by decide)
          have hk60 := hk15.trans (if_pos zc21)
          refine g_goto cx 81 e_X11_laysOrder_18 (by decide) ?_
          exact J81 R3 y1 oR3 fR3 wTR3 wCR3 (jv_w p4 (by decide)) (by have q0 := (jv_k (x := 10) 10 (by decide)).1; have q1 := (jv_k (x := 10) 10 (by decide)).2; have q2 := p4.1; have q3 := p4.2; have q4 := p8.1; have q5 := p8.2; have q6 := zi4_0; have q7 := (gc_nle zc5); omega) (zq4_0) hk60
  refine g_lsub [2, 1, 0] [(0, .ref (ad 0)), (1, .int 0), (2, .int 0)] rfl ?_
  exact J4 8589934592 R 0 0 hA (g_fr_rf R) hWT hWC (jv_w (jv_k (x := 0) 0 (by decide)) (by decide)) (jv_w (jv_k (x := 0) 0 (by decide)) (by decide)) (by have q0 := (jv_k (x := 0) 0 (by decide)).1; have q1 := (jv_k (x := 0) 0 (by decide)).2; omega) (OW_0 _ _) hk0 (show (2147483647 - (0 : Int32).toInt).toNat < 8589934592 from by have q0 := (jv_k (x := 0) 0 (by decide)).1; have q1 := (jv_k (x := 0) 0 (by decide)).2; omega)
def K_X11_paceNow_24  (y1 : Int32) : Int32 :=
  y1
def sp_X11_paceNow (F : Nat → Int32) (R : Nat → Nat → Int32) : Int32 :=
  if (F 44) ≤ (F 45) then K_X11_paceNow_24 0 else k_lt (R 25 (Int32.toNatClampNeg (F 45))) (fun x7 => K_X11_paceNow_24 x7)
theorem e_X11_paceNow_0 : g_dc cX11_paceNow 0 (.aload_n 0) 1 1 := ⟨by decide +kernel, rfl⟩
theorem e_X11_paceNow_1 : g_dc cX11_paceNow 1 (.getfield 325) 3 4 := ⟨by decide +kernel, rfl⟩
theorem e_X11_paceNow_4 : g_dc cX11_paceNow 4 (.aload_n 0) 1 5 := ⟨by decide +kernel, rfl⟩
theorem e_X11_paceNow_5 : g_dc cX11_paceNow 5 (.getfield 309) 3 8 := ⟨by decide +kernel, rfl⟩
theorem e_X11_paceNow_8 : g_dc cX11_paceNow 8 (.if_icmp .ge 15) 3 11 := ⟨by decide +kernel, rfl⟩
theorem e_X11_paceNow_11 : g_dc cX11_paceNow 11 (.aload_n 0) 1 12 := ⟨by decide +kernel, rfl⟩
theorem e_X11_paceNow_12 : g_dc cX11_paceNow 12 (.getfield 83) 3 15 := ⟨by decide +kernel, rfl⟩
theorem e_X11_paceNow_15 : g_dc cX11_paceNow 15 (.aload_n 0) 1 16 := ⟨by decide +kernel, rfl⟩
theorem e_X11_paceNow_16 : g_dc cX11_paceNow 16 (.getfield 325) 3 19 := ⟨by decide +kernel, rfl⟩
theorem e_X11_paceNow_19 : g_dc cX11_paceNow 19 (.iaload) 1 20 := ⟨by decide +kernel, rfl⟩
theorem e_X11_paceNow_20 : g_dc cX11_paceNow 20 (.goto 4) 3 23 := ⟨by decide +kernel, rfl⟩
theorem e_X11_paceNow_23 : g_dc cX11_paceNow 23 (.iconst 0) 1 24 := ⟨by decide +kernel, rfl⟩
theorem e_X11_paceNow_24 : g_dc cX11_paceNow 24 (.ireturn) 1 25 := ⟨by decide +kernel, rfl⟩
set_option maxHeartbeats 4000000 in
set_option maxRecDepth 100000 in
theorem w_X11_paceNow (l : Launch) (X : gX) (ad : Nat → Nat) (F : Nat → Int32) (R : Nat → Nat → Int32) (hI : g_ok LK_wM F) (hA : g_okR LA_wM R) (hWT : WT F R) (hWC : WC F R) : g_Ci l X yX11_paceNow cX11_paceNow 1 (some .int) 1 0 0 [.ref (ad 0)] (wM X ad F R) (fun r w => w = wM X ad F R ∧ jv (-2147483648) 2147483647 r ∧ r = sp_X11_paceNow F R) := by
  refine g_mi (by decide +kernel) (Nat.le_of_ble_eq_true rfl) (fun E cx hret => ?_)
  obtain ⟨SP, hSP⟩ : ∃ z, z = sp_X11_paceNow F R := ⟨_, rfl⟩
  have hk0 := hSP
  unfold sp_X11_paceNow at hk0
  refine g_aload_n cx 0 rfl e_X11_paceNow_0 ?_
  refine g_get cx cl_X11 fl_X11_325 0 (.int (F 45)) e_X11_paceNow_1 rfl rfl ?_
  refine g_aload_n cx 0 rfl e_X11_paceNow_4 ?_
  refine g_get cx cl_X11 fl_X11_309 0 (.int (F 44)) e_X11_paceNow_5 rfl rfl ?_
  have J24 : ∀ (y1 : Int32), (jv (-2147483648) 2147483647 y1) → (SP = K_X11_paceNow_24 y1) → G X E 1 0 0 (wM X ad F R) [] 24 [.int y1] := by
    intro y1 py1 hkJ24
    unfold K_X11_paceNow_24 at hkJ24
    exact hret e_X11_paceNow_24 (Nat.le_of_ble_eq_true rfl) (Nat.le_of_ble_eq_true rfl) rfl ⟨rfl, py1, (hkJ24.symm.trans hSP)⟩
  refine g_icmp_ge cx 23 e_X11_paceNow_8 (by decide) (fun zc2 => ?_) (fun zc2 => ?_)
  · have hk3 := hk0.trans (if_pos zc2)
    refine g_iconst cx 0 (by decide) e_X11_paceNow_23 ?_
    refine g_lsub [] [] rfl ?_
    exact J24 0 (jv_w (jv_k (x := 0) 0 (by decide)) (by decide)) hk3
  · have p4 := gn_lt 0 59 (gc_nle zc2) (g_ok_g hI 12 rfl) (g_ok_g hI 11 rfl) (by decide)
    have p5 := gn_gt 1 60 (gc_nle zc2) (g_ok_g hI 11 rfl) (g_ok_g hI 12 rfl) (by decide)
    have hk6 := hk0.trans (if_neg zc2)
    refine g_aload_n cx 0 rfl e_X11_paceNow_11 ?_
    refine g_get cx cl_X11 fl_X11_83 0 (.ref (ad 25)) e_X11_paceNow_12 rfl rfl ?_
    refine g_aload_n cx 0 rfl e_X11_paceNow_15 ?_
    refine g_get cx cl_X11 fl_X11_325 0 (.int (F 45)) e_X11_paceNow_16 rfl rfl ?_
    refine g_iald cx 25 e_X11_paceNow_19 rfl (jv_ix 60 p4 (by decide)) ?_
    refine g_topi (fun x7 ex7 => ?_)
    have hk8 := k_ls hk6 ex7
    refine g_goto cx 24 e_X11_paceNow_20 (by decide) ?_
    refine g_lsub [] [] rfl ?_
    exact J24 x7 (jv_t x7) hk8
def KB_X11_slipsNow_92 (b92 : (Nat → Nat → Int32) → (Int32) → Int32 × (Nat → Int32) × (Nat → Nat → Int32)) (F : Nat → Int32) (F8 : Nat → Int32) (y7 : Int32) (R10 : Nat → Nat → Int32) (y9 : Int32) : Int32 × (Nat → Int32) × (Nat → Nat → Int32) :=
  if 12 ≤ y9 then k_lt (g_u R10 24 (upd (R10 24) 0 (F 45))) (fun R14 => k_lt (sp_X11_paceNow F8 R14) (fun r16 => k_lt (g_u R14 24 (upd (R14 24) 1 r16)) (fun R21 => k_lt (g_u R21 24 (upd (R21 24) 2 y7)) (fun R23 => k_lt3 (sp_X11_byLaw F8 R23 104 0 40) (fun r25 F29 R30 => (r25, F29, R30)))))) else k_lt (g_u R10 24 (upd (R10 24) (Int32.toNatClampNeg y9) 0)) (fun R34 => k_lt (y9 + 1) (fun x36 => b92 R34 x36))
def K_X11_slipsNow_92 (F : Nat → Int32) (F8 : Nat → Int32) (y7 : Int32) : Nat → (Nat → Nat → Int32) → (Int32) → Int32 × (Nat → Int32) × (Nat → Nat → Int32)
  | 0 => fun R10 _ => (0, F8, R10)
  | n + 1 => KB_X11_slipsNow_92 (K_X11_slipsNow_92 F F8 y7 n) F F8 y7
def K_X11_slipsNow_90 (F : Nat → Int32) (R : Nat → Nat → Int32) (F8 : Nat → Int32) (y7 : Int32) : Int32 × (Nat → Int32) × (Nat → Nat → Int32) :=
  K_X11_slipsNow_92 F F8 y7 8589934592 R 0
def K_X11_slipsNow_33 (F : Nat → Int32) (R : Nat → Nat → Int32)  : Int32 × (Nat → Int32) × (Nat → Nat → Int32) :=
  k_lt ((F 50) - (F 50) / 10 * 10) (fun x5 => if (F 51) = 0 then k_lt ((F 50) / 10) (fun x41 => k_lt (upd F 50 x41) (fun F43 => K_X11_slipsNow_90 F R F43 x5)) else k_lt (25173 * (F 3)) (fun x47 => k_lt (x47 + 13849) (fun x49 => k_lt (x49 - x49 / 65536 * 65536) (fun x51 => k_lt (upd F 3 x51) (fun F53 => k_lt (x51 - x51 / 10 * 10) (fun x55 => K_X11_slipsNow_90 F R F53 x55))))))
def sp_X11_slipsNow (F : Nat → Int32) (R : Nat → Nat → Int32) : Int32 × (Nat → Int32) × (Nat → Nat → Int32) :=
  if (F 45) < (F 44) then if (F 51) = 0 then if (F 45) < (F 49) then K_X11_slipsNow_33 F R else (0, F, R) else K_X11_slipsNow_33 F R else (0, F, R)
theorem e_X11_slipsNow_0 : g_dc cX11_slipsNow 0 (.aload_n 0) 1 1 := ⟨by decide +kernel, rfl⟩
theorem e_X11_slipsNow_1 : g_dc cX11_slipsNow 1 (.getfield 325) 3 4 := ⟨by decide +kernel, rfl⟩
theorem e_X11_slipsNow_4 : g_dc cX11_slipsNow 4 (.aload_n 0) 1 5 := ⟨by decide +kernel, rfl⟩
theorem e_X11_slipsNow_5 : g_dc cX11_slipsNow 5 (.getfield 309) 3 8 := ⟨by decide +kernel, rfl⟩
theorem e_X11_slipsNow_8 : g_dc cX11_slipsNow 8 (.if_icmp .lt 5) 3 11 := ⟨by decide +kernel, rfl⟩
theorem e_X11_slipsNow_11 : g_dc cX11_slipsNow 11 (.iconst 0) 1 12 := ⟨by decide +kernel, rfl⟩
theorem e_X11_slipsNow_12 : g_dc cX11_slipsNow 12 (.ireturn) 1 13 := ⟨by decide +kernel, rfl⟩
theorem e_X11_slipsNow_13 : g_dc cX11_slipsNow 13 (.aload_n 0) 1 14 := ⟨by decide +kernel, rfl⟩
theorem e_X11_slipsNow_14 : g_dc cX11_slipsNow 14 (.getfield 318) 3 17 := ⟨by decide +kernel, rfl⟩
theorem e_X11_slipsNow_17 : g_dc cX11_slipsNow 17 (.ifCond .ne 16) 3 20 := ⟨by decide +kernel, rfl⟩
theorem e_X11_slipsNow_20 : g_dc cX11_slipsNow 20 (.aload_n 0) 1 21 := ⟨by decide +kernel, rfl⟩
theorem e_X11_slipsNow_21 : g_dc cX11_slipsNow 21 (.getfield 325) 3 24 := ⟨by decide +kernel, rfl⟩
theorem e_X11_slipsNow_24 : g_dc cX11_slipsNow 24 (.aload_n 0) 1 25 := ⟨by decide +kernel, rfl⟩
theorem e_X11_slipsNow_25 : g_dc cX11_slipsNow 25 (.getfield 322) 3 28 := ⟨by decide +kernel, rfl⟩
theorem e_X11_slipsNow_28 : g_dc cX11_slipsNow 28 (.if_icmp .lt 5) 3 31 := ⟨by decide +kernel, rfl⟩
theorem e_X11_slipsNow_31 : g_dc cX11_slipsNow 31 (.iconst 0) 1 32 := ⟨by decide +kernel, rfl⟩
theorem e_X11_slipsNow_32 : g_dc cX11_slipsNow 32 (.ireturn) 1 33 := ⟨by decide +kernel, rfl⟩
theorem e_X11_slipsNow_33 : g_dc cX11_slipsNow 33 (.aload_n 0) 1 34 := ⟨by decide +kernel, rfl⟩
theorem e_X11_slipsNow_34 : g_dc cX11_slipsNow 34 (.getfield 346) 3 37 := ⟨by decide +kernel, rfl⟩
theorem e_X11_slipsNow_37 : g_dc cX11_slipsNow 37 (.bipush 10) 2 39 := ⟨by decide +kernel, rfl⟩
theorem e_X11_slipsNow_39 : g_dc cX11_slipsNow 39 (.irem) 1 40 := ⟨by decide +kernel, rfl⟩
theorem e_X11_slipsNow_40 : g_dc cX11_slipsNow 40 (.istore_n 1) 1 41 := ⟨by decide +kernel, rfl⟩
theorem e_X11_slipsNow_41 : g_dc cX11_slipsNow 41 (.aload_n 0) 1 42 := ⟨by decide +kernel, rfl⟩
theorem e_X11_slipsNow_42 : g_dc cX11_slipsNow 42 (.getfield 318) 3 45 := ⟨by decide +kernel, rfl⟩
theorem e_X11_slipsNow_45 : g_dc cX11_slipsNow 45 (.ifCond .eq 34) 3 48 := ⟨by decide +kernel, rfl⟩
theorem e_X11_slipsNow_48 : g_dc cX11_slipsNow 48 (.aload_n 0) 1 49 := ⟨by decide +kernel, rfl⟩
theorem e_X11_slipsNow_49 : g_dc cX11_slipsNow 49 (.sipush 25173) 3 52 := ⟨by decide +kernel, rfl⟩
theorem e_X11_slipsNow_52 : g_dc cX11_slipsNow 52 (.aload_n 0) 1 53 := ⟨by decide +kernel, rfl⟩
theorem e_X11_slipsNow_53 : g_dc cX11_slipsNow 53 (.getfield 162) 3 56 := ⟨by decide +kernel, rfl⟩
theorem e_X11_slipsNow_56 : g_dc cX11_slipsNow 56 (.imul) 1 57 := ⟨by decide +kernel, rfl⟩
theorem e_X11_slipsNow_57 : g_dc cX11_slipsNow 57 (.sipush 13849) 3 60 := ⟨by decide +kernel, rfl⟩
theorem e_X11_slipsNow_60 : g_dc cX11_slipsNow 60 (.iadd) 1 61 := ⟨by decide +kernel, rfl⟩
theorem e_X11_slipsNow_61 : g_dc cX11_slipsNow 61 (.ldc_w 349) 3 64 := ⟨by decide +kernel, rfl⟩
theorem e_X11_slipsNow_64 : g_dc cX11_slipsNow 64 (.irem) 1 65 := ⟨by decide +kernel, rfl⟩
theorem e_X11_slipsNow_65 : g_dc cX11_slipsNow 65 (.putfield 162) 3 68 := ⟨by decide +kernel, rfl⟩
theorem e_X11_slipsNow_68 : g_dc cX11_slipsNow 68 (.aload_n 0) 1 69 := ⟨by decide +kernel, rfl⟩
theorem e_X11_slipsNow_69 : g_dc cX11_slipsNow 69 (.getfield 162) 3 72 := ⟨by decide +kernel, rfl⟩
theorem e_X11_slipsNow_72 : g_dc cX11_slipsNow 72 (.bipush 10) 2 74 := ⟨by decide +kernel, rfl⟩
theorem e_X11_slipsNow_74 : g_dc cX11_slipsNow 74 (.irem) 1 75 := ⟨by decide +kernel, rfl⟩
theorem e_X11_slipsNow_75 : g_dc cX11_slipsNow 75 (.istore_n 1) 1 76 := ⟨by decide +kernel, rfl⟩
theorem e_X11_slipsNow_76 : g_dc cX11_slipsNow 76 (.goto 14) 3 79 := ⟨by decide +kernel, rfl⟩
theorem e_X11_slipsNow_79 : g_dc cX11_slipsNow 79 (.aload_n 0) 1 80 := ⟨by decide +kernel, rfl⟩
theorem e_X11_slipsNow_80 : g_dc cX11_slipsNow 80 (.aload_n 0) 1 81 := ⟨by decide +kernel, rfl⟩
theorem e_X11_slipsNow_81 : g_dc cX11_slipsNow 81 (.getfield 346) 3 84 := ⟨by decide +kernel, rfl⟩
theorem e_X11_slipsNow_84 : g_dc cX11_slipsNow 84 (.bipush 10) 2 86 := ⟨by decide +kernel, rfl⟩
theorem e_X11_slipsNow_86 : g_dc cX11_slipsNow 86 (.idiv) 1 87 := ⟨by decide +kernel, rfl⟩
theorem e_X11_slipsNow_87 : g_dc cX11_slipsNow 87 (.putfield 346) 3 90 := ⟨by decide +kernel, rfl⟩
theorem e_X11_slipsNow_90 : g_dc cX11_slipsNow 90 (.iconst 0) 1 91 := ⟨by decide +kernel, rfl⟩
theorem e_X11_slipsNow_91 : g_dc cX11_slipsNow 91 (.istore_n 2) 1 92 := ⟨by decide +kernel, rfl⟩
theorem e_X11_slipsNow_92 : g_dc cX11_slipsNow 92 (.iload_n 2) 1 93 := ⟨by decide +kernel, rfl⟩
theorem e_X11_slipsNow_93 : g_dc cX11_slipsNow 93 (.bipush 12) 2 95 := ⟨by decide +kernel, rfl⟩
theorem e_X11_slipsNow_95 : g_dc cX11_slipsNow 95 (.if_icmp .ge 16) 3 98 := ⟨by decide +kernel, rfl⟩
theorem e_X11_slipsNow_98 : g_dc cX11_slipsNow 98 (.aload_n 0) 1 99 := ⟨by decide +kernel, rfl⟩
theorem e_X11_slipsNow_99 : g_dc cX11_slipsNow 99 (.getfield 80) 3 102 := ⟨by decide +kernel, rfl⟩
theorem e_X11_slipsNow_102 : g_dc cX11_slipsNow 102 (.iload_n 2) 1 103 := ⟨by decide +kernel, rfl⟩
theorem e_X11_slipsNow_103 : g_dc cX11_slipsNow 103 (.iconst 0) 1 104 := ⟨by decide +kernel, rfl⟩
theorem e_X11_slipsNow_104 : g_dc cX11_slipsNow 104 (.iastore) 1 105 := ⟨by decide +kernel, rfl⟩
theorem e_X11_slipsNow_105 : g_dc cX11_slipsNow 105 (.iinc 2 1) 3 108 := ⟨by decide +kernel, rfl⟩
theorem e_X11_slipsNow_108 : g_dc cX11_slipsNow 108 (.goto (-16)) 3 111 := ⟨by decide +kernel, rfl⟩
theorem e_X11_slipsNow_111 : g_dc cX11_slipsNow 111 (.aload_n 0) 1 112 := ⟨by decide +kernel, rfl⟩
theorem e_X11_slipsNow_112 : g_dc cX11_slipsNow 112 (.getfield 80) 3 115 := ⟨by decide +kernel, rfl⟩
theorem e_X11_slipsNow_115 : g_dc cX11_slipsNow 115 (.iconst 0) 1 116 := ⟨by decide +kernel, rfl⟩
theorem e_X11_slipsNow_116 : g_dc cX11_slipsNow 116 (.aload_n 0) 1 117 := ⟨by decide +kernel, rfl⟩
theorem e_X11_slipsNow_117 : g_dc cX11_slipsNow 117 (.getfield 325) 3 120 := ⟨by decide +kernel, rfl⟩
theorem e_X11_slipsNow_120 : g_dc cX11_slipsNow 120 (.iastore) 1 121 := ⟨by decide +kernel, rfl⟩
theorem e_X11_slipsNow_121 : g_dc cX11_slipsNow 121 (.aload_n 0) 1 122 := ⟨by decide +kernel, rfl⟩
theorem e_X11_slipsNow_122 : g_dc cX11_slipsNow 122 (.getfield 80) 3 125 := ⟨by decide +kernel, rfl⟩
theorem e_X11_slipsNow_125 : g_dc cX11_slipsNow 125 (.iconst 1) 1 126 := ⟨by decide +kernel, rfl⟩
theorem e_X11_slipsNow_126 : g_dc cX11_slipsNow 126 (.aload_n 0) 1 127 := ⟨by decide +kernel, rfl⟩
theorem e_X11_slipsNow_127 : g_dc cX11_slipsNow 127 (.invokevirtual 350) 3 130 := ⟨by decide +kernel, rfl⟩
theorem e_X11_slipsNow_130 : g_dc cX11_slipsNow 130 (.iastore) 1 131 := ⟨by decide +kernel, rfl⟩
theorem e_X11_slipsNow_131 : g_dc cX11_slipsNow 131 (.aload_n 0) 1 132 := ⟨by decide +kernel, rfl⟩
theorem e_X11_slipsNow_132 : g_dc cX11_slipsNow 132 (.getfield 80) 3 135 := ⟨by decide +kernel, rfl⟩
theorem e_X11_slipsNow_135 : g_dc cX11_slipsNow 135 (.iconst 2) 1 136 := ⟨by decide +kernel, rfl⟩
theorem e_X11_slipsNow_136 : g_dc cX11_slipsNow 136 (.iload_n 1) 1 137 := ⟨by decide +kernel, rfl⟩
theorem e_X11_slipsNow_137 : g_dc cX11_slipsNow 137 (.iastore) 1 138 := ⟨by decide +kernel, rfl⟩
theorem e_X11_slipsNow_138 : g_dc cX11_slipsNow 138 (.aload_n 0) 1 139 := ⟨by decide +kernel, rfl⟩
theorem e_X11_slipsNow_139 : g_dc cX11_slipsNow 139 (.bipush 104) 2 141 := ⟨by decide +kernel, rfl⟩
theorem e_X11_slipsNow_141 : g_dc cX11_slipsNow 141 (.iconst 0) 1 142 := ⟨by decide +kernel, rfl⟩
theorem e_X11_slipsNow_142 : g_dc cX11_slipsNow 142 (.bipush 40) 2 144 := ⟨by decide +kernel, rfl⟩
theorem e_X11_slipsNow_144 : g_dc cX11_slipsNow 144 (.invokevirtual 353) 3 147 := ⟨by decide +kernel, rfl⟩
theorem e_X11_slipsNow_147 : g_dc cX11_slipsNow 147 (.ireturn) 1 148 := ⟨by decide +kernel, rfl⟩
def md_X11_slipsNow : List Nat := [3, 50]
def mr_X11_slipsNow : List Nat := [23, 24]
set_option maxHeartbeats 4000000 in
set_option maxRecDepth 100000 in
theorem w_X11_slipsNow (l : Launch) (X : gX) (ad : Nat → Nat) (F : Nat → Int32) (R : Nat → Nat → Int32) (hI : g_ok LK_wM F) (hA : g_okR LA_wM R) (hWT : WT F R) (hWC : WC F R) : g_Ci l X yX11_slipsNow cX11_slipsNow 3 (some .int) 4 0 0 [.ref (ad 0)] (wM X ad F R) (fun r w => ∃ (F' : Nat → Int32) (R' : Nat → Nat → Int32), w = wM X ad F' R' ∧ g_ok LK_wM F' ∧ g_okR LA_wM R' ∧ WT F' R' ∧ WC F' R' ∧ g_fr md_X11_slipsNow F F' ∧ g_fr mr_X11_slipsNow R R' ∧ jv (-2147483648) 2147483647 r ∧ (r, F', R') = sp_X11_slipsNow F R) := by
  refine g_mi (by decide +kernel) (Nat.le_of_ble_eq_true rfl) (fun E cx hret => ?_)
  obtain ⟨SP, hSP⟩ : ∃ z, z = sp_X11_slipsNow F R := ⟨_, rfl⟩
  have hk0 := hSP
  unfold sp_X11_slipsNow at hk0
  refine g_aload_n cx 0 rfl e_X11_slipsNow_0 ?_
  refine g_get cx cl_X11 fl_X11_325 0 (.int (F 45)) e_X11_slipsNow_1 rfl rfl ?_
  refine g_aload_n cx 0 rfl e_X11_slipsNow_4 ?_
  refine g_get cx cl_X11 fl_X11_309 0 (.int (F 44)) e_X11_slipsNow_5 rfl rfl ?_
  refine g_icmp_lt cx 13 e_X11_slipsNow_8 (by decide) (fun zc1 => ?_) (fun zc1 => ?_)
  · have p2 := gn_lt 0 59 (gc_lt zc1) (g_ok_g hI 12 rfl) (g_ok_g hI 11 rfl) (by decide)
    have p3 := gn_gt 1 60 (gc_lt zc1) (g_ok_g hI 11 rfl) (g_ok_g hI 12 rfl) (by decide)
    have hk4 := hk0.trans (if_pos zc1)
    refine g_aload_n cx 0 rfl e_X11_slipsNow_13 ?_
    refine g_get cx cl_X11 fl_X11_318 0 (.int (F 51)) e_X11_slipsNow_14 rfl rfl ?_
    have J33 : (SP = K_X11_slipsNow_33 F R) → G X E 3 0 0 (wM X ad F R) [(0, .ref (ad 0))] 33 [] := by
      intro   hkJ33
      unfold K_X11_slipsNow_33 at hkJ33
      refine g_aload_n cx 0 rfl e_X11_slipsNow_33 ?_
      refine g_get cx cl_X11 fl_X11_346 0 (.int (F 50)) e_X11_slipsNow_34 rfl rfl ?_
      refine g_bipush cx 10 (by decide) e_X11_slipsNow_37 ?_
      refine g_irem cx (by decide) e_X11_slipsNow_39 ?_
      refine g_topi (fun x5 ex5 => ?_)
      have hk6 := k_ls hkJ33 ex5
      refine g_istore_n cx [(1, .int x5), (0, .ref (ad 0))] e_X11_slipsNow_40 (by decide) rfl ?_
      refine g_aload_n cx 1 rfl e_X11_slipsNow_41 ?_
      refine g_get cx cl_X11 fl_X11_318 0 (.int (F 51)) e_X11_slipsNow_42 rfl rfl ?_
      have J90 : ∀ (F8 : Nat → Int32) (y7 : Int32), (g_ok LK_wM F8) → (g_fr md_X11_slipsNow F F8) → (WT F8 R) → (WC F8 R) → (jv (-2147483648) 2147483647 y7) → (SP = K_X11_slipsNow_90 F R F8 y7) → G X E 3 0 0 (wM X ad F8 R) [(0, .ref (ad 0)), (1, .int y7)] 90 [] := by
        intro F8 y7 oF8 fF8 wTF8 wCF8 py7 hkJ90
        unfold K_X11_slipsNow_90 at hkJ90
        refine g_iconst cx 0 (by decide) e_X11_slipsNow_90 ?_
        refine g_istore_n cx [(2, .int 0), (0, .ref (ad 0)), (1, .int y7)] e_X11_slipsNow_91 (by decide) rfl ?_
        have J92 : ∀ (N : Nat) (R10 : Nat → Nat → Int32) (y9 : Int32), (g_okR LA_wM R10) → (g_fr mr_X11_slipsNow R R10) → (WT F8 R10) → (WC F8 R10) → (jv 0 12 y9) → (SP = K_X11_slipsNow_92 F F8 y7 N R10 y9) → (2147483647 - y9.toInt).toNat < N → G X E 3 0 0 (wM X ad F8 R10) [(0, .ref (ad 0)), (1, .int y7), (2, .int y9)] 92 [] := by
          intro N
          induction N with
          | zero => intro R10 y9 oR10 fR10 wTR10 wCR10 py9 hkJ92 hm; exact absurd hm (Nat.not_lt_zero _)
          | succ N ih92 =>
            intro R10 y9 oR10 fR10 wTR10 wCR10 py9 hkJ92 hm92
            have hkK92 : SP = KB_X11_slipsNow_92 (K_X11_slipsNow_92 F F8 y7 N) F F8 y7 R10 y9 := hkJ92
            obtain ⟨b92, hb92⟩ : ∃ z, z = K_X11_slipsNow_92 F F8 y7 N := ⟨_, rfl⟩
            rw [← hb92] at hkK92
            unfold KB_X11_slipsNow_92 at hkK92
            refine g_iload_n cx 2 rfl e_X11_slipsNow_92 ?_
            refine g_bipush cx 12 (by decide) e_X11_slipsNow_93 ?_
            refine g_icmp_ge cx 111 e_X11_slipsNow_95 (by decide) (fun zc11 => ?_) (fun zc11 => ?_)
            · have p12 := gn_ge 12 12 (gc_le zc11) py9 (jv_k (x := 12) 12 (by decide)) (by decide)
              have hk13 := hkK92.trans (if_pos zc11)
              refine g_aload_n cx 0 rfl e_X11_slipsNow_111 ?_
              refine g_get cx cl_X11 fl_X11_80 0 (.ref (ad 24)) e_X11_slipsNow_112 rfl rfl ?_
              refine g_iconst cx 0 (by decide) e_X11_slipsNow_115 ?_
              refine g_aload_n cx 0 rfl e_X11_slipsNow_116 ?_
              refine g_get cx cl_X11 fl_X11_325 0 (.int (F8 45)) e_X11_slipsNow_117 rfl rfl ?_
              refine g_toi (F 45) (fF8 45 rfl) ?_
              refine g_iast cx 24 (wM X ad F8 (g_u R10 24 (upd (R10 24) 0 (F 45)))) e_X11_slipsNow_120 rfl (jv_ix 12 (jv_k (x := 0) 0 (by decide)) (by decide)) rfl ?_
              obtain ⟨R14, hR14⟩ : ∃ z, z = g_u R10 24 (upd (R10 24) 0 (F 45)) := ⟨_, rfl⟩
              rw [← hR14]
              have hk15 := k_ls hk13 hR14
              have oR14 : g_okR LA_wM R14 := by rw [hR14]; exact g_okR_u oR10 rfl
              have fR14 : g_fr mr_X11_slipsNow R R14 := by rw [hR14]; exact g_fr_r fR10 rfl
              have wTR14 : WT F8 R14 := by rw [hR14]; exact WT_r wTR10 rfl
              have wCR14 : WC F8 R14 := by rw [hR14]; exact WC_r wCR10 rfl
              refine g_aload_n cx 0 rfl e_X11_slipsNow_121 ?_
              refine g_get cx cl_X11 fl_X11_80 0 (.ref (ad 24)) e_X11_slipsNow_122 rfl rfl ?_
              refine g_iconst cx 1 (by decide) e_X11_slipsNow_125 ?_
              refine g_aload_n cx 0 rfl e_X11_slipsNow_126 ?_
              refine g_cViW cx [] [.int 1, .ref (ad 24)] (w_X11_paceNow l X ad F8 R14 oF8 oR14 wTR14 wCR14) ml_X11_350 yV_X11_paceNow e_X11_slipsNow_127 (by unfold g_rr; decide) (by decide) 0 rfl rfl rfl (Nat.le_of_ble_eq_true rfl) (fun r16 w17 h18 => ?_)
              obtain ⟨rfl, pr16, hx19⟩ := h18
              have hk20 := k_ls hk15 hx19
              refine g_iast cx 24 (wM X ad F8 (g_u R14 24 (upd (R14 24) 1 r16))) e_X11_slipsNow_130 rfl (jv_ix 12 (jv_k (x := 1) 1 (by decide)) (by decide)) rfl ?_
              obtain ⟨R21, hR21⟩ : ∃ z, z = g_u R14 24 (upd (R14 24) 1 r16) := ⟨_, rfl⟩
              rw [← hR21]
              have hk22 := k_ls hk20 hR21
              have oR21 : g_okR LA_wM R21 := by rw [hR21]; exact g_okR_u oR14 rfl
              have fR21 : g_fr mr_X11_slipsNow R R21 := by rw [hR21]; exact g_fr_r fR14 rfl
              have wTR21 : WT F8 R21 := by rw [hR21]; exact WT_r wTR14 rfl
              have wCR21 : WC F8 R21 := by rw [hR21]; exact WC_r wCR14 rfl
              refine g_aload_n cx 0 rfl e_X11_slipsNow_131 ?_
              refine g_get cx cl_X11 fl_X11_80 0 (.ref (ad 24)) e_X11_slipsNow_132 rfl rfl ?_
              refine g_iconst cx 2 (by decide) e_X11_slipsNow_135 ?_
              refine g_iload_n cx 1 rfl e_X11_slipsNow_136 ?_
              refine g_iast cx 24 (wM X ad F8 (g_u R21 24 (upd (R21 24) 2 y7))) e_X11_slipsNow_137 rfl (jv_ix 12 (jv_k (x := 2) 2 (by decide)) (by decide)) rfl ?_
              obtain ⟨R23, hR23⟩ : ∃ z, z = g_u R21 24 (upd (R21 24) 2 y7) := ⟨_, rfl⟩
              rw [← hR23]
              have hk24 := k_ls hk22 hR23
              have oR23 : g_okR LA_wM R23 := by rw [hR23]; exact g_okR_u oR21 rfl
              have fR23 : g_fr mr_X11_slipsNow R R23 := by rw [hR23]; exact g_fr_r fR21 rfl
              have wTR23 : WT F8 R23 := by rw [hR23]; exact WT_r wTR21 rfl
              have wCR23 : WC F8 R23 := by rw [hR23]; exact WC_r wCR21 rfl
              refine g_aload_n cx 0 rfl e_X11_slipsNow_138 ?_
              refine g_bipush cx 104 (by decide) e_X11_slipsNow_139 ?_
              refine g_iconst cx 0 (by decide) e_X11_slipsNow_141 ?_
              refine g_bipush cx 40 (by decide) e_X11_slipsNow_142 ?_
              refine g_cViW cx [.int 104, .int 0, .int 40] [] (w_X11_byLaw l X ad F8 R23 oF8 oR23 wTR23 wCR23 104 0 40) ml_X11_353 yV_X11_byLaw e_X11_slipsNow_144 (by unfold g_rr; decide) (by decide) 0 rfl rfl rfl (Nat.le_of_ble_eq_true rfl) (fun r25 w26 h27 => ?_)
              obtain ⟨F29, R30, rfl, oF29, oR30, wTF29, wCF29, cF29, cR30, pr25, hx28⟩ := h27
              have hk31 := k_ls3 hk24 hx28
              have fF29 : g_fr md_X11_slipsNow F F29 := g_fr_c fF8 cF29 rfl
              have fR30 : g_fr mr_X11_slipsNow R R30 := g_fr_c fR23 cR30 rfl
              exact hret e_X11_slipsNow_147 (Nat.le_of_ble_eq_true rfl) (Nat.le_of_ble_eq_true rfl) rfl ⟨F29, R30, rfl, oF29, oR30, wTF29, wCF29, fF29, fR30, pr25, (hk31.symm.trans hSP)⟩
            · have p32 := gn_lt 0 11 (gc_nle zc11) py9 (jv_k (x := 12) 12 (by decide)) (by decide)
              have hk33 := hkK92.trans (if_neg zc11)
              refine g_aload_n cx 0 rfl e_X11_slipsNow_98 ?_
              refine g_get cx cl_X11 fl_X11_80 0 (.ref (ad 24)) e_X11_slipsNow_99 rfl rfl ?_
              refine g_iload_n cx 2 rfl e_X11_slipsNow_102 ?_
              refine g_iconst cx 0 (by decide) e_X11_slipsNow_103 ?_
              refine g_iast cx 24 (wM X ad F8 (g_u R10 24 (upd (R10 24) (Int32.toNatClampNeg y9) 0))) e_X11_slipsNow_104 rfl (jv_ix 12 p32 (by decide)) rfl ?_
              obtain ⟨R34, hR34⟩ : ∃ z, z = g_u R10 24 (upd (R10 24) (Int32.toNatClampNeg y9) 0) := ⟨_, rfl⟩
              rw [← hR34]
              have hk35 := k_ls hk33 hR34
              have oR34 : g_okR LA_wM R34 := by rw [hR34]; exact g_okR_u oR10 rfl
              have fR34 : g_fr mr_X11_slipsNow R R34 := by rw [hR34]; exact g_fr_r fR10 rfl
              have wTR34 : WT F8 R34 := by rw [hR34]; exact WT_r wTR10 rfl
              have wCR34 : WC F8 R34 := by rw [hR34]; exact WC_r wCR10 rfl
              obtain ⟨x36, ex36⟩ : ∃ z : Int32, z = y9 + Int32.ofInt 1 := ⟨_, rfl⟩
              have hk37 := k_ls hk35 (show x36 = y9 + 1 from ex36)
              refine g_iinc cx x36 [(2, .int x36), (0, .ref (ad 0)), (1, .int y7)] 2 e_X11_slipsNow_105 rfl ex36.symm (by decide) rfl ?_
              have zx36 := jv_add 1 12 (show x36 = y9 + 1 from ex36) p32 (jv_k (x := 1) 1 (by decide)) (by decide)
              refine g_goto cx 92 e_X11_slipsNow_108 (by decide) ?_
              refine g_lsub [1, 2, 0] [(0, .ref (ad 0)), (1, .int y7), (2, .int x36)] rfl ?_
              exact ih92 R34 x36 oR34 fR34 wTR34 wCR34 (jv_w zx36.2 (by decide)) (hk37.trans (by rw [hb92])) (Nat.lt_of_lt_of_le (show (2147483647 - x36.toInt).toNat < (2147483647 - y9.toInt).toNat from by have q0 := (jv_k (x := 1) 1 (by decide)).1; have q1 := (jv_k (x := 1) 1 (by decide)).2; have q2 := (jv_k (x := 12) 12 (by decide)).1; have q3 := (jv_k (x := 12) 12 (by decide)).2; have q4 := zx36.2.1; have q5 := zx36.2.2; have q6 := p32.1; have q7 := p32.2; have q8 := (gc_nle zc11); have q9 := (g_eq0 zx36.1); omega) (Nat.le_of_lt_succ hm92))
        refine g_lsub [1, 2, 0] [(0, .ref (ad 0)), (1, .int y7), (2, .int 0)] rfl ?_
        exact J92 8589934592 R 0 hA (g_fr_rf R) wTF8 wCF8 (jv_w (jv_k (x := 0) 0 (by decide)) (by decide)) hkJ90 (show (2147483647 - (0 : Int32).toInt).toNat < 8589934592 from by have q0 := (jv_k (x := 0) 0 (by decide)).1; have q1 := (jv_k (x := 0) 0 (by decide)).2; omega)
      refine g_if_eq cx 79 e_X11_slipsNow_45 (by decide) (fun zc38 => ?_) (fun zc38 => ?_)
      · have p39 := gn_eq 0 0 (gc_eq zc38) (g_ok_g hI 13 rfl) (jv_k (x := 0) 0 (by decide)) (by decide)
        have hk40 := hk6.trans (if_pos zc38)
        refine g_aload_n cx 1 rfl e_X11_slipsNow_79 ?_
        refine g_aload_n cx 1 rfl e_X11_slipsNow_80 ?_
        refine g_get cx cl_X11 fl_X11_346 0 (.int (F 50)) e_X11_slipsNow_81 rfl rfl ?_
        refine g_bipush cx 10 (by decide) e_X11_slipsNow_84 ?_
        refine g_idiv cx (by decide) e_X11_slipsNow_86 ?_
        refine g_topi (fun x41 ex41 => ?_)
        have hk42 := k_ls hk40 ex41
        refine g_put cx cl_X11 fl_X11_346 0 (wM X ad (upd F 50 x41) R) e_X11_slipsNow_87 rfl rfl rfl rfl (Nat.le_of_ble_eq_true rfl) rfl ?_
        obtain ⟨F43, hF43⟩ : ∃ z, z = upd F 50 x41 := ⟨_, rfl⟩
        rw [← hF43]
        have hk44 := k_ls hk42 hF43
        have oF43 : g_ok LK_wM F43 := by rw [hF43]; exact g_ok_u hI rfl
        have fF43 : g_fr md_X11_slipsNow F F43 := by rw [hF43]; exact g_fr_u (g_fr_rf F) rfl
        have wTF43 : WT F43 R := by rw [hF43]; exact WT_u hWT rfl
        have wCF43 : WC F43 R := by rw [hF43]; exact WC_u hWC rfl
        refine g_lsub [1, 0] [(0, .ref (ad 0)), (1, .int x5)] rfl ?_
        exact J90 F43 x5 oF43 fF43 wTF43 wCF43 (jv_t x5) hk44
      · have p45 := gn_neL 1 1 (gc_ne zc38) (g_ok_g hI 13 rfl) (jv_k (x := 0) 0 (by decide)) (by decide)
        have hk46 := hk6.trans (if_neg zc38)
        refine g_aload_n cx 1 rfl e_X11_slipsNow_48 ?_
        refine g_sipush cx 25173 (by decide) e_X11_slipsNow_49 ?_
        refine g_aload_n cx 1 rfl e_X11_slipsNow_52 ?_
        refine g_get cx cl_X11 fl_X11_162 0 (.int (F 3)) e_X11_slipsNow_53 rfl rfl ?_
        refine g_imul cx e_X11_slipsNow_56 ?_
        refine g_topi (fun x47 ex47 => ?_)
        have hk48 := k_ls hk46 ex47
        refine g_sipush cx 13849 (by decide) e_X11_slipsNow_57 ?_
        refine g_iadd cx e_X11_slipsNow_60 ?_
        refine g_topi (fun x49 ex49 => ?_)
        have hk50 := k_ls hk48 ex49
        refine g_ldcw cx 65536 kc_X11_349 e_X11_slipsNow_61 ?_
        refine g_irem cx (by decide) e_X11_slipsNow_64 ?_
        refine g_topi (fun x51 ex51 => ?_)
        have hk52 := k_ls hk50 ex51
        refine g_put cx cl_X11 fl_X11_162 0 (wM X ad (upd F 3 x51) R) e_X11_slipsNow_65 rfl rfl rfl rfl (Nat.le_of_ble_eq_true rfl) rfl ?_
        obtain ⟨F53, hF53⟩ : ∃ z, z = upd F 3 x51 := ⟨_, rfl⟩
        rw [← hF53]
        have hk54 := k_ls hk52 hF53
        have oF53 : g_ok LK_wM F53 := by rw [hF53]; exact g_ok_u hI rfl
        have fF53 : g_fr md_X11_slipsNow F F53 := by rw [hF53]; exact g_fr_u (g_fr_rf F) rfl
        have wTF53 : WT F53 R := by rw [hF53]; exact WT_u hWT rfl
        have wCF53 : WC F53 R := by rw [hF53]; exact WC_u hWC rfl
        refine g_aload_n cx 1 rfl e_X11_slipsNow_68 ?_
        refine g_get cx cl_X11 fl_X11_162 0 (.int (F53 3)) e_X11_slipsNow_69 rfl rfl ?_
        refine g_toi x51 (g_pu1 hF53) ?_
        refine g_bipush cx 10 (by decide) e_X11_slipsNow_72 ?_
        refine g_irem cx (by decide) e_X11_slipsNow_74 ?_
        refine g_topi (fun x55 ex55 => ?_)
        have hk56 := k_ls hk54 ex55
        refine g_istore_n cx [(1, .int x55), (0, .ref (ad 0))] e_X11_slipsNow_75 (by decide) rfl ?_
        refine g_goto cx 90 e_X11_slipsNow_76 (by decide) ?_
        refine g_lsub [1, 0] [(0, .ref (ad 0)), (1, .int x55)] rfl ?_
        exact J90 F53 x55 oF53 fF53 wTF53 wCF53 (jv_t x55) hk56
    refine g_if_ne cx 33 e_X11_slipsNow_17 (by decide) (fun zc57 => ?_) (fun zc57 => ?_)
    · have p58 := gn_neL 1 1 (gc_ne zc57) (g_ok_g hI 13 rfl) (jv_k (x := 0) 0 (by decide)) (by decide)
      have hk59 := hk4.trans (if_neg zc57)
      exact J33  hk59
    · have p60 := gn_eq 0 0 (gc_eq zc57) (g_ok_g hI 13 rfl) (jv_k (x := 0) 0 (by decide)) (by decide)
      have hk61 := hk4.trans (if_pos zc57)
      refine g_aload_n cx 0 rfl e_X11_slipsNow_20 ?_
      refine g_get cx cl_X11 fl_X11_325 0 (.int (F 45)) e_X11_slipsNow_21 rfl rfl ?_
      refine g_aload_n cx 0 rfl e_X11_slipsNow_24 ?_
      refine g_get cx cl_X11 fl_X11_322 0 (.int (F 49)) e_X11_slipsNow_25 rfl rfl ?_
      refine g_icmp_lt cx 33 e_X11_slipsNow_28 (by decide) (fun zc62 => ?_) (fun zc62 => ?_)
      · have p63 := gn_gt 1 2147483647 (gc_lt zc62) (jv_t (F 49)) p2 (by decide)
        have hk64 := hk61.trans (if_pos zc62)
        exact J33  hk64
      · have p65 := gn_le (-2147483648) 59 (gc_nlt zc62) (jv_t (F 49)) p2 (by decide)
        have hk66 := hk61.trans (if_neg zc62)
        refine g_iconst cx 0 (by decide) e_X11_slipsNow_31 ?_
        exact hret e_X11_slipsNow_32 (Nat.le_of_ble_eq_true rfl) (Nat.le_of_ble_eq_true rfl) rfl ⟨F, R, rfl, hI, hA, hWT, hWC, (g_fr_rf F), (g_fr_rf R), (jv_w (jv_k (x := 0) 0 (by decide)) (by decide)), (hk66.symm.trans hSP)⟩
  · have hk67 := hk0.trans (if_neg zc1)
    refine g_iconst cx 0 (by decide) e_X11_slipsNow_11 ?_
    exact hret e_X11_slipsNow_12 (Nat.le_of_ble_eq_true rfl) (Nat.le_of_ble_eq_true rfl) rfl ⟨F, R, rfl, hI, hA, hWT, hWC, (g_fr_rf F), (g_fr_rf R), (jv_w (jv_k (x := 0) 0 (by decide)) (by decide)), (hk67.symm.trans hSP)⟩
def K_X11_max_10  (y1 : Int32) : Int32 :=
  y1
def sp_X11_max (F : Nat → Int32) (R : Nat → Nat → Int32) (a0 : Int32) (a1 : Int32) : Int32 :=
  if a0 ≤ a1 then K_X11_max_10 a1 else K_X11_max_10 a0
theorem e_X11_max_0 : g_dc cX11_max 0 (.iload_n 0) 1 1 := ⟨by decide +kernel, rfl⟩
theorem e_X11_max_1 : g_dc cX11_max 1 (.iload_n 1) 1 2 := ⟨by decide +kernel, rfl⟩
theorem e_X11_max_2 : g_dc cX11_max 2 (.if_icmp .le 7) 3 5 := ⟨by decide +kernel, rfl⟩
theorem e_X11_max_5 : g_dc cX11_max 5 (.iload_n 0) 1 6 := ⟨by decide +kernel, rfl⟩
theorem e_X11_max_6 : g_dc cX11_max 6 (.goto 4) 3 9 := ⟨by decide +kernel, rfl⟩
theorem e_X11_max_9 : g_dc cX11_max 9 (.iload_n 1) 1 10 := ⟨by decide +kernel, rfl⟩
theorem e_X11_max_10 : g_dc cX11_max 10 (.ireturn) 1 11 := ⟨by decide +kernel, rfl⟩
set_option maxHeartbeats 4000000 in
set_option maxRecDepth 100000 in
theorem w_X11_max (l : Launch) (X : gX) (ad : Nat → Nat) (F : Nat → Int32) (R : Nat → Nat → Int32) (hI : g_ok LK_wM F) (hA : g_okR LA_wM R) (a0 : Int32) (a1 : Int32) : g_Ci l X yX11_max cX11_max 2 (some .int) 1 0 0 [.int a0, .int a1] (wM X ad F R) (fun r w => w = wM X ad F R ∧ jv (-2147483648) 2147483647 r ∧ r = sp_X11_max F R a0 a1) := by
  refine g_mi (by decide +kernel) (Nat.le_of_ble_eq_true rfl) (fun E cx hret => ?_)
  obtain ⟨SP, hSP⟩ : ∃ z, z = sp_X11_max F R a0 a1 := ⟨_, rfl⟩
  have hk0 := hSP
  unfold sp_X11_max at hk0
  refine g_iload_n cx 0 rfl e_X11_max_0 ?_
  refine g_iload_n cx 1 rfl e_X11_max_1 ?_
  have J10 : ∀ (y1 : Int32), (jv (-2147483648) 2147483647 y1) → (SP = K_X11_max_10 y1) → G X E 2 0 0 (wM X ad F R) [] 10 [.int y1] := by
    intro y1 py1 hkJ10
    unfold K_X11_max_10 at hkJ10
    exact hret e_X11_max_10 (Nat.le_of_ble_eq_true rfl) (Nat.le_of_ble_eq_true rfl) rfl ⟨rfl, py1, (hkJ10.symm.trans hSP)⟩
  refine g_icmp_le cx 9 e_X11_max_2 (by decide) (fun zc2 => ?_) (fun zc2 => ?_)
  · have hk3 := hk0.trans (if_pos zc2)
    refine g_iload_n cx 1 rfl e_X11_max_9 ?_
    refine g_lsub [] [] rfl ?_
    exact J10 a1 (jv_t a1) hk3
  · have p4 := gn_lt (-2147483648) 2147483646 (gc_nle zc2) (jv_t a1) (jv_t a0) (by decide)
    have p5 := gn_gt (-2147483647) 2147483647 (gc_nle zc2) (jv_t a0) (jv_t a1) (by decide)
    have hk6 := hk0.trans (if_neg zc2)
    refine g_iload_n cx 0 rfl e_X11_max_5 ?_
    refine g_goto cx 10 e_X11_max_6 (by decide) ?_
    refine g_lsub [] [] rfl ?_
    exact J10 a0 (jv_w p5 (by decide)) hk6
def sp_X11_feels (F : Nat → Int32) (R : Nat → Nat → Int32) (a0 : Int32) : (Nat → Int32) × (Nat → Nat → Int32) :=
  k_lt (g_u R 24 (upd (R 24) 0 (F 45))) (fun R1 => k_lt (sp_X11_paceNow F R1) (fun r3 => k_lt (g_u R1 24 (upd (R1 24) 1 r3)) (fun R8 => k_lt (g_u R8 24 (upd (R8 24) 2 0)) (fun R10 => k_lt (g_u R10 24 (upd (R10 24) 3 a0)) (fun R12 => k_lt (R12 1 (Int32.toNatClampNeg a0)) (fun x14 => k_lt (g_u R12 24 (upd (R12 24) 4 x14)) (fun R16 => k_lt (R16 26 (Int32.toNatClampNeg a0)) (fun x18 => k_lt (g_u R16 24 (upd (R16 24) 5 x18)) (fun R20 => k_lt (R20 3 (Int32.toNatClampNeg a0)) (fun x22 => k_lt (g_u R20 24 (upd (R20 24) 6 x22)) (fun R25 => k_lt (R25 5 (Int32.toNatClampNeg a0)) (fun x27 => k_lt (g_u R25 24 (upd (R25 24) 7 x27)) (fun R30 => k_lt (R30 30 (Int32.toNatClampNeg a0)) (fun x32 => k_lt (g_u R30 24 (upd (R30 24) 8 x32)) (fun R34 => k_lt (R34 29 (Int32.toNatClampNeg a0)) (fun x36 => k_lt (g_u R34 24 (upd (R34 24) 9 x36)) (fun R38 => k_lt (R38 27 (Int32.toNatClampNeg a0)) (fun x40 => k_lt (g_u R38 24 (upd (R38 24) 10 x40)) (fun R42 => k_lt (g_u R42 24 (upd (R42 24) 11 (F 47))) (fun R44 => (F, R44)))))))))))))))))))))
theorem e_X11_feels_0 : g_dc cX11_feels 0 (.aload_n 0) 1 1 := ⟨by decide +kernel, rfl⟩
theorem e_X11_feels_1 : g_dc cX11_feels 1 (.getfield 80) 3 4 := ⟨by decide +kernel, rfl⟩
theorem e_X11_feels_4 : g_dc cX11_feels 4 (.iconst 0) 1 5 := ⟨by decide +kernel, rfl⟩
theorem e_X11_feels_5 : g_dc cX11_feels 5 (.aload_n 0) 1 6 := ⟨by decide +kernel, rfl⟩
theorem e_X11_feels_6 : g_dc cX11_feels 6 (.getfield 325) 3 9 := ⟨by decide +kernel, rfl⟩
theorem e_X11_feels_9 : g_dc cX11_feels 9 (.iastore) 1 10 := ⟨by decide +kernel, rfl⟩
theorem e_X11_feels_10 : g_dc cX11_feels 10 (.aload_n 0) 1 11 := ⟨by decide +kernel, rfl⟩
theorem e_X11_feels_11 : g_dc cX11_feels 11 (.getfield 80) 3 14 := ⟨by decide +kernel, rfl⟩
theorem e_X11_feels_14 : g_dc cX11_feels 14 (.iconst 1) 1 15 := ⟨by decide +kernel, rfl⟩
theorem e_X11_feels_15 : g_dc cX11_feels 15 (.aload_n 0) 1 16 := ⟨by decide +kernel, rfl⟩
theorem e_X11_feels_16 : g_dc cX11_feels 16 (.invokevirtual 350) 3 19 := ⟨by decide +kernel, rfl⟩
theorem e_X11_feels_19 : g_dc cX11_feels 19 (.iastore) 1 20 := ⟨by decide +kernel, rfl⟩
theorem e_X11_feels_20 : g_dc cX11_feels 20 (.aload_n 0) 1 21 := ⟨by decide +kernel, rfl⟩
theorem e_X11_feels_21 : g_dc cX11_feels 21 (.getfield 80) 3 24 := ⟨by decide +kernel, rfl⟩
theorem e_X11_feels_24 : g_dc cX11_feels 24 (.iconst 2) 1 25 := ⟨by decide +kernel, rfl⟩
theorem e_X11_feels_25 : g_dc cX11_feels 25 (.iconst 0) 1 26 := ⟨by decide +kernel, rfl⟩
theorem e_X11_feels_26 : g_dc cX11_feels 26 (.iastore) 1 27 := ⟨by decide +kernel, rfl⟩
theorem e_X11_feels_27 : g_dc cX11_feels 27 (.aload_n 0) 1 28 := ⟨by decide +kernel, rfl⟩
theorem e_X11_feels_28 : g_dc cX11_feels 28 (.getfield 80) 3 31 := ⟨by decide +kernel, rfl⟩
theorem e_X11_feels_31 : g_dc cX11_feels 31 (.iconst 3) 1 32 := ⟨by decide +kernel, rfl⟩
theorem e_X11_feels_32 : g_dc cX11_feels 32 (.iload_n 1) 1 33 := ⟨by decide +kernel, rfl⟩
theorem e_X11_feels_33 : g_dc cX11_feels 33 (.iastore) 1 34 := ⟨by decide +kernel, rfl⟩
theorem e_X11_feels_34 : g_dc cX11_feels 34 (.aload_n 0) 1 35 := ⟨by decide +kernel, rfl⟩
theorem e_X11_feels_35 : g_dc cX11_feels 35 (.getfield 80) 3 38 := ⟨by decide +kernel, rfl⟩
theorem e_X11_feels_38 : g_dc cX11_feels 38 (.iconst 4) 1 39 := ⟨by decide +kernel, rfl⟩
theorem e_X11_feels_39 : g_dc cX11_feels 39 (.aload_n 0) 1 40 := ⟨by decide +kernel, rfl⟩
theorem e_X11_feels_40 : g_dc cX11_feels 40 (.getfield 7) 3 43 := ⟨by decide +kernel, rfl⟩
theorem e_X11_feels_43 : g_dc cX11_feels 43 (.iload_n 1) 1 44 := ⟨by decide +kernel, rfl⟩
theorem e_X11_feels_44 : g_dc cX11_feels 44 (.iaload) 1 45 := ⟨by decide +kernel, rfl⟩
theorem e_X11_feels_45 : g_dc cX11_feels 45 (.iastore) 1 46 := ⟨by decide +kernel, rfl⟩
theorem e_X11_feels_46 : g_dc cX11_feels 46 (.aload_n 0) 1 47 := ⟨by decide +kernel, rfl⟩
theorem e_X11_feels_47 : g_dc cX11_feels 47 (.getfield 80) 3 50 := ⟨by decide +kernel, rfl⟩
theorem e_X11_feels_50 : g_dc cX11_feels 50 (.iconst 5) 1 51 := ⟨by decide +kernel, rfl⟩
theorem e_X11_feels_51 : g_dc cX11_feels 51 (.aload_n 0) 1 52 := ⟨by decide +kernel, rfl⟩
theorem e_X11_feels_52 : g_dc cX11_feels 52 (.getfield 86) 3 55 := ⟨by decide +kernel, rfl⟩
theorem e_X11_feels_55 : g_dc cX11_feels 55 (.iload_n 1) 1 56 := ⟨by decide +kernel, rfl⟩
theorem e_X11_feels_56 : g_dc cX11_feels 56 (.iaload) 1 57 := ⟨by decide +kernel, rfl⟩
theorem e_X11_feels_57 : g_dc cX11_feels 57 (.iastore) 1 58 := ⟨by decide +kernel, rfl⟩
theorem e_X11_feels_58 : g_dc cX11_feels 58 (.aload_n 0) 1 59 := ⟨by decide +kernel, rfl⟩
theorem e_X11_feels_59 : g_dc cX11_feels 59 (.getfield 80) 3 62 := ⟨by decide +kernel, rfl⟩
theorem e_X11_feels_62 : g_dc cX11_feels 62 (.bipush 6) 2 64 := ⟨by decide +kernel, rfl⟩
theorem e_X11_feels_64 : g_dc cX11_feels 64 (.aload_n 0) 1 65 := ⟨by decide +kernel, rfl⟩
theorem e_X11_feels_65 : g_dc cX11_feels 65 (.getfield 16) 3 68 := ⟨by decide +kernel, rfl⟩
theorem e_X11_feels_68 : g_dc cX11_feels 68 (.iload_n 1) 1 69 := ⟨by decide +kernel, rfl⟩
theorem e_X11_feels_69 : g_dc cX11_feels 69 (.iaload) 1 70 := ⟨by decide +kernel, rfl⟩
theorem e_X11_feels_70 : g_dc cX11_feels 70 (.iastore) 1 71 := ⟨by decide +kernel, rfl⟩
theorem e_X11_feels_71 : g_dc cX11_feels 71 (.aload_n 0) 1 72 := ⟨by decide +kernel, rfl⟩
theorem e_X11_feels_72 : g_dc cX11_feels 72 (.getfield 80) 3 75 := ⟨by decide +kernel, rfl⟩
theorem e_X11_feels_75 : g_dc cX11_feels 75 (.bipush 7) 2 77 := ⟨by decide +kernel, rfl⟩
theorem e_X11_feels_77 : g_dc cX11_feels 77 (.aload_n 0) 1 78 := ⟨by decide +kernel, rfl⟩
theorem e_X11_feels_78 : g_dc cX11_feels 78 (.getfield 22) 3 81 := ⟨by decide +kernel, rfl⟩
theorem e_X11_feels_81 : g_dc cX11_feels 81 (.iload_n 1) 1 82 := ⟨by decide +kernel, rfl⟩
theorem e_X11_feels_82 : g_dc cX11_feels 82 (.iaload) 1 83 := ⟨by decide +kernel, rfl⟩
theorem e_X11_feels_83 : g_dc cX11_feels 83 (.iastore) 1 84 := ⟨by decide +kernel, rfl⟩
theorem e_X11_feels_84 : g_dc cX11_feels 84 (.aload_n 0) 1 85 := ⟨by decide +kernel, rfl⟩
theorem e_X11_feels_85 : g_dc cX11_feels 85 (.getfield 80) 3 88 := ⟨by decide +kernel, rfl⟩
theorem e_X11_feels_88 : g_dc cX11_feels 88 (.bipush 8) 2 90 := ⟨by decide +kernel, rfl⟩
theorem e_X11_feels_90 : g_dc cX11_feels 90 (.aload_n 0) 1 91 := ⟨by decide +kernel, rfl⟩
theorem e_X11_feels_91 : g_dc cX11_feels 91 (.getfield 98) 3 94 := ⟨by decide +kernel, rfl⟩
theorem e_X11_feels_94 : g_dc cX11_feels 94 (.iload_n 1) 1 95 := ⟨by decide +kernel, rfl⟩
theorem e_X11_feels_95 : g_dc cX11_feels 95 (.iaload) 1 96 := ⟨by decide +kernel, rfl⟩
theorem e_X11_feels_96 : g_dc cX11_feels 96 (.iastore) 1 97 := ⟨by decide +kernel, rfl⟩
theorem e_X11_feels_97 : g_dc cX11_feels 97 (.aload_n 0) 1 98 := ⟨by decide +kernel, rfl⟩
theorem e_X11_feels_98 : g_dc cX11_feels 98 (.getfield 80) 3 101 := ⟨by decide +kernel, rfl⟩
theorem e_X11_feels_101 : g_dc cX11_feels 101 (.bipush 9) 2 103 := ⟨by decide +kernel, rfl⟩
theorem e_X11_feels_103 : g_dc cX11_feels 103 (.aload_n 0) 1 104 := ⟨by decide +kernel, rfl⟩
theorem e_X11_feels_104 : g_dc cX11_feels 104 (.getfield 95) 3 107 := ⟨by decide +kernel, rfl⟩
theorem e_X11_feels_107 : g_dc cX11_feels 107 (.iload_n 1) 1 108 := ⟨by decide +kernel, rfl⟩
theorem e_X11_feels_108 : g_dc cX11_feels 108 (.iaload) 1 109 := ⟨by decide +kernel, rfl⟩
theorem e_X11_feels_109 : g_dc cX11_feels 109 (.iastore) 1 110 := ⟨by decide +kernel, rfl⟩
theorem e_X11_feels_110 : g_dc cX11_feels 110 (.aload_n 0) 1 111 := ⟨by decide +kernel, rfl⟩
theorem e_X11_feels_111 : g_dc cX11_feels 111 (.getfield 80) 3 114 := ⟨by decide +kernel, rfl⟩
theorem e_X11_feels_114 : g_dc cX11_feels 114 (.bipush 10) 2 116 := ⟨by decide +kernel, rfl⟩
theorem e_X11_feels_116 : g_dc cX11_feels 116 (.aload_n 0) 1 117 := ⟨by decide +kernel, rfl⟩
theorem e_X11_feels_117 : g_dc cX11_feels 117 (.getfield 89) 3 120 := ⟨by decide +kernel, rfl⟩
theorem e_X11_feels_120 : g_dc cX11_feels 120 (.iload_n 1) 1 121 := ⟨by decide +kernel, rfl⟩
theorem e_X11_feels_121 : g_dc cX11_feels 121 (.iaload) 1 122 := ⟨by decide +kernel, rfl⟩
theorem e_X11_feels_122 : g_dc cX11_feels 122 (.iastore) 1 123 := ⟨by decide +kernel, rfl⟩
theorem e_X11_feels_123 : g_dc cX11_feels 123 (.aload_n 0) 1 124 := ⟨by decide +kernel, rfl⟩
theorem e_X11_feels_124 : g_dc cX11_feels 124 (.getfield 80) 3 127 := ⟨by decide +kernel, rfl⟩
theorem e_X11_feels_127 : g_dc cX11_feels 127 (.bipush 11) 2 129 := ⟨by decide +kernel, rfl⟩
theorem e_X11_feels_129 : g_dc cX11_feels 129 (.aload_n 0) 1 130 := ⟨by decide +kernel, rfl⟩
theorem e_X11_feels_130 : g_dc cX11_feels 130 (.getfield 356) 3 133 := ⟨by decide +kernel, rfl⟩
theorem e_X11_feels_133 : g_dc cX11_feels 133 (.iastore) 1 134 := ⟨by decide +kernel, rfl⟩
theorem e_X11_feels_134 : g_dc cX11_feels 134 (.return_) 1 135 := ⟨by decide +kernel, rfl⟩
def md_X11_feels : List Nat := []
def mr_X11_feels : List Nat := [24]
set_option maxHeartbeats 4000000 in
set_option maxRecDepth 100000 in
theorem w_X11_feels (l : Launch) (X : gX) (ad : Nat → Nat) (F : Nat → Int32) (R : Nat → Nat → Int32) (hI : g_ok LK_wM F) (hA : g_okR LA_wM R) (hWT : WT F R) (hWC : WC F R) (a0 : Int32) (pa0 : jv 0 9 a0) : g_Cv l X yX11_feels cX11_feels 2 2 0 0 [.ref (ad 0), .int a0] (wM X ad F R) (fun w => ∃ (F' : Nat → Int32) (R' : Nat → Nat → Int32), w = wM X ad F' R' ∧ g_ok LK_wM F' ∧ g_okR LA_wM R' ∧ WT F' R' ∧ WC F' R' ∧ g_fr md_X11_feels F F' ∧ g_fr mr_X11_feels R R' ∧ (F', R') = sp_X11_feels F R a0) := by
  refine g_mv (by decide +kernel) (Nat.le_of_ble_eq_true rfl) (fun E cx hret => ?_)
  obtain ⟨SP, hSP⟩ : ∃ z, z = sp_X11_feels F R a0 := ⟨_, rfl⟩
  have hk0 := hSP
  unfold sp_X11_feels at hk0
  refine g_aload_n cx 0 rfl e_X11_feels_0 ?_
  refine g_get cx cl_X11 fl_X11_80 0 (.ref (ad 24)) e_X11_feels_1 rfl rfl ?_
  refine g_iconst cx 0 (by decide) e_X11_feels_4 ?_
  refine g_aload_n cx 0 rfl e_X11_feels_5 ?_
  refine g_get cx cl_X11 fl_X11_325 0 (.int (F 45)) e_X11_feels_6 rfl rfl ?_
  refine g_iast cx 24 (wM X ad F (g_u R 24 (upd (R 24) 0 (F 45)))) e_X11_feels_9 rfl (jv_ix 12 (jv_k (x := 0) 0 (by decide)) (by decide)) rfl ?_
  obtain ⟨R1, hR1⟩ : ∃ z, z = g_u R 24 (upd (R 24) 0 (F 45)) := ⟨_, rfl⟩
  rw [← hR1]
  have hk2 := k_ls hk0 hR1
  have oR1 : g_okR LA_wM R1 := by rw [hR1]; exact g_okR_u hA rfl
  have fR1 : g_fr mr_X11_feels R R1 := by rw [hR1]; exact g_fr_r (g_fr_rf R) rfl
  have wTR1 : WT F R1 := by rw [hR1]; exact WT_r hWT rfl
  have wCR1 : WC F R1 := by rw [hR1]; exact WC_r hWC rfl
  refine g_aload_n cx 0 rfl e_X11_feels_10 ?_
  refine g_get cx cl_X11 fl_X11_80 0 (.ref (ad 24)) e_X11_feels_11 rfl rfl ?_
  refine g_iconst cx 1 (by decide) e_X11_feels_14 ?_
  refine g_aload_n cx 0 rfl e_X11_feels_15 ?_
  refine g_cViW cx [] [.int 1, .ref (ad 24)] (w_X11_paceNow l X ad F R1 hI oR1 wTR1 wCR1) ml_X11_350 yV_X11_paceNow e_X11_feels_16 (by unfold g_rr; decide) (by decide) 0 rfl rfl rfl (Nat.le_of_ble_eq_true rfl) (fun r3 w4 h5 => ?_)
  obtain ⟨rfl, pr3, hx6⟩ := h5
  have hk7 := k_ls hk2 hx6
  refine g_iast cx 24 (wM X ad F (g_u R1 24 (upd (R1 24) 1 r3))) e_X11_feels_19 rfl (jv_ix 12 (jv_k (x := 1) 1 (by decide)) (by decide)) rfl ?_
  obtain ⟨R8, hR8⟩ : ∃ z, z = g_u R1 24 (upd (R1 24) 1 r3) := ⟨_, rfl⟩
  rw [← hR8]
  have hk9 := k_ls hk7 hR8
  have oR8 : g_okR LA_wM R8 := by rw [hR8]; exact g_okR_u oR1 rfl
  have fR8 : g_fr mr_X11_feels R R8 := by rw [hR8]; exact g_fr_r fR1 rfl
  have wTR8 : WT F R8 := by rw [hR8]; exact WT_r wTR1 rfl
  have wCR8 : WC F R8 := by rw [hR8]; exact WC_r wCR1 rfl
  refine g_aload_n cx 0 rfl e_X11_feels_20 ?_
  refine g_get cx cl_X11 fl_X11_80 0 (.ref (ad 24)) e_X11_feels_21 rfl rfl ?_
  refine g_iconst cx 2 (by decide) e_X11_feels_24 ?_
  refine g_iconst cx 0 (by decide) e_X11_feels_25 ?_
  refine g_iast cx 24 (wM X ad F (g_u R8 24 (upd (R8 24) 2 0))) e_X11_feels_26 rfl (jv_ix 12 (jv_k (x := 2) 2 (by decide)) (by decide)) rfl ?_
  obtain ⟨R10, hR10⟩ : ∃ z, z = g_u R8 24 (upd (R8 24) 2 0) := ⟨_, rfl⟩
  rw [← hR10]
  have hk11 := k_ls hk9 hR10
  have oR10 : g_okR LA_wM R10 := by rw [hR10]; exact g_okR_u oR8 rfl
  have fR10 : g_fr mr_X11_feels R R10 := by rw [hR10]; exact g_fr_r fR8 rfl
  have wTR10 : WT F R10 := by rw [hR10]; exact WT_r wTR8 rfl
  have wCR10 : WC F R10 := by rw [hR10]; exact WC_r wCR8 rfl
  refine g_aload_n cx 0 rfl e_X11_feels_27 ?_
  refine g_get cx cl_X11 fl_X11_80 0 (.ref (ad 24)) e_X11_feels_28 rfl rfl ?_
  refine g_iconst cx 3 (by decide) e_X11_feels_31 ?_
  refine g_iload_n cx 1 rfl e_X11_feels_32 ?_
  refine g_iast cx 24 (wM X ad F (g_u R10 24 (upd (R10 24) 3 a0))) e_X11_feels_33 rfl (jv_ix 12 (jv_k (x := 3) 3 (by decide)) (by decide)) rfl ?_
  obtain ⟨R12, hR12⟩ : ∃ z, z = g_u R10 24 (upd (R10 24) 3 a0) := ⟨_, rfl⟩
  rw [← hR12]
  have hk13 := k_ls hk11 hR12
  have oR12 : g_okR LA_wM R12 := by rw [hR12]; exact g_okR_u oR10 rfl
  have fR12 : g_fr mr_X11_feels R R12 := by rw [hR12]; exact g_fr_r fR10 rfl
  have wTR12 : WT F R12 := by rw [hR12]; exact WT_r wTR10 rfl
  have wCR12 : WC F R12 := by rw [hR12]; exact WC_r wCR10 rfl
  refine g_aload_n cx 0 rfl e_X11_feels_34 ?_
  refine g_get cx cl_X11 fl_X11_80 0 (.ref (ad 24)) e_X11_feels_35 rfl rfl ?_
  refine g_iconst cx 4 (by decide) e_X11_feels_38 ?_
  refine g_aload_n cx 0 rfl e_X11_feels_39 ?_
  refine g_get cx cl_X11 fl_X11_7 0 (.ref (ad 1)) e_X11_feels_40 rfl rfl ?_
  refine g_iload_n cx 1 rfl e_X11_feels_43 ?_
  refine g_iald cx 1 e_X11_feels_44 rfl (jv_ix 10 pa0 (by decide)) ?_
  refine g_topi (fun x14 ex14 => ?_)
  have hk15 := k_ls hk13 ex14
  refine g_iast cx 24 (wM X ad F (g_u R12 24 (upd (R12 24) 4 x14))) e_X11_feels_45 rfl (jv_ix 12 (jv_k (x := 4) 4 (by decide)) (by decide)) rfl ?_
  obtain ⟨R16, hR16⟩ : ∃ z, z = g_u R12 24 (upd (R12 24) 4 x14) := ⟨_, rfl⟩
  rw [← hR16]
  have hk17 := k_ls hk15 hR16
  have oR16 : g_okR LA_wM R16 := by rw [hR16]; exact g_okR_u oR12 rfl
  have fR16 : g_fr mr_X11_feels R R16 := by rw [hR16]; exact g_fr_r fR12 rfl
  have wTR16 : WT F R16 := by rw [hR16]; exact WT_r wTR12 rfl
  have wCR16 : WC F R16 := by rw [hR16]; exact WC_r wCR12 rfl
  refine g_aload_n cx 0 rfl e_X11_feels_46 ?_
  refine g_get cx cl_X11 fl_X11_80 0 (.ref (ad 24)) e_X11_feels_47 rfl rfl ?_
  refine g_iconst cx 5 (by decide) e_X11_feels_50 ?_
  refine g_aload_n cx 0 rfl e_X11_feels_51 ?_
  refine g_get cx cl_X11 fl_X11_86 0 (.ref (ad 26)) e_X11_feels_52 rfl rfl ?_
  refine g_iload_n cx 1 rfl e_X11_feels_55 ?_
  refine g_iald cx 26 e_X11_feels_56 rfl (jv_ix 10 pa0 (by decide)) ?_
  refine g_topi (fun x18 ex18 => ?_)
  have hk19 := k_ls hk17 ex18
  refine g_iast cx 24 (wM X ad F (g_u R16 24 (upd (R16 24) 5 x18))) e_X11_feels_57 rfl (jv_ix 12 (jv_k (x := 5) 5 (by decide)) (by decide)) rfl ?_
  obtain ⟨R20, hR20⟩ : ∃ z, z = g_u R16 24 (upd (R16 24) 5 x18) := ⟨_, rfl⟩
  rw [← hR20]
  have hk21 := k_ls hk19 hR20
  have oR20 : g_okR LA_wM R20 := by rw [hR20]; exact g_okR_u oR16 rfl
  have fR20 : g_fr mr_X11_feels R R20 := by rw [hR20]; exact g_fr_r fR16 rfl
  have wTR20 : WT F R20 := by rw [hR20]; exact WT_r wTR16 rfl
  have wCR20 : WC F R20 := by rw [hR20]; exact WC_r wCR16 rfl
  refine g_aload_n cx 0 rfl e_X11_feels_58 ?_
  refine g_get cx cl_X11 fl_X11_80 0 (.ref (ad 24)) e_X11_feels_59 rfl rfl ?_
  refine g_bipush cx 6 (by decide) e_X11_feels_62 ?_
  refine g_aload_n cx 0 rfl e_X11_feels_64 ?_
  refine g_get cx cl_X11 fl_X11_16 0 (.ref (ad 3)) e_X11_feels_65 rfl rfl ?_
  refine g_iload_n cx 1 rfl e_X11_feels_68 ?_
  refine g_iald cx 3 e_X11_feels_69 rfl (jv_ix 10 pa0 (by decide)) ?_
  refine g_topi (fun x22 ex22 => ?_)
  have hk23 := k_ls hk21 ex22
  have p24 : jv 0 40 x22 := by rw [ex22]; exact g_okR_g oR20 6 rfl (jv_cl 10 pa0 (by decide))
  refine g_iast cx 24 (wM X ad F (g_u R20 24 (upd (R20 24) 6 x22))) e_X11_feels_70 rfl (jv_ix 12 (jv_k (x := 6) 6 (by decide)) (by decide)) rfl ?_
  obtain ⟨R25, hR25⟩ : ∃ z, z = g_u R20 24 (upd (R20 24) 6 x22) := ⟨_, rfl⟩
  rw [← hR25]
  have hk26 := k_ls hk23 hR25
  have oR25 : g_okR LA_wM R25 := by rw [hR25]; exact g_okR_u oR20 rfl
  have fR25 : g_fr mr_X11_feels R R25 := by rw [hR25]; exact g_fr_r fR20 rfl
  have wTR25 : WT F R25 := by rw [hR25]; exact WT_r wTR20 rfl
  have wCR25 : WC F R25 := by rw [hR25]; exact WC_r wCR20 rfl
  refine g_aload_n cx 0 rfl e_X11_feels_71 ?_
  refine g_get cx cl_X11 fl_X11_80 0 (.ref (ad 24)) e_X11_feels_72 rfl rfl ?_
  refine g_bipush cx 7 (by decide) e_X11_feels_75 ?_
  refine g_aload_n cx 0 rfl e_X11_feels_77 ?_
  refine g_get cx cl_X11 fl_X11_22 0 (.ref (ad 5)) e_X11_feels_78 rfl rfl ?_
  refine g_iload_n cx 1 rfl e_X11_feels_81 ?_
  refine g_iald cx 5 e_X11_feels_82 rfl (jv_ix 10 pa0 (by decide)) ?_
  refine g_topi (fun x27 ex27 => ?_)
  have hk28 := k_ls hk26 ex27
  have p29 : jv 0 99 x27 := by rw [ex27]; exact g_okR_g oR25 7 rfl (jv_cl 10 pa0 (by decide))
  refine g_iast cx 24 (wM X ad F (g_u R25 24 (upd (R25 24) 7 x27))) e_X11_feels_83 rfl (jv_ix 12 (jv_k (x := 7) 7 (by decide)) (by decide)) rfl ?_
  obtain ⟨R30, hR30⟩ : ∃ z, z = g_u R25 24 (upd (R25 24) 7 x27) := ⟨_, rfl⟩
  rw [← hR30]
  have hk31 := k_ls hk28 hR30
  have oR30 : g_okR LA_wM R30 := by rw [hR30]; exact g_okR_u oR25 rfl
  have fR30 : g_fr mr_X11_feels R R30 := by rw [hR30]; exact g_fr_r fR25 rfl
  have wTR30 : WT F R30 := by rw [hR30]; exact WT_r wTR25 rfl
  have wCR30 : WC F R30 := by rw [hR30]; exact WC_r wCR25 rfl
  refine g_aload_n cx 0 rfl e_X11_feels_84 ?_
  refine g_get cx cl_X11 fl_X11_80 0 (.ref (ad 24)) e_X11_feels_85 rfl rfl ?_
  refine g_bipush cx 8 (by decide) e_X11_feels_88 ?_
  refine g_aload_n cx 0 rfl e_X11_feels_90 ?_
  refine g_get cx cl_X11 fl_X11_98 0 (.ref (ad 30)) e_X11_feels_91 rfl rfl ?_
  refine g_iload_n cx 1 rfl e_X11_feels_94 ?_
  refine g_iald cx 30 e_X11_feels_95 rfl (jv_ix 10 pa0 (by decide)) ?_
  refine g_topi (fun x32 ex32 => ?_)
  have hk33 := k_ls hk31 ex32
  refine g_iast cx 24 (wM X ad F (g_u R30 24 (upd (R30 24) 8 x32))) e_X11_feels_96 rfl (jv_ix 12 (jv_k (x := 8) 8 (by decide)) (by decide)) rfl ?_
  obtain ⟨R34, hR34⟩ : ∃ z, z = g_u R30 24 (upd (R30 24) 8 x32) := ⟨_, rfl⟩
  rw [← hR34]
  have hk35 := k_ls hk33 hR34
  have oR34 : g_okR LA_wM R34 := by rw [hR34]; exact g_okR_u oR30 rfl
  have fR34 : g_fr mr_X11_feels R R34 := by rw [hR34]; exact g_fr_r fR30 rfl
  have wTR34 : WT F R34 := by rw [hR34]; exact WT_r wTR30 rfl
  have wCR34 : WC F R34 := by rw [hR34]; exact WC_r wCR30 rfl
  refine g_aload_n cx 0 rfl e_X11_feels_97 ?_
  refine g_get cx cl_X11 fl_X11_80 0 (.ref (ad 24)) e_X11_feels_98 rfl rfl ?_
  refine g_bipush cx 9 (by decide) e_X11_feels_101 ?_
  refine g_aload_n cx 0 rfl e_X11_feels_103 ?_
  refine g_get cx cl_X11 fl_X11_95 0 (.ref (ad 29)) e_X11_feels_104 rfl rfl ?_
  refine g_iload_n cx 1 rfl e_X11_feels_107 ?_
  refine g_iald cx 29 e_X11_feels_108 rfl (jv_ix 10 pa0 (by decide)) ?_
  refine g_topi (fun x36 ex36 => ?_)
  have hk37 := k_ls hk35 ex36
  refine g_iast cx 24 (wM X ad F (g_u R34 24 (upd (R34 24) 9 x36))) e_X11_feels_109 rfl (jv_ix 12 (jv_k (x := 9) 9 (by decide)) (by decide)) rfl ?_
  obtain ⟨R38, hR38⟩ : ∃ z, z = g_u R34 24 (upd (R34 24) 9 x36) := ⟨_, rfl⟩
  rw [← hR38]
  have hk39 := k_ls hk37 hR38
  have oR38 : g_okR LA_wM R38 := by rw [hR38]; exact g_okR_u oR34 rfl
  have fR38 : g_fr mr_X11_feels R R38 := by rw [hR38]; exact g_fr_r fR34 rfl
  have wTR38 : WT F R38 := by rw [hR38]; exact WT_r wTR34 rfl
  have wCR38 : WC F R38 := by rw [hR38]; exact WC_r wCR34 rfl
  refine g_aload_n cx 0 rfl e_X11_feels_110 ?_
  refine g_get cx cl_X11 fl_X11_80 0 (.ref (ad 24)) e_X11_feels_111 rfl rfl ?_
  refine g_bipush cx 10 (by decide) e_X11_feels_114 ?_
  refine g_aload_n cx 0 rfl e_X11_feels_116 ?_
  refine g_get cx cl_X11 fl_X11_89 0 (.ref (ad 27)) e_X11_feels_117 rfl rfl ?_
  refine g_iload_n cx 1 rfl e_X11_feels_120 ?_
  refine g_iald cx 27 e_X11_feels_121 rfl (jv_ix 10 pa0 (by decide)) ?_
  refine g_topi (fun x40 ex40 => ?_)
  have hk41 := k_ls hk39 ex40
  refine g_iast cx 24 (wM X ad F (g_u R38 24 (upd (R38 24) 10 x40))) e_X11_feels_122 rfl (jv_ix 12 (jv_k (x := 10) 10 (by decide)) (by decide)) rfl ?_
  obtain ⟨R42, hR42⟩ : ∃ z, z = g_u R38 24 (upd (R38 24) 10 x40) := ⟨_, rfl⟩
  rw [← hR42]
  have hk43 := k_ls hk41 hR42
  have oR42 : g_okR LA_wM R42 := by rw [hR42]; exact g_okR_u oR38 rfl
  have fR42 : g_fr mr_X11_feels R R42 := by rw [hR42]; exact g_fr_r fR38 rfl
  have wTR42 : WT F R42 := by rw [hR42]; exact WT_r wTR38 rfl
  have wCR42 : WC F R42 := by rw [hR42]; exact WC_r wCR38 rfl
  refine g_aload_n cx 0 rfl e_X11_feels_123 ?_
  refine g_get cx cl_X11 fl_X11_80 0 (.ref (ad 24)) e_X11_feels_124 rfl rfl ?_
  refine g_bipush cx 11 (by decide) e_X11_feels_127 ?_
  refine g_aload_n cx 0 rfl e_X11_feels_129 ?_
  refine g_get cx cl_X11 fl_X11_356 0 (.int (F 47)) e_X11_feels_130 rfl rfl ?_
  refine g_iast cx 24 (wM X ad F (g_u R42 24 (upd (R42 24) 11 (F 47)))) e_X11_feels_133 rfl (jv_ix 12 (jv_k (x := 11) 11 (by decide)) (by decide)) rfl ?_
  obtain ⟨R44, hR44⟩ : ∃ z, z = g_u R42 24 (upd (R42 24) 11 (F 47)) := ⟨_, rfl⟩
  rw [← hR44]
  have hk45 := k_ls hk43 hR44
  have oR44 : g_okR LA_wM R44 := by rw [hR44]; exact g_okR_u oR42 rfl
  have fR44 : g_fr mr_X11_feels R R44 := by rw [hR44]; exact g_fr_r fR42 rfl
  have wTR44 : WT F R44 := by rw [hR44]; exact WT_r wTR42 rfl
  have wCR44 : WC F R44 := by rw [hR44]; exact WC_r wCR42 rfl
  exact hret e_X11_feels_134 (Nat.le_of_ble_eq_true rfl) (Nat.le_of_ble_eq_true rfl) ⟨F, R44, rfl, hI, oR44, wTR44, wCR44, (g_fr_rf F), fR44, (hk45.symm.trans hSP)⟩
def K_X11_size_10  (y1 : Int32) : Int32 :=
  y1
def sp_X11_size (F : Nat → Int32) (R : Nat → Nat → Int32) (a0 : Int32) : Int32 :=
  if 0 ≤ a0 then K_X11_size_10 a0 else k_lt (-a0) (fun x7 => K_X11_size_10 x7)
theorem e_X11_size_0 : g_dc cX11_size 0 (.iload_n 0) 1 1 := ⟨by decide +kernel, rfl⟩
theorem e_X11_size_1 : g_dc cX11_size 1 (.ifCond .ge 8) 3 4 := ⟨by decide +kernel, rfl⟩
theorem e_X11_size_4 : g_dc cX11_size 4 (.iload_n 0) 1 5 := ⟨by decide +kernel, rfl⟩
theorem e_X11_size_5 : g_dc cX11_size 5 (.ineg) 1 6 := ⟨by decide +kernel, rfl⟩
theorem e_X11_size_6 : g_dc cX11_size 6 (.goto 4) 3 9 := ⟨by decide +kernel, rfl⟩
theorem e_X11_size_9 : g_dc cX11_size 9 (.iload_n 0) 1 10 := ⟨by decide +kernel, rfl⟩
theorem e_X11_size_10 : g_dc cX11_size 10 (.ireturn) 1 11 := ⟨by decide +kernel, rfl⟩
set_option maxHeartbeats 4000000 in
set_option maxRecDepth 100000 in
theorem w_X11_size (l : Launch) (X : gX) (ad : Nat → Nat) (F : Nat → Int32) (R : Nat → Nat → Int32) (hI : g_ok LK_wM F) (hA : g_okR LA_wM R) (a0 : Int32) : g_Ci l X yX11_size cX11_size 1 (some .int) 1 0 0 [.int a0] (wM X ad F R) (fun r w => w = wM X ad F R ∧ jv (-2147483648) 2147483647 r ∧ r = sp_X11_size F R a0) := by
  refine g_mi (by decide +kernel) (Nat.le_of_ble_eq_true rfl) (fun E cx hret => ?_)
  obtain ⟨SP, hSP⟩ : ∃ z, z = sp_X11_size F R a0 := ⟨_, rfl⟩
  have hk0 := hSP
  unfold sp_X11_size at hk0
  refine g_iload_n cx 0 rfl e_X11_size_0 ?_
  have J10 : ∀ (y1 : Int32), (jv (-2147483648) 2147483647 y1) → (SP = K_X11_size_10 y1) → G X E 1 0 0 (wM X ad F R) [] 10 [.int y1] := by
    intro y1 py1 hkJ10
    unfold K_X11_size_10 at hkJ10
    exact hret e_X11_size_10 (Nat.le_of_ble_eq_true rfl) (Nat.le_of_ble_eq_true rfl) rfl ⟨rfl, py1, (hkJ10.symm.trans hSP)⟩
  refine g_if_ge cx 9 e_X11_size_1 (by decide) (fun zc2 => ?_) (fun zc2 => ?_)
  · have p3 := gn_ge 0 2147483647 (gc_le zc2) (jv_t a0) (jv_k (x := 0) 0 (by decide)) (by decide)
    have hk4 := hk0.trans (if_pos zc2)
    refine g_iload_n cx 0 rfl e_X11_size_9 ?_
    refine g_lsub [] [] rfl ?_
    exact J10 a0 (jv_w p3 (by decide)) hk4
  · have p5 := gn_lt (-2147483648) (-1) (gc_nle zc2) (jv_t a0) (jv_k (x := 0) 0 (by decide)) (by decide)
    have hk6 := hk0.trans (if_neg zc2)
    refine g_iload_n cx 0 rfl e_X11_size_4 ?_
    refine g_ineg cx e_X11_size_5 ?_
    refine g_topi (fun x7 ex7 => ?_)
    have hk8 := k_ls hk6 ex7
    refine g_goto cx 10 e_X11_size_6 (by decide) ?_
    refine g_lsub [] [] rfl ?_
    exact J10 x7 (jv_t x7) hk8
def K_X11_min_10  (y1 : Int32) : Int32 :=
  y1
def sp_X11_min (F : Nat → Int32) (R : Nat → Nat → Int32) (a0 : Int32) (a1 : Int32) : Int32 :=
  if a1 ≤ a0 then K_X11_min_10 a1 else K_X11_min_10 a0
theorem e_X11_min_0 : g_dc cX11_min 0 (.iload_n 0) 1 1 := ⟨by decide +kernel, rfl⟩
theorem e_X11_min_1 : g_dc cX11_min 1 (.iload_n 1) 1 2 := ⟨by decide +kernel, rfl⟩
theorem e_X11_min_2 : g_dc cX11_min 2 (.if_icmp .ge 7) 3 5 := ⟨by decide +kernel, rfl⟩
theorem e_X11_min_5 : g_dc cX11_min 5 (.iload_n 0) 1 6 := ⟨by decide +kernel, rfl⟩
theorem e_X11_min_6 : g_dc cX11_min 6 (.goto 4) 3 9 := ⟨by decide +kernel, rfl⟩
theorem e_X11_min_9 : g_dc cX11_min 9 (.iload_n 1) 1 10 := ⟨by decide +kernel, rfl⟩
theorem e_X11_min_10 : g_dc cX11_min 10 (.ireturn) 1 11 := ⟨by decide +kernel, rfl⟩
set_option maxHeartbeats 4000000 in
set_option maxRecDepth 100000 in
theorem w_X11_min (l : Launch) (X : gX) (ad : Nat → Nat) (F : Nat → Int32) (R : Nat → Nat → Int32) (hI : g_ok LK_wM F) (hA : g_okR LA_wM R) (a0 : Int32) (a1 : Int32) : g_Ci l X yX11_min cX11_min 2 (some .int) 1 0 0 [.int a0, .int a1] (wM X ad F R) (fun r w => w = wM X ad F R ∧ jv (-2147483648) 2147483647 r ∧ r = sp_X11_min F R a0 a1) := by
  refine g_mi (by decide +kernel) (Nat.le_of_ble_eq_true rfl) (fun E cx hret => ?_)
  obtain ⟨SP, hSP⟩ : ∃ z, z = sp_X11_min F R a0 a1 := ⟨_, rfl⟩
  have hk0 := hSP
  unfold sp_X11_min at hk0
  refine g_iload_n cx 0 rfl e_X11_min_0 ?_
  refine g_iload_n cx 1 rfl e_X11_min_1 ?_
  have J10 : ∀ (y1 : Int32), (jv (-2147483648) 2147483647 y1) → (SP = K_X11_min_10 y1) → G X E 2 0 0 (wM X ad F R) [] 10 [.int y1] := by
    intro y1 py1 hkJ10
    unfold K_X11_min_10 at hkJ10
    exact hret e_X11_min_10 (Nat.le_of_ble_eq_true rfl) (Nat.le_of_ble_eq_true rfl) rfl ⟨rfl, py1, (hkJ10.symm.trans hSP)⟩
  refine g_icmp_ge cx 9 e_X11_min_2 (by decide) (fun zc2 => ?_) (fun zc2 => ?_)
  · have hk3 := hk0.trans (if_pos zc2)
    refine g_iload_n cx 1 rfl e_X11_min_9 ?_
    refine g_lsub [] [] rfl ?_
    exact J10 a1 (jv_t a1) hk3
  · have p4 := gn_lt (-2147483648) 2147483646 (gc_nle zc2) (jv_t a0) (jv_t a1) (by decide)
    have p5 := gn_gt (-2147483647) 2147483647 (gc_nle zc2) (jv_t a1) (jv_t a0) (by decide)
    have hk6 := hk0.trans (if_neg zc2)
    refine g_iload_n cx 0 rfl e_X11_min_5 ?_
    refine g_goto cx 10 e_X11_min_6 (by decide) ?_
    refine g_lsub [] [] rfl ?_
    exact J10 a0 (jv_w p4 (by decide)) hk6
def K_X11_foldPasses_64 (b2 : (Int32) → Int32) (y1 : Int32)  : Int32 :=
  k_lt (y1 + 1) (fun x15 => b2 x15)
def KB_X11_foldPasses_2 (b2 : (Int32) → Int32) (F : Nat → Int32) (a0 : Int32) (y1 : Int32) : Int32 :=
  if 6 ≤ y1 then 0 else k_lt (y1 * (F 0)) (fun x7 => k_lt (x7 / 6) (fun x9 => k_lt (g_hasv (F 43) y1) (fun r11 => if r11 = 0 then K_X11_foldPasses_64 b2 y1 else if (F 1) ≤ x9 then K_X11_foldPasses_64 b2 y1 else k_lt (x9 - (F 46)) (fun x28 => if x28 < a0 then K_X11_foldPasses_64 b2 y1 else k_lt (x9 - (F 46)) (fun x35 => k_lt (x35 - (F 47)) (fun x37 => if a0 ≤ x37 then K_X11_foldPasses_64 b2 y1 else 1))))))
def K_X11_foldPasses_2 (F : Nat → Int32) (a0 : Int32) : Nat → (Int32) → Int32
  | 0 => fun _ => 0
  | n + 1 => KB_X11_foldPasses_2 (K_X11_foldPasses_2 F a0 n) F a0
def sp_X11_foldPasses (F : Nat → Int32) (R : Nat → Nat → Int32) (a0 : Int32) : Int32 :=
  K_X11_foldPasses_2 F a0 8589934592 0
theorem e_X11_foldPasses_0 : g_dc cX11_foldPasses 0 (.iconst 0) 1 1 := ⟨by decide +kernel, rfl⟩
theorem e_X11_foldPasses_1 : g_dc cX11_foldPasses 1 (.istore_n 2) 1 2 := ⟨by decide +kernel, rfl⟩
theorem e_X11_foldPasses_2 : g_dc cX11_foldPasses 2 (.iload_n 2) 1 3 := ⟨by decide +kernel, rfl⟩
theorem e_X11_foldPasses_3 : g_dc cX11_foldPasses 3 (.bipush 6) 2 5 := ⟨by decide +kernel, rfl⟩
theorem e_X11_foldPasses_5 : g_dc cX11_foldPasses 5 (.if_icmp .ge 65) 3 8 := ⟨by decide +kernel, rfl⟩
theorem e_X11_foldPasses_8 : g_dc cX11_foldPasses 8 (.iload_n 2) 1 9 := ⟨by decide +kernel, rfl⟩
theorem e_X11_foldPasses_9 : g_dc cX11_foldPasses 9 (.aload_n 0) 1 10 := ⟨by decide +kernel, rfl⟩
theorem e_X11_foldPasses_10 : g_dc cX11_foldPasses 10 (.getfield 155) 3 13 := ⟨by decide +kernel, rfl⟩
theorem e_X11_foldPasses_13 : g_dc cX11_foldPasses 13 (.imul) 1 14 := ⟨by decide +kernel, rfl⟩
theorem e_X11_foldPasses_14 : g_dc cX11_foldPasses 14 (.bipush 6) 2 16 := ⟨by decide +kernel, rfl⟩
theorem e_X11_foldPasses_16 : g_dc cX11_foldPasses 16 (.idiv) 1 17 := ⟨by decide +kernel, rfl⟩
theorem e_X11_foldPasses_17 : g_dc cX11_foldPasses 17 (.istore_n 3) 1 18 := ⟨by decide +kernel, rfl⟩
theorem e_X11_foldPasses_18 : g_dc cX11_foldPasses 18 (.aload_n 0) 1 19 := ⟨by decide +kernel, rfl⟩
theorem e_X11_foldPasses_19 : g_dc cX11_foldPasses 19 (.getfield 315) 3 22 := ⟨by decide +kernel, rfl⟩
theorem e_X11_foldPasses_22 : g_dc cX11_foldPasses 22 (.iload_n 2) 1 23 := ⟨by decide +kernel, rfl⟩
theorem e_X11_foldPasses_23 : g_dc cX11_foldPasses 23 (.invokestatic 175) 3 26 := ⟨by decide +kernel, rfl⟩
theorem e_X11_foldPasses_26 : g_dc cX11_foldPasses 26 (.ifCond .eq 38) 3 29 := ⟨by decide +kernel, rfl⟩
theorem e_X11_foldPasses_29 : g_dc cX11_foldPasses 29 (.iload_n 3) 1 30 := ⟨by decide +kernel, rfl⟩
theorem e_X11_foldPasses_30 : g_dc cX11_foldPasses 30 (.aload_n 0) 1 31 := ⟨by decide +kernel, rfl⟩
theorem e_X11_foldPasses_31 : g_dc cX11_foldPasses 31 (.getfield 159) 3 34 := ⟨by decide +kernel, rfl⟩
theorem e_X11_foldPasses_34 : g_dc cX11_foldPasses 34 (.if_icmp .ge 30) 3 37 := ⟨by decide +kernel, rfl⟩
theorem e_X11_foldPasses_37 : g_dc cX11_foldPasses 37 (.iload_n 3) 1 38 := ⟨by decide +kernel, rfl⟩
theorem e_X11_foldPasses_38 : g_dc cX11_foldPasses 38 (.aload_n 0) 1 39 := ⟨by decide +kernel, rfl⟩
theorem e_X11_foldPasses_39 : g_dc cX11_foldPasses 39 (.getfield 328) 3 42 := ⟨by decide +kernel, rfl⟩
theorem e_X11_foldPasses_42 : g_dc cX11_foldPasses 42 (.isub) 1 43 := ⟨by decide +kernel, rfl⟩
theorem e_X11_foldPasses_43 : g_dc cX11_foldPasses 43 (.iload_n 1) 1 44 := ⟨by decide +kernel, rfl⟩
theorem e_X11_foldPasses_44 : g_dc cX11_foldPasses 44 (.if_icmp .lt 20) 3 47 := ⟨by decide +kernel, rfl⟩
theorem e_X11_foldPasses_47 : g_dc cX11_foldPasses 47 (.iload_n 3) 1 48 := ⟨by decide +kernel, rfl⟩
theorem e_X11_foldPasses_48 : g_dc cX11_foldPasses 48 (.aload_n 0) 1 49 := ⟨by decide +kernel, rfl⟩
theorem e_X11_foldPasses_49 : g_dc cX11_foldPasses 49 (.getfield 328) 3 52 := ⟨by decide +kernel, rfl⟩
theorem e_X11_foldPasses_52 : g_dc cX11_foldPasses 52 (.isub) 1 53 := ⟨by decide +kernel, rfl⟩
theorem e_X11_foldPasses_53 : g_dc cX11_foldPasses 53 (.aload_n 0) 1 54 := ⟨by decide +kernel, rfl⟩
theorem e_X11_foldPasses_54 : g_dc cX11_foldPasses 54 (.getfield 356) 3 57 := ⟨by decide +kernel, rfl⟩
theorem e_X11_foldPasses_57 : g_dc cX11_foldPasses 57 (.isub) 1 58 := ⟨by decide +kernel, rfl⟩
theorem e_X11_foldPasses_58 : g_dc cX11_foldPasses 58 (.iload_n 1) 1 59 := ⟨by decide +kernel, rfl⟩
theorem e_X11_foldPasses_59 : g_dc cX11_foldPasses 59 (.if_icmp .ge 5) 3 62 := ⟨by decide +kernel, rfl⟩
theorem e_X11_foldPasses_62 : g_dc cX11_foldPasses 62 (.iconst 1) 1 63 := ⟨by decide +kernel, rfl⟩
theorem e_X11_foldPasses_63 : g_dc cX11_foldPasses 63 (.ireturn) 1 64 := ⟨by decide +kernel, rfl⟩
theorem e_X11_foldPasses_64 : g_dc cX11_foldPasses 64 (.iinc 2 1) 3 67 := ⟨by decide +kernel, rfl⟩
theorem e_X11_foldPasses_67 : g_dc cX11_foldPasses 67 (.goto (-65)) 3 70 := ⟨by decide +kernel, rfl⟩
theorem e_X11_foldPasses_70 : g_dc cX11_foldPasses 70 (.iconst 0) 1 71 := ⟨by decide +kernel, rfl⟩
theorem e_X11_foldPasses_71 : g_dc cX11_foldPasses 71 (.ireturn) 1 72 := ⟨by decide +kernel, rfl⟩
set_option maxHeartbeats 4000000 in
set_option maxRecDepth 100000 in
theorem w_X11_foldPasses (l : Launch) (X : gX) (ad : Nat → Nat) (F : Nat → Int32) (R : Nat → Nat → Int32) (hI : g_ok LK_wM F) (hA : g_okR LA_wM R) (hWT : WT F R) (hWC : WC F R) (a0 : Int32) : g_Ci l X yX11_foldPasses cX11_foldPasses 4 (some .boolean) 2 0 0 [.ref (ad 0), .int a0] (wM X ad F R) (fun r w => w = wM X ad F R ∧ jv 0 1 r ∧ r = sp_X11_foldPasses F R a0) := by
  refine g_mi (by decide +kernel) (Nat.le_of_ble_eq_true rfl) (fun E cx hret => ?_)
  obtain ⟨SP, hSP⟩ : ∃ z, z = sp_X11_foldPasses F R a0 := ⟨_, rfl⟩
  have hk0 := hSP
  unfold sp_X11_foldPasses at hk0
  refine g_iconst cx 0 (by decide) e_X11_foldPasses_0 ?_
  refine g_istore_n cx [(2, .int 0), (0, .ref (ad 0)), (1, .int a0)] e_X11_foldPasses_1 (by decide) rfl ?_
  have J2 : ∀ (N : Nat) (y1 : Int32), (jv 0 6 y1) → (SP = K_X11_foldPasses_2 F a0 N y1) → (2147483647 - y1.toInt).toNat < N → G X E 4 0 0 (wM X ad F R) [(0, .ref (ad 0)), (1, .int a0), (2, .int y1)] 2 [] := by
    intro N
    induction N with
    | zero => intro y1 py1 hkJ2 hm; exact absurd hm (Nat.not_lt_zero _)
    | succ N ih2 =>
      intro y1 py1 hkJ2 hm2
      have hkK2 : SP = KB_X11_foldPasses_2 (K_X11_foldPasses_2 F a0 N) F a0 y1 := hkJ2
      obtain ⟨b2, hb2⟩ : ∃ z, z = K_X11_foldPasses_2 F a0 N := ⟨_, rfl⟩
      rw [← hb2] at hkK2
      unfold KB_X11_foldPasses_2 at hkK2
      refine g_iload_n cx 2 rfl e_X11_foldPasses_2 ?_
      refine g_bipush cx 6 (by decide) e_X11_foldPasses_3 ?_
      refine g_icmp_ge cx 70 e_X11_foldPasses_5 (by decide) (fun zc2 => ?_) (fun zc2 => ?_)
      · have p3 := gn_ge 6 6 (gc_le zc2) py1 (jv_k (x := 6) 6 (by decide)) (by decide)
        have hk4 := hkK2.trans (if_pos zc2)
        refine g_iconst cx 0 (by decide) e_X11_foldPasses_70 ?_
        exact hret e_X11_foldPasses_71 (Nat.le_of_ble_eq_true rfl) (Nat.le_of_ble_eq_true rfl) rfl ⟨rfl, (jv_w (jv_k (x := 0) 0 (by decide)) (by decide)), (hk4.symm.trans hSP)⟩
      · have p5 := gn_lt 0 5 (gc_nle zc2) py1 (jv_k (x := 6) 6 (by decide)) (by decide)
        have hk6 := hkK2.trans (if_neg zc2)
        refine g_iload_n cx 2 rfl e_X11_foldPasses_8 ?_
        refine g_aload_n cx 0 rfl e_X11_foldPasses_9 ?_
        refine g_get cx cl_X11 fl_X11_155 0 (.int (F 0)) e_X11_foldPasses_10 rfl rfl ?_
        refine g_imul cx e_X11_foldPasses_13 ?_
        refine g_topi (fun x7 ex7 => ?_)
        have hk8 := k_ls hk6 ex7
        refine g_bipush cx 6 (by decide) e_X11_foldPasses_14 ?_
        refine g_idiv cx (by decide) e_X11_foldPasses_16 ?_
        refine g_topi (fun x9 ex9 => ?_)
        have hk10 := k_ls hk8 ex9
        refine g_istore_n cx [(3, .int x9), (0, .ref (ad 0)), (1, .int a0), (2, .int y1)] e_X11_foldPasses_17 (by decide) rfl ?_
        refine g_aload_n cx 1 rfl e_X11_foldPasses_18 ?_
        refine g_get cx cl_X11 fl_X11_315 0 (.int (F 43)) e_X11_foldPasses_19 rfl rfl ?_
        refine g_iload_n cx 3 rfl e_X11_foldPasses_22 ?_
        refine g_cSiW cx [.int (F 43), .int y1] [] (c_X11_has l X (wM X ad F R) (F 43) y1) ml_X11_175 yS_X11_has rfl e_X11_foldPasses_23 (by unfold g_rr; decide) (by decide) rfl (Nat.le_of_ble_eq_true rfl) (fun r11 w12 h13 => ?_)
        obtain ⟨rfl, hr11⟩ := h13
        have pr11 : jv 0 1 r11 := by rcases hr11 with q | q <;> rw [q.1] <;> exact ⟨by decide, by decide⟩
        have hk14 := k_ls hk10 (g_has_e hr11)
        have J64 : (SP = K_X11_foldPasses_64 b2 y1) → G X E 4 0 0 (wM X ad F R) [(0, .ref (ad 0)), (1, .int a0), (2, .int y1)] 64 [] := by
          intro   hkJ64
          unfold K_X11_foldPasses_64 at hkJ64
          obtain ⟨x15, ex15⟩ : ∃ z : Int32, z = y1 + Int32.ofInt 1 := ⟨_, rfl⟩
          have hk16 := k_ls hkJ64 (show x15 = y1 + 1 from ex15)
          refine g_iinc cx x15 [(2, .int x15), (0, .ref (ad 0)), (1, .int a0)] 2 e_X11_foldPasses_64 rfl ex15.symm (by decide) rfl ?_
          have zx15 := jv_add 1 6 (show x15 = y1 + 1 from ex15) p5 (jv_k (x := 1) 1 (by decide)) (by decide)
          refine g_goto cx 2 e_X11_foldPasses_67 (by decide) ?_
          refine g_lsub [1, 2, 0] [(0, .ref (ad 0)), (1, .int a0), (2, .int x15)] rfl ?_
          exact ih2 x15 (jv_w zx15.2 (by decide)) (hk16.trans (by rw [hb2])) (Nat.lt_of_lt_of_le (show (2147483647 - x15.toInt).toNat < (2147483647 - y1.toInt).toNat from by have q0 := (jv_k (x := 1) 1 (by decide)).1; have q1 := (jv_k (x := 1) 1 (by decide)).2; have q2 := (jv_k (x := 6) 6 (by decide)).1; have q3 := (jv_k (x := 6) 6 (by decide)).2; have q4 := zx15.2.1; have q5 := zx15.2.2; have q6 := p5.1; have q7 := p5.2; have q8 := (gc_nle zc2); have q9 := (g_eq0 zx15.1); omega) (Nat.le_of_lt_succ hm2))
        refine g_if_eq cx 64 e_X11_foldPasses_26 (by decide) (fun zc17 => ?_) (fun zc17 => ?_)
        · have p18 := gn_eq 0 0 (gc_eq zc17) pr11 (jv_k (x := 0) 0 (by decide)) (by decide)
          have hk19 := hk14.trans (if_pos zc17)
          refine g_lsub [1, 2, 3] [(0, .ref (ad 0)), (1, .int a0), (2, .int y1)] rfl ?_
          exact J64  hk19
        · have p20 := gn_neL 1 1 (gc_ne zc17) pr11 (jv_k (x := 0) 0 (by decide)) (by decide)
          have zb21 : hb (F 43) y1 := g_hasy hr11 zc17
          have hk22 := hk14.trans (if_neg zc17)
          refine g_iload_n cx 0 rfl e_X11_foldPasses_29 ?_
          refine g_aload_n cx 1 rfl e_X11_foldPasses_30 ?_
          refine g_get cx cl_X11 fl_X11_159 0 (.int (F 1)) e_X11_foldPasses_31 rfl rfl ?_
          refine g_icmp_ge cx 64 e_X11_foldPasses_34 (by decide) (fun zc23 => ?_) (fun zc23 => ?_)
          · have hk24 := hk22.trans (if_pos zc23)
            refine g_lsub [1, 2, 3] [(0, .ref (ad 0)), (1, .int a0), (2, .int y1)] rfl ?_
            exact J64  hk24
          · have p25 := gn_lt (-2147483648) 2147483646 (gc_nle zc23) (jv_t x9) (jv_t (F 1)) (by decide)
            have p26 := gn_gt (-2147483647) 2147483647 (gc_nle zc23) (jv_t (F 1)) (jv_t x9) (by decide)
            have hk27 := hk22.trans (if_neg zc23)
            refine g_iload_n cx 0 rfl e_X11_foldPasses_37 ?_
            refine g_aload_n cx 1 rfl e_X11_foldPasses_38 ?_
            refine g_get cx cl_X11 fl_X11_328 0 (.int (F 46)) e_X11_foldPasses_39 rfl rfl ?_
            refine g_isub cx e_X11_foldPasses_42 ?_
            refine g_topi (fun x28 ex28 => ?_)
            have hk29 := k_ls hk27 ex28
            refine g_iload_n cx 2 rfl e_X11_foldPasses_43 ?_
            refine g_icmp_lt cx 64 e_X11_foldPasses_44 (by decide) (fun zc30 => ?_) (fun zc30 => ?_)
            · have p31 := gn_lt (-2147483648) 2147483646 (gc_lt zc30) (jv_t x28) (jv_t a0) (by decide)
              have p32 := gn_gt (-2147483647) 2147483647 (gc_lt zc30) (jv_t a0) (jv_t x28) (by decide)
              have hk33 := hk29.trans (if_pos zc30)
              refine g_lsub [1, 2, 3] [(0, .ref (ad 0)), (1, .int a0), (2, .int y1)] rfl ?_
              exact J64  hk33
            · have hk34 := hk29.trans (if_neg zc30)
              refine g_iload_n cx 0 rfl e_X11_foldPasses_47 ?_
              refine g_aload_n cx 1 rfl e_X11_foldPasses_48 ?_
              refine g_get cx cl_X11 fl_X11_328 0 (.int (F 46)) e_X11_foldPasses_49 rfl rfl ?_
              refine g_isub cx e_X11_foldPasses_52 ?_
              refine g_topi (fun x35 ex35 => ?_)
              have hk36 := k_ls hk34 ex35
              refine g_aload_n cx 1 rfl e_X11_foldPasses_53 ?_
              refine g_get cx cl_X11 fl_X11_356 0 (.int (F 47)) e_X11_foldPasses_54 rfl rfl ?_
              refine g_isub cx e_X11_foldPasses_57 ?_
              refine g_topi (fun x37 ex37 => ?_)
              have hk38 := k_ls hk36 ex37
              refine g_iload_n cx 2 rfl e_X11_foldPasses_58 ?_
              refine g_icmp_ge cx 64 e_X11_foldPasses_59 (by decide) (fun zc39 => ?_) (fun zc39 => ?_)
              · have hk40 := hk38.trans (if_pos zc39)
                refine g_lsub [1, 2, 3] [(0, .ref (ad 0)), (1, .int a0), (2, .int y1)] rfl ?_
                exact J64  hk40
              · have p41 := gn_lt (-2147483648) 2147483646 (gc_nle zc39) (jv_t x37) (jv_t a0) (by decide)
                have p42 := gn_gt (-2147483647) 2147483647 (gc_nle zc39) (jv_t a0) (jv_t x37) (by decide)
                have hk43 := hk38.trans (if_neg zc39)
                refine g_iconst cx 1 (by decide) e_X11_foldPasses_62 ?_
                exact hret e_X11_foldPasses_63 (Nat.le_of_ble_eq_true rfl) (Nat.le_of_ble_eq_true rfl) rfl ⟨rfl, (jv_w (jv_k (x := 1) 1 (by decide)) (by decide)), (hk43.symm.trans hSP)⟩
  refine g_lsub [1, 2, 0] [(0, .ref (ad 0)), (1, .int a0), (2, .int 0)] rfl ?_
  exact J2 8589934592 0 (jv_w (jv_k (x := 0) 0 (by decide)) (by decide)) hk0 (show (2147483647 - (0 : Int32).toInt).toNat < 8589934592 from by have q0 := (jv_k (x := 0) 0 (by decide)).1; have q1 := (jv_k (x := 0) 0 (by decide)).2; omega)
def K_X11_hurries_231 (F50 : Nat → Int32) (R51 : Nat → Nat → Int32)  : (Nat → Int32) × (Nat → Nat → Int32) :=
  (F50, R51)
def K_X11_hurries_217 (a0 : Int32) (y38 : Int32) (F50 : Nat → Int32) (R51 : Nat → Nat → Int32) : (Nat → Int32) × (Nat → Nat → Int32) :=
  if y38 = 0 then K_X11_hurries_231 F50 R51 else k_lt (R51 29 (Int32.toNatClampNeg a0)) (fun x57 => if x57 = 0 then K_X11_hurries_231 F50 R51 else k_lt (R51 29 (Int32.toNatClampNeg a0)) (fun x61 => k_lt (x61 - 1) (fun x63 => k_lt (g_u R51 29 (upd (R51 29) (Int32.toNatClampNeg a0) x63)) (fun R65 => k_lt (1 <<< (a0 &&& 31)) (fun x67 => k_lt ((F50 67) ||| x67) (fun x69 => k_lt (upd F50 67 x69) (fun F71 => (F71, R65))))))))
def K_X11_hurries_145 (F15 : Nat → Int32) (F35 : Nat → Int32) (R36 : Nat → Nat → Int32) (a0 : Int32) (r19 : Int32) (r24 : Int32) (y14 : Int32) (y38 : Int32) : (Nat → Int32) × (Nat → Nat → Int32) :=
  k_lt (g_u R36 27 (upd (R36 27) (Int32.toNatClampNeg a0) y14)) (fun R39 => k_lt (R39 31 (Int32.toNatClampNeg a0)) (fun x41 => k_lt (r19 * x41) (fun x43 => k_lt (R39 3 (Int32.toNatClampNeg a0)) (fun x45 => k_lt (x43 / x45) (fun x48 => if x48 ≤ r24 then k_lt (r24 / 2) (fun x77 => if x48 ≤ x77 then K_X11_hurries_217 a0 y38 F35 R39 else k_lt (1 <<< (a0 &&& 31)) (fun x84 => k_lt ((F15 65) ||| x84) (fun x86 => k_lt (upd F35 65 x86) (fun F88 => K_X11_hurries_217 a0 y38 F88 R39)))) else k_lt (g_u R39 28 (upd (R39 28) (Int32.toNatClampNeg a0) 1)) (fun R93 => k_lt (g_u R93 27 (upd (R93 27) (Int32.toNatClampNeg a0) 0)) (fun R95 => K_X11_hurries_217 a0 y38 F35 R95)))))))
def K_X11_hurries_106 (a0 : Int32) (x8 : Int32) (F15 : Nat → Int32) (R16 : Nat → Nat → Int32) (y14 : Int32) : (Nat → Int32) × (Nat → Nat → Int32) :=
  k_lt (y14 - x8) (fun x17 => k_lt (sp_X11_size F15 R16 x17) (fun r19 => k_lt3 (sp_X11_byLaw F15 R16 98 0 999) (fun r24 F28 R29 => k_lt3 (sp_X11_byLaw F28 R29 122 0 99) (fun r31 F35 R36 => if r19 ≤ r31 then K_X11_hurries_145 F15 F35 R36 a0 r19 r24 y14 0 else K_X11_hurries_145 F15 F35 R36 a0 r19 r24 y14 1))))
def K_X11_hurries_85 (a0 : Int32) (x8 : Int32) (y122 : Int32) (F133 : Nat → Int32) (R134 : Nat → Nat → Int32) (y132 : Int32) : (Nat → Int32) × (Nat → Nat → Int32) :=
  k_lt (y122 + y132) (fun x135 => K_X11_hurries_106 a0 x8 F133 R134 x135)
def K_X11_hurries_57 (a0 : Int32) (x8 : Int32) (F123 : Nat → Int32) (R124 : Nat → Nat → Int32) (y122 : Int32) : (Nat → Int32) × (Nat → Nat → Int32) :=
  k_lt (R124 26 (Int32.toNatClampNeg a0)) (fun x125 => k_lt (sp_X11_foldPasses F123 R124 x125) (fun r127 => if r127 = 0 then K_X11_hurries_85 a0 x8 y122 F123 R124 0 else k_lt3 (sp_X11_byLaw F123 R124 106 0 40) (fun r142 F146 R147 => K_X11_hurries_85 a0 x8 y122 F146 R147 r142)))
def sp_X11_hurries (F : Nat → Int32) (R : Nat → Nat → Int32) (a0 : Int32) : (Nat → Int32) × (Nat → Nat → Int32) :=
  k_lt2 (sp_X11_feels F R a0) (fun F5 R6 => k_lt (R6 27 (Int32.toNatClampNeg a0)) (fun x8 => k_lt (g_hasv (F 69) a0) (fun r10 => if r10 = 0 then k_lt3 (sp_X11_byLaw F5 R6 115 1 40) (fun r105 F109 R110 => k_lt (x8 - r105) (fun x112 => k_lt (sp_X11_max F109 R110 0 x112) (fun r114 => K_X11_hurries_106 a0 x8 F109 R110 r114))) else if x8 ≤ (F 47) then k_lt3 (sp_X11_byLaw F5 R6 97 0 40) (fun r151 F155 R156 => k_lt (x8 + r151) (fun x158 => k_lt (sp_X11_min F155 R156 x158 (F 47)) (fun r160 => K_X11_hurries_57 a0 x8 F155 R156 r160))) else k_lt (x8 - 1) (fun x168 => K_X11_hurries_57 a0 x8 F5 R6 x168))))
theorem e_X11_hurries_0 : g_dc cX11_hurries 0 (.aload_n 0) 1 1 := ⟨by decide +kernel, rfl⟩
theorem e_X11_hurries_1 : g_dc cX11_hurries 1 (.iload_n 1) 1 2 := ⟨by decide +kernel, rfl⟩
theorem e_X11_hurries_2 : g_dc cX11_hurries 2 (.invokevirtual 359) 3 5 := ⟨by decide +kernel, rfl⟩
theorem e_X11_hurries_5 : g_dc cX11_hurries 5 (.aload_n 0) 1 6 := ⟨by decide +kernel, rfl⟩
theorem e_X11_hurries_6 : g_dc cX11_hurries 6 (.getfield 89) 3 9 := ⟨by decide +kernel, rfl⟩
theorem e_X11_hurries_9 : g_dc cX11_hurries 9 (.iload_n 1) 1 10 := ⟨by decide +kernel, rfl⟩
theorem e_X11_hurries_10 : g_dc cX11_hurries 10 (.iaload) 1 11 := ⟨by decide +kernel, rfl⟩
theorem e_X11_hurries_11 : g_dc cX11_hurries 11 (.istore_n 2) 1 12 := ⟨by decide +kernel, rfl⟩
theorem e_X11_hurries_12 : g_dc cX11_hurries 12 (.iload_n 2) 1 13 := ⟨by decide +kernel, rfl⟩
theorem e_X11_hurries_13 : g_dc cX11_hurries 13 (.istore_n 3) 1 14 := ⟨by decide +kernel, rfl⟩
theorem e_X11_hurries_14 : g_dc cX11_hurries 14 (.aload_n 0) 1 15 := ⟨by decide +kernel, rfl⟩
theorem e_X11_hurries_15 : g_dc cX11_hurries 15 (.getfield 362) 3 18 := ⟨by decide +kernel, rfl⟩
theorem e_X11_hurries_18 : g_dc cX11_hurries 18 (.iload_n 1) 1 19 := ⟨by decide +kernel, rfl⟩
theorem e_X11_hurries_19 : g_dc cX11_hurries 19 (.invokestatic 175) 3 22 := ⟨by decide +kernel, rfl⟩
theorem e_X11_hurries_22 : g_dc cX11_hurries 22 (.ifCond .eq 68) 3 25 := ⟨by decide +kernel, rfl⟩
theorem e_X11_hurries_25 : g_dc cX11_hurries 25 (.iload_n 2) 1 26 := ⟨by decide +kernel, rfl⟩
theorem e_X11_hurries_26 : g_dc cX11_hurries 26 (.aload_n 0) 1 27 := ⟨by decide +kernel, rfl⟩
theorem e_X11_hurries_27 : g_dc cX11_hurries 27 (.getfield 356) 3 30 := ⟨by decide +kernel, rfl⟩
theorem e_X11_hurries_30 : g_dc cX11_hurries 30 (.if_icmp .le 9) 3 33 := ⟨by decide +kernel, rfl⟩
theorem e_X11_hurries_33 : g_dc cX11_hurries 33 (.iload_n 2) 1 34 := ⟨by decide +kernel, rfl⟩
theorem e_X11_hurries_34 : g_dc cX11_hurries 34 (.iconst 1) 1 35 := ⟨by decide +kernel, rfl⟩
theorem e_X11_hurries_35 : g_dc cX11_hurries 35 (.isub) 1 36 := ⟨by decide +kernel, rfl⟩
theorem e_X11_hurries_36 : g_dc cX11_hurries 36 (.goto 21) 3 39 := ⟨by decide +kernel, rfl⟩
theorem e_X11_hurries_39 : g_dc cX11_hurries 39 (.iload_n 2) 1 40 := ⟨by decide +kernel, rfl⟩
theorem e_X11_hurries_40 : g_dc cX11_hurries 40 (.aload_n 0) 1 41 := ⟨by decide +kernel, rfl⟩
theorem e_X11_hurries_41 : g_dc cX11_hurries 41 (.bipush 97) 2 43 := ⟨by decide +kernel, rfl⟩
theorem e_X11_hurries_43 : g_dc cX11_hurries 43 (.iconst 0) 1 44 := ⟨by decide +kernel, rfl⟩
theorem e_X11_hurries_44 : g_dc cX11_hurries 44 (.bipush 40) 2 46 := ⟨by decide +kernel, rfl⟩
theorem e_X11_hurries_46 : g_dc cX11_hurries 46 (.invokevirtual 353) 3 49 := ⟨by decide +kernel, rfl⟩
theorem e_X11_hurries_49 : g_dc cX11_hurries 49 (.iadd) 1 50 := ⟨by decide +kernel, rfl⟩
theorem e_X11_hurries_50 : g_dc cX11_hurries 50 (.aload_n 0) 1 51 := ⟨by decide +kernel, rfl⟩
theorem e_X11_hurries_51 : g_dc cX11_hurries 51 (.getfield 356) 3 54 := ⟨by decide +kernel, rfl⟩
theorem e_X11_hurries_54 : g_dc cX11_hurries 54 (.invokestatic 365) 3 57 := ⟨by decide +kernel, rfl⟩
theorem e_X11_hurries_57 : g_dc cX11_hurries 57 (.istore_n 3) 1 58 := ⟨by decide +kernel, rfl⟩
theorem e_X11_hurries_58 : g_dc cX11_hurries 58 (.iload_n 3) 1 59 := ⟨by decide +kernel, rfl⟩
theorem e_X11_hurries_59 : g_dc cX11_hurries 59 (.aload_n 0) 1 60 := ⟨by decide +kernel, rfl⟩
theorem e_X11_hurries_60 : g_dc cX11_hurries 60 (.aload_n 0) 1 61 := ⟨by decide +kernel, rfl⟩
theorem e_X11_hurries_61 : g_dc cX11_hurries 61 (.getfield 86) 3 64 := ⟨by decide +kernel, rfl⟩
theorem e_X11_hurries_64 : g_dc cX11_hurries 64 (.iload_n 1) 1 65 := ⟨by decide +kernel, rfl⟩
theorem e_X11_hurries_65 : g_dc cX11_hurries 65 (.iaload) 1 66 := ⟨by decide +kernel, rfl⟩
theorem e_X11_hurries_66 : g_dc cX11_hurries 66 (.invokevirtual 368) 3 69 := ⟨by decide +kernel, rfl⟩
theorem e_X11_hurries_69 : g_dc cX11_hurries 69 (.ifCond .eq 15) 3 72 := ⟨by decide +kernel, rfl⟩
theorem e_X11_hurries_72 : g_dc cX11_hurries 72 (.aload_n 0) 1 73 := ⟨by decide +kernel, rfl⟩
theorem e_X11_hurries_73 : g_dc cX11_hurries 73 (.bipush 106) 2 75 := ⟨by decide +kernel, rfl⟩
theorem e_X11_hurries_75 : g_dc cX11_hurries 75 (.iconst 0) 1 76 := ⟨by decide +kernel, rfl⟩
theorem e_X11_hurries_76 : g_dc cX11_hurries 76 (.bipush 40) 2 78 := ⟨by decide +kernel, rfl⟩
theorem e_X11_hurries_78 : g_dc cX11_hurries 78 (.invokevirtual 353) 3 81 := ⟨by decide +kernel, rfl⟩
theorem e_X11_hurries_81 : g_dc cX11_hurries 81 (.goto 4) 3 84 := ⟨by decide +kernel, rfl⟩
theorem e_X11_hurries_84 : g_dc cX11_hurries 84 (.iconst 0) 1 85 := ⟨by decide +kernel, rfl⟩
theorem e_X11_hurries_85 : g_dc cX11_hurries 85 (.iadd) 1 86 := ⟨by decide +kernel, rfl⟩
theorem e_X11_hurries_86 : g_dc cX11_hurries 86 (.istore_n 3) 1 87 := ⟨by decide +kernel, rfl⟩
theorem e_X11_hurries_87 : g_dc cX11_hurries 87 (.goto 19) 3 90 := ⟨by decide +kernel, rfl⟩
theorem e_X11_hurries_90 : g_dc cX11_hurries 90 (.iconst 0) 1 91 := ⟨by decide +kernel, rfl⟩
theorem e_X11_hurries_91 : g_dc cX11_hurries 91 (.iload_n 2) 1 92 := ⟨by decide +kernel, rfl⟩
theorem e_X11_hurries_92 : g_dc cX11_hurries 92 (.aload_n 0) 1 93 := ⟨by decide +kernel, rfl⟩
theorem e_X11_hurries_93 : g_dc cX11_hurries 93 (.bipush 115) 2 95 := ⟨by decide +kernel, rfl⟩
theorem e_X11_hurries_95 : g_dc cX11_hurries 95 (.iconst 1) 1 96 := ⟨by decide +kernel, rfl⟩
theorem e_X11_hurries_96 : g_dc cX11_hurries 96 (.bipush 40) 2 98 := ⟨by decide +kernel, rfl⟩
theorem e_X11_hurries_98 : g_dc cX11_hurries 98 (.invokevirtual 353) 3 101 := ⟨by decide +kernel, rfl⟩
theorem e_X11_hurries_101 : g_dc cX11_hurries 101 (.isub) 1 102 := ⟨by decide +kernel, rfl⟩
theorem e_X11_hurries_102 : g_dc cX11_hurries 102 (.invokestatic 371) 3 105 := ⟨by decide +kernel, rfl⟩
theorem e_X11_hurries_105 : g_dc cX11_hurries 105 (.istore_n 3) 1 106 := ⟨by decide +kernel, rfl⟩
theorem e_X11_hurries_106 : g_dc cX11_hurries 106 (.iload_n 3) 1 107 := ⟨by decide +kernel, rfl⟩
theorem e_X11_hurries_107 : g_dc cX11_hurries 107 (.iload_n 2) 1 108 := ⟨by decide +kernel, rfl⟩
theorem e_X11_hurries_108 : g_dc cX11_hurries 108 (.isub) 1 109 := ⟨by decide +kernel, rfl⟩
theorem e_X11_hurries_109 : g_dc cX11_hurries 109 (.invokestatic 374) 3 112 := ⟨by decide +kernel, rfl⟩
theorem e_X11_hurries_112 : g_dc cX11_hurries 112 (.istore 4) 2 114 := ⟨by decide +kernel, rfl⟩
theorem e_X11_hurries_114 : g_dc cX11_hurries 114 (.aload_n 0) 1 115 := ⟨by decide +kernel, rfl⟩
theorem e_X11_hurries_115 : g_dc cX11_hurries 115 (.bipush 98) 2 117 := ⟨by decide +kernel, rfl⟩
theorem e_X11_hurries_117 : g_dc cX11_hurries 117 (.iconst 0) 1 118 := ⟨by decide +kernel, rfl⟩
theorem e_X11_hurries_118 : g_dc cX11_hurries 118 (.sipush 999) 3 121 := ⟨by decide +kernel, rfl⟩
theorem e_X11_hurries_121 : g_dc cX11_hurries 121 (.invokevirtual 353) 3 124 := ⟨by decide +kernel, rfl⟩
theorem e_X11_hurries_124 : g_dc cX11_hurries 124 (.istore 5) 2 126 := ⟨by decide +kernel, rfl⟩
theorem e_X11_hurries_126 : g_dc cX11_hurries 126 (.iload 4) 2 128 := ⟨by decide +kernel, rfl⟩
theorem e_X11_hurries_128 : g_dc cX11_hurries 128 (.aload_n 0) 1 129 := ⟨by decide +kernel, rfl⟩
theorem e_X11_hurries_129 : g_dc cX11_hurries 129 (.bipush 122) 2 131 := ⟨by decide +kernel, rfl⟩
theorem e_X11_hurries_131 : g_dc cX11_hurries 131 (.iconst 0) 1 132 := ⟨by decide +kernel, rfl⟩
theorem e_X11_hurries_132 : g_dc cX11_hurries 132 (.bipush 99) 2 134 := ⟨by decide +kernel, rfl⟩
theorem e_X11_hurries_134 : g_dc cX11_hurries 134 (.invokevirtual 353) 3 137 := ⟨by decide +kernel, rfl⟩
theorem e_X11_hurries_137 : g_dc cX11_hurries 137 (.if_icmp .le 7) 3 140 := ⟨by decide +kernel, rfl⟩
theorem e_X11_hurries_140 : g_dc cX11_hurries 140 (.iconst 1) 1 141 := ⟨by decide +kernel, rfl⟩
theorem e_X11_hurries_141 : g_dc cX11_hurries 141 (.goto 4) 3 144 := ⟨by decide +kernel, rfl⟩
theorem e_X11_hurries_144 : g_dc cX11_hurries 144 (.iconst 0) 1 145 := ⟨by decide +kernel, rfl⟩
theorem e_X11_hurries_145 : g_dc cX11_hurries 145 (.istore 6) 2 147 := ⟨by decide +kernel, rfl⟩
theorem e_X11_hurries_147 : g_dc cX11_hurries 147 (.aload_n 0) 1 148 := ⟨by decide +kernel, rfl⟩
theorem e_X11_hurries_148 : g_dc cX11_hurries 148 (.getfield 89) 3 151 := ⟨by decide +kernel, rfl⟩
theorem e_X11_hurries_151 : g_dc cX11_hurries 151 (.iload_n 1) 1 152 := ⟨by decide +kernel, rfl⟩
theorem e_X11_hurries_152 : g_dc cX11_hurries 152 (.iload_n 3) 1 153 := ⟨by decide +kernel, rfl⟩
theorem e_X11_hurries_153 : g_dc cX11_hurries 153 (.iastore) 1 154 := ⟨by decide +kernel, rfl⟩
theorem e_X11_hurries_154 : g_dc cX11_hurries 154 (.iload 4) 2 156 := ⟨by decide +kernel, rfl⟩
theorem e_X11_hurries_156 : g_dc cX11_hurries 156 (.aload_n 0) 1 157 := ⟨by decide +kernel, rfl⟩
theorem e_X11_hurries_157 : g_dc cX11_hurries 157 (.getfield 101) 3 160 := ⟨by decide +kernel, rfl⟩
theorem e_X11_hurries_160 : g_dc cX11_hurries 160 (.iload_n 1) 1 161 := ⟨by decide +kernel, rfl⟩
theorem e_X11_hurries_161 : g_dc cX11_hurries 161 (.iaload) 1 162 := ⟨by decide +kernel, rfl⟩
theorem e_X11_hurries_162 : g_dc cX11_hurries 162 (.imul) 1 163 := ⟨by decide +kernel, rfl⟩
theorem e_X11_hurries_163 : g_dc cX11_hurries 163 (.aload_n 0) 1 164 := ⟨by decide +kernel, rfl⟩
theorem e_X11_hurries_164 : g_dc cX11_hurries 164 (.getfield 16) 3 167 := ⟨by decide +kernel, rfl⟩
theorem e_X11_hurries_167 : g_dc cX11_hurries 167 (.iload_n 1) 1 168 := ⟨by decide +kernel, rfl⟩
theorem e_X11_hurries_168 : g_dc cX11_hurries 168 (.iaload) 1 169 := ⟨by decide +kernel, rfl⟩
theorem e_X11_hurries_169 : g_dc cX11_hurries 169 (.idiv) 1 170 := ⟨by decide +kernel, rfl⟩
theorem e_X11_hurries_170 : g_dc cX11_hurries 170 (.istore 7) 2 172 := ⟨by decide +kernel, rfl⟩
theorem e_X11_hurries_172 : g_dc cX11_hurries 172 (.iload 7) 2 174 := ⟨by decide +kernel, rfl⟩
theorem e_X11_hurries_174 : g_dc cX11_hurries 174 (.iload 5) 2 176 := ⟨by decide +kernel, rfl⟩
theorem e_X11_hurries_176 : g_dc cX11_hurries 176 (.if_icmp .le 20) 3 179 := ⟨by decide +kernel, rfl⟩
theorem e_X11_hurries_179 : g_dc cX11_hurries 179 (.aload_n 0) 1 180 := ⟨by decide +kernel, rfl⟩
theorem e_X11_hurries_180 : g_dc cX11_hurries 180 (.getfield 92) 3 183 := ⟨by decide +kernel, rfl⟩
theorem e_X11_hurries_183 : g_dc cX11_hurries 183 (.iload_n 1) 1 184 := ⟨by decide +kernel, rfl⟩
theorem e_X11_hurries_184 : g_dc cX11_hurries 184 (.iconst 1) 1 185 := ⟨by decide +kernel, rfl⟩
theorem e_X11_hurries_185 : g_dc cX11_hurries 185 (.iastore) 1 186 := ⟨by decide +kernel, rfl⟩
theorem e_X11_hurries_186 : g_dc cX11_hurries 186 (.aload_n 0) 1 187 := ⟨by decide +kernel, rfl⟩
theorem e_X11_hurries_187 : g_dc cX11_hurries 187 (.getfield 89) 3 190 := ⟨by decide +kernel, rfl⟩
theorem e_X11_hurries_190 : g_dc cX11_hurries 190 (.iload_n 1) 1 191 := ⟨by decide +kernel, rfl⟩
theorem e_X11_hurries_191 : g_dc cX11_hurries 191 (.iconst 0) 1 192 := ⟨by decide +kernel, rfl⟩
theorem e_X11_hurries_192 : g_dc cX11_hurries 192 (.iastore) 1 193 := ⟨by decide +kernel, rfl⟩
theorem e_X11_hurries_193 : g_dc cX11_hurries 193 (.goto 24) 3 196 := ⟨by decide +kernel, rfl⟩
theorem e_X11_hurries_196 : g_dc cX11_hurries 196 (.iload 7) 2 198 := ⟨by decide +kernel, rfl⟩
theorem e_X11_hurries_198 : g_dc cX11_hurries 198 (.iload 5) 2 200 := ⟨by decide +kernel, rfl⟩
theorem e_X11_hurries_200 : g_dc cX11_hurries 200 (.iconst 2) 1 201 := ⟨by decide +kernel, rfl⟩
theorem e_X11_hurries_201 : g_dc cX11_hurries 201 (.idiv) 1 202 := ⟨by decide +kernel, rfl⟩
theorem e_X11_hurries_202 : g_dc cX11_hurries 202 (.if_icmp .le 15) 3 205 := ⟨by decide +kernel, rfl⟩
theorem e_X11_hurries_205 : g_dc cX11_hurries 205 (.aload_n 0) 1 206 := ⟨by decide +kernel, rfl⟩
theorem e_X11_hurries_206 : g_dc cX11_hurries 206 (.aload_n 0) 1 207 := ⟨by decide +kernel, rfl⟩
theorem e_X11_hurries_207 : g_dc cX11_hurries 207 (.getfield 334) 3 210 := ⟨by decide +kernel, rfl⟩
theorem e_X11_hurries_210 : g_dc cX11_hurries 210 (.iconst 1) 1 211 := ⟨by decide +kernel, rfl⟩
theorem e_X11_hurries_211 : g_dc cX11_hurries 211 (.iload_n 1) 1 212 := ⟨by decide +kernel, rfl⟩
theorem e_X11_hurries_212 : g_dc cX11_hurries 212 (.ishl) 1 213 := ⟨by decide +kernel, rfl⟩
theorem e_X11_hurries_213 : g_dc cX11_hurries 213 (.ior) 1 214 := ⟨by decide +kernel, rfl⟩
theorem e_X11_hurries_214 : g_dc cX11_hurries 214 (.putfield 334) 3 217 := ⟨by decide +kernel, rfl⟩
theorem e_X11_hurries_217 : g_dc cX11_hurries 217 (.iload 6) 2 219 := ⟨by decide +kernel, rfl⟩
theorem e_X11_hurries_219 : g_dc cX11_hurries 219 (.ifCond .eq 12) 3 222 := ⟨by decide +kernel, rfl⟩
theorem e_X11_hurries_222 : g_dc cX11_hurries 222 (.aload_n 0) 1 223 := ⟨by decide +kernel, rfl⟩
theorem e_X11_hurries_223 : g_dc cX11_hurries 223 (.getfield 95) 3 226 := ⟨by decide +kernel, rfl⟩
theorem e_X11_hurries_226 : g_dc cX11_hurries 226 (.iload_n 1) 1 227 := ⟨by decide +kernel, rfl⟩
theorem e_X11_hurries_227 : g_dc cX11_hurries 227 (.iaload) 1 228 := ⟨by decide +kernel, rfl⟩
theorem e_X11_hurries_228 : g_dc cX11_hurries 228 (.ifCond .ne 4) 3 231 := ⟨by decide +kernel, rfl⟩
theorem e_X11_hurries_231 : g_dc cX11_hurries 231 (.return_) 1 232 := ⟨by decide +kernel, rfl⟩
theorem e_X11_hurries_232 : g_dc cX11_hurries 232 (.aload_n 0) 1 233 := ⟨by decide +kernel, rfl⟩
theorem e_X11_hurries_233 : g_dc cX11_hurries 233 (.getfield 95) 3 236 := ⟨by decide +kernel, rfl⟩
theorem e_X11_hurries_236 : g_dc cX11_hurries 236 (.iload_n 1) 1 237 := ⟨by decide +kernel, rfl⟩
theorem e_X11_hurries_237 : g_dc cX11_hurries 237 (.aload_n 0) 1 238 := ⟨by decide +kernel, rfl⟩
theorem e_X11_hurries_238 : g_dc cX11_hurries 238 (.getfield 95) 3 241 := ⟨by decide +kernel, rfl⟩
theorem e_X11_hurries_241 : g_dc cX11_hurries 241 (.iload_n 1) 1 242 := ⟨by decide +kernel, rfl⟩
theorem e_X11_hurries_242 : g_dc cX11_hurries 242 (.iaload) 1 243 := ⟨by decide +kernel, rfl⟩
theorem e_X11_hurries_243 : g_dc cX11_hurries 243 (.iconst 1) 1 244 := ⟨by decide +kernel, rfl⟩
theorem e_X11_hurries_244 : g_dc cX11_hurries 244 (.isub) 1 245 := ⟨by decide +kernel, rfl⟩
theorem e_X11_hurries_245 : g_dc cX11_hurries 245 (.iastore) 1 246 := ⟨by decide +kernel, rfl⟩
theorem e_X11_hurries_246 : g_dc cX11_hurries 246 (.aload_n 0) 1 247 := ⟨by decide +kernel, rfl⟩
theorem e_X11_hurries_247 : g_dc cX11_hurries 247 (.aload_n 0) 1 248 := ⟨by decide +kernel, rfl⟩
theorem e_X11_hurries_248 : g_dc cX11_hurries 248 (.getfield 340) 3 251 := ⟨by decide +kernel, rfl⟩
theorem e_X11_hurries_251 : g_dc cX11_hurries 251 (.iconst 1) 1 252 := ⟨by decide +kernel, rfl⟩
theorem e_X11_hurries_252 : g_dc cX11_hurries 252 (.iload_n 1) 1 253 := ⟨by decide +kernel, rfl⟩
theorem e_X11_hurries_253 : g_dc cX11_hurries 253 (.ishl) 1 254 := ⟨by decide +kernel, rfl⟩
theorem e_X11_hurries_254 : g_dc cX11_hurries 254 (.ior) 1 255 := ⟨by decide +kernel, rfl⟩
theorem e_X11_hurries_255 : g_dc cX11_hurries 255 (.putfield 340) 3 258 := ⟨by decide +kernel, rfl⟩
theorem e_X11_hurries_258 : g_dc cX11_hurries 258 (.return_) 1 259 := ⟨by decide +kernel, rfl⟩
def md_X11_hurries : List Nat := [65, 67]
def mr_X11_hurries : List Nat := [23, 24, 27, 28, 29]
set_option maxHeartbeats 4000000 in
set_option maxRecDepth 100000 in
theorem w_X11_hurries (l : Launch) (X : gX) (ad : Nat → Nat) (F : Nat → Int32) (R : Nat → Nat → Int32) (hI : g_ok LK_wM F) (hA : g_okR LA_wM R) (hWT : WT F R) (hWC : WC F R) (a0 : Int32) (pa0 : jv 0 9 a0) (hpn : WN F R) (hpb : hb (F 42) a0) : g_Cv l X yX11_hurries cX11_hurries 8 4 0 0 [.ref (ad 0), .int a0] (wM X ad F R) (fun w => ∃ (F' : Nat → Int32) (R' : Nat → Nat → Int32), w = wM X ad F' R' ∧ g_ok LK_wM F' ∧ g_okR LA_wM R' ∧ WT F' R' ∧ WC F' R' ∧ g_fr md_X11_hurries F F' ∧ g_fr mr_X11_hurries R R' ∧ (F', R') = sp_X11_hurries F R a0) := by
  refine g_mv (by decide +kernel) (Nat.le_of_ble_eq_true rfl) (fun E cx hret => ?_)
  obtain ⟨SP, hSP⟩ : ∃ z, z = sp_X11_hurries F R a0 := ⟨_, rfl⟩
  have hk0 := hSP
  unfold sp_X11_hurries at hk0
  refine g_aload_n cx 0 rfl e_X11_hurries_0 ?_
  refine g_iload_n cx 1 rfl e_X11_hurries_1 ?_
  refine g_cVvW cx [.int a0] [] (w_X11_feels l X ad F R hI hA hWT hWC a0 pa0) ml_X11_359 yV_X11_feels e_X11_hurries_2 (by unfold g_rr; decide) (by decide) 0 rfl rfl rfl (Nat.le_of_ble_eq_true rfl) (fun w2 h3 => ?_)
  obtain ⟨F5, R6, rfl, oF5, oR6, wTF5, wCF5, cF5, cR6, hx4⟩ := h3
  have hk7 := k_ls2 hk0 hx4
  have fF5 : g_fr md_X11_hurries F F5 := g_fr_c (g_fr_rf F) cF5 rfl
  have fR6 : g_fr mr_X11_hurries R R6 := g_fr_c (g_fr_rf R) cR6 rfl
  refine g_aload_n cx 0 rfl e_X11_hurries_5 ?_
  refine g_get cx cl_X11 fl_X11_89 0 (.ref (ad 27)) e_X11_hurries_6 rfl rfl ?_
  refine g_iload_n cx 1 rfl e_X11_hurries_9 ?_
  refine g_iald cx 27 e_X11_hurries_10 rfl (jv_ix 10 pa0 (by decide)) ?_
  refine g_topi (fun x8 ex8 => ?_)
  have hk9 := k_ls hk7 ex8
  refine g_istore_n cx [(2, .int x8), (0, .ref (ad 0)), (1, .int a0)] e_X11_hurries_11 (by decide) rfl ?_
  refine g_iload_n cx 0 rfl e_X11_hurries_12 ?_
  refine g_istore_n cx [(3, .int x8), (2, .int x8), (0, .ref (ad 0)), (1, .int a0)] e_X11_hurries_13 (by decide) rfl ?_
  refine g_aload_n cx 2 rfl e_X11_hurries_14 ?_
  refine g_get cx cl_X11 fl_X11_362 0 (.int (F5 69)) e_X11_hurries_15 rfl rfl ?_
  refine g_toi (F 69) (cF5 69 rfl) ?_
  refine g_iload_n cx 3 rfl e_X11_hurries_18 ?_
  refine g_cSiW cx [.int (F 69), .int a0] [] (c_X11_has l X (wM X ad F5 R6) (F 69) a0) ml_X11_175 yS_X11_has rfl e_X11_hurries_19 (by unfold g_rr; decide) (by decide) rfl (Nat.le_of_ble_eq_true rfl) (fun r10 w11 h12 => ?_)
  obtain ⟨rfl, hr10⟩ := h12
  have pr10 : jv 0 1 r10 := by rcases hr10 with q | q <;> rw [q.1] <;> exact ⟨by decide, by decide⟩
  have hk13 := k_ls hk9 (g_has_e hr10)
  have J106 : ∀ (F15 : Nat → Int32) (R16 : Nat → Nat → Int32) (y14 : Int32), (g_ok LK_wM F15) → (g_fr md_X11_hurries F F15) → (g_okR LA_wM R16) → (g_fr mr_X11_hurries R R16) → (WT F15 R16) → (WC F15 R16) → (jv (-2147483648) 2147483647 y14) → (SP = K_X11_hurries_106 a0 x8 F15 R16 y14) → G X E 8 0 0 (wM X ad F15 R16) [(0, .ref (ad 0)), (1, .int a0), (2, .int x8), (3, .int y14)] 106 [] := by
    intro F15 R16 y14 oF15 fF15 oR16 fR16 wTF15R16 wCF15R16 py14 hkJ106
    unfold K_X11_hurries_106 at hkJ106
    refine g_iload_n cx 3 rfl e_X11_hurries_106 ?_
    refine g_iload_n cx 2 rfl e_X11_hurries_107 ?_
    refine g_isub cx e_X11_hurries_108 ?_
    refine g_topi (fun x17 ex17 => ?_)
    have hk18 := k_ls hkJ106 ex17
    refine g_cSiW cx [.int x17] [] (w_X11_size l X ad F15 R16 oF15 oR16 x17) ml_X11_374 yS_X11_size rfl e_X11_hurries_109 (by unfold g_rr; decide) (by decide) rfl (Nat.le_of_ble_eq_true rfl) (fun r19 w20 h21 => ?_)
    obtain ⟨rfl, pr19, hx22⟩ := h21
    have hk23 := k_ls hk18 hx22
    refine g_istore cx [(4, .int r19), (0, .ref (ad 0)), (1, .int a0), (2, .int x8), (3, .int y14)] e_X11_hurries_112 (by decide) rfl ?_
    refine g_aload_n cx 1 rfl e_X11_hurries_114 ?_
    refine g_bipush cx 98 (by decide) e_X11_hurries_115 ?_
    refine g_iconst cx 0 (by decide) e_X11_hurries_117 ?_
    refine g_sipush cx 999 (by decide) e_X11_hurries_118 ?_
    refine g_cViW cx [.int 98, .int 0, .int 999] [] (w_X11_byLaw l X ad F15 R16 oF15 oR16 wTF15R16 wCF15R16 98 0 999) ml_X11_353 yV_X11_byLaw e_X11_hurries_121 (by unfold g_rr; decide) (by decide) 0 rfl rfl rfl (Nat.le_of_ble_eq_true rfl) (fun r24 w25 h26 => ?_)
    obtain ⟨F28, R29, rfl, oF28, oR29, wTF28, wCF28, cF28, cR29, pr24, hx27⟩ := h26
    have hk30 := k_ls3 hk23 hx27
    have fF28 : g_fr md_X11_hurries F F28 := g_fr_c fF15 cF28 rfl
    have fR29 : g_fr mr_X11_hurries R R29 := g_fr_c fR16 cR29 rfl
    refine g_istore cx [(5, .int r24), (4, .int r19), (0, .ref (ad 0)), (1, .int a0), (2, .int x8), (3, .int y14)] e_X11_hurries_124 (by decide) rfl ?_
    refine g_iload cx 1 rfl e_X11_hurries_126 ?_
    refine g_aload_n cx 2 rfl e_X11_hurries_128 ?_
    refine g_bipush cx 122 (by decide) e_X11_hurries_129 ?_
    refine g_iconst cx 0 (by decide) e_X11_hurries_131 ?_
    refine g_bipush cx 99 (by decide) e_X11_hurries_132 ?_
    refine g_cViW cx [.int 122, .int 0, .int 99] [.int r19] (w_X11_byLaw l X ad F28 R29 oF28 oR29 wTF28 wCF28 122 0 99) ml_X11_353 yV_X11_byLaw e_X11_hurries_134 (by unfold g_rr; decide) (by decide) 0 rfl rfl rfl (Nat.le_of_ble_eq_true rfl) (fun r31 w32 h33 => ?_)
    obtain ⟨F35, R36, rfl, oF35, oR36, wTF35, wCF35, cF35, cR36, pr31, hx34⟩ := h33
    have hk37 := k_ls3 hk30 hx34
    have fF35 : g_fr md_X11_hurries F F35 := g_fr_c fF28 cF35 rfl
    have fR36 : g_fr mr_X11_hurries R R36 := g_fr_c fR29 cR36 rfl
    have J145 : ∀ (y38 : Int32), (jv 0 1 y38) → (SP = K_X11_hurries_145 F15 F35 R36 a0 r19 r24 y14 y38) → G X E 8 0 0 (wM X ad F35 R36) [(0, .ref (ad 0)), (1, .int a0), (3, .int y14), (4, .int r19), (5, .int r24)] 145 [.int y38] := by
      intro y38 py38 hkJ145
      unfold K_X11_hurries_145 at hkJ145
      refine g_istore cx [(6, .int y38), (0, .ref (ad 0)), (1, .int a0), (3, .int y14), (4, .int r19), (5, .int r24)] e_X11_hurries_145 (by decide) rfl ?_
      refine g_aload_n cx 1 rfl e_X11_hurries_147 ?_
      refine g_get cx cl_X11 fl_X11_89 0 (.ref (ad 27)) e_X11_hurries_148 rfl rfl ?_
      refine g_iload_n cx 2 rfl e_X11_hurries_151 ?_
      refine g_iload_n cx 3 rfl e_X11_hurries_152 ?_
      refine g_iast cx 27 (wM X ad F35 (g_u R36 27 (upd (R36 27) (Int32.toNatClampNeg a0) y14))) e_X11_hurries_153 rfl (jv_ix 10 pa0 (by decide)) rfl ?_
      obtain ⟨R39, hR39⟩ : ∃ z, z = g_u R36 27 (upd (R36 27) (Int32.toNatClampNeg a0) y14) := ⟨_, rfl⟩
      rw [← hR39]
      have hk40 := k_ls hkJ145 hR39
      have oR39 : g_okR LA_wM R39 := by rw [hR39]; exact g_okR_u oR36 rfl
      have fR39 : g_fr mr_X11_hurries R R39 := by rw [hR39]; exact g_fr_r fR36 rfl
      have wTR39 : WT F35 R39 := by rw [hR39]; exact WT_r wTF35 rfl
      have wCR39 : WC F35 R39 := by rw [hR39]; exact WC_r wCF35 rfl
      refine g_iload cx 4 rfl e_X11_hurries_154 ?_
      refine g_aload_n cx 1 rfl e_X11_hurries_156 ?_
      refine g_get cx cl_X11 fl_X11_101 0 (.ref (ad 31)) e_X11_hurries_157 rfl rfl ?_
      refine g_iload_n cx 2 rfl e_X11_hurries_160 ?_
      refine g_iald cx 31 e_X11_hurries_161 rfl (jv_ix 10 pa0 (by decide)) ?_
      refine g_topi (fun x41 ex41 => ?_)
      have hk42 := k_ls hk40 ex41
      refine g_imul cx e_X11_hurries_162 ?_
      refine g_topi (fun x43 ex43 => ?_)
      have hk44 := k_ls hk42 ex43
      refine g_aload_n cx 1 rfl e_X11_hurries_163 ?_
      refine g_get cx cl_X11 fl_X11_16 0 (.ref (ad 3)) e_X11_hurries_164 rfl rfl ?_
      refine g_iload_n cx 2 rfl e_X11_hurries_167 ?_
      refine g_iald cx 3 e_X11_hurries_168 rfl (jv_ix 10 pa0 (by decide)) ?_
      refine g_topi (fun x45 ex45 => ?_)
      have hk46 := k_ls hk44 ex45
      have p47 : jv 0 40 x45 := by rw [ex45]; exact g_okR_g oR39 6 rfl (jv_cl 10 pa0 (by decide))
      refine g_idiv cx (g_nz0 (wn_foot hpn pa0 hpb (ex45.trans (by rw [show R39 3 = R 3 from ((((g_ru2 hR39 rfl).trans (cR36 3 rfl)).trans (cR29 3 rfl)).trans (fR16 3 rfl))]))) (by decide)) e_X11_hurries_169 ?_
      refine g_topi (fun x48 ex48 => ?_)
      have hk49 := k_ls hk46 ex48
      refine g_istore cx [(7, .int x48), (6, .int y38), (0, .ref (ad 0)), (1, .int a0), (3, .int y14), (4, .int r19), (5, .int r24)] e_X11_hurries_170 (by decide) rfl ?_
      refine g_iload cx 0 rfl e_X11_hurries_172 ?_
      refine g_iload cx 6 rfl e_X11_hurries_174 ?_
      have J217 : ∀ (F50 : Nat → Int32) (R51 : Nat → Nat → Int32), (g_ok LK_wM F50) → (g_fr md_X11_hurries F F50) → (g_okR LA_wM R51) → (g_fr mr_X11_hurries R R51) → (WT F50 R51) → (WC F50 R51) → (SP = K_X11_hurries_217 a0 y38 F50 R51) → G X E 8 0 0 (wM X ad F50 R51) [(0, .ref (ad 0)), (1, .int a0), (6, .int y38)] 217 [] := by
        intro F50 R51 oF50 fF50 oR51 fR51 wTF50R51 wCF50R51 hkJ217
        unfold K_X11_hurries_217 at hkJ217
        refine g_iload cx 2 rfl e_X11_hurries_217 ?_
        have J231 : (SP = K_X11_hurries_231 F50 R51) → G X E 8 0 0 (wM X ad F50 R51) [] 231 [] := by
          intro   hkJ231
          unfold K_X11_hurries_231 at hkJ231
          exact hret e_X11_hurries_231 (Nat.le_of_ble_eq_true rfl) (Nat.le_of_ble_eq_true rfl) ⟨F50, R51, rfl, oF50, oR51, wTF50R51, wCF50R51, fF50, fR51, (hkJ231.symm.trans hSP)⟩
        refine g_if_eq cx 231 e_X11_hurries_219 (by decide) (fun zc52 => ?_) (fun zc52 => ?_)
        · have p53 := gn_eq 0 0 (gc_eq zc52) py38 (jv_k (x := 0) 0 (by decide)) (by decide)
          have hk54 := hkJ217.trans (if_pos zc52)
          refine g_lsub [] [] rfl ?_
          exact J231  hk54
        · have p55 := gn_neL 1 1 (gc_ne zc52) py38 (jv_k (x := 0) 0 (by decide)) (by decide)
          have hk56 := hkJ217.trans (if_neg zc52)
          refine g_aload_n cx 0 rfl e_X11_hurries_222 ?_
          refine g_get cx cl_X11 fl_X11_95 0 (.ref (ad 29)) e_X11_hurries_223 rfl rfl ?_
          refine g_iload_n cx 1 rfl e_X11_hurries_226 ?_
          refine g_iald cx 29 e_X11_hurries_227 rfl (jv_ix 10 pa0 (by decide)) ?_
          refine g_topi (fun x57 ex57 => ?_)
          have hk58 := k_ls hk56 ex57
          refine g_if_ne cx 232 e_X11_hurries_228 (by decide) (fun zc59 => ?_) (fun zc59 => ?_)
          · have hk60 := hk58.trans (if_neg zc59)
            refine g_aload_n cx 0 rfl e_X11_hurries_232 ?_
            refine g_get cx cl_X11 fl_X11_95 0 (.ref (ad 29)) e_X11_hurries_233 rfl rfl ?_
            refine g_iload_n cx 1 rfl e_X11_hurries_236 ?_
            refine g_aload_n cx 0 rfl e_X11_hurries_237 ?_
            refine g_get cx cl_X11 fl_X11_95 0 (.ref (ad 29)) e_X11_hurries_238 rfl rfl ?_
            refine g_iload_n cx 1 rfl e_X11_hurries_241 ?_
            refine g_iald cx 29 e_X11_hurries_242 rfl (jv_ix 10 pa0 (by decide)) ?_
            refine g_topi (fun x61 ex61 => ?_)
            have hk62 := k_ls hk60 ex61
            refine g_iconst cx 1 (by decide) e_X11_hurries_243 ?_
            refine g_isub cx e_X11_hurries_244 ?_
            refine g_topi (fun x63 ex63 => ?_)
            have hk64 := k_ls hk62 ex63
            refine g_iast cx 29 (wM X ad F50 (g_u R51 29 (upd (R51 29) (Int32.toNatClampNeg a0) x63))) e_X11_hurries_245 rfl (jv_ix 10 pa0 (by decide)) rfl ?_
            obtain ⟨R65, hR65⟩ : ∃ z, z = g_u R51 29 (upd (R51 29) (Int32.toNatClampNeg a0) x63) := ⟨_, rfl⟩
            rw [← hR65]
            have hk66 := k_ls hk64 hR65
            have oR65 : g_okR LA_wM R65 := by rw [hR65]; exact g_okR_u oR51 rfl
            have fR65 : g_fr mr_X11_hurries R R65 := by rw [hR65]; exact g_fr_r fR51 rfl
            have wTR65 : WT F50 R65 := by rw [hR65]; exact WT_r wTF50R51 rfl
            have wCR65 : WC F50 R65 := by rw [hR65]; exact WC_r wCF50R51 rfl
            refine g_aload_n cx 0 rfl e_X11_hurries_246 ?_
            refine g_aload_n cx 0 rfl e_X11_hurries_247 ?_
            refine g_get cx cl_X11 fl_X11_340 0 (.int (F50 67)) e_X11_hurries_248 rfl rfl ?_
            refine g_iconst cx 1 (by decide) e_X11_hurries_251 ?_
            refine g_iload_n cx 1 rfl e_X11_hurries_252 ?_
            refine g_ishl cx e_X11_hurries_253 ?_
            refine g_topi (fun x67 ex67 => ?_)
            have hk68 := k_ls hk66 ex67
            refine g_ior cx e_X11_hurries_254 ?_
            refine g_topi (fun x69 ex69 => ?_)
            have hk70 := k_ls hk68 ex69
            refine g_put cx cl_X11 fl_X11_340 0 (wM X ad (upd F50 67 x69) R65) e_X11_hurries_255 rfl rfl rfl rfl (Nat.le_of_ble_eq_true rfl) rfl ?_
            obtain ⟨F71, hF71⟩ : ∃ z, z = upd F50 67 x69 := ⟨_, rfl⟩
            rw [← hF71]
            have hk72 := k_ls hk70 hF71
            have oF71 : g_ok LK_wM F71 := by rw [hF71]; exact g_ok_u oF50 rfl
            have fF71 : g_fr md_X11_hurries F F71 := by rw [hF71]; exact g_fr_u fF50 rfl
            have wTF71 : WT F71 R65 := by rw [hF71]; exact WT_u wTR65 rfl
            have wCF71 : WC F71 R65 := by rw [hF71]; exact WC_u wCR65 rfl
            exact hret e_X11_hurries_258 (Nat.le_of_ble_eq_true rfl) (Nat.le_of_ble_eq_true rfl) ⟨F71, R65, rfl, oF71, oR65, wTF71, wCF71, fF71, fR65, (hk72.symm.trans hSP)⟩
          · have p73 := gn_eq 0 0 (gc_eq zc59) (jv_t x57) (jv_k (x := 0) 0 (by decide)) (by decide)
            have hk74 := hk58.trans (if_pos zc59)
            refine g_lsub [] [] rfl ?_
            exact J231  hk74
      refine g_icmp_le cx 196 e_X11_hurries_176 (by decide) (fun zc75 => ?_) (fun zc75 => ?_)
      · have hk76 := hk49.trans (if_pos zc75)
        refine g_iload cx 0 rfl e_X11_hurries_196 ?_
        refine g_iload cx 6 rfl e_X11_hurries_198 ?_
        refine g_iconst cx 2 (by decide) e_X11_hurries_200 ?_
        refine g_idiv cx (by decide) e_X11_hurries_201 ?_
        refine g_topi (fun x77 ex77 => ?_)
        have hk78 := k_ls hk76 ex77
        refine g_icmp_le cx 217 e_X11_hurries_202 (by decide) (fun zc79 => ?_) (fun zc79 => ?_)
        · have hk80 := hk78.trans (if_pos zc79)
          refine g_lsub [2, 3, 1] [(0, .ref (ad 0)), (1, .int a0), (6, .int y38)] rfl ?_
          exact J217 F35 R39 oF35 fF35 oR39 fR39 wTR39 wCR39 hk80
        · have p81 := gn_lt (-2147483648) 2147483646 (gc_nle zc79) (jv_t x77) (jv_t x48) (by decide)
          have p82 := gn_gt (-2147483647) 2147483647 (gc_nle zc79) (jv_t x48) (jv_t x77) (by decide)
          have hk83 := hk78.trans (if_neg zc79)
          refine g_aload_n cx 2 rfl e_X11_hurries_205 ?_
          refine g_aload_n cx 2 rfl e_X11_hurries_206 ?_
          refine g_get cx cl_X11 fl_X11_334 0 (.int (F35 65)) e_X11_hurries_207 rfl rfl ?_
          refine g_toi (F15 65) ((cF35 65 rfl).trans (cF28 65 rfl)) ?_
          refine g_iconst cx 1 (by decide) e_X11_hurries_210 ?_
          refine g_iload_n cx 3 rfl e_X11_hurries_211 ?_
          refine g_ishl cx e_X11_hurries_212 ?_
          refine g_topi (fun x84 ex84 => ?_)
          have hk85 := k_ls hk83 ex84
          refine g_ior cx e_X11_hurries_213 ?_
          refine g_topi (fun x86 ex86 => ?_)
          have hk87 := k_ls hk85 ex86
          refine g_put cx cl_X11 fl_X11_334 0 (wM X ad (upd F35 65 x86) R39) e_X11_hurries_214 rfl rfl rfl rfl (Nat.le_of_ble_eq_true rfl) rfl ?_
          obtain ⟨F88, hF88⟩ : ∃ z, z = upd F35 65 x86 := ⟨_, rfl⟩
          rw [← hF88]
          have hk89 := k_ls hk87 hF88
          have oF88 : g_ok LK_wM F88 := by rw [hF88]; exact g_ok_u oF35 rfl
          have fF88 : g_fr md_X11_hurries F F88 := by rw [hF88]; exact g_fr_u fF35 rfl
          have wTF88 : WT F88 R39 := by rw [hF88]; exact WT_u wTR39 rfl
          have wCF88 : WC F88 R39 := by rw [hF88]; exact WC_u wCR39 rfl
          refine g_lsub [2, 3, 1] [(0, .ref (ad 0)), (1, .int a0), (6, .int y38)] rfl ?_
          exact J217 F88 R39 oF88 fF88 oR39 fR39 wTF88 wCF88 hk89
      · have p90 := gn_lt (-2147483648) 2147483646 (gc_nle zc75) pr24 (jv_t x48) (by decide)
        have p91 := gn_gt (-2147483647) 2147483647 (gc_nle zc75) (jv_t x48) pr24 (by decide)
        have hk92 := hk49.trans (if_neg zc75)
        refine g_aload_n cx 2 rfl e_X11_hurries_179 ?_
        refine g_get cx cl_X11 fl_X11_92 0 (.ref (ad 28)) e_X11_hurries_180 rfl rfl ?_
        refine g_iload_n cx 3 rfl e_X11_hurries_183 ?_
        refine g_iconst cx 1 (by decide) e_X11_hurries_184 ?_
        refine g_iast cx 28 (wM X ad F35 (g_u R39 28 (upd (R39 28) (Int32.toNatClampNeg a0) 1))) e_X11_hurries_185 rfl (jv_ix 10 pa0 (by decide)) rfl ?_
        obtain ⟨R93, hR93⟩ : ∃ z, z = g_u R39 28 (upd (R39 28) (Int32.toNatClampNeg a0) 1) := ⟨_, rfl⟩
        rw [← hR93]
        have hk94 := k_ls hk92 hR93
        have oR93 : g_okR LA_wM R93 := by rw [hR93]; exact g_okR_u oR39 rfl
        have fR93 : g_fr mr_X11_hurries R R93 := by rw [hR93]; exact g_fr_r fR39 rfl
        have wTR93 : WT F35 R93 := by rw [hR93]; exact WT_r wTR39 rfl
        have wCR93 : WC F35 R93 := by rw [hR93]; exact WC_r wCR39 rfl
        refine g_aload_n cx 2 rfl e_X11_hurries_186 ?_
        refine g_get cx cl_X11 fl_X11_89 0 (.ref (ad 27)) e_X11_hurries_187 rfl rfl ?_
        refine g_iload_n cx 3 rfl e_X11_hurries_190 ?_
        refine g_iconst cx 0 (by decide) e_X11_hurries_191 ?_
        refine g_iast cx 27 (wM X ad F35 (g_u R93 27 (upd (R93 27) (Int32.toNatClampNeg a0) 0))) e_X11_hurries_192 rfl (jv_ix 10 pa0 (by decide)) rfl ?_
        obtain ⟨R95, hR95⟩ : ∃ z, z = g_u R93 27 (upd (R93 27) (Int32.toNatClampNeg a0) 0) := ⟨_, rfl⟩
        rw [← hR95]
        have hk96 := k_ls hk94 hR95
        have oR95 : g_okR LA_wM R95 := by rw [hR95]; exact g_okR_u oR93 rfl
        have fR95 : g_fr mr_X11_hurries R R95 := by rw [hR95]; exact g_fr_r fR93 rfl
        have wTR95 : WT F35 R95 := by rw [hR95]; exact WT_r wTR93 rfl
        have wCR95 : WC F35 R95 := by rw [hR95]; exact WC_r wCR93 rfl
        refine g_goto cx 217 e_X11_hurries_193 (by decide) ?_
        refine g_lsub [2, 3, 1] [(0, .ref (ad 0)), (1, .int a0), (6, .int y38)] rfl ?_
        exact J217 F35 R95 oF35 fF35 oR95 fR95 wTR95 wCR95 hk96
    refine g_icmp_le cx 144 e_X11_hurries_137 (by decide) (fun zc97 => ?_) (fun zc97 => ?_)
    · have hk98 := hk37.trans (if_pos zc97)
      refine g_iconst cx 0 (by decide) e_X11_hurries_144 ?_
      refine g_lsub [2, 3, 5, 1, 0] [(0, .ref (ad 0)), (1, .int a0), (3, .int y14), (4, .int r19), (5, .int r24)] rfl ?_
      exact J145 0 (jv_w (jv_k (x := 0) 0 (by decide)) (by decide)) hk98
    · have p99 := gn_lt (-2147483648) 2147483646 (gc_nle zc97) pr31 pr19 (by decide)
      have p100 := gn_gt (-2147483647) 2147483647 (gc_nle zc97) pr19 pr31 (by decide)
      have hk101 := hk37.trans (if_neg zc97)
      refine g_iconst cx 1 (by decide) e_X11_hurries_140 ?_
      refine g_goto cx 145 e_X11_hurries_141 (by decide) ?_
      refine g_lsub [2, 3, 5, 1, 0] [(0, .ref (ad 0)), (1, .int a0), (3, .int y14), (4, .int r19), (5, .int r24)] rfl ?_
      exact J145 1 (jv_w (jv_k (x := 1) 1 (by decide)) (by decide)) hk101
  refine g_if_eq cx 90 e_X11_hurries_22 (by decide) (fun zc102 => ?_) (fun zc102 => ?_)
  · have p103 := gn_eq 0 0 (gc_eq zc102) pr10 (jv_k (x := 0) 0 (by decide)) (by decide)
    have hk104 := hk13.trans (if_pos zc102)
    refine g_iconst cx 0 (by decide) e_X11_hurries_90 ?_
    refine g_iload_n cx 1 rfl e_X11_hurries_91 ?_
    refine g_aload_n cx 2 rfl e_X11_hurries_92 ?_
    refine g_bipush cx 115 (by decide) e_X11_hurries_93 ?_
    refine g_iconst cx 1 (by decide) e_X11_hurries_95 ?_
    refine g_bipush cx 40 (by decide) e_X11_hurries_96 ?_
    refine g_cViW cx [.int 115, .int 1, .int 40] [.int x8, .int 0] (w_X11_byLaw l X ad F5 R6 oF5 oR6 wTF5 wCF5 115 1 40) ml_X11_353 yV_X11_byLaw e_X11_hurries_98 (by unfold g_rr; decide) (by decide) 0 rfl rfl rfl (Nat.le_of_ble_eq_true rfl) (fun r105 w106 h107 => ?_)
    obtain ⟨F109, R110, rfl, oF109, oR110, wTF109, wCF109, cF109, cR110, pr105, hx108⟩ := h107
    have hk111 := k_ls3 hk104 hx108
    have fF109 : g_fr md_X11_hurries F F109 := g_fr_c fF5 cF109 rfl
    have fR110 : g_fr mr_X11_hurries R R110 := g_fr_c fR6 cR110 rfl
    refine g_isub cx e_X11_hurries_101 ?_
    refine g_topi (fun x112 ex112 => ?_)
    have hk113 := k_ls hk111 ex112
    refine g_cSiW cx [.int 0, .int x112] [] (w_X11_max l X ad F109 R110 oF109 oR110 0 x112) ml_X11_371 yS_X11_max rfl e_X11_hurries_102 (by unfold g_rr; decide) (by decide) rfl (Nat.le_of_ble_eq_true rfl) (fun r114 w115 h116 => ?_)
    obtain ⟨rfl, pr114, hx117⟩ := h116
    have hk118 := k_ls hk113 hx117
    refine g_istore_n cx [(3, .int r114), (2, .int x8), (0, .ref (ad 0)), (1, .int a0)] e_X11_hurries_105 (by decide) rfl ?_
    refine g_lsub [2, 3, 1, 0] [(0, .ref (ad 0)), (1, .int a0), (2, .int x8), (3, .int r114)] rfl ?_
    exact J106 F109 R110 r114 oF109 fF109 oR110 fR110 wTF109 wCF109 pr114 hk118
  · have p119 := gn_neL 1 1 (gc_ne zc102) pr10 (jv_k (x := 0) 0 (by decide)) (by decide)
    have zb120 : hb (F 69) a0 := g_hasy hr10 zc102
    have hk121 := hk13.trans (if_neg zc102)
    refine g_iload_n cx 1 rfl e_X11_hurries_25 ?_
    refine g_aload_n cx 2 rfl e_X11_hurries_26 ?_
    refine g_get cx cl_X11 fl_X11_356 0 (.int (F5 47)) e_X11_hurries_27 rfl rfl ?_
    refine g_toi (F 47) (cF5 47 rfl) ?_
    have J57 : ∀ (F123 : Nat → Int32) (R124 : Nat → Nat → Int32) (y122 : Int32), (g_ok LK_wM F123) → (g_fr md_X11_hurries F F123) → (g_okR LA_wM R124) → (g_fr mr_X11_hurries R R124) → (WT F123 R124) → (WC F123 R124) → (jv (-2147483648) 2147483647 y122) → (SP = K_X11_hurries_57 a0 x8 F123 R124 y122) → G X E 8 0 0 (wM X ad F123 R124) [(0, .ref (ad 0)), (1, .int a0), (2, .int x8)] 57 [.int y122] := by
      intro F123 R124 y122 oF123 fF123 oR124 fR124 wTF123R124 wCF123R124 py122 hkJ57
      unfold K_X11_hurries_57 at hkJ57
      refine g_istore_n cx [(3, .int y122), (0, .ref (ad 0)), (1, .int a0), (2, .int x8)] e_X11_hurries_57 (by decide) rfl ?_
      refine g_iload_n cx 0 rfl e_X11_hurries_58 ?_
      refine g_aload_n cx 1 rfl e_X11_hurries_59 ?_
      refine g_aload_n cx 1 rfl e_X11_hurries_60 ?_
      refine g_get cx cl_X11 fl_X11_86 0 (.ref (ad 26)) e_X11_hurries_61 rfl rfl ?_
      refine g_iload_n cx 2 rfl e_X11_hurries_64 ?_
      refine g_iald cx 26 e_X11_hurries_65 rfl (jv_ix 10 pa0 (by decide)) ?_
      refine g_topi (fun x125 ex125 => ?_)
      have hk126 := k_ls hkJ57 ex125
      refine g_cViW cx [.int x125] [.int y122] (w_X11_foldPasses l X ad F123 R124 oF123 oR124 wTF123R124 wCF123R124 x125) ml_X11_368 yV_X11_foldPasses e_X11_hurries_66 (by unfold g_rr; decide) (by decide) 0 rfl rfl rfl (Nat.le_of_ble_eq_true rfl) (fun r127 w128 h129 => ?_)
      obtain ⟨rfl, pr127, hx130⟩ := h129
      have hk131 := k_ls hk126 hx130
      have J85 : ∀ (F133 : Nat → Int32) (R134 : Nat → Nat → Int32) (y132 : Int32), (g_ok LK_wM F133) → (g_fr md_X11_hurries F F133) → (g_okR LA_wM R134) → (g_fr mr_X11_hurries R R134) → (WT F133 R134) → (WC F133 R134) → (jv (-2147483648) 2147483647 y132) → (SP = K_X11_hurries_85 a0 x8 y122 F133 R134 y132) → G X E 8 0 0 (wM X ad F133 R134) [(0, .ref (ad 0)), (1, .int a0), (2, .int x8)] 85 [.int y132, .int y122] := by
        intro F133 R134 y132 oF133 fF133 oR134 fR134 wTF133R134 wCF133R134 py132 hkJ85
        unfold K_X11_hurries_85 at hkJ85
        refine g_iadd cx e_X11_hurries_85 ?_
        refine g_topi (fun x135 ex135 => ?_)
        have hk136 := k_ls hkJ85 ex135
        refine g_istore_n cx [(3, .int x135), (0, .ref (ad 0)), (1, .int a0), (2, .int x8)] e_X11_hurries_86 (by decide) rfl ?_
        refine g_goto cx 106 e_X11_hurries_87 (by decide) ?_
        refine g_lsub [1, 2, 3, 0] [(0, .ref (ad 0)), (1, .int a0), (2, .int x8), (3, .int x135)] rfl ?_
        exact J106 F133 R134 x135 oF133 fF133 oR134 fR134 wTF133R134 wCF133R134 (jv_t x135) hk136
      refine g_if_eq cx 84 e_X11_hurries_69 (by decide) (fun zc137 => ?_) (fun zc137 => ?_)
      · have p138 := gn_eq 0 0 (gc_eq zc137) pr127 (jv_k (x := 0) 0 (by decide)) (by decide)
        have hk139 := hk131.trans (if_pos zc137)
        refine g_iconst cx 0 (by decide) e_X11_hurries_84 ?_
        refine g_lsub [1, 2, 3] [(0, .ref (ad 0)), (1, .int a0), (2, .int x8)] rfl ?_
        exact J85 F123 R124 0 oF123 fF123 oR124 fR124 wTF123R124 wCF123R124 (jv_w (jv_k (x := 0) 0 (by decide)) (by decide)) hk139
      · have p140 := gn_neL 1 1 (gc_ne zc137) pr127 (jv_k (x := 0) 0 (by decide)) (by decide)
        have hk141 := hk131.trans (if_neg zc137)
        refine g_aload_n cx 1 rfl e_X11_hurries_72 ?_
        refine g_bipush cx 106 (by decide) e_X11_hurries_73 ?_
        refine g_iconst cx 0 (by decide) e_X11_hurries_75 ?_
        refine g_bipush cx 40 (by decide) e_X11_hurries_76 ?_
        refine g_cViW cx [.int 106, .int 0, .int 40] [.int y122] (w_X11_byLaw l X ad F123 R124 oF123 oR124 wTF123R124 wCF123R124 106 0 40) ml_X11_353 yV_X11_byLaw e_X11_hurries_78 (by unfold g_rr; decide) (by decide) 0 rfl rfl rfl (Nat.le_of_ble_eq_true rfl) (fun r142 w143 h144 => ?_)
        obtain ⟨F146, R147, rfl, oF146, oR147, wTF146, wCF146, cF146, cR147, pr142, hx145⟩ := h144
        have hk148 := k_ls3 hk141 hx145
        have fF146 : g_fr md_X11_hurries F F146 := g_fr_c fF123 cF146 rfl
        have fR147 : g_fr mr_X11_hurries R R147 := g_fr_c fR124 cR147 rfl
        refine g_goto cx 85 e_X11_hurries_81 (by decide) ?_
        refine g_lsub [1, 2, 3] [(0, .ref (ad 0)), (1, .int a0), (2, .int x8)] rfl ?_
        exact J85 F146 R147 r142 oF146 fF146 oR147 fR147 wTF146 wCF146 pr142 hk148
    refine g_icmp_le cx 39 e_X11_hurries_30 (by decide) (fun zc149 => ?_) (fun zc149 => ?_)
    · have hk150 := hk121.trans (if_pos zc149)
      refine g_iload_n cx 1 rfl e_X11_hurries_39 ?_
      refine g_aload_n cx 2 rfl e_X11_hurries_40 ?_
      refine g_bipush cx 97 (by decide) e_X11_hurries_41 ?_
      refine g_iconst cx 0 (by decide) e_X11_hurries_43 ?_
      refine g_bipush cx 40 (by decide) e_X11_hurries_44 ?_
      refine g_cViW cx [.int 97, .int 0, .int 40] [.int x8] (w_X11_byLaw l X ad F5 R6 oF5 oR6 wTF5 wCF5 97 0 40) ml_X11_353 yV_X11_byLaw e_X11_hurries_46 (by unfold g_rr; decide) (by decide) 0 rfl rfl rfl (Nat.le_of_ble_eq_true rfl) (fun r151 w152 h153 => ?_)
      obtain ⟨F155, R156, rfl, oF155, oR156, wTF155, wCF155, cF155, cR156, pr151, hx154⟩ := h153
      have hk157 := k_ls3 hk150 hx154
      have fF155 : g_fr md_X11_hurries F F155 := g_fr_c fF5 cF155 rfl
      have fR156 : g_fr mr_X11_hurries R R156 := g_fr_c fR6 cR156 rfl
      refine g_iadd cx e_X11_hurries_49 ?_
      refine g_topi (fun x158 ex158 => ?_)
      have hk159 := k_ls hk157 ex158
      refine g_aload_n cx 2 rfl e_X11_hurries_50 ?_
      refine g_get cx cl_X11 fl_X11_356 0 (.int (F155 47)) e_X11_hurries_51 rfl rfl ?_
      refine g_toi (F 47) ((cF155 47 rfl).trans (cF5 47 rfl)) ?_
      refine g_cSiW cx [.int x158, .int (F 47)] [] (w_X11_min l X ad F155 R156 oF155 oR156 x158 (F 47)) ml_X11_365 yS_X11_min rfl e_X11_hurries_54 (by unfold g_rr; decide) (by decide) rfl (Nat.le_of_ble_eq_true rfl) (fun r160 w161 h162 => ?_)
      obtain ⟨rfl, pr160, hx163⟩ := h162
      have hk164 := k_ls hk159 hx163
      refine g_lsub [2, 3, 1] [(0, .ref (ad 0)), (1, .int a0), (2, .int x8)] rfl ?_
      exact J57 F155 R156 r160 oF155 fF155 oR156 fR156 wTF155 wCF155 pr160 hk164
    · have p165 := gn_lt (-2147483648) 2147483646 (gc_nle zc149) (jv_t (F 47)) (jv_t x8) (by decide)
      have p166 := gn_gt (-2147483647) 2147483647 (gc_nle zc149) (jv_t x8) (jv_t (F 47)) (by decide)
      have hk167 := hk121.trans (if_neg zc149)
      refine g_iload_n cx 1 rfl e_X11_hurries_33 ?_
      refine g_iconst cx 1 (by decide) e_X11_hurries_34 ?_
      refine g_isub cx e_X11_hurries_35 ?_
      refine g_topi (fun x168 ex168 => ?_)
      have hk169 := k_ls hk167 ex168
      have zx168 := jv_sub (-2147483648) 2147483646 ex168 p166 (jv_k (x := 1) 1 (by decide)) (by decide)
      refine g_goto cx 57 e_X11_hurries_36 (by decide) ?_
      refine g_lsub [2, 3, 1] [(0, .ref (ad 0)), (1, .int a0), (2, .int x8)] rfl ?_
      exact J57 F5 R6 x168 oF5 fF5 oR6 fR6 wTF5 wCF5 (jv_w zx168.2 (by decide)) hk169
def K_X11_goes_35 (F : Nat → Int32) (R11 : Nat → Nat → Int32) : (Nat → Int32) × (Nat → Nat → Int32) :=
  (F, R11)
def sp_X11_goes (F : Nat → Int32) (R : Nat → Nat → Int32) (a0 : Int32) : (Nat → Int32) × (Nat → Nat → Int32) :=
  k_lt (R 26 (Int32.toNatClampNeg a0)) (fun x1 => k_lt (R 27 (Int32.toNatClampNeg a0)) (fun x3 => k_lt (x1 - x3) (fun x5 => k_lt (g_u R 26 (upd (R 26) (Int32.toNatClampNeg a0) x5)) (fun R7 => k_lt (R7 26 (Int32.toNatClampNeg a0)) (fun x9 => if 0 ≤ x9 then K_X11_goes_35 F R7 else k_lt (g_u R7 28 (upd (R7 28) (Int32.toNatClampNeg a0) 2)) (fun R17 => K_X11_goes_35 F R17))))))
theorem e_X11_goes_0 : g_dc cX11_goes 0 (.aload_n 0) 1 1 := ⟨by decide +kernel, rfl⟩
theorem e_X11_goes_1 : g_dc cX11_goes 1 (.getfield 86) 3 4 := ⟨by decide +kernel, rfl⟩
theorem e_X11_goes_4 : g_dc cX11_goes 4 (.iload_n 1) 1 5 := ⟨by decide +kernel, rfl⟩
theorem e_X11_goes_5 : g_dc cX11_goes 5 (.aload_n 0) 1 6 := ⟨by decide +kernel, rfl⟩
theorem e_X11_goes_6 : g_dc cX11_goes 6 (.getfield 86) 3 9 := ⟨by decide +kernel, rfl⟩
theorem e_X11_goes_9 : g_dc cX11_goes 9 (.iload_n 1) 1 10 := ⟨by decide +kernel, rfl⟩
theorem e_X11_goes_10 : g_dc cX11_goes 10 (.iaload) 1 11 := ⟨by decide +kernel, rfl⟩
theorem e_X11_goes_11 : g_dc cX11_goes 11 (.aload_n 0) 1 12 := ⟨by decide +kernel, rfl⟩
theorem e_X11_goes_12 : g_dc cX11_goes 12 (.getfield 89) 3 15 := ⟨by decide +kernel, rfl⟩
theorem e_X11_goes_15 : g_dc cX11_goes 15 (.iload_n 1) 1 16 := ⟨by decide +kernel, rfl⟩
theorem e_X11_goes_16 : g_dc cX11_goes 16 (.iaload) 1 17 := ⟨by decide +kernel, rfl⟩
theorem e_X11_goes_17 : g_dc cX11_goes 17 (.isub) 1 18 := ⟨by decide +kernel, rfl⟩
theorem e_X11_goes_18 : g_dc cX11_goes 18 (.iastore) 1 19 := ⟨by decide +kernel, rfl⟩
theorem e_X11_goes_19 : g_dc cX11_goes 19 (.aload_n 0) 1 20 := ⟨by decide +kernel, rfl⟩
theorem e_X11_goes_20 : g_dc cX11_goes 20 (.getfield 86) 3 23 := ⟨by decide +kernel, rfl⟩
theorem e_X11_goes_23 : g_dc cX11_goes 23 (.iload_n 1) 1 24 := ⟨by decide +kernel, rfl⟩
theorem e_X11_goes_24 : g_dc cX11_goes 24 (.iaload) 1 25 := ⟨by decide +kernel, rfl⟩
theorem e_X11_goes_25 : g_dc cX11_goes 25 (.ifCond .ge 10) 3 28 := ⟨by decide +kernel, rfl⟩
theorem e_X11_goes_28 : g_dc cX11_goes 28 (.aload_n 0) 1 29 := ⟨by decide +kernel, rfl⟩
theorem e_X11_goes_29 : g_dc cX11_goes 29 (.getfield 92) 3 32 := ⟨by decide +kernel, rfl⟩
theorem e_X11_goes_32 : g_dc cX11_goes 32 (.iload_n 1) 1 33 := ⟨by decide +kernel, rfl⟩
theorem e_X11_goes_33 : g_dc cX11_goes 33 (.iconst 2) 1 34 := ⟨by decide +kernel, rfl⟩
theorem e_X11_goes_34 : g_dc cX11_goes 34 (.iastore) 1 35 := ⟨by decide +kernel, rfl⟩
theorem e_X11_goes_35 : g_dc cX11_goes 35 (.return_) 1 36 := ⟨by decide +kernel, rfl⟩
def md_X11_goes : List Nat := []
def mr_X11_goes : List Nat := [26, 28]
set_option maxHeartbeats 4000000 in
set_option maxRecDepth 100000 in
theorem w_X11_goes (l : Launch) (X : gX) (ad : Nat → Nat) (F : Nat → Int32) (R : Nat → Nat → Int32) (hI : g_ok LK_wM F) (hA : g_okR LA_wM R) (hWT : WT F R) (hWC : WC F R) (a0 : Int32) (pa0 : jv 0 9 a0) : g_Cv l X yX11_goes cX11_goes 2 1 0 0 [.ref (ad 0), .int a0] (wM X ad F R) (fun w => ∃ (F' : Nat → Int32) (R' : Nat → Nat → Int32), w = wM X ad F' R' ∧ g_ok LK_wM F' ∧ g_okR LA_wM R' ∧ WT F' R' ∧ WC F' R' ∧ g_fr md_X11_goes F F' ∧ g_fr mr_X11_goes R R' ∧ (F', R') = sp_X11_goes F R a0) := by
  refine g_mv (by decide +kernel) (Nat.le_of_ble_eq_true rfl) (fun E cx hret => ?_)
  obtain ⟨SP, hSP⟩ : ∃ z, z = sp_X11_goes F R a0 := ⟨_, rfl⟩
  have hk0 := hSP
  unfold sp_X11_goes at hk0
  refine g_aload_n cx 0 rfl e_X11_goes_0 ?_
  refine g_get cx cl_X11 fl_X11_86 0 (.ref (ad 26)) e_X11_goes_1 rfl rfl ?_
  refine g_iload_n cx 1 rfl e_X11_goes_4 ?_
  refine g_aload_n cx 0 rfl e_X11_goes_5 ?_
  refine g_get cx cl_X11 fl_X11_86 0 (.ref (ad 26)) e_X11_goes_6 rfl rfl ?_
  refine g_iload_n cx 1 rfl e_X11_goes_9 ?_
  refine g_iald cx 26 e_X11_goes_10 rfl (jv_ix 10 pa0 (by decide)) ?_
  refine g_topi (fun x1 ex1 => ?_)
  have hk2 := k_ls hk0 ex1
  refine g_aload_n cx 0 rfl e_X11_goes_11 ?_
  refine g_get cx cl_X11 fl_X11_89 0 (.ref (ad 27)) e_X11_goes_12 rfl rfl ?_
  refine g_iload_n cx 1 rfl e_X11_goes_15 ?_
  refine g_iald cx 27 e_X11_goes_16 rfl (jv_ix 10 pa0 (by decide)) ?_
  refine g_topi (fun x3 ex3 => ?_)
  have hk4 := k_ls hk2 ex3
  refine g_isub cx e_X11_goes_17 ?_
  refine g_topi (fun x5 ex5 => ?_)
  have hk6 := k_ls hk4 ex5
  refine g_iast cx 26 (wM X ad F (g_u R 26 (upd (R 26) (Int32.toNatClampNeg a0) x5))) e_X11_goes_18 rfl (jv_ix 10 pa0 (by decide)) rfl ?_
  obtain ⟨R7, hR7⟩ : ∃ z, z = g_u R 26 (upd (R 26) (Int32.toNatClampNeg a0) x5) := ⟨_, rfl⟩
  rw [← hR7]
  have hk8 := k_ls hk6 hR7
  have oR7 : g_okR LA_wM R7 := by rw [hR7]; exact g_okR_u hA rfl
  have fR7 : g_fr mr_X11_goes R R7 := by rw [hR7]; exact g_fr_r (g_fr_rf R) rfl
  have wTR7 : WT F R7 := by rw [hR7]; exact WT_r hWT rfl
  have wCR7 : WC F R7 := by rw [hR7]; exact WC_r hWC rfl
  refine g_aload_n cx 0 rfl e_X11_goes_19 ?_
  refine g_get cx cl_X11 fl_X11_86 0 (.ref (ad 26)) e_X11_goes_20 rfl rfl ?_
  refine g_iload_n cx 1 rfl e_X11_goes_23 ?_
  refine g_iald cx 26 e_X11_goes_24 rfl (jv_ix 10 pa0 (by decide)) ?_
  refine g_topi (fun x9 ex9 => ?_)
  have hk10 := k_ls hk8 ex9
  have J35 : ∀ (R11 : Nat → Nat → Int32), (g_okR LA_wM R11) → (g_fr mr_X11_goes R R11) → (WT F R11) → (WC F R11) → (SP = K_X11_goes_35 F R11) → G X E 2 0 0 (wM X ad F R11) [] 35 [] := by
    intro R11 oR11 fR11 wTR11 wCR11 hkJ35
    unfold K_X11_goes_35 at hkJ35
    exact hret e_X11_goes_35 (Nat.le_of_ble_eq_true rfl) (Nat.le_of_ble_eq_true rfl) ⟨F, R11, rfl, hI, oR11, wTR11, wCR11, (g_fr_rf F), fR11, (hkJ35.symm.trans hSP)⟩
  refine g_if_ge cx 35 e_X11_goes_25 (by decide) (fun zc12 => ?_) (fun zc12 => ?_)
  · have p13 := gn_ge 0 2147483647 (gc_le zc12) (jv_t x9) (jv_k (x := 0) 0 (by decide)) (by decide)
    have hk14 := hk10.trans (if_pos zc12)
    refine g_lsub [] [] rfl ?_
    exact J35 R7 oR7 fR7 wTR7 wCR7 hk14
  · have p15 := gn_lt (-2147483648) (-1) (gc_nle zc12) (jv_t x9) (jv_k (x := 0) 0 (by decide)) (by decide)
    have hk16 := hk10.trans (if_neg zc12)
    refine g_aload_n cx 0 rfl e_X11_goes_28 ?_
    refine g_get cx cl_X11 fl_X11_92 0 (.ref (ad 28)) e_X11_goes_29 rfl rfl ?_
    refine g_iload_n cx 1 rfl e_X11_goes_32 ?_
    refine g_iconst cx 2 (by decide) e_X11_goes_33 ?_
    refine g_iast cx 28 (wM X ad F (g_u R7 28 (upd (R7 28) (Int32.toNatClampNeg a0) 2))) e_X11_goes_34 rfl (jv_ix 10 pa0 (by decide)) rfl ?_
    obtain ⟨R17, hR17⟩ : ∃ z, z = g_u R7 28 (upd (R7 28) (Int32.toNatClampNeg a0) 2) := ⟨_, rfl⟩
    rw [← hR17]
    have hk18 := k_ls hk16 hR17
    have oR17 : g_okR LA_wM R17 := by rw [hR17]; exact g_okR_u oR7 rfl
    have fR17 : g_fr mr_X11_goes R R17 := by rw [hR17]; exact g_fr_r fR7 rfl
    have wTR17 : WT F R17 := by rw [hR17]; exact WT_r wTR7 rfl
    have wCR17 : WC F R17 := by rw [hR17]; exact WC_r wCR7 rfl
    refine g_lsub [] [] rfl ?_
    exact J35 R17 oR17 fR17 wTR17 wCR17 hk18
def K_X11_counts_98 (F : Nat → Int32) (R17 : Nat → Nat → Int32) : (Nat → Int32) × (Nat → Nat → Int32) :=
  (F, R17)
def sp_X11_counts (F : Nat → Int32) (R : Nat → Nat → Int32) (a0 : Int32) : (Nat → Int32) × (Nat → Nat → Int32) :=
  k_lt (R 36 (Int32.toNatClampNeg a0)) (fun x1 => k_lt (R 26 (Int32.toNatClampNeg a0)) (fun x3 => k_lt (x1 - x3) (fun x5 => k_lt (R 32 (Int32.toNatClampNeg a0)) (fun x7 => k_lt (x7 + x5) (fun x9 => k_lt (g_u R 32 (upd (R 32) (Int32.toNatClampNeg a0) x9)) (fun R11 => k_lt (g_hasv (F 68) a0) (fun r13 => if r13 = 0 then k_lt (g_hasv (F 69) a0) (fun r21 => if r21 = 0 then k_lt (R11 34 (Int32.toNatClampNeg a0)) (fun x28 => k_lt (x28 + x5) (fun x30 => k_lt (g_u R11 34 (upd (R11 34) (Int32.toNatClampNeg a0) x30)) (fun R32 => K_X11_counts_98 F R32))) else k_lt (R11 33 (Int32.toNatClampNeg a0)) (fun x37 => k_lt (x37 + x5) (fun x39 => k_lt (g_u R11 33 (upd (R11 33) (Int32.toNatClampNeg a0) x39)) (fun R41 => K_X11_counts_98 F R41)))) else k_lt (R11 35 (Int32.toNatClampNeg a0)) (fun x46 => k_lt (x46 + x5) (fun x48 => k_lt (g_u R11 35 (upd (R11 35) (Int32.toNatClampNeg a0) x48)) (fun R50 => K_X11_counts_98 F R50))))))))))
theorem e_X11_counts_0 : g_dc cX11_counts 0 (.aload_n 0) 1 1 := ⟨by decide +kernel, rfl⟩
theorem e_X11_counts_1 : g_dc cX11_counts 1 (.getfield 116) 3 4 := ⟨by decide +kernel, rfl⟩
theorem e_X11_counts_4 : g_dc cX11_counts 4 (.iload_n 1) 1 5 := ⟨by decide +kernel, rfl⟩
theorem e_X11_counts_5 : g_dc cX11_counts 5 (.iaload) 1 6 := ⟨by decide +kernel, rfl⟩
theorem e_X11_counts_6 : g_dc cX11_counts 6 (.aload_n 0) 1 7 := ⟨by decide +kernel, rfl⟩
theorem e_X11_counts_7 : g_dc cX11_counts 7 (.getfield 86) 3 10 := ⟨by decide +kernel, rfl⟩
theorem e_X11_counts_10 : g_dc cX11_counts 10 (.iload_n 1) 1 11 := ⟨by decide +kernel, rfl⟩
theorem e_X11_counts_11 : g_dc cX11_counts 11 (.iaload) 1 12 := ⟨by decide +kernel, rfl⟩
theorem e_X11_counts_12 : g_dc cX11_counts 12 (.isub) 1 13 := ⟨by decide +kernel, rfl⟩
theorem e_X11_counts_13 : g_dc cX11_counts 13 (.istore_n 2) 1 14 := ⟨by decide +kernel, rfl⟩
theorem e_X11_counts_14 : g_dc cX11_counts 14 (.aload_n 0) 1 15 := ⟨by decide +kernel, rfl⟩
theorem e_X11_counts_15 : g_dc cX11_counts 15 (.getfield 104) 3 18 := ⟨by decide +kernel, rfl⟩
theorem e_X11_counts_18 : g_dc cX11_counts 18 (.iload_n 1) 1 19 := ⟨by decide +kernel, rfl⟩
theorem e_X11_counts_19 : g_dc cX11_counts 19 (.aload_n 0) 1 20 := ⟨by decide +kernel, rfl⟩
theorem e_X11_counts_20 : g_dc cX11_counts 20 (.getfield 104) 3 23 := ⟨by decide +kernel, rfl⟩
theorem e_X11_counts_23 : g_dc cX11_counts 23 (.iload_n 1) 1 24 := ⟨by decide +kernel, rfl⟩
theorem e_X11_counts_24 : g_dc cX11_counts 24 (.iaload) 1 25 := ⟨by decide +kernel, rfl⟩
theorem e_X11_counts_25 : g_dc cX11_counts 25 (.iload_n 2) 1 26 := ⟨by decide +kernel, rfl⟩
theorem e_X11_counts_26 : g_dc cX11_counts 26 (.iadd) 1 27 := ⟨by decide +kernel, rfl⟩
theorem e_X11_counts_27 : g_dc cX11_counts 27 (.iastore) 1 28 := ⟨by decide +kernel, rfl⟩
theorem e_X11_counts_28 : g_dc cX11_counts 28 (.aload_n 0) 1 29 := ⟨by decide +kernel, rfl⟩
theorem e_X11_counts_29 : g_dc cX11_counts 29 (.getfield 377) 3 32 := ⟨by decide +kernel, rfl⟩
theorem e_X11_counts_32 : g_dc cX11_counts 32 (.iload_n 1) 1 33 := ⟨by decide +kernel, rfl⟩
theorem e_X11_counts_33 : g_dc cX11_counts 33 (.invokestatic 175) 3 36 := ⟨by decide +kernel, rfl⟩
theorem e_X11_counts_36 : g_dc cX11_counts 36 (.ifCond .eq 20) 3 39 := ⟨by decide +kernel, rfl⟩
theorem e_X11_counts_39 : g_dc cX11_counts 39 (.aload_n 0) 1 40 := ⟨by decide +kernel, rfl⟩
theorem e_X11_counts_40 : g_dc cX11_counts 40 (.getfield 113) 3 43 := ⟨by decide +kernel, rfl⟩
theorem e_X11_counts_43 : g_dc cX11_counts 43 (.iload_n 1) 1 44 := ⟨by decide +kernel, rfl⟩
theorem e_X11_counts_44 : g_dc cX11_counts 44 (.aload_n 0) 1 45 := ⟨by decide +kernel, rfl⟩
theorem e_X11_counts_45 : g_dc cX11_counts 45 (.getfield 113) 3 48 := ⟨by decide +kernel, rfl⟩
theorem e_X11_counts_48 : g_dc cX11_counts 48 (.iload_n 1) 1 49 := ⟨by decide +kernel, rfl⟩
theorem e_X11_counts_49 : g_dc cX11_counts 49 (.iaload) 1 50 := ⟨by decide +kernel, rfl⟩
theorem e_X11_counts_50 : g_dc cX11_counts 50 (.iload_n 2) 1 51 := ⟨by decide +kernel, rfl⟩
theorem e_X11_counts_51 : g_dc cX11_counts 51 (.iadd) 1 52 := ⟨by decide +kernel, rfl⟩
theorem e_X11_counts_52 : g_dc cX11_counts 52 (.iastore) 1 53 := ⟨by decide +kernel, rfl⟩
theorem e_X11_counts_53 : g_dc cX11_counts 53 (.goto 45) 3 56 := ⟨by decide +kernel, rfl⟩
theorem e_X11_counts_56 : g_dc cX11_counts 56 (.aload_n 0) 1 57 := ⟨by decide +kernel, rfl⟩
theorem e_X11_counts_57 : g_dc cX11_counts 57 (.getfield 362) 3 60 := ⟨by decide +kernel, rfl⟩
theorem e_X11_counts_60 : g_dc cX11_counts 60 (.iload_n 1) 1 61 := ⟨by decide +kernel, rfl⟩
theorem e_X11_counts_61 : g_dc cX11_counts 61 (.invokestatic 175) 3 64 := ⟨by decide +kernel, rfl⟩
theorem e_X11_counts_64 : g_dc cX11_counts 64 (.ifCond .eq 20) 3 67 := ⟨by decide +kernel, rfl⟩
theorem e_X11_counts_67 : g_dc cX11_counts 67 (.aload_n 0) 1 68 := ⟨by decide +kernel, rfl⟩
theorem e_X11_counts_68 : g_dc cX11_counts 68 (.getfield 107) 3 71 := ⟨by decide +kernel, rfl⟩
theorem e_X11_counts_71 : g_dc cX11_counts 71 (.iload_n 1) 1 72 := ⟨by decide +kernel, rfl⟩
theorem e_X11_counts_72 : g_dc cX11_counts 72 (.aload_n 0) 1 73 := ⟨by decide +kernel, rfl⟩
theorem e_X11_counts_73 : g_dc cX11_counts 73 (.getfield 107) 3 76 := ⟨by decide +kernel, rfl⟩
theorem e_X11_counts_76 : g_dc cX11_counts 76 (.iload_n 1) 1 77 := ⟨by decide +kernel, rfl⟩
theorem e_X11_counts_77 : g_dc cX11_counts 77 (.iaload) 1 78 := ⟨by decide +kernel, rfl⟩
theorem e_X11_counts_78 : g_dc cX11_counts 78 (.iload_n 2) 1 79 := ⟨by decide +kernel, rfl⟩
theorem e_X11_counts_79 : g_dc cX11_counts 79 (.iadd) 1 80 := ⟨by decide +kernel, rfl⟩
theorem e_X11_counts_80 : g_dc cX11_counts 80 (.iastore) 1 81 := ⟨by decide +kernel, rfl⟩
theorem e_X11_counts_81 : g_dc cX11_counts 81 (.goto 17) 3 84 := ⟨by decide +kernel, rfl⟩
theorem e_X11_counts_84 : g_dc cX11_counts 84 (.aload_n 0) 1 85 := ⟨by decide +kernel, rfl⟩
theorem e_X11_counts_85 : g_dc cX11_counts 85 (.getfield 110) 3 88 := ⟨by decide +kernel, rfl⟩
theorem e_X11_counts_88 : g_dc cX11_counts 88 (.iload_n 1) 1 89 := ⟨by decide +kernel, rfl⟩
theorem e_X11_counts_89 : g_dc cX11_counts 89 (.aload_n 0) 1 90 := ⟨by decide +kernel, rfl⟩
theorem e_X11_counts_90 : g_dc cX11_counts 90 (.getfield 110) 3 93 := ⟨by decide +kernel, rfl⟩
theorem e_X11_counts_93 : g_dc cX11_counts 93 (.iload_n 1) 1 94 := ⟨by decide +kernel, rfl⟩
theorem e_X11_counts_94 : g_dc cX11_counts 94 (.iaload) 1 95 := ⟨by decide +kernel, rfl⟩
theorem e_X11_counts_95 : g_dc cX11_counts 95 (.iload_n 2) 1 96 := ⟨by decide +kernel, rfl⟩
theorem e_X11_counts_96 : g_dc cX11_counts 96 (.iadd) 1 97 := ⟨by decide +kernel, rfl⟩
theorem e_X11_counts_97 : g_dc cX11_counts 97 (.iastore) 1 98 := ⟨by decide +kernel, rfl⟩
theorem e_X11_counts_98 : g_dc cX11_counts 98 (.return_) 1 99 := ⟨by decide +kernel, rfl⟩
def md_X11_counts : List Nat := []
def mr_X11_counts : List Nat := [32, 33, 34, 35]
set_option maxHeartbeats 4000000 in
set_option maxRecDepth 100000 in
theorem w_X11_counts (l : Launch) (X : gX) (ad : Nat → Nat) (F : Nat → Int32) (R : Nat → Nat → Int32) (hI : g_ok LK_wM F) (hA : g_okR LA_wM R) (hWT : WT F R) (hWC : WC F R) (a0 : Int32) (pa0 : jv 0 9 a0) : g_Cv l X yX11_counts cX11_counts 3 2 0 0 [.ref (ad 0), .int a0] (wM X ad F R) (fun w => ∃ (F' : Nat → Int32) (R' : Nat → Nat → Int32), w = wM X ad F' R' ∧ g_ok LK_wM F' ∧ g_okR LA_wM R' ∧ WT F' R' ∧ WC F' R' ∧ g_fr md_X11_counts F F' ∧ g_fr mr_X11_counts R R' ∧ (F', R') = sp_X11_counts F R a0) := by
  refine g_mv (by decide +kernel) (Nat.le_of_ble_eq_true rfl) (fun E cx hret => ?_)
  obtain ⟨SP, hSP⟩ : ∃ z, z = sp_X11_counts F R a0 := ⟨_, rfl⟩
  have hk0 := hSP
  unfold sp_X11_counts at hk0
  refine g_aload_n cx 0 rfl e_X11_counts_0 ?_
  refine g_get cx cl_X11 fl_X11_116 0 (.ref (ad 36)) e_X11_counts_1 rfl rfl ?_
  refine g_iload_n cx 1 rfl e_X11_counts_4 ?_
  refine g_iald cx 36 e_X11_counts_5 rfl (jv_ix 10 pa0 (by decide)) ?_
  refine g_topi (fun x1 ex1 => ?_)
  have hk2 := k_ls hk0 ex1
  refine g_aload_n cx 0 rfl e_X11_counts_6 ?_
  refine g_get cx cl_X11 fl_X11_86 0 (.ref (ad 26)) e_X11_counts_7 rfl rfl ?_
  refine g_iload_n cx 1 rfl e_X11_counts_10 ?_
  refine g_iald cx 26 e_X11_counts_11 rfl (jv_ix 10 pa0 (by decide)) ?_
  refine g_topi (fun x3 ex3 => ?_)
  have hk4 := k_ls hk2 ex3
  refine g_isub cx e_X11_counts_12 ?_
  refine g_topi (fun x5 ex5 => ?_)
  have hk6 := k_ls hk4 ex5
  refine g_istore_n cx [(2, .int x5), (0, .ref (ad 0)), (1, .int a0)] e_X11_counts_13 (by decide) rfl ?_
  refine g_aload_n cx 1 rfl e_X11_counts_14 ?_
  refine g_get cx cl_X11 fl_X11_104 0 (.ref (ad 32)) e_X11_counts_15 rfl rfl ?_
  refine g_iload_n cx 2 rfl e_X11_counts_18 ?_
  refine g_aload_n cx 1 rfl e_X11_counts_19 ?_
  refine g_get cx cl_X11 fl_X11_104 0 (.ref (ad 32)) e_X11_counts_20 rfl rfl ?_
  refine g_iload_n cx 2 rfl e_X11_counts_23 ?_
  refine g_iald cx 32 e_X11_counts_24 rfl (jv_ix 10 pa0 (by decide)) ?_
  refine g_topi (fun x7 ex7 => ?_)
  have hk8 := k_ls hk6 ex7
  refine g_iload_n cx 0 rfl e_X11_counts_25 ?_
  refine g_iadd cx e_X11_counts_26 ?_
  refine g_topi (fun x9 ex9 => ?_)
  have hk10 := k_ls hk8 ex9
  refine g_iast cx 32 (wM X ad F (g_u R 32 (upd (R 32) (Int32.toNatClampNeg a0) x9))) e_X11_counts_27 rfl (jv_ix 10 pa0 (by decide)) rfl ?_
  obtain ⟨R11, hR11⟩ : ∃ z, z = g_u R 32 (upd (R 32) (Int32.toNatClampNeg a0) x9) := ⟨_, rfl⟩
  rw [← hR11]
  have hk12 := k_ls hk10 hR11
  have oR11 : g_okR LA_wM R11 := by rw [hR11]; exact g_okR_u hA rfl
  have fR11 : g_fr mr_X11_counts R R11 := by rw [hR11]; exact g_fr_r (g_fr_rf R) rfl
  have wTR11 : WT F R11 := by rw [hR11]; exact WT_r hWT rfl
  have wCR11 : WC F R11 := by rw [hR11]; exact WC_r hWC rfl
  refine g_aload_n cx 1 rfl e_X11_counts_28 ?_
  refine g_get cx cl_X11 fl_X11_377 0 (.int (F 68)) e_X11_counts_29 rfl rfl ?_
  refine g_iload_n cx 2 rfl e_X11_counts_32 ?_
  refine g_cSiW cx [.int (F 68), .int a0] [] (c_X11_has l X (wM X ad F R11) (F 68) a0) ml_X11_175 yS_X11_has rfl e_X11_counts_33 (by unfold g_rr; decide) (by decide) rfl (Nat.le_of_ble_eq_true rfl) (fun r13 w14 h15 => ?_)
  obtain ⟨rfl, hr13⟩ := h15
  have pr13 : jv 0 1 r13 := by rcases hr13 with q | q <;> rw [q.1] <;> exact ⟨by decide, by decide⟩
  have hk16 := k_ls hk12 (g_has_e hr13)
  have J98 : ∀ (R17 : Nat → Nat → Int32), (g_okR LA_wM R17) → (g_fr mr_X11_counts R R17) → (WT F R17) → (WC F R17) → (SP = K_X11_counts_98 F R17) → G X E 3 0 0 (wM X ad F R17) [] 98 [] := by
    intro R17 oR17 fR17 wTR17 wCR17 hkJ98
    unfold K_X11_counts_98 at hkJ98
    exact hret e_X11_counts_98 (Nat.le_of_ble_eq_true rfl) (Nat.le_of_ble_eq_true rfl) ⟨F, R17, rfl, hI, oR17, wTR17, wCR17, (g_fr_rf F), fR17, (hkJ98.symm.trans hSP)⟩
  refine g_if_eq cx 56 e_X11_counts_36 (by decide) (fun zc18 => ?_) (fun zc18 => ?_)
  · have p19 := gn_eq 0 0 (gc_eq zc18) pr13 (jv_k (x := 0) 0 (by decide)) (by decide)
    have hk20 := hk16.trans (if_pos zc18)
    refine g_aload_n cx 1 rfl e_X11_counts_56 ?_
    refine g_get cx cl_X11 fl_X11_362 0 (.int (F 69)) e_X11_counts_57 rfl rfl ?_
    refine g_iload_n cx 2 rfl e_X11_counts_60 ?_
    refine g_cSiW cx [.int (F 69), .int a0] [] (c_X11_has l X (wM X ad F R11) (F 69) a0) ml_X11_175 yS_X11_has rfl e_X11_counts_61 (by unfold g_rr; decide) (by decide) rfl (Nat.le_of_ble_eq_true rfl) (fun r21 w22 h23 => ?_)
    obtain ⟨rfl, hr21⟩ := h23
    have pr21 : jv 0 1 r21 := by rcases hr21 with q | q <;> rw [q.1] <;> exact ⟨by decide, by decide⟩
    have hk24 := k_ls hk20 (g_has_e hr21)
    refine g_if_eq cx 84 e_X11_counts_64 (by decide) (fun zc25 => ?_) (fun zc25 => ?_)
    · have p26 := gn_eq 0 0 (gc_eq zc25) pr21 (jv_k (x := 0) 0 (by decide)) (by decide)
      have hk27 := hk24.trans (if_pos zc25)
      refine g_aload_n cx 1 rfl e_X11_counts_84 ?_
      refine g_get cx cl_X11 fl_X11_110 0 (.ref (ad 34)) e_X11_counts_85 rfl rfl ?_
      refine g_iload_n cx 2 rfl e_X11_counts_88 ?_
      refine g_aload_n cx 1 rfl e_X11_counts_89 ?_
      refine g_get cx cl_X11 fl_X11_110 0 (.ref (ad 34)) e_X11_counts_90 rfl rfl ?_
      refine g_iload_n cx 2 rfl e_X11_counts_93 ?_
      refine g_iald cx 34 e_X11_counts_94 rfl (jv_ix 10 pa0 (by decide)) ?_
      refine g_topi (fun x28 ex28 => ?_)
      have hk29 := k_ls hk27 ex28
      refine g_iload_n cx 0 rfl e_X11_counts_95 ?_
      refine g_iadd cx e_X11_counts_96 ?_
      refine g_topi (fun x30 ex30 => ?_)
      have hk31 := k_ls hk29 ex30
      refine g_iast cx 34 (wM X ad F (g_u R11 34 (upd (R11 34) (Int32.toNatClampNeg a0) x30))) e_X11_counts_97 rfl (jv_ix 10 pa0 (by decide)) rfl ?_
      obtain ⟨R32, hR32⟩ : ∃ z, z = g_u R11 34 (upd (R11 34) (Int32.toNatClampNeg a0) x30) := ⟨_, rfl⟩
      rw [← hR32]
      have hk33 := k_ls hk31 hR32
      have oR32 : g_okR LA_wM R32 := by rw [hR32]; exact g_okR_u oR11 rfl
      have fR32 : g_fr mr_X11_counts R R32 := by rw [hR32]; exact g_fr_r fR11 rfl
      have wTR32 : WT F R32 := by rw [hR32]; exact WT_r wTR11 rfl
      have wCR32 : WC F R32 := by rw [hR32]; exact WC_r wCR11 rfl
      refine g_lsub [] [] rfl ?_
      exact J98 R32 oR32 fR32 wTR32 wCR32 hk33
    · have p34 := gn_neL 1 1 (gc_ne zc25) pr21 (jv_k (x := 0) 0 (by decide)) (by decide)
      have zb35 : hb (F 69) a0 := g_hasy hr21 zc25
      have hk36 := hk24.trans (if_neg zc25)
      refine g_aload_n cx 1 rfl e_X11_counts_67 ?_
      refine g_get cx cl_X11 fl_X11_107 0 (.ref (ad 33)) e_X11_counts_68 rfl rfl ?_
      refine g_iload_n cx 2 rfl e_X11_counts_71 ?_
      refine g_aload_n cx 1 rfl e_X11_counts_72 ?_
      refine g_get cx cl_X11 fl_X11_107 0 (.ref (ad 33)) e_X11_counts_73 rfl rfl ?_
      refine g_iload_n cx 2 rfl e_X11_counts_76 ?_
      refine g_iald cx 33 e_X11_counts_77 rfl (jv_ix 10 pa0 (by decide)) ?_
      refine g_topi (fun x37 ex37 => ?_)
      have hk38 := k_ls hk36 ex37
      refine g_iload_n cx 0 rfl e_X11_counts_78 ?_
      refine g_iadd cx e_X11_counts_79 ?_
      refine g_topi (fun x39 ex39 => ?_)
      have hk40 := k_ls hk38 ex39
      refine g_iast cx 33 (wM X ad F (g_u R11 33 (upd (R11 33) (Int32.toNatClampNeg a0) x39))) e_X11_counts_80 rfl (jv_ix 10 pa0 (by decide)) rfl ?_
      obtain ⟨R41, hR41⟩ : ∃ z, z = g_u R11 33 (upd (R11 33) (Int32.toNatClampNeg a0) x39) := ⟨_, rfl⟩
      rw [← hR41]
      have hk42 := k_ls hk40 hR41
      have oR41 : g_okR LA_wM R41 := by rw [hR41]; exact g_okR_u oR11 rfl
      have fR41 : g_fr mr_X11_counts R R41 := by rw [hR41]; exact g_fr_r fR11 rfl
      have wTR41 : WT F R41 := by rw [hR41]; exact WT_r wTR11 rfl
      have wCR41 : WC F R41 := by rw [hR41]; exact WC_r wCR11 rfl
      refine g_goto cx 98 e_X11_counts_81 (by decide) ?_
      refine g_lsub [] [] rfl ?_
      exact J98 R41 oR41 fR41 wTR41 wCR41 hk42
  · have p43 := gn_neL 1 1 (gc_ne zc18) pr13 (jv_k (x := 0) 0 (by decide)) (by decide)
    have zb44 : hb (F 68) a0 := g_hasy hr13 zc18
    have hk45 := hk16.trans (if_neg zc18)
    refine g_aload_n cx 1 rfl e_X11_counts_39 ?_
    refine g_get cx cl_X11 fl_X11_113 0 (.ref (ad 35)) e_X11_counts_40 rfl rfl ?_
    refine g_iload_n cx 2 rfl e_X11_counts_43 ?_
    refine g_aload_n cx 1 rfl e_X11_counts_44 ?_
    refine g_get cx cl_X11 fl_X11_113 0 (.ref (ad 35)) e_X11_counts_45 rfl rfl ?_
    refine g_iload_n cx 2 rfl e_X11_counts_48 ?_
    refine g_iald cx 35 e_X11_counts_49 rfl (jv_ix 10 pa0 (by decide)) ?_
    refine g_topi (fun x46 ex46 => ?_)
    have hk47 := k_ls hk45 ex46
    refine g_iload_n cx 0 rfl e_X11_counts_50 ?_
    refine g_iadd cx e_X11_counts_51 ?_
    refine g_topi (fun x48 ex48 => ?_)
    have hk49 := k_ls hk47 ex48
    refine g_iast cx 35 (wM X ad F (g_u R11 35 (upd (R11 35) (Int32.toNatClampNeg a0) x48))) e_X11_counts_52 rfl (jv_ix 10 pa0 (by decide)) rfl ?_
    obtain ⟨R50, hR50⟩ : ∃ z, z = g_u R11 35 (upd (R11 35) (Int32.toNatClampNeg a0) x48) := ⟨_, rfl⟩
    rw [← hR50]
    have hk51 := k_ls hk49 hR50
    have oR50 : g_okR LA_wM R50 := by rw [hR50]; exact g_okR_u oR11 rfl
    have fR50 : g_fr mr_X11_counts R R50 := by rw [hR50]; exact g_fr_r fR11 rfl
    have wTR50 : WT F R50 := by rw [hR50]; exact WT_r wTR11 rfl
    have wCR50 : WC F R50 := by rw [hR50]; exact WC_r wCR11 rfl
    refine g_goto cx 98 e_X11_counts_53 (by decide) ?_
    refine g_lsub [] [] rfl ?_
    exact J98 R50 oR50 fR50 wTR50 wCR50 hk51
def K_X11_meet_48 (F : Nat → Int32) (R : Nat → Nat → Int32)  : (Nat → Int32) × (Nat → Nat → Int32) :=
  (F, R)
def sp_X11_meet (F : Nat → Int32) (R : Nat → Nat → Int32) (a0 : Int32) (a1 : Int32) : (Nat → Int32) × (Nat → Nat → Int32) :=
  k_lt (R 3 (Int32.toNatClampNeg a0)) (fun x1 => k_lt (R 3 (Int32.toNatClampNeg a1)) (fun x4 => k_lt (x1 + x4) (fun x7 => k_lt (x7 / 2) (fun x9 => k_lt (R 26 (Int32.toNatClampNeg a1)) (fun x11 => k_lt (R 26 (Int32.toNatClampNeg a0)) (fun x13 => k_lt (x11 - x13) (fun x15 => if x9 ≤ x15 then K_X11_meet_48 F R else k_lt (R 27 (Int32.toNatClampNeg a1)) (fun x22 => k_lt (R 27 (Int32.toNatClampNeg a0)) (fun x24 => if x24 < x22 then k_lt (R 27 (Int32.toNatClampNeg a0)) (fun x30 => k_lt (R 5 (Int32.toNatClampNeg a0)) (fun x32 => k_lt (x30 * x32) (fun x35 => k_lt (R 27 (Int32.toNatClampNeg a1)) (fun x37 => k_lt (R 5 (Int32.toNatClampNeg a1)) (fun x39 => k_lt (x37 * x39) (fun x42 => k_lt (x35 + x42) (fun x44 => k_lt (R 5 (Int32.toNatClampNeg a0)) (fun x46 => k_lt (R 5 (Int32.toNatClampNeg a1)) (fun x49 => k_lt (x46 + x49) (fun x52 => k_lt (x44 / x52) (fun x54 => k_lt (g_u R 27 (upd (R 27) (Int32.toNatClampNeg a0) x54)) (fun R56 => k_lt (g_u R56 27 (upd (R56 27) (Int32.toNatClampNeg a1) x54)) (fun R58 => k_lt (R58 36 (Int32.toNatClampNeg a1)) (fun x60 => k_lt (R58 26 (Int32.toNatClampNeg a0)) (fun x62 => k_lt (x62 + x9) (fun x64 => k_lt (sp_X11_min F R58 x60 x64) (fun r66 => k_lt (g_u R58 26 (upd (R58 26) (Int32.toNatClampNeg a1) r66)) (fun R71 => k_lt (1 <<< (a0 &&& 31)) (fun x73 => k_lt ((F 68) ||| x73) (fun x75 => k_lt (1 <<< (a1 &&& 31)) (fun x77 => k_lt (x75 ||| x77) (fun x79 => k_lt (upd F 68 x79) (fun F81 => (F81, R71)))))))))))))))))))))))) else K_X11_meet_48 F R)))))))))
theorem e_X11_meet_0 : g_dc cX11_meet 0 (.aload_n 0) 1 1 := ⟨by decide +kernel, rfl⟩
theorem e_X11_meet_1 : g_dc cX11_meet 1 (.getfield 16) 3 4 := ⟨by decide +kernel, rfl⟩
theorem e_X11_meet_4 : g_dc cX11_meet 4 (.iload_n 1) 1 5 := ⟨by decide +kernel, rfl⟩
theorem e_X11_meet_5 : g_dc cX11_meet 5 (.iaload) 1 6 := ⟨by decide +kernel, rfl⟩
theorem e_X11_meet_6 : g_dc cX11_meet 6 (.aload_n 0) 1 7 := ⟨by decide +kernel, rfl⟩
theorem e_X11_meet_7 : g_dc cX11_meet 7 (.getfield 16) 3 10 := ⟨by decide +kernel, rfl⟩
theorem e_X11_meet_10 : g_dc cX11_meet 10 (.iload_n 2) 1 11 := ⟨by decide +kernel, rfl⟩
theorem e_X11_meet_11 : g_dc cX11_meet 11 (.iaload) 1 12 := ⟨by decide +kernel, rfl⟩
theorem e_X11_meet_12 : g_dc cX11_meet 12 (.iadd) 1 13 := ⟨by decide +kernel, rfl⟩
theorem e_X11_meet_13 : g_dc cX11_meet 13 (.iconst 2) 1 14 := ⟨by decide +kernel, rfl⟩
theorem e_X11_meet_14 : g_dc cX11_meet 14 (.idiv) 1 15 := ⟨by decide +kernel, rfl⟩
theorem e_X11_meet_15 : g_dc cX11_meet 15 (.istore_n 3) 1 16 := ⟨by decide +kernel, rfl⟩
theorem e_X11_meet_16 : g_dc cX11_meet 16 (.aload_n 0) 1 17 := ⟨by decide +kernel, rfl⟩
theorem e_X11_meet_17 : g_dc cX11_meet 17 (.getfield 86) 3 20 := ⟨by decide +kernel, rfl⟩
theorem e_X11_meet_20 : g_dc cX11_meet 20 (.iload_n 2) 1 21 := ⟨by decide +kernel, rfl⟩
theorem e_X11_meet_21 : g_dc cX11_meet 21 (.iaload) 1 22 := ⟨by decide +kernel, rfl⟩
theorem e_X11_meet_22 : g_dc cX11_meet 22 (.aload_n 0) 1 23 := ⟨by decide +kernel, rfl⟩
theorem e_X11_meet_23 : g_dc cX11_meet 23 (.getfield 86) 3 26 := ⟨by decide +kernel, rfl⟩
theorem e_X11_meet_26 : g_dc cX11_meet 26 (.iload_n 1) 1 27 := ⟨by decide +kernel, rfl⟩
theorem e_X11_meet_27 : g_dc cX11_meet 27 (.iaload) 1 28 := ⟨by decide +kernel, rfl⟩
theorem e_X11_meet_28 : g_dc cX11_meet 28 (.isub) 1 29 := ⟨by decide +kernel, rfl⟩
theorem e_X11_meet_29 : g_dc cX11_meet 29 (.iload_n 3) 1 30 := ⟨by decide +kernel, rfl⟩
theorem e_X11_meet_30 : g_dc cX11_meet 30 (.if_icmp .ge 18) 3 33 := ⟨by decide +kernel, rfl⟩
theorem e_X11_meet_33 : g_dc cX11_meet 33 (.aload_n 0) 1 34 := ⟨by decide +kernel, rfl⟩
theorem e_X11_meet_34 : g_dc cX11_meet 34 (.getfield 89) 3 37 := ⟨by decide +kernel, rfl⟩
theorem e_X11_meet_37 : g_dc cX11_meet 37 (.iload_n 2) 1 38 := ⟨by decide +kernel, rfl⟩
theorem e_X11_meet_38 : g_dc cX11_meet 38 (.iaload) 1 39 := ⟨by decide +kernel, rfl⟩
theorem e_X11_meet_39 : g_dc cX11_meet 39 (.aload_n 0) 1 40 := ⟨by decide +kernel, rfl⟩
theorem e_X11_meet_40 : g_dc cX11_meet 40 (.getfield 89) 3 43 := ⟨by decide +kernel, rfl⟩
theorem e_X11_meet_43 : g_dc cX11_meet 43 (.iload_n 1) 1 44 := ⟨by decide +kernel, rfl⟩
theorem e_X11_meet_44 : g_dc cX11_meet 44 (.iaload) 1 45 := ⟨by decide +kernel, rfl⟩
theorem e_X11_meet_45 : g_dc cX11_meet 45 (.if_icmp .gt 4) 3 48 := ⟨by decide +kernel, rfl⟩
theorem e_X11_meet_48 : g_dc cX11_meet 48 (.return_) 1 49 := ⟨by decide +kernel, rfl⟩
theorem e_X11_meet_49 : g_dc cX11_meet 49 (.aload_n 0) 1 50 := ⟨by decide +kernel, rfl⟩
theorem e_X11_meet_50 : g_dc cX11_meet 50 (.getfield 89) 3 53 := ⟨by decide +kernel, rfl⟩
theorem e_X11_meet_53 : g_dc cX11_meet 53 (.iload_n 1) 1 54 := ⟨by decide +kernel, rfl⟩
theorem e_X11_meet_54 : g_dc cX11_meet 54 (.iaload) 1 55 := ⟨by decide +kernel, rfl⟩
theorem e_X11_meet_55 : g_dc cX11_meet 55 (.aload_n 0) 1 56 := ⟨by decide +kernel, rfl⟩
theorem e_X11_meet_56 : g_dc cX11_meet 56 (.getfield 22) 3 59 := ⟨by decide +kernel, rfl⟩
theorem e_X11_meet_59 : g_dc cX11_meet 59 (.iload_n 1) 1 60 := ⟨by decide +kernel, rfl⟩
theorem e_X11_meet_60 : g_dc cX11_meet 60 (.iaload) 1 61 := ⟨by decide +kernel, rfl⟩
theorem e_X11_meet_61 : g_dc cX11_meet 61 (.imul) 1 62 := ⟨by decide +kernel, rfl⟩
theorem e_X11_meet_62 : g_dc cX11_meet 62 (.aload_n 0) 1 63 := ⟨by decide +kernel, rfl⟩
theorem e_X11_meet_63 : g_dc cX11_meet 63 (.getfield 89) 3 66 := ⟨by decide +kernel, rfl⟩
theorem e_X11_meet_66 : g_dc cX11_meet 66 (.iload_n 2) 1 67 := ⟨by decide +kernel, rfl⟩
theorem e_X11_meet_67 : g_dc cX11_meet 67 (.iaload) 1 68 := ⟨by decide +kernel, rfl⟩
theorem e_X11_meet_68 : g_dc cX11_meet 68 (.aload_n 0) 1 69 := ⟨by decide +kernel, rfl⟩
theorem e_X11_meet_69 : g_dc cX11_meet 69 (.getfield 22) 3 72 := ⟨by decide +kernel, rfl⟩
theorem e_X11_meet_72 : g_dc cX11_meet 72 (.iload_n 2) 1 73 := ⟨by decide +kernel, rfl⟩
theorem e_X11_meet_73 : g_dc cX11_meet 73 (.iaload) 1 74 := ⟨by decide +kernel, rfl⟩
theorem e_X11_meet_74 : g_dc cX11_meet 74 (.imul) 1 75 := ⟨by decide +kernel, rfl⟩
theorem e_X11_meet_75 : g_dc cX11_meet 75 (.iadd) 1 76 := ⟨by decide +kernel, rfl⟩
theorem e_X11_meet_76 : g_dc cX11_meet 76 (.aload_n 0) 1 77 := ⟨by decide +kernel, rfl⟩
theorem e_X11_meet_77 : g_dc cX11_meet 77 (.getfield 22) 3 80 := ⟨by decide +kernel, rfl⟩
theorem e_X11_meet_80 : g_dc cX11_meet 80 (.iload_n 1) 1 81 := ⟨by decide +kernel, rfl⟩
theorem e_X11_meet_81 : g_dc cX11_meet 81 (.iaload) 1 82 := ⟨by decide +kernel, rfl⟩
theorem e_X11_meet_82 : g_dc cX11_meet 82 (.aload_n 0) 1 83 := ⟨by decide +kernel, rfl⟩
theorem e_X11_meet_83 : g_dc cX11_meet 83 (.getfield 22) 3 86 := ⟨by decide +kernel, rfl⟩
theorem e_X11_meet_86 : g_dc cX11_meet 86 (.iload_n 2) 1 87 := ⟨by decide +kernel, rfl⟩
theorem e_X11_meet_87 : g_dc cX11_meet 87 (.iaload) 1 88 := ⟨by decide +kernel, rfl⟩
theorem e_X11_meet_88 : g_dc cX11_meet 88 (.iadd) 1 89 := ⟨by decide +kernel, rfl⟩
theorem e_X11_meet_89 : g_dc cX11_meet 89 (.idiv) 1 90 := ⟨by decide +kernel, rfl⟩
theorem e_X11_meet_90 : g_dc cX11_meet 90 (.istore 4) 2 92 := ⟨by decide +kernel, rfl⟩
theorem e_X11_meet_92 : g_dc cX11_meet 92 (.aload_n 0) 1 93 := ⟨by decide +kernel, rfl⟩
theorem e_X11_meet_93 : g_dc cX11_meet 93 (.getfield 89) 3 96 := ⟨by decide +kernel, rfl⟩
theorem e_X11_meet_96 : g_dc cX11_meet 96 (.iload_n 1) 1 97 := ⟨by decide +kernel, rfl⟩
theorem e_X11_meet_97 : g_dc cX11_meet 97 (.iload 4) 2 99 := ⟨by decide +kernel, rfl⟩
theorem e_X11_meet_99 : g_dc cX11_meet 99 (.iastore) 1 100 := ⟨by decide +kernel, rfl⟩
theorem e_X11_meet_100 : g_dc cX11_meet 100 (.aload_n 0) 1 101 := ⟨by decide +kernel, rfl⟩
theorem e_X11_meet_101 : g_dc cX11_meet 101 (.getfield 89) 3 104 := ⟨by decide +kernel, rfl⟩
theorem e_X11_meet_104 : g_dc cX11_meet 104 (.iload_n 2) 1 105 := ⟨by decide +kernel, rfl⟩
theorem e_X11_meet_105 : g_dc cX11_meet 105 (.iload 4) 2 107 := ⟨by decide +kernel, rfl⟩
theorem e_X11_meet_107 : g_dc cX11_meet 107 (.iastore) 1 108 := ⟨by decide +kernel, rfl⟩
theorem e_X11_meet_108 : g_dc cX11_meet 108 (.aload_n 0) 1 109 := ⟨by decide +kernel, rfl⟩
theorem e_X11_meet_109 : g_dc cX11_meet 109 (.getfield 86) 3 112 := ⟨by decide +kernel, rfl⟩
theorem e_X11_meet_112 : g_dc cX11_meet 112 (.iload_n 2) 1 113 := ⟨by decide +kernel, rfl⟩
theorem e_X11_meet_113 : g_dc cX11_meet 113 (.aload_n 0) 1 114 := ⟨by decide +kernel, rfl⟩
theorem e_X11_meet_114 : g_dc cX11_meet 114 (.getfield 116) 3 117 := ⟨by decide +kernel, rfl⟩
theorem e_X11_meet_117 : g_dc cX11_meet 117 (.iload_n 2) 1 118 := ⟨by decide +kernel, rfl⟩
theorem e_X11_meet_118 : g_dc cX11_meet 118 (.iaload) 1 119 := ⟨by decide +kernel, rfl⟩
theorem e_X11_meet_119 : g_dc cX11_meet 119 (.aload_n 0) 1 120 := ⟨by decide +kernel, rfl⟩
theorem e_X11_meet_120 : g_dc cX11_meet 120 (.getfield 86) 3 123 := ⟨by decide +kernel, rfl⟩
theorem e_X11_meet_123 : g_dc cX11_meet 123 (.iload_n 1) 1 124 := ⟨by decide +kernel, rfl⟩
theorem e_X11_meet_124 : g_dc cX11_meet 124 (.iaload) 1 125 := ⟨by decide +kernel, rfl⟩
theorem e_X11_meet_125 : g_dc cX11_meet 125 (.iload_n 3) 1 126 := ⟨by decide +kernel, rfl⟩
theorem e_X11_meet_126 : g_dc cX11_meet 126 (.iadd) 1 127 := ⟨by decide +kernel, rfl⟩
theorem e_X11_meet_127 : g_dc cX11_meet 127 (.invokestatic 365) 3 130 := ⟨by decide +kernel, rfl⟩
theorem e_X11_meet_130 : g_dc cX11_meet 130 (.iastore) 1 131 := ⟨by decide +kernel, rfl⟩
theorem e_X11_meet_131 : g_dc cX11_meet 131 (.aload_n 0) 1 132 := ⟨by decide +kernel, rfl⟩
theorem e_X11_meet_132 : g_dc cX11_meet 132 (.aload_n 0) 1 133 := ⟨by decide +kernel, rfl⟩
theorem e_X11_meet_133 : g_dc cX11_meet 133 (.getfield 377) 3 136 := ⟨by decide +kernel, rfl⟩
theorem e_X11_meet_136 : g_dc cX11_meet 136 (.iconst 1) 1 137 := ⟨by decide +kernel, rfl⟩
theorem e_X11_meet_137 : g_dc cX11_meet 137 (.iload_n 1) 1 138 := ⟨by decide +kernel, rfl⟩
theorem e_X11_meet_138 : g_dc cX11_meet 138 (.ishl) 1 139 := ⟨by decide +kernel, rfl⟩
theorem e_X11_meet_139 : g_dc cX11_meet 139 (.ior) 1 140 := ⟨by decide +kernel, rfl⟩
theorem e_X11_meet_140 : g_dc cX11_meet 140 (.iconst 1) 1 141 := ⟨by decide +kernel, rfl⟩
theorem e_X11_meet_141 : g_dc cX11_meet 141 (.iload_n 2) 1 142 := ⟨by decide +kernel, rfl⟩
theorem e_X11_meet_142 : g_dc cX11_meet 142 (.ishl) 1 143 := ⟨by decide +kernel, rfl⟩
theorem e_X11_meet_143 : g_dc cX11_meet 143 (.ior) 1 144 := ⟨by decide +kernel, rfl⟩
theorem e_X11_meet_144 : g_dc cX11_meet 144 (.putfield 377) 3 147 := ⟨by decide +kernel, rfl⟩
theorem e_X11_meet_147 : g_dc cX11_meet 147 (.return_) 1 148 := ⟨by decide +kernel, rfl⟩
def md_X11_meet : List Nat := [68]
def mr_X11_meet : List Nat := [26, 27]
set_option maxHeartbeats 4000000 in
set_option maxRecDepth 100000 in
theorem w_X11_meet (l : Launch) (X : gX) (ad : Nat → Nat) (F : Nat → Int32) (R : Nat → Nat → Int32) (hI : g_ok LK_wM F) (hA : g_okR LA_wM R) (hWT : WT F R) (hWC : WC F R) (a0 : Int32) (a1 : Int32) (pa0 : jv 0 9 a0) (pa1 : jv 0 9 a1) (hpw : 1 ≤ (R 5 a0.toNatClampNeg).toInt) : g_Cv l X yX11_meet cX11_meet 5 2 0 0 [.ref (ad 0), .int a0, .int a1] (wM X ad F R) (fun w => ∃ (F' : Nat → Int32) (R' : Nat → Nat → Int32), w = wM X ad F' R' ∧ g_ok LK_wM F' ∧ g_okR LA_wM R' ∧ WT F' R' ∧ WC F' R' ∧ g_fr md_X11_meet F F' ∧ g_fr mr_X11_meet R R' ∧ (F', R') = sp_X11_meet F R a0 a1) := by
  refine g_mv (by decide +kernel) (Nat.le_of_ble_eq_true rfl) (fun E cx hret => ?_)
  obtain ⟨SP, hSP⟩ : ∃ z, z = sp_X11_meet F R a0 a1 := ⟨_, rfl⟩
  have hk0 := hSP
  unfold sp_X11_meet at hk0
  refine g_aload_n cx 0 rfl e_X11_meet_0 ?_
  refine g_get cx cl_X11 fl_X11_16 0 (.ref (ad 3)) e_X11_meet_1 rfl rfl ?_
  refine g_iload_n cx 1 rfl e_X11_meet_4 ?_
  refine g_iald cx 3 e_X11_meet_5 rfl (jv_ix 10 pa0 (by decide)) ?_
  refine g_topi (fun x1 ex1 => ?_)
  have hk2 := k_ls hk0 ex1
  have p3 : jv 0 40 x1 := by rw [ex1]; exact g_okR_g hA 6 rfl (jv_cl 10 pa0 (by decide))
  refine g_aload_n cx 0 rfl e_X11_meet_6 ?_
  refine g_get cx cl_X11 fl_X11_16 0 (.ref (ad 3)) e_X11_meet_7 rfl rfl ?_
  refine g_iload_n cx 2 rfl e_X11_meet_10 ?_
  refine g_iald cx 3 e_X11_meet_11 rfl (jv_ix 10 pa1 (by decide)) ?_
  refine g_topi (fun x4 ex4 => ?_)
  have hk5 := k_ls hk2 ex4
  have p6 : jv 0 40 x4 := by rw [ex4]; exact g_okR_g hA 6 rfl (jv_cl 10 pa1 (by decide))
  refine g_iadd cx e_X11_meet_12 ?_
  refine g_topi (fun x7 ex7 => ?_)
  have hk8 := k_ls hk5 ex7
  have zx7 := jv_add 0 80 ex7 p3 p6 (by decide)
  refine g_iconst cx 2 (by decide) e_X11_meet_13 ?_
  refine g_idiv cx (by decide) e_X11_meet_14 ?_
  refine g_topi (fun x9 ex9 => ?_)
  have hk10 := k_ls hk8 ex9
  have zx9 := jv_div 0 40 ex9 zx7.2 (jv_k (x := 2) 2 (by decide)) (by decide)
  refine g_istore_n cx [(3, .int x9), (0, .ref (ad 0)), (1, .int a0), (2, .int a1)] e_X11_meet_15 (by decide) rfl ?_
  refine g_aload_n cx 1 rfl e_X11_meet_16 ?_
  refine g_get cx cl_X11 fl_X11_86 0 (.ref (ad 26)) e_X11_meet_17 rfl rfl ?_
  refine g_iload_n cx 3 rfl e_X11_meet_20 ?_
  refine g_iald cx 26 e_X11_meet_21 rfl (jv_ix 10 pa1 (by decide)) ?_
  refine g_topi (fun x11 ex11 => ?_)
  have hk12 := k_ls hk10 ex11
  refine g_aload_n cx 1 rfl e_X11_meet_22 ?_
  refine g_get cx cl_X11 fl_X11_86 0 (.ref (ad 26)) e_X11_meet_23 rfl rfl ?_
  refine g_iload_n cx 2 rfl e_X11_meet_26 ?_
  refine g_iald cx 26 e_X11_meet_27 rfl (jv_ix 10 pa0 (by decide)) ?_
  refine g_topi (fun x13 ex13 => ?_)
  have hk14 := k_ls hk12 ex13
  refine g_isub cx e_X11_meet_28 ?_
  refine g_topi (fun x15 ex15 => ?_)
  have hk16 := k_ls hk14 ex15
  refine g_iload_n cx 0 rfl e_X11_meet_29 ?_
  have J48 : (SP = K_X11_meet_48 F R) → G X E 5 0 0 (wM X ad F R) [] 48 [] := by
    intro   hkJ48
    unfold K_X11_meet_48 at hkJ48
    exact hret e_X11_meet_48 (Nat.le_of_ble_eq_true rfl) (Nat.le_of_ble_eq_true rfl) ⟨F, R, rfl, hI, hA, hWT, hWC, (g_fr_rf F), (g_fr_rf R), (hkJ48.symm.trans hSP)⟩
  refine g_icmp_ge cx 48 e_X11_meet_30 (by decide) (fun zc17 => ?_) (fun zc17 => ?_)
  · have p18 := gn_ge 0 2147483647 (gc_le zc17) (jv_t x15) zx9.2 (by decide)
    have hk19 := hk16.trans (if_pos zc17)
    refine g_lsub [] [] rfl ?_
    exact J48  hk19
  · have p20 := gn_lt (-2147483648) 39 (gc_nle zc17) (jv_t x15) zx9.2 (by decide)
    have hk21 := hk16.trans (if_neg zc17)
    refine g_aload_n cx 1 rfl e_X11_meet_33 ?_
    refine g_get cx cl_X11 fl_X11_89 0 (.ref (ad 27)) e_X11_meet_34 rfl rfl ?_
    refine g_iload_n cx 3 rfl e_X11_meet_37 ?_
    refine g_iald cx 27 e_X11_meet_38 rfl (jv_ix 10 pa1 (by decide)) ?_
    refine g_topi (fun x22 ex22 => ?_)
    have hk23 := k_ls hk21 ex22
    refine g_aload_n cx 1 rfl e_X11_meet_39 ?_
    refine g_get cx cl_X11 fl_X11_89 0 (.ref (ad 27)) e_X11_meet_40 rfl rfl ?_
    refine g_iload_n cx 2 rfl e_X11_meet_43 ?_
    refine g_iald cx 27 e_X11_meet_44 rfl (jv_ix 10 pa0 (by decide)) ?_
    refine g_topi (fun x24 ex24 => ?_)
    have hk25 := k_ls hk23 ex24
    refine g_icmp_gt cx 49 e_X11_meet_45 (by decide) (fun zc26 => ?_) (fun zc26 => ?_)
    · have p27 := gn_lt (-2147483648) 2147483646 (gc_lt zc26) (jv_t x24) (jv_t x22) (by decide)
      have p28 := gn_gt (-2147483647) 2147483647 (gc_lt zc26) (jv_t x22) (jv_t x24) (by decide)
      have hk29 := hk25.trans (if_pos zc26)
      refine g_aload_n cx 1 rfl e_X11_meet_49 ?_
      refine g_get cx cl_X11 fl_X11_89 0 (.ref (ad 27)) e_X11_meet_50 rfl rfl ?_
      refine g_iload_n cx 2 rfl e_X11_meet_53 ?_
      refine g_iald cx 27 e_X11_meet_54 rfl (jv_ix 10 pa0 (by decide)) ?_
      refine g_topi (fun x30 ex30 => ?_)
      have hk31 := k_ls hk29 ex30
      refine g_aload_n cx 1 rfl e_X11_meet_55 ?_
      refine g_get cx cl_X11 fl_X11_22 0 (.ref (ad 5)) e_X11_meet_56 rfl rfl ?_
      refine g_iload_n cx 2 rfl e_X11_meet_59 ?_
      refine g_iald cx 5 e_X11_meet_60 rfl (jv_ix 10 pa0 (by decide)) ?_
      refine g_topi (fun x32 ex32 => ?_)
      have hk33 := k_ls hk31 ex32
      have p34 : jv 0 99 x32 := by rw [ex32]; exact g_okR_g hA 7 rfl (jv_cl 10 pa0 (by decide))
      refine g_imul cx e_X11_meet_61 ?_
      refine g_topi (fun x35 ex35 => ?_)
      have hk36 := k_ls hk33 ex35
      refine g_aload_n cx 1 rfl e_X11_meet_62 ?_
      refine g_get cx cl_X11 fl_X11_89 0 (.ref (ad 27)) e_X11_meet_63 rfl rfl ?_
      refine g_iload_n cx 3 rfl e_X11_meet_66 ?_
      refine g_iald cx 27 e_X11_meet_67 rfl (jv_ix 10 pa1 (by decide)) ?_
      refine g_topi (fun x37 ex37 => ?_)
      have hk38 := k_ls hk36 ex37
      refine g_aload_n cx 1 rfl e_X11_meet_68 ?_
      refine g_get cx cl_X11 fl_X11_22 0 (.ref (ad 5)) e_X11_meet_69 rfl rfl ?_
      refine g_iload_n cx 3 rfl e_X11_meet_72 ?_
      refine g_iald cx 5 e_X11_meet_73 rfl (jv_ix 10 pa1 (by decide)) ?_
      refine g_topi (fun x39 ex39 => ?_)
      have hk40 := k_ls hk38 ex39
      have p41 : jv 0 99 x39 := by rw [ex39]; exact g_okR_g hA 7 rfl (jv_cl 10 pa1 (by decide))
      refine g_imul cx e_X11_meet_74 ?_
      refine g_topi (fun x42 ex42 => ?_)
      have hk43 := k_ls hk40 ex42
      refine g_iadd cx e_X11_meet_75 ?_
      refine g_topi (fun x44 ex44 => ?_)
      have hk45 := k_ls hk43 ex44
      refine g_aload_n cx 1 rfl e_X11_meet_76 ?_
      refine g_get cx cl_X11 fl_X11_22 0 (.ref (ad 5)) e_X11_meet_77 rfl rfl ?_
      refine g_iload_n cx 2 rfl e_X11_meet_80 ?_
      refine g_iald cx 5 e_X11_meet_81 rfl (jv_ix 10 pa0 (by decide)) ?_
      refine g_topi (fun x46 ex46 => ?_)
      have hk47 := k_ls hk45 ex46
      have p48 : jv 0 99 x46 := by rw [ex46]; exact g_okR_g hA 7 rfl (jv_cl 10 pa0 (by decide))
      have hwx46 : 1 ≤ x46.toInt := by rw [ex46]; exact hpw
      refine g_aload_n cx 1 rfl e_X11_meet_82 ?_
      refine g_get cx cl_X11 fl_X11_22 0 (.ref (ad 5)) e_X11_meet_83 rfl rfl ?_
      refine g_iload_n cx 3 rfl e_X11_meet_86 ?_
      refine g_iald cx 5 e_X11_meet_87 rfl (jv_ix 10 pa1 (by decide)) ?_
      refine g_topi (fun x49 ex49 => ?_)
      have hk50 := k_ls hk47 ex49
      have p51 : jv 0 99 x49 := by rw [ex49]; exact g_okR_g hA 7 rfl (jv_cl 10 pa1 (by decide))
      refine g_iadd cx e_X11_meet_88 ?_
      refine g_topi (fun x52 ex52 => ?_)
      have hk53 := k_ls hk50 ex52
      have zx52 := jv_add 0 198 ex52 p48 p51 (by decide)
      refine g_idiv cx (fun h0 => absurd (congrArg Int32.toInt h0) (by have z0 : (0 : Int32).toInt = 0 := rfl; rw [z0]; have q0 := p48.1; have q1 := p48.2; have q2 := p51.1; have q3 := p51.2; have q4 := zx52.2.1; have q5 := zx52.2.2; have q6 := hwx46; have q7 := (g_eq0 zx52.1); omega)) e_X11_meet_89 ?_
      refine g_topi (fun x54 ex54 => ?_)
      have hk55 := k_ls hk53 ex54
      refine g_istore cx [(4, .int x54), (3, .int x9), (0, .ref (ad 0)), (1, .int a0), (2, .int a1)] e_X11_meet_90 (by decide) rfl ?_
      refine g_aload_n cx 2 rfl e_X11_meet_92 ?_
      refine g_get cx cl_X11 fl_X11_89 0 (.ref (ad 27)) e_X11_meet_93 rfl rfl ?_
      refine g_iload_n cx 3 rfl e_X11_meet_96 ?_
      refine g_iload cx 0 rfl e_X11_meet_97 ?_
      refine g_iast cx 27 (wM X ad F (g_u R 27 (upd (R 27) (Int32.toNatClampNeg a0) x54))) e_X11_meet_99 rfl (jv_ix 10 pa0 (by decide)) rfl ?_
      obtain ⟨R56, hR56⟩ : ∃ z, z = g_u R 27 (upd (R 27) (Int32.toNatClampNeg a0) x54) := ⟨_, rfl⟩
      rw [← hR56]
      have hk57 := k_ls hk55 hR56
      have oR56 : g_okR LA_wM R56 := by rw [hR56]; exact g_okR_u hA rfl
      have fR56 : g_fr mr_X11_meet R R56 := by rw [hR56]; exact g_fr_r (g_fr_rf R) rfl
      have wTR56 : WT F R56 := by rw [hR56]; exact WT_r hWT rfl
      have wCR56 : WC F R56 := by rw [hR56]; exact WC_r hWC rfl
      refine g_aload_n cx 2 rfl e_X11_meet_100 ?_
      refine g_get cx cl_X11 fl_X11_89 0 (.ref (ad 27)) e_X11_meet_101 rfl rfl ?_
      refine g_iload_n cx 4 rfl e_X11_meet_104 ?_
      refine g_iload cx 0 rfl e_X11_meet_105 ?_
      refine g_iast cx 27 (wM X ad F (g_u R56 27 (upd (R56 27) (Int32.toNatClampNeg a1) x54))) e_X11_meet_107 rfl (jv_ix 10 pa1 (by decide)) rfl ?_
      obtain ⟨R58, hR58⟩ : ∃ z, z = g_u R56 27 (upd (R56 27) (Int32.toNatClampNeg a1) x54) := ⟨_, rfl⟩
      rw [← hR58]
      have hk59 := k_ls hk57 hR58
      have oR58 : g_okR LA_wM R58 := by rw [hR58]; exact g_okR_u oR56 rfl
      have fR58 : g_fr mr_X11_meet R R58 := by rw [hR58]; exact g_fr_r fR56 rfl
      have wTR58 : WT F R58 := by rw [hR58]; exact WT_r wTR56 rfl
      have wCR58 : WC F R58 := by rw [hR58]; exact WC_r wCR56 rfl
      refine g_aload_n cx 2 rfl e_X11_meet_108 ?_
      refine g_get cx cl_X11 fl_X11_86 0 (.ref (ad 26)) e_X11_meet_109 rfl rfl ?_
      refine g_iload_n cx 4 rfl e_X11_meet_112 ?_
      refine g_aload_n cx 2 rfl e_X11_meet_113 ?_
      refine g_get cx cl_X11 fl_X11_116 0 (.ref (ad 36)) e_X11_meet_114 rfl rfl ?_
      refine g_iload_n cx 4 rfl e_X11_meet_117 ?_
      refine g_iald cx 36 e_X11_meet_118 rfl (jv_ix 10 pa1 (by decide)) ?_
      refine g_topi (fun x60 ex60 => ?_)
      have hk61 := k_ls hk59 ex60
      refine g_aload_n cx 2 rfl e_X11_meet_119 ?_
      refine g_get cx cl_X11 fl_X11_86 0 (.ref (ad 26)) e_X11_meet_120 rfl rfl ?_
      refine g_iload_n cx 3 rfl e_X11_meet_123 ?_
      refine g_iald cx 26 e_X11_meet_124 rfl (jv_ix 10 pa0 (by decide)) ?_
      refine g_topi (fun x62 ex62 => ?_)
      have hk63 := k_ls hk61 ex62
      refine g_iload_n cx 1 rfl e_X11_meet_125 ?_
      refine g_iadd cx e_X11_meet_126 ?_
      refine g_topi (fun x64 ex64 => ?_)
      have hk65 := k_ls hk63 ex64
      refine g_cSiW cx [.int x60, .int x64] [.int a1, .ref (ad 26)] (w_X11_min l X ad F R58 hI oR58 x60 x64) ml_X11_365 yS_X11_min rfl e_X11_meet_127 (by unfold g_rr; decide) (by decide) rfl (Nat.le_of_ble_eq_true rfl) (fun r66 w67 h68 => ?_)
      obtain ⟨rfl, pr66, hx69⟩ := h68
      have hk70 := k_ls hk65 hx69
      refine g_iast cx 26 (wM X ad F (g_u R58 26 (upd (R58 26) (Int32.toNatClampNeg a1) r66))) e_X11_meet_130 rfl (jv_ix 10 pa1 (by decide)) rfl ?_
      obtain ⟨R71, hR71⟩ : ∃ z, z = g_u R58 26 (upd (R58 26) (Int32.toNatClampNeg a1) r66) := ⟨_, rfl⟩
      rw [← hR71]
      have hk72 := k_ls hk70 hR71
      have oR71 : g_okR LA_wM R71 := by rw [hR71]; exact g_okR_u oR58 rfl
      have fR71 : g_fr mr_X11_meet R R71 := by rw [hR71]; exact g_fr_r fR58 rfl
      have wTR71 : WT F R71 := by rw [hR71]; exact WT_r wTR58 rfl
      have wCR71 : WC F R71 := by rw [hR71]; exact WC_r wCR58 rfl
      refine g_aload_n cx 2 rfl e_X11_meet_131 ?_
      refine g_aload_n cx 2 rfl e_X11_meet_132 ?_
      refine g_get cx cl_X11 fl_X11_377 0 (.int (F 68)) e_X11_meet_133 rfl rfl ?_
      refine g_iconst cx 1 (by decide) e_X11_meet_136 ?_
      refine g_iload_n cx 3 rfl e_X11_meet_137 ?_
      refine g_ishl cx e_X11_meet_138 ?_
      refine g_topi (fun x73 ex73 => ?_)
      have hk74 := k_ls hk72 ex73
      refine g_ior cx e_X11_meet_139 ?_
      refine g_topi (fun x75 ex75 => ?_)
      have hk76 := k_ls hk74 ex75
      refine g_iconst cx 1 (by decide) e_X11_meet_140 ?_
      refine g_iload_n cx 4 rfl e_X11_meet_141 ?_
      refine g_ishl cx e_X11_meet_142 ?_
      refine g_topi (fun x77 ex77 => ?_)
      have hk78 := k_ls hk76 ex77
      refine g_ior cx e_X11_meet_143 ?_
      refine g_topi (fun x79 ex79 => ?_)
      have hk80 := k_ls hk78 ex79
      refine g_put cx cl_X11 fl_X11_377 0 (wM X ad (upd F 68 x79) R71) e_X11_meet_144 rfl rfl rfl rfl (Nat.le_of_ble_eq_true rfl) rfl ?_
      obtain ⟨F81, hF81⟩ : ∃ z, z = upd F 68 x79 := ⟨_, rfl⟩
      rw [← hF81]
      have hk82 := k_ls hk80 hF81
      have oF81 : g_ok LK_wM F81 := by rw [hF81]; exact g_ok_u hI rfl
      have fF81 : g_fr md_X11_meet F F81 := by rw [hF81]; exact g_fr_u (g_fr_rf F) rfl
      have wTF81 : WT F81 R71 := by rw [hF81]; exact WT_u wTR71 rfl
      have wCF81 : WC F81 R71 := by rw [hF81]; exact WC_u wCR71 rfl
      exact hret e_X11_meet_147 (Nat.le_of_ble_eq_true rfl) (Nat.le_of_ble_eq_true rfl) ⟨F81, R71, rfl, oF81, oR71, wTF81, wCF81, fF81, fR71, (hk82.symm.trans hSP)⟩
    · have hk83 := hk25.trans (if_neg zc26)
      refine g_lsub [] [] rfl ?_
      exact J48  hk83
def K_X11_ticks_236 (b217 : (Nat → Int32) → (Nat → Nat → Int32) → (Int32) → (Nat → Int32) × (Nat → Nat → Int32)) (y69 : Int32) (F93 : Nat → Int32) (R94 : Nat → Nat → Int32) : (Nat → Int32) × (Nat → Nat → Int32) :=
  k_lt (y69 + 1) (fun x95 => b217 F93 R94 x95)
def KB_X11_ticks_217 (b217 : (Nat → Int32) → (Nat → Nat → Int32) → (Int32) → (Nat → Int32) × (Nat → Nat → Int32)) (y35 : Int32) (F70 : Nat → Int32) (R71 : Nat → Nat → Int32) (y69 : Int32) : (Nat → Int32) × (Nat → Nat → Int32) :=
  if 10 ≤ y69 then k_lt ((F70 66) ||| (F70 68)) (fun x75 => k_lt (upd F70 66 x75) (fun F77 => k_lt ((F70 46) + (F70 47)) (fun x79 => k_lt (upd F77 46 x79) (fun F81 => k_lt ((F70 45) + 1) (fun x83 => k_lt (upd F81 45 x83) (fun F85 => (F85, R71))))))) else k_lt (g_hasv y35 y69) (fun r89 => if r89 = 0 then K_X11_ticks_236 b217 y69 F70 R71 else k_lt2 (sp_X11_counts F70 R71 y69) (fun F107 R108 => K_X11_ticks_236 b217 y69 F107 R108))
def K_X11_ticks_217 (y35 : Int32) : Nat → (Nat → Int32) → (Nat → Nat → Int32) → (Int32) → (Nat → Int32) × (Nat → Nat → Int32)
  | 0 => fun F70 R71 _ => (F70, R71)
  | n + 1 => KB_X11_ticks_217 (K_X11_ticks_217 y35 n) y35
def KB_X11_ticks_184 (b184 : (Nat → Int32) → (Nat → Nat → Int32) → (Int32) → (Nat → Int32) × (Nat → Nat → Int32)) (r54 : Int32) (y35 : Int32) (F63 : Nat → Int32) (R64 : Nat → Nat → Int32) (y62 : Int32) : (Nat → Int32) × (Nat → Nat → Int32) :=
  k_lt (y62 + 1) (fun x65 => if r54 ≤ x65 then K_X11_ticks_217 y35 8589934592 F63 R64 0 else k_lt (R64 37 (Int32.toNatClampNeg y62)) (fun x114 => k_lt (y62 + 1) (fun x117 => k_lt (R64 37 (Int32.toNatClampNeg x117)) (fun x119 => k_lt2 (sp_X11_meet F63 R64 x114 x119) (fun F126 R127 => k_lt (y62 + 1) (fun x129 => b184 F126 R127 x129))))))
def K_X11_ticks_184 (r54 : Int32) (y35 : Int32) : Nat → (Nat → Int32) → (Nat → Nat → Int32) → (Int32) → (Nat → Int32) × (Nat → Nat → Int32)
  | 0 => fun F63 R64 _ => (F63, R64)
  | n + 1 => KB_X11_ticks_184 (K_X11_ticks_184 r54 y35 n) r54 y35
def K_X11_ticks_171 (b143 : (Nat → Int32) → (Nat → Nat → Int32) → (Int32) → (Nat → Int32) × (Nat → Nat → Int32)) (y48 : Int32) (F137 : Nat → Int32) (R138 : Nat → Nat → Int32) : (Nat → Int32) × (Nat → Nat → Int32) :=
  k_lt (y48 + 1) (fun x139 => b143 F137 R138 x139)
def KB_X11_ticks_143 (b143 : (Nat → Int32) → (Nat → Nat → Int32) → (Int32) → (Nat → Int32) × (Nat → Nat → Int32)) (y35 : Int32) (F49 : Nat → Int32) (R50 : Nat → Nat → Int32) (y48 : Int32) : (Nat → Int32) × (Nat → Nat → Int32) :=
  if 10 ≤ y48 then k_lt3 (sp_X11_laysOrder F49 R50) (fun r54 F59 R60 => K_X11_ticks_184 r54 y35 8589934592 F59 R60 0) else k_lt (g_hasv y35 y48) (fun r133 => if r133 = 0 then K_X11_ticks_171 b143 y48 F49 R50 else k_lt (R50 28 (Int32.toNatClampNeg y48)) (fun x147 => if x147 = 0 then k_lt2 (sp_X11_goes F49 R50 y48) (fun F157 R158 => K_X11_ticks_171 b143 y48 F157 R158) else K_X11_ticks_171 b143 y48 F49 R50))
def K_X11_ticks_143 (y35 : Int32) : Nat → (Nat → Int32) → (Nat → Nat → Int32) → (Int32) → (Nat → Int32) × (Nat → Nat → Int32)
  | 0 => fun F49 R50 _ => (F49, R50)
  | n + 1 => KB_X11_ticks_143 (K_X11_ticks_143 y35 n) y35
def K_X11_ticks_135 (b116 : (Nat → Int32) → (Nat → Nat → Int32) → (Int32) → (Nat → Int32) × (Nat → Nat → Int32)) (y42 : Int32) (F166 : Nat → Int32) (R167 : Nat → Nat → Int32) : (Nat → Int32) × (Nat → Nat → Int32) :=
  k_lt (y42 + 1) (fun x168 => b116 F166 R167 x168)
def KB_X11_ticks_116 (b116 : (Nat → Int32) → (Nat → Nat → Int32) → (Int32) → (Nat → Int32) × (Nat → Nat → Int32)) (y35 : Int32) (F43 : Nat → Int32) (R44 : Nat → Nat → Int32) (y42 : Int32) : (Nat → Int32) × (Nat → Nat → Int32) :=
  if 10 ≤ y42 then K_X11_ticks_143 y35 8589934592 F43 R44 0 else k_lt (g_hasv y35 y42) (fun r162 => if r162 = 0 then K_X11_ticks_135 b116 y42 F43 R44 else k_lt2 (sp_X11_hurries F43 R44 y42) (fun F180 R181 => K_X11_ticks_135 b116 y42 F180 R181))
def K_X11_ticks_116 (y35 : Int32) : Nat → (Nat → Int32) → (Nat → Nat → Int32) → (Int32) → (Nat → Int32) × (Nat → Nat → Int32)
  | 0 => fun F43 R44 _ => (F43, R44)
  | n + 1 => KB_X11_ticks_116 (K_X11_ticks_116 y35 n) y35
def K_X11_ticks_108 (b48 : (Nat → Int32) → (Nat → Nat → Int32) → (Int32) → (Int32) → (Nat → Int32) × (Nat → Nat → Int32)) (y36 : Int32) (F192 : Nat → Int32) (R193 : Nat → Nat → Int32) (y191 : Int32) : (Nat → Int32) × (Nat → Nat → Int32) :=
  k_lt (y36 + 1) (fun x194 => b48 F192 R193 y191 x194)
def KB_X11_ticks_48 (b48 : (Nat → Int32) → (Nat → Nat → Int32) → (Int32) → (Int32) → (Nat → Int32) × (Nat → Nat → Int32))  (F37 : Nat → Int32) (R38 : Nat → Nat → Int32) (y35 : Int32) (y36 : Int32) : (Nat → Int32) × (Nat → Nat → Int32) :=
  if 10 ≤ y36 then K_X11_ticks_116 y35 8589934592 F37 R38 0 else k_lt (sp_X11_stands F37 R38 y36) (fun r185 => if r185 = 0 then K_X11_ticks_108 b48 y36 F37 R38 y35 else k_lt (1 <<< (y36 &&& 31)) (fun x199 => k_lt (y35 ||| x199) (fun x201 => k_lt (R38 26 (Int32.toNatClampNeg y36)) (fun x203 => k_lt (g_u R38 36 (upd (R38 36) (Int32.toNatClampNeg y36) x203)) (fun R205 => k_lt (R205 26 (Int32.toNatClampNeg y36)) (fun x207 => if (F37 48) ≤ x207 then K_X11_ticks_108 b48 y36 F37 R205 x201 else k_lt (1 <<< (y36 &&& 31)) (fun x214 => k_lt ((F37 69) ||| x214) (fun x216 => k_lt (upd F37 69 x216) (fun F218 => K_X11_ticks_108 b48 y36 F218 R205 x201)))))))))
def K_X11_ticks_48  : Nat → (Nat → Int32) → (Nat → Nat → Int32) → (Int32) → (Int32) → (Nat → Int32) × (Nat → Nat → Int32)
  | 0 => fun F37 R38 _ _ => (F37, R38)
  | n + 1 => KB_X11_ticks_48 (K_X11_ticks_48 n)
def sp_X11_ticks (F : Nat → Int32) (R : Nat → Nat → Int32) : (Nat → Int32) × (Nat → Nat → Int32) :=
  k_lt (sp_X11_paceNow F R) (fun r1 => k_lt3 (sp_X11_slipsNow F R) (fun r6 F10 R11 => k_lt (r1 - r6) (fun x13 => k_lt (sp_X11_max F10 R11 0 x13) (fun r15 => k_lt (upd F10 47 r15) (fun F20 => k_lt ((F 48) - r15) (fun x22 => k_lt (sp_X11_max F20 R11 0 x22) (fun r24 => k_lt (upd F20 48 r24) (fun F29 => k_lt (upd F29 69 0) (fun F31 => k_lt (upd F31 68 0) (fun F33 => K_X11_ticks_48 8589934592 F33 R11 0 0))))))))))
theorem e_X11_ticks_0 : g_dc cX11_ticks 0 (.aload_n 0) 1 1 := ⟨by decide +kernel, rfl⟩
theorem e_X11_ticks_1 : g_dc cX11_ticks 1 (.iconst 0) 1 2 := ⟨by decide +kernel, rfl⟩
theorem e_X11_ticks_2 : g_dc cX11_ticks 2 (.aload_n 0) 1 3 := ⟨by decide +kernel, rfl⟩
theorem e_X11_ticks_3 : g_dc cX11_ticks 3 (.invokevirtual 350) 3 6 := ⟨by decide +kernel, rfl⟩
theorem e_X11_ticks_6 : g_dc cX11_ticks 6 (.aload_n 0) 1 7 := ⟨by decide +kernel, rfl⟩
theorem e_X11_ticks_7 : g_dc cX11_ticks 7 (.invokevirtual 380) 3 10 := ⟨by decide +kernel, rfl⟩
theorem e_X11_ticks_10 : g_dc cX11_ticks 10 (.isub) 1 11 := ⟨by decide +kernel, rfl⟩
theorem e_X11_ticks_11 : g_dc cX11_ticks 11 (.invokestatic 371) 3 14 := ⟨by decide +kernel, rfl⟩
theorem e_X11_ticks_14 : g_dc cX11_ticks 14 (.putfield 356) 3 17 := ⟨by decide +kernel, rfl⟩
theorem e_X11_ticks_17 : g_dc cX11_ticks 17 (.aload_n 0) 1 18 := ⟨by decide +kernel, rfl⟩
theorem e_X11_ticks_18 : g_dc cX11_ticks 18 (.iconst 0) 1 19 := ⟨by decide +kernel, rfl⟩
theorem e_X11_ticks_19 : g_dc cX11_ticks 19 (.aload_n 0) 1 20 := ⟨by decide +kernel, rfl⟩
theorem e_X11_ticks_20 : g_dc cX11_ticks 20 (.getfield 331) 3 23 := ⟨by decide +kernel, rfl⟩
theorem e_X11_ticks_23 : g_dc cX11_ticks 23 (.aload_n 0) 1 24 := ⟨by decide +kernel, rfl⟩
theorem e_X11_ticks_24 : g_dc cX11_ticks 24 (.getfield 356) 3 27 := ⟨by decide +kernel, rfl⟩
theorem e_X11_ticks_27 : g_dc cX11_ticks 27 (.isub) 1 28 := ⟨by decide +kernel, rfl⟩
theorem e_X11_ticks_28 : g_dc cX11_ticks 28 (.invokestatic 371) 3 31 := ⟨by decide +kernel, rfl⟩
theorem e_X11_ticks_31 : g_dc cX11_ticks 31 (.putfield 331) 3 34 := ⟨by decide +kernel, rfl⟩
theorem e_X11_ticks_34 : g_dc cX11_ticks 34 (.iconst 0) 1 35 := ⟨by decide +kernel, rfl⟩
theorem e_X11_ticks_35 : g_dc cX11_ticks 35 (.istore_n 1) 1 36 := ⟨by decide +kernel, rfl⟩
theorem e_X11_ticks_36 : g_dc cX11_ticks 36 (.aload_n 0) 1 37 := ⟨by decide +kernel, rfl⟩
theorem e_X11_ticks_37 : g_dc cX11_ticks 37 (.iconst 0) 1 38 := ⟨by decide +kernel, rfl⟩
theorem e_X11_ticks_38 : g_dc cX11_ticks 38 (.putfield 362) 3 41 := ⟨by decide +kernel, rfl⟩
theorem e_X11_ticks_41 : g_dc cX11_ticks 41 (.aload_n 0) 1 42 := ⟨by decide +kernel, rfl⟩
theorem e_X11_ticks_42 : g_dc cX11_ticks 42 (.iconst 0) 1 43 := ⟨by decide +kernel, rfl⟩
theorem e_X11_ticks_43 : g_dc cX11_ticks 43 (.putfield 377) 3 46 := ⟨by decide +kernel, rfl⟩
theorem e_X11_ticks_46 : g_dc cX11_ticks 46 (.iconst 0) 1 47 := ⟨by decide +kernel, rfl⟩
theorem e_X11_ticks_47 : g_dc cX11_ticks 47 (.istore_n 2) 1 48 := ⟨by decide +kernel, rfl⟩
theorem e_X11_ticks_48 : g_dc cX11_ticks 48 (.iload_n 2) 1 49 := ⟨by decide +kernel, rfl⟩
theorem e_X11_ticks_49 : g_dc cX11_ticks 49 (.bipush 10) 2 51 := ⟨by decide +kernel, rfl⟩
theorem e_X11_ticks_51 : g_dc cX11_ticks 51 (.if_icmp .ge 63) 3 54 := ⟨by decide +kernel, rfl⟩
theorem e_X11_ticks_54 : g_dc cX11_ticks 54 (.aload_n 0) 1 55 := ⟨by decide +kernel, rfl⟩
theorem e_X11_ticks_55 : g_dc cX11_ticks 55 (.iload_n 2) 1 56 := ⟨by decide +kernel, rfl⟩
theorem e_X11_ticks_56 : g_dc cX11_ticks 56 (.invokevirtual 343) 3 59 := ⟨by decide +kernel, rfl⟩
theorem e_X11_ticks_59 : g_dc cX11_ticks 59 (.ifCond .ne 6) 3 62 := ⟨by decide +kernel, rfl⟩
theorem e_X11_ticks_62 : g_dc cX11_ticks 62 (.goto 46) 3 65 := ⟨by decide +kernel, rfl⟩
theorem e_X11_ticks_65 : g_dc cX11_ticks 65 (.iload_n 1) 1 66 := ⟨by decide +kernel, rfl⟩
theorem e_X11_ticks_66 : g_dc cX11_ticks 66 (.iconst 1) 1 67 := ⟨by decide +kernel, rfl⟩
theorem e_X11_ticks_67 : g_dc cX11_ticks 67 (.iload_n 2) 1 68 := ⟨by decide +kernel, rfl⟩
theorem e_X11_ticks_68 : g_dc cX11_ticks 68 (.ishl) 1 69 := ⟨by decide +kernel, rfl⟩
theorem e_X11_ticks_69 : g_dc cX11_ticks 69 (.ior) 1 70 := ⟨by decide +kernel, rfl⟩
theorem e_X11_ticks_70 : g_dc cX11_ticks 70 (.istore_n 1) 1 71 := ⟨by decide +kernel, rfl⟩
theorem e_X11_ticks_71 : g_dc cX11_ticks 71 (.aload_n 0) 1 72 := ⟨by decide +kernel, rfl⟩
theorem e_X11_ticks_72 : g_dc cX11_ticks 72 (.getfield 116) 3 75 := ⟨by decide +kernel, rfl⟩
theorem e_X11_ticks_75 : g_dc cX11_ticks 75 (.iload_n 2) 1 76 := ⟨by decide +kernel, rfl⟩
theorem e_X11_ticks_76 : g_dc cX11_ticks 76 (.aload_n 0) 1 77 := ⟨by decide +kernel, rfl⟩
theorem e_X11_ticks_77 : g_dc cX11_ticks 77 (.getfield 86) 3 80 := ⟨by decide +kernel, rfl⟩
theorem e_X11_ticks_80 : g_dc cX11_ticks 80 (.iload_n 2) 1 81 := ⟨by decide +kernel, rfl⟩
theorem e_X11_ticks_81 : g_dc cX11_ticks 81 (.iaload) 1 82 := ⟨by decide +kernel, rfl⟩
theorem e_X11_ticks_82 : g_dc cX11_ticks 82 (.iastore) 1 83 := ⟨by decide +kernel, rfl⟩
theorem e_X11_ticks_83 : g_dc cX11_ticks 83 (.aload_n 0) 1 84 := ⟨by decide +kernel, rfl⟩
theorem e_X11_ticks_84 : g_dc cX11_ticks 84 (.getfield 86) 3 87 := ⟨by decide +kernel, rfl⟩
theorem e_X11_ticks_87 : g_dc cX11_ticks 87 (.iload_n 2) 1 88 := ⟨by decide +kernel, rfl⟩
theorem e_X11_ticks_88 : g_dc cX11_ticks 88 (.iaload) 1 89 := ⟨by decide +kernel, rfl⟩
theorem e_X11_ticks_89 : g_dc cX11_ticks 89 (.aload_n 0) 1 90 := ⟨by decide +kernel, rfl⟩
theorem e_X11_ticks_90 : g_dc cX11_ticks 90 (.getfield 331) 3 93 := ⟨by decide +kernel, rfl⟩
theorem e_X11_ticks_93 : g_dc cX11_ticks 93 (.if_icmp .ge 15) 3 96 := ⟨by decide +kernel, rfl⟩
theorem e_X11_ticks_96 : g_dc cX11_ticks 96 (.aload_n 0) 1 97 := ⟨by decide +kernel, rfl⟩
theorem e_X11_ticks_97 : g_dc cX11_ticks 97 (.aload_n 0) 1 98 := ⟨by decide +kernel, rfl⟩
theorem e_X11_ticks_98 : g_dc cX11_ticks 98 (.getfield 362) 3 101 := ⟨by decide +kernel, rfl⟩
theorem e_X11_ticks_101 : g_dc cX11_ticks 101 (.iconst 1) 1 102 := ⟨by decide +kernel, rfl⟩
theorem e_X11_ticks_102 : g_dc cX11_ticks 102 (.iload_n 2) 1 103 := ⟨by decide +kernel, rfl⟩
theorem e_X11_ticks_103 : g_dc cX11_ticks 103 (.ishl) 1 104 := ⟨by decide +kernel, rfl⟩
theorem e_X11_ticks_104 : g_dc cX11_ticks 104 (.ior) 1 105 := ⟨by decide +kernel, rfl⟩
theorem e_X11_ticks_105 : g_dc cX11_ticks 105 (.putfield 362) 3 108 := ⟨by decide +kernel, rfl⟩
theorem e_X11_ticks_108 : g_dc cX11_ticks 108 (.iinc 2 1) 3 111 := ⟨by decide +kernel, rfl⟩
theorem e_X11_ticks_111 : g_dc cX11_ticks 111 (.goto (-63)) 3 114 := ⟨by decide +kernel, rfl⟩
theorem e_X11_ticks_114 : g_dc cX11_ticks 114 (.iconst 0) 1 115 := ⟨by decide +kernel, rfl⟩
theorem e_X11_ticks_115 : g_dc cX11_ticks 115 (.istore_n 2) 1 116 := ⟨by decide +kernel, rfl⟩
theorem e_X11_ticks_116 : g_dc cX11_ticks 116 (.iload_n 2) 1 117 := ⟨by decide +kernel, rfl⟩
theorem e_X11_ticks_117 : g_dc cX11_ticks 117 (.bipush 10) 2 119 := ⟨by decide +kernel, rfl⟩
theorem e_X11_ticks_119 : g_dc cX11_ticks 119 (.if_icmp .ge 22) 3 122 := ⟨by decide +kernel, rfl⟩
theorem e_X11_ticks_122 : g_dc cX11_ticks 122 (.iload_n 1) 1 123 := ⟨by decide +kernel, rfl⟩
theorem e_X11_ticks_123 : g_dc cX11_ticks 123 (.iload_n 2) 1 124 := ⟨by decide +kernel, rfl⟩
theorem e_X11_ticks_124 : g_dc cX11_ticks 124 (.invokestatic 175) 3 127 := ⟨by decide +kernel, rfl⟩
theorem e_X11_ticks_127 : g_dc cX11_ticks 127 (.ifCond .eq 8) 3 130 := ⟨by decide +kernel, rfl⟩
theorem e_X11_ticks_130 : g_dc cX11_ticks 130 (.aload_n 0) 1 131 := ⟨by decide +kernel, rfl⟩
theorem e_X11_ticks_131 : g_dc cX11_ticks 131 (.iload_n 2) 1 132 := ⟨by decide +kernel, rfl⟩
theorem e_X11_ticks_132 : g_dc cX11_ticks 132 (.invokevirtual 383) 3 135 := ⟨by decide +kernel, rfl⟩
theorem e_X11_ticks_135 : g_dc cX11_ticks 135 (.iinc 2 1) 3 138 := ⟨by decide +kernel, rfl⟩
theorem e_X11_ticks_138 : g_dc cX11_ticks 138 (.goto (-22)) 3 141 := ⟨by decide +kernel, rfl⟩
theorem e_X11_ticks_141 : g_dc cX11_ticks 141 (.iconst 0) 1 142 := ⟨by decide +kernel, rfl⟩
theorem e_X11_ticks_142 : g_dc cX11_ticks 142 (.istore_n 2) 1 143 := ⟨by decide +kernel, rfl⟩
theorem e_X11_ticks_143 : g_dc cX11_ticks 143 (.iload_n 2) 1 144 := ⟨by decide +kernel, rfl⟩
theorem e_X11_ticks_144 : g_dc cX11_ticks 144 (.bipush 10) 2 146 := ⟨by decide +kernel, rfl⟩
theorem e_X11_ticks_146 : g_dc cX11_ticks 146 (.if_icmp .ge 31) 3 149 := ⟨by decide +kernel, rfl⟩
theorem e_X11_ticks_149 : g_dc cX11_ticks 149 (.iload_n 1) 1 150 := ⟨by decide +kernel, rfl⟩
theorem e_X11_ticks_150 : g_dc cX11_ticks 150 (.iload_n 2) 1 151 := ⟨by decide +kernel, rfl⟩
theorem e_X11_ticks_151 : g_dc cX11_ticks 151 (.invokestatic 175) 3 154 := ⟨by decide +kernel, rfl⟩
theorem e_X11_ticks_154 : g_dc cX11_ticks 154 (.ifCond .eq 17) 3 157 := ⟨by decide +kernel, rfl⟩
theorem e_X11_ticks_157 : g_dc cX11_ticks 157 (.aload_n 0) 1 158 := ⟨by decide +kernel, rfl⟩
theorem e_X11_ticks_158 : g_dc cX11_ticks 158 (.getfield 92) 3 161 := ⟨by decide +kernel, rfl⟩
theorem e_X11_ticks_161 : g_dc cX11_ticks 161 (.iload_n 2) 1 162 := ⟨by decide +kernel, rfl⟩
theorem e_X11_ticks_162 : g_dc cX11_ticks 162 (.iaload) 1 163 := ⟨by decide +kernel, rfl⟩
theorem e_X11_ticks_163 : g_dc cX11_ticks 163 (.ifCond .ne 8) 3 166 := ⟨by decide +kernel, rfl⟩
theorem e_X11_ticks_166 : g_dc cX11_ticks 166 (.aload_n 0) 1 167 := ⟨by decide +kernel, rfl⟩
theorem e_X11_ticks_167 : g_dc cX11_ticks 167 (.iload_n 2) 1 168 := ⟨by decide +kernel, rfl⟩
theorem e_X11_ticks_168 : g_dc cX11_ticks 168 (.invokevirtual 386) 3 171 := ⟨by decide +kernel, rfl⟩
theorem e_X11_ticks_171 : g_dc cX11_ticks 171 (.iinc 2 1) 3 174 := ⟨by decide +kernel, rfl⟩
theorem e_X11_ticks_174 : g_dc cX11_ticks 174 (.goto (-31)) 3 177 := ⟨by decide +kernel, rfl⟩
theorem e_X11_ticks_177 : g_dc cX11_ticks 177 (.aload_n 0) 1 178 := ⟨by decide +kernel, rfl⟩
theorem e_X11_ticks_178 : g_dc cX11_ticks 178 (.invokevirtual 389) 3 181 := ⟨by decide +kernel, rfl⟩
theorem e_X11_ticks_181 : g_dc cX11_ticks 181 (.istore_n 2) 1 182 := ⟨by decide +kernel, rfl⟩
theorem e_X11_ticks_182 : g_dc cX11_ticks 182 (.iconst 0) 1 183 := ⟨by decide +kernel, rfl⟩
theorem e_X11_ticks_183 : g_dc cX11_ticks 183 (.istore_n 3) 1 184 := ⟨by decide +kernel, rfl⟩
theorem e_X11_ticks_184 : g_dc cX11_ticks 184 (.iload_n 3) 1 185 := ⟨by decide +kernel, rfl⟩
theorem e_X11_ticks_185 : g_dc cX11_ticks 185 (.iconst 1) 1 186 := ⟨by decide +kernel, rfl⟩
theorem e_X11_ticks_186 : g_dc cX11_ticks 186 (.iadd) 1 187 := ⟨by decide +kernel, rfl⟩
theorem e_X11_ticks_187 : g_dc cX11_ticks 187 (.iload_n 2) 1 188 := ⟨by decide +kernel, rfl⟩
theorem e_X11_ticks_188 : g_dc cX11_ticks 188 (.if_icmp .ge 27) 3 191 := ⟨by decide +kernel, rfl⟩
theorem e_X11_ticks_191 : g_dc cX11_ticks 191 (.aload_n 0) 1 192 := ⟨by decide +kernel, rfl⟩
theorem e_X11_ticks_192 : g_dc cX11_ticks 192 (.aload_n 0) 1 193 := ⟨by decide +kernel, rfl⟩
theorem e_X11_ticks_193 : g_dc cX11_ticks 193 (.getfield 119) 3 196 := ⟨by decide +kernel, rfl⟩
theorem e_X11_ticks_196 : g_dc cX11_ticks 196 (.iload_n 3) 1 197 := ⟨by decide +kernel, rfl⟩
theorem e_X11_ticks_197 : g_dc cX11_ticks 197 (.iaload) 1 198 := ⟨by decide +kernel, rfl⟩
theorem e_X11_ticks_198 : g_dc cX11_ticks 198 (.aload_n 0) 1 199 := ⟨by decide +kernel, rfl⟩
theorem e_X11_ticks_199 : g_dc cX11_ticks 199 (.getfield 119) 3 202 := ⟨by decide +kernel, rfl⟩
theorem e_X11_ticks_202 : g_dc cX11_ticks 202 (.iload_n 3) 1 203 := ⟨by decide +kernel, rfl⟩
theorem e_X11_ticks_203 : g_dc cX11_ticks 203 (.iconst 1) 1 204 := ⟨by decide +kernel, rfl⟩
theorem e_X11_ticks_204 : g_dc cX11_ticks 204 (.iadd) 1 205 := ⟨by decide +kernel, rfl⟩
theorem e_X11_ticks_205 : g_dc cX11_ticks 205 (.iaload) 1 206 := ⟨by decide +kernel, rfl⟩
theorem e_X11_ticks_206 : g_dc cX11_ticks 206 (.invokevirtual 392) 3 209 := ⟨by decide +kernel, rfl⟩
theorem e_X11_ticks_209 : g_dc cX11_ticks 209 (.iinc 3 1) 3 212 := ⟨by decide +kernel, rfl⟩
theorem e_X11_ticks_212 : g_dc cX11_ticks 212 (.goto (-28)) 3 215 := ⟨by decide +kernel, rfl⟩
theorem e_X11_ticks_215 : g_dc cX11_ticks 215 (.iconst 0) 1 216 := ⟨by decide +kernel, rfl⟩
theorem e_X11_ticks_216 : g_dc cX11_ticks 216 (.istore_n 3) 1 217 := ⟨by decide +kernel, rfl⟩
theorem e_X11_ticks_217 : g_dc cX11_ticks 217 (.iload_n 3) 1 218 := ⟨by decide +kernel, rfl⟩
theorem e_X11_ticks_218 : g_dc cX11_ticks 218 (.bipush 10) 2 220 := ⟨by decide +kernel, rfl⟩
theorem e_X11_ticks_220 : g_dc cX11_ticks 220 (.if_icmp .ge 22) 3 223 := ⟨by decide +kernel, rfl⟩
theorem e_X11_ticks_223 : g_dc cX11_ticks 223 (.iload_n 1) 1 224 := ⟨by decide +kernel, rfl⟩
theorem e_X11_ticks_224 : g_dc cX11_ticks 224 (.iload_n 3) 1 225 := ⟨by decide +kernel, rfl⟩
theorem e_X11_ticks_225 : g_dc cX11_ticks 225 (.invokestatic 175) 3 228 := ⟨by decide +kernel, rfl⟩
theorem e_X11_ticks_228 : g_dc cX11_ticks 228 (.ifCond .eq 8) 3 231 := ⟨by decide +kernel, rfl⟩
theorem e_X11_ticks_231 : g_dc cX11_ticks 231 (.aload_n 0) 1 232 := ⟨by decide +kernel, rfl⟩
theorem e_X11_ticks_232 : g_dc cX11_ticks 232 (.iload_n 3) 1 233 := ⟨by decide +kernel, rfl⟩
theorem e_X11_ticks_233 : g_dc cX11_ticks 233 (.invokevirtual 395) 3 236 := ⟨by decide +kernel, rfl⟩
theorem e_X11_ticks_236 : g_dc cX11_ticks 236 (.iinc 3 1) 3 239 := ⟨by decide +kernel, rfl⟩
theorem e_X11_ticks_239 : g_dc cX11_ticks 239 (.goto (-22)) 3 242 := ⟨by decide +kernel, rfl⟩
theorem e_X11_ticks_242 : g_dc cX11_ticks 242 (.aload_n 0) 1 243 := ⟨by decide +kernel, rfl⟩
theorem e_X11_ticks_243 : g_dc cX11_ticks 243 (.aload_n 0) 1 244 := ⟨by decide +kernel, rfl⟩
theorem e_X11_ticks_244 : g_dc cX11_ticks 244 (.getfield 337) 3 247 := ⟨by decide +kernel, rfl⟩
theorem e_X11_ticks_247 : g_dc cX11_ticks 247 (.aload_n 0) 1 248 := ⟨by decide +kernel, rfl⟩
theorem e_X11_ticks_248 : g_dc cX11_ticks 248 (.getfield 377) 3 251 := ⟨by decide +kernel, rfl⟩
theorem e_X11_ticks_251 : g_dc cX11_ticks 251 (.ior) 1 252 := ⟨by decide +kernel, rfl⟩
theorem e_X11_ticks_252 : g_dc cX11_ticks 252 (.putfield 337) 3 255 := ⟨by decide +kernel, rfl⟩
theorem e_X11_ticks_255 : g_dc cX11_ticks 255 (.aload_n 0) 1 256 := ⟨by decide +kernel, rfl⟩
theorem e_X11_ticks_256 : g_dc cX11_ticks 256 (.aload_n 0) 1 257 := ⟨by decide +kernel, rfl⟩
theorem e_X11_ticks_257 : g_dc cX11_ticks 257 (.getfield 328) 3 260 := ⟨by decide +kernel, rfl⟩
theorem e_X11_ticks_260 : g_dc cX11_ticks 260 (.aload_n 0) 1 261 := ⟨by decide +kernel, rfl⟩
theorem e_X11_ticks_261 : g_dc cX11_ticks 261 (.getfield 356) 3 264 := ⟨by decide +kernel, rfl⟩
theorem e_X11_ticks_264 : g_dc cX11_ticks 264 (.iadd) 1 265 := ⟨by decide +kernel, rfl⟩
theorem e_X11_ticks_265 : g_dc cX11_ticks 265 (.putfield 328) 3 268 := ⟨by decide +kernel, rfl⟩
theorem e_X11_ticks_268 : g_dc cX11_ticks 268 (.aload_n 0) 1 269 := ⟨by decide +kernel, rfl⟩
theorem e_X11_ticks_269 : g_dc cX11_ticks 269 (.aload_n 0) 1 270 := ⟨by decide +kernel, rfl⟩
theorem e_X11_ticks_270 : g_dc cX11_ticks 270 (.getfield 325) 3 273 := ⟨by decide +kernel, rfl⟩
theorem e_X11_ticks_273 : g_dc cX11_ticks 273 (.iconst 1) 1 274 := ⟨by decide +kernel, rfl⟩
theorem e_X11_ticks_274 : g_dc cX11_ticks 274 (.iadd) 1 275 := ⟨by decide +kernel, rfl⟩
theorem e_X11_ticks_275 : g_dc cX11_ticks 275 (.putfield 325) 3 278 := ⟨by decide +kernel, rfl⟩
theorem e_X11_ticks_278 : g_dc cX11_ticks 278 (.return_) 1 279 := ⟨by decide +kernel, rfl⟩
def md_X11_ticks : List Nat := [3, 45, 46, 47, 48, 50, 65, 66, 67, 68, 69]
def mr_X11_ticks : List Nat := [23, 24, 26, 27, 28, 29, 32, 33, 34, 35, 36, 37]
set_option maxHeartbeats 4000000 in
set_option maxRecDepth 100000 in
theorem w_X11_ticks (l : Launch) (X : gX) (ad : Nat → Nat) (F : Nat → Int32) (R : Nat → Nat → Int32) (hI : g_ok LK_wM F) (hA : g_okR LA_wM R) (hWT : WT F R) (hWC : WC F R) (hpn : WN F R) (hpt : (F 45).toInt ≤ 299) : g_Cv l X yX11_ticks cX11_ticks 4 5 0 0 [.ref (ad 0)] (wM X ad F R) (fun w => ∃ (F' : Nat → Int32) (R' : Nat → Nat → Int32), w = wM X ad F' R' ∧ g_ok LK_wM F' ∧ g_okR LA_wM R' ∧ WT F' R' ∧ WC F' R' ∧ g_fr md_X11_ticks F F' ∧ g_fr mr_X11_ticks R R' ∧ (F' 45).toInt = (F 45).toInt + 1 ∧ (F', R') = sp_X11_ticks F R) := by
  refine g_mv (by decide +kernel) (Nat.le_of_ble_eq_true rfl) (fun E cx hret => ?_)
  obtain ⟨SP, hSP⟩ : ∃ z, z = sp_X11_ticks F R := ⟨_, rfl⟩
  have hk0 := hSP
  unfold sp_X11_ticks at hk0
  refine g_aload_n cx 0 rfl e_X11_ticks_0 ?_
  refine g_iconst cx 0 (by decide) e_X11_ticks_1 ?_
  refine g_aload_n cx 0 rfl e_X11_ticks_2 ?_
  refine g_cViW cx [] [.int 0, .ref (ad 0)] (w_X11_paceNow l X ad F R hI hA hWT hWC) ml_X11_350 yV_X11_paceNow e_X11_ticks_3 (by unfold g_rr; decide) (by decide) 0 rfl rfl rfl (Nat.le_of_ble_eq_true rfl) (fun r1 w2 h3 => ?_)
  obtain ⟨rfl, pr1, hx4⟩ := h3
  have hk5 := k_ls hk0 hx4
  refine g_aload_n cx 0 rfl e_X11_ticks_6 ?_
  refine g_cViW cx [] [.int r1, .int 0, .ref (ad 0)] (w_X11_slipsNow l X ad F R hI hA hWT hWC) ml_X11_380 yV_X11_slipsNow e_X11_ticks_7 (by unfold g_rr; decide) (by decide) 0 rfl rfl rfl (Nat.le_of_ble_eq_true rfl) (fun r6 w7 h8 => ?_)
  obtain ⟨F10, R11, rfl, oF10, oR11, wTF10, wCF10, cF10, cR11, pr6, hx9⟩ := h8
  have hk12 := k_ls3 hk5 hx9
  have fF10 : g_fr md_X11_ticks F F10 := g_fr_c (g_fr_rf F) cF10 rfl
  have fR11 : g_fr mr_X11_ticks R R11 := g_fr_c (g_fr_rf R) cR11 rfl
  refine g_isub cx e_X11_ticks_10 ?_
  refine g_topi (fun x13 ex13 => ?_)
  have hk14 := k_ls hk12 ex13
  refine g_cSiW cx [.int 0, .int x13] [.ref (ad 0)] (w_X11_max l X ad F10 R11 oF10 oR11 0 x13) ml_X11_371 yS_X11_max rfl e_X11_ticks_11 (by unfold g_rr; decide) (by decide) rfl (Nat.le_of_ble_eq_true rfl) (fun r15 w16 h17 => ?_)
  obtain ⟨rfl, pr15, hx18⟩ := h17
  have hk19 := k_ls hk14 hx18
  refine g_put cx cl_X11 fl_X11_356 0 (wM X ad (upd F10 47 r15) R11) e_X11_ticks_14 rfl rfl rfl rfl (Nat.le_of_ble_eq_true rfl) rfl ?_
  obtain ⟨F20, hF20⟩ : ∃ z, z = upd F10 47 r15 := ⟨_, rfl⟩
  rw [← hF20]
  have hk21 := k_ls hk19 hF20
  have oF20 : g_ok LK_wM F20 := by rw [hF20]; exact g_ok_u oF10 rfl
  have fF20 : g_fr md_X11_ticks F F20 := by rw [hF20]; exact g_fr_u fF10 rfl
  have wTF20 : WT F20 R11 := by rw [hF20]; exact WT_u wTF10 rfl
  have wCF20 : WC F20 R11 := by rw [hF20]; exact WC_u wCF10 rfl
  refine g_aload_n cx 0 rfl e_X11_ticks_17 ?_
  refine g_iconst cx 0 (by decide) e_X11_ticks_18 ?_
  refine g_aload_n cx 0 rfl e_X11_ticks_19 ?_
  refine g_get cx cl_X11 fl_X11_331 0 (.int (F20 48)) e_X11_ticks_20 rfl rfl ?_
  refine g_toi (F 48) ((g_pu2 hF20 rfl).trans (cF10 48 rfl)) ?_
  refine g_aload_n cx 0 rfl e_X11_ticks_23 ?_
  refine g_get cx cl_X11 fl_X11_356 0 (.int (F20 47)) e_X11_ticks_24 rfl rfl ?_
  refine g_toi r15 (g_pu1 hF20) ?_
  refine g_isub cx e_X11_ticks_27 ?_
  refine g_topi (fun x22 ex22 => ?_)
  have hk23 := k_ls hk21 ex22
  refine g_cSiW cx [.int 0, .int x22] [.ref (ad 0)] (w_X11_max l X ad F20 R11 oF20 oR11 0 x22) ml_X11_371 yS_X11_max rfl e_X11_ticks_28 (by unfold g_rr; decide) (by decide) rfl (Nat.le_of_ble_eq_true rfl) (fun r24 w25 h26 => ?_)
  obtain ⟨rfl, pr24, hx27⟩ := h26
  have hk28 := k_ls hk23 hx27
  refine g_put cx cl_X11 fl_X11_331 0 (wM X ad (upd F20 48 r24) R11) e_X11_ticks_31 rfl rfl rfl rfl (Nat.le_of_ble_eq_true rfl) rfl ?_
  obtain ⟨F29, hF29⟩ : ∃ z, z = upd F20 48 r24 := ⟨_, rfl⟩
  rw [← hF29]
  have hk30 := k_ls hk28 hF29
  have oF29 : g_ok LK_wM F29 := by rw [hF29]; exact g_ok_u oF20 rfl
  have fF29 : g_fr md_X11_ticks F F29 := by rw [hF29]; exact g_fr_u fF20 rfl
  have wTF29 : WT F29 R11 := by rw [hF29]; exact WT_u wTF20 rfl
  have wCF29 : WC F29 R11 := by rw [hF29]; exact WC_u wCF20 rfl
  refine g_iconst cx 0 (by decide) e_X11_ticks_34 ?_
  refine g_istore_n cx [(1, .int 0), (0, .ref (ad 0))] e_X11_ticks_35 (by decide) rfl ?_
  refine g_aload_n cx 1 rfl e_X11_ticks_36 ?_
  refine g_iconst cx 0 (by decide) e_X11_ticks_37 ?_
  refine g_put cx cl_X11 fl_X11_362 0 (wM X ad (upd F29 69 0) R11) e_X11_ticks_38 rfl rfl rfl rfl (Nat.le_of_ble_eq_true rfl) rfl ?_
  obtain ⟨F31, hF31⟩ : ∃ z, z = upd F29 69 0 := ⟨_, rfl⟩
  rw [← hF31]
  have hk32 := k_ls hk30 hF31
  have oF31 : g_ok LK_wM F31 := by rw [hF31]; exact g_ok_u oF29 rfl
  have fF31 : g_fr md_X11_ticks F F31 := by rw [hF31]; exact g_fr_u fF29 rfl
  have wTF31 : WT F31 R11 := by rw [hF31]; exact WT_u wTF29 rfl
  have wCF31 : WC F31 R11 := by rw [hF31]; exact WC_u wCF29 rfl
  refine g_aload_n cx 1 rfl e_X11_ticks_41 ?_
  refine g_iconst cx 0 (by decide) e_X11_ticks_42 ?_
  refine g_put cx cl_X11 fl_X11_377 0 (wM X ad (upd F31 68 0) R11) e_X11_ticks_43 rfl rfl rfl rfl (Nat.le_of_ble_eq_true rfl) rfl ?_
  obtain ⟨F33, hF33⟩ : ∃ z, z = upd F31 68 0 := ⟨_, rfl⟩
  rw [← hF33]
  have hk34 := k_ls hk32 hF33
  have oF33 : g_ok LK_wM F33 := by rw [hF33]; exact g_ok_u oF31 rfl
  have fF33 : g_fr md_X11_ticks F F33 := by rw [hF33]; exact g_fr_u fF31 rfl
  have wTF33 : WT F33 R11 := by rw [hF33]; exact WT_u wTF31 rfl
  have wCF33 : WC F33 R11 := by rw [hF33]; exact WC_u wCF31 rfl
  refine g_iconst cx 0 (by decide) e_X11_ticks_46 ?_
  refine g_istore_n cx [(2, .int 0), (1, .int 0), (0, .ref (ad 0))] e_X11_ticks_47 (by decide) rfl ?_
  have J48 : ∀ (N : Nat) (F37 : Nat → Int32) (R38 : Nat → Nat → Int32) (y35 : Int32) (y36 : Int32), (g_ok LK_wM F37) → (g_fr md_X11_ticks F F37) → (g_okR LA_wM R38) → (g_fr mr_X11_ticks R R38) → (WT F37 R38) → (WC F37 R38) → (jv (-2147483648) 2147483647 y35) → (jv 0 10 y36) → ((F37 45).toInt = (F 45).toInt) → (HS y35 (F 42)) → (SP = K_X11_ticks_48 N F37 R38 y35 y36) → (2147483647 - y36.toInt).toNat < N → G X E 4 0 0 (wM X ad F37 R38) [(0, .ref (ad 0)), (1, .int y35), (2, .int y36)] 48 [] := by
    intro N
    induction N with
    | zero => intro F37 R38 y35 y36 oF37 fF37 oR38 fR38 wTF37R38 wCF37R38 py35 py36 zi48_0 zq48_0 hkJ48 hm; exact absurd hm (Nat.not_lt_zero _)
    | succ N ih48 =>
      intro F37 R38 y35 y36 oF37 fF37 oR38 fR38 wTF37R38 wCF37R38 py35 py36 zi48_0 zq48_0 hkJ48 hm48
      have hkK48 : SP = KB_X11_ticks_48 (K_X11_ticks_48 N) F37 R38 y35 y36 := hkJ48
      obtain ⟨b48, hb48⟩ : ∃ z, z = K_X11_ticks_48 N := ⟨_, rfl⟩
      rw [← hb48] at hkK48
      unfold KB_X11_ticks_48 at hkK48
      refine g_iload_n cx 2 rfl e_X11_ticks_48 ?_
      refine g_bipush cx 10 (by decide) e_X11_ticks_49 ?_
      refine g_icmp_ge cx 114 e_X11_ticks_51 (by decide) (fun zc39 => ?_) (fun zc39 => ?_)
      · have p40 := gn_ge 10 10 (gc_le zc39) py36 (jv_k (x := 10) 10 (by decide)) (by decide)
        have hk41 := hkK48.trans (if_pos zc39)
        refine g_iconst cx 0 (by decide) e_X11_ticks_114 ?_
        refine g_istore_n cx [(2, .int 0), (0, .ref (ad 0)), (1, .int y35)] e_X11_ticks_115 (by decide) rfl ?_
        have J116 : ∀ (N : Nat) (F43 : Nat → Int32) (R44 : Nat → Nat → Int32) (y42 : Int32), (g_ok LK_wM F43) → (g_fr md_X11_ticks F F43) → (g_okR LA_wM R44) → (g_fr mr_X11_ticks R R44) → (WT F43 R44) → (WC F43 R44) → (jv 0 10 y42) → ((F43 45).toInt = (F 45).toInt) → (SP = K_X11_ticks_116 y35 N F43 R44 y42) → (2147483647 - y42.toInt).toNat < N → G X E 4 0 0 (wM X ad F43 R44) [(0, .ref (ad 0)), (1, .int y35), (2, .int y42)] 116 [] := by
          intro N
          induction N with
          | zero => intro F43 R44 y42 oF43 fF43 oR44 fR44 wTF43R44 wCF43R44 py42 zi116_0 hkJ116 hm; exact absurd hm (Nat.not_lt_zero _)
          | succ N ih116 =>
            intro F43 R44 y42 oF43 fF43 oR44 fR44 wTF43R44 wCF43R44 py42 zi116_0 hkJ116 hm116
            have hkK116 : SP = KB_X11_ticks_116 (K_X11_ticks_116 y35 N) y35 F43 R44 y42 := hkJ116
            obtain ⟨b116, hb116⟩ : ∃ z, z = K_X11_ticks_116 y35 N := ⟨_, rfl⟩
            rw [← hb116] at hkK116
            unfold KB_X11_ticks_116 at hkK116
            refine g_iload_n cx 2 rfl e_X11_ticks_116 ?_
            refine g_bipush cx 10 (by decide) e_X11_ticks_117 ?_
            refine g_icmp_ge cx 141 e_X11_ticks_119 (by decide) (fun zc45 => ?_) (fun zc45 => ?_)
            · have p46 := gn_ge 10 10 (gc_le zc45) py42 (jv_k (x := 10) 10 (by decide)) (by decide)
              have hk47 := hkK116.trans (if_pos zc45)
              refine g_iconst cx 0 (by decide) e_X11_ticks_141 ?_
              refine g_istore_n cx [(2, .int 0), (0, .ref (ad 0)), (1, .int y35)] e_X11_ticks_142 (by decide) rfl ?_
              have J143 : ∀ (N : Nat) (F49 : Nat → Int32) (R50 : Nat → Nat → Int32) (y48 : Int32), (g_ok LK_wM F49) → (g_fr md_X11_ticks F F49) → (g_okR LA_wM R50) → (g_fr mr_X11_ticks R R50) → (WT F49 R50) → (WC F49 R50) → (jv 0 10 y48) → ((F49 45).toInt = (F 45).toInt) → (SP = K_X11_ticks_143 y35 N F49 R50 y48) → (2147483647 - y48.toInt).toNat < N → G X E 4 0 0 (wM X ad F49 R50) [(0, .ref (ad 0)), (1, .int y35), (2, .int y48)] 143 [] := by
                intro N
                induction N with
                | zero => intro F49 R50 y48 oF49 fF49 oR50 fR50 wTF49R50 wCF49R50 py48 zi143_0 hkJ143 hm; exact absurd hm (Nat.not_lt_zero _)
                | succ N ih143 =>
                  intro F49 R50 y48 oF49 fF49 oR50 fR50 wTF49R50 wCF49R50 py48 zi143_0 hkJ143 hm143
                  have hkK143 : SP = KB_X11_ticks_143 (K_X11_ticks_143 y35 N) y35 F49 R50 y48 := hkJ143
                  obtain ⟨b143, hb143⟩ : ∃ z, z = K_X11_ticks_143 y35 N := ⟨_, rfl⟩
                  rw [← hb143] at hkK143
                  unfold KB_X11_ticks_143 at hkK143
                  refine g_iload_n cx 2 rfl e_X11_ticks_143 ?_
                  refine g_bipush cx 10 (by decide) e_X11_ticks_144 ?_
                  refine g_icmp_ge cx 177 e_X11_ticks_146 (by decide) (fun zc51 => ?_) (fun zc51 => ?_)
                  · have p52 := gn_ge 10 10 (gc_le zc51) py48 (jv_k (x := 10) 10 (by decide)) (by decide)
                    have hk53 := hkK143.trans (if_pos zc51)
                    refine g_aload_n cx 0 rfl e_X11_ticks_177 ?_
                    refine g_cViW cx [] [] (w_X11_laysOrder l X ad F49 R50 oF49 oR50 wTF49R50 wCF49R50 (WN_e hpn (fF49 42 rfl) (fR50 3 rfl) (fR50 5 rfl))) ml_X11_389 yV_X11_laysOrder e_X11_ticks_178 (by unfold g_rr; decide) (by decide) 0 rfl rfl rfl (Nat.le_of_ble_eq_true rfl) (fun r54 w55 h56 => ?_)
                    obtain ⟨F59, R60, rfl, oF59, oR60, wTF59, wCF59, cF59, cR60, pr54, zx57, hx58⟩ := h56
                    have hk61 := k_ls3 hk53 hx58
                    have fF59 : g_fr md_X11_ticks F F59 := g_fr_c fF49 cF59 rfl
                    have fR60 : g_fr mr_X11_ticks R R60 := g_fr_c fR50 cR60 rfl
                    refine g_istore_n cx [(2, .int r54), (0, .ref (ad 0)), (1, .int y35)] e_X11_ticks_181 (by decide) rfl ?_
                    refine g_iconst cx 0 (by decide) e_X11_ticks_182 ?_
                    refine g_istore_n cx [(3, .int 0), (2, .int r54), (0, .ref (ad 0)), (1, .int y35)] e_X11_ticks_183 (by decide) rfl ?_
                    have J184 : ∀ (N : Nat) (F63 : Nat → Int32) (R64 : Nat → Nat → Int32) (y62 : Int32), (g_ok LK_wM F63) → (g_fr md_X11_ticks F F63) → (g_okR LA_wM R64) → (g_fr mr_X11_ticks R R64) → (WT F63 R64) → (WC F63 R64) → (jv 0 9 y62) → ((F63 45).toInt = (F 45).toInt) → (OW (R 5) (R64 37) (r54 : Int32).toInt) → (SP = K_X11_ticks_184 r54 y35 N F63 R64 y62) → (2147483647 - y62.toInt).toNat < N → G X E 4 0 0 (wM X ad F63 R64) [(0, .ref (ad 0)), (1, .int y35), (2, .int r54), (3, .int y62)] 184 [] := by
                      intro N
                      induction N with
                      | zero => intro F63 R64 y62 oF63 fF63 oR64 fR64 wTF63R64 wCF63R64 py62 zi184_0 zq184_0 hkJ184 hm; exact absurd hm (Nat.not_lt_zero _)
                      | succ N ih184 =>
                        intro F63 R64 y62 oF63 fF63 oR64 fR64 wTF63R64 wCF63R64 py62 zi184_0 zq184_0 hkJ184 hm184
                        have hkK184 : SP = KB_X11_ticks_184 (K_X11_ticks_184 r54 y35 N) r54 y35 F63 R64 y62 := hkJ184
                        obtain ⟨b184, hb184⟩ : ∃ z, z = K_X11_ticks_184 r54 y35 N := ⟨_, rfl⟩
                        rw [← hb184] at hkK184
                        unfold KB_X11_ticks_184 at hkK184
                        refine g_iload_n cx 3 rfl e_X11_ticks_184 ?_
                        refine g_iconst cx 1 (by decide) e_X11_ticks_185 ?_
                        refine g_iadd cx e_X11_ticks_186 ?_
                        refine g_topi (fun x65 ex65 => ?_)
                        have hk66 := k_ls hkK184 ex65
                        have zx65 := jv_add 1 10 ex65 py62 (jv_k (x := 1) 1 (by decide)) (by decide)
                        refine g_iload_n cx 2 rfl e_X11_ticks_187 ?_
                        refine g_icmp_ge cx 215 e_X11_ticks_188 (by decide) (fun zc67 => ?_) (fun zc67 => ?_)
                        · have hk68 := hk66.trans (if_pos zc67)
                          refine g_iconst cx 0 (by decide) e_X11_ticks_215 ?_
                          refine g_istore_n cx [(3, .int 0), (0, .ref (ad 0)), (1, .int y35), (2, .int r54)] e_X11_ticks_216 (by decide) rfl ?_
                          have J217 : ∀ (N : Nat) (F70 : Nat → Int32) (R71 : Nat → Nat → Int32) (y69 : Int32), (g_ok LK_wM F70) → (g_fr md_X11_ticks F F70) → (g_okR LA_wM R71) → (g_fr mr_X11_ticks R R71) → (WT F70 R71) → (WC F70 R71) → (jv 0 10 y69) → ((F70 45).toInt = (F 45).toInt) → (SP = K_X11_ticks_217 y35 N F70 R71 y69) → (2147483647 - y69.toInt).toNat < N → G X E 4 0 0 (wM X ad F70 R71) [(0, .ref (ad 0)), (1, .int y35), (3, .int y69)] 217 [] := by
                            intro N
                            induction N with
                            | zero => intro F70 R71 y69 oF70 fF70 oR71 fR71 wTF70R71 wCF70R71 py69 zi217_0 hkJ217 hm; exact absurd hm (Nat.not_lt_zero _)
                            | succ N ih217 =>
                              intro F70 R71 y69 oF70 fF70 oR71 fR71 wTF70R71 wCF70R71 py69 zi217_0 hkJ217 hm217
                              have hkK217 : SP = KB_X11_ticks_217 (K_X11_ticks_217 y35 N) y35 F70 R71 y69 := hkJ217
                              obtain ⟨b217, hb217⟩ : ∃ z, z = K_X11_ticks_217 y35 N := ⟨_, rfl⟩
                              rw [← hb217] at hkK217
                              unfold KB_X11_ticks_217 at hkK217
                              refine g_iload_n cx 2 rfl e_X11_ticks_217 ?_
                              refine g_bipush cx 10 (by decide) e_X11_ticks_218 ?_
                              refine g_icmp_ge cx 242 e_X11_ticks_220 (by decide) (fun zc72 => ?_) (fun zc72 => ?_)
                              · have p73 := gn_ge 10 10 (gc_le zc72) py69 (jv_k (x := 10) 10 (by decide)) (by decide)
                                have hk74 := hkK217.trans (if_pos zc72)
                                refine g_aload_n cx 0 rfl e_X11_ticks_242 ?_
                                refine g_aload_n cx 0 rfl e_X11_ticks_243 ?_
                                refine g_get cx cl_X11 fl_X11_337 0 (.int (F70 66)) e_X11_ticks_244 rfl rfl ?_
                                refine g_aload_n cx 0 rfl e_X11_ticks_247 ?_
                                refine g_get cx cl_X11 fl_X11_377 0 (.int (F70 68)) e_X11_ticks_248 rfl rfl ?_
                                refine g_ior cx e_X11_ticks_251 ?_
                                refine g_topi (fun x75 ex75 => ?_)
                                have hk76 := k_ls hk74 ex75
                                refine g_put cx cl_X11 fl_X11_337 0 (wM X ad (upd F70 66 x75) R71) e_X11_ticks_252 rfl rfl rfl rfl (Nat.le_of_ble_eq_true rfl) rfl ?_
                                obtain ⟨F77, hF77⟩ : ∃ z, z = upd F70 66 x75 := ⟨_, rfl⟩
                                rw [← hF77]
                                have hk78 := k_ls hk76 hF77
                                have oF77 : g_ok LK_wM F77 := by rw [hF77]; exact g_ok_u oF70 rfl
                                have fF77 : g_fr md_X11_ticks F F77 := by rw [hF77]; exact g_fr_u fF70 rfl
                                have wTF77 : WT F77 R71 := by rw [hF77]; exact WT_u wTF70R71 rfl
                                have wCF77 : WC F77 R71 := by rw [hF77]; exact WC_u wCF70R71 rfl
                                refine g_aload_n cx 0 rfl e_X11_ticks_255 ?_
                                refine g_aload_n cx 0 rfl e_X11_ticks_256 ?_
                                refine g_get cx cl_X11 fl_X11_328 0 (.int (F77 46)) e_X11_ticks_257 rfl rfl ?_
                                refine g_toi (F70 46) (g_pu2 hF77 rfl) ?_
                                refine g_aload_n cx 0 rfl e_X11_ticks_260 ?_
                                refine g_get cx cl_X11 fl_X11_356 0 (.int (F77 47)) e_X11_ticks_261 rfl rfl ?_
                                refine g_toi (F70 47) (g_pu2 hF77 rfl) ?_
                                refine g_iadd cx e_X11_ticks_264 ?_
                                refine g_topi (fun x79 ex79 => ?_)
                                have hk80 := k_ls hk78 ex79
                                refine g_put cx cl_X11 fl_X11_328 0 (wM X ad (upd F77 46 x79) R71) e_X11_ticks_265 rfl rfl rfl rfl (Nat.le_of_ble_eq_true rfl) rfl ?_
                                obtain ⟨F81, hF81⟩ : ∃ z, z = upd F77 46 x79 := ⟨_, rfl⟩
                                rw [← hF81]
                                have hk82 := k_ls hk80 hF81
                                have oF81 : g_ok LK_wM F81 := by rw [hF81]; exact g_ok_u oF77 rfl
                                have fF81 : g_fr md_X11_ticks F F81 := by rw [hF81]; exact g_fr_u fF77 rfl
                                have wTF81 : WT F81 R71 := by rw [hF81]; exact WT_u wTF77 rfl
                                have wCF81 : WC F81 R71 := by rw [hF81]; exact WC_u wCF77 rfl
                                refine g_aload_n cx 0 rfl e_X11_ticks_268 ?_
                                refine g_aload_n cx 0 rfl e_X11_ticks_269 ?_
                                refine g_get cx cl_X11 fl_X11_325 0 (.int (F81 45)) e_X11_ticks_270 rfl rfl ?_
                                refine g_toi (F70 45) ((g_pu2 hF81 rfl).trans (g_pu2 hF77 rfl)) ?_
                                refine g_iconst cx 1 (by decide) e_X11_ticks_273 ?_
                                refine g_iadd cx e_X11_ticks_274 ?_
                                refine g_topi (fun x83 ex83 => ?_)
                                have hk84 := k_ls hk82 ex83
                                have zx83 := jv_add 1 301 ex83 (g_ok_g oF70 12 rfl) (jv_k (x := 1) 1 (by decide)) (by decide)
                                refine g_put cx cl_X11 fl_X11_325 0 (wM X ad (upd F81 45 x83) R71) e_X11_ticks_275 rfl rfl rfl rfl (Nat.le_of_ble_eq_true rfl) rfl ?_
                                obtain ⟨F85, hF85⟩ : ∃ z, z = upd F81 45 x83 := ⟨_, rfl⟩
                                rw [← hF85]
                                have hk86 := k_ls hk84 hF85
                                have oF85 : g_ok LK_wM F85 := by rw [hF85]; exact g_ok_p oF81 (show jv 0 300 _ from ⟨by have q0 := (jv_k (x := 1) 1 (by decide)).1; have q1 := (jv_k (x := 1) 1 (by decide)).2; have q2 := (g_ok_g hI 12 rfl).1; have q3 := (g_ok_g hI 12 rfl).2; have q4 := (g_ok_g oF37 12 rfl).1; have q5 := (g_ok_g oF37 12 rfl).2; have q6 := (g_ok_g oF43 12 rfl).1; have q7 := (g_ok_g oF43 12 rfl).2; have q8 := (g_ok_g oF49 12 rfl).1; have q9 := (g_ok_g oF49 12 rfl).2; have q10 := (g_ok_g oF63 12 rfl).1; have q11 := (g_ok_g oF63 12 rfl).2; have q12 := (g_ok_g oF70 12 rfl).1; have q13 := (g_ok_g oF70 12 rfl).2; have q14 := pr54.1; have q15 := pr54.2; have q16 := zx65.2.1; have q17 := zx65.2.2; have q18 := zx83.2.1; have q19 := zx83.2.2; have q20 := py62.1; have q21 := py62.2; have q22 := hpt; have q23 := zi48_0; have q24 := zi116_0; have q25 := zi143_0; have q26 := zi184_0; have q27 := (g_eq0 zx65.1); have q28 := (gc_le zc67); have q29 := zi217_0; have q30 := (g_eq0 zx83.1); omega, by have q0 := (jv_k (x := 1) 1 (by decide)).1; have q1 := (jv_k (x := 1) 1 (by decide)).2; have q2 := (g_ok_g hI 12 rfl).1; have q3 := (g_ok_g hI 12 rfl).2; have q4 := (g_ok_g oF37 12 rfl).1; have q5 := (g_ok_g oF37 12 rfl).2; have q6 := (g_ok_g oF43 12 rfl).1; have q7 := (g_ok_g oF43 12 rfl).2; have q8 := (g_ok_g oF49 12 rfl).1; have q9 := (g_ok_g oF49 12 rfl).2; have q10 := (g_ok_g oF63 12 rfl).1; have q11 := (g_ok_g oF63 12 rfl).2; have q12 := (g_ok_g oF70 12 rfl).1; have q13 := (g_ok_g oF70 12 rfl).2; have q14 := pr54.1; have q15 := pr54.2; have q16 := zx65.2.1; have q17 := zx65.2.2; have q18 := zx83.2.1; have q19 := zx83.2.2; have q20 := py62.1; have q21 := py62.2; have q22 := hpt; have q23 := zi48_0; have q24 := zi116_0; have q25 := zi143_0; have q26 := zi184_0; have q27 := (g_eq0 zx65.1); have q28 := (gc_le zc67); have q29 := zi217_0; have q30 := (g_eq0 zx83.1); omega⟩) rfl
                                have fF85 : g_fr md_X11_ticks F F85 := by rw [hF85]; exact g_fr_u fF81 rfl
                                have wTF85 : WT F85 R71 := by rw [hF85]; exact WT_u wTF81 rfl
                                have wCF85 : WC F85 R71 := by rw [hF85]; exact WC_u wCF81 rfl
                                exact hret e_X11_ticks_278 (Nat.le_of_ble_eq_true rfl) (Nat.le_of_ble_eq_true rfl) ⟨F85, R71, rfl, oF85, oR71, wTF85, wCF85, fF85, fR71, (by have q0 := (jv_k (x := 1) 1 (by decide)).1; have q1 := (jv_k (x := 1) 1 (by decide)).2; have q2 := (g_ok_g hI 12 rfl).1; have q3 := (g_ok_g hI 12 rfl).2; have q4 := (g_ok_g oF37 12 rfl).1; have q5 := (g_ok_g oF37 12 rfl).2; have q6 := (g_ok_g oF43 12 rfl).1; have q7 := (g_ok_g oF43 12 rfl).2; have q8 := (g_ok_g oF49 12 rfl).1; have q9 := (g_ok_g oF49 12 rfl).2; have q10 := (g_ok_g oF63 12 rfl).1; have q11 := (g_ok_g oF63 12 rfl).2; have q12 := (g_ok_g oF70 12 rfl).1; have q13 := (g_ok_g oF70 12 rfl).2; have q14 := (g_ok_g oF85 12 rfl).1; have q15 := (g_ok_g oF85 12 rfl).2; have q16 := pr54.1; have q17 := pr54.2; have q18 := zx65.2.1; have q19 := zx65.2.2; have q20 := zx83.2.1; have q21 := zx83.2.2; have q22 := py62.1; have q23 := py62.2; have q24 := hpt; have q25 := zi48_0; have q26 := zi116_0; have q27 := zi143_0; have q28 := zi184_0; have q29 := (g_eq0 zx65.1); have q30 := (gc_le zc67); have q31 := zi217_0; have q32 := (g_eq0 zx83.1); have q33 := (congrArg Int32.toInt (show F85 45 = x83 from (g_pu1 hF85))); omega), (hk86.symm.trans hSP)⟩
                              · have p87 := gn_lt 0 9 (gc_nle zc72) py69 (jv_k (x := 10) 10 (by decide)) (by decide)
                                have hk88 := hkK217.trans (if_neg zc72)
                                refine g_iload_n cx 1 rfl e_X11_ticks_223 ?_
                                refine g_iload_n cx 2 rfl e_X11_ticks_224 ?_
                                refine g_cSiW cx [.int y35, .int y69] [] (c_X11_has l X (wM X ad F70 R71) y35 y69) ml_X11_175 yS_X11_has rfl e_X11_ticks_225 (by unfold g_rr; decide) (by decide) rfl (Nat.le_of_ble_eq_true rfl) (fun r89 w90 h91 => ?_)
                                obtain ⟨rfl, hr89⟩ := h91
                                have pr89 : jv 0 1 r89 := by rcases hr89 with q | q <;> rw [q.1] <;> exact ⟨by decide, by decide⟩
                                have hk92 := k_ls hk88 (g_has_e hr89)
                                have J236 : ∀ (F93 : Nat → Int32) (R94 : Nat → Nat → Int32), (g_ok LK_wM F93) → (g_fr md_X11_ticks F F93) → (g_okR LA_wM R94) → (g_fr mr_X11_ticks R R94) → (WT F93 R94) → (WC F93 R94) → ((F93 45).toInt = (F 45).toInt) → (SP = K_X11_ticks_236 b217 y69 F93 R94) → G X E 4 0 0 (wM X ad F93 R94) [(0, .ref (ad 0)), (1, .int y35), (3, .int y69)] 236 [] := by
                                  intro F93 R94 oF93 fF93 oR94 fR94 wTF93R94 wCF93R94 zi236_0 hkJ236
                                  unfold K_X11_ticks_236 at hkJ236
                                  obtain ⟨x95, ex95⟩ : ∃ z : Int32, z = y69 + Int32.ofInt 1 := ⟨_, rfl⟩
                                  have hk96 := k_ls hkJ236 (show x95 = y69 + 1 from ex95)
                                  refine g_iinc cx x95 [(3, .int x95), (0, .ref (ad 0)), (1, .int y35)] 2 e_X11_ticks_236 rfl ex95.symm (by decide) rfl ?_
                                  have zx95 := jv_add 1 10 (show x95 = y69 + 1 from ex95) p87 (jv_k (x := 1) 1 (by decide)) (by decide)
                                  refine g_goto cx 217 e_X11_ticks_239 (by decide) ?_
                                  refine g_lsub [1, 2, 0] [(0, .ref (ad 0)), (1, .int y35), (3, .int x95)] rfl ?_
                                  exact ih217 F93 R94 x95 oF93 fF93 oR94 fR94 wTF93R94 wCF93R94 (jv_w zx95.2 (by decide)) (by have q0 := (g_ok_g hI 12 rfl).1; have q1 := (g_ok_g hI 12 rfl).2; have q2 := (g_ok_g oF37 12 rfl).1; have q3 := (g_ok_g oF37 12 rfl).2; have q4 := (g_ok_g oF43 12 rfl).1; have q5 := (g_ok_g oF43 12 rfl).2; have q6 := (g_ok_g oF49 12 rfl).1; have q7 := (g_ok_g oF49 12 rfl).2; have q8 := (g_ok_g oF63 12 rfl).1; have q9 := (g_ok_g oF63 12 rfl).2; have q10 := (g_ok_g oF70 12 rfl).1; have q11 := (g_ok_g oF70 12 rfl).2; have q12 := (g_ok_g oF93 12 rfl).1; have q13 := (g_ok_g oF93 12 rfl).2; have q14 := hpt; have q15 := zi48_0; have q16 := zi116_0; have q17 := zi143_0; have q18 := zi184_0; have q19 := zi217_0; have q20 := zi236_0; omega) (hk96.trans (by rw [hb217])) (Nat.lt_of_lt_of_le (show (2147483647 - x95.toInt).toNat < (2147483647 - y69.toInt).toNat from by have q0 := (jv_k (x := 1) 1 (by decide)).1; have q1 := (jv_k (x := 1) 1 (by decide)).2; have q2 := (jv_k (x := 10) 10 (by decide)).1; have q3 := (jv_k (x := 10) 10 (by decide)).2; have q4 := pr54.1; have q5 := pr54.2; have q6 := zx65.2.1; have q7 := zx65.2.2; have q8 := zx95.2.1; have q9 := zx95.2.2; have q10 := p40.1; have q11 := p40.2; have q12 := p46.1; have q13 := p46.2; have q14 := p52.1; have q15 := p52.2; have q16 := py62.1; have q17 := py62.2; have q18 := p87.1; have q19 := p87.2; have q20 := (gc_le zc39); have q21 := (gc_le zc45); have q22 := (gc_le zc51); have q23 := (g_eq0 zx65.1); have q24 := (gc_le zc67); have q25 := (gc_nle zc72); have q26 := (g_eq0 zx95.1); omega) (Nat.le_of_lt_succ hm217))
                                refine g_if_eq cx 236 e_X11_ticks_228 (by decide) (fun zc97 => ?_) (fun zc97 => ?_)
                                · have p98 := gn_eq 0 0 (gc_eq zc97) pr89 (jv_k (x := 0) 0 (by decide)) (by decide)
                                  have hk99 := hk92.trans (if_pos zc97)
                                  exact J236 F70 R71 oF70 fF70 oR71 fR71 wTF70R71 wCF70R71 (by have q0 := (g_ok_g hI 12 rfl).1; have q1 := (g_ok_g hI 12 rfl).2; have q2 := (g_ok_g oF37 12 rfl).1; have q3 := (g_ok_g oF37 12 rfl).2; have q4 := (g_ok_g oF43 12 rfl).1; have q5 := (g_ok_g oF43 12 rfl).2; have q6 := (g_ok_g oF49 12 rfl).1; have q7 := (g_ok_g oF49 12 rfl).2; have q8 := (g_ok_g oF63 12 rfl).1; have q9 := (g_ok_g oF63 12 rfl).2; have q10 := (g_ok_g oF70 12 rfl).1; have q11 := (g_ok_g oF70 12 rfl).2; have q12 := hpt; have q13 := zi48_0; have q14 := zi116_0; have q15 := zi143_0; have q16 := zi184_0; have q17 := zi217_0; omega) hk99
                                · have p100 := gn_neL 1 1 (gc_ne zc97) pr89 (jv_k (x := 0) 0 (by decide)) (by decide)
                                  have zb101 : hb y35 y69 := g_hasy hr89 zc97
                                  have hk102 := hk92.trans (if_neg zc97)
                                  refine g_aload_n cx 0 rfl e_X11_ticks_231 ?_
                                  refine g_iload_n cx 2 rfl e_X11_ticks_232 ?_
                                  refine g_cVvW cx [.int y69] [] (w_X11_counts l X ad F70 R71 oF70 oR71 wTF70R71 wCF70R71 y69 p87) ml_X11_395 yV_X11_counts e_X11_ticks_233 (by unfold g_rr; decide) (by decide) 0 rfl rfl rfl (Nat.le_of_ble_eq_true rfl) (fun w104 h105 => ?_)
                                  obtain ⟨F107, R108, rfl, oF107, oR108, wTF107, wCF107, cF107, cR108, hx106⟩ := h105
                                  have hk109 := k_ls2 hk102 hx106
                                  have fF107 : g_fr md_X11_ticks F F107 := g_fr_c fF70 cF107 rfl
                                  have fR108 : g_fr mr_X11_ticks R R108 := g_fr_c fR71 cR108 rfl
                                  exact J236 F107 R108 oF107 fF107 oR108 fR108 wTF107 wCF107 (by have q0 := (g_ok_g hI 12 rfl).1; have q1 := (g_ok_g hI 12 rfl).2; have q2 := (g_ok_g oF107 12 rfl).1; have q3 := (g_ok_g oF107 12 rfl).2; have q4 := (g_ok_g oF37 12 rfl).1; have q5 := (g_ok_g oF37 12 rfl).2; have q6 := (g_ok_g oF43 12 rfl).1; have q7 := (g_ok_g oF43 12 rfl).2; have q8 := (g_ok_g oF49 12 rfl).1; have q9 := (g_ok_g oF49 12 rfl).2; have q10 := (g_ok_g oF63 12 rfl).1; have q11 := (g_ok_g oF63 12 rfl).2; have q12 := (g_ok_g oF70 12 rfl).1; have q13 := (g_ok_g oF70 12 rfl).2; have q14 := hpt; have q15 := zi48_0; have q16 := zi116_0; have q17 := zi143_0; have q18 := zi184_0; have q19 := zi217_0; have q20 := (congrArg Int32.toInt (show F107 45 = F70 45 from (cF107 45 rfl))); omega) hk109
                          refine g_lsub [1, 2, 0] [(0, .ref (ad 0)), (1, .int y35), (3, .int 0)] rfl ?_
                          exact J217 8589934592 F63 R64 0 oF63 fF63 oR64 fR64 wTF63R64 wCF63R64 (jv_w (jv_k (x := 0) 0 (by decide)) (by decide)) (by have q0 := (g_ok_g hI 12 rfl).1; have q1 := (g_ok_g hI 12 rfl).2; have q2 := (g_ok_g oF37 12 rfl).1; have q3 := (g_ok_g oF37 12 rfl).2; have q4 := (g_ok_g oF43 12 rfl).1; have q5 := (g_ok_g oF43 12 rfl).2; have q6 := (g_ok_g oF49 12 rfl).1; have q7 := (g_ok_g oF49 12 rfl).2; have q8 := (g_ok_g oF63 12 rfl).1; have q9 := (g_ok_g oF63 12 rfl).2; have q10 := hpt; have q11 := zi48_0; have q12 := zi116_0; have q13 := zi143_0; have q14 := zi184_0; omega) hk68 (show (2147483647 - (0 : Int32).toInt).toNat < 8589934592 from by have q0 := (jv_k (x := 0) 0 (by decide)).1; have q1 := (jv_k (x := 0) 0 (by decide)).2; omega)
                        · have p110 := gn_lt 1 9 (gc_nle zc67) zx65.2 pr54 (by decide)
                          have p111 : jv 0 8 y62 := ⟨by have q0 := (jv_k (x := 1) 1 (by decide)).1; have q1 := (jv_k (x := 1) 1 (by decide)).2; have q2 := pr54.1; have q3 := pr54.2; have q4 := p110.1; have q5 := p110.2; have q6 := py62.1; have q7 := py62.2; have q8 := (g_eq0 zx65.1); have q9 := (gc_nle zc67); omega, by have q0 := (jv_k (x := 1) 1 (by decide)).1; have q1 := (jv_k (x := 1) 1 (by decide)).2; have q2 := pr54.1; have q3 := pr54.2; have q4 := p110.1; have q5 := p110.2; have q6 := py62.1; have q7 := py62.2; have q8 := (g_eq0 zx65.1); have q9 := (gc_nle zc67); omega⟩
                          have p112 := gn_gt 2 10 (gc_nle zc67) pr54 zx65.2 (by decide)
                          have hk113 := hk66.trans (if_neg zc67)
                          refine g_aload_n cx 0 rfl e_X11_ticks_191 ?_
                          refine g_aload_n cx 0 rfl e_X11_ticks_192 ?_
                          refine g_get cx cl_X11 fl_X11_119 0 (.ref (ad 37)) e_X11_ticks_193 rfl rfl ?_
                          refine g_iload_n cx 3 rfl e_X11_ticks_196 ?_
                          refine g_iald cx 37 e_X11_ticks_197 rfl (jv_ix 10 p111 (by decide)) ?_
                          refine g_topi (fun x114 ex114 => ?_)
                          have hk115 := k_ls hk113 ex114
                          have p116 : jv 0 9 x114 := by rw [ex114]; exact g_okR_g oR64 3 rfl (jv_cl 10 p111 (by decide))
                          refine g_aload_n cx 0 rfl e_X11_ticks_198 ?_
                          refine g_get cx cl_X11 fl_X11_119 0 (.ref (ad 37)) e_X11_ticks_199 rfl rfl ?_
                          refine g_iload_n cx 3 rfl e_X11_ticks_202 ?_
                          refine g_iconst cx 1 (by decide) e_X11_ticks_203 ?_
                          refine g_iadd cx e_X11_ticks_204 ?_
                          refine g_topi (fun x117 ex117 => ?_)
                          have hk118 := k_ls hk115 ex117
                          have zx117 := jv_add 1 9 ex117 p111 (jv_k (x := 1) 1 (by decide)) (by decide)
                          refine g_iald cx 37 e_X11_ticks_205 rfl (jv_ix 10 zx117.2 (by decide)) ?_
                          refine g_topi (fun x119 ex119 => ?_)
                          have hk120 := k_ls hk118 ex119
                          have p121 : jv 0 9 x119 := by rw [ex119]; exact g_okR_g oR64 3 rfl (jv_cl 10 zx117.2 (by decide))
                          refine g_cVvW cx [.int x114, .int x119] [] (w_X11_meet l X ad F63 R64 oF63 oR64 wTF63R64 wCF63R64 x114 x119 p116 p121 (by rw [show R64 5 = R 5 from (fR64 5 rfl)]; exact OW_at zq184_0 p111 (by have q0 := (jv_k (x := 1) 1 (by decide)).1; have q1 := (jv_k (x := 1) 1 (by decide)).2; have q2 := p112.1; have q3 := p112.2; have q4 := zx117.2.1; have q5 := zx117.2.2; have q6 := p110.1; have q7 := p110.2; have q8 := p111.1; have q9 := p111.2; have q10 := (g_eq0 zx65.1); have q11 := (gc_nle zc67); have q12 := (g_eq0 zx117.1); omega) ex114)) ml_X11_392 yV_X11_meet e_X11_ticks_206 (by unfold g_rr; decide) (by decide) 0 rfl rfl rfl (Nat.le_of_ble_eq_true rfl) (fun w123 h124 => ?_)
                          obtain ⟨F126, R127, rfl, oF126, oR127, wTF126, wCF126, cF126, cR127, hx125⟩ := h124
                          have hk128 := k_ls2 hk120 hx125
                          have fF126 : g_fr md_X11_ticks F F126 := g_fr_c fF63 cF126 rfl
                          have fR127 : g_fr mr_X11_ticks R R127 := g_fr_c fR64 cR127 rfl
                          obtain ⟨x129, ex129⟩ : ∃ z : Int32, z = y62 + Int32.ofInt 1 := ⟨_, rfl⟩
                          have hk130 := k_ls hk128 (show x129 = y62 + 1 from ex129)
                          refine g_iinc cx x129 [(3, .int x129), (0, .ref (ad 0)), (1, .int y35), (2, .int r54)] 3 e_X11_ticks_209 rfl ex129.symm (by decide) rfl ?_
                          have zx129 := jv_add 1 9 (show x129 = y62 + 1 from ex129) p111 (jv_k (x := 1) 1 (by decide)) (by decide)
                          refine g_goto cx 184 e_X11_ticks_212 (by decide) ?_
                          refine g_lsub [1, 2, 3, 0] [(0, .ref (ad 0)), (1, .int y35), (2, .int r54), (3, .int x129)] rfl ?_
                          exact ih184 F126 R127 x129 oF126 fF126 oR127 fR127 wTF126 wCF126 (jv_w zx129.2 (by decide)) (by have q0 := (g_ok_g hI 12 rfl).1; have q1 := (g_ok_g hI 12 rfl).2; have q2 := (g_ok_g oF126 12 rfl).1; have q3 := (g_ok_g oF126 12 rfl).2; have q4 := (g_ok_g oF37 12 rfl).1; have q5 := (g_ok_g oF37 12 rfl).2; have q6 := (g_ok_g oF43 12 rfl).1; have q7 := (g_ok_g oF43 12 rfl).2; have q8 := (g_ok_g oF49 12 rfl).1; have q9 := (g_ok_g oF49 12 rfl).2; have q10 := (g_ok_g oF63 12 rfl).1; have q11 := (g_ok_g oF63 12 rfl).2; have q12 := hpt; have q13 := zi48_0; have q14 := zi116_0; have q15 := zi143_0; have q16 := zi184_0; have q17 := (congrArg Int32.toInt (show F126 45 = F63 45 from (cF126 45 rfl))); omega) (OW_e zq184_0 rfl (cR127 37 rfl)) (hk130.trans (by rw [hb184])) (Nat.lt_of_lt_of_le (show (2147483647 - x129.toInt).toNat < (2147483647 - y62.toInt).toNat from by have q0 := (jv_k (x := 1) 1 (by decide)).1; have q1 := (jv_k (x := 1) 1 (by decide)).2; have q2 := p112.1; have q3 := p112.2; have q4 := zx117.2.1; have q5 := zx117.2.2; have q6 := zx129.2.1; have q7 := zx129.2.2; have q8 := p110.1; have q9 := p110.2; have q10 := p111.1; have q11 := p111.2; have q12 := (g_eq0 zx65.1); have q13 := (gc_nle zc67); have q14 := (g_eq0 zx117.1); have q15 := (g_eq0 zx129.1); omega) (Nat.le_of_lt_succ hm184))
                    refine g_lsub [2, 3, 1, 0] [(0, .ref (ad 0)), (1, .int y35), (2, .int r54), (3, .int 0)] rfl ?_
                    exact J184 8589934592 F59 R60 0 oF59 fF59 oR60 fR60 wTF59 wCF59 (jv_w (jv_k (x := 0) 0 (by decide)) (by decide)) (by have q0 := (g_ok_g hI 12 rfl).1; have q1 := (g_ok_g hI 12 rfl).2; have q2 := (g_ok_g oF37 12 rfl).1; have q3 := (g_ok_g oF37 12 rfl).2; have q4 := (g_ok_g oF43 12 rfl).1; have q5 := (g_ok_g oF43 12 rfl).2; have q6 := (g_ok_g oF49 12 rfl).1; have q7 := (g_ok_g oF49 12 rfl).2; have q8 := (g_ok_g oF59 12 rfl).1; have q9 := (g_ok_g oF59 12 rfl).2; have q10 := hpt; have q11 := zi48_0; have q12 := zi116_0; have q13 := zi143_0; have q14 := (congrArg Int32.toInt (show F59 45 = F49 45 from (cF59 45 rfl))); omega) (OW_e zx57 (fR50 5 rfl).symm rfl) hk61 (show (2147483647 - (0 : Int32).toInt).toNat < 8589934592 from by have q0 := (jv_k (x := 0) 0 (by decide)).1; have q1 := (jv_k (x := 0) 0 (by decide)).2; omega)
                  · have p131 := gn_lt 0 9 (gc_nle zc51) py48 (jv_k (x := 10) 10 (by decide)) (by decide)
                    have hk132 := hkK143.trans (if_neg zc51)
                    refine g_iload_n cx 1 rfl e_X11_ticks_149 ?_
                    refine g_iload_n cx 2 rfl e_X11_ticks_150 ?_
                    refine g_cSiW cx [.int y35, .int y48] [] (c_X11_has l X (wM X ad F49 R50) y35 y48) ml_X11_175 yS_X11_has rfl e_X11_ticks_151 (by unfold g_rr; decide) (by decide) rfl (Nat.le_of_ble_eq_true rfl) (fun r133 w134 h135 => ?_)
                    obtain ⟨rfl, hr133⟩ := h135
                    have pr133 : jv 0 1 r133 := by rcases hr133 with q | q <;> rw [q.1] <;> exact ⟨by decide, by decide⟩
                    have hk136 := k_ls hk132 (g_has_e hr133)
                    have J171 : ∀ (F137 : Nat → Int32) (R138 : Nat → Nat → Int32), (g_ok LK_wM F137) → (g_fr md_X11_ticks F F137) → (g_okR LA_wM R138) → (g_fr mr_X11_ticks R R138) → (WT F137 R138) → (WC F137 R138) → ((F137 45).toInt = (F 45).toInt) → (SP = K_X11_ticks_171 b143 y48 F137 R138) → G X E 4 0 0 (wM X ad F137 R138) [(0, .ref (ad 0)), (1, .int y35), (2, .int y48)] 171 [] := by
                      intro F137 R138 oF137 fF137 oR138 fR138 wTF137R138 wCF137R138 zi171_0 hkJ171
                      unfold K_X11_ticks_171 at hkJ171
                      obtain ⟨x139, ex139⟩ : ∃ z : Int32, z = y48 + Int32.ofInt 1 := ⟨_, rfl⟩
                      have hk140 := k_ls hkJ171 (show x139 = y48 + 1 from ex139)
                      refine g_iinc cx x139 [(2, .int x139), (0, .ref (ad 0)), (1, .int y35)] 2 e_X11_ticks_171 rfl ex139.symm (by decide) rfl ?_
                      have zx139 := jv_add 1 10 (show x139 = y48 + 1 from ex139) p131 (jv_k (x := 1) 1 (by decide)) (by decide)
                      refine g_goto cx 143 e_X11_ticks_174 (by decide) ?_
                      refine g_lsub [1, 2, 0] [(0, .ref (ad 0)), (1, .int y35), (2, .int x139)] rfl ?_
                      exact ih143 F137 R138 x139 oF137 fF137 oR138 fR138 wTF137R138 wCF137R138 (jv_w zx139.2 (by decide)) (by have q0 := (g_ok_g hI 12 rfl).1; have q1 := (g_ok_g hI 12 rfl).2; have q2 := (g_ok_g oF137 12 rfl).1; have q3 := (g_ok_g oF137 12 rfl).2; have q4 := (g_ok_g oF37 12 rfl).1; have q5 := (g_ok_g oF37 12 rfl).2; have q6 := (g_ok_g oF43 12 rfl).1; have q7 := (g_ok_g oF43 12 rfl).2; have q8 := (g_ok_g oF49 12 rfl).1; have q9 := (g_ok_g oF49 12 rfl).2; have q10 := hpt; have q11 := zi48_0; have q12 := zi116_0; have q13 := zi143_0; have q14 := zi171_0; omega) (hk140.trans (by rw [hb143])) (Nat.lt_of_lt_of_le (show (2147483647 - x139.toInt).toNat < (2147483647 - y48.toInt).toNat from by have q0 := (jv_k (x := 1) 1 (by decide)).1; have q1 := (jv_k (x := 1) 1 (by decide)).2; have q2 := (jv_k (x := 10) 10 (by decide)).1; have q3 := (jv_k (x := 10) 10 (by decide)).2; have q4 := zx139.2.1; have q5 := zx139.2.2; have q6 := p40.1; have q7 := p40.2; have q8 := p46.1; have q9 := p46.2; have q10 := p131.1; have q11 := p131.2; have q12 := (gc_le zc39); have q13 := (gc_le zc45); have q14 := (gc_nle zc51); have q15 := (g_eq0 zx139.1); omega) (Nat.le_of_lt_succ hm143))
                    refine g_if_eq cx 171 e_X11_ticks_154 (by decide) (fun zc141 => ?_) (fun zc141 => ?_)
                    · have p142 := gn_eq 0 0 (gc_eq zc141) pr133 (jv_k (x := 0) 0 (by decide)) (by decide)
                      have hk143 := hk136.trans (if_pos zc141)
                      exact J171 F49 R50 oF49 fF49 oR50 fR50 wTF49R50 wCF49R50 (by have q0 := (g_ok_g hI 12 rfl).1; have q1 := (g_ok_g hI 12 rfl).2; have q2 := (g_ok_g oF37 12 rfl).1; have q3 := (g_ok_g oF37 12 rfl).2; have q4 := (g_ok_g oF43 12 rfl).1; have q5 := (g_ok_g oF43 12 rfl).2; have q6 := (g_ok_g oF49 12 rfl).1; have q7 := (g_ok_g oF49 12 rfl).2; have q8 := hpt; have q9 := zi48_0; have q10 := zi116_0; have q11 := zi143_0; omega) hk143
                    · have p144 := gn_neL 1 1 (gc_ne zc141) pr133 (jv_k (x := 0) 0 (by decide)) (by decide)
                      have zb145 : hb y35 y48 := g_hasy hr133 zc141
                      have hk146 := hk136.trans (if_neg zc141)
                      refine g_aload_n cx 0 rfl e_X11_ticks_157 ?_
                      refine g_get cx cl_X11 fl_X11_92 0 (.ref (ad 28)) e_X11_ticks_158 rfl rfl ?_
                      refine g_iload_n cx 2 rfl e_X11_ticks_161 ?_
                      refine g_iald cx 28 e_X11_ticks_162 rfl (jv_ix 10 p131 (by decide)) ?_
                      refine g_topi (fun x147 ex147 => ?_)
                      have hk148 := k_ls hk146 ex147
                      refine g_if_ne cx 171 e_X11_ticks_163 (by decide) (fun zc149 => ?_) (fun zc149 => ?_)
                      · have hk150 := hk148.trans (if_neg zc149)
                        exact J171 F49 R50 oF49 fF49 oR50 fR50 wTF49R50 wCF49R50 (by have q0 := (g_ok_g hI 12 rfl).1; have q1 := (g_ok_g hI 12 rfl).2; have q2 := (g_ok_g oF37 12 rfl).1; have q3 := (g_ok_g oF37 12 rfl).2; have q4 := (g_ok_g oF43 12 rfl).1; have q5 := (g_ok_g oF43 12 rfl).2; have q6 := (g_ok_g oF49 12 rfl).1; have q7 := (g_ok_g oF49 12 rfl).2; have q8 := hpt; have q9 := zi48_0; have q10 := zi116_0; have q11 := zi143_0; omega) hk150
                      · have p151 := gn_eq 0 0 (gc_eq zc149) (jv_t x147) (jv_k (x := 0) 0 (by decide)) (by decide)
                        have hk152 := hk148.trans (if_pos zc149)
                        refine g_aload_n cx 0 rfl e_X11_ticks_166 ?_
                        refine g_iload_n cx 2 rfl e_X11_ticks_167 ?_
                        refine g_cVvW cx [.int y48] [] (w_X11_goes l X ad F49 R50 oF49 oR50 wTF49R50 wCF49R50 y48 p131) ml_X11_386 yV_X11_goes e_X11_ticks_168 (by unfold g_rr; decide) (by decide) 0 rfl rfl rfl (Nat.le_of_ble_eq_true rfl) (fun w154 h155 => ?_)
                        obtain ⟨F157, R158, rfl, oF157, oR158, wTF157, wCF157, cF157, cR158, hx156⟩ := h155
                        have hk159 := k_ls2 hk152 hx156
                        have fF157 : g_fr md_X11_ticks F F157 := g_fr_c fF49 cF157 rfl
                        have fR158 : g_fr mr_X11_ticks R R158 := g_fr_c fR50 cR158 rfl
                        exact J171 F157 R158 oF157 fF157 oR158 fR158 wTF157 wCF157 (by have q0 := (g_ok_g hI 12 rfl).1; have q1 := (g_ok_g hI 12 rfl).2; have q2 := (g_ok_g oF157 12 rfl).1; have q3 := (g_ok_g oF157 12 rfl).2; have q4 := (g_ok_g oF37 12 rfl).1; have q5 := (g_ok_g oF37 12 rfl).2; have q6 := (g_ok_g oF43 12 rfl).1; have q7 := (g_ok_g oF43 12 rfl).2; have q8 := (g_ok_g oF49 12 rfl).1; have q9 := (g_ok_g oF49 12 rfl).2; have q10 := hpt; have q11 := zi48_0; have q12 := zi116_0; have q13 := zi143_0; have q14 := (congrArg Int32.toInt (show F157 45 = F49 45 from (cF157 45 rfl))); omega) hk159
              refine g_lsub [1, 2, 0] [(0, .ref (ad 0)), (1, .int y35), (2, .int 0)] rfl ?_
              exact J143 8589934592 F43 R44 0 oF43 fF43 oR44 fR44 wTF43R44 wCF43R44 (jv_w (jv_k (x := 0) 0 (by decide)) (by decide)) (by have q0 := (g_ok_g hI 12 rfl).1; have q1 := (g_ok_g hI 12 rfl).2; have q2 := (g_ok_g oF37 12 rfl).1; have q3 := (g_ok_g oF37 12 rfl).2; have q4 := (g_ok_g oF43 12 rfl).1; have q5 := (g_ok_g oF43 12 rfl).2; have q6 := hpt; have q7 := zi48_0; have q8 := zi116_0; omega) hk47 (show (2147483647 - (0 : Int32).toInt).toNat < 8589934592 from by have q0 := (jv_k (x := 0) 0 (by decide)).1; have q1 := (jv_k (x := 0) 0 (by decide)).2; omega)
            · have p160 := gn_lt 0 9 (gc_nle zc45) py42 (jv_k (x := 10) 10 (by decide)) (by decide)
              have hk161 := hkK116.trans (if_neg zc45)
              refine g_iload_n cx 1 rfl e_X11_ticks_122 ?_
              refine g_iload_n cx 2 rfl e_X11_ticks_123 ?_
              refine g_cSiW cx [.int y35, .int y42] [] (c_X11_has l X (wM X ad F43 R44) y35 y42) ml_X11_175 yS_X11_has rfl e_X11_ticks_124 (by unfold g_rr; decide) (by decide) rfl (Nat.le_of_ble_eq_true rfl) (fun r162 w163 h164 => ?_)
              obtain ⟨rfl, hr162⟩ := h164
              have pr162 : jv 0 1 r162 := by rcases hr162 with q | q <;> rw [q.1] <;> exact ⟨by decide, by decide⟩
              have hk165 := k_ls hk161 (g_has_e hr162)
              have J135 : ∀ (F166 : Nat → Int32) (R167 : Nat → Nat → Int32), (g_ok LK_wM F166) → (g_fr md_X11_ticks F F166) → (g_okR LA_wM R167) → (g_fr mr_X11_ticks R R167) → (WT F166 R167) → (WC F166 R167) → ((F166 45).toInt = (F 45).toInt) → (SP = K_X11_ticks_135 b116 y42 F166 R167) → G X E 4 0 0 (wM X ad F166 R167) [(0, .ref (ad 0)), (1, .int y35), (2, .int y42)] 135 [] := by
                intro F166 R167 oF166 fF166 oR167 fR167 wTF166R167 wCF166R167 zi135_0 hkJ135
                unfold K_X11_ticks_135 at hkJ135
                obtain ⟨x168, ex168⟩ : ∃ z : Int32, z = y42 + Int32.ofInt 1 := ⟨_, rfl⟩
                have hk169 := k_ls hkJ135 (show x168 = y42 + 1 from ex168)
                refine g_iinc cx x168 [(2, .int x168), (0, .ref (ad 0)), (1, .int y35)] 2 e_X11_ticks_135 rfl ex168.symm (by decide) rfl ?_
                have zx168 := jv_add 1 10 (show x168 = y42 + 1 from ex168) p160 (jv_k (x := 1) 1 (by decide)) (by decide)
                refine g_goto cx 116 e_X11_ticks_138 (by decide) ?_
                refine g_lsub [1, 2, 0] [(0, .ref (ad 0)), (1, .int y35), (2, .int x168)] rfl ?_
                exact ih116 F166 R167 x168 oF166 fF166 oR167 fR167 wTF166R167 wCF166R167 (jv_w zx168.2 (by decide)) (by have q0 := (g_ok_g hI 12 rfl).1; have q1 := (g_ok_g hI 12 rfl).2; have q2 := (g_ok_g oF166 12 rfl).1; have q3 := (g_ok_g oF166 12 rfl).2; have q4 := (g_ok_g oF37 12 rfl).1; have q5 := (g_ok_g oF37 12 rfl).2; have q6 := (g_ok_g oF43 12 rfl).1; have q7 := (g_ok_g oF43 12 rfl).2; have q8 := hpt; have q9 := zi48_0; have q10 := zi116_0; have q11 := zi135_0; omega) (hk169.trans (by rw [hb116])) (Nat.lt_of_lt_of_le (show (2147483647 - x168.toInt).toNat < (2147483647 - y42.toInt).toNat from by have q0 := (jv_k (x := 1) 1 (by decide)).1; have q1 := (jv_k (x := 1) 1 (by decide)).2; have q2 := (jv_k (x := 10) 10 (by decide)).1; have q3 := (jv_k (x := 10) 10 (by decide)).2; have q4 := zx168.2.1; have q5 := zx168.2.2; have q6 := p40.1; have q7 := p40.2; have q8 := p160.1; have q9 := p160.2; have q10 := (gc_le zc39); have q11 := (gc_nle zc45); have q12 := (g_eq0 zx168.1); omega) (Nat.le_of_lt_succ hm116))
              refine g_if_eq cx 135 e_X11_ticks_127 (by decide) (fun zc170 => ?_) (fun zc170 => ?_)
              · have p171 := gn_eq 0 0 (gc_eq zc170) pr162 (jv_k (x := 0) 0 (by decide)) (by decide)
                have hk172 := hk165.trans (if_pos zc170)
                exact J135 F43 R44 oF43 fF43 oR44 fR44 wTF43R44 wCF43R44 (by have q0 := (g_ok_g hI 12 rfl).1; have q1 := (g_ok_g hI 12 rfl).2; have q2 := (g_ok_g oF37 12 rfl).1; have q3 := (g_ok_g oF37 12 rfl).2; have q4 := (g_ok_g oF43 12 rfl).1; have q5 := (g_ok_g oF43 12 rfl).2; have q6 := hpt; have q7 := zi48_0; have q8 := zi116_0; omega) hk172
              · have p173 := gn_neL 1 1 (gc_ne zc170) pr162 (jv_k (x := 0) 0 (by decide)) (by decide)
                have zb174 : hb y35 y42 := g_hasy hr162 zc170
                have hk175 := hk165.trans (if_neg zc170)
                refine g_aload_n cx 0 rfl e_X11_ticks_130 ?_
                refine g_iload_n cx 2 rfl e_X11_ticks_131 ?_
                refine g_cVvW cx [.int y42] [] (w_X11_hurries l X ad F43 R44 oF43 oR44 wTF43R44 wCF43R44 y42 p160 (WN_e hpn (fF43 42 rfl) (fR44 3 rfl) (fR44 5 rfl)) (by rw [(fF43 42 rfl)]; exact (zq48_0 y42 p160 zb174))) ml_X11_383 yV_X11_hurries e_X11_ticks_132 (by unfold g_rr; decide) (by decide) 0 rfl rfl rfl (Nat.le_of_ble_eq_true rfl) (fun w177 h178 => ?_)
                obtain ⟨F180, R181, rfl, oF180, oR181, wTF180, wCF180, cF180, cR181, hx179⟩ := h178
                have hk182 := k_ls2 hk175 hx179
                have fF180 : g_fr md_X11_ticks F F180 := g_fr_c fF43 cF180 rfl
                have fR181 : g_fr mr_X11_ticks R R181 := g_fr_c fR44 cR181 rfl
                exact J135 F180 R181 oF180 fF180 oR181 fR181 wTF180 wCF180 (by have q0 := (g_ok_g hI 12 rfl).1; have q1 := (g_ok_g hI 12 rfl).2; have q2 := (g_ok_g oF180 12 rfl).1; have q3 := (g_ok_g oF180 12 rfl).2; have q4 := (g_ok_g oF37 12 rfl).1; have q5 := (g_ok_g oF37 12 rfl).2; have q6 := (g_ok_g oF43 12 rfl).1; have q7 := (g_ok_g oF43 12 rfl).2; have q8 := hpt; have q9 := zi48_0; have q10 := zi116_0; have q11 := (congrArg Int32.toInt (show F180 45 = F43 45 from (cF180 45 rfl))); omega) hk182
        refine g_lsub [1, 2, 0] [(0, .ref (ad 0)), (1, .int y35), (2, .int 0)] rfl ?_
        exact J116 8589934592 F37 R38 0 oF37 fF37 oR38 fR38 wTF37R38 wCF37R38 (jv_w (jv_k (x := 0) 0 (by decide)) (by decide)) (by have q0 := (g_ok_g hI 12 rfl).1; have q1 := (g_ok_g hI 12 rfl).2; have q2 := (g_ok_g oF37 12 rfl).1; have q3 := (g_ok_g oF37 12 rfl).2; have q4 := hpt; have q5 := zi48_0; omega) hk41 (show (2147483647 - (0 : Int32).toInt).toNat < 8589934592 from by have q0 := (jv_k (x := 0) 0 (by decide)).1; have q1 := (jv_k (x := 0) 0 (by decide)).2; omega)
      · have p183 := gn_lt 0 9 (gc_nle zc39) py36 (jv_k (x := 10) 10 (by decide)) (by decide)
        have hk184 := hkK48.trans (if_neg zc39)
        refine g_aload_n cx 0 rfl e_X11_ticks_54 ?_
        refine g_iload_n cx 2 rfl e_X11_ticks_55 ?_
        refine g_cViW cx [.int y36] [] (w_X11_stands l X ad F37 R38 oF37 oR38 wTF37R38 wCF37R38 y36 p183) ml_X11_343 yV_X11_stands e_X11_ticks_56 (by unfold g_rr; decide) (by decide) 0 rfl rfl rfl (Nat.le_of_ble_eq_true rfl) (fun r185 w186 h187 => ?_)
        obtain ⟨rfl, pr185, zx188, hx189⟩ := h187
        have hk190 := k_ls hk184 hx189
        have J108 : ∀ (F192 : Nat → Int32) (R193 : Nat → Nat → Int32) (y191 : Int32), (g_ok LK_wM F192) → (g_fr md_X11_ticks F F192) → (g_okR LA_wM R193) → (g_fr mr_X11_ticks R R193) → (WT F192 R193) → (WC F192 R193) → (jv (-2147483648) 2147483647 y191) → ((F192 45).toInt = (F 45).toInt) → (HS y191 (F 42)) → (SP = K_X11_ticks_108 b48 y36 F192 R193 y191) → G X E 4 0 0 (wM X ad F192 R193) [(0, .ref (ad 0)), (1, .int y191), (2, .int y36)] 108 [] := by
          intro F192 R193 y191 oF192 fF192 oR193 fR193 wTF192R193 wCF192R193 py191 zi108_0 zq108_0 hkJ108
          unfold K_X11_ticks_108 at hkJ108
          obtain ⟨x194, ex194⟩ : ∃ z : Int32, z = y36 + Int32.ofInt 1 := ⟨_, rfl⟩
          have hk195 := k_ls hkJ108 (show x194 = y36 + 1 from ex194)
          refine g_iinc cx x194 [(2, .int x194), (0, .ref (ad 0)), (1, .int y191)] 2 e_X11_ticks_108 rfl ex194.symm (by decide) rfl ?_
          have zx194 := jv_add 1 10 (show x194 = y36 + 1 from ex194) p183 (jv_k (x := 1) 1 (by decide)) (by decide)
          refine g_goto cx 48 e_X11_ticks_111 (by decide) ?_
          refine g_lsub [1, 2, 0] [(0, .ref (ad 0)), (1, .int y191), (2, .int x194)] rfl ?_
          exact ih48 F192 R193 y191 x194 oF192 fF192 oR193 fR193 wTF192R193 wCF192R193 py191 (jv_w zx194.2 (by decide)) (by have q0 := (g_ok_g hI 12 rfl).1; have q1 := (g_ok_g hI 12 rfl).2; have q2 := (g_ok_g oF192 12 rfl).1; have q3 := (g_ok_g oF192 12 rfl).2; have q4 := (g_ok_g oF37 12 rfl).1; have q5 := (g_ok_g oF37 12 rfl).2; have q6 := hpt; have q7 := zi48_0; have q8 := zi108_0; omega) (zq108_0) (hk195.trans (by rw [hb48])) (Nat.lt_of_lt_of_le (show (2147483647 - x194.toInt).toNat < (2147483647 - y36.toInt).toNat from by have q0 := (jv_k (x := 1) 1 (by decide)).1; have q1 := (jv_k (x := 1) 1 (by decide)).2; have q2 := (jv_k (x := 10) 10 (by decide)).1; have q3 := (jv_k (x := 10) 10 (by decide)).2; have q4 := zx194.2.1; have q5 := zx194.2.2; have q6 := p183.1; have q7 := p183.2; have q8 := (gc_nle zc39); have q9 := (g_eq0 zx194.1); omega) (Nat.le_of_lt_succ hm48))
        refine g_if_ne cx 65 e_X11_ticks_59 (by decide) (fun zc196 => ?_) (fun zc196 => ?_)
        · have p197 := gn_neL 1 1 (gc_ne zc196) pr185 (jv_k (x := 0) 0 (by decide)) (by decide)
          have hk198 := hk190.trans (if_neg zc196)
          refine g_iload_n cx 1 rfl e_X11_ticks_65 ?_
          refine g_iconst cx 1 (by decide) e_X11_ticks_66 ?_
          refine g_iload_n cx 2 rfl e_X11_ticks_67 ?_
          refine g_ishl cx e_X11_ticks_68 ?_
          refine g_topi (fun x199 ex199 => ?_)
          have hk200 := k_ls hk198 ex199
          refine g_ior cx e_X11_ticks_69 ?_
          refine g_topi (fun x201 ex201 => ?_)
          have hk202 := k_ls hk200 ex201
          refine g_istore_n cx [(1, .int x201), (0, .ref (ad 0)), (2, .int y36)] e_X11_ticks_70 (by decide) rfl ?_
          refine g_aload_n cx 1 rfl e_X11_ticks_71 ?_
          refine g_get cx cl_X11 fl_X11_116 0 (.ref (ad 36)) e_X11_ticks_72 rfl rfl ?_
          refine g_iload_n cx 2 rfl e_X11_ticks_75 ?_
          refine g_aload_n cx 1 rfl e_X11_ticks_76 ?_
          refine g_get cx cl_X11 fl_X11_86 0 (.ref (ad 26)) e_X11_ticks_77 rfl rfl ?_
          refine g_iload_n cx 2 rfl e_X11_ticks_80 ?_
          refine g_iald cx 26 e_X11_ticks_81 rfl (jv_ix 10 p183 (by decide)) ?_
          refine g_topi (fun x203 ex203 => ?_)
          have hk204 := k_ls hk202 ex203
          refine g_iast cx 36 (wM X ad F37 (g_u R38 36 (upd (R38 36) (Int32.toNatClampNeg y36) x203))) e_X11_ticks_82 rfl (jv_ix 10 p183 (by decide)) rfl ?_
          obtain ⟨R205, hR205⟩ : ∃ z, z = g_u R38 36 (upd (R38 36) (Int32.toNatClampNeg y36) x203) := ⟨_, rfl⟩
          rw [← hR205]
          have hk206 := k_ls hk204 hR205
          have oR205 : g_okR LA_wM R205 := by rw [hR205]; exact g_okR_u oR38 rfl
          have fR205 : g_fr mr_X11_ticks R R205 := by rw [hR205]; exact g_fr_r fR38 rfl
          have wTR205 : WT F37 R205 := by rw [hR205]; exact WT_r wTF37R38 rfl
          have wCR205 : WC F37 R205 := by rw [hR205]; exact WC_r wCF37R38 rfl
          refine g_aload_n cx 1 rfl e_X11_ticks_83 ?_
          refine g_get cx cl_X11 fl_X11_86 0 (.ref (ad 26)) e_X11_ticks_84 rfl rfl ?_
          refine g_iload_n cx 2 rfl e_X11_ticks_87 ?_
          refine g_iald cx 26 e_X11_ticks_88 rfl (jv_ix 10 p183 (by decide)) ?_
          refine g_topi (fun x207 ex207 => ?_)
          have hk208 := k_ls hk206 ex207
          refine g_aload_n cx 1 rfl e_X11_ticks_89 ?_
          refine g_get cx cl_X11 fl_X11_331 0 (.int (F37 48)) e_X11_ticks_90 rfl rfl ?_
          refine g_icmp_ge cx 108 e_X11_ticks_93 (by decide) (fun zc209 => ?_) (fun zc209 => ?_)
          · have hk210 := hk208.trans (if_pos zc209)
            refine g_lsub [1, 0, 2] [(0, .ref (ad 0)), (1, .int x201), (2, .int y36)] rfl ?_
            exact J108 F37 R205 x201 oF37 fF37 oR205 fR205 wTR205 wCR205 (jv_t x201) (by have q0 := (g_ok_g hI 12 rfl).1; have q1 := (g_ok_g hI 12 rfl).2; have q2 := (g_ok_g oF37 12 rfl).1; have q3 := (g_ok_g oF37 12 rfl).2; have q4 := hpt; have q5 := zi48_0; omega) (HS_or zq48_0 p183 (by have q := (zx188 zc196); rw [(fF37 42 rfl)] at q; exact q) (ex201.trans (by rw [ex199]))) hk210
          · have p211 := gn_lt (-2147483648) 2147483646 (gc_nle zc209) (jv_t x207) (jv_t (F37 48)) (by decide)
            have p212 := gn_gt (-2147483647) 2147483647 (gc_nle zc209) (jv_t (F37 48)) (jv_t x207) (by decide)
            have hk213 := hk208.trans (if_neg zc209)
            refine g_aload_n cx 1 rfl e_X11_ticks_96 ?_
            refine g_aload_n cx 1 rfl e_X11_ticks_97 ?_
            refine g_get cx cl_X11 fl_X11_362 0 (.int (F37 69)) e_X11_ticks_98 rfl rfl ?_
            refine g_iconst cx 1 (by decide) e_X11_ticks_101 ?_
            refine g_iload_n cx 2 rfl e_X11_ticks_102 ?_
            refine g_ishl cx e_X11_ticks_103 ?_
            refine g_topi (fun x214 ex214 => ?_)
            have hk215 := k_ls hk213 ex214
            refine g_ior cx e_X11_ticks_104 ?_
            refine g_topi (fun x216 ex216 => ?_)
            have hk217 := k_ls hk215 ex216
            refine g_put cx cl_X11 fl_X11_362 0 (wM X ad (upd F37 69 x216) R205) e_X11_ticks_105 rfl rfl rfl rfl (Nat.le_of_ble_eq_true rfl) rfl ?_
            obtain ⟨F218, hF218⟩ : ∃ z, z = upd F37 69 x216 := ⟨_, rfl⟩
            rw [← hF218]
            have hk219 := k_ls hk217 hF218
            have oF218 : g_ok LK_wM F218 := by rw [hF218]; exact g_ok_u oF37 rfl
            have fF218 : g_fr md_X11_ticks F F218 := by rw [hF218]; exact g_fr_u fF37 rfl
            have wTF218 : WT F218 R205 := by rw [hF218]; exact WT_u wTR205 rfl
            have wCF218 : WC F218 R205 := by rw [hF218]; exact WC_u wCR205 rfl
            refine g_lsub [1, 0, 2] [(0, .ref (ad 0)), (1, .int x201), (2, .int y36)] rfl ?_
            exact J108 F218 R205 x201 oF218 fF218 oR205 fR205 wTF218 wCF218 (jv_t x201) (by have q0 := (g_ok_g hI 12 rfl).1; have q1 := (g_ok_g hI 12 rfl).2; have q2 := (g_ok_g oF218 12 rfl).1; have q3 := (g_ok_g oF218 12 rfl).2; have q4 := (g_ok_g oF37 12 rfl).1; have q5 := (g_ok_g oF37 12 rfl).2; have q6 := hpt; have q7 := zi48_0; have q8 := (congrArg Int32.toInt (show F218 45 = F37 45 from (g_pu2 hF218 rfl))); omega) (HS_or zq48_0 p183 (by have q := (zx188 zc196); rw [(fF37 42 rfl)] at q; exact q) (ex201.trans (by rw [ex199]))) hk219
        · have p220 := gn_eq 0 0 (gc_eq zc196) pr185 (jv_k (x := 0) 0 (by decide)) (by decide)
          have hk221 := hk190.trans (if_pos zc196)
          refine g_goto cx 108 e_X11_ticks_62 (by decide) ?_
          exact J108 F37 R38 y35 oF37 fF37 oR38 fR38 wTF37R38 wCF37R38 py35 (by have q0 := (g_ok_g hI 12 rfl).1; have q1 := (g_ok_g hI 12 rfl).2; have q2 := (g_ok_g oF37 12 rfl).1; have q3 := (g_ok_g oF37 12 rfl).2; have q4 := hpt; have q5 := zi48_0; omega) (zq48_0) hk221
  refine g_lsub [2, 1, 0] [(0, .ref (ad 0)), (1, .int 0), (2, .int 0)] rfl ?_
  exact J48 8589934592 F33 R11 0 0 oF33 fF33 oR11 fR11 wTF33 wCF33 (jv_w (jv_k (x := 0) 0 (by decide)) (by decide)) (jv_w (jv_k (x := 0) 0 (by decide)) (by decide)) (by have q0 := (g_ok_g hI 12 rfl).1; have q1 := (g_ok_g hI 12 rfl).2; have q2 := (g_ok_g oF33 12 rfl).1; have q3 := (g_ok_g oF33 12 rfl).2; have q4 := hpt; have q5 := (congrArg Int32.toInt (show F33 45 = F 45 from (((((g_pu2 hF33 rfl).trans (g_pu2 hF31 rfl)).trans (g_pu2 hF29 rfl)).trans (g_pu2 hF20 rfl)).trans (cF10 45 rfl)))); omega) (HS_0 _) hk34 (show (2147483647 - (0 : Int32).toInt).toNat < 8589934592 from by have q0 := (jv_k (x := 0) 0 (by decide)).1; have q1 := (jv_k (x := 0) 0 (by decide)).2; omega)
def KB_X11_begins_35 (b35 : (Nat → Nat → Int32) → (Int32) → (Nat → Int32) × (Nat → Nat → Int32)) (F11 : Nat → Int32) (R14 : Nat → Nat → Int32) (y13 : Int32) : (Nat → Int32) × (Nat → Nat → Int32) :=
  if 10 ≤ y13 then (F11, R14) else k_lt (g_u R14 27 (upd (R14 27) (Int32.toNatClampNeg y13) 0)) (fun R20 => k_lt (g_u R20 28 (upd (R20 28) (Int32.toNatClampNeg y13) 0)) (fun R22 => k_lt (R22 7 (Int32.toNatClampNeg y13)) (fun x24 => k_lt (g_u R22 29 (upd (R22 29) (Int32.toNatClampNeg y13) x24)) (fun R26 => k_lt (R26 4 (Int32.toNatClampNeg y13)) (fun x28 => k_lt (g_u R26 31 (upd (R26 31) (Int32.toNatClampNeg y13) x28)) (fun R30 => k_lt (g_u R30 32 (upd (R30 32) (Int32.toNatClampNeg y13) 0)) (fun R32 => k_lt (g_u R32 33 (upd (R32 33) (Int32.toNatClampNeg y13) 0)) (fun R34 => k_lt (g_u R34 34 (upd (R34 34) (Int32.toNatClampNeg y13) 0)) (fun R36 => k_lt (g_u R36 35 (upd (R36 35) (Int32.toNatClampNeg y13) 0)) (fun R38 => k_lt (y13 + 1) (fun x40 => b35 R38 x40)))))))))))
def K_X11_begins_35 (F11 : Nat → Int32) : Nat → (Nat → Nat → Int32) → (Int32) → (Nat → Int32) × (Nat → Nat → Int32)
  | 0 => fun R14 _ => (F11, R14)
  | n + 1 => KB_X11_begins_35 (K_X11_begins_35 F11 n) F11
def sp_X11_begins (F : Nat → Int32) (R : Nat → Nat → Int32) : (Nat → Int32) × (Nat → Nat → Int32) :=
  k_lt (upd F 45 0) (fun F1 => k_lt (upd F1 46 0) (fun F3 => k_lt (upd F3 48 (F 1)) (fun F5 => k_lt (upd F5 65 0) (fun F7 => k_lt (upd F7 66 0) (fun F9 => k_lt (upd F9 67 0) (fun F11 => K_X11_begins_35 F11 8589934592 R 0))))))
theorem e_X11_begins_0 : g_dc cX11_begins 0 (.aload_n 0) 1 1 := ⟨by decide +kernel, rfl⟩
theorem e_X11_begins_1 : g_dc cX11_begins 1 (.iconst 0) 1 2 := ⟨by decide +kernel, rfl⟩
theorem e_X11_begins_2 : g_dc cX11_begins 2 (.putfield 325) 3 5 := ⟨by decide +kernel, rfl⟩
theorem e_X11_begins_5 : g_dc cX11_begins 5 (.aload_n 0) 1 6 := ⟨by decide +kernel, rfl⟩
theorem e_X11_begins_6 : g_dc cX11_begins 6 (.iconst 0) 1 7 := ⟨by decide +kernel, rfl⟩
theorem e_X11_begins_7 : g_dc cX11_begins 7 (.putfield 328) 3 10 := ⟨by decide +kernel, rfl⟩
theorem e_X11_begins_10 : g_dc cX11_begins 10 (.aload_n 0) 1 11 := ⟨by decide +kernel, rfl⟩
theorem e_X11_begins_11 : g_dc cX11_begins 11 (.aload_n 0) 1 12 := ⟨by decide +kernel, rfl⟩
theorem e_X11_begins_12 : g_dc cX11_begins 12 (.getfield 159) 3 15 := ⟨by decide +kernel, rfl⟩
theorem e_X11_begins_15 : g_dc cX11_begins 15 (.putfield 331) 3 18 := ⟨by decide +kernel, rfl⟩
theorem e_X11_begins_18 : g_dc cX11_begins 18 (.aload_n 0) 1 19 := ⟨by decide +kernel, rfl⟩
theorem e_X11_begins_19 : g_dc cX11_begins 19 (.iconst 0) 1 20 := ⟨by decide +kernel, rfl⟩
theorem e_X11_begins_20 : g_dc cX11_begins 20 (.putfield 334) 3 23 := ⟨by decide +kernel, rfl⟩
theorem e_X11_begins_23 : g_dc cX11_begins 23 (.aload_n 0) 1 24 := ⟨by decide +kernel, rfl⟩
theorem e_X11_begins_24 : g_dc cX11_begins 24 (.iconst 0) 1 25 := ⟨by decide +kernel, rfl⟩
theorem e_X11_begins_25 : g_dc cX11_begins 25 (.putfield 337) 3 28 := ⟨by decide +kernel, rfl⟩
theorem e_X11_begins_28 : g_dc cX11_begins 28 (.aload_n 0) 1 29 := ⟨by decide +kernel, rfl⟩
theorem e_X11_begins_29 : g_dc cX11_begins 29 (.iconst 0) 1 30 := ⟨by decide +kernel, rfl⟩
theorem e_X11_begins_30 : g_dc cX11_begins 30 (.putfield 340) 3 33 := ⟨by decide +kernel, rfl⟩
theorem e_X11_begins_33 : g_dc cX11_begins 33 (.iconst 0) 1 34 := ⟨by decide +kernel, rfl⟩
theorem e_X11_begins_34 : g_dc cX11_begins 34 (.istore_n 1) 1 35 := ⟨by decide +kernel, rfl⟩
theorem e_X11_begins_35 : g_dc cX11_begins 35 (.iload_n 1) 1 36 := ⟨by decide +kernel, rfl⟩
theorem e_X11_begins_36 : g_dc cX11_begins 36 (.bipush 10) 2 38 := ⟨by decide +kernel, rfl⟩
theorem e_X11_begins_38 : g_dc cX11_begins 38 (.if_icmp .ge 75) 3 41 := ⟨by decide +kernel, rfl⟩
theorem e_X11_begins_41 : g_dc cX11_begins 41 (.aload_n 0) 1 42 := ⟨by decide +kernel, rfl⟩
theorem e_X11_begins_42 : g_dc cX11_begins 42 (.getfield 89) 3 45 := ⟨by decide +kernel, rfl⟩
theorem e_X11_begins_45 : g_dc cX11_begins 45 (.iload_n 1) 1 46 := ⟨by decide +kernel, rfl⟩
theorem e_X11_begins_46 : g_dc cX11_begins 46 (.iconst 0) 1 47 := ⟨by decide +kernel, rfl⟩
theorem e_X11_begins_47 : g_dc cX11_begins 47 (.iastore) 1 48 := ⟨by decide +kernel, rfl⟩
theorem e_X11_begins_48 : g_dc cX11_begins 48 (.aload_n 0) 1 49 := ⟨by decide +kernel, rfl⟩
theorem e_X11_begins_49 : g_dc cX11_begins 49 (.getfield 92) 3 52 := ⟨by decide +kernel, rfl⟩
theorem e_X11_begins_52 : g_dc cX11_begins 52 (.iload_n 1) 1 53 := ⟨by decide +kernel, rfl⟩
theorem e_X11_begins_53 : g_dc cX11_begins 53 (.iconst 0) 1 54 := ⟨by decide +kernel, rfl⟩
theorem e_X11_begins_54 : g_dc cX11_begins 54 (.iastore) 1 55 := ⟨by decide +kernel, rfl⟩
theorem e_X11_begins_55 : g_dc cX11_begins 55 (.aload_n 0) 1 56 := ⟨by decide +kernel, rfl⟩
theorem e_X11_begins_56 : g_dc cX11_begins 56 (.getfield 95) 3 59 := ⟨by decide +kernel, rfl⟩
theorem e_X11_begins_59 : g_dc cX11_begins 59 (.iload_n 1) 1 60 := ⟨by decide +kernel, rfl⟩
theorem e_X11_begins_60 : g_dc cX11_begins 60 (.aload_n 0) 1 61 := ⟨by decide +kernel, rfl⟩
theorem e_X11_begins_61 : g_dc cX11_begins 61 (.getfield 28) 3 64 := ⟨by decide +kernel, rfl⟩
theorem e_X11_begins_64 : g_dc cX11_begins 64 (.iload_n 1) 1 65 := ⟨by decide +kernel, rfl⟩
theorem e_X11_begins_65 : g_dc cX11_begins 65 (.iaload) 1 66 := ⟨by decide +kernel, rfl⟩
theorem e_X11_begins_66 : g_dc cX11_begins 66 (.iastore) 1 67 := ⟨by decide +kernel, rfl⟩
theorem e_X11_begins_67 : g_dc cX11_begins 67 (.aload_n 0) 1 68 := ⟨by decide +kernel, rfl⟩
theorem e_X11_begins_68 : g_dc cX11_begins 68 (.getfield 101) 3 71 := ⟨by decide +kernel, rfl⟩
theorem e_X11_begins_71 : g_dc cX11_begins 71 (.iload_n 1) 1 72 := ⟨by decide +kernel, rfl⟩
theorem e_X11_begins_72 : g_dc cX11_begins 72 (.aload_n 0) 1 73 := ⟨by decide +kernel, rfl⟩
theorem e_X11_begins_73 : g_dc cX11_begins 73 (.getfield 19) 3 76 := ⟨by decide +kernel, rfl⟩
theorem e_X11_begins_76 : g_dc cX11_begins 76 (.iload_n 1) 1 77 := ⟨by decide +kernel, rfl⟩
theorem e_X11_begins_77 : g_dc cX11_begins 77 (.iaload) 1 78 := ⟨by decide +kernel, rfl⟩
theorem e_X11_begins_78 : g_dc cX11_begins 78 (.iastore) 1 79 := ⟨by decide +kernel, rfl⟩
theorem e_X11_begins_79 : g_dc cX11_begins 79 (.aload_n 0) 1 80 := ⟨by decide +kernel, rfl⟩
theorem e_X11_begins_80 : g_dc cX11_begins 80 (.getfield 104) 3 83 := ⟨by decide +kernel, rfl⟩
theorem e_X11_begins_83 : g_dc cX11_begins 83 (.iload_n 1) 1 84 := ⟨by decide +kernel, rfl⟩
theorem e_X11_begins_84 : g_dc cX11_begins 84 (.iconst 0) 1 85 := ⟨by decide +kernel, rfl⟩
theorem e_X11_begins_85 : g_dc cX11_begins 85 (.iastore) 1 86 := ⟨by decide +kernel, rfl⟩
theorem e_X11_begins_86 : g_dc cX11_begins 86 (.aload_n 0) 1 87 := ⟨by decide +kernel, rfl⟩
theorem e_X11_begins_87 : g_dc cX11_begins 87 (.getfield 107) 3 90 := ⟨by decide +kernel, rfl⟩
theorem e_X11_begins_90 : g_dc cX11_begins 90 (.iload_n 1) 1 91 := ⟨by decide +kernel, rfl⟩
theorem e_X11_begins_91 : g_dc cX11_begins 91 (.iconst 0) 1 92 := ⟨by decide +kernel, rfl⟩
theorem e_X11_begins_92 : g_dc cX11_begins 92 (.iastore) 1 93 := ⟨by decide +kernel, rfl⟩
theorem e_X11_begins_93 : g_dc cX11_begins 93 (.aload_n 0) 1 94 := ⟨by decide +kernel, rfl⟩
theorem e_X11_begins_94 : g_dc cX11_begins 94 (.getfield 110) 3 97 := ⟨by decide +kernel, rfl⟩
theorem e_X11_begins_97 : g_dc cX11_begins 97 (.iload_n 1) 1 98 := ⟨by decide +kernel, rfl⟩
theorem e_X11_begins_98 : g_dc cX11_begins 98 (.iconst 0) 1 99 := ⟨by decide +kernel, rfl⟩
theorem e_X11_begins_99 : g_dc cX11_begins 99 (.iastore) 1 100 := ⟨by decide +kernel, rfl⟩
theorem e_X11_begins_100 : g_dc cX11_begins 100 (.aload_n 0) 1 101 := ⟨by decide +kernel, rfl⟩
theorem e_X11_begins_101 : g_dc cX11_begins 101 (.getfield 113) 3 104 := ⟨by decide +kernel, rfl⟩
theorem e_X11_begins_104 : g_dc cX11_begins 104 (.iload_n 1) 1 105 := ⟨by decide +kernel, rfl⟩
theorem e_X11_begins_105 : g_dc cX11_begins 105 (.iconst 0) 1 106 := ⟨by decide +kernel, rfl⟩
theorem e_X11_begins_106 : g_dc cX11_begins 106 (.iastore) 1 107 := ⟨by decide +kernel, rfl⟩
theorem e_X11_begins_107 : g_dc cX11_begins 107 (.iinc 1 1) 3 110 := ⟨by decide +kernel, rfl⟩
theorem e_X11_begins_110 : g_dc cX11_begins 110 (.goto (-75)) 3 113 := ⟨by decide +kernel, rfl⟩
theorem e_X11_begins_113 : g_dc cX11_begins 113 (.return_) 1 114 := ⟨by decide +kernel, rfl⟩
def md_X11_begins : List Nat := [45, 46, 48, 65, 66, 67]
def mr_X11_begins : List Nat := [27, 28, 29, 31, 32, 33, 34, 35]
set_option maxHeartbeats 4000000 in
set_option maxRecDepth 100000 in
theorem w_X11_begins (l : Launch) (X : gX) (ad : Nat → Nat) (F : Nat → Int32) (R : Nat → Nat → Int32) (hI : g_ok LK_wM F) (hA : g_okR LA_wM R) (hWT : WT F R) (hWC : WC F R) : g_Cv l X yX11_begins cX11_begins 2 1 0 0 [.ref (ad 0)] (wM X ad F R) (fun w => ∃ (F' : Nat → Int32) (R' : Nat → Nat → Int32), w = wM X ad F' R' ∧ g_ok LK_wM F' ∧ g_okR LA_wM R' ∧ WT F' R' ∧ WC F' R' ∧ g_fr md_X11_begins F F' ∧ g_fr mr_X11_begins R R' ∧ (F', R') = sp_X11_begins F R) := by
  refine g_mv (by decide +kernel) (Nat.le_of_ble_eq_true rfl) (fun E cx hret => ?_)
  obtain ⟨SP, hSP⟩ : ∃ z, z = sp_X11_begins F R := ⟨_, rfl⟩
  have hk0 := hSP
  unfold sp_X11_begins at hk0
  refine g_aload_n cx 0 rfl e_X11_begins_0 ?_
  refine g_iconst cx 0 (by decide) e_X11_begins_1 ?_
  refine g_put cx cl_X11 fl_X11_325 0 (wM X ad (upd F 45 0) R) e_X11_begins_2 rfl rfl rfl rfl (Nat.le_of_ble_eq_true rfl) rfl ?_
  obtain ⟨F1, hF1⟩ : ∃ z, z = upd F 45 0 := ⟨_, rfl⟩
  rw [← hF1]
  have hk2 := k_ls hk0 hF1
  have oF1 : g_ok LK_wM F1 := by rw [hF1]; exact g_ok_p hI (jv_k (x := 0) 0 (by decide)) rfl
  have fF1 : g_fr md_X11_begins F F1 := by rw [hF1]; exact g_fr_u (g_fr_rf F) rfl
  have wTF1 : WT F1 R := by rw [hF1]; exact WT_u hWT rfl
  have wCF1 : WC F1 R := by rw [hF1]; exact WC_u hWC rfl
  refine g_aload_n cx 0 rfl e_X11_begins_5 ?_
  refine g_iconst cx 0 (by decide) e_X11_begins_6 ?_
  refine g_put cx cl_X11 fl_X11_328 0 (wM X ad (upd F1 46 0) R) e_X11_begins_7 rfl rfl rfl rfl (Nat.le_of_ble_eq_true rfl) rfl ?_
  obtain ⟨F3, hF3⟩ : ∃ z, z = upd F1 46 0 := ⟨_, rfl⟩
  rw [← hF3]
  have hk4 := k_ls hk2 hF3
  have oF3 : g_ok LK_wM F3 := by rw [hF3]; exact g_ok_u oF1 rfl
  have fF3 : g_fr md_X11_begins F F3 := by rw [hF3]; exact g_fr_u fF1 rfl
  have wTF3 : WT F3 R := by rw [hF3]; exact WT_u wTF1 rfl
  have wCF3 : WC F3 R := by rw [hF3]; exact WC_u wCF1 rfl
  refine g_aload_n cx 0 rfl e_X11_begins_10 ?_
  refine g_aload_n cx 0 rfl e_X11_begins_11 ?_
  refine g_get cx cl_X11 fl_X11_159 0 (.int (F3 1)) e_X11_begins_12 rfl rfl ?_
  refine g_toi (F 1) ((g_pu2 hF3 rfl).trans (g_pu2 hF1 rfl)) ?_
  refine g_put cx cl_X11 fl_X11_331 0 (wM X ad (upd F3 48 (F 1)) R) e_X11_begins_15 rfl rfl rfl rfl (Nat.le_of_ble_eq_true rfl) rfl ?_
  obtain ⟨F5, hF5⟩ : ∃ z, z = upd F3 48 (F 1) := ⟨_, rfl⟩
  rw [← hF5]
  have hk6 := k_ls hk4 hF5
  have oF5 : g_ok LK_wM F5 := by rw [hF5]; exact g_ok_u oF3 rfl
  have fF5 : g_fr md_X11_begins F F5 := by rw [hF5]; exact g_fr_u fF3 rfl
  have wTF5 : WT F5 R := by rw [hF5]; exact WT_u wTF3 rfl
  have wCF5 : WC F5 R := by rw [hF5]; exact WC_u wCF3 rfl
  refine g_aload_n cx 0 rfl e_X11_begins_18 ?_
  refine g_iconst cx 0 (by decide) e_X11_begins_19 ?_
  refine g_put cx cl_X11 fl_X11_334 0 (wM X ad (upd F5 65 0) R) e_X11_begins_20 rfl rfl rfl rfl (Nat.le_of_ble_eq_true rfl) rfl ?_
  obtain ⟨F7, hF7⟩ : ∃ z, z = upd F5 65 0 := ⟨_, rfl⟩
  rw [← hF7]
  have hk8 := k_ls hk6 hF7
  have oF7 : g_ok LK_wM F7 := by rw [hF7]; exact g_ok_u oF5 rfl
  have fF7 : g_fr md_X11_begins F F7 := by rw [hF7]; exact g_fr_u fF5 rfl
  have wTF7 : WT F7 R := by rw [hF7]; exact WT_u wTF5 rfl
  have wCF7 : WC F7 R := by rw [hF7]; exact WC_u wCF5 rfl
  refine g_aload_n cx 0 rfl e_X11_begins_23 ?_
  refine g_iconst cx 0 (by decide) e_X11_begins_24 ?_
  refine g_put cx cl_X11 fl_X11_337 0 (wM X ad (upd F7 66 0) R) e_X11_begins_25 rfl rfl rfl rfl (Nat.le_of_ble_eq_true rfl) rfl ?_
  obtain ⟨F9, hF9⟩ : ∃ z, z = upd F7 66 0 := ⟨_, rfl⟩
  rw [← hF9]
  have hk10 := k_ls hk8 hF9
  have oF9 : g_ok LK_wM F9 := by rw [hF9]; exact g_ok_u oF7 rfl
  have fF9 : g_fr md_X11_begins F F9 := by rw [hF9]; exact g_fr_u fF7 rfl
  have wTF9 : WT F9 R := by rw [hF9]; exact WT_u wTF7 rfl
  have wCF9 : WC F9 R := by rw [hF9]; exact WC_u wCF7 rfl
  refine g_aload_n cx 0 rfl e_X11_begins_28 ?_
  refine g_iconst cx 0 (by decide) e_X11_begins_29 ?_
  refine g_put cx cl_X11 fl_X11_340 0 (wM X ad (upd F9 67 0) R) e_X11_begins_30 rfl rfl rfl rfl (Nat.le_of_ble_eq_true rfl) rfl ?_
  obtain ⟨F11, hF11⟩ : ∃ z, z = upd F9 67 0 := ⟨_, rfl⟩
  rw [← hF11]
  have hk12 := k_ls hk10 hF11
  have oF11 : g_ok LK_wM F11 := by rw [hF11]; exact g_ok_u oF9 rfl
  have fF11 : g_fr md_X11_begins F F11 := by rw [hF11]; exact g_fr_u fF9 rfl
  have wTF11 : WT F11 R := by rw [hF11]; exact WT_u wTF9 rfl
  have wCF11 : WC F11 R := by rw [hF11]; exact WC_u wCF9 rfl
  refine g_iconst cx 0 (by decide) e_X11_begins_33 ?_
  refine g_istore_n cx [(1, .int 0), (0, .ref (ad 0))] e_X11_begins_34 (by decide) rfl ?_
  have J35 : ∀ (N : Nat) (R14 : Nat → Nat → Int32) (y13 : Int32), (g_okR LA_wM R14) → (g_fr mr_X11_begins R R14) → (WT F11 R14) → (WC F11 R14) → (jv 0 10 y13) → (SP = K_X11_begins_35 F11 N R14 y13) → (2147483647 - y13.toInt).toNat < N → G X E 2 0 0 (wM X ad F11 R14) [(0, .ref (ad 0)), (1, .int y13)] 35 [] := by
    intro N
    induction N with
    | zero => intro R14 y13 oR14 fR14 wTR14 wCR14 py13 hkJ35 hm; exact absurd hm (Nat.not_lt_zero _)
    | succ N ih35 =>
      intro R14 y13 oR14 fR14 wTR14 wCR14 py13 hkJ35 hm35
      have hkK35 : SP = KB_X11_begins_35 (K_X11_begins_35 F11 N) F11 R14 y13 := hkJ35
      obtain ⟨b35, hb35⟩ : ∃ z, z = K_X11_begins_35 F11 N := ⟨_, rfl⟩
      rw [← hb35] at hkK35
      unfold KB_X11_begins_35 at hkK35
      refine g_iload_n cx 1 rfl e_X11_begins_35 ?_
      refine g_bipush cx 10 (by decide) e_X11_begins_36 ?_
      refine g_icmp_ge cx 113 e_X11_begins_38 (by decide) (fun zc15 => ?_) (fun zc15 => ?_)
      · have p16 := gn_ge 10 10 (gc_le zc15) py13 (jv_k (x := 10) 10 (by decide)) (by decide)
        have hk17 := hkK35.trans (if_pos zc15)
        exact hret e_X11_begins_113 (Nat.le_of_ble_eq_true rfl) (Nat.le_of_ble_eq_true rfl) ⟨F11, R14, rfl, oF11, oR14, wTR14, wCR14, fF11, fR14, (hk17.symm.trans hSP)⟩
      · have p18 := gn_lt 0 9 (gc_nle zc15) py13 (jv_k (x := 10) 10 (by decide)) (by decide)
        have hk19 := hkK35.trans (if_neg zc15)
        refine g_aload_n cx 0 rfl e_X11_begins_41 ?_
        refine g_get cx cl_X11 fl_X11_89 0 (.ref (ad 27)) e_X11_begins_42 rfl rfl ?_
        refine g_iload_n cx 1 rfl e_X11_begins_45 ?_
        refine g_iconst cx 0 (by decide) e_X11_begins_46 ?_
        refine g_iast cx 27 (wM X ad F11 (g_u R14 27 (upd (R14 27) (Int32.toNatClampNeg y13) 0))) e_X11_begins_47 rfl (jv_ix 10 p18 (by decide)) rfl ?_
        obtain ⟨R20, hR20⟩ : ∃ z, z = g_u R14 27 (upd (R14 27) (Int32.toNatClampNeg y13) 0) := ⟨_, rfl⟩
        rw [← hR20]
        have hk21 := k_ls hk19 hR20
        have oR20 : g_okR LA_wM R20 := by rw [hR20]; exact g_okR_u oR14 rfl
        have fR20 : g_fr mr_X11_begins R R20 := by rw [hR20]; exact g_fr_r fR14 rfl
        have wTR20 : WT F11 R20 := by rw [hR20]; exact WT_r wTR14 rfl
        have wCR20 : WC F11 R20 := by rw [hR20]; exact WC_r wCR14 rfl
        refine g_aload_n cx 0 rfl e_X11_begins_48 ?_
        refine g_get cx cl_X11 fl_X11_92 0 (.ref (ad 28)) e_X11_begins_49 rfl rfl ?_
        refine g_iload_n cx 1 rfl e_X11_begins_52 ?_
        refine g_iconst cx 0 (by decide) e_X11_begins_53 ?_
        refine g_iast cx 28 (wM X ad F11 (g_u R20 28 (upd (R20 28) (Int32.toNatClampNeg y13) 0))) e_X11_begins_54 rfl (jv_ix 10 p18 (by decide)) rfl ?_
        obtain ⟨R22, hR22⟩ : ∃ z, z = g_u R20 28 (upd (R20 28) (Int32.toNatClampNeg y13) 0) := ⟨_, rfl⟩
        rw [← hR22]
        have hk23 := k_ls hk21 hR22
        have oR22 : g_okR LA_wM R22 := by rw [hR22]; exact g_okR_u oR20 rfl
        have fR22 : g_fr mr_X11_begins R R22 := by rw [hR22]; exact g_fr_r fR20 rfl
        have wTR22 : WT F11 R22 := by rw [hR22]; exact WT_r wTR20 rfl
        have wCR22 : WC F11 R22 := by rw [hR22]; exact WC_r wCR20 rfl
        refine g_aload_n cx 0 rfl e_X11_begins_55 ?_
        refine g_get cx cl_X11 fl_X11_95 0 (.ref (ad 29)) e_X11_begins_56 rfl rfl ?_
        refine g_iload_n cx 1 rfl e_X11_begins_59 ?_
        refine g_aload_n cx 0 rfl e_X11_begins_60 ?_
        refine g_get cx cl_X11 fl_X11_28 0 (.ref (ad 7)) e_X11_begins_61 rfl rfl ?_
        refine g_iload_n cx 1 rfl e_X11_begins_64 ?_
        refine g_iald cx 7 e_X11_begins_65 rfl (jv_ix 10 p18 (by decide)) ?_
        refine g_topi (fun x24 ex24 => ?_)
        have hk25 := k_ls hk23 ex24
        refine g_iast cx 29 (wM X ad F11 (g_u R22 29 (upd (R22 29) (Int32.toNatClampNeg y13) x24))) e_X11_begins_66 rfl (jv_ix 10 p18 (by decide)) rfl ?_
        obtain ⟨R26, hR26⟩ : ∃ z, z = g_u R22 29 (upd (R22 29) (Int32.toNatClampNeg y13) x24) := ⟨_, rfl⟩
        rw [← hR26]
        have hk27 := k_ls hk25 hR26
        have oR26 : g_okR LA_wM R26 := by rw [hR26]; exact g_okR_u oR22 rfl
        have fR26 : g_fr mr_X11_begins R R26 := by rw [hR26]; exact g_fr_r fR22 rfl
        have wTR26 : WT F11 R26 := by rw [hR26]; exact WT_r wTR22 rfl
        have wCR26 : WC F11 R26 := by rw [hR26]; exact WC_r wCR22 rfl
        refine g_aload_n cx 0 rfl e_X11_begins_67 ?_
        refine g_get cx cl_X11 fl_X11_101 0 (.ref (ad 31)) e_X11_begins_68 rfl rfl ?_
        refine g_iload_n cx 1 rfl e_X11_begins_71 ?_
        refine g_aload_n cx 0 rfl e_X11_begins_72 ?_
        refine g_get cx cl_X11 fl_X11_19 0 (.ref (ad 4)) e_X11_begins_73 rfl rfl ?_
        refine g_iload_n cx 1 rfl e_X11_begins_76 ?_
        refine g_iald cx 4 e_X11_begins_77 rfl (jv_ix 10 p18 (by decide)) ?_
        refine g_topi (fun x28 ex28 => ?_)
        have hk29 := k_ls hk27 ex28
        refine g_iast cx 31 (wM X ad F11 (g_u R26 31 (upd (R26 31) (Int32.toNatClampNeg y13) x28))) e_X11_begins_78 rfl (jv_ix 10 p18 (by decide)) rfl ?_
        obtain ⟨R30, hR30⟩ : ∃ z, z = g_u R26 31 (upd (R26 31) (Int32.toNatClampNeg y13) x28) := ⟨_, rfl⟩
        rw [← hR30]
        have hk31 := k_ls hk29 hR30
        have oR30 : g_okR LA_wM R30 := by rw [hR30]; exact g_okR_u oR26 rfl
        have fR30 : g_fr mr_X11_begins R R30 := by rw [hR30]; exact g_fr_r fR26 rfl
        have wTR30 : WT F11 R30 := by rw [hR30]; exact WT_r wTR26 rfl
        have wCR30 : WC F11 R30 := by rw [hR30]; exact WC_r wCR26 rfl
        refine g_aload_n cx 0 rfl e_X11_begins_79 ?_
        refine g_get cx cl_X11 fl_X11_104 0 (.ref (ad 32)) e_X11_begins_80 rfl rfl ?_
        refine g_iload_n cx 1 rfl e_X11_begins_83 ?_
        refine g_iconst cx 0 (by decide) e_X11_begins_84 ?_
        refine g_iast cx 32 (wM X ad F11 (g_u R30 32 (upd (R30 32) (Int32.toNatClampNeg y13) 0))) e_X11_begins_85 rfl (jv_ix 10 p18 (by decide)) rfl ?_
        obtain ⟨R32, hR32⟩ : ∃ z, z = g_u R30 32 (upd (R30 32) (Int32.toNatClampNeg y13) 0) := ⟨_, rfl⟩
        rw [← hR32]
        have hk33 := k_ls hk31 hR32
        have oR32 : g_okR LA_wM R32 := by rw [hR32]; exact g_okR_u oR30 rfl
        have fR32 : g_fr mr_X11_begins R R32 := by rw [hR32]; exact g_fr_r fR30 rfl
        have wTR32 : WT F11 R32 := by rw [hR32]; exact WT_r wTR30 rfl
        have wCR32 : WC F11 R32 := by rw [hR32]; exact WC_r wCR30 rfl
        refine g_aload_n cx 0 rfl e_X11_begins_86 ?_
        refine g_get cx cl_X11 fl_X11_107 0 (.ref (ad 33)) e_X11_begins_87 rfl rfl ?_
        refine g_iload_n cx 1 rfl e_X11_begins_90 ?_
        refine g_iconst cx 0 (by decide) e_X11_begins_91 ?_
        refine g_iast cx 33 (wM X ad F11 (g_u R32 33 (upd (R32 33) (Int32.toNatClampNeg y13) 0))) e_X11_begins_92 rfl (jv_ix 10 p18 (by decide)) rfl ?_
        obtain ⟨R34, hR34⟩ : ∃ z, z = g_u R32 33 (upd (R32 33) (Int32.toNatClampNeg y13) 0) := ⟨_, rfl⟩
        rw [← hR34]
        have hk35 := k_ls hk33 hR34
        have oR34 : g_okR LA_wM R34 := by rw [hR34]; exact g_okR_u oR32 rfl
        have fR34 : g_fr mr_X11_begins R R34 := by rw [hR34]; exact g_fr_r fR32 rfl
        have wTR34 : WT F11 R34 := by rw [hR34]; exact WT_r wTR32 rfl
        have wCR34 : WC F11 R34 := by rw [hR34]; exact WC_r wCR32 rfl
        refine g_aload_n cx 0 rfl e_X11_begins_93 ?_
        refine g_get cx cl_X11 fl_X11_110 0 (.ref (ad 34)) e_X11_begins_94 rfl rfl ?_
        refine g_iload_n cx 1 rfl e_X11_begins_97 ?_
        refine g_iconst cx 0 (by decide) e_X11_begins_98 ?_
        refine g_iast cx 34 (wM X ad F11 (g_u R34 34 (upd (R34 34) (Int32.toNatClampNeg y13) 0))) e_X11_begins_99 rfl (jv_ix 10 p18 (by decide)) rfl ?_
        obtain ⟨R36, hR36⟩ : ∃ z, z = g_u R34 34 (upd (R34 34) (Int32.toNatClampNeg y13) 0) := ⟨_, rfl⟩
        rw [← hR36]
        have hk37 := k_ls hk35 hR36
        have oR36 : g_okR LA_wM R36 := by rw [hR36]; exact g_okR_u oR34 rfl
        have fR36 : g_fr mr_X11_begins R R36 := by rw [hR36]; exact g_fr_r fR34 rfl
        have wTR36 : WT F11 R36 := by rw [hR36]; exact WT_r wTR34 rfl
        have wCR36 : WC F11 R36 := by rw [hR36]; exact WC_r wCR34 rfl
        refine g_aload_n cx 0 rfl e_X11_begins_100 ?_
        refine g_get cx cl_X11 fl_X11_113 0 (.ref (ad 35)) e_X11_begins_101 rfl rfl ?_
        refine g_iload_n cx 1 rfl e_X11_begins_104 ?_
        refine g_iconst cx 0 (by decide) e_X11_begins_105 ?_
        refine g_iast cx 35 (wM X ad F11 (g_u R36 35 (upd (R36 35) (Int32.toNatClampNeg y13) 0))) e_X11_begins_106 rfl (jv_ix 10 p18 (by decide)) rfl ?_
        obtain ⟨R38, hR38⟩ : ∃ z, z = g_u R36 35 (upd (R36 35) (Int32.toNatClampNeg y13) 0) := ⟨_, rfl⟩
        rw [← hR38]
        have hk39 := k_ls hk37 hR38
        have oR38 : g_okR LA_wM R38 := by rw [hR38]; exact g_okR_u oR36 rfl
        have fR38 : g_fr mr_X11_begins R R38 := by rw [hR38]; exact g_fr_r fR36 rfl
        have wTR38 : WT F11 R38 := by rw [hR38]; exact WT_r wTR36 rfl
        have wCR38 : WC F11 R38 := by rw [hR38]; exact WC_r wCR36 rfl
        obtain ⟨x40, ex40⟩ : ∃ z : Int32, z = y13 + Int32.ofInt 1 := ⟨_, rfl⟩
        have hk41 := k_ls hk39 (show x40 = y13 + 1 from ex40)
        refine g_iinc cx x40 [(1, .int x40), (0, .ref (ad 0))] 1 e_X11_begins_107 rfl ex40.symm (by decide) rfl ?_
        have zx40 := jv_add 1 10 (show x40 = y13 + 1 from ex40) p18 (jv_k (x := 1) 1 (by decide)) (by decide)
        refine g_goto cx 35 e_X11_begins_110 (by decide) ?_
        refine g_lsub [1, 0] [(0, .ref (ad 0)), (1, .int x40)] rfl ?_
        exact ih35 R38 x40 oR38 fR38 wTR38 wCR38 (jv_w zx40.2 (by decide)) (hk41.trans (by rw [hb35])) (Nat.lt_of_lt_of_le (show (2147483647 - x40.toInt).toNat < (2147483647 - y13.toInt).toNat from by have q0 := (jv_k (x := 1) 1 (by decide)).1; have q1 := (jv_k (x := 1) 1 (by decide)).2; have q2 := (jv_k (x := 10) 10 (by decide)).1; have q3 := (jv_k (x := 10) 10 (by decide)).2; have q4 := zx40.2.1; have q5 := zx40.2.2; have q6 := p18.1; have q7 := p18.2; have q8 := (gc_nle zc15); have q9 := (g_eq0 zx40.1); omega) (Nat.le_of_lt_succ hm35))
  refine g_lsub [1, 0] [(0, .ref (ad 0)), (1, .int 0)] rfl ?_
  exact J35 8589934592 R 0 hA (g_fr_rf R) wTF11 wCF11 (jv_w (jv_k (x := 0) 0 (by decide)) (by decide)) hk12 (show (2147483647 - (0 : Int32).toInt).toNat < 8589934592 from by have q0 := (jv_k (x := 0) 0 (by decide)).1; have q1 := (jv_k (x := 0) 0 (by decide)).2; omega)
def K_X11_someMove_27 (b2 : (Int32) → Int32) (y1 : Int32)  : Int32 :=
  k_lt (y1 + 1) (fun x13 => b2 x13)
def KB_X11_someMove_2 (b2 : (Int32) → Int32) (F : Nat → Int32) (R : Nat → Nat → Int32) (y1 : Int32) : Int32 :=
  if 10 ≤ y1 then 0 else k_lt (sp_X11_stands F R y1) (fun r7 => if r7 = 0 then K_X11_someMove_27 b2 y1 else k_lt (R 27 (Int32.toNatClampNeg y1)) (fun x20 => if x20 ≤ 0 then K_X11_someMove_27 b2 y1 else 1))
def K_X11_someMove_2 (F : Nat → Int32) (R : Nat → Nat → Int32) : Nat → (Int32) → Int32
  | 0 => fun _ => 0
  | n + 1 => KB_X11_someMove_2 (K_X11_someMove_2 F R n) F R
def sp_X11_someMove (F : Nat → Int32) (R : Nat → Nat → Int32) : Int32 :=
  K_X11_someMove_2 F R 8589934592 0
theorem e_X11_someMove_0 : g_dc cX11_someMove 0 (.iconst 0) 1 1 := ⟨by decide +kernel, rfl⟩
theorem e_X11_someMove_1 : g_dc cX11_someMove 1 (.istore_n 1) 1 2 := ⟨by decide +kernel, rfl⟩
theorem e_X11_someMove_2 : g_dc cX11_someMove 2 (.iload_n 1) 1 3 := ⟨by decide +kernel, rfl⟩
theorem e_X11_someMove_3 : g_dc cX11_someMove 3 (.bipush 10) 2 5 := ⟨by decide +kernel, rfl⟩
theorem e_X11_someMove_5 : g_dc cX11_someMove 5 (.if_icmp .ge 28) 3 8 := ⟨by decide +kernel, rfl⟩
theorem e_X11_someMove_8 : g_dc cX11_someMove 8 (.aload_n 0) 1 9 := ⟨by decide +kernel, rfl⟩
theorem e_X11_someMove_9 : g_dc cX11_someMove 9 (.iload_n 1) 1 10 := ⟨by decide +kernel, rfl⟩
theorem e_X11_someMove_10 : g_dc cX11_someMove 10 (.invokevirtual 343) 3 13 := ⟨by decide +kernel, rfl⟩
theorem e_X11_someMove_13 : g_dc cX11_someMove 13 (.ifCond .eq 14) 3 16 := ⟨by decide +kernel, rfl⟩
theorem e_X11_someMove_16 : g_dc cX11_someMove 16 (.aload_n 0) 1 17 := ⟨by decide +kernel, rfl⟩
theorem e_X11_someMove_17 : g_dc cX11_someMove 17 (.getfield 89) 3 20 := ⟨by decide +kernel, rfl⟩
theorem e_X11_someMove_20 : g_dc cX11_someMove 20 (.iload_n 1) 1 21 := ⟨by decide +kernel, rfl⟩
theorem e_X11_someMove_21 : g_dc cX11_someMove 21 (.iaload) 1 22 := ⟨by decide +kernel, rfl⟩
theorem e_X11_someMove_22 : g_dc cX11_someMove 22 (.ifCond .le 5) 3 25 := ⟨by decide +kernel, rfl⟩
theorem e_X11_someMove_25 : g_dc cX11_someMove 25 (.iconst 1) 1 26 := ⟨by decide +kernel, rfl⟩
theorem e_X11_someMove_26 : g_dc cX11_someMove 26 (.ireturn) 1 27 := ⟨by decide +kernel, rfl⟩
theorem e_X11_someMove_27 : g_dc cX11_someMove 27 (.iinc 1 1) 3 30 := ⟨by decide +kernel, rfl⟩
theorem e_X11_someMove_30 : g_dc cX11_someMove 30 (.goto (-28)) 3 33 := ⟨by decide +kernel, rfl⟩
theorem e_X11_someMove_33 : g_dc cX11_someMove 33 (.iconst 0) 1 34 := ⟨by decide +kernel, rfl⟩
theorem e_X11_someMove_34 : g_dc cX11_someMove 34 (.ireturn) 1 35 := ⟨by decide +kernel, rfl⟩
set_option maxHeartbeats 4000000 in
set_option maxRecDepth 100000 in
theorem w_X11_someMove (l : Launch) (X : gX) (ad : Nat → Nat) (F : Nat → Int32) (R : Nat → Nat → Int32) (hI : g_ok LK_wM F) (hA : g_okR LA_wM R) (hWT : WT F R) (hWC : WC F R) : g_Ci l X yX11_someMove cX11_someMove 2 (some .boolean) 3 0 0 [.ref (ad 0)] (wM X ad F R) (fun r w => w = wM X ad F R ∧ jv 0 1 r ∧ r = sp_X11_someMove F R) := by
  refine g_mi (by decide +kernel) (Nat.le_of_ble_eq_true rfl) (fun E cx hret => ?_)
  obtain ⟨SP, hSP⟩ : ∃ z, z = sp_X11_someMove F R := ⟨_, rfl⟩
  have hk0 := hSP
  unfold sp_X11_someMove at hk0
  refine g_iconst cx 0 (by decide) e_X11_someMove_0 ?_
  refine g_istore_n cx [(1, .int 0), (0, .ref (ad 0))] e_X11_someMove_1 (by decide) rfl ?_
  have J2 : ∀ (N : Nat) (y1 : Int32), (jv 0 10 y1) → (SP = K_X11_someMove_2 F R N y1) → (2147483647 - y1.toInt).toNat < N → G X E 2 0 0 (wM X ad F R) [(0, .ref (ad 0)), (1, .int y1)] 2 [] := by
    intro N
    induction N with
    | zero => intro y1 py1 hkJ2 hm; exact absurd hm (Nat.not_lt_zero _)
    | succ N ih2 =>
      intro y1 py1 hkJ2 hm2
      have hkK2 : SP = KB_X11_someMove_2 (K_X11_someMove_2 F R N) F R y1 := hkJ2
      obtain ⟨b2, hb2⟩ : ∃ z, z = K_X11_someMove_2 F R N := ⟨_, rfl⟩
      rw [← hb2] at hkK2
      unfold KB_X11_someMove_2 at hkK2
      refine g_iload_n cx 1 rfl e_X11_someMove_2 ?_
      refine g_bipush cx 10 (by decide) e_X11_someMove_3 ?_
      refine g_icmp_ge cx 33 e_X11_someMove_5 (by decide) (fun zc2 => ?_) (fun zc2 => ?_)
      · have p3 := gn_ge 10 10 (gc_le zc2) py1 (jv_k (x := 10) 10 (by decide)) (by decide)
        have hk4 := hkK2.trans (if_pos zc2)
        refine g_iconst cx 0 (by decide) e_X11_someMove_33 ?_
        exact hret e_X11_someMove_34 (Nat.le_of_ble_eq_true rfl) (Nat.le_of_ble_eq_true rfl) rfl ⟨rfl, (jv_w (jv_k (x := 0) 0 (by decide)) (by decide)), (hk4.symm.trans hSP)⟩
      · have p5 := gn_lt 0 9 (gc_nle zc2) py1 (jv_k (x := 10) 10 (by decide)) (by decide)
        have hk6 := hkK2.trans (if_neg zc2)
        refine g_aload_n cx 0 rfl e_X11_someMove_8 ?_
        refine g_iload_n cx 1 rfl e_X11_someMove_9 ?_
        refine g_cViW cx [.int y1] [] (w_X11_stands l X ad F R hI hA hWT hWC y1 p5) ml_X11_343 yV_X11_stands e_X11_someMove_10 (by unfold g_rr; decide) (by decide) 0 rfl rfl rfl (Nat.le_of_ble_eq_true rfl) (fun r7 w8 h9 => ?_)
        obtain ⟨rfl, pr7, zx10, hx11⟩ := h9
        have hk12 := k_ls hk6 hx11
        have J27 : (SP = K_X11_someMove_27 b2 y1) → G X E 2 0 0 (wM X ad F R) [(0, .ref (ad 0)), (1, .int y1)] 27 [] := by
          intro   hkJ27
          unfold K_X11_someMove_27 at hkJ27
          obtain ⟨x13, ex13⟩ : ∃ z : Int32, z = y1 + Int32.ofInt 1 := ⟨_, rfl⟩
          have hk14 := k_ls hkJ27 (show x13 = y1 + 1 from ex13)
          refine g_iinc cx x13 [(1, .int x13), (0, .ref (ad 0))] 1 e_X11_someMove_27 rfl ex13.symm (by decide) rfl ?_
          have zx13 := jv_add 1 10 (show x13 = y1 + 1 from ex13) p5 (jv_k (x := 1) 1 (by decide)) (by decide)
          refine g_goto cx 2 e_X11_someMove_30 (by decide) ?_
          refine g_lsub [1, 0] [(0, .ref (ad 0)), (1, .int x13)] rfl ?_
          exact ih2 x13 (jv_w zx13.2 (by decide)) (hk14.trans (by rw [hb2])) (Nat.lt_of_lt_of_le (show (2147483647 - x13.toInt).toNat < (2147483647 - y1.toInt).toNat from by have q0 := (jv_k (x := 1) 1 (by decide)).1; have q1 := (jv_k (x := 1) 1 (by decide)).2; have q2 := (jv_k (x := 10) 10 (by decide)).1; have q3 := (jv_k (x := 10) 10 (by decide)).2; have q4 := zx13.2.1; have q5 := zx13.2.2; have q6 := p5.1; have q7 := p5.2; have q8 := (gc_nle zc2); have q9 := (g_eq0 zx13.1); omega) (Nat.le_of_lt_succ hm2))
        refine g_if_eq cx 27 e_X11_someMove_13 (by decide) (fun zc15 => ?_) (fun zc15 => ?_)
        · have p16 := gn_eq 0 0 (gc_eq zc15) pr7 (jv_k (x := 0) 0 (by decide)) (by decide)
          have hk17 := hk12.trans (if_pos zc15)
          exact J27  hk17
        · have p18 := gn_neL 1 1 (gc_ne zc15) pr7 (jv_k (x := 0) 0 (by decide)) (by decide)
          have hk19 := hk12.trans (if_neg zc15)
          refine g_aload_n cx 0 rfl e_X11_someMove_16 ?_
          refine g_get cx cl_X11 fl_X11_89 0 (.ref (ad 27)) e_X11_someMove_17 rfl rfl ?_
          refine g_iload_n cx 1 rfl e_X11_someMove_20 ?_
          refine g_iald cx 27 e_X11_someMove_21 rfl (jv_ix 10 p5 (by decide)) ?_
          refine g_topi (fun x20 ex20 => ?_)
          have hk21 := k_ls hk19 ex20
          refine g_if_le cx 27 e_X11_someMove_22 (by decide) (fun zc22 => ?_) (fun zc22 => ?_)
          · have p23 := gn_le (-2147483648) 0 (gc_le zc22) (jv_t x20) (jv_k (x := 0) 0 (by decide)) (by decide)
            have hk24 := hk21.trans (if_pos zc22)
            exact J27  hk24
          · have p25 := gn_gt 1 2147483647 (gc_nle zc22) (jv_t x20) (jv_k (x := 0) 0 (by decide)) (by decide)
            have hk26 := hk21.trans (if_neg zc22)
            refine g_iconst cx 1 (by decide) e_X11_someMove_25 ?_
            exact hret e_X11_someMove_26 (Nat.le_of_ble_eq_true rfl) (Nat.le_of_ble_eq_true rfl) rfl ⟨rfl, (jv_w (jv_k (x := 1) 1 (by decide)) (by decide)), (hk26.symm.trans hSP)⟩
  refine g_lsub [1, 0] [(0, .ref (ad 0)), (1, .int 0)] rfl ?_
  exact J2 8589934592 0 (jv_w (jv_k (x := 0) 0 (by decide)) (by decide)) hk0 (show (2147483647 - (0 : Int32).toInt).toNat < 8589934592 from by have q0 := (jv_k (x := 0) 0 (by decide)).1; have q1 := (jv_k (x := 0) 0 (by decide)).2; omega)
def K_X11_runs_39 (F8 : Nat → Int32) (R9 : Nat → Nat → Int32)  : (Nat → Int32) × (Nat → Nat → Int32) :=
  (F8, R9)
def K_X11_runs_32 (b4 : (Nat → Int32) → (Nat → Nat → Int32) → (Nat → Int32) × (Nat → Nat → Int32)) (F8 : Nat → Int32) (R9 : Nat → Nat → Int32)  : (Nat → Int32) × (Nat → Nat → Int32) :=
  k_lt2 (sp_X11_ticks F8 R9) (fun F20 R21 => b4 F20 R21)
def KB_X11_runs_4 (b4 : (Nat → Int32) → (Nat → Nat → Int32) → (Nat → Int32) × (Nat → Nat → Int32)) (F : Nat → Int32) (F8 : Nat → Int32) (R9 : Nat → Nat → Int32) : (Nat → Int32) × (Nat → Nat → Int32) :=
  if 300 ≤ (F8 45) then K_X11_runs_39 F8 R9 else if (F8 45) < (F 44) then K_X11_runs_32 b4 F8 R9 else k_lt (sp_X11_someMove F8 R9) (fun r28 => if r28 = 0 then K_X11_runs_39 F8 R9 else K_X11_runs_32 b4 F8 R9)
def K_X11_runs_4 (F : Nat → Int32) : Nat → (Nat → Int32) → (Nat → Nat → Int32) → (Nat → Int32) × (Nat → Nat → Int32)
  | 0 => fun F8 R9 => (F8, R9)
  | n + 1 => KB_X11_runs_4 (K_X11_runs_4 F n) F
def sp_X11_runs (F : Nat → Int32) (R : Nat → Nat → Int32) : (Nat → Int32) × (Nat → Nat → Int32) :=
  k_lt2 (sp_X11_begins F R) (fun F5 R6 => K_X11_runs_4 F 8589934592 F5 R6)
theorem e_X11_runs_0 : g_dc cX11_runs 0 (.aload_n 0) 1 1 := ⟨by decide +kernel, rfl⟩
theorem e_X11_runs_1 : g_dc cX11_runs 1 (.invokevirtual 398) 3 4 := ⟨by decide +kernel, rfl⟩
theorem e_X11_runs_4 : g_dc cX11_runs 4 (.aload_n 0) 1 5 := ⟨by decide +kernel, rfl⟩
theorem e_X11_runs_5 : g_dc cX11_runs 5 (.getfield 325) 3 8 := ⟨by decide +kernel, rfl⟩
theorem e_X11_runs_8 : g_dc cX11_runs 8 (.sipush 300) 3 11 := ⟨by decide +kernel, rfl⟩
theorem e_X11_runs_11 : g_dc cX11_runs 11 (.if_icmp .ge 28) 3 14 := ⟨by decide +kernel, rfl⟩
theorem e_X11_runs_14 : g_dc cX11_runs 14 (.aload_n 0) 1 15 := ⟨by decide +kernel, rfl⟩
theorem e_X11_runs_15 : g_dc cX11_runs 15 (.getfield 325) 3 18 := ⟨by decide +kernel, rfl⟩
theorem e_X11_runs_18 : g_dc cX11_runs 18 (.aload_n 0) 1 19 := ⟨by decide +kernel, rfl⟩
theorem e_X11_runs_19 : g_dc cX11_runs 19 (.getfield 309) 3 22 := ⟨by decide +kernel, rfl⟩
theorem e_X11_runs_22 : g_dc cX11_runs 22 (.if_icmp .lt 10) 3 25 := ⟨by decide +kernel, rfl⟩
theorem e_X11_runs_25 : g_dc cX11_runs 25 (.aload_n 0) 1 26 := ⟨by decide +kernel, rfl⟩
theorem e_X11_runs_26 : g_dc cX11_runs 26 (.invokevirtual 401) 3 29 := ⟨by decide +kernel, rfl⟩
theorem e_X11_runs_29 : g_dc cX11_runs 29 (.ifCond .eq 10) 3 32 := ⟨by decide +kernel, rfl⟩
theorem e_X11_runs_32 : g_dc cX11_runs 32 (.aload_n 0) 1 33 := ⟨by decide +kernel, rfl⟩
theorem e_X11_runs_33 : g_dc cX11_runs 33 (.invokevirtual 404) 3 36 := ⟨by decide +kernel, rfl⟩
theorem e_X11_runs_36 : g_dc cX11_runs 36 (.goto (-32)) 3 39 := ⟨by decide +kernel, rfl⟩
theorem e_X11_runs_39 : g_dc cX11_runs 39 (.return_) 1 40 := ⟨by decide +kernel, rfl⟩
def md_X11_runs : List Nat := [3, 45, 46, 47, 48, 50, 65, 66, 67, 68, 69]
def mr_X11_runs : List Nat := [23, 24, 26, 27, 28, 29, 31, 32, 33, 34, 35, 36, 37]
set_option maxHeartbeats 4000000 in
set_option maxRecDepth 100000 in
theorem w_X11_runs (l : Launch) (X : gX) (ad : Nat → Nat) (F : Nat → Int32) (R : Nat → Nat → Int32) (hI : g_ok LK_wM F) (hA : g_okR LA_wM R) (hWT : WT F R) (hWC : WC F R) (hpn : WN F R) : g_Cv l X yX11_runs cX11_runs 1 6 0 0 [.ref (ad 0)] (wM X ad F R) (fun w => ∃ (F' : Nat → Int32) (R' : Nat → Nat → Int32), w = wM X ad F' R' ∧ g_ok LK_wM F' ∧ g_okR LA_wM R' ∧ WT F' R' ∧ WC F' R' ∧ g_fr md_X11_runs F F' ∧ g_fr mr_X11_runs R R' ∧ (F', R') = sp_X11_runs F R) := by
  refine g_mv (by decide +kernel) (Nat.le_of_ble_eq_true rfl) (fun E cx hret => ?_)
  obtain ⟨SP, hSP⟩ : ∃ z, z = sp_X11_runs F R := ⟨_, rfl⟩
  have hk0 := hSP
  unfold sp_X11_runs at hk0
  refine g_aload_n cx 0 rfl e_X11_runs_0 ?_
  refine g_cVvW cx [] [] (w_X11_begins l X ad F R hI hA hWT hWC) ml_X11_398 yV_X11_begins e_X11_runs_1 (by unfold g_rr; decide) (by decide) 0 rfl rfl rfl (Nat.le_of_ble_eq_true rfl) (fun w2 h3 => ?_)
  obtain ⟨F5, R6, rfl, oF5, oR6, wTF5, wCF5, cF5, cR6, hx4⟩ := h3
  have hk7 := k_ls2 hk0 hx4
  have fF5 : g_fr md_X11_runs F F5 := g_fr_c (g_fr_rf F) cF5 rfl
  have fR6 : g_fr mr_X11_runs R R6 := g_fr_c (g_fr_rf R) cR6 rfl
  have J4 : ∀ (N : Nat) (F8 : Nat → Int32) (R9 : Nat → Nat → Int32), (g_ok LK_wM F8) → (g_fr md_X11_runs F F8) → (g_okR LA_wM R9) → (g_fr mr_X11_runs R R9) → (WT F8 R9) → (WC F8 R9) → (SP = K_X11_runs_4 F N F8 R9) → (2147483647 - (F8 45).toInt).toNat < N → G X E 1 0 0 (wM X ad F8 R9) [(0, .ref (ad 0))] 4 [] := by
    intro N
    induction N with
    | zero => intro F8 R9 oF8 fF8 oR9 fR9 wTF8R9 wCF8R9 hkJ4 hm; exact absurd hm (Nat.not_lt_zero _)
    | succ N ih4 =>
      intro F8 R9 oF8 fF8 oR9 fR9 wTF8R9 wCF8R9 hkJ4 hm4
      have hkK4 : SP = KB_X11_runs_4 (K_X11_runs_4 F N) F F8 R9 := hkJ4
      obtain ⟨b4, hb4⟩ : ∃ z, z = K_X11_runs_4 F N := ⟨_, rfl⟩
      rw [← hb4] at hkK4
      unfold KB_X11_runs_4 at hkK4
      refine g_aload_n cx 0 rfl e_X11_runs_4 ?_
      refine g_get cx cl_X11 fl_X11_325 0 (.int (F8 45)) e_X11_runs_5 rfl rfl ?_
      refine g_sipush cx 300 (by decide) e_X11_runs_8 ?_
      have J39 : (SP = K_X11_runs_39 F8 R9) → G X E 1 0 0 (wM X ad F8 R9) [] 39 [] := by
        intro   hkJ39
        unfold K_X11_runs_39 at hkJ39
        exact hret e_X11_runs_39 (Nat.le_of_ble_eq_true rfl) (Nat.le_of_ble_eq_true rfl) ⟨F8, R9, rfl, oF8, oR9, wTF8R9, wCF8R9, fF8, fR9, (hkJ39.symm.trans hSP)⟩
      refine g_icmp_ge cx 39 e_X11_runs_11 (by decide) (fun zc10 => ?_) (fun zc10 => ?_)
      · have p11 := gn_ge 300 300 (gc_le zc10) (g_ok_g oF8 12 rfl) (jv_k (x := 300) 300 (by decide)) (by decide)
        have hk12 := hkK4.trans (if_pos zc10)
        refine g_lsub [] [] rfl ?_
        exact J39  hk12
      · have p13 := gn_lt 0 299 (gc_nle zc10) (g_ok_g oF8 12 rfl) (jv_k (x := 300) 300 (by decide)) (by decide)
        have hk14 := hkK4.trans (if_neg zc10)
        refine g_aload_n cx 0 rfl e_X11_runs_14 ?_
        refine g_get cx cl_X11 fl_X11_325 0 (.int (F8 45)) e_X11_runs_15 rfl rfl ?_
        refine g_aload_n cx 0 rfl e_X11_runs_18 ?_
        refine g_get cx cl_X11 fl_X11_309 0 (.int (F8 44)) e_X11_runs_19 rfl rfl ?_
        refine g_toi (F 44) (fF8 44 rfl) ?_
        have J32 : (SP = K_X11_runs_32 b4 F8 R9) → G X E 1 0 0 (wM X ad F8 R9) [(0, .ref (ad 0))] 32 [] := by
          intro   hkJ32
          unfold K_X11_runs_32 at hkJ32
          refine g_aload_n cx 0 rfl e_X11_runs_32 ?_
          refine g_cVvW cx [] [] (w_X11_ticks l X ad F8 R9 oF8 oR9 wTF8R9 wCF8R9 (WN_e hpn (fF8 42 rfl) (fR9 3 rfl) (fR9 5 rfl)) (by have q0 := (jv_k (x := 300) 300 (by decide)).1; have q1 := (jv_k (x := 300) 300 (by decide)).2; have q2 := p13.1; have q3 := p13.2; have q4 := (gc_nle zc10); omega)) ml_X11_404 yV_X11_ticks e_X11_runs_33 (by unfold g_rr; decide) (by decide) 0 rfl rfl rfl (Nat.le_of_ble_eq_true rfl) (fun w16 h17 => ?_)
          obtain ⟨F20, R21, rfl, oF20, oR21, wTF20, wCF20, cF20, cR21, zx18, hx19⟩ := h17
          have hk22 := k_ls2 hkJ32 hx19
          have fF20 : g_fr md_X11_runs F F20 := g_fr_c fF8 cF20 rfl
          have fR21 : g_fr mr_X11_runs R R21 := g_fr_c fR9 cR21 rfl
          refine g_goto cx 4 e_X11_runs_36 (by decide) ?_
          exact ih4 F20 R21 oF20 fF20 oR21 fR21 wTF20 wCF20 (hk22.trans (by rw [hb4])) (Nat.lt_of_lt_of_le (show (2147483647 - (F20 45).toInt).toNat < (2147483647 - (F8 45).toInt).toNat from by have q0 := (jv_k (x := 300) 300 (by decide)).1; have q1 := (jv_k (x := 300) 300 (by decide)).2; have q2 := (g_ok_g oF20 12 rfl).1; have q3 := (g_ok_g oF20 12 rfl).2; have q4 := p13.1; have q5 := p13.2; have q6 := (gc_nle zc10); have q7 := zx18; omega) (Nat.le_of_lt_succ hm4))
        refine g_icmp_lt cx 32 e_X11_runs_22 (by decide) (fun zc23 => ?_) (fun zc23 => ?_)
        · have p24 := gn_lt 0 59 (gc_lt zc23) p13 (g_ok_g hI 11 rfl) (by decide)
          have p25 := gn_gt 1 60 (gc_lt zc23) (g_ok_g hI 11 rfl) p13 (by decide)
          have hk26 := hk14.trans (if_pos zc23)
          exact J32  hk26
        · have hk27 := hk14.trans (if_neg zc23)
          refine g_aload_n cx 0 rfl e_X11_runs_25 ?_
          refine g_cViW cx [] [] (w_X11_someMove l X ad F8 R9 oF8 oR9 wTF8R9 wCF8R9) ml_X11_401 yV_X11_someMove e_X11_runs_26 (by unfold g_rr; decide) (by decide) 0 rfl rfl rfl (Nat.le_of_ble_eq_true rfl) (fun r28 w29 h30 => ?_)
          obtain ⟨rfl, pr28, hx31⟩ := h30
          have hk32 := k_ls hk27 hx31
          refine g_if_eq cx 39 e_X11_runs_29 (by decide) (fun zc33 => ?_) (fun zc33 => ?_)
          · have p34 := gn_eq 0 0 (gc_eq zc33) pr28 (jv_k (x := 0) 0 (by decide)) (by decide)
            have hk35 := hk32.trans (if_pos zc33)
            refine g_lsub [] [] rfl ?_
            exact J39  hk35
          · have p36 := gn_neL 1 1 (gc_ne zc33) pr28 (jv_k (x := 0) 0 (by decide)) (by decide)
            have hk37 := hk32.trans (if_neg zc33)
            exact J32  hk37
  exact J4 8589934592 F5 R6 oF5 fF5 oR6 fR6 wTF5 wCF5 hk7 (show (2147483647 - (F5 45).toInt).toNat < 8589934592 from by have q0 := (g_ok_g oF5 12 rfl).1; have q1 := (g_ok_g oF5 12 rfl).2; omega)
