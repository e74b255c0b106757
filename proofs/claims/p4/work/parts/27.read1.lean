theorem tp_cons {L : List (Int × Nat)} (h : 0 ≤ tp L) : ∃ (o : Int) (r : Nat) (L2 : List (Int × Nat)), L = (o, r) :: L2 := by
  cases L with
  | nil => simp only [tp] at h; omega
  | cons q L2 => exact ⟨q.1, q.2, L2, rfl⟩
theorem PS_room {F : Nat → Int32} {R : Nat → Nat → Int32} {A : Nat × Nat} {L : List (Int × Nat)} {h o : Int} {r : Nat} (p : PS F R A ((o, r) :: L) h) (ho : 2 ≤ o ∧ o ≤ 6 ∨ o = 10) : (F 25).toInt + 1 ≤ (F 15).toInt := by
  have h1 := p.2.2.2.2.1
  have h2 := cg_0 L
  simp only [cg] at h1
  rw [if_pos ho] at h1
  omega
theorem PS_close {F F' : Nat → Int32} {R R' : Nat → Nat → Int32} {A : Nat × Nat} {L : List (Int × Nat)} {h o : Int} {r : Nat} {x : Int32} (p : PS F R A ((o, r) :: L) h) (ho : 2 ≤ o ∧ o ≤ 6) (hcb : cb ((o, r) :: L) + 1 ≤ h) (h0 : 0 ≤ (F 25).toInt) (hx : x.toInt = 1048576 * o) (e25 : (F' 25).toInt = (F 25).toInt + 1) (e26 : (F' 26).toInt = (F 26).toInt - 1) (e15 : F' 15 = F 15) (e12 : R' 12 = upd (R 12) (F 25).toInt.toNat x) (e13 : R' 13 = R 13) : PS F' R' A L (h - 1) ∧ cb L + 1 ≤ h - 1 := by
  have hop : g_op x = o := by unfold g_op; omega
  have hb := cg_0 L
  have hcb2 : cb ((o, r) :: L) = cb L + 1 := by simp only [cb]; rw [if_pos ho]
  obtain ⟨p1, p2, p3, p4, p5, p6⟩ := p
  simp only [cg] at p5
  rw [if_pos (Or.inl ho)] at p5
  simp only [List.length_cons] at p3 p6
  have e : (F' 25).toInt.toNat = (F 25).toInt.toNat + 1 := by omega
  have hA := p1.1
  refine ⟨⟨?_, ?_, by omega, ?_, by rw [e15]; omega, by rw [e15]; omega⟩, by omega⟩
  · rw [e12, e]
    exact PC_note (PC_pop p1 (by omega)) ⟨fun q => absurd q (by omega), fun _ => by rw [p4]; omega, fun _ _ => by rw [p4]; omega⟩ (by omega)
  · rw [e13]
    exact p2.2.2.2.2
  · rw [e12, e, show (F 25).toInt.toNat + 1 - A.1 = ((F 25).toInt.toNat - A.1) + 1 from by omega, g_ht, g_ht_u (by omega), p4, show A.1 + ((F 25).toInt.toNat - A.1) = (F 25).toInt.toNat from by omega, g_us]
    have := g_dl_c x
    omega
theorem WS_in {w : Nat → Int32} {L : List (Int × Nat)} : ∀ {M : List (Int × Nat)}, WS w (M ++ L) → ∀ q ∈ M, ∃ j, L.length ≤ j ∧ j < (M ++ L).length ∧ g_op (w j) = q.1
  | [], _, q, hq => absurd hq List.not_mem_nil
  | p :: M, h, q, hq => by
    obtain ⟨o, r⟩ := p
    rcases List.mem_cons.mp hq with e | hq
    · subst e
      exact ⟨(M ++ L).length, by simp, by simp, (WS_top h).1⟩
    · obtain ⟨j, h1, h2, h3⟩ := WS_in (M := M) h.2.2.2.2 q hq
      exact ⟨j, h1, Nat.lt_succ_of_lt h2, h3⟩
theorem WS_of {w : Nat → Int32} {L : List (Int × Nat)} : ∀ {M : List (Int × Nat)}, WS w (M ++ L) → ∀ j, L.length ≤ j → j < (M ++ L).length → ∃ q ∈ M, g_op (w j) = q.1
  | [], _, j, h1, h2 => absurd h1 (by simpa using h2)
  | p :: M, h, j, h1, h2 => by
    obtain ⟨o, r⟩ := p
    by_cases e : j = (M ++ L).length
    · subst e
      exact ⟨(o, r), List.mem_cons_self, (WS_top h).1⟩
    · have h3 : j < (M ++ L).length := by
        have : j < (M ++ L).length + 1 := h2
        omega
      obtain ⟨q, q1, q2⟩ := WS_of (M := M) h.2.2.2.2 j h1 h3
      exact ⟨q, List.mem_cons_of_mem _ q1, q2⟩

theorem g_here_e {F F' : Nat → Int32} {R R' : Nat → Nat → Int32} (e16 : F' 16 = F 16) (e9 : R' 9 = R 9) (e15 : (F' 15).toInt = (F 15).toInt) : (g_here F' R').toInt = (g_here F R).toInt := by
  have e : F' 15 = F 15 := Int32.toInt_inj.mp e15
  unfold g_here
  rw [e, e16, e9]

set_option maxHeartbeats 4000000 in
set_option maxRecDepth 100000 in
theorem w_X11_isDigit2 (l : Launch) (X : gX) (ad : Nat → Nat) (F : Nat → Int32) (R : Nat → Nat → Int32) (hI : g_ok LK_wM F) (hA : g_okR LA_wM R) (hWT : WT F R) (hWC : WC F R) : g_Ci l X yX11_isDigit cX11_isDigit 1 (some .boolean) 2 0 0 [.ref (ad 0)] (wM X ad F R) (fun r w => w = wM X ad F R ∧ jv 0 1 r ∧ (¬ r = 0 → 48 ≤ (g_here F R).toInt ∧ (g_here F R).toInt ≤ 57) ∧ (r.toInt = 0 → (g_here F R).toInt < 48 ∨ 57 < (g_here F R).toInt)) := by
  refine g_mi (by decide +kernel) (Nat.le_of_ble_eq_true rfl) (fun E cx hret => ?_)
  refine g_aload_n cx 0 rfl e_X11_isDigit_0 ?_
  refine g_cViW cx [] [] (w_X11_here l X ad F R hI hA hWT hWC) ml_X11_200 yV_X11_here e_X11_isDigit_1 (by unfold g_rr; decide) (by decide) 0 rfl rfl rfl (Nat.le_of_ble_eq_true rfl) (fun r1 w2 h3 => ?_)
  obtain ⟨rfl, pr1, zx4⟩ := h3
  refine g_bipush cx 48 (by decide) e_X11_isDigit_4 ?_
  refine g_icmp_lt cx 22 e_X11_isDigit_6 (by decide) (fun zc5 => ?_) (fun zc5 => ?_)
  · have p6 := gn_lt (-1) 47 (gc_lt zc5) pr1 (jv_k (x := 48) 48 (by decide)) (by decide)
    refine g_iconst cx 0 (by decide) e_X11_isDigit_22 ?_
    exact hret e_X11_isDigit_23 (Nat.le_of_ble_eq_true rfl) (Nat.le_of_ble_eq_true rfl) rfl ⟨rfl, (jv_w (jv_k (x := 0) 0 (by decide)) (by decide)), (fun h => absurd rfl h), (fun _ => by have q0 := (g_here_iv F R).1; have q1 := (g_here_iv F R).2; have q2 := (jv_k (x := 48) 48 (by decide)).1; have q3 := (jv_k (x := 48) 48 (by decide)).2; have q4 := (g_ok_g hI 1 rfl).1; have q5 := (g_ok_g hI 1 rfl).2; have q6 := (g_ok_g hI 2 rfl).1; have q7 := (g_ok_g hI 2 rfl).2; have q8 := p6.1; have q9 := p6.2; have q10 := (congrArg Int32.toInt zx4); have q11 := (@g_here_lt F R); have q12 := (gc_lt zc5); omega)⟩
  · have p7 := gn_ge 48 255 (gc_nlt zc5) pr1 (jv_k (x := 48) 48 (by decide)) (by decide)
    refine g_aload_n cx 0 rfl e_X11_isDigit_9 ?_
    refine g_cViW cx [] [] (w_X11_here l X ad F R hI hA hWT hWC) ml_X11_200 yV_X11_here e_X11_isDigit_10 (by unfold g_rr; decide) (by decide) 0 rfl rfl rfl (Nat.le_of_ble_eq_true rfl) (fun r8 w9 h10 => ?_)
    obtain ⟨rfl, pr8, zx11⟩ := h10
    refine g_bipush cx 57 (by decide) e_X11_isDigit_13 ?_
    refine g_icmp_gt cx 22 e_X11_isDigit_15 (by decide) (fun zc12 => ?_) (fun zc12 => ?_)
    · have p13 := gn_gt 58 255 (gc_lt zc12) pr8 (jv_k (x := 57) 57 (by decide)) (by decide)
      refine g_iconst cx 0 (by decide) e_X11_isDigit_22 ?_
      exact hret e_X11_isDigit_23 (Nat.le_of_ble_eq_true rfl) (Nat.le_of_ble_eq_true rfl) rfl ⟨rfl, (jv_w (jv_k (x := 0) 0 (by decide)) (by decide)), (fun h => absurd rfl h), (fun _ => by have q0 := (g_here_iv F R).1; have q1 := (g_here_iv F R).2; have q2 := (jv_k (x := 48) 48 (by decide)).1; have q3 := (jv_k (x := 48) 48 (by decide)).2; have q4 := (jv_k (x := 57) 57 (by decide)).1; have q5 := (jv_k (x := 57) 57 (by decide)).2; have q6 := (g_ok_g hI 1 rfl).1; have q7 := (g_ok_g hI 1 rfl).2; have q8 := (g_ok_g hI 2 rfl).1; have q9 := (g_ok_g hI 2 rfl).2; have q10 := p7.1; have q11 := p7.2; have q12 := p13.1; have q13 := p13.2; have q14 := (congrArg Int32.toInt zx4); have q15 := (@g_here_lt F R); have q16 := (gc_nlt zc5); have q17 := (congrArg Int32.toInt zx11); have q18 := (@g_here_lt F R); have q19 := (gc_lt zc12); omega)⟩
    · have p14 := gn_le (-1) 57 (gc_nlt zc12) pr8 (jv_k (x := 57) 57 (by decide)) (by decide)
      refine g_iconst cx 1 (by decide) e_X11_isDigit_18 ?_
      refine g_goto cx 23 e_X11_isDigit_19 (by decide) ?_
      exact hret e_X11_isDigit_23 (Nat.le_of_ble_eq_true rfl) (Nat.le_of_ble_eq_true rfl) rfl ⟨rfl, (jv_w (jv_k (x := 1) 1 (by decide)) (by decide)), (fun _ => by have q0 := (g_here_iv F R).1; have q1 := (g_here_iv F R).2; have q2 := (jv_k (x := 48) 48 (by decide)).1; have q3 := (jv_k (x := 48) 48 (by decide)).2; have q4 := (jv_k (x := 57) 57 (by decide)).1; have q5 := (jv_k (x := 57) 57 (by decide)).2; have q6 := (g_ok_g hI 1 rfl).1; have q7 := (g_ok_g hI 1 rfl).2; have q8 := (g_ok_g hI 2 rfl).1; have q9 := (g_ok_g hI 2 rfl).2; have q10 := p7.1; have q11 := p7.2; have q12 := p14.1; have q13 := p14.2; have q14 := (congrArg Int32.toInt zx4); have q15 := (@g_here_lt F R); have q16 := (gc_nlt zc5); have q17 := (congrArg Int32.toInt zx11); have q18 := (@g_here_lt F R); have q19 := (gc_nlt zc12); omega), (fun h => absurd h (by decide))⟩
theorem e_X11_notes_0 : g_dc cX11_notes 0 (.aload_n 0) 1 1 := ⟨by decide +kernel, rfl⟩
theorem e_X11_notes_1 : g_dc cX11_notes 1 (.getfield 44) 3 4 := ⟨by decide +kernel, rfl⟩
theorem e_X11_notes_4 : g_dc cX11_notes 4 (.aload_n 0) 1 5 := ⟨by decide +kernel, rfl⟩
theorem e_X11_notes_5 : g_dc cX11_notes 5 (.getfield 231) 3 8 := ⟨by decide +kernel, rfl⟩
theorem e_X11_notes_8 : g_dc cX11_notes 8 (.ldc 234) 2 10 := ⟨by decide +kernel, rfl⟩
theorem e_X11_notes_10 : g_dc cX11_notes 10 (.iload_n 1) 1 11 := ⟨by decide +kernel, rfl⟩
theorem e_X11_notes_11 : g_dc cX11_notes 11 (.imul) 1 12 := ⟨by decide +kernel, rfl⟩
theorem e_X11_notes_12 : g_dc cX11_notes 12 (.iload_n 2) 1 13 := ⟨by decide +kernel, rfl⟩
theorem e_X11_notes_13 : g_dc cX11_notes 13 (.iadd) 1 14 := ⟨by decide +kernel, rfl⟩
theorem e_X11_notes_14 : g_dc cX11_notes 14 (.iastore) 1 15 := ⟨by decide +kernel, rfl⟩
theorem e_X11_notes_15 : g_dc cX11_notes 15 (.aload_n 0) 1 16 := ⟨by decide +kernel, rfl⟩
theorem e_X11_notes_16 : g_dc cX11_notes 16 (.aload_n 0) 1 17 := ⟨by decide +kernel, rfl⟩
theorem e_X11_notes_17 : g_dc cX11_notes 17 (.getfield 231) 3 20 := ⟨by decide +kernel, rfl⟩
theorem e_X11_notes_20 : g_dc cX11_notes 20 (.iconst 1) 1 21 := ⟨by decide +kernel, rfl⟩
theorem e_X11_notes_21 : g_dc cX11_notes 21 (.iadd) 1 22 := ⟨by decide +kernel, rfl⟩
theorem e_X11_notes_22 : g_dc cX11_notes 22 (.putfield 231) 3 25 := ⟨by decide +kernel, rfl⟩
theorem e_X11_notes_25 : g_dc cX11_notes 25 (.return_) 1 26 := ⟨by decide +kernel, rfl⟩
def md_X11_notes : List Nat := [25]
def mr_X11_notes : List Nat := [12]
set_option maxHeartbeats 4000000 in
set_option maxRecDepth 100000 in
theorem w_X11_notes (l : Launch) (X : gX) (ad : Nat → Nat) (F : Nat → Int32) (R : Nat → Nat → Int32) (hI : g_ok LK_wM F) (hA : g_okR LA_wM R) (hWT : WT F R) (hWC : WC F R) (a0 : Int32) (a1 : Int32) (pa0 : jv 0 12 a0) (pa1 : jv 0 1048575 a1) (hn : (F 25).toInt ≤ 219) : g_Cv l X yX11_notes cX11_notes 3 1 0 0 [.ref (ad 0), .int a0, .int a1] (wM X ad F R) (fun w => ∃ (F' : Nat → Int32) (R' : Nat → Nat → Int32), w = wM X ad F' R' ∧ g_ok LK_wM F' ∧ g_okR LA_wM R' ∧ WT F' R' ∧ WC F' R' ∧ g_fr md_X11_notes F F' ∧ g_fr mr_X11_notes R R' ∧ (F' 25).toInt = (F 25).toInt + 1 ∧ (∃ x : Int32, x.toInt = 1048576 * a0.toInt + a1.toInt ∧ R' 12 = upd (R 12) (F 25).toInt.toNat x)) := by
  refine g_mv (by decide +kernel) (Nat.le_of_ble_eq_true rfl) (fun E cx hret => ?_)
  refine g_aload_n cx 0 rfl e_X11_notes_0 ?_
  refine g_get cx cl_X11 fl_X11_44 0 (.ref (ad 12)) e_X11_notes_1 rfl rfl ?_
  refine g_aload_n cx 0 rfl e_X11_notes_4 ?_
  refine g_get cx cl_X11 fl_X11_231 0 (.int (F 25)) e_X11_notes_5 rfl rfl ?_
  refine g_ldc cx 1048576 kc_X11_234 e_X11_notes_8 ?_
  refine g_iload_n cx 1 rfl e_X11_notes_10 ?_
  refine g_imul cx e_X11_notes_11 ?_
  refine g_topi (fun x1 ex1 => ?_)
  have zx1 := jv_mul 0 12582912 ex1 (jv_k (x := 1048576) 1048576 (by decide)) pa0 (by decide)
  refine g_iload_n cx 2 rfl e_X11_notes_12 ?_
  refine g_iadd cx e_X11_notes_13 ?_
  refine g_topi (fun x2 ex2 => ?_)
  have zx2 := jv_add 0 13631487 ex2 zx1.2 pa1 (by decide)
  refine g_iast cx 12 (wM X ad F (g_u R 12 (upd (R 12) (Int32.toNatClampNeg (F 25)) x2))) e_X11_notes_14 rfl (vp_in_iff.mpr ⟨by have q0 := (g_ok_g hI 7 rfl).1; have q1 := (g_ok_g hI 7 rfl).2; have q2 := hn; omega, by have q0 := (g_ok_g hI 7 rfl).1; have q1 := (g_ok_g hI 7 rfl).2; have q2 := hn; omega⟩) rfl ?_
  obtain ⟨R3, hR3⟩ : ∃ z, z = g_u R 12 (upd (R 12) (Int32.toNatClampNeg (F 25)) x2) := ⟨_, rfl⟩
  rw [← hR3]
  have oR3 : g_okR LA_wM R3 := by rw [hR3]; exact g_okR_p hA zx2.2 rfl
  have fR3 : g_fr mr_X11_notes R R3 := by rw [hR3]; exact g_fr_r (g_fr_rf R) rfl
  have wTR3 : WT F R3 := by rw [hR3]; exact WT_r hWT rfl
  have wCR3 : WC F R3 := by rw [hR3]; exact WC_r hWC rfl
  refine g_aload_n cx 0 rfl e_X11_notes_15 ?_
  refine g_aload_n cx 0 rfl e_X11_notes_16 ?_
  refine g_get cx cl_X11 fl_X11_231 0 (.int (F 25)) e_X11_notes_17 rfl rfl ?_
  refine g_iconst cx 1 (by decide) e_X11_notes_20 ?_
  refine g_iadd cx e_X11_notes_21 ?_
  refine g_topi (fun x4 ex4 => ?_)
  have zx4 := jv_add 1 221 ex4 (g_ok_g hI 7 rfl) (jv_k (x := 1) 1 (by decide)) (by decide)
  refine g_put cx cl_X11 fl_X11_231 0 (wM X ad (upd F 25 x4) R3) e_X11_notes_22 rfl rfl rfl rfl (Nat.le_of_ble_eq_true rfl) rfl ?_
  obtain ⟨F5, hF5⟩ : ∃ z, z = upd F 25 x4 := ⟨_, rfl⟩
  rw [← hF5]
  have oF5 : g_ok LK_wM F5 := by rw [hF5]; exact g_ok_p hI (show jv 0 220 _ from ⟨by have q0 := (jv_k (x := 1) 1 (by decide)).1; have q1 := (jv_k (x := 1) 1 (by decide)).2; have q2 := (g_ok_g hI 7 rfl).1; have q3 := (g_ok_g hI 7 rfl).2; have q4 := zx4.2.1; have q5 := zx4.2.2; have q6 := hn; have q7 := (g_eq0 zx4.1); omega, by have q0 := (jv_k (x := 1) 1 (by decide)).1; have q1 := (jv_k (x := 1) 1 (by decide)).2; have q2 := (g_ok_g hI 7 rfl).1; have q3 := (g_ok_g hI 7 rfl).2; have q4 := zx4.2.1; have q5 := zx4.2.2; have q6 := hn; have q7 := (g_eq0 zx4.1); omega⟩) rfl
  have fF5 : g_fr md_X11_notes F F5 := by rw [hF5]; exact g_fr_u (g_fr_rf F) rfl
  have wTF5 : WT F5 R3 := by rw [hF5]; exact WT_u wTR3 rfl
  have wCF5 : WC F5 R3 := by rw [hF5]; exact WC_u wCR3 rfl
  exact hret e_X11_notes_25 (Nat.le_of_ble_eq_true rfl) (Nat.le_of_ble_eq_true rfl) ⟨F5, R3, rfl, oF5, oR3, wTF5, wCF5, fF5, fR3, (by have q0 := (jv_k (x := 1) 1 (by decide)).1; have q1 := (jv_k (x := 1) 1 (by decide)).2; have q2 := (g_ok_g hI 7 rfl).1; have q3 := (g_ok_g hI 7 rfl).2; have q4 := (g_ok_g oF5 7 rfl).1; have q5 := (g_ok_g oF5 7 rfl).2; have q6 := zx4.2.1; have q7 := zx4.2.2; have q8 := hn; have q9 := (g_eq0 zx4.1); have q10 := (congrArg Int32.toInt (show F5 25 = x4 from (g_pu1 hF5))); omega), ⟨x2, by have q0 := pa0.1; have q1 := pa0.2; have q2 := pa1.1; have q3 := pa1.2; have q4 := zx1.2.1; have q5 := zx1.2.2; have q6 := zx2.2.1; have q7 := zx2.2.2; have q8 := (g_em2 zx1.1 (by decide : Int32.toInt 1048576 = 1048576)); have q9 := (g_eq0 zx2.1); omega, (g_ru1 hR3)⟩⟩
theorem e_X11_waitTop_0 : g_dc cX11_waitTop 0 (.aload_n 0) 1 1 := ⟨by decide +kernel, rfl⟩
theorem e_X11_waitTop_1 : g_dc cX11_waitTop 1 (.getfield 238) 3 4 := ⟨by decide +kernel, rfl⟩
theorem e_X11_waitTop_4 : g_dc cX11_waitTop 4 (.ifCond .ne 7) 3 7 := ⟨by decide +kernel, rfl⟩
theorem e_X11_waitTop_7 : g_dc cX11_waitTop 7 (.iconst (-1)) 1 8 := ⟨by decide +kernel, rfl⟩
theorem e_X11_waitTop_8 : g_dc cX11_waitTop 8 (.goto 17) 3 11 := ⟨by decide +kernel, rfl⟩
theorem e_X11_waitTop_11 : g_dc cX11_waitTop 11 (.aload_n 0) 1 12 := ⟨by decide +kernel, rfl⟩
theorem e_X11_waitTop_12 : g_dc cX11_waitTop 12 (.getfield 47) 3 15 := ⟨by decide +kernel, rfl⟩
theorem e_X11_waitTop_15 : g_dc cX11_waitTop 15 (.aload_n 0) 1 16 := ⟨by decide +kernel, rfl⟩
theorem e_X11_waitTop_16 : g_dc cX11_waitTop 16 (.getfield 238) 3 19 := ⟨by decide +kernel, rfl⟩
theorem e_X11_waitTop_19 : g_dc cX11_waitTop 19 (.iconst 1) 1 20 := ⟨by decide +kernel, rfl⟩
theorem e_X11_waitTop_20 : g_dc cX11_waitTop 20 (.isub) 1 21 := ⟨by decide +kernel, rfl⟩
theorem e_X11_waitTop_21 : g_dc cX11_waitTop 21 (.iaload) 1 22 := ⟨by decide +kernel, rfl⟩
theorem e_X11_waitTop_22 : g_dc cX11_waitTop 22 (.ldc 234) 2 24 := ⟨by decide +kernel, rfl⟩
theorem e_X11_waitTop_24 : g_dc cX11_waitTop 24 (.idiv) 1 25 := ⟨by decide +kernel, rfl⟩
theorem e_X11_waitTop_25 : g_dc cX11_waitTop 25 (.ireturn) 1 26 := ⟨by decide +kernel, rfl⟩
set_option maxHeartbeats 4000000 in
set_option maxRecDepth 100000 in
theorem w_X11_waitTop (l : Launch) (X : gX) (ad : Nat → Nat) (F : Nat → Int32) (R : Nat → Nat → Int32) (hI : g_ok LK_wM F) (hA : g_okR LA_wM R) (L : List (Int × Nat)) (hw : WS (R 13) L) (hl : (L.length : Int) = (F 26).toInt) : g_Ci l X yX11_waitTop cX11_waitTop 1 (some .int) 1 0 0 [.ref (ad 0)] (wM X ad F R) (fun r w => w = wM X ad F R ∧ jv (-1) 14 r ∧ r.toInt = tp L) := by
  refine g_mi (by decide +kernel) (Nat.le_of_ble_eq_true rfl) (fun E cx hret => ?_)
  refine g_aload_n cx 0 rfl e_X11_waitTop_0 ?_
  refine g_get cx cl_X11 fl_X11_238 0 (.int (F 26)) e_X11_waitTop_1 rfl rfl ?_
  refine g_if_ne cx 11 e_X11_waitTop_4 (by decide) (fun zc1 => ?_) (fun zc1 => ?_)
  · have p2 := gn_neL 1 220 (gc_ne zc1) (g_ok_g hI 8 rfl) (jv_k (x := 0) 0 (by decide)) (by decide)
    refine g_aload_n cx 0 rfl e_X11_waitTop_11 ?_
    refine g_get cx cl_X11 fl_X11_47 0 (.ref (ad 13)) e_X11_waitTop_12 rfl rfl ?_
    refine g_aload_n cx 0 rfl e_X11_waitTop_15 ?_
    refine g_get cx cl_X11 fl_X11_238 0 (.int (F 26)) e_X11_waitTop_16 rfl rfl ?_
    refine g_iconst cx 1 (by decide) e_X11_waitTop_19 ?_
    refine g_isub cx e_X11_waitTop_20 ?_
    refine g_topi (fun x3 ex3 => ?_)
    have zx3 := jv_sub 0 219 ex3 p2 (jv_k (x := 1) 1 (by decide)) (by decide)
    refine g_iald cx 13 e_X11_waitTop_21 rfl (jv_ix 220 zx3.2 (by decide)) ?_
    refine g_topi (fun x4 ex4 => ?_)
    have p5 : jv 0 15728639 x4 := by rw [ex4]; exact g_okR_g hA 1 rfl (jv_cl 220 zx3.2 (by decide))
    refine g_ldc cx 1048576 kc_X11_234 e_X11_waitTop_22 ?_
    refine g_idiv cx (by decide) e_X11_waitTop_24 ?_
    refine g_topi (fun x6 ex6 => ?_)
    have zx6 := jv_div 0 14 ex6 p5 (jv_k (x := 1048576) 1048576 (by decide)) (by decide)
    exact hret e_X11_waitTop_25 (Nat.le_of_ble_eq_true rfl) (Nat.le_of_ble_eq_true rfl) rfl ⟨rfl, (jv_w zx6.2 (by decide)), (WS_tp hw hl (by have q0 := (jv_k (x := 0) 0 (by decide)).1; have q1 := (jv_k (x := 0) 0 (by decide)).2; have q2 := (jv_k (x := 1) 1 (by decide)).1; have q3 := (jv_k (x := 1) 1 (by decide)).2; have q4 := p2.1; have q5 := p2.2; have q6 := zx3.2.1; have q7 := zx3.2.2; have q8 := (gc_ne zc1); have q9 := (g_eq0 zx3.1); omega) (by have q0 := (jv_k (x := 0) 0 (by decide)).1; have q1 := (jv_k (x := 0) 0 (by decide)).2; have q2 := (jv_k (x := 1) 1 (by decide)).1; have q3 := (jv_k (x := 1) 1 (by decide)).2; have q4 := p2.1; have q5 := p2.2; have q6 := zx3.2.1; have q7 := zx3.2.2; have q8 := (gc_ne zc1); have q9 := (g_eq0 zx3.1); omega) ex4 (g_ed zx6.1 (by decide : Int32.toInt 1048576 = 1048576)))⟩
  · have p7 := gn_eq 0 0 (gc_eq zc1) (g_ok_g hI 8 rfl) (jv_k (x := 0) 0 (by decide)) (by decide)
    refine g_iconst cx (-1) (by decide) e_X11_waitTop_7 ?_
    refine g_goto cx 25 e_X11_waitTop_8 (by decide) ?_
    exact hret e_X11_waitTop_25 (Nat.le_of_ble_eq_true rfl) (Nat.le_of_ble_eq_true rfl) rfl ⟨rfl, (jv_w (jv_k (x := (-1)) (-1) (by decide)) (by decide)), (WS_tp0 hl (by have q0 := (jv_k (x := 0) 0 (by decide)).1; have q1 := (jv_k (x := 0) 0 (by decide)).2; have q2 := p7.1; have q3 := p7.2; have q4 := (gc_eq zc1); omega))⟩
theorem e_X11_closesSums_0 : g_dc cX11_closesSums 0 (.aload_n 0) 1 1 := ⟨by decide +kernel, rfl⟩
theorem e_X11_closesSums_1 : g_dc cX11_closesSums 1 (.invokevirtual 241) 3 4 := ⟨by decide +kernel, rfl⟩
theorem e_X11_closesSums_4 : g_dc cX11_closesSums 4 (.iconst 4) 1 5 := ⟨by decide +kernel, rfl⟩
theorem e_X11_closesSums_5 : g_dc cX11_closesSums 5 (.if_icmp .lt 12) 3 8 := ⟨by decide +kernel, rfl⟩
theorem e_X11_closesSums_8 : g_dc cX11_closesSums 8 (.aload_n 0) 1 9 := ⟨by decide +kernel, rfl⟩
theorem e_X11_closesSums_9 : g_dc cX11_closesSums 9 (.invokevirtual 241) 3 12 := ⟨by decide +kernel, rfl⟩
theorem e_X11_closesSums_12 : g_dc cX11_closesSums 12 (.bipush 6) 2 14 := ⟨by decide +kernel, rfl⟩
theorem e_X11_closesSums_14 : g_dc cX11_closesSums 14 (.if_icmp .le 23) 3 17 := ⟨by decide +kernel, rfl⟩
theorem e_X11_closesSums_17 : g_dc cX11_closesSums 17 (.iload_n 1) 1 18 := ⟨by decide +kernel, rfl⟩
theorem e_X11_closesSums_18 : g_dc cX11_closesSums 18 (.ifCond .eq 41) 3 21 := ⟨by decide +kernel, rfl⟩
theorem e_X11_closesSums_21 : g_dc cX11_closesSums 21 (.aload_n 0) 1 22 := ⟨by decide +kernel, rfl⟩
theorem e_X11_closesSums_22 : g_dc cX11_closesSums 22 (.invokevirtual 241) 3 25 := ⟨by decide +kernel, rfl⟩
theorem e_X11_closesSums_25 : g_dc cX11_closesSums 25 (.iconst 2) 1 26 := ⟨by decide +kernel, rfl⟩
theorem e_X11_closesSums_26 : g_dc cX11_closesSums 26 (.if_icmp .eq 11) 3 29 := ⟨by decide +kernel, rfl⟩
theorem e_X11_closesSums_29 : g_dc cX11_closesSums 29 (.aload_n 0) 1 30 := ⟨by decide +kernel, rfl⟩
theorem e_X11_closesSums_30 : g_dc cX11_closesSums 30 (.invokevirtual 241) 3 33 := ⟨by decide +kernel, rfl⟩
theorem e_X11_closesSums_33 : g_dc cX11_closesSums 33 (.iconst 3) 1 34 := ⟨by decide +kernel, rfl⟩
theorem e_X11_closesSums_34 : g_dc cX11_closesSums 34 (.if_icmp .ne 25) 3 37 := ⟨by decide +kernel, rfl⟩
theorem e_X11_closesSums_37 : g_dc cX11_closesSums 37 (.aload_n 0) 1 38 := ⟨by decide +kernel, rfl⟩
theorem e_X11_closesSums_38 : g_dc cX11_closesSums 38 (.aload_n 0) 1 39 := ⟨by decide +kernel, rfl⟩
theorem e_X11_closesSums_39 : g_dc cX11_closesSums 39 (.invokevirtual 241) 3 42 := ⟨by decide +kernel, rfl⟩
theorem e_X11_closesSums_42 : g_dc cX11_closesSums 42 (.iconst 0) 1 43 := ⟨by decide +kernel, rfl⟩
theorem e_X11_closesSums_43 : g_dc cX11_closesSums 43 (.invokevirtual 244) 3 46 := ⟨by decide +kernel, rfl⟩
theorem e_X11_closesSums_46 : g_dc cX11_closesSums 46 (.aload_n 0) 1 47 := ⟨by decide +kernel, rfl⟩
theorem e_X11_closesSums_47 : g_dc cX11_closesSums 47 (.aload_n 0) 1 48 := ⟨by decide +kernel, rfl⟩
theorem e_X11_closesSums_48 : g_dc cX11_closesSums 48 (.getfield 238) 3 51 := ⟨by decide +kernel, rfl⟩
theorem e_X11_closesSums_51 : g_dc cX11_closesSums 51 (.iconst 1) 1 52 := ⟨by decide +kernel, rfl⟩
theorem e_X11_closesSums_52 : g_dc cX11_closesSums 52 (.isub) 1 53 := ⟨by decide +kernel, rfl⟩
theorem e_X11_closesSums_53 : g_dc cX11_closesSums 53 (.putfield 238) 3 56 := ⟨by decide +kernel, rfl⟩
theorem e_X11_closesSums_56 : g_dc cX11_closesSums 56 (.goto (-56)) 3 59 := ⟨by decide +kernel, rfl⟩
theorem e_X11_closesSums_59 : g_dc cX11_closesSums 59 (.return_) 1 60 := ⟨by decide +kernel, rfl⟩
def md_X11_closesSums : List Nat := [25, 26]
def mr_X11_closesSums : List Nat := [12]
set_option maxHeartbeats 4000000 in
set_option maxRecDepth 100000 in
theorem w_X11_closesSums (l : Launch) (X : gX) (ad : Nat → Nat) (F : Nat → Int32) (R : Nat → Nat → Int32) (hI : g_ok LK_wM F) (hA : g_okR LA_wM R) (hWT : WT F R) (hWC : WC F R) (a0 : Int32) (pa0 : jv 0 1 a0) (A : Nat × Nat) (L : List (Int × Nat)) (h : Int) (hps : PS F R A L h) (hcb : cb L + 1 ≤ h) : g_Cv l X yX11_closesSums cX11_closesSums 2 2 0 0 [.ref (ad 0), .int a0] (wM X ad F R) (fun w => ∃ (F' : Nat → Int32) (R' : Nat → Nat → Int32), w = wM X ad F' R' ∧ g_ok LK_wM F' ∧ g_okR LA_wM R' ∧ WT F' R' ∧ WC F' R' ∧ g_fr md_X11_closesSums F F' ∧ g_fr mr_X11_closesSums R R' ∧ (∃ (M L1 : List (Int × Nat)), L = M ++ L1 ∧ (∀ q ∈ M, 2 ≤ q.1 ∧ q.1 ≤ 6) ∧ PS F' R' A L1 (h - M.length) ∧ (¬ a0 = 0 → tp L1 < 2 ∨ 6 < tp L1) ∧ (∀ k, k < (F 25).toInt.toNat → R' 12 k = R 12 k) ∧ (F 25).toInt ≤ (F' 25).toInt)) := by
  refine g_mv (by decide +kernel) (Nat.le_of_ble_eq_true rfl) (fun E cx hret => ?_)
  have J0 : ∀ (N : Nat) (F1 : Nat → Int32) (R2 : Nat → Nat → Int32), (g_ok LK_wM F1) → (g_fr md_X11_closesSums F F1) → (g_okR LA_wM R2) → (g_fr mr_X11_closesSums R R2) → (WT F1 R2) → (WC F1 R2) → (∃ (M L1 : List (Int × Nat)), L = M ++ L1 ∧ (∀ q ∈ M, 2 ≤ q.1 ∧ q.1 ≤ 6) ∧ PS F1 R2 A L1 (h - M.length) ∧ cb L1 + 1 ≤ h - M.length ∧ (∀ k, k < (F 25).toInt.toNat → R2 12 k = R 12 k) ∧ (F 25).toInt ≤ (F1 25).toInt) → (F1 26).toInt.toNat < N → G X E 2 0 0 (wM X ad F1 R2) [(0, .ref (ad 0)), (1, .int a0)] 0 [] := by
    intro N
    induction N with
    | zero => intro F1 R2 oF1 fF1 oR2 fR2 wTF1R2 wCF1R2 zq0_0 hm; exact absurd hm (Nat.not_lt_zero _)
    | succ N ih0 =>
      intro F1 R2 oF1 fF1 oR2 fR2 wTF1R2 wCF1R2 zq0_0 hm0
      obtain ⟨M, L1, eL, hM, ps, hcb1, hk, h25⟩ := zq0_0
      refine g_aload_n cx 0 rfl e_X11_closesSums_0 ?_
      refine g_cViW cx [] [] (w_X11_waitTop l X ad F1 R2 oF1 oR2 (L1) ps.2.1 ps.2.2.1) ml_X11_241 yV_X11_waitTop e_X11_closesSums_1 (by unfold g_rr; decide) (by decide) 0 rfl rfl rfl (Nat.le_of_ble_eq_true rfl) (fun r3 w4 h5 => ?_)
      obtain ⟨rfl, pr3, zx6⟩ := h5
      refine g_iconst cx 4 (by decide) e_X11_closesSums_4 ?_
      have J37 : (2 ≤ tp L1 ∧ tp L1 ≤ 6) → G X E 2 0 0 (wM X ad F1 R2) [(0, .ref (ad 0)), (1, .int a0)] 37 [] := by
        intro  zi37_0
        obtain ⟨o, r, L2, rfl⟩ := tp_cons (L := L1) (by omega)
        have ho : 2 ≤ o ∧ o ≤ 6 := zi37_0
        have hroom := PS_room ps (Or.inl ho)
        have hlen : 1 ≤ (F1 26).toInt := by have q := ps.2.2.1; simp only [List.length_cons] at q; omega
        have htp : tp ((o, r) :: L2) = o := rfl
        refine g_aload_n cx 0 rfl e_X11_closesSums_37 ?_
        refine g_aload_n cx 0 rfl e_X11_closesSums_38 ?_
        refine g_cViW cx [] [.ref (ad 0)] (w_X11_waitTop l X ad F1 R2 oF1 oR2 (((o, r) :: L2)) ps.2.1 ps.2.2.1) ml_X11_241 yV_X11_waitTop e_X11_closesSums_39 (by unfold g_rr; decide) (by decide) 0 rfl rfl rfl (Nat.le_of_ble_eq_true rfl) (fun r7 w8 h9 => ?_)
        obtain ⟨rfl, pr7, zx10⟩ := h9
        refine g_iconst cx 0 (by decide) e_X11_closesSums_42 ?_
        refine g_cVvW cx [.int r7, .int 0] [] (w_X11_notes l X ad F1 R2 oF1 oR2 wTF1R2 wCF1R2 r7 0 (show jv 0 12 r7 from ⟨by have q0 := (g_ok_g oF1 8 rfl).1; have q1 := (g_ok_g oF1 8 rfl).2; have q2 := pr3.1; have q3 := pr3.2; have q4 := pr7.1; have q5 := pr7.2; have q6 := zx6; have q7 := zi37_0; have q8 := hlen; have q9 := htp; have q10 := zx10; omega, by have q0 := (g_ok_g oF1 8 rfl).1; have q1 := (g_ok_g oF1 8 rfl).2; have q2 := pr3.1; have q3 := pr3.2; have q4 := pr7.1; have q5 := pr7.2; have q6 := zx6; have q7 := zi37_0; have q8 := hlen; have q9 := htp; have q10 := zx10; omega⟩) (jv_w (jv_k (x := 0) 0 (by decide)) (by decide)) (by have q0 := (g_ok_g oF1 1 rfl).1; have q1 := (g_ok_g oF1 1 rfl).2; have q2 := (g_ok_g oF1 7 rfl).1; have q3 := (g_ok_g oF1 7 rfl).2; have q4 := hroom; omega)) ml_X11_244 yV_X11_notes e_X11_closesSums_43 (by unfold g_rr; decide) (by decide) 0 rfl rfl rfl (Nat.le_of_ble_eq_true rfl) (fun w12 h13 => ?_)
        obtain ⟨F16, R17, rfl, oF16, oR17, wTF16, wCF16, cF16, cR17, zx14, zx15⟩ := h13
        have fF16 : g_fr md_X11_closesSums F F16 := g_fr_c fF1 cF16 rfl
        have fR17 : g_fr mr_X11_closesSums R R17 := g_fr_c fR2 cR17 rfl
        refine g_aload_n cx 0 rfl e_X11_closesSums_46 ?_
        refine g_aload_n cx 0 rfl e_X11_closesSums_47 ?_
        refine g_get cx cl_X11 fl_X11_238 0 (.int (F16 26)) e_X11_closesSums_48 rfl rfl ?_
        refine g_toi (F1 26) (cF16 26 rfl) ?_
        refine g_iconst cx 1 (by decide) e_X11_closesSums_51 ?_
        refine g_isub cx e_X11_closesSums_52 ?_
        refine g_topi (fun x18 ex18 => ?_)
        have zx18 := jv_sub (-1) 219 ex18 (g_ok_g oF1 8 rfl) (jv_k (x := 1) 1 (by decide)) (by decide)
        refine g_put cx cl_X11 fl_X11_238 0 (wM X ad (upd F16 26 x18) R17) e_X11_closesSums_53 rfl rfl rfl rfl (Nat.le_of_ble_eq_true rfl) rfl ?_
        obtain ⟨F19, hF19⟩ : ∃ z, z = upd F16 26 x18 := ⟨_, rfl⟩
        rw [← hF19]
        have oF19 : g_ok LK_wM F19 := by rw [hF19]; exact g_ok_p oF16 (show jv 0 220 _ from ⟨by have q0 := (jv_k (x := 1) 1 (by decide)).1; have q1 := (jv_k (x := 1) 1 (by decide)).2; have q2 := (g_ok_g oF1 8 rfl).1; have q3 := (g_ok_g oF1 8 rfl).2; have q4 := pr3.1; have q5 := pr3.2; have q6 := pr7.1; have q7 := pr7.2; have q8 := zx18.2.1; have q9 := zx18.2.2; have q10 := zx6; have q11 := zi37_0; have q12 := hlen; have q13 := htp; have q14 := zx10; have q15 := (g_eq0 zx18.1); omega, by have q0 := (jv_k (x := 1) 1 (by decide)).1; have q1 := (jv_k (x := 1) 1 (by decide)).2; have q2 := (g_ok_g oF1 8 rfl).1; have q3 := (g_ok_g oF1 8 rfl).2; have q4 := pr3.1; have q5 := pr3.2; have q6 := pr7.1; have q7 := pr7.2; have q8 := zx18.2.1; have q9 := zx18.2.2; have q10 := zx6; have q11 := zi37_0; have q12 := hlen; have q13 := htp; have q14 := zx10; have q15 := (g_eq0 zx18.1); omega⟩) rfl
        have fF19 : g_fr md_X11_closesSums F F19 := by rw [hF19]; exact g_fr_u fF16 rfl
        have wTF19 : WT F19 R17 := by rw [hF19]; exact WT_u wTF16 rfl
        have wCF19 : WC F19 R17 := by rw [hF19]; exact WC_u wCF16 rfl
        refine g_goto cx 0 e_X11_closesSums_56 (by decide) ?_
        exact ih0 F19 R17 oF19 fF19 oR17 fR17 wTF19 wCF19 ((by
              obtain ⟨x, hx, e12⟩ := zx15
              have hc := PS_close (F' := F19) (R' := R17) ps ho hcb1 (by have q0 := (g_ok_g oF1 1 rfl).1; have q1 := (g_ok_g oF1 1 rfl).2; have q2 := (g_ok_g oF1 7 rfl).1; have q3 := (g_ok_g oF1 7 rfl).2; have q4 := (g_ok_g oF16 7 rfl).1; have q5 := (g_ok_g oF16 7 rfl).2; have q6 := hroom; have q7 := zx14; omega) (x := x) (by rw [hx]; have z0 : (0 : Int32).toInt = 0 := rfl; have q0 := (jv_k (x := 1) 1 (by decide)).1; have q1 := (jv_k (x := 1) 1 (by decide)).2; have q2 := (g_ok_g oF1 8 rfl).1; have q3 := (g_ok_g oF1 8 rfl).2; have q4 := pr3.1; have q5 := pr3.2; have q6 := pr7.1; have q7 := pr7.2; have q8 := zx18.2.1; have q9 := zx18.2.2; have q10 := zx6; have q11 := zi37_0; have q12 := hlen; have q13 := htp; have q14 := zx10; have q15 := (g_eq0 zx18.1); have q16 := zi37_0; omega) (by have q0 := (g_ok_g oF1 1 rfl).1; have q1 := (g_ok_g oF1 1 rfl).2; have q2 := (g_ok_g oF1 7 rfl).1; have q3 := (g_ok_g oF1 7 rfl).2; have q4 := (g_ok_g oF16 7 rfl).1; have q5 := (g_ok_g oF16 7 rfl).2; have q6 := (g_ok_g oF19 7 rfl).1; have q7 := (g_ok_g oF19 7 rfl).2; have q8 := hroom; have q9 := zx14; have q10 := (congrArg Int32.toInt (show F19 25 = F16 25 from (g_pu2 hF19 rfl))); omega) (by have q0 := (jv_k (x := 1) 1 (by decide)).1; have q1 := (jv_k (x := 1) 1 (by decide)).2; have q2 := (g_ok_g oF1 8 rfl).1; have q3 := (g_ok_g oF1 8 rfl).2; have q4 := (g_ok_g oF19 8 rfl).1; have q5 := (g_ok_g oF19 8 rfl).2; have q6 := pr3.1; have q7 := pr3.2; have q8 := pr7.1; have q9 := pr7.2; have q10 := zx18.2.1; have q11 := zx18.2.2; have q12 := zx6; have q13 := zi37_0; have q14 := hlen; have q15 := htp; have q16 := zx10; have q17 := (g_eq0 zx18.1); have q18 := (congrArg Int32.toInt (show F19 26 = x18 from (g_pu1 hF19))); omega) ((((g_pu2 hF19 rfl).trans (cF16 15 rfl)).trans (fF1 15 rfl)).trans (fF1 15 rfl).symm) e12 ((cR17 13 rfl))
              refine ⟨M ++ [(o, r)], L2, by rw [eL]; simp, fun q hq => ?_, by have e : h - ((M ++ [(o, r)]).length : Int) = h - (M.length : Int) - 1 := (by rw [List.length_append, List.length_singleton]; omega); rw [e]; exact hc.1, by have e : h - ((M ++ [(o, r)]).length : Int) = h - (M.length : Int) - 1 := (by rw [List.length_append, List.length_singleton]; omega); rw [e]; exact hc.2, fun k hk1 => ?_, by have q0 := (g_ok_g hI 7 rfl).1; have q1 := (g_ok_g hI 7 rfl).2; have q2 := (g_ok_g oF1 1 rfl).1; have q3 := (g_ok_g oF1 1 rfl).2; have q4 := (g_ok_g oF1 7 rfl).1; have q5 := (g_ok_g oF1 7 rfl).2; have q6 := (g_ok_g oF16 7 rfl).1; have q7 := (g_ok_g oF16 7 rfl).2; have q8 := (g_ok_g oF19 7 rfl).1; have q9 := (g_ok_g oF19 7 rfl).2; have q10 := hroom; have q11 := zx14; have q12 := (congrArg Int32.toInt (show F19 25 = F16 25 from (g_pu2 hF19 rfl))); have q13 := (congrArg Int32.toInt (show F19 25 = F16 25 from (g_pu2 hF19 rfl))); have q14 := h25; omega⟩
              · rcases List.mem_append.mp hq with q1 | q1
                · exact hM q q1
                · rw [List.mem_singleton.mp q1]; exact ho
              · rw [e12, g_un (by rw [bne_iff_ne]; intro q; omega)]; exact hk k hk1)) (Nat.lt_of_lt_of_le (show (F19 26).toInt.toNat < (F1 26).toInt.toNat from by have q0 := (jv_k (x := 1) 1 (by decide)).1; have q1 := (jv_k (x := 1) 1 (by decide)).2; have q2 := (g_ok_g oF1 8 rfl).1; have q3 := (g_ok_g oF1 8 rfl).2; have q4 := (g_ok_g oF19 8 rfl).1; have q5 := (g_ok_g oF19 8 rfl).2; have q6 := pr3.1; have q7 := pr3.2; have q8 := pr7.1; have q9 := pr7.2; have q10 := zx18.2.1; have q11 := zx18.2.2; have q12 := zx6; have q13 := zi37_0; have q14 := hlen; have q15 := htp; have q16 := zx10; have q17 := (g_eq0 zx18.1); have q18 := (congrArg Int32.toInt (show F19 26 = x18 from (g_pu1 hF19))); have q19 := (congrArg Int32.toInt (show F19 26 = x18 from (g_pu1 hF19))); have q20 := (congrArg Int32.toInt (show F19 26 = x18 from (g_pu1 hF19))); omega) (Nat.le_of_lt_succ hm0))
      refine g_icmp_lt cx 17 e_X11_closesSums_5 (by decide) (fun zc20 => ?_) (fun zc20 => ?_)
      · have p21 := gn_lt (-1) 3 (gc_lt zc20) pr3 (jv_k (x := 4) 4 (by decide)) (by decide)
        refine g_iload_n cx 1 rfl e_X11_closesSums_17 ?_
        refine g_if_eq cx 59 e_X11_closesSums_18 (by decide) (fun zc22 => ?_) (fun zc22 => ?_)
        · have p23 := gn_eq 0 0 (gc_eq zc22) pa0 (jv_k (x := 0) 0 (by decide)) (by decide)
          exact hret e_X11_closesSums_59 (Nat.le_of_ble_eq_true rfl) (Nat.le_of_ble_eq_true rfl) ⟨F1, R2, rfl, oF1, oR2, wTF1R2, wCF1R2, fF1, fR2, ⟨M, L1, eL, hM, ps, (by first | exact fun h0 => absurd (by assumption) h0 | exact fun _ => (by have q0 := (jv_k (x := 4) 4 (by decide)).1; have q1 := (jv_k (x := 4) 4 (by decide)).2; have q2 := (g_ok_g oF1 8 rfl).1; have q3 := (g_ok_g oF1 8 rfl).2; have q4 := p21.1; have q5 := p21.2; have q6 := zx6; have q7 := (gc_lt zc20); omega)), hk, h25⟩⟩
        · have p24 := gn_neL 1 1 (gc_ne zc22) pa0 (jv_k (x := 0) 0 (by decide)) (by decide)
          refine g_aload_n cx 0 rfl e_X11_closesSums_21 ?_
          refine g_cViW cx [] [] (w_X11_waitTop l X ad F1 R2 oF1 oR2 (L1) ps.2.1 ps.2.2.1) ml_X11_241 yV_X11_waitTop e_X11_closesSums_22 (by unfold g_rr; decide) (by decide) 0 rfl rfl rfl (Nat.le_of_ble_eq_true rfl) (fun r25 w26 h27 => ?_)
          obtain ⟨rfl, pr25, zx28⟩ := h27
          refine g_iconst cx 2 (by decide) e_X11_closesSums_25 ?_
          refine g_icmp_eq cx 37 e_X11_closesSums_26 (by decide) (fun zc29 => ?_) (fun zc29 => ?_)
          · have p30 := gn_eq 2 2 (gc_eq zc29) pr25 (jv_k (x := 2) 2 (by decide)) (by decide)
            exact J37  (by have q0 := (jv_k (x := 2) 2 (by decide)).1; have q1 := (jv_k (x := 2) 2 (by decide)).2; have q2 := (jv_k (x := 4) 4 (by decide)).1; have q3 := (jv_k (x := 4) 4 (by decide)).2; have q4 := (g_ok_g oF1 8 rfl).1; have q5 := (g_ok_g oF1 8 rfl).2; have q6 := p30.1; have q7 := p30.2; have q8 := p21.1; have q9 := p21.2; have q10 := zx6; have q11 := (gc_lt zc20); have q12 := zx28; have q13 := (gc_eq zc29); omega)
          · refine g_aload_n cx 0 rfl e_X11_closesSums_29 ?_
            refine g_cViW cx [] [] (w_X11_waitTop l X ad F1 R2 oF1 oR2 (L1) ps.2.1 ps.2.2.1) ml_X11_241 yV_X11_waitTop e_X11_closesSums_30 (by unfold g_rr; decide) (by decide) 0 rfl rfl rfl (Nat.le_of_ble_eq_true rfl) (fun r31 w32 h33 => ?_)
            obtain ⟨rfl, pr31, zx34⟩ := h33
            refine g_iconst cx 3 (by decide) e_X11_closesSums_33 ?_
            refine g_icmp_ne cx 59 e_X11_closesSums_34 (by decide) (fun zc35 => ?_) (fun zc35 => ?_)
            · exact hret e_X11_closesSums_59 (Nat.le_of_ble_eq_true rfl) (Nat.le_of_ble_eq_true rfl) ⟨F1, R2, rfl, oF1, oR2, wTF1R2, wCF1R2, fF1, fR2, ⟨M, L1, eL, hM, ps, (by first | exact fun h0 => absurd (by assumption) h0 | exact fun _ => (by have q0 := (jv_k (x := 2) 2 (by decide)).1; have q1 := (jv_k (x := 2) 2 (by decide)).2; have q2 := (jv_k (x := 3) 3 (by decide)).1; have q3 := (jv_k (x := 3) 3 (by decide)).2; have q4 := (jv_k (x := 4) 4 (by decide)).1; have q5 := (jv_k (x := 4) 4 (by decide)).2; have q6 := (g_ok_g oF1 8 rfl).1; have q7 := (g_ok_g oF1 8 rfl).2; have q8 := pr25.1; have q9 := pr25.2; have q10 := p21.1; have q11 := p21.2; have q12 := pr31.1; have q13 := pr31.2; have q14 := zx6; have q15 := (gc_lt zc20); have q16 := zx28; have q17 := (gc_ne zc29); have q18 := zx34; have q19 := (gc_ne zc35); omega)), hk, h25⟩⟩
            · have p36 := gn_eq 3 3 (gc_eq zc35) pr31 (jv_k (x := 3) 3 (by decide)) (by decide)
              exact J37  (by have q0 := (jv_k (x := 2) 2 (by decide)).1; have q1 := (jv_k (x := 2) 2 (by decide)).2; have q2 := (jv_k (x := 3) 3 (by decide)).1; have q3 := (jv_k (x := 3) 3 (by decide)).2; have q4 := (jv_k (x := 4) 4 (by decide)).1; have q5 := (jv_k (x := 4) 4 (by decide)).2; have q6 := (g_ok_g oF1 8 rfl).1; have q7 := (g_ok_g oF1 8 rfl).2; have q8 := pr25.1; have q9 := pr25.2; have q10 := p21.1; have q11 := p21.2; have q12 := p36.1; have q13 := p36.2; have q14 := zx6; have q15 := (gc_lt zc20); have q16 := zx28; have q17 := (gc_ne zc29); have q18 := zx34; have q19 := (gc_eq zc35); omega)
      · have p37 := gn_ge 4 14 (gc_nlt zc20) pr3 (jv_k (x := 4) 4 (by decide)) (by decide)
        refine g_aload_n cx 0 rfl e_X11_closesSums_8 ?_
        refine g_cViW cx [] [] (w_X11_waitTop l X ad F1 R2 oF1 oR2 (L1) ps.2.1 ps.2.2.1) ml_X11_241 yV_X11_waitTop e_X11_closesSums_9 (by unfold g_rr; decide) (by decide) 0 rfl rfl rfl (Nat.le_of_ble_eq_true rfl) (fun r38 w39 h40 => ?_)
        obtain ⟨rfl, pr38, zx41⟩ := h40
        refine g_bipush cx 6 (by decide) e_X11_closesSums_12 ?_
        refine g_icmp_le cx 37 e_X11_closesSums_14 (by decide) (fun zc42 => ?_) (fun zc42 => ?_)
        · have p43 := gn_le (-1) 6 (gc_le zc42) pr38 (jv_k (x := 6) 6 (by decide)) (by decide)
          exact J37  (by have q0 := (jv_k (x := 4) 4 (by decide)).1; have q1 := (jv_k (x := 4) 4 (by decide)).2; have q2 := (jv_k (x := 6) 6 (by decide)).1; have q3 := (jv_k (x := 6) 6 (by decide)).2; have q4 := (g_ok_g oF1 8 rfl).1; have q5 := (g_ok_g oF1 8 rfl).2; have q6 := p37.1; have q7 := p37.2; have q8 := p43.1; have q9 := p43.2; have q10 := zx6; have q11 := (gc_nlt zc20); have q12 := zx41; have q13 := (gc_le zc42); omega)
        · have p44 := gn_gt 7 14 (gc_nle zc42) pr38 (jv_k (x := 6) 6 (by decide)) (by decide)
          refine g_iload_n cx 1 rfl e_X11_closesSums_17 ?_
          refine g_if_eq cx 59 e_X11_closesSums_18 (by decide) (fun zc45 => ?_) (fun zc45 => ?_)
          · have p46 := gn_eq 0 0 (gc_eq zc45) pa0 (jv_k (x := 0) 0 (by decide)) (by decide)
            exact hret e_X11_closesSums_59 (Nat.le_of_ble_eq_true rfl) (Nat.le_of_ble_eq_true rfl) ⟨F1, R2, rfl, oF1, oR2, wTF1R2, wCF1R2, fF1, fR2, ⟨M, L1, eL, hM, ps, (by first | exact fun h0 => absurd (by assumption) h0 | exact fun _ => (by have q0 := (jv_k (x := 4) 4 (by decide)).1; have q1 := (jv_k (x := 4) 4 (by decide)).2; have q2 := (jv_k (x := 6) 6 (by decide)).1; have q3 := (jv_k (x := 6) 6 (by decide)).2; have q4 := (g_ok_g oF1 8 rfl).1; have q5 := (g_ok_g oF1 8 rfl).2; have q6 := p37.1; have q7 := p37.2; have q8 := p44.1; have q9 := p44.2; have q10 := zx6; have q11 := (gc_nlt zc20); have q12 := zx41; have q13 := (gc_nle zc42); omega)), hk, h25⟩⟩
          · have p47 := gn_neL 1 1 (gc_ne zc45) pa0 (jv_k (x := 0) 0 (by decide)) (by decide)
            refine g_aload_n cx 0 rfl e_X11_closesSums_21 ?_
            refine g_cViW cx [] [] (w_X11_waitTop l X ad F1 R2 oF1 oR2 (L1) ps.2.1 ps.2.2.1) ml_X11_241 yV_X11_waitTop e_X11_closesSums_22 (by unfold g_rr; decide) (by decide) 0 rfl rfl rfl (Nat.le_of_ble_eq_true rfl) (fun r48 w49 h50 => ?_)
            obtain ⟨rfl, pr48, zx51⟩ := h50
            refine g_iconst cx 2 (by decide) e_X11_closesSums_25 ?_
            refine g_icmp_eq cx 37 e_X11_closesSums_26 (by decide) (fun zc52 => ?_) (fun zc52 => ?_)
            · have p53 := gn_eq 2 2 (gc_eq zc52) pr48 (jv_k (x := 2) 2 (by decide)) (by decide)
              exact J37  (by have q0 := (jv_k (x := 2) 2 (by decide)).1; have q1 := (jv_k (x := 2) 2 (by decide)).2; have q2 := (jv_k (x := 4) 4 (by decide)).1; have q3 := (jv_k (x := 4) 4 (by decide)).2; have q4 := (jv_k (x := 6) 6 (by decide)).1; have q5 := (jv_k (x := 6) 6 (by decide)).2; have q6 := (g_ok_g oF1 8 rfl).1; have q7 := (g_ok_g oF1 8 rfl).2; have q8 := p37.1; have q9 := p37.2; have q10 := p44.1; have q11 := p44.2; have q12 := p53.1; have q13 := p53.2; have q14 := zx6; have q15 := (gc_nlt zc20); have q16 := zx41; have q17 := (gc_nle zc42); have q18 := zx51; have q19 := (gc_eq zc52); omega)
            · refine g_aload_n cx 0 rfl e_X11_closesSums_29 ?_
              refine g_cViW cx [] [] (w_X11_waitTop l X ad F1 R2 oF1 oR2 (L1) ps.2.1 ps.2.2.1) ml_X11_241 yV_X11_waitTop e_X11_closesSums_30 (by unfold g_rr; decide) (by decide) 0 rfl rfl rfl (Nat.le_of_ble_eq_true rfl) (fun r54 w55 h56 => ?_)
              obtain ⟨rfl, pr54, zx57⟩ := h56
              refine g_iconst cx 3 (by decide) e_X11_closesSums_33 ?_
              refine g_icmp_ne cx 59 e_X11_closesSums_34 (by decide) (fun zc58 => ?_) (fun zc58 => ?_)
              · exact hret e_X11_closesSums_59 (Nat.le_of_ble_eq_true rfl) (Nat.le_of_ble_eq_true rfl) ⟨F1, R2, rfl, oF1, oR2, wTF1R2, wCF1R2, fF1, fR2, ⟨M, L1, eL, hM, ps, (by first | exact fun h0 => absurd (by assumption) h0 | exact fun _ => (by have q0 := (jv_k (x := 2) 2 (by decide)).1; have q1 := (jv_k (x := 2) 2 (by decide)).2; have q2 := (jv_k (x := 3) 3 (by decide)).1; have q3 := (jv_k (x := 3) 3 (by decide)).2; have q4 := (jv_k (x := 4) 4 (by decide)).1; have q5 := (jv_k (x := 4) 4 (by decide)).2; have q6 := (jv_k (x := 6) 6 (by decide)).1; have q7 := (jv_k (x := 6) 6 (by decide)).2; have q8 := (g_ok_g oF1 8 rfl).1; have q9 := (g_ok_g oF1 8 rfl).2; have q10 := p37.1; have q11 := p37.2; have q12 := p44.1; have q13 := p44.2; have q14 := pr48.1; have q15 := pr48.2; have q16 := pr54.1; have q17 := pr54.2; have q18 := zx6; have q19 := (gc_nlt zc20); have q20 := zx41; have q21 := (gc_nle zc42); have q22 := zx51; have q23 := (gc_ne zc52); have q24 := zx57; have q25 := (gc_ne zc58); omega)), hk, h25⟩⟩
              · have p59 := gn_eq 3 3 (gc_eq zc58) pr54 (jv_k (x := 3) 3 (by decide)) (by decide)
                exact J37  (by have q0 := (jv_k (x := 2) 2 (by decide)).1; have q1 := (jv_k (x := 2) 2 (by decide)).2; have q2 := (jv_k (x := 3) 3 (by decide)).1; have q3 := (jv_k (x := 3) 3 (by decide)).2; have q4 := (jv_k (x := 4) 4 (by decide)).1; have q5 := (jv_k (x := 4) 4 (by decide)).2; have q6 := (jv_k (x := 6) 6 (by decide)).1; have q7 := (jv_k (x := 6) 6 (by decide)).2; have q8 := (g_ok_g oF1 8 rfl).1; have q9 := (g_ok_g oF1 8 rfl).2; have q10 := p37.1; have q11 := p37.2; have q12 := p44.1; have q13 := p44.2; have q14 := pr48.1; have q15 := pr48.2; have q16 := p59.1; have q17 := p59.2; have q18 := zx6; have q19 := (gc_nlt zc20); have q20 := zx41; have q21 := (gc_nle zc42); have q22 := zx51; have q23 := (gc_ne zc52); have q24 := zx57; have q25 := (gc_eq zc58); omega)
  exact J0 _ F R hI (g_fr_rf F) hA (g_fr_rf R) hWT hWC (⟨[], L, rfl, fun q hq => absurd hq List.not_mem_nil, by simpa using hps, by simpa using hcb, fun k _ => rfl, Int.le_refl _⟩) (Nat.lt_succ_self _)
theorem e_X11_opens_0 : g_dc cX11_opens 0 (.aload_n 0) 1 1 := ⟨by decide +kernel, rfl⟩
theorem e_X11_opens_1 : g_dc cX11_opens 1 (.getfield 235) 3 4 := ⟨by decide +kernel, rfl⟩
theorem e_X11_opens_4 : g_dc cX11_opens 4 (.bipush 6) 2 6 := ⟨by decide +kernel, rfl⟩
theorem e_X11_opens_6 : g_dc cX11_opens 6 (.if_icmp .ne 13) 3 9 := ⟨by decide +kernel, rfl⟩
theorem e_X11_opens_9 : g_dc cX11_opens 9 (.aload_n 0) 1 10 := ⟨by decide +kernel, rfl⟩
theorem e_X11_opens_10 : g_dc cX11_opens 10 (.iconst 5) 1 11 := ⟨by decide +kernel, rfl⟩
theorem e_X11_opens_11 : g_dc cX11_opens 11 (.aload_n 0) 1 12 := ⟨by decide +kernel, rfl⟩
theorem e_X11_opens_12 : g_dc cX11_opens 12 (.getfield 190) 3 15 := ⟨by decide +kernel, rfl⟩
theorem e_X11_opens_15 : g_dc cX11_opens 15 (.invokevirtual 204) 3 18 := ⟨by decide +kernel, rfl⟩
theorem e_X11_opens_18 : g_dc cX11_opens 18 (.ireturn) 1 19 := ⟨by decide +kernel, rfl⟩
theorem e_X11_opens_19 : g_dc cX11_opens 19 (.aload_n 0) 1 20 := ⟨by decide +kernel, rfl⟩
theorem e_X11_opens_20 : g_dc cX11_opens 20 (.aload_n 0) 1 21 := ⟨by decide +kernel, rfl⟩
theorem e_X11_opens_21 : g_dc cX11_opens 21 (.getfield 235) 3 24 := ⟨by decide +kernel, rfl⟩
theorem e_X11_opens_24 : g_dc cX11_opens 24 (.iconst 1) 1 25 := ⟨by decide +kernel, rfl⟩
theorem e_X11_opens_25 : g_dc cX11_opens 25 (.iadd) 1 26 := ⟨by decide +kernel, rfl⟩
theorem e_X11_opens_26 : g_dc cX11_opens 26 (.putfield 235) 3 29 := ⟨by decide +kernel, rfl⟩
theorem e_X11_opens_29 : g_dc cX11_opens 29 (.aload_n 0) 1 30 := ⟨by decide +kernel, rfl⟩
theorem e_X11_opens_30 : g_dc cX11_opens 30 (.getfield 47) 3 33 := ⟨by decide +kernel, rfl⟩
theorem e_X11_opens_33 : g_dc cX11_opens 33 (.aload_n 0) 1 34 := ⟨by decide +kernel, rfl⟩
theorem e_X11_opens_34 : g_dc cX11_opens 34 (.getfield 238) 3 37 := ⟨by decide +kernel, rfl⟩
theorem e_X11_opens_37 : g_dc cX11_opens 37 (.ldc 234) 2 39 := ⟨by decide +kernel, rfl⟩
theorem e_X11_opens_39 : g_dc cX11_opens 39 (.iload_n 1) 1 40 := ⟨by decide +kernel, rfl⟩
theorem e_X11_opens_40 : g_dc cX11_opens 40 (.imul) 1 41 := ⟨by decide +kernel, rfl⟩
theorem e_X11_opens_41 : g_dc cX11_opens 41 (.iastore) 1 42 := ⟨by decide +kernel, rfl⟩
theorem e_X11_opens_42 : g_dc cX11_opens 42 (.aload_n 0) 1 43 := ⟨by decide +kernel, rfl⟩
theorem e_X11_opens_43 : g_dc cX11_opens 43 (.aload_n 0) 1 44 := ⟨by decide +kernel, rfl⟩
theorem e_X11_opens_44 : g_dc cX11_opens 44 (.getfield 238) 3 47 := ⟨by decide +kernel, rfl⟩
theorem e_X11_opens_47 : g_dc cX11_opens 47 (.iconst 1) 1 48 := ⟨by decide +kernel, rfl⟩
theorem e_X11_opens_48 : g_dc cX11_opens 48 (.iadd) 1 49 := ⟨by decide +kernel, rfl⟩
theorem e_X11_opens_49 : g_dc cX11_opens 49 (.putfield 238) 3 52 := ⟨by decide +kernel, rfl⟩
theorem e_X11_opens_52 : g_dc cX11_opens 52 (.aload_n 0) 1 53 := ⟨by decide +kernel, rfl⟩
theorem e_X11_opens_53 : g_dc cX11_opens 53 (.aload_n 0) 1 54 := ⟨by decide +kernel, rfl⟩
theorem e_X11_opens_54 : g_dc cX11_opens 54 (.getfield 190) 3 57 := ⟨by decide +kernel, rfl⟩
theorem e_X11_opens_57 : g_dc cX11_opens 57 (.iconst 1) 1 58 := ⟨by decide +kernel, rfl⟩
theorem e_X11_opens_58 : g_dc cX11_opens 58 (.iadd) 1 59 := ⟨by decide +kernel, rfl⟩
theorem e_X11_opens_59 : g_dc cX11_opens 59 (.putfield 190) 3 62 := ⟨by decide +kernel, rfl⟩
theorem e_X11_opens_62 : g_dc cX11_opens 62 (.iconst 1) 1 63 := ⟨by decide +kernel, rfl⟩
theorem e_X11_opens_63 : g_dc cX11_opens 63 (.ireturn) 1 64 := ⟨by decide +kernel, rfl⟩
def md_X11_opens : List Nat := [15, 17, 24, 26]
def mr_X11_opens : List Nat := [13]
set_option maxHeartbeats 4000000 in
set_option maxRecDepth 100000 in
theorem w_X11_opens (l : Launch) (X : gX) (ad : Nat → Nat) (F : Nat → Int32) (R : Nat → Nat → Int32) (hI : g_ok LK_wM F) (hA : g_okR LA_wM R) (hWT : WT F R) (hWC : WC F R) (a0 : Int32) (pa0 : jv 0 14 a0) (A : Nat × Nat) (L : List (Int × Nat)) (h : Int) (hps : PS F R A L h) (hlt : (F 15).toInt < (F 16).toInt) (ho : ¬ (11 ≤ a0.toInt ∧ a0.toInt ≤ 12)) : g_Ci l X yX11_opens cX11_opens 2 (some .boolean) 2 0 0 [.ref (ad 0), .int a0] (wM X ad F R) (fun r w => ∃ (F' : Nat → Int32) (R' : Nat → Nat → Int32), w = wM X ad F' R' ∧ g_ok LK_wM F' ∧ g_okR LA_wM R' ∧ WT F' R' ∧ WC F' R' ∧ g_fr md_X11_opens F F' ∧ g_fr mr_X11_opens R R' ∧ jv 0 1 r ∧ (¬ r = 0 → PS F' R' A ((a0.toInt, 0) :: L) h ∧ (F' 15).toInt = (F 15).toInt + 1)) := by
  refine g_mi (by decide +kernel) (Nat.le_of_ble_eq_true rfl) (fun E cx hret => ?_)
  refine g_aload_n cx 0 rfl e_X11_opens_0 ?_
  refine g_get cx cl_X11 fl_X11_235 0 (.int (F 24)) e_X11_opens_1 rfl rfl ?_
  refine g_bipush cx 6 (by decide) e_X11_opens_4 ?_
  refine g_icmp_ne cx 19 e_X11_opens_6 (by decide) (fun zc1 => ?_) (fun zc1 => ?_)
  · refine g_aload_n cx 0 rfl e_X11_opens_19 ?_
    refine g_aload_n cx 0 rfl e_X11_opens_20 ?_
    refine g_get cx cl_X11 fl_X11_235 0 (.int (F 24)) e_X11_opens_21 rfl rfl ?_
    refine g_iconst cx 1 (by decide) e_X11_opens_24 ?_
    refine g_iadd cx e_X11_opens_25 ?_
    refine g_topi (fun x2 ex2 => ?_)
    refine g_put cx cl_X11 fl_X11_235 0 (wM X ad (upd F 24 x2) R) e_X11_opens_26 rfl rfl rfl rfl (Nat.le_of_ble_eq_true rfl) rfl ?_
    obtain ⟨F3, hF3⟩ : ∃ z, z = upd F 24 x2 := ⟨_, rfl⟩
    rw [← hF3]
    have oF3 : g_ok LK_wM F3 := by rw [hF3]; exact g_ok_p hI (jv_t x2) rfl
    have fF3 : g_fr md_X11_opens F F3 := by rw [hF3]; exact g_fr_u (g_fr_rf F) rfl
    have wTF3 : WT F3 R := by rw [hF3]; exact WT_u hWT rfl
    have wCF3 : WC F3 R := by rw [hF3]; exact WC_u hWC rfl
    refine g_aload_n cx 0 rfl e_X11_opens_29 ?_
    refine g_get cx cl_X11 fl_X11_47 0 (.ref (ad 13)) e_X11_opens_30 rfl rfl ?_
    refine g_aload_n cx 0 rfl e_X11_opens_33 ?_
    refine g_get cx cl_X11 fl_X11_238 0 (.int (F3 26)) e_X11_opens_34 rfl rfl ?_
    refine g_toi (F 26) (g_pu2 hF3 rfl) ?_
    refine g_ldc cx 1048576 kc_X11_234 e_X11_opens_37 ?_
    refine g_iload_n cx 1 rfl e_X11_opens_39 ?_
    refine g_imul cx e_X11_opens_40 ?_
    refine g_topi (fun x4 ex4 => ?_)
    have zx4 := jv_mul 0 14680064 ex4 (jv_k (x := 1048576) 1048576 (by decide)) pa0 (by decide)
    refine g_iast cx 13 (wM X ad F3 (g_u R 13 (upd (R 13) (Int32.toNatClampNeg (F 26)) x4))) e_X11_opens_41 rfl (vp_in_iff.mpr ⟨by have q0 := (g_ok_g hI 1 rfl).1; have q1 := (g_ok_g hI 1 rfl).2; have q2 := (g_ok_g hI 2 rfl).1; have q3 := (g_ok_g hI 2 rfl).2; have q4 := (g_ok_g hI 8 rfl).1; have q5 := (g_ok_g hI 8 rfl).2; have q6 := hlt; have q7 := hps.2.2.2.2.2; have q8 := hps.2.2.1; omega, by have q0 := (g_ok_g hI 1 rfl).1; have q1 := (g_ok_g hI 1 rfl).2; have q2 := (g_ok_g hI 2 rfl).1; have q3 := (g_ok_g hI 2 rfl).2; have q4 := (g_ok_g hI 8 rfl).1; have q5 := (g_ok_g hI 8 rfl).2; have q6 := hlt; have q7 := hps.2.2.2.2.2; have q8 := hps.2.2.1; omega⟩) rfl ?_
    obtain ⟨R5, hR5⟩ : ∃ z, z = g_u R 13 (upd (R 13) (Int32.toNatClampNeg (F 26)) x4) := ⟨_, rfl⟩
    rw [← hR5]
    have oR5 : g_okR LA_wM R5 := by rw [hR5]; exact g_okR_p hA zx4.2 rfl
    have fR5 : g_fr mr_X11_opens R R5 := by rw [hR5]; exact g_fr_r (g_fr_rf R) rfl
    have wTR5 : WT F3 R5 := by rw [hR5]; exact WT_r wTF3 rfl
    have wCR5 : WC F3 R5 := by rw [hR5]; exact WC_r wCF3 rfl
    refine g_aload_n cx 0 rfl e_X11_opens_42 ?_
    refine g_aload_n cx 0 rfl e_X11_opens_43 ?_
    refine g_get cx cl_X11 fl_X11_238 0 (.int (F3 26)) e_X11_opens_44 rfl rfl ?_
    refine g_toi (F 26) (g_pu2 hF3 rfl) ?_
    refine g_iconst cx 1 (by decide) e_X11_opens_47 ?_
    refine g_iadd cx e_X11_opens_48 ?_
    refine g_topi (fun x6 ex6 => ?_)
    have zx6 := jv_add 1 221 ex6 (g_ok_g hI 8 rfl) (jv_k (x := 1) 1 (by decide)) (by decide)
    refine g_put cx cl_X11 fl_X11_238 0 (wM X ad (upd F3 26 x6) R5) e_X11_opens_49 rfl rfl rfl rfl (Nat.le_of_ble_eq_true rfl) rfl ?_
    obtain ⟨F7, hF7⟩ : ∃ z, z = upd F3 26 x6 := ⟨_, rfl⟩
    rw [← hF7]
    have oF7 : g_ok LK_wM F7 := by rw [hF7]; exact g_ok_p oF3 (show jv 0 220 _ from ⟨by have q0 := (jv_k (x := 1) 1 (by decide)).1; have q1 := (jv_k (x := 1) 1 (by decide)).2; have q2 := (g_ok_g hI 1 rfl).1; have q3 := (g_ok_g hI 1 rfl).2; have q4 := (g_ok_g hI 2 rfl).1; have q5 := (g_ok_g hI 2 rfl).2; have q6 := (g_ok_g hI 8 rfl).1; have q7 := (g_ok_g hI 8 rfl).2; have q8 := zx6.2.1; have q9 := zx6.2.2; have q10 := hlt; have q11 := hps.2.2.2.2.2; have q12 := hps.2.2.1; have q13 := (g_eq0 zx6.1); omega, by have q0 := (jv_k (x := 1) 1 (by decide)).1; have q1 := (jv_k (x := 1) 1 (by decide)).2; have q2 := (g_ok_g hI 1 rfl).1; have q3 := (g_ok_g hI 1 rfl).2; have q4 := (g_ok_g hI 2 rfl).1; have q5 := (g_ok_g hI 2 rfl).2; have q6 := (g_ok_g hI 8 rfl).1; have q7 := (g_ok_g hI 8 rfl).2; have q8 := zx6.2.1; have q9 := zx6.2.2; have q10 := hlt; have q11 := hps.2.2.2.2.2; have q12 := hps.2.2.1; have q13 := (g_eq0 zx6.1); omega⟩) rfl
    have fF7 : g_fr md_X11_opens F F7 := by rw [hF7]; exact g_fr_u fF3 rfl
    have wTF7 : WT F7 R5 := by rw [hF7]; exact WT_u wTR5 rfl
    have wCF7 : WC F7 R5 := by rw [hF7]; exact WC_u wCR5 rfl
    refine g_aload_n cx 0 rfl e_X11_opens_52 ?_
    refine g_aload_n cx 0 rfl e_X11_opens_53 ?_
    refine g_get cx cl_X11 fl_X11_190 0 (.int (F7 15)) e_X11_opens_54 rfl rfl ?_
    refine g_toi (F 15) ((g_pu2 hF7 rfl).trans (g_pu2 hF3 rfl)) ?_
    refine g_iconst cx 1 (by decide) e_X11_opens_57 ?_
    refine g_iadd cx e_X11_opens_58 ?_
    refine g_topi (fun x8 ex8 => ?_)
    have zx8 := jv_add 1 221 ex8 (g_ok_g hI 1 rfl) (jv_k (x := 1) 1 (by decide)) (by decide)
    refine g_put cx cl_X11 fl_X11_190 0 (wM X ad (upd F7 15 x8) R5) e_X11_opens_59 rfl rfl rfl rfl (Nat.le_of_ble_eq_true rfl) rfl ?_
    obtain ⟨F9, hF9⟩ : ∃ z, z = upd F7 15 x8 := ⟨_, rfl⟩
    rw [← hF9]
    have oF9 : g_ok LK_wM F9 := by rw [hF9]; exact g_ok_p oF7 (show jv 0 220 _ from ⟨by have q0 := (jv_k (x := 1) 1 (by decide)).1; have q1 := (jv_k (x := 1) 1 (by decide)).2; have q2 := (g_ok_g hI 1 rfl).1; have q3 := (g_ok_g hI 1 rfl).2; have q4 := (g_ok_g hI 2 rfl).1; have q5 := (g_ok_g hI 2 rfl).2; have q6 := (g_ok_g hI 8 rfl).1; have q7 := (g_ok_g hI 8 rfl).2; have q8 := zx6.2.1; have q9 := zx6.2.2; have q10 := zx8.2.1; have q11 := zx8.2.2; have q12 := hlt; have q13 := hps.2.2.2.2.2; have q14 := hps.2.2.1; have q15 := (g_eq0 zx6.1); have q16 := (g_eq0 zx8.1); omega, by have q0 := (jv_k (x := 1) 1 (by decide)).1; have q1 := (jv_k (x := 1) 1 (by decide)).2; have q2 := (g_ok_g hI 1 rfl).1; have q3 := (g_ok_g hI 1 rfl).2; have q4 := (g_ok_g hI 2 rfl).1; have q5 := (g_ok_g hI 2 rfl).2; have q6 := (g_ok_g hI 8 rfl).1; have q7 := (g_ok_g hI 8 rfl).2; have q8 := zx6.2.1; have q9 := zx6.2.2; have q10 := zx8.2.1; have q11 := zx8.2.2; have q12 := hlt; have q13 := hps.2.2.2.2.2; have q14 := hps.2.2.1; have q15 := (g_eq0 zx6.1); have q16 := (g_eq0 zx8.1); omega⟩) rfl
    have fF9 : g_fr md_X11_opens F F9 := by rw [hF9]; exact g_fr_u fF7 rfl
    have wTF9 : WT F9 R5 := by rw [hF9]; exact WT_u wTF7 rfl
    have wCF9 : WC F9 R5 := by rw [hF9]; exact WC_u wCF7 rfl
    refine g_iconst cx 1 (by decide) e_X11_opens_62 ?_
    exact hret e_X11_opens_63 (Nat.le_of_ble_eq_true rfl) (Nat.le_of_ble_eq_true rfl) rfl ⟨F9, R5, rfl, oF9, oR5, wTF9, wCF9, fF9, fR5, (jv_w (jv_k (x := 1) 1 (by decide)) (by decide)), (fun _ => ⟨PS_push (v := x4) hps ⟨by have q := pa0.1; omega, by have q := pa0.2; omega, ho⟩ (by have q0 := pa0.1; have q1 := pa0.2; have q2 := zx4.2.1; have q3 := zx4.2.2; have q4 := (g_em2 zx4.1 (by decide : Int32.toInt 1048576 = 1048576)); omega) (((g_pu2 hF9 rfl).trans (g_pu2 hF7 rfl)).trans (g_pu2 hF3 rfl)) (by have q0 := (jv_k (x := 1) 1 (by decide)).1; have q1 := (jv_k (x := 1) 1 (by decide)).2; have q2 := (g_ok_g hI 1 rfl).1; have q3 := (g_ok_g hI 1 rfl).2; have q4 := (g_ok_g hI 2 rfl).1; have q5 := (g_ok_g hI 2 rfl).2; have q6 := (g_ok_g hI 8 rfl).1; have q7 := (g_ok_g hI 8 rfl).2; have q8 := (g_ok_g oF9 8 rfl).1; have q9 := (g_ok_g oF9 8 rfl).2; have q10 := zx6.2.1; have q11 := zx6.2.2; have q12 := zx8.2.1; have q13 := zx8.2.2; have q14 := hlt; have q15 := hps.2.2.2.2.2; have q16 := hps.2.2.1; have q17 := (g_eq0 zx6.1); have q18 := (g_eq0 zx8.1); have q19 := (congrArg Int32.toInt (show F9 26 = x6 from ((g_pu2 hF9 rfl).trans (g_pu1 hF7)))); omega) (by have q0 := (jv_k (x := 1) 1 (by decide)).1; have q1 := (jv_k (x := 1) 1 (by decide)).2; have q2 := (g_ok_g hI 1 rfl).1; have q3 := (g_ok_g hI 1 rfl).2; have q4 := (g_ok_g hI 2 rfl).1; have q5 := (g_ok_g hI 2 rfl).2; have q6 := (g_ok_g hI 8 rfl).1; have q7 := (g_ok_g hI 8 rfl).2; have q8 := (g_ok_g oF9 1 rfl).1; have q9 := (g_ok_g oF9 1 rfl).2; have q10 := (g_ok_g oF9 8 rfl).1; have q11 := (g_ok_g oF9 8 rfl).2; have q12 := zx6.2.1; have q13 := zx6.2.2; have q14 := zx8.2.1; have q15 := zx8.2.2; have q16 := hlt; have q17 := hps.2.2.2.2.2; have q18 := hps.2.2.1; have q19 := (g_eq0 zx6.1); have q20 := (g_eq0 zx8.1); have q21 := (congrArg Int32.toInt (show F9 26 = x6 from ((g_pu2 hF9 rfl).trans (g_pu1 hF7)))); have q22 := (congrArg Int32.toInt (show F9 15 = x8 from (g_pu1 hF9))); omega) (g_ru2 hR5 rfl) (g_ru1 hR5), by have q0 := (jv_k (x := 1) 1 (by decide)).1; have q1 := (jv_k (x := 1) 1 (by decide)).2; have q2 := (g_ok_g hI 1 rfl).1; have q3 := (g_ok_g hI 1 rfl).2; have q4 := (g_ok_g hI 2 rfl).1; have q5 := (g_ok_g hI 2 rfl).2; have q6 := (g_ok_g hI 8 rfl).1; have q7 := (g_ok_g hI 8 rfl).2; have q8 := (g_ok_g oF9 1 rfl).1; have q9 := (g_ok_g oF9 1 rfl).2; have q10 := (g_ok_g oF9 8 rfl).1; have q11 := (g_ok_g oF9 8 rfl).2; have q12 := zx6.2.1; have q13 := zx6.2.2; have q14 := zx8.2.1; have q15 := zx8.2.2; have q16 := hlt; have q17 := hps.2.2.2.2.2; have q18 := hps.2.2.1; have q19 := (g_eq0 zx6.1); have q20 := (g_eq0 zx8.1); have q21 := (congrArg Int32.toInt (show F9 26 = x6 from ((g_pu2 hF9 rfl).trans (g_pu1 hF7)))); have q22 := (congrArg Int32.toInt (show F9 15 = x8 from (g_pu1 hF9))); have q23 := (congrArg Int32.toInt (show F9 15 = x8 from (g_pu1 hF9))); omega⟩)⟩
  · have p10 := gn_eq 6 6 (gc_eq zc1) (g_ok_g hI 6 rfl) (jv_k (x := 6) 6 (by decide)) (by decide)
    refine g_aload_n cx 0 rfl e_X11_opens_9 ?_
    refine g_iconst cx 5 (by decide) e_X11_opens_10 ?_
    refine g_aload_n cx 0 rfl e_X11_opens_11 ?_
    refine g_get cx cl_X11 fl_X11_190 0 (.int (F 15)) e_X11_opens_12 rfl rfl ?_
    refine g_cViW cx [.int 5, .int (F 15)] [] (w_X11_wrongAt l X ad F R hI hA hWT hWC 5 (F 15)) ml_X11_204 yV_X11_wrongAt e_X11_opens_15 (by unfold g_rr; decide) (by decide) 0 rfl rfl rfl (Nat.le_of_ble_eq_true rfl) (fun r11 w12 h13 => ?_)
    obtain ⟨F14, R15, rfl, oF14, oR15, wTF14, wCF14, cF14, cR15, pr11⟩ := h13
    have fF14 : g_fr md_X11_opens F F14 := g_fr_c (g_fr_rf F) cF14 rfl
    have fR15 : g_fr mr_X11_opens R R15 := g_fr_c (g_fr_rf R) cR15 rfl
    exact hret e_X11_opens_18 (Nat.le_of_ble_eq_true rfl) (Nat.le_of_ble_eq_true rfl) (g_narb (jv_w pr11 (by decide))) ⟨F14, R15, rfl, oF14, oR15, wTF14, wCF14, fF14, fR15, (jv_w pr11 (by decide)), (fun h0 => absurd (by first | rfl | exact jv_c 0 pr11 (by decide)) h0)⟩
theorem e_X11_hasOpenSum_0 : g_dc cX11_hasOpenSum 0 (.iload_n 1) 1 1 := ⟨by decide +kernel, rfl⟩
theorem e_X11_hasOpenSum_1 : g_dc cX11_hasOpenSum 1 (.istore_n 2) 1 2 := ⟨by decide +kernel, rfl⟩
theorem e_X11_hasOpenSum_2 : g_dc cX11_hasOpenSum 2 (.iload_n 2) 1 3 := ⟨by decide +kernel, rfl⟩
theorem e_X11_hasOpenSum_3 : g_dc cX11_hasOpenSum 3 (.aload_n 0) 1 4 := ⟨by decide +kernel, rfl⟩
theorem e_X11_hasOpenSum_4 : g_dc cX11_hasOpenSum 4 (.getfield 238) 3 7 := ⟨by decide +kernel, rfl⟩
theorem e_X11_hasOpenSum_7 : g_dc cX11_hasOpenSum 7 (.if_icmp .ge 25) 3 10 := ⟨by decide +kernel, rfl⟩
theorem e_X11_hasOpenSum_10 : g_dc cX11_hasOpenSum 10 (.aload_n 0) 1 11 := ⟨by decide +kernel, rfl⟩
theorem e_X11_hasOpenSum_11 : g_dc cX11_hasOpenSum 11 (.getfield 47) 3 14 := ⟨by decide +kernel, rfl⟩
theorem e_X11_hasOpenSum_14 : g_dc cX11_hasOpenSum 14 (.iload_n 2) 1 15 := ⟨by decide +kernel, rfl⟩
theorem e_X11_hasOpenSum_15 : g_dc cX11_hasOpenSum 15 (.iaload) 1 16 := ⟨by decide +kernel, rfl⟩
theorem e_X11_hasOpenSum_16 : g_dc cX11_hasOpenSum 16 (.ldc 234) 2 18 := ⟨by decide +kernel, rfl⟩
theorem e_X11_hasOpenSum_18 : g_dc cX11_hasOpenSum 18 (.idiv) 1 19 := ⟨by decide +kernel, rfl⟩
theorem e_X11_hasOpenSum_19 : g_dc cX11_hasOpenSum 19 (.bipush 14) 2 21 := ⟨by decide +kernel, rfl⟩
theorem e_X11_hasOpenSum_21 : g_dc cX11_hasOpenSum 21 (.if_icmp .ne 5) 3 24 := ⟨by decide +kernel, rfl⟩
theorem e_X11_hasOpenSum_24 : g_dc cX11_hasOpenSum 24 (.iconst 1) 1 25 := ⟨by decide +kernel, rfl⟩
theorem e_X11_hasOpenSum_25 : g_dc cX11_hasOpenSum 25 (.ireturn) 1 26 := ⟨by decide +kernel, rfl⟩
theorem e_X11_hasOpenSum_26 : g_dc cX11_hasOpenSum 26 (.iinc 2 1) 3 29 := ⟨by decide +kernel, rfl⟩
theorem e_X11_hasOpenSum_29 : g_dc cX11_hasOpenSum 29 (.goto (-27)) 3 32 := ⟨by decide +kernel, rfl⟩
theorem e_X11_hasOpenSum_32 : g_dc cX11_hasOpenSum 32 (.iconst 0) 1 33 := ⟨by decide +kernel, rfl⟩
theorem e_X11_hasOpenSum_33 : g_dc cX11_hasOpenSum 33 (.ireturn) 1 34 := ⟨by decide +kernel, rfl⟩
set_option maxHeartbeats 4000000 in
set_option maxRecDepth 100000 in
theorem w_X11_hasOpenSum (l : Launch) (X : gX) (ad : Nat → Nat) (F : Nat → Int32) (R : Nat → Nat → Int32) (hI : g_ok LK_wM F) (hA : g_okR LA_wM R) (a0 : Int32) (pa0 : jv 0 220 a0) (M : List (Int × Nat)) (L : List (Int × Nat)) (hw : WS (R 13) (M ++ L)) (hl : ((M ++ L).length : Int) = (F 26).toInt) (hb : a0.toInt = L.length) : g_Ci l X yX11_hasOpenSum cX11_hasOpenSum 3 (some .boolean) 1 0 0 [.ref (ad 0), .int a0] (wM X ad F R) (fun r w => w = wM X ad F R ∧ jv 0 1 r ∧ (r = 0 → ∀ q ∈ M, q.1 ≠ 14) ∧ (¬ r = 0 → ∃ q ∈ M, q.1 = 14)) := by
  refine g_mi (by decide +kernel) (Nat.le_of_ble_eq_true rfl) (fun E cx hret => ?_)
  refine g_iload_n cx 1 rfl e_X11_hasOpenSum_0 ?_
  refine g_istore_n cx [(2, .int a0), (0, .ref (ad 0)), (1, .int a0)] e_X11_hasOpenSum_1 (by decide) rfl ?_
  have J2 : ∀ (N : Nat) (y1 : Int32), (jv 0 220 y1) → (a0.toInt ≤ (y1 : Int32).toInt) → (∀ j : Nat, L.length ≤ j → (j : Int) < (y1 : Int32).toInt → g_op (R 13 j) ≠ 14) → (2147483647 - y1.toInt).toNat < N → G X E 3 0 0 (wM X ad F R) [(0, .ref (ad 0)), (2, .int y1)] 2 [] := by
    intro N
    induction N with
    | zero => intro y1 py1 zi2_0 zq2_0 hm; exact absurd hm (Nat.not_lt_zero _)
    | succ N ih2 =>
      intro y1 py1 zi2_0 zq2_0 hm2
      refine g_iload_n cx 1 rfl e_X11_hasOpenSum_2 ?_
      refine g_aload_n cx 0 rfl e_X11_hasOpenSum_3 ?_
      refine g_get cx cl_X11 fl_X11_238 0 (.int (F 26)) e_X11_hasOpenSum_4 rfl rfl ?_
      refine g_icmp_ge cx 32 e_X11_hasOpenSum_7 (by decide) (fun zc2 => ?_) (fun zc2 => ?_)
      · refine g_iconst cx 0 (by decide) e_X11_hasOpenSum_32 ?_
        exact hret e_X11_hasOpenSum_33 (Nat.le_of_ble_eq_true rfl) (Nat.le_of_ble_eq_true rfl) rfl ⟨rfl, (jv_w (jv_k (x := 0) 0 (by decide)) (by decide)), (fun _ q hq => by obtain ⟨j, j1, j2, j3⟩ := WS_in hw q hq; rw [← j3]; exact zq2_0 j j1 (by have q0 := (g_ok_g hI 8 rfl).1; have q1 := (g_ok_g hI 8 rfl).2; have q2 := pa0.1; have q3 := pa0.2; have q4 := py1.1; have q5 := py1.2; have q6 := hb; have q7 := zi2_0; have q8 := (gc_le zc2); have q9 := j2; have q10 := hl; omega)), (fun h0 => absurd rfl h0)⟩
      · have p3 := gn_lt 0 219 (gc_nle zc2) py1 (g_ok_g hI 8 rfl) (by decide)
        have p4 := gn_gt 1 220 (gc_nle zc2) (g_ok_g hI 8 rfl) py1 (by decide)
        refine g_aload_n cx 0 rfl e_X11_hasOpenSum_10 ?_
        refine g_get cx cl_X11 fl_X11_47 0 (.ref (ad 13)) e_X11_hasOpenSum_11 rfl rfl ?_
        refine g_iload_n cx 1 rfl e_X11_hasOpenSum_14 ?_
        refine g_iald cx 13 e_X11_hasOpenSum_15 rfl (jv_ix 220 p3 (by decide)) ?_
        refine g_topi (fun x5 ex5 => ?_)
        have p6 : jv 0 15728639 x5 := by rw [ex5]; exact g_okR_g hA 1 rfl (jv_cl 220 p3 (by decide))
        refine g_ldc cx 1048576 kc_X11_234 e_X11_hasOpenSum_16 ?_
        refine g_idiv cx (by decide) e_X11_hasOpenSum_18 ?_
        refine g_topi (fun x7 ex7 => ?_)
        have zx7 := jv_div 0 14 ex7 p6 (jv_k (x := 1048576) 1048576 (by decide)) (by decide)
        refine g_bipush cx 14 (by decide) e_X11_hasOpenSum_19 ?_
        refine g_icmp_ne cx 26 e_X11_hasOpenSum_21 (by decide) (fun zc8 => ?_) (fun zc8 => ?_)
        · have p9 := gn_neH 0 13 (gc_ne zc8) zx7.2 (jv_k (x := 14) 14 (by decide)) (by decide)
          obtain ⟨x10, ex10⟩ : ∃ z : Int32, z = y1 + Int32.ofInt 1 := ⟨_, rfl⟩
          refine g_iinc cx x10 [(2, .int x10), (0, .ref (ad 0))] 1 e_X11_hasOpenSum_26 rfl ex10.symm (by decide) rfl ?_
          have zx10 := jv_add 1 220 (show x10 = y1 + 1 from ex10) p3 (jv_k (x := 1) 1 (by decide)) (by decide)
          refine g_goto cx 2 e_X11_hasOpenSum_29 (by decide) ?_
          refine g_lsub [1, 0] [(0, .ref (ad 0)), (2, .int x10)] rfl ?_
          exact ih2 x10 (jv_w zx10.2 (by decide)) (by have q0 := (jv_k (x := 1) 1 (by decide)).1; have q1 := (jv_k (x := 1) 1 (by decide)).2; have q2 := p4.1; have q3 := p4.2; have q4 := pa0.1; have q5 := pa0.2; have q6 := zx10.2.1; have q7 := zx10.2.2; have q8 := p3.1; have q9 := p3.2; have q10 := hb; have q11 := zi2_0; have q12 := (gc_nle zc2); have q13 := (g_eq0 zx10.1); omega) ((fun j h1 h2 => by
            by_cases e : (j : Int) < (y1 : Int32).toInt
            · exact zq2_0 j h1 e
            · have e2 : j = y1.toNatClampNeg := (g_clm (k := y1) (m := j) (by have q0 := (jv_k (x := 1) 1 (by decide)).1; have q1 := (jv_k (x := 1) 1 (by decide)).2; have q2 := p4.1; have q3 := p4.2; have q4 := pa0.1; have q5 := pa0.2; have q6 := zx10.2.1; have q7 := zx10.2.2; have q8 := p3.1; have q9 := p3.2; have q10 := hb; have q11 := zi2_0; have q12 := (gc_nle zc2); have q13 := (g_eq0 zx10.1); have q14 := h2; have q15 := e; omega)).symm
              rw [e2, ← ex5, g_opd]; have q0 := (jv_k (x := 14) 14 (by decide)).1; have q1 := (jv_k (x := 14) 14 (by decide)).2; have q2 := p6.1; have q3 := p6.2; have q4 := p9.1; have q5 := p9.2; have q6 := (g_ed zx7.1 (by decide : Int32.toInt 1048576 = 1048576)); have q7 := (gc_ne zc8); omega)) (Nat.lt_of_lt_of_le (show (2147483647 - x10.toInt).toNat < (2147483647 - y1.toInt).toNat from by have q0 := (jv_k (x := 1) 1 (by decide)).1; have q1 := (jv_k (x := 1) 1 (by decide)).2; have q2 := p4.1; have q3 := p4.2; have q4 := pa0.1; have q5 := pa0.2; have q6 := zx10.2.1; have q7 := zx10.2.2; have q8 := p3.1; have q9 := p3.2; have q10 := hb; have q11 := zi2_0; have q12 := (gc_nle zc2); have q13 := (g_eq0 zx10.1); omega) (Nat.le_of_lt_succ hm2))
        · have p11 := gn_eq 14 14 (gc_eq zc8) zx7.2 (jv_k (x := 14) 14 (by decide)) (by decide)
          refine g_iconst cx 1 (by decide) e_X11_hasOpenSum_24 ?_
          exact hret e_X11_hasOpenSum_25 (Nat.le_of_ble_eq_true rfl) (Nat.le_of_ble_eq_true rfl) rfl ⟨rfl, (jv_w (jv_k (x := 1) 1 (by decide)) (by decide)), (fun h0 => absurd h0 (by decide)), (fun _ => by obtain ⟨q, q1, q2⟩ := WS_of hw y1.toNatClampNeg (by have e : (y1.toNatClampNeg : Int) = (y1 : Int32).toInt := Int.toNat_of_nonneg (by have q0 := p4.1; have q1 := p4.2; have q2 := pa0.1; have q3 := pa0.2; have q4 := p3.1; have q5 := p3.2; have q6 := hb; have q7 := zi2_0; have q8 := (gc_nle zc2); omega); have q0 := p4.1; have q1 := p4.2; have q2 := pa0.1; have q3 := pa0.2; have q4 := p3.1; have q5 := p3.2; have q6 := hb; have q7 := zi2_0; have q8 := (gc_nle zc2); have q9 := e; have q10 := hb; omega) (by have e : (y1.toNatClampNeg : Int) = (y1 : Int32).toInt := Int.toNat_of_nonneg (by have q0 := p4.1; have q1 := p4.2; have q2 := pa0.1; have q3 := pa0.2; have q4 := p3.1; have q5 := p3.2; have q6 := hb; have q7 := zi2_0; have q8 := (gc_nle zc2); omega); have q0 := p4.1; have q1 := p4.2; have q2 := pa0.1; have q3 := pa0.2; have q4 := p3.1; have q5 := p3.2; have q6 := hb; have q7 := zi2_0; have q8 := (gc_nle zc2); have q9 := e; have q10 := hl; omega); exact ⟨q, q1, by rw [← q2, ← ex5, g_opd]; have q0 := (jv_k (x := 14) 14 (by decide)).1; have q1 := (jv_k (x := 14) 14 (by decide)).2; have q2 := p6.1; have q3 := p6.2; have q4 := p11.1; have q5 := p11.2; have q6 := (g_ed zx7.1 (by decide : Int32.toInt 1048576 = 1048576)); have q7 := (gc_eq zc8); omega⟩)⟩
  refine g_lsub [1, 0] [(0, .ref (ad 0)), (2, .int a0)] rfl ?_
  exact J2 _ a0 pa0 (by have q0 := pa0.1; have q1 := pa0.2; have q2 := hb; omega) (fun j h1 h2 => absurd h2 (by have q0 := pa0.1; have q1 := pa0.2; have q2 := hb; omega)) (Nat.lt_succ_self _)
theorem e_X11_readsNumber_0 : g_dc cX11_readsNumber 0 (.aload_n 0) 1 1 := ⟨by decide +kernel, rfl⟩
theorem e_X11_readsNumber_1 : g_dc cX11_readsNumber 1 (.getfield 190) 3 4 := ⟨by decide +kernel, rfl⟩
theorem e_X11_readsNumber_4 : g_dc cX11_readsNumber 4 (.istore_n 1) 1 5 := ⟨by decide +kernel, rfl⟩
theorem e_X11_readsNumber_5 : g_dc cX11_readsNumber 5 (.aload_n 0) 1 6 := ⟨by decide +kernel, rfl⟩
theorem e_X11_readsNumber_6 : g_dc cX11_readsNumber 6 (.iconst 0) 1 7 := ⟨by decide +kernel, rfl⟩
theorem e_X11_readsNumber_7 : g_dc cX11_readsNumber 7 (.putfield 193) 3 10 := ⟨by decide +kernel, rfl⟩
theorem e_X11_readsNumber_10 : g_dc cX11_readsNumber 10 (.aload_n 0) 1 11 := ⟨by decide +kernel, rfl⟩
theorem e_X11_readsNumber_11 : g_dc cX11_readsNumber 11 (.invokevirtual 196) 3 14 := ⟨by decide +kernel, rfl⟩
theorem e_X11_readsNumber_14 : g_dc cX11_readsNumber 14 (.ifCond .eq 55) 3 17 := ⟨by decide +kernel, rfl⟩
theorem e_X11_readsNumber_17 : g_dc cX11_readsNumber 17 (.aload_n 0) 1 18 := ⟨by decide +kernel, rfl⟩
theorem e_X11_readsNumber_18 : g_dc cX11_readsNumber 18 (.getfield 190) 3 21 := ⟨by decide +kernel, rfl⟩
theorem e_X11_readsNumber_21 : g_dc cX11_readsNumber 21 (.iload_n 1) 1 22 := ⟨by decide +kernel, rfl⟩
theorem e_X11_readsNumber_22 : g_dc cX11_readsNumber 22 (.iconst 5) 1 23 := ⟨by decide +kernel, rfl⟩
theorem e_X11_readsNumber_23 : g_dc cX11_readsNumber 23 (.iadd) 1 24 := ⟨by decide +kernel, rfl⟩
theorem e_X11_readsNumber_24 : g_dc cX11_readsNumber 24 (.if_icmp .ne 13) 3 27 := ⟨by decide +kernel, rfl⟩
theorem e_X11_readsNumber_27 : g_dc cX11_readsNumber 27 (.aload_n 0) 1 28 := ⟨by decide +kernel, rfl⟩
theorem e_X11_readsNumber_28 : g_dc cX11_readsNumber 28 (.iconst 2) 1 29 := ⟨by decide +kernel, rfl⟩
theorem e_X11_readsNumber_29 : g_dc cX11_readsNumber 29 (.aload_n 0) 1 30 := ⟨by decide +kernel, rfl⟩
theorem e_X11_readsNumber_30 : g_dc cX11_readsNumber 30 (.getfield 190) 3 33 := ⟨by decide +kernel, rfl⟩
theorem e_X11_readsNumber_33 : g_dc cX11_readsNumber 33 (.invokevirtual 204) 3 36 := ⟨by decide +kernel, rfl⟩
theorem e_X11_readsNumber_36 : g_dc cX11_readsNumber 36 (.ireturn) 1 37 := ⟨by decide +kernel, rfl⟩
theorem e_X11_readsNumber_37 : g_dc cX11_readsNumber 37 (.aload_n 0) 1 38 := ⟨by decide +kernel, rfl⟩
theorem e_X11_readsNumber_38 : g_dc cX11_readsNumber 38 (.bipush 10) 2 40 := ⟨by decide +kernel, rfl⟩
theorem e_X11_readsNumber_40 : g_dc cX11_readsNumber 40 (.aload_n 0) 1 41 := ⟨by decide +kernel, rfl⟩
theorem e_X11_readsNumber_41 : g_dc cX11_readsNumber 41 (.getfield 193) 3 44 := ⟨by decide +kernel, rfl⟩
theorem e_X11_readsNumber_44 : g_dc cX11_readsNumber 44 (.imul) 1 45 := ⟨by decide +kernel, rfl⟩
theorem e_X11_readsNumber_45 : g_dc cX11_readsNumber 45 (.aload_n 0) 1 46 := ⟨by decide +kernel, rfl⟩
theorem e_X11_readsNumber_46 : g_dc cX11_readsNumber 46 (.invokevirtual 200) 3 49 := ⟨by decide +kernel, rfl⟩
theorem e_X11_readsNumber_49 : g_dc cX11_readsNumber 49 (.iadd) 1 50 := ⟨by decide +kernel, rfl⟩
theorem e_X11_readsNumber_50 : g_dc cX11_readsNumber 50 (.bipush 48) 2 52 := ⟨by decide +kernel, rfl⟩
theorem e_X11_readsNumber_52 : g_dc cX11_readsNumber 52 (.isub) 1 53 := ⟨by decide +kernel, rfl⟩
theorem e_X11_readsNumber_53 : g_dc cX11_readsNumber 53 (.putfield 193) 3 56 := ⟨by decide +kernel, rfl⟩
theorem e_X11_readsNumber_56 : g_dc cX11_readsNumber 56 (.aload_n 0) 1 57 := ⟨by decide +kernel, rfl⟩
theorem e_X11_readsNumber_57 : g_dc cX11_readsNumber 57 (.aload_n 0) 1 58 := ⟨by decide +kernel, rfl⟩
theorem e_X11_readsNumber_58 : g_dc cX11_readsNumber 58 (.getfield 190) 3 61 := ⟨by decide +kernel, rfl⟩
theorem e_X11_readsNumber_61 : g_dc cX11_readsNumber 61 (.iconst 1) 1 62 := ⟨by decide +kernel, rfl⟩
theorem e_X11_readsNumber_62 : g_dc cX11_readsNumber 62 (.iadd) 1 63 := ⟨by decide +kernel, rfl⟩
theorem e_X11_readsNumber_63 : g_dc cX11_readsNumber 63 (.putfield 190) 3 66 := ⟨by decide +kernel, rfl⟩
theorem e_X11_readsNumber_66 : g_dc cX11_readsNumber 66 (.goto (-56)) 3 69 := ⟨by decide +kernel, rfl⟩
theorem e_X11_readsNumber_69 : g_dc cX11_readsNumber 69 (.iconst 1) 1 70 := ⟨by decide +kernel, rfl⟩
theorem e_X11_readsNumber_70 : g_dc cX11_readsNumber 70 (.ireturn) 1 71 := ⟨by decide +kernel, rfl⟩
def md_X11_readsNumber : List Nat := [15, 17, 18]
def mr_X11_readsNumber : List Nat := []
set_option maxHeartbeats 4000000 in
set_option maxRecDepth 100000 in
theorem w_X11_readsNumber (l : Launch) (X : gX) (ad : Nat → Nat) (F : Nat → Int32) (R : Nat → Nat → Int32) (hI : g_ok LK_wM F) (hA : g_okR LA_wM R) (hWT : WT F R) (hWC : WC F R) (hd : 48 ≤ (g_here F R).toInt ∧ (g_here F R).toInt ≤ 57) : g_Ci l X yX11_readsNumber cX11_readsNumber 2 (some .boolean) 3 0 0 [.ref (ad 0)] (wM X ad F R) (fun r w => ∃ (F' : Nat → Int32) (R' : Nat → Nat → Int32), w = wM X ad F' R' ∧ g_ok LK_wM F' ∧ g_okR LA_wM R' ∧ WT F' R' ∧ WC F' R' ∧ g_fr md_X11_readsNumber F F' ∧ g_fr mr_X11_readsNumber R R' ∧ jv 0 1 r ∧ (¬ r = 0 → 0 ≤ (F' 18).toInt ∧ (F' 18).toInt ≤ 99999 ∧ (F 15).toInt + 1 ≤ (F' 15).toInt)) := by
  refine g_mi (by decide +kernel) (Nat.le_of_ble_eq_true rfl) (fun E cx hret => ?_)
  refine g_aload_n cx 0 rfl e_X11_readsNumber_0 ?_
  refine g_get cx cl_X11 fl_X11_190 0 (.int (F 15)) e_X11_readsNumber_1 rfl rfl ?_
  refine g_istore_n cx [(1, .int (F 15)), (0, .ref (ad 0))] e_X11_readsNumber_4 (by decide) rfl ?_
  refine g_aload_n cx 1 rfl e_X11_readsNumber_5 ?_
  refine g_iconst cx 0 (by decide) e_X11_readsNumber_6 ?_
  refine g_put cx cl_X11 fl_X11_193 0 (wM X ad (upd F 18 0) R) e_X11_readsNumber_7 rfl rfl rfl rfl (Nat.le_of_ble_eq_true rfl) rfl ?_
  obtain ⟨F1, hF1⟩ : ∃ z, z = upd F 18 0 := ⟨_, rfl⟩
  rw [← hF1]
  have oF1 : g_ok LK_wM F1 := by rw [hF1]; exact g_ok_u hI rfl
  have fF1 : g_fr md_X11_readsNumber F F1 := by rw [hF1]; exact g_fr_u (g_fr_rf F) rfl
  have wTF1 : WT F1 R := by rw [hF1]; exact WT_u hWT rfl
  have wCF1 : WC F1 R := by rw [hF1]; exact WC_u hWC rfl
  have J10 : ∀ (N : Nat) (F2 : Nat → Int32), (g_ok LK_wM F2) → (g_fr md_X11_readsNumber F F2) → (WT F2 R) → (WC F2 R) → ((F2 15).toInt = (F 15).toInt ∧ (F2 18).toInt = 0 ∨ (F2 15).toInt = (F 15).toInt + 1 ∧ 0 ≤ (F2 18).toInt ∧ (F2 18).toInt ≤ 9 ∨ (F2 15).toInt = (F 15).toInt + 2 ∧ 0 ≤ (F2 18).toInt ∧ (F2 18).toInt ≤ 99 ∨ (F2 15).toInt = (F 15).toInt + 3 ∧ 0 ≤ (F2 18).toInt ∧ (F2 18).toInt ≤ 999 ∨ (F2 15).toInt = (F 15).toInt + 4 ∧ 0 ≤ (F2 18).toInt ∧ (F2 18).toInt ≤ 9999 ∨ (F2 15).toInt = (F 15).toInt + 5 ∧ 0 ≤ (F2 18).toInt ∧ (F2 18).toInt ≤ 99999) → (2147483647 - (F2 15).toInt).toNat < N → G X E 2 0 0 (wM X ad F2 R) [(0, .ref (ad 0)), (1, .int (F 15))] 10 [] := by
    intro N
    induction N with
    | zero => intro F2 oF2 fF2 wTF2 wCF2 zi10_0 hm; exact absurd hm (Nat.not_lt_zero _)
    | succ N ih10 =>
      intro F2 oF2 fF2 wTF2 wCF2 zi10_0 hm10
      have p3 : jv 0 99999 (F2 18) := ⟨by have q0 := (g_ok_g hI 1 rfl).1; have q1 := (g_ok_g hI 1 rfl).2; have q2 := (g_ok_g oF2 1 rfl).1; have q3 := (g_ok_g oF2 1 rfl).2; have q4 := (jv_t (F2 18)).1; have q5 := (jv_t (F2 18)).2; have q6 := zi10_0; omega, by have q0 := (g_ok_g hI 1 rfl).1; have q1 := (g_ok_g hI 1 rfl).2; have q2 := (g_ok_g oF2 1 rfl).1; have q3 := (g_ok_g oF2 1 rfl).2; have q4 := (jv_t (F2 18)).1; have q5 := (jv_t (F2 18)).2; have q6 := zi10_0; omega⟩
      refine g_aload_n cx 0 rfl e_X11_readsNumber_10 ?_
      refine g_cViW cx [] [] (w_X11_isDigit2 l X ad F2 R oF2 hA wTF2 wCF2) ml_X11_196 yV_X11_isDigit e_X11_readsNumber_11 (by unfold g_rr; decide) (by decide) 0 rfl rfl rfl (Nat.le_of_ble_eq_true rfl) (fun r4 w5 h6 => ?_)
      obtain ⟨rfl, pr4, zx7, zx8⟩ := h6
      refine g_if_eq cx 69 e_X11_readsNumber_14 (by decide) (fun zc9 => ?_) (fun zc9 => ?_)
      · have p10 := gn_eq 0 0 (gc_eq zc9) pr4 (jv_k (x := 0) 0 (by decide)) (by decide)
        refine g_iconst cx 1 (by decide) e_X11_readsNumber_69 ?_
        exact hret e_X11_readsNumber_70 (Nat.le_of_ble_eq_true rfl) (Nat.le_of_ble_eq_true rfl) rfl ⟨F2, R, rfl, oF2, hA, wTF2, wCF2, fF2, (g_fr_rf R), (jv_w (jv_k (x := 1) 1 (by decide)) (by decide)), (fun _ => by have q0 := (g_here_iv F R).1; have q1 := (g_here_iv F R).2; have q2 := (g_here_iv F2 R).1; have q3 := (g_here_iv F2 R).2; have q4 := (jv_k (x := 0) 0 (by decide)).1; have q5 := (jv_k (x := 0) 0 (by decide)).2; have q6 := (g_ok_g hI 1 rfl).1; have q7 := (g_ok_g hI 1 rfl).2; have q8 := (g_ok_g hI 2 rfl).1; have q9 := (g_ok_g hI 2 rfl).2; have q10 := (g_ok_g oF2 1 rfl).1; have q11 := (g_ok_g oF2 1 rfl).2; have q12 := (g_ok_g oF2 2 rfl).1; have q13 := (g_ok_g oF2 2 rfl).2; have q14 := p3.1; have q15 := p3.2; have q16 := p10.1; have q17 := p10.2; have q18 := zi10_0; have q19 := (@g_here_lt F2 R); have q20 := (congrArg Int32.toInt (show F2 16 = F 16 from (fF2 16 rfl))); have q21 := zx8; have q22 := (gc_eq zc9); have q23 := (@g_here_e F F2 R R (fF2 16 rfl) rfl); have q24 := hd.1; have q25 := hd.2; omega)⟩
      · have p11 := gn_neL 1 1 (gc_ne zc9) pr4 (jv_k (x := 0) 0 (by decide)) (by decide)
        refine g_aload_n cx 0 rfl e_X11_readsNumber_17 ?_
        refine g_get cx cl_X11 fl_X11_190 0 (.int (F2 15)) e_X11_readsNumber_18 rfl rfl ?_
        refine g_iload_n cx 1 rfl e_X11_readsNumber_21 ?_
        refine g_iconst cx 5 (by decide) e_X11_readsNumber_22 ?_
        refine g_iadd cx e_X11_readsNumber_23 ?_
        refine g_topi (fun x12 ex12 => ?_)
        have zx12 := jv_add 5 225 ex12 (g_ok_g hI 1 rfl) (jv_k (x := 5) 5 (by decide)) (by decide)
        refine g_icmp_ne cx 37 e_X11_readsNumber_24 (by decide) (fun zc13 => ?_) (fun zc13 => ?_)
        · refine g_aload_n cx 0 rfl e_X11_readsNumber_37 ?_
          refine g_bipush cx 10 (by decide) e_X11_readsNumber_38 ?_
          refine g_aload_n cx 0 rfl e_X11_readsNumber_40 ?_
          refine g_get cx cl_X11 fl_X11_193 0 (.int (F2 18)) e_X11_readsNumber_41 rfl rfl ?_
          refine g_imul cx e_X11_readsNumber_44 ?_
          refine g_topi (fun x14 ex14 => ?_)
          have zx14 := jv_mul 0 999990 ex14 (jv_k (x := 10) 10 (by decide)) p3 (by decide)
          refine g_aload_n cx 0 rfl e_X11_readsNumber_45 ?_
          refine g_cViW cx [] [.int x14, .ref (ad 0)] (w_X11_here l X ad F2 R oF2 hA wTF2 wCF2) ml_X11_200 yV_X11_here e_X11_readsNumber_46 (by unfold g_rr; decide) (by decide) 0 rfl rfl rfl (Nat.le_of_ble_eq_true rfl) (fun r15 w16 h17 => ?_)
          obtain ⟨rfl, pr15, zx18⟩ := h17
          refine g_iadd cx e_X11_readsNumber_49 ?_
          refine g_topi (fun x19 ex19 => ?_)
          have zx19 := jv_add (-1) 1000245 ex19 zx14.2 pr15 (by decide)
          refine g_bipush cx 48 (by decide) e_X11_readsNumber_50 ?_
          refine g_isub cx e_X11_readsNumber_52 ?_
          refine g_topi (fun x20 ex20 => ?_)
          have zx20 := jv_sub (-49) 1000197 ex20 zx19.2 (jv_k (x := 48) 48 (by decide)) (by decide)
          refine g_put cx cl_X11 fl_X11_193 0 (wM X ad (upd F2 18 x20) R) e_X11_readsNumber_53 rfl rfl rfl rfl (Nat.le_of_ble_eq_true rfl) rfl ?_
          obtain ⟨F21, hF21⟩ : ∃ z, z = upd F2 18 x20 := ⟨_, rfl⟩
          rw [← hF21]
          have oF21 : g_ok LK_wM F21 := by rw [hF21]; exact g_ok_u oF2 rfl
          have fF21 : g_fr md_X11_readsNumber F F21 := by rw [hF21]; exact g_fr_u fF2 rfl
          have wTF21 : WT F21 R := by rw [hF21]; exact WT_u wTF2 rfl
          have wCF21 : WC F21 R := by rw [hF21]; exact WC_u wCF2 rfl
          refine g_aload_n cx 0 rfl e_X11_readsNumber_56 ?_
          refine g_aload_n cx 0 rfl e_X11_readsNumber_57 ?_
          refine g_get cx cl_X11 fl_X11_190 0 (.int (F21 15)) e_X11_readsNumber_58 rfl rfl ?_
          refine g_toi (F2 15) (g_pu2 hF21 rfl) ?_
          refine g_iconst cx 1 (by decide) e_X11_readsNumber_61 ?_
          refine g_iadd cx e_X11_readsNumber_62 ?_
          refine g_topi (fun x22 ex22 => ?_)
          have zx22 := jv_add 1 221 ex22 (g_ok_g oF2 1 rfl) (jv_k (x := 1) 1 (by decide)) (by decide)
          refine g_put cx cl_X11 fl_X11_190 0 (wM X ad (upd F21 15 x22) R) e_X11_readsNumber_63 rfl rfl rfl rfl (Nat.le_of_ble_eq_true rfl) rfl ?_
          obtain ⟨F23, hF23⟩ : ∃ z, z = upd F21 15 x22 := ⟨_, rfl⟩
          rw [← hF23]
          have oF23 : g_ok LK_wM F23 := by rw [hF23]; exact g_ok_p oF21 (show jv 0 220 _ from ⟨by have q0 := (g_here_iv F2 R).1; have q1 := (g_here_iv F2 R).2; have q2 := (jv_k (x := 0) 0 (by decide)).1; have q3 := (jv_k (x := 0) 0 (by decide)).2; have q4 := (jv_k (x := 1) 1 (by decide)).1; have q5 := (jv_k (x := 1) 1 (by decide)).2; have q6 := (jv_k (x := 48) 48 (by decide)).1; have q7 := (jv_k (x := 48) 48 (by decide)).2; have q8 := (jv_k (x := 5) 5 (by decide)).1; have q9 := (jv_k (x := 5) 5 (by decide)).2; have q10 := (g_ok_g hI 1 rfl).1; have q11 := (g_ok_g hI 1 rfl).2; have q12 := (g_ok_g hI 2 rfl).1; have q13 := (g_ok_g hI 2 rfl).2; have q14 := (g_ok_g oF2 1 rfl).1; have q15 := (g_ok_g oF2 1 rfl).2; have q16 := (g_ok_g oF2 2 rfl).1; have q17 := (g_ok_g oF2 2 rfl).2; have q18 := p3.1; have q19 := p3.2; have q20 := pr15.1; have q21 := pr15.2; have q22 := p11.1; have q23 := p11.2; have q24 := zx12.2.1; have q25 := zx12.2.2; have q26 := zx14.2.1; have q27 := zx14.2.2; have q28 := zx19.2.1; have q29 := zx19.2.2; have q30 := zx20.2.1; have q31 := zx20.2.2; have q32 := zx22.2.1; have q33 := zx22.2.2; have q34 := zi10_0; have q35 := (@g_here_lt F2 R); have q36 := (congrArg Int32.toInt (show F2 16 = F 16 from (fF2 16 rfl))); have q37 := zx8; have q38 := (gc_ne zc9); have q39 := (zx7 zc9); have q40 := (g_eq0 zx12.1); have q41 := (gc_ne zc13); have q42 := (g_em2 zx14.1 (by decide : Int32.toInt 10 = 10)); have q43 := (congrArg Int32.toInt zx18); have q44 := (@g_here_lt F2 R); have q45 := (congrArg Int32.toInt (show F2 16 = F 16 from (fF2 16 rfl))); have q46 := (g_eq0 zx19.1); have q47 := (g_eq0 zx20.1); have q48 := (g_eq0 zx22.1); omega, by have q0 := (g_here_iv F2 R).1; have q1 := (g_here_iv F2 R).2; have q2 := (jv_k (x := 0) 0 (by decide)).1; have q3 := (jv_k (x := 0) 0 (by decide)).2; have q4 := (jv_k (x := 1) 1 (by decide)).1; have q5 := (jv_k (x := 1) 1 (by decide)).2; have q6 := (jv_k (x := 48) 48 (by decide)).1; have q7 := (jv_k (x := 48) 48 (by decide)).2; have q8 := (jv_k (x := 5) 5 (by decide)).1; have q9 := (jv_k (x := 5) 5 (by decide)).2; have q10 := (g_ok_g hI 1 rfl).1; have q11 := (g_ok_g hI 1 rfl).2; have q12 := (g_ok_g hI 2 rfl).1; have q13 := (g_ok_g hI 2 rfl).2; have q14 := (g_ok_g oF2 1 rfl).1; have q15 := (g_ok_g oF2 1 rfl).2; have q16 := (g_ok_g oF2 2 rfl).1; have q17 := (g_ok_g oF2 2 rfl).2; have q18 := p3.1; have q19 := p3.2; have q20 := pr15.1; have q21 := pr15.2; have q22 := p11.1; have q23 := p11.2; have q24 := zx12.2.1; have q25 := zx12.2.2; have q26 := zx14.2.1; have q27 := zx14.2.2; have q28 := zx19.2.1; have q29 := zx19.2.2; have q30 := zx20.2.1; have q31 := zx20.2.2; have q32 := zx22.2.1; have q33 := zx22.2.2; have q34 := zi10_0; have q35 := (@g_here_lt F2 R); have q36 := (congrArg Int32.toInt (show F2 16 = F 16 from (fF2 16 rfl))); have q37 := zx8; have q38 := (gc_ne zc9); have q39 := (zx7 zc9); have q40 := (g_eq0 zx12.1); have q41 := (gc_ne zc13); have q42 := (g_em2 zx14.1 (by decide : Int32.toInt 10 = 10)); have q43 := (congrArg Int32.toInt zx18); have q44 := (@g_here_lt F2 R); have q45 := (congrArg Int32.toInt (show F2 16 = F 16 from (fF2 16 rfl))); have q46 := (g_eq0 zx19.1); have q47 := (g_eq0 zx20.1); have q48 := (g_eq0 zx22.1); omega⟩) rfl
          have fF23 : g_fr md_X11_readsNumber F F23 := by rw [hF23]; exact g_fr_u fF21 rfl
          have wTF23 : WT F23 R := by rw [hF23]; exact WT_u wTF21 rfl
          have wCF23 : WC F23 R := by rw [hF23]; exact WC_u wCF21 rfl
          refine g_goto cx 10 e_X11_readsNumber_66 (by decide) ?_
          exact ih10 F23 oF23 fF23 wTF23 wCF23 (by have q0 := (g_here_iv F2 R).1; have q1 := (g_here_iv F2 R).2; have q2 := (jv_k (x := 0) 0 (by decide)).1; have q3 := (jv_k (x := 0) 0 (by decide)).2; have q4 := (jv_k (x := 1) 1 (by decide)).1; have q5 := (jv_k (x := 1) 1 (by decide)).2; have q6 := (jv_k (x := 48) 48 (by decide)).1; have q7 := (jv_k (x := 48) 48 (by decide)).2; have q8 := (jv_k (x := 5) 5 (by decide)).1; have q9 := (jv_k (x := 5) 5 (by decide)).2; have q10 := (g_ok_g hI 1 rfl).1; have q11 := (g_ok_g hI 1 rfl).2; have q12 := (g_ok_g hI 2 rfl).1; have q13 := (g_ok_g hI 2 rfl).2; have q14 := (g_ok_g oF2 1 rfl).1; have q15 := (g_ok_g oF2 1 rfl).2; have q16 := (g_ok_g oF2 2 rfl).1; have q17 := (g_ok_g oF2 2 rfl).2; have q18 := p3.1; have q19 := p3.2; have q20 := (g_ok_g oF23 1 rfl).1; have q21 := (g_ok_g oF23 1 rfl).2; have q22 := (jv_t (F23 18)).1; have q23 := (jv_t (F23 18)).2; have q24 := pr15.1; have q25 := pr15.2; have q26 := p11.1; have q27 := p11.2; have q28 := zx12.2.1; have q29 := zx12.2.2; have q30 := zx14.2.1; have q31 := zx14.2.2; have q32 := zx19.2.1; have q33 := zx19.2.2; have q34 := zx20.2.1; have q35 := zx20.2.2; have q36 := zx22.2.1; have q37 := zx22.2.2; have q38 := zi10_0; have q39 := (@g_here_lt F2 R); have q40 := (congrArg Int32.toInt (show F2 16 = F 16 from (fF2 16 rfl))); have q41 := zx8; have q42 := (gc_ne zc9); have q43 := (zx7 zc9); have q44 := (g_eq0 zx12.1); have q45 := (gc_ne zc13); have q46 := (g_em2 zx14.1 (by decide : Int32.toInt 10 = 10)); have q47 := (congrArg Int32.toInt zx18); have q48 := (@g_here_lt F2 R); have q49 := (congrArg Int32.toInt (show F2 16 = F 16 from (fF2 16 rfl))); have q50 := (g_eq0 zx19.1); have q51 := (g_eq0 zx20.1); have q52 := (g_eq0 zx22.1); have q53 := (congrArg Int32.toInt (show F23 15 = x22 from (g_pu1 hF23))); have q54 := (congrArg Int32.toInt (show F23 18 = x20 from ((g_pu2 hF23 rfl).trans (g_pu1 hF21)))); omega) (Nat.lt_of_lt_of_le (show (2147483647 - (F23 15).toInt).toNat < (2147483647 - (F2 15).toInt).toNat from by have q0 := (g_here_iv F2 R).1; have q1 := (g_here_iv F2 R).2; have q2 := (jv_k (x := 0) 0 (by decide)).1; have q3 := (jv_k (x := 0) 0 (by decide)).2; have q4 := (jv_k (x := 1) 1 (by decide)).1; have q5 := (jv_k (x := 1) 1 (by decide)).2; have q6 := (jv_k (x := 48) 48 (by decide)).1; have q7 := (jv_k (x := 48) 48 (by decide)).2; have q8 := (jv_k (x := 5) 5 (by decide)).1; have q9 := (jv_k (x := 5) 5 (by decide)).2; have q10 := (g_ok_g hI 1 rfl).1; have q11 := (g_ok_g hI 1 rfl).2; have q12 := (g_ok_g hI 2 rfl).1; have q13 := (g_ok_g hI 2 rfl).2; have q14 := (g_ok_g oF2 1 rfl).1; have q15 := (g_ok_g oF2 1 rfl).2; have q16 := (g_ok_g oF2 2 rfl).1; have q17 := (g_ok_g oF2 2 rfl).2; have q18 := p3.1; have q19 := p3.2; have q20 := (g_ok_g oF23 1 rfl).1; have q21 := (g_ok_g oF23 1 rfl).2; have q22 := (jv_t (F23 18)).1; have q23 := (jv_t (F23 18)).2; have q24 := pr15.1; have q25 := pr15.2; have q26 := p11.1; have q27 := p11.2; have q28 := zx12.2.1; have q29 := zx12.2.2; have q30 := zx14.2.1; have q31 := zx14.2.2; have q32 := zx19.2.1; have q33 := zx19.2.2; have q34 := zx20.2.1; have q35 := zx20.2.2; have q36 := zx22.2.1; have q37 := zx22.2.2; have q38 := zi10_0; have q39 := (@g_here_lt F2 R); have q40 := (congrArg Int32.toInt (show F2 16 = F 16 from (fF2 16 rfl))); have q41 := zx8; have q42 := (gc_ne zc9); have q43 := (zx7 zc9); have q44 := (g_eq0 zx12.1); have q45 := (gc_ne zc13); have q46 := (g_em2 zx14.1 (by decide : Int32.toInt 10 = 10)); have q47 := (congrArg Int32.toInt zx18); have q48 := (@g_here_lt F2 R); have q49 := (congrArg Int32.toInt (show F2 16 = F 16 from (fF2 16 rfl))); have q50 := (g_eq0 zx19.1); have q51 := (g_eq0 zx20.1); have q52 := (g_eq0 zx22.1); have q53 := (congrArg Int32.toInt (show F23 15 = x22 from (g_pu1 hF23))); have q54 := (congrArg Int32.toInt (show F23 18 = x20 from ((g_pu2 hF23 rfl).trans (g_pu1 hF21)))); have q55 := (congrArg Int32.toInt (show F23 15 = x22 from (g_pu1 hF23))); have q56 := (congrArg Int32.toInt (show F23 15 = x22 from (g_pu1 hF23))); omega) (Nat.le_of_lt_succ hm10))
        · have p24 := gn_eq 5 220 (gc_eq zc13) (g_ok_g oF2 1 rfl) zx12.2 (by decide)
          have p25 := gn_eq 5 220 (gc_eq zc13).symm zx12.2 (g_ok_g oF2 1 rfl) (by decide)
          have p26 : jv 0 215 (F 15) := ⟨by have q0 := (jv_k (x := 5) 5 (by decide)).1; have q1 := (jv_k (x := 5) 5 (by decide)).2; have q2 := (g_ok_g hI 1 rfl).1; have q3 := (g_ok_g hI 1 rfl).2; have q4 := p24.1; have q5 := p24.2; have q6 := p3.1; have q7 := p3.2; have q8 := p25.1; have q9 := p25.2; have q10 := zi10_0; have q11 := (g_eq0 zx12.1); have q12 := (gc_eq zc13); omega, by have q0 := (jv_k (x := 5) 5 (by decide)).1; have q1 := (jv_k (x := 5) 5 (by decide)).2; have q2 := (g_ok_g hI 1 rfl).1; have q3 := (g_ok_g hI 1 rfl).2; have q4 := p24.1; have q5 := p24.2; have q6 := p3.1; have q7 := p3.2; have q8 := p25.1; have q9 := p25.2; have q10 := zi10_0; have q11 := (g_eq0 zx12.1); have q12 := (gc_eq zc13); omega⟩
          refine g_aload_n cx 0 rfl e_X11_readsNumber_27 ?_
          refine g_iconst cx 2 (by decide) e_X11_readsNumber_28 ?_
          refine g_aload_n cx 0 rfl e_X11_readsNumber_29 ?_
          refine g_get cx cl_X11 fl_X11_190 0 (.int (F2 15)) e_X11_readsNumber_30 rfl rfl ?_
          refine g_cViW cx [.int 2, .int (F2 15)] [] (w_X11_wrongAt l X ad F2 R oF2 hA wTF2 wCF2 2 (F2 15)) ml_X11_204 yV_X11_wrongAt e_X11_readsNumber_33 (by unfold g_rr; decide) (by decide) 0 rfl rfl rfl (Nat.le_of_ble_eq_true rfl) (fun r27 w28 h29 => ?_)
          obtain ⟨F30, R31, rfl, oF30, oR31, wTF30, wCF30, cF30, cR31, pr27⟩ := h29
          have fF30 : g_fr md_X11_readsNumber F F30 := g_fr_c fF2 cF30 rfl
          have fR31 : g_fr mr_X11_readsNumber R R31 := g_fr_c (g_fr_rf R) cR31 rfl
          exact hret e_X11_readsNumber_36 (Nat.le_of_ble_eq_true rfl) (Nat.le_of_ble_eq_true rfl) (g_narb (jv_w pr27 (by decide))) ⟨F30, R31, rfl, oF30, oR31, wTF30, wCF30, fF30, fR31, (jv_w pr27 (by decide)), (fun h0 => absurd (by first | rfl | exact jv_c 0 pr27 (by decide)) h0)⟩
  refine g_lsub [1, 0] [(0, .ref (ad 0)), (1, .int (F 15))] rfl ?_
  exact J10 _ F1 oF1 fF1 wTF1 wCF1 (by have q0 := (jv_k (x := 0) 0 (by decide)).1; have q1 := (jv_k (x := 0) 0 (by decide)).2; have q2 := (g_ok_g hI 1 rfl).1; have q3 := (g_ok_g hI 1 rfl).2; have q4 := (g_ok_g oF1 1 rfl).1; have q5 := (g_ok_g oF1 1 rfl).2; have q6 := (jv_t (F1 18)).1; have q7 := (jv_t (F1 18)).2; have q8 := (congrArg Int32.toInt (show F1 15 = F 15 from (g_pu2 hF1 rfl))); have q9 := (congrArg Int32.toInt (show F1 18 = 0 from (g_pu1 hF1))); omega) (Nat.lt_succ_self _)
