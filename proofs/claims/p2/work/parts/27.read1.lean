theorem tp_cons {L : List (Int × Nat)} (h : 0 ≤ tp L) : ∃ (o : Int) (r : Nat) (L2 : List (Int × Nat)), L = (o, r) :: L2 := by
  cases L with
  | nil => simp only [tp] at h; omega
  | cons q L2 => exact ⟨q.1, q.2, L2, rfl⟩
theorem PS_room {F : Nat → Int32} {R : Nat → Nat → Int32} {A : Nat} {L : List (Int × Nat)} {h o : Int} {r : Nat} (p : PS F R A ((o, r) :: L) h) (ho : 2 ≤ o ∧ o ≤ 6 ∨ o = 10) : (F 25).toInt + 1 ≤ (F 15).toInt := by
  have h1 := p.2.2.2.2.1
  have h2 := cg_0 L
  simp only [cg] at h1
  rw [if_pos ho] at h1
  omega
theorem PS_close {F F' : Nat → Int32} {R R' : Nat → Nat → Int32} {A : Nat} {L : List (Int × Nat)} {h o : Int} {r : Nat} {x : Int32} (p : PS F R A ((o, r) :: L) h) (ho : 2 ≤ o ∧ o ≤ 6) (hcb : cb ((o, r) :: L) + 1 ≤ h) (h0 : 0 ≤ (F 25).toInt) (hx : x.toInt = 1048576 * o) (e25 : (F' 25).toInt = (F 25).toInt + 1) (e26 : (F' 26).toInt = (F 26).toInt - 1) (e15 : F' 15 = F 15) (e12 : R' 12 = upd (R 12) (F 25).toInt.toNat x) (e13 : R' 13 = R 13) : PS F' R' A L (h - 1) ∧ cb L + 1 ≤ h - 1 := by
  have hop : g_op x = o := by unfold g_op; omega
  have hb := cg_0 L
  have hcb2 : cb ((o, r) :: L) = cb L + 1 := by simp only [cb]; rw [if_pos ho]
  obtain ⟨p1, p2, p3, p4, p5, p6⟩ := p
  simp only [cg] at p5
  rw [if_pos (Or.inl ho)] at p5
  simp only [List.length_cons] at p3 p6
  have e : (F' 25).toInt.toNat = (F 25).toInt.toNat + 1 := by omega
  have hA := p1.1
  refine ⟨⟨?_, ?_, by omega, ?_, by rw [e15]; omega, by rw [e15]; omega⟩, by omega⟩
  · rw [e12, e]
    exact PC_note (PC_pop p1 (by omega)) ⟨fun q => absurd q (by omega), fun _ => by rw [p4]; omega, fun _ _ => by rw [p4]; omega⟩ (by omega)
  · rw [e13]
    exact p2.2.2.2.2
  · rw [e12, e, show (F 25).toInt.toNat + 1 - A = ((F 25).toInt.toNat - A) + 1 from by omega, g_ht, g_ht_u (by omega), p4, show A + ((F 25).toInt.toNat - A) = (F 25).toInt.toNat from by omega, g_us]
    have := g_dl_c x
    omega

theorem e_X11_notes_0 : g_dc cX11_notes 0 (.aload_n 0) 1 1 := ⟨by decide +kernel, rfl⟩
theorem e_X11_notes_1 : g_dc cX11_notes 1 (.getfield 44) 3 4 := ⟨by decide +kernel, rfl⟩
theorem e_X11_notes_4 : g_dc cX11_notes 4 (.aload_n 0) 1 5 := ⟨by decide +kernel, rfl⟩
theorem e_X11_notes_5 : g_dc cX11_notes 5 (.getfield 231) 3 8 := ⟨by decide +kernel, rfl⟩
theorem e_X11_notes_8 : g_dc cX11_notes 8 (.ldc 234) 2 10 := ⟨by decide +kernel, rfl⟩
theorem e_X11_notes_10 : g_dc cX11_notes 10 (.iload_n 1) 1 11 := ⟨by decide +kernel, rfl⟩
theorem e_X11_notes_11 : g_dc cX11_notes 11 (.imul) 1 12 := ⟨by decide +kernel, rfl⟩
theorem e_X11_notes_12 : g_dc cX11_notes 12 (.iload_n 2) 1 13 := ⟨by decide +kernel, rfl⟩
theorem e_X11_notes_13 : g_dc cX11_notes 13 (.iadd) 1 14 := ⟨by decide +kernel, rfl⟩
theorem e_X11_notes_14 : g_dc cX11_notes 14 (.iastore) 1 15 := ⟨by decide +kernel, rfl⟩
theorem e_X11_notes_15 : g_dc cX11_notes 15 (.aload_n 0) 1 16 := ⟨by decide +kernel, rfl⟩
theorem e_X11_notes_16 : g_dc cX11_notes 16 (.aload_n 0) 1 17 := ⟨by decide +kernel, rfl⟩
theorem e_X11_notes_17 : g_dc cX11_notes 17 (.getfield 231) 3 20 := ⟨by decide +kernel, rfl⟩
theorem e_X11_notes_20 : g_dc cX11_notes 20 (.iconst 1) 1 21 := ⟨by decide +kernel, rfl⟩
theorem e_X11_notes_21 : g_dc cX11_notes 21 (.iadd) 1 22 := ⟨by decide +kernel, rfl⟩
theorem e_X11_notes_22 : g_dc cX11_notes 22 (.putfield 231) 3 25 := ⟨by decide +kernel, rfl⟩
theorem e_X11_notes_25 : g_dc cX11_notes 25 (.return_) 1 26 := ⟨by decide +kernel, rfl⟩
def md_X11_notes : List Nat := [25]
def mr_X11_notes : List Nat := [12]
set_option maxHeartbeats 4000000 in
set_option maxRecDepth 100000 in
theorem w_X11_notes (l : Launch) (X : gX) (ad : Nat → Nat) (F : Nat → Int32) (R : Nat → Nat → Int32) (hI : g_ok LK_wM F) (hA : g_okR LA_wM R) (hWT : WT F R) (hWC : WC F R) (a0 : Int32) (a1 : Int32) (pa0 : jv 0 12 a0) (pa1 : jv 0 1048575 a1) (hn : (F 25).toInt ≤ 219) : g_Cv l X yX11_notes cX11_notes 3 1 0 0 [.ref (ad 0), .int a0, .int a1] (wM X ad F R) (fun w => ∃ (F' : Nat → Int32) (R' : Nat → Nat → Int32), w = wM X ad F' R' ∧ g_ok LK_wM F' ∧ g_okR LA_wM R' ∧ WT F' R' ∧ WC F' R' ∧ g_fr md_X11_notes F F' ∧ g_fr mr_X11_notes R R' ∧ (F' 25).toInt = (F 25).toInt + 1 ∧ (∃ x : Int32, x.toInt = 1048576 * a0.toInt + a1.toInt ∧ R' 12 = upd (R 12) (F 25).toInt.toNat x)) := by
  refine g_mv (by decide +kernel) (Nat.le_of_ble_eq_true rfl) (fun E cx hret => ?_)
  refine g_aload_n cx 0 rfl e_X11_notes_0 ?_
  refine g_get cx cl_X11 fl_X11_44 0 (.ref (ad 12)) e_X11_notes_1 rfl rfl ?_
  refine g_aload_n cx 0 rfl e_X11_notes_4 ?_
  refine g_get cx cl_X11 fl_X11_231 0 (.int (F 25)) e_X11_notes_5 rfl rfl ?_
  refine g_ldc cx 1048576 kc_X11_234 e_X11_notes_8 ?_
  refine g_iload_n cx 1 rfl e_X11_notes_10 ?_
  refine g_imul cx e_X11_notes_11 ?_
  refine g_topi (fun x1 ex1 => ?_)
  have zx1 := jv_mul 0 12582912 ex1 (jv_k (x := 1048576) 1048576 (by decide)) pa0 (by decide)
  refine g_iload_n cx 2 rfl e_X11_notes_12 ?_
  refine g_iadd cx e_X11_notes_13 ?_
  refine g_topi (fun x2 ex2 => ?_)
  have zx2 := jv_add 0 13631487 ex2 zx1.2 pa1 (by decide)
  refine g_iast cx 12 (wM X ad F (g_u R 12 (upd (R 12) (Int32.toNatClampNeg (F 25)) x2))) e_X11_notes_14 rfl (vp_in_iff.mpr ⟨by have q0 := (g_ok_g hI 7 rfl).1; have q1 := (g_ok_g hI 7 rfl).2; have q2 := hn; omega, by have q0 := (g_ok_g hI 7 rfl).1; have q1 := (g_ok_g hI 7 rfl).2; have q2 := hn; omega⟩) rfl ?_
  obtain ⟨R3, hR3⟩ : ∃ z, z = g_u R 12 (upd (R 12) (Int32.toNatClampNeg (F 25)) x2) := ⟨_, rfl⟩
  rw [← hR3]
  have oR3 : g_okR LA_wM R3 := by rw [hR3]; exact g_okR_p hA zx2.2 rfl
  have fR3 : g_fr mr_X11_notes R R3 := by rw [hR3]; exact g_fr_r (g_fr_rf R) rfl
  have wTR3 : WT F R3 := by rw [hR3]; exact WT_r hWT rfl
  have wCR3 : WC F R3 := by rw [hR3]; exact WC_r hWC rfl
  refine g_aload_n cx 0 rfl e_X11_notes_15 ?_
  refine g_aload_n cx 0 rfl e_X11_notes_16 ?_
  refine g_get cx cl_X11 fl_X11_231 0 (.int (F 25)) e_X11_notes_17 rfl rfl ?_
  refine g_iconst cx 1 (by decide) e_X11_notes_20 ?_
  refine g_iadd cx e_X11_notes_21 ?_
  refine g_topi (fun x4 ex4 => ?_)
  have zx4 := jv_add 1 221 ex4 (g_ok_g hI 7 rfl) (jv_k (x := 1) 1 (by decide)) (by decide)
  refine g_put cx cl_X11 fl_X11_231 0 (wM X ad (upd F 25 x4) R3) e_X11_notes_22 rfl rfl rfl rfl (Nat.le_of_ble_eq_true rfl) rfl ?_
  obtain ⟨F5, hF5⟩ : ∃ z, z = upd F 25 x4 := ⟨_, rfl⟩
  rw [← hF5]
  have oF5 : g_ok LK_wM F5 := by rw [hF5]; exact g_ok_p hI (show jv 0 220 _ from ⟨by have q0 := (jv_k (x := 1) 1 (by decide)).1; have q1 := (jv_k (x := 1) 1 (by decide)).2; have q2 := (g_ok_g hI 7 rfl).1; have q3 := (g_ok_g hI 7 rfl).2; have q4 := zx4.2.1; have q5 := zx4.2.2; have q6 := hn; have q7 := (g_eq0 zx4.1); omega, by have q0 := (jv_k (x := 1) 1 (by decide)).1; have q1 := (jv_k (x := 1) 1 (by decide)).2; have q2 := (g_ok_g hI 7 rfl).1; have q3 := (g_ok_g hI 7 rfl).2; have q4 := zx4.2.1; have q5 := zx4.2.2; have q6 := hn; have q7 := (g_eq0 zx4.1); omega⟩) rfl
  have fF5 : g_fr md_X11_notes F F5 := by rw [hF5]; exact g_fr_u (g_fr_rf F) rfl
  have wTF5 : WT F5 R3 := by rw [hF5]; exact WT_u wTR3 rfl
  have wCF5 : WC F5 R3 := by rw [hF5]; exact WC_u wCR3 rfl
  exact hret e_X11_notes_25 (Nat.le_of_ble_eq_true rfl) (Nat.le_of_ble_eq_true rfl) ⟨F5, R3, rfl, oF5, oR3, wTF5, wCF5, fF5, fR3, (by have q0 := (jv_k (x := 1) 1 (by decide)).1; have q1 := (jv_k (x := 1) 1 (by decide)).2; have q2 := (g_ok_g hI 7 rfl).1; have q3 := (g_ok_g hI 7 rfl).2; have q4 := (g_ok_g oF5 7 rfl).1; have q5 := (g_ok_g oF5 7 rfl).2; have q6 := zx4.2.1; have q7 := zx4.2.2; have q8 := hn; have q9 := (g_eq0 zx4.1); have q10 := (congrArg Int32.toInt (show F5 25 = x4 from (g_pu1 hF5))); omega), ⟨x2, by have q0 := pa0.1; have q1 := pa0.2; have q2 := pa1.1; have q3 := pa1.2; have q4 := zx1.2.1; have q5 := zx1.2.2; have q6 := zx2.2.1; have q7 := zx2.2.2; have q8 := (g_em2 zx1.1 (by decide : Int32.toInt 1048576 = 1048576)); have q9 := (g_eq0 zx2.1); omega, (g_ru1 hR3)⟩⟩
theorem e_X11_waitTop_0 : g_dc cX11_waitTop 0 (.aload_n 0) 1 1 := ⟨by decide +kernel, rfl⟩
theorem e_X11_waitTop_1 : g_dc cX11_waitTop 1 (.getfield 238) 3 4 := ⟨by decide +kernel, rfl⟩
theorem e_X11_waitTop_4 : g_dc cX11_waitTop 4 (.ifCond .ne 7) 3 7 := ⟨by decide +kernel, rfl⟩
theorem e_X11_waitTop_7 : g_dc cX11_waitTop 7 (.iconst (-1)) 1 8 := ⟨by decide +kernel, rfl⟩
theorem e_X11_waitTop_8 : g_dc cX11_waitTop 8 (.goto 17) 3 11 := ⟨by decide +kernel, rfl⟩
theorem e_X11_waitTop_11 : g_dc cX11_waitTop 11 (.aload_n 0) 1 12 := ⟨by decide +kernel, rfl⟩
theorem e_X11_waitTop_12 : g_dc cX11_waitTop 12 (.getfield 47) 3 15 := ⟨by decide +kernel, rfl⟩
theorem e_X11_waitTop_15 : g_dc cX11_waitTop 15 (.aload_n 0) 1 16 := ⟨by decide +kernel, rfl⟩
theorem e_X11_waitTop_16 : g_dc cX11_waitTop 16 (.getfield 238) 3 19 := ⟨by decide +kernel, rfl⟩
theorem e_X11_waitTop_19 : g_dc cX11_waitTop 19 (.iconst 1) 1 20 := ⟨by decide +kernel, rfl⟩
theorem e_X11_waitTop_20 : g_dc cX11_waitTop 20 (.isub) 1 21 := ⟨by decide +kernel, rfl⟩
theorem e_X11_waitTop_21 : g_dc cX11_waitTop 21 (.iaload) 1 22 := ⟨by decide +kernel, rfl⟩
theorem e_X11_waitTop_22 : g_dc cX11_waitTop 22 (.ldc 234) 2 24 := ⟨by decide +kernel, rfl⟩
theorem e_X11_waitTop_24 : g_dc cX11_waitTop 24 (.idiv) 1 25 := ⟨by decide +kernel, rfl⟩
theorem e_X11_waitTop_25 : g_dc cX11_waitTop 25 (.ireturn) 1 26 := ⟨by decide +kernel, rfl⟩
set_option maxHeartbeats 4000000 in
set_option maxRecDepth 100000 in
theorem w_X11_waitTop (l : Launch) (X : gX) (ad : Nat → Nat) (F : Nat → Int32) (R : Nat → Nat → Int32) (hI : g_ok LK_wM F) (hA : g_okR LA_wM R) (L : List (Int × Nat)) (hw : WS (R 13) L) (hl : (L.length : Int) = (F 26).toInt) : g_Ci l X yX11_waitTop cX11_waitTop 1 (some .int) 1 0 0 [.ref (ad 0)] (wM X ad F R) (fun r w => w = wM X ad F R ∧ jv (-1) 14 r ∧ r.toInt = tp L) := by
  refine g_mi (by decide +kernel) (Nat.le_of_ble_eq_true rfl) (fun E cx hret => ?_)
  refine g_aload_n cx 0 rfl e_X11_waitTop_0 ?_
  refine g_get cx cl_X11 fl_X11_238 0 (.int (F 26)) e_X11_waitTop_1 rfl rfl ?_
  refine g_if_ne cx 11 e_X11_waitTop_4 (by decide) (fun zc1 => ?_) (fun zc1 => ?_)
  · have p2 := gn_neL 1 220 (gc_ne zc1) (g_ok_g hI 8 rfl) (jv_k (x := 0) 0 (by decide)) (by decide)
    refine g_aload_n cx 0 rfl e_X11_waitTop_11 ?_
    refine g_get cx cl_X11 fl_X11_47 0 (.ref (ad 13)) e_X11_waitTop_12 rfl rfl ?_
    refine g_aload_n cx 0 rfl e_X11_waitTop_15 ?_
    refine g_get cx cl_X11 fl_X11_238 0 (.int (F 26)) e_X11_waitTop_16 rfl rfl ?_
    refine g_iconst cx 1 (by decide) e_X11_waitTop_19 ?_
    refine g_isub cx e_X11_waitTop_20 ?_
    refine g_topi (fun x3 ex3 => ?_)
    have zx3 := jv_sub 0 219 ex3 p2 (jv_k (x := 1) 1 (by decide)) (by decide)
    refine g_iald cx 13 e_X11_waitTop_21 rfl (jv_ix 220 zx3.2 (by decide)) ?_
    refine g_topi (fun x4 ex4 => ?_)
    have p5 : jv 0 15728639 x4 := by rw [ex4]; exact g_okR_g hA 1 rfl (jv_cl 220 zx3.2 (by decide))
    refine g_ldc cx 1048576 kc_X11_234 e_X11_waitTop_22 ?_
    refine g_idiv cx (by decide) e_X11_waitTop_24 ?_
    refine g_topi (fun x6 ex6 => ?_)
    have zx6 := jv_div 0 14 ex6 p5 (jv_k (x := 1048576) 1048576 (by decide)) (by decide)
    exact hret e_X11_waitTop_25 (Nat.le_of_ble_eq_true rfl) (Nat.le_of_ble_eq_true rfl) rfl ⟨rfl, (jv_w zx6.2 (by decide)), (WS_tp hw hl (by have q0 := (jv_k (x := 0) 0 (by decide)).1; have q1 := (jv_k (x := 0) 0 (by decide)).2; have q2 := (jv_k (x := 1) 1 (by decide)).1; have q3 := (jv_k (x := 1) 1 (by decide)).2; have q4 := p2.1; have q5 := p2.2; have q6 := zx3.2.1; have q7 := zx3.2.2; have q8 := (gc_ne zc1); have q9 := (g_eq0 zx3.1); omega) (by have q0 := (jv_k (x := 0) 0 (by decide)).1; have q1 := (jv_k (x := 0) 0 (by decide)).2; have q2 := (jv_k (x := 1) 1 (by decide)).1; have q3 := (jv_k (x := 1) 1 (by decide)).2; have q4 := p2.1; have q5 := p2.2; have q6 := zx3.2.1; have q7 := zx3.2.2; have q8 := (gc_ne zc1); have q9 := (g_eq0 zx3.1); omega) ex4 (g_ed zx6.1 (by decide : Int32.toInt 1048576 = 1048576)))⟩
  · have p7 := gn_eq 0 0 (gc_eq zc1) (g_ok_g hI 8 rfl) (jv_k (x := 0) 0 (by decide)) (by decide)
    refine g_iconst cx (-1) (by decide) e_X11_waitTop_7 ?_
    refine g_goto cx 25 e_X11_waitTop_8 (by decide) ?_
    exact hret e_X11_waitTop_25 (Nat.le_of_ble_eq_true rfl) (Nat.le_of_ble_eq_true rfl) rfl ⟨rfl, (jv_w (jv_k (x := (-1)) (-1) (by decide)) (by decide)), (WS_tp0 hl (by have q0 := (jv_k (x := 0) 0 (by decide)).1; have q1 := (jv_k (x := 0) 0 (by decide)).2; have q2 := p7.1; have q3 := p7.2; have q4 := (gc_eq zc1); omega))⟩
theorem e_X11_closesSums_0 : g_dc cX11_closesSums 0 (.aload_n 0) 1 1 := ⟨by decide +kernel, rfl⟩
theorem e_X11_closesSums_1 : g_dc cX11_closesSums 1 (.invokevirtual 241) 3 4 := ⟨by decide +kernel, rfl⟩
theorem e_X11_closesSums_4 : g_dc cX11_closesSums 4 (.iconst 4) 1 5 := ⟨by decide +kernel, rfl⟩
theorem e_X11_closesSums_5 : g_dc cX11_closesSums 5 (.if_icmp .lt 12) 3 8 := ⟨by decide +kernel, rfl⟩
theorem e_X11_closesSums_8 : g_dc cX11_closesSums 8 (.aload_n 0) 1 9 := ⟨by decide +kernel, rfl⟩
theorem e_X11_closesSums_9 : g_dc cX11_closesSums 9 (.invokevirtual 241) 3 12 := ⟨by decide +kernel, rfl⟩
theorem e_X11_closesSums_12 : g_dc cX11_closesSums 12 (.bipush 6) 2 14 := ⟨by decide +kernel, rfl⟩
theorem e_X11_closesSums_14 : g_dc cX11_closesSums 14 (.if_icmp .le 23) 3 17 := ⟨by decide +kernel, rfl⟩
theorem e_X11_closesSums_17 : g_dc cX11_closesSums 17 (.iload_n 1) 1 18 := ⟨by decide +kernel, rfl⟩
theorem e_X11_closesSums_18 : g_dc cX11_closesSums 18 (.ifCond .eq 41) 3 21 := ⟨by decide +kernel, rfl⟩
theorem e_X11_closesSums_21 : g_dc cX11_closesSums 21 (.aload_n 0) 1 22 := ⟨by decide +kernel, rfl⟩
theorem e_X11_closesSums_22 : g_dc cX11_closesSums 22 (.invokevirtual 241) 3 25 := ⟨by decide +kernel, rfl⟩
theorem e_X11_closesSums_25 : g_dc cX11_closesSums 25 (.iconst 2) 1 26 := ⟨by decide +kernel, rfl⟩
theorem e_X11_closesSums_26 : g_dc cX11_closesSums 26 (.if_icmp .eq 11) 3 29 := ⟨by decide +kernel, rfl⟩
theorem e_X11_closesSums_29 : g_dc cX11_closesSums 29 (.aload_n 0) 1 30 := ⟨by decide +kernel, rfl⟩
theorem e_X11_closesSums_30 : g_dc cX11_closesSums 30 (.invokevirtual 241) 3 33 := ⟨by decide +kernel, rfl⟩
theorem e_X11_closesSums_33 : g_dc cX11_closesSums 33 (.iconst 3) 1 34 := ⟨by decide +kernel, rfl⟩
theorem e_X11_closesSums_34 : g_dc cX11_closesSums 34 (.if_icmp .ne 25) 3 37 := ⟨by decide +kernel, rfl⟩
theorem e_X11_closesSums_37 : g_dc cX11_closesSums 37 (.aload_n 0) 1 38 := ⟨by decide +kernel, rfl⟩
theorem e_X11_closesSums_38 : g_dc cX11_closesSums 38 (.aload_n 0) 1 39 := ⟨by decide +kernel, rfl⟩
theorem e_X11_closesSums_39 : g_dc cX11_closesSums 39 (.invokevirtual 241) 3 42 := ⟨by decide +kernel, rfl⟩
theorem e_X11_closesSums_42 : g_dc cX11_closesSums 42 (.iconst 0) 1 43 := ⟨by decide +kernel, rfl⟩
theorem e_X11_closesSums_43 : g_dc cX11_closesSums 43 (.invokevirtual 244) 3 46 := ⟨by decide +kernel, rfl⟩
theorem e_X11_closesSums_46 : g_dc cX11_closesSums 46 (.aload_n 0) 1 47 := ⟨by decide +kernel, rfl⟩
theorem e_X11_closesSums_47 : g_dc cX11_closesSums 47 (.aload_n 0) 1 48 := ⟨by decide +kernel, rfl⟩
theorem e_X11_closesSums_48 : g_dc cX11_closesSums 48 (.getfield 238) 3 51 := ⟨by decide +kernel, rfl⟩
theorem e_X11_closesSums_51 : g_dc cX11_closesSums 51 (.iconst 1) 1 52 := ⟨by decide +kernel, rfl⟩
theorem e_X11_closesSums_52 : g_dc cX11_closesSums 52 (.isub) 1 53 := ⟨by decide +kernel, rfl⟩
theorem e_X11_closesSums_53 : g_dc cX11_closesSums 53 (.putfield 238) 3 56 := ⟨by decide +kernel, rfl⟩
theorem e_X11_closesSums_56 : g_dc cX11_closesSums 56 (.goto (-56)) 3 59 := ⟨by decide +kernel, rfl⟩
theorem e_X11_closesSums_59 : g_dc cX11_closesSums 59 (.return_) 1 60 := ⟨by decide +kernel, rfl⟩
def md_X11_closesSums : List Nat := [25, 26]
def mr_X11_closesSums : List Nat := [12]
set_option maxHeartbeats 4000000 in
set_option maxRecDepth 100000 in
theorem w_X11_closesSums (l : Launch) (X : gX) (ad : Nat → Nat) (F : Nat → Int32) (R : Nat → Nat → Int32) (hI : g_ok LK_wM F) (hA : g_okR LA_wM R) (hWT : WT F R) (hWC : WC F R) (a0 : Int32) (pa0 : jv 0 1 a0) (A : Nat) (L : List (Int × Nat)) (h : Int) (hps : PS F R A L h) (hcb : cb L + 1 ≤ h) : g_Cv l X yX11_closesSums cX11_closesSums 2 2 0 0 [.ref (ad 0), .int a0] (wM X ad F R) (fun w => ∃ (F' : Nat → Int32) (R' : Nat → Nat → Int32), w = wM X ad F' R' ∧ g_ok LK_wM F' ∧ g_okR LA_wM R' ∧ WT F' R' ∧ WC F' R' ∧ g_fr md_X11_closesSums F F' ∧ g_fr mr_X11_closesSums R R' ∧ (∃ (M L1 : List (Int × Nat)), L = M ++ L1 ∧ (∀ q ∈ M, 2 ≤ q.1 ∧ q.1 ≤ 6) ∧ PS F' R' A L1 (h - M.length) ∧ (¬ a0 = 0 → tp L1 < 2 ∨ 6 < tp L1) ∧ (∀ k, k < (F 25).toInt.toNat → R' 12 k = R 12 k) ∧ (F 25).toInt ≤ (F' 25).toInt)) := by
  refine g_mv (by decide +kernel) (Nat.le_of_ble_eq_true rfl) (fun E cx hret => ?_)
  have J0 : ∀ (N : Nat) (F1 : Nat → Int32) (R2 : Nat → Nat → Int32), (g_ok LK_wM F1) → (g_fr md_X11_closesSums F F1) → (g_okR LA_wM R2) → (g_fr mr_X11_closesSums R R2) → (WT F1 R2) → (WC F1 R2) → (∃ (M L1 : List (Int × Nat)), L = M ++ L1 ∧ (∀ q ∈ M, 2 ≤ q.1 ∧ q.1 ≤ 6) ∧ PS F1 R2 A L1 (h - M.length) ∧ cb L1 + 1 ≤ h - M.length ∧ (∀ k, k < (F 25).toInt.toNat → R2 12 k = R 12 k) ∧ (F 25).toInt ≤ (F1 25).toInt) → (F1 26).toInt.toNat < N → G X E 2 0 0 (wM X ad F1 R2) [(0, .ref (ad 0)), (1, .int a0)] 0 [] := by
    intro N
    induction N with
    | zero => intro F1 R2 oF1 fF1 oR2 fR2 wTF1R2 wCF1R2 zq0_0 hm; exact absurd hm (Nat.not_lt_zero _)
    | succ N ih0 =>
      intro F1 R2 oF1 fF1 oR2 fR2 wTF1R2 wCF1R2 zq0_0 hm0
      obtain ⟨M, L1, eL, hM, ps, hcb1, hk, h25⟩ := zq0_0
      refine g_aload_n cx 0 rfl e_X11_closesSums_0 ?_
      refine g_cViW cx [] [] (w_X11_waitTop l X ad F1 R2 oF1 oR2 (L1) ps.2.1 ps.2.2.1) ml_X11_241 yV_X11_waitTop e_X11_closesSums_1 (by unfold g_rr; decide) (by decide) 0 rfl rfl rfl (Nat.le_of_ble_eq_true rfl) (fun r3 w4 h5 => ?_)
      obtain ⟨rfl, pr3, zx6⟩ := h5
      refine g_iconst cx 4 (by decide) e_X11_closesSums_4 ?_
      have J37 : (2 ≤ tp L1 ∧ tp L1 ≤ 6) → G X E 2 0 0 (wM X ad F1 R2) [(0, .ref (ad 0)), (1, .int a0)] 37 [] := by
        intro  zi37_0
        obtain ⟨o, r, L2, rfl⟩ := tp_cons (L := L1) (by omega)
        have ho : 2 ≤ o ∧ o ≤ 6 := zi37_0
        have hroom := PS_room ps (Or.inl ho)
        have hlen : 1 ≤ (F1 26).toInt := by have q := ps.2.2.1; simp only [List.length_cons] at q; omega
        have htp : tp ((o, r) :: L2) = o := rfl
        refine g_aload_n cx 0 rfl e_X11_closesSums_37 ?_
        refine g_aload_n cx 0 rfl e_X11_closesSums_38 ?_
        refine g_cViW cx [] [.ref (ad 0)] (w_X11_waitTop l X ad F1 R2 oF1 oR2 (((o, r) :: L2)) ps.2.1 ps.2.2.1) ml_X11_241 yV_X11_waitTop e_X11_closesSums_39 (by unfold g_rr; decide) (by decide) 0 rfl rfl rfl (Nat.le_of_ble_eq_true rfl) (fun r7 w8 h9 => ?_)
        obtain ⟨rfl, pr7, zx10⟩ := h9
        refine g_iconst cx 0 (by decide) e_X11_closesSums_42 ?_
        refine g_cVvW cx [.int r7, .int 0] [] (w_X11_notes l X ad F1 R2 oF1 oR2 wTF1R2 wCF1R2 r7 0 (show jv 0 12 r7 from ⟨by have q0 := (g_ok_g oF1 8 rfl).1; have q1 := (g_ok_g oF1 8 rfl).2; have q2 := pr3.1; have q3 := pr3.2; have q4 := pr7.1; have q5 := pr7.2; have q6 := zx6; have q7 := zi37_0; have q8 := hlen; have q9 := htp; have q10 := zx10; omega, by have q0 := (g_ok_g oF1 8 rfl).1; have q1 := (g_ok_g oF1 8 rfl).2; have q2 := pr3.1; have q3 := pr3.2; have q4 := pr7.1; have q5 := pr7.2; have q6 := zx6; have q7 := zi37_0; have q8 := hlen; have q9 := htp; have q10 := zx10; omega⟩) (jv_w (jv_k (x := 0) 0 (by decide)) (by decide)) (by have q0 := (g_ok_g oF1 1 rfl).1; have q1 := (g_ok_g oF1 1 rfl).2; have q2 := (g_ok_g oF1 7 rfl).1; have q3 := (g_ok_g oF1 7 rfl).2; have q4 := hroom; omega)) ml_X11_244 yV_X11_notes e_X11_closesSums_43 (by unfold g_rr; decide) (by decide) 0 rfl rfl rfl (Nat.le_of_ble_eq_true rfl) (fun w12 h13 => ?_)
        obtain ⟨F16, R17, rfl, oF16, oR17, wTF16, wCF16, cF16, cR17, zx14, zx15⟩ := h13
        have fF16 : g_fr md_X11_closesSums F F16 := g_fr_c fF1 cF16 rfl
        have fR17 : g_fr mr_X11_closesSums R R17 := g_fr_c fR2 cR17 rfl
        refine g_aload_n cx 0 rfl e_X11_closesSums_46 ?_
        refine g_aload_n cx 0 rfl e_X11_closesSums_47 ?_
        refine g_get cx cl_X11 fl_X11_238 0 (.int (F16 26)) e_X11_closesSums_48 rfl rfl ?_
        refine g_toi (F1 26) (cF16 26 rfl) ?_
        refine g_iconst cx 1 (by decide) e_X11_closesSums_51 ?_
        refine g_isub cx e_X11_closesSums_52 ?_
        refine g_topi (fun x18 ex18 => ?_)
        have zx18 := jv_sub (-1) 219 ex18 (g_ok_g oF1 8 rfl) (jv_k (x := 1) 1 (by decide)) (by decide)
        refine g_put cx cl_X11 fl_X11_238 0 (wM X ad (upd F16 26 x18) R17) e_X11_closesSums_53 rfl rfl rfl rfl (Nat.le_of_ble_eq_true rfl) rfl ?_
        obtain ⟨F19, hF19⟩ : ∃ z, z = upd F16 26 x18 := ⟨_, rfl⟩
        rw [← hF19]
        have oF19 : g_ok LK_wM F19 := by rw [hF19]; exact g_ok_p oF16 (show jv 0 220 _ from ⟨by have q0 := (jv_k (x := 1) 1 (by decide)).1; have q1 := (jv_k (x := 1) 1 (by decide)).2; have q2 := (g_ok_g oF1 8 rfl).1; have q3 := (g_ok_g oF1 8 rfl).2; have q4 := pr3.1; have q5 := pr3.2; have q6 := pr7.1; have q7 := pr7.2; have q8 := zx18.2.1; have q9 := zx18.2.2; have q10 := zx6; have q11 := zi37_0; have q12 := hlen; have q13 := htp; have q14 := zx10; have q15 := (g_eq0 zx18.1); omega, by have q0 := (jv_k (x := 1) 1 (by decide)).1; have q1 := (jv_k (x := 1) 1 (by decide)).2; have q2 := (g_ok_g oF1 8 rfl).1; have q3 := (g_ok_g oF1 8 rfl).2; have q4 := pr3.1; have q5 := pr3.2; have q6 := pr7.1; have q7 := pr7.2; have q8 := zx18.2.1; have q9 := zx18.2.2; have q10 := zx6; have q11 := zi37_0; have q12 := hlen; have q13 := htp; have q14 := zx10; have q15 := (g_eq0 zx18.1); omega⟩) rfl
        have fF19 : g_fr md_X11_closesSums F F19 := by rw [hF19]; exact g_fr_u fF16 rfl
        have wTF19 : WT F19 R17 := by rw [hF19]; exact WT_u wTF16 rfl
        have wCF19 : WC F19 R17 := by rw [hF19]; exact WC_u wCF16 rfl
        refine g_goto cx 0 e_X11_closesSums_56 (by decide) ?_
        exact ih0 F19 R17 oF19 fF19 oR17 fR17 wTF19 wCF19 ((by
              obtain ⟨x, hx, e12⟩ := zx15
              have hc := PS_close (F' := F19) (R' := R17) ps ho hcb1 (by have q0 := (g_ok_g oF1 1 rfl).1; have q1 := (g_ok_g oF1 1 rfl).2; have q2 := (g_ok_g oF1 7 rfl).1; have q3 := (g_ok_g oF1 7 rfl).2; have q4 := (g_ok_g oF16 7 rfl).1; have q5 := (g_ok_g oF16 7 rfl).2; have q6 := hroom; have q7 := zx14; omega) (x := x) (by rw [hx]; have z0 : (0 : Int32).toInt = 0 := rfl; have q0 := (jv_k (x := 1) 1 (by decide)).1; have q1 := (jv_k (x := 1) 1 (by decide)).2; have q2 := (g_ok_g oF1 8 rfl).1; have q3 := (g_ok_g oF1 8 rfl).2; have q4 := pr3.1; have q5 := pr3.2; have q6 := pr7.1; have q7 := pr7.2; have q8 := zx18.2.1; have q9 := zx18.2.2; have q10 := zx6; have q11 := zi37_0; have q12 := hlen; have q13 := htp; have q14 := zx10; have q15 := (g_eq0 zx18.1); have q16 := zi37_0; omega) (by have q0 := (g_ok_g oF1 1 rfl).1; have q1 := (g_ok_g oF1 1 rfl).2; have q2 := (g_ok_g oF1 7 rfl).1; have q3 := (g_ok_g oF1 7 rfl).2; have q4 := (g_ok_g oF16 7 rfl).1; have q5 := (g_ok_g oF16 7 rfl).2; have q6 := (g_ok_g oF19 7 rfl).1; have q7 := (g_ok_g oF19 7 rfl).2; have q8 := hroom; have q9 := zx14; have q10 := (congrArg Int32.toInt (show F19 25 = F16 25 from (g_pu2 hF19 rfl))); omega) (by have q0 := (jv_k (x := 1) 1 (by decide)).1; have q1 := (jv_k (x := 1) 1 (by decide)).2; have q2 := (g_ok_g oF1 8 rfl).1; have q3 := (g_ok_g oF1 8 rfl).2; have q4 := (g_ok_g oF19 8 rfl).1; have q5 := (g_ok_g oF19 8 rfl).2; have q6 := pr3.1; have q7 := pr3.2; have q8 := pr7.1; have q9 := pr7.2; have q10 := zx18.2.1; have q11 := zx18.2.2; have q12 := zx6; have q13 := zi37_0; have q14 := hlen; have q15 := htp; have q16 := zx10; have q17 := (g_eq0 zx18.1); have q18 := (congrArg Int32.toInt (show F19 26 = x18 from (g_pu1 hF19))); omega) ((((g_pu2 hF19 rfl).trans (cF16 15 rfl)).trans (fF1 15 rfl)).trans (fF1 15 rfl).symm) e12 ((cR17 13 rfl))
              refine ⟨M ++ [(o, r)], L2, by rw [eL]; simp, fun q hq => ?_, by have e : h - ((M ++ [(o, r)]).length : Int) = h - (M.length : Int) - 1 := (by rw [List.length_append, List.length_singleton]; omega); rw [e]; exact hc.1, by have e : h - ((M ++ [(o, r)]).length : Int) = h - (M.length : Int) - 1 := (by rw [List.length_append, List.length_singleton]; omega); rw [e]; exact hc.2, fun k hk1 => ?_, by have q0 := (g_ok_g hI 7 rfl).1; have q1 := (g_ok_g hI 7 rfl).2; have q2 := (g_ok_g oF1 1 rfl).1; have q3 := (g_ok_g oF1 1 rfl).2; have q4 := (g_ok_g oF1 7 rfl).1; have q5 := (g_ok_g oF1 7 rfl).2; have q6 := (g_ok_g oF16 7 rfl).1; have q7 := (g_ok_g oF16 7 rfl).2; have q8 := (g_ok_g oF19 7 rfl).1; have q9 := (g_ok_g oF19 7 rfl).2; have q10 := hroom; have q11 := zx14; have q12 := (congrArg Int32.toInt (show F19 25 = F16 25 from (g_pu2 hF19 rfl))); have q13 := (congrArg Int32.toInt (show F19 25 = F16 25 from (g_pu2 hF19 rfl))); have q14 := h25; omega⟩
              · rcases List.mem_append.mp hq with q1 | q1
                · exact hM q q1
                · rw [List.mem_singleton.mp q1]; exact ho
              · rw [e12, g_un (by rw [bne_iff_ne]; intro q; omega)]; exact hk k hk1)) (Nat.lt_of_lt_of_le (show (F19 26).toInt.toNat < (F1 26).toInt.toNat from by have q0 := (jv_k (x := 1) 1 (by decide)).1; have q1 := (jv_k (x := 1) 1 (by decide)).2; have q2 := (g_ok_g oF1 8 rfl).1; have q3 := (g_ok_g oF1 8 rfl).2; have q4 := (g_ok_g oF19 8 rfl).1; have q5 := (g_ok_g oF19 8 rfl).2; have q6 := pr3.1; have q7 := pr3.2; have q8 := pr7.1; have q9 := pr7.2; have q10 := zx18.2.1; have q11 := zx18.2.2; have q12 := zx6; have q13 := zi37_0; have q14 := hlen; have q15 := htp; have q16 := zx10; have q17 := (g_eq0 zx18.1); have q18 := (congrArg Int32.toInt (show F19 26 = x18 from (g_pu1 hF19))); have q19 := (congrArg Int32.toInt (show F19 26 = x18 from (g_pu1 hF19))); have q20 := (congrArg Int32.toInt (show F19 26 = x18 from (g_pu1 hF19))); omega) (Nat.le_of_lt_succ hm0))
      refine g_icmp_lt cx 17 e_X11_closesSums_5 (by decide) (fun zc20 => ?_) (fun zc20 => ?_)
      · have p21 := gn_lt (-1) 3 (gc_lt zc20) pr3 (jv_k (x := 4) 4 (by decide)) (by decide)
        refine g_iload_n cx 1 rfl e_X11_closesSums_17 ?_
        refine g_if_eq cx 59 e_X11_closesSums_18 (by decide) (fun zc22 => ?_) (fun zc22 => ?_)
        · have p23 := gn_eq 0 0 (gc_eq zc22) pa0 (jv_k (x := 0) 0 (by decide)) (by decide)
          exact hret e_X11_closesSums_59 (Nat.le_of_ble_eq_true rfl) (Nat.le_of_ble_eq_true rfl) ⟨F1, R2, rfl, oF1, oR2, wTF1R2, wCF1R2, fF1, fR2, ⟨M, L1, eL, hM, ps, (by first | exact fun h0 => absurd (by assumption) h0 | exact fun _ => (by have q0 := (jv_k (x := 4) 4 (by decide)).1; have q1 := (jv_k (x := 4) 4 (by decide)).2; have q2 := (g_ok_g oF1 8 rfl).1; have q3 := (g_ok_g oF1 8 rfl).2; have q4 := p21.1; have q5 := p21.2; have q6 := zx6; have q7 := (gc_lt zc20); omega)), hk, h25⟩⟩
        · have p24 := gn_neL 1 1 (gc_ne zc22) pa0 (jv_k (x := 0) 0 (by decide)) (by decide)
          refine g_aload_n cx 0 rfl e_X11_closesSums_21 ?_
          refine g_cViW cx [] [] (w_X11_waitTop l X ad F1 R2 oF1 oR2 (L1) ps.2.1 ps.2.2.1) ml_X11_241 yV_X11_waitTop e_X11_closesSums_22 (by unfold g_rr; decide) (by decide) 0 rfl rfl rfl (Nat.le_of_ble_eq_true rfl) (fun r25 w26 h27 => ?_)
          obtain ⟨rfl, pr25, zx28⟩ := h27
          refine g_iconst cx 2 (by decide) e_X11_closesSums_25 ?_
          refine g_icmp_eq cx 37 e_X11_closesSums_26 (by decide) (fun zc29 => ?_) (fun zc29 => ?_)
          · have p30 := gn_eq 2 2 (gc_eq zc29) pr25 (jv_k (x := 2) 2 (by decide)) (by decide)
            exact J37  (by have q0 := (jv_k (x := 2) 2 (by decide)).1; have q1 := (jv_k (x := 2) 2 (by decide)).2; have q2 := (jv_k (x := 4) 4 (by decide)).1; have q3 := (jv_k (x := 4) 4 (by decide)).2; have q4 := (g_ok_g oF1 8 rfl).1; have q5 := (g_ok_g oF1 8 rfl).2; have q6 := p30.1; have q7 := p30.2; have q8 := p21.1; have q9 := p21.2; have q10 := zx6; have q11 := (gc_lt zc20); have q12 := zx28; have q13 := (gc_eq zc29); omega)
          · refine g_aload_n cx 0 rfl e_X11_closesSums_29 ?_
            refine g_cViW cx [] [] (w_X11_waitTop l X ad F1 R2 oF1 oR2 (L1) ps.2.1 ps.2.2.1) ml_X11_241 yV_X11_waitTop e_X11_closesSums_30 (by unfold g_rr; decide) (by decide) 0 rfl rfl rfl (Nat.le_of_ble_eq_true rfl) (fun r31 w32 h33 => ?_)
            obtain ⟨rfl, pr31, zx34⟩ := h33
            refine g_iconst cx 3 (by decide) e_X11_closesSums_33 ?_
            refine g_icmp_ne cx 59 e_X11_closesSums_34 (by decide) (fun zc35 => ?_) (fun zc35 => ?_)
            · exact hret e_X11_closesSums_59 (Nat.le_of_ble_eq_true rfl) (Nat.le_of_ble_eq_true rfl) ⟨F1, R2, rfl, oF1, oR2, wTF1R2, wCF1R2, fF1, fR2, ⟨M, L1, eL, hM, ps, (by first | exact fun h0 => absurd (by assumption) h0 | exact fun _ => (by have q0 := (jv_k (x := 2) 2 (by decide)).1; have q1 := (jv_k (x := 2) 2 (by decide)).2; have q2 := (jv_k (x := 3) 3 (by decide)).1; have q3 := (jv_k (x := 3) 3 (by decide)).2; have q4 := (jv_k (x := 4) 4 (by decide)).1; have q5 := (jv_k (x := 4) 4 (by decide)).2; have q6 := (g_ok_g oF1 8 rfl).1; have q7 := (g_ok_g oF1 8 rfl).2; have q8 := pr25.1; have q9 := pr25.2; have q10 := p21.1; have q11 := p21.2; have q12 := pr31.1; have q13 := pr31.2; have q14 := zx6; have q15 := (gc_lt zc20); have q16 := zx28; have q17 := (gc_ne zc29); have q18 := zx34; have q19 := (gc_ne zc35); omega)), hk, h25⟩⟩
            · have p36 := gn_eq 3 3 (gc_eq zc35) pr31 (jv_k (x := 3) 3 (by decide)) (by decide)
              exact J37  (by have q0 := (jv_k (x := 2) 2 (by decide)).1; have q1 := (jv_k (x := 2) 2 (by decide)).2; have q2 := (jv_k (x := 3) 3 (by decide)).1; have q3 := (jv_k (x := 3) 3 (by decide)).2; have q4 := (jv_k (x := 4) 4 (by decide)).1; have q5 := (jv_k (x := 4) 4 (by decide)).2; have q6 := (g_ok_g oF1 8 rfl).1; have q7 := (g_ok_g oF1 8 rfl).2; have q8 := pr25.1; have q9 := pr25.2; have q10 := p21.1; have q11 := p21.2; have q12 := p36.1; have q13 := p36.2; have q14 := zx6; have q15 := (gc_lt zc20); have q16 := zx28; have q17 := (gc_ne zc29); have q18 := zx34; have q19 := (gc_eq zc35); omega)
      · have p37 := gn_ge 4 14 (gc_nlt zc20) pr3 (jv_k (x := 4) 4 (by decide)) (by decide)
        refine g_aload_n cx 0 rfl e_X11_closesSums_8 ?_
        refine g_cViW cx [] [] (w_X11_waitTop l X ad F1 R2 oF1 oR2 (L1) ps.2.1 ps.2.2.1) ml_X11_241 yV_X11_waitTop e_X11_closesSums_9 (by unfold g_rr; decide) (by decide) 0 rfl rfl rfl (Nat.le_of_ble_eq_true rfl) (fun r38 w39 h40 => ?_)
        obtain ⟨rfl, pr38, zx41⟩ := h40
        refine g_bipush cx 6 (by decide) e_X11_closesSums_12 ?_
        refine g_icmp_le cx 37 e_X11_closesSums_14 (by decide) (fun zc42 => ?_) (fun zc42 => ?_)
        · have p43 := gn_le (-1) 6 (gc_le zc42) pr38 (jv_k (x := 6) 6 (by decide)) (by decide)
          exact J37  (by have q0 := (jv_k (x := 4) 4 (by decide)).1; have q1 := (jv_k (x := 4) 4 (by decide)).2; have q2 := (jv_k (x := 6) 6 (by decide)).1; have q3 := (jv_k (x := 6) 6 (by decide)).2; have q4 := (g_ok_g oF1 8 rfl).1; have q5 := (g_ok_g oF1 8 rfl).2; have q6 := p37.1; have q7 := p37.2; have q8 := p43.1; have q9 := p43.2; have q10 := zx6; have q11 := (gc_nlt zc20); have q12 := zx41; have q13 := (gc_le zc42); omega)
        · have p44 := gn_gt 7 14 (gc_nle zc42) pr38 (jv_k (x := 6) 6 (by decide)) (by decide)
          refine g_iload_n cx 1 rfl e_X11_closesSums_17 ?_
          refine g_if_eq cx 59 e_X11_closesSums_18 (by decide) (fun zc45 => ?_) (fun zc45 => ?_)
          · have p46 := gn_eq 0 0 (gc_eq zc45) pa0 (jv_k (x := 0) 0 (by decide)) (by decide)
            exact hret e_X11_closesSums_59 (Nat.le_of_ble_eq_true rfl) (Nat.le_of_ble_eq_true rfl) ⟨F1, R2, rfl, oF1, oR2, wTF1R2, wCF1R2, fF1, fR2, ⟨M, L1, eL, hM, ps, (by first | exact fun h0 => absurd (by assumption) h0 | exact fun _ => (by have q0 := (jv_k (x := 4) 4 (by decide)).1; have q1 := (jv_k (x := 4) 4 (by decide)).2; have q2 := (jv_k (x := 6) 6 (by decide)).1; have q3 := (jv_k (x := 6) 6 (by decide)).2; have q4 := (g_ok_g oF1 8 rfl).1; have q5 := (g_ok_g oF1 8 rfl).2; have q6 := p37.1; have q7 := p37.2; have q8 := p44.1; have q9 := p44.2; have q10 := zx6; have q11 := (gc_nlt zc20); have q12 := zx41; have q13 := (gc_nle zc42); omega)), hk, h25⟩⟩
          · have p47 := gn_neL 1 1 (gc_ne zc45) pa0 (jv_k (x := 0) 0 (by decide)) (by decide)
            refine g_aload_n cx 0 rfl e_X11_closesSums_21 ?_
            refine g_cViW cx [] [] (w_X11_waitTop l X ad F1 R2 oF1 oR2 (L1) ps.2.1 ps.2.2.1) ml_X11_241 yV_X11_waitTop e_X11_closesSums_22 (by unfold g_rr; decide) (by decide) 0 rfl rfl rfl (Nat.le_of_ble_eq_true rfl) (fun r48 w49 h50 => ?_)
            obtain ⟨rfl, pr48, zx51⟩ := h50
            refine g_iconst cx 2 (by decide) e_X11_closesSums_25 ?_
            refine g_icmp_eq cx 37 e_X11_closesSums_26 (by decide) (fun zc52 => ?_) (fun zc52 => ?_)
            · have p53 := gn_eq 2 2 (gc_eq zc52) pr48 (jv_k (x := 2) 2 (by decide)) (by decide)
              exact J37  (by have q0 := (jv_k (x := 2) 2 (by decide)).1; have q1 := (jv_k (x := 2) 2 (by decide)).2; have q2 := (jv_k (x := 4) 4 (by decide)).1; have q3 := (jv_k (x := 4) 4 (by decide)).2; have q4 := (jv_k (x := 6) 6 (by decide)).1; have q5 := (jv_k (x := 6) 6 (by decide)).2; have q6 := (g_ok_g oF1 8 rfl).1; have q7 := (g_ok_g oF1 8 rfl).2; have q8 := p37.1; have q9 := p37.2; have q10 := p44.1; have q11 := p44.2; have q12 := p53.1; have q13 := p53.2; have q14 := zx6; have q15 := (gc_nlt zc20); have q16 := zx41; have q17 := (gc_nle zc42); have q18 := zx51; have q19 := (gc_eq zc52); omega)
            · refine g_aload_n cx 0 rfl e_X11_closesSums_29 ?_
              refine g_cViW cx [] [] (w_X11_waitTop l X ad F1 R2 oF1 oR2 (L1) ps.2.1 ps.2.2.1) ml_X11_241 yV_X11_waitTop e_X11_closesSums_30 (by unfold g_rr; decide) (by decide) 0 rfl rfl rfl (Nat.le_of_ble_eq_true rfl) (fun r54 w55 h56 => ?_)
              obtain ⟨rfl, pr54, zx57⟩ := h56
              refine g_iconst cx 3 (by decide) e_X11_closesSums_33 ?_
              refine g_icmp_ne cx 59 e_X11_closesSums_34 (by decide) (fun zc58 => ?_) (fun zc58 => ?_)
              · exact hret e_X11_closesSums_59 (Nat.le_of_ble_eq_true rfl) (Nat.le_of_ble_eq_true rfl) ⟨F1, R2, rfl, oF1, oR2, wTF1R2, wCF1R2, fF1, fR2, ⟨M, L1, eL, hM, ps, (by first | exact fun h0 => absurd (by assumption) h0 | exact fun _ => (by have q0 := (jv_k (x := 2) 2 (by decide)).1; have q1 := (jv_k (x := 2) 2 (by decide)).2; have q2 := (jv_k (x := 3) 3 (by decide)).1; have q3 := (jv_k (x := 3) 3 (by decide)).2; have q4 := (jv_k (x := 4) 4 (by decide)).1; have q5 := (jv_k (x := 4) 4 (by decide)).2; have q6 := (jv_k (x := 6) 6 (by decide)).1; have q7 := (jv_k (x := 6) 6 (by decide)).2; have q8 := (g_ok_g oF1 8 rfl).1; have q9 := (g_ok_g oF1 8 rfl).2; have q10 := p37.1; have q11 := p37.2; have q12 := p44.1; have q13 := p44.2; have q14 := pr48.1; have q15 := pr48.2; have q16 := pr54.1; have q17 := pr54.2; have q18 := zx6; have q19 := (gc_nlt zc20); have q20 := zx41; have q21 := (gc_nle zc42); have q22 := zx51; have q23 := (gc_ne zc52); have q24 := zx57; have q25 := (gc_ne zc58); omega)), hk, h25⟩⟩
              · have p59 := gn_eq 3 3 (gc_eq zc58) pr54 (jv_k (x := 3) 3 (by decide)) (by decide)
                exact J37  (by have q0 := (jv_k (x := 2) 2 (by decide)).1; have q1 := (jv_k (x := 2) 2 (by decide)).2; have q2 := (jv_k (x := 3) 3 (by decide)).1; have q3 := (jv_k (x := 3) 3 (by decide)).2; have q4 := (jv_k (x := 4) 4 (by decide)).1; have q5 := (jv_k (x := 4) 4 (by decide)).2; have q6 := (jv_k (x := 6) 6 (by decide)).1; have q7 := (jv_k (x := 6) 6 (by decide)).2; have q8 := (g_ok_g oF1 8 rfl).1; have q9 := (g_ok_g oF1 8 rfl).2; have q10 := p37.1; have q11 := p37.2; have q12 := p44.1; have q13 := p44.2; have q14 := pr48.1; have q15 := pr48.2; have q16 := p59.1; have q17 := p59.2; have q18 := zx6; have q19 := (gc_nlt zc20); have q20 := zx41; have q21 := (gc_nle zc42); have q22 := zx51; have q23 := (gc_ne zc52); have q24 := zx57; have q25 := (gc_eq zc58); omega)
  exact J0 _ F R hI (g_fr_rf F) hA (g_fr_rf R) hWT hWC (⟨[], L, rfl, fun q hq => absurd hq List.not_mem_nil, by simpa using hps, by simpa using hcb, fun k _ => rfl, Int.le_refl _⟩) (Nat.lt_succ_self _)
