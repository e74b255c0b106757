theorem tp_cons {L : List (Int × Nat)} (h : 0 ≤ tp L) : ∃ (o : Int) (r : Nat) (L2 : List (Int × Nat)), L = (o, r) :: L2 := by
  cases L with
  | nil => simp only [tp] at h; omega
  | cons q L2 => exact ⟨q.1, q.2, L2, rfl⟩
theorem PS_room {F : Nat → Int32} {R : Nat → Nat → Int32} {A : Nat × Nat} {L : List (Int × Nat)} {h o : Int} {r : Nat} (p : PS F R A ((o, r) :: L) h) (ho : 2 ≤ o ∧ o ≤ 6 ∨ o = 10) : (F 25).toInt + 1 ≤ (F 15).toInt := by
  have h1 := p.2.2.2.2.1
  have h2 := cg_0 L
  simp only [cg] at h1
  rw [if_pos ho] at h1
  omega
theorem PS_close {F F' : Nat → Int32} {R R' : Nat → Nat → Int32} {A : Nat × Nat} {L : List (Int × Nat)} {h o : Int} {r : Nat} {x : Int32} (p : PS F R A ((o, r) :: L) h) (ho : 2 ≤ o ∧ o ≤ 6) (hcb : cb ((o, r) :: L) + 1 ≤ h) (h0 : 0 ≤ (F 25).toInt) (hx : x.toInt = 1048576 * o) (e25 : (F' 25).toInt = (F 25).toInt + 1) (e26 : (F' 26).toInt = (F 26).toInt - 1) (e15 : F' 15 = F 15) (e12 : R' 12 = upd (R 12) (F 25).toInt.toNat x) (e13 : R' 13 = R 13) : PS F' R' A L (h - 1) ∧ cb L + 1 ≤ h - 1 := by
  have hop : g_op x = o := by unfold g_op; omega
  have hb := cg_0 L
  have hcb2 : cb ((o, r) :: L) = cb L + 1 := by simp only [cb]; rw [if_pos ho]
  obtain ⟨p1, p2, p3, p4, p5, p6⟩ := p
  simp only [cg] at p5
  rw [if_pos (Or.inl ho)] at p5
  simp only [List.length_cons] at p3 p6
  have e : (F' 25).toInt.toNat = (F 25).toInt.toNat + 1 := by omega
  have hA := p1.1
  refine ⟨⟨?_, ?_, by omega, ?_, by rw [e15]; omega, by rw [e15]; omega⟩, by omega⟩
  · rw [e12, e]
    exact PC_note (PC_pop p1 (by omega)) ⟨fun q => absurd q (by omega), fun _ => by rw [p4]; omega, fun _ _ => by rw [p4]; omega⟩ (by omega)
  · rw [e13]
    exact p2.2.2.2.2
  · rw [e12, e, show (F 25).toInt.toNat + 1 - A.1 = ((F 25).toInt.toNat - A.1) + 1 from by omega, g_ht, g_ht_u (by omega), p4, show A.1 + ((F 25).toInt.toNat - A.1) = (F 25).toInt.toNat from by omega, g_us]
    have := g_dl_c x
    omega
theorem WS_in {w : Nat → Int32} {L : List (Int × Nat)} : ∀ {M : List (Int × Nat)}, WS w (M ++ L) → ∀ q ∈ M, ∃ j, L.length ≤ j ∧ j < (M ++ L).length ∧ g_op (w j) = q.1
  | [], _, q, hq => absurd hq List.not_mem_nil
  | p :: M, h, q, hq => by
    obtain ⟨o, r⟩ := p
    rcases List.mem_cons.mp hq with e | hq
    · subst e
      exact ⟨(M ++ L).length, by simp, by simp, (WS_top h).1⟩
    · obtain ⟨j, h1, h2, h3⟩ := WS_in (M := M) h.2.2.2.2 q hq
      exact ⟨j, h1, Nat.lt_succ_of_lt h2, h3⟩
theorem WS_of {w : Nat → Int32} {L : List (Int × Nat)} : ∀ {M : List (Int × Nat)}, WS w (M ++ L) → ∀ j, L.length ≤ j → j < (M ++ L).length → ∃ q ∈ M, g_op (w j) = q.1
  | [], _, j, h1, h2 => absurd h1 (by simpa using h2)
  | p :: M, h, j, h1, h2 => by
    obtain ⟨o, r⟩ := p
    by_cases e : j = (M ++ L).length
    · subst e
      exact ⟨(o, r), List.mem_cons_self, (WS_top h).1⟩
    · have h3 : j < (M ++ L).length := by
        have : j < (M ++ L).length + 1 := h2
        omega
      obtain ⟨q, q1, q2⟩ := WS_of (M := M) h.2.2.2.2 j h1 h3
      exact ⟨q, List.mem_cons_of_mem _ q1, q2⟩

theorem g_here_e {F F' : Nat → Int32} {R R' : Nat → Nat → Int32} (e16 : F' 16 = F 16) (e9 : R' 9 = R 9) (e15 : (F' 15).toInt = (F 15).toInt) : (g_here F' R').toInt = (g_here F R).toInt := by
  have e : F' 15 = F 15 := Int32.toInt_inj.mp e15
  unfold g_here
  rw [e, e16, e9]

def sp_X11_notes (F : Nat → Int32) (R : Nat → Nat → Int32) (a0 : Int32) (a1 : Int32) : (Nat → Int32) × (Nat → Nat → Int32) :=
  k_lt (1048576 * a0) (fun x1 => k_lt (x1 + a1) (fun x3 => k_lt (g_u R 12 (upd (R 12) (Int32.toNatClampNeg (F 25)) x3)) (fun R5 => k_lt ((F 25) + 1) (fun x7 => k_lt (upd F 25 x7) (fun F9 => (F9, R5))))))
theorem e_X11_notes_0 : g_dc cX11_notes 0 (.aload_n 0) 1 1 := ⟨by decide +kernel, rfl⟩
theorem e_X11_notes_1 : g_dc cX11_notes 1 (.getfield 44) 3 4 := ⟨by decide +kernel, rfl⟩
theorem e_X11_notes_4 : g_dc cX11_notes 4 (.aload_n 0) 1 5 := ⟨by decide +kernel, rfl⟩
theorem e_X11_notes_5 : g_dc cX11_notes 5 (.getfield 231) 3 8 := ⟨by decide +kernel, rfl⟩
theorem e_X11_notes_8 : g_dc cX11_notes 8 (.ldc 234) 2 10 := ⟨by decide +kernel, rfl⟩
theorem e_X11_notes_10 : g_dc cX11_notes 10 (.iload_n 1) 1 11 := ⟨by decide +kernel, rfl⟩
theorem e_X11_notes_11 : g_dc cX11_notes 11 (.imul) 1 12 := ⟨by decide +kernel, rfl⟩
theorem e_X11_notes_12 : g_dc cX11_notes 12 (.iload_n 2) 1 13 := ⟨by decide +kernel, rfl⟩
theorem e_X11_notes_13 : g_dc cX11_notes 13 (.iadd) 1 14 := ⟨by decide +kernel, rfl⟩
theorem e_X11_notes_14 : g_dc cX11_notes 14 (.iastore) 1 15 := ⟨by decide +kernel, rfl⟩
theorem e_X11_notes_15 : g_dc cX11_notes 15 (.aload_n 0) 1 16 := ⟨by decide +kernel, rfl⟩
theorem e_X11_notes_16 : g_dc cX11_notes 16 (.aload_n 0) 1 17 := ⟨by decide +kernel, rfl⟩
theorem e_X11_notes_17 : g_dc cX11_notes 17 (.getfield 231) 3 20 := ⟨by decide +kernel, rfl⟩
theorem e_X11_notes_20 : g_dc cX11_notes 20 (.iconst 1) 1 21 := ⟨by decide +kernel, rfl⟩
theorem e_X11_notes_21 : g_dc cX11_notes 21 (.iadd) 1 22 := ⟨by decide +kernel, rfl⟩
theorem e_X11_notes_22 : g_dc cX11_notes 22 (.putfield 231) 3 25 := ⟨by decide +kernel, rfl⟩
theorem e_X11_notes_25 : g_dc cX11_notes 25 (.return_) 1 26 := ⟨by decide +kernel, rfl⟩
def md_X11_notes : List Nat := [25]
def mr_X11_notes : List Nat := [12]
set_option maxHeartbeats 4000000 in
set_option maxRecDepth 100000 in
theorem w_X11_notes (l : Launch) (X : gX) (ad : Nat → Nat) (F : Nat → Int32) (R : Nat → Nat → Int32) (hI : g_ok LK_wM F) (hA : g_okR LA_wM R) (hWT : WT F R) (hWC : WC F R) (a0 : Int32) (a1 : Int32) (pa0 : jv 0 12 a0) (pa1 : jv 0 1048575 a1) (hn : (F 25).toInt ≤ 219) : g_Cv l X yX11_notes cX11_notes 3 1 0 0 [.ref (ad 0), .int a0, .int a1] (wM X ad F R) (fun w => ∃ (F' : Nat → Int32) (R' : Nat → Nat → Int32), w = wM X ad F' R' ∧ g_ok LK_wM F' ∧ g_okR LA_wM R' ∧ WT F' R' ∧ WC F' R' ∧ g_fr md_X11_notes F F' ∧ g_fr mr_X11_notes R R' ∧ (F' 25).toInt = (F 25).toInt + 1 ∧ (∃ x : Int32, x.toInt = 1048576 * a0.toInt + a1.toInt ∧ R' 12 = upd (R 12) (F 25).toInt.toNat x) ∧ (F', R') = sp_X11_notes F R a0 a1) := by
  refine g_mv (by decide +kernel) (Nat.le_of_ble_eq_true rfl) (fun E cx hret => ?_)
  obtain ⟨SP, hSP⟩ : ∃ z, z = sp_X11_notes F R a0 a1 := ⟨_, rfl⟩
  have hk0 := hSP
  unfold sp_X11_notes at hk0
  refine g_aload_n cx 0 rfl e_X11_notes_0 ?_
  refine g_get cx cl_X11 fl_X11_44 0 (.ref (ad 12)) e_X11_notes_1 rfl rfl ?_
  refine g_aload_n cx 0 rfl e_X11_notes_4 ?_
  refine g_get cx cl_X11 fl_X11_231 0 (.int (F 25)) e_X11_notes_5 rfl rfl ?_
  refine g_ldc cx 1048576 kc_X11_234 e_X11_notes_8 ?_
  refine g_iload_n cx 1 rfl e_X11_notes_10 ?_
  refine g_imul cx e_X11_notes_11 ?_
  refine g_topi (fun x1 ex1 => ?_)
  have hk2 := k_ls hk0 ex1
  have zx1 := jv_mul 0 12582912 ex1 (jv_k (x := 1048576) 1048576 (by decide)) pa0 (by decide)
  refine g_iload_n cx 2 rfl e_X11_notes_12 ?_
  refine g_iadd cx e_X11_notes_13 ?_
  refine g_topi (fun x3 ex3 => ?_)
  have hk4 := k_ls hk2 ex3
  have zx3 := jv_add 0 13631487 ex3 zx1.2 pa1 (by decide)
  refine g_iast cx 12 (wM X ad F (g_u R 12 (upd (R 12) (Int32.toNatClampNeg (F 25)) x3))) e_X11_notes_14 rfl (vp_in_iff.mpr ⟨by have q0 := (g_ok_g hI 7 rfl).1; have q1 := (g_ok_g hI 7 rfl).2; have q2 := hn; omega, by have q0 := (g_ok_g hI 7 rfl).1; have q1 := (g_ok_g hI 7 rfl).2; have q2 := hn; omega⟩) rfl ?_
  obtain ⟨R5, hR5⟩ : ∃ z, z = g_u R 12 (upd (R 12) (Int32.toNatClampNeg (F 25)) x3) := ⟨_, rfl⟩
  rw [← hR5]
  have hk6 := k_ls hk4 hR5
  have oR5 : g_okR LA_wM R5 := by rw [hR5]; exact g_okR_p hA zx3.2 rfl
  have fR5 : g_fr mr_X11_notes R R5 := by rw [hR5]; exact g_fr_r (g_fr_rf R) rfl
  have wTR5 : WT F R5 := by rw [hR5]; exact WT_r hWT rfl
  have wCR5 : WC F R5 := by rw [hR5]; exact WC_r hWC rfl
  refine g_aload_n cx 0 rfl e_X11_notes_15 ?_
  refine g_aload_n cx 0 rfl e_X11_notes_16 ?_
  refine g_get cx cl_X11 fl_X11_231 0 (.int (F 25)) e_X11_notes_17 rfl rfl ?_
  refine g_iconst cx 1 (by decide) e_X11_notes_20 ?_
  refine g_iadd cx e_X11_notes_21 ?_
  refine g_topi (fun x7 ex7 => ?_)
  have hk8 := k_ls hk6 ex7
  have zx7 := jv_add 1 221 ex7 (g_ok_g hI 7 rfl) (jv_k (x := 1) 1 (by decide)) (by decide)
  refine g_put cx cl_X11 fl_X11_231 0 (wM X ad (upd F 25 x7) R5) e_X11_notes_22 rfl rfl rfl rfl (Nat.le_of_ble_eq_true rfl) rfl ?_
  obtain ⟨F9, hF9⟩ : ∃ z, z = upd F 25 x7 := ⟨_, rfl⟩
  rw [← hF9]
  have hk10 := k_ls hk8 hF9
  have oF9 : g_ok LK_wM F9 := by rw [hF9]; exact g_ok_p hI (show jv 0 220 _ from ⟨by have q0 := (jv_k (x := 1) 1 (by decide)).1; have q1 := (jv_k (x := 1) 1 (by decide)).2; have q2 := (g_ok_g hI 7 rfl).1; have q3 := (g_ok_g hI 7 rfl).2; have q4 := zx7.2.1; have q5 := zx7.2.2; have q6 := hn; have q7 := (g_eq0 zx7.1); omega, by have q0 := (jv_k (x := 1) 1 (by decide)).1; have q1 := (jv_k (x := 1) 1 (by decide)).2; have q2 := (g_ok_g hI 7 rfl).1; have q3 := (g_ok_g hI 7 rfl).2; have q4 := zx7.2.1; have q5 := zx7.2.2; have q6 := hn; have q7 := (g_eq0 zx7.1); omega⟩) rfl
  have fF9 : g_fr md_X11_notes F F9 := by rw [hF9]; exact g_fr_u (g_fr_rf F) rfl
  have wTF9 : WT F9 R5 := by rw [hF9]; exact WT_u wTR5 rfl
  have wCF9 : WC F9 R5 := by rw [hF9]; exact WC_u wCR5 rfl
  exact hret e_X11_notes_25 (Nat.le_of_ble_eq_true rfl) (Nat.le_of_ble_eq_true rfl) ⟨F9, R5, rfl, oF9, oR5, wTF9, wCF9, fF9, fR5, (by have q0 := (jv_k (x := 1) 1 (by decide)).1; have q1 := (jv_k (x := 1) 1 (by decide)).2; have q2 := (g_ok_g hI 7 rfl).1; have q3 := (g_ok_g hI 7 rfl).2; have q4 := (g_ok_g oF9 7 rfl).1; have q5 := (g_ok_g oF9 7 rfl).2; have q6 := zx7.2.1; have q7 := zx7.2.2; have q8 := hn; have q9 := (g_eq0 zx7.1); have q10 := (congrArg Int32.toInt (show F9 25 = x7 from (g_pu1 hF9))); omega), ⟨x3, by have q0 := pa0.1; have q1 := pa0.2; have q2 := pa1.1; have q3 := pa1.2; have q4 := zx1.2.1; have q5 := zx1.2.2; have q6 := zx3.2.1; have q7 := zx3.2.2; have q8 := (g_em2 zx1.1 (by decide : Int32.toInt 1048576 = 1048576)); have q9 := (g_eq0 zx3.1); omega, (g_ru1 hR5)⟩, (hk10.symm.trans hSP)⟩
def sp_X11_waitTop (F : Nat → Int32) (R : Nat → Nat → Int32) : Int32 :=
  if (F 26) = 0 then (-1) else k_lt ((F 26) - 1) (fun x4 => k_lt (R 13 (Int32.toNatClampNeg x4)) (fun x6 => k_lt (x6 / 1048576) (fun x9 => x9)))
theorem e_X11_waitTop_0 : g_dc cX11_waitTop 0 (.aload_n 0) 1 1 := ⟨by decide +kernel, rfl⟩
theorem e_X11_waitTop_1 : g_dc cX11_waitTop 1 (.getfield 238) 3 4 := ⟨by decide +kernel, rfl⟩
theorem e_X11_waitTop_4 : g_dc cX11_waitTop 4 (.ifCond .ne 7) 3 7 := ⟨by decide +kernel, rfl⟩
theorem e_X11_waitTop_7 : g_dc cX11_waitTop 7 (.iconst (-1)) 1 8 := ⟨by decide +kernel, rfl⟩
theorem e_X11_waitTop_8 : g_dc cX11_waitTop 8 (.goto 17) 3 11 := ⟨by decide +kernel, rfl⟩
theorem e_X11_waitTop_11 : g_dc cX11_waitTop 11 (.aload_n 0) 1 12 := ⟨by decide +kernel, rfl⟩
theorem e_X11_waitTop_12 : g_dc cX11_waitTop 12 (.getfield 47) 3 15 := ⟨by decide +kernel, rfl⟩
theorem e_X11_waitTop_15 : g_dc cX11_waitTop 15 (.aload_n 0) 1 16 := ⟨by decide +kernel, rfl⟩
theorem e_X11_waitTop_16 : g_dc cX11_waitTop 16 (.getfield 238) 3 19 := ⟨by decide +kernel, rfl⟩
theorem e_X11_waitTop_19 : g_dc cX11_waitTop 19 (.iconst 1) 1 20 := ⟨by decide +kernel, rfl⟩
theorem e_X11_waitTop_20 : g_dc cX11_waitTop 20 (.isub) 1 21 := ⟨by decide +kernel, rfl⟩
theorem e_X11_waitTop_21 : g_dc cX11_waitTop 21 (.iaload) 1 22 := ⟨by decide +kernel, rfl⟩
theorem e_X11_waitTop_22 : g_dc cX11_waitTop 22 (.ldc 234) 2 24 := ⟨by decide +kernel, rfl⟩
theorem e_X11_waitTop_24 : g_dc cX11_waitTop 24 (.idiv) 1 25 := ⟨by decide +kernel, rfl⟩
theorem e_X11_waitTop_25 : g_dc cX11_waitTop 25 (.ireturn) 1 26 := ⟨by decide +kernel, rfl⟩
set_option maxHeartbeats 4000000 in
set_option maxRecDepth 100000 in
theorem w_X11_waitTop (l : Launch) (X : gX) (ad : Nat → Nat) (F : Nat → Int32) (R : Nat → Nat → Int32) (hI : g_ok LK_wM F) (hA : g_okR LA_wM R) (L : List (Int × Nat)) (hw : WS (R 13) L) (hl : (L.length : Int) = (F 26).toInt) : g_Ci l X yX11_waitTop cX11_waitTop 1 (some .int) 1 0 0 [.ref (ad 0)] (wM X ad F R) (fun r w => w = wM X ad F R ∧ jv (-1) 14 r ∧ r.toInt = tp L ∧ r = sp_X11_waitTop F R) := by
  refine g_mi (by decide +kernel) (Nat.le_of_ble_eq_true rfl) (fun E cx hret => ?_)
  obtain ⟨SP, hSP⟩ : ∃ z, z = sp_X11_waitTop F R := ⟨_, rfl⟩
  have hk0 := hSP
  unfold sp_X11_waitTop at hk0
  refine g_aload_n cx 0 rfl e_X11_waitTop_0 ?_
  refine g_get cx cl_X11 fl_X11_238 0 (.int (F 26)) e_X11_waitTop_1 rfl rfl ?_
  refine g_if_ne cx 11 e_X11_waitTop_4 (by decide) (fun zc1 => ?_) (fun zc1 => ?_)
  · have p2 := gn_neL 1 220 (gc_ne zc1) (g_ok_g hI 8 rfl) (jv_k (x := 0) 0 (by decide)) (by decide)
    have hk3 := hk0.trans (if_neg zc1)
    refine g_aload_n cx 0 rfl e_X11_waitTop_11 ?_
    refine g_get cx cl_X11 fl_X11_47 0 (.ref (ad 13)) e_X11_waitTop_12 rfl rfl ?_
    refine g_aload_n cx 0 rfl e_X11_waitTop_15 ?_
    refine g_get cx cl_X11 fl_X11_238 0 (.int (F 26)) e_X11_waitTop_16 rfl rfl ?_
    refine g_iconst cx 1 (by decide) e_X11_waitTop_19 ?_
    refine g_isub cx e_X11_waitTop_20 ?_
    refine g_topi (fun x4 ex4 => ?_)
    have hk5 := k_ls hk3 ex4
    have zx4 := jv_sub 0 219 ex4 p2 (jv_k (x := 1) 1 (by decide)) (by decide)
    refine g_iald cx 13 e_X11_waitTop_21 rfl (jv_ix 220 zx4.2 (by decide)) ?_
    refine g_topi (fun x6 ex6 => ?_)
    have hk7 := k_ls hk5 ex6
    have p8 : jv 0 15728639 x6 := by rw [ex6]; exact g_okR_g hA 1 rfl (jv_cl 220 zx4.2 (by decide))
    refine g_ldc cx 1048576 kc_X11_234 e_X11_waitTop_22 ?_
    refine g_idiv cx (by decide) e_X11_waitTop_24 ?_
    refine g_topi (fun x9 ex9 => ?_)
    have hk10 := k_ls hk7 ex9
    have zx9 := jv_div 0 14 ex9 p8 (jv_k (x := 1048576) 1048576 (by decide)) (by decide)
    exact hret e_X11_waitTop_25 (Nat.le_of_ble_eq_true rfl) (Nat.le_of_ble_eq_true rfl) rfl ⟨rfl, (jv_w zx9.2 (by decide)), (WS_tp hw hl (by have q0 := (jv_k (x := 0) 0 (by decide)).1; have q1 := (jv_k (x := 0) 0 (by decide)).2; have q2 := (jv_k (x := 1) 1 (by decide)).1; have q3 := (jv_k (x := 1) 1 (by decide)).2; have q4 := p2.1; have q5 := p2.2; have q6 := zx4.2.1; have q7 := zx4.2.2; have q8 := (gc_ne zc1); have q9 := (g_eq0 zx4.1); omega) (by have q0 := (jv_k (x := 0) 0 (by decide)).1; have q1 := (jv_k (x := 0) 0 (by decide)).2; have q2 := (jv_k (x := 1) 1 (by decide)).1; have q3 := (jv_k (x := 1) 1 (by decide)).2; have q4 := p2.1; have q5 := p2.2; have q6 := zx4.2.1; have q7 := zx4.2.2; have q8 := (gc_ne zc1); have q9 := (g_eq0 zx4.1); omega) ex6 (g_ed zx9.1 (by decide : Int32.toInt 1048576 = 1048576))), (hk10.symm.trans hSP)⟩
  · have p11 := gn_eq 0 0 (gc_eq zc1) (g_ok_g hI 8 rfl) (jv_k (x := 0) 0 (by decide)) (by decide)
    have hk12 := hk0.trans (if_pos zc1)
    refine g_iconst cx (-1) (by decide) e_X11_waitTop_7 ?_
    refine g_goto cx 25 e_X11_waitTop_8 (by decide) ?_
    exact hret e_X11_waitTop_25 (Nat.le_of_ble_eq_true rfl) (Nat.le_of_ble_eq_true rfl) rfl ⟨rfl, (jv_w (jv_k (x := (-1)) (-1) (by decide)) (by decide)), (WS_tp0 hl (by have q0 := (jv_k (x := 0) 0 (by decide)).1; have q1 := (jv_k (x := 0) 0 (by decide)).2; have q2 := p11.1; have q3 := p11.2; have q4 := (gc_eq zc1); omega)), (hk12.symm.trans hSP)⟩
def K_X11_closesSums_37 (b0 : (Nat → Int32) → (Nat → Nat → Int32) → (Nat → Int32) × (Nat → Nat → Int32)) (F1 : Nat → Int32) (R2 : Nat → Nat → Int32)  : (Nat → Int32) × (Nat → Nat → Int32) :=
  k_lt (sp_X11_waitTop F1 R2) (fun r9 => k_lt2 (sp_X11_notes F1 R2 r9 0) (fun F21 R22 => k_lt ((F1 26) - 1) (fun x24 => k_lt (upd F21 26 x24) (fun F26 => b0 F26 R22))))
def KB_X11_closesSums_0 (b0 : (Nat → Int32) → (Nat → Nat → Int32) → (Nat → Int32) × (Nat → Nat → Int32)) (a0 : Int32) (F1 : Nat → Int32) (R2 : Nat → Nat → Int32) : (Nat → Int32) × (Nat → Nat → Int32) :=
  k_lt (sp_X11_waitTop F1 R2) (fun r3 => if r3 < 4 then if a0 = 0 then (F1, R2) else k_lt (sp_X11_waitTop F1 R2) (fun r36 => if r36 = 2 then K_X11_closesSums_37 b0 F1 R2 else k_lt (sp_X11_waitTop F1 R2) (fun r46 => if r46 = 3 then K_X11_closesSums_37 b0 F1 R2 else (F1, R2))) else k_lt (sp_X11_waitTop F1 R2) (fun r58 => if r58 ≤ 6 then K_X11_closesSums_37 b0 F1 R2 else if a0 = 0 then (F1, R2) else k_lt (sp_X11_waitTop F1 R2) (fun r74 => if r74 = 2 then K_X11_closesSums_37 b0 F1 R2 else k_lt (sp_X11_waitTop F1 R2) (fun r84 => if r84 = 3 then K_X11_closesSums_37 b0 F1 R2 else (F1, R2)))))
def K_X11_closesSums_0 (a0 : Int32) : Nat → (Nat → Int32) → (Nat → Nat → Int32) → (Nat → Int32) × (Nat → Nat → Int32)
  | 0 => fun F1 R2 => (F1, R2)
  | n + 1 => KB_X11_closesSums_0 (K_X11_closesSums_0 a0 n) a0
def sp_X11_closesSums (F : Nat → Int32) (R : Nat → Nat → Int32) (a0 : Int32) : (Nat → Int32) × (Nat → Nat → Int32) :=
  K_X11_closesSums_0 a0 8589934592 F R
theorem e_X11_closesSums_0 : g_dc cX11_closesSums 0 (.aload_n 0) 1 1 := ⟨by decide +kernel, rfl⟩
theorem e_X11_closesSums_1 : g_dc cX11_closesSums 1 (.invokevirtual 241) 3 4 := ⟨by decide +kernel, rfl⟩
theorem e_X11_closesSums_4 : g_dc cX11_closesSums 4 (.iconst 4) 1 5 := ⟨by decide +kernel, rfl⟩
theorem e_X11_closesSums_5 : g_dc cX11_closesSums 5 (.if_icmp .lt 12) 3 8 := ⟨by decide +kernel, rfl⟩
theorem e_X11_closesSums_8 : g_dc cX11_closesSums 8 (.aload_n 0) 1 9 := ⟨by decide +kernel, rfl⟩
theorem e_X11_closesSums_9 : g_dc cX11_closesSums 9 (.invokevirtual 241) 3 12 := ⟨by decide +kernel, rfl⟩
theorem e_X11_closesSums_12 : g_dc cX11_closesSums 12 (.bipush 6) 2 14 := ⟨by decide +kernel, rfl⟩
theorem e_X11_closesSums_14 : g_dc cX11_closesSums 14 (.if_icmp .le 23) 3 17 := ⟨by decide +kernel, rfl⟩
theorem e_X11_closesSums_17 : g_dc cX11_closesSums 17 (.iload_n 1) 1 18 := ⟨by decide +kernel, rfl⟩
theorem e_X11_closesSums_18 : g_dc cX11_closesSums 18 (.ifCond .eq 41) 3 21 := ⟨by decide +kernel, rfl⟩
theorem e_X11_closesSums_21 : g_dc cX11_closesSums 21 (.aload_n 0) 1 22 := ⟨by decide +kernel, rfl⟩
theorem e_X11_closesSums_22 : g_dc cX11_closesSums 22 (.invokevirtual 241) 3 25 := ⟨by decide +kernel, rfl⟩
theorem e_X11_closesSums_25 : g_dc cX11_closesSums 25 (.iconst 2) 1 26 := ⟨by decide +kernel, rfl⟩
theorem e_X11_closesSums_26 : g_dc cX11_closesSums 26 (.if_icmp .eq 11) 3 29 := ⟨by decide +kernel, rfl⟩
theorem e_X11_closesSums_29 : g_dc cX11_closesSums 29 (.aload_n 0) 1 30 := ⟨by decide +kernel, rfl⟩
theorem e_X11_closesSums_30 : g_dc cX11_closesSums 30 (.invokevirtual 241) 3 33 := ⟨by decide +kernel, rfl⟩
theorem e_X11_closesSums_33 : g_dc cX11_closesSums 33 (.iconst 3) 1 34 := ⟨by decide +kernel, rfl⟩
theorem e_X11_closesSums_34 : g_dc cX11_closesSums 34 (.if_icmp .ne 25) 3 37 := ⟨by decide +kernel, rfl⟩
theorem e_X11_closesSums_37 : g_dc cX11_closesSums 37 (.aload_n 0) 1 38 := ⟨by decide +kernel, rfl⟩
theorem e_X11_closesSums_38 : g_dc cX11_closesSums 38 (.aload_n 0) 1 39 := ⟨by decide +kernel, rfl⟩
theorem e_X11_closesSums_39 : g_dc cX11_closesSums 39 (.invokevirtual 241) 3 42 := ⟨by decide +kernel, rfl⟩
theorem e_X11_closesSums_42 : g_dc cX11_closesSums 42 (.iconst 0) 1 43 := ⟨by decide +kernel, rfl⟩
theorem e_X11_closesSums_43 : g_dc cX11_closesSums 43 (.invokevirtual 244) 3 46 := ⟨by decide +kernel, rfl⟩
theorem e_X11_closesSums_46 : g_dc cX11_closesSums 46 (.aload_n 0) 1 47 := ⟨by decide +kernel, rfl⟩
theorem e_X11_closesSums_47 : g_dc cX11_closesSums 47 (.aload_n 0) 1 48 := ⟨by decide +kernel, rfl⟩
theorem e_X11_closesSums_48 : g_dc cX11_closesSums 48 (.getfield 238) 3 51 := ⟨by decide +kernel, rfl⟩
theorem e_X11_closesSums_51 : g_dc cX11_closesSums 51 (.iconst 1) 1 52 := ⟨by decide +kernel, rfl⟩
theorem e_X11_closesSums_52 : g_dc cX11_closesSums 52 (.isub) 1 53 := ⟨by decide +kernel, rfl⟩
theorem e_X11_closesSums_53 : g_dc cX11_closesSums 53 (.putfield 238) 3 56 := ⟨by decide +kernel, rfl⟩
theorem e_X11_closesSums_56 : g_dc cX11_closesSums 56 (.goto (-56)) 3 59 := ⟨by decide +kernel, rfl⟩
theorem e_X11_closesSums_59 : g_dc cX11_closesSums 59 (.return_) 1 60 := ⟨by decide +kernel, rfl⟩
def md_X11_closesSums : List Nat := [25, 26]
def mr_X11_closesSums : List Nat := [12]
set_option maxHeartbeats 4000000 in
set_option maxRecDepth 100000 in
theorem w_X11_closesSums (l : Launch) (X : gX) (ad : Nat → Nat) (F : Nat → Int32) (R : Nat → Nat → Int32) (hI : g_ok LK_wM F) (hA : g_okR LA_wM R) (hWT : WT F R) (hWC : WC F R) (a0 : Int32) (pa0 : jv 0 1 a0) (A : Nat × Nat) (L : List (Int × Nat)) (h : Int) (hps : PS F R A L h) (hcb : cb L + 1 ≤ h) : g_Cv l X yX11_closesSums cX11_closesSums 2 2 0 0 [.ref (ad 0), .int a0] (wM X ad F R) (fun w => ∃ (F' : Nat → Int32) (R' : Nat → Nat → Int32), w = wM X ad F' R' ∧ g_ok LK_wM F' ∧ g_okR LA_wM R' ∧ WT F' R' ∧ WC F' R' ∧ g_fr md_X11_closesSums F F' ∧ g_fr mr_X11_closesSums R R' ∧ (∃ (M L1 : List (Int × Nat)), L = M ++ L1 ∧ (∀ q ∈ M, 2 ≤ q.1 ∧ q.1 ≤ 6) ∧ PS F' R' A L1 (h - M.length) ∧ (¬ a0 = 0 → tp L1 < 2 ∨ 6 < tp L1) ∧ (∀ k, k < (F 25).toInt.toNat → R' 12 k = R 12 k) ∧ (F 25).toInt ≤ (F' 25).toInt) ∧ (F', R') = sp_X11_closesSums F R a0) := by
  refine g_mv (by decide +kernel) (Nat.le_of_ble_eq_true rfl) (fun E cx hret => ?_)
  obtain ⟨SP, hSP⟩ : ∃ z, z = sp_X11_closesSums F R a0 := ⟨_, rfl⟩
  have hk0 := hSP
  unfold sp_X11_closesSums at hk0
  have J0 : ∀ (N : Nat) (F1 : Nat → Int32) (R2 : Nat → Nat → Int32), (g_ok LK_wM F1) → (g_fr md_X11_closesSums F F1) → (g_okR LA_wM R2) → (g_fr mr_X11_closesSums R R2) → (WT F1 R2) → (WC F1 R2) → (∃ (M L1 : List (Int × Nat)), L = M ++ L1 ∧ (∀ q ∈ M, 2 ≤ q.1 ∧ q.1 ≤ 6) ∧ PS F1 R2 A L1 (h - M.length) ∧ cb L1 + 1 ≤ h - M.length ∧ (∀ k, k < (F 25).toInt.toNat → R2 12 k = R 12 k) ∧ (F 25).toInt ≤ (F1 25).toInt) → (SP = K_X11_closesSums_0 a0 N F1 R2) → (F1 26).toInt.toNat < N → G X E 2 0 0 (wM X ad F1 R2) [(0, .ref (ad 0)), (1, .int a0)] 0 [] := by
    intro N
    induction N with
    | zero => intro F1 R2 oF1 fF1 oR2 fR2 wTF1R2 wCF1R2 zq0_0 hkJ0 hm; exact absurd hm (Nat.not_lt_zero _)
    | succ N ih0 =>
      intro F1 R2 oF1 fF1 oR2 fR2 wTF1R2 wCF1R2 zq0_0 hkJ0 hm0
      have hkK0 : SP = KB_X11_closesSums_0 (K_X11_closesSums_0 a0 N) a0 F1 R2 := hkJ0
      obtain ⟨b0, hb0⟩ : ∃ z, z = K_X11_closesSums_0 a0 N := ⟨_, rfl⟩
      rw [← hb0] at hkK0
      unfold KB_X11_closesSums_0 at hkK0
      obtain ⟨M, L1, eL, hM, ps, hcb1, hk, h25⟩ := zq0_0
      refine g_aload_n cx 0 rfl e_X11_closesSums_0 ?_
      refine g_cViW cx [] [] (w_X11_waitTop l X ad F1 R2 oF1 oR2 (L1) ps.2.1 ps.2.2.1) ml_X11_241 yV_X11_waitTop e_X11_closesSums_1 (by unfold g_rr; decide) (by decide) 0 rfl rfl rfl (Nat.le_of_ble_eq_true rfl) (fun r3 w4 h5 => ?_)
      obtain ⟨rfl, pr3, zx6, hx7⟩ := h5
      have hk8 := k_ls hkK0 hx7
      refine g_iconst cx 4 (by decide) e_X11_closesSums_4 ?_
      have J37 : (2 ≤ tp L1 ∧ tp L1 ≤ 6) → (SP = K_X11_closesSums_37 b0 F1 R2) → G X E 2 0 0 (wM X ad F1 R2) [(0, .ref (ad 0)), (1, .int a0)] 37 [] := by
        intro  zi37_0 hkJ37
        unfold K_X11_closesSums_37 at hkJ37
        obtain ⟨o, r, L2, rfl⟩ := tp_cons (L := L1) (by omega)
        have ho : 2 ≤ o ∧ o ≤ 6 := zi37_0
        have hroom := PS_room ps (Or.inl ho)
        have hlen : 1 ≤ (F1 26).toInt := by have q := ps.2.2.1; simp only [List.length_cons] at q; omega
        have htp : tp ((o, r) :: L2) = o := rfl
        refine g_aload_n cx 0 rfl e_X11_closesSums_37 ?_
        refine g_aload_n cx 0 rfl e_X11_closesSums_38 ?_
        refine g_cViW cx [] [.ref (ad 0)] (w_X11_waitTop l X ad F1 R2 oF1 oR2 (((o, r) :: L2)) ps.2.1 ps.2.2.1) ml_X11_241 yV_X11_waitTop e_X11_closesSums_39 (by unfold g_rr; decide) (by decide) 0 rfl rfl rfl (Nat.le_of_ble_eq_true rfl) (fun r9 w10 h11 => ?_)
        obtain ⟨rfl, pr9, zx12, hx13⟩ := h11
        have hk14 := k_ls hkJ37 hx13
        refine g_iconst cx 0 (by decide) e_X11_closesSums_42 ?_
        refine g_cVvW cx [.int r9, .int 0] [] (w_X11_notes l X ad F1 R2 oF1 oR2 wTF1R2 wCF1R2 r9 0 (show jv 0 12 r9 from ⟨by have q0 := (g_ok_g oF1 8 rfl).1; have q1 := (g_ok_g oF1 8 rfl).2; have q2 := pr3.1; have q3 := pr3.2; have q4 := pr9.1; have q5 := pr9.2; have q6 := zx6; have q7 := zi37_0; have q8 := hlen; have q9 := htp; have q10 := zx12; omega, by have q0 := (g_ok_g oF1 8 rfl).1; have q1 := (g_ok_g oF1 8 rfl).2; have q2 := pr3.1; have q3 := pr3.2; have q4 := pr9.1; have q5 := pr9.2; have q6 := zx6; have q7 := zi37_0; have q8 := hlen; have q9 := htp; have q10 := zx12; omega⟩) (jv_w (jv_k (x := 0) 0 (by decide)) (by decide)) (by have q0 := (g_ok_g oF1 1 rfl).1; have q1 := (g_ok_g oF1 1 rfl).2; have q2 := (g_ok_g oF1 7 rfl).1; have q3 := (g_ok_g oF1 7 rfl).2; have q4 := hroom; omega)) ml_X11_244 yV_X11_notes e_X11_closesSums_43 (by unfold g_rr; decide) (by decide) 0 rfl rfl rfl (Nat.le_of_ble_eq_true rfl) (fun w16 h17 => ?_)
        obtain ⟨F21, R22, rfl, oF21, oR22, wTF21, wCF21, cF21, cR22, zx18, zx19, hx20⟩ := h17
        have hk23 := k_ls2 hk14 hx20
        have fF21 : g_fr md_X11_closesSums F F21 := g_fr_c fF1 cF21 rfl
        have fR22 : g_fr mr_X11_closesSums R R22 := g_fr_c fR2 cR22 rfl
        refine g_aload_n cx 0 rfl e_X11_closesSums_46 ?_
        refine g_aload_n cx 0 rfl e_X11_closesSums_47 ?_
        refine g_get cx cl_X11 fl_X11_238 0 (.int (F21 26)) e_X11_closesSums_48 rfl rfl ?_
        refine g_toi (F1 26) (cF21 26 rfl) ?_
        refine g_iconst cx 1 (by decide) e_X11_closesSums_51 ?_
        refine g_isub cx e_X11_closesSums_52 ?_
        refine g_topi (fun x24 ex24 => ?_)
        have hk25 := k_ls hk23 ex24
        have zx24 := jv_sub (-1) 219 ex24 (g_ok_g oF1 8 rfl) (jv_k (x := 1) 1 (by decide)) (by decide)
        refine g_put cx cl_X11 fl_X11_238 0 (wM X ad (upd F21 26 x24) R22) e_X11_closesSums_53 rfl rfl rfl rfl (Nat.le_of_ble_eq_true rfl) rfl ?_
        obtain ⟨F26, hF26⟩ : ∃ z, z = upd F21 26 x24 := ⟨_, rfl⟩
        rw [← hF26]
        have hk27 := k_ls hk25 hF26
        have oF26 : g_ok LK_wM F26 := by rw [hF26]; exact g_ok_p oF21 (show jv 0 220 _ from ⟨by have q0 := (jv_k (x := 1) 1 (by decide)).1; have q1 := (jv_k (x := 1) 1 (by decide)).2; have q2 := (g_ok_g oF1 8 rfl).1; have q3 := (g_ok_g oF1 8 rfl).2; have q4 := pr3.1; have q5 := pr3.2; have q6 := pr9.1; have q7 := pr9.2; have q8 := zx24.2.1; have q9 := zx24.2.2; have q10 := zx6; have q11 := zi37_0; have q12 := hlen; have q13 := htp; have q14 := zx12; have q15 := (g_eq0 zx24.1); omega, by have q0 := (jv_k (x := 1) 1 (by decide)).1; have q1 := (jv_k (x := 1) 1 (by decide)).2; have q2 := (g_ok_g oF1 8 rfl).1; have q3 := (g_ok_g oF1 8 rfl).2; have q4 := pr3.1; have q5 := pr3.2; have q6 := pr9.1; have q7 := pr9.2; have q8 := zx24.2.1; have q9 := zx24.2.2; have q10 := zx6; have q11 := zi37_0; have q12 := hlen; have q13 := htp; have q14 := zx12; have q15 := (g_eq0 zx24.1); omega⟩) rfl
        have fF26 : g_fr md_X11_closesSums F F26 := by rw [hF26]; exact g_fr_u fF21 rfl
        have wTF26 : WT F26 R22 := by rw [hF26]; exact WT_u wTF21 rfl
        have wCF26 : WC F26 R22 := by rw [hF26]; exact WC_u wCF21 rfl
        refine g_goto cx 0 e_X11_closesSums_56 (by decide) ?_
        exact ih0 F26 R22 oF26 fF26 oR22 fR22 wTF26 wCF26 ((by
              obtain ⟨x, hx, e12⟩ := zx19
              have hc := PS_close (F' := F26) (R' := R22) ps ho hcb1 (by have q0 := (g_ok_g oF1 1 rfl).1; have q1 := (g_ok_g oF1 1 rfl).2; have q2 := (g_ok_g oF1 7 rfl).1; have q3 := (g_ok_g oF1 7 rfl).2; have q4 := (g_ok_g oF21 7 rfl).1; have q5 := (g_ok_g oF21 7 rfl).2; have q6 := hroom; have q7 := zx18; omega) (x := x) (by rw [hx]; have z0 : (0 : Int32).toInt = 0 := rfl; have q0 := (jv_k (x := 1) 1 (by decide)).1; have q1 := (jv_k (x := 1) 1 (by decide)).2; have q2 := (g_ok_g oF1 8 rfl).1; have q3 := (g_ok_g oF1 8 rfl).2; have q4 := pr3.1; have q5 := pr3.2; have q6 := pr9.1; have q7 := pr9.2; have q8 := zx24.2.1; have q9 := zx24.2.2; have q10 := zx6; have q11 := zi37_0; have q12 := hlen; have q13 := htp; have q14 := zx12; have q15 := (g_eq0 zx24.1); have q16 := zi37_0; omega) (by have q0 := (g_ok_g oF1 1 rfl).1; have q1 := (g_ok_g oF1 1 rfl).2; have q2 := (g_ok_g oF1 7 rfl).1; have q3 := (g_ok_g oF1 7 rfl).2; have q4 := (g_ok_g oF21 7 rfl).1; have q5 := (g_ok_g oF21 7 rfl).2; have q6 := (g_ok_g oF26 7 rfl).1; have q7 := (g_ok_g oF26 7 rfl).2; have q8 := hroom; have q9 := zx18; have q10 := (congrArg Int32.toInt (show F26 25 = F21 25 from (g_pu2 hF26 rfl))); omega) (by have q0 := (jv_k (x := 1) 1 (by decide)).1; have q1 := (jv_k (x := 1) 1 (by decide)).2; have q2 := (g_ok_g oF1 8 rfl).1; have q3 := (g_ok_g oF1 8 rfl).2; have q4 := (g_ok_g oF26 8 rfl).1; have q5 := (g_ok_g oF26 8 rfl).2; have q6 := pr3.1; have q7 := pr3.2; have q8 := pr9.1; have q9 := pr9.2; have q10 := zx24.2.1; have q11 := zx24.2.2; have q12 := zx6; have q13 := zi37_0; have q14 := hlen; have q15 := htp; have q16 := zx12; have q17 := (g_eq0 zx24.1); have q18 := (congrArg Int32.toInt (show F26 26 = x24 from (g_pu1 hF26))); omega) ((((g_pu2 hF26 rfl).trans (cF21 15 rfl)).trans (fF1 15 rfl)).trans (fF1 15 rfl).symm) e12 ((cR22 13 rfl))
              refine ⟨M ++ [(o, r)], L2, by rw [eL]; simp, fun q hq => ?_, by have e : h - ((M ++ [(o, r)]).length : Int) = h - (M.length : Int) - 1 := (by rw [List.length_append, List.length_singleton]; omega); rw [e]; exact hc.1, by have e : h - ((M ++ [(o, r)]).length : Int) = h - (M.length : Int) - 1 := (by rw [List.length_append, List.length_singleton]; omega); rw [e]; exact hc.2, fun k hk1 => ?_, by have q0 := (g_ok_g hI 7 rfl).1; have q1 := (g_ok_g hI 7 rfl).2; have q2 := (g_ok_g oF1 1 rfl).1; have q3 := (g_ok_g oF1 1 rfl).2; have q4 := (g_ok_g oF1 7 rfl).1; have q5 := (g_ok_g oF1 7 rfl).2; have q6 := (g_ok_g oF21 7 rfl).1; have q7 := (g_ok_g oF21 7 rfl).2; have q8 := (g_ok_g oF26 7 rfl).1; have q9 := (g_ok_g oF26 7 rfl).2; have q10 := hroom; have q11 := zx18; have q12 := (congrArg Int32.toInt (show F26 25 = F21 25 from (g_pu2 hF26 rfl))); have q13 := (congrArg Int32.toInt (show F26 25 = F21 25 from (g_pu2 hF26 rfl))); have q14 := h25; omega⟩
              · rcases List.mem_append.mp hq with q1 | q1
                · exact hM q q1
                · rw [List.mem_singleton.mp q1]; exact ho
              · rw [e12, g_un (by rw [bne_iff_ne]; intro q; omega)]; exact hk k hk1)) (hk27.trans (by rw [hb0])) (Nat.lt_of_lt_of_le (show (F26 26).toInt.toNat < (F1 26).toInt.toNat from by have q0 := (jv_k (x := 1) 1 (by decide)).1; have q1 := (jv_k (x := 1) 1 (by decide)).2; have q2 := (g_ok_g oF1 8 rfl).1; have q3 := (g_ok_g oF1 8 rfl).2; have q4 := (g_ok_g oF26 8 rfl).1; have q5 := (g_ok_g oF26 8 rfl).2; have q6 := pr3.1; have q7 := pr3.2; have q8 := pr9.1; have q9 := pr9.2; have q10 := zx24.2.1; have q11 := zx24.2.2; have q12 := zx6; have q13 := zi37_0; have q14 := hlen; have q15 := htp; have q16 := zx12; have q17 := (g_eq0 zx24.1); have q18 := (congrArg Int32.toInt (show F26 26 = x24 from (g_pu1 hF26))); have q19 := (congrArg Int32.toInt (show F26 26 = x24 from (g_pu1 hF26))); have q20 := (congrArg Int32.toInt (show F26 26 = x24 from (g_pu1 hF26))); omega) (Nat.le_of_lt_succ hm0))
      refine g_icmp_lt cx 17 e_X11_closesSums_5 (by decide) (fun zc28 => ?_) (fun zc28 => ?_)
      · have p29 := gn_lt (-1) 3 (gc_lt zc28) pr3 (jv_k (x := 4) 4 (by decide)) (by decide)
        have hk30 := hk8.trans (if_pos zc28)
        refine g_iload_n cx 1 rfl e_X11_closesSums_17 ?_
        refine g_if_eq cx 59 e_X11_closesSums_18 (by decide) (fun zc31 => ?_) (fun zc31 => ?_)
        · have p32 := gn_eq 0 0 (gc_eq zc31) pa0 (jv_k (x := 0) 0 (by decide)) (by decide)
          have hk33 := hk30.trans (if_pos zc31)
          exact hret e_X11_closesSums_59 (Nat.le_of_ble_eq_true rfl) (Nat.le_of_ble_eq_true rfl) ⟨F1, R2, rfl, oF1, oR2, wTF1R2, wCF1R2, fF1, fR2, ⟨M, L1, eL, hM, ps, (by first | exact fun h0 => absurd (by assumption) h0 | exact fun _ => (by have q0 := (jv_k (x := 4) 4 (by decide)).1; have q1 := (jv_k (x := 4) 4 (by decide)).2; have q2 := (g_ok_g oF1 8 rfl).1; have q3 := (g_ok_g oF1 8 rfl).2; have q4 := p29.1; have q5 := p29.2; have q6 := zx6; have q7 := (gc_lt zc28); omega)), hk, h25⟩, (hk33.symm.trans hSP)⟩
        · have p34 := gn_neL 1 1 (gc_ne zc31) pa0 (jv_k (x := 0) 0 (by decide)) (by decide)
          have hk35 := hk30.trans (if_neg zc31)
          refine g_aload_n cx 0 rfl e_X11_closesSums_21 ?_
          refine g_cViW cx [] [] (w_X11_waitTop l X ad F1 R2 oF1 oR2 (L1) ps.2.1 ps.2.2.1) ml_X11_241 yV_X11_waitTop e_X11_closesSums_22 (by unfold g_rr; decide) (by decide) 0 rfl rfl rfl (Nat.le_of_ble_eq_true rfl) (fun r36 w37 h38 => ?_)
          obtain ⟨rfl, pr36, zx39, hx40⟩ := h38
          have hk41 := k_ls hk35 hx40
          refine g_iconst cx 2 (by decide) e_X11_closesSums_25 ?_
          refine g_icmp_eq cx 37 e_X11_closesSums_26 (by decide) (fun zc42 => ?_) (fun zc42 => ?_)
          · have p43 := gn_eq 2 2 (gc_eq zc42) pr36 (jv_k (x := 2) 2 (by decide)) (by decide)
            have hk44 := hk41.trans (if_pos zc42)
            exact J37  (by have q0 := (jv_k (x := 2) 2 (by decide)).1; have q1 := (jv_k (x := 2) 2 (by decide)).2; have q2 := (jv_k (x := 4) 4 (by decide)).1; have q3 := (jv_k (x := 4) 4 (by decide)).2; have q4 := (g_ok_g oF1 8 rfl).1; have q5 := (g_ok_g oF1 8 rfl).2; have q6 := p29.1; have q7 := p29.2; have q8 := p43.1; have q9 := p43.2; have q10 := zx6; have q11 := (gc_lt zc28); have q12 := zx39; have q13 := (gc_eq zc42); omega) hk44
          · have hk45 := hk41.trans (if_neg zc42)
            refine g_aload_n cx 0 rfl e_X11_closesSums_29 ?_
            refine g_cViW cx [] [] (w_X11_waitTop l X ad F1 R2 oF1 oR2 (L1) ps.2.1 ps.2.2.1) ml_X11_241 yV_X11_waitTop e_X11_closesSums_30 (by unfold g_rr; decide) (by decide) 0 rfl rfl rfl (Nat.le_of_ble_eq_true rfl) (fun r46 w47 h48 => ?_)
            obtain ⟨rfl, pr46, zx49, hx50⟩ := h48
            have hk51 := k_ls hk45 hx50
            refine g_iconst cx 3 (by decide) e_X11_closesSums_33 ?_
            refine g_icmp_ne cx 59 e_X11_closesSums_34 (by decide) (fun zc52 => ?_) (fun zc52 => ?_)
            · have hk53 := hk51.trans (if_neg zc52)
              exact hret e_X11_closesSums_59 (Nat.le_of_ble_eq_true rfl) (Nat.le_of_ble_eq_true rfl) ⟨F1, R2, rfl, oF1, oR2, wTF1R2, wCF1R2, fF1, fR2, ⟨M, L1, eL, hM, ps, (by first | exact fun h0 => absurd (by assumption) h0 | exact fun _ => (by have q0 := (jv_k (x := 2) 2 (by decide)).1; have q1 := (jv_k (x := 2) 2 (by decide)).2; have q2 := (jv_k (x := 3) 3 (by decide)).1; have q3 := (jv_k (x := 3) 3 (by decide)).2; have q4 := (jv_k (x := 4) 4 (by decide)).1; have q5 := (jv_k (x := 4) 4 (by decide)).2; have q6 := (g_ok_g oF1 8 rfl).1; have q7 := (g_ok_g oF1 8 rfl).2; have q8 := p29.1; have q9 := p29.2; have q10 := pr36.1; have q11 := pr36.2; have q12 := pr46.1; have q13 := pr46.2; have q14 := zx6; have q15 := (gc_lt zc28); have q16 := zx39; have q17 := (gc_ne zc42); have q18 := zx49; have q19 := (gc_ne zc52); omega)), hk, h25⟩, (hk53.symm.trans hSP)⟩
            · have p54 := gn_eq 3 3 (gc_eq zc52) pr46 (jv_k (x := 3) 3 (by decide)) (by decide)
              have hk55 := hk51.trans (if_pos zc52)
              exact J37  (by have q0 := (jv_k (x := 2) 2 (by decide)).1; have q1 := (jv_k (x := 2) 2 (by decide)).2; have q2 := (jv_k (x := 3) 3 (by decide)).1; have q3 := (jv_k (x := 3) 3 (by decide)).2; have q4 := (jv_k (x := 4) 4 (by decide)).1; have q5 := (jv_k (x := 4) 4 (by decide)).2; have q6 := (g_ok_g oF1 8 rfl).1; have q7 := (g_ok_g oF1 8 rfl).2; have q8 := p29.1; have q9 := p29.2; have q10 := pr36.1; have q11 := pr36.2; have q12 := p54.1; have q13 := p54.2; have q14 := zx6; have q15 := (gc_lt zc28); have q16 := zx39; have q17 := (gc_ne zc42); have q18 := zx49; have q19 := (gc_eq zc52); omega) hk55
      · have p56 := gn_ge 4 14 (gc_nlt zc28) pr3 (jv_k (x := 4) 4 (by decide)) (by decide)
        have hk57 := hk8.trans (if_neg zc28)
        refine g_aload_n cx 0 rfl e_X11_closesSums_8 ?_
        refine g_cViW cx [] [] (w_X11_waitTop l X ad F1 R2 oF1 oR2 (L1) ps.2.1 ps.2.2.1) ml_X11_241 yV_X11_waitTop e_X11_closesSums_9 (by unfold g_rr; decide) (by decide) 0 rfl rfl rfl (Nat.le_of_ble_eq_true rfl) (fun r58 w59 h60 => ?_)
        obtain ⟨rfl, pr58, zx61, hx62⟩ := h60
        have hk63 := k_ls hk57 hx62
        refine g_bipush cx 6 (by decide) e_X11_closesSums_12 ?_
        refine g_icmp_le cx 37 e_X11_closesSums_14 (by decide) (fun zc64 => ?_) (fun zc64 => ?_)
        · have p65 := gn_le (-1) 6 (gc_le zc64) pr58 (jv_k (x := 6) 6 (by decide)) (by decide)
          have hk66 := hk63.trans (if_pos zc64)
          exact J37  (by have q0 := (jv_k (x := 4) 4 (by decide)).1; have q1 := (jv_k (x := 4) 4 (by decide)).2; have q2 := (jv_k (x := 6) 6 (by decide)).1; have q3 := (jv_k (x := 6) 6 (by decide)).2; have q4 := (g_ok_g oF1 8 rfl).1; have q5 := (g_ok_g oF1 8 rfl).2; have q6 := p56.1; have q7 := p56.2; have q8 := p65.1; have q9 := p65.2; have q10 := zx6; have q11 := (gc_nlt zc28); have q12 := zx61; have q13 := (gc_le zc64); omega) hk66
        · have p67 := gn_gt 7 14 (gc_nle zc64) pr58 (jv_k (x := 6) 6 (by decide)) (by decide)
          have hk68 := hk63.trans (if_neg zc64)
          refine g_iload_n cx 1 rfl e_X11_closesSums_17 ?_
          refine g_if_eq cx 59 e_X11_closesSums_18 (by decide) (fun zc69 => ?_) (fun zc69 => ?_)
          · have p70 := gn_eq 0 0 (gc_eq zc69) pa0 (jv_k (x := 0) 0 (by decide)) (by decide)
            have hk71 := hk68.trans (if_pos zc69)
            exact hret e_X11_closesSums_59 (Nat.le_of_ble_eq_true rfl) (Nat.le_of_ble_eq_true rfl) ⟨F1, R2, rfl, oF1, oR2, wTF1R2, wCF1R2, fF1, fR2, ⟨M, L1, eL, hM, ps, (by first | exact fun h0 => absurd (by assumption) h0 | exact fun _ => (by have q0 := (jv_k (x := 4) 4 (by decide)).1; have q1 := (jv_k (x := 4) 4 (by decide)).2; have q2 := (jv_k (x := 6) 6 (by decide)).1; have q3 := (jv_k (x := 6) 6 (by decide)).2; have q4 := (g_ok_g oF1 8 rfl).1; have q5 := (g_ok_g oF1 8 rfl).2; have q6 := p56.1; have q7 := p56.2; have q8 := p67.1; have q9 := p67.2; have q10 := zx6; have q11 := (gc_nlt zc28); have q12 := zx61; have q13 := (gc_nle zc64); omega)), hk, h25⟩, (hk71.symm.trans hSP)⟩
          · have p72 := gn_neL 1 1 (gc_ne zc69) pa0 (jv_k (x := 0) 0 (by decide)) (by decide)
            have hk73 := hk68.trans (if_neg zc69)
            refine g_aload_n cx 0 rfl e_X11_closesSums_21 ?_
            refine g_cViW cx [] [] (w_X11_waitTop l X ad F1 R2 oF1 oR2 (L1) ps.2.1 ps.2.2.1) ml_X11_241 yV_X11_waitTop e_X11_closesSums_22 (by unfold g_rr; decide) (by decide) 0 rfl rfl rfl (Nat.le_of_ble_eq_true rfl) (fun r74 w75 h76 => ?_)
            obtain ⟨rfl, pr74, zx77, hx78⟩ := h76
            have hk79 := k_ls hk73 hx78
            refine g_iconst cx 2 (by decide) e_X11_closesSums_25 ?_
            refine g_icmp_eq cx 37 e_X11_closesSums_26 (by decide) (fun zc80 => ?_) (fun zc80 => ?_)
            · have p81 := gn_eq 2 2 (gc_eq zc80) pr74 (jv_k (x := 2) 2 (by decide)) (by decide)
              have hk82 := hk79.trans (if_pos zc80)
              exact J37  (by have q0 := (jv_k (x := 2) 2 (by decide)).1; have q1 := (jv_k (x := 2) 2 (by decide)).2; have q2 := (jv_k (x := 4) 4 (by decide)).1; have q3 := (jv_k (x := 4) 4 (by decide)).2; have q4 := (jv_k (x := 6) 6 (by decide)).1; have q5 := (jv_k (x := 6) 6 (by decide)).2; have q6 := (g_ok_g oF1 8 rfl).1; have q7 := (g_ok_g oF1 8 rfl).2; have q8 := p56.1; have q9 := p56.2; have q10 := p67.1; have q11 := p67.2; have q12 := p81.1; have q13 := p81.2; have q14 := zx6; have q15 := (gc_nlt zc28); have q16 := zx61; have q17 := (gc_nle zc64); have q18 := zx77; have q19 := (gc_eq zc80); omega) hk82
            · have hk83 := hk79.trans (if_neg zc80)
              refine g_aload_n cx 0 rfl e_X11_closesSums_29 ?_
              refine g_cViW cx [] [] (w_X11_waitTop l X ad F1 R2 oF1 oR2 (L1) ps.2.1 ps.2.2.1) ml_X11_241 yV_X11_waitTop e_X11_closesSums_30 (by unfold g_rr; decide) (by decide) 0 rfl rfl rfl (Nat.le_of_ble_eq_true rfl) (fun r84 w85 h86 => ?_)
              obtain ⟨rfl, pr84, zx87, hx88⟩ := h86
              have hk89 := k_ls hk83 hx88
              refine g_iconst cx 3 (by decide) e_X11_closesSums_33 ?_
              refine g_icmp_ne cx 59 e_X11_closesSums_34 (by decide) (fun zc90 => ?_) (fun zc90 => ?_)
              · have hk91 := hk89.trans (if_neg zc90)
                exact hret e_X11_closesSums_59 (Nat.le_of_ble_eq_true rfl) (Nat.le_of_ble_eq_true rfl) ⟨F1, R2, rfl, oF1, oR2, wTF1R2, wCF1R2, fF1, fR2, ⟨M, L1, eL, hM, ps, (by first | exact fun h0 => absurd (by assumption) h0 | exact fun _ => (by have q0 := (jv_k (x := 2) 2 (by decide)).1; have q1 := (jv_k (x := 2) 2 (by decide)).2; have q2 := (jv_k (x := 3) 3 (by decide)).1; have q3 := (jv_k (x := 3) 3 (by decide)).2; have q4 := (jv_k (x := 4) 4 (by decide)).1; have q5 := (jv_k (x := 4) 4 (by decide)).2; have q6 := (jv_k (x := 6) 6 (by decide)).1; have q7 := (jv_k (x := 6) 6 (by decide)).2; have q8 := (g_ok_g oF1 8 rfl).1; have q9 := (g_ok_g oF1 8 rfl).2; have q10 := p56.1; have q11 := p56.2; have q12 := p67.1; have q13 := p67.2; have q14 := pr74.1; have q15 := pr74.2; have q16 := pr84.1; have q17 := pr84.2; have q18 := zx6; have q19 := (gc_nlt zc28); have q20 := zx61; have q21 := (gc_nle zc64); have q22 := zx77; have q23 := (gc_ne zc80); have q24 := zx87; have q25 := (gc_ne zc90); omega)), hk, h25⟩, (hk91.symm.trans hSP)⟩
              · have p92 := gn_eq 3 3 (gc_eq zc90) pr84 (jv_k (x := 3) 3 (by decide)) (by decide)
                have hk93 := hk89.trans (if_pos zc90)
                exact J37  (by have q0 := (jv_k (x := 2) 2 (by decide)).1; have q1 := (jv_k (x := 2) 2 (by decide)).2; have q2 := (jv_k (x := 3) 3 (by decide)).1; have q3 := (jv_k (x := 3) 3 (by decide)).2; have q4 := (jv_k (x := 4) 4 (by decide)).1; have q5 := (jv_k (x := 4) 4 (by decide)).2; have q6 := (jv_k (x := 6) 6 (by decide)).1; have q7 := (jv_k (x := 6) 6 (by decide)).2; have q8 := (g_ok_g oF1 8 rfl).1; have q9 := (g_ok_g oF1 8 rfl).2; have q10 := p56.1; have q11 := p56.2; have q12 := p67.1; have q13 := p67.2; have q14 := pr74.1; have q15 := pr74.2; have q16 := p92.1; have q17 := p92.2; have q18 := zx6; have q19 := (gc_nlt zc28); have q20 := zx61; have q21 := (gc_nle zc64); have q22 := zx77; have q23 := (gc_ne zc80); have q24 := zx87; have q25 := (gc_eq zc90); omega) hk93
  exact J0 8589934592 F R hI (g_fr_rf F) hA (g_fr_rf R) hWT hWC (⟨[], L, rfl, fun q hq => absurd hq List.not_mem_nil, by simpa using hps, by simpa using hcb, fun k _ => rfl, Int.le_refl _⟩) hk0 (show (F 26).toInt.toNat < 8589934592 from by have q0 := (g_ok_g hI 8 rfl).1; have q1 := (g_ok_g hI 8 rfl).2; omega)
def sp_X11_opens (F : Nat → Int32) (R : Nat → Nat → Int32) (a0 : Int32) : Int32 × (Nat → Int32) × (Nat → Nat → Int32) :=
  if (F 24) = 6 then k_lt3 (sp_X11_wrongAt F R 5 (F 15)) (fun r21 F25 R26 => (r21, F25, R26)) else k_lt ((F 24) + 1) (fun x3 => k_lt (upd F 24 x3) (fun F5 => k_lt (1048576 * a0) (fun x7 => k_lt (g_u R 13 (upd (R 13) (Int32.toNatClampNeg (F 26)) x7)) (fun R9 => k_lt ((F 26) + 1) (fun x11 => k_lt (upd F5 26 x11) (fun F13 => k_lt ((F 15) + 1) (fun x15 => k_lt (upd F13 15 x15) (fun F17 => (1, F17, R9)))))))))
theorem e_X11_opens_0 : g_dc cX11_opens 0 (.aload_n 0) 1 1 := ⟨by decide +kernel, rfl⟩
theorem e_X11_opens_1 : g_dc cX11_opens 1 (.getfield 235) 3 4 := ⟨by decide +kernel, rfl⟩
theorem e_X11_opens_4 : g_dc cX11_opens 4 (.bipush 6) 2 6 := ⟨by decide +kernel, rfl⟩
theorem e_X11_opens_6 : g_dc cX11_opens 6 (.if_icmp .ne 13) 3 9 := ⟨by decide +kernel, rfl⟩
theorem e_X11_opens_9 : g_dc cX11_opens 9 (.aload_n 0) 1 10 := ⟨by decide +kernel, rfl⟩
theorem e_X11_opens_10 : g_dc cX11_opens 10 (.iconst 5) 1 11 := ⟨by decide +kernel, rfl⟩
theorem e_X11_opens_11 : g_dc cX11_opens 11 (.aload_n 0) 1 12 := ⟨by decide +kernel, rfl⟩
theorem e_X11_opens_12 : g_dc cX11_opens 12 (.getfield 190) 3 15 := ⟨by decide +kernel, rfl⟩
theorem e_X11_opens_15 : g_dc cX11_opens 15 (.invokevirtual 204) 3 18 := ⟨by decide +kernel, rfl⟩
theorem e_X11_opens_18 : g_dc cX11_opens 18 (.ireturn) 1 19 := ⟨by decide +kernel, rfl⟩
theorem e_X11_opens_19 : g_dc cX11_opens 19 (.aload_n 0) 1 20 := ⟨by decide +kernel, rfl⟩
theorem e_X11_opens_20 : g_dc cX11_opens 20 (.aload_n 0) 1 21 := ⟨by decide +kernel, rfl⟩
theorem e_X11_opens_21 : g_dc cX11_opens 21 (.getfield 235) 3 24 := ⟨by decide +kernel, rfl⟩
theorem e_X11_opens_24 : g_dc cX11_opens 24 (.iconst 1) 1 25 := ⟨by decide +kernel, rfl⟩
theorem e_X11_opens_25 : g_dc cX11_opens 25 (.iadd) 1 26 := ⟨by decide +kernel, rfl⟩
theorem e_X11_opens_26 : g_dc cX11_opens 26 (.putfield 235) 3 29 := ⟨by decide +kernel, rfl⟩
theorem e_X11_opens_29 : g_dc cX11_opens 29 (.aload_n 0) 1 30 := ⟨by decide +kernel, rfl⟩
theorem e_X11_opens_30 : g_dc cX11_opens 30 (.getfield 47) 3 33 := ⟨by decide +kernel, rfl⟩
theorem e_X11_opens_33 : g_dc cX11_opens 33 (.aload_n 0) 1 34 := ⟨by decide +kernel, rfl⟩
theorem e_X11_opens_34 : g_dc cX11_opens 34 (.getfield 238) 3 37 := ⟨by decide +kernel, rfl⟩
theorem e_X11_opens_37 : g_dc cX11_opens 37 (.ldc 234) 2 39 := ⟨by decide +kernel, rfl⟩
theorem e_X11_opens_39 : g_dc cX11_opens 39 (.iload_n 1) 1 40 := ⟨by decide +kernel, rfl⟩
theorem e_X11_opens_40 : g_dc cX11_opens 40 (.imul) 1 41 := ⟨by decide +kernel, rfl⟩
theorem e_X11_opens_41 : g_dc cX11_opens 41 (.iastore) 1 42 := ⟨by decide +kernel, rfl⟩
theorem e_X11_opens_42 : g_dc cX11_opens 42 (.aload_n 0) 1 43 := ⟨by decide +kernel, rfl⟩
theorem e_X11_opens_43 : g_dc cX11_opens 43 (.aload_n 0) 1 44 := ⟨by decide +kernel, rfl⟩
theorem e_X11_opens_44 : g_dc cX11_opens 44 (.getfield 238) 3 47 := ⟨by decide +kernel, rfl⟩
theorem e_X11_opens_47 : g_dc cX11_opens 47 (.iconst 1) 1 48 := ⟨by decide +kernel, rfl⟩
theorem e_X11_opens_48 : g_dc cX11_opens 48 (.iadd) 1 49 := ⟨by decide +kernel, rfl⟩
theorem e_X11_opens_49 : g_dc cX11_opens 49 (.putfield 238) 3 52 := ⟨by decide +kernel, rfl⟩
theorem e_X11_opens_52 : g_dc cX11_opens 52 (.aload_n 0) 1 53 := ⟨by decide +kernel, rfl⟩
theorem e_X11_opens_53 : g_dc cX11_opens 53 (.aload_n 0) 1 54 := ⟨by decide +kernel, rfl⟩
theorem e_X11_opens_54 : g_dc cX11_opens 54 (.getfield 190) 3 57 := ⟨by decide +kernel, rfl⟩
theorem e_X11_opens_57 : g_dc cX11_opens 57 (.iconst 1) 1 58 := ⟨by decide +kernel, rfl⟩
theorem e_X11_opens_58 : g_dc cX11_opens 58 (.iadd) 1 59 := ⟨by decide +kernel, rfl⟩
theorem e_X11_opens_59 : g_dc cX11_opens 59 (.putfield 190) 3 62 := ⟨by decide +kernel, rfl⟩
theorem e_X11_opens_62 : g_dc cX11_opens 62 (.iconst 1) 1 63 := ⟨by decide +kernel, rfl⟩
theorem e_X11_opens_63 : g_dc cX11_opens 63 (.ireturn) 1 64 := ⟨by decide +kernel, rfl⟩
def md_X11_opens : List Nat := [15, 17, 24, 26]
def mr_X11_opens : List Nat := [13]
set_option maxHeartbeats 4000000 in
set_option maxRecDepth 100000 in
theorem w_X11_opens (l : Launch) (X : gX) (ad : Nat → Nat) (F : Nat → Int32) (R : Nat → Nat → Int32) (hI : g_ok LK_wM F) (hA : g_okR LA_wM R) (hWT : WT F R) (hWC : WC F R) (a0 : Int32) (pa0 : jv 0 14 a0) (A : Nat × Nat) (L : List (Int × Nat)) (h : Int) (hps : PS F R A L h) (hlt : (F 15).toInt < (F 16).toInt) (ho : ¬ (11 ≤ a0.toInt ∧ a0.toInt ≤ 12)) : g_Ci l X yX11_opens cX11_opens 2 (some .boolean) 2 0 0 [.ref (ad 0), .int a0] (wM X ad F R) (fun r w => ∃ (F' : Nat → Int32) (R' : Nat → Nat → Int32), w = wM X ad F' R' ∧ g_ok LK_wM F' ∧ g_okR LA_wM R' ∧ WT F' R' ∧ WC F' R' ∧ g_fr md_X11_opens F F' ∧ g_fr mr_X11_opens R R' ∧ jv 0 1 r ∧ (¬ r = 0 → PS F' R' A ((a0.toInt, 0) :: L) h ∧ (F' 15).toInt = (F 15).toInt + 1) ∧ (r, F', R') = sp_X11_opens F R a0) := by
  refine g_mi (by decide +kernel) (Nat.le_of_ble_eq_true rfl) (fun E cx hret => ?_)
  obtain ⟨SP, hSP⟩ : ∃ z, z = sp_X11_opens F R a0 := ⟨_, rfl⟩
  have hk0 := hSP
  unfold sp_X11_opens at hk0
  refine g_aload_n cx 0 rfl e_X11_opens_0 ?_
  refine g_get cx cl_X11 fl_X11_235 0 (.int (F 24)) e_X11_opens_1 rfl rfl ?_
  refine g_bipush cx 6 (by decide) e_X11_opens_4 ?_
  refine g_icmp_ne cx 19 e_X11_opens_6 (by decide) (fun zc1 => ?_) (fun zc1 => ?_)
  · have hk2 := hk0.trans (if_neg zc1)
    refine g_aload_n cx 0 rfl e_X11_opens_19 ?_
    refine g_aload_n cx 0 rfl e_X11_opens_20 ?_
    refine g_get cx cl_X11 fl_X11_235 0 (.int (F 24)) e_X11_opens_21 rfl rfl ?_
    refine g_iconst cx 1 (by decide) e_X11_opens_24 ?_
    refine g_iadd cx e_X11_opens_25 ?_
    refine g_topi (fun x3 ex3 => ?_)
    have hk4 := k_ls hk2 ex3
    refine g_put cx cl_X11 fl_X11_235 0 (wM X ad (upd F 24 x3) R) e_X11_opens_26 rfl rfl rfl rfl (Nat.le_of_ble_eq_true rfl) rfl ?_
    obtain ⟨F5, hF5⟩ : ∃ z, z = upd F 24 x3 := ⟨_, rfl⟩
    rw [← hF5]
    have hk6 := k_ls hk4 hF5
    have oF5 : g_ok LK_wM F5 := by rw [hF5]; exact g_ok_p hI (jv_t x3) rfl
    have fF5 : g_fr md_X11_opens F F5 := by rw [hF5]; exact g_fr_u (g_fr_rf F) rfl
    have wTF5 : WT F5 R := by rw [hF5]; exact WT_u hWT rfl
    have wCF5 : WC F5 R := by rw [hF5]; exact WC_u hWC rfl
    refine g_aload_n cx 0 rfl e_X11_opens_29 ?_
    refine g_get cx cl_X11 fl_X11_47 0 (.ref (ad 13)) e_X11_opens_30 rfl rfl ?_
    refine g_aload_n cx 0 rfl e_X11_opens_33 ?_
    refine g_get cx cl_X11 fl_X11_238 0 (.int (F5 26)) e_X11_opens_34 rfl rfl ?_
    refine g_toi (F 26) (g_pu2 hF5 rfl) ?_
    refine g_ldc cx 1048576 kc_X11_234 e_X11_opens_37 ?_
    refine g_iload_n cx 1 rfl e_X11_opens_39 ?_
    refine g_imul cx e_X11_opens_40 ?_
    refine g_topi (fun x7 ex7 => ?_)
    have hk8 := k_ls hk6 ex7
    have zx7 := jv_mul 0 14680064 ex7 (jv_k (x := 1048576) 1048576 (by decide)) pa0 (by decide)
    refine g_iast cx 13 (wM X ad F5 (g_u R 13 (upd (R 13) (Int32.toNatClampNeg (F 26)) x7))) e_X11_opens_41 rfl (vp_in_iff.mpr ⟨by have q0 := (g_ok_g hI 1 rfl).1; have q1 := (g_ok_g hI 1 rfl).2; have q2 := (g_ok_g hI 2 rfl).1; have q3 := (g_ok_g hI 2 rfl).2; have q4 := (g_ok_g hI 8 rfl).1; have q5 := (g_ok_g hI 8 rfl).2; have q6 := hlt; have q7 := hps.2.2.2.2.2; have q8 := hps.2.2.1; omega, by have q0 := (g_ok_g hI 1 rfl).1; have q1 := (g_ok_g hI 1 rfl).2; have q2 := (g_ok_g hI 2 rfl).1; have q3 := (g_ok_g hI 2 rfl).2; have q4 := (g_ok_g hI 8 rfl).1; have q5 := (g_ok_g hI 8 rfl).2; have q6 := hlt; have q7 := hps.2.2.2.2.2; have q8 := hps.2.2.1; omega⟩) rfl ?_
    obtain ⟨R9, hR9⟩ : ∃ z, z = g_u R 13 (upd (R 13) (Int32.toNatClampNeg (F 26)) x7) := ⟨_, rfl⟩
    rw [← hR9]
    have hk10 := k_ls hk8 hR9
    have oR9 : g_okR LA_wM R9 := by rw [hR9]; exact g_okR_p hA zx7.2 rfl
    have fR9 : g_fr mr_X11_opens R R9 := by rw [hR9]; exact g_fr_r (g_fr_rf R) rfl
    have wTR9 : WT F5 R9 := by rw [hR9]; exact WT_r wTF5 rfl
    have wCR9 : WC F5 R9 := by rw [hR9]; exact WC_r wCF5 rfl
    refine g_aload_n cx 0 rfl e_X11_opens_42 ?_
    refine g_aload_n cx 0 rfl e_X11_opens_43 ?_
    refine g_get cx cl_X11 fl_X11_238 0 (.int (F5 26)) e_X11_opens_44 rfl rfl ?_
    refine g_toi (F 26) (g_pu2 hF5 rfl) ?_
    refine g_iconst cx 1 (by decide) e_X11_opens_47 ?_
    refine g_iadd cx e_X11_opens_48 ?_
    refine g_topi (fun x11 ex11 => ?_)
    have hk12 := k_ls hk10 ex11
    have zx11 := jv_add 1 221 ex11 (g_ok_g hI 8 rfl) (jv_k (x := 1) 1 (by decide)) (by decide)
    refine g_put cx cl_X11 fl_X11_238 0 (wM X ad (upd F5 26 x11) R9) e_X11_opens_49 rfl rfl rfl rfl (Nat.le_of_ble_eq_true rfl) rfl ?_
    obtain ⟨F13, hF13⟩ : ∃ z, z = upd F5 26 x11 := ⟨_, rfl⟩
    rw [← hF13]
    have hk14 := k_ls hk12 hF13
    have oF13 : g_ok LK_wM F13 := by rw [hF13]; exact g_ok_p oF5 (show jv 0 220 _ from ⟨by have q0 := (jv_k (x := 1) 1 (by decide)).1; have q1 := (jv_k (x := 1) 1 (by decide)).2; have q2 := (g_ok_g hI 1 rfl).1; have q3 := (g_ok_g hI 1 rfl).2; have q4 := (g_ok_g hI 2 rfl).1; have q5 := (g_ok_g hI 2 rfl).2; have q6 := (g_ok_g hI 8 rfl).1; have q7 := (g_ok_g hI 8 rfl).2; have q8 := zx11.2.1; have q9 := zx11.2.2; have q10 := hlt; have q11 := hps.2.2.2.2.2; have q12 := hps.2.2.1; have q13 := (g_eq0 zx11.1); omega, by have q0 := (jv_k (x := 1) 1 (by decide)).1; have q1 := (jv_k (x := 1) 1 (by decide)).2; have q2 := (g_ok_g hI 1 rfl).1; have q3 := (g_ok_g hI 1 rfl).2; have q4 := (g_ok_g hI 2 rfl).1; have q5 := (g_ok_g hI 2 rfl).2; have q6 := (g_ok_g hI 8 rfl).1; have q7 := (g_ok_g hI 8 rfl).2; have q8 := zx11.2.1; have q9 := zx11.2.2; have q10 := hlt; have q11 := hps.2.2.2.2.2; have q12 := hps.2.2.1; have q13 := (g_eq0 zx11.1); omega⟩) rfl
    have fF13 : g_fr md_X11_opens F F13 := by rw [hF13]; exact g_fr_u fF5 rfl
    have wTF13 : WT F13 R9 := by rw [hF13]; exact WT_u wTR9 rfl
    have wCF13 : WC F13 R9 := by rw [hF13]; exact WC_u wCR9 rfl
    refine g_aload_n cx 0 rfl e_X11_opens_52 ?_
    refine g_aload_n cx 0 rfl e_X11_opens_53 ?_
    refine g_get cx cl_X11 fl_X11_190 0 (.int (F13 15)) e_X11_opens_54 rfl rfl ?_
    refine g_toi (F 15) ((g_pu2 hF13 rfl).trans (g_pu2 hF5 rfl)) ?_
    refine g_iconst cx 1 (by decide) e_X11_opens_57 ?_
    refine g_iadd cx e_X11_opens_58 ?_
    refine g_topi (fun x15 ex15 => ?_)
    have hk16 := k_ls hk14 ex15
    have zx15 := jv_add 1 221 ex15 (g_ok_g hI 1 rfl) (jv_k (x := 1) 1 (by decide)) (by decide)
    refine g_put cx cl_X11 fl_X11_190 0 (wM X ad (upd F13 15 x15) R9) e_X11_opens_59 rfl rfl rfl rfl (Nat.le_of_ble_eq_true rfl) rfl ?_
    obtain ⟨F17, hF17⟩ : ∃ z, z = upd F13 15 x15 := ⟨_, rfl⟩
    rw [← hF17]
    have hk18 := k_ls hk16 hF17
    have oF17 : g_ok LK_wM F17 := by rw [hF17]; exact g_ok_p oF13 (show jv 0 220 _ from ⟨by have q0 := (jv_k (x := 1) 1 (by decide)).1; have q1 := (jv_k (x := 1) 1 (by decide)).2; have q2 := (g_ok_g hI 1 rfl).1; have q3 := (g_ok_g hI 1 rfl).2; have q4 := (g_ok_g hI 2 rfl).1; have q5 := (g_ok_g hI 2 rfl).2; have q6 := (g_ok_g hI 8 rfl).1; have q7 := (g_ok_g hI 8 rfl).2; have q8 := zx11.2.1; have q9 := zx11.2.2; have q10 := zx15.2.1; have q11 := zx15.2.2; have q12 := hlt; have q13 := hps.2.2.2.2.2; have q14 := hps.2.2.1; have q15 := (g_eq0 zx11.1); have q16 := (g_eq0 zx15.1); omega, by have q0 := (jv_k (x := 1) 1 (by decide)).1; have q1 := (jv_k (x := 1) 1 (by decide)).2; have q2 := (g_ok_g hI 1 rfl).1; have q3 := (g_ok_g hI 1 rfl).2; have q4 := (g_ok_g hI 2 rfl).1; have q5 := (g_ok_g hI 2 rfl).2; have q6 := (g_ok_g hI 8 rfl).1; have q7 := (g_ok_g hI 8 rfl).2; have q8 := zx11.2.1; have q9 := zx11.2.2; have q10 := zx15.2.1; have q11 := zx15.2.2; have q12 := hlt; have q13 := hps.2.2.2.2.2; have q14 := hps.2.2.1; have q15 := (g_eq0 zx11.1); have q16 := (g_eq0 zx15.1); omega⟩) rfl
    have fF17 : g_fr md_X11_opens F F17 := by rw [hF17]; exact g_fr_u fF13 rfl
    have wTF17 : WT F17 R9 := by rw [hF17]; exact WT_u wTF13 rfl
    have wCF17 : WC F17 R9 := by rw [hF17]; exact WC_u wCF13 rfl
    refine g_iconst cx 1 (by decide) e_X11_opens_62 ?_
    exact hret e_X11_opens_63 (Nat.le_of_ble_eq_true rfl) (Nat.le_of_ble_eq_true rfl) rfl ⟨F17, R9, rfl, oF17, oR9, wTF17, wCF17, fF17, fR9, (jv_w (jv_k (x := 1) 1 (by decide)) (by decide)), (fun _ => ⟨PS_push (v := x7) hps ⟨by have q := pa0.1; omega, by have q := pa0.2; omega, ho⟩ (by have q0 := pa0.1; have q1 := pa0.2; have q2 := zx7.2.1; have q3 := zx7.2.2; have q4 := (g_em2 zx7.1 (by decide : Int32.toInt 1048576 = 1048576)); omega) (((g_pu2 hF17 rfl).trans (g_pu2 hF13 rfl)).trans (g_pu2 hF5 rfl)) (by have q0 := (jv_k (x := 1) 1 (by decide)).1; have q1 := (jv_k (x := 1) 1 (by decide)).2; have q2 := (g_ok_g hI 1 rfl).1; have q3 := (g_ok_g hI 1 rfl).2; have q4 := (g_ok_g hI 2 rfl).1; have q5 := (g_ok_g hI 2 rfl).2; have q6 := (g_ok_g hI 8 rfl).1; have q7 := (g_ok_g hI 8 rfl).2; have q8 := (g_ok_g oF17 8 rfl).1; have q9 := (g_ok_g oF17 8 rfl).2; have q10 := zx11.2.1; have q11 := zx11.2.2; have q12 := zx15.2.1; have q13 := zx15.2.2; have q14 := hlt; have q15 := hps.2.2.2.2.2; have q16 := hps.2.2.1; have q17 := (g_eq0 zx11.1); have q18 := (g_eq0 zx15.1); have q19 := (congrArg Int32.toInt (show F17 26 = x11 from ((g_pu2 hF17 rfl).trans (g_pu1 hF13)))); omega) (by have q0 := (jv_k (x := 1) 1 (by decide)).1; have q1 := (jv_k (x := 1) 1 (by decide)).2; have q2 := (g_ok_g hI 1 rfl).1; have q3 := (g_ok_g hI 1 rfl).2; have q4 := (g_ok_g hI 2 rfl).1; have q5 := (g_ok_g hI 2 rfl).2; have q6 := (g_ok_g hI 8 rfl).1; have q7 := (g_ok_g hI 8 rfl).2; have q8 := (g_ok_g oF17 1 rfl).1; have q9 := (g_ok_g oF17 1 rfl).2; have q10 := (g_ok_g oF17 8 rfl).1; have q11 := (g_ok_g oF17 8 rfl).2; have q12 := zx11.2.1; have q13 := zx11.2.2; have q14 := zx15.2.1; have q15 := zx15.2.2; have q16 := hlt; have q17 := hps.2.2.2.2.2; have q18 := hps.2.2.1; have q19 := (g_eq0 zx11.1); have q20 := (g_eq0 zx15.1); have q21 := (congrArg Int32.toInt (show F17 26 = x11 from ((g_pu2 hF17 rfl).trans (g_pu1 hF13)))); have q22 := (congrArg Int32.toInt (show F17 15 = x15 from (g_pu1 hF17))); omega) (g_ru2 hR9 rfl) (g_ru1 hR9), by have q0 := (jv_k (x := 1) 1 (by decide)).1; have q1 := (jv_k (x := 1) 1 (by decide)).2; have q2 := (g_ok_g hI 1 rfl).1; have q3 := (g_ok_g hI 1 rfl).2; have q4 := (g_ok_g hI 2 rfl).1; have q5 := (g_ok_g hI 2 rfl).2; have q6 := (g_ok_g hI 8 rfl).1; have q7 := (g_ok_g hI 8 rfl).2; have q8 := (g_ok_g oF17 1 rfl).1; have q9 := (g_ok_g oF17 1 rfl).2; have q10 := (g_ok_g oF17 8 rfl).1; have q11 := (g_ok_g oF17 8 rfl).2; have q12 := zx11.2.1; have q13 := zx11.2.2; have q14 := zx15.2.1; have q15 := zx15.2.2; have q16 := hlt; have q17 := hps.2.2.2.2.2; have q18 := hps.2.2.1; have q19 := (g_eq0 zx11.1); have q20 := (g_eq0 zx15.1); have q21 := (congrArg Int32.toInt (show F17 26 = x11 from ((g_pu2 hF17 rfl).trans (g_pu1 hF13)))); have q22 := (congrArg Int32.toInt (show F17 15 = x15 from (g_pu1 hF17))); have q23 := (congrArg Int32.toInt (show F17 15 = x15 from (g_pu1 hF17))); omega⟩), (hk18.symm.trans hSP)⟩
  · have p19 := gn_eq 6 6 (gc_eq zc1) (g_ok_g hI 6 rfl) (jv_k (x := 6) 6 (by decide)) (by decide)
    have hk20 := hk0.trans (if_pos zc1)
    refine g_aload_n cx 0 rfl e_X11_opens_9 ?_
    refine g_iconst cx 5 (by decide) e_X11_opens_10 ?_
    refine g_aload_n cx 0 rfl e_X11_opens_11 ?_
    refine g_get cx cl_X11 fl_X11_190 0 (.int (F 15)) e_X11_opens_12 rfl rfl ?_
    refine g_cViW cx [.int 5, .int (F 15)] [] (w_X11_wrongAt l X ad F R hI hA hWT hWC 5 (F 15)) ml_X11_204 yV_X11_wrongAt e_X11_opens_15 (by unfold g_rr; decide) (by decide) 0 rfl rfl rfl (Nat.le_of_ble_eq_true rfl) (fun r21 w22 h23 => ?_)
    obtain ⟨F25, R26, rfl, oF25, oR26, wTF25, wCF25, cF25, cR26, pr21, hx24⟩ := h23
    have hk27 := k_ls3 hk20 hx24
    have fF25 : g_fr md_X11_opens F F25 := g_fr_c (g_fr_rf F) cF25 rfl
    have fR26 : g_fr mr_X11_opens R R26 := g_fr_c (g_fr_rf R) cR26 rfl
    exact hret e_X11_opens_18 (Nat.le_of_ble_eq_true rfl) (Nat.le_of_ble_eq_true rfl) (g_narb (jv_w pr21 (by decide))) ⟨F25, R26, rfl, oF25, oR26, wTF25, wCF25, fF25, fR26, (jv_w pr21 (by decide)), (fun h0 => absurd (by first | rfl | exact jv_c 0 pr21 (by decide)) h0), (hk27.symm.trans hSP)⟩
def KB_X11_hasOpenSum_2 (b2 : (Int32) → Int32) (F : Nat → Int32) (R : Nat → Nat → Int32) (y1 : Int32) : Int32 :=
  if (F 26) ≤ y1 then 0 else k_lt (R 13 (Int32.toNatClampNeg y1)) (fun x7 => k_lt (x7 / 1048576) (fun x10 => if x10 = 14 then 1 else k_lt (y1 + 1) (fun x15 => b2 x15)))
def K_X11_hasOpenSum_2 (F : Nat → Int32) (R : Nat → Nat → Int32) : Nat → (Int32) → Int32
  | 0 => fun _ => 0
  | n + 1 => KB_X11_hasOpenSum_2 (K_X11_hasOpenSum_2 F R n) F R
def sp_X11_hasOpenSum (F : Nat → Int32) (R : Nat → Nat → Int32) (a0 : Int32) : Int32 :=
  K_X11_hasOpenSum_2 F R 8589934592 a0
theorem e_X11_hasOpenSum_0 : g_dc cX11_hasOpenSum 0 (.iload_n 1) 1 1 := ⟨by decide +kernel, rfl⟩
theorem e_X11_hasOpenSum_1 : g_dc cX11_hasOpenSum 1 (.istore_n 2) 1 2 := ⟨by decide +kernel, rfl⟩
theorem e_X11_hasOpenSum_2 : g_dc cX11_hasOpenSum 2 (.iload_n 2) 1 3 := ⟨by decide +kernel, rfl⟩
theorem e_X11_hasOpenSum_3 : g_dc cX11_hasOpenSum 3 (.aload_n 0) 1 4 := ⟨by decide +kernel, rfl⟩
theorem e_X11_hasOpenSum_4 : g_dc cX11_hasOpenSum 4 (.getfield 238) 3 7 := ⟨by decide +kernel, rfl⟩
theorem e_X11_hasOpenSum_7 : g_dc cX11_hasOpenSum 7 (.if_icmp .ge 25) 3 10 := ⟨by decide +kernel, rfl⟩
theorem e_X11_hasOpenSum_10 : g_dc cX11_hasOpenSum 10 (.aload_n 0) 1 11 := ⟨by decide +kernel, rfl⟩
theorem e_X11_hasOpenSum_11 : g_dc cX11_hasOpenSum 11 (.getfield 47) 3 14 := ⟨by decide +kernel, rfl⟩
theorem e_X11_hasOpenSum_14 : g_dc cX11_hasOpenSum 14 (.iload_n 2) 1 15 := ⟨by decide +kernel, rfl⟩
theorem e_X11_hasOpenSum_15 : g_dc cX11_hasOpenSum 15 (.iaload) 1 16 := ⟨by decide +kernel, rfl⟩
theorem e_X11_hasOpenSum_16 : g_dc cX11_hasOpenSum 16 (.ldc 234) 2 18 := ⟨by decide +kernel, rfl⟩
theorem e_X11_hasOpenSum_18 : g_dc cX11_hasOpenSum 18 (.idiv) 1 19 := ⟨by decide +kernel, rfl⟩
theorem e_X11_hasOpenSum_19 : g_dc cX11_hasOpenSum 19 (.bipush 14) 2 21 := ⟨by decide +kernel, rfl⟩
theorem e_X11_hasOpenSum_21 : g_dc cX11_hasOpenSum 21 (.if_icmp .ne 5) 3 24 := ⟨by decide +kernel, rfl⟩
theorem e_X11_hasOpenSum_24 : g_dc cX11_hasOpenSum 24 (.iconst 1) 1 25 := ⟨by decide +kernel, rfl⟩
theorem e_X11_hasOpenSum_25 : g_dc cX11_hasOpenSum 25 (.ireturn) 1 26 := ⟨by decide +kernel, rfl⟩
theorem e_X11_hasOpenSum_26 : g_dc cX11_hasOpenSum 26 (.iinc 2 1) 3 29 := ⟨by decide +kernel, rfl⟩
theorem e_X11_hasOpenSum_29 : g_dc cX11_hasOpenSum 29 (.goto (-27)) 3 32 := ⟨by decide +kernel, rfl⟩
theorem e_X11_hasOpenSum_32 : g_dc cX11_hasOpenSum 32 (.iconst 0) 1 33 := ⟨by decide +kernel, rfl⟩
theorem e_X11_hasOpenSum_33 : g_dc cX11_hasOpenSum 33 (.ireturn) 1 34 := ⟨by decide +kernel, rfl⟩
set_option maxHeartbeats 4000000 in
set_option maxRecDepth 100000 in
theorem w_X11_hasOpenSum (l : Launch) (X : gX) (ad : Nat → Nat) (F : Nat → Int32) (R : Nat → Nat → Int32) (hI : g_ok LK_wM F) (hA : g_okR LA_wM R) (a0 : Int32) (pa0 : jv 0 220 a0) (M : List (Int × Nat)) (L : List (Int × Nat)) (hw : WS (R 13) (M ++ L)) (hl : ((M ++ L).length : Int) = (F 26).toInt) (hb : a0.toInt = L.length) : g_Ci l X yX11_hasOpenSum cX11_hasOpenSum 3 (some .boolean) 1 0 0 [.ref (ad 0), .int a0] (wM X ad F R) (fun r w => w = wM X ad F R ∧ jv 0 1 r ∧ (r = 0 → ∀ q ∈ M, q.1 ≠ 14) ∧ (¬ r = 0 → ∃ q ∈ M, q.1 = 14) ∧ r = sp_X11_hasOpenSum F R a0) := by
  refine g_mi (by decide +kernel) (Nat.le_of_ble_eq_true rfl) (fun E cx hret => ?_)
  obtain ⟨SP, hSP⟩ : ∃ z, z = sp_X11_hasOpenSum F R a0 := ⟨_, rfl⟩
  have hk0 := hSP
  unfold sp_X11_hasOpenSum at hk0
  refine g_iload_n cx 1 rfl e_X11_hasOpenSum_0 ?_
  refine g_istore_n cx [(2, .int a0), (0, .ref (ad 0)), (1, .int a0)] e_X11_hasOpenSum_1 (by decide) rfl ?_
  have J2 : ∀ (N : Nat) (y1 : Int32), (jv 0 220 y1) → (a0.toInt ≤ (y1 : Int32).toInt) → (∀ j : Nat, L.length ≤ j → (j : Int) < (y1 : Int32).toInt → g_op (R 13 j) ≠ 14) → (SP = K_X11_hasOpenSum_2 F R N y1) → (2147483647 - y1.toInt).toNat < N → G X E 3 0 0 (wM X ad F R) [(0, .ref (ad 0)), (2, .int y1)] 2 [] := by
    intro N
    induction N with
    | zero => intro y1 py1 zi2_0 zq2_0 hkJ2 hm; exact absurd hm (Nat.not_lt_zero _)
    | succ N ih2 =>
      intro y1 py1 zi2_0 zq2_0 hkJ2 hm2
      have hkK2 : SP = KB_X11_hasOpenSum_2 (K_X11_hasOpenSum_2 F R N) F R y1 := hkJ2
      obtain ⟨b2, hb2⟩ : ∃ z, z = K_X11_hasOpenSum_2 F R N := ⟨_, rfl⟩
      rw [← hb2] at hkK2
      unfold KB_X11_hasOpenSum_2 at hkK2
      refine g_iload_n cx 1 rfl e_X11_hasOpenSum_2 ?_
      refine g_aload_n cx 0 rfl e_X11_hasOpenSum_3 ?_
      refine g_get cx cl_X11 fl_X11_238 0 (.int (F 26)) e_X11_hasOpenSum_4 rfl rfl ?_
      refine g_icmp_ge cx 32 e_X11_hasOpenSum_7 (by decide) (fun zc2 => ?_) (fun zc2 => ?_)
      · have hk3 := hkK2.trans (if_pos zc2)
        refine g_iconst cx 0 (by decide) e_X11_hasOpenSum_32 ?_
        exact hret e_X11_hasOpenSum_33 (Nat.le_of_ble_eq_true rfl) (Nat.le_of_ble_eq_true rfl) rfl ⟨rfl, (jv_w (jv_k (x := 0) 0 (by decide)) (by decide)), (fun _ q hq => by obtain ⟨j, j1, j2, j3⟩ := WS_in hw q hq; rw [← j3]; exact zq2_0 j j1 (by have q0 := (g_ok_g hI 8 rfl).1; have q1 := (g_ok_g hI 8 rfl).2; have q2 := pa0.1; have q3 := pa0.2; have q4 := py1.1; have q5 := py1.2; have q6 := hb; have q7 := zi2_0; have q8 := (gc_le zc2); have q9 := j2; have q10 := hl; omega)), (fun h0 => absurd rfl h0), (hk3.symm.trans hSP)⟩
      · have p4 := gn_lt 0 219 (gc_nle zc2) py1 (g_ok_g hI 8 rfl) (by decide)
        have p5 := gn_gt 1 220 (gc_nle zc2) (g_ok_g hI 8 rfl) py1 (by decide)
        have hk6 := hkK2.trans (if_neg zc2)
        refine g_aload_n cx 0 rfl e_X11_hasOpenSum_10 ?_
        refine g_get cx cl_X11 fl_X11_47 0 (.ref (ad 13)) e_X11_hasOpenSum_11 rfl rfl ?_
        refine g_iload_n cx 1 rfl e_X11_hasOpenSum_14 ?_
        refine g_iald cx 13 e_X11_hasOpenSum_15 rfl (jv_ix 220 p4 (by decide)) ?_
        refine g_topi (fun x7 ex7 => ?_)
        have hk8 := k_ls hk6 ex7
        have p9 : jv 0 15728639 x7 := by rw [ex7]; exact g_okR_g hA 1 rfl (jv_cl 220 p4 (by decide))
        refine g_ldc cx 1048576 kc_X11_234 e_X11_hasOpenSum_16 ?_
        refine g_idiv cx (by decide) e_X11_hasOpenSum_18 ?_
        refine g_topi (fun x10 ex10 => ?_)
        have hk11 := k_ls hk8 ex10
        have zx10 := jv_div 0 14 ex10 p9 (jv_k (x := 1048576) 1048576 (by decide)) (by decide)
        refine g_bipush cx 14 (by decide) e_X11_hasOpenSum_19 ?_
        refine g_icmp_ne cx 26 e_X11_hasOpenSum_21 (by decide) (fun zc12 => ?_) (fun zc12 => ?_)
        · have p13 := gn_neH 0 13 (gc_ne zc12) zx10.2 (jv_k (x := 14) 14 (by decide)) (by decide)
          have hk14 := hk11.trans (if_neg zc12)
          obtain ⟨x15, ex15⟩ : ∃ z : Int32, z = y1 + Int32.ofInt 1 := ⟨_, rfl⟩
          have hk16 := k_ls hk14 (show x15 = y1 + 1 from ex15)
          refine g_iinc cx x15 [(2, .int x15), (0, .ref (ad 0))] 1 e_X11_hasOpenSum_26 rfl ex15.symm (by decide) rfl ?_
          have zx15 := jv_add 1 220 (show x15 = y1 + 1 from ex15) p4 (jv_k (x := 1) 1 (by decide)) (by decide)
          refine g_goto cx 2 e_X11_hasOpenSum_29 (by decide) ?_
          refine g_lsub [1, 0] [(0, .ref (ad 0)), (2, .int x15)] rfl ?_
          exact ih2 x15 (jv_w zx15.2 (by decide)) (by have q0 := (jv_k (x := 1) 1 (by decide)).1; have q1 := (jv_k (x := 1) 1 (by decide)).2; have q2 := p5.1; have q3 := p5.2; have q4 := pa0.1; have q5 := pa0.2; have q6 := zx15.2.1; have q7 := zx15.2.2; have q8 := p4.1; have q9 := p4.2; have q10 := hb; have q11 := zi2_0; have q12 := (gc_nle zc2); have q13 := (g_eq0 zx15.1); omega) ((fun j h1 h2 => by
            by_cases e : (j : Int) < (y1 : Int32).toInt
            · exact zq2_0 j h1 e
            · have e2 : j = y1.toNatClampNeg := (g_clm (k := y1) (m := j) (by have q0 := (jv_k (x := 1) 1 (by decide)).1; have q1 := (jv_k (x := 1) 1 (by decide)).2; have q2 := p5.1; have q3 := p5.2; have q4 := pa0.1; have q5 := pa0.2; have q6 := zx15.2.1; have q7 := zx15.2.2; have q8 := p4.1; have q9 := p4.2; have q10 := hb; have q11 := zi2_0; have q12 := (gc_nle zc2); have q13 := (g_eq0 zx15.1); have q14 := h2; have q15 := e; omega)).symm
              rw [e2, ← ex7, g_opd]; have q0 := (jv_k (x := 14) 14 (by decide)).1; have q1 := (jv_k (x := 14) 14 (by decide)).2; have q2 := p13.1; have q3 := p13.2; have q4 := p9.1; have q5 := p9.2; have q6 := (g_ed zx10.1 (by decide : Int32.toInt 1048576 = 1048576)); have q7 := (gc_ne zc12); omega)) (hk16.trans (by rw [hb2])) (Nat.lt_of_lt_of_le (show (2147483647 - x15.toInt).toNat < (2147483647 - y1.toInt).toNat from by have q0 := (jv_k (x := 1) 1 (by decide)).1; have q1 := (jv_k (x := 1) 1 (by decide)).2; have q2 := p5.1; have q3 := p5.2; have q4 := pa0.1; have q5 := pa0.2; have q6 := zx15.2.1; have q7 := zx15.2.2; have q8 := p4.1; have q9 := p4.2; have q10 := hb; have q11 := zi2_0; have q12 := (gc_nle zc2); have q13 := (g_eq0 zx15.1); omega) (Nat.le_of_lt_succ hm2))
        · have p17 := gn_eq 14 14 (gc_eq zc12) zx10.2 (jv_k (x := 14) 14 (by decide)) (by decide)
          have hk18 := hk11.trans (if_pos zc12)
          refine g_iconst cx 1 (by decide) e_X11_hasOpenSum_24 ?_
          exact hret e_X11_hasOpenSum_25 (Nat.le_of_ble_eq_true rfl) (Nat.le_of_ble_eq_true rfl) rfl ⟨rfl, (jv_w (jv_k (x := 1) 1 (by decide)) (by decide)), (fun h0 => absurd h0 (by decide)), (fun _ => by obtain ⟨q, q1, q2⟩ := WS_of hw y1.toNatClampNeg (by have e : (y1.toNatClampNeg : Int) = (y1 : Int32).toInt := Int.toNat_of_nonneg (by have q0 := p5.1; have q1 := p5.2; have q2 := pa0.1; have q3 := pa0.2; have q4 := p4.1; have q5 := p4.2; have q6 := hb; have q7 := zi2_0; have q8 := (gc_nle zc2); omega); have q0 := p5.1; have q1 := p5.2; have q2 := pa0.1; have q3 := pa0.2; have q4 := p4.1; have q5 := p4.2; have q6 := hb; have q7 := zi2_0; have q8 := (gc_nle zc2); have q9 := e; have q10 := hb; omega) (by have e : (y1.toNatClampNeg : Int) = (y1 : Int32).toInt := Int.toNat_of_nonneg (by have q0 := p5.1; have q1 := p5.2; have q2 := pa0.1; have q3 := pa0.2; have q4 := p4.1; have q5 := p4.2; have q6 := hb; have q7 := zi2_0; have q8 := (gc_nle zc2); omega); have q0 := p5.1; have q1 := p5.2; have q2 := pa0.1; have q3 := pa0.2; have q4 := p4.1; have q5 := p4.2; have q6 := hb; have q7 := zi2_0; have q8 := (gc_nle zc2); have q9 := e; have q10 := hl; omega); exact ⟨q, q1, by rw [← q2, ← ex7, g_opd]; have q0 := (jv_k (x := 14) 14 (by decide)).1; have q1 := (jv_k (x := 14) 14 (by decide)).2; have q2 := p17.1; have q3 := p17.2; have q4 := p9.1; have q5 := p9.2; have q6 := (g_ed zx10.1 (by decide : Int32.toInt 1048576 = 1048576)); have q7 := (gc_eq zc12); omega⟩), (hk18.symm.trans hSP)⟩
  refine g_lsub [1, 0] [(0, .ref (ad 0)), (2, .int a0)] rfl ?_
  exact J2 8589934592 a0 pa0 (by have q0 := pa0.1; have q1 := pa0.2; have q2 := hb; omega) (fun j h1 h2 => absurd h2 (by have q0 := pa0.1; have q1 := pa0.2; have q2 := hb; omega)) hk0 (show (2147483647 - a0.toInt).toNat < 8589934592 from by have q0 := pa0.1; have q1 := pa0.2; omega)
def KB_X11_readsNumber_10 (b10 : (Nat → Int32) → Int32 × (Nat → Int32) × (Nat → Nat → Int32)) (F : Nat → Int32) (R : Nat → Nat → Int32) (F3 : Nat → Int32) : Int32 × (Nat → Int32) × (Nat → Nat → Int32) :=
  k_lt (sp_X11_isDigit F3 R) (fun r5 => if r5 = 0 then (1, F3, R) else k_lt ((F 15) + 5) (fun x17 => if (F3 15) = x17 then k_lt3 (sp_X11_wrongAt F3 R 2 (F3 15)) (fun r43 F47 R48 => (r43, F47, R48)) else k_lt (10 * (F3 18)) (fun x21 => k_lt (sp_X11_here F3 R) (fun r23 => k_lt (x21 + r23) (fun x29 => k_lt (x29 - 48) (fun x31 => k_lt (upd F3 18 x31) (fun F33 => k_lt ((F3 15) + 1) (fun x35 => k_lt (upd F33 15 x35) (fun F37 => b10 F37)))))))))
def K_X11_readsNumber_10 (F : Nat → Int32) (R : Nat → Nat → Int32) : Nat → (Nat → Int32) → Int32 × (Nat → Int32) × (Nat → Nat → Int32)
  | 0 => fun F3 => (0, F3, R)
  | n + 1 => KB_X11_readsNumber_10 (K_X11_readsNumber_10 F R n) F R
def sp_X11_readsNumber (F : Nat → Int32) (R : Nat → Nat → Int32) : Int32 × (Nat → Int32) × (Nat → Nat → Int32) :=
  k_lt (upd F 18 0) (fun F1 => K_X11_readsNumber_10 F R 8589934592 F1)
theorem e_X11_readsNumber_0 : g_dc cX11_readsNumber 0 (.aload_n 0) 1 1 := ⟨by decide +kernel, rfl⟩
theorem e_X11_readsNumber_1 : g_dc cX11_readsNumber 1 (.getfield 190) 3 4 := ⟨by decide +kernel, rfl⟩
theorem e_X11_readsNumber_4 : g_dc cX11_readsNumber 4 (.istore_n 1) 1 5 := ⟨by decide +kernel, rfl⟩
theorem e_X11_readsNumber_5 : g_dc cX11_readsNumber 5 (.aload_n 0) 1 6 := ⟨by decide +kernel, rfl⟩
theorem e_X11_readsNumber_6 : g_dc cX11_readsNumber 6 (.iconst 0) 1 7 := ⟨by decide +kernel, rfl⟩
theorem e_X11_readsNumber_7 : g_dc cX11_readsNumber 7 (.putfield 193) 3 10 := ⟨by decide +kernel, rfl⟩
theorem e_X11_readsNumber_10 : g_dc cX11_readsNumber 10 (.aload_n 0) 1 11 := ⟨by decide +kernel, rfl⟩
theorem e_X11_readsNumber_11 : g_dc cX11_readsNumber 11 (.invokevirtual 196) 3 14 := ⟨by decide +kernel, rfl⟩
theorem e_X11_readsNumber_14 : g_dc cX11_readsNumber 14 (.ifCond .eq 55) 3 17 := ⟨by decide +kernel, rfl⟩
theorem e_X11_readsNumber_17 : g_dc cX11_readsNumber 17 (.aload_n 0) 1 18 := ⟨by decide +kernel, rfl⟩
theorem e_X11_readsNumber_18 : g_dc cX11_readsNumber 18 (.getfield 190) 3 21 := ⟨by decide +kernel, rfl⟩
theorem e_X11_readsNumber_21 : g_dc cX11_readsNumber 21 (.iload_n 1) 1 22 := ⟨by decide +kernel, rfl⟩
theorem e_X11_readsNumber_22 : g_dc cX11_readsNumber 22 (.iconst 5) 1 23 := ⟨by decide +kernel, rfl⟩
theorem e_X11_readsNumber_23 : g_dc cX11_readsNumber 23 (.iadd) 1 24 := ⟨by decide +kernel, rfl⟩
theorem e_X11_readsNumber_24 : g_dc cX11_readsNumber 24 (.if_icmp .ne 13) 3 27 := ⟨by decide +kernel, rfl⟩
theorem e_X11_readsNumber_27 : g_dc cX11_readsNumber 27 (.aload_n 0) 1 28 := ⟨by decide +kernel, rfl⟩
theorem e_X11_readsNumber_28 : g_dc cX11_readsNumber 28 (.iconst 2) 1 29 := ⟨by decide +kernel, rfl⟩
theorem e_X11_readsNumber_29 : g_dc cX11_readsNumber 29 (.aload_n 0) 1 30 := ⟨by decide +kernel, rfl⟩
theorem e_X11_readsNumber_30 : g_dc cX11_readsNumber 30 (.getfield 190) 3 33 := ⟨by decide +kernel, rfl⟩
theorem e_X11_readsNumber_33 : g_dc cX11_readsNumber 33 (.invokevirtual 204) 3 36 := ⟨by decide +kernel, rfl⟩
theorem e_X11_readsNumber_36 : g_dc cX11_readsNumber 36 (.ireturn) 1 37 := ⟨by decide +kernel, rfl⟩
theorem e_X11_readsNumber_37 : g_dc cX11_readsNumber 37 (.aload_n 0) 1 38 := ⟨by decide +kernel, rfl⟩
theorem e_X11_readsNumber_38 : g_dc cX11_readsNumber 38 (.bipush 10) 2 40 := ⟨by decide +kernel, rfl⟩
theorem e_X11_readsNumber_40 : g_dc cX11_readsNumber 40 (.aload_n 0) 1 41 := ⟨by decide +kernel, rfl⟩
theorem e_X11_readsNumber_41 : g_dc cX11_readsNumber 41 (.getfield 193) 3 44 := ⟨by decide +kernel, rfl⟩
theorem e_X11_readsNumber_44 : g_dc cX11_readsNumber 44 (.imul) 1 45 := ⟨by decide +kernel, rfl⟩
theorem e_X11_readsNumber_45 : g_dc cX11_readsNumber 45 (.aload_n 0) 1 46 := ⟨by decide +kernel, rfl⟩
theorem e_X11_readsNumber_46 : g_dc cX11_readsNumber 46 (.invokevirtual 200) 3 49 := ⟨by decide +kernel, rfl⟩
theorem e_X11_readsNumber_49 : g_dc cX11_readsNumber 49 (.iadd) 1 50 := ⟨by decide +kernel, rfl⟩
theorem e_X11_readsNumber_50 : g_dc cX11_readsNumber 50 (.bipush 48) 2 52 := ⟨by decide +kernel, rfl⟩
theorem e_X11_readsNumber_52 : g_dc cX11_readsNumber 52 (.isub) 1 53 := ⟨by decide +kernel, rfl⟩
theorem e_X11_readsNumber_53 : g_dc cX11_readsNumber 53 (.putfield 193) 3 56 := ⟨by decide +kernel, rfl⟩
theorem e_X11_readsNumber_56 : g_dc cX11_readsNumber 56 (.aload_n 0) 1 57 := ⟨by decide +kernel, rfl⟩
theorem e_X11_readsNumber_57 : g_dc cX11_readsNumber 57 (.aload_n 0) 1 58 := ⟨by decide +kernel, rfl⟩
theorem e_X11_readsNumber_58 : g_dc cX11_readsNumber 58 (.getfield 190) 3 61 := ⟨by decide +kernel, rfl⟩
theorem e_X11_readsNumber_61 : g_dc cX11_readsNumber 61 (.iconst 1) 1 62 := ⟨by decide +kernel, rfl⟩
theorem e_X11_readsNumber_62 : g_dc cX11_readsNumber 62 (.iadd) 1 63 := ⟨by decide +kernel, rfl⟩
theorem e_X11_readsNumber_63 : g_dc cX11_readsNumber 63 (.putfield 190) 3 66 := ⟨by decide +kernel, rfl⟩
theorem e_X11_readsNumber_66 : g_dc cX11_readsNumber 66 (.goto (-56)) 3 69 := ⟨by decide +kernel, rfl⟩
theorem e_X11_readsNumber_69 : g_dc cX11_readsNumber 69 (.iconst 1) 1 70 := ⟨by decide +kernel, rfl⟩
theorem e_X11_readsNumber_70 : g_dc cX11_readsNumber 70 (.ireturn) 1 71 := ⟨by decide +kernel, rfl⟩
def md_X11_readsNumber : List Nat := [15, 17, 18]
def mr_X11_readsNumber : List Nat := []
set_option maxHeartbeats 4000000 in
set_option maxRecDepth 100000 in
theorem w_X11_readsNumber (l : Launch) (X : gX) (ad : Nat → Nat) (F : Nat → Int32) (R : Nat → Nat → Int32) (hI : g_ok LK_wM F) (hA : g_okR LA_wM R) (hWT : WT F R) (hWC : WC F R) (hd : 48 ≤ (g_here F R).toInt ∧ (g_here F R).toInt ≤ 57) : g_Ci l X yX11_readsNumber cX11_readsNumber 2 (some .boolean) 3 0 0 [.ref (ad 0)] (wM X ad F R) (fun r w => ∃ (F' : Nat → Int32) (R' : Nat → Nat → Int32), w = wM X ad F' R' ∧ g_ok LK_wM F' ∧ g_okR LA_wM R' ∧ WT F' R' ∧ WC F' R' ∧ g_fr md_X11_readsNumber F F' ∧ g_fr mr_X11_readsNumber R R' ∧ jv 0 1 r ∧ (¬ r = 0 → 0 ≤ (F' 18).toInt ∧ (F' 18).toInt ≤ 99999 ∧ (F 15).toInt + 1 ≤ (F' 15).toInt) ∧ (r, F', R') = sp_X11_readsNumber F R) := by
  refine g_mi (by decide +kernel) (Nat.le_of_ble_eq_true rfl) (fun E cx hret => ?_)
  obtain ⟨SP, hSP⟩ : ∃ z, z = sp_X11_readsNumber F R := ⟨_, rfl⟩
  have hk0 := hSP
  unfold sp_X11_readsNumber at hk0
  refine g_aload_n cx 0 rfl e_X11_readsNumber_0 ?_
  refine g_get cx cl_X11 fl_X11_190 0 (.int (F 15)) e_X11_readsNumber_1 rfl rfl ?_
  refine g_istore_n cx [(1, .int (F 15)), (0, .ref (ad 0))] e_X11_readsNumber_4 (by decide) rfl ?_
  refine g_aload_n cx 1 rfl e_X11_readsNumber_5 ?_
  refine g_iconst cx 0 (by decide) e_X11_readsNumber_6 ?_
  refine g_put cx cl_X11 fl_X11_193 0 (wM X ad (upd F 18 0) R) e_X11_readsNumber_7 rfl rfl rfl rfl (Nat.le_of_ble_eq_true rfl) rfl ?_
  obtain ⟨F1, hF1⟩ : ∃ z, z = upd F 18 0 := ⟨_, rfl⟩
  rw [← hF1]
  have hk2 := k_ls hk0 hF1
  have oF1 : g_ok LK_wM F1 := by rw [hF1]; exact g_ok_u hI rfl
  have fF1 : g_fr md_X11_readsNumber F F1 := by rw [hF1]; exact g_fr_u (g_fr_rf F) rfl
  have wTF1 : WT F1 R := by rw [hF1]; exact WT_u hWT rfl
  have wCF1 : WC F1 R := by rw [hF1]; exact WC_u hWC rfl
  have J10 : ∀ (N : Nat) (F3 : Nat → Int32), (g_ok LK_wM F3) → (g_fr md_X11_readsNumber F F3) → (WT F3 R) → (WC F3 R) → ((F3 15).toInt = (F 15).toInt ∧ (F3 18).toInt = 0 ∨ (F3 15).toInt = (F 15).toInt + 1 ∧ 0 ≤ (F3 18).toInt ∧ (F3 18).toInt ≤ 9 ∨ (F3 15).toInt = (F 15).toInt + 2 ∧ 0 ≤ (F3 18).toInt ∧ (F3 18).toInt ≤ 99 ∨ (F3 15).toInt = (F 15).toInt + 3 ∧ 0 ≤ (F3 18).toInt ∧ (F3 18).toInt ≤ 999 ∨ (F3 15).toInt = (F 15).toInt + 4 ∧ 0 ≤ (F3 18).toInt ∧ (F3 18).toInt ≤ 9999 ∨ (F3 15).toInt = (F 15).toInt + 5 ∧ 0 ≤ (F3 18).toInt ∧ (F3 18).toInt ≤ 99999) → (SP = K_X11_readsNumber_10 F R N F3) → (2147483647 - (F3 15).toInt).toNat < N → G X E 2 0 0 (wM X ad F3 R) [(0, .ref (ad 0)), (1, .int (F 15))] 10 [] := by
    intro N
    induction N with
    | zero => intro F3 oF3 fF3 wTF3 wCF3 zi10_0 hkJ10 hm; exact absurd hm (Nat.not_lt_zero _)
    | succ N ih10 =>
      intro F3 oF3 fF3 wTF3 wCF3 zi10_0 hkJ10 hm10
      have hkK10 : SP = KB_X11_readsNumber_10 (K_X11_readsNumber_10 F R N) F R F3 := hkJ10
      obtain ⟨b10, hb10⟩ : ∃ z, z = K_X11_readsNumber_10 F R N := ⟨_, rfl⟩
      rw [← hb10] at hkK10
      unfold KB_X11_readsNumber_10 at hkK10
      have p4 : jv 0 99999 (F3 18) := ⟨by have q0 := (g_ok_g hI 1 rfl).1; have q1 := (g_ok_g hI 1 rfl).2; have q2 := (g_ok_g oF3 1 rfl).1; have q3 := (g_ok_g oF3 1 rfl).2; have q4 := (jv_t (F3 18)).1; have q5 := (jv_t (F3 18)).2; have q6 := zi10_0; omega, by have q0 := (g_ok_g hI 1 rfl).1; have q1 := (g_ok_g hI 1 rfl).2; have q2 := (g_ok_g oF3 1 rfl).1; have q3 := (g_ok_g oF3 1 rfl).2; have q4 := (jv_t (F3 18)).1; have q5 := (jv_t (F3 18)).2; have q6 := zi10_0; omega⟩
      refine g_aload_n cx 0 rfl e_X11_readsNumber_10 ?_
      refine g_cViW cx [] [] (w_X11_isDigit l X ad F3 R oF3 hA wTF3 wCF3) ml_X11_196 yV_X11_isDigit e_X11_readsNumber_11 (by unfold g_rr; decide) (by decide) 0 rfl rfl rfl (Nat.le_of_ble_eq_true rfl) (fun r5 w6 h7 => ?_)
      obtain ⟨rfl, pr5, zx8, zx9, hx10⟩ := h7
      have hk11 := k_ls hkK10 hx10
      refine g_if_eq cx 69 e_X11_readsNumber_14 (by decide) (fun zc12 => ?_) (fun zc12 => ?_)
      · have p13 := gn_eq 0 0 (gc_eq zc12) pr5 (jv_k (x := 0) 0 (by decide)) (by decide)
        have hk14 := hk11.trans (if_pos zc12)
        refine g_iconst cx 1 (by decide) e_X11_readsNumber_69 ?_
        exact hret e_X11_readsNumber_70 (Nat.le_of_ble_eq_true rfl) (Nat.le_of_ble_eq_true rfl) rfl ⟨F3, R, rfl, oF3, hA, wTF3, wCF3, fF3, (g_fr_rf R), (jv_w (jv_k (x := 1) 1 (by decide)) (by decide)), (fun _ => by have q0 := (g_here_iv F R).1; have q1 := (g_here_iv F R).2; have q2 := (g_here_iv F3 R).1; have q3 := (g_here_iv F3 R).2; have q4 := (jv_k (x := 0) 0 (by decide)).1; have q5 := (jv_k (x := 0) 0 (by decide)).2; have q6 := (g_ok_g hI 1 rfl).1; have q7 := (g_ok_g hI 1 rfl).2; have q8 := (g_ok_g hI 2 rfl).1; have q9 := (g_ok_g hI 2 rfl).2; have q10 := (g_ok_g oF3 1 rfl).1; have q11 := (g_ok_g oF3 1 rfl).2; have q12 := (g_ok_g oF3 2 rfl).1; have q13 := (g_ok_g oF3 2 rfl).2; have q14 := p4.1; have q15 := p4.2; have q16 := p13.1; have q17 := p13.2; have q18 := zi10_0; have q19 := (@g_here_lt F3 R); have q20 := (congrArg Int32.toInt (show F3 16 = F 16 from (fF3 16 rfl))); have q21 := zx9; have q22 := (gc_eq zc12); have q23 := (@g_here_e F F3 R R (fF3 16 rfl) rfl); have q24 := hd.1; have q25 := hd.2; omega), (hk14.symm.trans hSP)⟩
      · have p15 := gn_neL 1 1 (gc_ne zc12) pr5 (jv_k (x := 0) 0 (by decide)) (by decide)
        have hk16 := hk11.trans (if_neg zc12)
        refine g_aload_n cx 0 rfl e_X11_readsNumber_17 ?_
        refine g_get cx cl_X11 fl_X11_190 0 (.int (F3 15)) e_X11_readsNumber_18 rfl rfl ?_
        refine g_iload_n cx 1 rfl e_X11_readsNumber_21 ?_
        refine g_iconst cx 5 (by decide) e_X11_readsNumber_22 ?_
        refine g_iadd cx e_X11_readsNumber_23 ?_
        refine g_topi (fun x17 ex17 => ?_)
        have hk18 := k_ls hk16 ex17
        have zx17 := jv_add 5 225 ex17 (g_ok_g hI 1 rfl) (jv_k (x := 5) 5 (by decide)) (by decide)
        refine g_icmp_ne cx 37 e_X11_readsNumber_24 (by decide) (fun zc19 => ?_) (fun zc19 => ?_)
        · have hk20 := hk18.trans (if_neg zc19)
          refine g_aload_n cx 0 rfl e_X11_readsNumber_37 ?_
          refine g_bipush cx 10 (by decide) e_X11_readsNumber_38 ?_
          refine g_aload_n cx 0 rfl e_X11_readsNumber_40 ?_
          refine g_get cx cl_X11 fl_X11_193 0 (.int (F3 18)) e_X11_readsNumber_41 rfl rfl ?_
          refine g_imul cx e_X11_readsNumber_44 ?_
          refine g_topi (fun x21 ex21 => ?_)
          have hk22 := k_ls hk20 ex21
          have zx21 := jv_mul 0 999990 ex21 (jv_k (x := 10) 10 (by decide)) p4 (by decide)
          refine g_aload_n cx 0 rfl e_X11_readsNumber_45 ?_
          refine g_cViW cx [] [.int x21, .ref (ad 0)] (w_X11_here l X ad F3 R oF3 hA wTF3 wCF3) ml_X11_200 yV_X11_here e_X11_readsNumber_46 (by unfold g_rr; decide) (by decide) 0 rfl rfl rfl (Nat.le_of_ble_eq_true rfl) (fun r23 w24 h25 => ?_)
          obtain ⟨rfl, pr23, zx26, hx27⟩ := h25
          have hk28 := k_ls hk22 hx27
          refine g_iadd cx e_X11_readsNumber_49 ?_
          refine g_topi (fun x29 ex29 => ?_)
          have hk30 := k_ls hk28 ex29
          have zx29 := jv_add (-1) 1000245 ex29 zx21.2 pr23 (by decide)
          refine g_bipush cx 48 (by decide) e_X11_readsNumber_50 ?_
          refine g_isub cx e_X11_readsNumber_52 ?_
          refine g_topi (fun x31 ex31 => ?_)
          have hk32 := k_ls hk30 ex31
          have zx31 := jv_sub (-49) 1000197 ex31 zx29.2 (jv_k (x := 48) 48 (by decide)) (by decide)
          refine g_put cx cl_X11 fl_X11_193 0 (wM X ad (upd F3 18 x31) R) e_X11_readsNumber_53 rfl rfl rfl rfl (Nat.le_of_ble_eq_true rfl) rfl ?_
          obtain ⟨F33, hF33⟩ : ∃ z, z = upd F3 18 x31 := ⟨_, rfl⟩
          rw [← hF33]
          have hk34 := k_ls hk32 hF33
          have oF33 : g_ok LK_wM F33 := by rw [hF33]; exact g_ok_u oF3 rfl
          have fF33 : g_fr md_X11_readsNumber F F33 := by rw [hF33]; exact g_fr_u fF3 rfl
          have wTF33 : WT F33 R := by rw [hF33]; exact WT_u wTF3 rfl
          have wCF33 : WC F33 R := by rw [hF33]; exact WC_u wCF3 rfl
          refine g_aload_n cx 0 rfl e_X11_readsNumber_56 ?_
          refine g_aload_n cx 0 rfl e_X11_readsNumber_57 ?_
          refine g_get cx cl_X11 fl_X11_190 0 (.int (F33 15)) e_X11_readsNumber_58 rfl rfl ?_
          refine g_toi (F3 15) (g_pu2 hF33 rfl) ?_
          refine g_iconst cx 1 (by decide) e_X11_readsNumber_61 ?_
          refine g_iadd cx e_X11_readsNumber_62 ?_
          refine g_topi (fun x35 ex35 => ?_)
          have hk36 := k_ls hk34 ex35
          have zx35 := jv_add 1 221 ex35 (g_ok_g oF3 1 rfl) (jv_k (x := 1) 1 (by decide)) (by decide)
          refine g_put cx cl_X11 fl_X11_190 0 (wM X ad (upd F33 15 x35) R) e_X11_readsNumber_63 rfl rfl rfl rfl (Nat.le_of_ble_eq_true rfl) rfl ?_
          obtain ⟨F37, hF37⟩ : ∃ z, z = upd F33 15 x35 := ⟨_, rfl⟩
          rw [← hF37]
          have hk38 := k_ls hk36 hF37
          have oF37 : g_ok LK_wM F37 := by rw [hF37]; exact g_ok_p oF33 (show jv 0 220 _ from ⟨by have q0 := (g_here_iv F3 R).1; have q1 := (g_here_iv F3 R).2; have q2 := (jv_k (x := 0) 0 (by decide)).1; have q3 := (jv_k (x := 0) 0 (by decide)).2; have q4 := (jv_k (x := 1) 1 (by decide)).1; have q5 := (jv_k (x := 1) 1 (by decide)).2; have q6 := (jv_k (x := 48) 48 (by decide)).1; have q7 := (jv_k (x := 48) 48 (by decide)).2; have q8 := (jv_k (x := 5) 5 (by decide)).1; have q9 := (jv_k (x := 5) 5 (by decide)).2; have q10 := (g_ok_g hI 1 rfl).1; have q11 := (g_ok_g hI 1 rfl).2; have q12 := (g_ok_g hI 2 rfl).1; have q13 := (g_ok_g hI 2 rfl).2; have q14 := (g_ok_g oF3 1 rfl).1; have q15 := (g_ok_g oF3 1 rfl).2; have q16 := (g_ok_g oF3 2 rfl).1; have q17 := (g_ok_g oF3 2 rfl).2; have q18 := p4.1; have q19 := p4.2; have q20 := pr23.1; have q21 := pr23.2; have q22 := p15.1; have q23 := p15.2; have q24 := zx17.2.1; have q25 := zx17.2.2; have q26 := zx21.2.1; have q27 := zx21.2.2; have q28 := zx29.2.1; have q29 := zx29.2.2; have q30 := zx31.2.1; have q31 := zx31.2.2; have q32 := zx35.2.1; have q33 := zx35.2.2; have q34 := zi10_0; have q35 := (@g_here_lt F3 R); have q36 := (congrArg Int32.toInt (show F3 16 = F 16 from (fF3 16 rfl))); have q37 := zx9; have q38 := (gc_ne zc12); have q39 := (zx8 zc12); have q40 := (g_eq0 zx17.1); have q41 := (gc_ne zc19); have q42 := (g_em2 zx21.1 (by decide : Int32.toInt 10 = 10)); have q43 := (congrArg Int32.toInt zx26); have q44 := (@g_here_lt F3 R); have q45 := (congrArg Int32.toInt (show F3 16 = F 16 from (fF3 16 rfl))); have q46 := (g_eq0 zx29.1); have q47 := (g_eq0 zx31.1); have q48 := (g_eq0 zx35.1); omega, by have q0 := (g_here_iv F3 R).1; have q1 := (g_here_iv F3 R).2; have q2 := (jv_k (x := 0) 0 (by decide)).1; have q3 := (jv_k (x := 0) 0 (by decide)).2; have q4 := (jv_k (x := 1) 1 (by decide)).1; have q5 := (jv_k (x := 1) 1 (by decide)).2; have q6 := (jv_k (x := 48) 48 (by decide)).1; have q7 := (jv_k (x := 48) 48 (by decide)).2; have q8 := (jv_k (x := 5) 5 (by decide)).1; have q9 := (jv_k (x := 5) 5 (by decide)).2; have q10 := (g_ok_g hI 1 rfl).1; have q11 := (g_ok_g hI 1 rfl).2; have q12 := (g_ok_g hI 2 rfl).1; have q13 := (g_ok_g hI 2 rfl).2; have q14 := (g_ok_g oF3 1 rfl).1; have q15 := (g_ok_g oF3 1 rfl).2; have q16 := (g_ok_g oF3 2 rfl).1; have q17 := (g_ok_g oF3 2 rfl).2; have q18 := p4.1; have q19 := p4.2; have q20 := pr23.1; have q21 := pr23.2; have q22 := p15.1; have q23 := p15.2; have q24 := zx17.2.1; have q25 := zx17.2.2; have q26 := zx21.2.1; have q27 := zx21.2.2; have q28 := zx29.2.1; have q29 := zx29.2.2; have q30 := zx31.2.1; have q31 := zx31.2.2; have q32 := zx35.2.1; have q33 := zx35.2.2; have q34 := zi10_0; have q35 := (@g_here_lt F3 R); have q36 := (congrArg Int32.toInt (show F3 16 = F 16 from (fF3 16 rfl))); have q37 := zx9; have q38 := (gc_ne zc12); have q39 := (zx8 zc12); have q40 := (g_eq0 zx17.1); have q41 := (gc_ne zc19); have q42 := (g_em2 zx21.1 (by decide : Int32.toInt 10 = 10)); have q43 := (congrArg Int32.toInt zx26); have q44 := (@g_here_lt F3 R); have q45 := (congrArg Int32.toInt (show F3 16 = F 16 from (fF3 16 rfl))); have q46 := (g_eq0 zx29.1); have q47 := (g_eq0 zx31.1); have q48 := (g_eq0 zx35.1); omega⟩) rfl
          have fF37 : g_fr md_X11_readsNumber F F37 := by rw [hF37]; exact g_fr_u fF33 rfl
          have wTF37 : WT F37 R := by rw [hF37]; exact WT_u wTF33 rfl
          have wCF37 : WC F37 R := by rw [hF37]; exact WC_u wCF33 rfl
          refine g_goto cx 10 e_X11_readsNumber_66 (by decide) ?_
          exact ih10 F37 oF37 fF37 wTF37 wCF37 (by have q0 := (g_here_iv F3 R).1; have q1 := (g_here_iv F3 R).2; have q2 := (jv_k (x := 0) 0 (by decide)).1; have q3 := (jv_k (x := 0) 0 (by decide)).2; have q4 := (jv_k (x := 1) 1 (by decide)).1; have q5 := (jv_k (x := 1) 1 (by decide)).2; have q6 := (jv_k (x := 48) 48 (by decide)).1; have q7 := (jv_k (x := 48) 48 (by decide)).2; have q8 := (jv_k (x := 5) 5 (by decide)).1; have q9 := (jv_k (x := 5) 5 (by decide)).2; have q10 := (g_ok_g hI 1 rfl).1; have q11 := (g_ok_g hI 1 rfl).2; have q12 := (g_ok_g hI 2 rfl).1; have q13 := (g_ok_g hI 2 rfl).2; have q14 := (g_ok_g oF3 1 rfl).1; have q15 := (g_ok_g oF3 1 rfl).2; have q16 := (g_ok_g oF3 2 rfl).1; have q17 := (g_ok_g oF3 2 rfl).2; have q18 := p4.1; have q19 := p4.2; have q20 := (g_ok_g oF37 1 rfl).1; have q21 := (g_ok_g oF37 1 rfl).2; have q22 := (jv_t (F37 18)).1; have q23 := (jv_t (F37 18)).2; have q24 := pr23.1; have q25 := pr23.2; have q26 := p15.1; have q27 := p15.2; have q28 := zx17.2.1; have q29 := zx17.2.2; have q30 := zx21.2.1; have q31 := zx21.2.2; have q32 := zx29.2.1; have q33 := zx29.2.2; have q34 := zx31.2.1; have q35 := zx31.2.2; have q36 := zx35.2.1; have q37 := zx35.2.2; have q38 := zi10_0; have q39 := (@g_here_lt F3 R); have q40 := (congrArg Int32.toInt (show F3 16 = F 16 from (fF3 16 rfl))); have q41 := zx9; have q42 := (gc_ne zc12); have q43 := (zx8 zc12); have q44 := (g_eq0 zx17.1); have q45 := (gc_ne zc19); have q46 := (g_em2 zx21.1 (by decide : Int32.toInt 10 = 10)); have q47 := (congrArg Int32.toInt zx26); have q48 := (@g_here_lt F3 R); have q49 := (congrArg Int32.toInt (show F3 16 = F 16 from (fF3 16 rfl))); have q50 := (g_eq0 zx29.1); have q51 := (g_eq0 zx31.1); have q52 := (g_eq0 zx35.1); have q53 := (congrArg Int32.toInt (show F37 15 = x35 from (g_pu1 hF37))); have q54 := (congrArg Int32.toInt (show F37 18 = x31 from ((g_pu2 hF37 rfl).trans (g_pu1 hF33)))); omega) (hk38.trans (by rw [hb10])) (Nat.lt_of_lt_of_le (show (2147483647 - (F37 15).toInt).toNat < (2147483647 - (F3 15).toInt).toNat from by have q0 := (g_here_iv F3 R).1; have q1 := (g_here_iv F3 R).2; have q2 := (jv_k (x := 0) 0 (by decide)).1; have q3 := (jv_k (x := 0) 0 (by decide)).2; have q4 := (jv_k (x := 1) 1 (by decide)).1; have q5 := (jv_k (x := 1) 1 (by decide)).2; have q6 := (jv_k (x := 48) 48 (by decide)).1; have q7 := (jv_k (x := 48) 48 (by decide)).2; have q8 := (jv_k (x := 5) 5 (by decide)).1; have q9 := (jv_k (x := 5) 5 (by decide)).2; have q10 := (g_ok_g hI 1 rfl).1; have q11 := (g_ok_g hI 1 rfl).2; have q12 := (g_ok_g hI 2 rfl).1; have q13 := (g_ok_g hI 2 rfl).2; have q14 := (g_ok_g oF3 1 rfl).1; have q15 := (g_ok_g oF3 1 rfl).2; have q16 := (g_ok_g oF3 2 rfl).1; have q17 := (g_ok_g oF3 2 rfl).2; have q18 := p4.1; have q19 := p4.2; have q20 := (g_ok_g oF37 1 rfl).1; have q21 := (g_ok_g oF37 1 rfl).2; have q22 := (jv_t (F37 18)).1; have q23 := (jv_t (F37 18)).2; have q24 := pr23.1; have q25 := pr23.2; have q26 := p15.1; have q27 := p15.2; have q28 := zx17.2.1; have q29 := zx17.2.2; have q30 := zx21.2.1; have q31 := zx21.2.2; have q32 := zx29.2.1; have q33 := zx29.2.2; have q34 := zx31.2.1; have q35 := zx31.2.2; have q36 := zx35.2.1; have q37 := zx35.2.2; have q38 := zi10_0; have q39 := (@g_here_lt F3 R); have q40 := (congrArg Int32.toInt (show F3 16 = F 16 from (fF3 16 rfl))); have q41 := zx9; have q42 := (gc_ne zc12); have q43 := (zx8 zc12); have q44 := (g_eq0 zx17.1); have q45 := (gc_ne zc19); have q46 := (g_em2 zx21.1 (by decide : Int32.toInt 10 = 10)); have q47 := (congrArg Int32.toInt zx26); have q48 := (@g_here_lt F3 R); have q49 := (congrArg Int32.toInt (show F3 16 = F 16 from (fF3 16 rfl))); have q50 := (g_eq0 zx29.1); have q51 := (g_eq0 zx31.1); have q52 := (g_eq0 zx35.1); have q53 := (congrArg Int32.toInt (show F37 15 = x35 from (g_pu1 hF37))); have q54 := (congrArg Int32.toInt (show F37 18 = x31 from ((g_pu2 hF37 rfl).trans (g_pu1 hF33)))); have q55 := (congrArg Int32.toInt (show F37 15 = x35 from (g_pu1 hF37))); have q56 := (congrArg Int32.toInt (show F37 15 = x35 from (g_pu1 hF37))); omega) (Nat.le_of_lt_succ hm10))
        · have p39 := gn_eq 5 220 (gc_eq zc19) (g_ok_g oF3 1 rfl) zx17.2 (by decide)
          have p40 := gn_eq 5 220 (gc_eq zc19).symm zx17.2 (g_ok_g oF3 1 rfl) (by decide)
          have p41 : jv 0 215 (F 15) := ⟨by have q0 := (jv_k (x := 5) 5 (by decide)).1; have q1 := (jv_k (x := 5) 5 (by decide)).2; have q2 := (g_ok_g hI 1 rfl).1; have q3 := (g_ok_g hI 1 rfl).2; have q4 := p39.1; have q5 := p39.2; have q6 := p4.1; have q7 := p4.2; have q8 := p40.1; have q9 := p40.2; have q10 := zi10_0; have q11 := (g_eq0 zx17.1); have q12 := (gc_eq zc19); omega, by have q0 := (jv_k (x := 5) 5 (by decide)).1; have q1 := (jv_k (x := 5) 5 (by decide)).2; have q2 := (g_ok_g hI 1 rfl).1; have q3 := (g_ok_g hI 1 rfl).2; have q4 := p39.1; have q5 := p39.2; have q6 := p4.1; have q7 := p4.2; have q8 := p40.1; have q9 := p40.2; have q10 := zi10_0; have q11 := (g_eq0 zx17.1); have q12 := (gc_eq zc19); omega⟩
          have hk42 := hk18.trans (if_pos zc19)
          refine g_aload_n cx 0 rfl e_X11_readsNumber_27 ?_
          refine g_iconst cx 2 (by decide) e_X11_readsNumber_28 ?_
          refine g_aload_n cx 0 rfl e_X11_readsNumber_29 ?_
          refine g_get cx cl_X11 fl_X11_190 0 (.int (F3 15)) e_X11_readsNumber_30 rfl rfl ?_
          refine g_cViW cx [.int 2, .int (F3 15)] [] (w_X11_wrongAt l X ad F3 R oF3 hA wTF3 wCF3 2 (F3 15)) ml_X11_204 yV_X11_wrongAt e_X11_readsNumber_33 (by unfold g_rr; decide) (by decide) 0 rfl rfl rfl (Nat.le_of_ble_eq_true rfl) (fun r43 w44 h45 => ?_)
          obtain ⟨F47, R48, rfl, oF47, oR48, wTF47, wCF47, cF47, cR48, pr43, hx46⟩ := h45
          have hk49 := k_ls3 hk42 hx46
          have fF47 : g_fr md_X11_readsNumber F F47 := g_fr_c fF3 cF47 rfl
          have fR48 : g_fr mr_X11_readsNumber R R48 := g_fr_c (g_fr_rf R) cR48 rfl
          exact hret e_X11_readsNumber_36 (Nat.le_of_ble_eq_true rfl) (Nat.le_of_ble_eq_true rfl) (g_narb (jv_w pr43 (by decide))) ⟨F47, R48, rfl, oF47, oR48, wTF47, wCF47, fF47, fR48, (jv_w pr43 (by decide)), (fun h0 => absurd (by first | rfl | exact jv_c 0 pr43 (by decide)) h0), (hk49.symm.trans hSP)⟩
  refine g_lsub [1, 0] [(0, .ref (ad 0)), (1, .int (F 15))] rfl ?_
  exact J10 8589934592 F1 oF1 fF1 wTF1 wCF1 (by have q0 := (jv_k (x := 0) 0 (by decide)).1; have q1 := (jv_k (x := 0) 0 (by decide)).2; have q2 := (g_ok_g hI 1 rfl).1; have q3 := (g_ok_g hI 1 rfl).2; have q4 := (g_ok_g oF1 1 rfl).1; have q5 := (g_ok_g oF1 1 rfl).2; have q6 := (jv_t (F1 18)).1; have q7 := (jv_t (F1 18)).2; have q8 := (congrArg Int32.toInt (show F1 15 = F 15 from (g_pu2 hF1 rfl))); have q9 := (congrArg Int32.toInt (show F1 18 = 0 from (g_pu1 hF1))); omega) hk2 (show (2147483647 - (F1 15).toInt).toNat < 8589934592 from by have q0 := (g_ok_g oF1 1 rfl).1; have q1 := (g_ok_g oF1 1 rfl).2; omega)
