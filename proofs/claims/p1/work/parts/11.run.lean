theorem g_dr {tk t : Nat} {p : Prop} (h : tk = 0 ∨ p) (ht : t < tk) : p := h.elim (fun e => absurd ht (by omega)) id
theorem g_ge0 {x : Int32} {t : Nat} (hx : x = nI t) (ht : t < 2 ^ 31) : ¬ x < 0 := by rw [hx]; exact nI_pos ht
theorem g_ltk {x y : Int32} {t k : Nat} (hx : x = nI t) (hy : y = nI k) (ht : t < 2 ^ 31) (hk : k < 2 ^ 31) (h : x < y) : t < k := by
  rw [hx, hy] at h
  exact (nI_ltI ht hk).mp h
theorem P_tk_trans {F1 F2 : Nat → Int32} {R1 R2 : Nat → Nat → Int32} (h : P_tk F1 F2 R1 R2) {k : Nat} (hk : k < 600 ∨ 607 < k ∧ k < 698 ∨ 699 ≤ k) {v : Int32} (h1 : F1 k = v) : F2 k = v := (h.1 k hk).trans h1

theorem d_X0_run_0 : g_dc cX0_run 0 (.aload_n 0) 1 1 := ⟨by decide +kernel, rfl⟩
theorem d_X0_run_1 : g_dc cX0_run 1 (.invokevirtual 75) 3 4 := ⟨by decide +kernel, rfl⟩
theorem d_X0_run_4 : g_dc cX0_run 4 (.iconst 0) 1 5 := ⟨by decide +kernel, rfl⟩
theorem d_X0_run_5 : g_dc cX0_run 5 (.istore_n 1) 1 6 := ⟨by decide +kernel, rfl⟩
theorem d_X0_run_6 : g_dc cX0_run 6 (.iload_n 1) 1 7 := ⟨by decide +kernel, rfl⟩
theorem d_X0_run_7 : g_dc cX0_run 7 (.sipush 300) 3 10 := ⟨by decide +kernel, rfl⟩
theorem d_X0_run_10 : g_dc cX0_run 10 (.if_icmp .ge 42) 3 13 := ⟨by decide +kernel, rfl⟩
theorem d_X0_run_13 : g_dc cX0_run 13 (.iload_n 1) 1 14 := ⟨by decide +kernel, rfl⟩
theorem d_X0_run_14 : g_dc cX0_run 14 (.aload_n 0) 1 15 := ⟨by decide +kernel, rfl⟩
theorem d_X0_run_15 : g_dc cX0_run 15 (.getfield 21) 3 18 := ⟨by decide +kernel, rfl⟩
theorem d_X0_run_18 : g_dc cX0_run 18 (.getfield 78) 3 21 := ⟨by decide +kernel, rfl⟩
theorem d_X0_run_21 : g_dc cX0_run 21 (.if_icmp .lt 10) 3 24 := ⟨by decide +kernel, rfl⟩
theorem d_X0_run_24 : g_dc cX0_run 24 (.aload_n 0) 1 25 := ⟨by decide +kernel, rfl⟩
theorem d_X0_run_25 : g_dc cX0_run 25 (.invokevirtual 81) 3 28 := ⟨by decide +kernel, rfl⟩
theorem d_X0_run_28 : g_dc cX0_run 28 (.ifCond .eq 24) 3 31 := ⟨by decide +kernel, rfl⟩
theorem d_X0_run_31 : g_dc cX0_run 31 (.aload_n 0) 1 32 := ⟨by decide +kernel, rfl⟩
theorem d_X0_run_32 : g_dc cX0_run 32 (.iload_n 1) 1 33 := ⟨by decide +kernel, rfl⟩
theorem d_X0_run_33 : g_dc cX0_run 33 (.invokevirtual 85) 3 36 := ⟨by decide +kernel, rfl⟩
theorem d_X0_run_36 : g_dc cX0_run 36 (.aload_n 0) 1 37 := ⟨by decide +kernel, rfl⟩
theorem d_X0_run_37 : g_dc cX0_run 37 (.getfield 35) 3 40 := ⟨by decide +kernel, rfl⟩
theorem d_X0_run_40 : g_dc cX0_run 40 (.iload_n 1) 1 41 := ⟨by decide +kernel, rfl⟩
theorem d_X0_run_41 : g_dc cX0_run 41 (.iconst 1) 1 42 := ⟨by decide +kernel, rfl⟩
theorem d_X0_run_42 : g_dc cX0_run 42 (.iadd) 1 43 := ⟨by decide +kernel, rfl⟩
theorem d_X0_run_43 : g_dc cX0_run 43 (.putfield 89) 3 46 := ⟨by decide +kernel, rfl⟩
theorem d_X0_run_46 : g_dc cX0_run 46 (.iinc 1 1) 3 49 := ⟨by decide +kernel, rfl⟩
theorem d_X0_run_49 : g_dc cX0_run 49 (.goto (-43)) 3 52 := ⟨by decide +kernel, rfl⟩
theorem d_X0_run_52 : g_dc cX0_run 52 (.return_) 1 53 := ⟨by decide +kernel, rfl⟩
set_option maxHeartbeats 4000000 in
set_option maxRecDepth 100000 in
theorem c_X0_run (l : Launch) (X : gX) (ad : Nat → Nat) (F : Nat → Int32) (R : Nat → Nat → Int32) (tk : Nat) (htk : F 241 = nI tk) (h60 : tk ≤ 60) (h82 : F 82 = 0) (h83 : F 83 = 0) (hd : tk = 0 ∨ F 672 = 0 ∧ F 674 = 0) : g_Cv l X yX0_run cX0_run 2 5 0 0 [.ref (ad 37)] (wX X ad F R) (fun w => ∃ (F' : Nat → Int32) (R' : Nat → Nat → Int32), w = wX X ad F' R' ∧ P_rn F F' R R') := by
  refine g_mv (by decide +kernel) (Nat.le_of_ble_eq_true rfl) (fun E cx hret => ?_)
  refine g_aload_n cx 0 rfl d_X0_run_0 ?_
  refine g_cVvW cx [] [] (c_X0_begin l X ad F R  h82) ml_X0_75 yV_X0_begin d_X0_run_1 (by unfold g_rr; decide) (by decide) 37 rfl rfl rfl (Nat.le_of_ble_eq_true rfl) (fun w2 h3 => ?_)
  obtain ⟨zF4, zR5, rfl, zp6⟩ := h3
  refine g_iconst cx 0 (by decide) d_X0_run_4 ?_
  refine g_istore_n cx [(1, .int 0), (0, .ref (ad 37))] d_X0_run_5 (by decide) rfl ?_
  have L6 : ∀ (N : Nat) (t : Nat) (x1 : Int32) (zF : Nat → Int32) (zR : Nat → Nat → Int32), 61 - t < N → (x1 = nI t) → (t ≤ tk) → (∀ k, k < 600 ∨ 607 < k ∧ k < 691 ∨ 699 ≤ k → zF k = F k) → (zF 691 = 0) → (zF 692 = 0) → (zF 693 = 0) → (zF 694 = 0) → (zF 695 = 0) → (zF 696 = 0) → (t = 0 → zF 697 = 0 ∧ zF 698 = F 81) → (∀ j, j < 30 → zR 46 j = 0) → (∀ c, c < 23 ∨ 23 < c ∧ c < 38 ∨ 38 < c ∧ c < 44 ∨ 47 ≤ c → zR c = R c) → G X E 2 0 0 (wX X ad zF zR) [(0, .ref (ad 37)), (1, .int x1)] 6 [] := by
    intro N
    induction N with
    | zero => intro t x1 zF zR hm; exact absurd hm (Nat.not_lt_zero _)
    | succ N ih6 =>
      intro t x1 zF zR hm hx ht hf h691 h692 h693 h694 h695 h696 h0 hz hr
      refine g_iload_n cx 1 rfl d_X0_run_6 ?_
      refine g_sipush cx 300 (by decide) d_X0_run_7 ?_
      refine g_icmp_ge_f cx 52 d_X0_run_10 (by decide) (fun hc => absurd (g_le (c := 300) (by decide) (hx ▸ hc) (by omega)) (by omega)) ?_
      refine g_iload_n cx 1 rfl d_X0_run_13 ?_
      refine g_aload_n cx 0 rfl d_X0_run_14 ?_
      refine g_get cx cl_X0 fl_X0_21 37 (.ref (ad 15)) d_X0_run_15 rfl rfl ?_
      refine g_getN cx cl_X5 fn_X0_78 15 (.int (zF 241)) d_X0_run_18 rfl rfl ?_
      refine g_toi (F 241) (hf 241 (by decide)) ?_
      refine g_icmp_lt cx 31 d_X0_run_21 (by decide) (fun zc21 => ?_) (fun zc21 => ?_)
      · refine g_aload_n cx 0 rfl d_X0_run_31 ?_
        refine g_iload_n cx 1 rfl d_X0_run_32 ?_
        refine g_cVvW cx [.int x1] [] (c_X0_tick l X ad zF zR x1 (g_ge0 hx (by omega)) h695 h691 ((hf 672 (by decide)).trans (g_dr hd (g_ltk hx htk (by omega) (by omega) zc21)).1) ((hf 674 (by decide)).trans (g_dr hd (g_ltk hx htk (by omega) (by omega) zc21)).2)) ml_X0_85 yV_X0_tick d_X0_run_33 (by unfold g_rr; decide) (by decide) 37 rfl rfl rfl (Nat.le_of_ble_eq_true rfl) (fun w8 h9 => ?_)
        obtain ⟨zF10, zR11, rfl, zp12⟩ := h9
        refine g_aload_n cx 0 rfl d_X0_run_36 ?_
        refine g_get cx cl_X0 fl_X0_35 37 (.ref (ad 43)) d_X0_run_37 rfl rfl ?_
        refine g_iload_n cx 1 rfl d_X0_run_40 ?_
        refine g_iconst cx 1 (by decide) d_X0_run_41 ?_
        refine g_iadd cx d_X0_run_42 ?_
        refine g_putN cx cl_X4 fn_X0_89 43 (wX X ad (upd zF10 697 (x1 + 1)) zR11) d_X0_run_43 rfl rfl rfl rfl (Nat.le_of_ble_eq_true rfl) rfl ?_
        refine g_iinc cx (x1 + 1) [(1, .int (x1 + 1)), (0, .ref (ad 37))] 1 d_X0_run_46 rfl (rfl) (by decide) rfl ?_
        refine g_goto cx 6 d_X0_run_49 (by decide) ?_
        refine g_lsub [1, 0] [(0, .ref (ad 37)), (1, .int (x1 + 1))] rfl ?_
        exact ih6 (t + 1) (x1 + 1) (upd zF10 697 (x1 + 1)) zR11 (by have := (g_ltk hx htk (by omega) (by omega) zc21); omega) (by rw [hx]; exact nI_1 t) (g_ltk hx htk (by omega) (by omega) zc21) (by intro k hk; simp only [upd]; rw [if_neg (by omega)]; exact P_tk_trans zp12 (by omega) (hf k hk)) (by simp only [upd]; rw [if_neg (by omega)]; exact P_tk_trans zp12 (by decide) h691) (by simp only [upd]; rw [if_neg (by omega)]; exact P_tk_trans zp12 (by decide) h692) (by simp only [upd]; rw [if_neg (by omega)]; exact P_tk_trans zp12 (by decide) h693) (by simp only [upd]; rw [if_neg (by omega)]; exact P_tk_trans zp12 (by decide) h694) (by simp only [upd]; rw [if_neg (by omega)]; exact P_tk_trans zp12 (by decide) h695) (by simp only [upd]; rw [if_neg (by omega)]; exact P_tk_trans zp12 (by decide) h696) (fun h => absurd h (Nat.succ_ne_zero t)) (by intro j hj; rw [zp12.2 46 (by decide)]; exact hz j hj) (by intro c hc; rw [zp12.2 c (by omega)]; exact hr c hc)
      · refine g_aload_n cx 0 rfl d_X0_run_24 ?_
        refine g_cViW cx [] [] (c_X0_moves l X ad zF zR  h691) ml_X0_81 yV_X0_moves d_X0_run_25 (by unfold g_rr; decide) (by decide) 37 rfl rfl rfl (Nat.le_of_ble_eq_true rfl) (fun r13 w14 h15 => ?_)
        obtain ⟨rfl, rfl⟩ := h15
        refine g_if_eq_t cx 52 d_X0_run_28 (by decide) (by decide) ?_
        exact hret d_X0_run_52 (Nat.le_of_ble_eq_true rfl) (Nat.le_of_ble_eq_true rfl) ⟨zF, zR, rfl, ⟨hf, h691, h692, h693, h694, h695, h696, (fun e => h0 (by have e1 := htk.symm.trans e; have e2 : tk = 0 := (by rcases Nat.eq_zero_or_pos tk with q | q; exact q; exact absurd e1 (nI_ne0 q (by omega))); omega)), hz, hr⟩⟩
  refine g_lsub [1, 0] [(0, .ref (ad 37)), (1, .int 0)] rfl ?_
  exact L6 _ 0 0 zF4 zR5 (Nat.lt_succ_self _) nI_0.symm (Nat.zero_le tk) zp6.1 (zp6.2.1.trans h83) zp6.2.2.1 zp6.2.2.2.1 zp6.2.2.2.2.1 zp6.2.2.2.2.2.1 zp6.2.2.2.2.2.2.1 (fun _ => ⟨zp6.2.2.2.2.2.2.2.1, zp6.2.2.2.2.2.2.2.2.1⟩) zp6.2.2.2.2.2.2.2.2.2.1 (by intro c hc; exact zp6.2.2.2.2.2.2.2.2.2.2 c (by omega))
