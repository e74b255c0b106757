theorem g_updS {F : Nat → Int32} {k : Nat} {v : Int32} (h : F k = v) : upd F k v = F := by
  funext j
  unfold upd
  split
  · rename_i e; rw [e, h]
  · rfl
theorem g_m1 (x : Int32) : x &&& (-1) = x := by
  first | (simp; done) | (apply Int32.toBitVec_inj.mp; simp; done) | (apply Int32.toBitVec_inj.mp; ext i hi; simp)
theorem g_in04 {x : Int32} (h : ¬ g_in x 0 4 = 0) : x = 0 ∨ x = 1 ∨ x = 2 ∨ x = 3 ∨ x = 4 := by
  obtain ⟨j, hj, rfl⟩ := g_inj (m := 4) h (by decide)
  have : j = 0 ∨ j = 1 ∨ j = 2 ∨ j = 3 ∨ j = 4 := by omega
  rcases this with rfl | rfl | rfl | rfl | rfl
  · exact Or.inl rfl
  · exact Or.inr (Or.inl rfl)
  · exact Or.inr (Or.inr (Or.inl rfl))
  · exact Or.inr (Or.inr (Or.inr (Or.inl rfl)))
  · exact Or.inr (Or.inr (Or.inr (Or.inr rfl)))
theorem g_vi04 {x : Int32} (h : ¬ g_in x 0 4 = 0) : vp_in x 5 := by
  obtain ⟨j, hj, rfl⟩ := g_inj (m := 4) h (by decide)
  exact vp_in_nI (by omega) (by decide)
def S_best (x : Int32) : Int32 := if g_in x 0 4 = 0 then -1 else if x ≤ 2 then 1 else 0
theorem S_best_of {x : Int32} {b : Nat → Int32} (h : ¬ g_in x 0 4 = 0) (hb : b 0 = 1 ∧ b 1 = 1 ∧ b 2 = 1 ∧ b 3 = 0 ∧ b 4 = 0) : b x.toNatClampNeg = S_best x := by
  rcases g_in04 h with rfl | rfl | rfl | rfl | rfl
  · exact hb.1
  · exact hb.2.1
  · exact hb.2.2.1
  · exact hb.2.2.2.1
  · exact hb.2.2.2.2
def B_ok (F : Nat → Int32) (b : Nat → Int32) : Prop := F 564 = 0 ∧ F 565 = 0 ∧ b 0 = 1 ∧ b 1 = 1 ∧ b 2 = 1

theorem d_X7_lay_0 : g_dc cX7_lay 0 (.aload_n 0) 1 1 := ⟨by decide +kernel, rfl⟩
theorem d_X7_lay_1 : g_dc cX7_lay 1 (.getfield 53) 3 4 := ⟨by decide +kernel, rfl⟩
theorem d_X7_lay_4 : g_dc cX7_lay 4 (.aload_n 1) 1 5 := ⟨by decide +kernel, rfl⟩
theorem d_X7_lay_5 : g_dc cX7_lay 5 (.invokevirtual 64) 3 8 := ⟨by decide +kernel, rfl⟩
theorem d_X7_lay_8 : g_dc cX7_lay 8 (.aload_n 0) 1 9 := ⟨by decide +kernel, rfl⟩
theorem d_X7_lay_9 : g_dc cX7_lay 9 (.getfield 58) 3 12 := ⟨by decide +kernel, rfl⟩
theorem d_X7_lay_12 : g_dc cX7_lay 12 (.aload_n 2) 1 13 := ⟨by decide +kernel, rfl⟩
theorem d_X7_lay_13 : g_dc cX7_lay 13 (.invokevirtual 68) 3 16 := ⟨by decide +kernel, rfl⟩
theorem d_X7_lay_16 : g_dc cX7_lay 16 (.aload_n 0) 1 17 := ⟨by decide +kernel, rfl⟩
theorem d_X7_lay_17 : g_dc cX7_lay 17 (.getfield 46) 3 20 := ⟨by decide +kernel, rfl⟩
theorem d_X7_lay_20 : g_dc cX7_lay 20 (.getfield 73) 3 23 := ⟨by decide +kernel, rfl⟩
theorem d_X7_lay_23 : g_dc cX7_lay 23 (.invokevirtual 77) 3 26 := ⟨by decide +kernel, rfl⟩
theorem d_X7_lay_26 : g_dc cX7_lay 26 (.return_) 1 27 := ⟨by decide +kernel, rfl⟩
set_option maxHeartbeats 4000000 in
set_option maxRecDepth 100000 in
theorem c_X7_lay (l : Launch) (X : gX) (ad : Nat → Nat) (F : Nat → Int32) (R : Nat → Nat → Int32) : g_Cv l X yX7_lay cX7_lay 3 2 0 0 [.ref (ad 35), .ref (ad 1), .ref (ad 11)] (wX X ad F R) (fun w => w = wX X ad (upd (upd (upd (upd (upd (upd (upd (upd F 80 (F 16)) 81 (F 17)) 82 (F 18)) 83 (F 19)) 84 (F 20)) 241 (F 177)) 672 0) 674 0) (g_u (g_u R 6 (va_cpy (R 2) (R 6) 0 0 80)) 16 (va_cpy (R 12) (R 16) 0 0 60)) ∧ True) := by
  refine g_mv (by decide +kernel) (Nat.le_of_ble_eq_true rfl) (fun E cx hret => ?_)
  refine g_aload_n cx 0 rfl d_X7_lay_0 ?_
  refine g_get cx cl_X7 fl_X7_53 35 (.ref (ad 5)) d_X7_lay_1 rfl rfl ?_
  refine g_aload_n cx 1 rfl d_X7_lay_4 ?_
  refine g_cVv cx [.ref (ad 1)] [] (c_X8_copy l X (ad 5) (ad 6) (F 80) (F 81) (F 82) (F 83) (F 84) (R 6) (ad 1) (ad 2) (F 16) (F 17) (F 18) (F 19) (F 20) (R 2)) ml_X7_64 yV_X8_copy d_X7_lay_5 (by unfold g_rr; decide) (by decide) 0 rfl rfl [5, 6, 1, 2] rfl (by decide) rfl (Nat.le_of_ble_eq_true rfl) (by rintro _ ⟨rfl, _⟩; rfl) (fun w2 h3 => ?_)
  obtain ⟨rfl, -⟩ := h3
  refine g_weq (wX X ad (upd (upd (upd (upd (upd F 80 (F 16)) 81 (F 17)) 82 (F 18)) 83 (F 19)) 84 (F 20)) (g_u R 6 (va_cpy (R 2) (R 6) 0 0 80))) rfl ?_
  refine g_aload_n cx 0 rfl d_X7_lay_8 ?_
  refine g_get cx cl_X7 fl_X7_58 35 (.ref (ad 15)) d_X7_lay_9 rfl rfl ?_
  refine g_aload_n cx 2 rfl d_X7_lay_12 ?_
  refine g_cVv cx [.ref (ad 11)] [] (c_X5_copy l X (ad 15) (ad 16) (F 241) (R 16) (ad 11) (ad 12) (F 177) (R 12)) ml_X7_68 yV_X5_copy d_X7_lay_13 (by unfold g_rr; decide) (by decide) 0 rfl rfl [15, 16, 11, 12] rfl (by decide) rfl (Nat.le_of_ble_eq_true rfl) (by rintro _ ⟨rfl, _⟩; rfl) (fun w5 h6 => ?_)
  obtain ⟨rfl, -⟩ := h6
  refine g_weq (wX X ad (upd (upd (upd (upd (upd (upd F 80 (F 16)) 81 (F 17)) 82 (F 18)) 83 (F 19)) 84 (F 20)) 241 (F 177)) (g_u (g_u R 6 (va_cpy (R 2) (R 6) 0 0 80)) 16 (va_cpy (R 12) (R 16) 0 0 60))) rfl ?_
  refine g_aload_n cx 0 rfl d_X7_lay_16 ?_
  refine g_get cx cl_X7 fl_X7_46 35 (.ref (ad 37)) d_X7_lay_17 rfl rfl ?_
  refine g_getN cx cl_X0 fn_X7_73 37 (.ref (ad 42)) d_X7_lay_20 rfl rfl ?_
  refine g_cVv cx [] [] (c_X1_holdStill l X (ad 42) (F 672) (F 673) (F 674) (F 675)) ml_X7_77 yV_X1_holdStill d_X7_lay_23 (by unfold g_rr; decide) (by decide) 0 rfl rfl [42] rfl (by decide) rfl (Nat.le_of_ble_eq_true rfl) (by rintro _ ⟨rfl, _⟩; rfl) (fun w8 h9 => ?_)
  obtain ⟨rfl, -⟩ := h9
  refine g_weq (wX X ad (upd (upd (upd (upd (upd (upd (upd (upd F 80 (F 16)) 81 (F 17)) 82 (F 18)) 83 (F 19)) 84 (F 20)) 241 (F 177)) 672 0) 674 0) (g_u (g_u R 6 (va_cpy (R 2) (R 6) 0 0 80)) 16 (va_cpy (R 12) (R 16) 0 0 60))) rfl ?_
  exact hret d_X7_lay_26 (Nat.le_of_ble_eq_true rfl) (Nat.le_of_ble_eq_true rfl) (⟨rfl, trivial⟩)
theorem d_X7_improves_0 : g_dc cX7_improves 0 (.aload_n 0) 1 1 := ⟨by decide +kernel, rfl⟩
theorem d_X7_improves_1 : g_dc cX7_improves 1 (.getfield 63) 3 4 := ⟨by decide +kernel, rfl⟩
theorem d_X7_improves_4 : g_dc cX7_improves 4 (.invokevirtual 98) 3 7 := ⟨by decide +kernel, rfl⟩
theorem d_X7_improves_7 : g_dc cX7_improves 7 (.istore_n 1) 1 8 := ⟨by decide +kernel, rfl⟩
theorem d_X7_improves_8 : g_dc cX7_improves 8 (.aload_n 0) 1 9 := ⟨by decide +kernel, rfl⟩
theorem d_X7_improves_9 : g_dc cX7_improves 9 (.getfield 63) 3 12 := ⟨by decide +kernel, rfl⟩
theorem d_X7_improves_12 : g_dc cX7_improves 12 (.invokevirtual 101) 3 15 := ⟨by decide +kernel, rfl⟩
theorem d_X7_improves_15 : g_dc cX7_improves 15 (.istore_n 2) 1 16 := ⟨by decide +kernel, rfl⟩
theorem d_X7_improves_16 : g_dc cX7_improves 16 (.iload_n 1) 1 17 := ⟨by decide +kernel, rfl⟩
theorem d_X7_improves_17 : g_dc cX7_improves 17 (.aload_n 0) 1 18 := ⟨by decide +kernel, rfl⟩
theorem d_X7_improves_18 : g_dc cX7_improves 18 (.getfield 9) 3 21 := ⟨by decide +kernel, rfl⟩
theorem d_X7_improves_21 : g_dc cX7_improves 21 (.if_icmp .lt 19) 3 24 := ⟨by decide +kernel, rfl⟩
theorem d_X7_improves_24 : g_dc cX7_improves 24 (.iload_n 1) 1 25 := ⟨by decide +kernel, rfl⟩
theorem d_X7_improves_25 : g_dc cX7_improves 25 (.aload_n 0) 1 26 := ⟨by decide +kernel, rfl⟩
theorem d_X7_improves_26 : g_dc cX7_improves 26 (.getfield 9) 3 29 := ⟨by decide +kernel, rfl⟩
theorem d_X7_improves_29 : g_dc cX7_improves 29 (.if_icmp .ne 13) 3 32 := ⟨by decide +kernel, rfl⟩
theorem d_X7_improves_42 : g_dc cX7_improves 42 (.aload_n 0) 1 43 := ⟨by decide +kernel, rfl⟩
theorem d_X7_improves_43 : g_dc cX7_improves 43 (.iload_n 1) 1 44 := ⟨by decide +kernel, rfl⟩
theorem d_X7_improves_44 : g_dc cX7_improves 44 (.putfield 9) 3 47 := ⟨by decide +kernel, rfl⟩
theorem d_X7_improves_47 : g_dc cX7_improves 47 (.aload_n 0) 1 48 := ⟨by decide +kernel, rfl⟩
theorem d_X7_improves_48 : g_dc cX7_improves 48 (.iload_n 2) 1 49 := ⟨by decide +kernel, rfl⟩
theorem d_X7_improves_49 : g_dc cX7_improves 49 (.putfield 15) 3 52 := ⟨by decide +kernel, rfl⟩
theorem d_X7_improves_52 : g_dc cX7_improves 52 (.iconst 1) 1 53 := ⟨by decide +kernel, rfl⟩
theorem d_X7_improves_53 : g_dc cX7_improves 53 (.ireturn) 1 54 := ⟨by decide +kernel, rfl⟩
set_option maxHeartbeats 4000000 in
set_option maxRecDepth 100000 in
theorem c1_X7_improves (l : Launch) (X : gX) (ad : Nat → Nat) (F : Nat → Int32) (R : Nat → Nat → Int32) (h691 : F 691 = 0) (hz : ∀ j, j < 30 → R 46 j = 0) (hs : F 564 = -1) : g_Ci l X yX7_improves cX7_improves 3 (some .boolean) 3 0 0 [.ref (ad 35)] (wX X ad F R) (fun r w => w = wX X ad (upd (upd F 564 0) 565 0) R ∧ r = 1) := by
  refine g_mi (by decide +kernel) (Nat.le_of_ble_eq_true rfl) (fun E cx hret => ?_)
  refine g_aload_n cx 0 rfl d_X7_improves_0 ?_
  refine g_get cx cl_X7 fl_X7_63 35 (.ref (ad 43)) d_X7_improves_1 rfl rfl ?_
  refine g_cViW cx [] [] (c_X4_standing l X ad F R  h691) ml_X7_98 yV_X4_standing d_X7_improves_4 (by unfold g_rr; decide) (by decide) 43 rfl rfl rfl (Nat.le_of_ble_eq_true rfl) (fun r1 w2 h3 => ?_)
  obtain ⟨rfl, rfl⟩ := h3
  refine g_istore_n cx [(1, .int 0), (0, .ref (ad 35))] d_X7_improves_7 (by decide) rfl ?_
  refine g_aload_n cx 1 rfl d_X7_improves_8 ?_
  refine g_get cx cl_X7 fl_X7_63 35 (.ref (ad 43)) d_X7_improves_9 rfl rfl ?_
  refine g_cViW cx [] [] (c_X4_inches l X ad F R  hz) ml_X7_101 yV_X4_inches d_X7_improves_12 (by unfold g_rr; decide) (by decide) 43 rfl rfl rfl (Nat.le_of_ble_eq_true rfl) (fun r4 w5 h6 => ?_)
  obtain ⟨rfl, rfl⟩ := h6
  refine g_istore_n cx [(2, .int 0), (1, .int 0), (0, .ref (ad 35))] d_X7_improves_15 (by decide) rfl ?_
  refine g_iload_n cx 1 rfl d_X7_improves_16 ?_
  refine g_aload_n cx 2 rfl d_X7_improves_17 ?_
  refine g_get cx cl_X7 fl_X7_9 35 (.int (F 564)) d_X7_improves_18 rfl rfl ?_
  refine g_toi (-1) (hs) ?_
  refine g_icmp_lt_f cx 40 d_X7_improves_21 (by decide) (by decide) ?_
  refine g_iload_n cx 1 rfl d_X7_improves_24 ?_
  refine g_aload_n cx 2 rfl d_X7_improves_25 ?_
  refine g_get cx cl_X7 fl_X7_9 35 (.int (F 564)) d_X7_improves_26 rfl rfl ?_
  refine g_toi (-1) (hs) ?_
  refine g_icmp_ne_t cx 42 d_X7_improves_29 (by decide) (by decide) ?_
  refine g_aload_n cx 2 rfl d_X7_improves_42 ?_
  refine g_iload_n cx 1 rfl d_X7_improves_43 ?_
  refine g_put cx cl_X7 fl_X7_9 35 (wX X ad (upd F 564 0) R) d_X7_improves_44 rfl rfl rfl rfl (Nat.le_of_ble_eq_true rfl) rfl ?_
  refine g_aload_n cx 2 rfl d_X7_improves_47 ?_
  refine g_iload_n cx 0 rfl d_X7_improves_48 ?_
  refine g_put cx cl_X7 fl_X7_15 35 (wX X ad (upd (upd F 564 0) 565 0) R) d_X7_improves_49 rfl rfl rfl rfl (Nat.le_of_ble_eq_true rfl) rfl ?_
  refine g_iconst cx 1 (by decide) d_X7_improves_52 ?_
  exact hret d_X7_improves_53 (Nat.le_of_ble_eq_true rfl) (Nat.le_of_ble_eq_true rfl) rfl (⟨rfl, rfl⟩)
theorem d_X7_improves_32 : g_dc cX7_improves 32 (.iload_n 2) 1 33 := ⟨by decide +kernel, rfl⟩
theorem d_X7_improves_33 : g_dc cX7_improves 33 (.aload_n 0) 1 34 := ⟨by decide +kernel, rfl⟩
theorem d_X7_improves_34 : g_dc cX7_improves 34 (.getfield 15) 3 37 := ⟨by decide +kernel, rfl⟩
theorem d_X7_improves_37 : g_dc cX7_improves 37 (.if_icmp .lt 5) 3 40 := ⟨by decide +kernel, rfl⟩
theorem d_X7_improves_40 : g_dc cX7_improves 40 (.iconst 0) 1 41 := ⟨by decide +kernel, rfl⟩
theorem d_X7_improves_41 : g_dc cX7_improves 41 (.ireturn) 1 42 := ⟨by decide +kernel, rfl⟩
set_option maxHeartbeats 4000000 in
set_option maxRecDepth 100000 in
theorem c2_X7_improves (l : Launch) (X : gX) (ad : Nat → Nat) (F : Nat → Int32) (R : Nat → Nat → Int32) (h691 : F 691 = 0) (hz : ∀ j, j < 30 → R 46 j = 0) (hs : F 564 = 0) (hi : F 565 = 0) : g_Ci l X yX7_improves cX7_improves 3 (some .boolean) 3 0 0 [.ref (ad 35)] (wX X ad F R) (fun r w => w = wX X ad F R ∧ r = 0) := by
  refine g_mi (by decide +kernel) (Nat.le_of_ble_eq_true rfl) (fun E cx hret => ?_)
  refine g_aload_n cx 0 rfl d_X7_improves_0 ?_
  refine g_get cx cl_X7 fl_X7_63 35 (.ref (ad 43)) d_X7_improves_1 rfl rfl ?_
  refine g_cViW cx [] [] (c_X4_standing l X ad F R  h691) ml_X7_98 yV_X4_standing d_X7_improves_4 (by unfold g_rr; decide) (by decide) 43 rfl rfl rfl (Nat.le_of_ble_eq_true rfl) (fun r1 w2 h3 => ?_)
  obtain ⟨rfl, rfl⟩ := h3
  refine g_istore_n cx [(1, .int 0), (0, .ref (ad 35))] d_X7_improves_7 (by decide) rfl ?_
  refine g_aload_n cx 1 rfl d_X7_improves_8 ?_
  refine g_get cx cl_X7 fl_X7_63 35 (.ref (ad 43)) d_X7_improves_9 rfl rfl ?_
  refine g_cViW cx [] [] (c_X4_inches l X ad F R  hz) ml_X7_101 yV_X4_inches d_X7_improves_12 (by unfold g_rr; decide) (by decide) 43 rfl rfl rfl (Nat.le_of_ble_eq_true rfl) (fun r4 w5 h6 => ?_)
  obtain ⟨rfl, rfl⟩ := h6
  refine g_istore_n cx [(2, .int 0), (1, .int 0), (0, .ref (ad 35))] d_X7_improves_15 (by decide) rfl ?_
  refine g_iload_n cx 1 rfl d_X7_improves_16 ?_
  refine g_aload_n cx 2 rfl d_X7_improves_17 ?_
  refine g_get cx cl_X7 fl_X7_9 35 (.int (F 564)) d_X7_improves_18 rfl rfl ?_
  refine g_toi 0 (hs) ?_
  refine g_icmp_lt_f cx 40 d_X7_improves_21 (by decide) (by decide) ?_
  refine g_iload_n cx 1 rfl d_X7_improves_24 ?_
  refine g_aload_n cx 2 rfl d_X7_improves_25 ?_
  refine g_get cx cl_X7 fl_X7_9 35 (.int (F 564)) d_X7_improves_26 rfl rfl ?_
  refine g_toi 0 (hs) ?_
  refine g_icmp_ne_f cx 42 d_X7_improves_29 (by decide) (by decide) ?_
  refine g_iload_n cx 0 rfl d_X7_improves_32 ?_
  refine g_aload_n cx 2 rfl d_X7_improves_33 ?_
  refine g_get cx cl_X7 fl_X7_15 35 (.int (F 565)) d_X7_improves_34 rfl rfl ?_
  refine g_toi 0 (hi) ?_
  refine g_icmp_lt_f cx 42 d_X7_improves_37 (by decide) (by decide) ?_
  refine g_iconst cx 0 (by decide) d_X7_improves_40 ?_
  exact hret d_X7_improves_41 (Nat.le_of_ble_eq_true rfl) (Nat.le_of_ble_eq_true rfl) rfl (⟨rfl, rfl⟩)
theorem d_X7_leastPace_0 : g_dc cX7_leastPace 0 (.iconst 1) 1 1 := ⟨by decide +kernel, rfl⟩
theorem d_X7_leastPace_1 : g_dc cX7_leastPace 1 (.istore_n 1) 1 2 := ⟨by decide +kernel, rfl⟩
theorem d_X7_leastPace_2 : g_dc cX7_leastPace 2 (.iload_n 1) 1 3 := ⟨by decide +kernel, rfl⟩
theorem d_X7_leastPace_3 : g_dc cX7_leastPace 3 (.bipush 40) 2 5 := ⟨by decide +kernel, rfl⟩
theorem d_X7_leastPace_5 : g_dc cX7_leastPace 5 (.if_icmp .gt 43) 3 8 := ⟨by decide +kernel, rfl⟩
theorem d_X7_leastPace_8 : g_dc cX7_leastPace 8 (.aload_n 0) 1 9 := ⟨by decide +kernel, rfl⟩
theorem d_X7_leastPace_9 : g_dc cX7_leastPace 9 (.getfield 58) 3 12 := ⟨by decide +kernel, rfl⟩
theorem d_X7_leastPace_12 : g_dc cX7_leastPace 12 (.iload_n 1) 1 13 := ⟨by decide +kernel, rfl⟩
theorem d_X7_leastPace_13 : g_dc cX7_leastPace 13 (.aload_n 0) 1 14 := ⟨by decide +kernel, rfl⟩
theorem d_X7_leastPace_14 : g_dc cX7_leastPace 14 (.getfield 53) 3 17 := ⟨by decide +kernel, rfl⟩
theorem d_X7_leastPace_17 : g_dc cX7_leastPace 17 (.getfield 82) 3 20 := ⟨by decide +kernel, rfl⟩
theorem d_X7_leastPace_20 : g_dc cX7_leastPace 20 (.invokevirtual 85) 3 23 := ⟨by decide +kernel, rfl⟩
theorem d_X7_leastPace_23 : g_dc cX7_leastPace 23 (.aload_n 0) 1 24 := ⟨by decide +kernel, rfl⟩
theorem d_X7_leastPace_24 : g_dc cX7_leastPace 24 (.getfield 46) 3 27 := ⟨by decide +kernel, rfl⟩
theorem d_X7_leastPace_27 : g_dc cX7_leastPace 27 (.invokevirtual 89) 3 30 := ⟨by decide +kernel, rfl⟩
theorem d_X7_leastPace_30 : g_dc cX7_leastPace 30 (.aload_n 0) 1 31 := ⟨by decide +kernel, rfl⟩
theorem d_X7_leastPace_31 : g_dc cX7_leastPace 31 (.getfield 63) 3 34 := ⟨by decide +kernel, rfl⟩
theorem d_X7_leastPace_34 : g_dc cX7_leastPace 34 (.invokevirtual 92) 3 37 := ⟨by decide +kernel, rfl⟩
theorem d_X7_leastPace_37 : g_dc cX7_leastPace 37 (.ifCond .eq 5) 3 40 := ⟨by decide +kernel, rfl⟩
theorem d_X7_leastPace_40 : g_dc cX7_leastPace 40 (.iload_n 1) 1 41 := ⟨by decide +kernel, rfl⟩
theorem d_X7_leastPace_41 : g_dc cX7_leastPace 41 (.ireturn) 1 42 := ⟨by decide +kernel, rfl⟩
set_option maxHeartbeats 4000000 in
set_option maxRecDepth 100000 in
theorem c_X7_leastPace (l : Launch) (X : gX) (ad : Nat → Nat) (F : Nat → Int32) (R : Nat → Nat → Int32) (h82 : F 82 = 0) (h83 : F 83 = 0) (h672 : F 672 = 0) (h674 : F 674 = 0) : g_Ci l X yX7_leastPace cX7_leastPace 2 (some .int) 6 0 0 [.ref (ad 35)] (wX X ad F R) (fun r w => r = 1) := by
  refine g_mi (by decide +kernel) (Nat.le_of_ble_eq_true rfl) (fun E cx hret => ?_)
  refine g_iconst cx 1 (by decide) d_X7_leastPace_0 ?_
  refine g_istore_n cx [(1, .int 1), (0, .ref (ad 35))] d_X7_leastPace_1 (by decide) rfl ?_
  refine g_iload_n cx 0 rfl d_X7_leastPace_2 ?_
  refine g_bipush cx 40 (by decide) d_X7_leastPace_3 ?_
  refine g_icmp_gt_f cx 48 d_X7_leastPace_5 (by decide) (by decide) ?_
  refine g_aload_n cx 1 rfl d_X7_leastPace_8 ?_
  refine g_get cx cl_X7 fl_X7_58 35 (.ref (ad 15)) d_X7_leastPace_9 rfl rfl ?_
  refine g_iload_n cx 0 rfl d_X7_leastPace_12 ?_
  refine g_aload_n cx 1 rfl d_X7_leastPace_13 ?_
  refine g_get cx cl_X7 fl_X7_53 35 (.ref (ad 5)) d_X7_leastPace_14 rfl rfl ?_
  refine g_getN cx cl_X8 fn_X7_82 5 (.int (F 81)) d_X7_leastPace_17 rfl rfl ?_
  refine g_cVv cx [.int 1, .int (F 81)] [] (c_X5_even l X (ad 15) (ad 16) (F 241) (R 16) 1 (F 81)) ml_X7_85 yV_X5_even d_X7_leastPace_20 (by unfold g_rr; decide) (by decide) 0 rfl rfl [15, 16] rfl (by decide) rfl (Nat.le_of_ble_eq_true rfl) (by rintro _ ⟨_, _, rfl, _⟩; rfl) (fun w2 h3 => ?_)
  obtain ⟨t4, g5, rfl, h6⟩ := h3
  refine g_weq (wX X ad (upd F 241 (nI t4)) (g_u R 16 g5)) rfl ?_
  refine g_aload_n cx 1 rfl d_X7_leastPace_23 ?_
  refine g_get cx cl_X7 fl_X7_46 35 (.ref (ad 37)) d_X7_leastPace_24 rfl rfl ?_
  refine g_cVvW cx [] [] (c_X0_run l X ad (upd F 241 (nI t4)) (g_u R 16 g5)  t4 rfl h6 h82 h83 (Or.inr ⟨h672, h674⟩)) ml_X7_89 yV_X0_run d_X7_leastPace_27 (by unfold g_rr; decide) (by decide) 37 rfl rfl rfl (Nat.le_of_ble_eq_true rfl) (fun w8 h9 => ?_)
  obtain ⟨zF10, zR11, rfl, zp12⟩ := h9
  refine g_aload_n cx 1 rfl d_X7_leastPace_30 ?_
  refine g_get cx cl_X7 fl_X7_63 35 (.ref (ad 43)) d_X7_leastPace_31 rfl rfl ?_
  refine g_cViW cx [] [] (c_X4_allStand l X ad zF10 zR11  zp12.2.1) ml_X7_92 yV_X4_allStand d_X7_leastPace_34 (by unfold g_rr; decide) (by decide) 43 rfl rfl rfl (Nat.le_of_ble_eq_true rfl) (fun r13 w14 h15 => ?_)
  obtain ⟨rfl, rfl⟩ := h15
  refine g_if_eq_f cx 42 d_X7_leastPace_37 (by decide) (by decide) ?_
  refine g_iload_n cx 0 rfl d_X7_leastPace_40 ?_
  exact hret d_X7_leastPace_41 (Nat.le_of_ble_eq_true rfl) (Nat.le_of_ble_eq_true rfl) rfl (rfl)
theorem d_X7_largestStanding_0 : g_dc cX7_largestStanding 0 (.aload_n 0) 1 1 := ⟨by decide +kernel, rfl⟩
theorem d_X7_largestStanding_1 : g_dc cX7_largestStanding 1 (.getfield 53) 3 4 := ⟨by decide +kernel, rfl⟩
theorem d_X7_largestStanding_4 : g_dc cX7_largestStanding 4 (.getfield 135) 3 7 := ⟨by decide +kernel, rfl⟩
theorem d_X7_largestStanding_7 : g_dc cX7_largestStanding 7 (.istore_n 1) 1 8 := ⟨by decide +kernel, rfl⟩
theorem d_X7_largestStanding_8 : g_dc cX7_largestStanding 8 (.iconst 0) 1 9 := ⟨by decide +kernel, rfl⟩
theorem d_X7_largestStanding_9 : g_dc cX7_largestStanding 9 (.istore_n 2) 1 10 := ⟨by decide +kernel, rfl⟩
theorem d_X7_largestStanding_10 : g_dc cX7_largestStanding 10 (.iconst 1) 1 11 := ⟨by decide +kernel, rfl⟩
theorem d_X7_largestStanding_11 : g_dc cX7_largestStanding 11 (.istore_n 3) 1 12 := ⟨by decide +kernel, rfl⟩
theorem d_X7_largestStanding_12 : g_dc cX7_largestStanding 12 (.iload_n 3) 1 13 := ⟨by decide +kernel, rfl⟩
theorem d_X7_largestStanding_13 : g_dc cX7_largestStanding 13 (.sipush 1024) 3 16 := ⟨by decide +kernel, rfl⟩
theorem d_X7_largestStanding_16 : g_dc cX7_largestStanding 16 (.if_icmp .ge 59) 3 19 := ⟨by decide +kernel, rfl⟩
theorem d_X7_largestStanding_19 : g_dc cX7_largestStanding 19 (.iload_n 3) 1 20 := ⟨by decide +kernel, rfl⟩
theorem d_X7_largestStanding_20 : g_dc cX7_largestStanding 20 (.iload_n 1) 1 21 := ⟨by decide +kernel, rfl⟩
theorem d_X7_largestStanding_21 : g_dc cX7_largestStanding 21 (.iconst (-1)) 1 22 := ⟨by decide +kernel, rfl⟩
theorem d_X7_largestStanding_22 : g_dc cX7_largestStanding 22 (.ixor) 1 23 := ⟨by decide +kernel, rfl⟩
theorem d_X7_largestStanding_23 : g_dc cX7_largestStanding 23 (.iand) 1 24 := ⟨by decide +kernel, rfl⟩
theorem d_X7_largestStanding_24 : g_dc cX7_largestStanding 24 (.ifCond .ne 45) 3 27 := ⟨by decide +kernel, rfl⟩
theorem d_X7_largestStanding_69 : g_dc cX7_largestStanding 69 (.iinc 3 1) 3 72 := ⟨by decide +kernel, rfl⟩
theorem d_X7_largestStanding_72 : g_dc cX7_largestStanding 72 (.goto (-60)) 3 75 := ⟨by decide +kernel, rfl⟩
theorem d_X7_largestStanding_75 : g_dc cX7_largestStanding 75 (.aload_n 0) 1 76 := ⟨by decide +kernel, rfl⟩
theorem d_X7_largestStanding_76 : g_dc cX7_largestStanding 76 (.getfield 53) 3 79 := ⟨by decide +kernel, rfl⟩
theorem d_X7_largestStanding_79 : g_dc cX7_largestStanding 79 (.iload_n 1) 1 80 := ⟨by decide +kernel, rfl⟩
theorem d_X7_largestStanding_80 : g_dc cX7_largestStanding 80 (.putfield 135) 3 83 := ⟨by decide +kernel, rfl⟩
theorem d_X7_largestStanding_83 : g_dc cX7_largestStanding 83 (.iload_n 2) 1 84 := ⟨by decide +kernel, rfl⟩
theorem d_X7_largestStanding_84 : g_dc cX7_largestStanding 84 (.ireturn) 1 85 := ⟨by decide +kernel, rfl⟩
set_option maxHeartbeats 4000000 in
set_option maxRecDepth 100000 in
theorem c_X7_largestStanding (l : Launch) (X : gX) (ad : Nat → Nat) (F : Nat → Int32) (R : Nat → Nat → Int32) (h83 : F 83 = 0) : g_Ci l X yX7_largestStanding cX7_largestStanding 4 (some .int) 3 0 0 [.ref (ad 35)] (wX X ad F R) (fun r w => r = 0) := by
  refine g_mi (by decide +kernel) (Nat.le_of_ble_eq_true rfl) (fun E cx hret => ?_)
  refine g_aload_n cx 0 rfl d_X7_largestStanding_0 ?_
  refine g_get cx cl_X7 fl_X7_53 35 (.ref (ad 5)) d_X7_largestStanding_1 rfl rfl ?_
  refine g_getN cx cl_X8 fn_X7_135 5 (.int (F 83)) d_X7_largestStanding_4 rfl rfl ?_
  refine g_toi 0 (h83) ?_
  refine g_istore_n cx [(1, .int 0), (0, .ref (ad 35))] d_X7_largestStanding_7 (by decide) rfl ?_
  refine g_iconst cx 0 (by decide) d_X7_largestStanding_8 ?_
  refine g_istore_n cx [(2, .int 0), (1, .int 0), (0, .ref (ad 35))] d_X7_largestStanding_9 (by decide) rfl ?_
  refine g_iconst cx 1 (by decide) d_X7_largestStanding_10 ?_
  refine g_istore_n cx [(3, .int 1), (2, .int 0), (1, .int 0), (0, .ref (ad 35))] d_X7_largestStanding_11 (by decide) rfl ?_
  have L12 : ∀ (N : Nat) (i : Nat) (x3 : Int32), 1024 - i < N → (x3 = nI i) → (1 ≤ i) → (i ≤ 1024) → G X E 4 0 0 (wX X ad F R) [(0, .ref (ad 35)), (1, .int 0), (2, .int 0), (3, .int x3)] 12 [] := by
    intro N
    induction N with
    | zero => intro i x3 hm; exact absurd hm (Nat.not_lt_zero _)
    | succ N ih12 =>
      intro i x3 hm hx h1 hi
      refine g_iload_n cx 3 rfl d_X7_largestStanding_12 ?_
      refine g_sipush cx 1024 (by decide) d_X7_largestStanding_13 ?_
      refine g_icmp_ge cx 75 d_X7_largestStanding_16 (by decide) (fun zc16 => ?_) (fun zc16 => ?_)
      · refine g_aload_n cx 0 rfl d_X7_largestStanding_75 ?_
        refine g_get cx cl_X7 fl_X7_53 35 (.ref (ad 5)) d_X7_largestStanding_76 rfl rfl ?_
        refine g_iload_n cx 1 rfl d_X7_largestStanding_79 ?_
        refine g_putN cx cl_X8 fn_X7_135 5 (wX X ad (upd F 83 0) R) d_X7_largestStanding_80 rfl rfl rfl rfl (Nat.le_of_ble_eq_true rfl) rfl ?_
        refine g_iload_n cx 2 rfl d_X7_largestStanding_83 ?_
        exact hret d_X7_largestStanding_84 (Nat.le_of_ble_eq_true rfl) (Nat.le_of_ble_eq_true rfl) rfl (rfl)
      · refine g_iload_n cx 3 rfl d_X7_largestStanding_19 ?_
        refine g_iload_n cx 1 rfl d_X7_largestStanding_20 ?_
        refine g_iconst cx (-1) (by decide) d_X7_largestStanding_21 ?_
        refine g_ixor cx d_X7_largestStanding_22 ?_
        refine g_toi (-1) (by decide) ?_
        refine g_iand cx d_X7_largestStanding_23 ?_
        refine g_if_ne_t cx 69 d_X7_largestStanding_24 (by decide) (by rw [g_m1, hx]; exact nI_ne0 (by omega) (by omega)) ?_
        refine g_iinc cx (x3 + 1) [(3, .int (x3 + 1)), (0, .ref (ad 35)), (1, .int 0), (2, .int 0)] 3 d_X7_largestStanding_69 rfl (rfl) (by decide) rfl ?_
        refine g_goto cx 12 d_X7_largestStanding_72 (by decide) ?_
        refine g_lsub [1, 2, 3, 0] [(0, .ref (ad 35)), (1, .int 0), (2, .int 0), (3, .int (x3 + 1))] rfl ?_
        exact ih12 (i + 1) (x3 + 1) (by have := g_lt10 (n := 1024) hx (by omega) zc16; omega) (by rw [hx]; exact nI_1 i) (by omega) (by have := g_lt10 (n := 1024) hx (by omega) zc16; omega)
  refine g_lsub [3, 2, 1, 0] [(0, .ref (ad 35)), (1, .int 0), (2, .int 0), (3, .int 1)] rfl ?_
  exact L12 _ 1 1 (Nat.lt_succ_self _) rfl (by omega) (by omega)
theorem d_X7_bestIs_0 : g_dc cX7_bestIs 0 (.iload_n 1) 1 1 := ⟨by decide +kernel, rfl⟩
theorem d_X7_bestIs_1 : g_dc cX7_bestIs 1 (.iconst 0) 1 2 := ⟨by decide +kernel, rfl⟩
theorem d_X7_bestIs_2 : g_dc cX7_bestIs 2 (.aload_n 0) 1 3 := ⟨by decide +kernel, rfl⟩
theorem d_X7_bestIs_3 : g_dc cX7_bestIs 3 (.getfield 27) 3 6 := ⟨by decide +kernel, rfl⟩
theorem d_X7_bestIs_6 : g_dc cX7_bestIs 6 (.arraylength) 1 7 := ⟨by decide +kernel, rfl⟩
theorem d_X7_bestIs_7 : g_dc cX7_bestIs 7 (.iconst 1) 1 8 := ⟨by decide +kernel, rfl⟩
theorem d_X7_bestIs_8 : g_dc cX7_bestIs 8 (.isub) 1 9 := ⟨by decide +kernel, rfl⟩
theorem d_X7_bestIs_9 : g_dc cX7_bestIs 9 (.invokestatic 103) 3 12 := ⟨by decide +kernel, rfl⟩
theorem d_X7_bestIs_12 : g_dc cX7_bestIs 12 (.ifCond .eq 12) 3 15 := ⟨by decide +kernel, rfl⟩
theorem d_X7_bestIs_15 : g_dc cX7_bestIs 15 (.aload_n 0) 1 16 := ⟨by decide +kernel, rfl⟩
theorem d_X7_bestIs_16 : g_dc cX7_bestIs 16 (.getfield 27) 3 19 := ⟨by decide +kernel, rfl⟩
theorem d_X7_bestIs_19 : g_dc cX7_bestIs 19 (.iload_n 1) 1 20 := ⟨by decide +kernel, rfl⟩
theorem d_X7_bestIs_20 : g_dc cX7_bestIs 20 (.iaload) 1 21 := ⟨by decide +kernel, rfl⟩
theorem d_X7_bestIs_21 : g_dc cX7_bestIs 21 (.goto 4) 3 24 := ⟨by decide +kernel, rfl⟩
theorem d_X7_bestIs_25 : g_dc cX7_bestIs 25 (.ireturn) 1 26 := ⟨by decide +kernel, rfl⟩
set_option maxHeartbeats 4000000 in
set_option maxRecDepth 100000 in
theorem c_X7_bestIs (l : Launch) (X : gX) (ad : Nat → Nat) (F : Nat → Int32) (R : Nat → Nat → Int32) (what : Int32) (hw : ¬ g_in what 0 4 = 0) (hb : R 36 0 = 1 ∧ R 36 1 = 1 ∧ R 36 2 = 1 ∧ R 36 3 = 0 ∧ R 36 4 = 0) : g_Ci l X yX7_bestIs cX7_bestIs 2 (some .int) 2 0 0 [.ref (ad 35), .int what] (wX X ad F R) (fun r w => r = S_best what) := by
  refine g_mi (by decide +kernel) (Nat.le_of_ble_eq_true rfl) (fun E cx hret => ?_)
  refine g_iload_n cx 1 rfl d_X7_bestIs_0 ?_
  refine g_iconst cx 0 (by decide) d_X7_bestIs_1 ?_
  refine g_aload_n cx 0 rfl d_X7_bestIs_2 ?_
  refine g_get cx cl_X7 fl_X7_27 35 (.ref (ad 36)) d_X7_bestIs_3 rfl rfl ?_
  refine g_alen cx 36 5 d_X7_bestIs_6 rfl (by decide) ?_
  refine g_iconst cx 1 (by decide) d_X7_bestIs_7 ?_
  refine g_isub cx d_X7_bestIs_8 ?_
  refine g_toi 4 (by decide) ?_
  refine g_cNiW cx [.int what, .int 0, .int 4] [] (c_X10_within l X _ what 0 4) mn_X7_103 yS_X10_within d_X7_bestIs_9 (by unfold g_rr; decide) (by decide) rfl (Nat.le_of_ble_eq_true rfl) (fun r1 w2 h3 => ?_)
  obtain ⟨rfl, rfl⟩ := h3
  refine g_if_eq_f cx 24 d_X7_bestIs_12 (by decide) (hw) ?_
  refine g_aload_n cx 0 rfl d_X7_bestIs_15 ?_
  refine g_get cx cl_X7 fl_X7_27 35 (.ref (ad 36)) d_X7_bestIs_16 rfl rfl ?_
  refine g_iload_n cx 1 rfl d_X7_bestIs_19 ?_
  refine g_iald cx 36 d_X7_bestIs_20 rfl (g_vi04 hw) ?_
  refine g_goto cx 25 d_X7_bestIs_21 (by decide) ?_
  exact hret d_X7_bestIs_25 (Nat.le_of_ble_eq_true rfl) (Nat.le_of_ble_eq_true rfl) rfl (S_best_of hw hb)
theorem d_X6_take_0 : g_dc cX6_take 0 (.iload_n 1) 1 1 := ⟨by decide +kernel, rfl⟩
theorem d_X6_take_1 : g_dc cX6_take 1 (.invokestatic 25) 3 4 := ⟨by decide +kernel, rfl⟩
theorem d_X6_take_4 : g_dc cX6_take 4 (.istore_n 3) 1 5 := ⟨by decide +kernel, rfl⟩
theorem d_X6_take_5 : g_dc cX6_take 5 (.iload_n 1) 1 6 := ⟨by decide +kernel, rfl⟩
theorem d_X6_take_6 : g_dc cX6_take 6 (.iload_n 2) 1 7 := ⟨by decide +kernel, rfl⟩
theorem d_X6_take_7 : g_dc cX6_take 7 (.iconst (-1)) 1 8 := ⟨by decide +kernel, rfl⟩
theorem d_X6_take_8 : g_dc cX6_take 8 (.ixor) 1 9 := ⟨by decide +kernel, rfl⟩
theorem d_X6_take_9 : g_dc cX6_take 9 (.iand) 1 10 := ⟨by decide +kernel, rfl⟩
theorem d_X6_take_10 : g_dc cX6_take 10 (.ifCond .ne 12) 3 13 := ⟨by decide +kernel, rfl⟩
theorem d_X6_take_13 : g_dc cX6_take 13 (.iload_n 3) 1 14 := ⟨by decide +kernel, rfl⟩
theorem d_X6_take_14 : g_dc cX6_take 14 (.iconst 2) 1 15 := ⟨by decide +kernel, rfl⟩
theorem d_X6_take_15 : g_dc cX6_take 15 (.iconst 5) 1 16 := ⟨by decide +kernel, rfl⟩
theorem d_X6_take_16 : g_dc cX6_take 16 (.invokestatic 31) 3 19 := ⟨by decide +kernel, rfl⟩
theorem d_X6_take_19 : g_dc cX6_take 19 (.ifCond .ne 5) 3 22 := ⟨by decide +kernel, rfl⟩
theorem d_X6_take_22 : g_dc cX6_take 22 (.iconst 0) 1 23 := ⟨by decide +kernel, rfl⟩
theorem d_X6_take_23 : g_dc cX6_take 23 (.ireturn) 1 24 := ⟨by decide +kernel, rfl⟩
set_option maxHeartbeats 4000000 in
set_option maxRecDepth 100000 in
theorem c_X6_take (l : Launch) (X : gX) (ad : Nat → Nat) (F : Nat → Int32) (R : Nat → Nat → Int32) (things : Int32) : g_Ci l X yX6_take cX6_take 5 (some .boolean) 2 0 0 [.ref (ad 47), .int things, .int 0] (wX X ad F R) (fun r w => w = wX X ad F R ∧ r = 0) := by
  refine g_mi (by decide +kernel) (Nat.le_of_ble_eq_true rfl) (fun E cx hret => ?_)
  refine g_iload_n cx 1 rfl d_X6_take_0 ?_
  refine g_cOiW cx [.int things] [] (c_J6_bitCount_0f7a4 l X _ things) ml_X6_25 yS_J6_bitCount_0f7a4 d_X6_take_1 (by unfold g_rr; decide) (by decide) rfl (Nat.le_of_ble_eq_true rfl) (fun r1 w2 h3 => ?_)
  obtain ⟨rfl, h3⟩ := h3
  refine g_istore_n cx [(3, .int r1), (0, .ref (ad 47)), (1, .int things), (2, .int 0)] d_X6_take_4 (by decide) rfl ?_
  refine g_iload_n cx 2 rfl d_X6_take_5 ?_
  refine g_iload_n cx 3 rfl d_X6_take_6 ?_
  refine g_iconst cx (-1) (by decide) d_X6_take_7 ?_
  refine g_ixor cx d_X6_take_8 ?_
  refine g_toi (-1) (by decide) ?_
  refine g_iand cx d_X6_take_9 ?_
  refine g_if_ne cx 22 d_X6_take_10 (by decide) (fun zc10 => ?_) (fun zc10 => ?_)
  · refine g_iconst cx 0 (by decide) d_X6_take_22 ?_
    exact hret d_X6_take_23 (Nat.le_of_ble_eq_true rfl) (Nat.le_of_ble_eq_true rfl) rfl (⟨rfl, rfl⟩)
  · refine g_iload_n cx 0 rfl d_X6_take_13 ?_
    refine g_iconst cx 2 (by decide) d_X6_take_14 ?_
    refine g_iconst cx 5 (by decide) d_X6_take_15 ?_
    refine g_cNiW cx [.int r1, .int 2, .int 5] [] (c_X10_within l X _ r1 2 5) mn_X6_31 yS_X10_within d_X6_take_16 (by unfold g_rr; decide) (by decide) rfl (Nat.le_of_ble_eq_true rfl) (fun r4 w5 h6 => ?_)
    obtain ⟨rfl, rfl⟩ := h6
    refine g_if_ne_f cx 24 d_X6_take_19 (by decide) (by have e0 : things = 0 := (g_m1 things).symm.trans zc10; rw [h3 e0]; decide) ?_
    refine g_iconst cx 0 (by decide) d_X6_take_22 ?_
    exact hret d_X6_take_23 (Nat.le_of_ble_eq_true rfl) (Nat.le_of_ble_eq_true rfl) rfl (⟨rfl, rfl⟩)
