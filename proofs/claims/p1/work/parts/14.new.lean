theorem g_sw8 (x : Int32) : x = 0 ∨ x = 1 ∨ x = 2 ∨ x = 3 ∨ x = 4 ∨ x = 5 ∨ x = 6 ∨ x = 7 ∨ (x.toInt < 0 ∨ 7 < x.toInt) := by
  rcases g_sw9 x with h | h | h | h | h | h | h | h | h | h
  · exact Or.inl h
  · exact Or.inr (Or.inl h)
  · exact Or.inr (Or.inr (Or.inl h))
  · exact Or.inr (Or.inr (Or.inr (Or.inl h)))
  · exact Or.inr (Or.inr (Or.inr (Or.inr (Or.inl h))))
  · exact Or.inr (Or.inr (Or.inr (Or.inr (Or.inr (Or.inl h)))))
  · exact Or.inr (Or.inr (Or.inr (Or.inr (Or.inr (Or.inr (Or.inl h))))))
  · exact Or.inr (Or.inr (Or.inr (Or.inr (Or.inr (Or.inr (Or.inr (Or.inl h)))))))
  · exact Or.inr (Or.inr (Or.inr (Or.inr (Or.inr (Or.inr (Or.inr (Or.inr (Or.inr (by rw [h]; decide)))))))))
  · exact Or.inr (Or.inr (Or.inr (Or.inr (Or.inr (Or.inr (Or.inr (Or.inr (by omega))))))))
def S_table (a b : Int32) : Int32 := if g_in a 10 200 = 0 then 0 else if g_in b 0 63 = 0 then 0 else 1
def S_cloth (a : Int32) : Int32 := if g_in a 0 100 = 0 then 0 else 1
def S_thing (a b c d e f : Int32) : Int32 := if g_in a 0 9 = 0 then 0 else if g_in b 0 3 = 0 then 0 else if g_in c 0 99 = 0 then 0 else if g_in d 1 40 = 0 then 0 else if g_in e 1 60 = 0 then 0 else if g_in f 1 99 = 0 then 0 else 1
def S_most (a : Int32) : Int32 := if g_in a 0 1 = 0 then -1 else 0
def S_seed (a : Int32) : Int32 := if g_in a 0 65535 = 0 then 0 else 1
def S_check (a : Int32) : Int32 := if g_in a 0 10 = 0 then -2 else if a = 0 then -1 else -2
def S_count (a : Int32) : Int32 := if a = 0 then 100 else if a = 1 then 100 else if a = 7 then 1 else if 0 ≤ a ∧ a ≤ 7 then 0 else -1
theorem S_count_out {x : Int32} (h : x.toInt < 0 ∨ 7 < x.toInt) : S_count x = -1 := by
  unfold S_count
  have h0 : ¬ x = 0 := fun e => by subst e; revert h; decide
  have h1 : ¬ x = 1 := fun e => by subst e; revert h; decide
  have h7 : ¬ x = 7 := fun e => by subst e; revert h; decide
  rw [if_neg h0, if_neg h1, if_neg h7]
  rw [if_neg]
  rintro ⟨a, b⟩
  have a1 := Int32.le_iff_toInt_le.mp a
  have b1 := Int32.le_iff_toInt_le.mp b
  have e0 : (0 : Int32).toInt = 0 := by decide
  have e7 : (7 : Int32).toInt = 7 := by decide
  rw [e0] at a1
  rw [e7] at b1
  omega
theorem g_in_no (x : Int32) : g_in x 100 99 = 0 := by
  unfold g_in
  rw [if_neg]
  rintro ⟨a, b⟩
  exact absurd (Int32.le_trans a b) (by decide)
theorem g_n4 {n : Int32} (h : ¬ g_in n 0 10 = 0) (h2 : n * 4 ≤ 0) : n = 0 := by
  obtain ⟨j, hj, rfl⟩ := g_inj (m := 10) h (by decide)
  rw [show (4 : Int32) = nI 4 from rfl, pk_mul] at h2
  rcases Nat.eq_zero_or_pos j with q | q
  · rw [q]; rfl
  · exact absurd h2 (nI_nle (by omega) (by omega))
theorem g_n4' {n : Int32} (h : ¬ g_in n 0 10 = 0) (h2 : ¬ n * 4 ≤ 0) : ¬ n = 0 := fun e => h2 (by rw [e]; decide)

theorem g_n0 {n M : Int32} (h : ¬ g_in n 1 M = 0) : ¬ n ≤ 0 := fun q => h (by
  unfold g_in
  rw [if_neg]
  rintro ⟨a, -⟩
  exact absurd (Int32.le_trans a q) (by decide))
theorem d_X8_change_0 : g_dc cX8_change 0 (.iload_n 1) 1 1 := ⟨by decide +kernel, rfl⟩
theorem d_X8_change_1 : g_dc cX8_change 1 (.iconst 0) 1 2 := ⟨by decide +kernel, rfl⟩
theorem d_X8_change_2 : g_dc cX8_change 2 (.bipush 9) 2 4 := ⟨by decide +kernel, rfl⟩
theorem d_X8_change_4 : g_dc cX8_change 4 (.invokestatic 31) 3 7 := ⟨by decide +kernel, rfl⟩
theorem d_X8_change_7 : g_dc cX8_change 7 (.ifCond .eq 25) 3 10 := ⟨by decide +kernel, rfl⟩
theorem d_X8_change_10 : g_dc cX8_change 10 (.iload_n 2) 1 11 := ⟨by decide +kernel, rfl⟩
theorem d_X8_change_11 : g_dc cX8_change 11 (.iconst 0) 1 12 := ⟨by decide +kernel, rfl⟩
theorem d_X8_change_12 : g_dc cX8_change 12 (.bipush 7) 2 14 := ⟨by decide +kernel, rfl⟩
theorem d_X8_change_14 : g_dc cX8_change 14 (.invokestatic 31) 3 17 := ⟨by decide +kernel, rfl⟩
theorem d_X8_change_17 : g_dc cX8_change 17 (.ifCond .eq 15) 3 20 := ⟨by decide +kernel, rfl⟩
theorem d_X8_change_20 : g_dc cX8_change 20 (.aload_n 0) 1 21 := ⟨by decide +kernel, rfl⟩
theorem d_X8_change_21 : g_dc cX8_change 21 (.getfield 27) 3 24 := ⟨by decide +kernel, rfl⟩
theorem d_X8_change_24 : g_dc cX8_change 24 (.iload_n 1) 1 25 := ⟨by decide +kernel, rfl⟩
theorem d_X8_change_25 : g_dc cX8_change 25 (.bipush 8) 2 27 := ⟨by decide +kernel, rfl⟩
theorem d_X8_change_27 : g_dc cX8_change 27 (.imul) 1 28 := ⟨by decide +kernel, rfl⟩
theorem d_X8_change_28 : g_dc cX8_change 28 (.iload_n 2) 1 29 := ⟨by decide +kernel, rfl⟩
theorem d_X8_change_29 : g_dc cX8_change 29 (.iadd) 1 30 := ⟨by decide +kernel, rfl⟩
theorem d_X8_change_30 : g_dc cX8_change 30 (.iload_n 3) 1 31 := ⟨by decide +kernel, rfl⟩
theorem d_X8_change_31 : g_dc cX8_change 31 (.iastore) 1 32 := ⟨by decide +kernel, rfl⟩
theorem d_X8_change_32 : g_dc cX8_change 32 (.return_) 1 33 := ⟨by decide +kernel, rfl⟩
set_option maxHeartbeats 4000000 in
set_option maxRecDepth 100000 in
theorem c_X8_change (l : Launch) (X : gX) (t sa : Nat) (len e0 folds told x : Int32) (f : Nat → Int32) (i what v : Int32) : g_Cv l X yX8_change cX8_change 4 2 0 0 [.ref t, .int i, .int what, .int v] [(t, .inr (8, [.int len, .int e0, .int folds, .int told, .int x, .ref sa])), (sa, .inl (X.2.1, 80, .inl f))] (fun w => ∃ g : Nat → Int32, w = [(t, .inr (8, [.int len, .int e0, .int folds, .int told, .int x, .ref sa])), (sa, .inl (X.2.1, 80, .inl g))] ∧ True) := by
  refine g_mv (by decide +kernel) (Nat.le_of_ble_eq_true rfl) (fun E cx hret => ?_)
  refine g_iload_n cx 1 rfl d_X8_change_0 ?_
  refine g_iconst cx 0 (by decide) d_X8_change_1 ?_
  refine g_bipush cx 9 (by decide) d_X8_change_2 ?_
  refine g_cNiW cx [.int i, .int 0, .int 9] [] (c_X10_within l X _ i 0 9) mn_X8_31 yS_X10_within d_X8_change_4 (by unfold g_rr; decide) (by decide) rfl (Nat.le_of_ble_eq_true rfl) (fun r1 w2 h3 => ?_)
  obtain ⟨rfl, rfl⟩ := h3
  refine g_if_eq cx 32 d_X8_change_7 (by decide) (fun zc7 => ?_) (fun zc7 => ?_)
  · exact hret d_X8_change_32 (Nat.le_of_ble_eq_true rfl) (Nat.le_of_ble_eq_true rfl) ⟨_, rfl, trivial⟩
  · refine g_iload_n cx 2 rfl d_X8_change_10 ?_
    refine g_iconst cx 0 (by decide) d_X8_change_11 ?_
    refine g_bipush cx 7 (by decide) d_X8_change_12 ?_
    refine g_cNiW cx [.int what, .int 0, .int 7] [] (c_X10_within l X _ what 0 7) mn_X8_31 yS_X10_within d_X8_change_14 (by unfold g_rr; decide) (by decide) rfl (Nat.le_of_ble_eq_true rfl) (fun r4 w5 h6 => ?_)
    obtain ⟨rfl, rfl⟩ := h6
    refine g_if_eq cx 32 d_X8_change_17 (by decide) (fun zc17 => ?_) (fun zc17 => ?_)
    · exact hret d_X8_change_32 (Nat.le_of_ble_eq_true rfl) (Nat.le_of_ble_eq_true rfl) ⟨_, rfl, trivial⟩
    · refine g_aload_n cx 0 rfl d_X8_change_20 ?_
      refine g_get cx cl_X8 fl_X8_27 0 (.ref sa) d_X8_change_21 rfl rfl ?_
      refine g_iload_n cx 1 rfl d_X8_change_24 ?_
      refine g_bipush cx 8 (by decide) d_X8_change_25 ?_
      refine g_imul cx d_X8_change_27 ?_
      refine g_iload_n cx 2 rfl d_X8_change_28 ?_
      refine g_iadd cx d_X8_change_29 ?_
      refine g_iload_n cx 3 rfl d_X8_change_30 ?_
      refine g_iast cx 1 ([(t, .inr (8, [.int len, .int e0, .int folds, .int told, .int x, .ref sa])), (sa, .inl (X.2.1, 80, .inl (upd f (Int32.toNatClampNeg ((i * 8) + what)) v)))]) d_X8_change_31 rfl (g_side_in (by assumption) (by assumption)) rfl ?_
      exact hret d_X8_change_32 (Nat.le_of_ble_eq_true rfl) (Nat.le_of_ble_eq_true rfl) ⟨_, rfl, trivial⟩
theorem d_X10_table_0 : g_dc cX10_table 0 (.iload_n 1) 1 1 := ⟨by decide +kernel, rfl⟩
theorem d_X10_table_1 : g_dc cX10_table 1 (.bipush 10) 2 3 := ⟨by decide +kernel, rfl⟩
theorem d_X10_table_3 : g_dc cX10_table 3 (.sipush 200) 3 6 := ⟨by decide +kernel, rfl⟩
theorem d_X10_table_6 : g_dc cX10_table 6 (.invokestatic 82) 3 9 := ⟨by decide +kernel, rfl⟩
theorem d_X10_table_9 : g_dc cX10_table 9 (.ifCond .eq 13) 3 12 := ⟨by decide +kernel, rfl⟩
theorem d_X10_table_12 : g_dc cX10_table 12 (.iload_n 2) 1 13 := ⟨by decide +kernel, rfl⟩
theorem d_X10_table_13 : g_dc cX10_table 13 (.iconst 0) 1 14 := ⟨by decide +kernel, rfl⟩
theorem d_X10_table_14 : g_dc cX10_table 14 (.bipush 63) 2 16 := ⟨by decide +kernel, rfl⟩
theorem d_X10_table_16 : g_dc cX10_table 16 (.invokestatic 82) 3 19 := ⟨by decide +kernel, rfl⟩
theorem d_X10_table_19 : g_dc cX10_table 19 (.ifCond .ne 5) 3 22 := ⟨by decide +kernel, rfl⟩
theorem d_X10_table_22 : g_dc cX10_table 22 (.iconst 0) 1 23 := ⟨by decide +kernel, rfl⟩
theorem d_X10_table_23 : g_dc cX10_table 23 (.ireturn) 1 24 := ⟨by decide +kernel, rfl⟩
theorem d_X10_table_24 : g_dc cX10_table 24 (.aload_n 0) 1 25 := ⟨by decide +kernel, rfl⟩
theorem d_X10_table_25 : g_dc cX10_table 25 (.getfield 10) 3 28 := ⟨by decide +kernel, rfl⟩
theorem d_X10_table_28 : g_dc cX10_table 28 (.iload_n 1) 1 29 := ⟨by decide +kernel, rfl⟩
theorem d_X10_table_29 : g_dc cX10_table 29 (.putfield 86) 3 32 := ⟨by decide +kernel, rfl⟩
theorem d_X10_table_32 : g_dc cX10_table 32 (.aload_n 0) 1 33 := ⟨by decide +kernel, rfl⟩
theorem d_X10_table_33 : g_dc cX10_table 33 (.getfield 10) 3 36 := ⟨by decide +kernel, rfl⟩
theorem d_X10_table_36 : g_dc cX10_table 36 (.iload_n 1) 1 37 := ⟨by decide +kernel, rfl⟩
theorem d_X10_table_37 : g_dc cX10_table 37 (.putfield 89) 3 40 := ⟨by decide +kernel, rfl⟩
theorem d_X10_table_40 : g_dc cX10_table 40 (.aload_n 0) 1 41 := ⟨by decide +kernel, rfl⟩
theorem d_X10_table_41 : g_dc cX10_table 41 (.getfield 10) 3 44 := ⟨by decide +kernel, rfl⟩
theorem d_X10_table_44 : g_dc cX10_table 44 (.iload_n 2) 1 45 := ⟨by decide +kernel, rfl⟩
theorem d_X10_table_45 : g_dc cX10_table 45 (.putfield 92) 3 48 := ⟨by decide +kernel, rfl⟩
theorem d_X10_table_48 : g_dc cX10_table 48 (.aload_n 0) 1 49 := ⟨by decide +kernel, rfl⟩
theorem d_X10_table_49 : g_dc cX10_table 49 (.getfield 10) 3 52 := ⟨by decide +kernel, rfl⟩
theorem d_X10_table_52 : g_dc cX10_table 52 (.iconst 0) 1 53 := ⟨by decide +kernel, rfl⟩
theorem d_X10_table_53 : g_dc cX10_table 53 (.putfield 95) 3 56 := ⟨by decide +kernel, rfl⟩
theorem d_X10_table_56 : g_dc cX10_table 56 (.iconst 1) 1 57 := ⟨by decide +kernel, rfl⟩
theorem d_X10_table_57 : g_dc cX10_table 57 (.ireturn) 1 58 := ⟨by decide +kernel, rfl⟩
set_option maxHeartbeats 4000000 in
set_option maxRecDepth 100000 in
theorem c_X10_table (l : Launch) (X : gX) (ad : Nat → Nat) (a b : Int32) : g_Ci l X yX10_table cX10_table 3 (some .boolean) 2 0 0 [.ref (ad 0), .int a, .int b] (wX X ad fX0 r0) (fun r _ => r = S_table a b) := by
  refine g_mi (by decide +kernel) (Nat.le_of_ble_eq_true rfl) (fun E cx hret => ?_)
  refine g_iload_n cx 1 rfl d_X10_table_0 ?_
  refine g_bipush cx 10 (by decide) d_X10_table_1 ?_
  refine g_sipush cx 200 (by decide) d_X10_table_3 ?_
  refine g_cSiW cx [.int a, .int 10, .int 200] [] (c_X10_within l X _ a 10 200) ml_X10_82 yS_X10_within rfl d_X10_table_6 (by unfold g_rr; decide) (by decide) rfl (Nat.le_of_ble_eq_true rfl) (fun r1 w2 h3 => ?_)
  obtain ⟨rfl, rfl⟩ := h3
  refine g_if_eq cx 22 d_X10_table_9 (by decide) (fun zc9 => ?_) (fun zc9 => ?_)
  · refine g_iconst cx 0 (by decide) d_X10_table_22 ?_
    exact hret d_X10_table_23 (Nat.le_of_ble_eq_true rfl) (Nat.le_of_ble_eq_true rfl) rfl (by simp [S_table, *])
  · refine g_iload_n cx 2 rfl d_X10_table_12 ?_
    refine g_iconst cx 0 (by decide) d_X10_table_13 ?_
    refine g_bipush cx 63 (by decide) d_X10_table_14 ?_
    refine g_cSiW cx [.int b, .int 0, .int 63] [] (c_X10_within l X _ b 0 63) ml_X10_82 yS_X10_within rfl d_X10_table_16 (by unfold g_rr; decide) (by decide) rfl (Nat.le_of_ble_eq_true rfl) (fun r4 w5 h6 => ?_)
    obtain ⟨rfl, rfl⟩ := h6
    refine g_if_ne cx 24 d_X10_table_19 (by decide) (fun zc19 => ?_) (fun zc19 => ?_)
    · refine g_aload_n cx 0 rfl d_X10_table_24 ?_
      refine g_get cx cl_X10 fl_X10_10 0 (.ref (ad 1)) d_X10_table_25 rfl rfl ?_
      refine g_iload_n cx 1 rfl d_X10_table_28 ?_
      refine g_putN cx cl_X8 fn_X10_86 1 (wX X ad (upd fX0 16 a) r0) d_X10_table_29 rfl rfl rfl rfl (Nat.le_of_ble_eq_true rfl) rfl ?_
      refine g_aload_n cx 0 rfl d_X10_table_32 ?_
      refine g_get cx cl_X10 fl_X10_10 0 (.ref (ad 1)) d_X10_table_33 rfl rfl ?_
      refine g_iload_n cx 1 rfl d_X10_table_36 ?_
      refine g_putN cx cl_X8 fn_X10_89 1 (wX X ad (upd (upd fX0 16 a) 17 a) r0) d_X10_table_37 rfl rfl rfl rfl (Nat.le_of_ble_eq_true rfl) rfl ?_
      refine g_aload_n cx 0 rfl d_X10_table_40 ?_
      refine g_get cx cl_X10 fl_X10_10 0 (.ref (ad 1)) d_X10_table_41 rfl rfl ?_
      refine g_iload_n cx 2 rfl d_X10_table_44 ?_
      refine g_putN cx cl_X8 fn_X10_92 1 (wX X ad (upd (upd (upd fX0 16 a) 17 a) 18 b) r0) d_X10_table_45 rfl rfl rfl rfl (Nat.le_of_ble_eq_true rfl) rfl ?_
      refine g_aload_n cx 0 rfl d_X10_table_48 ?_
      refine g_get cx cl_X10 fl_X10_10 0 (.ref (ad 1)) d_X10_table_49 rfl rfl ?_
      refine g_iconst cx 0 (by decide) d_X10_table_52 ?_
      refine g_putN cx cl_X8 fn_X10_95 1 (wX X ad (upd (upd (upd (upd fX0 16 a) 17 a) 18 b) 19 0) r0) d_X10_table_53 rfl rfl rfl rfl (Nat.le_of_ble_eq_true rfl) rfl ?_
      refine g_iconst cx 1 (by decide) d_X10_table_56 ?_
      exact hret d_X10_table_57 (Nat.le_of_ble_eq_true rfl) (Nat.le_of_ble_eq_true rfl) rfl (by simp [S_table, *])
    · refine g_iconst cx 0 (by decide) d_X10_table_22 ?_
      exact hret d_X10_table_23 (Nat.le_of_ble_eq_true rfl) (Nat.le_of_ble_eq_true rfl) rfl (by simp [S_table, *])
theorem d_X10_cloth_0 : g_dc cX10_cloth 0 (.iload_n 1) 1 1 := ⟨by decide +kernel, rfl⟩
theorem d_X10_cloth_1 : g_dc cX10_cloth 1 (.iconst 0) 1 2 := ⟨by decide +kernel, rfl⟩
theorem d_X10_cloth_2 : g_dc cX10_cloth 2 (.aload_n 0) 1 3 := ⟨by decide +kernel, rfl⟩
theorem d_X10_cloth_3 : g_dc cX10_cloth 3 (.getfield 10) 3 6 := ⟨by decide +kernel, rfl⟩
theorem d_X10_cloth_6 : g_dc cX10_cloth 6 (.getfield 86) 3 9 := ⟨by decide +kernel, rfl⟩
theorem d_X10_cloth_9 : g_dc cX10_cloth 9 (.invokestatic 82) 3 12 := ⟨by decide +kernel, rfl⟩
theorem d_X10_cloth_12 : g_dc cX10_cloth 12 (.ifCond .ne 5) 3 15 := ⟨by decide +kernel, rfl⟩
theorem d_X10_cloth_15 : g_dc cX10_cloth 15 (.iconst 0) 1 16 := ⟨by decide +kernel, rfl⟩
theorem d_X10_cloth_16 : g_dc cX10_cloth 16 (.ireturn) 1 17 := ⟨by decide +kernel, rfl⟩
theorem d_X10_cloth_17 : g_dc cX10_cloth 17 (.aload_n 0) 1 18 := ⟨by decide +kernel, rfl⟩
theorem d_X10_cloth_18 : g_dc cX10_cloth 18 (.getfield 10) 3 21 := ⟨by decide +kernel, rfl⟩
theorem d_X10_cloth_21 : g_dc cX10_cloth 21 (.iload_n 1) 1 22 := ⟨by decide +kernel, rfl⟩
theorem d_X10_cloth_22 : g_dc cX10_cloth 22 (.putfield 89) 3 25 := ⟨by decide +kernel, rfl⟩
theorem d_X10_cloth_25 : g_dc cX10_cloth 25 (.iconst 1) 1 26 := ⟨by decide +kernel, rfl⟩
theorem d_X10_cloth_26 : g_dc cX10_cloth 26 (.ireturn) 1 27 := ⟨by decide +kernel, rfl⟩
set_option maxHeartbeats 4000000 in
set_option maxRecDepth 100000 in
theorem c_X10_cloth (l : Launch) (X : gX) (ad : Nat → Nat) (a : Int32) : g_Ci l X yX10_cloth cX10_cloth 2 (some .boolean) 2 0 0 [.ref (ad 0), .int a] (wX X ad fX0 r0) (fun r _ => r = S_cloth a) := by
  refine g_mi (by decide +kernel) (Nat.le_of_ble_eq_true rfl) (fun E cx hret => ?_)
  refine g_iload_n cx 1 rfl d_X10_cloth_0 ?_
  refine g_iconst cx 0 (by decide) d_X10_cloth_1 ?_
  refine g_aload_n cx 0 rfl d_X10_cloth_2 ?_
  refine g_get cx cl_X10 fl_X10_10 0 (.ref (ad 1)) d_X10_cloth_3 rfl rfl ?_
  refine g_getN cx cl_X8 fn_X10_86 1 (.int 100) d_X10_cloth_6 rfl rfl ?_
  refine g_cSiW cx [.int a, .int 0, .int 100] [] (c_X10_within l X _ a 0 100) ml_X10_82 yS_X10_within rfl d_X10_cloth_9 (by unfold g_rr; decide) (by decide) rfl (Nat.le_of_ble_eq_true rfl) (fun r1 w2 h3 => ?_)
  obtain ⟨rfl, rfl⟩ := h3
  refine g_if_ne cx 17 d_X10_cloth_12 (by decide) (fun zc12 => ?_) (fun zc12 => ?_)
  · refine g_aload_n cx 0 rfl d_X10_cloth_17 ?_
    refine g_get cx cl_X10 fl_X10_10 0 (.ref (ad 1)) d_X10_cloth_18 rfl rfl ?_
    refine g_iload_n cx 1 rfl d_X10_cloth_21 ?_
    refine g_putN cx cl_X8 fn_X10_89 1 (wX X ad (upd fX0 17 a) r0) d_X10_cloth_22 rfl rfl rfl rfl (Nat.le_of_ble_eq_true rfl) rfl ?_
    refine g_iconst cx 1 (by decide) d_X10_cloth_25 ?_
    exact hret d_X10_cloth_26 (Nat.le_of_ble_eq_true rfl) (Nat.le_of_ble_eq_true rfl) rfl (by simp [S_cloth, *])
  · refine g_iconst cx 0 (by decide) d_X10_cloth_15 ?_
    exact hret d_X10_cloth_16 (Nat.le_of_ble_eq_true rfl) (Nat.le_of_ble_eq_true rfl) rfl (by simp [S_cloth, *])
theorem d_X10_thing_0 : g_dc cX10_thing 0 (.iload_n 1) 1 1 := ⟨by decide +kernel, rfl⟩
theorem d_X10_thing_1 : g_dc cX10_thing 1 (.iconst 0) 1 2 := ⟨by decide +kernel, rfl⟩
theorem d_X10_thing_2 : g_dc cX10_thing 2 (.bipush 9) 2 4 := ⟨by decide +kernel, rfl⟩
theorem d_X10_thing_4 : g_dc cX10_thing 4 (.invokestatic 82) 3 7 := ⟨by decide +kernel, rfl⟩
theorem d_X10_thing_7 : g_dc cX10_thing 7 (.ifCond .eq 66) 3 10 := ⟨by decide +kernel, rfl⟩
theorem d_X10_thing_10 : g_dc cX10_thing 10 (.iload_n 2) 1 11 := ⟨by decide +kernel, rfl⟩
theorem d_X10_thing_11 : g_dc cX10_thing 11 (.iconst 0) 1 12 := ⟨by decide +kernel, rfl⟩
theorem d_X10_thing_12 : g_dc cX10_thing 12 (.iconst 3) 1 13 := ⟨by decide +kernel, rfl⟩
theorem d_X10_thing_13 : g_dc cX10_thing 13 (.invokestatic 82) 3 16 := ⟨by decide +kernel, rfl⟩
theorem d_X10_thing_16 : g_dc cX10_thing 16 (.ifCond .eq 57) 3 19 := ⟨by decide +kernel, rfl⟩
theorem d_X10_thing_19 : g_dc cX10_thing 19 (.iload_n 3) 1 20 := ⟨by decide +kernel, rfl⟩
theorem d_X10_thing_20 : g_dc cX10_thing 20 (.iconst 0) 1 21 := ⟨by decide +kernel, rfl⟩
theorem d_X10_thing_21 : g_dc cX10_thing 21 (.aload_n 0) 1 22 := ⟨by decide +kernel, rfl⟩
theorem d_X10_thing_22 : g_dc cX10_thing 22 (.getfield 10) 3 25 := ⟨by decide +kernel, rfl⟩
theorem d_X10_thing_25 : g_dc cX10_thing 25 (.getfield 86) 3 28 := ⟨by decide +kernel, rfl⟩
theorem d_X10_thing_28 : g_dc cX10_thing 28 (.iconst 1) 1 29 := ⟨by decide +kernel, rfl⟩
theorem d_X10_thing_29 : g_dc cX10_thing 29 (.isub) 1 30 := ⟨by decide +kernel, rfl⟩
theorem d_X10_thing_30 : g_dc cX10_thing 30 (.invokestatic 82) 3 33 := ⟨by decide +kernel, rfl⟩
theorem d_X10_thing_33 : g_dc cX10_thing 33 (.ifCond .eq 40) 3 36 := ⟨by decide +kernel, rfl⟩
theorem d_X10_thing_36 : g_dc cX10_thing 36 (.iload 4) 2 38 := ⟨by decide +kernel, rfl⟩
theorem d_X10_thing_38 : g_dc cX10_thing 38 (.iconst 1) 1 39 := ⟨by decide +kernel, rfl⟩
theorem d_X10_thing_39 : g_dc cX10_thing 39 (.bipush 40) 2 41 := ⟨by decide +kernel, rfl⟩
theorem d_X10_thing_41 : g_dc cX10_thing 41 (.invokestatic 82) 3 44 := ⟨by decide +kernel, rfl⟩
theorem d_X10_thing_44 : g_dc cX10_thing 44 (.ifCond .eq 29) 3 47 := ⟨by decide +kernel, rfl⟩
theorem d_X10_thing_47 : g_dc cX10_thing 47 (.iload 5) 2 49 := ⟨by decide +kernel, rfl⟩
theorem d_X10_thing_49 : g_dc cX10_thing 49 (.iconst 1) 1 50 := ⟨by decide +kernel, rfl⟩
theorem d_X10_thing_50 : g_dc cX10_thing 50 (.bipush 60) 2 52 := ⟨by decide +kernel, rfl⟩
theorem d_X10_thing_52 : g_dc cX10_thing 52 (.invokestatic 82) 3 55 := ⟨by decide +kernel, rfl⟩
theorem d_X10_thing_55 : g_dc cX10_thing 55 (.ifCond .eq 18) 3 58 := ⟨by decide +kernel, rfl⟩
theorem d_X10_thing_58 : g_dc cX10_thing 58 (.iload 6) 2 60 := ⟨by decide +kernel, rfl⟩
theorem d_X10_thing_60 : g_dc cX10_thing 60 (.iconst 1) 1 61 := ⟨by decide +kernel, rfl⟩
theorem d_X10_thing_61 : g_dc cX10_thing 61 (.bipush 99) 2 63 := ⟨by decide +kernel, rfl⟩
theorem d_X10_thing_63 : g_dc cX10_thing 63 (.invokestatic 82) 3 66 := ⟨by decide +kernel, rfl⟩
theorem d_X10_thing_66 : g_dc cX10_thing 66 (.ifCond .eq 7) 3 69 := ⟨by decide +kernel, rfl⟩
theorem d_X10_thing_69 : g_dc cX10_thing 69 (.iconst 1) 1 70 := ⟨by decide +kernel, rfl⟩
theorem d_X10_thing_70 : g_dc cX10_thing 70 (.goto 4) 3 73 := ⟨by decide +kernel, rfl⟩
theorem d_X10_thing_73 : g_dc cX10_thing 73 (.iconst 0) 1 74 := ⟨by decide +kernel, rfl⟩
theorem d_X10_thing_74 : g_dc cX10_thing 74 (.istore 7) 2 76 := ⟨by decide +kernel, rfl⟩
theorem d_X10_thing_76 : g_dc cX10_thing 76 (.iload 7) 2 78 := ⟨by decide +kernel, rfl⟩
theorem d_X10_thing_78 : g_dc cX10_thing 78 (.ifCond .ne 5) 3 81 := ⟨by decide +kernel, rfl⟩
theorem d_X10_thing_81 : g_dc cX10_thing 81 (.iconst 0) 1 82 := ⟨by decide +kernel, rfl⟩
theorem d_X10_thing_82 : g_dc cX10_thing 82 (.ireturn) 1 83 := ⟨by decide +kernel, rfl⟩
theorem d_X10_thing_83 : g_dc cX10_thing 83 (.aload_n 0) 1 84 := ⟨by decide +kernel, rfl⟩
theorem d_X10_thing_84 : g_dc cX10_thing 84 (.getfield 10) 3 87 := ⟨by decide +kernel, rfl⟩
theorem d_X10_thing_87 : g_dc cX10_thing 87 (.dup) 1 88 := ⟨by decide +kernel, rfl⟩
theorem d_X10_thing_88 : g_dc cX10_thing 88 (.getfield 95) 3 91 := ⟨by decide +kernel, rfl⟩
theorem d_X10_thing_91 : g_dc cX10_thing 91 (.iconst 1) 1 92 := ⟨by decide +kernel, rfl⟩
theorem d_X10_thing_92 : g_dc cX10_thing 92 (.iload_n 1) 1 93 := ⟨by decide +kernel, rfl⟩
theorem d_X10_thing_93 : g_dc cX10_thing 93 (.ishl) 1 94 := ⟨by decide +kernel, rfl⟩
theorem d_X10_thing_94 : g_dc cX10_thing 94 (.ior) 1 95 := ⟨by decide +kernel, rfl⟩
theorem d_X10_thing_95 : g_dc cX10_thing 95 (.putfield 95) 3 98 := ⟨by decide +kernel, rfl⟩
theorem d_X10_thing_98 : g_dc cX10_thing 98 (.aload_n 0) 1 99 := ⟨by decide +kernel, rfl⟩
theorem d_X10_thing_99 : g_dc cX10_thing 99 (.getfield 10) 3 102 := ⟨by decide +kernel, rfl⟩
theorem d_X10_thing_102 : g_dc cX10_thing 102 (.iload_n 1) 1 103 := ⟨by decide +kernel, rfl⟩
theorem d_X10_thing_103 : g_dc cX10_thing 103 (.iconst 0) 1 104 := ⟨by decide +kernel, rfl⟩
theorem d_X10_thing_104 : g_dc cX10_thing 104 (.iload_n 2) 1 105 := ⟨by decide +kernel, rfl⟩
theorem d_X10_thing_105 : g_dc cX10_thing 105 (.invokevirtual 98) 3 108 := ⟨by decide +kernel, rfl⟩
theorem d_X10_thing_108 : g_dc cX10_thing 108 (.aload_n 0) 1 109 := ⟨by decide +kernel, rfl⟩
theorem d_X10_thing_109 : g_dc cX10_thing 109 (.getfield 10) 3 112 := ⟨by decide +kernel, rfl⟩
theorem d_X10_thing_112 : g_dc cX10_thing 112 (.iload_n 1) 1 113 := ⟨by decide +kernel, rfl⟩
theorem d_X10_thing_113 : g_dc cX10_thing 113 (.iconst 1) 1 114 := ⟨by decide +kernel, rfl⟩
theorem d_X10_thing_114 : g_dc cX10_thing 114 (.iload_n 3) 1 115 := ⟨by decide +kernel, rfl⟩
theorem d_X10_thing_115 : g_dc cX10_thing 115 (.invokevirtual 98) 3 118 := ⟨by decide +kernel, rfl⟩
theorem d_X10_thing_118 : g_dc cX10_thing 118 (.aload_n 0) 1 119 := ⟨by decide +kernel, rfl⟩
theorem d_X10_thing_119 : g_dc cX10_thing 119 (.getfield 10) 3 122 := ⟨by decide +kernel, rfl⟩
theorem d_X10_thing_122 : g_dc cX10_thing 122 (.iload_n 1) 1 123 := ⟨by decide +kernel, rfl⟩
theorem d_X10_thing_123 : g_dc cX10_thing 123 (.iconst 2) 1 124 := ⟨by decide +kernel, rfl⟩
theorem d_X10_thing_124 : g_dc cX10_thing 124 (.iload 4) 2 126 := ⟨by decide +kernel, rfl⟩
theorem d_X10_thing_126 : g_dc cX10_thing 126 (.invokevirtual 98) 3 129 := ⟨by decide +kernel, rfl⟩
theorem d_X10_thing_129 : g_dc cX10_thing 129 (.aload_n 0) 1 130 := ⟨by decide +kernel, rfl⟩
theorem d_X10_thing_130 : g_dc cX10_thing 130 (.getfield 10) 3 133 := ⟨by decide +kernel, rfl⟩
theorem d_X10_thing_133 : g_dc cX10_thing 133 (.iload_n 1) 1 134 := ⟨by decide +kernel, rfl⟩
theorem d_X10_thing_134 : g_dc cX10_thing 134 (.iconst 3) 1 135 := ⟨by decide +kernel, rfl⟩
theorem d_X10_thing_135 : g_dc cX10_thing 135 (.iload 5) 2 137 := ⟨by decide +kernel, rfl⟩
theorem d_X10_thing_137 : g_dc cX10_thing 137 (.invokevirtual 98) 3 140 := ⟨by decide +kernel, rfl⟩
theorem d_X10_thing_140 : g_dc cX10_thing 140 (.aload_n 0) 1 141 := ⟨by decide +kernel, rfl⟩
theorem d_X10_thing_141 : g_dc cX10_thing 141 (.getfield 10) 3 144 := ⟨by decide +kernel, rfl⟩
theorem d_X10_thing_144 : g_dc cX10_thing 144 (.iload_n 1) 1 145 := ⟨by decide +kernel, rfl⟩
theorem d_X10_thing_145 : g_dc cX10_thing 145 (.iconst 4) 1 146 := ⟨by decide +kernel, rfl⟩
theorem d_X10_thing_146 : g_dc cX10_thing 146 (.iload 6) 2 148 := ⟨by decide +kernel, rfl⟩
theorem d_X10_thing_148 : g_dc cX10_thing 148 (.invokevirtual 98) 3 151 := ⟨by decide +kernel, rfl⟩
theorem d_X10_thing_151 : g_dc cX10_thing 151 (.aload_n 0) 1 152 := ⟨by decide +kernel, rfl⟩
theorem d_X10_thing_152 : g_dc cX10_thing 152 (.getfield 10) 3 155 := ⟨by decide +kernel, rfl⟩
theorem d_X10_thing_155 : g_dc cX10_thing 155 (.iload_n 1) 1 156 := ⟨by decide +kernel, rfl⟩
theorem d_X10_thing_156 : g_dc cX10_thing 156 (.iconst 5) 1 157 := ⟨by decide +kernel, rfl⟩
theorem d_X10_thing_157 : g_dc cX10_thing 157 (.iconst 0) 1 158 := ⟨by decide +kernel, rfl⟩
theorem d_X10_thing_158 : g_dc cX10_thing 158 (.invokevirtual 98) 3 161 := ⟨by decide +kernel, rfl⟩
theorem d_X10_thing_161 : g_dc cX10_thing 161 (.aload_n 0) 1 162 := ⟨by decide +kernel, rfl⟩
theorem d_X10_thing_162 : g_dc cX10_thing 162 (.getfield 10) 3 165 := ⟨by decide +kernel, rfl⟩
theorem d_X10_thing_165 : g_dc cX10_thing 165 (.iload_n 1) 1 166 := ⟨by decide +kernel, rfl⟩
theorem d_X10_thing_166 : g_dc cX10_thing 166 (.bipush 6) 2 168 := ⟨by decide +kernel, rfl⟩
theorem d_X10_thing_168 : g_dc cX10_thing 168 (.iconst 0) 1 169 := ⟨by decide +kernel, rfl⟩
theorem d_X10_thing_169 : g_dc cX10_thing 169 (.invokevirtual 98) 3 172 := ⟨by decide +kernel, rfl⟩
theorem d_X10_thing_172 : g_dc cX10_thing 172 (.aload_n 0) 1 173 := ⟨by decide +kernel, rfl⟩
theorem d_X10_thing_173 : g_dc cX10_thing 173 (.getfield 10) 3 176 := ⟨by decide +kernel, rfl⟩
theorem d_X10_thing_176 : g_dc cX10_thing 176 (.iload_n 1) 1 177 := ⟨by decide +kernel, rfl⟩
theorem d_X10_thing_177 : g_dc cX10_thing 177 (.bipush 7) 2 179 := ⟨by decide +kernel, rfl⟩
theorem d_X10_thing_179 : g_dc cX10_thing 179 (.iconst 0) 1 180 := ⟨by decide +kernel, rfl⟩
theorem d_X10_thing_180 : g_dc cX10_thing 180 (.invokevirtual 98) 3 183 := ⟨by decide +kernel, rfl⟩
theorem d_X10_thing_183 : g_dc cX10_thing 183 (.iconst 1) 1 184 := ⟨by decide +kernel, rfl⟩
theorem d_X10_thing_184 : g_dc cX10_thing 184 (.ireturn) 1 185 := ⟨by decide +kernel, rfl⟩
set_option maxHeartbeats 4000000 in
set_option maxRecDepth 100000 in
theorem c_X10_thing (l : Launch) (X : gX) (ad : Nat → Nat) (a b c d e f : Int32) : g_Ci l X yX10_thing cX10_thing 8 (some .boolean) 3 0 0 [.ref (ad 0), .int a, .int b, .int c, .int d, .int e, .int f] (wX X ad fX0 r0) (fun r _ => r = S_thing a b c d e f) := by
  refine g_mi (by decide +kernel) (Nat.le_of_ble_eq_true rfl) (fun E cx hret => ?_)
  refine g_iload_n cx 1 rfl d_X10_thing_0 ?_
  refine g_iconst cx 0 (by decide) d_X10_thing_1 ?_
  refine g_bipush cx 9 (by decide) d_X10_thing_2 ?_
  refine g_cSiW cx [.int a, .int 0, .int 9] [] (c_X10_within l X _ a 0 9) ml_X10_82 yS_X10_within rfl d_X10_thing_4 (by unfold g_rr; decide) (by decide) rfl (Nat.le_of_ble_eq_true rfl) (fun r1 w2 h3 => ?_)
  obtain ⟨rfl, rfl⟩ := h3
  refine g_if_eq cx 73 d_X10_thing_7 (by decide) (fun zc7 => ?_) (fun zc7 => ?_)
  · refine g_iconst cx 0 (by decide) d_X10_thing_73 ?_
    refine g_istore cx [(7, .int 0), (0, .ref (ad 0)), (1, .int a), (2, .int b), (3, .int c), (4, .int d), (5, .int e), (6, .int f)] d_X10_thing_74 (by decide) rfl ?_
    refine g_iload cx 0 rfl d_X10_thing_76 ?_
    refine g_if_ne_f cx 83 d_X10_thing_78 (by decide) (by decide) ?_
    refine g_iconst cx 0 (by decide) d_X10_thing_81 ?_
    exact hret d_X10_thing_82 (Nat.le_of_ble_eq_true rfl) (Nat.le_of_ble_eq_true rfl) rfl (by simp [S_thing, *])
  · refine g_iload_n cx 2 rfl d_X10_thing_10 ?_
    refine g_iconst cx 0 (by decide) d_X10_thing_11 ?_
    refine g_iconst cx 3 (by decide) d_X10_thing_12 ?_
    refine g_cSiW cx [.int b, .int 0, .int 3] [] (c_X10_within l X _ b 0 3) ml_X10_82 yS_X10_within rfl d_X10_thing_13 (by unfold g_rr; decide) (by decide) rfl (Nat.le_of_ble_eq_true rfl) (fun r4 w5 h6 => ?_)
    obtain ⟨rfl, rfl⟩ := h6
    refine g_if_eq cx 73 d_X10_thing_16 (by decide) (fun zc16 => ?_) (fun zc16 => ?_)
    · refine g_iconst cx 0 (by decide) d_X10_thing_73 ?_
      refine g_istore cx [(7, .int 0), (0, .ref (ad 0)), (1, .int a), (2, .int b), (3, .int c), (4, .int d), (5, .int e), (6, .int f)] d_X10_thing_74 (by decide) rfl ?_
      refine g_iload cx 0 rfl d_X10_thing_76 ?_
      refine g_if_ne_f cx 83 d_X10_thing_78 (by decide) (by decide) ?_
      refine g_iconst cx 0 (by decide) d_X10_thing_81 ?_
      exact hret d_X10_thing_82 (Nat.le_of_ble_eq_true rfl) (Nat.le_of_ble_eq_true rfl) rfl (by simp [S_thing, *])
    · refine g_iload_n cx 3 rfl d_X10_thing_19 ?_
      refine g_iconst cx 0 (by decide) d_X10_thing_20 ?_
      refine g_aload_n cx 0 rfl d_X10_thing_21 ?_
      refine g_get cx cl_X10 fl_X10_10 0 (.ref (ad 1)) d_X10_thing_22 rfl rfl ?_
      refine g_getN cx cl_X8 fn_X10_86 1 (.int 100) d_X10_thing_25 rfl rfl ?_
      refine g_iconst cx 1 (by decide) d_X10_thing_28 ?_
      refine g_isub cx d_X10_thing_29 ?_
      refine g_toi 99 (by decide) ?_
      refine g_cSiW cx [.int c, .int 0, .int 99] [] (c_X10_within l X _ c 0 99) ml_X10_82 yS_X10_within rfl d_X10_thing_30 (by unfold g_rr; decide) (by decide) rfl (Nat.le_of_ble_eq_true rfl) (fun r7 w8 h9 => ?_)
      obtain ⟨rfl, rfl⟩ := h9
      refine g_if_eq cx 73 d_X10_thing_33 (by decide) (fun zc33 => ?_) (fun zc33 => ?_)
      · refine g_iconst cx 0 (by decide) d_X10_thing_73 ?_
        refine g_istore cx [(7, .int 0), (0, .ref (ad 0)), (1, .int a), (2, .int b), (3, .int c), (4, .int d), (5, .int e), (6, .int f)] d_X10_thing_74 (by decide) rfl ?_
        refine g_iload cx 0 rfl d_X10_thing_76 ?_
        refine g_if_ne_f cx 83 d_X10_thing_78 (by decide) (by decide) ?_
        refine g_iconst cx 0 (by decide) d_X10_thing_81 ?_
        exact hret d_X10_thing_82 (Nat.le_of_ble_eq_true rfl) (Nat.le_of_ble_eq_true rfl) rfl (by simp [S_thing, *])
      · refine g_iload cx 4 rfl d_X10_thing_36 ?_
        refine g_iconst cx 1 (by decide) d_X10_thing_38 ?_
        refine g_bipush cx 40 (by decide) d_X10_thing_39 ?_
        refine g_cSiW cx [.int d, .int 1, .int 40] [] (c_X10_within l X _ d 1 40) ml_X10_82 yS_X10_within rfl d_X10_thing_41 (by unfold g_rr; decide) (by decide) rfl (Nat.le_of_ble_eq_true rfl) (fun r10 w11 h12 => ?_)
        obtain ⟨rfl, rfl⟩ := h12
        refine g_if_eq cx 73 d_X10_thing_44 (by decide) (fun zc44 => ?_) (fun zc44 => ?_)
        · refine g_iconst cx 0 (by decide) d_X10_thing_73 ?_
          refine g_istore cx [(7, .int 0), (0, .ref (ad 0)), (1, .int a), (2, .int b), (3, .int c), (4, .int d), (5, .int e), (6, .int f)] d_X10_thing_74 (by decide) rfl ?_
          refine g_iload cx 0 rfl d_X10_thing_76 ?_
          refine g_if_ne_f cx 83 d_X10_thing_78 (by decide) (by decide) ?_
          refine g_iconst cx 0 (by decide) d_X10_thing_81 ?_
          exact hret d_X10_thing_82 (Nat.le_of_ble_eq_true rfl) (Nat.le_of_ble_eq_true rfl) rfl (by simp [S_thing, *])
        · refine g_iload cx 5 rfl d_X10_thing_47 ?_
          refine g_iconst cx 1 (by decide) d_X10_thing_49 ?_
          refine g_bipush cx 60 (by decide) d_X10_thing_50 ?_
          refine g_cSiW cx [.int e, .int 1, .int 60] [] (c_X10_within l X _ e 1 60) ml_X10_82 yS_X10_within rfl d_X10_thing_52 (by unfold g_rr; decide) (by decide) rfl (Nat.le_of_ble_eq_true rfl) (fun r13 w14 h15 => ?_)
          obtain ⟨rfl, rfl⟩ := h15
          refine g_if_eq cx 73 d_X10_thing_55 (by decide) (fun zc55 => ?_) (fun zc55 => ?_)
          · refine g_iconst cx 0 (by decide) d_X10_thing_73 ?_
            refine g_istore cx [(7, .int 0), (0, .ref (ad 0)), (1, .int a), (2, .int b), (3, .int c), (4, .int d), (5, .int e), (6, .int f)] d_X10_thing_74 (by decide) rfl ?_
            refine g_iload cx 0 rfl d_X10_thing_76 ?_
            refine g_if_ne_f cx 83 d_X10_thing_78 (by decide) (by decide) ?_
            refine g_iconst cx 0 (by decide) d_X10_thing_81 ?_
            exact hret d_X10_thing_82 (Nat.le_of_ble_eq_true rfl) (Nat.le_of_ble_eq_true rfl) rfl (by simp [S_thing, *])
          · refine g_iload cx 6 rfl d_X10_thing_58 ?_
            refine g_iconst cx 1 (by decide) d_X10_thing_60 ?_
            refine g_bipush cx 99 (by decide) d_X10_thing_61 ?_
            refine g_cSiW cx [.int f, .int 1, .int 99] [] (c_X10_within l X _ f 1 99) ml_X10_82 yS_X10_within rfl d_X10_thing_63 (by unfold g_rr; decide) (by decide) rfl (Nat.le_of_ble_eq_true rfl) (fun r16 w17 h18 => ?_)
            obtain ⟨rfl, rfl⟩ := h18
            refine g_if_eq cx 73 d_X10_thing_66 (by decide) (fun zc66 => ?_) (fun zc66 => ?_)
            · refine g_iconst cx 0 (by decide) d_X10_thing_73 ?_
              refine g_istore cx [(7, .int 0), (0, .ref (ad 0)), (1, .int a), (2, .int b), (3, .int c), (4, .int d), (5, .int e), (6, .int f)] d_X10_thing_74 (by decide) rfl ?_
              refine g_iload cx 0 rfl d_X10_thing_76 ?_
              refine g_if_ne_f cx 83 d_X10_thing_78 (by decide) (by decide) ?_
              refine g_iconst cx 0 (by decide) d_X10_thing_81 ?_
              exact hret d_X10_thing_82 (Nat.le_of_ble_eq_true rfl) (Nat.le_of_ble_eq_true rfl) rfl (by simp [S_thing, *])
            · refine g_iconst cx 1 (by decide) d_X10_thing_69 ?_
              refine g_goto cx 74 d_X10_thing_70 (by decide) ?_
              refine g_istore cx [(7, .int 1), (0, .ref (ad 0)), (1, .int a), (2, .int b), (3, .int c), (4, .int d), (5, .int e), (6, .int f)] d_X10_thing_74 (by decide) rfl ?_
              refine g_iload cx 0 rfl d_X10_thing_76 ?_
              refine g_if_ne_t cx 83 d_X10_thing_78 (by decide) (by decide) ?_
              refine g_aload_n cx 1 rfl d_X10_thing_83 ?_
              refine g_get cx cl_X10 fl_X10_10 0 (.ref (ad 1)) d_X10_thing_84 rfl rfl ?_
              refine g_dup cx rfl d_X10_thing_87 ?_
              refine g_getN cx cl_X8 fn_X10_95 1 (.int 0) d_X10_thing_88 rfl rfl ?_
              refine g_iconst cx 1 (by decide) d_X10_thing_91 ?_
              refine g_iload_n cx 2 rfl d_X10_thing_92 ?_
              refine g_ishl cx d_X10_thing_93 ?_
              refine g_ior cx d_X10_thing_94 ?_
              refine g_toi (1 <<< (a &&& 31)) (by simp) ?_
              refine g_putN cx cl_X8 fn_X10_95 1 (wX X ad (upd fX0 19 (1 <<< (a &&& 31))) r0) d_X10_thing_95 rfl rfl rfl rfl (Nat.le_of_ble_eq_true rfl) rfl ?_
              refine g_aload_n cx 1 rfl d_X10_thing_98 ?_
              refine g_get cx cl_X10 fl_X10_10 0 (.ref (ad 1)) d_X10_thing_99 rfl rfl ?_
              refine g_iload_n cx 2 rfl d_X10_thing_102 ?_
              refine g_iconst cx 0 (by decide) d_X10_thing_103 ?_
              refine g_iload_n cx 3 rfl d_X10_thing_104 ?_
              refine g_cVv cx [.int a, .int 0, .int b] [] (c_X8_change l X (ad 1) (ad 2) 100 100 0 (1 <<< (a &&& 31)) 1 (r0 2) a 0 b) ml_X10_98 yV_X8_change d_X10_thing_105 (by unfold g_rr; decide) (by decide) 0 rfl rfl [1, 2] rfl (by decide) rfl (Nat.le_of_ble_eq_true rfl) (by rintro _ ⟨_, rfl, _⟩; rfl) (fun w20 h21 => ?_)
              obtain ⟨g22, rfl, -⟩ := h21
              refine g_weq (wX X ad (upd fX0 19 (1 <<< (a &&& 31))) (g_u r0 2 g22)) rfl ?_
              refine g_aload_n cx 1 rfl d_X10_thing_108 ?_
              refine g_get cx cl_X10 fl_X10_10 0 (.ref (ad 1)) d_X10_thing_109 rfl rfl ?_
              refine g_iload_n cx 2 rfl d_X10_thing_112 ?_
              refine g_iconst cx 1 (by decide) d_X10_thing_113 ?_
              refine g_iload_n cx 4 rfl d_X10_thing_114 ?_
              refine g_cVv cx [.int a, .int 1, .int c] [] (c_X8_change l X (ad 1) (ad 2) 100 100 0 (1 <<< (a &&& 31)) 1 g22 a 1 c) ml_X10_98 yV_X8_change d_X10_thing_115 (by unfold g_rr; decide) (by decide) 0 rfl rfl [1, 2] rfl (by decide) rfl (Nat.le_of_ble_eq_true rfl) (by rintro _ ⟨_, rfl, _⟩; rfl) (fun w24 h25 => ?_)
              obtain ⟨g26, rfl, -⟩ := h25
              refine g_weq (wX X ad (upd fX0 19 (1 <<< (a &&& 31))) (g_u r0 2 g26)) rfl ?_
              refine g_aload_n cx 1 rfl d_X10_thing_118 ?_
              refine g_get cx cl_X10 fl_X10_10 0 (.ref (ad 1)) d_X10_thing_119 rfl rfl ?_
              refine g_iload_n cx 2 rfl d_X10_thing_122 ?_
              refine g_iconst cx 2 (by decide) d_X10_thing_123 ?_
              refine g_iload cx 5 rfl d_X10_thing_124 ?_
              refine g_cVv cx [.int a, .int 2, .int d] [] (c_X8_change l X (ad 1) (ad 2) 100 100 0 (1 <<< (a &&& 31)) 1 g26 a 2 d) ml_X10_98 yV_X8_change d_X10_thing_126 (by unfold g_rr; decide) (by decide) 0 rfl rfl [1, 2] rfl (by decide) rfl (Nat.le_of_ble_eq_true rfl) (by rintro _ ⟨_, rfl, _⟩; rfl) (fun w28 h29 => ?_)
              obtain ⟨g30, rfl, -⟩ := h29
              refine g_weq (wX X ad (upd fX0 19 (1 <<< (a &&& 31))) (g_u r0 2 g30)) rfl ?_
              refine g_aload_n cx 1 rfl d_X10_thing_129 ?_
              refine g_get cx cl_X10 fl_X10_10 0 (.ref (ad 1)) d_X10_thing_130 rfl rfl ?_
              refine g_iload_n cx 2 rfl d_X10_thing_133 ?_
              refine g_iconst cx 3 (by decide) d_X10_thing_134 ?_
              refine g_iload cx 6 rfl d_X10_thing_135 ?_
              refine g_cVv cx [.int a, .int 3, .int e] [] (c_X8_change l X (ad 1) (ad 2) 100 100 0 (1 <<< (a &&& 31)) 1 g30 a 3 e) ml_X10_98 yV_X8_change d_X10_thing_137 (by unfold g_rr; decide) (by decide) 0 rfl rfl [1, 2] rfl (by decide) rfl (Nat.le_of_ble_eq_true rfl) (by rintro _ ⟨_, rfl, _⟩; rfl) (fun w32 h33 => ?_)
              obtain ⟨g34, rfl, -⟩ := h33
              refine g_weq (wX X ad (upd fX0 19 (1 <<< (a &&& 31))) (g_u r0 2 g34)) rfl ?_
              refine g_aload_n cx 1 rfl d_X10_thing_140 ?_
              refine g_get cx cl_X10 fl_X10_10 0 (.ref (ad 1)) d_X10_thing_141 rfl rfl ?_
              refine g_iload_n cx 2 rfl d_X10_thing_144 ?_
              refine g_iconst cx 4 (by decide) d_X10_thing_145 ?_
              refine g_iload cx 7 rfl d_X10_thing_146 ?_
              refine g_cVv cx [.int a, .int 4, .int f] [] (c_X8_change l X (ad 1) (ad 2) 100 100 0 (1 <<< (a &&& 31)) 1 g34 a 4 f) ml_X10_98 yV_X8_change d_X10_thing_148 (by unfold g_rr; decide) (by decide) 0 rfl rfl [1, 2] rfl (by decide) rfl (Nat.le_of_ble_eq_true rfl) (by rintro _ ⟨_, rfl, _⟩; rfl) (fun w36 h37 => ?_)
              obtain ⟨g38, rfl, -⟩ := h37
              refine g_weq (wX X ad (upd fX0 19 (1 <<< (a &&& 31))) (g_u r0 2 g38)) rfl ?_
              refine g_aload_n cx 1 rfl d_X10_thing_151 ?_
              refine g_get cx cl_X10 fl_X10_10 0 (.ref (ad 1)) d_X10_thing_152 rfl rfl ?_
              refine g_iload_n cx 2 rfl d_X10_thing_155 ?_
              refine g_iconst cx 5 (by decide) d_X10_thing_156 ?_
              refine g_iconst cx 0 (by decide) d_X10_thing_157 ?_
              refine g_cVv cx [.int a, .int 5, .int 0] [] (c_X8_change l X (ad 1) (ad 2) 100 100 0 (1 <<< (a &&& 31)) 1 g38 a 5 0) ml_X10_98 yV_X8_change d_X10_thing_158 (by unfold g_rr; decide) (by decide) 0 rfl rfl [1, 2] rfl (by decide) rfl (Nat.le_of_ble_eq_true rfl) (by rintro _ ⟨_, rfl, _⟩; rfl) (fun w40 h41 => ?_)
              obtain ⟨g42, rfl, -⟩ := h41
              refine g_weq (wX X ad (upd fX0 19 (1 <<< (a &&& 31))) (g_u r0 2 g42)) rfl ?_
              refine g_aload_n cx 1 rfl d_X10_thing_161 ?_
              refine g_get cx cl_X10 fl_X10_10 0 (.ref (ad 1)) d_X10_thing_162 rfl rfl ?_
              refine g_iload_n cx 2 rfl d_X10_thing_165 ?_
              refine g_bipush cx 6 (by decide) d_X10_thing_166 ?_
              refine g_iconst cx 0 (by decide) d_X10_thing_168 ?_
              refine g_cVv cx [.int a, .int 6, .int 0] [] (c_X8_change l X (ad 1) (ad 2) 100 100 0 (1 <<< (a &&& 31)) 1 g42 a 6 0) ml_X10_98 yV_X8_change d_X10_thing_169 (by unfold g_rr; decide) (by decide) 0 rfl rfl [1, 2] rfl (by decide) rfl (Nat.le_of_ble_eq_true rfl) (by rintro _ ⟨_, rfl, _⟩; rfl) (fun w44 h45 => ?_)
              obtain ⟨g46, rfl, -⟩ := h45
              refine g_weq (wX X ad (upd fX0 19 (1 <<< (a &&& 31))) (g_u r0 2 g46)) rfl ?_
              refine g_aload_n cx 1 rfl d_X10_thing_172 ?_
              refine g_get cx cl_X10 fl_X10_10 0 (.ref (ad 1)) d_X10_thing_173 rfl rfl ?_
              refine g_iload_n cx 2 rfl d_X10_thing_176 ?_
              refine g_bipush cx 7 (by decide) d_X10_thing_177 ?_
              refine g_iconst cx 0 (by decide) d_X10_thing_179 ?_
              refine g_cVv cx [.int a, .int 7, .int 0] [] (c_X8_change l X (ad 1) (ad 2) 100 100 0 (1 <<< (a &&& 31)) 1 g46 a 7 0) ml_X10_98 yV_X8_change d_X10_thing_180 (by unfold g_rr; decide) (by decide) 0 rfl rfl [1, 2] rfl (by decide) rfl (Nat.le_of_ble_eq_true rfl) (by rintro _ ⟨_, rfl, _⟩; rfl) (fun w48 h49 => ?_)
              obtain ⟨g50, rfl, -⟩ := h49
              refine g_weq (wX X ad (upd fX0 19 (1 <<< (a &&& 31))) (g_u r0 2 g50)) rfl ?_
              refine g_iconst cx 1 (by decide) d_X10_thing_183 ?_
              exact hret d_X10_thing_184 (Nat.le_of_ble_eq_true rfl) (Nat.le_of_ble_eq_true rfl) rfl (by simp [S_thing, *])
theorem d_X10_more_0 : g_dc cX10_more 0 (.aload_n 0) 1 1 := ⟨by decide +kernel, rfl⟩
theorem d_X10_more_1 : g_dc cX10_more 1 (.getfield 10) 3 4 := ⟨by decide +kernel, rfl⟩
theorem d_X10_more_4 : g_dc cX10_more 4 (.iload_n 1) 1 5 := ⟨by decide +kernel, rfl⟩
theorem d_X10_more_5 : g_dc cX10_more 5 (.invokevirtual 102) 3 8 := ⟨by decide +kernel, rfl⟩
theorem d_X10_more_8 : g_dc cX10_more 8 (.ifCond .eq 35) 3 11 := ⟨by decide +kernel, rfl⟩
theorem d_X10_more_43 : g_dc cX10_more 43 (.iconst 0) 1 44 := ⟨by decide +kernel, rfl⟩
theorem d_X10_more_44 : g_dc cX10_more 44 (.ireturn) 1 45 := ⟨by decide +kernel, rfl⟩
set_option maxHeartbeats 4000000 in
set_option maxRecDepth 100000 in
theorem c_X10_more (l : Launch) (X : gX) (ad : Nat → Nat) (a b c d : Int32) : g_Ci l X yX10_more cX10_more 5 (some .boolean) 3 0 0 [.ref (ad 0), .int a, .int b, .int c, .int d] (wX X ad fX0 r0) (fun r _ => r = 0) := by
  refine g_mi (by decide +kernel) (Nat.le_of_ble_eq_true rfl) (fun E cx hret => ?_)
  refine g_aload_n cx 0 rfl d_X10_more_0 ?_
  refine g_get cx cl_X10 fl_X10_10 0 (.ref (ad 1)) d_X10_more_1 rfl rfl ?_
  refine g_iload_n cx 1 rfl d_X10_more_4 ?_
  refine g_cVi cx [.int a] [] (c_X8_has l X (ad 1) (ad 2) 100 100 0 0 1 (r0 2) a) ml_X10_102 yV_X8_has d_X10_more_5 (by unfold g_rr; decide) (by decide) 0 rfl rfl [1, 2] rfl (by decide) rfl (Nat.le_of_ble_eq_true rfl) (by rintro _ _ ⟨rfl, _⟩; rfl) (fun r1 w2 h3 => ?_)
  obtain ⟨rfl, rfl⟩ := h3
  refine g_weq (wX X ad fX0 r0) (g_rep_same rfl) ?_
  refine g_toi 0 (g_has0 (rfl)) ?_
  refine g_if_eq_t cx 43 d_X10_more_8 (by decide) (by decide) ?_
  refine g_iconst cx 0 (by decide) d_X10_more_43 ?_
  exact hret d_X10_more_44 (Nat.le_of_ble_eq_true rfl) (Nat.le_of_ble_eq_true rfl) rfl (rfl)
theorem d_X10_away_0 : g_dc cX10_away 0 (.aload_n 0) 1 1 := ⟨by decide +kernel, rfl⟩
theorem d_X10_away_1 : g_dc cX10_away 1 (.getfield 10) 3 4 := ⟨by decide +kernel, rfl⟩
theorem d_X10_away_4 : g_dc cX10_away 4 (.iload_n 1) 1 5 := ⟨by decide +kernel, rfl⟩
theorem d_X10_away_5 : g_dc cX10_away 5 (.invokevirtual 102) 3 8 := ⟨by decide +kernel, rfl⟩
theorem d_X10_away_8 : g_dc cX10_away 8 (.ifCond .ne 5) 3 11 := ⟨by decide +kernel, rfl⟩
theorem d_X10_away_11 : g_dc cX10_away 11 (.iconst 0) 1 12 := ⟨by decide +kernel, rfl⟩
theorem d_X10_away_12 : g_dc cX10_away 12 (.ireturn) 1 13 := ⟨by decide +kernel, rfl⟩
set_option maxHeartbeats 4000000 in
set_option maxRecDepth 100000 in
theorem c_X10_away (l : Launch) (X : gX) (ad : Nat → Nat) (a : Int32) : g_Ci l X yX10_away cX10_away 2 (some .boolean) 3 0 0 [.ref (ad 0), .int a] (wX X ad fX0 r0) (fun r _ => r = 0) := by
  refine g_mi (by decide +kernel) (Nat.le_of_ble_eq_true rfl) (fun E cx hret => ?_)
  refine g_aload_n cx 0 rfl d_X10_away_0 ?_
  refine g_get cx cl_X10 fl_X10_10 0 (.ref (ad 1)) d_X10_away_1 rfl rfl ?_
  refine g_iload_n cx 1 rfl d_X10_away_4 ?_
  refine g_cVi cx [.int a] [] (c_X8_has l X (ad 1) (ad 2) 100 100 0 0 1 (r0 2) a) ml_X10_102 yV_X8_has d_X10_away_5 (by unfold g_rr; decide) (by decide) 0 rfl rfl [1, 2] rfl (by decide) rfl (Nat.le_of_ble_eq_true rfl) (by rintro _ _ ⟨rfl, _⟩; rfl) (fun r1 w2 h3 => ?_)
  obtain ⟨rfl, rfl⟩ := h3
  refine g_weq (wX X ad fX0 r0) (g_rep_same rfl) ?_
  refine g_toi 0 (g_has0 (rfl)) ?_
  refine g_if_ne_f cx 13 d_X10_away_8 (by decide) (by decide) ?_
  refine g_iconst cx 0 (by decide) d_X10_away_11 ?_
  exact hret d_X10_away_12 (Nat.le_of_ble_eq_true rfl) (Nat.le_of_ble_eq_true rfl) rfl (rfl)
theorem d_X10_feed_0 : g_dc cX10_feed 0 (.aload_n 0) 1 1 := ⟨by decide +kernel, rfl⟩
theorem d_X10_feed_1 : g_dc cX10_feed 1 (.getfield 22) 3 4 := ⟨by decide +kernel, rfl⟩
theorem d_X10_feed_4 : g_dc cX10_feed 4 (.getfield 110) 3 7 := ⟨by decide +kernel, rfl⟩
theorem d_X10_feed_7 : g_dc cX10_feed 7 (.bipush 20) 2 9 := ⟨by decide +kernel, rfl⟩
theorem d_X10_feed_9 : g_dc cX10_feed 9 (.iadd) 1 10 := ⟨by decide +kernel, rfl⟩
theorem d_X10_feed_10 : g_dc cX10_feed 10 (.sipush 220) 3 13 := ⟨by decide +kernel, rfl⟩
theorem d_X10_feed_13 : g_dc cX10_feed 13 (.if_icmp .le 5) 3 16 := ⟨by decide +kernel, rfl⟩
theorem d_X10_feed_18 : g_dc cX10_feed 18 (.aload_n 0) 1 19 := ⟨by decide +kernel, rfl⟩
theorem d_X10_feed_19 : g_dc cX10_feed 19 (.getfield 22) 3 22 := ⟨by decide +kernel, rfl⟩
theorem d_X10_feed_22 : g_dc cX10_feed 22 (.iload_n 1) 1 23 := ⟨by decide +kernel, rfl⟩
theorem d_X10_feed_23 : g_dc cX10_feed 23 (.invokevirtual 113) 3 26 := ⟨by decide +kernel, rfl⟩
theorem d_X10_feed_26 : g_dc cX10_feed 26 (.aload_n 0) 1 27 := ⟨by decide +kernel, rfl⟩
theorem d_X10_feed_27 : g_dc cX10_feed 27 (.getfield 22) 3 30 := ⟨by decide +kernel, rfl⟩
theorem d_X10_feed_30 : g_dc cX10_feed 30 (.iload_n 2) 1 31 := ⟨by decide +kernel, rfl⟩
theorem d_X10_feed_31 : g_dc cX10_feed 31 (.invokevirtual 113) 3 34 := ⟨by decide +kernel, rfl⟩
theorem d_X10_feed_34 : g_dc cX10_feed 34 (.aload_n 0) 1 35 := ⟨by decide +kernel, rfl⟩
theorem d_X10_feed_35 : g_dc cX10_feed 35 (.getfield 22) 3 38 := ⟨by decide +kernel, rfl⟩
theorem d_X10_feed_38 : g_dc cX10_feed 38 (.iload_n 3) 1 39 := ⟨by decide +kernel, rfl⟩
theorem d_X10_feed_39 : g_dc cX10_feed 39 (.invokevirtual 113) 3 42 := ⟨by decide +kernel, rfl⟩
theorem d_X10_feed_42 : g_dc cX10_feed 42 (.aload_n 0) 1 43 := ⟨by decide +kernel, rfl⟩
theorem d_X10_feed_43 : g_dc cX10_feed 43 (.getfield 22) 3 46 := ⟨by decide +kernel, rfl⟩
theorem d_X10_feed_46 : g_dc cX10_feed 46 (.iload 4) 2 48 := ⟨by decide +kernel, rfl⟩
theorem d_X10_feed_48 : g_dc cX10_feed 48 (.invokevirtual 113) 3 51 := ⟨by decide +kernel, rfl⟩
theorem d_X10_feed_51 : g_dc cX10_feed 51 (.aload_n 0) 1 52 := ⟨by decide +kernel, rfl⟩
theorem d_X10_feed_52 : g_dc cX10_feed 52 (.getfield 22) 3 55 := ⟨by decide +kernel, rfl⟩
theorem d_X10_feed_55 : g_dc cX10_feed 55 (.iload 5) 2 57 := ⟨by decide +kernel, rfl⟩
theorem d_X10_feed_57 : g_dc cX10_feed 57 (.invokevirtual 113) 3 60 := ⟨by decide +kernel, rfl⟩
theorem d_X10_feed_60 : g_dc cX10_feed 60 (.aload_n 0) 1 61 := ⟨by decide +kernel, rfl⟩
theorem d_X10_feed_61 : g_dc cX10_feed 61 (.getfield 22) 3 64 := ⟨by decide +kernel, rfl⟩
theorem d_X10_feed_64 : g_dc cX10_feed 64 (.getfield 110) 3 67 := ⟨by decide +kernel, rfl⟩
theorem d_X10_feed_67 : g_dc cX10_feed 67 (.ireturn) 1 68 := ⟨by decide +kernel, rfl⟩
set_option maxHeartbeats 4000000 in
set_option maxRecDepth 100000 in
theorem c_X10_feed (l : Launch) (X : gX) (ad : Nat → Nat) (a b c d e : Int32) : g_Ci l X yX10_feed cX10_feed 6 (some .int) 2 0 0 [.ref (ad 0), .int a, .int b, .int c, .int d, .int e] (wX X ad fX0 r0) (fun r _ => r = 20) := by
  refine g_mi (by decide +kernel) (Nat.le_of_ble_eq_true rfl) (fun E cx hret => ?_)
  refine g_aload_n cx 0 rfl d_X10_feed_0 ?_
  refine g_get cx cl_X10 fl_X10_22 0 (.ref (ad 9)) d_X10_feed_1 rfl rfl ?_
  refine g_getN cx cl_X9 fn_X10_110 9 (.int 0) d_X10_feed_4 rfl rfl ?_
  refine g_bipush cx 20 (by decide) d_X10_feed_7 ?_
  refine g_iadd cx d_X10_feed_9 ?_
  refine g_toi 20 (by decide) ?_
  refine g_sipush cx 220 (by decide) d_X10_feed_10 ?_
  refine g_icmp_le_t cx 18 d_X10_feed_13 (by decide) (by decide) ?_
  refine g_aload_n cx 0 rfl d_X10_feed_18 ?_
  refine g_get cx cl_X10 fl_X10_22 0 (.ref (ad 9)) d_X10_feed_19 rfl rfl ?_
  refine g_iload_n cx 1 rfl d_X10_feed_22 ?_
  refine g_cVv cx [.int a] [] (c_X9_add l X (ad 9) (ad 10) 0 (r0 10) a 0 (by decide) (by decide)) ml_X10_113 yV_X9_add d_X10_feed_23 (by unfold g_rr; decide) (by decide) 0 rfl rfl [9, 10] rfl (by decide) rfl (Nat.le_of_ble_eq_true rfl) (by rintro _ ⟨_, rfl, _⟩; rfl) (fun w2 h3 => ?_)
  obtain ⟨g4, rfl, -⟩ := h3
  refine g_weq (wX X ad (upd fX0 145 4) (g_u r0 10 g4)) rfl ?_
  refine g_aload_n cx 0 rfl d_X10_feed_26 ?_
  refine g_get cx cl_X10 fl_X10_22 0 (.ref (ad 9)) d_X10_feed_27 rfl rfl ?_
  refine g_iload_n cx 2 rfl d_X10_feed_30 ?_
  refine g_cVv cx [.int b] [] (c_X9_add l X (ad 9) (ad 10) 4 g4 b 4 (by decide) (by decide)) ml_X10_113 yV_X9_add d_X10_feed_31 (by unfold g_rr; decide) (by decide) 0 rfl rfl [9, 10] rfl (by decide) rfl (Nat.le_of_ble_eq_true rfl) (by rintro _ ⟨_, rfl, _⟩; rfl) (fun w6 h7 => ?_)
  obtain ⟨g8, rfl, -⟩ := h7
  refine g_weq (wX X ad (upd fX0 145 8) (g_u r0 10 g8)) rfl ?_
  refine g_aload_n cx 0 rfl d_X10_feed_34 ?_
  refine g_get cx cl_X10 fl_X10_22 0 (.ref (ad 9)) d_X10_feed_35 rfl rfl ?_
  refine g_iload_n cx 3 rfl d_X10_feed_38 ?_
  refine g_cVv cx [.int c] [] (c_X9_add l X (ad 9) (ad 10) 8 g8 c 8 (by decide) (by decide)) ml_X10_113 yV_X9_add d_X10_feed_39 (by unfold g_rr; decide) (by decide) 0 rfl rfl [9, 10] rfl (by decide) rfl (Nat.le_of_ble_eq_true rfl) (by rintro _ ⟨_, rfl, _⟩; rfl) (fun w10 h11 => ?_)
  obtain ⟨g12, rfl, -⟩ := h11
  refine g_weq (wX X ad (upd fX0 145 12) (g_u r0 10 g12)) rfl ?_
  refine g_aload_n cx 0 rfl d_X10_feed_42 ?_
  refine g_get cx cl_X10 fl_X10_22 0 (.ref (ad 9)) d_X10_feed_43 rfl rfl ?_
  refine g_iload cx 4 rfl d_X10_feed_46 ?_
  refine g_cVv cx [.int d] [] (c_X9_add l X (ad 9) (ad 10) 12 g12 d 12 (by decide) (by decide)) ml_X10_113 yV_X9_add d_X10_feed_48 (by unfold g_rr; decide) (by decide) 0 rfl rfl [9, 10] rfl (by decide) rfl (Nat.le_of_ble_eq_true rfl) (by rintro _ ⟨_, rfl, _⟩; rfl) (fun w14 h15 => ?_)
  obtain ⟨g16, rfl, -⟩ := h15
  refine g_weq (wX X ad (upd fX0 145 16) (g_u r0 10 g16)) rfl ?_
  refine g_aload_n cx 0 rfl d_X10_feed_51 ?_
  refine g_get cx cl_X10 fl_X10_22 0 (.ref (ad 9)) d_X10_feed_52 rfl rfl ?_
  refine g_iload cx 5 rfl d_X10_feed_55 ?_
  refine g_cVv cx [.int e] [] (c_X9_add l X (ad 9) (ad 10) 16 g16 e 16 (by decide) (by decide)) ml_X10_113 yV_X9_add d_X10_feed_57 (by unfold g_rr; decide) (by decide) 0 rfl rfl [9, 10] rfl (by decide) rfl (Nat.le_of_ble_eq_true rfl) (by rintro _ ⟨_, rfl, _⟩; rfl) (fun w18 h19 => ?_)
  obtain ⟨g20, rfl, -⟩ := h19
  refine g_weq (wX X ad (upd fX0 145 20) (g_u r0 10 g20)) rfl ?_
  refine g_aload_n cx 0 rfl d_X10_feed_60 ?_
  refine g_get cx cl_X10 fl_X10_22 0 (.ref (ad 9)) d_X10_feed_61 rfl rfl ?_
  refine g_getN cx cl_X9 fn_X10_110 9 (.int 20) d_X10_feed_64 rfl rfl ?_
  exact hret d_X10_feed_67 (Nat.le_of_ble_eq_true rfl) (Nat.le_of_ble_eq_true rfl) rfl (rfl)
theorem d_X10_pull_0 : g_dc cX10_pull 0 (.iload_n 1) 1 1 := ⟨by decide +kernel, rfl⟩
theorem d_X10_pull_1 : g_dc cX10_pull 1 (.iconst 1) 1 2 := ⟨by decide +kernel, rfl⟩
theorem d_X10_pull_2 : g_dc cX10_pull 2 (.bipush 120) 2 4 := ⟨by decide +kernel, rfl⟩
theorem d_X10_pull_4 : g_dc cX10_pull 4 (.invokestatic 82) 3 7 := ⟨by decide +kernel, rfl⟩
theorem d_X10_pull_7 : g_dc cX10_pull 7 (.ifCond .eq 14) 3 10 := ⟨by decide +kernel, rfl⟩
theorem d_X10_pull_10 : g_dc cX10_pull 10 (.iload_n 1) 1 11 := ⟨by decide +kernel, rfl⟩
theorem d_X10_pull_11 : g_dc cX10_pull 11 (.aload_n 0) 1 12 := ⟨by decide +kernel, rfl⟩
theorem d_X10_pull_12 : g_dc cX10_pull 12 (.getfield 22) 3 15 := ⟨by decide +kernel, rfl⟩
theorem d_X10_pull_15 : g_dc cX10_pull 15 (.getfield 110) 3 18 := ⟨by decide +kernel, rfl⟩
theorem d_X10_pull_18 : g_dc cX10_pull 18 (.if_icmp .le 5) 3 21 := ⟨by decide +kernel, rfl⟩
theorem d_X10_pull_21 : g_dc cX10_pull 21 (.iconst (-1)) 1 22 := ⟨by decide +kernel, rfl⟩
theorem d_X10_pull_22 : g_dc cX10_pull 22 (.ireturn) 1 23 := ⟨by decide +kernel, rfl⟩
set_option maxHeartbeats 4000000 in
set_option maxRecDepth 100000 in
theorem c_X10_pull (l : Launch) (X : gX) (ad : Nat → Nat) (a : Int32) : g_Ci l X yX10_pull cX10_pull 3 (some .int) 2 0 0 [.ref (ad 0), .int a] (wX X ad fX0 r0) (fun r _ => r = -1) := by
  refine g_mi (by decide +kernel) (Nat.le_of_ble_eq_true rfl) (fun E cx hret => ?_)
  refine g_iload_n cx 1 rfl d_X10_pull_0 ?_
  refine g_iconst cx 1 (by decide) d_X10_pull_1 ?_
  refine g_bipush cx 120 (by decide) d_X10_pull_2 ?_
  refine g_cSiW cx [.int a, .int 1, .int 120] [] (c_X10_within l X _ a 1 120) ml_X10_82 yS_X10_within rfl d_X10_pull_4 (by unfold g_rr; decide) (by decide) rfl (Nat.le_of_ble_eq_true rfl) (fun r1 w2 h3 => ?_)
  obtain ⟨rfl, rfl⟩ := h3
  refine g_if_eq cx 21 d_X10_pull_7 (by decide) (fun zc7 => ?_) (fun zc7 => ?_)
  · refine g_iconst cx (-1) (by decide) d_X10_pull_21 ?_
    exact hret d_X10_pull_22 (Nat.le_of_ble_eq_true rfl) (Nat.le_of_ble_eq_true rfl) rfl (rfl)
  · refine g_iload_n cx 1 rfl d_X10_pull_10 ?_
    refine g_aload_n cx 0 rfl d_X10_pull_11 ?_
    refine g_get cx cl_X10 fl_X10_22 0 (.ref (ad 9)) d_X10_pull_12 rfl rfl ?_
    refine g_getN cx cl_X9 fn_X10_110 9 (.int 0) d_X10_pull_15 rfl rfl ?_
    refine g_icmp_le_f cx 23 d_X10_pull_18 (by decide) (g_n0 (by assumption)) ?_
    refine g_iconst cx (-1) (by decide) d_X10_pull_21 ?_
    exact hret d_X10_pull_22 (Nat.le_of_ble_eq_true rfl) (Nat.le_of_ble_eq_true rfl) rfl (rfl)
theorem d_X10_law_0 : g_dc cX10_law 0 (.iload_n 1) 1 1 := ⟨by decide +kernel, rfl⟩
theorem d_X10_law_1 : g_dc cX10_law 1 (.iconst 1) 1 2 := ⟨by decide +kernel, rfl⟩
theorem d_X10_law_2 : g_dc cX10_law 2 (.sipush 200) 3 5 := ⟨by decide +kernel, rfl⟩
theorem d_X10_law_5 : g_dc cX10_law 5 (.invokestatic 82) 3 8 := ⟨by decide +kernel, rfl⟩
theorem d_X10_law_8 : g_dc cX10_law 8 (.ifCond .eq 14) 3 11 := ⟨by decide +kernel, rfl⟩
theorem d_X10_law_11 : g_dc cX10_law 11 (.iload_n 1) 1 12 := ⟨by decide +kernel, rfl⟩
theorem d_X10_law_12 : g_dc cX10_law 12 (.aload_n 0) 1 13 := ⟨by decide +kernel, rfl⟩
theorem d_X10_law_13 : g_dc cX10_law 13 (.getfield 22) 3 16 := ⟨by decide +kernel, rfl⟩
theorem d_X10_law_16 : g_dc cX10_law 16 (.getfield 110) 3 19 := ⟨by decide +kernel, rfl⟩
theorem d_X10_law_19 : g_dc cX10_law 19 (.if_icmp .le 5) 3 22 := ⟨by decide +kernel, rfl⟩
theorem d_X10_law_22 : g_dc cX10_law 22 (.iconst (-1)) 1 23 := ⟨by decide +kernel, rfl⟩
theorem d_X10_law_23 : g_dc cX10_law 23 (.ireturn) 1 24 := ⟨by decide +kernel, rfl⟩
set_option maxHeartbeats 4000000 in
set_option maxRecDepth 100000 in
theorem c_X10_law (l : Launch) (X : gX) (ad : Nat → Nat) (a : Int32) : g_Ci l X yX10_law cX10_law 3 (some .int) 2 0 0 [.ref (ad 0), .int a] (wX X ad fX0 r0) (fun r _ => r = -1) := by
  refine g_mi (by decide +kernel) (Nat.le_of_ble_eq_true rfl) (fun E cx hret => ?_)
  refine g_iload_n cx 1 rfl d_X10_law_0 ?_
  refine g_iconst cx 1 (by decide) d_X10_law_1 ?_
  refine g_sipush cx 200 (by decide) d_X10_law_2 ?_
  refine g_cSiW cx [.int a, .int 1, .int 200] [] (c_X10_within l X _ a 1 200) ml_X10_82 yS_X10_within rfl d_X10_law_5 (by unfold g_rr; decide) (by decide) rfl (Nat.le_of_ble_eq_true rfl) (fun r1 w2 h3 => ?_)
  obtain ⟨rfl, rfl⟩ := h3
  refine g_if_eq cx 22 d_X10_law_8 (by decide) (fun zc8 => ?_) (fun zc8 => ?_)
  · refine g_iconst cx (-1) (by decide) d_X10_law_22 ?_
    exact hret d_X10_law_23 (Nat.le_of_ble_eq_true rfl) (Nat.le_of_ble_eq_true rfl) rfl (rfl)
  · refine g_iload_n cx 1 rfl d_X10_law_11 ?_
    refine g_aload_n cx 0 rfl d_X10_law_12 ?_
    refine g_get cx cl_X10 fl_X10_22 0 (.ref (ad 9)) d_X10_law_13 rfl rfl ?_
    refine g_getN cx cl_X9 fn_X10_110 9 (.int 0) d_X10_law_16 rfl rfl ?_
    refine g_icmp_le_f cx 24 d_X10_law_19 (by decide) (g_n0 (by assumption)) ?_
    refine g_iconst cx (-1) (by decide) d_X10_law_22 ?_
    exact hret d_X10_law_23 (Nat.le_of_ble_eq_true rfl) (Nat.le_of_ble_eq_true rfl) rfl (rfl)
def T_ok (F' : Nat → Int32) (R' : Nat → Nat → Int32) : Prop := F' 691 = 0 ∧ F' 692 = 0 ∧ F' 693 = 0 ∧ F' 694 = 0 ∧ F' 695 = 0 ∧ F' 696 = 0 ∧ F' 697 = 0 ∧ F' 698 = 100 ∧ (∀ j, j < 30 → R' 46 j = 0)
theorem d_X10_tryDrawn_0 : g_dc cX10_tryDrawn 0 (.aload_n 0) 1 1 := ⟨by decide +kernel, rfl⟩
theorem d_X10_tryDrawn_1 : g_dc cX10_tryDrawn 1 (.getfield 58) 3 4 := ⟨by decide +kernel, rfl⟩
theorem d_X10_tryDrawn_4 : g_dc cX10_tryDrawn 4 (.aload_n 0) 1 5 := ⟨by decide +kernel, rfl⟩
theorem d_X10_tryDrawn_5 : g_dc cX10_tryDrawn 5 (.getfield 10) 3 8 := ⟨by decide +kernel, rfl⟩
theorem d_X10_tryDrawn_8 : g_dc cX10_tryDrawn 8 (.aload_n 0) 1 9 := ⟨by decide +kernel, rfl⟩
theorem d_X10_tryDrawn_9 : g_dc cX10_tryDrawn 9 (.getfield 29) 3 12 := ⟨by decide +kernel, rfl⟩
theorem d_X10_tryDrawn_12 : g_dc cX10_tryDrawn 12 (.invokevirtual 148) 3 15 := ⟨by decide +kernel, rfl⟩
theorem d_X10_tryDrawn_15 : g_dc cX10_tryDrawn 15 (.aload_n 0) 1 16 := ⟨by decide +kernel, rfl⟩
theorem d_X10_tryDrawn_16 : g_dc cX10_tryDrawn 16 (.getfield 66) 3 19 := ⟨by decide +kernel, rfl⟩
theorem d_X10_tryDrawn_19 : g_dc cX10_tryDrawn 19 (.getfield 159) 3 22 := ⟨by decide +kernel, rfl⟩
theorem d_X10_tryDrawn_22 : g_dc cX10_tryDrawn 22 (.aload_n 0) 1 23 := ⟨by decide +kernel, rfl⟩
theorem d_X10_tryDrawn_23 : g_dc cX10_tryDrawn 23 (.getfield 10) 3 26 := ⟨by decide +kernel, rfl⟩
theorem d_X10_tryDrawn_26 : g_dc cX10_tryDrawn 26 (.getfield 168) 3 29 := ⟨by decide +kernel, rfl⟩
theorem d_X10_tryDrawn_29 : g_dc cX10_tryDrawn 29 (.invokevirtual 272) 3 32 := ⟨by decide +kernel, rfl⟩
theorem d_X10_tryDrawn_32 : g_dc cX10_tryDrawn 32 (.aload_n 0) 1 33 := ⟨by decide +kernel, rfl⟩
theorem d_X10_tryDrawn_33 : g_dc cX10_tryDrawn 33 (.getfield 66) 3 36 := ⟨by decide +kernel, rfl⟩
theorem d_X10_tryDrawn_36 : g_dc cX10_tryDrawn 36 (.invokevirtual 152) 3 39 := ⟨by decide +kernel, rfl⟩
theorem d_X10_tryDrawn_39 : g_dc cX10_tryDrawn 39 (.return_) 1 40 := ⟨by decide +kernel, rfl⟩
set_option maxHeartbeats 4000000 in
set_option maxRecDepth 100000 in
theorem c_X10_tryDrawn (l : Launch) (X : gX) (ad : Nat → Nat) : g_Cv l X yX10_tryDrawn cX10_tryDrawn 1 6 0 0 [.ref (ad 0)] (wX X ad fX0 r0) (fun w => ∃ (F' : Nat → Int32) (R' : Nat → Nat → Int32), w = wX X ad F' R' ∧ T_ok F' R') := by
  refine g_mv (by decide +kernel) (Nat.le_of_ble_eq_true rfl) (fun E cx hret => ?_)
  refine g_aload_n cx 0 rfl d_X10_tryDrawn_0 ?_
  refine g_get cx cl_X10 fl_X10_58 0 (.ref (ad 35)) d_X10_tryDrawn_1 rfl rfl ?_
  refine g_aload_n cx 0 rfl d_X10_tryDrawn_4 ?_
  refine g_get cx cl_X10 fl_X10_10 0 (.ref (ad 1)) d_X10_tryDrawn_5 rfl rfl ?_
  refine g_aload_n cx 0 rfl d_X10_tryDrawn_8 ?_
  refine g_get cx cl_X10 fl_X10_29 0 (.ref (ad 11)) d_X10_tryDrawn_9 rfl rfl ?_
  refine g_cVvW cx [.ref (ad 1), .ref (ad 11)] [] (c_X7_lay l X ad fX0 r0  ) ml_X10_148 yV_X7_lay d_X10_tryDrawn_12 (by unfold g_rr; decide) (by decide) 35 rfl rfl rfl (Nat.le_of_ble_eq_true rfl) (fun w2 h3 => ?_)
  obtain ⟨rfl, -⟩ := h3
  refine g_weq (wX X ad (upd (upd (upd (upd (upd (upd (upd (upd fX0 80 100) 81 100) 82 0) 83 0) 84 1) 241 0) 672 0) 674 0) (g_u (g_u r0 6 (va_cpy (r0 2) (r0 6) 0 0 80)) 16 (va_cpy (r0 12) (r0 16) 0 0 60))) rfl ?_
  refine g_aload_n cx 0 rfl d_X10_tryDrawn_15 ?_
  refine g_get cx cl_X10 fl_X10_66 0 (.ref (ad 37)) d_X10_tryDrawn_16 rfl rfl ?_
  refine g_getN cx cl_X0 fn_X10_159 37 (.ref (ad 42)) d_X10_tryDrawn_19 rfl rfl ?_
  refine g_aload_n cx 0 rfl d_X10_tryDrawn_22 ?_
  refine g_get cx cl_X10 fl_X10_10 0 (.ref (ad 1)) d_X10_tryDrawn_23 rfl rfl ?_
  refine g_getN cx cl_X8 fn_X10_168 1 (.int 1) d_X10_tryDrawn_26 rfl rfl ?_
  refine g_cVv cx [.int 1] [] (c_X1_drawFrom l X (ad 42) 0 1 0 0 1) ml_X10_272 yV_X1_drawFrom d_X10_tryDrawn_29 (by unfold g_rr; decide) (by decide) 0 rfl rfl [42] rfl (by decide) rfl (Nat.le_of_ble_eq_true rfl) (by rintro _ ⟨rfl, _⟩; rfl) (fun w5 h6 => ?_)
  obtain ⟨rfl, -⟩ := h6
  refine g_weq (wX X ad (upd (upd (upd (upd (upd (upd (upd (upd (upd fX0 80 100) 81 100) 82 0) 83 0) 84 1) 241 0) 672 1) 673 1) 674 0) (g_u (g_u r0 6 (va_cpy (r0 2) (r0 6) 0 0 80)) 16 (va_cpy (r0 12) (r0 16) 0 0 60))) rfl ?_
  refine g_aload_n cx 0 rfl d_X10_tryDrawn_32 ?_
  refine g_get cx cl_X10 fl_X10_66 0 (.ref (ad 37)) d_X10_tryDrawn_33 rfl rfl ?_
  refine g_cVvW cx [] [] (c_X0_run l X ad (upd (upd (upd (upd (upd (upd (upd (upd (upd fX0 80 100) 81 100) 82 0) 83 0) 84 1) 241 0) 672 1) 673 1) 674 0) (g_u (g_u r0 6 (va_cpy (r0 2) (r0 6) 0 0 80)) 16 (va_cpy (r0 12) (r0 16) 0 0 60))  0 rfl (by decide) rfl rfl (Or.inl rfl)) ml_X10_152 yV_X0_run d_X10_tryDrawn_36 (by unfold g_rr; decide) (by decide) 37 rfl rfl rfl (Nat.le_of_ble_eq_true rfl) (fun w8 h9 => ?_)
  obtain ⟨zF10, zR11, rfl, zp12⟩ := h9
  exact hret d_X10_tryDrawn_39 (Nat.le_of_ble_eq_true rfl) (Nat.le_of_ble_eq_true rfl) ⟨zF10, zR11, rfl, ⟨zp12.2.1, zp12.2.2.1, zp12.2.2.2.1, zp12.2.2.2.2.1, zp12.2.2.2.2.2.1, zp12.2.2.2.2.2.2.1, (zp12.2.2.2.2.2.2.2.1 rfl).1, (zp12.2.2.2.2.2.2.2.1 rfl).2, zp12.2.2.2.2.2.2.2.2.1⟩⟩
theorem d_X10_tried_0 : g_dc cX10_tried 0 (.aload_n 0) 1 1 := ⟨by decide +kernel, rfl⟩
theorem d_X10_tried_1 : g_dc cX10_tried 1 (.invokevirtual 133) 3 4 := ⟨by decide +kernel, rfl⟩
theorem d_X10_tried_4 : g_dc cX10_tried 4 (.aload_n 0) 1 5 := ⟨by decide +kernel, rfl⟩
theorem d_X10_tried_5 : g_dc cX10_tried 5 (.getfield 66) 3 8 := ⟨by decide +kernel, rfl⟩
theorem d_X10_tried_8 : g_dc cX10_tried 8 (.getfield 136) 3 11 := ⟨by decide +kernel, rfl⟩
theorem d_X10_tried_11 : g_dc cX10_tried 11 (.iload_n 1) 1 12 := ⟨by decide +kernel, rfl⟩
theorem d_X10_tried_12 : g_dc cX10_tried 12 (.invokevirtual 142) 3 15 := ⟨by decide +kernel, rfl⟩
theorem d_X10_tried_15 : g_dc cX10_tried 15 (.ireturn) 1 16 := ⟨by decide +kernel, rfl⟩
set_option maxHeartbeats 4000000 in
set_option maxRecDepth 100000 in
theorem c_X10_tried (l : Launch) (X : gX) (ad : Nat → Nat) (a : Int32) : g_Ci l X yX10_tried cX10_tried 2 (some .int) 7 0 0 [.ref (ad 0), .int a] (wX X ad fX0 r0) (fun r _ => r = g_st a) := by
  refine g_mi (by decide +kernel) (Nat.le_of_ble_eq_true rfl) (fun E cx hret => ?_)
  refine g_aload_n cx 0 rfl d_X10_tried_0 ?_
  refine g_cVvW cx [] [] (c_X10_tryDrawn l X ad) ml_X10_133 yV_X10_tryDrawn d_X10_tried_1 (by unfold g_rr; decide) (by decide) 0 rfl rfl rfl (Nat.le_of_ble_eq_true rfl) (fun w2 h3 => ?_)
  obtain ⟨zF4, zR5, rfl, zp6⟩ := h3
  refine g_aload_n cx 0 rfl d_X10_tried_4 ?_
  refine g_get cx cl_X10 fl_X10_66 0 (.ref (ad 37)) d_X10_tried_5 rfl rfl ?_
  refine g_getN cx cl_X0 fn_X10_136 37 (.ref (ad 43)) d_X10_tried_8 rfl rfl ?_
  refine g_iload_n cx 1 rfl d_X10_tried_11 ?_
  refine g_cViW cx [.int a] [] (c_X4_tell l X ad zF4 zR5 a zp6.1 zp6.2.1 zp6.2.2.1 zp6.2.2.2.1 zp6.2.2.2.2.1 zp6.2.2.2.2.2.1 zp6.2.2.2.2.2.2.1 zp6.2.2.2.2.2.2.2.1 zp6.2.2.2.2.2.2.2.2) ml_X10_142 yV_X4_tell d_X10_tried_12 (by unfold g_rr; decide) (by decide) 43 rfl rfl rfl (Nat.le_of_ble_eq_true rfl) (fun r7 w8 h9 => ?_)
  obtain ⟨rfl, rfl⟩ := h9
  exact hret d_X10_tried_15 (Nat.le_of_ble_eq_true rfl) (Nat.le_of_ble_eq_true rfl) rfl (rfl)
theorem d_X10_still_0 : g_dc cX10_still 0 (.aload_n 0) 1 1 := ⟨by decide +kernel, rfl⟩
theorem d_X10_still_1 : g_dc cX10_still 1 (.getfield 58) 3 4 := ⟨by decide +kernel, rfl⟩
theorem d_X10_still_4 : g_dc cX10_still 4 (.aload_n 0) 1 5 := ⟨by decide +kernel, rfl⟩
theorem d_X10_still_5 : g_dc cX10_still 5 (.getfield 10) 3 8 := ⟨by decide +kernel, rfl⟩
theorem d_X10_still_8 : g_dc cX10_still 8 (.aload_n 0) 1 9 := ⟨by decide +kernel, rfl⟩
theorem d_X10_still_9 : g_dc cX10_still 9 (.getfield 29) 3 12 := ⟨by decide +kernel, rfl⟩
theorem d_X10_still_12 : g_dc cX10_still 12 (.invokevirtual 148) 3 15 := ⟨by decide +kernel, rfl⟩
theorem d_X10_still_15 : g_dc cX10_still 15 (.aload_n 0) 1 16 := ⟨by decide +kernel, rfl⟩
theorem d_X10_still_16 : g_dc cX10_still 16 (.getfield 66) 3 19 := ⟨by decide +kernel, rfl⟩
theorem d_X10_still_19 : g_dc cX10_still 19 (.invokevirtual 152) 3 22 := ⟨by decide +kernel, rfl⟩
theorem d_X10_still_22 : g_dc cX10_still 22 (.aload_n 0) 1 23 := ⟨by decide +kernel, rfl⟩
theorem d_X10_still_23 : g_dc cX10_still 23 (.getfield 66) 3 26 := ⟨by decide +kernel, rfl⟩
theorem d_X10_still_26 : g_dc cX10_still 26 (.getfield 136) 3 29 := ⟨by decide +kernel, rfl⟩
theorem d_X10_still_29 : g_dc cX10_still 29 (.iload_n 1) 1 30 := ⟨by decide +kernel, rfl⟩
theorem d_X10_still_30 : g_dc cX10_still 30 (.invokevirtual 142) 3 33 := ⟨by decide +kernel, rfl⟩
theorem d_X10_still_33 : g_dc cX10_still 33 (.ireturn) 1 34 := ⟨by decide +kernel, rfl⟩
set_option maxHeartbeats 4000000 in
set_option maxRecDepth 100000 in
theorem c_X10_still (l : Launch) (X : gX) (ad : Nat → Nat) (a : Int32) : g_Ci l X yX10_still cX10_still 2 (some .int) 7 0 0 [.ref (ad 0), .int a] (wX X ad fX0 r0) (fun r _ => r = g_st a) := by
  refine g_mi (by decide +kernel) (Nat.le_of_ble_eq_true rfl) (fun E cx hret => ?_)
  refine g_aload_n cx 0 rfl d_X10_still_0 ?_
  refine g_get cx cl_X10 fl_X10_58 0 (.ref (ad 35)) d_X10_still_1 rfl rfl ?_
  refine g_aload_n cx 0 rfl d_X10_still_4 ?_
  refine g_get cx cl_X10 fl_X10_10 0 (.ref (ad 1)) d_X10_still_5 rfl rfl ?_
  refine g_aload_n cx 0 rfl d_X10_still_8 ?_
  refine g_get cx cl_X10 fl_X10_29 0 (.ref (ad 11)) d_X10_still_9 rfl rfl ?_
  refine g_cVvW cx [.ref (ad 1), .ref (ad 11)] [] (c_X7_lay l X ad fX0 r0  ) ml_X10_148 yV_X7_lay d_X10_still_12 (by unfold g_rr; decide) (by decide) 35 rfl rfl rfl (Nat.le_of_ble_eq_true rfl) (fun w2 h3 => ?_)
  obtain ⟨rfl, -⟩ := h3
  refine g_weq (wX X ad (upd (upd (upd (upd (upd (upd (upd (upd fX0 80 100) 81 100) 82 0) 83 0) 84 1) 241 0) 672 0) 674 0) (g_u (g_u r0 6 (va_cpy (r0 2) (r0 6) 0 0 80)) 16 (va_cpy (r0 12) (r0 16) 0 0 60))) rfl ?_
  refine g_aload_n cx 0 rfl d_X10_still_15 ?_
  refine g_get cx cl_X10 fl_X10_66 0 (.ref (ad 37)) d_X10_still_16 rfl rfl ?_
  refine g_cVvW cx [] [] (c_X0_run l X ad (upd (upd (upd (upd (upd (upd (upd (upd fX0 80 100) 81 100) 82 0) 83 0) 84 1) 241 0) 672 0) 674 0) (g_u (g_u r0 6 (va_cpy (r0 2) (r0 6) 0 0 80)) 16 (va_cpy (r0 12) (r0 16) 0 0 60))  0 rfl (by decide) rfl rfl (Or.inl rfl)) ml_X10_152 yV_X0_run d_X10_still_19 (by unfold g_rr; decide) (by decide) 37 rfl rfl rfl (Nat.le_of_ble_eq_true rfl) (fun w5 h6 => ?_)
  obtain ⟨zF7, zR8, rfl, zp9⟩ := h6
  refine g_aload_n cx 0 rfl d_X10_still_22 ?_
  refine g_get cx cl_X10 fl_X10_66 0 (.ref (ad 37)) d_X10_still_23 rfl rfl ?_
  refine g_getN cx cl_X0 fn_X10_136 37 (.ref (ad 43)) d_X10_still_26 rfl rfl ?_
  refine g_iload_n cx 1 rfl d_X10_still_29 ?_
  refine g_cViW cx [.int a] [] (c_X4_tell l X ad zF7 zR8 a zp9.2.1 zp9.2.2.1 zp9.2.2.2.1 zp9.2.2.2.2.1 zp9.2.2.2.2.2.1 zp9.2.2.2.2.2.2.1 ((zp9.2.2.2.2.2.2.2.1 rfl).1) ((zp9.2.2.2.2.2.2.2.1 rfl).2) zp9.2.2.2.2.2.2.2.2.1) ml_X10_142 yV_X4_tell d_X10_still_30 (by unfold g_rr; decide) (by decide) 43 rfl rfl rfl (Nat.le_of_ble_eq_true rfl) (fun r10 w11 h12 => ?_)
  obtain ⟨rfl, rfl⟩ := h12
  exact hret d_X10_still_33 (Nat.le_of_ble_eq_true rfl) (Nat.le_of_ble_eq_true rfl) rfl (rfl)
theorem d_X10_done_0 : g_dc cX10_done 0 (.aload_n 0) 1 1 := ⟨by decide +kernel, rfl⟩
theorem d_X10_done_1 : g_dc cX10_done 1 (.getfield 29) 3 4 := ⟨by decide +kernel, rfl⟩
theorem d_X10_done_4 : g_dc cX10_done 4 (.getfield 124) 3 7 := ⟨by decide +kernel, rfl⟩
theorem d_X10_done_7 : g_dc cX10_done 7 (.ifCond .ne 5) 3 10 := ⟨by decide +kernel, rfl⟩
theorem d_X10_done_10 : g_dc cX10_done 10 (.iconst (-1)) 1 11 := ⟨by decide +kernel, rfl⟩
theorem d_X10_done_11 : g_dc cX10_done 11 (.ireturn) 1 12 := ⟨by decide +kernel, rfl⟩
set_option maxHeartbeats 4000000 in
set_option maxRecDepth 100000 in
theorem c_X10_done (l : Launch) (X : gX) (ad : Nat → Nat) : g_Ci l X yX10_done cX10_done 1 (some .int) 7 0 0 [.ref (ad 0)] (wX X ad fX0 r0) (fun r _ => r = -1) := by
  refine g_mi (by decide +kernel) (Nat.le_of_ble_eq_true rfl) (fun E cx hret => ?_)
  refine g_aload_n cx 0 rfl d_X10_done_0 ?_
  refine g_get cx cl_X10 fl_X10_29 0 (.ref (ad 11)) d_X10_done_1 rfl rfl ?_
  refine g_getN cx cl_X5 fn_X10_124 11 (.int 0) d_X10_done_4 rfl rfl ?_
  refine g_if_ne_f cx 12 d_X10_done_7 (by decide) (by decide) ?_
  refine g_iconst cx (-1) (by decide) d_X10_done_10 ?_
  exact hret d_X10_done_11 (Nat.le_of_ble_eq_true rfl) (Nat.le_of_ble_eq_true rfl) rfl (rfl)
theorem d_X10_thingIs_0 : g_dc cX10_thingIs 0 (.aload_n 0) 1 1 := ⟨by decide +kernel, rfl⟩
theorem d_X10_thingIs_1 : g_dc cX10_thingIs 1 (.getfield 10) 3 4 := ⟨by decide +kernel, rfl⟩
theorem d_X10_thingIs_4 : g_dc cX10_thingIs 4 (.iload_n 1) 1 5 := ⟨by decide +kernel, rfl⟩
theorem d_X10_thingIs_5 : g_dc cX10_thingIs 5 (.invokevirtual 102) 3 8 := ⟨by decide +kernel, rfl⟩
theorem d_X10_thingIs_8 : g_dc cX10_thingIs 8 (.ifCond .eq 25) 3 11 := ⟨by decide +kernel, rfl⟩
theorem d_X10_thingIs_33 : g_dc cX10_thingIs 33 (.iconst (-1)) 1 34 := ⟨by decide +kernel, rfl⟩
theorem d_X10_thingIs_34 : g_dc cX10_thingIs 34 (.ireturn) 1 35 := ⟨by decide +kernel, rfl⟩
set_option maxHeartbeats 4000000 in
set_option maxRecDepth 100000 in
theorem c_X10_thingIs (l : Launch) (X : gX) (ad : Nat → Nat) (a b : Int32) : g_Ci l X yX10_thingIs cX10_thingIs 3 (some .int) 3 0 0 [.ref (ad 0), .int a, .int b] (wX X ad fX0 r0) (fun r _ => r = -1) := by
  refine g_mi (by decide +kernel) (Nat.le_of_ble_eq_true rfl) (fun E cx hret => ?_)
  refine g_aload_n cx 0 rfl d_X10_thingIs_0 ?_
  refine g_get cx cl_X10 fl_X10_10 0 (.ref (ad 1)) d_X10_thingIs_1 rfl rfl ?_
  refine g_iload_n cx 1 rfl d_X10_thingIs_4 ?_
  refine g_cVi cx [.int a] [] (c_X8_has l X (ad 1) (ad 2) 100 100 0 0 1 (r0 2) a) ml_X10_102 yV_X8_has d_X10_thingIs_5 (by unfold g_rr; decide) (by decide) 0 rfl rfl [1, 2] rfl (by decide) rfl (Nat.le_of_ble_eq_true rfl) (by rintro _ _ ⟨rfl, _⟩; rfl) (fun r1 w2 h3 => ?_)
  obtain ⟨rfl, rfl⟩ := h3
  refine g_weq (wX X ad fX0 r0) (g_rep_same rfl) ?_
  refine g_toi 0 (g_has0 (rfl)) ?_
  refine g_if_eq_t cx 33 d_X10_thingIs_8 (by decide) (by decide) ?_
  refine g_iconst cx (-1) (by decide) d_X10_thingIs_33 ?_
  exact hret d_X10_thingIs_34 (Nat.le_of_ble_eq_true rfl) (Nat.le_of_ble_eq_true rfl) rfl (rfl)
theorem d_X10_pace_0 : g_dc cX10_pace 0 (.aload_n 0) 1 1 := ⟨by decide +kernel, rfl⟩
theorem d_X10_pace_1 : g_dc cX10_pace 1 (.getfield 58) 3 4 := ⟨by decide +kernel, rfl⟩
theorem d_X10_pace_4 : g_dc cX10_pace 4 (.aload_n 0) 1 5 := ⟨by decide +kernel, rfl⟩
theorem d_X10_pace_5 : g_dc cX10_pace 5 (.getfield 10) 3 8 := ⟨by decide +kernel, rfl⟩
theorem d_X10_pace_8 : g_dc cX10_pace 8 (.aload_n 0) 1 9 := ⟨by decide +kernel, rfl⟩
theorem d_X10_pace_9 : g_dc cX10_pace 9 (.getfield 29) 3 12 := ⟨by decide +kernel, rfl⟩
theorem d_X10_pace_12 : g_dc cX10_pace 12 (.invokevirtual 148) 3 15 := ⟨by decide +kernel, rfl⟩
theorem d_X10_pace_15 : g_dc cX10_pace 15 (.aload_n 0) 1 16 := ⟨by decide +kernel, rfl⟩
theorem d_X10_pace_16 : g_dc cX10_pace 16 (.getfield 58) 3 19 := ⟨by decide +kernel, rfl⟩
theorem d_X10_pace_19 : g_dc cX10_pace 19 (.invokevirtual 177) 3 22 := ⟨by decide +kernel, rfl⟩
theorem d_X10_pace_22 : g_dc cX10_pace 22 (.ireturn) 1 23 := ⟨by decide +kernel, rfl⟩
set_option maxHeartbeats 4000000 in
set_option maxRecDepth 100000 in
theorem c_X10_pace (l : Launch) (X : gX) (ad : Nat → Nat) : g_Ci l X yX10_pace cX10_pace 1 (some .int) 7 0 0 [.ref (ad 0)] (wX X ad fX0 r0) (fun r _ => r = 1) := by
  refine g_mi (by decide +kernel) (Nat.le_of_ble_eq_true rfl) (fun E cx hret => ?_)
  refine g_aload_n cx 0 rfl d_X10_pace_0 ?_
  refine g_get cx cl_X10 fl_X10_58 0 (.ref (ad 35)) d_X10_pace_1 rfl rfl ?_
  refine g_aload_n cx 0 rfl d_X10_pace_4 ?_
  refine g_get cx cl_X10 fl_X10_10 0 (.ref (ad 1)) d_X10_pace_5 rfl rfl ?_
  refine g_aload_n cx 0 rfl d_X10_pace_8 ?_
  refine g_get cx cl_X10 fl_X10_29 0 (.ref (ad 11)) d_X10_pace_9 rfl rfl ?_
  refine g_cVvW cx [.ref (ad 1), .ref (ad 11)] [] (c_X7_lay l X ad fX0 r0  ) ml_X10_148 yV_X7_lay d_X10_pace_12 (by unfold g_rr; decide) (by decide) 35 rfl rfl rfl (Nat.le_of_ble_eq_true rfl) (fun w2 h3 => ?_)
  obtain ⟨rfl, -⟩ := h3
  refine g_weq (wX X ad (upd (upd (upd (upd (upd (upd (upd (upd fX0 80 100) 81 100) 82 0) 83 0) 84 1) 241 0) 672 0) 674 0) (g_u (g_u r0 6 (va_cpy (r0 2) (r0 6) 0 0 80)) 16 (va_cpy (r0 12) (r0 16) 0 0 60))) rfl ?_
  refine g_aload_n cx 0 rfl d_X10_pace_15 ?_
  refine g_get cx cl_X10 fl_X10_58 0 (.ref (ad 35)) d_X10_pace_16 rfl rfl ?_
  refine g_cViW cx [] [] (c_X7_leastPace l X ad (upd (upd (upd (upd (upd (upd (upd (upd fX0 80 100) 81 100) 82 0) 83 0) 84 1) 241 0) 672 0) 674 0) (g_u (g_u r0 6 (va_cpy (r0 2) (r0 6) 0 0 80)) 16 (va_cpy (r0 12) (r0 16) 0 0 60))  rfl rfl rfl rfl) ml_X10_177 yV_X7_leastPace d_X10_pace_19 (by unfold g_rr; decide) (by decide) 35 rfl rfl rfl (Nat.le_of_ble_eq_true rfl) (fun r4 w5 h6 => ?_)
  subst h6
  exact hret d_X10_pace_22 (Nat.le_of_ble_eq_true rfl) (Nat.le_of_ble_eq_true rfl) rfl (rfl)
theorem d_X10_best_0 : g_dc cX10_best 0 (.iload_n 1) 1 1 := ⟨by decide +kernel, rfl⟩
theorem d_X10_best_1 : g_dc cX10_best 1 (.iconst 0) 1 2 := ⟨by decide +kernel, rfl⟩
theorem d_X10_best_2 : g_dc cX10_best 2 (.iconst 4) 1 3 := ⟨by decide +kernel, rfl⟩
theorem d_X10_best_3 : g_dc cX10_best 3 (.invokestatic 82) 3 6 := ⟨by decide +kernel, rfl⟩
theorem d_X10_best_6 : g_dc cX10_best 6 (.ifCond .ne 5) 3 9 := ⟨by decide +kernel, rfl⟩
theorem d_X10_best_9 : g_dc cX10_best 9 (.iconst (-1)) 1 10 := ⟨by decide +kernel, rfl⟩
theorem d_X10_best_10 : g_dc cX10_best 10 (.ireturn) 1 11 := ⟨by decide +kernel, rfl⟩
theorem d_X10_best_11 : g_dc cX10_best 11 (.aload_n 0) 1 12 := ⟨by decide +kernel, rfl⟩
theorem d_X10_best_12 : g_dc cX10_best 12 (.getfield 58) 3 15 := ⟨by decide +kernel, rfl⟩
theorem d_X10_best_15 : g_dc cX10_best 15 (.aload_n 0) 1 16 := ⟨by decide +kernel, rfl⟩
theorem d_X10_best_16 : g_dc cX10_best 16 (.getfield 10) 3 19 := ⟨by decide +kernel, rfl⟩
theorem d_X10_best_19 : g_dc cX10_best 19 (.aload_n 0) 1 20 := ⟨by decide +kernel, rfl⟩
theorem d_X10_best_20 : g_dc cX10_best 20 (.getfield 29) 3 23 := ⟨by decide +kernel, rfl⟩
theorem d_X10_best_23 : g_dc cX10_best 23 (.invokevirtual 148) 3 26 := ⟨by decide +kernel, rfl⟩
theorem d_X10_best_26 : g_dc cX10_best 26 (.aload_n 0) 1 27 := ⟨by decide +kernel, rfl⟩
theorem d_X10_best_27 : g_dc cX10_best 27 (.getfield 58) 3 30 := ⟨by decide +kernel, rfl⟩
theorem d_X10_best_30 : g_dc cX10_best 30 (.aload_n 0) 1 31 := ⟨by decide +kernel, rfl⟩
theorem d_X10_best_31 : g_dc cX10_best 31 (.getfield 78) 3 34 := ⟨by decide +kernel, rfl⟩
theorem d_X10_best_34 : g_dc cX10_best 34 (.invokevirtual 180) 3 37 := ⟨by decide +kernel, rfl⟩
theorem d_X10_best_37 : g_dc cX10_best 37 (.aload_n 0) 1 38 := ⟨by decide +kernel, rfl⟩
theorem d_X10_best_38 : g_dc cX10_best 38 (.getfield 58) 3 41 := ⟨by decide +kernel, rfl⟩
theorem d_X10_best_41 : g_dc cX10_best 41 (.iload_n 1) 1 42 := ⟨by decide +kernel, rfl⟩
theorem d_X10_best_42 : g_dc cX10_best 42 (.invokevirtual 183) 3 45 := ⟨by decide +kernel, rfl⟩
theorem d_X10_best_45 : g_dc cX10_best 45 (.ireturn) 1 46 := ⟨by decide +kernel, rfl⟩
set_option maxHeartbeats 4000000 in
set_option maxRecDepth 100000 in
theorem c_X10_best (l : Launch) (X : gX) (ad : Nat → Nat) (what : Int32) : g_Ci l X yX10_best cX10_best 2 (some .int) 7 0 0 [.ref (ad 0), .int what] (wX X ad fX0 r0) (fun r _ => r = S_best what) := by
  refine g_mi (by decide +kernel) (Nat.le_of_ble_eq_true rfl) (fun E cx hret => ?_)
  refine g_iload_n cx 1 rfl d_X10_best_0 ?_
  refine g_iconst cx 0 (by decide) d_X10_best_1 ?_
  refine g_iconst cx 4 (by decide) d_X10_best_2 ?_
  refine g_cSiW cx [.int what, .int 0, .int 4] [] (c_X10_within l X _ what 0 4) ml_X10_82 yS_X10_within rfl d_X10_best_3 (by unfold g_rr; decide) (by decide) rfl (Nat.le_of_ble_eq_true rfl) (fun r1 w2 h3 => ?_)
  obtain ⟨rfl, rfl⟩ := h3
  refine g_if_ne cx 11 d_X10_best_6 (by decide) (fun zc6 => ?_) (fun zc6 => ?_)
  · refine g_aload_n cx 0 rfl d_X10_best_11 ?_
    refine g_get cx cl_X10 fl_X10_58 0 (.ref (ad 35)) d_X10_best_12 rfl rfl ?_
    refine g_aload_n cx 0 rfl d_X10_best_15 ?_
    refine g_get cx cl_X10 fl_X10_10 0 (.ref (ad 1)) d_X10_best_16 rfl rfl ?_
    refine g_aload_n cx 0 rfl d_X10_best_19 ?_
    refine g_get cx cl_X10 fl_X10_29 0 (.ref (ad 11)) d_X10_best_20 rfl rfl ?_
    refine g_cVvW cx [.ref (ad 1), .ref (ad 11)] [] (c_X7_lay l X ad fX0 r0  ) ml_X10_148 yV_X7_lay d_X10_best_23 (by unfold g_rr; decide) (by decide) 35 rfl rfl rfl (Nat.le_of_ble_eq_true rfl) (fun w5 h6 => ?_)
    obtain ⟨rfl, -⟩ := h6
    refine g_weq (wX X ad (upd (upd (upd (upd (upd (upd (upd (upd fX0 80 100) 81 100) 82 0) 83 0) 84 1) 241 0) 672 0) 674 0) (g_u (g_u r0 6 (va_cpy (r0 2) (r0 6) 0 0 80)) 16 (va_cpy (r0 12) (r0 16) 0 0 60))) rfl ?_
    refine g_aload_n cx 0 rfl d_X10_best_26 ?_
    refine g_get cx cl_X10 fl_X10_58 0 (.ref (ad 35)) d_X10_best_27 rfl rfl ?_
    refine g_aload_n cx 0 rfl d_X10_best_30 ?_
    refine g_get cx cl_X10 fl_X10_78 0 (.int 0) d_X10_best_31 rfl rfl ?_
    refine g_cVvW cx [.int 0] [] (c_X7_bestPull l X ad (upd (upd (upd (upd (upd (upd (upd (upd fX0 80 100) 81 100) 82 0) 83 0) 84 1) 241 0) 672 0) 674 0) (g_u (g_u r0 6 (va_cpy (r0 2) (r0 6) 0 0 80)) 16 (va_cpy (r0 12) (r0 16) 0 0 60)) rfl rfl rfl rfl rfl) ml_X10_180 yV_X7_bestPull d_X10_best_34 (by unfold g_rr; decide) (by decide) 35 rfl rfl rfl (Nat.le_of_ble_eq_true rfl) (fun w8 h9 => ?_)
    obtain ⟨zF10, zR11, rfl, zp12⟩ := h9
    refine g_aload_n cx 0 rfl d_X10_best_37 ?_
    refine g_get cx cl_X10 fl_X10_58 0 (.ref (ad 35)) d_X10_best_38 rfl rfl ?_
    refine g_iload_n cx 1 rfl d_X10_best_41 ?_
    refine g_cViW cx [.int what] [] (c_X7_bestIs l X ad zF10 zR11 what zc6 zp12) ml_X10_183 yV_X7_bestIs d_X10_best_42 (by unfold g_rr; decide) (by decide) 35 rfl rfl rfl (Nat.le_of_ble_eq_true rfl) (fun r13 w14 h15 => ?_)
    subst h15
    exact hret d_X10_best_45 (Nat.le_of_ble_eq_true rfl) (Nat.le_of_ble_eq_true rfl) rfl (rfl)
  · refine g_iconst cx (-1) (by decide) d_X10_best_9 ?_
    exact hret d_X10_best_10 (Nat.le_of_ble_eq_true rfl) (Nat.le_of_ble_eq_true rfl) rfl (by simp [S_best, *])
theorem d_X10_put_0 : g_dc cX10_put 0 (.iload_n 2) 1 1 := ⟨by decide +kernel, rfl⟩
theorem d_X10_put_1 : g_dc cX10_put 1 (.iconst 0) 1 2 := ⟨by decide +kernel, rfl⟩
theorem d_X10_put_2 : g_dc cX10_put 2 (.bipush 9) 2 4 := ⟨by decide +kernel, rfl⟩
theorem d_X10_put_4 : g_dc cX10_put 4 (.invokestatic 82) 3 7 := ⟨by decide +kernel, rfl⟩
theorem d_X10_put_7 : g_dc cX10_put 7 (.ifCond .eq 15) 3 10 := ⟨by decide +kernel, rfl⟩
theorem d_X10_put_10 : g_dc cX10_put 10 (.iload_n 1) 1 11 := ⟨by decide +kernel, rfl⟩
theorem d_X10_put_11 : g_dc cX10_put 11 (.iconst 1) 1 12 := ⟨by decide +kernel, rfl⟩
theorem d_X10_put_12 : g_dc cX10_put 12 (.iload_n 2) 1 13 := ⟨by decide +kernel, rfl⟩
theorem d_X10_put_13 : g_dc cX10_put 13 (.ishl) 1 14 := ⟨by decide +kernel, rfl⟩
theorem d_X10_put_14 : g_dc cX10_put 14 (.iand) 1 15 := ⟨by decide +kernel, rfl⟩
theorem d_X10_put_15 : g_dc cX10_put 15 (.ifCond .eq 7) 3 18 := ⟨by decide +kernel, rfl⟩
theorem d_X10_put_18 : g_dc cX10_put 18 (.iconst 1) 1 19 := ⟨by decide +kernel, rfl⟩
theorem d_X10_put_19 : g_dc cX10_put 19 (.goto 4) 3 22 := ⟨by decide +kernel, rfl⟩
theorem d_X10_put_22 : g_dc cX10_put 22 (.iconst 0) 1 23 := ⟨by decide +kernel, rfl⟩
theorem d_X10_put_23 : g_dc cX10_put 23 (.istore_n 3) 1 24 := ⟨by decide +kernel, rfl⟩
theorem d_X10_put_24 : g_dc cX10_put 24 (.aload_n 0) 1 25 := ⟨by decide +kernel, rfl⟩
theorem d_X10_put_25 : g_dc cX10_put 25 (.getfield 70) 3 28 := ⟨by decide +kernel, rfl⟩
theorem d_X10_put_28 : g_dc cX10_put 28 (.iload_n 1) 1 29 := ⟨by decide +kernel, rfl⟩
theorem d_X10_put_29 : g_dc cX10_put 29 (.aload_n 0) 1 30 := ⟨by decide +kernel, rfl⟩
theorem d_X10_put_30 : g_dc cX10_put 30 (.getfield 10) 3 33 := ⟨by decide +kernel, rfl⟩
theorem d_X10_put_33 : g_dc cX10_put 33 (.getfield 95) 3 36 := ⟨by decide +kernel, rfl⟩
theorem d_X10_put_36 : g_dc cX10_put 36 (.invokevirtual 186) 3 39 := ⟨by decide +kernel, rfl⟩
theorem d_X10_put_39 : g_dc cX10_put 39 (.ifCond .eq 18) 3 42 := ⟨by decide +kernel, rfl⟩
theorem d_X10_put_57 : g_dc cX10_put 57 (.iconst (-1)) 1 58 := ⟨by decide +kernel, rfl⟩
theorem d_X10_put_58 : g_dc cX10_put 58 (.ireturn) 1 59 := ⟨by decide +kernel, rfl⟩
set_option maxHeartbeats 4000000 in
set_option maxRecDepth 100000 in
theorem c_X10_put (l : Launch) (X : gX) (ad : Nat → Nat) (a b : Int32) : g_Ci l X yX10_put cX10_put 4 (some .int) 3 0 0 [.ref (ad 0), .int a, .int b] (wX X ad fX0 r0) (fun r _ => r = -1) := by
  refine g_mi (by decide +kernel) (Nat.le_of_ble_eq_true rfl) (fun E cx hret => ?_)
  refine g_iload_n cx 2 rfl d_X10_put_0 ?_
  refine g_iconst cx 0 (by decide) d_X10_put_1 ?_
  refine g_bipush cx 9 (by decide) d_X10_put_2 ?_
  refine g_cSiW cx [.int b, .int 0, .int 9] [] (c_X10_within l X _ b 0 9) ml_X10_82 yS_X10_within rfl d_X10_put_4 (by unfold g_rr; decide) (by decide) rfl (Nat.le_of_ble_eq_true rfl) (fun r1 w2 h3 => ?_)
  obtain ⟨rfl, rfl⟩ := h3
  refine g_if_eq cx 22 d_X10_put_7 (by decide) (fun zc7 => ?_) (fun zc7 => ?_)
  · refine g_iconst cx 0 (by decide) d_X10_put_22 ?_
    refine g_istore_n cx [(3, .int 0), (0, .ref (ad 0)), (1, .int a), (2, .int b)] d_X10_put_23 (by decide) rfl ?_
    refine g_aload_n cx 1 rfl d_X10_put_24 ?_
    refine g_get cx cl_X10 fl_X10_70 0 (.ref (ad 47)) d_X10_put_25 rfl rfl ?_
    refine g_iload_n cx 2 rfl d_X10_put_28 ?_
    refine g_aload_n cx 1 rfl d_X10_put_29 ?_
    refine g_get cx cl_X10 fl_X10_10 0 (.ref (ad 1)) d_X10_put_30 rfl rfl ?_
    refine g_getN cx cl_X8 fn_X10_95 1 (.int 0) d_X10_put_33 rfl rfl ?_
    refine g_cViW cx [.int a, .int 0] [] (c_X6_take l X ad fX0 r0 a) ml_X10_186 yV_X6_take d_X10_put_36 (by unfold g_rr; decide) (by decide) 47 rfl rfl rfl (Nat.le_of_ble_eq_true rfl) (fun r4 w5 h6 => ?_)
    obtain ⟨rfl, rfl⟩ := h6
    refine g_if_eq_t cx 57 d_X10_put_39 (by decide) (by decide) ?_
    refine g_iconst cx (-1) (by decide) d_X10_put_57 ?_
    exact hret d_X10_put_58 (Nat.le_of_ble_eq_true rfl) (Nat.le_of_ble_eq_true rfl) rfl (rfl)
  · refine g_iload_n cx 1 rfl d_X10_put_10 ?_
    refine g_iconst cx 1 (by decide) d_X10_put_11 ?_
    refine g_iload_n cx 2 rfl d_X10_put_12 ?_
    refine g_ishl cx d_X10_put_13 ?_
    refine g_iand cx d_X10_put_14 ?_
    refine g_if_eq cx 22 d_X10_put_15 (by decide) (fun zc15 => ?_) (fun zc15 => ?_)
    · refine g_iconst cx 0 (by decide) d_X10_put_22 ?_
      refine g_istore_n cx [(3, .int 0), (0, .ref (ad 0)), (1, .int a), (2, .int b)] d_X10_put_23 (by decide) rfl ?_
      refine g_aload_n cx 1 rfl d_X10_put_24 ?_
      refine g_get cx cl_X10 fl_X10_70 0 (.ref (ad 47)) d_X10_put_25 rfl rfl ?_
      refine g_iload_n cx 2 rfl d_X10_put_28 ?_
      refine g_aload_n cx 1 rfl d_X10_put_29 ?_
      refine g_get cx cl_X10 fl_X10_10 0 (.ref (ad 1)) d_X10_put_30 rfl rfl ?_
      refine g_getN cx cl_X8 fn_X10_95 1 (.int 0) d_X10_put_33 rfl rfl ?_
      refine g_cViW cx [.int a, .int 0] [] (c_X6_take l X ad fX0 r0 a) ml_X10_186 yV_X6_take d_X10_put_36 (by unfold g_rr; decide) (by decide) 47 rfl rfl rfl (Nat.le_of_ble_eq_true rfl) (fun r7 w8 h9 => ?_)
      obtain ⟨rfl, rfl⟩ := h9
      refine g_if_eq_t cx 57 d_X10_put_39 (by decide) (by decide) ?_
      refine g_iconst cx (-1) (by decide) d_X10_put_57 ?_
      exact hret d_X10_put_58 (Nat.le_of_ble_eq_true rfl) (Nat.le_of_ble_eq_true rfl) rfl (rfl)
    · refine g_iconst cx 1 (by decide) d_X10_put_18 ?_
      refine g_goto cx 23 d_X10_put_19 (by decide) ?_
      refine g_istore_n cx [(3, .int 1), (0, .ref (ad 0)), (1, .int a), (2, .int b)] d_X10_put_23 (by decide) rfl ?_
      refine g_aload_n cx 1 rfl d_X10_put_24 ?_
      refine g_get cx cl_X10 fl_X10_70 0 (.ref (ad 47)) d_X10_put_25 rfl rfl ?_
      refine g_iload_n cx 2 rfl d_X10_put_28 ?_
      refine g_aload_n cx 1 rfl d_X10_put_29 ?_
      refine g_get cx cl_X10 fl_X10_10 0 (.ref (ad 1)) d_X10_put_30 rfl rfl ?_
      refine g_getN cx cl_X8 fn_X10_95 1 (.int 0) d_X10_put_33 rfl rfl ?_
      refine g_cViW cx [.int a, .int 0] [] (c_X6_take l X ad fX0 r0 a) ml_X10_186 yV_X6_take d_X10_put_36 (by unfold g_rr; decide) (by decide) 47 rfl rfl rfl (Nat.le_of_ble_eq_true rfl) (fun r10 w11 h12 => ?_)
      obtain ⟨rfl, rfl⟩ := h12
      refine g_if_eq_t cx 57 d_X10_put_39 (by decide) (by decide) ?_
      refine g_iconst cx (-1) (by decide) d_X10_put_57 ?_
      exact hret d_X10_put_58 (Nat.le_of_ble_eq_true rfl) (Nat.le_of_ble_eq_true rfl) rfl (rfl)
theorem d_X10_most_0 : g_dc cX10_most 0 (.iload_n 1) 1 1 := ⟨by decide +kernel, rfl⟩
theorem d_X10_most_1 : g_dc cX10_most 1 (.iconst 0) 1 2 := ⟨by decide +kernel, rfl⟩
theorem d_X10_most_2 : g_dc cX10_most 2 (.iconst 1) 1 3 := ⟨by decide +kernel, rfl⟩
theorem d_X10_most_3 : g_dc cX10_most 3 (.invokestatic 82) 3 6 := ⟨by decide +kernel, rfl⟩
theorem d_X10_most_6 : g_dc cX10_most 6 (.ifCond .ne 5) 3 9 := ⟨by decide +kernel, rfl⟩
theorem d_X10_most_9 : g_dc cX10_most 9 (.iconst (-1)) 1 10 := ⟨by decide +kernel, rfl⟩
theorem d_X10_most_10 : g_dc cX10_most 10 (.ireturn) 1 11 := ⟨by decide +kernel, rfl⟩
theorem d_X10_most_11 : g_dc cX10_most 11 (.aload_n 0) 1 12 := ⟨by decide +kernel, rfl⟩
theorem d_X10_most_12 : g_dc cX10_most 12 (.getfield 58) 3 15 := ⟨by decide +kernel, rfl⟩
theorem d_X10_most_15 : g_dc cX10_most 15 (.aload_n 0) 1 16 := ⟨by decide +kernel, rfl⟩
theorem d_X10_most_16 : g_dc cX10_most 16 (.getfield 10) 3 19 := ⟨by decide +kernel, rfl⟩
theorem d_X10_most_19 : g_dc cX10_most 19 (.aload_n 0) 1 20 := ⟨by decide +kernel, rfl⟩
theorem d_X10_most_20 : g_dc cX10_most 20 (.getfield 29) 3 23 := ⟨by decide +kernel, rfl⟩
theorem d_X10_most_23 : g_dc cX10_most 23 (.invokevirtual 148) 3 26 := ⟨by decide +kernel, rfl⟩
theorem d_X10_most_26 : g_dc cX10_most 26 (.aload_n 0) 1 27 := ⟨by decide +kernel, rfl⟩
theorem d_X10_most_27 : g_dc cX10_most 27 (.getfield 58) 3 30 := ⟨by decide +kernel, rfl⟩
theorem d_X10_most_30 : g_dc cX10_most 30 (.invokevirtual 208) 3 33 := ⟨by decide +kernel, rfl⟩
theorem d_X10_most_33 : g_dc cX10_most 33 (.istore_n 2) 1 34 := ⟨by decide +kernel, rfl⟩
theorem d_X10_most_34 : g_dc cX10_most 34 (.iload_n 1) 1 35 := ⟨by decide +kernel, rfl⟩
theorem d_X10_most_35 : g_dc cX10_most 35 (.ifCond .ne 10) 3 38 := ⟨by decide +kernel, rfl⟩
theorem d_X10_most_38 : g_dc cX10_most 38 (.iload_n 2) 1 39 := ⟨by decide +kernel, rfl⟩
theorem d_X10_most_39 : g_dc cX10_most 39 (.invokestatic 211) 3 42 := ⟨by decide +kernel, rfl⟩
theorem d_X10_most_42 : g_dc cX10_most 42 (.goto 4) 3 45 := ⟨by decide +kernel, rfl⟩
theorem d_X10_most_45 : g_dc cX10_most 45 (.iload_n 2) 1 46 := ⟨by decide +kernel, rfl⟩
theorem d_X10_most_46 : g_dc cX10_most 46 (.ireturn) 1 47 := ⟨by decide +kernel, rfl⟩
set_option maxHeartbeats 4000000 in
set_option maxRecDepth 100000 in
theorem c_X10_most (l : Launch) (X : gX) (ad : Nat → Nat) (a : Int32) : g_Ci l X yX10_most cX10_most 3 (some .int) 4 0 0 [.ref (ad 0), .int a] (wX X ad fX0 r0) (fun r _ => r = S_most a) := by
  refine g_mi (by decide +kernel) (Nat.le_of_ble_eq_true rfl) (fun E cx hret => ?_)
  refine g_iload_n cx 1 rfl d_X10_most_0 ?_
  refine g_iconst cx 0 (by decide) d_X10_most_1 ?_
  refine g_iconst cx 1 (by decide) d_X10_most_2 ?_
  refine g_cSiW cx [.int a, .int 0, .int 1] [] (c_X10_within l X _ a 0 1) ml_X10_82 yS_X10_within rfl d_X10_most_3 (by unfold g_rr; decide) (by decide) rfl (Nat.le_of_ble_eq_true rfl) (fun r1 w2 h3 => ?_)
  obtain ⟨rfl, rfl⟩ := h3
  refine g_if_ne cx 11 d_X10_most_6 (by decide) (fun zc6 => ?_) (fun zc6 => ?_)
  · refine g_aload_n cx 0 rfl d_X10_most_11 ?_
    refine g_get cx cl_X10 fl_X10_58 0 (.ref (ad 35)) d_X10_most_12 rfl rfl ?_
    refine g_aload_n cx 0 rfl d_X10_most_15 ?_
    refine g_get cx cl_X10 fl_X10_10 0 (.ref (ad 1)) d_X10_most_16 rfl rfl ?_
    refine g_aload_n cx 0 rfl d_X10_most_19 ?_
    refine g_get cx cl_X10 fl_X10_29 0 (.ref (ad 11)) d_X10_most_20 rfl rfl ?_
    refine g_cVvW cx [.ref (ad 1), .ref (ad 11)] [] (c_X7_lay l X ad fX0 r0  ) ml_X10_148 yV_X7_lay d_X10_most_23 (by unfold g_rr; decide) (by decide) 35 rfl rfl rfl (Nat.le_of_ble_eq_true rfl) (fun w5 h6 => ?_)
    obtain ⟨rfl, -⟩ := h6
    refine g_weq (wX X ad (upd (upd (upd (upd (upd (upd (upd (upd fX0 80 100) 81 100) 82 0) 83 0) 84 1) 241 0) 672 0) 674 0) (g_u (g_u r0 6 (va_cpy (r0 2) (r0 6) 0 0 80)) 16 (va_cpy (r0 12) (r0 16) 0 0 60))) rfl ?_
    refine g_aload_n cx 0 rfl d_X10_most_26 ?_
    refine g_get cx cl_X10 fl_X10_58 0 (.ref (ad 35)) d_X10_most_27 rfl rfl ?_
    refine g_cViW cx [] [] (c_X7_largestStanding l X ad (upd (upd (upd (upd (upd (upd (upd (upd fX0 80 100) 81 100) 82 0) 83 0) 84 1) 241 0) 672 0) 674 0) (g_u (g_u r0 6 (va_cpy (r0 2) (r0 6) 0 0 80)) 16 (va_cpy (r0 12) (r0 16) 0 0 60))  rfl) ml_X10_208 yV_X7_largestStanding d_X10_most_30 (by unfold g_rr; decide) (by decide) 35 rfl rfl rfl (Nat.le_of_ble_eq_true rfl) (fun r7 w8 h9 => ?_)
    subst h9
    refine g_istore_n cx [(2, .int 0), (0, .ref (ad 0)), (1, .int a)] d_X10_most_33 (by decide) rfl ?_
    refine g_iload_n cx 2 rfl d_X10_most_34 ?_
    refine g_if_ne cx 45 d_X10_most_35 (by decide) (fun zc35 => ?_) (fun zc35 => ?_)
    · refine g_iload_n cx 0 rfl d_X10_most_45 ?_
      exact hret d_X10_most_46 (Nat.le_of_ble_eq_true rfl) (Nat.le_of_ble_eq_true rfl) rfl (by show _ = S_most a; unfold S_most; first | rw [if_neg zc6] | rw [if_pos zc6])
    · refine g_iload_n cx 0 rfl d_X10_most_38 ?_
      refine g_cOiW cx [.int 0] [] (c_J6_bitCount_0f7a4 l X _ 0) ml_X10_211 yS_J6_bitCount_0f7a4 d_X10_most_39 (by unfold g_rr; decide) (by decide) rfl (Nat.le_of_ble_eq_true rfl) (fun r10 w11 h12 => ?_)
      obtain ⟨rfl, h12⟩ := h12
      refine g_toi 0 (h12 rfl) ?_
      refine g_goto cx 46 d_X10_most_42 (by decide) ?_
      exact hret d_X10_most_46 (Nat.le_of_ble_eq_true rfl) (Nat.le_of_ble_eq_true rfl) rfl (by show _ = S_most a; unfold S_most; first | rw [if_neg zc6] | rw [if_pos zc6])
  · refine g_iconst cx (-1) (by decide) d_X10_most_9 ?_
    exact hret d_X10_most_10 (Nat.le_of_ble_eq_true rfl) (Nat.le_of_ble_eq_true rfl) rfl (by show _ = S_most a; unfold S_most; first | rw [if_neg zc6] | rw [if_pos zc6])
theorem d_X10_worth_0 : g_dc cX10_worth 0 (.iload_n 2) 1 1 := ⟨by decide +kernel, rfl⟩
theorem d_X10_worth_1 : g_dc cX10_worth 1 (.iconst 0) 1 2 := ⟨by decide +kernel, rfl⟩
theorem d_X10_worth_2 : g_dc cX10_worth 2 (.iconst 1) 1 3 := ⟨by decide +kernel, rfl⟩
theorem d_X10_worth_3 : g_dc cX10_worth 3 (.invokestatic 82) 3 6 := ⟨by decide +kernel, rfl⟩
theorem d_X10_worth_6 : g_dc cX10_worth 6 (.ifCond .eq 18) 3 9 := ⟨by decide +kernel, rfl⟩
theorem d_X10_worth_9 : g_dc cX10_worth 9 (.aload_n 0) 1 10 := ⟨by decide +kernel, rfl⟩
theorem d_X10_worth_10 : g_dc cX10_worth 10 (.getfield 10) 3 13 := ⟨by decide +kernel, rfl⟩
theorem d_X10_worth_13 : g_dc cX10_worth 13 (.iload_n 1) 1 14 := ⟨by decide +kernel, rfl⟩
theorem d_X10_worth_14 : g_dc cX10_worth 14 (.invokevirtual 216) 3 17 := ⟨by decide +kernel, rfl⟩
theorem d_X10_worth_17 : g_dc cX10_worth 17 (.ifCond .eq 7) 3 20 := ⟨by decide +kernel, rfl⟩
theorem d_X10_worth_24 : g_dc cX10_worth 24 (.iconst 0) 1 25 := ⟨by decide +kernel, rfl⟩
theorem d_X10_worth_25 : g_dc cX10_worth 25 (.istore_n 3) 1 26 := ⟨by decide +kernel, rfl⟩
theorem d_X10_worth_26 : g_dc cX10_worth 26 (.iload_n 2) 1 27 := ⟨by decide +kernel, rfl⟩
theorem d_X10_worth_27 : g_dc cX10_worth 27 (.iconst 2) 1 28 := ⟨by decide +kernel, rfl⟩
theorem d_X10_worth_28 : g_dc cX10_worth 28 (.iconst 3) 1 29 := ⟨by decide +kernel, rfl⟩
theorem d_X10_worth_29 : g_dc cX10_worth 29 (.invokestatic 82) 3 32 := ⟨by decide +kernel, rfl⟩
theorem d_X10_worth_32 : g_dc cX10_worth 32 (.ifCond .eq 30) 3 35 := ⟨by decide +kernel, rfl⟩
theorem d_X10_worth_35 : g_dc cX10_worth 35 (.aload_n 0) 1 36 := ⟨by decide +kernel, rfl⟩
theorem d_X10_worth_36 : g_dc cX10_worth 36 (.getfield 10) 3 39 := ⟨by decide +kernel, rfl⟩
theorem d_X10_worth_39 : g_dc cX10_worth 39 (.iload_n 1) 1 40 := ⟨by decide +kernel, rfl⟩
theorem d_X10_worth_40 : g_dc cX10_worth 40 (.invokevirtual 102) 3 43 := ⟨by decide +kernel, rfl⟩
theorem d_X10_worth_43 : g_dc cX10_worth 43 (.ifCond .eq 19) 3 46 := ⟨by decide +kernel, rfl⟩
theorem d_X10_worth_62 : g_dc cX10_worth 62 (.iconst 0) 1 63 := ⟨by decide +kernel, rfl⟩
theorem d_X10_worth_63 : g_dc cX10_worth 63 (.istore 4) 2 65 := ⟨by decide +kernel, rfl⟩
theorem d_X10_worth_65 : g_dc cX10_worth 65 (.iload_n 3) 1 66 := ⟨by decide +kernel, rfl⟩
theorem d_X10_worth_66 : g_dc cX10_worth 66 (.ifCond .ne 11) 3 69 := ⟨by decide +kernel, rfl⟩
theorem d_X10_worth_69 : g_dc cX10_worth 69 (.iload 4) 2 71 := ⟨by decide +kernel, rfl⟩
theorem d_X10_worth_71 : g_dc cX10_worth 71 (.ifCond .ne 6) 3 74 := ⟨by decide +kernel, rfl⟩
theorem d_X10_worth_74 : g_dc cX10_worth 74 (.ldc 219) 2 76 := ⟨by decide +kernel, rfl⟩
theorem d_X10_worth_76 : g_dc cX10_worth 76 (.ireturn) 1 77 := ⟨by decide +kernel, rfl⟩
set_option maxHeartbeats 4000000 in
set_option maxRecDepth 100000 in
theorem c_X10_worth (l : Launch) (X : gX) (ad : Nat → Nat) (a b : Int32) : g_Ci l X yX10_worth cX10_worth 8 (some .int) 3 0 0 [.ref (ad 0), .int a, .int b] (wX X ad fX0 r0) (fun r _ => r = -100000) := by
  refine g_mi (by decide +kernel) (Nat.le_of_ble_eq_true rfl) (fun E cx hret => ?_)
  refine g_iload_n cx 2 rfl d_X10_worth_0 ?_
  refine g_iconst cx 0 (by decide) d_X10_worth_1 ?_
  refine g_iconst cx 1 (by decide) d_X10_worth_2 ?_
  refine g_cSiW cx [.int b, .int 0, .int 1] [] (c_X10_within l X _ b 0 1) ml_X10_82 yS_X10_within rfl d_X10_worth_3 (by unfold g_rr; decide) (by decide) rfl (Nat.le_of_ble_eq_true rfl) (fun r1 w2 h3 => ?_)
  obtain ⟨rfl, rfl⟩ := h3
  refine g_if_eq cx 24 d_X10_worth_6 (by decide) (fun zc6 => ?_) (fun zc6 => ?_)
  · refine g_iconst cx 0 (by decide) d_X10_worth_24 ?_
    refine g_istore_n cx [(3, .int 0), (0, .ref (ad 0)), (1, .int a), (2, .int b)] d_X10_worth_25 (by decide) rfl ?_
    refine g_iload_n cx 3 rfl d_X10_worth_26 ?_
    refine g_iconst cx 2 (by decide) d_X10_worth_27 ?_
    refine g_iconst cx 3 (by decide) d_X10_worth_28 ?_
    refine g_cSiW cx [.int b, .int 2, .int 3] [] (c_X10_within l X _ b 2 3) ml_X10_82 yS_X10_within rfl d_X10_worth_29 (by unfold g_rr; decide) (by decide) rfl (Nat.le_of_ble_eq_true rfl) (fun r4 w5 h6 => ?_)
    obtain ⟨rfl, rfl⟩ := h6
    refine g_if_eq cx 62 d_X10_worth_32 (by decide) (fun zc32 => ?_) (fun zc32 => ?_)
    · refine g_iconst cx 0 (by decide) d_X10_worth_62 ?_
      refine g_istore cx [(4, .int 0), (3, .int 0), (0, .ref (ad 0)), (1, .int a), (2, .int b)] d_X10_worth_63 (by decide) rfl ?_
      refine g_iload_n cx 1 rfl d_X10_worth_65 ?_
      refine g_if_ne_f cx 77 d_X10_worth_66 (by decide) (by decide) ?_
      refine g_iload cx 0 rfl d_X10_worth_69 ?_
      refine g_if_ne_f cx 77 d_X10_worth_71 (by decide) (by decide) ?_
      refine g_ldc cx (-100000) kc_X10_219 d_X10_worth_74 ?_
      exact hret d_X10_worth_76 (Nat.le_of_ble_eq_true rfl) (Nat.le_of_ble_eq_true rfl) rfl (rfl)
    · refine g_aload_n cx 1 rfl d_X10_worth_35 ?_
      refine g_get cx cl_X10 fl_X10_10 0 (.ref (ad 1)) d_X10_worth_36 rfl rfl ?_
      refine g_iload_n cx 2 rfl d_X10_worth_39 ?_
      refine g_cVi cx [.int a] [] (c_X8_has l X (ad 1) (ad 2) 100 100 0 0 1 (r0 2) a) ml_X10_102 yV_X8_has d_X10_worth_40 (by unfold g_rr; decide) (by decide) 0 rfl rfl [1, 2] rfl (by decide) rfl (Nat.le_of_ble_eq_true rfl) (by rintro _ _ ⟨rfl, _⟩; rfl) (fun r7 w8 h9 => ?_)
      obtain ⟨rfl, rfl⟩ := h9
      refine g_weq (wX X ad fX0 r0) (g_rep_same rfl) ?_
      refine g_toi 0 (g_has0 (rfl)) ?_
      refine g_if_eq_t cx 62 d_X10_worth_43 (by decide) (by decide) ?_
      refine g_iconst cx 0 (by decide) d_X10_worth_62 ?_
      refine g_istore cx [(4, .int 0), (3, .int 0), (0, .ref (ad 0)), (1, .int a), (2, .int b)] d_X10_worth_63 (by decide) rfl ?_
      refine g_iload_n cx 1 rfl d_X10_worth_65 ?_
      refine g_if_ne_f cx 77 d_X10_worth_66 (by decide) (by decide) ?_
      refine g_iload cx 0 rfl d_X10_worth_69 ?_
      refine g_if_ne_f cx 77 d_X10_worth_71 (by decide) (by decide) ?_
      refine g_ldc cx (-100000) kc_X10_219 d_X10_worth_74 ?_
      exact hret d_X10_worth_76 (Nat.le_of_ble_eq_true rfl) (Nat.le_of_ble_eq_true rfl) rfl (rfl)
  · refine g_aload_n cx 0 rfl d_X10_worth_9 ?_
    refine g_get cx cl_X10 fl_X10_10 0 (.ref (ad 1)) d_X10_worth_10 rfl rfl ?_
    refine g_iload_n cx 1 rfl d_X10_worth_13 ?_
    refine g_cVi cx [.int a] [] (c_X8_hasFold l X (ad 1) (ad 2) 100 100 0 0 1 (r0 2) a) ml_X10_216 yV_X8_hasFold d_X10_worth_14 (by unfold g_rr; decide) (by decide) 0 rfl rfl [1, 2] rfl (by decide) rfl (Nat.le_of_ble_eq_true rfl) (by rintro _ _ ⟨rfl, _⟩; rfl) (fun r10 w11 h12 => ?_)
    obtain ⟨rfl, rfl⟩ := h12
    refine g_weq (wX X ad fX0 r0) (g_rep_same rfl) ?_
    refine g_toi 0 (g_hf0 (rfl)) ?_
    refine g_if_eq_t cx 24 d_X10_worth_17 (by decide) (by decide) ?_
    refine g_iconst cx 0 (by decide) d_X10_worth_24 ?_
    refine g_istore_n cx [(3, .int 0), (0, .ref (ad 0)), (1, .int a), (2, .int b)] d_X10_worth_25 (by decide) rfl ?_
    refine g_iload_n cx 3 rfl d_X10_worth_26 ?_
    refine g_iconst cx 2 (by decide) d_X10_worth_27 ?_
    refine g_iconst cx 3 (by decide) d_X10_worth_28 ?_
    refine g_cSiW cx [.int b, .int 2, .int 3] [] (c_X10_within l X _ b 2 3) ml_X10_82 yS_X10_within rfl d_X10_worth_29 (by unfold g_rr; decide) (by decide) rfl (Nat.le_of_ble_eq_true rfl) (fun r13 w14 h15 => ?_)
    obtain ⟨rfl, rfl⟩ := h15
    refine g_if_eq cx 62 d_X10_worth_32 (by decide) (fun zc32 => ?_) (fun zc32 => ?_)
    · refine g_iconst cx 0 (by decide) d_X10_worth_62 ?_
      refine g_istore cx [(4, .int 0), (3, .int 0), (0, .ref (ad 0)), (1, .int a), (2, .int b)] d_X10_worth_63 (by decide) rfl ?_
      refine g_iload_n cx 1 rfl d_X10_worth_65 ?_
      refine g_if_ne_f cx 77 d_X10_worth_66 (by decide) (by decide) ?_
      refine g_iload cx 0 rfl d_X10_worth_69 ?_
      refine g_if_ne_f cx 77 d_X10_worth_71 (by decide) (by decide) ?_
      refine g_ldc cx (-100000) kc_X10_219 d_X10_worth_74 ?_
      exact hret d_X10_worth_76 (Nat.le_of_ble_eq_true rfl) (Nat.le_of_ble_eq_true rfl) rfl (rfl)
    · refine g_aload_n cx 1 rfl d_X10_worth_35 ?_
      refine g_get cx cl_X10 fl_X10_10 0 (.ref (ad 1)) d_X10_worth_36 rfl rfl ?_
      refine g_iload_n cx 2 rfl d_X10_worth_39 ?_
      refine g_cVi cx [.int a] [] (c_X8_has l X (ad 1) (ad 2) 100 100 0 0 1 (r0 2) a) ml_X10_102 yV_X8_has d_X10_worth_40 (by unfold g_rr; decide) (by decide) 0 rfl rfl [1, 2] rfl (by decide) rfl (Nat.le_of_ble_eq_true rfl) (by rintro _ _ ⟨rfl, _⟩; rfl) (fun r16 w17 h18 => ?_)
      obtain ⟨rfl, rfl⟩ := h18
      refine g_weq (wX X ad fX0 r0) (g_rep_same rfl) ?_
      refine g_toi 0 (g_has0 (rfl)) ?_
      refine g_if_eq_t cx 62 d_X10_worth_43 (by decide) (by decide) ?_
      refine g_iconst cx 0 (by decide) d_X10_worth_62 ?_
      refine g_istore cx [(4, .int 0), (3, .int 0), (0, .ref (ad 0)), (1, .int a), (2, .int b)] d_X10_worth_63 (by decide) rfl ?_
      refine g_iload_n cx 1 rfl d_X10_worth_65 ?_
      refine g_if_ne_f cx 77 d_X10_worth_66 (by decide) (by decide) ?_
      refine g_iload cx 0 rfl d_X10_worth_69 ?_
      refine g_if_ne_f cx 77 d_X10_worth_71 (by decide) (by decide) ?_
      refine g_ldc cx (-100000) kc_X10_219 d_X10_worth_74 ?_
      exact hret d_X10_worth_76 (Nat.le_of_ble_eq_true rfl) (Nat.le_of_ble_eq_true rfl) rfl (rfl)
theorem d_X10_canCompare_0 : g_dc cX10_canCompare 0 (.aload_n 0) 1 1 := ⟨by decide +kernel, rfl⟩
theorem d_X10_canCompare_1 : g_dc cX10_canCompare 1 (.getfield 10) 3 4 := ⟨by decide +kernel, rfl⟩
theorem d_X10_canCompare_4 : g_dc cX10_canCompare 4 (.getfield 95) 3 7 := ⟨by decide +kernel, rfl⟩
theorem d_X10_canCompare_7 : g_dc cX10_canCompare 7 (.ifCond .eq 27) 3 10 := ⟨by decide +kernel, rfl⟩
theorem d_X10_canCompare_34 : g_dc cX10_canCompare 34 (.iconst 0) 1 35 := ⟨by decide +kernel, rfl⟩
theorem d_X10_canCompare_35 : g_dc cX10_canCompare 35 (.ireturn) 1 36 := ⟨by decide +kernel, rfl⟩
set_option maxHeartbeats 4000000 in
set_option maxRecDepth 100000 in
theorem c_X10_canCompare (l : Launch) (X : gX) (ad : Nat → Nat) : g_Ci l X yX10_canCompare cX10_canCompare 1 (some .boolean) 2 0 0 [.ref (ad 0)] (wX X ad fX0 r0) (fun r w => w = wX X ad fX0 r0 ∧ r = 0) := by
  refine g_mi (by decide +kernel) (Nat.le_of_ble_eq_true rfl) (fun E cx hret => ?_)
  refine g_aload_n cx 0 rfl d_X10_canCompare_0 ?_
  refine g_get cx cl_X10 fl_X10_10 0 (.ref (ad 1)) d_X10_canCompare_1 rfl rfl ?_
  refine g_getN cx cl_X8 fn_X10_95 1 (.int 0) d_X10_canCompare_4 rfl rfl ?_
  refine g_if_eq_t cx 34 d_X10_canCompare_7 (by decide) (by decide) ?_
  refine g_iconst cx 0 (by decide) d_X10_canCompare_34 ?_
  exact hret d_X10_canCompare_35 (Nat.le_of_ble_eq_true rfl) (Nat.le_of_ble_eq_true rfl) rfl (⟨rfl, rfl⟩)
theorem d_X10_wasWet_0 : g_dc cX10_wasWet 0 (.iload_n 1) 1 1 := ⟨by decide +kernel, rfl⟩
theorem d_X10_wasWet_1 : g_dc cX10_wasWet 1 (.iconst 0) 1 2 := ⟨by decide +kernel, rfl⟩
theorem d_X10_wasWet_2 : g_dc cX10_wasWet 2 (.iconst 2) 1 3 := ⟨by decide +kernel, rfl⟩
theorem d_X10_wasWet_3 : g_dc cX10_wasWet 3 (.invokestatic 82) 3 6 := ⟨by decide +kernel, rfl⟩
theorem d_X10_wasWet_6 : g_dc cX10_wasWet 6 (.ifCond .eq 10) 3 9 := ⟨by decide +kernel, rfl⟩
theorem d_X10_wasWet_9 : g_dc cX10_wasWet 9 (.aload_n 0) 1 10 := ⟨by decide +kernel, rfl⟩
theorem d_X10_wasWet_10 : g_dc cX10_wasWet 10 (.invokevirtual 222) 3 13 := ⟨by decide +kernel, rfl⟩
theorem d_X10_wasWet_13 : g_dc cX10_wasWet 13 (.ifCond .ne 5) 3 16 := ⟨by decide +kernel, rfl⟩
theorem d_X10_wasWet_16 : g_dc cX10_wasWet 16 (.iconst (-1)) 1 17 := ⟨by decide +kernel, rfl⟩
theorem d_X10_wasWet_17 : g_dc cX10_wasWet 17 (.ireturn) 1 18 := ⟨by decide +kernel, rfl⟩
set_option maxHeartbeats 4000000 in
set_option maxRecDepth 100000 in
theorem c_X10_wasWet (l : Launch) (X : gX) (ad : Nat → Nat) (a : Int32) : g_Ci l X yX10_wasWet cX10_wasWet 2 (some .int) 3 0 0 [.ref (ad 0), .int a] (wX X ad fX0 r0) (fun r _ => r = -1) := by
  refine g_mi (by decide +kernel) (Nat.le_of_ble_eq_true rfl) (fun E cx hret => ?_)
  refine g_iload_n cx 1 rfl d_X10_wasWet_0 ?_
  refine g_iconst cx 0 (by decide) d_X10_wasWet_1 ?_
  refine g_iconst cx 2 (by decide) d_X10_wasWet_2 ?_
  refine g_cSiW cx [.int a, .int 0, .int 2] [] (c_X10_within l X _ a 0 2) ml_X10_82 yS_X10_within rfl d_X10_wasWet_3 (by unfold g_rr; decide) (by decide) rfl (Nat.le_of_ble_eq_true rfl) (fun r1 w2 h3 => ?_)
  obtain ⟨rfl, rfl⟩ := h3
  refine g_if_eq cx 16 d_X10_wasWet_6 (by decide) (fun zc6 => ?_) (fun zc6 => ?_)
  · refine g_iconst cx (-1) (by decide) d_X10_wasWet_16 ?_
    exact hret d_X10_wasWet_17 (Nat.le_of_ble_eq_true rfl) (Nat.le_of_ble_eq_true rfl) rfl (rfl)
  · refine g_aload_n cx 0 rfl d_X10_wasWet_9 ?_
    refine g_cViW cx [] [] (c_X10_canCompare l X ad) ml_X10_222 yV_X10_canCompare d_X10_wasWet_10 (by unfold g_rr; decide) (by decide) 0 rfl rfl rfl (Nat.le_of_ble_eq_true rfl) (fun r4 w5 h6 => ?_)
    obtain ⟨rfl, rfl⟩ := h6
    refine g_if_ne_f cx 18 d_X10_wasWet_13 (by decide) (by decide) ?_
    refine g_iconst cx (-1) (by decide) d_X10_wasWet_16 ?_
    exact hret d_X10_wasWet_17 (Nat.le_of_ble_eq_true rfl) (Nat.le_of_ble_eq_true rfl) rfl (rfl)
theorem d_X10_howQuick_0 : g_dc cX10_howQuick 0 (.iload_n 1) 1 1 := ⟨by decide +kernel, rfl⟩
theorem d_X10_howQuick_1 : g_dc cX10_howQuick 1 (.iconst 0) 1 2 := ⟨by decide +kernel, rfl⟩
theorem d_X10_howQuick_2 : g_dc cX10_howQuick 2 (.iconst 1) 1 3 := ⟨by decide +kernel, rfl⟩
theorem d_X10_howQuick_3 : g_dc cX10_howQuick 3 (.invokestatic 82) 3 6 := ⟨by decide +kernel, rfl⟩
theorem d_X10_howQuick_6 : g_dc cX10_howQuick 6 (.ifCond .eq 10) 3 9 := ⟨by decide +kernel, rfl⟩
theorem d_X10_howQuick_9 : g_dc cX10_howQuick 9 (.aload_n 0) 1 10 := ⟨by decide +kernel, rfl⟩
theorem d_X10_howQuick_10 : g_dc cX10_howQuick 10 (.invokevirtual 222) 3 13 := ⟨by decide +kernel, rfl⟩
theorem d_X10_howQuick_13 : g_dc cX10_howQuick 13 (.ifCond .ne 5) 3 16 := ⟨by decide +kernel, rfl⟩
theorem d_X10_howQuick_16 : g_dc cX10_howQuick 16 (.iconst (-1)) 1 17 := ⟨by decide +kernel, rfl⟩
theorem d_X10_howQuick_17 : g_dc cX10_howQuick 17 (.ireturn) 1 18 := ⟨by decide +kernel, rfl⟩
set_option maxHeartbeats 4000000 in
set_option maxRecDepth 100000 in
theorem c_X10_howQuick (l : Launch) (X : gX) (ad : Nat → Nat) (a : Int32) : g_Ci l X yX10_howQuick cX10_howQuick 2 (some .int) 3 0 0 [.ref (ad 0), .int a] (wX X ad fX0 r0) (fun r _ => r = -1) := by
  refine g_mi (by decide +kernel) (Nat.le_of_ble_eq_true rfl) (fun E cx hret => ?_)
  refine g_iload_n cx 1 rfl d_X10_howQuick_0 ?_
  refine g_iconst cx 0 (by decide) d_X10_howQuick_1 ?_
  refine g_iconst cx 1 (by decide) d_X10_howQuick_2 ?_
  refine g_cSiW cx [.int a, .int 0, .int 1] [] (c_X10_within l X _ a 0 1) ml_X10_82 yS_X10_within rfl d_X10_howQuick_3 (by unfold g_rr; decide) (by decide) rfl (Nat.le_of_ble_eq_true rfl) (fun r1 w2 h3 => ?_)
  obtain ⟨rfl, rfl⟩ := h3
  refine g_if_eq cx 16 d_X10_howQuick_6 (by decide) (fun zc6 => ?_) (fun zc6 => ?_)
  · refine g_iconst cx (-1) (by decide) d_X10_howQuick_16 ?_
    exact hret d_X10_howQuick_17 (Nat.le_of_ble_eq_true rfl) (Nat.le_of_ble_eq_true rfl) rfl (rfl)
  · refine g_aload_n cx 0 rfl d_X10_howQuick_9 ?_
    refine g_cViW cx [] [] (c_X10_canCompare l X ad) ml_X10_222 yV_X10_canCompare d_X10_howQuick_10 (by unfold g_rr; decide) (by decide) 0 rfl rfl rfl (Nat.le_of_ble_eq_true rfl) (fun r4 w5 h6 => ?_)
    obtain ⟨rfl, rfl⟩ := h6
    refine g_if_ne_f cx 18 d_X10_howQuick_13 (by decide) (by decide) ?_
    refine g_iconst cx (-1) (by decide) d_X10_howQuick_16 ?_
    exact hret d_X10_howQuick_17 (Nat.le_of_ble_eq_true rfl) (Nat.le_of_ble_eq_true rfl) rfl (rfl)
theorem d_X10_odds_0 : g_dc cX10_odds 0 (.iload_n 1) 1 1 := ⟨by decide +kernel, rfl⟩
theorem d_X10_odds_1 : g_dc cX10_odds 1 (.iconst 1) 1 2 := ⟨by decide +kernel, rfl⟩
theorem d_X10_odds_2 : g_dc cX10_odds 2 (.iconst 3) 1 3 := ⟨by decide +kernel, rfl⟩
theorem d_X10_odds_3 : g_dc cX10_odds 3 (.invokestatic 82) 3 6 := ⟨by decide +kernel, rfl⟩
theorem d_X10_odds_6 : g_dc cX10_odds 6 (.ifCond .eq 26) 3 9 := ⟨by decide +kernel, rfl⟩
theorem d_X10_odds_9 : g_dc cX10_odds 9 (.iload_n 2) 1 10 := ⟨by decide +kernel, rfl⟩
theorem d_X10_odds_10 : g_dc cX10_odds 10 (.iconst 0) 1 11 := ⟨by decide +kernel, rfl⟩
theorem d_X10_odds_11 : g_dc cX10_odds 11 (.bipush 10) 2 13 := ⟨by decide +kernel, rfl⟩
theorem d_X10_odds_13 : g_dc cX10_odds 13 (.invokestatic 82) 3 16 := ⟨by decide +kernel, rfl⟩
theorem d_X10_odds_16 : g_dc cX10_odds 16 (.ifCond .eq 16) 3 19 := ⟨by decide +kernel, rfl⟩
theorem d_X10_odds_19 : g_dc cX10_odds 19 (.iload_n 3) 1 20 := ⟨by decide +kernel, rfl⟩
theorem d_X10_odds_20 : g_dc cX10_odds 20 (.iconst 0) 1 21 := ⟨by decide +kernel, rfl⟩
theorem d_X10_odds_21 : g_dc cX10_odds 21 (.iconst 1) 1 22 := ⟨by decide +kernel, rfl⟩
theorem d_X10_odds_22 : g_dc cX10_odds 22 (.invokestatic 82) 3 25 := ⟨by decide +kernel, rfl⟩
theorem d_X10_odds_25 : g_dc cX10_odds 25 (.ifCond .eq 7) 3 28 := ⟨by decide +kernel, rfl⟩
theorem d_X10_odds_28 : g_dc cX10_odds 28 (.iconst 1) 1 29 := ⟨by decide +kernel, rfl⟩
theorem d_X10_odds_29 : g_dc cX10_odds 29 (.goto 4) 3 32 := ⟨by decide +kernel, rfl⟩
theorem d_X10_odds_32 : g_dc cX10_odds 32 (.iconst 0) 1 33 := ⟨by decide +kernel, rfl⟩
theorem d_X10_odds_33 : g_dc cX10_odds 33 (.istore 4) 2 35 := ⟨by decide +kernel, rfl⟩
theorem d_X10_odds_35 : g_dc cX10_odds 35 (.iload 4) 2 37 := ⟨by decide +kernel, rfl⟩
theorem d_X10_odds_37 : g_dc cX10_odds 37 (.ifCond .eq 13) 3 40 := ⟨by decide +kernel, rfl⟩
theorem d_X10_odds_40 : g_dc cX10_odds 40 (.aload_n 0) 1 41 := ⟨by decide +kernel, rfl⟩
theorem d_X10_odds_41 : g_dc cX10_odds 41 (.getfield 29) 3 44 := ⟨by decide +kernel, rfl⟩
theorem d_X10_odds_44 : g_dc cX10_odds 44 (.getfield 124) 3 47 := ⟨by decide +kernel, rfl⟩
theorem d_X10_odds_47 : g_dc cX10_odds 47 (.ifCond .ne 5) 3 50 := ⟨by decide +kernel, rfl⟩
theorem d_X10_odds_50 : g_dc cX10_odds 50 (.iconst (-1)) 1 51 := ⟨by decide +kernel, rfl⟩
theorem d_X10_odds_51 : g_dc cX10_odds 51 (.ireturn) 1 52 := ⟨by decide +kernel, rfl⟩
set_option maxHeartbeats 4000000 in
set_option maxRecDepth 100000 in
theorem c_X10_odds (l : Launch) (X : gX) (ad : Nat → Nat) (a b c : Int32) : g_Ci l X yX10_odds cX10_odds 9 (some .int) 3 0 0 [.ref (ad 0), .int a, .int b, .int c] (wX X ad fX0 r0) (fun r _ => r = -1) := by
  refine g_mi (by decide +kernel) (Nat.le_of_ble_eq_true rfl) (fun E cx hret => ?_)
  refine g_iload_n cx 1 rfl d_X10_odds_0 ?_
  refine g_iconst cx 1 (by decide) d_X10_odds_1 ?_
  refine g_iconst cx 3 (by decide) d_X10_odds_2 ?_
  refine g_cSiW cx [.int a, .int 1, .int 3] [] (c_X10_within l X _ a 1 3) ml_X10_82 yS_X10_within rfl d_X10_odds_3 (by unfold g_rr; decide) (by decide) rfl (Nat.le_of_ble_eq_true rfl) (fun r1 w2 h3 => ?_)
  obtain ⟨rfl, rfl⟩ := h3
  refine g_if_eq cx 32 d_X10_odds_6 (by decide) (fun zc6 => ?_) (fun zc6 => ?_)
  · refine g_iconst cx 0 (by decide) d_X10_odds_32 ?_
    refine g_istore cx [(4, .int 0), (0, .ref (ad 0)), (1, .int a), (2, .int b), (3, .int c)] d_X10_odds_33 (by decide) rfl ?_
    refine g_iload cx 0 rfl d_X10_odds_35 ?_
    refine g_if_eq_t cx 50 d_X10_odds_37 (by decide) (by decide) ?_
    refine g_iconst cx (-1) (by decide) d_X10_odds_50 ?_
    exact hret d_X10_odds_51 (Nat.le_of_ble_eq_true rfl) (Nat.le_of_ble_eq_true rfl) rfl (rfl)
  · refine g_iload_n cx 2 rfl d_X10_odds_9 ?_
    refine g_iconst cx 0 (by decide) d_X10_odds_10 ?_
    refine g_bipush cx 10 (by decide) d_X10_odds_11 ?_
    refine g_cSiW cx [.int b, .int 0, .int 10] [] (c_X10_within l X _ b 0 10) ml_X10_82 yS_X10_within rfl d_X10_odds_13 (by unfold g_rr; decide) (by decide) rfl (Nat.le_of_ble_eq_true rfl) (fun r4 w5 h6 => ?_)
    obtain ⟨rfl, rfl⟩ := h6
    refine g_if_eq cx 32 d_X10_odds_16 (by decide) (fun zc16 => ?_) (fun zc16 => ?_)
    · refine g_iconst cx 0 (by decide) d_X10_odds_32 ?_
      refine g_istore cx [(4, .int 0), (0, .ref (ad 0)), (1, .int a), (2, .int b), (3, .int c)] d_X10_odds_33 (by decide) rfl ?_
      refine g_iload cx 0 rfl d_X10_odds_35 ?_
      refine g_if_eq_t cx 50 d_X10_odds_37 (by decide) (by decide) ?_
      refine g_iconst cx (-1) (by decide) d_X10_odds_50 ?_
      exact hret d_X10_odds_51 (Nat.le_of_ble_eq_true rfl) (Nat.le_of_ble_eq_true rfl) rfl (rfl)
    · refine g_iload_n cx 3 rfl d_X10_odds_19 ?_
      refine g_iconst cx 0 (by decide) d_X10_odds_20 ?_
      refine g_iconst cx 1 (by decide) d_X10_odds_21 ?_
      refine g_cSiW cx [.int c, .int 0, .int 1] [] (c_X10_within l X _ c 0 1) ml_X10_82 yS_X10_within rfl d_X10_odds_22 (by unfold g_rr; decide) (by decide) rfl (Nat.le_of_ble_eq_true rfl) (fun r7 w8 h9 => ?_)
      obtain ⟨rfl, rfl⟩ := h9
      refine g_if_eq cx 32 d_X10_odds_25 (by decide) (fun zc25 => ?_) (fun zc25 => ?_)
      · refine g_iconst cx 0 (by decide) d_X10_odds_32 ?_
        refine g_istore cx [(4, .int 0), (0, .ref (ad 0)), (1, .int a), (2, .int b), (3, .int c)] d_X10_odds_33 (by decide) rfl ?_
        refine g_iload cx 0 rfl d_X10_odds_35 ?_
        refine g_if_eq_t cx 50 d_X10_odds_37 (by decide) (by decide) ?_
        refine g_iconst cx (-1) (by decide) d_X10_odds_50 ?_
        exact hret d_X10_odds_51 (Nat.le_of_ble_eq_true rfl) (Nat.le_of_ble_eq_true rfl) rfl (rfl)
      · refine g_iconst cx 1 (by decide) d_X10_odds_28 ?_
        refine g_goto cx 33 d_X10_odds_29 (by decide) ?_
        refine g_istore cx [(4, .int 1), (0, .ref (ad 0)), (1, .int a), (2, .int b), (3, .int c)] d_X10_odds_33 (by decide) rfl ?_
        refine g_iload cx 0 rfl d_X10_odds_35 ?_
        refine g_if_eq_f cx 50 d_X10_odds_37 (by decide) (by decide) ?_
        refine g_aload_n cx 1 rfl d_X10_odds_40 ?_
        refine g_get cx cl_X10 fl_X10_29 0 (.ref (ad 11)) d_X10_odds_41 rfl rfl ?_
        refine g_getN cx cl_X5 fn_X10_124 11 (.int 0) d_X10_odds_44 rfl rfl ?_
        refine g_if_ne_f cx 52 d_X10_odds_47 (by decide) (by decide) ?_
        refine g_iconst cx (-1) (by decide) d_X10_odds_50 ?_
        exact hret d_X10_odds_51 (Nat.le_of_ble_eq_true rfl) (Nat.le_of_ble_eq_true rfl) rfl (rfl)
theorem d_X10_should_0 : g_dc cX10_should 0 (.iload_n 1) 1 1 := ⟨by decide +kernel, rfl⟩
theorem d_X10_should_1 : g_dc cX10_should 1 (.iconst 1) 1 2 := ⟨by decide +kernel, rfl⟩
theorem d_X10_should_2 : g_dc cX10_should 2 (.iconst 3) 1 3 := ⟨by decide +kernel, rfl⟩
theorem d_X10_should_3 : g_dc cX10_should 3 (.invokestatic 82) 3 6 := ⟨by decide +kernel, rfl⟩
theorem d_X10_should_6 : g_dc cX10_should 6 (.ifCond .eq 24) 3 9 := ⟨by decide +kernel, rfl⟩
theorem d_X10_should_9 : g_dc cX10_should 9 (.iload_n 2) 1 10 := ⟨by decide +kernel, rfl⟩
theorem d_X10_should_10 : g_dc cX10_should 10 (.iconst 0) 1 11 := ⟨by decide +kernel, rfl⟩
theorem d_X10_should_11 : g_dc cX10_should 11 (.sipush 9999) 3 14 := ⟨by decide +kernel, rfl⟩
theorem d_X10_should_14 : g_dc cX10_should 14 (.invokestatic 82) 3 17 := ⟨by decide +kernel, rfl⟩
theorem d_X10_should_17 : g_dc cX10_should 17 (.ifCond .eq 13) 3 20 := ⟨by decide +kernel, rfl⟩
theorem d_X10_should_20 : g_dc cX10_should 20 (.aload_n 0) 1 21 := ⟨by decide +kernel, rfl⟩
theorem d_X10_should_21 : g_dc cX10_should 21 (.getfield 29) 3 24 := ⟨by decide +kernel, rfl⟩
theorem d_X10_should_24 : g_dc cX10_should 24 (.getfield 124) 3 27 := ⟨by decide +kernel, rfl⟩
theorem d_X10_should_27 : g_dc cX10_should 27 (.ifCond .ne 6) 3 30 := ⟨by decide +kernel, rfl⟩
theorem d_X10_should_30 : g_dc cX10_should 30 (.ldc 252) 2 32 := ⟨by decide +kernel, rfl⟩
theorem d_X10_should_32 : g_dc cX10_should 32 (.ireturn) 1 33 := ⟨by decide +kernel, rfl⟩
set_option maxHeartbeats 4000000 in
set_option maxRecDepth 100000 in
theorem c_X10_should (l : Launch) (X : gX) (ad : Nat → Nat) (a b : Int32) : g_Ci l X yX10_should cX10_should 3 (some .int) 3 0 0 [.ref (ad 0), .int a, .int b] (wX X ad fX0 r0) (fun r _ => r = -1000000000) := by
  refine g_mi (by decide +kernel) (Nat.le_of_ble_eq_true rfl) (fun E cx hret => ?_)
  refine g_iload_n cx 1 rfl d_X10_should_0 ?_
  refine g_iconst cx 1 (by decide) d_X10_should_1 ?_
  refine g_iconst cx 3 (by decide) d_X10_should_2 ?_
  refine g_cSiW cx [.int a, .int 1, .int 3] [] (c_X10_within l X _ a 1 3) ml_X10_82 yS_X10_within rfl d_X10_should_3 (by unfold g_rr; decide) (by decide) rfl (Nat.le_of_ble_eq_true rfl) (fun r1 w2 h3 => ?_)
  obtain ⟨rfl, rfl⟩ := h3
  refine g_if_eq cx 30 d_X10_should_6 (by decide) (fun zc6 => ?_) (fun zc6 => ?_)
  · refine g_ldc cx (-1000000000) kc_X10_252 d_X10_should_30 ?_
    exact hret d_X10_should_32 (Nat.le_of_ble_eq_true rfl) (Nat.le_of_ble_eq_true rfl) rfl (rfl)
  · refine g_iload_n cx 2 rfl d_X10_should_9 ?_
    refine g_iconst cx 0 (by decide) d_X10_should_10 ?_
    refine g_sipush cx 9999 (by decide) d_X10_should_11 ?_
    refine g_cSiW cx [.int b, .int 0, .int 9999] [] (c_X10_within l X _ b 0 9999) ml_X10_82 yS_X10_within rfl d_X10_should_14 (by unfold g_rr; decide) (by decide) rfl (Nat.le_of_ble_eq_true rfl) (fun r4 w5 h6 => ?_)
    obtain ⟨rfl, rfl⟩ := h6
    refine g_if_eq cx 30 d_X10_should_17 (by decide) (fun zc17 => ?_) (fun zc17 => ?_)
    · refine g_ldc cx (-1000000000) kc_X10_252 d_X10_should_30 ?_
      exact hret d_X10_should_32 (Nat.le_of_ble_eq_true rfl) (Nat.le_of_ble_eq_true rfl) rfl (rfl)
    · refine g_aload_n cx 0 rfl d_X10_should_20 ?_
      refine g_get cx cl_X10 fl_X10_29 0 (.ref (ad 11)) d_X10_should_21 rfl rfl ?_
      refine g_getN cx cl_X5 fn_X10_124 11 (.int 0) d_X10_should_24 rfl rfl ?_
      refine g_if_ne_f cx 33 d_X10_should_27 (by decide) (by decide) ?_
      refine g_ldc cx (-1000000000) kc_X10_252 d_X10_should_30 ?_
      exact hret d_X10_should_32 (Nat.le_of_ble_eq_true rfl) (Nat.le_of_ble_eq_true rfl) rfl (rfl)
theorem d_X10_seed_0 : g_dc cX10_seed 0 (.iload_n 1) 1 1 := ⟨by decide +kernel, rfl⟩
theorem d_X10_seed_1 : g_dc cX10_seed 1 (.iconst 0) 1 2 := ⟨by decide +kernel, rfl⟩
theorem d_X10_seed_2 : g_dc cX10_seed 2 (.ldc_w 263) 3 5 := ⟨by decide +kernel, rfl⟩
theorem d_X10_seed_5 : g_dc cX10_seed 5 (.invokestatic 82) 3 8 := ⟨by decide +kernel, rfl⟩
theorem d_X10_seed_8 : g_dc cX10_seed 8 (.ifCond .ne 5) 3 11 := ⟨by decide +kernel, rfl⟩
theorem d_X10_seed_11 : g_dc cX10_seed 11 (.iconst 0) 1 12 := ⟨by decide +kernel, rfl⟩
theorem d_X10_seed_12 : g_dc cX10_seed 12 (.ireturn) 1 13 := ⟨by decide +kernel, rfl⟩
theorem d_X10_seed_13 : g_dc cX10_seed 13 (.aload_n 0) 1 14 := ⟨by decide +kernel, rfl⟩
theorem d_X10_seed_14 : g_dc cX10_seed 14 (.getfield 10) 3 17 := ⟨by decide +kernel, rfl⟩
theorem d_X10_seed_17 : g_dc cX10_seed 17 (.iload_n 1) 1 18 := ⟨by decide +kernel, rfl⟩
theorem d_X10_seed_18 : g_dc cX10_seed 18 (.putfield 168) 3 21 := ⟨by decide +kernel, rfl⟩
theorem d_X10_seed_21 : g_dc cX10_seed 21 (.iconst 1) 1 22 := ⟨by decide +kernel, rfl⟩
theorem d_X10_seed_22 : g_dc cX10_seed 22 (.ireturn) 1 23 := ⟨by decide +kernel, rfl⟩
set_option maxHeartbeats 4000000 in
set_option maxRecDepth 100000 in
theorem c_X10_seed (l : Launch) (X : gX) (ad : Nat → Nat) (a : Int32) : g_Ci l X yX10_seed cX10_seed 2 (some .boolean) 2 0 0 [.ref (ad 0), .int a] (wX X ad fX0 r0) (fun r _ => r = S_seed a) := by
  refine g_mi (by decide +kernel) (Nat.le_of_ble_eq_true rfl) (fun E cx hret => ?_)
  refine g_iload_n cx 1 rfl d_X10_seed_0 ?_
  refine g_iconst cx 0 (by decide) d_X10_seed_1 ?_
  refine g_ldcw cx 65535 kc_X10_263 d_X10_seed_2 ?_
  refine g_cSiW cx [.int a, .int 0, .int 65535] [] (c_X10_within l X _ a 0 65535) ml_X10_82 yS_X10_within rfl d_X10_seed_5 (by unfold g_rr; decide) (by decide) rfl (Nat.le_of_ble_eq_true rfl) (fun r1 w2 h3 => ?_)
  obtain ⟨rfl, rfl⟩ := h3
  refine g_if_ne cx 13 d_X10_seed_8 (by decide) (fun zc8 => ?_) (fun zc8 => ?_)
  · refine g_aload_n cx 0 rfl d_X10_seed_13 ?_
    refine g_get cx cl_X10 fl_X10_10 0 (.ref (ad 1)) d_X10_seed_14 rfl rfl ?_
    refine g_iload_n cx 1 rfl d_X10_seed_17 ?_
    refine g_putN cx cl_X8 fn_X10_168 1 (wX X ad (upd fX0 20 a) r0) d_X10_seed_18 rfl rfl rfl rfl (Nat.le_of_ble_eq_true rfl) rfl ?_
    refine g_iconst cx 1 (by decide) d_X10_seed_21 ?_
    exact hret d_X10_seed_22 (Nat.le_of_ble_eq_true rfl) (Nat.le_of_ble_eq_true rfl) rfl (by simp [S_seed, *])
  · refine g_iconst cx 0 (by decide) d_X10_seed_11 ?_
    exact hret d_X10_seed_12 (Nat.le_of_ble_eq_true rfl) (Nat.le_of_ble_eq_true rfl) rfl (by simp [S_seed, *])
theorem d_X10_keep_0 : g_dc cX10_keep 0 (.aload_n 0) 1 1 := ⟨by decide +kernel, rfl⟩
theorem d_X10_keep_1 : g_dc cX10_keep 1 (.getfield 16) 3 4 := ⟨by decide +kernel, rfl⟩
theorem d_X10_keep_4 : g_dc cX10_keep 4 (.aload_n 0) 1 5 := ⟨by decide +kernel, rfl⟩
theorem d_X10_keep_5 : g_dc cX10_keep 5 (.getfield 10) 3 8 := ⟨by decide +kernel, rfl⟩
theorem d_X10_keep_8 : g_dc cX10_keep 8 (.invokevirtual 264) 3 11 := ⟨by decide +kernel, rfl⟩
theorem d_X10_keep_11 : g_dc cX10_keep 11 (.aload_n 0) 1 12 := ⟨by decide +kernel, rfl⟩
theorem d_X10_keep_12 : g_dc cX10_keep 12 (.iconst 1) 1 13 := ⟨by decide +kernel, rfl⟩
theorem d_X10_keep_13 : g_dc cX10_keep 13 (.putfield 74) 3 16 := ⟨by decide +kernel, rfl⟩
theorem d_X10_keep_16 : g_dc cX10_keep 16 (.aload_n 0) 1 17 := ⟨by decide +kernel, rfl⟩
theorem d_X10_keep_17 : g_dc cX10_keep 17 (.getfield 10) 3 20 := ⟨by decide +kernel, rfl⟩
theorem d_X10_keep_20 : g_dc cX10_keep 20 (.getfield 95) 3 23 := ⟨by decide +kernel, rfl⟩
theorem d_X10_keep_23 : g_dc cX10_keep 23 (.invokestatic 211) 3 26 := ⟨by decide +kernel, rfl⟩
theorem d_X10_keep_26 : g_dc cX10_keep 26 (.ireturn) 1 27 := ⟨by decide +kernel, rfl⟩
set_option maxHeartbeats 4000000 in
set_option maxRecDepth 100000 in
theorem c_X10_keep (l : Launch) (X : gX) (ad : Nat → Nat) : g_Ci l X yX10_keep cX10_keep 1 (some .int) 2 0 0 [.ref (ad 0)] (wX X ad fX0 r0) (fun r _ => r = 0) := by
  refine g_mi (by decide +kernel) (Nat.le_of_ble_eq_true rfl) (fun E cx hret => ?_)
  refine g_aload_n cx 0 rfl d_X10_keep_0 ?_
  refine g_get cx cl_X10 fl_X10_16 0 (.ref (ad 3)) d_X10_keep_1 rfl rfl ?_
  refine g_aload_n cx 0 rfl d_X10_keep_4 ?_
  refine g_get cx cl_X10 fl_X10_10 0 (.ref (ad 1)) d_X10_keep_5 rfl rfl ?_
  refine g_cVv cx [.ref (ad 1)] [] (c_X8_copy l X (ad 3) (ad 4) 100 100 0 0 1 (r0 4) (ad 1) (ad 2) 100 100 0 0 1 (r0 2)) ml_X10_264 yV_X8_copy d_X10_keep_8 (by unfold g_rr; decide) (by decide) 0 rfl rfl [3, 4, 1, 2] rfl (by decide) rfl (Nat.le_of_ble_eq_true rfl) (by rintro _ ⟨rfl, _⟩; rfl) (fun w2 h3 => ?_)
  obtain ⟨rfl, -⟩ := h3
  refine g_weq (wX X ad (upd (upd (upd (upd (upd fX0 48 100) 49 100) 50 0) 51 0) 52 1) (g_u r0 4 (va_cpy (r0 2) (r0 4) 0 0 80))) rfl ?_
  refine g_aload_n cx 0 rfl d_X10_keep_11 ?_
  refine g_iconst cx 1 (by decide) d_X10_keep_12 ?_
  refine g_put cx cl_X10 fl_X10_74 0 (wX X ad (upd (upd (upd (upd (upd (upd fX0 11 1) 48 100) 49 100) 50 0) 51 0) 52 1) (g_u r0 4 (va_cpy (r0 2) (r0 4) 0 0 80))) d_X10_keep_13 rfl rfl rfl rfl (Nat.le_of_ble_eq_true rfl) rfl ?_
  refine g_aload_n cx 0 rfl d_X10_keep_16 ?_
  refine g_get cx cl_X10 fl_X10_10 0 (.ref (ad 1)) d_X10_keep_17 rfl rfl ?_
  refine g_getN cx cl_X8 fn_X10_95 1 (.int 0) d_X10_keep_20 rfl rfl ?_
  refine g_cOiW cx [.int 0] [] (c_J6_bitCount_0f7a4 l X _ 0) ml_X10_211 yS_J6_bitCount_0f7a4 d_X10_keep_23 (by unfold g_rr; decide) (by decide) rfl (Nat.le_of_ble_eq_true rfl) (fun r4 w5 h6 => ?_)
  obtain ⟨rfl, h6⟩ := h6
  refine g_toi 0 (h6 rfl) ?_
  exact hret d_X10_keep_26 (Nat.le_of_ble_eq_true rfl) (Nat.le_of_ble_eq_true rfl) rfl (rfl)
theorem d_X10_undo_0 : g_dc cX10_undo 0 (.aload_n 0) 1 1 := ⟨by decide +kernel, rfl⟩
theorem d_X10_undo_1 : g_dc cX10_undo 1 (.getfield 74) 3 4 := ⟨by decide +kernel, rfl⟩
theorem d_X10_undo_4 : g_dc cX10_undo 4 (.ifCond .ne 5) 3 7 := ⟨by decide +kernel, rfl⟩
theorem d_X10_undo_7 : g_dc cX10_undo 7 (.iconst 0) 1 8 := ⟨by decide +kernel, rfl⟩
theorem d_X10_undo_8 : g_dc cX10_undo 8 (.ireturn) 1 9 := ⟨by decide +kernel, rfl⟩
set_option maxHeartbeats 4000000 in
set_option maxRecDepth 100000 in
theorem c_X10_undo (l : Launch) (X : gX) (ad : Nat → Nat) : g_Ci l X yX10_undo cX10_undo 1 (some .boolean) 2 0 0 [.ref (ad 0)] (wX X ad fX0 r0) (fun r _ => r = 0) := by
  refine g_mi (by decide +kernel) (Nat.le_of_ble_eq_true rfl) (fun E cx hret => ?_)
  refine g_aload_n cx 0 rfl d_X10_undo_0 ?_
  refine g_get cx cl_X10 fl_X10_74 0 (.int 0) d_X10_undo_1 rfl rfl ?_
  refine g_if_ne_f cx 9 d_X10_undo_4 (by decide) (by decide) ?_
  refine g_iconst cx 0 (by decide) d_X10_undo_7 ?_
  exact hret d_X10_undo_8 (Nat.le_of_ble_eq_true rfl) (Nat.le_of_ble_eq_true rfl) rfl (rfl)
theorem d_X10_check_0 : g_dc cX10_check 0 (.iload_n 1) 1 1 := ⟨by decide +kernel, rfl⟩
theorem d_X10_check_1 : g_dc cX10_check 1 (.iconst 0) 1 2 := ⟨by decide +kernel, rfl⟩
theorem d_X10_check_2 : g_dc cX10_check 2 (.bipush 10) 2 4 := ⟨by decide +kernel, rfl⟩
theorem d_X10_check_4 : g_dc cX10_check 4 (.invokestatic 82) 3 7 := ⟨by decide +kernel, rfl⟩
theorem d_X10_check_7 : g_dc cX10_check 7 (.ifCond .eq 16) 3 10 := ⟨by decide +kernel, rfl⟩
theorem d_X10_check_10 : g_dc cX10_check 10 (.iload_n 1) 1 11 := ⟨by decide +kernel, rfl⟩
theorem d_X10_check_11 : g_dc cX10_check 11 (.iconst 4) 1 12 := ⟨by decide +kernel, rfl⟩
theorem d_X10_check_12 : g_dc cX10_check 12 (.imul) 1 13 := ⟨by decide +kernel, rfl⟩
theorem d_X10_check_13 : g_dc cX10_check 13 (.aload_n 0) 1 14 := ⟨by decide +kernel, rfl⟩
theorem d_X10_check_14 : g_dc cX10_check 14 (.getfield 22) 3 17 := ⟨by decide +kernel, rfl⟩
theorem d_X10_check_17 : g_dc cX10_check 17 (.getfield 110) 3 20 := ⟨by decide +kernel, rfl⟩
theorem d_X10_check_20 : g_dc cX10_check 20 (.if_icmp .le 6) 3 23 := ⟨by decide +kernel, rfl⟩
theorem d_X10_check_23 : g_dc cX10_check 23 (.bipush (-2)) 2 25 := ⟨by decide +kernel, rfl⟩
theorem d_X10_check_25 : g_dc cX10_check 25 (.ireturn) 1 26 := ⟨by decide +kernel, rfl⟩
theorem d_X10_check_26 : g_dc cX10_check 26 (.aload_n 0) 1 27 := ⟨by decide +kernel, rfl⟩
theorem d_X10_check_27 : g_dc cX10_check 27 (.getfield 22) 3 30 := ⟨by decide +kernel, rfl⟩
theorem d_X10_check_30 : g_dc cX10_check 30 (.iconst 0) 1 31 := ⟨by decide +kernel, rfl⟩
theorem d_X10_check_31 : g_dc cX10_check 31 (.putfield 110) 3 34 := ⟨by decide +kernel, rfl⟩
theorem d_X10_check_34 : g_dc cX10_check 34 (.iconst 0) 1 35 := ⟨by decide +kernel, rfl⟩
theorem d_X10_check_35 : g_dc cX10_check 35 (.istore_n 2) 1 36 := ⟨by decide +kernel, rfl⟩
theorem d_X10_check_36 : g_dc cX10_check 36 (.iload_n 2) 1 37 := ⟨by decide +kernel, rfl⟩
theorem d_X10_check_37 : g_dc cX10_check 37 (.iload_n 1) 1 38 := ⟨by decide +kernel, rfl⟩
theorem d_X10_check_38 : g_dc cX10_check 38 (.if_icmp .ge 48) 3 41 := ⟨by decide +kernel, rfl⟩
theorem d_X10_check_86 : g_dc cX10_check 86 (.iconst (-1)) 1 87 := ⟨by decide +kernel, rfl⟩
theorem d_X10_check_87 : g_dc cX10_check 87 (.ireturn) 1 88 := ⟨by decide +kernel, rfl⟩
set_option maxHeartbeats 4000000 in
set_option maxRecDepth 100000 in
theorem c_X10_check (l : Launch) (X : gX) (ad : Nat → Nat) (a : Int32) : g_Ci l X yX10_check cX10_check 4 (some .int) 3 0 0 [.ref (ad 0), .int a] (wX X ad fX0 r0) (fun r _ => r = S_check a) := by
  refine g_mi (by decide +kernel) (Nat.le_of_ble_eq_true rfl) (fun E cx hret => ?_)
  refine g_iload_n cx 1 rfl d_X10_check_0 ?_
  refine g_iconst cx 0 (by decide) d_X10_check_1 ?_
  refine g_bipush cx 10 (by decide) d_X10_check_2 ?_
  refine g_cSiW cx [.int a, .int 0, .int 10] [] (c_X10_within l X _ a 0 10) ml_X10_82 yS_X10_within rfl d_X10_check_4 (by unfold g_rr; decide) (by decide) rfl (Nat.le_of_ble_eq_true rfl) (fun r1 w2 h3 => ?_)
  obtain ⟨rfl, rfl⟩ := h3
  refine g_if_eq cx 23 d_X10_check_7 (by decide) (fun zc7 => ?_) (fun zc7 => ?_)
  · refine g_bipush cx (-2) (by decide) d_X10_check_23 ?_
    exact hret d_X10_check_25 (Nat.le_of_ble_eq_true rfl) (Nat.le_of_ble_eq_true rfl) rfl (by show _ = S_check a; first | (rw [g_n4 zc7 zc20]; decide) | (have hn := g_n4' zc7 zc20; simp [S_check, *]) | simp [S_check, *])
  · refine g_iload_n cx 1 rfl d_X10_check_10 ?_
    refine g_iconst cx 4 (by decide) d_X10_check_11 ?_
    refine g_imul cx d_X10_check_12 ?_
    refine g_aload_n cx 0 rfl d_X10_check_13 ?_
    refine g_get cx cl_X10 fl_X10_22 0 (.ref (ad 9)) d_X10_check_14 rfl rfl ?_
    refine g_getN cx cl_X9 fn_X10_110 9 (.int 0) d_X10_check_17 rfl rfl ?_
    refine g_icmp_le cx 26 d_X10_check_20 (by decide) (fun zc20 => ?_) (fun zc20 => ?_)
    · refine g_aload_n cx 0 rfl d_X10_check_26 ?_
      refine g_get cx cl_X10 fl_X10_22 0 (.ref (ad 9)) d_X10_check_27 rfl rfl ?_
      refine g_iconst cx 0 (by decide) d_X10_check_30 ?_
      refine g_putN cx cl_X9 fn_X10_110 9 (wX X ad (upd fX0 145 0) r0) d_X10_check_31 rfl rfl rfl rfl (Nat.le_of_ble_eq_true rfl) rfl ?_
      refine g_iconst cx 0 (by decide) d_X10_check_34 ?_
      refine g_istore_n cx [(2, .int 0), (0, .ref (ad 0)), (1, .int a)] d_X10_check_35 (by decide) rfl ?_
      refine g_iload_n cx 0 rfl d_X10_check_36 ?_
      refine g_iload_n cx 2 rfl d_X10_check_37 ?_
      refine g_icmp_ge_t cx 86 d_X10_check_38 (by decide) (by rw [g_n4 zc7 zc20]; exact Int32.le_refl 0) ?_
      refine g_iconst cx (-1) (by decide) d_X10_check_86 ?_
      exact hret d_X10_check_87 (Nat.le_of_ble_eq_true rfl) (Nat.le_of_ble_eq_true rfl) rfl (by show _ = S_check a; first | (rw [g_n4 zc7 zc20]; decide) | (have hn := g_n4' zc7 zc20; simp [S_check, *]) | simp [S_check, *])
    · refine g_bipush cx (-2) (by decide) d_X10_check_23 ?_
      exact hret d_X10_check_25 (Nat.le_of_ble_eq_true rfl) (Nat.le_of_ble_eq_true rfl) rfl (by show _ = S_check a; first | (rw [g_n4 zc7 zc20]; decide) | (have hn := g_n4' zc7 zc20; simp [S_check, *]) | simp [S_check, *])
theorem d_X10_count_0 : g_dc cX10_count 0 (.iload_n 1) 1 1 := ⟨by decide +kernel, rfl⟩
theorem d_X10_count_1 : g_dc cX10_count 1 (.tableswitch 111 0 7 #[47, 55, 63, 71, 79, 87, 95, 103]) 47 48 := ⟨by decide +kernel, rfl⟩
theorem d_X10_count_48 : g_dc cX10_count 48 (.aload_n 0) 1 49 := ⟨by decide +kernel, rfl⟩
theorem d_X10_count_49 : g_dc cX10_count 49 (.getfield 10) 3 52 := ⟨by decide +kernel, rfl⟩
theorem d_X10_count_52 : g_dc cX10_count 52 (.getfield 86) 3 55 := ⟨by decide +kernel, rfl⟩
theorem d_X10_count_55 : g_dc cX10_count 55 (.ireturn) 1 56 := ⟨by decide +kernel, rfl⟩
theorem d_X10_count_56 : g_dc cX10_count 56 (.aload_n 0) 1 57 := ⟨by decide +kernel, rfl⟩
theorem d_X10_count_57 : g_dc cX10_count 57 (.getfield 10) 3 60 := ⟨by decide +kernel, rfl⟩
theorem d_X10_count_60 : g_dc cX10_count 60 (.getfield 89) 3 63 := ⟨by decide +kernel, rfl⟩
theorem d_X10_count_63 : g_dc cX10_count 63 (.ireturn) 1 64 := ⟨by decide +kernel, rfl⟩
theorem d_X10_count_64 : g_dc cX10_count 64 (.aload_n 0) 1 65 := ⟨by decide +kernel, rfl⟩
theorem d_X10_count_65 : g_dc cX10_count 65 (.getfield 10) 3 68 := ⟨by decide +kernel, rfl⟩
theorem d_X10_count_68 : g_dc cX10_count 68 (.getfield 92) 3 71 := ⟨by decide +kernel, rfl⟩
theorem d_X10_count_71 : g_dc cX10_count 71 (.ireturn) 1 72 := ⟨by decide +kernel, rfl⟩
theorem d_X10_count_72 : g_dc cX10_count 72 (.aload_n 0) 1 73 := ⟨by decide +kernel, rfl⟩
theorem d_X10_count_73 : g_dc cX10_count 73 (.getfield 10) 3 76 := ⟨by decide +kernel, rfl⟩
theorem d_X10_count_76 : g_dc cX10_count 76 (.getfield 95) 3 79 := ⟨by decide +kernel, rfl⟩
theorem d_X10_count_79 : g_dc cX10_count 79 (.ireturn) 1 80 := ⟨by decide +kernel, rfl⟩
theorem d_X10_count_80 : g_dc cX10_count 80 (.aload_n 0) 1 81 := ⟨by decide +kernel, rfl⟩
theorem d_X10_count_81 : g_dc cX10_count 81 (.getfield 29) 3 84 := ⟨by decide +kernel, rfl⟩
theorem d_X10_count_84 : g_dc cX10_count 84 (.getfield 124) 3 87 := ⟨by decide +kernel, rfl⟩
theorem d_X10_count_87 : g_dc cX10_count 87 (.ireturn) 1 88 := ⟨by decide +kernel, rfl⟩
theorem d_X10_count_88 : g_dc cX10_count 88 (.aload_n 0) 1 89 := ⟨by decide +kernel, rfl⟩
theorem d_X10_count_89 : g_dc cX10_count 89 (.getfield 39) 3 92 := ⟨by decide +kernel, rfl⟩
theorem d_X10_count_92 : g_dc cX10_count 92 (.getfield 130) 3 95 := ⟨by decide +kernel, rfl⟩
theorem d_X10_count_95 : g_dc cX10_count 95 (.ireturn) 1 96 := ⟨by decide +kernel, rfl⟩
theorem d_X10_count_96 : g_dc cX10_count 96 (.aload_n 0) 1 97 := ⟨by decide +kernel, rfl⟩
theorem d_X10_count_97 : g_dc cX10_count 97 (.getfield 22) 3 100 := ⟨by decide +kernel, rfl⟩
theorem d_X10_count_100 : g_dc cX10_count 100 (.getfield 110) 3 103 := ⟨by decide +kernel, rfl⟩
theorem d_X10_count_103 : g_dc cX10_count 103 (.ireturn) 1 104 := ⟨by decide +kernel, rfl⟩
theorem d_X10_count_104 : g_dc cX10_count 104 (.aload_n 0) 1 105 := ⟨by decide +kernel, rfl⟩
theorem d_X10_count_105 : g_dc cX10_count 105 (.getfield 10) 3 108 := ⟨by decide +kernel, rfl⟩
theorem d_X10_count_108 : g_dc cX10_count 108 (.getfield 168) 3 111 := ⟨by decide +kernel, rfl⟩
theorem d_X10_count_111 : g_dc cX10_count 111 (.ireturn) 1 112 := ⟨by decide +kernel, rfl⟩
theorem d_X10_count_112 : g_dc cX10_count 112 (.iload_n 1) 1 113 := ⟨by decide +kernel, rfl⟩
theorem d_X10_count_113 : g_dc cX10_count 113 (.bipush 100) 2 115 := ⟨by decide +kernel, rfl⟩
theorem d_X10_count_115 : g_dc cX10_count 115 (.bipush 99) 2 117 := ⟨by decide +kernel, rfl⟩
theorem d_X10_count_117 : g_dc cX10_count 117 (.aload_n 0) 1 118 := ⟨by decide +kernel, rfl⟩
theorem d_X10_count_118 : g_dc cX10_count 118 (.getfield 29) 3 121 := ⟨by decide +kernel, rfl⟩
theorem d_X10_count_121 : g_dc cX10_count 121 (.getfield 124) 3 124 := ⟨by decide +kernel, rfl⟩
theorem d_X10_count_124 : g_dc cX10_count 124 (.iadd) 1 125 := ⟨by decide +kernel, rfl⟩
theorem d_X10_count_125 : g_dc cX10_count 125 (.invokestatic 82) 3 128 := ⟨by decide +kernel, rfl⟩
theorem d_X10_count_128 : g_dc cX10_count 128 (.ifCond .eq 17) 3 131 := ⟨by decide +kernel, rfl⟩
theorem d_X10_count_145 : g_dc cX10_count 145 (.iconst (-1)) 1 146 := ⟨by decide +kernel, rfl⟩
theorem d_X10_count_146 : g_dc cX10_count 146 (.ireturn) 1 147 := ⟨by decide +kernel, rfl⟩
set_option maxHeartbeats 4000000 in
set_option maxRecDepth 100000 in
theorem c_X10_count (l : Launch) (X : gX) (ad : Nat → Nat) (a : Int32) : g_Ci l X yX10_count cX10_count 2 (some .int) 3 0 0 [.ref (ad 0), .int a] (wX X ad fX0 r0) (fun r _ => r = S_count a) := by
  refine g_mi (by decide +kernel) (Nat.le_of_ble_eq_true rfl) (fun E cx hret => ?_)
  refine g_iload_n cx 1 rfl d_X10_count_0 ?_
  rcases g_sw8 a with rfl | rfl | rfl | rfl | rfl | rfl | rfl | rfl | zsw
  · refine g_tableIn cx 48 d_X10_count_1 (by decide) (by decide) rfl (by decide) ?_
    refine g_aload_n cx 0 rfl d_X10_count_48 ?_
    refine g_get cx cl_X10 fl_X10_10 0 (.ref (ad 1)) d_X10_count_49 rfl rfl ?_
    refine g_getN cx cl_X8 fn_X10_86 1 (.int 100) d_X10_count_52 rfl rfl ?_
    exact hret d_X10_count_55 (Nat.le_of_ble_eq_true rfl) (Nat.le_of_ble_eq_true rfl) rfl (by show (_ : Int32) = _; decide)
  · refine g_tableIn cx 56 d_X10_count_1 (by decide) (by decide) rfl (by decide) ?_
    refine g_aload_n cx 0 rfl d_X10_count_56 ?_
    refine g_get cx cl_X10 fl_X10_10 0 (.ref (ad 1)) d_X10_count_57 rfl rfl ?_
    refine g_getN cx cl_X8 fn_X10_89 1 (.int 100) d_X10_count_60 rfl rfl ?_
    exact hret d_X10_count_63 (Nat.le_of_ble_eq_true rfl) (Nat.le_of_ble_eq_true rfl) rfl (by show (_ : Int32) = _; decide)
  · refine g_tableIn cx 64 d_X10_count_1 (by decide) (by decide) rfl (by decide) ?_
    refine g_aload_n cx 0 rfl d_X10_count_64 ?_
    refine g_get cx cl_X10 fl_X10_10 0 (.ref (ad 1)) d_X10_count_65 rfl rfl ?_
    refine g_getN cx cl_X8 fn_X10_92 1 (.int 0) d_X10_count_68 rfl rfl ?_
    exact hret d_X10_count_71 (Nat.le_of_ble_eq_true rfl) (Nat.le_of_ble_eq_true rfl) rfl (by show (_ : Int32) = _; decide)
  · refine g_tableIn cx 72 d_X10_count_1 (by decide) (by decide) rfl (by decide) ?_
    refine g_aload_n cx 0 rfl d_X10_count_72 ?_
    refine g_get cx cl_X10 fl_X10_10 0 (.ref (ad 1)) d_X10_count_73 rfl rfl ?_
    refine g_getN cx cl_X8 fn_X10_95 1 (.int 0) d_X10_count_76 rfl rfl ?_
    exact hret d_X10_count_79 (Nat.le_of_ble_eq_true rfl) (Nat.le_of_ble_eq_true rfl) rfl (by show (_ : Int32) = _; decide)
  · refine g_tableIn cx 80 d_X10_count_1 (by decide) (by decide) rfl (by decide) ?_
    refine g_aload_n cx 0 rfl d_X10_count_80 ?_
    refine g_get cx cl_X10 fl_X10_29 0 (.ref (ad 11)) d_X10_count_81 rfl rfl ?_
    refine g_getN cx cl_X5 fn_X10_124 11 (.int 0) d_X10_count_84 rfl rfl ?_
    exact hret d_X10_count_87 (Nat.le_of_ble_eq_true rfl) (Nat.le_of_ble_eq_true rfl) rfl (by show (_ : Int32) = _; decide)
  · refine g_tableIn cx 88 d_X10_count_1 (by decide) (by decide) rfl (by decide) ?_
    refine g_aload_n cx 0 rfl d_X10_count_88 ?_
    refine g_get cx cl_X10 fl_X10_39 0 (.ref (ad 17)) d_X10_count_89 rfl rfl ?_
    refine g_getN cx cl_X2 fn_X10_130 17 (.int 0) d_X10_count_92 rfl rfl ?_
    exact hret d_X10_count_95 (Nat.le_of_ble_eq_true rfl) (Nat.le_of_ble_eq_true rfl) rfl (by show (_ : Int32) = _; decide)
  · refine g_tableIn cx 96 d_X10_count_1 (by decide) (by decide) rfl (by decide) ?_
    refine g_aload_n cx 0 rfl d_X10_count_96 ?_
    refine g_get cx cl_X10 fl_X10_22 0 (.ref (ad 9)) d_X10_count_97 rfl rfl ?_
    refine g_getN cx cl_X9 fn_X10_110 9 (.int 0) d_X10_count_100 rfl rfl ?_
    exact hret d_X10_count_103 (Nat.le_of_ble_eq_true rfl) (Nat.le_of_ble_eq_true rfl) rfl (by show (_ : Int32) = _; decide)
  · refine g_tableIn cx 104 d_X10_count_1 (by decide) (by decide) rfl (by decide) ?_
    refine g_aload_n cx 0 rfl d_X10_count_104 ?_
    refine g_get cx cl_X10 fl_X10_10 0 (.ref (ad 1)) d_X10_count_105 rfl rfl ?_
    refine g_getN cx cl_X8 fn_X10_168 1 (.int 1) d_X10_count_108 rfl rfl ?_
    exact hret d_X10_count_111 (Nat.le_of_ble_eq_true rfl) (Nat.le_of_ble_eq_true rfl) rfl (by show (_ : Int32) = _; decide)
  · refine g_tableOut cx 112 d_X10_count_1 zsw (by decide) ?_
    refine g_iload_n cx 1 rfl d_X10_count_112 ?_
    refine g_bipush cx 100 (by decide) d_X10_count_113 ?_
    refine g_bipush cx 99 (by decide) d_X10_count_115 ?_
    refine g_aload_n cx 0 rfl d_X10_count_117 ?_
    refine g_get cx cl_X10 fl_X10_29 0 (.ref (ad 11)) d_X10_count_118 rfl rfl ?_
    refine g_getN cx cl_X5 fn_X10_124 11 (.int 0) d_X10_count_121 rfl rfl ?_
    refine g_iadd cx d_X10_count_124 ?_
    refine g_toi 99 (by decide) ?_
    refine g_cSiW cx [.int a, .int 100, .int 99] [] (c_X10_within l X _ a 100 99) ml_X10_82 yS_X10_within rfl d_X10_count_125 (by unfold g_rr; decide) (by decide) rfl (Nat.le_of_ble_eq_true rfl) (fun r1 w2 h3 => ?_)
    obtain ⟨rfl, rfl⟩ := h3
    refine g_toi 0 (g_in_no _) ?_
    refine g_if_eq_t cx 145 d_X10_count_128 (by decide) (by decide) ?_
    refine g_iconst cx (-1) (by decide) d_X10_count_145 ?_
    exact hret d_X10_count_146 (Nat.le_of_ble_eq_true rfl) (Nat.le_of_ble_eq_true rfl) rfl ((S_count_out zsw).symm)
