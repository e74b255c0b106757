theorem g_lt_of2 {x y : Int32} {t k : Nat} (hx : x = nI t) (hy : y = nI k) (ht : t < 2 ^ 31) (hk : k < 2 ^ 31) (h : ¬ y ≤ x) : t < k := by
  rw [hx, hy] at h
  exact g_nle ht h
theorem g_lt10 {x : Int32} {i n : Nat} (hx : x = nI i) (hi : i < 2 ^ 31) (h : ¬ nI n ≤ x) : i < n := g_lt_of hx hi h
theorem g_in09 {v : Int32} (h : ¬ g_in v 0 9 = 0) : vp_in v 10 := by
  obtain ⟨j, hj, rfl⟩ := g_inj (m := 9) h (by decide)
  exact vp_in_nI (by omega) (by decide)
theorem d_X4_standingSet_0 : g_dc cX4_standingSet 0 (.aload_n 0) 1 1 := ⟨by decide +kernel, rfl⟩
theorem d_X4_standingSet_1 : g_dc cX4_standingSet 1 (.getfield 21) 3 4 := ⟨by decide +kernel, rfl⟩
theorem d_X4_standingSet_4 : g_dc cX4_standingSet 4 (.aload_n 0) 1 5 := ⟨by decide +kernel, rfl⟩
theorem d_X4_standingSet_5 : g_dc cX4_standingSet 5 (.getfield 25) 3 8 := ⟨by decide +kernel, rfl⟩
theorem d_X4_standingSet_8 : g_dc cX4_standingSet 8 (.aload_n 0) 1 9 := ⟨by decide +kernel, rfl⟩
theorem d_X4_standingSet_9 : g_dc cX4_standingSet 9 (.getfield 28) 3 12 := ⟨by decide +kernel, rfl⟩
theorem d_X4_standingSet_12 : g_dc cX4_standingSet 12 (.ior) 1 13 := ⟨by decide +kernel, rfl⟩
theorem d_X4_standingSet_13 : g_dc cX4_standingSet 13 (.iconst (-1)) 1 14 := ⟨by decide +kernel, rfl⟩
theorem d_X4_standingSet_14 : g_dc cX4_standingSet 14 (.ixor) 1 15 := ⟨by decide +kernel, rfl⟩
theorem d_X4_standingSet_15 : g_dc cX4_standingSet 15 (.iand) 1 16 := ⟨by decide +kernel, rfl⟩
theorem d_X4_standingSet_16 : g_dc cX4_standingSet 16 (.ireturn) 1 17 := ⟨by decide +kernel, rfl⟩
set_option maxHeartbeats 4000000 in
set_option maxRecDepth 100000 in
theorem c_X4_standingSet (l : Launch) (X : gX) (ad : Nat → Nat) (F : Nat → Int32) (R : Nat → Nat → Int32) (hI : IX F) : g_Ci l X yX4_standingSet cX4_standingSet 1 (some .int) 1 0 0 [.ref (ad 43)] (wX X ad F R) (fun r w => w = wX X ad F R ∧ True) := by
  refine g_mi (by decide +kernel) (Nat.le_of_ble_eq_true rfl) (fun E cx hret => ?_)
  refine g_aload_n cx 0 rfl d_X4_standingSet_0 ?_
  refine g_get cx cl_X4 fl_X4_21 43 (.int (F 691)) d_X4_standingSet_1 rfl rfl ?_
  refine g_aload_n cx 0 rfl d_X4_standingSet_4 ?_
  refine g_get cx cl_X4 fl_X4_25 43 (.int (F 692)) d_X4_standingSet_5 rfl rfl ?_
  refine g_aload_n cx 0 rfl d_X4_standingSet_8 ?_
  refine g_get cx cl_X4 fl_X4_28 43 (.int (F 693)) d_X4_standingSet_9 rfl rfl ?_
  refine g_ior cx d_X4_standingSet_12 ?_
  refine g_iconst cx (-1) (by decide) d_X4_standingSet_13 ?_
  refine g_ixor cx d_X4_standingSet_14 ?_
  refine g_iand cx d_X4_standingSet_15 ?_
  exact hret d_X4_standingSet_16 (Nat.le_of_ble_eq_true rfl) (Nat.le_of_ble_eq_true rfl) rfl (⟨rfl, trivial⟩)
theorem d_X4_standing_0 : g_dc cX4_standing 0 (.aload_n 0) 1 1 := ⟨by decide +kernel, rfl⟩
theorem d_X4_standing_1 : g_dc cX4_standing 1 (.invokevirtual 58) 3 4 := ⟨by decide +kernel, rfl⟩
theorem d_X4_standing_4 : g_dc cX4_standing 4 (.invokestatic 62) 3 7 := ⟨by decide +kernel, rfl⟩
theorem d_X4_standing_7 : g_dc cX4_standing 7 (.ireturn) 1 8 := ⟨by decide +kernel, rfl⟩
set_option maxHeartbeats 4000000 in
set_option maxRecDepth 100000 in
theorem c_X4_standing (l : Launch) (X : gX) (ad : Nat → Nat) (F : Nat → Int32) (R : Nat → Nat → Int32) (hI : IX F) : g_Ci l X yX4_standing cX4_standing 1 (some .int) 2 0 0 [.ref (ad 43)] (wX X ad F R) (fun r w => w = wX X ad F R ∧ True) := by
  refine g_mi (by decide +kernel) (Nat.le_of_ble_eq_true rfl) (fun E cx hret => ?_)
  refine g_aload_n cx 0 rfl d_X4_standing_0 ?_
  refine g_cViW cx [] [] (c_X4_standingSet l X ad F R hI ) ml_X4_58 yV_X4_standingSet d_X4_standing_1 (by unfold g_rr; decide) (by decide) 43 rfl rfl rfl (Nat.le_of_ble_eq_true rfl) (fun r1 w2 h3 => ?_)
  obtain ⟨rfl, -⟩ := h3
  refine g_cOiW cx [.int r1] [] (c_J6_bitCount_0f7a4 l X _ r1) ml_X4_62 yS_J6_bitCount_0f7a4 d_X4_standing_4 (by unfold g_rr; decide) (by decide) rfl (Nat.le_of_ble_eq_true rfl) (fun r4 w5 h6 => ?_)
  obtain ⟨rfl, h6⟩ := h6
  exact hret d_X4_standing_7 (Nat.le_of_ble_eq_true rfl) (Nat.le_of_ble_eq_true rfl) rfl (⟨rfl, trivial⟩)
theorem d_X4_allStand_0 : g_dc cX4_allStand 0 (.aload_n 0) 1 1 := ⟨by decide +kernel, rfl⟩
theorem d_X4_allStand_1 : g_dc cX4_allStand 1 (.invokevirtual 58) 3 4 := ⟨by decide +kernel, rfl⟩
theorem d_X4_allStand_4 : g_dc cX4_allStand 4 (.aload_n 0) 1 5 := ⟨by decide +kernel, rfl⟩
theorem d_X4_allStand_5 : g_dc cX4_allStand 5 (.getfield 21) 3 8 := ⟨by decide +kernel, rfl⟩
theorem d_X4_allStand_8 : g_dc cX4_allStand 8 (.if_icmp .ne 7) 3 11 := ⟨by decide +kernel, rfl⟩
theorem d_X4_allStand_11 : g_dc cX4_allStand 11 (.iconst 1) 1 12 := ⟨by decide +kernel, rfl⟩
theorem d_X4_allStand_12 : g_dc cX4_allStand 12 (.goto 4) 3 15 := ⟨by decide +kernel, rfl⟩
theorem d_X4_allStand_15 : g_dc cX4_allStand 15 (.iconst 0) 1 16 := ⟨by decide +kernel, rfl⟩
theorem d_X4_allStand_16 : g_dc cX4_allStand 16 (.ireturn) 1 17 := ⟨by decide +kernel, rfl⟩
set_option maxHeartbeats 4000000 in
set_option maxRecDepth 100000 in
theorem c_X4_allStand (l : Launch) (X : gX) (ad : Nat → Nat) (F : Nat → Int32) (R : Nat → Nat → Int32) (hI : IX F) : g_Ci l X yX4_allStand cX4_allStand 1 (some .boolean) 2 0 0 [.ref (ad 43)] (wX X ad F R) (fun r w => w = wX X ad F R ∧ True) := by
  refine g_mi (by decide +kernel) (Nat.le_of_ble_eq_true rfl) (fun E cx hret => ?_)
  refine g_aload_n cx 0 rfl d_X4_allStand_0 ?_
  refine g_cViW cx [] [] (c_X4_standingSet l X ad F R hI ) ml_X4_58 yV_X4_standingSet d_X4_allStand_1 (by unfold g_rr; decide) (by decide) 43 rfl rfl rfl (Nat.le_of_ble_eq_true rfl) (fun r1 w2 h3 => ?_)
  obtain ⟨rfl, -⟩ := h3
  refine g_aload_n cx 0 rfl d_X4_allStand_4 ?_
  refine g_get cx cl_X4 fl_X4_21 43 (.int (F 691)) d_X4_allStand_5 rfl rfl ?_
  refine g_icmp_ne cx 15 d_X4_allStand_8 (by decide) (fun zc8 => ?_) (fun zc8 => ?_)
  · refine g_iconst cx 0 (by decide) d_X4_allStand_15 ?_
    exact hret d_X4_allStand_16 (Nat.le_of_ble_eq_true rfl) (Nat.le_of_ble_eq_true rfl) rfl (⟨rfl, trivial⟩)
  · refine g_iconst cx 1 (by decide) d_X4_allStand_11 ?_
    refine g_goto cx 16 d_X4_allStand_12 (by decide) ?_
    exact hret d_X4_allStand_16 (Nat.le_of_ble_eq_true rfl) (Nat.le_of_ble_eq_true rfl) rfl (⟨rfl, trivial⟩)
theorem d_X4_inches_0 : g_dc cX4_inches 0 (.iconst 0) 1 1 := ⟨by decide +kernel, rfl⟩
theorem d_X4_inches_1 : g_dc cX4_inches 1 (.istore_n 1) 1 2 := ⟨by decide +kernel, rfl⟩
theorem d_X4_inches_2 : g_dc cX4_inches 2 (.iconst 0) 1 3 := ⟨by decide +kernel, rfl⟩
theorem d_X4_inches_3 : g_dc cX4_inches 3 (.istore_n 2) 1 4 := ⟨by decide +kernel, rfl⟩
theorem d_X4_inches_4 : g_dc cX4_inches 4 (.iload_n 2) 1 5 := ⟨by decide +kernel, rfl⟩
theorem d_X4_inches_5 : g_dc cX4_inches 5 (.aload_n 0) 1 6 := ⟨by decide +kernel, rfl⟩
theorem d_X4_inches_6 : g_dc cX4_inches 6 (.getfield 18) 3 9 := ⟨by decide +kernel, rfl⟩
theorem d_X4_inches_9 : g_dc cX4_inches 9 (.arraylength) 1 10 := ⟨by decide +kernel, rfl⟩
theorem d_X4_inches_10 : g_dc cX4_inches 10 (.if_icmp .ge 18) 3 13 := ⟨by decide +kernel, rfl⟩
theorem d_X4_inches_13 : g_dc cX4_inches 13 (.iload_n 1) 1 14 := ⟨by decide +kernel, rfl⟩
theorem d_X4_inches_14 : g_dc cX4_inches 14 (.aload_n 0) 1 15 := ⟨by decide +kernel, rfl⟩
theorem d_X4_inches_15 : g_dc cX4_inches 15 (.getfield 18) 3 18 := ⟨by decide +kernel, rfl⟩
theorem d_X4_inches_18 : g_dc cX4_inches 18 (.iload_n 2) 1 19 := ⟨by decide +kernel, rfl⟩
theorem d_X4_inches_19 : g_dc cX4_inches 19 (.iaload) 1 20 := ⟨by decide +kernel, rfl⟩
theorem d_X4_inches_20 : g_dc cX4_inches 20 (.iadd) 1 21 := ⟨by decide +kernel, rfl⟩
theorem d_X4_inches_21 : g_dc cX4_inches 21 (.istore_n 1) 1 22 := ⟨by decide +kernel, rfl⟩
theorem d_X4_inches_22 : g_dc cX4_inches 22 (.iinc 2 1) 3 25 := ⟨by decide +kernel, rfl⟩
theorem d_X4_inches_25 : g_dc cX4_inches 25 (.goto (-21)) 3 28 := ⟨by decide +kernel, rfl⟩
theorem d_X4_inches_28 : g_dc cX4_inches 28 (.iload_n 1) 1 29 := ⟨by decide +kernel, rfl⟩
theorem d_X4_inches_29 : g_dc cX4_inches 29 (.ireturn) 1 30 := ⟨by decide +kernel, rfl⟩
set_option maxHeartbeats 4000000 in
set_option maxRecDepth 100000 in
theorem c_X4_inches (l : Launch) (X : gX) (ad : Nat → Nat) (F : Nat → Int32) (R : Nat → Nat → Int32) (hI : IX F) : g_Ci l X yX4_inches cX4_inches 3 (some .int) 1 0 0 [.ref (ad 43)] (wX X ad F R) (fun r w => w = wX X ad F R ∧ True) := by
  refine g_mi (by decide +kernel) (Nat.le_of_ble_eq_true rfl) (fun E cx hret => ?_)
  refine g_iconst cx 0 (by decide) d_X4_inches_0 ?_
  refine g_istore_n cx [(1, .int 0), (0, .ref (ad 43))] d_X4_inches_1 (by decide) rfl ?_
  refine g_iconst cx 0 (by decide) d_X4_inches_2 ?_
  refine g_istore_n cx [(2, .int 0), (1, .int 0), (0, .ref (ad 43))] d_X4_inches_3 (by decide) rfl ?_
  have L4 : ∀ (N : Nat) (i : Nat) (x1 x2 : Int32), 30 - i < N → (x2 = nI i) → (i ≤ 30) → G X E 3 0 0 (wX X ad F R) [(0, .ref (ad 43)), (1, .int x1), (2, .int x2)] 4 [] := by
    intro N
    induction N with
    | zero => intro i x1 x2 hm; exact absurd hm (Nat.not_lt_zero _)
    | succ N ih4 =>
      intro i x1 x2 hm hx hi
      refine g_iload_n cx 2 rfl d_X4_inches_4 ?_
      refine g_aload_n cx 0 rfl d_X4_inches_5 ?_
      refine g_get cx cl_X4 fl_X4_18 43 (.ref (ad 46)) d_X4_inches_6 rfl rfl ?_
      refine g_alen cx 46 30 d_X4_inches_9 rfl (by decide) ?_
      refine g_icmp_ge cx 28 d_X4_inches_10 (by decide) (fun zc10 => ?_) (fun zc10 => ?_)
      · refine g_iload_n cx 1 rfl d_X4_inches_28 ?_
        exact hret d_X4_inches_29 (Nat.le_of_ble_eq_true rfl) (Nat.le_of_ble_eq_true rfl) rfl (⟨rfl, trivial⟩)
      · refine g_iload_n cx 1 rfl d_X4_inches_13 ?_
        refine g_aload_n cx 0 rfl d_X4_inches_14 ?_
        refine g_get cx cl_X4 fl_X4_18 43 (.ref (ad 46)) d_X4_inches_15 rfl rfl ?_
        refine g_iload_n cx 2 rfl d_X4_inches_18 ?_
        refine g_iald cx 46 d_X4_inches_19 rfl (by rw [hx]; exact vp_in_nI (g_lt10 (n := 30) hx (by omega) zc10) (by decide)) ?_
        refine g_iadd cx d_X4_inches_20 ?_
        refine g_istore_n cx [(1, .int (x1 + ((R 46) (Int32.toNatClampNeg x2)))), (0, .ref (ad 43)), (2, .int x2)] d_X4_inches_21 (by decide) rfl ?_
        refine g_iinc cx (x2 + 1) [(2, .int (x2 + 1)), (1, .int (x1 + ((R 46) (Int32.toNatClampNeg x2)))), (0, .ref (ad 43))] 2 d_X4_inches_22 rfl (rfl) (by decide) rfl ?_
        refine g_goto cx 4 d_X4_inches_25 (by decide) ?_
        refine g_lsub [2, 1, 0] [(0, .ref (ad 43)), (1, .int (x1 + ((R 46) (Int32.toNatClampNeg x2)))), (2, .int (x2 + 1))] rfl ?_
        exact ih4 (i + 1) (x1 + ((R 46) (Int32.toNatClampNeg x2))) (x2 + 1) (by have := g_lt10 (n := 30) hx (by omega) zc10; omega) (by rw [hx]; exact nI_1 i) (by have := g_lt10 (n := 30) hx (by omega) zc10; omega)
  refine g_lsub [2, 1, 0] [(0, .ref (ad 43)), (1, .int 0), (2, .int 0)] rfl ?_
  exact L4 _ 0 0 0 (Nat.lt_succ_self _) nI_0.symm (by omega)
theorem d_X4_isOver_0 : g_dc cX4_isOver 0 (.aload_n 0) 1 1 := ⟨by decide +kernel, rfl⟩
theorem d_X4_isOver_1 : g_dc cX4_isOver 1 (.getfield 28) 3 4 := ⟨by decide +kernel, rfl⟩
theorem d_X4_isOver_4 : g_dc cX4_isOver 4 (.iconst 1) 1 5 := ⟨by decide +kernel, rfl⟩
theorem d_X4_isOver_5 : g_dc cX4_isOver 5 (.iload_n 1) 1 6 := ⟨by decide +kernel, rfl⟩
theorem d_X4_isOver_6 : g_dc cX4_isOver 6 (.ishl) 1 7 := ⟨by decide +kernel, rfl⟩
theorem d_X4_isOver_7 : g_dc cX4_isOver 7 (.iand) 1 8 := ⟨by decide +kernel, rfl⟩
theorem d_X4_isOver_8 : g_dc cX4_isOver 8 (.ifCond .eq 7) 3 11 := ⟨by decide +kernel, rfl⟩
theorem d_X4_isOver_11 : g_dc cX4_isOver 11 (.iconst 1) 1 12 := ⟨by decide +kernel, rfl⟩
theorem d_X4_isOver_12 : g_dc cX4_isOver 12 (.goto 4) 3 15 := ⟨by decide +kernel, rfl⟩
theorem d_X4_isOver_15 : g_dc cX4_isOver 15 (.iconst 0) 1 16 := ⟨by decide +kernel, rfl⟩
theorem d_X4_isOver_16 : g_dc cX4_isOver 16 (.ireturn) 1 17 := ⟨by decide +kernel, rfl⟩
set_option maxHeartbeats 4000000 in
set_option maxRecDepth 100000 in
theorem c_X4_isOver (l : Launch) (X : gX) (ad : Nat → Nat) (F : Nat → Int32) (R : Nat → Nat → Int32) (hI : IX F) (i : Int32) : g_Ci l X yX4_isOver cX4_isOver 2 (some .boolean) 1 0 0 [.ref (ad 43), .int i] (wX X ad F R) (fun r w => w = wX X ad F R ∧ True) := by
  refine g_mi (by decide +kernel) (Nat.le_of_ble_eq_true rfl) (fun E cx hret => ?_)
  refine g_aload_n cx 0 rfl d_X4_isOver_0 ?_
  refine g_get cx cl_X4 fl_X4_28 43 (.int (F 693)) d_X4_isOver_1 rfl rfl ?_
  refine g_iconst cx 1 (by decide) d_X4_isOver_4 ?_
  refine g_iload_n cx 1 rfl d_X4_isOver_5 ?_
  refine g_ishl cx d_X4_isOver_6 ?_
  refine g_iand cx d_X4_isOver_7 ?_
  refine g_if_eq cx 15 d_X4_isOver_8 (by decide) (fun zc8 => ?_) (fun zc8 => ?_)
  · refine g_iconst cx 0 (by decide) d_X4_isOver_15 ?_
    exact hret d_X4_isOver_16 (Nat.le_of_ble_eq_true rfl) (Nat.le_of_ble_eq_true rfl) rfl (⟨rfl, trivial⟩)
  · refine g_iconst cx 1 (by decide) d_X4_isOver_11 ?_
    refine g_goto cx 16 d_X4_isOver_12 (by decide) ?_
    exact hret d_X4_isOver_16 (Nat.le_of_ble_eq_true rfl) (Nat.le_of_ble_eq_true rfl) rfl (⟨rfl, trivial⟩)
theorem d_X4_placeOf_0 : g_dc cX4_placeOf 0 (.iload_n 1) 1 1 := ⟨by decide +kernel, rfl⟩
theorem d_X4_placeOf_1 : g_dc cX4_placeOf 1 (.iconst 0) 1 2 := ⟨by decide +kernel, rfl⟩
theorem d_X4_placeOf_2 : g_dc cX4_placeOf 2 (.bipush 9) 2 4 := ⟨by decide +kernel, rfl⟩
theorem d_X4_placeOf_4 : g_dc cX4_placeOf 4 (.invokestatic 54) 3 7 := ⟨by decide +kernel, rfl⟩
theorem d_X4_placeOf_7 : g_dc cX4_placeOf 7 (.ifCond .eq 12) 3 10 := ⟨by decide +kernel, rfl⟩
theorem d_X4_placeOf_10 : g_dc cX4_placeOf 10 (.aload_n 0) 1 11 := ⟨by decide +kernel, rfl⟩
theorem d_X4_placeOf_11 : g_dc cX4_placeOf 11 (.getfield 9) 3 14 := ⟨by decide +kernel, rfl⟩
theorem d_X4_placeOf_14 : g_dc cX4_placeOf 14 (.iload_n 1) 1 15 := ⟨by decide +kernel, rfl⟩
theorem d_X4_placeOf_15 : g_dc cX4_placeOf 15 (.iaload) 1 16 := ⟨by decide +kernel, rfl⟩
theorem d_X4_placeOf_16 : g_dc cX4_placeOf 16 (.goto 4) 3 19 := ⟨by decide +kernel, rfl⟩
theorem d_X4_placeOf_19 : g_dc cX4_placeOf 19 (.iconst (-1)) 1 20 := ⟨by decide +kernel, rfl⟩
theorem d_X4_placeOf_20 : g_dc cX4_placeOf 20 (.ireturn) 1 21 := ⟨by decide +kernel, rfl⟩
set_option maxHeartbeats 4000000 in
set_option maxRecDepth 100000 in
theorem c_X4_placeOf (l : Launch) (X : gX) (ad : Nat → Nat) (F : Nat → Int32) (R : Nat → Nat → Int32) (hI : IX F) (i : Int32) : g_Ci l X yX4_placeOf cX4_placeOf 2 (some .int) 2 0 0 [.ref (ad 43), .int i] (wX X ad F R) (fun r w => w = wX X ad F R ∧ True) := by
  refine g_mi (by decide +kernel) (Nat.le_of_ble_eq_true rfl) (fun E cx hret => ?_)
  refine g_iload_n cx 1 rfl d_X4_placeOf_0 ?_
  refine g_iconst cx 0 (by decide) d_X4_placeOf_1 ?_
  refine g_bipush cx 9 (by decide) d_X4_placeOf_2 ?_
  refine g_cNiW cx [.int i, .int 0, .int 9] [] (c_X10_within l X _ i 0 9) mn_X4_54 yS_X10_within d_X4_placeOf_4 (by unfold g_rr; decide) (by decide) rfl (Nat.le_of_ble_eq_true rfl) (fun r1 w2 h3 => ?_)
  obtain ⟨rfl, rfl⟩ := h3
  refine g_if_eq cx 19 d_X4_placeOf_7 (by decide) (fun zc7 => ?_) (fun zc7 => ?_)
  · refine g_iconst cx (-1) (by decide) d_X4_placeOf_19 ?_
    exact hret d_X4_placeOf_20 (Nat.le_of_ble_eq_true rfl) (Nat.le_of_ble_eq_true rfl) rfl (⟨rfl, trivial⟩)
  · refine g_aload_n cx 0 rfl d_X4_placeOf_10 ?_
    refine g_get cx cl_X4 fl_X4_9 43 (.ref (ad 44)) d_X4_placeOf_11 rfl rfl ?_
    refine g_iload_n cx 1 rfl d_X4_placeOf_14 ?_
    refine g_iald cx 44 d_X4_placeOf_15 rfl (g_in09 (by assumption)) ?_
    refine g_goto cx 20 d_X4_placeOf_16 (by decide) ?_
    exact hret d_X4_placeOf_20 (Nat.le_of_ble_eq_true rfl) (Nat.le_of_ble_eq_true rfl) rfl (⟨rfl, trivial⟩)
