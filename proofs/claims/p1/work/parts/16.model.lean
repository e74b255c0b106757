def g_mh (s k : Int32) : Int32 := if (s >>> (k &&& 31)) &&& 1 = 1 then 1 else 0
theorem g_mh0 (k : Int32) : g_mh 0 k = 0 := by
  unfold g_mh
  rw [Int32.zero_shiftRight, Int32.zero_and]
  rfl
def g_mx (a b : Int32) : Int32 := if a ≤ b then b else a
def P_mt (F F' : Nat → Int32) : Prop := (∀ k, k < 45 ∨ 48 < k ∧ k < 66 ∨ k = 67 ∨ 69 < k → F' k = F k) ∧ F' 45 = F 45 + 1
def P_mr (F F' : Nat → Int32) : Prop := (∀ k, k < 45 ∨ 48 < k ∧ k < 65 ∨ 69 < k → F' k = F k) ∧ (F 44 = 0 → F' 45 = 0 ∧ F' 48 = F 1 ∧ F' 65 = 0 ∧ F' 66 = 0 ∧ F' 67 = 0)
def B_om (F : Nat → Int32) : Prop := F 70 = 0 ∧ F 71 = 0 ∧ F 72 = 0

theorem g_lt_of2 {x y : Int32} {t k : Nat} (hx : x = nI t) (hy : y = nI k) (ht : t < 2 ^ 31) (hk : k < 2 ^ 31) (h : ¬ y ≤ x) : t < k := by
  rw [hx, hy] at h
  exact g_nle ht h
theorem d_X11_has_0 : g_dc cX11_has 0 (.iload_n 0) 1 1 := ⟨by decide +kernel, rfl⟩
theorem d_X11_has_1 : g_dc cX11_has 1 (.iload_n 1) 1 2 := ⟨by decide +kernel, rfl⟩
theorem d_X11_has_2 : g_dc cX11_has 2 (.ishr) 1 3 := ⟨by decide +kernel, rfl⟩
theorem d_X11_has_3 : g_dc cX11_has 3 (.iconst 1) 1 4 := ⟨by decide +kernel, rfl⟩
theorem d_X11_has_4 : g_dc cX11_has 4 (.iand) 1 5 := ⟨by decide +kernel, rfl⟩
theorem d_X11_has_5 : g_dc cX11_has 5 (.iconst 1) 1 6 := ⟨by decide +kernel, rfl⟩
theorem d_X11_has_6 : g_dc cX11_has 6 (.if_icmp .ne 7) 3 9 := ⟨by decide +kernel, rfl⟩
theorem d_X11_has_9 : g_dc cX11_has 9 (.iconst 1) 1 10 := ⟨by decide +kernel, rfl⟩
theorem d_X11_has_10 : g_dc cX11_has 10 (.goto 4) 3 13 := ⟨by decide +kernel, rfl⟩
theorem d_X11_has_13 : g_dc cX11_has 13 (.iconst 0) 1 14 := ⟨by decide +kernel, rfl⟩
theorem d_X11_has_14 : g_dc cX11_has 14 (.ireturn) 1 15 := ⟨by decide +kernel, rfl⟩
set_option maxHeartbeats 4000000 in
set_option maxRecDepth 100000 in
theorem c_X11_has (l : Launch) (X : gX) (ws : va_W) (s k : Int32) : g_Ci l X yX11_has cX11_has 2 (some .boolean) 1 0 0 [.int s, .int k] ws (fun r w => w = ws ∧ r = g_mh s k) := by
  refine g_mi (by decide +kernel) (Nat.le_of_ble_eq_true rfl) (fun E cx hret => ?_)
  refine g_iload_n cx 0 rfl d_X11_has_0 ?_
  refine g_iload_n cx 1 rfl d_X11_has_1 ?_
  refine g_ishr cx d_X11_has_2 ?_
  refine g_iconst cx 1 (by decide) d_X11_has_3 ?_
  refine g_iand cx d_X11_has_4 ?_
  refine g_iconst cx 1 (by decide) d_X11_has_5 ?_
  refine g_icmp_ne cx 13 d_X11_has_6 (by decide) (fun zc6 => ?_) (fun zc6 => ?_)
  · refine g_iconst cx 0 (by decide) d_X11_has_13 ?_
    exact hret d_X11_has_14 (Nat.le_of_ble_eq_true rfl) (Nat.le_of_ble_eq_true rfl) rfl (⟨rfl, by simp [g_mh, *]⟩)
  · refine g_iconst cx 1 (by decide) d_X11_has_9 ?_
    refine g_goto cx 14 d_X11_has_10 (by decide) ?_
    exact hret d_X11_has_14 (Nat.le_of_ble_eq_true rfl) (Nat.le_of_ble_eq_true rfl) rfl (⟨rfl, by simp [g_mh, *]⟩)
theorem d_X11_max_0 : g_dc cX11_max 0 (.iload_n 0) 1 1 := ⟨by decide +kernel, rfl⟩
theorem d_X11_max_1 : g_dc cX11_max 1 (.iload_n 1) 1 2 := ⟨by decide +kernel, rfl⟩
theorem d_X11_max_2 : g_dc cX11_max 2 (.if_icmp .le 7) 3 5 := ⟨by decide +kernel, rfl⟩
theorem d_X11_max_5 : g_dc cX11_max 5 (.iload_n 0) 1 6 := ⟨by decide +kernel, rfl⟩
theorem d_X11_max_6 : g_dc cX11_max 6 (.goto 4) 3 9 := ⟨by decide +kernel, rfl⟩
theorem d_X11_max_9 : g_dc cX11_max 9 (.iload_n 1) 1 10 := ⟨by decide +kernel, rfl⟩
theorem d_X11_max_10 : g_dc cX11_max 10 (.ireturn) 1 11 := ⟨by decide +kernel, rfl⟩
set_option maxHeartbeats 4000000 in
set_option maxRecDepth 100000 in
theorem c_X11_max (l : Launch) (X : gX) (ws : va_W) (a b : Int32) : g_Ci l X yX11_max cX11_max 2 (some .int) 1 0 0 [.int a, .int b] ws (fun r w => w = ws ∧ r = g_mx a b) := by
  refine g_mi (by decide +kernel) (Nat.le_of_ble_eq_true rfl) (fun E cx hret => ?_)
  refine g_iload_n cx 0 rfl d_X11_max_0 ?_
  refine g_iload_n cx 1 rfl d_X11_max_1 ?_
  refine g_icmp_le cx 9 d_X11_max_2 (by decide) (fun zc2 => ?_) (fun zc2 => ?_)
  · refine g_iload_n cx 1 rfl d_X11_max_9 ?_
    exact hret d_X11_max_10 (Nat.le_of_ble_eq_true rfl) (Nat.le_of_ble_eq_true rfl) rfl (⟨rfl, by simp [g_mx, *]⟩)
  · refine g_iload_n cx 0 rfl d_X11_max_5 ?_
    refine g_goto cx 10 d_X11_max_6 (by decide) ?_
    exact hret d_X11_max_10 (Nat.le_of_ble_eq_true rfl) (Nat.le_of_ble_eq_true rfl) rfl (⟨rfl, by simp [g_mx, *]⟩)
theorem d_X11_bits_0 : g_dc cX11_bits 0 (.iconst 0) 1 1 := ⟨by decide +kernel, rfl⟩
theorem d_X11_bits_1 : g_dc cX11_bits 1 (.istore_n 1) 1 2 := ⟨by decide +kernel, rfl⟩
theorem d_X11_bits_2 : g_dc cX11_bits 2 (.iconst 0) 1 3 := ⟨by decide +kernel, rfl⟩
theorem d_X11_bits_3 : g_dc cX11_bits 3 (.istore_n 2) 1 4 := ⟨by decide +kernel, rfl⟩
theorem d_X11_bits_4 : g_dc cX11_bits 4 (.iload_n 2) 1 5 := ⟨by decide +kernel, rfl⟩
theorem d_X11_bits_5 : g_dc cX11_bits 5 (.bipush 10) 2 7 := ⟨by decide +kernel, rfl⟩
theorem d_X11_bits_7 : g_dc cX11_bits 7 (.if_icmp .ge 17) 3 10 := ⟨by decide +kernel, rfl⟩
theorem d_X11_bits_10 : g_dc cX11_bits 10 (.iload_n 1) 1 11 := ⟨by decide +kernel, rfl⟩
theorem d_X11_bits_11 : g_dc cX11_bits 11 (.iload_n 0) 1 12 := ⟨by decide +kernel, rfl⟩
theorem d_X11_bits_12 : g_dc cX11_bits 12 (.iload_n 2) 1 13 := ⟨by decide +kernel, rfl⟩
theorem d_X11_bits_13 : g_dc cX11_bits 13 (.ishr) 1 14 := ⟨by decide +kernel, rfl⟩
theorem d_X11_bits_14 : g_dc cX11_bits 14 (.iconst 1) 1 15 := ⟨by decide +kernel, rfl⟩
theorem d_X11_bits_15 : g_dc cX11_bits 15 (.iand) 1 16 := ⟨by decide +kernel, rfl⟩
theorem d_X11_bits_16 : g_dc cX11_bits 16 (.iadd) 1 17 := ⟨by decide +kernel, rfl⟩
theorem d_X11_bits_17 : g_dc cX11_bits 17 (.istore_n 1) 1 18 := ⟨by decide +kernel, rfl⟩
theorem d_X11_bits_18 : g_dc cX11_bits 18 (.iinc 2 1) 3 21 := ⟨by decide +kernel, rfl⟩
theorem d_X11_bits_21 : g_dc cX11_bits 21 (.goto (-17)) 3 24 := ⟨by decide +kernel, rfl⟩
theorem d_X11_bits_24 : g_dc cX11_bits 24 (.iload_n 1) 1 25 := ⟨by decide +kernel, rfl⟩
theorem d_X11_bits_25 : g_dc cX11_bits 25 (.ireturn) 1 26 := ⟨by decide +kernel, rfl⟩
set_option maxHeartbeats 4000000 in
set_option maxRecDepth 100000 in
theorem c0_X11_bits (l : Launch) (X : gX) (ws : va_W) : g_Ci l X yX11_bits cX11_bits 3 (some .int) 1 0 0 [.int 0] ws (fun r w => w = ws ∧ r = 0) := by
  refine g_mi (by decide +kernel) (Nat.le_of_ble_eq_true rfl) (fun E cx hret => ?_)
  refine g_iconst cx 0 (by decide) d_X11_bits_0 ?_
  refine g_istore_n cx [(1, .int 0), (0, .int 0)] d_X11_bits_1 (by decide) rfl ?_
  refine g_iconst cx 0 (by decide) d_X11_bits_2 ?_
  refine g_istore_n cx [(2, .int 0), (1, .int 0), (0, .int 0)] d_X11_bits_3 (by decide) rfl ?_
  refine g_iload_n cx 0 rfl d_X11_bits_4 ?_
  refine g_bipush cx 10 (by decide) d_X11_bits_5 ?_
  refine g_icmp_ge_f cx 24 d_X11_bits_7 (by decide) (by decide) ?_
  refine g_iload_n cx 1 rfl d_X11_bits_10 ?_
  refine g_iload_n cx 2 rfl d_X11_bits_11 ?_
  refine g_iload_n cx 0 rfl d_X11_bits_12 ?_
  refine g_ishr cx d_X11_bits_13 ?_
  refine g_toi 0 (by decide) ?_
  refine g_iconst cx 1 (by decide) d_X11_bits_14 ?_
  refine g_iand cx d_X11_bits_15 ?_
  refine g_toi 0 (by decide) ?_
  refine g_iadd cx d_X11_bits_16 ?_
  refine g_toi 0 (by decide) ?_
  refine g_istore_n cx [(1, .int 0), (2, .int 0), (0, .int 0)] d_X11_bits_17 (by decide) rfl ?_
  refine g_iinc cx 1 [(2, .int 1), (1, .int 0), (0, .int 0)] 1 d_X11_bits_18 rfl (by decide) (by decide) rfl ?_
  refine g_goto cx 4 d_X11_bits_21 (by decide) ?_
  refine g_iload_n cx 0 rfl d_X11_bits_4 ?_
  refine g_bipush cx 10 (by decide) d_X11_bits_5 ?_
  refine g_icmp_ge_f cx 24 d_X11_bits_7 (by decide) (by decide) ?_
  refine g_iload_n cx 1 rfl d_X11_bits_10 ?_
  refine g_iload_n cx 2 rfl d_X11_bits_11 ?_
  refine g_iload_n cx 0 rfl d_X11_bits_12 ?_
  refine g_ishr cx d_X11_bits_13 ?_
  refine g_toi 0 (by decide) ?_
  refine g_iconst cx 1 (by decide) d_X11_bits_14 ?_
  refine g_iand cx d_X11_bits_15 ?_
  refine g_toi 0 (by decide) ?_
  refine g_iadd cx d_X11_bits_16 ?_
  refine g_toi 0 (by decide) ?_
  refine g_istore_n cx [(1, .int 0), (2, .int 1), (0, .int 0)] d_X11_bits_17 (by decide) rfl ?_
  refine g_iinc cx 2 [(2, .int 2), (1, .int 0), (0, .int 0)] 1 d_X11_bits_18 rfl (by decide) (by decide) rfl ?_
  refine g_goto cx 4 d_X11_bits_21 (by decide) ?_
  refine g_iload_n cx 0 rfl d_X11_bits_4 ?_
  refine g_bipush cx 10 (by decide) d_X11_bits_5 ?_
  refine g_icmp_ge_f cx 24 d_X11_bits_7 (by decide) (by decide) ?_
  refine g_iload_n cx 1 rfl d_X11_bits_10 ?_
  refine g_iload_n cx 2 rfl d_X11_bits_11 ?_
  refine g_iload_n cx 0 rfl d_X11_bits_12 ?_
  refine g_ishr cx d_X11_bits_13 ?_
  refine g_toi 0 (by decide) ?_
  refine g_iconst cx 1 (by decide) d_X11_bits_14 ?_
  refine g_iand cx d_X11_bits_15 ?_
  refine g_toi 0 (by decide) ?_
  refine g_iadd cx d_X11_bits_16 ?_
  refine g_toi 0 (by decide) ?_
  refine g_istore_n cx [(1, .int 0), (2, .int 2), (0, .int 0)] d_X11_bits_17 (by decide) rfl ?_
  refine g_iinc cx 3 [(2, .int 3), (1, .int 0), (0, .int 0)] 1 d_X11_bits_18 rfl (by decide) (by decide) rfl ?_
  refine g_goto cx 4 d_X11_bits_21 (by decide) ?_
  refine g_iload_n cx 0 rfl d_X11_bits_4 ?_
  refine g_bipush cx 10 (by decide) d_X11_bits_5 ?_
  refine g_icmp_ge_f cx 24 d_X11_bits_7 (by decide) (by decide) ?_
  refine g_iload_n cx 1 rfl d_X11_bits_10 ?_
  refine g_iload_n cx 2 rfl d_X11_bits_11 ?_
  refine g_iload_n cx 0 rfl d_X11_bits_12 ?_
  refine g_ishr cx d_X11_bits_13 ?_
  refine g_toi 0 (by decide) ?_
  refine g_iconst cx 1 (by decide) d_X11_bits_14 ?_
  refine g_iand cx d_X11_bits_15 ?_
  refine g_toi 0 (by decide) ?_
  refine g_iadd cx d_X11_bits_16 ?_
  refine g_toi 0 (by decide) ?_
  refine g_istore_n cx [(1, .int 0), (2, .int 3), (0, .int 0)] d_X11_bits_17 (by decide) rfl ?_
  refine g_iinc cx 4 [(2, .int 4), (1, .int 0), (0, .int 0)] 1 d_X11_bits_18 rfl (by decide) (by decide) rfl ?_
  refine g_goto cx 4 d_X11_bits_21 (by decide) ?_
  refine g_iload_n cx 0 rfl d_X11_bits_4 ?_
  refine g_bipush cx 10 (by decide) d_X11_bits_5 ?_
  refine g_icmp_ge_f cx 24 d_X11_bits_7 (by decide) (by decide) ?_
  refine g_iload_n cx 1 rfl d_X11_bits_10 ?_
  refine g_iload_n cx 2 rfl d_X11_bits_11 ?_
  refine g_iload_n cx 0 rfl d_X11_bits_12 ?_
  refine g_ishr cx d_X11_bits_13 ?_
  refine g_toi 0 (by decide) ?_
  refine g_iconst cx 1 (by decide) d_X11_bits_14 ?_
  refine g_iand cx d_X11_bits_15 ?_
  refine g_toi 0 (by decide) ?_
  refine g_iadd cx d_X11_bits_16 ?_
  refine g_toi 0 (by decide) ?_
  refine g_istore_n cx [(1, .int 0), (2, .int 4), (0, .int 0)] d_X11_bits_17 (by decide) rfl ?_
  refine g_iinc cx 5 [(2, .int 5), (1, .int 0), (0, .int 0)] 1 d_X11_bits_18 rfl (by decide) (by decide) rfl ?_
  refine g_goto cx 4 d_X11_bits_21 (by decide) ?_
  refine g_iload_n cx 0 rfl d_X11_bits_4 ?_
  refine g_bipush cx 10 (by decide) d_X11_bits_5 ?_
  refine g_icmp_ge_f cx 24 d_X11_bits_7 (by decide) (by decide) ?_
  refine g_iload_n cx 1 rfl d_X11_bits_10 ?_
  refine g_iload_n cx 2 rfl d_X11_bits_11 ?_
  refine g_iload_n cx 0 rfl d_X11_bits_12 ?_
  refine g_ishr cx d_X11_bits_13 ?_
  refine g_toi 0 (by decide) ?_
  refine g_iconst cx 1 (by decide) d_X11_bits_14 ?_
  refine g_iand cx d_X11_bits_15 ?_
  refine g_toi 0 (by decide) ?_
  refine g_iadd cx d_X11_bits_16 ?_
  refine g_toi 0 (by decide) ?_
  refine g_istore_n cx [(1, .int 0), (2, .int 5), (0, .int 0)] d_X11_bits_17 (by decide) rfl ?_
  refine g_iinc cx 6 [(2, .int 6), (1, .int 0), (0, .int 0)] 1 d_X11_bits_18 rfl (by decide) (by decide) rfl ?_
  refine g_goto cx 4 d_X11_bits_21 (by decide) ?_
  refine g_iload_n cx 0 rfl d_X11_bits_4 ?_
  refine g_bipush cx 10 (by decide) d_X11_bits_5 ?_
  refine g_icmp_ge_f cx 24 d_X11_bits_7 (by decide) (by decide) ?_
  refine g_iload_n cx 1 rfl d_X11_bits_10 ?_
  refine g_iload_n cx 2 rfl d_X11_bits_11 ?_
  refine g_iload_n cx 0 rfl d_X11_bits_12 ?_
  refine g_ishr cx d_X11_bits_13 ?_
  refine g_toi 0 (by decide) ?_
  refine g_iconst cx 1 (by decide) d_X11_bits_14 ?_
  refine g_iand cx d_X11_bits_15 ?_
  refine g_toi 0 (by decide) ?_
  refine g_iadd cx d_X11_bits_16 ?_
  refine g_toi 0 (by decide) ?_
  refine g_istore_n cx [(1, .int 0), (2, .int 6), (0, .int 0)] d_X11_bits_17 (by decide) rfl ?_
  refine g_iinc cx 7 [(2, .int 7), (1, .int 0), (0, .int 0)] 1 d_X11_bits_18 rfl (by decide) (by decide) rfl ?_
  refine g_goto cx 4 d_X11_bits_21 (by decide) ?_
  refine g_iload_n cx 0 rfl d_X11_bits_4 ?_
  refine g_bipush cx 10 (by decide) d_X11_bits_5 ?_
  refine g_icmp_ge_f cx 24 d_X11_bits_7 (by decide) (by decide) ?_
  refine g_iload_n cx 1 rfl d_X11_bits_10 ?_
  refine g_iload_n cx 2 rfl d_X11_bits_11 ?_
  refine g_iload_n cx 0 rfl d_X11_bits_12 ?_
  refine g_ishr cx d_X11_bits_13 ?_
  refine g_toi 0 (by decide) ?_
  refine g_iconst cx 1 (by decide) d_X11_bits_14 ?_
  refine g_iand cx d_X11_bits_15 ?_
  refine g_toi 0 (by decide) ?_
  refine g_iadd cx d_X11_bits_16 ?_
  refine g_toi 0 (by decide) ?_
  refine g_istore_n cx [(1, .int 0), (2, .int 7), (0, .int 0)] d_X11_bits_17 (by decide) rfl ?_
  refine g_iinc cx 8 [(2, .int 8), (1, .int 0), (0, .int 0)] 1 d_X11_bits_18 rfl (by decide) (by decide) rfl ?_
  refine g_goto cx 4 d_X11_bits_21 (by decide) ?_
  refine g_iload_n cx 0 rfl d_X11_bits_4 ?_
  refine g_bipush cx 10 (by decide) d_X11_bits_5 ?_
  refine g_icmp_ge_f cx 24 d_X11_bits_7 (by decide) (by decide) ?_
  refine g_iload_n cx 1 rfl d_X11_bits_10 ?_
  refine g_iload_n cx 2 rfl d_X11_bits_11 ?_
  refine g_iload_n cx 0 rfl d_X11_bits_12 ?_
  refine g_ishr cx d_X11_bits_13 ?_
  refine g_toi 0 (by decide) ?_
  refine g_iconst cx 1 (by decide) d_X11_bits_14 ?_
  refine g_iand cx d_X11_bits_15 ?_
  refine g_toi 0 (by decide) ?_
  refine g_iadd cx d_X11_bits_16 ?_
  refine g_toi 0 (by decide) ?_
  refine g_istore_n cx [(1, .int 0), (2, .int 8), (0, .int 0)] d_X11_bits_17 (by decide) rfl ?_
  refine g_iinc cx 9 [(2, .int 9), (1, .int 0), (0, .int 0)] 1 d_X11_bits_18 rfl (by decide) (by decide) rfl ?_
  refine g_goto cx 4 d_X11_bits_21 (by decide) ?_
  refine g_iload_n cx 0 rfl d_X11_bits_4 ?_
  refine g_bipush cx 10 (by decide) d_X11_bits_5 ?_
  refine g_icmp_ge_f cx 24 d_X11_bits_7 (by decide) (by decide) ?_
  refine g_iload_n cx 1 rfl d_X11_bits_10 ?_
  refine g_iload_n cx 2 rfl d_X11_bits_11 ?_
  refine g_iload_n cx 0 rfl d_X11_bits_12 ?_
  refine g_ishr cx d_X11_bits_13 ?_
  refine g_toi 0 (by decide) ?_
  refine g_iconst cx 1 (by decide) d_X11_bits_14 ?_
  refine g_iand cx d_X11_bits_15 ?_
  refine g_toi 0 (by decide) ?_
  refine g_iadd cx d_X11_bits_16 ?_
  refine g_toi 0 (by decide) ?_
  refine g_istore_n cx [(1, .int 0), (2, .int 9), (0, .int 0)] d_X11_bits_17 (by decide) rfl ?_
  refine g_iinc cx 10 [(2, .int 10), (1, .int 0), (0, .int 0)] 1 d_X11_bits_18 rfl (by decide) (by decide) rfl ?_
  refine g_goto cx 4 d_X11_bits_21 (by decide) ?_
  refine g_iload_n cx 0 rfl d_X11_bits_4 ?_
  refine g_bipush cx 10 (by decide) d_X11_bits_5 ?_
  refine g_icmp_ge_t cx 24 d_X11_bits_7 (by decide) (by decide) ?_
  refine g_iload_n cx 1 rfl d_X11_bits_24 ?_
  exact hret d_X11_bits_25 (Nat.le_of_ble_eq_true rfl) (Nat.le_of_ble_eq_true rfl) rfl (⟨rfl, rfl⟩)
theorem d_X11_isTold_0 : g_dc cX11_isTold 0 (.iload_n 1) 1 1 := ⟨by decide +kernel, rfl⟩
theorem d_X11_isTold_1 : g_dc cX11_isTold 1 (.ifCond .lt 24) 3 4 := ⟨by decide +kernel, rfl⟩
theorem d_X11_isTold_4 : g_dc cX11_isTold 4 (.iload_n 1) 1 5 := ⟨by decide +kernel, rfl⟩
theorem d_X11_isTold_5 : g_dc cX11_isTold 5 (.bipush 10) 2 7 := ⟨by decide +kernel, rfl⟩
theorem d_X11_isTold_7 : g_dc cX11_isTold 7 (.if_icmp .ge 18) 3 10 := ⟨by decide +kernel, rfl⟩
theorem d_X11_isTold_10 : g_dc cX11_isTold 10 (.aload_n 0) 1 11 := ⟨by decide +kernel, rfl⟩
theorem d_X11_isTold_11 : g_dc cX11_isTold 11 (.getfield 172) 3 14 := ⟨by decide +kernel, rfl⟩
theorem d_X11_isTold_14 : g_dc cX11_isTold 14 (.iload_n 1) 1 15 := ⟨by decide +kernel, rfl⟩
theorem d_X11_isTold_15 : g_dc cX11_isTold 15 (.invokestatic 175) 3 18 := ⟨by decide +kernel, rfl⟩
theorem d_X11_isTold_18 : g_dc cX11_isTold 18 (.ifCond .eq 7) 3 21 := ⟨by decide +kernel, rfl⟩
theorem d_X11_isTold_25 : g_dc cX11_isTold 25 (.iconst 0) 1 26 := ⟨by decide +kernel, rfl⟩
theorem d_X11_isTold_26 : g_dc cX11_isTold 26 (.ireturn) 1 27 := ⟨by decide +kernel, rfl⟩
set_option maxHeartbeats 4000000 in
set_option maxRecDepth 100000 in
theorem c_X11_isTold (l : Launch) (X : gX) (ad : Nat → Nat) (F : Nat → Int32) (R : Nat → Nat → Int32) (i : Int32) (h4 : F 4 = 0) : g_Ci l X yX11_isTold cX11_isTold 2 (some .boolean) 2 0 0 [.ref (ad 0), .int i] (wM X ad F R) (fun r w => w = wM X ad F R ∧ r = 0) := by
  refine g_mi (by decide +kernel) (Nat.le_of_ble_eq_true rfl) (fun E cx hret => ?_)
  refine g_iload_n cx 1 rfl d_X11_isTold_0 ?_
  refine g_if_lt cx 25 d_X11_isTold_1 (by decide) (fun zc1 => ?_) (fun zc1 => ?_)
  · refine g_iconst cx 0 (by decide) d_X11_isTold_25 ?_
    exact hret d_X11_isTold_26 (Nat.le_of_ble_eq_true rfl) (Nat.le_of_ble_eq_true rfl) rfl (⟨rfl, rfl⟩)
  · refine g_iload_n cx 1 rfl d_X11_isTold_4 ?_
    refine g_bipush cx 10 (by decide) d_X11_isTold_5 ?_
    refine g_icmp_ge cx 25 d_X11_isTold_7 (by decide) (fun zc7 => ?_) (fun zc7 => ?_)
    · refine g_iconst cx 0 (by decide) d_X11_isTold_25 ?_
      exact hret d_X11_isTold_26 (Nat.le_of_ble_eq_true rfl) (Nat.le_of_ble_eq_true rfl) rfl (⟨rfl, rfl⟩)
    · refine g_aload_n cx 0 rfl d_X11_isTold_10 ?_
      refine g_get cx cl_X11 fl_X11_172 0 (.int (F 4)) d_X11_isTold_11 rfl rfl ?_
      refine g_toi 0 (h4) ?_
      refine g_iload_n cx 1 rfl d_X11_isTold_14 ?_
      refine g_cSiW cx [.int 0, .int i] [] (c_X11_has l X _ 0 i) ml_X11_175 yS_X11_has rfl d_X11_isTold_15 (by unfold g_rr; decide) (by decide) rfl (Nat.le_of_ble_eq_true rfl) (fun r1 w2 h3 => ?_)
      obtain ⟨rfl, rfl⟩ := h3
      refine g_toi 0 (g_mh0 _) ?_
      refine g_if_eq_t cx 25 d_X11_isTold_18 (by decide) (by decide) ?_
      refine g_iconst cx 0 (by decide) d_X11_isTold_25 ?_
      exact hret d_X11_isTold_26 (Nat.le_of_ble_eq_true rfl) (Nat.le_of_ble_eq_true rfl) rfl (⟨rfl, rfl⟩)
theorem d_X11_stands_0 : g_dc cX11_stands 0 (.aload_n 0) 1 1 := ⟨by decide +kernel, rfl⟩
theorem d_X11_stands_1 : g_dc cX11_stands 1 (.getfield 312) 3 4 := ⟨by decide +kernel, rfl⟩
theorem d_X11_stands_4 : g_dc cX11_stands 4 (.iload_n 1) 1 5 := ⟨by decide +kernel, rfl⟩
theorem d_X11_stands_5 : g_dc cX11_stands 5 (.invokestatic 175) 3 8 := ⟨by decide +kernel, rfl⟩
theorem d_X11_stands_8 : g_dc cX11_stands 8 (.ifCond .eq 16) 3 11 := ⟨by decide +kernel, rfl⟩
theorem d_X11_stands_24 : g_dc cX11_stands 24 (.iconst 0) 1 25 := ⟨by decide +kernel, rfl⟩
theorem d_X11_stands_25 : g_dc cX11_stands 25 (.ireturn) 1 26 := ⟨by decide +kernel, rfl⟩
set_option maxHeartbeats 4000000 in
set_option maxRecDepth 100000 in
theorem c_X11_stands (l : Launch) (X : gX) (ad : Nat → Nat) (F : Nat → Int32) (R : Nat → Nat → Int32) (i : Int32) (h42 : F 42 = 0) : g_Ci l X yX11_stands cX11_stands 2 (some .boolean) 2 0 0 [.ref (ad 0), .int i] (wM X ad F R) (fun r w => w = wM X ad F R ∧ r = 0) := by
  refine g_mi (by decide +kernel) (Nat.le_of_ble_eq_true rfl) (fun E cx hret => ?_)
  refine g_aload_n cx 0 rfl d_X11_stands_0 ?_
  refine g_get cx cl_X11 fl_X11_312 0 (.int (F 42)) d_X11_stands_1 rfl rfl ?_
  refine g_toi 0 (h42) ?_
  refine g_iload_n cx 1 rfl d_X11_stands_4 ?_
  refine g_cSiW cx [.int 0, .int i] [] (c_X11_has l X _ 0 i) ml_X11_175 yS_X11_has rfl d_X11_stands_5 (by unfold g_rr; decide) (by decide) rfl (Nat.le_of_ble_eq_true rfl) (fun r1 w2 h3 => ?_)
  obtain ⟨rfl, rfl⟩ := h3
  refine g_toi 0 (g_mh0 _) ?_
  refine g_if_eq_t cx 24 d_X11_stands_8 (by decide) (by decide) ?_
  refine g_iconst cx 0 (by decide) d_X11_stands_24 ?_
  exact hret d_X11_stands_25 (Nat.le_of_ble_eq_true rfl) (Nat.le_of_ble_eq_true rfl) rfl (⟨rfl, rfl⟩)
theorem d_X11_someMove_0 : g_dc cX11_someMove 0 (.iconst 0) 1 1 := ⟨by decide +kernel, rfl⟩
theorem d_X11_someMove_1 : g_dc cX11_someMove 1 (.istore_n 1) 1 2 := ⟨by decide +kernel, rfl⟩
theorem d_X11_someMove_2 : g_dc cX11_someMove 2 (.iload_n 1) 1 3 := ⟨by decide +kernel, rfl⟩
theorem d_X11_someMove_3 : g_dc cX11_someMove 3 (.bipush 10) 2 5 := ⟨by decide +kernel, rfl⟩
theorem d_X11_someMove_5 : g_dc cX11_someMove 5 (.if_icmp .ge 28) 3 8 := ⟨by decide +kernel, rfl⟩
theorem d_X11_someMove_8 : g_dc cX11_someMove 8 (.aload_n 0) 1 9 := ⟨by decide +kernel, rfl⟩
theorem d_X11_someMove_9 : g_dc cX11_someMove 9 (.iload_n 1) 1 10 := ⟨by decide +kernel, rfl⟩
theorem d_X11_someMove_10 : g_dc cX11_someMove 10 (.invokevirtual 343) 3 13 := ⟨by decide +kernel, rfl⟩
theorem d_X11_someMove_13 : g_dc cX11_someMove 13 (.ifCond .eq 14) 3 16 := ⟨by decide +kernel, rfl⟩
theorem d_X11_someMove_27 : g_dc cX11_someMove 27 (.iinc 1 1) 3 30 := ⟨by decide +kernel, rfl⟩
theorem d_X11_someMove_30 : g_dc cX11_someMove 30 (.goto (-28)) 3 33 := ⟨by decide +kernel, rfl⟩
theorem d_X11_someMove_33 : g_dc cX11_someMove 33 (.iconst 0) 1 34 := ⟨by decide +kernel, rfl⟩
theorem d_X11_someMove_34 : g_dc cX11_someMove 34 (.ireturn) 1 35 := ⟨by decide +kernel, rfl⟩
set_option maxHeartbeats 4000000 in
set_option maxRecDepth 100000 in
theorem c_X11_someMove (l : Launch) (X : gX) (ad : Nat → Nat) (F : Nat → Int32) (R : Nat → Nat → Int32) (h42 : F 42 = 0) : g_Ci l X yX11_someMove cX11_someMove 2 (some .boolean) 3 0 0 [.ref (ad 0)] (wM X ad F R) (fun r w => w = wM X ad F R ∧ r = 0) := by
  refine g_mi (by decide +kernel) (Nat.le_of_ble_eq_true rfl) (fun E cx hret => ?_)
  refine g_iconst cx 0 (by decide) d_X11_someMove_0 ?_
  refine g_istore_n cx [(1, .int 0), (0, .ref (ad 0))] d_X11_someMove_1 (by decide) rfl ?_
  refine g_iload_n cx 0 rfl d_X11_someMove_2 ?_
  refine g_bipush cx 10 (by decide) d_X11_someMove_3 ?_
  refine g_icmp_ge_f cx 33 d_X11_someMove_5 (by decide) (by decide) ?_
  refine g_aload_n cx 1 rfl d_X11_someMove_8 ?_
  refine g_iload_n cx 0 rfl d_X11_someMove_9 ?_
  refine g_cViW cx [.int 0] [] (c_X11_stands l X ad F R 0 h42) ml_X11_343 yV_X11_stands d_X11_someMove_10 (by unfold g_rr; decide) (by decide) 0 rfl rfl rfl (Nat.le_of_ble_eq_true rfl) (fun r1 w2 h3 => ?_)
  obtain ⟨rfl, rfl⟩ := h3
  refine g_if_eq_t cx 27 d_X11_someMove_13 (by decide) (by decide) ?_
  refine g_iinc cx 1 [(1, .int 1), (0, .ref (ad 0))] 0 d_X11_someMove_27 rfl (by decide) (by decide) rfl ?_
  refine g_goto cx 2 d_X11_someMove_30 (by decide) ?_
  refine g_iload_n cx 0 rfl d_X11_someMove_2 ?_
  refine g_bipush cx 10 (by decide) d_X11_someMove_3 ?_
  refine g_icmp_ge_f cx 33 d_X11_someMove_5 (by decide) (by decide) ?_
  refine g_aload_n cx 1 rfl d_X11_someMove_8 ?_
  refine g_iload_n cx 0 rfl d_X11_someMove_9 ?_
  refine g_cViW cx [.int 1] [] (c_X11_stands l X ad F R 1 h42) ml_X11_343 yV_X11_stands d_X11_someMove_10 (by unfold g_rr; decide) (by decide) 0 rfl rfl rfl (Nat.le_of_ble_eq_true rfl) (fun r4 w5 h6 => ?_)
  obtain ⟨rfl, rfl⟩ := h6
  refine g_if_eq_t cx 27 d_X11_someMove_13 (by decide) (by decide) ?_
  refine g_iinc cx 2 [(1, .int 2), (0, .ref (ad 0))] 0 d_X11_someMove_27 rfl (by decide) (by decide) rfl ?_
  refine g_goto cx 2 d_X11_someMove_30 (by decide) ?_
  refine g_iload_n cx 0 rfl d_X11_someMove_2 ?_
  refine g_bipush cx 10 (by decide) d_X11_someMove_3 ?_
  refine g_icmp_ge_f cx 33 d_X11_someMove_5 (by decide) (by decide) ?_
  refine g_aload_n cx 1 rfl d_X11_someMove_8 ?_
  refine g_iload_n cx 0 rfl d_X11_someMove_9 ?_
  refine g_cViW cx [.int 2] [] (c_X11_stands l X ad F R 2 h42) ml_X11_343 yV_X11_stands d_X11_someMove_10 (by unfold g_rr; decide) (by decide) 0 rfl rfl rfl (Nat.le_of_ble_eq_true rfl) (fun r7 w8 h9 => ?_)
  obtain ⟨rfl, rfl⟩ := h9
  refine g_if_eq_t cx 27 d_X11_someMove_13 (by decide) (by decide) ?_
  refine g_iinc cx 3 [(1, .int 3), (0, .ref (ad 0))] 0 d_X11_someMove_27 rfl (by decide) (by decide) rfl ?_
  refine g_goto cx 2 d_X11_someMove_30 (by decide) ?_
  refine g_iload_n cx 0 rfl d_X11_someMove_2 ?_
  refine g_bipush cx 10 (by decide) d_X11_someMove_3 ?_
  refine g_icmp_ge_f cx 33 d_X11_someMove_5 (by decide) (by decide) ?_
  refine g_aload_n cx 1 rfl d_X11_someMove_8 ?_
  refine g_iload_n cx 0 rfl d_X11_someMove_9 ?_
  refine g_cViW cx [.int 3] [] (c_X11_stands l X ad F R 3 h42) ml_X11_343 yV_X11_stands d_X11_someMove_10 (by unfold g_rr; decide) (by decide) 0 rfl rfl rfl (Nat.le_of_ble_eq_true rfl) (fun r10 w11 h12 => ?_)
  obtain ⟨rfl, rfl⟩ := h12
  refine g_if_eq_t cx 27 d_X11_someMove_13 (by decide) (by decide) ?_
  refine g_iinc cx 4 [(1, .int 4), (0, .ref (ad 0))] 0 d_X11_someMove_27 rfl (by decide) (by decide) rfl ?_
  refine g_goto cx 2 d_X11_someMove_30 (by decide) ?_
  refine g_iload_n cx 0 rfl d_X11_someMove_2 ?_
  refine g_bipush cx 10 (by decide) d_X11_someMove_3 ?_
  refine g_icmp_ge_f cx 33 d_X11_someMove_5 (by decide) (by decide) ?_
  refine g_aload_n cx 1 rfl d_X11_someMove_8 ?_
  refine g_iload_n cx 0 rfl d_X11_someMove_9 ?_
  refine g_cViW cx [.int 4] [] (c_X11_stands l X ad F R 4 h42) ml_X11_343 yV_X11_stands d_X11_someMove_10 (by unfold g_rr; decide) (by decide) 0 rfl rfl rfl (Nat.le_of_ble_eq_true rfl) (fun r13 w14 h15 => ?_)
  obtain ⟨rfl, rfl⟩ := h15
  refine g_if_eq_t cx 27 d_X11_someMove_13 (by decide) (by decide) ?_
  refine g_iinc cx 5 [(1, .int 5), (0, .ref (ad 0))] 0 d_X11_someMove_27 rfl (by decide) (by decide) rfl ?_
  refine g_goto cx 2 d_X11_someMove_30 (by decide) ?_
  refine g_iload_n cx 0 rfl d_X11_someMove_2 ?_
  refine g_bipush cx 10 (by decide) d_X11_someMove_3 ?_
  refine g_icmp_ge_f cx 33 d_X11_someMove_5 (by decide) (by decide) ?_
  refine g_aload_n cx 1 rfl d_X11_someMove_8 ?_
  refine g_iload_n cx 0 rfl d_X11_someMove_9 ?_
  refine g_cViW cx [.int 5] [] (c_X11_stands l X ad F R 5 h42) ml_X11_343 yV_X11_stands d_X11_someMove_10 (by unfold g_rr; decide) (by decide) 0 rfl rfl rfl (Nat.le_of_ble_eq_true rfl) (fun r16 w17 h18 => ?_)
  obtain ⟨rfl, rfl⟩ := h18
  refine g_if_eq_t cx 27 d_X11_someMove_13 (by decide) (by decide) ?_
  refine g_iinc cx 6 [(1, .int 6), (0, .ref (ad 0))] 0 d_X11_someMove_27 rfl (by decide) (by decide) rfl ?_
  refine g_goto cx 2 d_X11_someMove_30 (by decide) ?_
  refine g_iload_n cx 0 rfl d_X11_someMove_2 ?_
  refine g_bipush cx 10 (by decide) d_X11_someMove_3 ?_
  refine g_icmp_ge_f cx 33 d_X11_someMove_5 (by decide) (by decide) ?_
  refine g_aload_n cx 1 rfl d_X11_someMove_8 ?_
  refine g_iload_n cx 0 rfl d_X11_someMove_9 ?_
  refine g_cViW cx [.int 6] [] (c_X11_stands l X ad F R 6 h42) ml_X11_343 yV_X11_stands d_X11_someMove_10 (by unfold g_rr; decide) (by decide) 0 rfl rfl rfl (Nat.le_of_ble_eq_true rfl) (fun r19 w20 h21 => ?_)
  obtain ⟨rfl, rfl⟩ := h21
  refine g_if_eq_t cx 27 d_X11_someMove_13 (by decide) (by decide) ?_
  refine g_iinc cx 7 [(1, .int 7), (0, .ref (ad 0))] 0 d_X11_someMove_27 rfl (by decide) (by decide) rfl ?_
  refine g_goto cx 2 d_X11_someMove_30 (by decide) ?_
  refine g_iload_n cx 0 rfl d_X11_someMove_2 ?_
  refine g_bipush cx 10 (by decide) d_X11_someMove_3 ?_
  refine g_icmp_ge_f cx 33 d_X11_someMove_5 (by decide) (by decide) ?_
  refine g_aload_n cx 1 rfl d_X11_someMove_8 ?_
  refine g_iload_n cx 0 rfl d_X11_someMove_9 ?_
  refine g_cViW cx [.int 7] [] (c_X11_stands l X ad F R 7 h42) ml_X11_343 yV_X11_stands d_X11_someMove_10 (by unfold g_rr; decide) (by decide) 0 rfl rfl rfl (Nat.le_of_ble_eq_true rfl) (fun r22 w23 h24 => ?_)
  obtain ⟨rfl, rfl⟩ := h24
  refine g_if_eq_t cx 27 d_X11_someMove_13 (by decide) (by decide) ?_
  refine g_iinc cx 8 [(1, .int 8), (0, .ref (ad 0))] 0 d_X11_someMove_27 rfl (by decide) (by decide) rfl ?_
  refine g_goto cx 2 d_X11_someMove_30 (by decide) ?_
  refine g_iload_n cx 0 rfl d_X11_someMove_2 ?_
  refine g_bipush cx 10 (by decide) d_X11_someMove_3 ?_
  refine g_icmp_ge_f cx 33 d_X11_someMove_5 (by decide) (by decide) ?_
  refine g_aload_n cx 1 rfl d_X11_someMove_8 ?_
  refine g_iload_n cx 0 rfl d_X11_someMove_9 ?_
  refine g_cViW cx [.int 8] [] (c_X11_stands l X ad F R 8 h42) ml_X11_343 yV_X11_stands d_X11_someMove_10 (by unfold g_rr; decide) (by decide) 0 rfl rfl rfl (Nat.le_of_ble_eq_true rfl) (fun r25 w26 h27 => ?_)
  obtain ⟨rfl, rfl⟩ := h27
  refine g_if_eq_t cx 27 d_X11_someMove_13 (by decide) (by decide) ?_
  refine g_iinc cx 9 [(1, .int 9), (0, .ref (ad 0))] 0 d_X11_someMove_27 rfl (by decide) (by decide) rfl ?_
  refine g_goto cx 2 d_X11_someMove_30 (by decide) ?_
  refine g_iload_n cx 0 rfl d_X11_someMove_2 ?_
  refine g_bipush cx 10 (by decide) d_X11_someMove_3 ?_
  refine g_icmp_ge_f cx 33 d_X11_someMove_5 (by decide) (by decide) ?_
  refine g_aload_n cx 1 rfl d_X11_someMove_8 ?_
  refine g_iload_n cx 0 rfl d_X11_someMove_9 ?_
  refine g_cViW cx [.int 9] [] (c_X11_stands l X ad F R 9 h42) ml_X11_343 yV_X11_stands d_X11_someMove_10 (by unfold g_rr; decide) (by decide) 0 rfl rfl rfl (Nat.le_of_ble_eq_true rfl) (fun r28 w29 h30 => ?_)
  obtain ⟨rfl, rfl⟩ := h30
  refine g_if_eq_t cx 27 d_X11_someMove_13 (by decide) (by decide) ?_
  refine g_iinc cx 10 [(1, .int 10), (0, .ref (ad 0))] 0 d_X11_someMove_27 rfl (by decide) (by decide) rfl ?_
  refine g_goto cx 2 d_X11_someMove_30 (by decide) ?_
  refine g_iload_n cx 0 rfl d_X11_someMove_2 ?_
  refine g_bipush cx 10 (by decide) d_X11_someMove_3 ?_
  refine g_icmp_ge_t cx 33 d_X11_someMove_5 (by decide) (by decide) ?_
  refine g_iconst cx 0 (by decide) d_X11_someMove_33 ?_
  exact hret d_X11_someMove_34 (Nat.le_of_ble_eq_true rfl) (Nat.le_of_ble_eq_true rfl) rfl (⟨rfl, rfl⟩)
theorem d_X11_standing_0 : g_dc cX11_standing 0 (.iconst 0) 1 1 := ⟨by decide +kernel, rfl⟩
theorem d_X11_standing_1 : g_dc cX11_standing 1 (.istore_n 1) 1 2 := ⟨by decide +kernel, rfl⟩
theorem d_X11_standing_2 : g_dc cX11_standing 2 (.iconst 0) 1 3 := ⟨by decide +kernel, rfl⟩
theorem d_X11_standing_3 : g_dc cX11_standing 3 (.istore_n 2) 1 4 := ⟨by decide +kernel, rfl⟩
theorem d_X11_standing_4 : g_dc cX11_standing 4 (.iload_n 2) 1 5 := ⟨by decide +kernel, rfl⟩
theorem d_X11_standing_5 : g_dc cX11_standing 5 (.bipush 10) 2 7 := ⟨by decide +kernel, rfl⟩
theorem d_X11_standing_7 : g_dc cX11_standing 7 (.if_icmp .ge 23) 3 10 := ⟨by decide +kernel, rfl⟩
theorem d_X11_standing_10 : g_dc cX11_standing 10 (.aload_n 0) 1 11 := ⟨by decide +kernel, rfl⟩
theorem d_X11_standing_11 : g_dc cX11_standing 11 (.iload_n 2) 1 12 := ⟨by decide +kernel, rfl⟩
theorem d_X11_standing_12 : g_dc cX11_standing 12 (.invokevirtual 343) 3 15 := ⟨by decide +kernel, rfl⟩
theorem d_X11_standing_15 : g_dc cX11_standing 15 (.ifCond .eq 9) 3 18 := ⟨by decide +kernel, rfl⟩
theorem d_X11_standing_24 : g_dc cX11_standing 24 (.iinc 2 1) 3 27 := ⟨by decide +kernel, rfl⟩
theorem d_X11_standing_27 : g_dc cX11_standing 27 (.goto (-23)) 3 30 := ⟨by decide +kernel, rfl⟩
theorem d_X11_standing_30 : g_dc cX11_standing 30 (.iload_n 1) 1 31 := ⟨by decide +kernel, rfl⟩
theorem d_X11_standing_31 : g_dc cX11_standing 31 (.ireturn) 1 32 := ⟨by decide +kernel, rfl⟩
set_option maxHeartbeats 4000000 in
set_option maxRecDepth 100000 in
theorem c_X11_standing (l : Launch) (X : gX) (ad : Nat → Nat) (F : Nat → Int32) (R : Nat → Nat → Int32) (h42 : F 42 = 0) : g_Ci l X yX11_standing cX11_standing 3 (some .int) 3 0 0 [.ref (ad 0)] (wM X ad F R) (fun r w => w = wM X ad F R ∧ r = 0) := by
  refine g_mi (by decide +kernel) (Nat.le_of_ble_eq_true rfl) (fun E cx hret => ?_)
  refine g_iconst cx 0 (by decide) d_X11_standing_0 ?_
  refine g_istore_n cx [(1, .int 0), (0, .ref (ad 0))] d_X11_standing_1 (by decide) rfl ?_
  refine g_iconst cx 0 (by decide) d_X11_standing_2 ?_
  refine g_istore_n cx [(2, .int 0), (1, .int 0), (0, .ref (ad 0))] d_X11_standing_3 (by decide) rfl ?_
  refine g_iload_n cx 0 rfl d_X11_standing_4 ?_
  refine g_bipush cx 10 (by decide) d_X11_standing_5 ?_
  refine g_icmp_ge_f cx 30 d_X11_standing_7 (by decide) (by decide) ?_
  refine g_aload_n cx 2 rfl d_X11_standing_10 ?_
  refine g_iload_n cx 0 rfl d_X11_standing_11 ?_
  refine g_cViW cx [.int 0] [] (c_X11_stands l X ad F R 0 h42) ml_X11_343 yV_X11_stands d_X11_standing_12 (by unfold g_rr; decide) (by decide) 0 rfl rfl rfl (Nat.le_of_ble_eq_true rfl) (fun r1 w2 h3 => ?_)
  obtain ⟨rfl, rfl⟩ := h3
  refine g_if_eq_t cx 24 d_X11_standing_15 (by decide) (by decide) ?_
  refine g_iinc cx 1 [(2, .int 1), (1, .int 0), (0, .ref (ad 0))] 0 d_X11_standing_24 rfl (by decide) (by decide) rfl ?_
  refine g_goto cx 4 d_X11_standing_27 (by decide) ?_
  refine g_iload_n cx 0 rfl d_X11_standing_4 ?_
  refine g_bipush cx 10 (by decide) d_X11_standing_5 ?_
  refine g_icmp_ge_f cx 30 d_X11_standing_7 (by decide) (by decide) ?_
  refine g_aload_n cx 2 rfl d_X11_standing_10 ?_
  refine g_iload_n cx 0 rfl d_X11_standing_11 ?_
  refine g_cViW cx [.int 1] [] (c_X11_stands l X ad F R 1 h42) ml_X11_343 yV_X11_stands d_X11_standing_12 (by unfold g_rr; decide) (by decide) 0 rfl rfl rfl (Nat.le_of_ble_eq_true rfl) (fun r4 w5 h6 => ?_)
  obtain ⟨rfl, rfl⟩ := h6
  refine g_if_eq_t cx 24 d_X11_standing_15 (by decide) (by decide) ?_
  refine g_iinc cx 2 [(2, .int 2), (1, .int 0), (0, .ref (ad 0))] 0 d_X11_standing_24 rfl (by decide) (by decide) rfl ?_
  refine g_goto cx 4 d_X11_standing_27 (by decide) ?_
  refine g_iload_n cx 0 rfl d_X11_standing_4 ?_
  refine g_bipush cx 10 (by decide) d_X11_standing_5 ?_
  refine g_icmp_ge_f cx 30 d_X11_standing_7 (by decide) (by decide) ?_
  refine g_aload_n cx 2 rfl d_X11_standing_10 ?_
  refine g_iload_n cx 0 rfl d_X11_standing_11 ?_
  refine g_cViW cx [.int 2] [] (c_X11_stands l X ad F R 2 h42) ml_X11_343 yV_X11_stands d_X11_standing_12 (by unfold g_rr; decide) (by decide) 0 rfl rfl rfl (Nat.le_of_ble_eq_true rfl) (fun r7 w8 h9 => ?_)
  obtain ⟨rfl, rfl⟩ := h9
  refine g_if_eq_t cx 24 d_X11_standing_15 (by decide) (by decide) ?_
  refine g_iinc cx 3 [(2, .int 3), (1, .int 0), (0, .ref (ad 0))] 0 d_X11_standing_24 rfl (by decide) (by decide) rfl ?_
  refine g_goto cx 4 d_X11_standing_27 (by decide) ?_
  refine g_iload_n cx 0 rfl d_X11_standing_4 ?_
  refine g_bipush cx 10 (by decide) d_X11_standing_5 ?_
  refine g_icmp_ge_f cx 30 d_X11_standing_7 (by decide) (by decide) ?_
  refine g_aload_n cx 2 rfl d_X11_standing_10 ?_
  refine g_iload_n cx 0 rfl d_X11_standing_11 ?_
  refine g_cViW cx [.int 3] [] (c_X11_stands l X ad F R 3 h42) ml_X11_343 yV_X11_stands d_X11_standing_12 (by unfold g_rr; decide) (by decide) 0 rfl rfl rfl (Nat.le_of_ble_eq_true rfl) (fun r10 w11 h12 => ?_)
  obtain ⟨rfl, rfl⟩ := h12
  refine g_if_eq_t cx 24 d_X11_standing_15 (by decide) (by decide) ?_
  refine g_iinc cx 4 [(2, .int 4), (1, .int 0), (0, .ref (ad 0))] 0 d_X11_standing_24 rfl (by decide) (by decide) rfl ?_
  refine g_goto cx 4 d_X11_standing_27 (by decide) ?_
  refine g_iload_n cx 0 rfl d_X11_standing_4 ?_
  refine g_bipush cx 10 (by decide) d_X11_standing_5 ?_
  refine g_icmp_ge_f cx 30 d_X11_standing_7 (by decide) (by decide) ?_
  refine g_aload_n cx 2 rfl d_X11_standing_10 ?_
  refine g_iload_n cx 0 rfl d_X11_standing_11 ?_
  refine g_cViW cx [.int 4] [] (c_X11_stands l X ad F R 4 h42) ml_X11_343 yV_X11_stands d_X11_standing_12 (by unfold g_rr; decide) (by decide) 0 rfl rfl rfl (Nat.le_of_ble_eq_true rfl) (fun r13 w14 h15 => ?_)
  obtain ⟨rfl, rfl⟩ := h15
  refine g_if_eq_t cx 24 d_X11_standing_15 (by decide) (by decide) ?_
  refine g_iinc cx 5 [(2, .int 5), (1, .int 0), (0, .ref (ad 0))] 0 d_X11_standing_24 rfl (by decide) (by decide) rfl ?_
  refine g_goto cx 4 d_X11_standing_27 (by decide) ?_
  refine g_iload_n cx 0 rfl d_X11_standing_4 ?_
  refine g_bipush cx 10 (by decide) d_X11_standing_5 ?_
  refine g_icmp_ge_f cx 30 d_X11_standing_7 (by decide) (by decide) ?_
  refine g_aload_n cx 2 rfl d_X11_standing_10 ?_
  refine g_iload_n cx 0 rfl d_X11_standing_11 ?_
  refine g_cViW cx [.int 5] [] (c_X11_stands l X ad F R 5 h42) ml_X11_343 yV_X11_stands d_X11_standing_12 (by unfold g_rr; decide) (by decide) 0 rfl rfl rfl (Nat.le_of_ble_eq_true rfl) (fun r16 w17 h18 => ?_)
  obtain ⟨rfl, rfl⟩ := h18
  refine g_if_eq_t cx 24 d_X11_standing_15 (by decide) (by decide) ?_
  refine g_iinc cx 6 [(2, .int 6), (1, .int 0), (0, .ref (ad 0))] 0 d_X11_standing_24 rfl (by decide) (by decide) rfl ?_
  refine g_goto cx 4 d_X11_standing_27 (by decide) ?_
  refine g_iload_n cx 0 rfl d_X11_standing_4 ?_
  refine g_bipush cx 10 (by decide) d_X11_standing_5 ?_
  refine g_icmp_ge_f cx 30 d_X11_standing_7 (by decide) (by decide) ?_
  refine g_aload_n cx 2 rfl d_X11_standing_10 ?_
  refine g_iload_n cx 0 rfl d_X11_standing_11 ?_
  refine g_cViW cx [.int 6] [] (c_X11_stands l X ad F R 6 h42) ml_X11_343 yV_X11_stands d_X11_standing_12 (by unfold g_rr; decide) (by decide) 0 rfl rfl rfl (Nat.le_of_ble_eq_true rfl) (fun r19 w20 h21 => ?_)
  obtain ⟨rfl, rfl⟩ := h21
  refine g_if_eq_t cx 24 d_X11_standing_15 (by decide) (by decide) ?_
  refine g_iinc cx 7 [(2, .int 7), (1, .int 0), (0, .ref (ad 0))] 0 d_X11_standing_24 rfl (by decide) (by decide) rfl ?_
  refine g_goto cx 4 d_X11_standing_27 (by decide) ?_
  refine g_iload_n cx 0 rfl d_X11_standing_4 ?_
  refine g_bipush cx 10 (by decide) d_X11_standing_5 ?_
  refine g_icmp_ge_f cx 30 d_X11_standing_7 (by decide) (by decide) ?_
  refine g_aload_n cx 2 rfl d_X11_standing_10 ?_
  refine g_iload_n cx 0 rfl d_X11_standing_11 ?_
  refine g_cViW cx [.int 7] [] (c_X11_stands l X ad F R 7 h42) ml_X11_343 yV_X11_stands d_X11_standing_12 (by unfold g_rr; decide) (by decide) 0 rfl rfl rfl (Nat.le_of_ble_eq_true rfl) (fun r22 w23 h24 => ?_)
  obtain ⟨rfl, rfl⟩ := h24
  refine g_if_eq_t cx 24 d_X11_standing_15 (by decide) (by decide) ?_
  refine g_iinc cx 8 [(2, .int 8), (1, .int 0), (0, .ref (ad 0))] 0 d_X11_standing_24 rfl (by decide) (by decide) rfl ?_
  refine g_goto cx 4 d_X11_standing_27 (by decide) ?_
  refine g_iload_n cx 0 rfl d_X11_standing_4 ?_
  refine g_bipush cx 10 (by decide) d_X11_standing_5 ?_
  refine g_icmp_ge_f cx 30 d_X11_standing_7 (by decide) (by decide) ?_
  refine g_aload_n cx 2 rfl d_X11_standing_10 ?_
  refine g_iload_n cx 0 rfl d_X11_standing_11 ?_
  refine g_cViW cx [.int 8] [] (c_X11_stands l X ad F R 8 h42) ml_X11_343 yV_X11_stands d_X11_standing_12 (by unfold g_rr; decide) (by decide) 0 rfl rfl rfl (Nat.le_of_ble_eq_true rfl) (fun r25 w26 h27 => ?_)
  obtain ⟨rfl, rfl⟩ := h27
  refine g_if_eq_t cx 24 d_X11_standing_15 (by decide) (by decide) ?_
  refine g_iinc cx 9 [(2, .int 9), (1, .int 0), (0, .ref (ad 0))] 0 d_X11_standing_24 rfl (by decide) (by decide) rfl ?_
  refine g_goto cx 4 d_X11_standing_27 (by decide) ?_
  refine g_iload_n cx 0 rfl d_X11_standing_4 ?_
  refine g_bipush cx 10 (by decide) d_X11_standing_5 ?_
  refine g_icmp_ge_f cx 30 d_X11_standing_7 (by decide) (by decide) ?_
  refine g_aload_n cx 2 rfl d_X11_standing_10 ?_
  refine g_iload_n cx 0 rfl d_X11_standing_11 ?_
  refine g_cViW cx [.int 9] [] (c_X11_stands l X ad F R 9 h42) ml_X11_343 yV_X11_stands d_X11_standing_12 (by unfold g_rr; decide) (by decide) 0 rfl rfl rfl (Nat.le_of_ble_eq_true rfl) (fun r28 w29 h30 => ?_)
  obtain ⟨rfl, rfl⟩ := h30
  refine g_if_eq_t cx 24 d_X11_standing_15 (by decide) (by decide) ?_
  refine g_iinc cx 10 [(2, .int 10), (1, .int 0), (0, .ref (ad 0))] 0 d_X11_standing_24 rfl (by decide) (by decide) rfl ?_
  refine g_goto cx 4 d_X11_standing_27 (by decide) ?_
  refine g_iload_n cx 0 rfl d_X11_standing_4 ?_
  refine g_bipush cx 10 (by decide) d_X11_standing_5 ?_
  refine g_icmp_ge_t cx 30 d_X11_standing_7 (by decide) (by decide) ?_
  refine g_iload_n cx 1 rfl d_X11_standing_30 ?_
  exact hret d_X11_standing_31 (Nat.le_of_ble_eq_true rfl) (Nat.le_of_ble_eq_true rfl) rfl (⟨rfl, rfl⟩)
theorem d_X11_inchesAll_0 : g_dc cX11_inchesAll 0 (.iconst 0) 1 1 := ⟨by decide +kernel, rfl⟩
theorem d_X11_inchesAll_1 : g_dc cX11_inchesAll 1 (.istore_n 1) 1 2 := ⟨by decide +kernel, rfl⟩
theorem d_X11_inchesAll_2 : g_dc cX11_inchesAll 2 (.iconst 0) 1 3 := ⟨by decide +kernel, rfl⟩
theorem d_X11_inchesAll_3 : g_dc cX11_inchesAll 3 (.istore_n 2) 1 4 := ⟨by decide +kernel, rfl⟩
theorem d_X11_inchesAll_4 : g_dc cX11_inchesAll 4 (.iload_n 2) 1 5 := ⟨by decide +kernel, rfl⟩
theorem d_X11_inchesAll_5 : g_dc cX11_inchesAll 5 (.bipush 10) 2 7 := ⟨by decide +kernel, rfl⟩
theorem d_X11_inchesAll_7 : g_dc cX11_inchesAll 7 (.if_icmp .ge 33) 3 10 := ⟨by decide +kernel, rfl⟩
theorem d_X11_inchesAll_10 : g_dc cX11_inchesAll 10 (.iload_n 1) 1 11 := ⟨by decide +kernel, rfl⟩
theorem d_X11_inchesAll_11 : g_dc cX11_inchesAll 11 (.aload_n 0) 1 12 := ⟨by decide +kernel, rfl⟩
theorem d_X11_inchesAll_12 : g_dc cX11_inchesAll 12 (.getfield 312) 3 15 := ⟨by decide +kernel, rfl⟩
theorem d_X11_inchesAll_15 : g_dc cX11_inchesAll 15 (.iload_n 2) 1 16 := ⟨by decide +kernel, rfl⟩
theorem d_X11_inchesAll_16 : g_dc cX11_inchesAll 16 (.invokestatic 175) 3 19 := ⟨by decide +kernel, rfl⟩
theorem d_X11_inchesAll_19 : g_dc cX11_inchesAll 19 (.ifCond .eq 12) 3 22 := ⟨by decide +kernel, rfl⟩
theorem d_X11_inchesAll_31 : g_dc cX11_inchesAll 31 (.iconst 0) 1 32 := ⟨by decide +kernel, rfl⟩
theorem d_X11_inchesAll_32 : g_dc cX11_inchesAll 32 (.iadd) 1 33 := ⟨by decide +kernel, rfl⟩
theorem d_X11_inchesAll_33 : g_dc cX11_inchesAll 33 (.istore_n 1) 1 34 := ⟨by decide +kernel, rfl⟩
theorem d_X11_inchesAll_34 : g_dc cX11_inchesAll 34 (.iinc 2 1) 3 37 := ⟨by decide +kernel, rfl⟩
theorem d_X11_inchesAll_37 : g_dc cX11_inchesAll 37 (.goto (-33)) 3 40 := ⟨by decide +kernel, rfl⟩
theorem d_X11_inchesAll_40 : g_dc cX11_inchesAll 40 (.iload_n 1) 1 41 := ⟨by decide +kernel, rfl⟩
theorem d_X11_inchesAll_41 : g_dc cX11_inchesAll 41 (.ireturn) 1 42 := ⟨by decide +kernel, rfl⟩
set_option maxHeartbeats 4000000 in
set_option maxRecDepth 100000 in
theorem c_X11_inchesAll (l : Launch) (X : gX) (ad : Nat → Nat) (F : Nat → Int32) (R : Nat → Nat → Int32) (h42 : F 42 = 0) : g_Ci l X yX11_inchesAll cX11_inchesAll 3 (some .int) 2 0 0 [.ref (ad 0)] (wM X ad F R) (fun r w => w = wM X ad F R ∧ r = 0) := by
  refine g_mi (by decide +kernel) (Nat.le_of_ble_eq_true rfl) (fun E cx hret => ?_)
  refine g_iconst cx 0 (by decide) d_X11_inchesAll_0 ?_
  refine g_istore_n cx [(1, .int 0), (0, .ref (ad 0))] d_X11_inchesAll_1 (by decide) rfl ?_
  refine g_iconst cx 0 (by decide) d_X11_inchesAll_2 ?_
  refine g_istore_n cx [(2, .int 0), (1, .int 0), (0, .ref (ad 0))] d_X11_inchesAll_3 (by decide) rfl ?_
  refine g_iload_n cx 0 rfl d_X11_inchesAll_4 ?_
  refine g_bipush cx 10 (by decide) d_X11_inchesAll_5 ?_
  refine g_icmp_ge_f cx 40 d_X11_inchesAll_7 (by decide) (by decide) ?_
  refine g_iload_n cx 1 rfl d_X11_inchesAll_10 ?_
  refine g_aload_n cx 2 rfl d_X11_inchesAll_11 ?_
  refine g_get cx cl_X11 fl_X11_312 0 (.int (F 42)) d_X11_inchesAll_12 rfl rfl ?_
  refine g_toi 0 (h42) ?_
  refine g_iload_n cx 0 rfl d_X11_inchesAll_15 ?_
  refine g_cSiW cx [.int 0, .int 0] [.int 0] (c_X11_has l X _ 0 0) ml_X11_175 yS_X11_has rfl d_X11_inchesAll_16 (by unfold g_rr; decide) (by decide) rfl (Nat.le_of_ble_eq_true rfl) (fun r1 w2 h3 => ?_)
  obtain ⟨rfl, rfl⟩ := h3
  refine g_toi 0 (g_mh0 _) ?_
  refine g_if_eq_t cx 31 d_X11_inchesAll_19 (by decide) (by decide) ?_
  refine g_iconst cx 0 (by decide) d_X11_inchesAll_31 ?_
  refine g_iadd cx d_X11_inchesAll_32 ?_
  refine g_toi 0 (by decide) ?_
  refine g_istore_n cx [(1, .int 0), (2, .int 0), (0, .ref (ad 0))] d_X11_inchesAll_33 (by decide) rfl ?_
  refine g_iinc cx 1 [(2, .int 1), (1, .int 0), (0, .ref (ad 0))] 1 d_X11_inchesAll_34 rfl (by decide) (by decide) rfl ?_
  refine g_goto cx 4 d_X11_inchesAll_37 (by decide) ?_
  refine g_iload_n cx 0 rfl d_X11_inchesAll_4 ?_
  refine g_bipush cx 10 (by decide) d_X11_inchesAll_5 ?_
  refine g_icmp_ge_f cx 40 d_X11_inchesAll_7 (by decide) (by decide) ?_
  refine g_iload_n cx 1 rfl d_X11_inchesAll_10 ?_
  refine g_aload_n cx 2 rfl d_X11_inchesAll_11 ?_
  refine g_get cx cl_X11 fl_X11_312 0 (.int (F 42)) d_X11_inchesAll_12 rfl rfl ?_
  refine g_toi 0 (h42) ?_
  refine g_iload_n cx 0 rfl d_X11_inchesAll_15 ?_
  refine g_cSiW cx [.int 0, .int 1] [.int 0] (c_X11_has l X _ 0 1) ml_X11_175 yS_X11_has rfl d_X11_inchesAll_16 (by unfold g_rr; decide) (by decide) rfl (Nat.le_of_ble_eq_true rfl) (fun r4 w5 h6 => ?_)
  obtain ⟨rfl, rfl⟩ := h6
  refine g_toi 0 (g_mh0 _) ?_
  refine g_if_eq_t cx 31 d_X11_inchesAll_19 (by decide) (by decide) ?_
  refine g_iconst cx 0 (by decide) d_X11_inchesAll_31 ?_
  refine g_iadd cx d_X11_inchesAll_32 ?_
  refine g_toi 0 (by decide) ?_
  refine g_istore_n cx [(1, .int 0), (2, .int 1), (0, .ref (ad 0))] d_X11_inchesAll_33 (by decide) rfl ?_
  refine g_iinc cx 2 [(2, .int 2), (1, .int 0), (0, .ref (ad 0))] 1 d_X11_inchesAll_34 rfl (by decide) (by decide) rfl ?_
  refine g_goto cx 4 d_X11_inchesAll_37 (by decide) ?_
  refine g_iload_n cx 0 rfl d_X11_inchesAll_4 ?_
  refine g_bipush cx 10 (by decide) d_X11_inchesAll_5 ?_
  refine g_icmp_ge_f cx 40 d_X11_inchesAll_7 (by decide) (by decide) ?_
  refine g_iload_n cx 1 rfl d_X11_inchesAll_10 ?_
  refine g_aload_n cx 2 rfl d_X11_inchesAll_11 ?_
  refine g_get cx cl_X11 fl_X11_312 0 (.int (F 42)) d_X11_inchesAll_12 rfl rfl ?_
  refine g_toi 0 (h42) ?_
  refine g_iload_n cx 0 rfl d_X11_inchesAll_15 ?_
  refine g_cSiW cx [.int 0, .int 2] [.int 0] (c_X11_has l X _ 0 2) ml_X11_175 yS_X11_has rfl d_X11_inchesAll_16 (by unfold g_rr; decide) (by decide) rfl (Nat.le_of_ble_eq_true rfl) (fun r7 w8 h9 => ?_)
  obtain ⟨rfl, rfl⟩ := h9
  refine g_toi 0 (g_mh0 _) ?_
  refine g_if_eq_t cx 31 d_X11_inchesAll_19 (by decide) (by decide) ?_
  refine g_iconst cx 0 (by decide) d_X11_inchesAll_31 ?_
  refine g_iadd cx d_X11_inchesAll_32 ?_
  refine g_toi 0 (by decide) ?_
  refine g_istore_n cx [(1, .int 0), (2, .int 2), (0, .ref (ad 0))] d_X11_inchesAll_33 (by decide) rfl ?_
  refine g_iinc cx 3 [(2, .int 3), (1, .int 0), (0, .ref (ad 0))] 1 d_X11_inchesAll_34 rfl (by decide) (by decide) rfl ?_
  refine g_goto cx 4 d_X11_inchesAll_37 (by decide) ?_
  refine g_iload_n cx 0 rfl d_X11_inchesAll_4 ?_
  refine g_bipush cx 10 (by decide) d_X11_inchesAll_5 ?_
  refine g_icmp_ge_f cx 40 d_X11_inchesAll_7 (by decide) (by decide) ?_
  refine g_iload_n cx 1 rfl d_X11_inchesAll_10 ?_
  refine g_aload_n cx 2 rfl d_X11_inchesAll_11 ?_
  refine g_get cx cl_X11 fl_X11_312 0 (.int (F 42)) d_X11_inchesAll_12 rfl rfl ?_
  refine g_toi 0 (h42) ?_
  refine g_iload_n cx 0 rfl d_X11_inchesAll_15 ?_
  refine g_cSiW cx [.int 0, .int 3] [.int 0] (c_X11_has l X _ 0 3) ml_X11_175 yS_X11_has rfl d_X11_inchesAll_16 (by unfold g_rr; decide) (by decide) rfl (Nat.le_of_ble_eq_true rfl) (fun r10 w11 h12 => ?_)
  obtain ⟨rfl, rfl⟩ := h12
  refine g_toi 0 (g_mh0 _) ?_
  refine g_if_eq_t cx 31 d_X11_inchesAll_19 (by decide) (by decide) ?_
  refine g_iconst cx 0 (by decide) d_X11_inchesAll_31 ?_
  refine g_iadd cx d_X11_inchesAll_32 ?_
  refine g_toi 0 (by decide) ?_
  refine g_istore_n cx [(1, .int 0), (2, .int 3), (0, .ref (ad 0))] d_X11_inchesAll_33 (by decide) rfl ?_
  refine g_iinc cx 4 [(2, .int 4), (1, .int 0), (0, .ref (ad 0))] 1 d_X11_inchesAll_34 rfl (by decide) (by decide) rfl ?_
  refine g_goto cx 4 d_X11_inchesAll_37 (by decide) ?_
  refine g_iload_n cx 0 rfl d_X11_inchesAll_4 ?_
  refine g_bipush cx 10 (by decide) d_X11_inchesAll_5 ?_
  refine g_icmp_ge_f cx 40 d_X11_inchesAll_7 (by decide) (by decide) ?_
  refine g_iload_n cx 1 rfl d_X11_inchesAll_10 ?_
  refine g_aload_n cx 2 rfl d_X11_inchesAll_11 ?_
  refine g_get cx cl_X11 fl_X11_312 0 (.int (F 42)) d_X11_inchesAll_12 rfl rfl ?_
  refine g_toi 0 (h42) ?_
  refine g_iload_n cx 0 rfl d_X11_inchesAll_15 ?_
  refine g_cSiW cx [.int 0, .int 4] [.int 0] (c_X11_has l X _ 0 4) ml_X11_175 yS_X11_has rfl d_X11_inchesAll_16 (by unfold g_rr; decide) (by decide) rfl (Nat.le_of_ble_eq_true rfl) (fun r13 w14 h15 => ?_)
  obtain ⟨rfl, rfl⟩ := h15
  refine g_toi 0 (g_mh0 _) ?_
  refine g_if_eq_t cx 31 d_X11_inchesAll_19 (by decide) (by decide) ?_
  refine g_iconst cx 0 (by decide) d_X11_inchesAll_31 ?_
  refine g_iadd cx d_X11_inchesAll_32 ?_
  refine g_toi 0 (by decide) ?_
  refine g_istore_n cx [(1, .int 0), (2, .int 4), (0, .ref (ad 0))] d_X11_inchesAll_33 (by decide) rfl ?_
  refine g_iinc cx 5 [(2, .int 5), (1, .int 0), (0, .ref (ad 0))] 1 d_X11_inchesAll_34 rfl (by decide) (by decide) rfl ?_
  refine g_goto cx 4 d_X11_inchesAll_37 (by decide) ?_
  refine g_iload_n cx 0 rfl d_X11_inchesAll_4 ?_
  refine g_bipush cx 10 (by decide) d_X11_inchesAll_5 ?_
  refine g_icmp_ge_f cx 40 d_X11_inchesAll_7 (by decide) (by decide) ?_
  refine g_iload_n cx 1 rfl d_X11_inchesAll_10 ?_
  refine g_aload_n cx 2 rfl d_X11_inchesAll_11 ?_
  refine g_get cx cl_X11 fl_X11_312 0 (.int (F 42)) d_X11_inchesAll_12 rfl rfl ?_
  refine g_toi 0 (h42) ?_
  refine g_iload_n cx 0 rfl d_X11_inchesAll_15 ?_
  refine g_cSiW cx [.int 0, .int 5] [.int 0] (c_X11_has l X _ 0 5) ml_X11_175 yS_X11_has rfl d_X11_inchesAll_16 (by unfold g_rr; decide) (by decide) rfl (Nat.le_of_ble_eq_true rfl) (fun r16 w17 h18 => ?_)
  obtain ⟨rfl, rfl⟩ := h18
  refine g_toi 0 (g_mh0 _) ?_
  refine g_if_eq_t cx 31 d_X11_inchesAll_19 (by decide) (by decide) ?_
  refine g_iconst cx 0 (by decide) d_X11_inchesAll_31 ?_
  refine g_iadd cx d_X11_inchesAll_32 ?_
  refine g_toi 0 (by decide) ?_
  refine g_istore_n cx [(1, .int 0), (2, .int 5), (0, .ref (ad 0))] d_X11_inchesAll_33 (by decide) rfl ?_
  refine g_iinc cx 6 [(2, .int 6), (1, .int 0), (0, .ref (ad 0))] 1 d_X11_inchesAll_34 rfl (by decide) (by decide) rfl ?_
  refine g_goto cx 4 d_X11_inchesAll_37 (by decide) ?_
  refine g_iload_n cx 0 rfl d_X11_inchesAll_4 ?_
  refine g_bipush cx 10 (by decide) d_X11_inchesAll_5 ?_
  refine g_icmp_ge_f cx 40 d_X11_inchesAll_7 (by decide) (by decide) ?_
  refine g_iload_n cx 1 rfl d_X11_inchesAll_10 ?_
  refine g_aload_n cx 2 rfl d_X11_inchesAll_11 ?_
  refine g_get cx cl_X11 fl_X11_312 0 (.int (F 42)) d_X11_inchesAll_12 rfl rfl ?_
  refine g_toi 0 (h42) ?_
  refine g_iload_n cx 0 rfl d_X11_inchesAll_15 ?_
  refine g_cSiW cx [.int 0, .int 6] [.int 0] (c_X11_has l X _ 0 6) ml_X11_175 yS_X11_has rfl d_X11_inchesAll_16 (by unfold g_rr; decide) (by decide) rfl (Nat.le_of_ble_eq_true rfl) (fun r19 w20 h21 => ?_)
  obtain ⟨rfl, rfl⟩ := h21
  refine g_toi 0 (g_mh0 _) ?_
  refine g_if_eq_t cx 31 d_X11_inchesAll_19 (by decide) (by decide) ?_
  refine g_iconst cx 0 (by decide) d_X11_inchesAll_31 ?_
  refine g_iadd cx d_X11_inchesAll_32 ?_
  refine g_toi 0 (by decide) ?_
  refine g_istore_n cx [(1, .int 0), (2, .int 6), (0, .ref (ad 0))] d_X11_inchesAll_33 (by decide) rfl ?_
  refine g_iinc cx 7 [(2, .int 7), (1, .int 0), (0, .ref (ad 0))] 1 d_X11_inchesAll_34 rfl (by decide) (by decide) rfl ?_
  refine g_goto cx 4 d_X11_inchesAll_37 (by decide) ?_
  refine g_iload_n cx 0 rfl d_X11_inchesAll_4 ?_
  refine g_bipush cx 10 (by decide) d_X11_inchesAll_5 ?_
  refine g_icmp_ge_f cx 40 d_X11_inchesAll_7 (by decide) (by decide) ?_
  refine g_iload_n cx 1 rfl d_X11_inchesAll_10 ?_
  refine g_aload_n cx 2 rfl d_X11_inchesAll_11 ?_
  refine g_get cx cl_X11 fl_X11_312 0 (.int (F 42)) d_X11_inchesAll_12 rfl rfl ?_
  refine g_toi 0 (h42) ?_
  refine g_iload_n cx 0 rfl d_X11_inchesAll_15 ?_
  refine g_cSiW cx [.int 0, .int 7] [.int 0] (c_X11_has l X _ 0 7) ml_X11_175 yS_X11_has rfl d_X11_inchesAll_16 (by unfold g_rr; decide) (by decide) rfl (Nat.le_of_ble_eq_true rfl) (fun r22 w23 h24 => ?_)
  obtain ⟨rfl, rfl⟩ := h24
  refine g_toi 0 (g_mh0 _) ?_
  refine g_if_eq_t cx 31 d_X11_inchesAll_19 (by decide) (by decide) ?_
  refine g_iconst cx 0 (by decide) d_X11_inchesAll_31 ?_
  refine g_iadd cx d_X11_inchesAll_32 ?_
  refine g_toi 0 (by decide) ?_
  refine g_istore_n cx [(1, .int 0), (2, .int 7), (0, .ref (ad 0))] d_X11_inchesAll_33 (by decide) rfl ?_
  refine g_iinc cx 8 [(2, .int 8), (1, .int 0), (0, .ref (ad 0))] 1 d_X11_inchesAll_34 rfl (by decide) (by decide) rfl ?_
  refine g_goto cx 4 d_X11_inchesAll_37 (by decide) ?_
  refine g_iload_n cx 0 rfl d_X11_inchesAll_4 ?_
  refine g_bipush cx 10 (by decide) d_X11_inchesAll_5 ?_
  refine g_icmp_ge_f cx 40 d_X11_inchesAll_7 (by decide) (by decide) ?_
  refine g_iload_n cx 1 rfl d_X11_inchesAll_10 ?_
  refine g_aload_n cx 2 rfl d_X11_inchesAll_11 ?_
  refine g_get cx cl_X11 fl_X11_312 0 (.int (F 42)) d_X11_inchesAll_12 rfl rfl ?_
  refine g_toi 0 (h42) ?_
  refine g_iload_n cx 0 rfl d_X11_inchesAll_15 ?_
  refine g_cSiW cx [.int 0, .int 8] [.int 0] (c_X11_has l X _ 0 8) ml_X11_175 yS_X11_has rfl d_X11_inchesAll_16 (by unfold g_rr; decide) (by decide) rfl (Nat.le_of_ble_eq_true rfl) (fun r25 w26 h27 => ?_)
  obtain ⟨rfl, rfl⟩ := h27
  refine g_toi 0 (g_mh0 _) ?_
  refine g_if_eq_t cx 31 d_X11_inchesAll_19 (by decide) (by decide) ?_
  refine g_iconst cx 0 (by decide) d_X11_inchesAll_31 ?_
  refine g_iadd cx d_X11_inchesAll_32 ?_
  refine g_toi 0 (by decide) ?_
  refine g_istore_n cx [(1, .int 0), (2, .int 8), (0, .ref (ad 0))] d_X11_inchesAll_33 (by decide) rfl ?_
  refine g_iinc cx 9 [(2, .int 9), (1, .int 0), (0, .ref (ad 0))] 1 d_X11_inchesAll_34 rfl (by decide) (by decide) rfl ?_
  refine g_goto cx 4 d_X11_inchesAll_37 (by decide) ?_
  refine g_iload_n cx 0 rfl d_X11_inchesAll_4 ?_
  refine g_bipush cx 10 (by decide) d_X11_inchesAll_5 ?_
  refine g_icmp_ge_f cx 40 d_X11_inchesAll_7 (by decide) (by decide) ?_
  refine g_iload_n cx 1 rfl d_X11_inchesAll_10 ?_
  refine g_aload_n cx 2 rfl d_X11_inchesAll_11 ?_
  refine g_get cx cl_X11 fl_X11_312 0 (.int (F 42)) d_X11_inchesAll_12 rfl rfl ?_
  refine g_toi 0 (h42) ?_
  refine g_iload_n cx 0 rfl d_X11_inchesAll_15 ?_
  refine g_cSiW cx [.int 0, .int 9] [.int 0] (c_X11_has l X _ 0 9) ml_X11_175 yS_X11_has rfl d_X11_inchesAll_16 (by unfold g_rr; decide) (by decide) rfl (Nat.le_of_ble_eq_true rfl) (fun r28 w29 h30 => ?_)
  obtain ⟨rfl, rfl⟩ := h30
  refine g_toi 0 (g_mh0 _) ?_
  refine g_if_eq_t cx 31 d_X11_inchesAll_19 (by decide) (by decide) ?_
  refine g_iconst cx 0 (by decide) d_X11_inchesAll_31 ?_
  refine g_iadd cx d_X11_inchesAll_32 ?_
  refine g_toi 0 (by decide) ?_
  refine g_istore_n cx [(1, .int 0), (2, .int 9), (0, .ref (ad 0))] d_X11_inchesAll_33 (by decide) rfl ?_
  refine g_iinc cx 10 [(2, .int 10), (1, .int 0), (0, .ref (ad 0))] 1 d_X11_inchesAll_34 rfl (by decide) (by decide) rfl ?_
  refine g_goto cx 4 d_X11_inchesAll_37 (by decide) ?_
  refine g_iload_n cx 0 rfl d_X11_inchesAll_4 ?_
  refine g_bipush cx 10 (by decide) d_X11_inchesAll_5 ?_
  refine g_icmp_ge_t cx 40 d_X11_inchesAll_7 (by decide) (by decide) ?_
  refine g_iload_n cx 1 rfl d_X11_inchesAll_40 ?_
  exact hret d_X11_inchesAll_41 (Nat.le_of_ble_eq_true rfl) (Nat.le_of_ble_eq_true rfl) rfl (⟨rfl, rfl⟩)
theorem d_X11_stateBits_0 : g_dc cX11_stateBits 0 (.iconst 0) 1 1 := ⟨by decide +kernel, rfl⟩
theorem d_X11_stateBits_1 : g_dc cX11_stateBits 1 (.istore_n 2) 1 2 := ⟨by decide +kernel, rfl⟩
theorem d_X11_stateBits_2 : g_dc cX11_stateBits 2 (.iconst 0) 1 3 := ⟨by decide +kernel, rfl⟩
theorem d_X11_stateBits_3 : g_dc cX11_stateBits 3 (.istore_n 3) 1 4 := ⟨by decide +kernel, rfl⟩
theorem d_X11_stateBits_4 : g_dc cX11_stateBits 4 (.iload_n 3) 1 5 := ⟨by decide +kernel, rfl⟩
theorem d_X11_stateBits_5 : g_dc cX11_stateBits 5 (.bipush 10) 2 7 := ⟨by decide +kernel, rfl⟩
theorem d_X11_stateBits_7 : g_dc cX11_stateBits 7 (.if_icmp .ge 36) 3 10 := ⟨by decide +kernel, rfl⟩
theorem d_X11_stateBits_10 : g_dc cX11_stateBits 10 (.aload_n 0) 1 11 := ⟨by decide +kernel, rfl⟩
theorem d_X11_stateBits_11 : g_dc cX11_stateBits 11 (.getfield 312) 3 14 := ⟨by decide +kernel, rfl⟩
theorem d_X11_stateBits_14 : g_dc cX11_stateBits 14 (.iload_n 3) 1 15 := ⟨by decide +kernel, rfl⟩
theorem d_X11_stateBits_15 : g_dc cX11_stateBits 15 (.invokestatic 175) 3 18 := ⟨by decide +kernel, rfl⟩
theorem d_X11_stateBits_18 : g_dc cX11_stateBits 18 (.ifCond .eq 19) 3 21 := ⟨by decide +kernel, rfl⟩
theorem d_X11_stateBits_37 : g_dc cX11_stateBits 37 (.iinc 3 1) 3 40 := ⟨by decide +kernel, rfl⟩
theorem d_X11_stateBits_40 : g_dc cX11_stateBits 40 (.goto (-36)) 3 43 := ⟨by decide +kernel, rfl⟩
theorem d_X11_stateBits_43 : g_dc cX11_stateBits 43 (.iload_n 2) 1 44 := ⟨by decide +kernel, rfl⟩
theorem d_X11_stateBits_44 : g_dc cX11_stateBits 44 (.ireturn) 1 45 := ⟨by decide +kernel, rfl⟩
set_option maxHeartbeats 4000000 in
set_option maxRecDepth 100000 in
theorem c_X11_stateBits (l : Launch) (X : gX) (ad : Nat → Nat) (F : Nat → Int32) (R : Nat → Nat → Int32) (i : Int32) (h42 : F 42 = 0) : g_Ci l X yX11_stateBits cX11_stateBits 4 (some .int) 2 0 0 [.ref (ad 0), .int i] (wM X ad F R) (fun r w => w = wM X ad F R ∧ r = 0) := by
  refine g_mi (by decide +kernel) (Nat.le_of_ble_eq_true rfl) (fun E cx hret => ?_)
  refine g_iconst cx 0 (by decide) d_X11_stateBits_0 ?_
  refine g_istore_n cx [(2, .int 0), (0, .ref (ad 0)), (1, .int i)] d_X11_stateBits_1 (by decide) rfl ?_
  refine g_iconst cx 0 (by decide) d_X11_stateBits_2 ?_
  refine g_istore_n cx [(3, .int 0), (2, .int 0), (0, .ref (ad 0)), (1, .int i)] d_X11_stateBits_3 (by decide) rfl ?_
  refine g_iload_n cx 0 rfl d_X11_stateBits_4 ?_
  refine g_bipush cx 10 (by decide) d_X11_stateBits_5 ?_
  refine g_icmp_ge_f cx 43 d_X11_stateBits_7 (by decide) (by decide) ?_
  refine g_aload_n cx 2 rfl d_X11_stateBits_10 ?_
  refine g_get cx cl_X11 fl_X11_312 0 (.int (F 42)) d_X11_stateBits_11 rfl rfl ?_
  refine g_toi 0 (h42) ?_
  refine g_iload_n cx 0 rfl d_X11_stateBits_14 ?_
  refine g_cSiW cx [.int 0, .int 0] [] (c_X11_has l X _ 0 0) ml_X11_175 yS_X11_has rfl d_X11_stateBits_15 (by unfold g_rr; decide) (by decide) rfl (Nat.le_of_ble_eq_true rfl) (fun r1 w2 h3 => ?_)
  obtain ⟨rfl, rfl⟩ := h3
  refine g_toi 0 (g_mh0 _) ?_
  refine g_if_eq_t cx 37 d_X11_stateBits_18 (by decide) (by decide) ?_
  refine g_iinc cx 1 [(3, .int 1), (2, .int 0), (0, .ref (ad 0)), (1, .int i)] 0 d_X11_stateBits_37 rfl (by decide) (by decide) rfl ?_
  refine g_goto cx 4 d_X11_stateBits_40 (by decide) ?_
  refine g_iload_n cx 0 rfl d_X11_stateBits_4 ?_
  refine g_bipush cx 10 (by decide) d_X11_stateBits_5 ?_
  refine g_icmp_ge_f cx 43 d_X11_stateBits_7 (by decide) (by decide) ?_
  refine g_aload_n cx 2 rfl d_X11_stateBits_10 ?_
  refine g_get cx cl_X11 fl_X11_312 0 (.int (F 42)) d_X11_stateBits_11 rfl rfl ?_
  refine g_toi 0 (h42) ?_
  refine g_iload_n cx 0 rfl d_X11_stateBits_14 ?_
  refine g_cSiW cx [.int 0, .int 1] [] (c_X11_has l X _ 0 1) ml_X11_175 yS_X11_has rfl d_X11_stateBits_15 (by unfold g_rr; decide) (by decide) rfl (Nat.le_of_ble_eq_true rfl) (fun r4 w5 h6 => ?_)
  obtain ⟨rfl, rfl⟩ := h6
  refine g_toi 0 (g_mh0 _) ?_
  refine g_if_eq_t cx 37 d_X11_stateBits_18 (by decide) (by decide) ?_
  refine g_iinc cx 2 [(3, .int 2), (2, .int 0), (0, .ref (ad 0)), (1, .int i)] 0 d_X11_stateBits_37 rfl (by decide) (by decide) rfl ?_
  refine g_goto cx 4 d_X11_stateBits_40 (by decide) ?_
  refine g_iload_n cx 0 rfl d_X11_stateBits_4 ?_
  refine g_bipush cx 10 (by decide) d_X11_stateBits_5 ?_
  refine g_icmp_ge_f cx 43 d_X11_stateBits_7 (by decide) (by decide) ?_
  refine g_aload_n cx 2 rfl d_X11_stateBits_10 ?_
  refine g_get cx cl_X11 fl_X11_312 0 (.int (F 42)) d_X11_stateBits_11 rfl rfl ?_
  refine g_toi 0 (h42) ?_
  refine g_iload_n cx 0 rfl d_X11_stateBits_14 ?_
  refine g_cSiW cx [.int 0, .int 2] [] (c_X11_has l X _ 0 2) ml_X11_175 yS_X11_has rfl d_X11_stateBits_15 (by unfold g_rr; decide) (by decide) rfl (Nat.le_of_ble_eq_true rfl) (fun r7 w8 h9 => ?_)
  obtain ⟨rfl, rfl⟩ := h9
  refine g_toi 0 (g_mh0 _) ?_
  refine g_if_eq_t cx 37 d_X11_stateBits_18 (by decide) (by decide) ?_
  refine g_iinc cx 3 [(3, .int 3), (2, .int 0), (0, .ref (ad 0)), (1, .int i)] 0 d_X11_stateBits_37 rfl (by decide) (by decide) rfl ?_
  refine g_goto cx 4 d_X11_stateBits_40 (by decide) ?_
  refine g_iload_n cx 0 rfl d_X11_stateBits_4 ?_
  refine g_bipush cx 10 (by decide) d_X11_stateBits_5 ?_
  refine g_icmp_ge_f cx 43 d_X11_stateBits_7 (by decide) (by decide) ?_
  refine g_aload_n cx 2 rfl d_X11_stateBits_10 ?_
  refine g_get cx cl_X11 fl_X11_312 0 (.int (F 42)) d_X11_stateBits_11 rfl rfl ?_
  refine g_toi 0 (h42) ?_
  refine g_iload_n cx 0 rfl d_X11_stateBits_14 ?_
  refine g_cSiW cx [.int 0, .int 3] [] (c_X11_has l X _ 0 3) ml_X11_175 yS_X11_has rfl d_X11_stateBits_15 (by unfold g_rr; decide) (by decide) rfl (Nat.le_of_ble_eq_true rfl) (fun r10 w11 h12 => ?_)
  obtain ⟨rfl, rfl⟩ := h12
  refine g_toi 0 (g_mh0 _) ?_
  refine g_if_eq_t cx 37 d_X11_stateBits_18 (by decide) (by decide) ?_
  refine g_iinc cx 4 [(3, .int 4), (2, .int 0), (0, .ref (ad 0)), (1, .int i)] 0 d_X11_stateBits_37 rfl (by decide) (by decide) rfl ?_
  refine g_goto cx 4 d_X11_stateBits_40 (by decide) ?_
  refine g_iload_n cx 0 rfl d_X11_stateBits_4 ?_
  refine g_bipush cx 10 (by decide) d_X11_stateBits_5 ?_
  refine g_icmp_ge_f cx 43 d_X11_stateBits_7 (by decide) (by decide) ?_
  refine g_aload_n cx 2 rfl d_X11_stateBits_10 ?_
  refine g_get cx cl_X11 fl_X11_312 0 (.int (F 42)) d_X11_stateBits_11 rfl rfl ?_
  refine g_toi 0 (h42) ?_
  refine g_iload_n cx 0 rfl d_X11_stateBits_14 ?_
  refine g_cSiW cx [.int 0, .int 4] [] (c_X11_has l X _ 0 4) ml_X11_175 yS_X11_has rfl d_X11_stateBits_15 (by unfold g_rr; decide) (by decide) rfl (Nat.le_of_ble_eq_true rfl) (fun r13 w14 h15 => ?_)
  obtain ⟨rfl, rfl⟩ := h15
  refine g_toi 0 (g_mh0 _) ?_
  refine g_if_eq_t cx 37 d_X11_stateBits_18 (by decide) (by decide) ?_
  refine g_iinc cx 5 [(3, .int 5), (2, .int 0), (0, .ref (ad 0)), (1, .int i)] 0 d_X11_stateBits_37 rfl (by decide) (by decide) rfl ?_
  refine g_goto cx 4 d_X11_stateBits_40 (by decide) ?_
  refine g_iload_n cx 0 rfl d_X11_stateBits_4 ?_
  refine g_bipush cx 10 (by decide) d_X11_stateBits_5 ?_
  refine g_icmp_ge_f cx 43 d_X11_stateBits_7 (by decide) (by decide) ?_
  refine g_aload_n cx 2 rfl d_X11_stateBits_10 ?_
  refine g_get cx cl_X11 fl_X11_312 0 (.int (F 42)) d_X11_stateBits_11 rfl rfl ?_
  refine g_toi 0 (h42) ?_
  refine g_iload_n cx 0 rfl d_X11_stateBits_14 ?_
  refine g_cSiW cx [.int 0, .int 5] [] (c_X11_has l X _ 0 5) ml_X11_175 yS_X11_has rfl d_X11_stateBits_15 (by unfold g_rr; decide) (by decide) rfl (Nat.le_of_ble_eq_true rfl) (fun r16 w17 h18 => ?_)
  obtain ⟨rfl, rfl⟩ := h18
  refine g_toi 0 (g_mh0 _) ?_
  refine g_if_eq_t cx 37 d_X11_stateBits_18 (by decide) (by decide) ?_
  refine g_iinc cx 6 [(3, .int 6), (2, .int 0), (0, .ref (ad 0)), (1, .int i)] 0 d_X11_stateBits_37 rfl (by decide) (by decide) rfl ?_
  refine g_goto cx 4 d_X11_stateBits_40 (by decide) ?_
  refine g_iload_n cx 0 rfl d_X11_stateBits_4 ?_
  refine g_bipush cx 10 (by decide) d_X11_stateBits_5 ?_
  refine g_icmp_ge_f cx 43 d_X11_stateBits_7 (by decide) (by decide) ?_
  refine g_aload_n cx 2 rfl d_X11_stateBits_10 ?_
  refine g_get cx cl_X11 fl_X11_312 0 (.int (F 42)) d_X11_stateBits_11 rfl rfl ?_
  refine g_toi 0 (h42) ?_
  refine g_iload_n cx 0 rfl d_X11_stateBits_14 ?_
  refine g_cSiW cx [.int 0, .int 6] [] (c_X11_has l X _ 0 6) ml_X11_175 yS_X11_has rfl d_X11_stateBits_15 (by unfold g_rr; decide) (by decide) rfl (Nat.le_of_ble_eq_true rfl) (fun r19 w20 h21 => ?_)
  obtain ⟨rfl, rfl⟩ := h21
  refine g_toi 0 (g_mh0 _) ?_
  refine g_if_eq_t cx 37 d_X11_stateBits_18 (by decide) (by decide) ?_
  refine g_iinc cx 7 [(3, .int 7), (2, .int 0), (0, .ref (ad 0)), (1, .int i)] 0 d_X11_stateBits_37 rfl (by decide) (by decide) rfl ?_
  refine g_goto cx 4 d_X11_stateBits_40 (by decide) ?_
  refine g_iload_n cx 0 rfl d_X11_stateBits_4 ?_
  refine g_bipush cx 10 (by decide) d_X11_stateBits_5 ?_
  refine g_icmp_ge_f cx 43 d_X11_stateBits_7 (by decide) (by decide) ?_
  refine g_aload_n cx 2 rfl d_X11_stateBits_10 ?_
  refine g_get cx cl_X11 fl_X11_312 0 (.int (F 42)) d_X11_stateBits_11 rfl rfl ?_
  refine g_toi 0 (h42) ?_
  refine g_iload_n cx 0 rfl d_X11_stateBits_14 ?_
  refine g_cSiW cx [.int 0, .int 7] [] (c_X11_has l X _ 0 7) ml_X11_175 yS_X11_has rfl d_X11_stateBits_15 (by unfold g_rr; decide) (by decide) rfl (Nat.le_of_ble_eq_true rfl) (fun r22 w23 h24 => ?_)
  obtain ⟨rfl, rfl⟩ := h24
  refine g_toi 0 (g_mh0 _) ?_
  refine g_if_eq_t cx 37 d_X11_stateBits_18 (by decide) (by decide) ?_
  refine g_iinc cx 8 [(3, .int 8), (2, .int 0), (0, .ref (ad 0)), (1, .int i)] 0 d_X11_stateBits_37 rfl (by decide) (by decide) rfl ?_
  refine g_goto cx 4 d_X11_stateBits_40 (by decide) ?_
  refine g_iload_n cx 0 rfl d_X11_stateBits_4 ?_
  refine g_bipush cx 10 (by decide) d_X11_stateBits_5 ?_
  refine g_icmp_ge_f cx 43 d_X11_stateBits_7 (by decide) (by decide) ?_
  refine g_aload_n cx 2 rfl d_X11_stateBits_10 ?_
  refine g_get cx cl_X11 fl_X11_312 0 (.int (F 42)) d_X11_stateBits_11 rfl rfl ?_
  refine g_toi 0 (h42) ?_
  refine g_iload_n cx 0 rfl d_X11_stateBits_14 ?_
  refine g_cSiW cx [.int 0, .int 8] [] (c_X11_has l X _ 0 8) ml_X11_175 yS_X11_has rfl d_X11_stateBits_15 (by unfold g_rr; decide) (by decide) rfl (Nat.le_of_ble_eq_true rfl) (fun r25 w26 h27 => ?_)
  obtain ⟨rfl, rfl⟩ := h27
  refine g_toi 0 (g_mh0 _) ?_
  refine g_if_eq_t cx 37 d_X11_stateBits_18 (by decide) (by decide) ?_
  refine g_iinc cx 9 [(3, .int 9), (2, .int 0), (0, .ref (ad 0)), (1, .int i)] 0 d_X11_stateBits_37 rfl (by decide) (by decide) rfl ?_
  refine g_goto cx 4 d_X11_stateBits_40 (by decide) ?_
  refine g_iload_n cx 0 rfl d_X11_stateBits_4 ?_
  refine g_bipush cx 10 (by decide) d_X11_stateBits_5 ?_
  refine g_icmp_ge_f cx 43 d_X11_stateBits_7 (by decide) (by decide) ?_
  refine g_aload_n cx 2 rfl d_X11_stateBits_10 ?_
  refine g_get cx cl_X11 fl_X11_312 0 (.int (F 42)) d_X11_stateBits_11 rfl rfl ?_
  refine g_toi 0 (h42) ?_
  refine g_iload_n cx 0 rfl d_X11_stateBits_14 ?_
  refine g_cSiW cx [.int 0, .int 9] [] (c_X11_has l X _ 0 9) ml_X11_175 yS_X11_has rfl d_X11_stateBits_15 (by unfold g_rr; decide) (by decide) rfl (Nat.le_of_ble_eq_true rfl) (fun r28 w29 h30 => ?_)
  obtain ⟨rfl, rfl⟩ := h30
  refine g_toi 0 (g_mh0 _) ?_
  refine g_if_eq_t cx 37 d_X11_stateBits_18 (by decide) (by decide) ?_
  refine g_iinc cx 10 [(3, .int 10), (2, .int 0), (0, .ref (ad 0)), (1, .int i)] 0 d_X11_stateBits_37 rfl (by decide) (by decide) rfl ?_
  refine g_goto cx 4 d_X11_stateBits_40 (by decide) ?_
  refine g_iload_n cx 0 rfl d_X11_stateBits_4 ?_
  refine g_bipush cx 10 (by decide) d_X11_stateBits_5 ?_
  refine g_icmp_ge_t cx 43 d_X11_stateBits_7 (by decide) (by decide) ?_
  refine g_iload_n cx 1 rfl d_X11_stateBits_43 ?_
  exact hret d_X11_stateBits_44 (Nat.le_of_ble_eq_true rfl) (Nat.le_of_ble_eq_true rfl) rfl (⟨rfl, rfl⟩)
theorem d_X11_laysOrder_0 : g_dc cX11_laysOrder 0 (.iconst 0) 1 1 := ⟨by decide +kernel, rfl⟩
theorem d_X11_laysOrder_1 : g_dc cX11_laysOrder 1 (.istore_n 1) 1 2 := ⟨by decide +kernel, rfl⟩
theorem d_X11_laysOrder_2 : g_dc cX11_laysOrder 2 (.iconst 0) 1 3 := ⟨by decide +kernel, rfl⟩
theorem d_X11_laysOrder_3 : g_dc cX11_laysOrder 3 (.istore_n 2) 1 4 := ⟨by decide +kernel, rfl⟩
theorem d_X11_laysOrder_4 : g_dc cX11_laysOrder 4 (.iload_n 2) 1 5 := ⟨by decide +kernel, rfl⟩
theorem d_X11_laysOrder_5 : g_dc cX11_laysOrder 5 (.bipush 10) 2 7 := ⟨by decide +kernel, rfl⟩
theorem d_X11_laysOrder_7 : g_dc cX11_laysOrder 7 (.if_icmp .ge 80) 3 10 := ⟨by decide +kernel, rfl⟩
theorem d_X11_laysOrder_10 : g_dc cX11_laysOrder 10 (.aload_n 0) 1 11 := ⟨by decide +kernel, rfl⟩
theorem d_X11_laysOrder_11 : g_dc cX11_laysOrder 11 (.iload_n 2) 1 12 := ⟨by decide +kernel, rfl⟩
theorem d_X11_laysOrder_12 : g_dc cX11_laysOrder 12 (.invokevirtual 343) 3 15 := ⟨by decide +kernel, rfl⟩
theorem d_X11_laysOrder_15 : g_dc cX11_laysOrder 15 (.ifCond .ne 6) 3 18 := ⟨by decide +kernel, rfl⟩
theorem d_X11_laysOrder_18 : g_dc cX11_laysOrder 18 (.goto 63) 3 21 := ⟨by decide +kernel, rfl⟩
theorem d_X11_laysOrder_81 : g_dc cX11_laysOrder 81 (.iinc 2 1) 3 84 := ⟨by decide +kernel, rfl⟩
theorem d_X11_laysOrder_84 : g_dc cX11_laysOrder 84 (.goto (-80)) 3 87 := ⟨by decide +kernel, rfl⟩
theorem d_X11_laysOrder_87 : g_dc cX11_laysOrder 87 (.iload_n 1) 1 88 := ⟨by decide +kernel, rfl⟩
theorem d_X11_laysOrder_88 : g_dc cX11_laysOrder 88 (.ireturn) 1 89 := ⟨by decide +kernel, rfl⟩
set_option maxHeartbeats 4000000 in
set_option maxRecDepth 100000 in
theorem c_X11_laysOrder (l : Launch) (X : gX) (ad : Nat → Nat) (F : Nat → Int32) (R : Nat → Nat → Int32) (h42 : F 42 = 0) : g_Ci l X yX11_laysOrder cX11_laysOrder 4 (some .int) 3 0 0 [.ref (ad 0)] (wM X ad F R) (fun r w => w = wM X ad F R ∧ r = 0) := by
  refine g_mi (by decide +kernel) (Nat.le_of_ble_eq_true rfl) (fun E cx hret => ?_)
  refine g_iconst cx 0 (by decide) d_X11_laysOrder_0 ?_
  refine g_istore_n cx [(1, .int 0), (0, .ref (ad 0))] d_X11_laysOrder_1 (by decide) rfl ?_
  refine g_iconst cx 0 (by decide) d_X11_laysOrder_2 ?_
  refine g_istore_n cx [(2, .int 0), (1, .int 0), (0, .ref (ad 0))] d_X11_laysOrder_3 (by decide) rfl ?_
  refine g_iload_n cx 0 rfl d_X11_laysOrder_4 ?_
  refine g_bipush cx 10 (by decide) d_X11_laysOrder_5 ?_
  refine g_icmp_ge_f cx 87 d_X11_laysOrder_7 (by decide) (by decide) ?_
  refine g_aload_n cx 2 rfl d_X11_laysOrder_10 ?_
  refine g_iload_n cx 0 rfl d_X11_laysOrder_11 ?_
  refine g_cViW cx [.int 0] [] (c_X11_stands l X ad F R 0 h42) ml_X11_343 yV_X11_stands d_X11_laysOrder_12 (by unfold g_rr; decide) (by decide) 0 rfl rfl rfl (Nat.le_of_ble_eq_true rfl) (fun r1 w2 h3 => ?_)
  obtain ⟨rfl, rfl⟩ := h3
  refine g_if_ne_f cx 21 d_X11_laysOrder_15 (by decide) (by decide) ?_
  refine g_goto cx 81 d_X11_laysOrder_18 (by decide) ?_
  refine g_iinc cx 1 [(2, .int 1), (1, .int 0), (0, .ref (ad 0))] 0 d_X11_laysOrder_81 rfl (by decide) (by decide) rfl ?_
  refine g_goto cx 4 d_X11_laysOrder_84 (by decide) ?_
  refine g_iload_n cx 0 rfl d_X11_laysOrder_4 ?_
  refine g_bipush cx 10 (by decide) d_X11_laysOrder_5 ?_
  refine g_icmp_ge_f cx 87 d_X11_laysOrder_7 (by decide) (by decide) ?_
  refine g_aload_n cx 2 rfl d_X11_laysOrder_10 ?_
  refine g_iload_n cx 0 rfl d_X11_laysOrder_11 ?_
  refine g_cViW cx [.int 1] [] (c_X11_stands l X ad F R 1 h42) ml_X11_343 yV_X11_stands d_X11_laysOrder_12 (by unfold g_rr; decide) (by decide) 0 rfl rfl rfl (Nat.le_of_ble_eq_true rfl) (fun r4 w5 h6 => ?_)
  obtain ⟨rfl, rfl⟩ := h6
  refine g_if_ne_f cx 21 d_X11_laysOrder_15 (by decide) (by decide) ?_
  refine g_goto cx 81 d_X11_laysOrder_18 (by decide) ?_
  refine g_iinc cx 2 [(2, .int 2), (1, .int 0), (0, .ref (ad 0))] 0 d_X11_laysOrder_81 rfl (by decide) (by decide) rfl ?_
  refine g_goto cx 4 d_X11_laysOrder_84 (by decide) ?_
  refine g_iload_n cx 0 rfl d_X11_laysOrder_4 ?_
  refine g_bipush cx 10 (by decide) d_X11_laysOrder_5 ?_
  refine g_icmp_ge_f cx 87 d_X11_laysOrder_7 (by decide) (by decide) ?_
  refine g_aload_n cx 2 rfl d_X11_laysOrder_10 ?_
  refine g_iload_n cx 0 rfl d_X11_laysOrder_11 ?_
  refine g_cViW cx [.int 2] [] (c_X11_stands l X ad F R 2 h42) ml_X11_343 yV_X11_stands d_X11_laysOrder_12 (by unfold g_rr; decide) (by decide) 0 rfl rfl rfl (Nat.le_of_ble_eq_true rfl) (fun r7 w8 h9 => ?_)
  obtain ⟨rfl, rfl⟩ := h9
  refine g_if_ne_f cx 21 d_X11_laysOrder_15 (by decide) (by decide) ?_
  refine g_goto cx 81 d_X11_laysOrder_18 (by decide) ?_
  refine g_iinc cx 3 [(2, .int 3), (1, .int 0), (0, .ref (ad 0))] 0 d_X11_laysOrder_81 rfl (by decide) (by decide) rfl ?_
  refine g_goto cx 4 d_X11_laysOrder_84 (by decide) ?_
  refine g_iload_n cx 0 rfl d_X11_laysOrder_4 ?_
  refine g_bipush cx 10 (by decide) d_X11_laysOrder_5 ?_
  refine g_icmp_ge_f cx 87 d_X11_laysOrder_7 (by decide) (by decide) ?_
  refine g_aload_n cx 2 rfl d_X11_laysOrder_10 ?_
  refine g_iload_n cx 0 rfl d_X11_laysOrder_11 ?_
  refine g_cViW cx [.int 3] [] (c_X11_stands l X ad F R 3 h42) ml_X11_343 yV_X11_stands d_X11_laysOrder_12 (by unfold g_rr; decide) (by decide) 0 rfl rfl rfl (Nat.le_of_ble_eq_true rfl) (fun r10 w11 h12 => ?_)
  obtain ⟨rfl, rfl⟩ := h12
  refine g_if_ne_f cx 21 d_X11_laysOrder_15 (by decide) (by decide) ?_
  refine g_goto cx 81 d_X11_laysOrder_18 (by decide) ?_
  refine g_iinc cx 4 [(2, .int 4), (1, .int 0), (0, .ref (ad 0))] 0 d_X11_laysOrder_81 rfl (by decide) (by decide) rfl ?_
  refine g_goto cx 4 d_X11_laysOrder_84 (by decide) ?_
  refine g_iload_n cx 0 rfl d_X11_laysOrder_4 ?_
  refine g_bipush cx 10 (by decide) d_X11_laysOrder_5 ?_
  refine g_icmp_ge_f cx 87 d_X11_laysOrder_7 (by decide) (by decide) ?_
  refine g_aload_n cx 2 rfl d_X11_laysOrder_10 ?_
  refine g_iload_n cx 0 rfl d_X11_laysOrder_11 ?_
  refine g_cViW cx [.int 4] [] (c_X11_stands l X ad F R 4 h42) ml_X11_343 yV_X11_stands d_X11_laysOrder_12 (by unfold g_rr; decide) (by decide) 0 rfl rfl rfl (Nat.le_of_ble_eq_true rfl) (fun r13 w14 h15 => ?_)
  obtain ⟨rfl, rfl⟩ := h15
  refine g_if_ne_f cx 21 d_X11_laysOrder_15 (by decide) (by decide) ?_
  refine g_goto cx 81 d_X11_laysOrder_18 (by decide) ?_
  refine g_iinc cx 5 [(2, .int 5), (1, .int 0), (0, .ref (ad 0))] 0 d_X11_laysOrder_81 rfl (by decide) (by decide) rfl ?_
  refine g_goto cx 4 d_X11_laysOrder_84 (by decide) ?_
  refine g_iload_n cx 0 rfl d_X11_laysOrder_4 ?_
  refine g_bipush cx 10 (by decide) d_X11_laysOrder_5 ?_
  refine g_icmp_ge_f cx 87 d_X11_laysOrder_7 (by decide) (by decide) ?_
  refine g_aload_n cx 2 rfl d_X11_laysOrder_10 ?_
  refine g_iload_n cx 0 rfl d_X11_laysOrder_11 ?_
  refine g_cViW cx [.int 5] [] (c_X11_stands l X ad F R 5 h42) ml_X11_343 yV_X11_stands d_X11_laysOrder_12 (by unfold g_rr; decide) (by decide) 0 rfl rfl rfl (Nat.le_of_ble_eq_true rfl) (fun r16 w17 h18 => ?_)
  obtain ⟨rfl, rfl⟩ := h18
  refine g_if_ne_f cx 21 d_X11_laysOrder_15 (by decide) (by decide) ?_
  refine g_goto cx 81 d_X11_laysOrder_18 (by decide) ?_
  refine g_iinc cx 6 [(2, .int 6), (1, .int 0), (0, .ref (ad 0))] 0 d_X11_laysOrder_81 rfl (by decide) (by decide) rfl ?_
  refine g_goto cx 4 d_X11_laysOrder_84 (by decide) ?_
  refine g_iload_n cx 0 rfl d_X11_laysOrder_4 ?_
  refine g_bipush cx 10 (by decide) d_X11_laysOrder_5 ?_
  refine g_icmp_ge_f cx 87 d_X11_laysOrder_7 (by decide) (by decide) ?_
  refine g_aload_n cx 2 rfl d_X11_laysOrder_10 ?_
  refine g_iload_n cx 0 rfl d_X11_laysOrder_11 ?_
  refine g_cViW cx [.int 6] [] (c_X11_stands l X ad F R 6 h42) ml_X11_343 yV_X11_stands d_X11_laysOrder_12 (by unfold g_rr; decide) (by decide) 0 rfl rfl rfl (Nat.le_of_ble_eq_true rfl) (fun r19 w20 h21 => ?_)
  obtain ⟨rfl, rfl⟩ := h21
  refine g_if_ne_f cx 21 d_X11_laysOrder_15 (by decide) (by decide) ?_
  refine g_goto cx 81 d_X11_laysOrder_18 (by decide) ?_
  refine g_iinc cx 7 [(2, .int 7), (1, .int 0), (0, .ref (ad 0))] 0 d_X11_laysOrder_81 rfl (by decide) (by decide) rfl ?_
  refine g_goto cx 4 d_X11_laysOrder_84 (by decide) ?_
  refine g_iload_n cx 0 rfl d_X11_laysOrder_4 ?_
  refine g_bipush cx 10 (by decide) d_X11_laysOrder_5 ?_
  refine g_icmp_ge_f cx 87 d_X11_laysOrder_7 (by decide) (by decide) ?_
  refine g_aload_n cx 2 rfl d_X11_laysOrder_10 ?_
  refine g_iload_n cx 0 rfl d_X11_laysOrder_11 ?_
  refine g_cViW cx [.int 7] [] (c_X11_stands l X ad F R 7 h42) ml_X11_343 yV_X11_stands d_X11_laysOrder_12 (by unfold g_rr; decide) (by decide) 0 rfl rfl rfl (Nat.le_of_ble_eq_true rfl) (fun r22 w23 h24 => ?_)
  obtain ⟨rfl, rfl⟩ := h24
  refine g_if_ne_f cx 21 d_X11_laysOrder_15 (by decide) (by decide) ?_
  refine g_goto cx 81 d_X11_laysOrder_18 (by decide) ?_
  refine g_iinc cx 8 [(2, .int 8), (1, .int 0), (0, .ref (ad 0))] 0 d_X11_laysOrder_81 rfl (by decide) (by decide) rfl ?_
  refine g_goto cx 4 d_X11_laysOrder_84 (by decide) ?_
  refine g_iload_n cx 0 rfl d_X11_laysOrder_4 ?_
  refine g_bipush cx 10 (by decide) d_X11_laysOrder_5 ?_
  refine g_icmp_ge_f cx 87 d_X11_laysOrder_7 (by decide) (by decide) ?_
  refine g_aload_n cx 2 rfl d_X11_laysOrder_10 ?_
  refine g_iload_n cx 0 rfl d_X11_laysOrder_11 ?_
  refine g_cViW cx [.int 8] [] (c_X11_stands l X ad F R 8 h42) ml_X11_343 yV_X11_stands d_X11_laysOrder_12 (by unfold g_rr; decide) (by decide) 0 rfl rfl rfl (Nat.le_of_ble_eq_true rfl) (fun r25 w26 h27 => ?_)
  obtain ⟨rfl, rfl⟩ := h27
  refine g_if_ne_f cx 21 d_X11_laysOrder_15 (by decide) (by decide) ?_
  refine g_goto cx 81 d_X11_laysOrder_18 (by decide) ?_
  refine g_iinc cx 9 [(2, .int 9), (1, .int 0), (0, .ref (ad 0))] 0 d_X11_laysOrder_81 rfl (by decide) (by decide) rfl ?_
  refine g_goto cx 4 d_X11_laysOrder_84 (by decide) ?_
  refine g_iload_n cx 0 rfl d_X11_laysOrder_4 ?_
  refine g_bipush cx 10 (by decide) d_X11_laysOrder_5 ?_
  refine g_icmp_ge_f cx 87 d_X11_laysOrder_7 (by decide) (by decide) ?_
  refine g_aload_n cx 2 rfl d_X11_laysOrder_10 ?_
  refine g_iload_n cx 0 rfl d_X11_laysOrder_11 ?_
  refine g_cViW cx [.int 9] [] (c_X11_stands l X ad F R 9 h42) ml_X11_343 yV_X11_stands d_X11_laysOrder_12 (by unfold g_rr; decide) (by decide) 0 rfl rfl rfl (Nat.le_of_ble_eq_true rfl) (fun r28 w29 h30 => ?_)
  obtain ⟨rfl, rfl⟩ := h30
  refine g_if_ne_f cx 21 d_X11_laysOrder_15 (by decide) (by decide) ?_
  refine g_goto cx 81 d_X11_laysOrder_18 (by decide) ?_
  refine g_iinc cx 10 [(2, .int 10), (1, .int 0), (0, .ref (ad 0))] 0 d_X11_laysOrder_81 rfl (by decide) (by decide) rfl ?_
  refine g_goto cx 4 d_X11_laysOrder_84 (by decide) ?_
  refine g_iload_n cx 0 rfl d_X11_laysOrder_4 ?_
  refine g_bipush cx 10 (by decide) d_X11_laysOrder_5 ?_
  refine g_icmp_ge_t cx 87 d_X11_laysOrder_7 (by decide) (by decide) ?_
  refine g_iload_n cx 1 rfl d_X11_laysOrder_87 ?_
  exact hret d_X11_laysOrder_88 (Nat.le_of_ble_eq_true rfl) (Nat.le_of_ble_eq_true rfl) rfl (⟨rfl, rfl⟩)
theorem d_X11_laysThings_0 : g_dc cX11_laysThings 0 (.aload_n 0) 1 1 := ⟨by decide +kernel, rfl⟩
theorem d_X11_laysThings_1 : g_dc cX11_laysThings 1 (.aload_n 0) 1 2 := ⟨by decide +kernel, rfl⟩
theorem d_X11_laysThings_2 : g_dc cX11_laysThings 2 (.getfield 172) 3 5 := ⟨by decide +kernel, rfl⟩
theorem d_X11_laysThings_5 : g_dc cX11_laysThings 5 (.putfield 312) 3 8 := ⟨by decide +kernel, rfl⟩
theorem d_X11_laysThings_8 : g_dc cX11_laysThings 8 (.aload_n 0) 1 9 := ⟨by decide +kernel, rfl⟩
theorem d_X11_laysThings_9 : g_dc cX11_laysThings 9 (.aload_n 0) 1 10 := ⟨by decide +kernel, rfl⟩
theorem d_X11_laysThings_10 : g_dc cX11_laysThings 10 (.getfield 169) 3 13 := ⟨by decide +kernel, rfl⟩
theorem d_X11_laysThings_13 : g_dc cX11_laysThings 13 (.putfield 315) 3 16 := ⟨by decide +kernel, rfl⟩
theorem d_X11_laysThings_16 : g_dc cX11_laysThings 16 (.aload_n 0) 1 17 := ⟨by decide +kernel, rfl⟩
theorem d_X11_laysThings_17 : g_dc cX11_laysThings 17 (.iconst 0) 1 18 := ⟨by decide +kernel, rfl⟩
theorem d_X11_laysThings_18 : g_dc cX11_laysThings 18 (.putfield 318) 3 21 := ⟨by decide +kernel, rfl⟩
theorem d_X11_laysThings_21 : g_dc cX11_laysThings 21 (.aload_n 0) 1 22 := ⟨by decide +kernel, rfl⟩
theorem d_X11_laysThings_22 : g_dc cX11_laysThings 22 (.iconst 0) 1 23 := ⟨by decide +kernel, rfl⟩
theorem d_X11_laysThings_23 : g_dc cX11_laysThings 23 (.putfield 322) 3 26 := ⟨by decide +kernel, rfl⟩
theorem d_X11_laysThings_26 : g_dc cX11_laysThings 26 (.iconst 0) 1 27 := ⟨by decide +kernel, rfl⟩
theorem d_X11_laysThings_27 : g_dc cX11_laysThings 27 (.istore_n 1) 1 28 := ⟨by decide +kernel, rfl⟩
theorem d_X11_laysThings_28 : g_dc cX11_laysThings 28 (.iload_n 1) 1 29 := ⟨by decide +kernel, rfl⟩
theorem d_X11_laysThings_29 : g_dc cX11_laysThings 29 (.bipush 10) 2 31 := ⟨by decide +kernel, rfl⟩
theorem d_X11_laysThings_31 : g_dc cX11_laysThings 31 (.if_icmp .ge 33) 3 34 := ⟨by decide +kernel, rfl⟩
theorem d_X11_laysThings_34 : g_dc cX11_laysThings 34 (.aload_n 0) 1 35 := ⟨by decide +kernel, rfl⟩
theorem d_X11_laysThings_35 : g_dc cX11_laysThings 35 (.getfield 86) 3 38 := ⟨by decide +kernel, rfl⟩
theorem d_X11_laysThings_38 : g_dc cX11_laysThings 38 (.iload_n 1) 1 39 := ⟨by decide +kernel, rfl⟩
theorem d_X11_laysThings_39 : g_dc cX11_laysThings 39 (.aload_n 0) 1 40 := ⟨by decide +kernel, rfl⟩
theorem d_X11_laysThings_40 : g_dc cX11_laysThings 40 (.getfield 13) 3 43 := ⟨by decide +kernel, rfl⟩
theorem d_X11_laysThings_43 : g_dc cX11_laysThings 43 (.iload_n 1) 1 44 := ⟨by decide +kernel, rfl⟩
theorem d_X11_laysThings_44 : g_dc cX11_laysThings 44 (.iaload) 1 45 := ⟨by decide +kernel, rfl⟩
theorem d_X11_laysThings_45 : g_dc cX11_laysThings 45 (.iastore) 1 46 := ⟨by decide +kernel, rfl⟩
theorem d_X11_laysThings_46 : g_dc cX11_laysThings 46 (.aload_n 0) 1 47 := ⟨by decide +kernel, rfl⟩
theorem d_X11_laysThings_47 : g_dc cX11_laysThings 47 (.getfield 98) 3 50 := ⟨by decide +kernel, rfl⟩
theorem d_X11_laysThings_50 : g_dc cX11_laysThings 50 (.iload_n 1) 1 51 := ⟨by decide +kernel, rfl⟩
theorem d_X11_laysThings_51 : g_dc cX11_laysThings 51 (.aload_n 0) 1 52 := ⟨by decide +kernel, rfl⟩
theorem d_X11_laysThings_52 : g_dc cX11_laysThings 52 (.getfield 25) 3 55 := ⟨by decide +kernel, rfl⟩
theorem d_X11_laysThings_55 : g_dc cX11_laysThings 55 (.iload_n 1) 1 56 := ⟨by decide +kernel, rfl⟩
theorem d_X11_laysThings_56 : g_dc cX11_laysThings 56 (.iaload) 1 57 := ⟨by decide +kernel, rfl⟩
theorem d_X11_laysThings_57 : g_dc cX11_laysThings 57 (.iastore) 1 58 := ⟨by decide +kernel, rfl⟩
theorem d_X11_laysThings_58 : g_dc cX11_laysThings 58 (.iinc 1 1) 3 61 := ⟨by decide +kernel, rfl⟩
theorem d_X11_laysThings_61 : g_dc cX11_laysThings 61 (.goto (-33)) 3 64 := ⟨by decide +kernel, rfl⟩
theorem d_X11_laysThings_64 : g_dc cX11_laysThings 64 (.return_) 1 65 := ⟨by decide +kernel, rfl⟩
set_option maxHeartbeats 4000000 in
set_option maxRecDepth 100000 in
theorem c_X11_laysThings (l : Launch) (X : gX) (ad : Nat → Nat) (F : Nat → Int32) (R : Nat → Nat → Int32) : g_Cv l X yX11_laysThings cX11_laysThings 2 1 0 0 [.ref (ad 0)] (wM X ad F R) (fun w => ∃ R' : Nat → Nat → Int32, w = wM X ad (upd (upd (upd (upd F 42 (F 4)) 43 (F 2)) 49 0) 51 0) R') := by
  refine g_mv (by decide +kernel) (Nat.le_of_ble_eq_true rfl) (fun E cx hret => ?_)
  refine g_aload_n cx 0 rfl d_X11_laysThings_0 ?_
  refine g_aload_n cx 0 rfl d_X11_laysThings_1 ?_
  refine g_get cx cl_X11 fl_X11_172 0 (.int (F 4)) d_X11_laysThings_2 rfl rfl ?_
  refine g_put cx cl_X11 fl_X11_312 0 (wM X ad (upd F 42 (F 4)) R) d_X11_laysThings_5 rfl rfl rfl rfl (Nat.le_of_ble_eq_true rfl) rfl ?_
  refine g_aload_n cx 0 rfl d_X11_laysThings_8 ?_
  refine g_aload_n cx 0 rfl d_X11_laysThings_9 ?_
  refine g_get cx cl_X11 fl_X11_169 0 (.int (F 2)) d_X11_laysThings_10 rfl rfl ?_
  refine g_put cx cl_X11 fl_X11_315 0 (wM X ad (upd (upd F 42 (F 4)) 43 (F 2)) R) d_X11_laysThings_13 rfl rfl rfl rfl (Nat.le_of_ble_eq_true rfl) rfl ?_
  refine g_aload_n cx 0 rfl d_X11_laysThings_16 ?_
  refine g_iconst cx 0 (by decide) d_X11_laysThings_17 ?_
  refine g_put cx cl_X11 fl_X11_318 0 (wM X ad (upd (upd (upd F 42 (F 4)) 43 (F 2)) 51 0) R) d_X11_laysThings_18 rfl rfl rfl rfl (Nat.le_of_ble_eq_true rfl) rfl ?_
  refine g_aload_n cx 0 rfl d_X11_laysThings_21 ?_
  refine g_iconst cx 0 (by decide) d_X11_laysThings_22 ?_
  refine g_put cx cl_X11 fl_X11_322 0 (wM X ad (upd (upd (upd (upd F 42 (F 4)) 43 (F 2)) 49 0) 51 0) R) d_X11_laysThings_23 rfl rfl rfl rfl (Nat.le_of_ble_eq_true rfl) rfl ?_
  refine g_iconst cx 0 (by decide) d_X11_laysThings_26 ?_
  refine g_istore_n cx [(1, .int 0), (0, .ref (ad 0))] d_X11_laysThings_27 (by decide) rfl ?_
  have L28 : ∀ (N : Nat) (i : Nat) (x1 : Int32) (zR : Nat → Nat → Int32), 10 - i < N → (x1 = nI i) → (i ≤ 10) → G X E 2 0 0 (wM X ad (upd (upd (upd (upd F 42 (F 4)) 43 (F 2)) 49 0) 51 0) zR) [(0, .ref (ad 0)), (1, .int x1)] 28 [] := by
    intro N
    induction N with
    | zero => intro i x1 zR hm; exact absurd hm (Nat.not_lt_zero _)
    | succ N ih28 =>
      intro i x1 zR hm hx hi
      refine g_iload_n cx 1 rfl d_X11_laysThings_28 ?_
      refine g_bipush cx 10 (by decide) d_X11_laysThings_29 ?_
      refine g_icmp_ge cx 64 d_X11_laysThings_31 (by decide) (fun zc31 => ?_) (fun zc31 => ?_)
      · exact hret d_X11_laysThings_64 (Nat.le_of_ble_eq_true rfl) (Nat.le_of_ble_eq_true rfl) ⟨zR, rfl⟩
      · refine g_aload_n cx 0 rfl d_X11_laysThings_34 ?_
        refine g_get cx cl_X11 fl_X11_86 0 (.ref (ad 26)) d_X11_laysThings_35 rfl rfl ?_
        refine g_iload_n cx 1 rfl d_X11_laysThings_38 ?_
        refine g_aload_n cx 0 rfl d_X11_laysThings_39 ?_
        refine g_get cx cl_X11 fl_X11_13 0 (.ref (ad 2)) d_X11_laysThings_40 rfl rfl ?_
        refine g_iload_n cx 1 rfl d_X11_laysThings_43 ?_
        refine g_iald cx 2 d_X11_laysThings_44 rfl (by rw [hx]; exact vp_in_nI (g_lt10 (n := 10) hx (by omega) zc31) (by decide)) ?_
        refine g_iast cx 26 (wM X ad (upd (upd (upd (upd F 42 (F 4)) 43 (F 2)) 49 0) 51 0) (g_u zR 26 (upd (zR 26) (Int32.toNatClampNeg x1) ((zR 2) (Int32.toNatClampNeg x1))))) d_X11_laysThings_45 rfl (by rw [hx]; exact vp_in_nI (g_lt10 (n := 10) hx (by omega) zc31) (by decide)) rfl ?_
        refine g_aload_n cx 0 rfl d_X11_laysThings_46 ?_
        refine g_get cx cl_X11 fl_X11_98 0 (.ref (ad 30)) d_X11_laysThings_47 rfl rfl ?_
        refine g_iload_n cx 1 rfl d_X11_laysThings_50 ?_
        refine g_aload_n cx 0 rfl d_X11_laysThings_51 ?_
        refine g_get cx cl_X11 fl_X11_25 0 (.ref (ad 6)) d_X11_laysThings_52 rfl rfl ?_
        refine g_iload_n cx 1 rfl d_X11_laysThings_55 ?_
        refine g_iald cx 6 d_X11_laysThings_56 rfl (by rw [hx]; exact vp_in_nI (g_lt10 (n := 10) hx (by omega) zc31) (by decide)) ?_
        refine g_iast cx 30 (wM X ad (upd (upd (upd (upd F 42 (F 4)) 43 (F 2)) 49 0) 51 0) (g_u (g_u zR 26 (upd (zR 26) (Int32.toNatClampNeg x1) ((zR 2) (Int32.toNatClampNeg x1)))) 30 (upd (zR 30) (Int32.toNatClampNeg x1) ((zR 6) (Int32.toNatClampNeg x1))))) d_X11_laysThings_57 rfl (by rw [hx]; exact vp_in_nI (g_lt10 (n := 10) hx (by omega) zc31) (by decide)) rfl ?_
        refine g_iinc cx (x1 + 1) [(1, .int (x1 + 1)), (0, .ref (ad 0))] 1 d_X11_laysThings_58 rfl (rfl) (by decide) rfl ?_
        refine g_goto cx 28 d_X11_laysThings_61 (by decide) ?_
        refine g_lsub [1, 0] [(0, .ref (ad 0)), (1, .int (x1 + 1))] rfl ?_
        exact ih28 (i + 1) (x1 + 1) (g_u (g_u zR 26 (upd (zR 26) (Int32.toNatClampNeg x1) ((zR 2) (Int32.toNatClampNeg x1)))) 30 (upd (zR 30) (Int32.toNatClampNeg x1) ((zR 6) (Int32.toNatClampNeg x1)))) (by have := g_lt10 (n := 10) hx (by omega) zc31; omega) (by rw [hx]; exact nI_1 i) (by have := g_lt10 (n := 10) hx (by omega) zc31; omega)
  refine g_lsub [1, 0] [(0, .ref (ad 0)), (1, .int 0)] rfl ?_
  exact L28 _ 0 0 R (Nat.lt_succ_self _) nI_0.symm (by omega)
theorem d_X11_laysPull_0 : g_dc cX11_laysPull 0 (.aload_n 0) 1 1 := ⟨by decide +kernel, rfl⟩
theorem d_X11_laysPull_1 : g_dc cX11_laysPull 1 (.aload_n 0) 1 2 := ⟨by decide +kernel, rfl⟩
theorem d_X11_laysPull_2 : g_dc cX11_laysPull 2 (.getfield 228) 3 5 := ⟨by decide +kernel, rfl⟩
theorem d_X11_laysPull_5 : g_dc cX11_laysPull 5 (.putfield 309) 3 8 := ⟨by decide +kernel, rfl⟩
theorem d_X11_laysPull_8 : g_dc cX11_laysPull 8 (.iconst 0) 1 9 := ⟨by decide +kernel, rfl⟩
theorem d_X11_laysPull_9 : g_dc cX11_laysPull 9 (.istore_n 1) 1 10 := ⟨by decide +kernel, rfl⟩
theorem d_X11_laysPull_10 : g_dc cX11_laysPull 10 (.iload_n 1) 1 11 := ⟨by decide +kernel, rfl⟩
theorem d_X11_laysPull_11 : g_dc cX11_laysPull 11 (.aload_n 0) 1 12 := ⟨by decide +kernel, rfl⟩
theorem d_X11_laysPull_12 : g_dc cX11_laysPull 12 (.getfield 228) 3 15 := ⟨by decide +kernel, rfl⟩
theorem d_X11_laysPull_15 : g_dc cX11_laysPull 15 (.if_icmp .ge 21) 3 18 := ⟨by decide +kernel, rfl⟩
theorem d_X11_laysPull_36 : g_dc cX11_laysPull 36 (.return_) 1 37 := ⟨by decide +kernel, rfl⟩
set_option maxHeartbeats 4000000 in
set_option maxRecDepth 100000 in
theorem c_X11_laysPull (l : Launch) (X : gX) (ad : Nat → Nat) (F : Nat → Int32) (R : Nat → Nat → Int32) (h19 : F 19 = 0) : g_Cv l X yX11_laysPull cX11_laysPull 2 1 0 0 [.ref (ad 0)] (wM X ad F R) (fun w => w = wM X ad (upd F 44 0) R ∧ True) := by
  refine g_mv (by decide +kernel) (Nat.le_of_ble_eq_true rfl) (fun E cx hret => ?_)
  refine g_aload_n cx 0 rfl d_X11_laysPull_0 ?_
  refine g_aload_n cx 0 rfl d_X11_laysPull_1 ?_
  refine g_get cx cl_X11 fl_X11_228 0 (.int (F 19)) d_X11_laysPull_2 rfl rfl ?_
  refine g_toi 0 (h19) ?_
  refine g_put cx cl_X11 fl_X11_309 0 (wM X ad (upd F 44 0) R) d_X11_laysPull_5 rfl rfl rfl rfl (Nat.le_of_ble_eq_true rfl) rfl ?_
  refine g_iconst cx 0 (by decide) d_X11_laysPull_8 ?_
  refine g_istore_n cx [(1, .int 0), (0, .ref (ad 0))] d_X11_laysPull_9 (by decide) rfl ?_
  refine g_iload_n cx 0 rfl d_X11_laysPull_10 ?_
  refine g_aload_n cx 1 rfl d_X11_laysPull_11 ?_
  refine g_get cx cl_X11 fl_X11_228 0 (.int (F 19)) d_X11_laysPull_12 rfl rfl ?_
  refine g_toi 0 (h19) ?_
  refine g_icmp_ge_t cx 36 d_X11_laysPull_15 (by decide) (by decide) ?_
  exact hret d_X11_laysPull_36 (Nat.le_of_ble_eq_true rfl) (Nat.le_of_ble_eq_true rfl) (⟨rfl, trivial⟩)
theorem d_X11_begins_0 : g_dc cX11_begins 0 (.aload_n 0) 1 1 := ⟨by decide +kernel, rfl⟩
theorem d_X11_begins_1 : g_dc cX11_begins 1 (.iconst 0) 1 2 := ⟨by decide +kernel, rfl⟩
theorem d_X11_begins_2 : g_dc cX11_begins 2 (.putfield 325) 3 5 := ⟨by decide +kernel, rfl⟩
theorem d_X11_begins_5 : g_dc cX11_begins 5 (.aload_n 0) 1 6 := ⟨by decide +kernel, rfl⟩
theorem d_X11_begins_6 : g_dc cX11_begins 6 (.iconst 0) 1 7 := ⟨by decide +kernel, rfl⟩
theorem d_X11_begins_7 : g_dc cX11_begins 7 (.putfield 328) 3 10 := ⟨by decide +kernel, rfl⟩
theorem d_X11_begins_10 : g_dc cX11_begins 10 (.aload_n 0) 1 11 := ⟨by decide +kernel, rfl⟩
theorem d_X11_begins_11 : g_dc cX11_begins 11 (.aload_n 0) 1 12 := ⟨by decide +kernel, rfl⟩
theorem d_X11_begins_12 : g_dc cX11_begins 12 (.getfield 159) 3 15 := ⟨by decide +kernel, rfl⟩
theorem d_X11_begins_15 : g_dc cX11_begins 15 (.putfield 331) 3 18 := ⟨by decide +kernel, rfl⟩
theorem d_X11_begins_18 : g_dc cX11_begins 18 (.aload_n 0) 1 19 := ⟨by decide +kernel, rfl⟩
theorem d_X11_begins_19 : g_dc cX11_begins 19 (.iconst 0) 1 20 := ⟨by decide +kernel, rfl⟩
theorem d_X11_begins_20 : g_dc cX11_begins 20 (.putfield 334) 3 23 := ⟨by decide +kernel, rfl⟩
theorem d_X11_begins_23 : g_dc cX11_begins 23 (.aload_n 0) 1 24 := ⟨by decide +kernel, rfl⟩
theorem d_X11_begins_24 : g_dc cX11_begins 24 (.iconst 0) 1 25 := ⟨by decide +kernel, rfl⟩
theorem d_X11_begins_25 : g_dc cX11_begins 25 (.putfield 337) 3 28 := ⟨by decide +kernel, rfl⟩
theorem d_X11_begins_28 : g_dc cX11_begins 28 (.aload_n 0) 1 29 := ⟨by decide +kernel, rfl⟩
theorem d_X11_begins_29 : g_dc cX11_begins 29 (.iconst 0) 1 30 := ⟨by decide +kernel, rfl⟩
theorem d_X11_begins_30 : g_dc cX11_begins 30 (.putfield 340) 3 33 := ⟨by decide +kernel, rfl⟩
theorem d_X11_begins_33 : g_dc cX11_begins 33 (.iconst 0) 1 34 := ⟨by decide +kernel, rfl⟩
theorem d_X11_begins_34 : g_dc cX11_begins 34 (.istore_n 1) 1 35 := ⟨by decide +kernel, rfl⟩
theorem d_X11_begins_35 : g_dc cX11_begins 35 (.iload_n 1) 1 36 := ⟨by decide +kernel, rfl⟩
theorem d_X11_begins_36 : g_dc cX11_begins 36 (.bipush 10) 2 38 := ⟨by decide +kernel, rfl⟩
theorem d_X11_begins_38 : g_dc cX11_begins 38 (.if_icmp .ge 75) 3 41 := ⟨by decide +kernel, rfl⟩
theorem d_X11_begins_41 : g_dc cX11_begins 41 (.aload_n 0) 1 42 := ⟨by decide +kernel, rfl⟩
theorem d_X11_begins_42 : g_dc cX11_begins 42 (.getfield 89) 3 45 := ⟨by decide +kernel, rfl⟩
theorem d_X11_begins_45 : g_dc cX11_begins 45 (.iload_n 1) 1 46 := ⟨by decide +kernel, rfl⟩
theorem d_X11_begins_46 : g_dc cX11_begins 46 (.iconst 0) 1 47 := ⟨by decide +kernel, rfl⟩
theorem d_X11_begins_47 : g_dc cX11_begins 47 (.iastore) 1 48 := ⟨by decide +kernel, rfl⟩
theorem d_X11_begins_48 : g_dc cX11_begins 48 (.aload_n 0) 1 49 := ⟨by decide +kernel, rfl⟩
theorem d_X11_begins_49 : g_dc cX11_begins 49 (.getfield 92) 3 52 := ⟨by decide +kernel, rfl⟩
theorem d_X11_begins_52 : g_dc cX11_begins 52 (.iload_n 1) 1 53 := ⟨by decide +kernel, rfl⟩
theorem d_X11_begins_53 : g_dc cX11_begins 53 (.iconst 0) 1 54 := ⟨by decide +kernel, rfl⟩
theorem d_X11_begins_54 : g_dc cX11_begins 54 (.iastore) 1 55 := ⟨by decide +kernel, rfl⟩
theorem d_X11_begins_55 : g_dc cX11_begins 55 (.aload_n 0) 1 56 := ⟨by decide +kernel, rfl⟩
theorem d_X11_begins_56 : g_dc cX11_begins 56 (.getfield 95) 3 59 := ⟨by decide +kernel, rfl⟩
theorem d_X11_begins_59 : g_dc cX11_begins 59 (.iload_n 1) 1 60 := ⟨by decide +kernel, rfl⟩
theorem d_X11_begins_60 : g_dc cX11_begins 60 (.aload_n 0) 1 61 := ⟨by decide +kernel, rfl⟩
theorem d_X11_begins_61 : g_dc cX11_begins 61 (.getfield 28) 3 64 := ⟨by decide +kernel, rfl⟩
theorem d_X11_begins_64 : g_dc cX11_begins 64 (.iload_n 1) 1 65 := ⟨by decide +kernel, rfl⟩
theorem d_X11_begins_65 : g_dc cX11_begins 65 (.iaload) 1 66 := ⟨by decide +kernel, rfl⟩
theorem d_X11_begins_66 : g_dc cX11_begins 66 (.iastore) 1 67 := ⟨by decide +kernel, rfl⟩
theorem d_X11_begins_67 : g_dc cX11_begins 67 (.aload_n 0) 1 68 := ⟨by decide +kernel, rfl⟩
theorem d_X11_begins_68 : g_dc cX11_begins 68 (.getfield 101) 3 71 := ⟨by decide +kernel, rfl⟩
theorem d_X11_begins_71 : g_dc cX11_begins 71 (.iload_n 1) 1 72 := ⟨by decide +kernel, rfl⟩
theorem d_X11_begins_72 : g_dc cX11_begins 72 (.aload_n 0) 1 73 := ⟨by decide +kernel, rfl⟩
theorem d_X11_begins_73 : g_dc cX11_begins 73 (.getfield 19) 3 76 := ⟨by decide +kernel, rfl⟩
theorem d_X11_begins_76 : g_dc cX11_begins 76 (.iload_n 1) 1 77 := ⟨by decide +kernel, rfl⟩
theorem d_X11_begins_77 : g_dc cX11_begins 77 (.iaload) 1 78 := ⟨by decide +kernel, rfl⟩
theorem d_X11_begins_78 : g_dc cX11_begins 78 (.iastore) 1 79 := ⟨by decide +kernel, rfl⟩
theorem d_X11_begins_79 : g_dc cX11_begins 79 (.aload_n 0) 1 80 := ⟨by decide +kernel, rfl⟩
theorem d_X11_begins_80 : g_dc cX11_begins 80 (.getfield 104) 3 83 := ⟨by decide +kernel, rfl⟩
theorem d_X11_begins_83 : g_dc cX11_begins 83 (.iload_n 1) 1 84 := ⟨by decide +kernel, rfl⟩
theorem d_X11_begins_84 : g_dc cX11_begins 84 (.iconst 0) 1 85 := ⟨by decide +kernel, rfl⟩
theorem d_X11_begins_85 : g_dc cX11_begins 85 (.iastore) 1 86 := ⟨by decide +kernel, rfl⟩
theorem d_X11_begins_86 : g_dc cX11_begins 86 (.aload_n 0) 1 87 := ⟨by decide +kernel, rfl⟩
theorem d_X11_begins_87 : g_dc cX11_begins 87 (.getfield 107) 3 90 := ⟨by decide +kernel, rfl⟩
theorem d_X11_begins_90 : g_dc cX11_begins 90 (.iload_n 1) 1 91 := ⟨by decide +kernel, rfl⟩
theorem d_X11_begins_91 : g_dc cX11_begins 91 (.iconst 0) 1 92 := ⟨by decide +kernel, rfl⟩
theorem d_X11_begins_92 : g_dc cX11_begins 92 (.iastore) 1 93 := ⟨by decide +kernel, rfl⟩
theorem d_X11_begins_93 : g_dc cX11_begins 93 (.aload_n 0) 1 94 := ⟨by decide +kernel, rfl⟩
theorem d_X11_begins_94 : g_dc cX11_begins 94 (.getfield 110) 3 97 := ⟨by decide +kernel, rfl⟩
theorem d_X11_begins_97 : g_dc cX11_begins 97 (.iload_n 1) 1 98 := ⟨by decide +kernel, rfl⟩
theorem d_X11_begins_98 : g_dc cX11_begins 98 (.iconst 0) 1 99 := ⟨by decide +kernel, rfl⟩
theorem d_X11_begins_99 : g_dc cX11_begins 99 (.iastore) 1 100 := ⟨by decide +kernel, rfl⟩
theorem d_X11_begins_100 : g_dc cX11_begins 100 (.aload_n 0) 1 101 := ⟨by decide +kernel, rfl⟩
theorem d_X11_begins_101 : g_dc cX11_begins 101 (.getfield 113) 3 104 := ⟨by decide +kernel, rfl⟩
theorem d_X11_begins_104 : g_dc cX11_begins 104 (.iload_n 1) 1 105 := ⟨by decide +kernel, rfl⟩
theorem d_X11_begins_105 : g_dc cX11_begins 105 (.iconst 0) 1 106 := ⟨by decide +kernel, rfl⟩
theorem d_X11_begins_106 : g_dc cX11_begins 106 (.iastore) 1 107 := ⟨by decide +kernel, rfl⟩
theorem d_X11_begins_107 : g_dc cX11_begins 107 (.iinc 1 1) 3 110 := ⟨by decide +kernel, rfl⟩
theorem d_X11_begins_110 : g_dc cX11_begins 110 (.goto (-75)) 3 113 := ⟨by decide +kernel, rfl⟩
theorem d_X11_begins_113 : g_dc cX11_begins 113 (.return_) 1 114 := ⟨by decide +kernel, rfl⟩
set_option maxHeartbeats 4000000 in
set_option maxRecDepth 100000 in
theorem c_X11_begins (l : Launch) (X : gX) (ad : Nat → Nat) (F : Nat → Int32) (R : Nat → Nat → Int32) : g_Cv l X yX11_begins cX11_begins 2 1 0 0 [.ref (ad 0)] (wM X ad F R) (fun w => ∃ R' : Nat → Nat → Int32, w = wM X ad (upd (upd (upd (upd (upd (upd F 45 0) 46 0) 48 (F 1)) 65 0) 66 0) 67 0) R') := by
  refine g_mv (by decide +kernel) (Nat.le_of_ble_eq_true rfl) (fun E cx hret => ?_)
  refine g_aload_n cx 0 rfl d_X11_begins_0 ?_
  refine g_iconst cx 0 (by decide) d_X11_begins_1 ?_
  refine g_put cx cl_X11 fl_X11_325 0 (wM X ad (upd F 45 0) R) d_X11_begins_2 rfl rfl rfl rfl (Nat.le_of_ble_eq_true rfl) rfl ?_
  refine g_aload_n cx 0 rfl d_X11_begins_5 ?_
  refine g_iconst cx 0 (by decide) d_X11_begins_6 ?_
  refine g_put cx cl_X11 fl_X11_328 0 (wM X ad (upd (upd F 45 0) 46 0) R) d_X11_begins_7 rfl rfl rfl rfl (Nat.le_of_ble_eq_true rfl) rfl ?_
  refine g_aload_n cx 0 rfl d_X11_begins_10 ?_
  refine g_aload_n cx 0 rfl d_X11_begins_11 ?_
  refine g_get cx cl_X11 fl_X11_159 0 (.int (F 1)) d_X11_begins_12 rfl rfl ?_
  refine g_put cx cl_X11 fl_X11_331 0 (wM X ad (upd (upd (upd F 45 0) 46 0) 48 (F 1)) R) d_X11_begins_15 rfl rfl rfl rfl (Nat.le_of_ble_eq_true rfl) rfl ?_
  refine g_aload_n cx 0 rfl d_X11_begins_18 ?_
  refine g_iconst cx 0 (by decide) d_X11_begins_19 ?_
  refine g_put cx cl_X11 fl_X11_334 0 (wM X ad (upd (upd (upd (upd F 45 0) 46 0) 48 (F 1)) 65 0) R) d_X11_begins_20 rfl rfl rfl rfl (Nat.le_of_ble_eq_true rfl) rfl ?_
  refine g_aload_n cx 0 rfl d_X11_begins_23 ?_
  refine g_iconst cx 0 (by decide) d_X11_begins_24 ?_
  refine g_put cx cl_X11 fl_X11_337 0 (wM X ad (upd (upd (upd (upd (upd F 45 0) 46 0) 48 (F 1)) 65 0) 66 0) R) d_X11_begins_25 rfl rfl rfl rfl (Nat.le_of_ble_eq_true rfl) rfl ?_
  refine g_aload_n cx 0 rfl d_X11_begins_28 ?_
  refine g_iconst cx 0 (by decide) d_X11_begins_29 ?_
  refine g_put cx cl_X11 fl_X11_340 0 (wM X ad (upd (upd (upd (upd (upd (upd F 45 0) 46 0) 48 (F 1)) 65 0) 66 0) 67 0) R) d_X11_begins_30 rfl rfl rfl rfl (Nat.le_of_ble_eq_true rfl) rfl ?_
  refine g_iconst cx 0 (by decide) d_X11_begins_33 ?_
  refine g_istore_n cx [(1, .int 0), (0, .ref (ad 0))] d_X11_begins_34 (by decide) rfl ?_
  have L35 : ∀ (N : Nat) (i : Nat) (x1 : Int32) (zR : Nat → Nat → Int32), 10 - i < N → (x1 = nI i) → (i ≤ 10) → G X E 2 0 0 (wM X ad (upd (upd (upd (upd (upd (upd F 45 0) 46 0) 48 (F 1)) 65 0) 66 0) 67 0) zR) [(0, .ref (ad 0)), (1, .int x1)] 35 [] := by
    intro N
    induction N with
    | zero => intro i x1 zR hm; exact absurd hm (Nat.not_lt_zero _)
    | succ N ih35 =>
      intro i x1 zR hm hx hi
      refine g_iload_n cx 1 rfl d_X11_begins_35 ?_
      refine g_bipush cx 10 (by decide) d_X11_begins_36 ?_
      refine g_icmp_ge cx 113 d_X11_begins_38 (by decide) (fun zc38 => ?_) (fun zc38 => ?_)
      · exact hret d_X11_begins_113 (Nat.le_of_ble_eq_true rfl) (Nat.le_of_ble_eq_true rfl) ⟨zR, rfl⟩
      · refine g_aload_n cx 0 rfl d_X11_begins_41 ?_
        refine g_get cx cl_X11 fl_X11_89 0 (.ref (ad 27)) d_X11_begins_42 rfl rfl ?_
        refine g_iload_n cx 1 rfl d_X11_begins_45 ?_
        refine g_iconst cx 0 (by decide) d_X11_begins_46 ?_
        refine g_iast cx 27 (wM X ad (upd (upd (upd (upd (upd (upd F 45 0) 46 0) 48 (F 1)) 65 0) 66 0) 67 0) (g_u zR 27 (upd (zR 27) (Int32.toNatClampNeg x1) 0))) d_X11_begins_47 rfl (by rw [hx]; exact vp_in_nI (g_lt10 (n := 10) hx (by omega) zc38) (by decide)) rfl ?_
        refine g_aload_n cx 0 rfl d_X11_begins_48 ?_
        refine g_get cx cl_X11 fl_X11_92 0 (.ref (ad 28)) d_X11_begins_49 rfl rfl ?_
        refine g_iload_n cx 1 rfl d_X11_begins_52 ?_
        refine g_iconst cx 0 (by decide) d_X11_begins_53 ?_
        refine g_iast cx 28 (wM X ad (upd (upd (upd (upd (upd (upd F 45 0) 46 0) 48 (F 1)) 65 0) 66 0) 67 0) (g_u (g_u zR 27 (upd (zR 27) (Int32.toNatClampNeg x1) 0)) 28 (upd (zR 28) (Int32.toNatClampNeg x1) 0))) d_X11_begins_54 rfl (by rw [hx]; exact vp_in_nI (g_lt10 (n := 10) hx (by omega) zc38) (by decide)) rfl ?_
        refine g_aload_n cx 0 rfl d_X11_begins_55 ?_
        refine g_get cx cl_X11 fl_X11_95 0 (.ref (ad 29)) d_X11_begins_56 rfl rfl ?_
        refine g_iload_n cx 1 rfl d_X11_begins_59 ?_
        refine g_aload_n cx 0 rfl d_X11_begins_60 ?_
        refine g_get cx cl_X11 fl_X11_28 0 (.ref (ad 7)) d_X11_begins_61 rfl rfl ?_
        refine g_iload_n cx 1 rfl d_X11_begins_64 ?_
        refine g_iald cx 7 d_X11_begins_65 rfl (by rw [hx]; exact vp_in_nI (g_lt10 (n := 10) hx (by omega) zc38) (by decide)) ?_
        refine g_iast cx 29 (wM X ad (upd (upd (upd (upd (upd (upd F 45 0) 46 0) 48 (F 1)) 65 0) 66 0) 67 0) (g_u (g_u (g_u zR 27 (upd (zR 27) (Int32.toNatClampNeg x1) 0)) 28 (upd (zR 28) (Int32.toNatClampNeg x1) 0)) 29 (upd (zR 29) (Int32.toNatClampNeg x1) ((zR 7) (Int32.toNatClampNeg x1))))) d_X11_begins_66 rfl (by rw [hx]; exact vp_in_nI (g_lt10 (n := 10) hx (by omega) zc38) (by decide)) rfl ?_
        refine g_aload_n cx 0 rfl d_X11_begins_67 ?_
        refine g_get cx cl_X11 fl_X11_101 0 (.ref (ad 31)) d_X11_begins_68 rfl rfl ?_
        refine g_iload_n cx 1 rfl d_X11_begins_71 ?_
        refine g_aload_n cx 0 rfl d_X11_begins_72 ?_
        refine g_get cx cl_X11 fl_X11_19 0 (.ref (ad 4)) d_X11_begins_73 rfl rfl ?_
        refine g_iload_n cx 1 rfl d_X11_begins_76 ?_
        refine g_iald cx 4 d_X11_begins_77 rfl (by rw [hx]; exact vp_in_nI (g_lt10 (n := 10) hx (by omega) zc38) (by decide)) ?_
        refine g_iast cx 31 (wM X ad (upd (upd (upd (upd (upd (upd F 45 0) 46 0) 48 (F 1)) 65 0) 66 0) 67 0) (g_u (g_u (g_u (g_u zR 27 (upd (zR 27) (Int32.toNatClampNeg x1) 0)) 28 (upd (zR 28) (Int32.toNatClampNeg x1) 0)) 29 (upd (zR 29) (Int32.toNatClampNeg x1) ((zR 7) (Int32.toNatClampNeg x1)))) 31 (upd (zR 31) (Int32.toNatClampNeg x1) ((zR 4) (Int32.toNatClampNeg x1))))) d_X11_begins_78 rfl (by rw [hx]; exact vp_in_nI (g_lt10 (n := 10) hx (by omega) zc38) (by decide)) rfl ?_
        refine g_aload_n cx 0 rfl d_X11_begins_79 ?_
        refine g_get cx cl_X11 fl_X11_104 0 (.ref (ad 32)) d_X11_begins_80 rfl rfl ?_
        refine g_iload_n cx 1 rfl d_X11_begins_83 ?_
        refine g_iconst cx 0 (by decide) d_X11_begins_84 ?_
        refine g_iast cx 32 (wM X ad (upd (upd (upd (upd (upd (upd F 45 0) 46 0) 48 (F 1)) 65 0) 66 0) 67 0) (g_u (g_u (g_u (g_u (g_u zR 27 (upd (zR 27) (Int32.toNatClampNeg x1) 0)) 28 (upd (zR 28) (Int32.toNatClampNeg x1) 0)) 29 (upd (zR 29) (Int32.toNatClampNeg x1) ((zR 7) (Int32.toNatClampNeg x1)))) 31 (upd (zR 31) (Int32.toNatClampNeg x1) ((zR 4) (Int32.toNatClampNeg x1)))) 32 (upd (zR 32) (Int32.toNatClampNeg x1) 0))) d_X11_begins_85 rfl (by rw [hx]; exact vp_in_nI (g_lt10 (n := 10) hx (by omega) zc38) (by decide)) rfl ?_
        refine g_aload_n cx 0 rfl d_X11_begins_86 ?_
        refine g_get cx cl_X11 fl_X11_107 0 (.ref (ad 33)) d_X11_begins_87 rfl rfl ?_
        refine g_iload_n cx 1 rfl d_X11_begins_90 ?_
        refine g_iconst cx 0 (by decide) d_X11_begins_91 ?_
        refine g_iast cx 33 (wM X ad (upd (upd (upd (upd (upd (upd F 45 0) 46 0) 48 (F 1)) 65 0) 66 0) 67 0) (g_u (g_u (g_u (g_u (g_u (g_u zR 27 (upd (zR 27) (Int32.toNatClampNeg x1) 0)) 28 (upd (zR 28) (Int32.toNatClampNeg x1) 0)) 29 (upd (zR 29) (Int32.toNatClampNeg x1) ((zR 7) (Int32.toNatClampNeg x1)))) 31 (upd (zR 31) (Int32.toNatClampNeg x1) ((zR 4) (Int32.toNatClampNeg x1)))) 32 (upd (zR 32) (Int32.toNatClampNeg x1) 0)) 33 (upd (zR 33) (Int32.toNatClampNeg x1) 0))) d_X11_begins_92 rfl (by rw [hx]; exact vp_in_nI (g_lt10 (n := 10) hx (by omega) zc38) (by decide)) rfl ?_
        refine g_aload_n cx 0 rfl d_X11_begins_93 ?_
        refine g_get cx cl_X11 fl_X11_110 0 (.ref (ad 34)) d_X11_begins_94 rfl rfl ?_
        refine g_iload_n cx 1 rfl d_X11_begins_97 ?_
        refine g_iconst cx 0 (by decide) d_X11_begins_98 ?_
        refine g_iast cx 34 (wM X ad (upd (upd (upd (upd (upd (upd F 45 0) 46 0) 48 (F 1)) 65 0) 66 0) 67 0) (g_u (g_u (g_u (g_u (g_u (g_u (g_u zR 27 (upd (zR 27) (Int32.toNatClampNeg x1) 0)) 28 (upd (zR 28) (Int32.toNatClampNeg x1) 0)) 29 (upd (zR 29) (Int32.toNatClampNeg x1) ((zR 7) (Int32.toNatClampNeg x1)))) 31 (upd (zR 31) (Int32.toNatClampNeg x1) ((zR 4) (Int32.toNatClampNeg x1)))) 32 (upd (zR 32) (Int32.toNatClampNeg x1) 0)) 33 (upd (zR 33) (Int32.toNatClampNeg x1) 0)) 34 (upd (zR 34) (Int32.toNatClampNeg x1) 0))) d_X11_begins_99 rfl (by rw [hx]; exact vp_in_nI (g_lt10 (n := 10) hx (by omega) zc38) (by decide)) rfl ?_
        refine g_aload_n cx 0 rfl d_X11_begins_100 ?_
        refine g_get cx cl_X11 fl_X11_113 0 (.ref (ad 35)) d_X11_begins_101 rfl rfl ?_
        refine g_iload_n cx 1 rfl d_X11_begins_104 ?_
        refine g_iconst cx 0 (by decide) d_X11_begins_105 ?_
        refine g_iast cx 35 (wM X ad (upd (upd (upd (upd (upd (upd F 45 0) 46 0) 48 (F 1)) 65 0) 66 0) 67 0) (g_u (g_u (g_u (g_u (g_u (g_u (g_u (g_u zR 27 (upd (zR 27) (Int32.toNatClampNeg x1) 0)) 28 (upd (zR 28) (Int32.toNatClampNeg x1) 0)) 29 (upd (zR 29) (Int32.toNatClampNeg x1) ((zR 7) (Int32.toNatClampNeg x1)))) 31 (upd (zR 31) (Int32.toNatClampNeg x1) ((zR 4) (Int32.toNatClampNeg x1)))) 32 (upd (zR 32) (Int32.toNatClampNeg x1) 0)) 33 (upd (zR 33) (Int32.toNatClampNeg x1) 0)) 34 (upd (zR 34) (Int32.toNatClampNeg x1) 0)) 35 (upd (zR 35) (Int32.toNatClampNeg x1) 0))) d_X11_begins_106 rfl (by rw [hx]; exact vp_in_nI (g_lt10 (n := 10) hx (by omega) zc38) (by decide)) rfl ?_
        refine g_iinc cx (x1 + 1) [(1, .int (x1 + 1)), (0, .ref (ad 0))] 1 d_X11_begins_107 rfl (rfl) (by decide) rfl ?_
        refine g_goto cx 35 d_X11_begins_110 (by decide) ?_
        refine g_lsub [1, 0] [(0, .ref (ad 0)), (1, .int (x1 + 1))] rfl ?_
        exact ih35 (i + 1) (x1 + 1) (g_u (g_u (g_u (g_u (g_u (g_u (g_u (g_u zR 27 (upd (zR 27) (Int32.toNatClampNeg x1) 0)) 28 (upd (zR 28) (Int32.toNatClampNeg x1) 0)) 29 (upd (zR 29) (Int32.toNatClampNeg x1) ((zR 7) (Int32.toNatClampNeg x1)))) 31 (upd (zR 31) (Int32.toNatClampNeg x1) ((zR 4) (Int32.toNatClampNeg x1)))) 32 (upd (zR 32) (Int32.toNatClampNeg x1) 0)) 33 (upd (zR 33) (Int32.toNatClampNeg x1) 0)) 34 (upd (zR 34) (Int32.toNatClampNeg x1) 0)) 35 (upd (zR 35) (Int32.toNatClampNeg x1) 0)) (by have := g_lt10 (n := 10) hx (by omega) zc38; omega) (by rw [hx]; exact nI_1 i) (by have := g_lt10 (n := 10) hx (by omega) zc38; omega)
  refine g_lsub [1, 0] [(0, .ref (ad 0)), (1, .int 0)] rfl ?_
  exact L35 _ 0 0 R (Nat.lt_succ_self _) nI_0.symm (by omega)
theorem d_X11_paceNow_0 : g_dc cX11_paceNow 0 (.aload_n 0) 1 1 := ⟨by decide +kernel, rfl⟩
theorem d_X11_paceNow_1 : g_dc cX11_paceNow 1 (.getfield 325) 3 4 := ⟨by decide +kernel, rfl⟩
theorem d_X11_paceNow_4 : g_dc cX11_paceNow 4 (.aload_n 0) 1 5 := ⟨by decide +kernel, rfl⟩
theorem d_X11_paceNow_5 : g_dc cX11_paceNow 5 (.getfield 309) 3 8 := ⟨by decide +kernel, rfl⟩
theorem d_X11_paceNow_8 : g_dc cX11_paceNow 8 (.if_icmp .ge 15) 3 11 := ⟨by decide +kernel, rfl⟩
theorem d_X11_paceNow_11 : g_dc cX11_paceNow 11 (.aload_n 0) 1 12 := ⟨by decide +kernel, rfl⟩
theorem d_X11_paceNow_12 : g_dc cX11_paceNow 12 (.getfield 83) 3 15 := ⟨by decide +kernel, rfl⟩
theorem d_X11_paceNow_15 : g_dc cX11_paceNow 15 (.aload_n 0) 1 16 := ⟨by decide +kernel, rfl⟩
theorem d_X11_paceNow_16 : g_dc cX11_paceNow 16 (.getfield 325) 3 19 := ⟨by decide +kernel, rfl⟩
theorem d_X11_paceNow_19 : g_dc cX11_paceNow 19 (.iaload) 1 20 := ⟨by decide +kernel, rfl⟩
theorem d_X11_paceNow_20 : g_dc cX11_paceNow 20 (.goto 4) 3 23 := ⟨by decide +kernel, rfl⟩
theorem d_X11_paceNow_23 : g_dc cX11_paceNow 23 (.iconst 0) 1 24 := ⟨by decide +kernel, rfl⟩
theorem d_X11_paceNow_24 : g_dc cX11_paceNow 24 (.ireturn) 1 25 := ⟨by decide +kernel, rfl⟩
set_option maxHeartbeats 4000000 in
set_option maxRecDepth 100000 in
theorem c_X11_paceNow (l : Launch) (X : gX) (ad : Nat → Nat) (F : Nat → Int32) (R : Nat → Nat → Int32) (t tk : Nat) (h45 : F 45 = nI t) (h44 : F 44 = nI tk) (ht : t ≤ 60) (h60 : tk ≤ 60) : g_Ci l X yX11_paceNow cX11_paceNow 1 (some .int) 1 0 0 [.ref (ad 0)] (wM X ad F R) (fun r w => w = wM X ad F R ∧ r = r) := by
  refine g_mi (by decide +kernel) (Nat.le_of_ble_eq_true rfl) (fun E cx hret => ?_)
  refine g_aload_n cx 0 rfl d_X11_paceNow_0 ?_
  refine g_get cx cl_X11 fl_X11_325 0 (.int (F 45)) d_X11_paceNow_1 rfl rfl ?_
  refine g_aload_n cx 0 rfl d_X11_paceNow_4 ?_
  refine g_get cx cl_X11 fl_X11_309 0 (.int (F 44)) d_X11_paceNow_5 rfl rfl ?_
  refine g_icmp_ge cx 23 d_X11_paceNow_8 (by decide) (fun zc8 => ?_) (fun zc8 => ?_)
  · refine g_iconst cx 0 (by decide) d_X11_paceNow_23 ?_
    exact hret d_X11_paceNow_24 (Nat.le_of_ble_eq_true rfl) (Nat.le_of_ble_eq_true rfl) rfl (⟨rfl, rfl⟩)
  · refine g_aload_n cx 0 rfl d_X11_paceNow_11 ?_
    refine g_get cx cl_X11 fl_X11_83 0 (.ref (ad 25)) d_X11_paceNow_12 rfl rfl ?_
    refine g_aload_n cx 0 rfl d_X11_paceNow_15 ?_
    refine g_get cx cl_X11 fl_X11_325 0 (.int (F 45)) d_X11_paceNow_16 rfl rfl ?_
    refine g_iald cx 25 d_X11_paceNow_19 rfl (by rw [h45]; exact vp_in_nI (by have := g_lt_of2 h45 h44 (by omega) (by omega) zc8; omega) (by decide)) ?_
    refine g_goto cx 24 d_X11_paceNow_20 (by decide) ?_
    exact hret d_X11_paceNow_24 (Nat.le_of_ble_eq_true rfl) (Nat.le_of_ble_eq_true rfl) rfl (⟨rfl, rfl⟩)
theorem d_X11_slipsNow_0 : g_dc cX11_slipsNow 0 (.aload_n 0) 1 1 := ⟨by decide +kernel, rfl⟩
theorem d_X11_slipsNow_1 : g_dc cX11_slipsNow 1 (.getfield 325) 3 4 := ⟨by decide +kernel, rfl⟩
theorem d_X11_slipsNow_4 : g_dc cX11_slipsNow 4 (.aload_n 0) 1 5 := ⟨by decide +kernel, rfl⟩
theorem d_X11_slipsNow_5 : g_dc cX11_slipsNow 5 (.getfield 309) 3 8 := ⟨by decide +kernel, rfl⟩
theorem d_X11_slipsNow_8 : g_dc cX11_slipsNow 8 (.if_icmp .lt 5) 3 11 := ⟨by decide +kernel, rfl⟩
theorem d_X11_slipsNow_11 : g_dc cX11_slipsNow 11 (.iconst 0) 1 12 := ⟨by decide +kernel, rfl⟩
theorem d_X11_slipsNow_12 : g_dc cX11_slipsNow 12 (.ireturn) 1 13 := ⟨by decide +kernel, rfl⟩
theorem d_X11_slipsNow_13 : g_dc cX11_slipsNow 13 (.aload_n 0) 1 14 := ⟨by decide +kernel, rfl⟩
theorem d_X11_slipsNow_14 : g_dc cX11_slipsNow 14 (.getfield 318) 3 17 := ⟨by decide +kernel, rfl⟩
theorem d_X11_slipsNow_17 : g_dc cX11_slipsNow 17 (.ifCond .ne 16) 3 20 := ⟨by decide +kernel, rfl⟩
theorem d_X11_slipsNow_20 : g_dc cX11_slipsNow 20 (.aload_n 0) 1 21 := ⟨by decide +kernel, rfl⟩
theorem d_X11_slipsNow_21 : g_dc cX11_slipsNow 21 (.getfield 325) 3 24 := ⟨by decide +kernel, rfl⟩
theorem d_X11_slipsNow_24 : g_dc cX11_slipsNow 24 (.aload_n 0) 1 25 := ⟨by decide +kernel, rfl⟩
theorem d_X11_slipsNow_25 : g_dc cX11_slipsNow 25 (.getfield 322) 3 28 := ⟨by decide +kernel, rfl⟩
theorem d_X11_slipsNow_28 : g_dc cX11_slipsNow 28 (.if_icmp .lt 5) 3 31 := ⟨by decide +kernel, rfl⟩
theorem d_X11_slipsNow_31 : g_dc cX11_slipsNow 31 (.iconst 0) 1 32 := ⟨by decide +kernel, rfl⟩
theorem d_X11_slipsNow_32 : g_dc cX11_slipsNow 32 (.ireturn) 1 33 := ⟨by decide +kernel, rfl⟩
set_option maxHeartbeats 4000000 in
set_option maxRecDepth 100000 in
theorem c_X11_slipsNow (l : Launch) (X : gX) (ad : Nat → Nat) (F : Nat → Int32) (R : Nat → Nat → Int32) (h45 : ¬ F 45 < 0) (h49 : F 49 = 0) (h51 : F 51 = 0) : g_Ci l X yX11_slipsNow cX11_slipsNow 3 (some .int) 1 0 0 [.ref (ad 0)] (wM X ad F R) (fun r w => w = wM X ad F R ∧ r = 0) := by
  refine g_mi (by decide +kernel) (Nat.le_of_ble_eq_true rfl) (fun E cx hret => ?_)
  refine g_aload_n cx 0 rfl d_X11_slipsNow_0 ?_
  refine g_get cx cl_X11 fl_X11_325 0 (.int (F 45)) d_X11_slipsNow_1 rfl rfl ?_
  refine g_aload_n cx 0 rfl d_X11_slipsNow_4 ?_
  refine g_get cx cl_X11 fl_X11_309 0 (.int (F 44)) d_X11_slipsNow_5 rfl rfl ?_
  refine g_icmp_lt cx 13 d_X11_slipsNow_8 (by decide) (fun zc8 => ?_) (fun zc8 => ?_)
  · refine g_aload_n cx 0 rfl d_X11_slipsNow_13 ?_
    refine g_get cx cl_X11 fl_X11_318 0 (.int (F 51)) d_X11_slipsNow_14 rfl rfl ?_
    refine g_toi 0 (h51) ?_
    refine g_if_ne_f cx 33 d_X11_slipsNow_17 (by decide) (by decide) ?_
    refine g_aload_n cx 0 rfl d_X11_slipsNow_20 ?_
    refine g_get cx cl_X11 fl_X11_325 0 (.int (F 45)) d_X11_slipsNow_21 rfl rfl ?_
    refine g_aload_n cx 0 rfl d_X11_slipsNow_24 ?_
    refine g_get cx cl_X11 fl_X11_322 0 (.int (F 49)) d_X11_slipsNow_25 rfl rfl ?_
    refine g_toi 0 (h49) ?_
    refine g_icmp_lt_f cx 33 d_X11_slipsNow_28 (by decide) (h45) ?_
    refine g_iconst cx 0 (by decide) d_X11_slipsNow_31 ?_
    exact hret d_X11_slipsNow_32 (Nat.le_of_ble_eq_true rfl) (Nat.le_of_ble_eq_true rfl) rfl (⟨rfl, rfl⟩)
  · refine g_iconst cx 0 (by decide) d_X11_slipsNow_11 ?_
    exact hret d_X11_slipsNow_12 (Nat.le_of_ble_eq_true rfl) (Nat.le_of_ble_eq_true rfl) rfl (⟨rfl, rfl⟩)
theorem d_X11_ticks_0 : g_dc cX11_ticks 0 (.aload_n 0) 1 1 := ⟨by decide +kernel, rfl⟩
theorem d_X11_ticks_1 : g_dc cX11_ticks 1 (.iconst 0) 1 2 := ⟨by decide +kernel, rfl⟩
theorem d_X11_ticks_2 : g_dc cX11_ticks 2 (.aload_n 0) 1 3 := ⟨by decide +kernel, rfl⟩
theorem d_X11_ticks_3 : g_dc cX11_ticks 3 (.invokevirtual 350) 3 6 := ⟨by decide +kernel, rfl⟩
theorem d_X11_ticks_6 : g_dc cX11_ticks 6 (.aload_n 0) 1 7 := ⟨by decide +kernel, rfl⟩
theorem d_X11_ticks_7 : g_dc cX11_ticks 7 (.invokevirtual 380) 3 10 := ⟨by decide +kernel, rfl⟩
theorem d_X11_ticks_10 : g_dc cX11_ticks 10 (.isub) 1 11 := ⟨by decide +kernel, rfl⟩
theorem d_X11_ticks_11 : g_dc cX11_ticks 11 (.invokestatic 371) 3 14 := ⟨by decide +kernel, rfl⟩
theorem d_X11_ticks_14 : g_dc cX11_ticks 14 (.putfield 356) 3 17 := ⟨by decide +kernel, rfl⟩
theorem d_X11_ticks_17 : g_dc cX11_ticks 17 (.aload_n 0) 1 18 := ⟨by decide +kernel, rfl⟩
theorem d_X11_ticks_18 : g_dc cX11_ticks 18 (.iconst 0) 1 19 := ⟨by decide +kernel, rfl⟩
theorem d_X11_ticks_19 : g_dc cX11_ticks 19 (.aload_n 0) 1 20 := ⟨by decide +kernel, rfl⟩
theorem d_X11_ticks_20 : g_dc cX11_ticks 20 (.getfield 331) 3 23 := ⟨by decide +kernel, rfl⟩
theorem d_X11_ticks_23 : g_dc cX11_ticks 23 (.aload_n 0) 1 24 := ⟨by decide +kernel, rfl⟩
theorem d_X11_ticks_24 : g_dc cX11_ticks 24 (.getfield 356) 3 27 := ⟨by decide +kernel, rfl⟩
theorem d_X11_ticks_27 : g_dc cX11_ticks 27 (.isub) 1 28 := ⟨by decide +kernel, rfl⟩
theorem d_X11_ticks_28 : g_dc cX11_ticks 28 (.invokestatic 371) 3 31 := ⟨by decide +kernel, rfl⟩
theorem d_X11_ticks_31 : g_dc cX11_ticks 31 (.putfield 331) 3 34 := ⟨by decide +kernel, rfl⟩
theorem d_X11_ticks_34 : g_dc cX11_ticks 34 (.iconst 0) 1 35 := ⟨by decide +kernel, rfl⟩
theorem d_X11_ticks_35 : g_dc cX11_ticks 35 (.istore_n 1) 1 36 := ⟨by decide +kernel, rfl⟩
theorem d_X11_ticks_36 : g_dc cX11_ticks 36 (.aload_n 0) 1 37 := ⟨by decide +kernel, rfl⟩
theorem d_X11_ticks_37 : g_dc cX11_ticks 37 (.iconst 0) 1 38 := ⟨by decide +kernel, rfl⟩
theorem d_X11_ticks_38 : g_dc cX11_ticks 38 (.putfield 362) 3 41 := ⟨by decide +kernel, rfl⟩
theorem d_X11_ticks_41 : g_dc cX11_ticks 41 (.aload_n 0) 1 42 := ⟨by decide +kernel, rfl⟩
theorem d_X11_ticks_42 : g_dc cX11_ticks 42 (.iconst 0) 1 43 := ⟨by decide +kernel, rfl⟩
theorem d_X11_ticks_43 : g_dc cX11_ticks 43 (.putfield 377) 3 46 := ⟨by decide +kernel, rfl⟩
theorem d_X11_ticks_46 : g_dc cX11_ticks 46 (.iconst 0) 1 47 := ⟨by decide +kernel, rfl⟩
theorem d_X11_ticks_47 : g_dc cX11_ticks 47 (.istore_n 2) 1 48 := ⟨by decide +kernel, rfl⟩
theorem d_X11_ticks_48 : g_dc cX11_ticks 48 (.iload_n 2) 1 49 := ⟨by decide +kernel, rfl⟩
theorem d_X11_ticks_49 : g_dc cX11_ticks 49 (.bipush 10) 2 51 := ⟨by decide +kernel, rfl⟩
theorem d_X11_ticks_51 : g_dc cX11_ticks 51 (.if_icmp .ge 63) 3 54 := ⟨by decide +kernel, rfl⟩
theorem d_X11_ticks_54 : g_dc cX11_ticks 54 (.aload_n 0) 1 55 := ⟨by decide +kernel, rfl⟩
theorem d_X11_ticks_55 : g_dc cX11_ticks 55 (.iload_n 2) 1 56 := ⟨by decide +kernel, rfl⟩
theorem d_X11_ticks_56 : g_dc cX11_ticks 56 (.invokevirtual 343) 3 59 := ⟨by decide +kernel, rfl⟩
theorem d_X11_ticks_59 : g_dc cX11_ticks 59 (.ifCond .ne 6) 3 62 := ⟨by decide +kernel, rfl⟩
theorem d_X11_ticks_62 : g_dc cX11_ticks 62 (.goto 46) 3 65 := ⟨by decide +kernel, rfl⟩
theorem d_X11_ticks_108 : g_dc cX11_ticks 108 (.iinc 2 1) 3 111 := ⟨by decide +kernel, rfl⟩
theorem d_X11_ticks_111 : g_dc cX11_ticks 111 (.goto (-63)) 3 114 := ⟨by decide +kernel, rfl⟩
theorem d_X11_ticks_114 : g_dc cX11_ticks 114 (.iconst 0) 1 115 := ⟨by decide +kernel, rfl⟩
theorem d_X11_ticks_115 : g_dc cX11_ticks 115 (.istore_n 2) 1 116 := ⟨by decide +kernel, rfl⟩
theorem d_X11_ticks_116 : g_dc cX11_ticks 116 (.iload_n 2) 1 117 := ⟨by decide +kernel, rfl⟩
theorem d_X11_ticks_117 : g_dc cX11_ticks 117 (.bipush 10) 2 119 := ⟨by decide +kernel, rfl⟩
theorem d_X11_ticks_119 : g_dc cX11_ticks 119 (.if_icmp .ge 22) 3 122 := ⟨by decide +kernel, rfl⟩
theorem d_X11_ticks_122 : g_dc cX11_ticks 122 (.iload_n 1) 1 123 := ⟨by decide +kernel, rfl⟩
theorem d_X11_ticks_123 : g_dc cX11_ticks 123 (.iload_n 2) 1 124 := ⟨by decide +kernel, rfl⟩
theorem d_X11_ticks_124 : g_dc cX11_ticks 124 (.invokestatic 175) 3 127 := ⟨by decide +kernel, rfl⟩
theorem d_X11_ticks_127 : g_dc cX11_ticks 127 (.ifCond .eq 8) 3 130 := ⟨by decide +kernel, rfl⟩
theorem d_X11_ticks_135 : g_dc cX11_ticks 135 (.iinc 2 1) 3 138 := ⟨by decide +kernel, rfl⟩
theorem d_X11_ticks_138 : g_dc cX11_ticks 138 (.goto (-22)) 3 141 := ⟨by decide +kernel, rfl⟩
theorem d_X11_ticks_141 : g_dc cX11_ticks 141 (.iconst 0) 1 142 := ⟨by decide +kernel, rfl⟩
theorem d_X11_ticks_142 : g_dc cX11_ticks 142 (.istore_n 2) 1 143 := ⟨by decide +kernel, rfl⟩
theorem d_X11_ticks_143 : g_dc cX11_ticks 143 (.iload_n 2) 1 144 := ⟨by decide +kernel, rfl⟩
theorem d_X11_ticks_144 : g_dc cX11_ticks 144 (.bipush 10) 2 146 := ⟨by decide +kernel, rfl⟩
theorem d_X11_ticks_146 : g_dc cX11_ticks 146 (.if_icmp .ge 31) 3 149 := ⟨by decide +kernel, rfl⟩
theorem d_X11_ticks_149 : g_dc cX11_ticks 149 (.iload_n 1) 1 150 := ⟨by decide +kernel, rfl⟩
theorem d_X11_ticks_150 : g_dc cX11_ticks 150 (.iload_n 2) 1 151 := ⟨by decide +kernel, rfl⟩
theorem d_X11_ticks_151 : g_dc cX11_ticks 151 (.invokestatic 175) 3 154 := ⟨by decide +kernel, rfl⟩
theorem d_X11_ticks_154 : g_dc cX11_ticks 154 (.ifCond .eq 17) 3 157 := ⟨by decide +kernel, rfl⟩
theorem d_X11_ticks_171 : g_dc cX11_ticks 171 (.iinc 2 1) 3 174 := ⟨by decide +kernel, rfl⟩
theorem d_X11_ticks_174 : g_dc cX11_ticks 174 (.goto (-31)) 3 177 := ⟨by decide +kernel, rfl⟩
theorem d_X11_ticks_177 : g_dc cX11_ticks 177 (.aload_n 0) 1 178 := ⟨by decide +kernel, rfl⟩
theorem d_X11_ticks_178 : g_dc cX11_ticks 178 (.invokevirtual 389) 3 181 := ⟨by decide +kernel, rfl⟩
theorem d_X11_ticks_181 : g_dc cX11_ticks 181 (.istore_n 2) 1 182 := ⟨by decide +kernel, rfl⟩
theorem d_X11_ticks_182 : g_dc cX11_ticks 182 (.iconst 0) 1 183 := ⟨by decide +kernel, rfl⟩
theorem d_X11_ticks_183 : g_dc cX11_ticks 183 (.istore_n 3) 1 184 := ⟨by decide +kernel, rfl⟩
theorem d_X11_ticks_184 : g_dc cX11_ticks 184 (.iload_n 3) 1 185 := ⟨by decide +kernel, rfl⟩
theorem d_X11_ticks_185 : g_dc cX11_ticks 185 (.iconst 1) 1 186 := ⟨by decide +kernel, rfl⟩
theorem d_X11_ticks_186 : g_dc cX11_ticks 186 (.iadd) 1 187 := ⟨by decide +kernel, rfl⟩
theorem d_X11_ticks_187 : g_dc cX11_ticks 187 (.iload_n 2) 1 188 := ⟨by decide +kernel, rfl⟩
theorem d_X11_ticks_188 : g_dc cX11_ticks 188 (.if_icmp .ge 27) 3 191 := ⟨by decide +kernel, rfl⟩
theorem d_X11_ticks_215 : g_dc cX11_ticks 215 (.iconst 0) 1 216 := ⟨by decide +kernel, rfl⟩
theorem d_X11_ticks_216 : g_dc cX11_ticks 216 (.istore_n 3) 1 217 := ⟨by decide +kernel, rfl⟩
theorem d_X11_ticks_217 : g_dc cX11_ticks 217 (.iload_n 3) 1 218 := ⟨by decide +kernel, rfl⟩
theorem d_X11_ticks_218 : g_dc cX11_ticks 218 (.bipush 10) 2 220 := ⟨by decide +kernel, rfl⟩
theorem d_X11_ticks_220 : g_dc cX11_ticks 220 (.if_icmp .ge 22) 3 223 := ⟨by decide +kernel, rfl⟩
theorem d_X11_ticks_223 : g_dc cX11_ticks 223 (.iload_n 1) 1 224 := ⟨by decide +kernel, rfl⟩
theorem d_X11_ticks_224 : g_dc cX11_ticks 224 (.iload_n 3) 1 225 := ⟨by decide +kernel, rfl⟩
theorem d_X11_ticks_225 : g_dc cX11_ticks 225 (.invokestatic 175) 3 228 := ⟨by decide +kernel, rfl⟩
theorem d_X11_ticks_228 : g_dc cX11_ticks 228 (.ifCond .eq 8) 3 231 := ⟨by decide +kernel, rfl⟩
theorem d_X11_ticks_236 : g_dc cX11_ticks 236 (.iinc 3 1) 3 239 := ⟨by decide +kernel, rfl⟩
theorem d_X11_ticks_239 : g_dc cX11_ticks 239 (.goto (-22)) 3 242 := ⟨by decide +kernel, rfl⟩
theorem d_X11_ticks_242 : g_dc cX11_ticks 242 (.aload_n 0) 1 243 := ⟨by decide +kernel, rfl⟩
theorem d_X11_ticks_243 : g_dc cX11_ticks 243 (.aload_n 0) 1 244 := ⟨by decide +kernel, rfl⟩
theorem d_X11_ticks_244 : g_dc cX11_ticks 244 (.getfield 337) 3 247 := ⟨by decide +kernel, rfl⟩
theorem d_X11_ticks_247 : g_dc cX11_ticks 247 (.aload_n 0) 1 248 := ⟨by decide +kernel, rfl⟩
theorem d_X11_ticks_248 : g_dc cX11_ticks 248 (.getfield 377) 3 251 := ⟨by decide +kernel, rfl⟩
theorem d_X11_ticks_251 : g_dc cX11_ticks 251 (.ior) 1 252 := ⟨by decide +kernel, rfl⟩
theorem d_X11_ticks_252 : g_dc cX11_ticks 252 (.putfield 337) 3 255 := ⟨by decide +kernel, rfl⟩
theorem d_X11_ticks_255 : g_dc cX11_ticks 255 (.aload_n 0) 1 256 := ⟨by decide +kernel, rfl⟩
theorem d_X11_ticks_256 : g_dc cX11_ticks 256 (.aload_n 0) 1 257 := ⟨by decide +kernel, rfl⟩
theorem d_X11_ticks_257 : g_dc cX11_ticks 257 (.getfield 328) 3 260 := ⟨by decide +kernel, rfl⟩
theorem d_X11_ticks_260 : g_dc cX11_ticks 260 (.aload_n 0) 1 261 := ⟨by decide +kernel, rfl⟩
theorem d_X11_ticks_261 : g_dc cX11_ticks 261 (.getfield 356) 3 264 := ⟨by decide +kernel, rfl⟩
theorem d_X11_ticks_264 : g_dc cX11_ticks 264 (.iadd) 1 265 := ⟨by decide +kernel, rfl⟩
theorem d_X11_ticks_265 : g_dc cX11_ticks 265 (.putfield 328) 3 268 := ⟨by decide +kernel, rfl⟩
theorem d_X11_ticks_268 : g_dc cX11_ticks 268 (.aload_n 0) 1 269 := ⟨by decide +kernel, rfl⟩
theorem d_X11_ticks_269 : g_dc cX11_ticks 269 (.aload_n 0) 1 270 := ⟨by decide +kernel, rfl⟩
theorem d_X11_ticks_270 : g_dc cX11_ticks 270 (.getfield 325) 3 273 := ⟨by decide +kernel, rfl⟩
theorem d_X11_ticks_273 : g_dc cX11_ticks 273 (.iconst 1) 1 274 := ⟨by decide +kernel, rfl⟩
theorem d_X11_ticks_274 : g_dc cX11_ticks 274 (.iadd) 1 275 := ⟨by decide +kernel, rfl⟩
theorem d_X11_ticks_275 : g_dc cX11_ticks 275 (.putfield 325) 3 278 := ⟨by decide +kernel, rfl⟩
theorem d_X11_ticks_278 : g_dc cX11_ticks 278 (.return_) 1 279 := ⟨by decide +kernel, rfl⟩
set_option maxHeartbeats 4000000 in
set_option maxRecDepth 100000 in
theorem c_X11_ticks (l : Launch) (X : gX) (ad : Nat → Nat) (F : Nat → Int32) (R : Nat → Nat → Int32) (t tk : Nat) (h45 : F 45 = nI t) (h44 : F 44 = nI tk) (ht : t ≤ 60) (h60 : tk ≤ 60) (h42 : F 42 = 0) (h49 : F 49 = 0) (h51 : F 51 = 0) : g_Cv l X yX11_ticks cX11_ticks 4 4 0 0 [.ref (ad 0)] (wM X ad F R) (fun w => ∃ (F' : Nat → Int32) (R' : Nat → Nat → Int32), w = wM X ad F' R' ∧ P_mt F F') := by
  refine g_mv (by decide +kernel) (Nat.le_of_ble_eq_true rfl) (fun E cx hret => ?_)
  refine g_aload_n cx 0 rfl d_X11_ticks_0 ?_
  refine g_iconst cx 0 (by decide) d_X11_ticks_1 ?_
  refine g_aload_n cx 0 rfl d_X11_ticks_2 ?_
  refine g_cViW cx [] [.int 0, .ref (ad 0)] (c_X11_paceNow l X ad F R t tk h45 h44 ht h60) ml_X11_350 yV_X11_paceNow d_X11_ticks_3 (by unfold g_rr; decide) (by decide) 0 rfl rfl rfl (Nat.le_of_ble_eq_true rfl) (fun r1 w2 h3 => ?_)
  obtain ⟨rfl, -⟩ := h3
  refine g_aload_n cx 0 rfl d_X11_ticks_6 ?_
  refine g_cViW cx [] [.int r1, .int 0, .ref (ad 0)] (c_X11_slipsNow l X ad F R (g_ge0 h45 (by omega)) h49 h51) ml_X11_380 yV_X11_slipsNow d_X11_ticks_7 (by unfold g_rr; decide) (by decide) 0 rfl rfl rfl (Nat.le_of_ble_eq_true rfl) (fun r4 w5 h6 => ?_)
  obtain ⟨rfl, rfl⟩ := h6
  refine g_isub cx d_X11_ticks_10 ?_
  refine g_toi r1 (by simp) ?_
  refine g_cSiW cx [.int 0, .int r1] [.ref (ad 0)] (c_X11_max l X _ 0 r1) ml_X11_371 yS_X11_max rfl d_X11_ticks_11 (by unfold g_rr; decide) (by decide) rfl (Nat.le_of_ble_eq_true rfl) (fun r7 w8 h9 => ?_)
  obtain ⟨rfl, rfl⟩ := h9
  refine g_topi (fun x10 ex10 => ?_)
  refine g_put cx cl_X11 fl_X11_356 0 (wM X ad (upd F 47 x10) R) d_X11_ticks_14 rfl rfl rfl rfl (Nat.le_of_ble_eq_true rfl) rfl ?_
  refine g_aload_n cx 0 rfl d_X11_ticks_17 ?_
  refine g_iconst cx 0 (by decide) d_X11_ticks_18 ?_
  refine g_aload_n cx 0 rfl d_X11_ticks_19 ?_
  refine g_get cx cl_X11 fl_X11_331 0 (.int (F 48)) d_X11_ticks_20 rfl rfl ?_
  refine g_aload_n cx 0 rfl d_X11_ticks_23 ?_
  refine g_get cx cl_X11 fl_X11_356 0 (.int x10) d_X11_ticks_24 rfl rfl ?_
  refine g_isub cx d_X11_ticks_27 ?_
  refine g_cSiW cx [.int 0, .int ((F 48) - x10)] [.ref (ad 0)] (c_X11_max l X _ 0 ((F 48) - x10)) ml_X11_371 yS_X11_max rfl d_X11_ticks_28 (by unfold g_rr; decide) (by decide) rfl (Nat.le_of_ble_eq_true rfl) (fun r11 w12 h13 => ?_)
  obtain ⟨rfl, rfl⟩ := h13
  refine g_topi (fun x14 ex14 => ?_)
  refine g_put cx cl_X11 fl_X11_331 0 (wM X ad (upd (upd F 47 x10) 48 x14) R) d_X11_ticks_31 rfl rfl rfl rfl (Nat.le_of_ble_eq_true rfl) rfl ?_
  refine g_iconst cx 0 (by decide) d_X11_ticks_34 ?_
  refine g_istore_n cx [(1, .int 0), (0, .ref (ad 0))] d_X11_ticks_35 (by decide) rfl ?_
  refine g_aload_n cx 1 rfl d_X11_ticks_36 ?_
  refine g_iconst cx 0 (by decide) d_X11_ticks_37 ?_
  refine g_put cx cl_X11 fl_X11_362 0 (wM X ad (upd (upd (upd F 47 x10) 48 x14) 69 0) R) d_X11_ticks_38 rfl rfl rfl rfl (Nat.le_of_ble_eq_true rfl) rfl ?_
  refine g_aload_n cx 1 rfl d_X11_ticks_41 ?_
  refine g_iconst cx 0 (by decide) d_X11_ticks_42 ?_
  refine g_put cx cl_X11 fl_X11_377 0 (wM X ad (upd (upd (upd (upd F 47 x10) 48 x14) 68 0) 69 0) R) d_X11_ticks_43 rfl rfl rfl rfl (Nat.le_of_ble_eq_true rfl) rfl ?_
  refine g_iconst cx 0 (by decide) d_X11_ticks_46 ?_
  refine g_istore_n cx [(2, .int 0), (1, .int 0), (0, .ref (ad 0))] d_X11_ticks_47 (by decide) rfl ?_
  have L48 : ∀ (N : Nat) (i48 : Nat) (xi48 : Int32), 10 - i48 < N → (xi48 = nI i48) → (i48 ≤ 10) → G X E 4 0 0 (wM X ad (upd (upd (upd (upd F 47 x10) 48 x14) 68 0) 69 0) R) [(2, .int xi48), (1, .int 0), (0, .ref (ad 0))] 48 [] := by
    intro N
    induction N with
    | zero => intro i48 xi48 hm; exact absurd hm (Nat.not_lt_zero _)
    | succ N ih48 =>
      intro i48 xi48 hm hx48 hi48
      refine g_iload_n cx 0 rfl d_X11_ticks_48 ?_
      refine g_bipush cx 10 (by decide) d_X11_ticks_49 ?_
      refine g_icmp_ge cx 114 d_X11_ticks_51 (by decide) (fun zc51 => ?_) (fun zc51 => ?_)
      · refine g_iconst cx 0 (by decide) d_X11_ticks_114 ?_
        refine g_istore_n cx [(2, .int 0), (1, .int 0), (0, .ref (ad 0))] d_X11_ticks_115 (by decide) rfl ?_
        have L116 : ∀ (N : Nat) (i116 : Nat) (xi116 : Int32), 10 - i116 < N → (xi116 = nI i116) → (i116 ≤ 10) → G X E 4 0 0 (wM X ad (upd (upd (upd (upd F 47 x10) 48 x14) 68 0) 69 0) R) [(2, .int xi116), (1, .int 0), (0, .ref (ad 0))] 116 [] := by
          intro N
          induction N with
          | zero => intro i116 xi116 hm; exact absurd hm (Nat.not_lt_zero _)
          | succ N ih116 =>
            intro i116 xi116 hm hx116 hi116
            refine g_iload_n cx 0 rfl d_X11_ticks_116 ?_
            refine g_bipush cx 10 (by decide) d_X11_ticks_117 ?_
            refine g_icmp_ge cx 141 d_X11_ticks_119 (by decide) (fun zc119 => ?_) (fun zc119 => ?_)
            · refine g_iconst cx 0 (by decide) d_X11_ticks_141 ?_
              refine g_istore_n cx [(2, .int 0), (1, .int 0), (0, .ref (ad 0))] d_X11_ticks_142 (by decide) rfl ?_
              have L143 : ∀ (N : Nat) (i143 : Nat) (xi143 : Int32), 10 - i143 < N → (xi143 = nI i143) → (i143 ≤ 10) → G X E 4 0 0 (wM X ad (upd (upd (upd (upd F 47 x10) 48 x14) 68 0) 69 0) R) [(2, .int xi143), (1, .int 0), (0, .ref (ad 0))] 143 [] := by
                intro N
                induction N with
                | zero => intro i143 xi143 hm; exact absurd hm (Nat.not_lt_zero _)
                | succ N ih143 =>
                  intro i143 xi143 hm hx143 hi143
                  refine g_iload_n cx 0 rfl d_X11_ticks_143 ?_
                  refine g_bipush cx 10 (by decide) d_X11_ticks_144 ?_
                  refine g_icmp_ge cx 177 d_X11_ticks_146 (by decide) (fun zc146 => ?_) (fun zc146 => ?_)
                  · refine g_aload_n cx 2 rfl d_X11_ticks_177 ?_
                    refine g_cViW cx [] [] (c_X11_laysOrder l X ad (upd (upd (upd (upd F 47 x10) 48 x14) 68 0) 69 0) R  h42) ml_X11_389 yV_X11_laysOrder d_X11_ticks_178 (by unfold g_rr; decide) (by decide) 0 rfl rfl rfl (Nat.le_of_ble_eq_true rfl) (fun r15 w16 h17 => ?_)
                    obtain ⟨rfl, rfl⟩ := h17
                    refine g_istore_n cx [(2, .int 0), (1, .int 0), (0, .ref (ad 0))] d_X11_ticks_181 (by decide) rfl ?_
                    refine g_iconst cx 0 (by decide) d_X11_ticks_182 ?_
                    refine g_istore_n cx [(3, .int 0), (2, .int 0), (1, .int 0), (0, .ref (ad 0))] d_X11_ticks_183 (by decide) rfl ?_
                    refine g_iload_n cx 0 rfl d_X11_ticks_184 ?_
                    refine g_iconst cx 1 (by decide) d_X11_ticks_185 ?_
                    refine g_iadd cx d_X11_ticks_186 ?_
                    refine g_toi 1 (by decide) ?_
                    refine g_iload_n cx 1 rfl d_X11_ticks_187 ?_
                    refine g_icmp_ge_t cx 215 d_X11_ticks_188 (by decide) (by decide) ?_
                    refine g_iconst cx 0 (by decide) d_X11_ticks_215 ?_
                    refine g_istore_n cx [(3, .int 0), (2, .int 0), (1, .int 0), (0, .ref (ad 0))] d_X11_ticks_216 (by decide) rfl ?_
                    have L217 : ∀ (N : Nat) (i217 : Nat) (xi217 : Int32), 10 - i217 < N → (xi217 = nI i217) → (i217 ≤ 10) → G X E 4 0 0 (wM X ad (upd (upd (upd (upd F 47 x10) 48 x14) 68 0) 69 0) R) [(3, .int xi217), (2, .int 0), (1, .int 0), (0, .ref (ad 0))] 217 [] := by
                      intro N
                      induction N with
                      | zero => intro i217 xi217 hm; exact absurd hm (Nat.not_lt_zero _)
                      | succ N ih217 =>
                        intro i217 xi217 hm hx217 hi217
                        refine g_iload_n cx 0 rfl d_X11_ticks_217 ?_
                        refine g_bipush cx 10 (by decide) d_X11_ticks_218 ?_
                        refine g_icmp_ge cx 242 d_X11_ticks_220 (by decide) (fun zc220 => ?_) (fun zc220 => ?_)
                        · refine g_aload_n cx 3 rfl d_X11_ticks_242 ?_
                          refine g_aload_n cx 3 rfl d_X11_ticks_243 ?_
                          refine g_get cx cl_X11 fl_X11_337 0 (.int (F 66)) d_X11_ticks_244 rfl rfl ?_
                          refine g_aload_n cx 3 rfl d_X11_ticks_247 ?_
                          refine g_get cx cl_X11 fl_X11_377 0 (.int 0) d_X11_ticks_248 rfl rfl ?_
                          refine g_ior cx d_X11_ticks_251 ?_
                          refine g_toi (F 66) (by simp) ?_
                          refine g_put cx cl_X11 fl_X11_337 0 (wM X ad (upd (upd (upd (upd (upd F 47 x10) 48 x14) 66 (F 66)) 68 0) 69 0) R) d_X11_ticks_252 rfl rfl rfl rfl (Nat.le_of_ble_eq_true rfl) rfl ?_
                          refine g_aload_n cx 3 rfl d_X11_ticks_255 ?_
                          refine g_aload_n cx 3 rfl d_X11_ticks_256 ?_
                          refine g_get cx cl_X11 fl_X11_328 0 (.int (F 46)) d_X11_ticks_257 rfl rfl ?_
                          refine g_aload_n cx 3 rfl d_X11_ticks_260 ?_
                          refine g_get cx cl_X11 fl_X11_356 0 (.int x10) d_X11_ticks_261 rfl rfl ?_
                          refine g_iadd cx d_X11_ticks_264 ?_
                          refine g_put cx cl_X11 fl_X11_328 0 (wM X ad (upd (upd (upd (upd (upd (upd F 46 ((F 46) + x10)) 47 x10) 48 x14) 66 (F 66)) 68 0) 69 0) R) d_X11_ticks_265 rfl rfl rfl rfl (Nat.le_of_ble_eq_true rfl) rfl ?_
                          refine g_aload_n cx 3 rfl d_X11_ticks_268 ?_
                          refine g_aload_n cx 3 rfl d_X11_ticks_269 ?_
                          refine g_get cx cl_X11 fl_X11_325 0 (.int (F 45)) d_X11_ticks_270 rfl rfl ?_
                          refine g_iconst cx 1 (by decide) d_X11_ticks_273 ?_
                          refine g_iadd cx d_X11_ticks_274 ?_
                          refine g_put cx cl_X11 fl_X11_325 0 (wM X ad (upd (upd (upd (upd (upd (upd (upd F 45 ((F 45) + 1)) 46 ((F 46) + x10)) 47 x10) 48 x14) 66 (F 66)) 68 0) 69 0) R) d_X11_ticks_275 rfl rfl rfl rfl (Nat.le_of_ble_eq_true rfl) rfl ?_
                          exact hret d_X11_ticks_278 (Nat.le_of_ble_eq_true rfl) (Nat.le_of_ble_eq_true rfl) ⟨(upd (upd (upd (upd (upd (upd (upd F 45 ((F 45) + 1)) 46 ((F 46) + x10)) 47 x10) 48 x14) 66 (F 66)) 68 0) 69 0), R, rfl, ⟨(by intro k hk; simp only [upd]; repeat rw [if_neg (by omega)]), rfl⟩⟩
                        · refine g_iload_n cx 2 rfl d_X11_ticks_223 ?_
                          refine g_iload_n cx 0 rfl d_X11_ticks_224 ?_
                          refine g_cSiW cx [.int 0, .int xi217] [] (c_X11_has l X _ 0 xi217) ml_X11_175 yS_X11_has rfl d_X11_ticks_225 (by unfold g_rr; decide) (by decide) rfl (Nat.le_of_ble_eq_true rfl) (fun r18 w19 h20 => ?_)
                          obtain ⟨rfl, rfl⟩ := h20
                          refine g_toi 0 (g_mh0 _) ?_
                          refine g_if_eq_t cx 236 d_X11_ticks_228 (by decide) (by decide) ?_
                          refine g_iinc cx (xi217 + 1) [(3, .int (xi217 + 1)), (2, .int 0), (1, .int 0), (0, .ref (ad 0))] 0 d_X11_ticks_236 rfl (rfl) (by decide) rfl ?_
                          refine g_goto cx 217 d_X11_ticks_239 (by decide) ?_
                          exact ih217 (i217 + 1) (xi217 + 1) (by have := g_lt10 (n := 10) hx217 (by omega) zc220; omega) (by rw [hx217]; exact nI_1 i217) (by have := g_lt10 (n := 10) hx217 (by omega) zc220; omega)
                    exact L217 _ 0 0 (Nat.lt_succ_self _) nI_0.symm (by omega)
                  · refine g_iload_n cx 1 rfl d_X11_ticks_149 ?_
                    refine g_iload_n cx 0 rfl d_X11_ticks_150 ?_
                    refine g_cSiW cx [.int 0, .int xi143] [] (c_X11_has l X _ 0 xi143) ml_X11_175 yS_X11_has rfl d_X11_ticks_151 (by unfold g_rr; decide) (by decide) rfl (Nat.le_of_ble_eq_true rfl) (fun r21 w22 h23 => ?_)
                    obtain ⟨rfl, rfl⟩ := h23
                    refine g_toi 0 (g_mh0 _) ?_
                    refine g_if_eq_t cx 171 d_X11_ticks_154 (by decide) (by decide) ?_
                    refine g_iinc cx (xi143 + 1) [(2, .int (xi143 + 1)), (1, .int 0), (0, .ref (ad 0))] 0 d_X11_ticks_171 rfl (rfl) (by decide) rfl ?_
                    refine g_goto cx 143 d_X11_ticks_174 (by decide) ?_
                    exact ih143 (i143 + 1) (xi143 + 1) (by have := g_lt10 (n := 10) hx143 (by omega) zc146; omega) (by rw [hx143]; exact nI_1 i143) (by have := g_lt10 (n := 10) hx143 (by omega) zc146; omega)
              exact L143 _ 0 0 (Nat.lt_succ_self _) nI_0.symm (by omega)
            · refine g_iload_n cx 1 rfl d_X11_ticks_122 ?_
              refine g_iload_n cx 0 rfl d_X11_ticks_123 ?_
              refine g_cSiW cx [.int 0, .int xi116] [] (c_X11_has l X _ 0 xi116) ml_X11_175 yS_X11_has rfl d_X11_ticks_124 (by unfold g_rr; decide) (by decide) rfl (Nat.le_of_ble_eq_true rfl) (fun r24 w25 h26 => ?_)
              obtain ⟨rfl, rfl⟩ := h26
              refine g_toi 0 (g_mh0 _) ?_
              refine g_if_eq_t cx 135 d_X11_ticks_127 (by decide) (by decide) ?_
              refine g_iinc cx (xi116 + 1) [(2, .int (xi116 + 1)), (1, .int 0), (0, .ref (ad 0))] 0 d_X11_ticks_135 rfl (rfl) (by decide) rfl ?_
              refine g_goto cx 116 d_X11_ticks_138 (by decide) ?_
              exact ih116 (i116 + 1) (xi116 + 1) (by have := g_lt10 (n := 10) hx116 (by omega) zc119; omega) (by rw [hx116]; exact nI_1 i116) (by have := g_lt10 (n := 10) hx116 (by omega) zc119; omega)
        exact L116 _ 0 0 (Nat.lt_succ_self _) nI_0.symm (by omega)
      · refine g_aload_n cx 2 rfl d_X11_ticks_54 ?_
        refine g_iload_n cx 0 rfl d_X11_ticks_55 ?_
        refine g_cViW cx [.int xi48] [] (c_X11_stands l X ad (upd (upd (upd (upd F 47 x10) 48 x14) 68 0) 69 0) R xi48 h42) ml_X11_343 yV_X11_stands d_X11_ticks_56 (by unfold g_rr; decide) (by decide) 0 rfl rfl rfl (Nat.le_of_ble_eq_true rfl) (fun r27 w28 h29 => ?_)
        obtain ⟨rfl, rfl⟩ := h29
        refine g_if_ne_f cx 65 d_X11_ticks_59 (by decide) (by decide) ?_
        refine g_goto cx 108 d_X11_ticks_62 (by decide) ?_
        refine g_iinc cx (xi48 + 1) [(2, .int (xi48 + 1)), (1, .int 0), (0, .ref (ad 0))] 0 d_X11_ticks_108 rfl (rfl) (by decide) rfl ?_
        refine g_goto cx 48 d_X11_ticks_111 (by decide) ?_
        exact ih48 (i48 + 1) (xi48 + 1) (by have := g_lt10 (n := 10) hx48 (by omega) zc51; omega) (by rw [hx48]; exact nI_1 i48) (by have := g_lt10 (n := 10) hx48 (by omega) zc51; omega)
  exact L48 _ 0 0 (Nat.lt_succ_self _) nI_0.symm (by omega)
