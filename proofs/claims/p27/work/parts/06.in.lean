def g_in (v a b : Int32) : Int32 := if a ≤ v ∧ v ≤ b then 1 else 0
theorem g_in_a {v a b : Int32} (h : v < a) : 0 = g_in v a b := by
  unfold g_in; rw [if_neg (fun q => Int32.not_le.mpr h q.1)]
theorem g_in_b {v a b : Int32} (h : b < v) : 0 = g_in v a b := by
  unfold g_in; rw [if_neg (fun q => Int32.not_le.mpr h q.2)]
theorem g_in_c {v a b : Int32} (h1 : ¬ v < a) (h2 : ¬ b < v) : 1 = g_in v a b := by
  unfold g_in; rw [if_pos ⟨Int32.not_lt.mp h1, Int32.not_lt.mp h2⟩]
theorem g_in_01 (v a b : Int32) : g_in v a b = 0 ∨ g_in v a b = 1 := by
  unfold g_in; split
  · exact Or.inr rfl
  · exact Or.inl rfl
def g_u (R : Nat → Nat → Int32) (k : Nat) (f : Nat → Int32) : Nat → Nat → Int32 := fun j => if j = k then f else R j

theorem d_X10_within_0 : g_dc cX10_within 0 (.iload_n 0) 1 1 := ⟨by decide +kernel, rfl⟩
theorem d_X10_within_1 : g_dc cX10_within 1 (.iload_n 1) 1 2 := ⟨by decide +kernel, rfl⟩
theorem d_X10_within_2 : g_dc cX10_within 2 (.if_icmp .lt 12) 3 5 := ⟨by decide +kernel, rfl⟩
theorem d_X10_within_5 : g_dc cX10_within 5 (.iload_n 0) 1 6 := ⟨by decide +kernel, rfl⟩
theorem d_X10_within_6 : g_dc cX10_within 6 (.iload_n 2) 1 7 := ⟨by decide +kernel, rfl⟩
theorem d_X10_within_7 : g_dc cX10_within 7 (.if_icmp .gt 7) 3 10 := ⟨by decide +kernel, rfl⟩
theorem d_X10_within_10 : g_dc cX10_within 10 (.iconst 1) 1 11 := ⟨by decide +kernel, rfl⟩
theorem d_X10_within_11 : g_dc cX10_within 11 (.goto 4) 3 14 := ⟨by decide +kernel, rfl⟩
theorem d_X10_within_14 : g_dc cX10_within 14 (.iconst 0) 1 15 := ⟨by decide +kernel, rfl⟩
theorem d_X10_within_15 : g_dc cX10_within 15 (.ireturn) 1 16 := ⟨by decide +kernel, rfl⟩
set_option maxHeartbeats 4000000 in
set_option maxRecDepth 100000 in
theorem c_X10_within (l : Launch) (X : gX) (ws : va_W) (v a b : Int32) : g_Ci l X yX10_within cX10_within 3 (some .boolean) 1 0 0 [.int v, .int a, .int b] ws (fun r w => w = ws ∧ r = g_in v a b) := by
  refine g_mi (by decide +kernel) (Nat.le_of_ble_eq_true rfl) (fun E cx hret => ?_)
  refine g_iload_n cx 0 rfl d_X10_within_0 ?_
  refine g_iload_n cx 1 rfl d_X10_within_1 ?_
  refine g_icmp_lt cx 14 d_X10_within_2 (by decide) (fun zc2 => ?_) (fun zc2 => ?_)
  · refine g_iconst cx 0 (by decide) d_X10_within_14 ?_
    exact hret d_X10_within_15 (Nat.le_of_ble_eq_true rfl) (Nat.le_of_ble_eq_true rfl) rfl ⟨rfl, by first | exact g_in_a (by assumption) | exact g_in_b (by assumption) | exact g_in_c (by assumption) (by assumption)⟩
  · refine g_iload_n cx 0 rfl d_X10_within_5 ?_
    refine g_iload_n cx 2 rfl d_X10_within_6 ?_
    refine g_icmp_gt cx 14 d_X10_within_7 (by decide) (fun zc7 => ?_) (fun zc7 => ?_)
    · refine g_iconst cx 0 (by decide) d_X10_within_14 ?_
      exact hret d_X10_within_15 (Nat.le_of_ble_eq_true rfl) (Nat.le_of_ble_eq_true rfl) rfl ⟨rfl, by first | exact g_in_a (by assumption) | exact g_in_b (by assumption) | exact g_in_c (by assumption) (by assumption)⟩
    · refine g_iconst cx 1 (by decide) d_X10_within_10 ?_
      refine g_goto cx 15 d_X10_within_11 (by decide) ?_
      exact hret d_X10_within_15 (Nat.le_of_ble_eq_true rfl) (Nat.le_of_ble_eq_true rfl) rfl ⟨rfl, by first | exact g_in_a (by assumption) | exact g_in_b (by assumption) | exact g_in_c (by assumption) (by assumption)⟩
theorem d_X11_in_0 : g_dc cX11_in 0 (.iload_n 0) 1 1 := ⟨by decide +kernel, rfl⟩
theorem d_X11_in_1 : g_dc cX11_in 1 (.iload_n 1) 1 2 := ⟨by decide +kernel, rfl⟩
theorem d_X11_in_2 : g_dc cX11_in 2 (.if_icmp .lt 12) 3 5 := ⟨by decide +kernel, rfl⟩
theorem d_X11_in_5 : g_dc cX11_in 5 (.iload_n 0) 1 6 := ⟨by decide +kernel, rfl⟩
theorem d_X11_in_6 : g_dc cX11_in 6 (.iload_n 2) 1 7 := ⟨by decide +kernel, rfl⟩
theorem d_X11_in_7 : g_dc cX11_in 7 (.if_icmp .gt 7) 3 10 := ⟨by decide +kernel, rfl⟩
theorem d_X11_in_10 : g_dc cX11_in 10 (.iconst 1) 1 11 := ⟨by decide +kernel, rfl⟩
theorem d_X11_in_11 : g_dc cX11_in 11 (.goto 4) 3 14 := ⟨by decide +kernel, rfl⟩
theorem d_X11_in_14 : g_dc cX11_in 14 (.iconst 0) 1 15 := ⟨by decide +kernel, rfl⟩
theorem d_X11_in_15 : g_dc cX11_in 15 (.ireturn) 1 16 := ⟨by decide +kernel, rfl⟩
set_option maxHeartbeats 4000000 in
set_option maxRecDepth 100000 in
theorem c_X11_in (l : Launch) (X : gX) (ws : va_W) (v a b : Int32) : g_Ci l X yX11_in cX11_in 3 (some .boolean) 1 0 0 [.int v, .int a, .int b] ws (fun r w => w = ws ∧ r = g_in v a b) := by
  refine g_mi (by decide +kernel) (Nat.le_of_ble_eq_true rfl) (fun E cx hret => ?_)
  refine g_iload_n cx 0 rfl d_X11_in_0 ?_
  refine g_iload_n cx 1 rfl d_X11_in_1 ?_
  refine g_icmp_lt cx 14 d_X11_in_2 (by decide) (fun zc2 => ?_) (fun zc2 => ?_)
  · refine g_iconst cx 0 (by decide) d_X11_in_14 ?_
    exact hret d_X11_in_15 (Nat.le_of_ble_eq_true rfl) (Nat.le_of_ble_eq_true rfl) rfl ⟨rfl, by first | exact g_in_a (by assumption) | exact g_in_b (by assumption) | exact g_in_c (by assumption) (by assumption)⟩
  · refine g_iload_n cx 0 rfl d_X11_in_5 ?_
    refine g_iload_n cx 2 rfl d_X11_in_6 ?_
    refine g_icmp_gt cx 14 d_X11_in_7 (by decide) (fun zc7 => ?_) (fun zc7 => ?_)
    · refine g_iconst cx 0 (by decide) d_X11_in_14 ?_
      exact hret d_X11_in_15 (Nat.le_of_ble_eq_true rfl) (Nat.le_of_ble_eq_true rfl) rfl ⟨rfl, by first | exact g_in_a (by assumption) | exact g_in_b (by assumption) | exact g_in_c (by assumption) (by assumption)⟩
    · refine g_iconst cx 1 (by decide) d_X11_in_10 ?_
      refine g_goto cx 15 d_X11_in_11 (by decide) ?_
      exact hret d_X11_in_15 (Nat.le_of_ble_eq_true rfl) (Nat.le_of_ble_eq_true rfl) rfl ⟨rfl, by first | exact g_in_a (by assumption) | exact g_in_b (by assumption) | exact g_in_c (by assumption) (by assumption)⟩
