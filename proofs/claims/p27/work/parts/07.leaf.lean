/-- the class: every object and row that it makes, its ints F (16 places an object), its rows R -/
def wX (X : gX) (ad : Nat → Nat) (F : Nat → Int32) (R : Nat → Nat → Int32) : va_W := [(ad 0, .inr (10, [.ref (ad 1), .ref (ad 3), .ref (ad 9), .ref (ad 11), .ref (ad 13), .ref (ad 17), .ref (ad 25), .ref (ad 33), .ref (ad 35), .ref (ad 37), .ref (ad 47), .int (F 11), .int (F 12)])), (ad 1, .inr (8, [.int (F 16), .int (F 17), .int (F 18), .int (F 19), .int (F 20), .ref (ad 2)])), (ad 2, .inl (X.2.1, 80, .inl (R 2))), (ad 3, .inr (8, [.int (F 48), .int (F 49), .int (F 50), .int (F 51), .int (F 52), .ref (ad 4)])), (ad 4, .inl (X.2.1, 80, .inl (R 4))), (ad 5, .inr (8, [.int (F 80), .int (F 81), .int (F 82), .int (F 83), .int (F 84), .ref (ad 6)])), (ad 6, .inl (X.2.1, 80, .inl (R 6))), (ad 7, .inr (8, [.int (F 112), .int (F 113), .int (F 114), .int (F 115), .int (F 116), .ref (ad 8)])), (ad 8, .inl (X.2.1, 80, .inl (R 8))), (ad 9, .inr (9, [.ref (ad 10), .int (F 145)])), (ad 10, .inl (X.2.1, 220, .inl (R 10))), (ad 11, .inr (5, [.ref (ad 12), .int (F 177)])), (ad 12, .inl (X.2.1, 60, .inl (R 12))), (ad 13, .inr (5, [.ref (ad 14), .int (F 209)])), (ad 14, .inl (X.2.1, 60, .inl (R 14))), (ad 15, .inr (5, [.ref (ad 16), .int (F 241)])), (ad 16, .inl (X.2.1, 60, .inl (R 16))), (ad 17, .inr (2, [.ref (ad 18), .ref (ad 19), .int (F 274), .ref (ad 20), .ref (ad 21), .ref (ad 22), .int (F 278), .ref (ad 23), .ref (ad 24)])), (ad 18, .inl (X.2.1, 256, .inl (R 18))), (ad 19, .inl (X.2.1, 256, .inl (R 19))), (ad 20, .inl (X.2.1, 14, .inl (R 20))), (ad 21, .inl (X.2.1, 14, .inl (R 21))), (ad 22, .inl (X.2.1, 14, .inl (R 22))), (ad 23, .inl (X.2.1, 12, .inl (R 23))), (ad 24, .inl (X.2.1, 32, .inl (R 24))), (ad 25, .inr (2, [.ref (ad 26), .ref (ad 27), .int (F 402), .ref (ad 28), .ref (ad 29), .ref (ad 30), .int (F 406), .ref (ad 31), .ref (ad 32)])), (ad 26, .inl (X.2.1, 256, .inl (R 26))), (ad 27, .inl (X.2.1, 256, .inl (R 27))), (ad 28, .inl (X.2.1, 14, .inl (R 28))), (ad 29, .inl (X.2.1, 14, .inl (R 29))), (ad 30, .inl (X.2.1, 14, .inl (R 30))), (ad 31, .inl (X.2.1, 12, .inl (R 31))), (ad 32, .inl (X.2.1, 32, .inl (R 32))), (ad 33, .inr (3, [.ref (ad 25), .ref (ad 34), .int (F 530), .int (F 531), .int (F 532)])), (ad 34, .inl (X.2.1, 200, .inl (R 34))), (ad 35, .inr (7, [.ref (ad 37), .ref (ad 5), .ref (ad 15), .ref (ad 43), .int (F 564), .int (F 565), .int (F 566), .int (F 567), .int (F 568), .ref (ad 36), .ref (ad 7), .int (F 571)])), (ad 36, .inl (X.2.1, 5, .inl (R 36))), (ad 37, .inr (0, [.ref (ad 5), .ref (ad 15), .ref (ad 42), .ref (ad 43), .ref (ad 17), .ref (ad 38), .ref (ad 39), .ref (ad 40), .ref (ad 41), .int (F 601), .int (F 602), .int (F 603), .int (F 604), .int (F 605), .int (F 606)])), (ad 38, .inl (X.2.1, 10, .inl (R 38))), (ad 39, .inl (X.2.1, 10, .inl (R 39))), (ad 40, .inl (X.2.1, 10, .inl (R 40))), (ad 41, .inl (X.2.1, 6, .inl (R 41))), (ad 42, .inr (1, [.int (F 672), .int (F 673), .int (F 674), .int (F 675)])), (ad 43, .inr (4, [.ref (ad 44), .ref (ad 45), .ref (ad 46), .int (F 691), .int (F 692), .int (F 693), .int (F 694), .int (F 695), .int (F 696), .int (F 697), .int (F 698)])), (ad 44, .inl (X.2.1, 10, .inl (R 44))), (ad 45, .inl (X.2.1, 10, .inl (R 45))), (ad 46, .inl (X.2.1, 30, .inl (R 46))), (ad 47, .inr (6, [.ref (ad 48), .ref (ad 49), .ref (ad 50), .int (F 755)])), (ad 48, .inl (X.2.1, 5, .inl (R 48))), (ad 49, .inl (X.2.1, 5, .inl (R 49))), (ad 50, .inl (X.2.1, 5, .inl (R 50)))]
/-- the reference: its object, its rows -/
def wM (X : gX) (ad : Nat → Nat) (F : Nat → Int32) (R : Nat → Nat → Int32) : va_W := [(ad 0, .inr (11, [.int (F 0), .int (F 1), .int (F 2), .int (F 3), .int (F 4), .ref (ad 1), .ref (ad 2), .ref (ad 3), .ref (ad 4), .ref (ad 5), .ref (ad 6), .ref (ad 7), .ref (ad 8), .ref (ad 9), .int (F 14), .int (F 15), .int (F 16), .int (F 17), .int (F 18), .int (F 19), .int (F 20), .int (F 21), .ref (ad 10), .ref (ad 11), .int (F 24), .int (F 25), .int (F 26), .int (F 27), .int (F 28), .ref (ad 12), .ref (ad 13), .ref (ad 14), .ref (ad 15), .ref (ad 16), .ref (ad 17), .ref (ad 18), .ref (ad 19), .ref (ad 20), .ref (ad 21), .ref (ad 22), .ref (ad 23), .ref (ad 24), .int (F 42), .int (F 43), .int (F 44), .int (F 45), .int (F 46), .int (F 47), .int (F 48), .int (F 49), .int (F 50), .int (F 51), .ref (ad 25), .ref (ad 26), .ref (ad 27), .ref (ad 28), .ref (ad 29), .ref (ad 30), .ref (ad 31), .ref (ad 32), .ref (ad 33), .ref (ad 34), .ref (ad 35), .ref (ad 36), .ref (ad 37), .int (F 65), .int (F 66), .int (F 67), .int (F 68), .int (F 69), .int (F 70), .int (F 71), .int (F 72), .ref (ad 38), .ref (ad 39), .int (F 75), .ref (ad 40), .int (F 77), .int (F 78), .int (F 79), .int (F 80), .int (F 81), .int (F 82), .ref (ad 41), .ref (ad 42), .ref (ad 43), .ref (ad 44), .ref (ad 45), .ref (ad 46), .ref (ad 47), .ref (ad 48)])), (ad 1, .inl (X.2.1, 10, .inl (R 1))), (ad 2, .inl (X.2.1, 10, .inl (R 2))), (ad 3, .inl (X.2.1, 10, .inl (R 3))), (ad 4, .inl (X.2.1, 10, .inl (R 4))), (ad 5, .inl (X.2.1, 10, .inl (R 5))), (ad 6, .inl (X.2.1, 10, .inl (R 6))), (ad 7, .inl (X.2.1, 10, .inl (R 7))), (ad 8, .inl (X.2.1, 10, .inl (R 8))), (ad 9, .inl (X.2.2, 220, .inl (R 9))), (ad 10, .inl (X.2.1, 60, .inl (R 10))), (ad 11, .inl (X.2.1, 60, .inl (R 11))), (ad 12, .inl (X.2.1, 220, .inl (R 12))), (ad 13, .inl (X.2.1, 220, .inl (R 13))), (ad 14, .inl (X.2.1, 14, .inl (R 14))), (ad 15, .inl (X.2.1, 14, .inl (R 15))), (ad 16, .inl (X.2.1, 14, .inl (R 16))), (ad 17, .inl (X.2.1, 14, .inl (R 17))), (ad 18, .inl (X.2.1, 220, .inl (R 18))), (ad 19, .inl (X.2.1, 14, .inl (R 19))), (ad 20, .inl (X.2.1, 14, .inl (R 20))), (ad 21, .inl (X.2.1, 14, .inl (R 21))), (ad 22, .inl (X.2.1, 14, .inl (R 22))), (ad 23, .inl (X.2.1, 220, .inl (R 23))), (ad 24, .inl (X.2.1, 12, .inl (R 24))), (ad 25, .inl (X.2.1, 60, .inl (R 25))), (ad 26, .inl (X.2.1, 10, .inl (R 26))), (ad 27, .inl (X.2.1, 10, .inl (R 27))), (ad 28, .inl (X.2.1, 10, .inl (R 28))), (ad 29, .inl (X.2.1, 10, .inl (R 29))), (ad 30, .inl (X.2.1, 10, .inl (R 30))), (ad 31, .inl (X.2.1, 10, .inl (R 31))), (ad 32, .inl (X.2.1, 10, .inl (R 32))), (ad 33, .inl (X.2.1, 10, .inl (R 33))), (ad 34, .inl (X.2.1, 10, .inl (R 34))), (ad 35, .inl (X.2.1, 10, .inl (R 35))), (ad 36, .inl (X.2.1, 10, .inl (R 36))), (ad 37, .inl (X.2.1, 10, .inl (R 37))), (ad 38, .inl (X.2.1, 5, .inl (R 38))), (ad 39, .inl (X.2.1, 5, .inl (R 39))), (ad 40, .inl (X.2.1, 10, .inl (R 40))), (ad 41, .inl (X.2.1, 10, .inl (R 41))), (ad 42, .inl (X.2.1, 10, .inl (R 42))), (ad 43, .inl (X.2.1, 10, .inl (R 43))), (ad 44, .inl (X.2.1, 10, .inl (R 44))), (ad 45, .inl (X.2.1, 10, .inl (R 45))), (ad 46, .inl (X.2.1, 10, .inl (R 46))), (ad 47, .inl (X.2.1, 10, .inl (R 47))), (ad 48, .inl (X.2.1, 10, .inl (R 48)))]
/-- the numbers of a new object, of the class and of the reference -/
def fX0 : Nat → Int32 := fun j => match j with
  | 16 => 100 | 17 => 100 | 20 => 1 | 48 => 100 | 49 => 100 | 52 => 1 | 80 => 100 | 81 => 100 | 84 => 1 | 112 => 100 | 113 => 100 | 116 => 1 | 571 => -1 | 673 => 1
  | _ => 0
def fM0 : Nat → Int32 := fun j => match j with
  | 0 => 100 | 1 => 100 | 3 => 1
  | _ => 0
def r0 : Nat → Nat → Int32 := fun _ _ => 0
theorem yS_J6_bitCount_0f7a4 : g_yS yJ6_bitCount_0f7a4 cJ6_bitCount_0f7a4 1 (some .int) 1 := ⟨g_w 895 (by decide +kernel) rfl, g_w 112 (by decide +kernel) rfl, g_w 896 (by decide +kernel) rfl, by decide +kernel, by decide +kernel, by decide +kernel⟩
theorem g_i0 (x : Int32) : x &&& 0 = 0 := Int32.and_zero
theorem nI_i (n : Nat) : Int32.ofNat n = nI n := rfl
theorem g_inj {v M : Int32} {m : Nat} (h : ¬ g_in v 0 M = 0) (hM : M.toInt = m) : ∃ j : Nat, j ≤ m ∧ v = nI j := by
  unfold g_in at h
  split at h
  · rename_i h1
    exact nI_of2 hM (Int32.not_lt.mpr h1.1) h1.2
  · exact absurd rfl h
def g_has (told i : Int32) : Int32 := if g_in i 0 9 = 0 then 0 else if told &&& (1 <<< (i &&& 31)) = 0 then 0 else 1
def g_side (f : Nat → Int32) (i what : Int32) : Int32 := if g_in i 0 9 = 0 then 0 else if g_in what 0 7 = 0 then 0 else f (i * 8 + what).toNatClampNeg
def g_hf (len e folds q : Int32) : Int32 := if g_in q 0 5 = 0 then 0 else if folds &&& (1 <<< (q &&& 31)) = 0 then 0 else if q * len / 6 < e then 1 else 0
theorem g_side_in {i what : Int32} (h1 : ¬ g_in i 0 9 = 0) (h2 : ¬ g_in what 0 7 = 0) : vp_in (i * 8 + what) 80 := by
  obtain ⟨a, ha, rfl⟩ := g_inj (m := 9) h1 (by decide)
  obtain ⟨b, hb, rfl⟩ := g_inj (m := 7) h2 (by decide)
  rw [show (8 : Int32) = nI 8 from rfl, pk_mul, nI_add]
  exact vp_in_nI (by omega) (by decide)
def g_pa (f : Nat → Int32) (ticks t : Int32) : Int32 := if t < 0 then 0 else if ticks ≤ t then 0 else if 60 ≤ t then 0 else f t.toNatClampNeg
theorem g_ltn {n c : Nat} (h : n < c) (hc : c < 2 ^ 31) : nI n < nI c := nI_lt h hc
theorem g_vin {t : Int32} {N : Int32} {n : Nat} (hN : N.toInt = n) (h0 : ¬ t < 0) (h1 : t < N) : vp_in t n := by
  rw [vp_in_iff]
  have a := Int32.le_iff_toInt_le.mp (Int32.not_lt.mp h0)
  have b := Int32.lt_iff_toInt_lt.mp h1
  rw [Int32.toInt_zero] at a
  rw [hN] at b
  exact ⟨a, b⟩
def g_bc (i : Int32) : Int32 := i

theorem d_X8_has_0 : g_dc cX8_has 0 (.iload_n 1) 1 1 := ⟨by decide +kernel, rfl⟩
theorem d_X8_has_1 : g_dc cX8_has 1 (.iconst 0) 1 2 := ⟨by decide +kernel, rfl⟩
theorem d_X8_has_2 : g_dc cX8_has 2 (.bipush 9) 2 4 := ⟨by decide +kernel, rfl⟩
theorem d_X8_has_4 : g_dc cX8_has 4 (.invokestatic 31) 3 7 := ⟨by decide +kernel, rfl⟩
theorem d_X8_has_7 : g_dc cX8_has 7 (.ifCond .eq 18) 3 10 := ⟨by decide +kernel, rfl⟩
theorem d_X8_has_10 : g_dc cX8_has 10 (.aload_n 0) 1 11 := ⟨by decide +kernel, rfl⟩
theorem d_X8_has_11 : g_dc cX8_has 11 (.getfield 21) 3 14 := ⟨by decide +kernel, rfl⟩
theorem d_X8_has_14 : g_dc cX8_has 14 (.iconst 1) 1 15 := ⟨by decide +kernel, rfl⟩
theorem d_X8_has_15 : g_dc cX8_has 15 (.iload_n 1) 1 16 := ⟨by decide +kernel, rfl⟩
theorem d_X8_has_16 : g_dc cX8_has 16 (.ishl) 1 17 := ⟨by decide +kernel, rfl⟩
theorem d_X8_has_17 : g_dc cX8_has 17 (.iand) 1 18 := ⟨by decide +kernel, rfl⟩
theorem d_X8_has_18 : g_dc cX8_has 18 (.ifCond .eq 7) 3 21 := ⟨by decide +kernel, rfl⟩
theorem d_X8_has_21 : g_dc cX8_has 21 (.iconst 1) 1 22 := ⟨by decide +kernel, rfl⟩
theorem d_X8_has_22 : g_dc cX8_has 22 (.goto 4) 3 25 := ⟨by decide +kernel, rfl⟩
theorem d_X8_has_25 : g_dc cX8_has 25 (.iconst 0) 1 26 := ⟨by decide +kernel, rfl⟩
theorem d_X8_has_26 : g_dc cX8_has 26 (.ireturn) 1 27 := ⟨by decide +kernel, rfl⟩
set_option maxHeartbeats 4000000 in
set_option maxRecDepth 100000 in
theorem c_X8_has (l : Launch) (X : gX) (t sa : Nat) (len e0 folds told x : Int32) (f : Nat → Int32) (i : Int32) : g_Ci l X yX8_has cX8_has 2 (some .boolean) 2 0 0 [.ref t, .int i] [(t, .inr (8, [.int len, .int e0, .int folds, .int told, .int x, .ref sa])), (sa, .inl (X.2.1, 80, .inl f))] (fun r w => w = [(t, .inr (8, [.int len, .int e0, .int folds, .int told, .int x, .ref sa])), (sa, .inl (X.2.1, 80, .inl f))] ∧ r = g_has told i) := by
  refine g_mi (by decide +kernel) (Nat.le_of_ble_eq_true rfl) (fun E cx hret => ?_)
  refine g_iload_n cx 1 rfl d_X8_has_0 ?_
  refine g_iconst cx 0 (by decide) d_X8_has_1 ?_
  refine g_bipush cx 9 (by decide) d_X8_has_2 ?_
  refine g_cNiW cx [.int i, .int 0, .int 9] [] (c_X10_within l X _ i 0 9) mn_X8_31 yS_X10_within d_X8_has_4 (by unfold g_rr; decide) (by decide) rfl (Nat.le_of_ble_eq_true rfl) (fun r1 w2 h3 => ?_)
  obtain ⟨rfl, rfl⟩ := h3
  refine g_if_eq cx 25 d_X8_has_7 (by decide) (fun zc7 => ?_) (fun zc7 => ?_)
  · refine g_iconst cx 0 (by decide) d_X8_has_25 ?_
    exact hret d_X8_has_26 (Nat.le_of_ble_eq_true rfl) (Nat.le_of_ble_eq_true rfl) rfl (⟨rfl, by simp [g_has, *]⟩)
  · refine g_aload_n cx 0 rfl d_X8_has_10 ?_
    refine g_get cx cl_X8 fl_X8_21 0 (.int told) d_X8_has_11 rfl rfl ?_
    refine g_iconst cx 1 (by decide) d_X8_has_14 ?_
    refine g_iload_n cx 1 rfl d_X8_has_15 ?_
    refine g_ishl cx d_X8_has_16 ?_
    refine g_iand cx d_X8_has_17 ?_
    refine g_if_eq cx 25 d_X8_has_18 (by decide) (fun zc18 => ?_) (fun zc18 => ?_)
    · refine g_iconst cx 0 (by decide) d_X8_has_25 ?_
      exact hret d_X8_has_26 (Nat.le_of_ble_eq_true rfl) (Nat.le_of_ble_eq_true rfl) rfl (⟨rfl, by simp [g_has, *]⟩)
    · refine g_iconst cx 1 (by decide) d_X8_has_21 ?_
      refine g_goto cx 26 d_X8_has_22 (by decide) ?_
      exact hret d_X8_has_26 (Nat.le_of_ble_eq_true rfl) (Nat.le_of_ble_eq_true rfl) rfl (⟨rfl, by simp [g_has, *]⟩)
theorem d_X8_side_0 : g_dc cX8_side 0 (.iload_n 1) 1 1 := ⟨by decide +kernel, rfl⟩
theorem d_X8_side_1 : g_dc cX8_side 1 (.iconst 0) 1 2 := ⟨by decide +kernel, rfl⟩
theorem d_X8_side_2 : g_dc cX8_side 2 (.bipush 9) 2 4 := ⟨by decide +kernel, rfl⟩
theorem d_X8_side_4 : g_dc cX8_side 4 (.invokestatic 31) 3 7 := ⟨by decide +kernel, rfl⟩
theorem d_X8_side_7 : g_dc cX8_side 7 (.ifCond .eq 27) 3 10 := ⟨by decide +kernel, rfl⟩
theorem d_X8_side_10 : g_dc cX8_side 10 (.iload_n 2) 1 11 := ⟨by decide +kernel, rfl⟩
theorem d_X8_side_11 : g_dc cX8_side 11 (.iconst 0) 1 12 := ⟨by decide +kernel, rfl⟩
theorem d_X8_side_12 : g_dc cX8_side 12 (.bipush 7) 2 14 := ⟨by decide +kernel, rfl⟩
theorem d_X8_side_14 : g_dc cX8_side 14 (.invokestatic 31) 3 17 := ⟨by decide +kernel, rfl⟩
theorem d_X8_side_17 : g_dc cX8_side 17 (.ifCond .eq 17) 3 20 := ⟨by decide +kernel, rfl⟩
theorem d_X8_side_20 : g_dc cX8_side 20 (.aload_n 0) 1 21 := ⟨by decide +kernel, rfl⟩
theorem d_X8_side_21 : g_dc cX8_side 21 (.getfield 27) 3 24 := ⟨by decide +kernel, rfl⟩
theorem d_X8_side_24 : g_dc cX8_side 24 (.iload_n 1) 1 25 := ⟨by decide +kernel, rfl⟩
theorem d_X8_side_25 : g_dc cX8_side 25 (.bipush 8) 2 27 := ⟨by decide +kernel, rfl⟩
theorem d_X8_side_27 : g_dc cX8_side 27 (.imul) 1 28 := ⟨by decide +kernel, rfl⟩
theorem d_X8_side_28 : g_dc cX8_side 28 (.iload_n 2) 1 29 := ⟨by decide +kernel, rfl⟩
theorem d_X8_side_29 : g_dc cX8_side 29 (.iadd) 1 30 := ⟨by decide +kernel, rfl⟩
theorem d_X8_side_30 : g_dc cX8_side 30 (.iaload) 1 31 := ⟨by decide +kernel, rfl⟩
theorem d_X8_side_31 : g_dc cX8_side 31 (.goto 4) 3 34 := ⟨by decide +kernel, rfl⟩
theorem d_X8_side_34 : g_dc cX8_side 34 (.iconst 0) 1 35 := ⟨by decide +kernel, rfl⟩
theorem d_X8_side_35 : g_dc cX8_side 35 (.ireturn) 1 36 := ⟨by decide +kernel, rfl⟩
set_option maxHeartbeats 4000000 in
set_option maxRecDepth 100000 in
theorem c_X8_side (l : Launch) (X : gX) (t sa : Nat) (len e0 folds told x : Int32) (f : Nat → Int32) (i what : Int32) : g_Ci l X yX8_side cX8_side 3 (some .int) 2 0 0 [.ref t, .int i, .int what] [(t, .inr (8, [.int len, .int e0, .int folds, .int told, .int x, .ref sa])), (sa, .inl (X.2.1, 80, .inl f))] (fun r w => w = [(t, .inr (8, [.int len, .int e0, .int folds, .int told, .int x, .ref sa])), (sa, .inl (X.2.1, 80, .inl f))] ∧ r = g_side f i what) := by
  refine g_mi (by decide +kernel) (Nat.le_of_ble_eq_true rfl) (fun E cx hret => ?_)
  refine g_iload_n cx 1 rfl d_X8_side_0 ?_
  refine g_iconst cx 0 (by decide) d_X8_side_1 ?_
  refine g_bipush cx 9 (by decide) d_X8_side_2 ?_
  refine g_cNiW cx [.int i, .int 0, .int 9] [] (c_X10_within l X _ i 0 9) mn_X8_31 yS_X10_within d_X8_side_4 (by unfold g_rr; decide) (by decide) rfl (Nat.le_of_ble_eq_true rfl) (fun r1 w2 h3 => ?_)
  obtain ⟨rfl, rfl⟩ := h3
  refine g_if_eq cx 34 d_X8_side_7 (by decide) (fun zc7 => ?_) (fun zc7 => ?_)
  · refine g_iconst cx 0 (by decide) d_X8_side_34 ?_
    exact hret d_X8_side_35 (Nat.le_of_ble_eq_true rfl) (Nat.le_of_ble_eq_true rfl) rfl (⟨rfl, by simp [g_side, *]⟩)
  · refine g_iload_n cx 2 rfl d_X8_side_10 ?_
    refine g_iconst cx 0 (by decide) d_X8_side_11 ?_
    refine g_bipush cx 7 (by decide) d_X8_side_12 ?_
    refine g_cNiW cx [.int what, .int 0, .int 7] [] (c_X10_within l X _ what 0 7) mn_X8_31 yS_X10_within d_X8_side_14 (by unfold g_rr; decide) (by decide) rfl (Nat.le_of_ble_eq_true rfl) (fun r4 w5 h6 => ?_)
    obtain ⟨rfl, rfl⟩ := h6
    refine g_if_eq cx 34 d_X8_side_17 (by decide) (fun zc17 => ?_) (fun zc17 => ?_)
    · refine g_iconst cx 0 (by decide) d_X8_side_34 ?_
      exact hret d_X8_side_35 (Nat.le_of_ble_eq_true rfl) (Nat.le_of_ble_eq_true rfl) rfl (⟨rfl, by simp [g_side, *]⟩)
    · refine g_aload_n cx 0 rfl d_X8_side_20 ?_
      refine g_get cx cl_X8 fl_X8_27 0 (.ref sa) d_X8_side_21 rfl rfl ?_
      refine g_iload_n cx 1 rfl d_X8_side_24 ?_
      refine g_bipush cx 8 (by decide) d_X8_side_25 ?_
      refine g_imul cx d_X8_side_27 ?_
      refine g_iload_n cx 2 rfl d_X8_side_28 ?_
      refine g_iadd cx d_X8_side_29 ?_
      refine g_iald cx 1 d_X8_side_30 rfl (g_side_in (by assumption) (by assumption)) ?_
      refine g_goto cx 35 d_X8_side_31 (by decide) ?_
      exact hret d_X8_side_35 (Nat.le_of_ble_eq_true rfl) (Nat.le_of_ble_eq_true rfl) rfl (⟨rfl, by simp [g_side, *]⟩)
theorem d_X8_foldPlace_0 : g_dc cX8_foldPlace 0 (.iload_n 1) 1 1 := ⟨by decide +kernel, rfl⟩
theorem d_X8_foldPlace_1 : g_dc cX8_foldPlace 1 (.aload_n 0) 1 2 := ⟨by decide +kernel, rfl⟩
theorem d_X8_foldPlace_2 : g_dc cX8_foldPlace 2 (.getfield 9) 3 5 := ⟨by decide +kernel, rfl⟩
theorem d_X8_foldPlace_5 : g_dc cX8_foldPlace 5 (.imul) 1 6 := ⟨by decide +kernel, rfl⟩
theorem d_X8_foldPlace_6 : g_dc cX8_foldPlace 6 (.bipush 6) 2 8 := ⟨by decide +kernel, rfl⟩
theorem d_X8_foldPlace_8 : g_dc cX8_foldPlace 8 (.idiv) 1 9 := ⟨by decide +kernel, rfl⟩
theorem d_X8_foldPlace_9 : g_dc cX8_foldPlace 9 (.ireturn) 1 10 := ⟨by decide +kernel, rfl⟩
set_option maxHeartbeats 4000000 in
set_option maxRecDepth 100000 in
theorem c_X8_foldPlace (l : Launch) (X : gX) (t sa : Nat) (len e0 folds told x : Int32) (f : Nat → Int32) (q : Int32) : g_Ci l X yX8_foldPlace cX8_foldPlace 2 (some .int) 1 0 0 [.ref t, .int q] [(t, .inr (8, [.int len, .int e0, .int folds, .int told, .int x, .ref sa])), (sa, .inl (X.2.1, 80, .inl f))] (fun r w => w = [(t, .inr (8, [.int len, .int e0, .int folds, .int told, .int x, .ref sa])), (sa, .inl (X.2.1, 80, .inl f))] ∧ r = q * len / 6) := by
  refine g_mi (by decide +kernel) (Nat.le_of_ble_eq_true rfl) (fun E cx hret => ?_)
  refine g_iload_n cx 1 rfl d_X8_foldPlace_0 ?_
  refine g_aload_n cx 0 rfl d_X8_foldPlace_1 ?_
  refine g_get cx cl_X8 fl_X8_9 0 (.int len) d_X8_foldPlace_2 rfl rfl ?_
  refine g_imul cx d_X8_foldPlace_5 ?_
  refine g_bipush cx 6 (by decide) d_X8_foldPlace_6 ?_
  refine g_idiv cx (by decide) d_X8_foldPlace_8 ?_
  exact hret d_X8_foldPlace_9 (Nat.le_of_ble_eq_true rfl) (Nat.le_of_ble_eq_true rfl) rfl (⟨rfl, rfl⟩)
theorem d_X8_hasFold_0 : g_dc cX8_hasFold 0 (.iload_n 1) 1 1 := ⟨by decide +kernel, rfl⟩
theorem d_X8_hasFold_1 : g_dc cX8_hasFold 1 (.iconst 0) 1 2 := ⟨by decide +kernel, rfl⟩
theorem d_X8_hasFold_2 : g_dc cX8_hasFold 2 (.iconst 5) 1 3 := ⟨by decide +kernel, rfl⟩
theorem d_X8_hasFold_3 : g_dc cX8_hasFold 3 (.invokestatic 31) 3 6 := ⟨by decide +kernel, rfl⟩
theorem d_X8_hasFold_6 : g_dc cX8_hasFold 6 (.ifCond .eq 30) 3 9 := ⟨by decide +kernel, rfl⟩
theorem d_X8_hasFold_9 : g_dc cX8_hasFold 9 (.aload_n 0) 1 10 := ⟨by decide +kernel, rfl⟩
theorem d_X8_hasFold_10 : g_dc cX8_hasFold 10 (.getfield 18) 3 13 := ⟨by decide +kernel, rfl⟩
theorem d_X8_hasFold_13 : g_dc cX8_hasFold 13 (.iconst 1) 1 14 := ⟨by decide +kernel, rfl⟩
theorem d_X8_hasFold_14 : g_dc cX8_hasFold 14 (.iload_n 1) 1 15 := ⟨by decide +kernel, rfl⟩
theorem d_X8_hasFold_15 : g_dc cX8_hasFold 15 (.ishl) 1 16 := ⟨by decide +kernel, rfl⟩
theorem d_X8_hasFold_16 : g_dc cX8_hasFold 16 (.iand) 1 17 := ⟨by decide +kernel, rfl⟩
theorem d_X8_hasFold_17 : g_dc cX8_hasFold 17 (.ifCond .eq 19) 3 20 := ⟨by decide +kernel, rfl⟩
theorem d_X8_hasFold_20 : g_dc cX8_hasFold 20 (.aload_n 0) 1 21 := ⟨by decide +kernel, rfl⟩
theorem d_X8_hasFold_21 : g_dc cX8_hasFold 21 (.iload_n 1) 1 22 := ⟨by decide +kernel, rfl⟩
theorem d_X8_hasFold_22 : g_dc cX8_hasFold 22 (.invokevirtual 35) 3 25 := ⟨by decide +kernel, rfl⟩
theorem d_X8_hasFold_25 : g_dc cX8_hasFold 25 (.aload_n 0) 1 26 := ⟨by decide +kernel, rfl⟩
theorem d_X8_hasFold_26 : g_dc cX8_hasFold 26 (.getfield 15) 3 29 := ⟨by decide +kernel, rfl⟩
theorem d_X8_hasFold_29 : g_dc cX8_hasFold 29 (.if_icmp .ge 7) 3 32 := ⟨by decide +kernel, rfl⟩
theorem d_X8_hasFold_32 : g_dc cX8_hasFold 32 (.iconst 1) 1 33 := ⟨by decide +kernel, rfl⟩
theorem d_X8_hasFold_33 : g_dc cX8_hasFold 33 (.goto 4) 3 36 := ⟨by decide +kernel, rfl⟩
theorem d_X8_hasFold_36 : g_dc cX8_hasFold 36 (.iconst 0) 1 37 := ⟨by decide +kernel, rfl⟩
theorem d_X8_hasFold_37 : g_dc cX8_hasFold 37 (.ireturn) 1 38 := ⟨by decide +kernel, rfl⟩
set_option maxHeartbeats 4000000 in
set_option maxRecDepth 100000 in
theorem c_X8_hasFold (l : Launch) (X : gX) (t sa : Nat) (len e0 folds told x : Int32) (f : Nat → Int32) (q : Int32) : g_Ci l X yX8_hasFold cX8_hasFold 2 (some .boolean) 2 0 0 [.ref t, .int q] [(t, .inr (8, [.int len, .int e0, .int folds, .int told, .int x, .ref sa])), (sa, .inl (X.2.1, 80, .inl f))] (fun r w => w = [(t, .inr (8, [.int len, .int e0, .int folds, .int told, .int x, .ref sa])), (sa, .inl (X.2.1, 80, .inl f))] ∧ r = g_hf len e0 folds q) := by
  refine g_mi (by decide +kernel) (Nat.le_of_ble_eq_true rfl) (fun E cx hret => ?_)
  refine g_iload_n cx 1 rfl d_X8_hasFold_0 ?_
  refine g_iconst cx 0 (by decide) d_X8_hasFold_1 ?_
  refine g_iconst cx 5 (by decide) d_X8_hasFold_2 ?_
  refine g_cNiW cx [.int q, .int 0, .int 5] [] (c_X10_within l X _ q 0 5) mn_X8_31 yS_X10_within d_X8_hasFold_3 (by unfold g_rr; decide) (by decide) rfl (Nat.le_of_ble_eq_true rfl) (fun r1 w2 h3 => ?_)
  obtain ⟨rfl, rfl⟩ := h3
  refine g_if_eq cx 36 d_X8_hasFold_6 (by decide) (fun zc6 => ?_) (fun zc6 => ?_)
  · refine g_iconst cx 0 (by decide) d_X8_hasFold_36 ?_
    exact hret d_X8_hasFold_37 (Nat.le_of_ble_eq_true rfl) (Nat.le_of_ble_eq_true rfl) rfl (⟨rfl, by simp only [g_hf, *] <;> simp [*]⟩)
  · refine g_aload_n cx 0 rfl d_X8_hasFold_9 ?_
    refine g_get cx cl_X8 fl_X8_18 0 (.int folds) d_X8_hasFold_10 rfl rfl ?_
    refine g_iconst cx 1 (by decide) d_X8_hasFold_13 ?_
    refine g_iload_n cx 1 rfl d_X8_hasFold_14 ?_
    refine g_ishl cx d_X8_hasFold_15 ?_
    refine g_iand cx d_X8_hasFold_16 ?_
    refine g_if_eq cx 36 d_X8_hasFold_17 (by decide) (fun zc17 => ?_) (fun zc17 => ?_)
    · refine g_iconst cx 0 (by decide) d_X8_hasFold_36 ?_
      exact hret d_X8_hasFold_37 (Nat.le_of_ble_eq_true rfl) (Nat.le_of_ble_eq_true rfl) rfl (⟨rfl, by simp only [g_hf, *] <;> simp [*]⟩)
    · refine g_aload_n cx 0 rfl d_X8_hasFold_20 ?_
      refine g_iload_n cx 1 rfl d_X8_hasFold_21 ?_
      refine g_cVi cx [.int q] [] (c_X8_foldPlace l X t sa len e0 folds told x f q) ml_X8_35 yV_X8_foldPlace d_X8_hasFold_22 (by unfold g_rr; decide) (by decide) 0 rfl rfl [0, 1] rfl (by decide) rfl (Nat.le_of_ble_eq_true rfl) (by rintro _ _ ⟨rfl, _⟩; rfl) (fun r4 w5 h6 => ?_)
      obtain ⟨rfl, rfl⟩ := h6
      refine g_weq ([(t, .inr (8, [.int len, .int e0, .int folds, .int told, .int x, .ref sa])), (sa, .inl (X.2.1, 80, .inl f))]) (g_rep_same rfl) ?_
      refine g_aload_n cx 0 rfl d_X8_hasFold_25 ?_
      refine g_get cx cl_X8 fl_X8_15 0 (.int e0) d_X8_hasFold_26 rfl rfl ?_
      refine g_icmp_ge cx 36 d_X8_hasFold_29 (by decide) (fun zc29 => ?_) (fun zc29 => ?_)
      · refine g_iconst cx 0 (by decide) d_X8_hasFold_36 ?_
        exact hret d_X8_hasFold_37 (Nat.le_of_ble_eq_true rfl) (Nat.le_of_ble_eq_true rfl) rfl (⟨rfl, by simp only [g_hf, *] <;> simp [*]⟩)
      · refine g_iconst cx 1 (by decide) d_X8_hasFold_32 ?_
        refine g_goto cx 37 d_X8_hasFold_33 (by decide) ?_
        exact hret d_X8_hasFold_37 (Nat.le_of_ble_eq_true rfl) (Nat.le_of_ble_eq_true rfl) rfl (⟨rfl, by simp only [g_hf, *] <;> simp [*]⟩)
theorem d_X8_copy_0 : g_dc cX8_copy 0 (.aload_n 1) 1 1 := ⟨by decide +kernel, rfl⟩
theorem d_X8_copy_1 : g_dc cX8_copy 1 (.ifnonnull 4) 3 4 := ⟨by decide +kernel, rfl⟩
theorem d_X8_copy_5 : g_dc cX8_copy 5 (.aload_n 0) 1 6 := ⟨by decide +kernel, rfl⟩
theorem d_X8_copy_6 : g_dc cX8_copy 6 (.aload_n 1) 1 7 := ⟨by decide +kernel, rfl⟩
theorem d_X8_copy_7 : g_dc cX8_copy 7 (.getfield 9) 3 10 := ⟨by decide +kernel, rfl⟩
theorem d_X8_copy_10 : g_dc cX8_copy 10 (.putfield 9) 3 13 := ⟨by decide +kernel, rfl⟩
theorem d_X8_copy_13 : g_dc cX8_copy 13 (.aload_n 0) 1 14 := ⟨by decide +kernel, rfl⟩
theorem d_X8_copy_14 : g_dc cX8_copy 14 (.aload_n 1) 1 15 := ⟨by decide +kernel, rfl⟩
theorem d_X8_copy_15 : g_dc cX8_copy 15 (.getfield 15) 3 18 := ⟨by decide +kernel, rfl⟩
theorem d_X8_copy_18 : g_dc cX8_copy 18 (.putfield 15) 3 21 := ⟨by decide +kernel, rfl⟩
theorem d_X8_copy_21 : g_dc cX8_copy 21 (.aload_n 0) 1 22 := ⟨by decide +kernel, rfl⟩
theorem d_X8_copy_22 : g_dc cX8_copy 22 (.aload_n 1) 1 23 := ⟨by decide +kernel, rfl⟩
theorem d_X8_copy_23 : g_dc cX8_copy 23 (.getfield 18) 3 26 := ⟨by decide +kernel, rfl⟩
theorem d_X8_copy_26 : g_dc cX8_copy 26 (.putfield 18) 3 29 := ⟨by decide +kernel, rfl⟩
theorem d_X8_copy_29 : g_dc cX8_copy 29 (.aload_n 0) 1 30 := ⟨by decide +kernel, rfl⟩
theorem d_X8_copy_30 : g_dc cX8_copy 30 (.aload_n 1) 1 31 := ⟨by decide +kernel, rfl⟩
theorem d_X8_copy_31 : g_dc cX8_copy 31 (.getfield 21) 3 34 := ⟨by decide +kernel, rfl⟩
theorem d_X8_copy_34 : g_dc cX8_copy 34 (.putfield 21) 3 37 := ⟨by decide +kernel, rfl⟩
theorem d_X8_copy_37 : g_dc cX8_copy 37 (.aload_n 0) 1 38 := ⟨by decide +kernel, rfl⟩
theorem d_X8_copy_38 : g_dc cX8_copy 38 (.aload_n 1) 1 39 := ⟨by decide +kernel, rfl⟩
theorem d_X8_copy_39 : g_dc cX8_copy 39 (.getfield 24) 3 42 := ⟨by decide +kernel, rfl⟩
theorem d_X8_copy_42 : g_dc cX8_copy 42 (.putfield 24) 3 45 := ⟨by decide +kernel, rfl⟩
theorem d_X8_copy_45 : g_dc cX8_copy 45 (.aload_n 1) 1 46 := ⟨by decide +kernel, rfl⟩
theorem d_X8_copy_46 : g_dc cX8_copy 46 (.getfield 27) 3 49 := ⟨by decide +kernel, rfl⟩
theorem d_X8_copy_49 : g_dc cX8_copy 49 (.iconst 0) 1 50 := ⟨by decide +kernel, rfl⟩
theorem d_X8_copy_50 : g_dc cX8_copy 50 (.aload_n 0) 1 51 := ⟨by decide +kernel, rfl⟩
theorem d_X8_copy_51 : g_dc cX8_copy 51 (.getfield 27) 3 54 := ⟨by decide +kernel, rfl⟩
theorem d_X8_copy_54 : g_dc cX8_copy 54 (.iconst 0) 1 55 := ⟨by decide +kernel, rfl⟩
theorem d_X8_copy_55 : g_dc cX8_copy 55 (.aload_n 0) 1 56 := ⟨by decide +kernel, rfl⟩
theorem d_X8_copy_56 : g_dc cX8_copy 56 (.getfield 27) 3 59 := ⟨by decide +kernel, rfl⟩
theorem d_X8_copy_59 : g_dc cX8_copy 59 (.arraylength) 1 60 := ⟨by decide +kernel, rfl⟩
theorem d_X8_copy_60 : g_dc cX8_copy 60 (.invokestatic 39) 3 63 := ⟨by decide +kernel, rfl⟩
theorem d_X8_copy_63 : g_dc cX8_copy 63 (.return_) 1 64 := ⟨by decide +kernel, rfl⟩
set_option maxHeartbeats 4000000 in
set_option maxRecDepth 100000 in
theorem c_X8_copy (l : Launch) (X : gX) (t sa : Nat) (len e0 folds told x : Int32) (f : Nat → Int32) (o sb : Nat) (len2 e2 folds2 told2 x2 : Int32) (g : Nat → Int32) : g_Cv l X yX8_copy cX8_copy 2 1 0 0 [.ref t, .ref o] [(t, .inr (8, [.int len, .int e0, .int folds, .int told, .int x, .ref sa])), (sa, .inl (X.2.1, 80, .inl f)), (o, .inr (8, [.int len2, .int e2, .int folds2, .int told2, .int x2, .ref sb])), (sb, .inl (X.2.1, 80, .inl g))] (fun w => w = [(t, .inr (8, [.int len2, .int e2, .int folds2, .int told2, .int x2, .ref sa])), (sa, .inl (X.2.1, 80, .inl (va_cpy g f 0 0 80))), (o, .inr (8, [.int len2, .int e2, .int folds2, .int told2, .int x2, .ref sb])), (sb, .inl (X.2.1, 80, .inl g))] ∧ True) := by
  refine g_mv (by decide +kernel) (Nat.le_of_ble_eq_true rfl) (fun E cx hret => ?_)
  refine g_aload_n cx 1 rfl d_X8_copy_0 ?_
  refine g_ifnonnull cx 5 d_X8_copy_1 (by decide) ?_
  refine g_aload_n cx 0 rfl d_X8_copy_5 ?_
  refine g_aload_n cx 1 rfl d_X8_copy_6 ?_
  refine g_get cx cl_X8 fl_X8_9 2 (.int len2) d_X8_copy_7 rfl rfl ?_
  refine g_put cx cl_X8 fl_X8_9 0 ([(t, .inr (8, [.int len2, .int e0, .int folds, .int told, .int x, .ref sa])), (sa, .inl (X.2.1, 80, .inl f)), (o, .inr (8, [.int len2, .int e2, .int folds2, .int told2, .int x2, .ref sb])), (sb, .inl (X.2.1, 80, .inl g))]) d_X8_copy_10 rfl rfl rfl rfl (Nat.le_of_ble_eq_true rfl) rfl ?_
  refine g_aload_n cx 0 rfl d_X8_copy_13 ?_
  refine g_aload_n cx 1 rfl d_X8_copy_14 ?_
  refine g_get cx cl_X8 fl_X8_15 2 (.int e2) d_X8_copy_15 rfl rfl ?_
  refine g_put cx cl_X8 fl_X8_15 0 ([(t, .inr (8, [.int len2, .int e2, .int folds, .int told, .int x, .ref sa])), (sa, .inl (X.2.1, 80, .inl f)), (o, .inr (8, [.int len2, .int e2, .int folds2, .int told2, .int x2, .ref sb])), (sb, .inl (X.2.1, 80, .inl g))]) d_X8_copy_18 rfl rfl rfl rfl (Nat.le_of_ble_eq_true rfl) rfl ?_
  refine g_aload_n cx 0 rfl d_X8_copy_21 ?_
  refine g_aload_n cx 1 rfl d_X8_copy_22 ?_
  refine g_get cx cl_X8 fl_X8_18 2 (.int folds2) d_X8_copy_23 rfl rfl ?_
  refine g_put cx cl_X8 fl_X8_18 0 ([(t, .inr (8, [.int len2, .int e2, .int folds2, .int told, .int x, .ref sa])), (sa, .inl (X.2.1, 80, .inl f)), (o, .inr (8, [.int len2, .int e2, .int folds2, .int told2, .int x2, .ref sb])), (sb, .inl (X.2.1, 80, .inl g))]) d_X8_copy_26 rfl rfl rfl rfl (Nat.le_of_ble_eq_true rfl) rfl ?_
  refine g_aload_n cx 0 rfl d_X8_copy_29 ?_
  refine g_aload_n cx 1 rfl d_X8_copy_30 ?_
  refine g_get cx cl_X8 fl_X8_21 2 (.int told2) d_X8_copy_31 rfl rfl ?_
  refine g_put cx cl_X8 fl_X8_21 0 ([(t, .inr (8, [.int len2, .int e2, .int folds2, .int told2, .int x, .ref sa])), (sa, .inl (X.2.1, 80, .inl f)), (o, .inr (8, [.int len2, .int e2, .int folds2, .int told2, .int x2, .ref sb])), (sb, .inl (X.2.1, 80, .inl g))]) d_X8_copy_34 rfl rfl rfl rfl (Nat.le_of_ble_eq_true rfl) rfl ?_
  refine g_aload_n cx 0 rfl d_X8_copy_37 ?_
  refine g_aload_n cx 1 rfl d_X8_copy_38 ?_
  refine g_get cx cl_X8 fl_X8_24 2 (.int x2) d_X8_copy_39 rfl rfl ?_
  refine g_put cx cl_X8 fl_X8_24 0 ([(t, .inr (8, [.int len2, .int e2, .int folds2, .int told2, .int x2, .ref sa])), (sa, .inl (X.2.1, 80, .inl f)), (o, .inr (8, [.int len2, .int e2, .int folds2, .int told2, .int x2, .ref sb])), (sb, .inl (X.2.1, 80, .inl g))]) d_X8_copy_42 rfl rfl rfl rfl (Nat.le_of_ble_eq_true rfl) rfl ?_
  refine g_aload_n cx 1 rfl d_X8_copy_45 ?_
  refine g_get cx cl_X8 fl_X8_27 2 (.ref sb) d_X8_copy_46 rfl rfl ?_
  refine g_iconst cx 0 (by decide) d_X8_copy_49 ?_
  refine g_aload_n cx 0 rfl d_X8_copy_50 ?_
  refine g_get cx cl_X8 fl_X8_27 0 (.ref sa) d_X8_copy_51 rfl rfl ?_
  refine g_iconst cx 0 (by decide) d_X8_copy_54 ?_
  refine g_aload_n cx 0 rfl d_X8_copy_55 ?_
  refine g_get cx cl_X8 fl_X8_27 0 (.ref sa) d_X8_copy_56 rfl rfl ?_
  refine g_alen cx 1 80 d_X8_copy_59 rfl (by decide) ?_
  refine g_copy cx 3 1 ([(t, .inr (8, [.int len2, .int e2, .int folds2, .int told2, .int x2, .ref sa])), (sa, .inl (X.2.1, 80, .inl (va_cpy g f 0 0 80))), (o, .inr (8, [.int len2, .int e2, .int folds2, .int told2, .int x2, .ref sb])), (sb, .inl (X.2.1, 80, .inl g))]) ml_X8_39 d_X8_copy_60 rfl rfl (by decide) (by decide) (by decide) (by decide) rfl ?_
  exact hret d_X8_copy_63 (Nat.le_of_ble_eq_true rfl) (Nat.le_of_ble_eq_true rfl) (⟨rfl, trivial⟩)
theorem d_X5_paceAt_0 : g_dc cX5_paceAt 0 (.iload_n 1) 1 1 := ⟨by decide +kernel, rfl⟩
theorem d_X5_paceAt_1 : g_dc cX5_paceAt 1 (.ifCond .lt 26) 3 4 := ⟨by decide +kernel, rfl⟩
theorem d_X5_paceAt_4 : g_dc cX5_paceAt 4 (.iload_n 1) 1 5 := ⟨by decide +kernel, rfl⟩
theorem d_X5_paceAt_5 : g_dc cX5_paceAt 5 (.aload_n 0) 1 6 := ⟨by decide +kernel, rfl⟩
theorem d_X5_paceAt_6 : g_dc cX5_paceAt 6 (.getfield 15) 3 9 := ⟨by decide +kernel, rfl⟩
theorem d_X5_paceAt_9 : g_dc cX5_paceAt 9 (.if_icmp .ge 18) 3 12 := ⟨by decide +kernel, rfl⟩
theorem d_X5_paceAt_12 : g_dc cX5_paceAt 12 (.iload_n 1) 1 13 := ⟨by decide +kernel, rfl⟩
theorem d_X5_paceAt_13 : g_dc cX5_paceAt 13 (.bipush 60) 2 15 := ⟨by decide +kernel, rfl⟩
theorem d_X5_paceAt_15 : g_dc cX5_paceAt 15 (.if_icmp .ge 12) 3 18 := ⟨by decide +kernel, rfl⟩
theorem d_X5_paceAt_18 : g_dc cX5_paceAt 18 (.aload_n 0) 1 19 := ⟨by decide +kernel, rfl⟩
theorem d_X5_paceAt_19 : g_dc cX5_paceAt 19 (.getfield 9) 3 22 := ⟨by decide +kernel, rfl⟩
theorem d_X5_paceAt_22 : g_dc cX5_paceAt 22 (.iload_n 1) 1 23 := ⟨by decide +kernel, rfl⟩
theorem d_X5_paceAt_23 : g_dc cX5_paceAt 23 (.iaload) 1 24 := ⟨by decide +kernel, rfl⟩
theorem d_X5_paceAt_24 : g_dc cX5_paceAt 24 (.goto 4) 3 27 := ⟨by decide +kernel, rfl⟩
theorem d_X5_paceAt_27 : g_dc cX5_paceAt 27 (.iconst 0) 1 28 := ⟨by decide +kernel, rfl⟩
theorem d_X5_paceAt_28 : g_dc cX5_paceAt 28 (.ireturn) 1 29 := ⟨by decide +kernel, rfl⟩
set_option maxHeartbeats 4000000 in
set_option maxRecDepth 100000 in
theorem c_X5_paceAt (l : Launch) (X : gX) (p pa : Nat) (tk : Int32) (f : Nat → Int32) (i : Int32) : g_Ci l X yX5_paceAt cX5_paceAt 2 (some .int) 1 0 0 [.ref p, .int i] [(p, .inr (5, [.ref pa, .int tk])), (pa, .inl (X.2.1, 60, .inl f))] (fun r w => w = [(p, .inr (5, [.ref pa, .int tk])), (pa, .inl (X.2.1, 60, .inl f))] ∧ r = g_pa f tk i) := by
  refine g_mi (by decide +kernel) (Nat.le_of_ble_eq_true rfl) (fun E cx hret => ?_)
  refine g_iload_n cx 1 rfl d_X5_paceAt_0 ?_
  refine g_if_lt cx 27 d_X5_paceAt_1 (by decide) (fun zc1 => ?_) (fun zc1 => ?_)
  · refine g_iconst cx 0 (by decide) d_X5_paceAt_27 ?_
    exact hret d_X5_paceAt_28 (Nat.le_of_ble_eq_true rfl) (Nat.le_of_ble_eq_true rfl) rfl (⟨rfl, by simp [g_pa, *]⟩)
  · refine g_iload_n cx 1 rfl d_X5_paceAt_4 ?_
    refine g_aload_n cx 0 rfl d_X5_paceAt_5 ?_
    refine g_get cx cl_X5 fl_X5_15 0 (.int tk) d_X5_paceAt_6 rfl rfl ?_
    refine g_icmp_ge cx 27 d_X5_paceAt_9 (by decide) (fun zc9 => ?_) (fun zc9 => ?_)
    · refine g_iconst cx 0 (by decide) d_X5_paceAt_27 ?_
      exact hret d_X5_paceAt_28 (Nat.le_of_ble_eq_true rfl) (Nat.le_of_ble_eq_true rfl) rfl (⟨rfl, by simp [g_pa, *]⟩)
    · refine g_iload_n cx 1 rfl d_X5_paceAt_12 ?_
      refine g_bipush cx 60 (by decide) d_X5_paceAt_13 ?_
      refine g_icmp_ge cx 27 d_X5_paceAt_15 (by decide) (fun zc15 => ?_) (fun zc15 => ?_)
      · refine g_iconst cx 0 (by decide) d_X5_paceAt_27 ?_
        exact hret d_X5_paceAt_28 (Nat.le_of_ble_eq_true rfl) (Nat.le_of_ble_eq_true rfl) rfl (⟨rfl, by simp [g_pa, *]⟩)
      · refine g_aload_n cx 0 rfl d_X5_paceAt_18 ?_
        refine g_get cx cl_X5 fl_X5_9 0 (.ref pa) d_X5_paceAt_19 rfl rfl ?_
        refine g_iload_n cx 1 rfl d_X5_paceAt_22 ?_
        refine g_iald cx 1 d_X5_paceAt_23 rfl (g_vin (N := 60) (by decide) (by assumption) (Int32.not_le.mp (by assumption))) ?_
        refine g_goto cx 28 d_X5_paceAt_24 (by decide) ?_
        exact hret d_X5_paceAt_28 (Nat.le_of_ble_eq_true rfl) (Nat.le_of_ble_eq_true rfl) rfl (⟨rfl, by simp [g_pa, *]⟩)
theorem d_X5_copy_0 : g_dc cX5_copy 0 (.aload_n 1) 1 1 := ⟨by decide +kernel, rfl⟩
theorem d_X5_copy_1 : g_dc cX5_copy 1 (.ifnonnull 4) 3 4 := ⟨by decide +kernel, rfl⟩
theorem d_X5_copy_5 : g_dc cX5_copy 5 (.aload_n 0) 1 6 := ⟨by decide +kernel, rfl⟩
theorem d_X5_copy_6 : g_dc cX5_copy 6 (.aload_n 1) 1 7 := ⟨by decide +kernel, rfl⟩
theorem d_X5_copy_7 : g_dc cX5_copy 7 (.getfield 15) 3 10 := ⟨by decide +kernel, rfl⟩
theorem d_X5_copy_10 : g_dc cX5_copy 10 (.putfield 15) 3 13 := ⟨by decide +kernel, rfl⟩
theorem d_X5_copy_13 : g_dc cX5_copy 13 (.aload_n 1) 1 14 := ⟨by decide +kernel, rfl⟩
theorem d_X5_copy_14 : g_dc cX5_copy 14 (.getfield 9) 3 17 := ⟨by decide +kernel, rfl⟩
theorem d_X5_copy_17 : g_dc cX5_copy 17 (.iconst 0) 1 18 := ⟨by decide +kernel, rfl⟩
theorem d_X5_copy_18 : g_dc cX5_copy 18 (.aload_n 0) 1 19 := ⟨by decide +kernel, rfl⟩
theorem d_X5_copy_19 : g_dc cX5_copy 19 (.getfield 9) 3 22 := ⟨by decide +kernel, rfl⟩
theorem d_X5_copy_22 : g_dc cX5_copy 22 (.iconst 0) 1 23 := ⟨by decide +kernel, rfl⟩
theorem d_X5_copy_23 : g_dc cX5_copy 23 (.bipush 60) 2 25 := ⟨by decide +kernel, rfl⟩
theorem d_X5_copy_25 : g_dc cX5_copy 25 (.invokestatic 19) 3 28 := ⟨by decide +kernel, rfl⟩
theorem d_X5_copy_28 : g_dc cX5_copy 28 (.return_) 1 29 := ⟨by decide +kernel, rfl⟩
set_option maxHeartbeats 4000000 in
set_option maxRecDepth 100000 in
theorem c_X5_copy (l : Launch) (X : gX) (p pa : Nat) (tk : Int32) (f : Nat → Int32) (o ob : Nat) (tk2 : Int32) (g : Nat → Int32) : g_Cv l X yX5_copy cX5_copy 2 1 0 0 [.ref p, .ref o] [(p, .inr (5, [.ref pa, .int tk])), (pa, .inl (X.2.1, 60, .inl f)), (o, .inr (5, [.ref ob, .int tk2])), (ob, .inl (X.2.1, 60, .inl g))] (fun w => w = [(p, .inr (5, [.ref pa, .int tk2])), (pa, .inl (X.2.1, 60, .inl (va_cpy g f 0 0 60))), (o, .inr (5, [.ref ob, .int tk2])), (ob, .inl (X.2.1, 60, .inl g))] ∧ True) := by
  refine g_mv (by decide +kernel) (Nat.le_of_ble_eq_true rfl) (fun E cx hret => ?_)
  refine g_aload_n cx 1 rfl d_X5_copy_0 ?_
  refine g_ifnonnull cx 5 d_X5_copy_1 (by decide) ?_
  refine g_aload_n cx 0 rfl d_X5_copy_5 ?_
  refine g_aload_n cx 1 rfl d_X5_copy_6 ?_
  refine g_get cx cl_X5 fl_X5_15 2 (.int tk2) d_X5_copy_7 rfl rfl ?_
  refine g_put cx cl_X5 fl_X5_15 0 ([(p, .inr (5, [.ref pa, .int tk2])), (pa, .inl (X.2.1, 60, .inl f)), (o, .inr (5, [.ref ob, .int tk2])), (ob, .inl (X.2.1, 60, .inl g))]) d_X5_copy_10 rfl rfl rfl rfl (Nat.le_of_ble_eq_true rfl) rfl ?_
  refine g_aload_n cx 1 rfl d_X5_copy_13 ?_
  refine g_get cx cl_X5 fl_X5_9 2 (.ref ob) d_X5_copy_14 rfl rfl ?_
  refine g_iconst cx 0 (by decide) d_X5_copy_17 ?_
  refine g_aload_n cx 0 rfl d_X5_copy_18 ?_
  refine g_get cx cl_X5 fl_X5_9 0 (.ref pa) d_X5_copy_19 rfl rfl ?_
  refine g_iconst cx 0 (by decide) d_X5_copy_22 ?_
  refine g_bipush cx 60 (by decide) d_X5_copy_23 ?_
  refine g_copy cx 3 1 ([(p, .inr (5, [.ref pa, .int tk2])), (pa, .inl (X.2.1, 60, .inl (va_cpy g f 0 0 60))), (o, .inr (5, [.ref ob, .int tk2])), (ob, .inl (X.2.1, 60, .inl g))]) ml_X5_19 d_X5_copy_25 rfl rfl (by decide) (by decide) (by decide) (by decide) rfl ?_
  exact hret d_X5_copy_28 (Nat.le_of_ble_eq_true rfl) (Nat.le_of_ble_eq_true rfl) (⟨rfl, trivial⟩)
theorem d_J6_bitCount_0f7a4_0 : g_dc cJ6_bitCount_0f7a4 0 (.iload_n 0) 1 1 := ⟨by decide +kernel, rfl⟩
theorem d_J6_bitCount_0f7a4_1 : g_dc cJ6_bitCount_0f7a4 1 (.iload_n 0) 1 2 := ⟨by decide +kernel, rfl⟩
theorem d_J6_bitCount_0f7a4_2 : g_dc cJ6_bitCount_0f7a4 2 (.iconst 1) 1 3 := ⟨by decide +kernel, rfl⟩
theorem d_J6_bitCount_0f7a4_3 : g_dc cJ6_bitCount_0f7a4 3 (.iushr) 1 4 := ⟨by decide +kernel, rfl⟩
theorem d_J6_bitCount_0f7a4_4 : g_dc cJ6_bitCount_0f7a4 4 (.ldc_w 265) 3 7 := ⟨by decide +kernel, rfl⟩
theorem d_J6_bitCount_0f7a4_7 : g_dc cJ6_bitCount_0f7a4 7 (.iand) 1 8 := ⟨by decide +kernel, rfl⟩
theorem d_J6_bitCount_0f7a4_8 : g_dc cJ6_bitCount_0f7a4 8 (.isub) 1 9 := ⟨by decide +kernel, rfl⟩
theorem d_J6_bitCount_0f7a4_9 : g_dc cJ6_bitCount_0f7a4 9 (.istore_n 0) 1 10 := ⟨by decide +kernel, rfl⟩
theorem d_J6_bitCount_0f7a4_10 : g_dc cJ6_bitCount_0f7a4 10 (.iload_n 0) 1 11 := ⟨by decide +kernel, rfl⟩
theorem d_J6_bitCount_0f7a4_11 : g_dc cJ6_bitCount_0f7a4 11 (.ldc_w 266) 3 14 := ⟨by decide +kernel, rfl⟩
theorem d_J6_bitCount_0f7a4_14 : g_dc cJ6_bitCount_0f7a4 14 (.iand) 1 15 := ⟨by decide +kernel, rfl⟩
theorem d_J6_bitCount_0f7a4_15 : g_dc cJ6_bitCount_0f7a4 15 (.iload_n 0) 1 16 := ⟨by decide +kernel, rfl⟩
theorem d_J6_bitCount_0f7a4_16 : g_dc cJ6_bitCount_0f7a4 16 (.iconst 2) 1 17 := ⟨by decide +kernel, rfl⟩
theorem d_J6_bitCount_0f7a4_17 : g_dc cJ6_bitCount_0f7a4 17 (.iushr) 1 18 := ⟨by decide +kernel, rfl⟩
theorem d_J6_bitCount_0f7a4_18 : g_dc cJ6_bitCount_0f7a4 18 (.ldc_w 266) 3 21 := ⟨by decide +kernel, rfl⟩
theorem d_J6_bitCount_0f7a4_21 : g_dc cJ6_bitCount_0f7a4 21 (.iand) 1 22 := ⟨by decide +kernel, rfl⟩
theorem d_J6_bitCount_0f7a4_22 : g_dc cJ6_bitCount_0f7a4 22 (.iadd) 1 23 := ⟨by decide +kernel, rfl⟩
theorem d_J6_bitCount_0f7a4_23 : g_dc cJ6_bitCount_0f7a4 23 (.istore_n 0) 1 24 := ⟨by decide +kernel, rfl⟩
theorem d_J6_bitCount_0f7a4_24 : g_dc cJ6_bitCount_0f7a4 24 (.iload_n 0) 1 25 := ⟨by decide +kernel, rfl⟩
theorem d_J6_bitCount_0f7a4_25 : g_dc cJ6_bitCount_0f7a4 25 (.iload_n 0) 1 26 := ⟨by decide +kernel, rfl⟩
theorem d_J6_bitCount_0f7a4_26 : g_dc cJ6_bitCount_0f7a4 26 (.iconst 4) 1 27 := ⟨by decide +kernel, rfl⟩
theorem d_J6_bitCount_0f7a4_27 : g_dc cJ6_bitCount_0f7a4 27 (.iushr) 1 28 := ⟨by decide +kernel, rfl⟩
theorem d_J6_bitCount_0f7a4_28 : g_dc cJ6_bitCount_0f7a4 28 (.iadd) 1 29 := ⟨by decide +kernel, rfl⟩
theorem d_J6_bitCount_0f7a4_29 : g_dc cJ6_bitCount_0f7a4 29 (.ldc_w 267) 3 32 := ⟨by decide +kernel, rfl⟩
theorem d_J6_bitCount_0f7a4_32 : g_dc cJ6_bitCount_0f7a4 32 (.iand) 1 33 := ⟨by decide +kernel, rfl⟩
theorem d_J6_bitCount_0f7a4_33 : g_dc cJ6_bitCount_0f7a4 33 (.istore_n 0) 1 34 := ⟨by decide +kernel, rfl⟩
theorem d_J6_bitCount_0f7a4_34 : g_dc cJ6_bitCount_0f7a4 34 (.iload_n 0) 1 35 := ⟨by decide +kernel, rfl⟩
theorem d_J6_bitCount_0f7a4_35 : g_dc cJ6_bitCount_0f7a4 35 (.iload_n 0) 1 36 := ⟨by decide +kernel, rfl⟩
theorem d_J6_bitCount_0f7a4_36 : g_dc cJ6_bitCount_0f7a4 36 (.bipush 8) 2 38 := ⟨by decide +kernel, rfl⟩
theorem d_J6_bitCount_0f7a4_38 : g_dc cJ6_bitCount_0f7a4 38 (.iushr) 1 39 := ⟨by decide +kernel, rfl⟩
theorem d_J6_bitCount_0f7a4_39 : g_dc cJ6_bitCount_0f7a4 39 (.iadd) 1 40 := ⟨by decide +kernel, rfl⟩
theorem d_J6_bitCount_0f7a4_40 : g_dc cJ6_bitCount_0f7a4 40 (.istore_n 0) 1 41 := ⟨by decide +kernel, rfl⟩
theorem d_J6_bitCount_0f7a4_41 : g_dc cJ6_bitCount_0f7a4 41 (.iload_n 0) 1 42 := ⟨by decide +kernel, rfl⟩
theorem d_J6_bitCount_0f7a4_42 : g_dc cJ6_bitCount_0f7a4 42 (.iload_n 0) 1 43 := ⟨by decide +kernel, rfl⟩
theorem d_J6_bitCount_0f7a4_43 : g_dc cJ6_bitCount_0f7a4 43 (.bipush 16) 2 45 := ⟨by decide +kernel, rfl⟩
theorem d_J6_bitCount_0f7a4_45 : g_dc cJ6_bitCount_0f7a4 45 (.iushr) 1 46 := ⟨by decide +kernel, rfl⟩
theorem d_J6_bitCount_0f7a4_46 : g_dc cJ6_bitCount_0f7a4 46 (.iadd) 1 47 := ⟨by decide +kernel, rfl⟩
theorem d_J6_bitCount_0f7a4_47 : g_dc cJ6_bitCount_0f7a4 47 (.istore_n 0) 1 48 := ⟨by decide +kernel, rfl⟩
theorem d_J6_bitCount_0f7a4_48 : g_dc cJ6_bitCount_0f7a4 48 (.iload_n 0) 1 49 := ⟨by decide +kernel, rfl⟩
theorem d_J6_bitCount_0f7a4_49 : g_dc cJ6_bitCount_0f7a4 49 (.bipush 63) 2 51 := ⟨by decide +kernel, rfl⟩
theorem d_J6_bitCount_0f7a4_51 : g_dc cJ6_bitCount_0f7a4 51 (.iand) 1 52 := ⟨by decide +kernel, rfl⟩
theorem d_J6_bitCount_0f7a4_52 : g_dc cJ6_bitCount_0f7a4 52 (.ireturn) 1 53 := ⟨by decide +kernel, rfl⟩
set_option maxHeartbeats 4000000 in
set_option maxRecDepth 100000 in
theorem c_J6_bitCount_0f7a4 (l : Launch) (X : gX) (ws : va_W) (i : Int32) : g_Ci l X yJ6_bitCount_0f7a4 cJ6_bitCount_0f7a4 1 (some .int) 1 0 0 [.int i] ws (fun r w => w = ws ∧ (i = 0 → r = 0)) := by
  refine g_mi (by decide +kernel) (Nat.le_of_ble_eq_true rfl) (fun E cx hret => ?_)
  refine g_iload_n cx 0 rfl d_J6_bitCount_0f7a4_0 ?_
  refine g_iload_n cx 0 rfl d_J6_bitCount_0f7a4_1 ?_
  refine g_iconst cx 1 (by decide) d_J6_bitCount_0f7a4_2 ?_
  refine g_iushr cx d_J6_bitCount_0f7a4_3 ?_
  refine g_topi (fun x1 ex1 => ?_)
  refine g_ldcw cx 1431655765 kc_J6_265 d_J6_bitCount_0f7a4_4 ?_
  refine g_iand cx d_J6_bitCount_0f7a4_7 ?_
  refine g_isub cx d_J6_bitCount_0f7a4_8 ?_
  refine g_istore_n cx [(0, .int (i - (x1 &&& 1431655765)))] d_J6_bitCount_0f7a4_9 (by decide) rfl ?_
  refine g_iload_n cx 0 rfl d_J6_bitCount_0f7a4_10 ?_
  refine g_ldcw cx 858993459 kc_J6_266 d_J6_bitCount_0f7a4_11 ?_
  refine g_iand cx d_J6_bitCount_0f7a4_14 ?_
  refine g_topi (fun x2 ex2 => ?_)
  refine g_iload_n cx 0 rfl d_J6_bitCount_0f7a4_15 ?_
  refine g_iconst cx 2 (by decide) d_J6_bitCount_0f7a4_16 ?_
  refine g_iushr cx d_J6_bitCount_0f7a4_17 ?_
  refine g_topi (fun x3 ex3 => ?_)
  refine g_ldcw cx 858993459 kc_J6_266 d_J6_bitCount_0f7a4_18 ?_
  refine g_iand cx d_J6_bitCount_0f7a4_21 ?_
  refine g_iadd cx d_J6_bitCount_0f7a4_22 ?_
  refine g_istore_n cx [(0, .int (x2 + (x3 &&& 858993459)))] d_J6_bitCount_0f7a4_23 (by decide) rfl ?_
  refine g_iload_n cx 0 rfl d_J6_bitCount_0f7a4_24 ?_
  refine g_iload_n cx 0 rfl d_J6_bitCount_0f7a4_25 ?_
  refine g_iconst cx 4 (by decide) d_J6_bitCount_0f7a4_26 ?_
  refine g_iushr cx d_J6_bitCount_0f7a4_27 ?_
  refine g_topi (fun x4 ex4 => ?_)
  refine g_iadd cx d_J6_bitCount_0f7a4_28 ?_
  refine g_ldcw cx 252645135 kc_J6_267 d_J6_bitCount_0f7a4_29 ?_
  refine g_iand cx d_J6_bitCount_0f7a4_32 ?_
  refine g_topi (fun x5 ex5 => ?_)
  refine g_istore_n cx [(0, .int x5)] d_J6_bitCount_0f7a4_33 (by decide) rfl ?_
  refine g_iload_n cx 0 rfl d_J6_bitCount_0f7a4_34 ?_
  refine g_iload_n cx 0 rfl d_J6_bitCount_0f7a4_35 ?_
  refine g_bipush cx 8 (by decide) d_J6_bitCount_0f7a4_36 ?_
  refine g_iushr cx d_J6_bitCount_0f7a4_38 ?_
  refine g_topi (fun x6 ex6 => ?_)
  refine g_iadd cx d_J6_bitCount_0f7a4_39 ?_
  refine g_istore_n cx [(0, .int (x5 + x6))] d_J6_bitCount_0f7a4_40 (by decide) rfl ?_
  refine g_iload_n cx 0 rfl d_J6_bitCount_0f7a4_41 ?_
  refine g_iload_n cx 0 rfl d_J6_bitCount_0f7a4_42 ?_
  refine g_bipush cx 16 (by decide) d_J6_bitCount_0f7a4_43 ?_
  refine g_iushr cx d_J6_bitCount_0f7a4_45 ?_
  refine g_topi (fun x7 ex7 => ?_)
  refine g_iadd cx d_J6_bitCount_0f7a4_46 ?_
  refine g_istore_n cx [(0, .int ((x5 + x6) + x7))] d_J6_bitCount_0f7a4_47 (by decide) rfl ?_
  refine g_iload_n cx 0 rfl d_J6_bitCount_0f7a4_48 ?_
  refine g_bipush cx 63 (by decide) d_J6_bitCount_0f7a4_49 ?_
  refine g_iand cx d_J6_bitCount_0f7a4_51 ?_
  exact hret d_J6_bitCount_0f7a4_52 (Nat.le_of_ble_eq_true rfl) (Nat.le_of_ble_eq_true rfl) rfl ⟨rfl, fun h => by subst h; subst_vars; decide⟩
