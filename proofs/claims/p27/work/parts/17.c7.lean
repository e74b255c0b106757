theorem g_nle {n c : Nat} (hn : n < 2 ^ 31) (h : ¬ nI c ≤ nI n) : n < c := by
  rcases Nat.lt_or_ge n c with q | q
  · exact q
  · exact absurd (nI_le q hn) h
theorem g_lt_of {y : Int32} {n c : Nat} (hy : y = nI n) (hn : n < 2 ^ 31) (h : ¬ nI c ≤ y) : n < c := by
  subst hy
  exact g_nle hn h
theorem g_le {n c : Nat} (hc : c < 2 ^ 31) (h : nI c ≤ nI n) (hn : n < 2 ^ 31) : c ≤ n := by
  rcases Nat.lt_or_ge n c with q | q
  · exact absurd h (nI_ge q hc)
  · exact q
def prc (t o : Nat) : Nat → Nat → Nat
  | 0, _ => 0
  | f + 1, m => if m * o < 1000000 then 0 else prc t o f (m * t / 10) + 1
theorem prc_end {t o f m : Nat} (h : m * o < 1000000) : prc t o f m = 0 := by
  cases f with
  | zero => rfl
  | succ f => rw [prc, if_pos h]
theorem prc_step {t o f m : Nat} (hf : m < f) (h : ¬ m * o < 1000000) : prc t o f m = prc t o (f - 1) (m * t / 10) + 1 := by
  cases f with
  | zero => exact absurd hf (Nat.not_lt_zero _)
  | succ f => rw [prc, if_neg h]; rfl
theorem pr_less {t m : Nat} (ht : t ≤ 9) (hm : 0 < m) : m * t / 10 < m := by
  have h1 : m * t ≤ m * 9 := Nat.mul_le_mul_left m ht
  omega
theorem pr_pos {m o : Nat} (h : ¬ m * o < 1000000) : 0 < m := by
  rcases Nat.eq_zero_or_pos m with q | q
  · exact absurd (by rw [q, Nat.zero_mul]; omega) h
  · exact q
def S_pr (a b c : Int32) : Int32 := if g_in a 0 10 = 0 then -1 else if g_in b 0 9 = 0 then -1 else if g_in c 2 9999 = 0 then -1 else nI (prc b.toNatClampNeg c.toNatClampNeg (a.toNatClampNeg * 100000 + 1) (a.toNatClampNeg * 100000))
theorem g_in2m {v M : Int32} {m : Nat} (h : ¬ g_in v 2 M = 0) (hM : M.toInt = m) : ∃ j : Nat, j ≤ m ∧ v = nI j := by
  unfold g_in at h
  split at h
  · rename_i h1
    exact nI_of2 hM (Int32.not_lt.mpr (Int32.le_trans (by decide) h1.1)) h1.2
  · exact absurd rfl h
theorem S_pr_of {a b c : Int32} {s t o i : Nat} (h1 : ¬ g_in a 0 10 = 0) (h2 : ¬ g_in b 0 9 = 0) (h3 : ¬ g_in c 2 9999 = 0) (ha : a = nI s) (hs : s ≤ 10) (hb : b = nI t) (ht : t ≤ 9) (hc : c = nI o) (ho : o ≤ 9999) {x : Int32} (hx : x = nI i) (hT : i = prc t o (s * 100000 + 1) (s * 100000)) : x = S_pr a b c := by
  unfold S_pr
  rw [if_neg h1, if_neg h2, if_neg h3, ha, hb, hc, nI_clamp (by omega), nI_clamp (by omega), nI_clamp (by omega), ← hT, hx]
theorem lN_int {n : Nat} (h : n < 2 ^ 63) : (lN n).toInt = (n : Int) := Int64.toInt_ofNat_of_lt h
theorem lg_lt {a : Nat} (ha : a < 2 ^ 63) : lg_cmp (lN a) 1000000 < 0 ↔ a < 1000000 := by
  have h1 := lg_cmp_ge (lN a) 1000000
  rw [← Int32.not_le, h1, Int64.le_iff_toInt_le, lN_int ha, show (1000000 : Int64).toInt = 1000000 from by decide]
  omega
theorem pr_mo {m o : Nat} (hm : m ≤ 1000000) (ho : o ≤ 9999) : m * o < 2 ^ 63 := by
  have h1 : m * o ≤ 1000000 * 9999 := Nat.mul_le_mul hm ho
  omega
theorem pr_mt {m t : Nat} (hm : m ≤ 1000000) (ht : t ≤ 9) : m * t ≤ 9000000 := by
  have h1 : m * t ≤ 1000000 * 9 := Nat.mul_le_mul hm ht
  omega

theorem d_X10_practice_0 : g_dc cX10_practice 0 (.iload_n 1) 1 1 := ⟨by decide +kernel, rfl⟩
theorem d_X10_practice_1 : g_dc cX10_practice 1 (.iconst 0) 1 2 := ⟨by decide +kernel, rfl⟩
theorem d_X10_practice_2 : g_dc cX10_practice 2 (.bipush 10) 2 4 := ⟨by decide +kernel, rfl⟩
theorem d_X10_practice_4 : g_dc cX10_practice 4 (.invokestatic 82) 3 7 := ⟨by decide +kernel, rfl⟩
theorem d_X10_practice_7 : g_dc cX10_practice 7 (.ifCond .eq 24) 3 10 := ⟨by decide +kernel, rfl⟩
theorem d_X10_practice_10 : g_dc cX10_practice 10 (.iload_n 2) 1 11 := ⟨by decide +kernel, rfl⟩
theorem d_X10_practice_11 : g_dc cX10_practice 11 (.iconst 0) 1 12 := ⟨by decide +kernel, rfl⟩
theorem d_X10_practice_12 : g_dc cX10_practice 12 (.bipush 9) 2 14 := ⟨by decide +kernel, rfl⟩
theorem d_X10_practice_14 : g_dc cX10_practice 14 (.invokestatic 82) 3 17 := ⟨by decide +kernel, rfl⟩
theorem d_X10_practice_17 : g_dc cX10_practice 17 (.ifCond .eq 14) 3 20 := ⟨by decide +kernel, rfl⟩
theorem d_X10_practice_20 : g_dc cX10_practice 20 (.iload_n 3) 1 21 := ⟨by decide +kernel, rfl⟩
theorem d_X10_practice_21 : g_dc cX10_practice 21 (.iconst 2) 1 22 := ⟨by decide +kernel, rfl⟩
theorem d_X10_practice_22 : g_dc cX10_practice 22 (.sipush 9999) 3 25 := ⟨by decide +kernel, rfl⟩
theorem d_X10_practice_25 : g_dc cX10_practice 25 (.invokestatic 82) 3 28 := ⟨by decide +kernel, rfl⟩
theorem d_X10_practice_28 : g_dc cX10_practice 28 (.ifCond .ne 5) 3 31 := ⟨by decide +kernel, rfl⟩
theorem d_X10_practice_31 : g_dc cX10_practice 31 (.iconst (-1)) 1 32 := ⟨by decide +kernel, rfl⟩
theorem d_X10_practice_32 : g_dc cX10_practice 32 (.ireturn) 1 33 := ⟨by decide +kernel, rfl⟩
theorem d_X10_practice_33 : g_dc cX10_practice 33 (.iload_n 1) 1 34 := ⟨by decide +kernel, rfl⟩
theorem d_X10_practice_34 : g_dc cX10_practice 34 (.i2l) 1 35 := ⟨by decide +kernel, rfl⟩
theorem d_X10_practice_35 : g_dc cX10_practice 35 (.ldc2_w 256) 3 38 := ⟨by decide +kernel, rfl⟩
theorem d_X10_practice_38 : g_dc cX10_practice 38 (.lmul) 1 39 := ⟨by decide +kernel, rfl⟩
theorem d_X10_practice_39 : g_dc cX10_practice 39 (.lstore 4) 2 41 := ⟨by decide +kernel, rfl⟩
theorem d_X10_practice_41 : g_dc cX10_practice 41 (.iconst 0) 1 42 := ⟨by decide +kernel, rfl⟩
theorem d_X10_practice_42 : g_dc cX10_practice 42 (.istore 6) 2 44 := ⟨by decide +kernel, rfl⟩
theorem d_X10_practice_44 : g_dc cX10_practice 44 (.iload 6) 2 46 := ⟨by decide +kernel, rfl⟩
theorem d_X10_practice_46 : g_dc cX10_practice 46 (.ldc_w 258) 3 49 := ⟨by decide +kernel, rfl⟩
theorem d_X10_practice_49 : g_dc cX10_practice 49 (.if_icmp .ge 32) 3 52 := ⟨by decide +kernel, rfl⟩
theorem d_X10_practice_52 : g_dc cX10_practice 52 (.lload 4) 2 54 := ⟨by decide +kernel, rfl⟩
theorem d_X10_practice_54 : g_dc cX10_practice 54 (.iload_n 3) 1 55 := ⟨by decide +kernel, rfl⟩
theorem d_X10_practice_55 : g_dc cX10_practice 55 (.i2l) 1 56 := ⟨by decide +kernel, rfl⟩
theorem d_X10_practice_56 : g_dc cX10_practice 56 (.lmul) 1 57 := ⟨by decide +kernel, rfl⟩
theorem d_X10_practice_57 : g_dc cX10_practice 57 (.ldc2_w 259) 3 60 := ⟨by decide +kernel, rfl⟩
theorem d_X10_practice_60 : g_dc cX10_practice 60 (.lcmp) 1 61 := ⟨by decide +kernel, rfl⟩
theorem d_X10_practice_61 : g_dc cX10_practice 61 (.ifCond .lt 20) 3 64 := ⟨by decide +kernel, rfl⟩
theorem d_X10_practice_64 : g_dc cX10_practice 64 (.lload 4) 2 66 := ⟨by decide +kernel, rfl⟩
theorem d_X10_practice_66 : g_dc cX10_practice 66 (.iload_n 2) 1 67 := ⟨by decide +kernel, rfl⟩
theorem d_X10_practice_67 : g_dc cX10_practice 67 (.i2l) 1 68 := ⟨by decide +kernel, rfl⟩
theorem d_X10_practice_68 : g_dc cX10_practice 68 (.lmul) 1 69 := ⟨by decide +kernel, rfl⟩
theorem d_X10_practice_69 : g_dc cX10_practice 69 (.ldc2_w 261) 3 72 := ⟨by decide +kernel, rfl⟩
theorem d_X10_practice_72 : g_dc cX10_practice 72 (.ldiv) 1 73 := ⟨by decide +kernel, rfl⟩
theorem d_X10_practice_73 : g_dc cX10_practice 73 (.lstore 4) 2 75 := ⟨by decide +kernel, rfl⟩
theorem d_X10_practice_75 : g_dc cX10_practice 75 (.iinc 6 1) 3 78 := ⟨by decide +kernel, rfl⟩
theorem d_X10_practice_78 : g_dc cX10_practice 78 (.goto (-34)) 3 81 := ⟨by decide +kernel, rfl⟩
theorem d_X10_practice_81 : g_dc cX10_practice 81 (.iload 6) 2 83 := ⟨by decide +kernel, rfl⟩
theorem d_X10_practice_83 : g_dc cX10_practice 83 (.ireturn) 1 84 := ⟨by decide +kernel, rfl⟩
set_option maxHeartbeats 4000000 in
set_option maxRecDepth 100000 in
theorem w_X10_practice (l : Launch) (X : gX) (ad : Nat → Nat) (F : Nat → Int32) (R : Nat → Nat → Int32) (a b c : Int32) : g_Ci l X yX10_practice cX10_practice 7 (some .int) 3 0 0 [.ref (ad 0), .int a, .int b, .int c] (wX X ad F R) (fun r w => w = wX X ad F R ∧ r = S_pr a b c) := by
  refine g_mi (by decide +kernel) (Nat.le_of_ble_eq_true rfl) (fun E cx hret => ?_)
  refine g_iload_n cx 1 rfl d_X10_practice_0 ?_
  refine g_iconst cx 0 (by decide) d_X10_practice_1 ?_
  refine g_bipush cx 10 (by decide) d_X10_practice_2 ?_
  refine g_cSiW cx [.int a, .int 0, .int 10] [] (c_X10_within l X _ a 0 10) ml_X10_82 yS_X10_within rfl d_X10_practice_4 (by unfold g_rr; decide) (by decide) rfl (Nat.le_of_ble_eq_true rfl) (fun r1 w2 h3 => ?_)
  obtain ⟨rfl, rfl⟩ := h3
  refine g_if_eq cx 31 d_X10_practice_7 (by decide) (fun zc7 => ?_) (fun zc7 => ?_)
  · refine g_iconst cx (-1) (by decide) d_X10_practice_31 ?_
    exact hret d_X10_practice_32 (Nat.le_of_ble_eq_true rfl) (Nat.le_of_ble_eq_true rfl) rfl ⟨rfl, (by show _ = S_pr a b c; simp [S_pr, *])⟩
  · refine g_iload_n cx 2 rfl d_X10_practice_10 ?_
    refine g_iconst cx 0 (by decide) d_X10_practice_11 ?_
    refine g_bipush cx 9 (by decide) d_X10_practice_12 ?_
    refine g_cSiW cx [.int b, .int 0, .int 9] [] (c_X10_within l X _ b 0 9) ml_X10_82 yS_X10_within rfl d_X10_practice_14 (by unfold g_rr; decide) (by decide) rfl (Nat.le_of_ble_eq_true rfl) (fun r4 w5 h6 => ?_)
    obtain ⟨rfl, rfl⟩ := h6
    refine g_if_eq cx 31 d_X10_practice_17 (by decide) (fun zc17 => ?_) (fun zc17 => ?_)
    · refine g_iconst cx (-1) (by decide) d_X10_practice_31 ?_
      exact hret d_X10_practice_32 (Nat.le_of_ble_eq_true rfl) (Nat.le_of_ble_eq_true rfl) rfl ⟨rfl, (by show _ = S_pr a b c; simp [S_pr, *])⟩
    · refine g_iload_n cx 3 rfl d_X10_practice_20 ?_
      refine g_iconst cx 2 (by decide) d_X10_practice_21 ?_
      refine g_sipush cx 9999 (by decide) d_X10_practice_22 ?_
      refine g_cSiW cx [.int c, .int 2, .int 9999] [] (c_X10_within l X _ c 2 9999) ml_X10_82 yS_X10_within rfl d_X10_practice_25 (by unfold g_rr; decide) (by decide) rfl (Nat.le_of_ble_eq_true rfl) (fun r7 w8 h9 => ?_)
      obtain ⟨rfl, rfl⟩ := h9
      refine g_if_ne cx 33 d_X10_practice_28 (by decide) (fun zc28 => ?_) (fun zc28 => ?_)
      · obtain ⟨sa, hsa, hea⟩ := g_inj (m := 10) zc7 (by decide)
        obtain ⟨tb, htb, heb⟩ := g_inj (m := 9) zc17 (by decide)
        obtain ⟨oc, hoc, hec⟩ := g_in2m (m := 9999) zc28 (by decide)
        refine g_iload_n cx 1 rfl d_X10_practice_33 ?_
        refine g_i2l cx d_X10_practice_34 ?_
        refine g_ldc2 cx 100000 kc_X10_256 d_X10_practice_35 ?_
        refine g_lmul cx d_X10_practice_38 ?_
        refine g_lstore cx [(4, .long ((Int32.toInt64 a) * 100000)), (0, .ref (ad 0)), (1, .int a), (2, .int b), (3, .int c)] d_X10_practice_39 (by decide) rfl ?_
        refine g_iconst cx 0 (by decide) d_X10_practice_41 ?_
        refine g_istore cx [(6, .int 0), (4, .long ((Int32.toInt64 a) * 100000)), (0, .ref (ad 0)), (1, .int a), (2, .int b), (3, .int c)] d_X10_practice_42 (by decide) rfl ?_
        have L44 : ∀ (N : Nat) (i m f : Nat) (x6 : Int32) (x4 : Int64), m < N → (x6 = nI i) → (x4 = lN m) → (i + prc tb oc f m = prc tb oc (sa * 100000 + 1) (sa * 100000)) → (m < f) → (m + i ≤ 1000000) → G X E 7 0 0 (wX X ad F R) [(6, .int x6), (4, .long x4), (0, .ref (ad 0)), (1, .int a), (2, .int b), (3, .int c)] 44 [] := by
          intro N
          induction N with
          | zero => intro i m f x6 x4 hm; exact absurd hm (Nat.not_lt_zero _)
          | succ N ih44 =>
            intro i m f x6 x4 hm hx6 hx4 hi hf hm
            refine g_iload cx 0 rfl d_X10_practice_44 ?_
            refine g_ldcw cx 1000000 kc_X10_258 d_X10_practice_46 ?_
            refine g_icmp_ge cx 81 d_X10_practice_49 (by decide) (fun zc49 => ?_) (fun zc49 => ?_)
            · refine g_iload cx 0 rfl d_X10_practice_81 ?_
              exact hret d_X10_practice_83 (Nat.le_of_ble_eq_true rfl) (Nat.le_of_ble_eq_true rfl) rfl ⟨rfl, (S_pr_of zc7 zc17 zc28 hea hsa heb htb hec hoc hx6 (by first | (have h7 : m * oc < 1000000 := (by have h9 := zc61; rw [hx4, hec, nI_l (by omega), lN_mul] at h9; exact (lg_lt (pr_mo (by omega) hoc)).mp h9); rw [prc_end h7] at hi; exact hi) | (have h6 := g_le (c := 1000000) (by decide) (hx6 ▸ zc49) (by omega); have h5 : m = 0 := (by omega); rw [h5, prc_end (by rw [Nat.zero_mul]; omega)] at hi; exact hi)))⟩
            · refine g_lload cx 1 rfl d_X10_practice_52 ?_
              refine g_iload_n cx 5 rfl d_X10_practice_54 ?_
              refine g_i2l cx d_X10_practice_55 ?_
              refine g_lmul cx d_X10_practice_56 ?_
              refine g_ldc2 cx 1000000 kc_X10_259 d_X10_practice_57 ?_
              refine g_lcmp cx d_X10_practice_60 ?_
              refine g_if_lt cx 81 d_X10_practice_61 (by decide) (fun zc61 => ?_) (fun zc61 => ?_)
              · refine g_iload cx 0 rfl d_X10_practice_81 ?_
                exact hret d_X10_practice_83 (Nat.le_of_ble_eq_true rfl) (Nat.le_of_ble_eq_true rfl) rfl ⟨rfl, (S_pr_of zc7 zc17 zc28 hea hsa heb htb hec hoc hx6 (by first | (have h7 : m * oc < 1000000 := (by have h9 := zc61; rw [hx4, hec, nI_l (by omega), lN_mul] at h9; exact (lg_lt (pr_mo (by omega) hoc)).mp h9); rw [prc_end h7] at hi; exact hi) | (have h6 := g_le (c := 1000000) (by decide) (hx6 ▸ zc49) (by omega); have h5 : m = 0 := (by omega); rw [h5, prc_end (by rw [Nat.zero_mul]; omega)] at hi; exact hi)))⟩
              · refine g_lload cx 1 rfl d_X10_practice_64 ?_
                refine g_iload_n cx 4 rfl d_X10_practice_66 ?_
                refine g_i2l cx d_X10_practice_67 ?_
                refine g_lmul cx d_X10_practice_68 ?_
                refine g_ldc2 cx 10 kc_X10_261 d_X10_practice_69 ?_
                refine g_ldiv cx (by decide) d_X10_practice_72 ?_
                refine g_lstore cx [(4, .long ((x4 * (Int32.toInt64 b)) / 10)), (6, .int x6), (0, .ref (ad 0)), (1, .int a), (2, .int b), (3, .int c)] d_X10_practice_73 (by decide) rfl ?_
                refine g_iinc cx (x6 + 1) [(6, .int (x6 + 1)), (4, .long ((x4 * (Int32.toInt64 b)) / 10)), (0, .ref (ad 0)), (1, .int a), (2, .int b), (3, .int c)] 1 d_X10_practice_75 rfl (rfl) (by decide) rfl ?_
                refine g_goto cx 44 d_X10_practice_78 (by decide) ?_
                exact ih44 (i + 1) (m * tb / 10) (f - 1) (x6 + 1) ((x4 * (Int32.toInt64 b)) / 10) (by have h8 := (by have h9 := zc61; rw [hx4, hec, nI_l (by omega), lN_mul] at h9; exact fun q => h9 ((lg_lt (pr_mo (by omega) hoc)).mpr q)); have := pr_less htb (pr_pos h8); omega) (by rw [hx6]; exact nI_1 i) (by rw [hx4, heb, nI_l (by omega), lN_mul]; exact pk_lDiv (b := 10) (by have := pr_mt (m := m) (by omega) htb; omega) (by omega) (by omega)) (by have h8 := (by have h9 := zc61; rw [hx4, hec, nI_l (by omega), lN_mul] at h9; exact fun q => h9 ((lg_lt (pr_mo (by omega) hoc)).mpr q)); rw [← hi, prc_step hf h8]; omega) (by have h8 := (by have h9 := zc61; rw [hx4, hec, nI_l (by omega), lN_mul] at h9; exact fun q => h9 ((lg_lt (pr_mo (by omega) hoc)).mpr q)); have := pr_less htb (pr_pos h8); omega) (by have h8 := (by have h9 := zc61; rw [hx4, hec, nI_l (by omega), lN_mul] at h9; exact fun q => h9 ((lg_lt (pr_mo (by omega) hoc)).mpr q)); have := pr_less htb (pr_pos h8); omega)
        exact L44 _ 0 (sa * 100000) (sa * 100000 + 1) 0 ((Int32.toInt64 a) * 100000) (Nat.lt_succ_self _) rfl (by rw [hea, nI_l (by omega)]; exact lN_mul sa 100000) (by omega) (by omega) (by omega)
      · refine g_iconst cx (-1) (by decide) d_X10_practice_31 ?_
        exact hret d_X10_practice_32 (Nat.le_of_ble_eq_true rfl) (Nat.le_of_ble_eq_true rfl) rfl ⟨rfl, (by show _ = S_pr a b c; simp [S_pr, *])⟩
theorem d_X11_practice_0 : g_dc cX11_practice 0 (.iload_n 1) 1 1 := ⟨by decide +kernel, rfl⟩
theorem d_X11_practice_1 : g_dc cX11_practice 1 (.iconst 0) 1 2 := ⟨by decide +kernel, rfl⟩
theorem d_X11_practice_2 : g_dc cX11_practice 2 (.bipush 10) 2 4 := ⟨by decide +kernel, rfl⟩
theorem d_X11_practice_4 : g_dc cX11_practice 4 (.invokestatic 165) 3 7 := ⟨by decide +kernel, rfl⟩
theorem d_X11_practice_7 : g_dc cX11_practice 7 (.ifCond .eq 24) 3 10 := ⟨by decide +kernel, rfl⟩
theorem d_X11_practice_10 : g_dc cX11_practice 10 (.iload_n 2) 1 11 := ⟨by decide +kernel, rfl⟩
theorem d_X11_practice_11 : g_dc cX11_practice 11 (.iconst 0) 1 12 := ⟨by decide +kernel, rfl⟩
theorem d_X11_practice_12 : g_dc cX11_practice 12 (.bipush 9) 2 14 := ⟨by decide +kernel, rfl⟩
theorem d_X11_practice_14 : g_dc cX11_practice 14 (.invokestatic 165) 3 17 := ⟨by decide +kernel, rfl⟩
theorem d_X11_practice_17 : g_dc cX11_practice 17 (.ifCond .eq 14) 3 20 := ⟨by decide +kernel, rfl⟩
theorem d_X11_practice_20 : g_dc cX11_practice 20 (.iload_n 3) 1 21 := ⟨by decide +kernel, rfl⟩
theorem d_X11_practice_21 : g_dc cX11_practice 21 (.iconst 2) 1 22 := ⟨by decide +kernel, rfl⟩
theorem d_X11_practice_22 : g_dc cX11_practice 22 (.sipush 9999) 3 25 := ⟨by decide +kernel, rfl⟩
theorem d_X11_practice_25 : g_dc cX11_practice 25 (.invokestatic 165) 3 28 := ⟨by decide +kernel, rfl⟩
theorem d_X11_practice_28 : g_dc cX11_practice 28 (.ifCond .ne 5) 3 31 := ⟨by decide +kernel, rfl⟩
theorem d_X11_practice_31 : g_dc cX11_practice 31 (.iconst (-1)) 1 32 := ⟨by decide +kernel, rfl⟩
theorem d_X11_practice_32 : g_dc cX11_practice 32 (.ireturn) 1 33 := ⟨by decide +kernel, rfl⟩
theorem d_X11_practice_33 : g_dc cX11_practice 33 (.iload_n 1) 1 34 := ⟨by decide +kernel, rfl⟩
theorem d_X11_practice_34 : g_dc cX11_practice 34 (.ldc_w 487) 3 37 := ⟨by decide +kernel, rfl⟩
theorem d_X11_practice_37 : g_dc cX11_practice 37 (.imul) 1 38 := ⟨by decide +kernel, rfl⟩
theorem d_X11_practice_38 : g_dc cX11_practice 38 (.istore 4) 2 40 := ⟨by decide +kernel, rfl⟩
theorem d_X11_practice_40 : g_dc cX11_practice 40 (.iconst 0) 1 41 := ⟨by decide +kernel, rfl⟩
theorem d_X11_practice_41 : g_dc cX11_practice 41 (.istore 5) 2 43 := ⟨by decide +kernel, rfl⟩
theorem d_X11_practice_43 : g_dc cX11_practice 43 (.iload 4) 2 45 := ⟨by decide +kernel, rfl⟩
theorem d_X11_practice_45 : g_dc cX11_practice 45 (.i2l) 1 46 := ⟨by decide +kernel, rfl⟩
theorem d_X11_practice_46 : g_dc cX11_practice 46 (.iload_n 3) 1 47 := ⟨by decide +kernel, rfl⟩
theorem d_X11_practice_47 : g_dc cX11_practice 47 (.i2l) 1 48 := ⟨by decide +kernel, rfl⟩
theorem d_X11_practice_48 : g_dc cX11_practice 48 (.lmul) 1 49 := ⟨by decide +kernel, rfl⟩
theorem d_X11_practice_49 : g_dc cX11_practice 49 (.ldc2_w 488) 3 52 := ⟨by decide +kernel, rfl⟩
theorem d_X11_practice_52 : g_dc cX11_practice 52 (.lcmp) 1 53 := ⟨by decide +kernel, rfl⟩
theorem d_X11_practice_53 : g_dc cX11_practice 53 (.ifCond .lt 21) 3 56 := ⟨by decide +kernel, rfl⟩
theorem d_X11_practice_56 : g_dc cX11_practice 56 (.iload 4) 2 58 := ⟨by decide +kernel, rfl⟩
theorem d_X11_practice_58 : g_dc cX11_practice 58 (.iload_n 2) 1 59 := ⟨by decide +kernel, rfl⟩
theorem d_X11_practice_59 : g_dc cX11_practice 59 (.imul) 1 60 := ⟨by decide +kernel, rfl⟩
theorem d_X11_practice_60 : g_dc cX11_practice 60 (.bipush 10) 2 62 := ⟨by decide +kernel, rfl⟩
theorem d_X11_practice_62 : g_dc cX11_practice 62 (.idiv) 1 63 := ⟨by decide +kernel, rfl⟩
theorem d_X11_practice_63 : g_dc cX11_practice 63 (.istore 4) 2 65 := ⟨by decide +kernel, rfl⟩
theorem d_X11_practice_65 : g_dc cX11_practice 65 (.iload 5) 2 67 := ⟨by decide +kernel, rfl⟩
theorem d_X11_practice_67 : g_dc cX11_practice 67 (.iconst 1) 1 68 := ⟨by decide +kernel, rfl⟩
theorem d_X11_practice_68 : g_dc cX11_practice 68 (.iadd) 1 69 := ⟨by decide +kernel, rfl⟩
theorem d_X11_practice_69 : g_dc cX11_practice 69 (.istore 5) 2 71 := ⟨by decide +kernel, rfl⟩
theorem d_X11_practice_71 : g_dc cX11_practice 71 (.goto (-28)) 3 74 := ⟨by decide +kernel, rfl⟩
theorem d_X11_practice_74 : g_dc cX11_practice 74 (.iload 5) 2 76 := ⟨by decide +kernel, rfl⟩
theorem d_X11_practice_76 : g_dc cX11_practice 76 (.ireturn) 1 77 := ⟨by decide +kernel, rfl⟩
set_option maxHeartbeats 4000000 in
set_option maxRecDepth 100000 in
theorem w_X11_practice (l : Launch) (X : gX) (ad : Nat → Nat) (F : Nat → Int32) (R : Nat → Nat → Int32) (a b c : Int32) : g_Ci l X yX11_practice cX11_practice 6 (some .int) 3 0 0 [.ref (ad 0), .int a, .int b, .int c] (wM X ad F R) (fun r w => w = wM X ad F R ∧ r = S_pr a b c) := by
  refine g_mi (by decide +kernel) (Nat.le_of_ble_eq_true rfl) (fun E cx hret => ?_)
  refine g_iload_n cx 1 rfl d_X11_practice_0 ?_
  refine g_iconst cx 0 (by decide) d_X11_practice_1 ?_
  refine g_bipush cx 10 (by decide) d_X11_practice_2 ?_
  refine g_cSiW cx [.int a, .int 0, .int 10] [] (c_X11_in l X _ a 0 10) ml_X11_165 yS_X11_in rfl d_X11_practice_4 (by unfold g_rr; decide) (by decide) rfl (Nat.le_of_ble_eq_true rfl) (fun r1 w2 h3 => ?_)
  obtain ⟨rfl, rfl⟩ := h3
  refine g_if_eq cx 31 d_X11_practice_7 (by decide) (fun zc7 => ?_) (fun zc7 => ?_)
  · refine g_iconst cx (-1) (by decide) d_X11_practice_31 ?_
    exact hret d_X11_practice_32 (Nat.le_of_ble_eq_true rfl) (Nat.le_of_ble_eq_true rfl) rfl ⟨rfl, (by show _ = S_pr a b c; simp [S_pr, *])⟩
  · refine g_iload_n cx 2 rfl d_X11_practice_10 ?_
    refine g_iconst cx 0 (by decide) d_X11_practice_11 ?_
    refine g_bipush cx 9 (by decide) d_X11_practice_12 ?_
    refine g_cSiW cx [.int b, .int 0, .int 9] [] (c_X11_in l X _ b 0 9) ml_X11_165 yS_X11_in rfl d_X11_practice_14 (by unfold g_rr; decide) (by decide) rfl (Nat.le_of_ble_eq_true rfl) (fun r4 w5 h6 => ?_)
    obtain ⟨rfl, rfl⟩ := h6
    refine g_if_eq cx 31 d_X11_practice_17 (by decide) (fun zc17 => ?_) (fun zc17 => ?_)
    · refine g_iconst cx (-1) (by decide) d_X11_practice_31 ?_
      exact hret d_X11_practice_32 (Nat.le_of_ble_eq_true rfl) (Nat.le_of_ble_eq_true rfl) rfl ⟨rfl, (by show _ = S_pr a b c; simp [S_pr, *])⟩
    · refine g_iload_n cx 3 rfl d_X11_practice_20 ?_
      refine g_iconst cx 2 (by decide) d_X11_practice_21 ?_
      refine g_sipush cx 9999 (by decide) d_X11_practice_22 ?_
      refine g_cSiW cx [.int c, .int 2, .int 9999] [] (c_X11_in l X _ c 2 9999) ml_X11_165 yS_X11_in rfl d_X11_practice_25 (by unfold g_rr; decide) (by decide) rfl (Nat.le_of_ble_eq_true rfl) (fun r7 w8 h9 => ?_)
      obtain ⟨rfl, rfl⟩ := h9
      refine g_if_ne cx 33 d_X11_practice_28 (by decide) (fun zc28 => ?_) (fun zc28 => ?_)
      · obtain ⟨sa, hsa, hea⟩ := g_inj (m := 10) zc7 (by decide)
        obtain ⟨tb, htb, heb⟩ := g_inj (m := 9) zc17 (by decide)
        obtain ⟨oc, hoc, hec⟩ := g_in2m (m := 9999) zc28 (by decide)
        refine g_iload_n cx 1 rfl d_X11_practice_33 ?_
        refine g_ldcw cx 100000 kc_X11_487 d_X11_practice_34 ?_
        refine g_imul cx d_X11_practice_37 ?_
        refine g_istore cx [(4, .int (a * 100000)), (0, .ref (ad 0)), (1, .int a), (2, .int b), (3, .int c)] d_X11_practice_38 (by decide) rfl ?_
        refine g_iconst cx 0 (by decide) d_X11_practice_40 ?_
        refine g_istore cx [(5, .int 0), (4, .int (a * 100000)), (0, .ref (ad 0)), (1, .int a), (2, .int b), (3, .int c)] d_X11_practice_41 (by decide) rfl ?_
        have L43 : ∀ (N : Nat) (i m f : Nat) (x6 x4 : Int32), m < N → (x6 = nI i) → (x4 = nI m) → (i + prc tb oc f m = prc tb oc (sa * 100000 + 1) (sa * 100000)) → (m < f) → (m + i ≤ 1000000) → G X E 6 0 0 (wM X ad F R) [(5, .int x6), (4, .int x4), (0, .ref (ad 0)), (1, .int a), (2, .int b), (3, .int c)] 43 [] := by
          intro N
          induction N with
          | zero => intro i m f x6 x4 hm; exact absurd hm (Nat.not_lt_zero _)
          | succ N ih43 =>
            intro i m f x6 x4 hm hx6 hx4 hi hf hm
            refine g_iload cx 1 rfl d_X11_practice_43 ?_
            refine g_i2l cx d_X11_practice_45 ?_
            refine g_iload_n cx 5 rfl d_X11_practice_46 ?_
            refine g_i2l cx d_X11_practice_47 ?_
            refine g_lmul cx d_X11_practice_48 ?_
            refine g_ldc2 cx 1000000 kc_X11_488 d_X11_practice_49 ?_
            refine g_lcmp cx d_X11_practice_52 ?_
            refine g_if_lt cx 74 d_X11_practice_53 (by decide) (fun zc53 => ?_) (fun zc53 => ?_)
            · refine g_iload cx 0 rfl d_X11_practice_74 ?_
              exact hret d_X11_practice_76 (Nat.le_of_ble_eq_true rfl) (Nat.le_of_ble_eq_true rfl) rfl ⟨rfl, (S_pr_of zc7 zc17 zc28 hea hsa heb htb hec hoc hx6 (by have h7 : m * oc < 1000000 := (by have h9 := zc53; rw [hx4, hec, nI_l (by omega), nI_l (by omega), lN_mul] at h9; exact (lg_lt (pr_mo (by omega) hoc)).mp h9); rw [prc_end h7] at hi; exact hi))⟩
            · refine g_iload cx 1 rfl d_X11_practice_56 ?_
              refine g_iload_n cx 4 rfl d_X11_practice_58 ?_
              refine g_imul cx d_X11_practice_59 ?_
              refine g_bipush cx 10 (by decide) d_X11_practice_60 ?_
              refine g_idiv cx (by decide) d_X11_practice_62 ?_
              refine g_istore cx [(4, .int ((x4 * b) / 10)), (5, .int x6), (0, .ref (ad 0)), (1, .int a), (2, .int b), (3, .int c)] d_X11_practice_63 (by decide) rfl ?_
              refine g_iload cx 1 rfl d_X11_practice_65 ?_
              refine g_iconst cx 1 (by decide) d_X11_practice_67 ?_
              refine g_iadd cx d_X11_practice_68 ?_
              refine g_istore cx [(5, .int (x6 + 1)), (4, .int ((x4 * b) / 10)), (0, .ref (ad 0)), (1, .int a), (2, .int b), (3, .int c)] d_X11_practice_69 (by decide) rfl ?_
              refine g_goto cx 43 d_X11_practice_71 (by decide) ?_
              exact ih43 (i + 1) (m * tb / 10) (f - 1) (x6 + 1) ((x4 * b) / 10) (by have h8 := (by have h9 := zc53; rw [hx4, hec, nI_l (by omega), nI_l (by omega), lN_mul] at h9; exact fun q => h9 ((lg_lt (pr_mo (by omega) hoc)).mpr q)); have := pr_less htb (pr_pos h8); omega) (by rw [hx6]; exact nI_1 i) (by rw [hx4, heb, pk_mul]; exact pk_div (d := 10) (by have := pr_mt (m := m) (by omega) htb; omega) (by omega) (by omega)) (by have h8 := (by have h9 := zc53; rw [hx4, hec, nI_l (by omega), nI_l (by omega), lN_mul] at h9; exact fun q => h9 ((lg_lt (pr_mo (by omega) hoc)).mpr q)); rw [← hi, prc_step hf h8]; omega) (by have h8 := (by have h9 := zc53; rw [hx4, hec, nI_l (by omega), nI_l (by omega), lN_mul] at h9; exact fun q => h9 ((lg_lt (pr_mo (by omega) hoc)).mpr q)); have := pr_less htb (pr_pos h8); omega) (by have h8 := (by have h9 := zc53; rw [hx4, hec, nI_l (by omega), nI_l (by omega), lN_mul] at h9; exact fun q => h9 ((lg_lt (pr_mo (by omega) hoc)).mpr q)); have := pr_less htb (pr_pos h8); omega)
        exact L43 _ 0 (sa * 100000) (sa * 100000 + 1) 0 (a * 100000) (Nat.lt_succ_self _) rfl (by rw [hea]; exact pk_mul sa 100000) (by omega) (by omega) (by omega)
      · refine g_iconst cx (-1) (by decide) d_X11_practice_31 ?_
        exact hret d_X11_practice_32 (Nat.le_of_ble_eq_true rfl) (Nat.le_of_ble_eq_true rfl) rfl ⟨rfl, (by show _ = S_pr a b c; simp [S_pr, *])⟩
