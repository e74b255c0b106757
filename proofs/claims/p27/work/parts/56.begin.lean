/-! ===== an evening's beginning: both the same ===== -/
theorem x4_46 {F : Nat → Int32} {R : Nat → Nat → Int32} : ∀ d i, i + d = 30 → ∀ (k : Nat) (R1 : Nat → Nat → Int32), d < k → (∀ c, c ≠ 46 → R1 c = R c) → (∀ j, j < i → R1 46 j = 0) → ∃ F' R', K_X4_begin_r5_46 F k R1 (nI i) = (F', R') ∧ (∀ c, c ≠ 46 → R' c = R c) ∧ (∀ j, j < 30 → R' 46 j = 0) ∧ F' 691 = F 83 ∧ F' 692 = 0 ∧ F' 693 = 0 ∧ F' 694 = 0 ∧ F' 695 = 0 ∧ F' 696 = 0 ∧ F' 697 = 0 ∧ F' 698 = F 81 := by
  intro d
  induction d with
  | zero =>
    intro i hi k R1 hk h1 h2
    obtain ⟨k, rfl⟩ : ∃ n', k = n' + 1 := ⟨k - 1, by omega⟩
    obtain rfl : i = 30 := by omega
    rw [ks_X4_begin_r5_46]
    unfold KB_X4_begin_r5_46
    rw [if_pos (show (30 : Int32) ≤ nI 30 from nI_le (a := 30) (b := 30) (by omega) (by omega))]
    simp only [k_e]
    refine ⟨_, _, rfl, h1, h2, ?_, ?_, ?_, ?_, ?_, ?_, ?_, ?_⟩
    · rw [g_un rfl, g_un rfl, g_un rfl, g_un rfl, g_un rfl, g_un rfl, g_un rfl, g_us]
    · rw [g_un rfl, g_un rfl, g_un rfl, g_un rfl, g_un rfl, g_un rfl, g_us]
    · rw [g_un rfl, g_un rfl, g_un rfl, g_un rfl, g_un rfl, g_us]
    · rw [g_un rfl, g_un rfl, g_un rfl, g_un rfl, g_us]
    · rw [g_un rfl, g_un rfl, g_un rfl, g_us]
    · rw [g_un rfl, g_un rfl, g_us]
    · rw [g_un rfl, g_us]
    · rw [g_us]
  | succ d ih =>
    intro i hi k R1 hk h1 h2
    obtain ⟨k, rfl⟩ : ∃ n', k = n' + 1 := ⟨k - 1, by omega⟩
    rw [ks_X4_begin_r5_46]
    unfold KB_X4_begin_r5_46
    rw [if_neg (show ¬ (30 : Int32) ≤ nI i from nI_ge (a := i) (b := 30) (by omega) (by omega)), k_e, k_e, nI_1, nI_clamp (by omega)]
    refine ih (i + 1) (by omega) k _ (by omega) (fun c hc => ?_) (fun j hj => ?_)
    · rw [g_uun (by rw [bne_iff_ne]; exact fun z => hc z.symm)]
      exact h1 c hc
    · rw [g_uus]
      by_cases q : j = i
      · rw [q, g_us]
      · rw [g_un (by rw [bne_iff_ne]; exact fun z => q z.symm)]
        exact h2 j (by omega)
theorem x4_7 {F : Nat → Int32} {R : Nat → Nat → Int32} : ∀ d i, i + d = 10 → ∀ (k : Nat) (R1 : Nat → Nat → Int32), d < k → (∀ c, c ≠ 44 → c ≠ 45 → R1 c = R c) → (∀ j, j < i → R1 44 j = R 6 (8 * j + 1) ∧ R1 45 j = R 6 (8 * j + 6)) → ∃ F' R', K_X4_begin_r5_7 F k R1 (nI i) = (F', R') ∧ (∀ c, c ≠ 46 → c ≠ 44 → c ≠ 45 → R' c = R c) ∧ (∀ j, j < 10 → R' 44 j = R 6 (8 * j + 1) ∧ R' 45 j = R 6 (8 * j + 6)) ∧ (∀ j, j < 30 → R' 46 j = 0) ∧ F' 691 = F 83 ∧ F' 692 = 0 ∧ F' 693 = 0 ∧ F' 694 = 0 ∧ F' 695 = 0 ∧ F' 696 = 0 ∧ F' 697 = 0 ∧ F' 698 = F 81 := by
  intro d
  induction d with
  | zero =>
    intro i hi k R1 hk h1 h2
    obtain ⟨k, rfl⟩ : ∃ n', k = n' + 1 := ⟨k - 1, by omega⟩
    obtain rfl : i = 10 := by omega
    rw [ks_X4_begin_r5_7]
    unfold KB_X4_begin_r5_7
    rw [if_pos ub_10e]
    have I := x4_46 (F := F) (R := R1) 30 0 (by omega) 8589934592 R1 (by omega) (fun _ _ => rfl) (fun j hj => absurd hj (by omega))
    rw [nI_0] at I
    obtain ⟨F', R', e, i1, i2, i3⟩ := I
    refine ⟨F', R', e, fun c c1 c2 c3 => (i1 c c1).trans (h1 c c2 c3), fun j hj => ?_, i2, i3⟩
    rw [i1 44 (by omega), i1 45 (by omega)]
    exact h2 j hj
  | succ d ih =>
    intro i hi k R1 hk h1 h2
    obtain ⟨k, rfl⟩ : ∃ n', k = n' + 1 := ⟨k - 1, by omega⟩
    have hi9 : i < 10 := by omega
    rw [ks_X4_begin_r5_7]
    unfold KB_X4_begin_r5_7
    rw [if_neg (ub_10 hi9)]
    simp only [k_e, nI_1, nI_clamp (show i < 2 ^ 31 by omega)]
    rw [us_side (F := F) (R := R1) (s := 1) (x := 1) hi9 (by omega) rfl, us_side (F := F) (s := 6) (x := 6) hi9 (by omega) rfl, g_uun (show (44 != 6) = true from rfl), h1 6 (by omega) (by omega)]
    refine ih (i + 1) (by omega) k _ (by omega) (fun c c1 c2 => ?_) (fun j hj => ?_)
    · rw [g_uun (by rw [bne_iff_ne]; exact fun z => c2 z.symm), g_uun (by rw [bne_iff_ne]; exact fun z => c1 z.symm)]
      exact h1 c c1 c2
    · rw [g_uus, g_uun (show (45 != 44) = true from rfl), g_uus, g_uun (show (44 != 45) = true from rfl)]
      by_cases q : j = i
      · rw [q, g_us, g_us]
        exact ⟨rfl, rfl⟩
      · rw [g_un (by rw [bne_iff_ne]; exact fun z => q z.symm), g_un (by rw [bne_iff_ne]; exact fun z => q z.symm)]
        exact h2 j (by omega)
theorem x8_fold {F : Nat → Int32} {R : Nat → Nat → Int32} {k : Nat} (hk : k < 6) : sp_X8_foldPlace_5 F R (nI k) = uplc (F 80) k ∧ (¬ sp_X8_hasFold_5 F R (nI k) = 0 ↔ hb (F 82) (nI k) ∧ ¬ F 81 ≤ uplc (F 80) k) := by
  have e : sp_X8_foldPlace_5 F R (nI k) = uplc (F 80) k := by
    unfold sp_X8_foldPlace_5 uplc
    rw [k_e, k_e]
  refine ⟨e, ?_⟩
  unfold sp_X8_hasFold_5 K_X8_hasFold_5_36 K_X8_hasFold_5_37
  simp only [k_e]
  rw [e, show g_in (nI k) 0 5 = 1 from ug_in (lo := 0) (hi := 5) (by omega) (by omega) (by omega), if_neg (by decide)]
  by_cases q : hb (F 82) (nI k)
  · rw [if_neg (fun z => (ub_test (by omega)).mp z q)]
    by_cases q2 : F 81 ≤ uplc (F 80) k
    · rw [if_pos q2]
      exact ⟨fun z => absurd rfl z, fun z => absurd q2 z.2⟩
    · rw [if_neg q2]
      exact ⟨fun _ => ⟨q, q2⟩, fun _ => by decide⟩
  · rw [if_pos ((ub_test (by omega)).mpr q)]
    exact ⟨fun z => absurd rfl z, fun z => absurd z.1 q⟩
/-- the folds gone through, up to k -/
def UFk (F0 F : Nat → Int32) (R : Nat → Nat → Int32) (k n : Nat) : Prop := n ≤ k ∧ F 601 = nI n ∧ (∀ f, f < n → ∃ k', k' < k ∧ hb (F0 82) (nI k') ∧ ¬ F0 81 ≤ uplc (F0 80) k' ∧ R 41 f = uplc (F0 80) k') ∧ (∀ k', k' < k → hb (F0 82) (nI k') → ¬ F0 81 ≤ uplc (F0 80) k' → ∃ f, f < n ∧ R 41 f = uplc (F0 80) k')
theorem x0_44 {F : Nat → Int32} {R : Nat → Nat → Int32} : ∀ d i, i + d = 6 → ∀ (k n : Nat) (F1 : Nat → Int32) (R1 : Nat → Nat → Int32), d < k → (∀ k, k ≠ 601 → F1 k = F k) → (∀ c, c ≠ 41 → R1 c = R c) → UFk F F1 R1 i n → ∃ n' F' R', K_X0_begin_44 k F1 R1 (nI i) = (F', R') ∧ (∀ k, k ≠ 601 → F' k = F k) ∧ (∀ c, c ≠ 41 → R' c = R c) ∧ UFk F F' R' 6 n' := by
  intro d
  induction d with
  | zero =>
    intro i hi k n F1 R1 hk h1 h2 h3
    obtain ⟨k, rfl⟩ : ∃ n', k = n' + 1 := ⟨k - 1, by omega⟩
    obtain rfl : i = 6 := by omega
    rw [ks_X0_begin_44]
    unfold KB_X0_begin_44
    rw [if_pos (show (6 : Int32) ≤ nI 6 from nI_le (a := 6) (b := 6) (by omega) (by omega))]
    exact ⟨n, F1, R1, rfl, h1, h2, h3⟩
  | succ d ih =>
    intro i hi k n F1 R1 hk h1 h2 h3
    obtain ⟨k, rfl⟩ : ∃ n', k = n' + 1 := ⟨k - 1, by omega⟩
    have hi6 : i < 6 := by omega
    rw [ks_X0_begin_44]
    unfold KB_X0_begin_44 K_X0_begin_88
    rw [if_neg (show ¬ (6 : Int32) ≤ nI i from nI_ge (a := i) (b := 6) (by omega) (by omega))]
    simp only [k_e, nI_1]
    obtain ⟨fp, fh⟩ := x8_fold (F := F1) (R := R1) hi6
    rw [fp]
    rw [h1 80 (by omega), h1 81 (by omega), h1 82 (by omega)] at fh
    rw [h1 80 (by omega)]
    obtain ⟨n1, n2, n3, n4⟩ := h3
    by_cases q : sp_X8_hasFold_5 F1 R1 (nI i) = 0
    · rw [if_pos q]
      refine ih (i + 1) (by omega) k n F1 R1 (by omega) h1 h2 ⟨by omega, n2, fun f hf => ?_, fun k' hk' a1 a2 => ?_⟩
      · obtain ⟨k', z1, z2⟩ := n3 f hf
        exact ⟨k', by omega, z2⟩
      · by_cases q2 : k' = i
        · rw [q2] at a1 a2
          exact absurd q (fh.mpr ⟨a1, a2⟩)
        · exact n4 k' (by omega) a1 a2
    · rw [if_neg q, n2, nI_clamp (by omega), nI_1]
      obtain ⟨b1, b2⟩ := fh.mp q
      refine ih (i + 1) (by omega) k (n + 1) _ _ (by omega) (fun k hk => ?_) (fun c hc => ?_) ⟨by omega, g_us, fun f hf => ?_, fun k' hk' a1 a2 => ?_⟩
      · rw [g_un (by rw [bne_iff_ne]; exact fun z => hk z.symm)]
        exact h1 k hk
      · rw [g_uun (by rw [bne_iff_ne]; exact fun z => hc z.symm)]
        exact h2 c hc
      · rw [g_uus]
        by_cases q2 : f = n
        · rw [q2, g_us]
          exact ⟨i, by omega, b1, b2, rfl⟩
        · rw [g_un (by rw [bne_iff_ne]; exact fun z => q2 z.symm)]
          obtain ⟨k', z1, z2⟩ := n3 f (by omega)
          exact ⟨k', by omega, z2⟩
      · rw [g_uus]
        by_cases q2 : k' = i
        · refine ⟨n, by omega, ?_⟩
          rw [g_us, q2]
        · obtain ⟨f, z1, z2⟩ := n4 k' (by omega) a1 a2
          refine ⟨f, by omega, ?_⟩
          rw [g_un (by rw [bne_iff_ne]; omega)]
          exact z2
theorem x0_18 {F : Nat → Int32} {R : Nat → Nat → Int32} : ∀ d i, i + d = 10 → ∀ (k : Nat) (R1 : Nat → Nat → Int32), d < k → (∀ c, c ≠ 38 → R1 c = R c) → (∀ j, j < i → R1 38 j = 0) → ∃ n' F' R', K_X0_begin_18 F k R1 (nI i) = (F', R') ∧ (∀ k, k ≠ 601 → F' k = F k) ∧ (∀ c, c ≠ 41 → c ≠ 38 → R' c = R c) ∧ (∀ j, j < 10 → R' 38 j = 0) ∧ UFk F F' R' 6 n' := by
  intro d
  induction d with
  | zero =>
    intro i hi k R1 hk h1 h2
    obtain ⟨k, rfl⟩ : ∃ n', k = n' + 1 := ⟨k - 1, by omega⟩
    obtain rfl : i = 10 := by omega
    rw [ks_X0_begin_18]
    unfold KB_X0_begin_18
    rw [if_pos ub_10e, k_e]
    have I := x0_44 (F := F) (R := R1) 6 0 (by omega) 8589934592 0 (upd F 601 0) R1 (by omega) (fun k hk => g_un (by rw [bne_iff_ne]; exact fun z => hk z.symm)) (fun _ _ => rfl) ⟨by omega, g_us.trans nI_0.symm, fun f hf => absurd hf (by omega), fun k hk => absurd hk (by omega)⟩
    rw [nI_0] at I
    obtain ⟨n', F', R', e, i1, i2, i3⟩ := I
    refine ⟨n', F', R', e, i1, fun c c1 c2 => (i2 c c1).trans (h1 c c2), fun j hj => ?_, i3⟩
    rw [i2 38 (by omega)]
    exact h2 j hj
  | succ d ih =>
    intro i hi k R1 hk h1 h2
    obtain ⟨k, rfl⟩ : ∃ n', k = n' + 1 := ⟨k - 1, by omega⟩
    rw [ks_X0_begin_18]
    unfold KB_X0_begin_18
    rw [if_neg (ub_10 (by omega)), k_e, k_e, nI_1, nI_clamp (by omega)]
    refine ih (i + 1) (by omega) k _ (by omega) (fun c hc => ?_) (fun j hj => ?_)
    · rw [g_uun (by rw [bne_iff_ne]; exact fun z => hc z.symm)]
      exact h1 c hc
    · rw [g_uus]
      by_cases q : j = i
      · rw [q, g_us]
      · rw [g_un (by rw [bne_iff_ne]; exact fun z => q z.symm)]
        exact h2 j (by omega)
theorem ux_begin (F : Nat → Int32) (R : Nat → Nat → Int32) : ∃ n F' R', sp_X0_begin F R = (F', R') ∧ (∀ j, j < 10 → R' 44 j = R 6 (8 * j + 1) ∧ R' 45 j = R 6 (8 * j + 6) ∧ R' 38 j = 0) ∧ (∀ j, j < 30 → R' 46 j = 0) ∧ F' 691 = F 83 ∧ F' 692 = 0 ∧ F' 693 = 0 ∧ F' 694 = 0 ∧ F' 695 = 0 ∧ F' 696 = 0 ∧ F' 697 = 0 ∧ F' 698 = F 81 ∧ F' 603 = 0 ∧ UFk F F' R' 6 n := by
  have I := x4_7 (F := F) (R := R) 10 0 (by omega) 8589934592 R (by omega) (fun _ _ _ => rfl) (fun j hj => absurd hj (by omega))
  rw [nI_0] at I
  obtain ⟨F1, R1, e1, a1, a2, a3, b1, b2, b3, b4, b5, b6, b7, b8⟩ := I
  have fr := fr_sp_X4_begin_r5 F R
  have e1 : sp_X4_begin_r5 F R = (F1, R1) := e1
  rw [e1] at fr
  have gF : ∀ k, ¬ (691 ≤ k ∧ k ≤ 698) → F1 k = F k := fun k hk => fr.1 k (by simp [md_X4_begin_r5]; omega)
  have J := x0_18 (F := upd F1 603 0) (R := R1) 10 0 (by omega) 8589934592 R1 (by omega) (fun _ _ => rfl) (fun j hj => absurd hj (by omega))
  rw [nI_0] at J
  obtain ⟨n, F2, R2, e2, c1, c2, c3, c4⟩ := J
  have c0 : ∀ k, k ≠ 601 → k ≠ 603 → F2 k = F1 k := fun k h1 h2 => (c1 k h1).trans (g_un (by rw [bne_iff_ne]; exact fun z => h2 z.symm))
  refine ⟨n, F2, R2, ?_, fun j hj => ?_, ?_, ?_, ?_, ?_, ?_, ?_, ?_, ?_, ?_, ?_, ?_⟩
  · unfold sp_X0_begin
    rw [e1, k_t2, k_e]
    exact e2
  · rw [c2 44 (by omega) (by omega), c2 45 (by omega) (by omega)]
    exact ⟨(a2 j hj).1, (a2 j hj).2, c3 j hj⟩
  · rw [c2 46 (by omega) (by omega)]; exact a3
  · rw [c0 691 (by omega) (by omega)]; exact b1
  · rw [c0 692 (by omega) (by omega)]; exact b2
  · rw [c0 693 (by omega) (by omega)]; exact b3
  · rw [c0 694 (by omega) (by omega)]; exact b4
  · rw [c0 695 (by omega) (by omega)]; exact b5
  · rw [c0 696 (by omega) (by omega)]; exact b6
  · rw [c0 697 (by omega) (by omega)]; exact b7
  · rw [c0 698 (by omega) (by omega)]; exact b8
  · rw [c1 603 (by omega)]; exact g_us
  · unfold UFk at c4 ⊢
    rw [g_un rfl, g_un rfl, g_un rfl, gF 80 (by omega), gF 81 (by omega), gF 82 (by omega)] at c4
    exact c4
