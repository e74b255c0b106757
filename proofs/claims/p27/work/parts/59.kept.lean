/-! ===== the table kept, and back ===== -/
theorem cp_1_41 (F : Nat → Int32) (R : Nat → Nat → Int32) : ∃ R', sp_X11_copies_r1_r41 F R = (F, R') ∧ (∀ c, c ≠ 41 → R' c = R c) ∧ ∀ j, j < 10 → R' 41 j = R 1 j := by
  have main : ∀ d i, i + d = 10 → ∀ (k : Nat) (R1 : Nat → Nat → Int32), d < k → (∀ c, c ≠ 41 → R1 c = R c) → (∀ j, j < i → R1 41 j = R 1 j) → ∃ R', K_X11_copies_r1_r41_2 F k R1 (nI i) = (F, R') ∧ (∀ c, c ≠ 41 → R' c = R c) ∧ ∀ j, j < 10 → R' 41 j = R 1 j := by
    intro d
    induction d with
    | zero =>
      intro i hi k R1 hk h1 h2
      obtain ⟨k, rfl⟩ : ∃ n', k = n' + 1 := ⟨k - 1, by omega⟩
      obtain rfl : i = 10 := by omega
      rw [ks_X11_copies_r1_r41_2]
      unfold KB_X11_copies_r1_r41_2
      rw [if_pos ub_10e]
      exact ⟨R1, rfl, h1, h2⟩
    | succ d ih =>
      intro i hi k R1 hk h1 h2
      obtain ⟨k, rfl⟩ : ∃ n', k = n' + 1 := ⟨k - 1, by omega⟩
      rw [ks_X11_copies_r1_r41_2]
      unfold KB_X11_copies_r1_r41_2
      rw [if_neg (ub_10 (by omega))]
      simp only [k_e, nI_1, nI_clamp (show i < 2 ^ 31 by omega)]
      refine ih (i + 1) (by omega) k _ (by omega) (fun c hc => ?_) (fun j hj => ?_)
      · rw [g_uun (by rw [bne_iff_ne]; exact fun z => hc z.symm)]
        exact h1 c hc
      · rw [g_uus, h1 1 (by omega)]
        by_cases q : j = i
        · rw [q, g_us]
        · rw [g_un (by rw [bne_iff_ne]; exact fun z => q z.symm)]
          exact h2 j (by omega)
  have I := main 10 0 (by omega) 8589934592 R (by omega) (fun _ _ => rfl) (fun j hj => absurd hj (by omega))
  rw [nI_0] at I
  exact I
theorem cp_2_42 (F : Nat → Int32) (R : Nat → Nat → Int32) : ∃ R', sp_X11_copies_r2_r42 F R = (F, R') ∧ (∀ c, c ≠ 42 → R' c = R c) ∧ ∀ j, j < 10 → R' 42 j = R 2 j := by
  have main : ∀ d i, i + d = 10 → ∀ (k : Nat) (R1 : Nat → Nat → Int32), d < k → (∀ c, c ≠ 42 → R1 c = R c) → (∀ j, j < i → R1 42 j = R 2 j) → ∃ R', K_X11_copies_r2_r42_2 F k R1 (nI i) = (F, R') ∧ (∀ c, c ≠ 42 → R' c = R c) ∧ ∀ j, j < 10 → R' 42 j = R 2 j := by
    intro d
    induction d with
    | zero =>
      intro i hi k R1 hk h1 h2
      obtain ⟨k, rfl⟩ : ∃ n', k = n' + 1 := ⟨k - 1, by omega⟩
      obtain rfl : i = 10 := by omega
      rw [ks_X11_copies_r2_r42_2]
      unfold KB_X11_copies_r2_r42_2
      rw [if_pos ub_10e]
      exact ⟨R1, rfl, h1, h2⟩
    | succ d ih =>
      intro i hi k R1 hk h1 h2
      obtain ⟨k, rfl⟩ : ∃ n', k = n' + 1 := ⟨k - 1, by omega⟩
      rw [ks_X11_copies_r2_r42_2]
      unfold KB_X11_copies_r2_r42_2
      rw [if_neg (ub_10 (by omega))]
      simp only [k_e, nI_1, nI_clamp (show i < 2 ^ 31 by omega)]
      refine ih (i + 1) (by omega) k _ (by omega) (fun c hc => ?_) (fun j hj => ?_)
      · rw [g_uun (by rw [bne_iff_ne]; exact fun z => hc z.symm)]
        exact h1 c hc
      · rw [g_uus, h1 2 (by omega)]
        by_cases q : j = i
        · rw [q, g_us]
        · rw [g_un (by rw [bne_iff_ne]; exact fun z => q z.symm)]
          exact h2 j (by omega)
  have I := main 10 0 (by omega) 8589934592 R (by omega) (fun _ _ => rfl) (fun j hj => absurd hj (by omega))
  rw [nI_0] at I
  exact I
theorem cp_3_43 (F : Nat → Int32) (R : Nat → Nat → Int32) : ∃ R', sp_X11_copies_r3_r43 F R = (F, R') ∧ (∀ c, c ≠ 43 → R' c = R c) ∧ ∀ j, j < 10 → R' 43 j = R 3 j := by
  have main : ∀ d i, i + d = 10 → ∀ (k : Nat) (R1 : Nat → Nat → Int32), d < k → (∀ c, c ≠ 43 → R1 c = R c) → (∀ j, j < i → R1 43 j = R 3 j) → ∃ R', K_X11_copies_r3_r43_2 F k R1 (nI i) = (F, R') ∧ (∀ c, c ≠ 43 → R' c = R c) ∧ ∀ j, j < 10 → R' 43 j = R 3 j := by
    intro d
    induction d with
    | zero =>
      intro i hi k R1 hk h1 h2
      obtain ⟨k, rfl⟩ : ∃ n', k = n' + 1 := ⟨k - 1, by omega⟩
      obtain rfl : i = 10 := by omega
      rw [ks_X11_copies_r3_r43_2]
      unfold KB_X11_copies_r3_r43_2
      rw [if_pos ub_10e]
      exact ⟨R1, rfl, h1, h2⟩
    | succ d ih =>
      intro i hi k R1 hk h1 h2
      obtain ⟨k, rfl⟩ : ∃ n', k = n' + 1 := ⟨k - 1, by omega⟩
      rw [ks_X11_copies_r3_r43_2]
      unfold KB_X11_copies_r3_r43_2
      rw [if_neg (ub_10 (by omega))]
      simp only [k_e, nI_1, nI_clamp (show i < 2 ^ 31 by omega)]
      refine ih (i + 1) (by omega) k _ (by omega) (fun c hc => ?_) (fun j hj => ?_)
      · rw [g_uun (by rw [bne_iff_ne]; exact fun z => hc z.symm)]
        exact h1 c hc
      · rw [g_uus, h1 3 (by omega)]
        by_cases q : j = i
        · rw [q, g_us]
        · rw [g_un (by rw [bne_iff_ne]; exact fun z => q z.symm)]
          exact h2 j (by omega)
  have I := main 10 0 (by omega) 8589934592 R (by omega) (fun _ _ => rfl) (fun j hj => absurd hj (by omega))
  rw [nI_0] at I
  exact I
theorem cp_4_44 (F : Nat → Int32) (R : Nat → Nat → Int32) : ∃ R', sp_X11_copies_r4_r44 F R = (F, R') ∧ (∀ c, c ≠ 44 → R' c = R c) ∧ ∀ j, j < 10 → R' 44 j = R 4 j := by
  have main : ∀ d i, i + d = 10 → ∀ (k : Nat) (R1 : Nat → Nat → Int32), d < k → (∀ c, c ≠ 44 → R1 c = R c) → (∀ j, j < i → R1 44 j = R 4 j) → ∃ R', K_X11_copies_r4_r44_2 F k R1 (nI i) = (F, R') ∧ (∀ c, c ≠ 44 → R' c = R c) ∧ ∀ j, j < 10 → R' 44 j = R 4 j := by
    intro d
    induction d with
    | zero =>
      intro i hi k R1 hk h1 h2
      obtain ⟨k, rfl⟩ : ∃ n', k = n' + 1 := ⟨k - 1, by omega⟩
      obtain rfl : i = 10 := by omega
      rw [ks_X11_copies_r4_r44_2]
      unfold KB_X11_copies_r4_r44_2
      rw [if_pos ub_10e]
      exact ⟨R1, rfl, h1, h2⟩
    | succ d ih =>
      intro i hi k R1 hk h1 h2
      obtain ⟨k, rfl⟩ : ∃ n', k = n' + 1 := ⟨k - 1, by omega⟩
      rw [ks_X11_copies_r4_r44_2]
      unfold KB_X11_copies_r4_r44_2
      rw [if_neg (ub_10 (by omega))]
      simp only [k_e, nI_1, nI_clamp (show i < 2 ^ 31 by omega)]
      refine ih (i + 1) (by omega) k _ (by omega) (fun c hc => ?_) (fun j hj => ?_)
      · rw [g_uun (by rw [bne_iff_ne]; exact fun z => hc z.symm)]
        exact h1 c hc
      · rw [g_uus, h1 4 (by omega)]
        by_cases q : j = i
        · rw [q, g_us]
        · rw [g_un (by rw [bne_iff_ne]; exact fun z => q z.symm)]
          exact h2 j (by omega)
  have I := main 10 0 (by omega) 8589934592 R (by omega) (fun _ _ => rfl) (fun j hj => absurd hj (by omega))
  rw [nI_0] at I
  exact I
theorem cp_5_45 (F : Nat → Int32) (R : Nat → Nat → Int32) : ∃ R', sp_X11_copies_r5_r45 F R = (F, R') ∧ (∀ c, c ≠ 45 → R' c = R c) ∧ ∀ j, j < 10 → R' 45 j = R 5 j := by
  have main : ∀ d i, i + d = 10 → ∀ (k : Nat) (R1 : Nat → Nat → Int32), d < k → (∀ c, c ≠ 45 → R1 c = R c) → (∀ j, j < i → R1 45 j = R 5 j) → ∃ R', K_X11_copies_r5_r45_2 F k R1 (nI i) = (F, R') ∧ (∀ c, c ≠ 45 → R' c = R c) ∧ ∀ j, j < 10 → R' 45 j = R 5 j := by
    intro d
    induction d with
    | zero =>
      intro i hi k R1 hk h1 h2
      obtain ⟨k, rfl⟩ : ∃ n', k = n' + 1 := ⟨k - 1, by omega⟩
      obtain rfl : i = 10 := by omega
      rw [ks_X11_copies_r5_r45_2]
      unfold KB_X11_copies_r5_r45_2
      rw [if_pos ub_10e]
      exact ⟨R1, rfl, h1, h2⟩
    | succ d ih =>
      intro i hi k R1 hk h1 h2
      obtain ⟨k, rfl⟩ : ∃ n', k = n' + 1 := ⟨k - 1, by omega⟩
      rw [ks_X11_copies_r5_r45_2]
      unfold KB_X11_copies_r5_r45_2
      rw [if_neg (ub_10 (by omega))]
      simp only [k_e, nI_1, nI_clamp (show i < 2 ^ 31 by omega)]
      refine ih (i + 1) (by omega) k _ (by omega) (fun c hc => ?_) (fun j hj => ?_)
      · rw [g_uun (by rw [bne_iff_ne]; exact fun z => hc z.symm)]
        exact h1 c hc
      · rw [g_uus, h1 5 (by omega)]
        by_cases q : j = i
        · rw [q, g_us]
        · rw [g_un (by rw [bne_iff_ne]; exact fun z => q z.symm)]
          exact h2 j (by omega)
  have I := main 10 0 (by omega) 8589934592 R (by omega) (fun _ _ => rfl) (fun j hj => absurd hj (by omega))
  rw [nI_0] at I
  exact I
theorem cp_6_46 (F : Nat → Int32) (R : Nat → Nat → Int32) : ∃ R', sp_X11_copies_r6_r46 F R = (F, R') ∧ (∀ c, c ≠ 46 → R' c = R c) ∧ ∀ j, j < 10 → R' 46 j = R 6 j := by
  have main : ∀ d i, i + d = 10 → ∀ (k : Nat) (R1 : Nat → Nat → Int32), d < k → (∀ c, c ≠ 46 → R1 c = R c) → (∀ j, j < i → R1 46 j = R 6 j) → ∃ R', K_X11_copies_r6_r46_2 F k R1 (nI i) = (F, R') ∧ (∀ c, c ≠ 46 → R' c = R c) ∧ ∀ j, j < 10 → R' 46 j = R 6 j := by
    intro d
    induction d with
    | zero =>
      intro i hi k R1 hk h1 h2
      obtain ⟨k, rfl⟩ : ∃ n', k = n' + 1 := ⟨k - 1, by omega⟩
      obtain rfl : i = 10 := by omega
      rw [ks_X11_copies_r6_r46_2]
      unfold KB_X11_copies_r6_r46_2
      rw [if_pos ub_10e]
      exact ⟨R1, rfl, h1, h2⟩
    | succ d ih =>
      intro i hi k R1 hk h1 h2
      obtain ⟨k, rfl⟩ : ∃ n', k = n' + 1 := ⟨k - 1, by omega⟩
      rw [ks_X11_copies_r6_r46_2]
      unfold KB_X11_copies_r6_r46_2
      rw [if_neg (ub_10 (by omega))]
      simp only [k_e, nI_1, nI_clamp (show i < 2 ^ 31 by omega)]
      refine ih (i + 1) (by omega) k _ (by omega) (fun c hc => ?_) (fun j hj => ?_)
      · rw [g_uun (by rw [bne_iff_ne]; exact fun z => hc z.symm)]
        exact h1 c hc
      · rw [g_uus, h1 6 (by omega)]
        by_cases q : j = i
        · rw [q, g_us]
        · rw [g_un (by rw [bne_iff_ne]; exact fun z => q z.symm)]
          exact h2 j (by omega)
  have I := main 10 0 (by omega) 8589934592 R (by omega) (fun _ _ => rfl) (fun j hj => absurd hj (by omega))
  rw [nI_0] at I
  exact I
theorem cp_7_47 (F : Nat → Int32) (R : Nat → Nat → Int32) : ∃ R', sp_X11_copies_r7_r47 F R = (F, R') ∧ (∀ c, c ≠ 47 → R' c = R c) ∧ ∀ j, j < 10 → R' 47 j = R 7 j := by
  have main : ∀ d i, i + d = 10 → ∀ (k : Nat) (R1 : Nat → Nat → Int32), d < k → (∀ c, c ≠ 47 → R1 c = R c) → (∀ j, j < i → R1 47 j = R 7 j) → ∃ R', K_X11_copies_r7_r47_2 F k R1 (nI i) = (F, R') ∧ (∀ c, c ≠ 47 → R' c = R c) ∧ ∀ j, j < 10 → R' 47 j = R 7 j := by
    intro d
    induction d with
    | zero =>
      intro i hi k R1 hk h1 h2
      obtain ⟨k, rfl⟩ : ∃ n', k = n' + 1 := ⟨k - 1, by omega⟩
      obtain rfl : i = 10 := by omega
      rw [ks_X11_copies_r7_r47_2]
      unfold KB_X11_copies_r7_r47_2
      rw [if_pos ub_10e]
      exact ⟨R1, rfl, h1, h2⟩
    | succ d ih =>
      intro i hi k R1 hk h1 h2
      obtain ⟨k, rfl⟩ : ∃ n', k = n' + 1 := ⟨k - 1, by omega⟩
      rw [ks_X11_copies_r7_r47_2]
      unfold KB_X11_copies_r7_r47_2
      rw [if_neg (ub_10 (by omega))]
      simp only [k_e, nI_1, nI_clamp (show i < 2 ^ 31 by omega)]
      refine ih (i + 1) (by omega) k _ (by omega) (fun c hc => ?_) (fun j hj => ?_)
      · rw [g_uun (by rw [bne_iff_ne]; exact fun z => hc z.symm)]
        exact h1 c hc
      · rw [g_uus, h1 7 (by omega)]
        by_cases q : j = i
        · rw [q, g_us]
        · rw [g_un (by rw [bne_iff_ne]; exact fun z => q z.symm)]
          exact h2 j (by omega)
  have I := main 10 0 (by omega) 8589934592 R (by omega) (fun _ _ => rfl) (fun j hj => absurd hj (by omega))
  rw [nI_0] at I
  exact I
theorem cp_8_48 (F : Nat → Int32) (R : Nat → Nat → Int32) : ∃ R', sp_X11_copies_r8_r48 F R = (F, R') ∧ (∀ c, c ≠ 48 → R' c = R c) ∧ ∀ j, j < 10 → R' 48 j = R 8 j := by
  have main : ∀ d i, i + d = 10 → ∀ (k : Nat) (R1 : Nat → Nat → Int32), d < k → (∀ c, c ≠ 48 → R1 c = R c) → (∀ j, j < i → R1 48 j = R 8 j) → ∃ R', K_X11_copies_r8_r48_2 F k R1 (nI i) = (F, R') ∧ (∀ c, c ≠ 48 → R' c = R c) ∧ ∀ j, j < 10 → R' 48 j = R 8 j := by
    intro d
    induction d with
    | zero =>
      intro i hi k R1 hk h1 h2
      obtain ⟨k, rfl⟩ : ∃ n', k = n' + 1 := ⟨k - 1, by omega⟩
      obtain rfl : i = 10 := by omega
      rw [ks_X11_copies_r8_r48_2]
      unfold KB_X11_copies_r8_r48_2
      rw [if_pos ub_10e]
      exact ⟨R1, rfl, h1, h2⟩
    | succ d ih =>
      intro i hi k R1 hk h1 h2
      obtain ⟨k, rfl⟩ : ∃ n', k = n' + 1 := ⟨k - 1, by omega⟩
      rw [ks_X11_copies_r8_r48_2]
      unfold KB_X11_copies_r8_r48_2
      rw [if_neg (ub_10 (by omega))]
      simp only [k_e, nI_1, nI_clamp (show i < 2 ^ 31 by omega)]
      refine ih (i + 1) (by omega) k _ (by omega) (fun c hc => ?_) (fun j hj => ?_)
      · rw [g_uun (by rw [bne_iff_ne]; exact fun z => hc z.symm)]
        exact h1 c hc
      · rw [g_uus, h1 8 (by omega)]
        by_cases q : j = i
        · rw [q, g_us]
        · rw [g_un (by rw [bne_iff_ne]; exact fun z => q z.symm)]
          exact h2 j (by omega)
  have I := main 10 0 (by omega) 8589934592 R (by omega) (fun _ _ => rfl) (fun j hj => absurd hj (by omega))
  rw [nI_0] at I
  exact I
theorem cp_41_1 (F : Nat → Int32) (R : Nat → Nat → Int32) : ∃ R', sp_X11_copies_r41_r1 F R = (F, R') ∧ (∀ c, c ≠ 1 → R' c = R c) ∧ ∀ j, j < 10 → R' 1 j = R 41 j := by
  have main : ∀ d i, i + d = 10 → ∀ (k : Nat) (R1 : Nat → Nat → Int32), d < k → (∀ c, c ≠ 1 → R1 c = R c) → (∀ j, j < i → R1 1 j = R 41 j) → ∃ R', K_X11_copies_r41_r1_2 F k R1 (nI i) = (F, R') ∧ (∀ c, c ≠ 1 → R' c = R c) ∧ ∀ j, j < 10 → R' 1 j = R 41 j := by
    intro d
    induction d with
    | zero =>
      intro i hi k R1 hk h1 h2
      obtain ⟨k, rfl⟩ : ∃ n', k = n' + 1 := ⟨k - 1, by omega⟩
      obtain rfl : i = 10 := by omega
      rw [ks_X11_copies_r41_r1_2]
      unfold KB_X11_copies_r41_r1_2
      rw [if_pos ub_10e]
      exact ⟨R1, rfl, h1, h2⟩
    | succ d ih =>
      intro i hi k R1 hk h1 h2
      obtain ⟨k, rfl⟩ : ∃ n', k = n' + 1 := ⟨k - 1, by omega⟩
      rw [ks_X11_copies_r41_r1_2]
      unfold KB_X11_copies_r41_r1_2
      rw [if_neg (ub_10 (by omega))]
      simp only [k_e, nI_1, nI_clamp (show i < 2 ^ 31 by omega)]
      refine ih (i + 1) (by omega) k _ (by omega) (fun c hc => ?_) (fun j hj => ?_)
      · rw [g_uun (by rw [bne_iff_ne]; exact fun z => hc z.symm)]
        exact h1 c hc
      · rw [g_uus, h1 41 (by omega)]
        by_cases q : j = i
        · rw [q, g_us]
        · rw [g_un (by rw [bne_iff_ne]; exact fun z => q z.symm)]
          exact h2 j (by omega)
  have I := main 10 0 (by omega) 8589934592 R (by omega) (fun _ _ => rfl) (fun j hj => absurd hj (by omega))
  rw [nI_0] at I
  exact I
theorem cp_42_2 (F : Nat → Int32) (R : Nat → Nat → Int32) : ∃ R', sp_X11_copies_r42_r2 F R = (F, R') ∧ (∀ c, c ≠ 2 → R' c = R c) ∧ ∀ j, j < 10 → R' 2 j = R 42 j := by
  have main : ∀ d i, i + d = 10 → ∀ (k : Nat) (R1 : Nat → Nat → Int32), d < k → (∀ c, c ≠ 2 → R1 c = R c) → (∀ j, j < i → R1 2 j = R 42 j) → ∃ R', K_X11_copies_r42_r2_2 F k R1 (nI i) = (F, R') ∧ (∀ c, c ≠ 2 → R' c = R c) ∧ ∀ j, j < 10 → R' 2 j = R 42 j := by
    intro d
    induction d with
    | zero =>
      intro i hi k R1 hk h1 h2
      obtain ⟨k, rfl⟩ : ∃ n', k = n' + 1 := ⟨k - 1, by omega⟩
      obtain rfl : i = 10 := by omega
      rw [ks_X11_copies_r42_r2_2]
      unfold KB_X11_copies_r42_r2_2
      rw [if_pos ub_10e]
      exact ⟨R1, rfl, h1, h2⟩
    | succ d ih =>
      intro i hi k R1 hk h1 h2
      obtain ⟨k, rfl⟩ : ∃ n', k = n' + 1 := ⟨k - 1, by omega⟩
      rw [ks_X11_copies_r42_r2_2]
      unfold KB_X11_copies_r42_r2_2
      rw [if_neg (ub_10 (by omega))]
      simp only [k_e, nI_1, nI_clamp (show i < 2 ^ 31 by omega)]
      refine ih (i + 1) (by omega) k _ (by omega) (fun c hc => ?_) (fun j hj => ?_)
      · rw [g_uun (by rw [bne_iff_ne]; exact fun z => hc z.symm)]
        exact h1 c hc
      · rw [g_uus, h1 42 (by omega)]
        by_cases q : j = i
        · rw [q, g_us]
        · rw [g_un (by rw [bne_iff_ne]; exact fun z => q z.symm)]
          exact h2 j (by omega)
  have I := main 10 0 (by omega) 8589934592 R (by omega) (fun _ _ => rfl) (fun j hj => absurd hj (by omega))
  rw [nI_0] at I
  exact I
theorem cp_43_3 (F : Nat → Int32) (R : Nat → Nat → Int32) : ∃ R', sp_X11_copies_r43_r3 F R = (F, R') ∧ (∀ c, c ≠ 3 → R' c = R c) ∧ ∀ j, j < 10 → R' 3 j = R 43 j := by
  have main : ∀ d i, i + d = 10 → ∀ (k : Nat) (R1 : Nat → Nat → Int32), d < k → (∀ c, c ≠ 3 → R1 c = R c) → (∀ j, j < i → R1 3 j = R 43 j) → ∃ R', K_X11_copies_r43_r3_2 F k R1 (nI i) = (F, R') ∧ (∀ c, c ≠ 3 → R' c = R c) ∧ ∀ j, j < 10 → R' 3 j = R 43 j := by
    intro d
    induction d with
    | zero =>
      intro i hi k R1 hk h1 h2
      obtain ⟨k, rfl⟩ : ∃ n', k = n' + 1 := ⟨k - 1, by omega⟩
      obtain rfl : i = 10 := by omega
      rw [ks_X11_copies_r43_r3_2]
      unfold KB_X11_copies_r43_r3_2
      rw [if_pos ub_10e]
      exact ⟨R1, rfl, h1, h2⟩
    | succ d ih =>
      intro i hi k R1 hk h1 h2
      obtain ⟨k, rfl⟩ : ∃ n', k = n' + 1 := ⟨k - 1, by omega⟩
      rw [ks_X11_copies_r43_r3_2]
      unfold KB_X11_copies_r43_r3_2
      rw [if_neg (ub_10 (by omega))]
      simp only [k_e, nI_1, nI_clamp (show i < 2 ^ 31 by omega)]
      refine ih (i + 1) (by omega) k _ (by omega) (fun c hc => ?_) (fun j hj => ?_)
      · rw [g_uun (by rw [bne_iff_ne]; exact fun z => hc z.symm)]
        exact h1 c hc
      · rw [g_uus, h1 43 (by omega)]
        by_cases q : j = i
        · rw [q, g_us]
        · rw [g_un (by rw [bne_iff_ne]; exact fun z => q z.symm)]
          exact h2 j (by omega)
  have I := main 10 0 (by omega) 8589934592 R (by omega) (fun _ _ => rfl) (fun j hj => absurd hj (by omega))
  rw [nI_0] at I
  exact I
theorem cp_44_4 (F : Nat → Int32) (R : Nat → Nat → Int32) : ∃ R', sp_X11_copies_r44_r4 F R = (F, R') ∧ (∀ c, c ≠ 4 → R' c = R c) ∧ ∀ j, j < 10 → R' 4 j = R 44 j := by
  have main : ∀ d i, i + d = 10 → ∀ (k : Nat) (R1 : Nat → Nat → Int32), d < k → (∀ c, c ≠ 4 → R1 c = R c) → (∀ j, j < i → R1 4 j = R 44 j) → ∃ R', K_X11_copies_r44_r4_2 F k R1 (nI i) = (F, R') ∧ (∀ c, c ≠ 4 → R' c = R c) ∧ ∀ j, j < 10 → R' 4 j = R 44 j := by
    intro d
    induction d with
    | zero =>
      intro i hi k R1 hk h1 h2
      obtain ⟨k, rfl⟩ : ∃ n', k = n' + 1 := ⟨k - 1, by omega⟩
      obtain rfl : i = 10 := by omega
      rw [ks_X11_copies_r44_r4_2]
      unfold KB_X11_copies_r44_r4_2
      rw [if_pos ub_10e]
      exact ⟨R1, rfl, h1, h2⟩
    | succ d ih =>
      intro i hi k R1 hk h1 h2
      obtain ⟨k, rfl⟩ : ∃ n', k = n' + 1 := ⟨k - 1, by omega⟩
      rw [ks_X11_copies_r44_r4_2]
      unfold KB_X11_copies_r44_r4_2
      rw [if_neg (ub_10 (by omega))]
      simp only [k_e, nI_1, nI_clamp (show i < 2 ^ 31 by omega)]
      refine ih (i + 1) (by omega) k _ (by omega) (fun c hc => ?_) (fun j hj => ?_)
      · rw [g_uun (by rw [bne_iff_ne]; exact fun z => hc z.symm)]
        exact h1 c hc
      · rw [g_uus, h1 44 (by omega)]
        by_cases q : j = i
        · rw [q, g_us]
        · rw [g_un (by rw [bne_iff_ne]; exact fun z => q z.symm)]
          exact h2 j (by omega)
  have I := main 10 0 (by omega) 8589934592 R (by omega) (fun _ _ => rfl) (fun j hj => absurd hj (by omega))
  rw [nI_0] at I
  exact I
theorem cp_45_5 (F : Nat → Int32) (R : Nat → Nat → Int32) : ∃ R', sp_X11_copies_r45_r5 F R = (F, R') ∧ (∀ c, c ≠ 5 → R' c = R c) ∧ ∀ j, j < 10 → R' 5 j = R 45 j := by
  have main : ∀ d i, i + d = 10 → ∀ (k : Nat) (R1 : Nat → Nat → Int32), d < k → (∀ c, c ≠ 5 → R1 c = R c) → (∀ j, j < i → R1 5 j = R 45 j) → ∃ R', K_X11_copies_r45_r5_2 F k R1 (nI i) = (F, R') ∧ (∀ c, c ≠ 5 → R' c = R c) ∧ ∀ j, j < 10 → R' 5 j = R 45 j := by
    intro d
    induction d with
    | zero =>
      intro i hi k R1 hk h1 h2
      obtain ⟨k, rfl⟩ : ∃ n', k = n' + 1 := ⟨k - 1, by omega⟩
      obtain rfl : i = 10 := by omega
      rw [ks_X11_copies_r45_r5_2]
      unfold KB_X11_copies_r45_r5_2
      rw [if_pos ub_10e]
      exact ⟨R1, rfl, h1, h2⟩
    | succ d ih =>
      intro i hi k R1 hk h1 h2
      obtain ⟨k, rfl⟩ : ∃ n', k = n' + 1 := ⟨k - 1, by omega⟩
      rw [ks_X11_copies_r45_r5_2]
      unfold KB_X11_copies_r45_r5_2
      rw [if_neg (ub_10 (by omega))]
      simp only [k_e, nI_1, nI_clamp (show i < 2 ^ 31 by omega)]
      refine ih (i + 1) (by omega) k _ (by omega) (fun c hc => ?_) (fun j hj => ?_)
      · rw [g_uun (by rw [bne_iff_ne]; exact fun z => hc z.symm)]
        exact h1 c hc
      · rw [g_uus, h1 45 (by omega)]
        by_cases q : j = i
        · rw [q, g_us]
        · rw [g_un (by rw [bne_iff_ne]; exact fun z => q z.symm)]
          exact h2 j (by omega)
  have I := main 10 0 (by omega) 8589934592 R (by omega) (fun _ _ => rfl) (fun j hj => absurd hj (by omega))
  rw [nI_0] at I
  exact I
theorem cp_46_6 (F : Nat → Int32) (R : Nat → Nat → Int32) : ∃ R', sp_X11_copies_r46_r6 F R = (F, R') ∧ (∀ c, c ≠ 6 → R' c = R c) ∧ ∀ j, j < 10 → R' 6 j = R 46 j := by
  have main : ∀ d i, i + d = 10 → ∀ (k : Nat) (R1 : Nat → Nat → Int32), d < k → (∀ c, c ≠ 6 → R1 c = R c) → (∀ j, j < i → R1 6 j = R 46 j) → ∃ R', K_X11_copies_r46_r6_2 F k R1 (nI i) = (F, R') ∧ (∀ c, c ≠ 6 → R' c = R c) ∧ ∀ j, j < 10 → R' 6 j = R 46 j := by
    intro d
    induction d with
    | zero =>
      intro i hi k R1 hk h1 h2
      obtain ⟨k, rfl⟩ : ∃ n', k = n' + 1 := ⟨k - 1, by omega⟩
      obtain rfl : i = 10 := by omega
      rw [ks_X11_copies_r46_r6_2]
      unfold KB_X11_copies_r46_r6_2
      rw [if_pos ub_10e]
      exact ⟨R1, rfl, h1, h2⟩
    | succ d ih =>
      intro i hi k R1 hk h1 h2
      obtain ⟨k, rfl⟩ : ∃ n', k = n' + 1 := ⟨k - 1, by omega⟩
      rw [ks_X11_copies_r46_r6_2]
      unfold KB_X11_copies_r46_r6_2
      rw [if_neg (ub_10 (by omega))]
      simp only [k_e, nI_1, nI_clamp (show i < 2 ^ 31 by omega)]
      refine ih (i + 1) (by omega) k _ (by omega) (fun c hc => ?_) (fun j hj => ?_)
      · rw [g_uun (by rw [bne_iff_ne]; exact fun z => hc z.symm)]
        exact h1 c hc
      · rw [g_uus, h1 46 (by omega)]
        by_cases q : j = i
        · rw [q, g_us]
        · rw [g_un (by rw [bne_iff_ne]; exact fun z => q z.symm)]
          exact h2 j (by omega)
  have I := main 10 0 (by omega) 8589934592 R (by omega) (fun _ _ => rfl) (fun j hj => absurd hj (by omega))
  rw [nI_0] at I
  exact I
theorem cp_47_7 (F : Nat → Int32) (R : Nat → Nat → Int32) : ∃ R', sp_X11_copies_r47_r7 F R = (F, R') ∧ (∀ c, c ≠ 7 → R' c = R c) ∧ ∀ j, j < 10 → R' 7 j = R 47 j := by
  have main : ∀ d i, i + d = 10 → ∀ (k : Nat) (R1 : Nat → Nat → Int32), d < k → (∀ c, c ≠ 7 → R1 c = R c) → (∀ j, j < i → R1 7 j = R 47 j) → ∃ R', K_X11_copies_r47_r7_2 F k R1 (nI i) = (F, R') ∧ (∀ c, c ≠ 7 → R' c = R c) ∧ ∀ j, j < 10 → R' 7 j = R 47 j := by
    intro d
    induction d with
    | zero =>
      intro i hi k R1 hk h1 h2
      obtain ⟨k, rfl⟩ : ∃ n', k = n' + 1 := ⟨k - 1, by omega⟩
      obtain rfl : i = 10 := by omega
      rw [ks_X11_copies_r47_r7_2]
      unfold KB_X11_copies_r47_r7_2
      rw [if_pos ub_10e]
      exact ⟨R1, rfl, h1, h2⟩
    | succ d ih =>
      intro i hi k R1 hk h1 h2
      obtain ⟨k, rfl⟩ : ∃ n', k = n' + 1 := ⟨k - 1, by omega⟩
      rw [ks_X11_copies_r47_r7_2]
      unfold KB_X11_copies_r47_r7_2
      rw [if_neg (ub_10 (by omega))]
      simp only [k_e, nI_1, nI_clamp (show i < 2 ^ 31 by omega)]
      refine ih (i + 1) (by omega) k _ (by omega) (fun c hc => ?_) (fun j hj => ?_)
      · rw [g_uun (by rw [bne_iff_ne]; exact fun z => hc z.symm)]
        exact h1 c hc
      · rw [g_uus, h1 47 (by omega)]
        by_cases q : j = i
        · rw [q, g_us]
        · rw [g_un (by rw [bne_iff_ne]; exact fun z => q z.symm)]
          exact h2 j (by omega)
  have I := main 10 0 (by omega) 8589934592 R (by omega) (fun _ _ => rfl) (fun j hj => absurd hj (by omega))
  rw [nI_0] at I
  exact I
theorem cp_48_8 (F : Nat → Int32) (R : Nat → Nat → Int32) : ∃ R', sp_X11_copies_r48_r8 F R = (F, R') ∧ (∀ c, c ≠ 8 → R' c = R c) ∧ ∀ j, j < 10 → R' 8 j = R 48 j := by
  have main : ∀ d i, i + d = 10 → ∀ (k : Nat) (R1 : Nat → Nat → Int32), d < k → (∀ c, c ≠ 8 → R1 c = R c) → (∀ j, j < i → R1 8 j = R 48 j) → ∃ R', K_X11_copies_r48_r8_2 F k R1 (nI i) = (F, R') ∧ (∀ c, c ≠ 8 → R' c = R c) ∧ ∀ j, j < 10 → R' 8 j = R 48 j := by
    intro d
    induction d with
    | zero =>
      intro i hi k R1 hk h1 h2
      obtain ⟨k, rfl⟩ : ∃ n', k = n' + 1 := ⟨k - 1, by omega⟩
      obtain rfl : i = 10 := by omega
      rw [ks_X11_copies_r48_r8_2]
      unfold KB_X11_copies_r48_r8_2
      rw [if_pos ub_10e]
      exact ⟨R1, rfl, h1, h2⟩
    | succ d ih =>
      intro i hi k R1 hk h1 h2
      obtain ⟨k, rfl⟩ : ∃ n', k = n' + 1 := ⟨k - 1, by omega⟩
      rw [ks_X11_copies_r48_r8_2]
      unfold KB_X11_copies_r48_r8_2
      rw [if_neg (ub_10 (by omega))]
      simp only [k_e, nI_1, nI_clamp (show i < 2 ^ 31 by omega)]
      refine ih (i + 1) (by omega) k _ (by omega) (fun c hc => ?_) (fun j hj => ?_)
      · rw [g_uun (by rw [bne_iff_ne]; exact fun z => hc z.symm)]
        exact h1 c hc
      · rw [g_uus, h1 48 (by omega)]
        by_cases q : j = i
        · rw [q, g_us]
        · rw [g_un (by rw [bne_iff_ne]; exact fun z => q z.symm)]
          exact h2 j (by omega)
  have I := main 10 0 (by omega) 8589934592 R (by omega) (fun _ _ => rfl) (fun j hj => absurd hj (by omega))
  rw [nI_0] at I
  exact I
def bits10 (x : Int32) : Int32 := 0 + (x >>> (nI 0 &&& 31) &&& 1) + (x >>> (nI 1 &&& 31) &&& 1) + (x >>> (nI 2 &&& 31) &&& 1) + (x >>> (nI 3 &&& 31) &&& 1) + (x >>> (nI 4 &&& 31) &&& 1) + (x >>> (nI 5 &&& 31) &&& 1) + (x >>> (nI 6 &&& 31) &&& 1) + (x >>> (nI 7 &&& 31) &&& 1) + (x >>> (nI 8 &&& 31) &&& 1) + (x >>> (nI 9 &&& 31) &&& 1)
theorem um_bits (F : Nat → Int32) (R : Nat → Nat → Int32) (x : Int32) : sp_X11_bits F R x = bits10 x := by
  have step : ∀ k i y, i < 10 → K_X11_bits_4 x (k + 1) y (nI i) = K_X11_bits_4 x k (y + (x >>> (nI i &&& 31) &&& 1)) (nI (i + 1)) := by
    intro k i y hi
    rw [ks_X11_bits_4]
    unfold KB_X11_bits_4
    rw [if_neg (ub_10 hi)]
    simp only [k_e, nI_1]
  have last : ∀ k y, K_X11_bits_4 x (k + 1) y (nI 10) = y := by
    intro k y
    rw [ks_X11_bits_4]
    unfold KB_X11_bits_4
    rw [if_pos ub_10e]
  unfold sp_X11_bits
  have e : ∃ k, 8589934592 = ((((((((((k + 1) + 1) + 1) + 1) + 1) + 1) + 1) + 1) + 1) + 1) + 1 := ⟨8589934581, rfl⟩
  obtain ⟨k, e⟩ := e
  have I : K_X11_bits_4 x (((((((((((k + 1) + 1) + 1) + 1) + 1) + 1) + 1) + 1) + 1) + 1) + 1) 0 (nI 0) = bits10 x := by
    rw [step _ 0 _ (by omega), step _ 1 _ (by omega), step _ 2 _ (by omega), step _ 3 _ (by omega), step _ 4 _ (by omega), step _ 5 _ (by omega), step _ 6 _ (by omega), step _ 7 _ (by omega), step _ 8 _ (by omega), step _ 9 _ (by omega), last]
    rfl
  rw [nI_0] at I
  rw [e]
  exact I
theorem bits_all : ∀ n : Fin 1024, sp_J6_bitCount_0f7a4_s0 (nI n) = bits10 (nI n) := by decide +kernel
theorem bits_eq {x : Int32} (h : jv 0 1023 x) : sp_J6_bitCount_0f7a4_s0 x = bits10 x := by
  obtain ⟨n, rfl, _, hn, _⟩ := jv_n h (by omega)
  exact bits_all ⟨n, by omega⟩
theorem tab_keep {F G : Nat → Int32} {R S : Nat → Nat → Int32} (h : UTab F R G S) : UAns UTab (sp_X10_keep F R) (sp_X11_keep G S) := by
  unfold sp_X10_keep sp_X11_keep sp_X8_copy_3_r1
  simp only [k_e, k_t2]
  have e : sp_J6_bitCount_0f7a4_s0 (F 19) = bits10 (G 4) := by rw [bits_eq h.2.2.2.2.2.1, h.2.2.2.2.1]
  generalize hG : upd (upd (upd (upd (upd (upd G 77 1) 78 (G 0)) 79 (G 1)) 80 (G 2)) 81 (G 3)) 82 (G 4) = G1
  obtain ⟨S1, e1, a1, b1⟩ := cp_1_41 G1 S
  rw [e1, k_t2]
  obtain ⟨S2, e2, a2, b2⟩ := cp_2_42 G1 S1
  rw [e2, k_t2]
  obtain ⟨S3, e3, a3, b3⟩ := cp_3_43 G1 S2
  rw [e3, k_t2]
  obtain ⟨S4, e4, a4, b4⟩ := cp_4_44 G1 S3
  rw [e4, k_t2]
  obtain ⟨S5, e5, a5, b5⟩ := cp_5_45 G1 S4
  rw [e5, k_t2]
  obtain ⟨S6, e6, a6, b6⟩ := cp_6_46 G1 S5
  rw [e6, k_t2]
  obtain ⟨S7, e7, a7, b7⟩ := cp_7_47 G1 S6
  rw [e7, k_t2]
  obtain ⟨S8, e8, a8, b8⟩ := cp_8_48 G1 S7
  rw [e8, k_t2]
  have x1 : (upd (upd (upd (upd (upd (upd F 48 (F 16)) 49 (F 17)) 50 (F 18)) 51 (F 19)) 52 (F 20)) 11 1) 19 = F 19 := by simp (decide := true) only [uu, if_false]
  have x2 : (upd (upd (upd (upd (upd F 48 (F 16)) 49 (F 17)) 50 (F 18)) 51 (F 19)) 52 (F 20)) 19 = F 19 := by simp (decide := true) only [uu, if_false]
  rw [um_bits]
  try rw [x1]
  try rw [x2]
  rw [e]
  refine uans ?_
  obtain ⟨h1, h2, h3, h4, h5, h6, h7, h8, h9⟩ := h
  subst hG
  unfold UTab
  simp (decide := true) only [uu, ug, if_true, if_false]
  have low : ∀ c, c < 41 → S8 c = S c := fun c hc => (a8 c (by omega)).trans ((a7 c (by omega)).trans ((a6 c (by omega)).trans ((a5 c (by omega)).trans ((a4 c (by omega)).trans ((a3 c (by omega)).trans ((a2 c (by omega)).trans (a1 c (by omega))))))))
  refine ⟨h1, h2, h3, h4, h5, h6, fun j hj ht s hs => ?_, trivial, fun _ => ⟨h1, h2, h3, h4, h5, h6, fun j hj ht s hs => ?_⟩⟩
  · rw [low (1 + s) (by omega)]
    exact h7 j hj ht s hs
  · have ec : va_cpy (R 2) (R 4) 0 0 80 (8 * j + s) = R 2 (8 * j + s) := by
      unfold va_cpy
      rw [if_pos (by omega)]
      congr 1
      omega
    rw [ec, h7 j hj ht s hs]
    match s, hs with
    | 0, _ => exact (show S8 41 j = S 1 j by rw [a8 41 (by omega), a7 41 (by omega), a6 41 (by omega), a5 41 (by omega), a4 41 (by omega), a3 41 (by omega), a2 41 (by omega), b1 j hj]).symm
    | 1, _ => exact (show S8 42 j = S 2 j by rw [a8 42 (by omega), a7 42 (by omega), a6 42 (by omega), a5 42 (by omega), a4 42 (by omega), a3 42 (by omega), b2 j hj, a1 2 (by omega)]).symm
    | 2, _ => exact (show S8 43 j = S 3 j by rw [a8 43 (by omega), a7 43 (by omega), a6 43 (by omega), a5 43 (by omega), a4 43 (by omega), b3 j hj, a2 3 (by omega), a1 3 (by omega)]).symm
    | 3, _ => exact (show S8 44 j = S 4 j by rw [a8 44 (by omega), a7 44 (by omega), a6 44 (by omega), a5 44 (by omega), b4 j hj, a3 4 (by omega), a2 4 (by omega), a1 4 (by omega)]).symm
    | 4, _ => exact (show S8 45 j = S 5 j by rw [a8 45 (by omega), a7 45 (by omega), a6 45 (by omega), b5 j hj, a4 5 (by omega), a3 5 (by omega), a2 5 (by omega), a1 5 (by omega)]).symm
    | 5, _ => exact (show S8 46 j = S 6 j by rw [a8 46 (by omega), a7 46 (by omega), b6 j hj, a5 6 (by omega), a4 6 (by omega), a3 6 (by omega), a2 6 (by omega), a1 6 (by omega)]).symm
    | 6, _ => exact (show S8 47 j = S 7 j by rw [a8 47 (by omega), b7 j hj, a6 7 (by omega), a5 7 (by omega), a4 7 (by omega), a3 7 (by omega), a2 7 (by omega), a1 7 (by omega)]).symm
    | 7, _ => exact (show S8 48 j = S 8 j by rw [b8 j hj, a7 8 (by omega), a6 8 (by omega), a5 8 (by omega), a4 8 (by omega), a3 8 (by omega), a2 8 (by omega), a1 8 (by omega)]).symm
theorem tab_undo {F G : Nat → Int32} {R S : Nat → Nat → Int32} (h : UTab F R G S) : UAns UTab (sp_X10_undo F R) (sp_X11_undo G S) := by
  unfold sp_X10_undo sp_X11_undo sp_X8_copy_1_r3
  simp only [k_e, k_t2]
  rw [← h.2.2.2.2.2.2.2.1]
  by_cases q : F 11 = 0
  · rw [if_pos q, if_pos q]; exact uans h
  rw [if_neg q, if_neg q]
  generalize hG : upd (upd (upd (upd (upd G 0 (G 78)) 1 (G 79)) 2 (G 80)) 3 (G 81)) 4 (G 82) = G1
  obtain ⟨S1, e1, a1, b1⟩ := cp_41_1 G1 S
  rw [e1, k_t2]
  obtain ⟨S2, e2, a2, b2⟩ := cp_42_2 G1 S1
  rw [e2, k_t2]
  obtain ⟨S3, e3, a3, b3⟩ := cp_43_3 G1 S2
  rw [e3, k_t2]
  obtain ⟨S4, e4, a4, b4⟩ := cp_44_4 G1 S3
  rw [e4, k_t2]
  obtain ⟨S5, e5, a5, b5⟩ := cp_45_5 G1 S4
  rw [e5, k_t2]
  obtain ⟨S6, e6, a6, b6⟩ := cp_46_6 G1 S5
  rw [e6, k_t2]
  obtain ⟨S7, e7, a7, b7⟩ := cp_47_7 G1 S6
  rw [e7, k_t2]
  obtain ⟨S8, e8, a8, b8⟩ := cp_48_8 G1 S7
  rw [e8, k_t2]
  refine uans ?_
  obtain ⟨h1, h2, h3, h4, h5, h6, h7, h8, h9⟩ := h
  obtain ⟨k1, k2, k3, k4, k5, k6, k7⟩ := h9 q
  subst hG
  unfold UTab
  simp (decide := true) only [uu, ug, if_true, if_false]
  have high : ∀ c, 9 ≤ c → S8 c = S c := fun c hc => (a8 c (by omega)).trans ((a7 c (by omega)).trans ((a6 c (by omega)).trans ((a5 c (by omega)).trans ((a4 c (by omega)).trans ((a3 c (by omega)).trans ((a2 c (by omega)).trans (a1 c (by omega))))))))
  refine ⟨k1, k2, k3, k4, k5, k6, fun j hj ht s hs => ?_, h8, fun _ => ⟨k1, k2, k3, k4, k5, k6, fun j hj ht s hs => ?_⟩⟩
  · have ec : va_cpy (R 4) (R 2) 0 0 80 (8 * j + s) = R 4 (8 * j + s) := by
      unfold va_cpy
      rw [if_pos (by omega)]
      congr 1
      omega
    rw [ec, k7 j hj ht s hs]
    match s, hs with
    | 0, _ => exact (show S8 1 j = S 41 j by rw [a8 1 (by omega), a7 1 (by omega), a6 1 (by omega), a5 1 (by omega), a4 1 (by omega), a3 1 (by omega), a2 1 (by omega), b1 j hj]).symm
    | 1, _ => exact (show S8 2 j = S 42 j by rw [a8 2 (by omega), a7 2 (by omega), a6 2 (by omega), a5 2 (by omega), a4 2 (by omega), a3 2 (by omega), b2 j hj, a1 42 (by omega)]).symm
    | 2, _ => exact (show S8 3 j = S 43 j by rw [a8 3 (by omega), a7 3 (by omega), a6 3 (by omega), a5 3 (by omega), a4 3 (by omega), b3 j hj, a2 43 (by omega), a1 43 (by omega)]).symm
    | 3, _ => exact (show S8 4 j = S 44 j by rw [a8 4 (by omega), a7 4 (by omega), a6 4 (by omega), a5 4 (by omega), b4 j hj, a3 44 (by omega), a2 44 (by omega), a1 44 (by omega)]).symm
    | 4, _ => exact (show S8 5 j = S 45 j by rw [a8 5 (by omega), a7 5 (by omega), a6 5 (by omega), b5 j hj, a4 45 (by omega), a3 45 (by omega), a2 45 (by omega), a1 45 (by omega)]).symm
    | 5, _ => exact (show S8 6 j = S 46 j by rw [a8 6 (by omega), a7 6 (by omega), b6 j hj, a5 46 (by omega), a4 46 (by omega), a3 46 (by omega), a2 46 (by omega), a1 46 (by omega)]).symm
    | 6, _ => exact (show S8 7 j = S 47 j by rw [a8 7 (by omega), b7 j hj, a6 47 (by omega), a5 47 (by omega), a4 47 (by omega), a3 47 (by omega), a2 47 (by omega), a1 47 (by omega)]).symm
    | 7, _ => exact (show S8 8 j = S 48 j by rw [b8 j hj, a7 48 (by omega), a6 48 (by omega), a5 48 (by omega), a4 48 (by omega), a3 48 (by omega), a2 48 (by omega), a1 48 (by omega)]).symm
  · rw [high (41 + s) (by omega)]
    exact k7 j hj ht s hs
