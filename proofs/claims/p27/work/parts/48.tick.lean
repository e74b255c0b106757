/-! ===== a tick: the class's and the reference's state side by side ===== -/
theorem u_ssub (a b c : Int32) : a - (b + c) = a - b - c := by
  rw [Int32.sub_eq_add_neg, Int32.neg_add, Int32.sub_eq_add_neg (-b) c, ← Int32.add_assoc, ← Int32.sub_eq_add_neg, ← Int32.sub_eq_add_neg]
def uplc (len : Int32) (k : Nat) : Int32 := nI k * len / 6
def UFold (F : Nat → Int32) (R : Nat → Nat → Int32) (G : Nat → Int32) : Prop := ∃ n, n ≤ 6 ∧ F 601 = nI n ∧ (∀ f, f < n → ∃ k, k < 6 ∧ hb (G 43) (nI k) ∧ ¬ G 1 ≤ uplc (G 0) k ∧ R 41 f = uplc (G 0) k) ∧ (∀ k, k < 6 → hb (G 43) (nI k) → ¬ G 1 ≤ uplc (G 0) k → ∃ f, f < n ∧ R 41 f = uplc (G 0) k)
/-- what an evening does not change -/
def UStat (F : Nat → Int32) (R : Nat → Nat → Int32) (G : Nat → Int32) (S : Nat → Nat → Int32) : Prop :=
  F 691 = G 42 ∧ jv 0 1023 (F 691) ∧ F 241 = G 44 ∧ jv 0 60 (F 241) ∧ (∀ t, t < 60 → nI t < F 241 → R 16 t = S 25 t ∧ jv 0 40 (S 25 t)) ∧ (∀ j, j < 10 → hb (F 691) (nI j) → R 6 (8 * j) = S 1 j ∧ R 6 (8 * j + 2) = S 3 j ∧ R 6 (8 * j + 3) = S 31 j ∧ R 6 (8 * j + 4) = S 5 j ∧ R 6 (8 * j + 5) = S 30 j ∧ jv 1 40 (S 3 j) ∧ jv 1 99 (S 5 j)) ∧ ULaw F R G S ∧ UFold F R G
theorem UStat_e {F F' G G' : Nat → Int32} {R R' S S' : Nat → Nat → Int32} (h : UStat F R G S) (f1 : F' 691 = F 691) (f2 : F' 241 = F 241) (f3 : F' 601 = F 601) (f4 : F' 274 = F 274) (f5 : F' 278 = F 278) (g : ∀ k, k = 0 ∨ k = 1 ∨ k = 28 ∨ k = 42 ∨ k = 43 ∨ k = 44 → G' k = G k) (r : ∀ c, c = 6 ∨ c = 16 ∨ c = 41 ∨ 18 ≤ c ∧ c ≤ 22 → R' c = R c) (s : ∀ c, c = 1 ∨ c = 3 ∨ c = 5 ∨ c = 25 ∨ c = 30 ∨ c = 31 ∨ 18 ≤ c ∧ c ≤ 22 → S' c = S c) : UStat F' R' G' S' := by
  obtain ⟨h1, h2, h3, h4, h5, h6, h7, h8⟩ := h
  unfold UStat
  rw [f1, f2, g 42 (by omega), g 44 (by omega), r 16 (by omega), r 6 (by omega), s 25 (by omega), s 1 (by omega), s 3 (by omega), s 5 (by omega), s 30 (by omega), s 31 (by omega)]
  refine ⟨h1, h2, h3, h4, h5, h6, ULaw_e h7 f4 f5 (g 28 (by omega)) (fun c h1 h2 => r c (by omega)) (fun c h1 h2 => s c (by omega)), ?_⟩
  unfold UFold
  rw [f3, g 0 (by omega), g 1 (by omega), g 43 (by omega), r 41 (by omega)]
  exact h8
theorem fold_rel {F G : Nat → Int32} {R S : Nat → Nat → Int32} (h : UFold F R G) (e3 : F 603 = G 46 + G 47) (e4 : F 604 = G 47) (x : Int32) : (sp_X0_foldPassed F R x = 0 ↔ sp_X11_foldPasses G S x = 0) := by
  obtain ⟨n, hn, e601, hA, hB⟩ := h
  -- the class: one of its folds passed
  let P : Int32 → Prop := fun v => ¬ (v - G 46 < x) ∧ ¬ x ≤ v - G 46 - G 47
  have cls : ∀ d f, f + d = n → ∀ k, d < k → (K_X0_foldPassed_2 F R x k (nI f) = 0 ↔ ∀ m, f ≤ m → m < n → ¬ P (R 41 m)) := by
    intro d
    induction d with
    | zero =>
      intro f hf k hk
      obtain ⟨k, rfl⟩ : ∃ n', k = n' + 1 := ⟨k - 1, by omega⟩
      rw [ks_X0_foldPassed_2]
      unfold KB_X0_foldPassed_2 K_X0_foldPassed_51
      rw [e601, if_pos (nI_le (by omega) (by omega))]
      exact ⟨fun _ m h1 h2 => absurd h1 (by omega), fun _ => rfl⟩
    | succ d ih =>
      intro f hf k hk
      obtain ⟨k, rfl⟩ : ∃ n', k = n' + 1 := ⟨k - 1, by omega⟩
      have I := ih (f + 1) (by omega) k (by omega)
      rw [ks_X0_foldPassed_2]
      unfold KB_X0_foldPassed_2 K_X0_foldPassed_45
      rw [e601, if_neg (nI_ge (by omega) (by omega)), if_neg (show ¬ (6 : Int32) ≤ nI f from nI_ge (a := f) (b := 6) (by omega) (by omega))]
      simp only [k_e, nI_1, nI_clamp (show f < 2 ^ 31 by omega)]
      have e1 : R 41 f - F 603 = R 41 f - G 46 - G 47 := by rw [e3, u_ssub]
      have e2 : R 41 f - G 46 - G 47 + F 604 = R 41 f - G 46 := by rw [e4, Int32.sub_add_cancel]
      rw [e1, e2]
      have step : (∀ m, f ≤ m → m < n → ¬ P (R 41 m)) ↔ ¬ P (R 41 f) ∧ ∀ m, f + 1 ≤ m → m < n → ¬ P (R 41 m) := by
        constructor
        · intro z
          exact ⟨z f (Nat.le_refl _) (by omega), fun m h1 h2 => z m (by omega) h2⟩
        · intro z m h1 h2
          by_cases q : m = f
          · rw [q]; exact z.1
          · exact z.2 m (by omega) h2
      rw [step]
      by_cases q1 : x ≤ R 41 f - G 46 - G 47
      · rw [if_pos q1, I]
        exact ⟨fun z => ⟨fun p => p.2 q1, z⟩, fun z => z.2⟩
      · rw [if_neg q1]
        by_cases q2 : R 41 f - G 46 < x
        · rw [if_pos q2, I]
          exact ⟨fun z => ⟨fun p => p.1 q2, z⟩, fun z => z.2⟩
        · rw [if_neg q2]
          exact ⟨fun z => absurd z (by decide), fun z => absurd ⟨q2, q1⟩ z.1⟩
  have ref : ∀ d f, f + d = 6 → ∀ k, d < k → (K_X11_foldPasses_2 G x k (nI f) = 0 ↔ ∀ m, f ≤ m → m < 6 → hb (G 43) (nI m) → ¬ G 1 ≤ uplc (G 0) m → ¬ P (uplc (G 0) m)) := by
    intro d
    induction d with
    | zero =>
      intro f hf k hk
      obtain ⟨k, rfl⟩ : ∃ n', k = n' + 1 := ⟨k - 1, by omega⟩
      rw [ks_X11_foldPasses_2]
      unfold KB_X11_foldPasses_2
      rw [if_pos (show (6 : Int32) ≤ nI f from nI_le (a := 6) (b := f) (by omega) (by omega))]
      exact ⟨fun _ m h1 h2 => absurd h1 (by omega), fun _ => rfl⟩
    | succ d ih =>
      intro f hf k hk
      obtain ⟨k, rfl⟩ : ∃ n', k = n' + 1 := ⟨k - 1, by omega⟩
      have I := ih (f + 1) (by omega) k (by omega)
      rw [ks_X11_foldPasses_2]
      unfold KB_X11_foldPasses_2 K_X11_foldPasses_64
      rw [if_neg (show ¬ (6 : Int32) ≤ nI f from nI_ge (a := f) (b := 6) (by omega) (by omega))]
      simp only [k_e, nI_1]
      have step : (∀ m, f ≤ m → m < 6 → hb (G 43) (nI m) → ¬ G 1 ≤ uplc (G 0) m → ¬ P (uplc (G 0) m)) ↔ (hb (G 43) (nI f) → ¬ G 1 ≤ uplc (G 0) f → ¬ P (uplc (G 0) f)) ∧ ∀ m, f + 1 ≤ m → m < 6 → hb (G 43) (nI m) → ¬ G 1 ≤ uplc (G 0) m → ¬ P (uplc (G 0) m) := by
        constructor
        · intro z
          exact ⟨z f (Nat.le_refl _) (by omega), fun m h1 h2 => z m (by omega) h2⟩
        · intro z m h1 h2
          by_cases q : m = f
          · rw [q]; exact z.1
          · exact z.2 m (by omega) h2
      rw [step]
      by_cases q0 : hb (G 43) (nI f)
      · rw [if_neg (fun e => ub_hasv0.mp e q0)]
        by_cases q1 : G 1 ≤ nI f * G 0 / 6
        · rw [if_pos q1, I]
          exact ⟨fun z => ⟨fun _ p => absurd q1 p, z⟩, fun z => z.2⟩
        · rw [if_neg q1]
          by_cases q2 : nI f * G 0 / 6 - G 46 < x
          · rw [if_pos q2, I]
            exact ⟨fun z => ⟨fun _ _ p => p.1 q2, z⟩, fun z => z.2⟩
          · rw [if_neg q2]
            by_cases q3 : x ≤ nI f * G 0 / 6 - G 46 - G 47
            · rw [if_pos q3, I]
              exact ⟨fun z => ⟨fun _ _ p => p.2 q3, z⟩, fun z => z.2⟩
            · rw [if_neg q3]
              exact ⟨fun z => absurd z (by decide), fun z => absurd ⟨q2, q3⟩ (z.1 q0 q1)⟩
      · rw [if_pos (ub_hasv0.mpr q0), I]
        exact ⟨fun z => ⟨fun p => absurd p q0, z⟩, fun z => z.2⟩
  have c1 := cls n 0 (by omega) 8589934592 (by omega)
  have r1 := ref 6 0 (by omega) 8589934592 (by omega)
  rw [nI_0] at c1 r1
  unfold sp_X0_foldPassed sp_X11_foldPasses
  rw [c1, r1]
  constructor
  · intro z m h1 h2 h3 h4 p
    obtain ⟨f, f1, f2⟩ := hB m h2 h3 h4
    exact z f (by omega) f1 (by rw [f2]; exact p)
  · intro z m h1 h2 p
    obtain ⟨k, k1, k2, k3, k4⟩ := hA m h2
    exact z k (by omega) k1 k2 k3 (by rw [← k4]; exact p)
