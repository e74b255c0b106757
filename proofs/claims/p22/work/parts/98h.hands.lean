/-! ===== odds, and whether one should ===== -/
section UHD
variable {F G : Nat → Int32} {R S : Nat → Nat → Int32}
theorem hands_eq {k : Nat} (hk : 1 ≤ k ∧ k ≤ 3) : sp_X10_hands F R (nI k) = nI (10 ^ k) := by
  have main : ∀ d i, i + d = k → ∀ n, d < n → K_X10_hands_4 (nI k) n (nI (10 ^ i)) (nI i) = nI (10 ^ k) := by
    intro d
    induction d with
    | zero =>
      intro i hi n hn
      obtain ⟨n, rfl⟩ : ∃ n', n = n' + 1 := ⟨n - 1, by omega⟩
      obtain rfl : i = k := hi
      rw [ks_X10_hands_4]
      unfold KB_X10_hands_4 K_X10_hands_25
      rw [if_pos (nI_le (Nat.le_refl _) (by omega))]
    | succ d ih =>
      intro i hi n hn
      obtain ⟨n, rfl⟩ : ∃ n', n = n' + 1 := ⟨n - 1, by omega⟩
      rw [ks_X10_hands_4]
      unfold KB_X10_hands_4 K_X10_hands_25
      rw [if_neg (nI_ge (by omega) (by omega)), if_neg (show ¬ (3 : Int32) ≤ nI i from nI_ge (b := 3) (by omega) (by omega))]
      simp only [k_e]
      rw [show nI (10 ^ i) * 10 = nI (10 ^ (i + 1)) from pk_mul (10 ^ i) 10, nI_1]
      exact ih (i + 1) (by omega) n (by omega)
  unfold sp_X10_hands
  exact main k 0 (by omega) 8589934592 (by omega)
theorem rows_eq {k : Nat} (hk : 1 ≤ k ∧ k ≤ 3) : sp_X11_rowsOf G S (nI k) = nI (10 ^ k) := by
  unfold sp_X11_rowsOf K_X11_rowsOf_23
  have : k = 1 ∨ k = 2 ∨ k = 3 := by omega
  rcases this with rfl | rfl | rfl
  · rw [if_pos (show nI 1 = 1 from rfl)]; rfl
  · rw [if_neg (show ¬ nI 2 = 1 by decide), if_pos (show nI 2 = 2 from rfl)]; rfl
  · rw [if_neg (show ¬ nI 3 = 1 by decide), if_neg (show ¬ nI 3 = 2 by decide)]; rfl
theorem gcd_loop : ∀ k a b y, b < 2 ^ k → a ≤ 100000 → b ≤ 100000 → ¬ (a = 0 ∧ b = 0) → y + 2 * k < 100 → ∀ n l, 2 * k < n → 2 * k < l → ∃ g, 1 ≤ g ∧ g ≤ 100000 ∧ K_X10_commonDivisor_7 n (nI a) (nI b) (nI y) = nI g ∧ K_X11_gcd_4 l (nI a) (nI b) = nI g := by
  have fin : ∀ a y n l, a ≤ 100000 → ¬ a = 0 → y < 100 → K_X10_commonDivisor_7 (n + 1) (nI a) (nI 0) (nI y) = nI a ∧ K_X11_gcd_4 (l + 1) (nI a) (nI 0) = nI a := by
    intro a y n l ha h0 hy
    constructor
    · rw [ks_X10_commonDivisor_7]
      unfold KB_X10_commonDivisor_7 K_X10_commonDivisor_34
      rw [if_neg (show ¬ (100 : Int32) ≤ nI y from nI_ge (b := 100) hy (by omega)), if_pos (show nI 0 = 0 from rfl)]
    · rw [ks_X11_gcd_4]
      unfold KB_X11_gcd_4
      rw [if_pos (show nI 0 = 0 from rfl)]
  have step : ∀ a b y n l, a ≤ 100000 → b ≤ 100000 → ¬ b = 0 → y < 100 → K_X10_commonDivisor_7 (n + 1) (nI a) (nI b) (nI y) = K_X10_commonDivisor_7 n (nI b) (nI (a % b)) (nI (y + 1)) ∧ K_X11_gcd_4 (l + 1) (nI a) (nI b) = K_X11_gcd_4 l (nI b) (nI (a % b)) := by
    intro a b y n l ha hb1 h0 hy
    constructor
    · rw [ks_X10_commonDivisor_7]
      unfold KB_X10_commonDivisor_7 K_X10_commonDivisor_34
      rw [if_neg (show ¬ (100 : Int32) ≤ nI y from nI_ge (b := 100) hy (by omega)), if_neg (nI_ne0 (by omega) (by omega)), k_e, k_e, pk_rem (by omega) (by omega) (by omega), nI_1]
    · rw [ks_X11_gcd_4]
      unfold KB_X11_gcd_4
      rw [if_neg (nI_ne0 (by omega) (by omega)), k_e, pk_rem (by omega) (by omega) (by omega)]
  intro k
  induction k with
  | zero =>
    intro a b y hb1 ha hb2 h0 hy n l hn hl
    obtain ⟨n, rfl⟩ : ∃ n', n = n' + 1 := ⟨n - 1, by omega⟩
    obtain ⟨l, rfl⟩ : ∃ n', l = n' + 1 := ⟨l - 1, by omega⟩
    have hb0 : b = 0 := by
      rw [Nat.pow_zero] at hb1
      omega
    subst hb0
    have h0 : ¬ a = 0 := fun z => h0 ⟨z, rfl⟩
    exact ⟨a, by omega, ha, fin a y n l ha h0 (by omega)⟩
  | succ k ih =>
    intro a b y hb1 ha hb2 h0 hy n l hn hl
    obtain ⟨n, rfl⟩ : ∃ n', n = n' + 2 := ⟨n - 2, by omega⟩
    obtain ⟨l, rfl⟩ : ∃ n', l = n' + 2 := ⟨l - 2, by omega⟩
    by_cases b0 : b = 0
    · subst b0
      have h0 : ¬ a = 0 := fun z => h0 ⟨z, rfl⟩
      exact ⟨a, by omega, ha, fin a y (n + 1) (l + 1) ha h0 (by omega)⟩
    · obtain ⟨s1, s2⟩ := step a b y (n + 1) (l + 1) ha hb2 b0 (by omega)
      have hr := Nat.mod_lt a (show b > 0 by omega)
      rw [s1, s2]
      by_cases r0 : a % b = 0
      · rw [r0]
        exact ⟨b, by omega, hb2, fin b (y + 1) n l hb2 b0 (by omega)⟩
      · obtain ⟨s3, s4⟩ := step b (a % b) (y + 1) n l hb2 (by omega) r0 (by omega)
        rw [s3, s4]
        have h2 := Nat.mod_lt b (show a % b > 0 by omega)
        have h3 : 2 * (b % (a % b)) < b := by
          have h4 := Nat.div_add_mod b (a % b)
          have h5 : 1 ≤ b / (a % b) := (Nat.one_le_div_iff (by omega)).mpr (by omega)
          have h6 : (a % b) * 1 ≤ (a % b) * (b / (a % b)) := Nat.mul_le_mul_left _ h5
          omega
        rw [Nat.pow_succ] at hb1
        exact ih (a % b) (b % (a % b)) (y + 1 + 1) (by omega) (by omega) (by omega) (fun z => r0 z.1) (by omega) n l (by omega) (by omega)
theorem gcd_eq {a b : Nat} (ha : a ≤ 1000) (hb1 : 1 ≤ b ∧ b ≤ 1000) (F : Nat → Int32) (R : Nat → Nat → Int32) : ∃ g, 1 ≤ g ∧ g ≤ 100000 ∧ sp_X10_commonDivisor F R (nI a) (nI b) = nI g ∧ K_X11_gcd_4 8589934592 (nI a) (nI b) = nI g := by
  obtain ⟨g, h1, h2, h3, h4⟩ := gcd_loop 10 a b 0 (by omega) (by omega) (by omega) (by omega) (by omega) 8589934592 8589934592 (by omega) (by omega)
  exact ⟨g, h1, h2, h3, h4⟩
/-- one evening by told draws -/
theorem hand_step (h : UR0 True F R G S) (hl : UTd F R) (h83 : F 83 = F 19) (a : Int32) {v : Nat} (hv : v ≤ 1000) : ∃ Fa F' R' G' S' r w, sp_X1_drawTold F R a (nI v) = (Fa, R) ∧ sp_X0_run Fa R = (F', R') ∧ sp_X11_runsBy G S a (nI v) = (G', S') ∧ UOut F' R' G' S' r w ∧ UR0 True F' R' G' S' ∧ UTd F' R' ∧ F' 83 = F' 19 ∧ F' 691 = G 4 ∧ G' 4 = G 4 ∧ S' 8 = S 8 ∧ R' 2 = R 2 := by
  obtain ⟨t, p1, p2, p3, p4⟩ := id (h.2.2.1 trivial)
  obtain ⟨Sa, Sb, b1, b2, b3, b4, b5⟩ := m_lays (G := G) (S := S) p3 p1
  have e19 : F 19 = G 4 := h.1.2.2.2.2.1
  have hf : ∀ k, k ≠ 672 → k ≠ 674 → k ≠ 675 → (upd (upd (upd F 672 0) 674 a) 675 (nI v)) k = F k := fun k k1 k2 k3 => by rw [uu, if_neg k3, uu, if_neg k2, uu, if_neg k1]
  have f672 : (upd (upd (upd F 672 0) 674 a) 675 (nI v)) 672 = 0 := by simp (decide := true) only [uu, if_true, if_false]
  have f674 : (upd (upd (upd F 672 0) 674 a) 675 (nI v)) 674 = a := by simp (decide := true) only [uu, if_true, if_false]
  have f675 : (upd (upd (upd F 672 0) 674 a) 675 (nI v)) 675 = nI v := by simp (decide := true) only [uu, if_true]
  have eD : sp_X1_drawTold F R a (nI v) = (upd (upd (upd F 672 0) 674 a) 675 (nI v), R) := by
    unfold sp_X1_drawTold
    simp only [k_e]
  generalize upd (upd (upd F 672 0) 674 a) 675 (nI v) = Fa at *
  have hg : ∀ k, k ≠ 42 → k ≠ 43 → k ≠ 44 → k ≠ 49 → k ≠ 50 → k ≠ 51 → (upd (upd (uGL G (nI t)) 49 a) 50 (nI v)) k = G k := fun k k1 k2 k3 k4 k5 k6 => by rw [uu, if_neg k5, uu, if_neg k4]; exact uGL_k G _ ⟨k3, k1, k2, k6, k4⟩
  have hU : UR0 True Fa R G S := UR0_e h (fun k hk => hf k (by unfold cF0 cF at hk; omega) (by unfold cF0 cF at hk; omega) (by unfold cF0 cF at hk; omega)) (fun _ _ => rfl) (fun _ _ => rfl) (fun _ _ => rfl)
  have hL : UTd Fa R := UTd_e hl (fun k hk => hf k (by unfold cfF at hk; omega) (by unfold cfF at hk; omega) (by unfold cfF at hk; omega)) (fun _ _ => rfl)
  have fa83 : Fa 83 = G 4 := by rw [hf 83 (by omega) (by omega) (by omega), h83]; exact e19
  have fa19 : Fa 19 = G 4 := by rw [hf 19 (by omega) (by omega) (by omega)]; exact e19
  obtain ⟨F', R', G', S', r, w, a1, a2, a3, a4, a5, a6, a7, a8, a9⟩ := set_step (Gc := upd (upd (uGL G (nI t)) 49 a) 50 (nI v)) (Sc := Sb) hU hL (by rw [fa83, ← e19]; exact h.1.2.2.2.2.2.1) (fun j hj ht => by rw [fa83] at ht; rw [fa19]; exact ht) p1 p3 hg b5 (by rw [fa83, uu, if_neg (by decide), uu, if_neg (by decide)]; exact uGL_42 _ _) (by rw [uu, if_neg (by decide), uu, if_neg (by decide)]; exact uGL_43 _ _) (by rw [uu, if_neg (by decide), uu, if_neg (by decide)]; exact uGL_44 _ _) (by rw [uu, if_neg (by decide), uu, if_neg (by decide)]; exact uGL_51 _ _) (Or.inr ⟨f672, by rw [uu, if_neg (by decide), uu, if_neg (by decide)]; exact uGL_51 _ _, by rw [uu, if_neg (by decide), uu, if_pos rfl]; exact f674, Or.inr ⟨by rw [uu, if_pos rfl]; exact f675, by rw [uu, if_pos rfl]; exact ⟨by rw [nI_toInt (by omega)]; omega, by rw [nI_toInt (by omega)]; omega⟩⟩⟩) b3 b4
  refine ⟨Fa, F', R', G', S', r, w, eD, a1, ?_, a3, a4, UTd_e hL (fun k hk => a6 k (hk.imp id And.left)) a7, ?_, a5.trans fa83, a8 4 (by unfold cfG; omega), a9 8 (by unfold cfS; omega), a7 2 (by unfold cfR; omega)⟩
  · unfold sp_X11_runsBy
    rw [b1, k_t2, b2, k_t2, k_e, k_e, a2, k_t2]
  · rw [a6 83 (by unfold cfF; omega), a6 19 (by unfold cfF; omega), fa83, fa19]
theorem odds_loop {k c a2 : Int32} {N : Nat} (hN : N ≤ 1000) (hrow : ∀ (G : Nat → Int32) (S : Nat → Nat → Int32), sp_X11_rowsOf G S k = nI N) : ∀ d v, v + d = N → ∀ (n l b : Nat) (F : Nat → Int32) (R : Nat → Nat → Int32) (G : Nat → Int32) (S : Nat → Nat → Int32), d < n → d < l → UR0 True F R G S → UTd F R → F 83 = F 19 → b ≤ v → ∃ g F' R', g ≤ N ∧ K_X7_countHands_6 k (nI N) c n F R (nI b) (nI v) = (nI g, F', R') ∧ (K_X11_odds_43 k c a2 l G S (nI b) (nI v)).1 = if a2 = 0 then nI g / K_X11_gcd_4 8589934592 (nI g) (nI N) else nI N / K_X11_gcd_4 8589934592 (nI g) (nI N) := by
  intro d
  induction d with
  | zero =>
    intro v hv n l b F R G S hn hl _ _ _ hb1
    obtain ⟨n, rfl⟩ : ∃ n', n = n' + 1 := ⟨n - 1, by omega⟩
    obtain ⟨l, rfl⟩ : ∃ n', l = n' + 1 := ⟨l - 1, by omega⟩
    obtain rfl : v = N := hv
    refine ⟨b, F, R, hb1, ?_, ?_⟩
    · rw [ks_X7_countHands_6]
      unfold KB_X7_countHands_6
      rw [if_pos (nI_le (Nat.le_refl _) (by omega))]
    · rw [ks_X11_odds_43]
      unfold KB_X11_odds_43 K_X11_odds_119 sp_X11_gcd
      rw [hrow, k_e, if_pos (nI_le (Nat.le_refl _) (by omega)), k_e, k_e]
      by_cases z : a2 = 0
      · rw [if_pos z, if_pos z, k_e]
      · rw [if_neg z, if_neg z, k_e, k_e]
  | succ d ih =>
    intro v hv n l b F R G S hn hl h hL h83 hb1
    obtain ⟨n, rfl⟩ : ∃ n', n = n' + 1 := ⟨n - 1, by omega⟩
    obtain ⟨l, rfl⟩ : ∃ n', l = n' + 1 := ⟨l - 1, by omega⟩
    obtain ⟨Fa, F', R', G', S', r, w, c1, c2, c3, c4, c5, c6, c7, c8, c9, c10, c11⟩ := hand_step h hL h83 k (v := v) (by omega)
    obtain ⟨_, r10, st, _, stM, _⟩ := c4
    have eC : K_X7_countHands_6 k (nI N) c (n + 1) F R (nI b) (nI v) = if nI r < c then K_X7_countHands_6 k (nI N) c n F' R' (nI b + 0) (nI (v + 1)) else K_X7_countHands_6 k (nI N) c n F' R' (nI b + 1) (nI (v + 1)) := by
      rw [ks_X7_countHands_6]
      unfold KB_X7_countHands_6 K_X7_countHands_50
      rw [if_neg (nI_ge (by omega) (by omega)), c1, k_t2, c2, k_t2, k_e, st]
      simp only [k_e, nI_1]
    have eM : K_X11_odds_43 k c a2 (l + 1) G S (nI b) (nI v) = if nI r < c then K_X11_odds_43 k c a2 l G' S' (nI b + 0) (nI (v + 1)) else K_X11_odds_43 k c a2 l G' S' (nI b + 1) (nI (v + 1)) := by
      rw [ks_X11_odds_43]
      unfold KB_X11_odds_43 K_X11_odds_78
      rw [hrow, k_e, if_neg (nI_ge (by omega) (by omega)), c3, k_t2, k_e, k_e, stM]
      simp only [k_e, nI_1]
    rw [eC, eM]
    by_cases z : nI r < c
    · rw [if_pos z, if_pos z, show nI b + 0 = nI b from Int32.add_zero _]
      exact ih (v + 1) (by omega) n l b F' R' G' S' (by omega) (by omega) c5 c6 c7 (by omega)
    · rw [if_neg z, if_neg z, nI_1]
      exact ih (v + 1) (by omega) n l (b + 1) F' R' G' S' (by omega) (by omega) c5 c6 c7 (by omega)
theorem lay_d (h : URel F R G S) : ∃ F1 R1, sp_X7_lay_r1_r11 F R = (F1, R1) ∧ UR0 True F1 R1 G S ∧ UTd F1 R1 ∧ F1 83 = F1 19 := by
  obtain ⟨F1, R1, v1, v2, v3, v4, v5, v6⟩ := lay_rel h
  obtain ⟨x1, x2, x3, x4, x5, x6, x7, x8, x9⟩ := v4
  obtain ⟨z1, z2, z3, z4, z5, z6, z7⟩ := v3
  exact ⟨F1, R1, v1, ur0_of v2, ⟨x1, x2, x3, x5, z7, x9⟩, x4⟩
theorem an2_odds (h : URel2 F R G S) (a0 a1 a2 : Int32) : UAns URel2 (sp_X10_odds F R a0 a1 a2) (sp_X11_odds G S a0 a1 a2) := by
  refine ⟨?_, f22_odds h a0 a1 a2⟩
  obtain ⟨t, p1, p2, p3, p4⟩ := h.1.2.2.2.1
  have no : ∀ y, K_X10_odds_33 F R a0 a1 a2 y = if y = 0 then (-1, F, R) else K_X10_odds_33 F R a0 a1 a2 y := by
    intro y
    by_cases z : y = 0
    · rw [if_pos z]
      unfold K_X10_odds_33 K_X10_odds_50
      rw [if_pos z]
    · rw [if_neg z]
  have n32 : K_X10_odds_32 F R a0 a1 a2 = (-1, F, R) := by
    unfold K_X10_odds_32
    rw [no 0, if_pos rfl]
  unfold sp_X10_odds sp_X11_odds K_X11_odds_35
  simp only [k_e, n32]
  by_cases q0 : g_in a0 1 3 = 0
  · rw [if_pos q0, if_pos q0]
  rw [if_neg q0, if_neg q0]
  by_cases q1 : g_in a1 0 10 = 0
  · rw [if_pos q1, if_pos q1]
  rw [if_neg q1, if_neg q1]
  by_cases q2 : g_in a2 0 1 = 0
  · rw [if_pos q2, if_pos q2]
  rw [if_neg q2, if_neg q2]
  unfold K_X10_odds_33 K_X10_odds_50
  rw [if_neg (by decide), p2, p3]
  by_cases z : nI t = 0
  · rw [if_pos z, if_pos z]
  rw [if_neg z, if_neg z]
  obtain ⟨k, hk1, hk2, rfl⟩ := gin_n (lo := 1) (hi := 3) (by omega) (by omega) q0
  obtain ⟨F1, R1, v1, v2, v3, v4⟩ := lay_d h.1
  have hN : 10 ^ k ≤ 1000 ∧ 1 ≤ 10 ^ k := by
    have : k = 1 ∨ k = 2 ∨ k = 3 := by omega
    rcases this with rfl | rfl | rfl <;> decide
  obtain ⟨g, F2, R2, hg, w1, w2⟩ := odds_loop (k := nI k) (c := a1) (a2 := a2) hN.1 (fun G S => rows_eq ⟨hk1, hk2⟩) (10 ^ k) 0 (by omega) 8589934592 8589934592 0 F1 R1 G S (by omega) (by omega) v2 v3 v4 (Nat.le_refl _)
  have w1 : sp_X7_countHands F1 R1 (nI k) (nI (10 ^ k)) a1 = (nI g, F2, R2) := w1
  have w2 : (K_X11_odds_43 (nI k) a1 a2 8589934592 G S 0 0).1 = if a2 = 0 then nI g / K_X11_gcd_4 8589934592 (nI g) (nI (10 ^ k)) else nI (10 ^ k) / K_X11_gcd_4 8589934592 (nI g) (nI (10 ^ k)) := w2
  obtain ⟨G1, g1, g2, g3, g4⟩ := gcd_eq (a := g) (b := 10 ^ k) (by omega) ⟨hN.2, hN.1⟩ F2 R2
  rw [w2, v1, k_t2, k_e, hands_eq ⟨hk1, hk2⟩, w1, k_t3, k_e, g3, g4]
  unfold K_X10_odds_106 K_X10_odds_123
  by_cases y : a2 = 0
  · rw [if_pos y, if_pos y, if_neg (nI_ne0 (by omega) (by omega)), k_e]
  · rw [if_neg y, if_neg y, if_neg (nI_ne0 (by omega) (by omega)), k_e]
/-! what those that do not stand are worth -/
theorem loss_eq {r : Nat} {w : Int32} (u : UOut F R G S r w) (h6 : ∀ j, j < 10 → hb (F 691) (nI j) → R 6 (8 * j + 7) = S 8 j) : sp_X4_loss_r5 F R = usum (fun j => if uhb (F 691) (nI j) = true ∧ uhb (sp_X11_standing G S) (nI j) = false then S 8 j else 0) 10 := by
  obtain ⟨_, _, _, _, _, _, hs⟩ := u
  have hst : ∀ j, j < 10 → (hb (sp_X11_standing G S) (nI j) ↔ hb (F 691) (nI j) ∧ ¬ hb (F 692 ||| F 693) (nI j)) := by
    intro j hj
    rw [← hs]
    unfold sp_X4_standingSet
    simp only [k_e]
    rw [ub_and hj, ub_not hj]
  have main : ∀ d i, i + d = 10 → ∀ n, d < n → K_X4_loss_r5_4 F R n (usum (fun j => if uhb (F 691) (nI j) = true ∧ uhb (sp_X11_standing G S) (nI j) = false then S 8 j else 0) i) (nI i) = usum (fun j => if uhb (F 691) (nI j) = true ∧ uhb (sp_X11_standing G S) (nI j) = false then S 8 j else 0) 10 := by
    intro d
    induction d with
    | zero =>
      intro i hi n hn
      obtain ⟨n, rfl⟩ : ∃ n', n = n' + 1 := ⟨n - 1, by omega⟩
      obtain rfl : i = 10 := by omega
      rw [ks_X4_loss_r5_4]
      unfold KB_X4_loss_r5_4
      rw [if_pos ub_10e]
    | succ d ih =>
      intro i hi n hn
      obtain ⟨n, rfl⟩ : ∃ n', n = n' + 1 := ⟨n - 1, by omega⟩
      have hi9 : i < 10 := by omega
      have I := ih (i + 1) (by omega) n (by omega)
      rw [usum_s] at I
      rw [ks_X4_loss_r5_4]
      unfold KB_X4_loss_r5_4 K_X4_loss_r5_45
      rw [if_neg (ub_10 hi9)]
      simp only [k_e, nI_1]
      by_cases q : hb (F 691 &&& (F 692 ||| F 693)) (nI i)
      · have q' := (ub_and hi9).mp q
        have ns : ¬ hb (sp_X11_standing G S) (nI i) := fun z => ((hst i hi9).mp z).2 q'.2
        rw [if_neg (fun z => (ub_test hi9).mp z q), us_side (s := 7) (x := 7) hi9 (by omega) rfl, h6 i hi9 q'.1]
        rw [if_pos ⟨uhb_t.mpr q'.1, uhb_f.mpr ns⟩] at I
        exact I
      · rw [if_pos ((ub_test hi9).mpr q)]
        rw [if_neg (fun z => q ((ub_and hi9).mpr ⟨uhb_t.mp z.1, by
          have z2 := uhb_f.mp z.2
          by_cases y : hb (F 692 ||| F 693) (nI i)
          · exact y
          · exact absurd ((hst i hi9).mpr ⟨uhb_t.mp z.1, y⟩) z2⟩)), Int32.add_zero] at I
        exact I
  unfold sp_X4_loss_r5
  exact main 10 0 (by omega) 8589934592 (by omega)
theorem m_loss {G0 F42 : Nat → Int32} {R43 : Nat → Nat → Int32} {r45 y25 : Int32} {b36 : (Nat → Int32) → (Nat → Nat → Int32) → Int32 → Int32 → Int32 × (Nat → Int32) × (Nat → Nat → Int32)} (x : Int32) : ∀ d i, i + d = 10 → ∀ n, d < n → K_X11_should_75 b36 G0 F42 R43 r45 y25 n (x - usum (fun j => if uhb (G0 4) (nI j) = true ∧ uhb r45 (nI j) = false then R43 8 j else 0) i) (nI i) = b36 F42 R43 (x - usum (fun j => if uhb (G0 4) (nI j) = true ∧ uhb r45 (nI j) = false then R43 8 j else 0) 10) (y25 + 1) := by
  intro d
  induction d with
  | zero =>
    intro i hi n hn
    obtain ⟨n, rfl⟩ : ∃ n', n = n' + 1 := ⟨n - 1, by omega⟩
    obtain rfl : i = 10 := by omega
    rw [ks_X11_should_75]
    unfold KB_X11_should_75
    rw [if_pos ub_10e, k_e]
  | succ d ih =>
    intro i hi n hn
    obtain ⟨n, rfl⟩ : ∃ n', n = n' + 1 := ⟨n - 1, by omega⟩
    have hi9 : i < 10 := by omega
    have I := ih (i + 1) (by omega) n (by omega)
    rw [usum_s] at I
    rw [ks_X11_should_75]
    unfold KB_X11_should_75 K_X11_should_114
    rw [if_neg (ub_10 hi9)]
    simp only [k_e, nI_1]
    by_cases q : hb (G0 4) (nI i)
    · rw [if_neg (fun z => ub_hasv0.mp z q)]
      by_cases q2 : hb r45 (nI i)
      · rw [if_neg (fun z => ub_hasv0.mp z q2)]
        rw [if_neg (fun z => uhb_f.mp z.2 q2), Int32.add_zero] at I
        exact I
      · rw [if_pos (ub_hasv0.mpr q2), nI_clamp (by omega)]
        rw [if_pos ⟨uhb_t.mpr q, uhb_f.mpr q2⟩, u_ssub] at I
        exact I
    · rw [if_pos (ub_hasv0.mpr q)]
      rw [if_neg (fun z => q (uhb_t.mp z.1)), Int32.add_zero] at I
      exact I
theorem should_loop {G0 : Nat → Int32} {k c : Int32} {N : Nat} (hN : N ≤ 1000) (hrow : ∀ (G : Nat → Int32) (S : Nat → Nat → Int32), sp_X11_rowsOf G S k = nI N) : ∀ d v, v + d = N → ∀ (n l : Nat) (y : Int32) (F : Nat → Int32) (R : Nat → Nat → Int32) (G : Nat → Int32) (S : Nat → Nat → Int32), d < n → d < l → UR0 True F R G S → UTd F R → F 83 = F 19 → G 4 = G0 4 → (K_X7_sumHands_6 k (nI N) c n F R y (nI v)).1 = (K_X11_should_36 G0 k c l G S y (nI v)).1 := by
  intro d
  induction d with
  | zero =>
    intro v hv n l y F R G S hn hl _ _ _ _
    obtain ⟨n, rfl⟩ : ∃ n', n = n' + 1 := ⟨n - 1, by omega⟩
    obtain ⟨l, rfl⟩ : ∃ n', l = n' + 1 := ⟨l - 1, by omega⟩
    obtain rfl : v = N := hv
    rw [ks_X7_sumHands_6, ks_X11_should_36]
    unfold KB_X7_sumHands_6 KB_X11_should_36
    rw [hrow, k_e, if_pos (nI_le (Nat.le_refl _) (by omega)), if_pos (nI_le (Nat.le_refl _) (by omega))]
  | succ d ih =>
    intro v hv n l y F R G S hn hl h hL h83 h4
    obtain ⟨n, rfl⟩ : ∃ n', n = n' + 1 := ⟨n - 1, by omega⟩
    obtain ⟨l, rfl⟩ : ∃ n', l = n' + 1 := ⟨l - 1, by omega⟩
    obtain ⟨Fa, F', R', G', S', r, w, c1, c2, c3, c4, c5, c6, c7, c8, c9, c10, c11⟩ := hand_step h hL h83 k (v := v) (by omega)
    have eL := loss_eq c4 (fun j hj ht => by
      rw [c6.2.2.2.2.1 _ (by omega)]
      exact c5.1.2.2.2.2.2.2.1 j hj (by rw [← c7]; rw [c8] at ht; have e := c5.1.2.2.2.2.1; rw [c9] at e; rw [c7, e]; exact ht) 7 (by omega))
    have eA := all_eq (F' := F) (R' := R) c4.2.2.2.2.2.2
    rw [c8] at eA eL
    generalize hLs : usum (fun j => if uhb (G 4) (nI j) = true ∧ uhb (sp_X11_standing G' S') (nI j) = false then S' 8 j else 0) 10 = L at *
    have eC : K_X7_sumHands_6 k (nI N) c (n + 1) F R y (nI v) = K_X7_sumHands_6 k (nI N) c n F' R' (y + ((if sp_X11_standing G' S' = G 4 then c else 0) - L)) (nI (v + 1)) := by
      rw [ks_X7_sumHands_6]
      unfold KB_X7_sumHands_6 K_X7_sumHands_49
      rw [if_neg (nI_ge (by omega) (by omega)), c1, k_t2, c2, k_t2, eA]
      simp only [k_e]
      rw [eL, nI_1]
      by_cases z : sp_X11_standing G' S' = G 4
      · rw [if_pos z, if_pos z, if_neg (by decide)]
      · rw [if_neg z, if_neg z, if_pos rfl]
    have hm := fun x => m_loss (G0 := G0) (F42 := G') (R43 := S') (r45 := sp_X11_standing G' S') (y25 := nI v) (b36 := K_X11_should_36 G0 k c l) x 10 0 (by omega) 8589934592 (by omega)
    have hm : ∀ x, K_X11_should_72 (K_X11_should_36 G0 k c l) G0 G' S' (sp_X11_standing G' S') (nI v) x = K_X11_should_36 G0 k c l G' S' (x - L) (nI (v + 1)) := by
      intro x
      have := hm x
      rw [show usum (fun j => if uhb (G0 4) (nI j) = true ∧ uhb (sp_X11_standing G' S') (nI j) = false then S' 8 j else 0) 0 = 0 from rfl, Int32.sub_zero, ← h4, hLs, nI_1] at this
      unfold K_X11_should_72
      exact this
    have eM : K_X11_should_36 G0 k c (l + 1) G S y (nI v) = K_X11_should_36 G0 k c l G' S' ((if sp_X11_standing G' S' = G 4 then y + c else y) - L) (nI (v + 1)) := by
      rw [ks_X11_should_36]
      unfold KB_X11_should_36
      rw [hrow, k_e, if_neg (nI_ge (by omega) (by omega)), c3, k_t2, k_e, ← h4]
      by_cases z : sp_X11_standing G' S' = G 4
      · rw [if_pos z, if_pos z, k_e]
        exact hm _
      · rw [if_neg z, if_neg z]
        exact hm _
    have eY : y + ((if sp_X11_standing G' S' = G 4 then c else 0) - L) = (if sp_X11_standing G' S' = G 4 then y + c else y) - L := by
      by_cases z : sp_X11_standing G' S' = G 4
      · rw [if_pos z, if_pos z, Int32.sub_eq_add_neg, Int32.sub_eq_add_neg, Int32.add_assoc]
      · rw [if_neg z, if_neg z, Int32.sub_eq_add_neg, Int32.sub_eq_add_neg, Int32.zero_add]
    rw [eC, eM, eY]
    exact ih (v + 1) (by omega) n l _ F' R' G' S' (by omega) (by omega) c5 c6 c7 (c9.trans h4)
theorem an2_should (h : URel2 F R G S) (a0 a1 : Int32) : UAns URel2 (sp_X10_should F R a0 a1) (sp_X11_should G S a0 a1) := by
  refine ⟨?_, f22_should h a0 a1⟩
  obtain ⟨t, p1, p2, p3, p4⟩ := h.1.2.2.2.1
  unfold sp_X10_should sp_X11_should K_X10_should_30 K_X11_should_27
  simp only [k_e]
  by_cases q0 : g_in a0 1 3 = 0
  · rw [if_pos q0, if_pos q0]
  rw [if_neg q0, if_neg q0]
  by_cases q1 : g_in a1 0 9999 = 0
  · rw [if_pos q1, if_pos q1]
  rw [if_neg q1, if_neg q1, p2, p3]
  by_cases z : nI t = 0
  · rw [if_pos z, if_pos z]
  rw [if_neg z, if_neg z]
  obtain ⟨k, hk1, hk2, rfl⟩ := gin_n (lo := 1) (hi := 3) (by omega) (by omega) q0
  obtain ⟨F1, R1, v1, v2, v3, v4⟩ := lay_d h.1
  have hN : 10 ^ k ≤ 1000 := by
    have : k = 1 ∨ k = 2 ∨ k = 3 := by omega
    rcases this with rfl | rfl | rfl <;> decide
  have w := should_loop (G0 := G) (k := nI k) (c := a1) hN (fun G S => rows_eq ⟨hk1, hk2⟩) (10 ^ k) 0 (by omega) 8589934592 8589934592 0 F1 R1 G S (by omega) (by omega) v2 v3 v4 rfl
  have w : (sp_X7_sumHands F1 R1 (nI k) (nI (10 ^ k)) a1).1 = (K_X11_should_36 G (nI k) a1 8589934592 G S 0 0).1 := w
  rw [v1, k_t2, k_e3, hands_eq ⟨hk1, hk2⟩]
  exact w
end UHD
