/-! ===== the whole relation; an evening is laid ===== -/
def URng (G : Nat → Int32) (S : Nat → Nat → Int32) : Prop := jv 0 65535 (G 3) ∧ (¬ G 77 = 0 → jv 0 65535 (G 81)) ∧ (∀ j, j < 10 → hb (G 4) (nI j) → jv 1 40 (S 3 j) ∧ jv 1 99 (S 5 j) ∧ 0 ≤ (S 7 j).toInt) ∧ (¬ G 77 = 0 → ∀ j, j < 10 → hb (G 82) (nI j) → jv 1 40 (S 43 j) ∧ jv 1 99 (S 45 j) ∧ 0 ≤ (S 47 j).toInt)
theorem URng_e {G G' : Nat → Int32} {S S' : Nat → Nat → Int32} (h : URng G S) (g : ∀ k, k = 3 ∨ k = 4 ∨ k = 77 ∨ k = 81 ∨ k = 82 → G' k = G k) (s : ∀ c, c = 3 ∨ c = 5 ∨ c = 7 ∨ c = 43 ∨ c = 45 ∨ c = 47 → S' c = S c) : URng G' S' := by
  unfold URng at *
  rw [g 3 (by omega), g 4 (by omega), g 77 (by omega), g 81 (by omega), g 82 (by omega), s 3 (by omega), s 5 (by omega), s 7 (by omega), s 43 (by omega), s 45 (by omega), s 47 (by omega)]
  exact h
/-- all that both hold alike between the calls -/
def URel (F : Nat → Int32) (R : Nat → Nat → Int32) (G : Nat → Int32) (S : Nat → Nat → Int32) : Prop := UTab F R G S ∧ UTape F R G S ∧ ULaw F R G S ∧ UPull F R G S ∧ URng G S
/-- numbers and rows that the relation speaks of -/
def cF (k : Nat) : Prop := k = 11 ∨ 16 ≤ k ∧ k ≤ 20 ∨ 48 ≤ k ∧ k ≤ 52 ∨ k = 145 ∨ k = 177 ∨ k = 274 ∨ k = 278
def cG (k : Nat) : Prop := k ≤ 4 ∨ k = 14 ∨ k = 19 ∨ k = 28 ∨ 77 ≤ k ∧ k ≤ 82
def cR (c : Nat) : Prop := c = 2 ∨ c = 4 ∨ c = 10 ∨ c = 12 ∨ 18 ≤ c ∧ c ≤ 22
def cS (c : Nat) : Prop := 1 ≤ c ∧ c ≤ 10 ∨ 18 ≤ c ∧ c ≤ 22 ∨ 41 ≤ c ∧ c ≤ 48
theorem URel_e {F F' G G' : Nat → Int32} {R R' S S' : Nat → Nat → Int32} (h : URel F R G S) (f : ∀ k, cF k → F' k = F k) (g : ∀ k, cG k → G' k = G k) (r : ∀ c, cR c → R' c = R c) (s : ∀ c, cS c → S' c = S c) : URel F' R' G' S' := by
  obtain ⟨h1, h2, h3, h4, h5⟩ := h
  refine ⟨UTab_e h1 (fun k hk => f k (by unfold cF; omega)) (fun k hk => g k (by unfold cG; omega)) (fun c hc => r c (by unfold cR; omega)) (fun c hc => s c (by unfold cS; omega)), UTape_e h2 (f 145 (by unfold cF; omega)) (g 14 (by unfold cG; omega)) (r 10 (by unfold cR; omega)) (s 9 (by unfold cS; omega)), ULaw_e h3 (f 274 (by unfold cF; omega)) (f 278 (by unfold cF; omega)) (g 28 (by unfold cG; omega)) (fun c c1 c2 => r c (by unfold cR; omega)) (fun c c1 c2 => s c (by unfold cS; omega)), UPull_e h4 (f 177 (by unfold cF; omega)) (g 19 (by unfold cG; omega)) (r 12 (by unfold cR; omega)) (s 10 (by unfold cS; omega)), URng_e h5 (fun k hk => g k (by unfold cG; omega)) (fun c hc => s c (by unfold cS; omega))⟩
section ULY
variable {F G : Nat → Int32} {R S : Nat → Nat → Int32}
theorem c_lay (F : Nat → Int32) (R : Nat → Nat → Int32) : ∃ F' R', sp_X7_lay_r1_r11 F R = (F', R') ∧ F' 80 = F 16 ∧ F' 81 = F 17 ∧ F' 82 = F 18 ∧ F' 83 = F 19 ∧ F' 84 = F 20 ∧ F' 241 = F 177 ∧ F' 672 = 0 ∧ F' 674 = 0 ∧ (∀ k, k ≠ 80 → k ≠ 81 → k ≠ 82 → k ≠ 83 → k ≠ 84 → k ≠ 241 → k ≠ 672 → k ≠ 674 → F' k = F k) ∧ (∀ k, k < 80 → R' 6 k = R 2 k) ∧ (∀ k, k < 60 → R' 16 k = R 12 k) ∧ (∀ c, c ≠ 6 → c ≠ 16 → R' c = R c) := by
  refine ⟨upd (upd (upd (upd (upd (upd (upd (upd F 80 (F 16)) 81 (F 17)) 82 (F 18)) 83 (F 19)) 84 (F 20)) 241 (F 177)) 672 0) 674 0, g_u (g_u R 6 (va_cpy (R 2) (R 6) 0 0 80)) 16 (va_cpy (R 12) (R 16) 0 0 60), ?_, ?_, ?_, ?_, ?_, ?_, ?_, ?_, ?_, fun k k1 k2 k3 k4 k5 k6 k7 k8 => ?_, fun k hk => ?_, fun k hk => ?_, fun c c1 c2 => ?_⟩
  · unfold sp_X7_lay_r1_r11 sp_X8_copy_5_r1 sp_X5_copy_15_r11 sp_X1_holdStill
    simp only [k_e, k_t2]
    simp (decide := true) only [uu, ug, if_true, if_false]
  · simp (decide := true) only [uu, if_true, if_false]
  · simp (decide := true) only [uu, if_true, if_false]
  · simp (decide := true) only [uu, if_true, if_false]
  · simp (decide := true) only [uu, if_true, if_false]
  · simp (decide := true) only [uu, if_true, if_false]
  · simp (decide := true) only [uu, if_true, if_false]
  · simp (decide := true) only [uu, if_true, if_false]
  · simp (decide := true) only [uu, if_true]
  · rw [uu, if_neg k8, uu, if_neg k7, uu, if_neg k6, uu, if_neg k5, uu, if_neg k4, uu, if_neg k3, uu, if_neg k2, uu, if_neg k1]
  · rw [ug, if_neg (by decide), ug, if_pos rfl, cpy_k hk]
  · rw [ug, if_pos rfl, cpy_k hk]
  · rw [ug, if_neg c2, ug, if_neg c1]
theorem m_lp {t : Nat} (h : G 19 = nI t) (ht : t ≤ 60) : ∃ S', sp_X11_laysPull G S = (upd G 44 (nI t), S') ∧ (∀ k, k < t → S' 25 k = S 10 k) ∧ (∀ c, c ≠ 25 → S' c = S c) := by
  have main : ∀ d y, y + d = t → ∀ (n : Nat) (S : Nat → Nat → Int32), d < n → ∃ S', K_X11_laysPull_10 G (upd G 44 (nI t)) n S (nI y) = (upd G 44 (nI t), S') ∧ (∀ k, k < y → S' 25 k = S 25 k) ∧ (∀ k, y ≤ k → k < t → S' 25 k = S 10 k) ∧ (∀ c, c ≠ 25 → S' c = S c) := by
    intro d
    induction d with
    | zero =>
      intro y hy n S hn
      obtain ⟨n, rfl⟩ : ∃ n', n = n' + 1 := ⟨n - 1, by omega⟩
      refine ⟨S, ?_, fun _ _ => rfl, fun k k1 k2 => by omega, fun _ _ => rfl⟩
      have e : K_X11_laysPull_10 G (upd G 44 (nI t)) (n + 1) S (nI y) = KB_X11_laysPull_10 (K_X11_laysPull_10 G (upd G 44 (nI t)) n) G (upd G 44 (nI t)) S (nI y) := rfl
      rw [e]
      unfold KB_X11_laysPull_10
      rw [h, if_pos (nI_le (by omega) (by omega))]
    | succ d ih =>
      intro y hy n S hn
      obtain ⟨n, rfl⟩ : ∃ n', n = n' + 1 := ⟨n - 1, by omega⟩
      obtain ⟨S', a1, a2, a3, a4⟩ := ih (y + 1) (by omega) n (g_u S 25 (upd (S 25) y (S 10 y))) (by omega)
      refine ⟨S', ?_, fun k hk => ?_, fun k k1 k2 => ?_, fun c hc => by rw [a4 c hc, ug, if_neg hc]⟩
      · have e : K_X11_laysPull_10 G (upd G 44 (nI t)) (n + 1) S (nI y) = KB_X11_laysPull_10 (K_X11_laysPull_10 G (upd G 44 (nI t)) n) G (upd G 44 (nI t)) S (nI y) := rfl
        rw [e]
        unfold KB_X11_laysPull_10
        rw [h, if_neg (nI_ge (by omega) (by omega))]
        simp only [k_e]
        rw [nI_clamp (by omega), nI_1]
        exact a1
      · rw [a2 k (by omega), ug, if_pos rfl, uu, if_neg (by omega)]
      · by_cases z : k = y
        · rw [a2 k (by omega), ug, if_pos rfl, uu, if_pos z, z]
        · rw [a3 k (by omega) k2, ug, if_neg (by decide)]
  obtain ⟨S', a1, a2, a3, a4⟩ := main t 0 (by omega) 8589934592 S (by omega)
  refine ⟨S', ?_, fun k hk => a3 k (by omega) hk, a4⟩
  unfold sp_X11_laysPull
  rw [k_e, h]
  exact a1
theorem m_lt (G : Nat → Int32) (S : Nat → Nat → Int32) : ∃ S', sp_X11_laysThings G S = (upd (upd (upd (upd G 42 (G 4)) 43 (G 2)) 51 0) 49 0, S') ∧ (∀ k, k < 10 → S' 26 k = S 2 k ∧ S' 30 k = S 6 k) ∧ (∀ c, c ≠ 26 → c ≠ 30 → S' c = S c) := by
  have main : ∀ d y, y + d = 10 → ∀ (n : Nat) (F7 : Nat → Int32) (S : Nat → Nat → Int32), d < n → ∃ S', K_X11_laysThings_28 F7 n S (nI y) = (F7, S') ∧ (∀ k, k < y → S' 26 k = S 26 k ∧ S' 30 k = S 30 k) ∧ (∀ k, y ≤ k → k < 10 → S' 26 k = S 2 k ∧ S' 30 k = S 6 k) ∧ (∀ c, c ≠ 26 → c ≠ 30 → S' c = S c) := by
    intro d
    induction d with
    | zero =>
      intro y hy n F7 S hn
      obtain ⟨n, rfl⟩ : ∃ n', n = n' + 1 := ⟨n - 1, by omega⟩
      refine ⟨S, ?_, fun _ _ => ⟨rfl, rfl⟩, fun k k1 k2 => by omega, fun _ _ _ => rfl⟩
      have e : K_X11_laysThings_28 F7 (n + 1) S (nI y) = KB_X11_laysThings_28 (K_X11_laysThings_28 F7 n) F7 S (nI y) := rfl
      rw [e]
      unfold KB_X11_laysThings_28
      rw [if_pos (show (10 : Int32) ≤ nI y from nI_le (a := 10) (by omega) (by omega))]
    | succ d ih =>
      intro y hy n F7 S hn
      obtain ⟨n, rfl⟩ : ∃ n', n = n' + 1 := ⟨n - 1, by omega⟩
      obtain ⟨S', a1, a2, a3, a4⟩ := ih (y + 1) (by omega) n F7 (g_u (g_u S 26 (upd (S 26) y (S 2 y))) 30 (upd (S 30) y (S 6 y))) (by omega)
      refine ⟨S', ?_, fun k hk => ?_, fun k k1 k2 => ?_, fun c c1 c2 => by rw [a4 c c1 c2, ug, if_neg c2, ug, if_neg c1]⟩
      · have e : K_X11_laysThings_28 F7 (n + 1) S (nI y) = KB_X11_laysThings_28 (K_X11_laysThings_28 F7 n) F7 S (nI y) := rfl
        rw [e]
        unfold KB_X11_laysThings_28
        rw [if_neg (show ¬ (10 : Int32) ≤ nI y from nI_ge (a := y) (b := 10) (by omega) (by omega))]
        simp only [k_e]
        have x1 : g_u S 26 (upd (S 26) y (S 2 y)) 6 = S 6 := by rw [ug, if_neg (by decide)]
        have x2 : g_u S 26 (upd (S 26) y (S 2 y)) 30 = S 30 := by rw [ug, if_neg (by decide)]
        rw [nI_clamp (by omega), nI_1, x1, x2]
        exact a1
      · obtain ⟨b1, b2⟩ := a2 k (by omega)
        rw [b1, b2]
        simp (decide := true) only [ug, if_true, if_false]
        rw [uu, uu, if_neg (by omega), if_neg (by omega)]
        exact ⟨rfl, rfl⟩
      · by_cases z : k = y
        · obtain ⟨b1, b2⟩ := a2 k (by omega)
          rw [b1, b2]
          simp (decide := true) only [ug, if_true, if_false]
          rw [uu, uu, if_pos z, if_pos z, z]
          exact ⟨rfl, rfl⟩
        · obtain ⟨b1, b2⟩ := a3 k (by omega) k2
          rw [b1, b2]
          simp (decide := true) only [ug, if_false]
          try exact ⟨rfl, rfl⟩
  obtain ⟨S', a1, a2, a3, a4⟩ := main 10 0 (by omega) 8589934592 (upd (upd (upd (upd G 42 (G 4)) 43 (G 2)) 51 0) 49 0) S (by omega)
  refine ⟨S', ?_, fun k hk => a3 k (by omega) hk, a4⟩
  unfold sp_X11_laysThings
  simp only [k_e]
  exact a1
/-- an evening is laid by both: still (d = false), or drawn -/
theorem beg_of (h : URel F R G S) {FL : Nat → Int32} {RL : Nat → Nat → Int32} {GL : Nat → Int32} {SL : Nat → Nat → Int32} (e80 : FL 80 = F 16) (e81 : FL 81 = F 17) (e82 : FL 82 = F 18) (e83 : FL 83 = F 19) (e241 : FL 241 = F 177) (e274 : FL 274 = F 274) (e278 : FL 278 = F 278) (r6 : ∀ k, k < 80 → RL 6 k = R 2 k) (r16 : ∀ k, k < 60 → RL 16 k = R 12 k) (rl : ∀ c, 18 ≤ c → c ≤ 22 → RL c = R c) (g0 : GL 0 = G 0) (g1 : GL 1 = G 1) (g42 : GL 42 = G 4) (g43 : GL 43 = G 2) (g44 : GL 44 = G 19) (g28 : GL 28 = G 28) (s25 : ∀ t k, t ≤ 60 → G 19 = nI t → k < t → SL 25 k = S 10 k) (s26 : ∀ k, k < 10 → SL 26 k = S 2 k ∧ SL 30 k = S 6 k) (sl : ∀ c, c < 9 ∨ 18 ≤ c ∧ c ≤ 22 → SL c = S c) (hh : UHand FL GL) : UBeg FL RL GL SL := by
  obtain ⟨h1, h2, h3, h4, h5⟩ := h
  obtain ⟨t1, t2, t3, t4, t5, t6, t7, t8, t9⟩ := h1
  obtain ⟨t, p1, p2, p3, p4⟩ := h4
  obtain ⟨q1, q2, q3, q4⟩ := h5
  refine ⟨by rw [e83, g42]; exact t5, by rw [e83]; exact t6, by rw [e80, g0]; exact t1, by rw [e81, g1]; exact t2, by rw [e82, g43]; exact t3, by rw [e241, g44, p2, p3], by rw [e241, p2]; exact ⟨by rw [nI_toInt (by omega)]; omega, by rw [nI_toInt (by omega)]; omega⟩, fun k hk hk2 => ?_, fun j hj ht => ?_, ULaw_e h3 e274 e278 g28 rl (fun c c1 c2 => sl c (by omega)), hh⟩
  · rw [e241, p2] at hk2
    have hkt : k < t := (nI_ltI (by omega) (by omega)).mp hk2
    obtain ⟨b1, p, b2, b3⟩ := p4 k hkt
    rw [r16 k hk, s25 t k p1 p3 hkt]
    refine ⟨b1, ?_⟩
    rw [← b1, b3]
    exact ⟨by rw [nI_toInt (by omega)]; omega, by rw [nI_toInt (by omega)]; omega⟩
  · rw [e83] at ht
    have x := t7 j hj ht
    have y := q3 j hj (by rw [← t5]; exact ht)
    obtain ⟨z1, z2⟩ := s26 j hj
    rw [r6 (8 * j) (by omega), r6 (8 * j + 1) (by omega), r6 (8 * j + 2) (by omega), r6 (8 * j + 3) (by omega), r6 (8 * j + 4) (by omega), r6 (8 * j + 5) (by omega), r6 (8 * j + 6) (by omega), sl 1 (by omega), sl 3 (by omega), sl 4 (by omega), sl 5 (by omega), sl 7 (by omega), z1, z2]
    exact ⟨x 0 (by omega), x 1 (by omega), x 2 (by omega), x 3 (by omega), x 4 (by omega), x 5 (by omega), x 6 (by omega), y.1, y.2.1, y.2.2⟩
end ULY
