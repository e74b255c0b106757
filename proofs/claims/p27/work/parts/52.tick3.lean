/-! ===== a tick: the touches, along the order ===== -/
def UPend (R : Nat → Nat → Int32) (G : Nat → Int32) (S : Nat → Nat → Int32) (y : Int32) (j : Nat) : Prop := ULed R S (mby G j) (if uhb y (nI j) = true ∧ S 28 j = 2 then S 36 j - S 26 j else 0) j
theorem tick_D {F G : Nat → Int32} {R S : Nat → Nat → Int32} {t n : Nat} {y s : Int32} (hs : ∀ j, j < 10 → (hb s (nI j) ↔ hb (F 691) (nI j) ∧ S 28 j = 0)) (e603 : F 603 = G 46 + G 47) (e45 : G 45 = nI t) (hy : ∀ j, j < 10 → hb y (nI j) → hb (F 691) (nI j)) (hsy : ∀ j, j < 10 → hb s (nI j) → hb y (nI j)) (h5 : ∀ j, j < 10 → hb y (nI j) → (hb (F 605) (nI j) ↔ hb (G 69) (nI j))) (h9 : ∀ j, j < 10 → hb s (nI j) → R 39 j = S 36 j) (h6 : ∀ j, j < 10 → hb y (nI j) → S 28 j = 1 → S 36 j = S 26 j) (hp : ∀ j, j < 10 → hb (F 691) (nI j) → UPend R G S y j) (hn : n ≤ 10) (e602 : F 602 = nI n) (hL : ULn (R 40) (S 37) (fun j => hb s (nI j) ∧ j < 10) n n) (g68 : ∀ j, j < 10 → ¬ hb (G 68) (nI j)) : ∀ d m, m + d = n + 1 → ∀ (k l : Nat) (F1 G1 : Nat → Int32) (R1 S1 : Nat → Nat → Int32), d < k → d < l → UCore F1 R1 G1 S1 → UHand F1 G1 → F1 695 = G1 66 → F1 606 = G1 68 → (∀ j, j < 10 → hb (G1 68) (nI j) → hb s (nI j)) → (∀ k, k ≠ 606 → F1 k = F k) → (∀ k, k ≠ 68 → G1 k = G k) → (∀ c, c ≠ 38 → c ≠ 44 → R1 c = R c) → (∀ c, c ≠ 26 → c ≠ 27 → S1 c = S c) → (∀ j, j < 10 → ¬ hb s (nI j) → S1 26 j = S 26 j) → UEnd (t + 1) (K_X0_tick_116 k F1 R1 (nI m)) (K_X11_ticks_184 (nI n) y l G1 S1 (nI m)) := by
  intro d
  have fin : ∀ (F1 G1 : Nat → Int32) (R1 S1 : Nat → Nat → Int32), UCore F1 R1 G1 S1 → UHand F1 G1 → F1 695 = G1 66 → F1 606 = G1 68 → (∀ j, j < 10 → hb (G1 68) (nI j) → hb s (nI j)) → (∀ k, k ≠ 606 → F1 k = F k) → (∀ k, k ≠ 68 → G1 k = G k) → (∀ c, c ≠ 38 → c ≠ 44 → R1 c = R c) → (∀ c, c ≠ 26 → c ≠ 27 → S1 c = S c) → (∀ j, j < 10 → ¬ hb s (nI j) → S1 26 j = S 26 j) → UEnd (t + 1) (K_X0_tick_158 F1 R1) (K_X11_ticks_217 y 8589934592 G1 S1 0) := by
    intro F1 G1 R1 S1 c1 c2 c3 c4 c5 c6 c7 c8 c9 c10
    unfold K_X0_tick_158
    rw [k_e]
    have hr := st_core c1
    have e28 : S1 28 = S 28 := c9 28 (by omega) (by omega)
    have e691 : F1 691 = F 691 := c6 691 (by omega)
    have sr : ∀ j, j < 10 → (hb (sp_X4_standingSet F1 R1) (nI j) ↔ hb s (nI j)) := fun j hj => by rw [hr j hj, hs j hj, e28, e691]
    have I := tick_E (y := y) c1 c2 c3 c4 (by rw [c6 603 (by omega), c7 46 (by omega), c7 47 (by omega)]; exact e603) (by rw [c7 45 (by omega)]; exact e45) hr (fun j hj h => by rw [e691]; exact hy j hj h) (fun j hj h => hsy j hj ((sr j hj).mp h)) (fun j hj h => by rw [c6 605 (by omega), c7 69 (by omega)]; exact h5 j hj h) (fun j hj h => by rw [c8 39 (by omega) (by omega), c9 36 (by omega) (by omega)]; exact h9 j hj ((sr j hj).mp h)) (fun j hj h h1 => by
      rw [e28] at h1
      rw [c9 36 (by omega) (by omega), c10 j hj (fun z => absurd (((hs j hj).mp z).2.symm.trans h1) (by decide))]
      exact h6 j hj h h1) 10 0 (by omega) 8589934592 8589934592 R1 S1 (by omega) (by omega) (fun _ _ => rfl) (fun _ _ _ _ _ => rfl) (fun j hj => absurd hj (by omega)) (fun j _ hj ht => by
      rw [e691] at ht
      rw [c9 36 (by omega) (by omega), e28]
      have P := hp j hj ht
      have P1 : ULed R1 S1 (mby G j) (if uhb y (nI j) = true ∧ S 28 j = 2 then S 36 j - S 26 j else 0) j := ULed_e hj P (fun b hb1 => congrFun (c8 46 (by omega) (by omega)) _) (fun c a1 a2 => congrFun (c9 c (by omega) (by omega)) j)
      by_cases q : uhb y (nI j) = true ∧ S 28 j = 2
      · rw [if_pos q] at P1 ⊢
        have ns : ¬ hb s (nI j) := fun z => absurd (((hs j hj).mp z).2.symm.trans q.2) (by decide)
        have em : mby G1 j = mby G j := by
          unfold mby
          rw [c7 69 (by omega), if_neg (fun e => ns (c5 j hj (uhb_t.mp e))), if_neg (fun e => g68 j hj (uhb_t.mp e))]
        rw [em, c10 j hj ns]
        exact P1
      · rw [if_neg q] at P1 ⊢
        exact ULed_0.mpr (ULed_0.mp P1))
    rw [nI_0] at I
    exact I
  induction d with
  | zero =>
    intro m hm k l F1 G1 R1 S1 hk hl c1 c2 c3 c4 c5 c6 c7 c8 c9 c10
    obtain ⟨k, rfl⟩ : ∃ n', k = n' + 1 := ⟨k - 1, by omega⟩
    obtain ⟨l, rfl⟩ : ∃ n', l = n' + 1 := ⟨l - 1, by omega⟩
    rw [ks_X0_tick_116, ks_X11_ticks_184]
    unfold KB_X0_tick_116 KB_X11_ticks_184
    simp only [k_e, nI_1]
    rw [c6 602 (by omega), e602, if_pos (nI_le (by omega) (by omega)), if_pos (nI_le (by omega) (by omega))]
    exact fin F1 G1 R1 S1 c1 c2 c3 c4 c5 c6 c7 c8 c9 c10
  | succ d ih =>
    intro m hm k l F1 G1 R1 S1 hk hl c1 c2 c3 c4 c5 c6 c7 c8 c9 c10
    obtain ⟨k, rfl⟩ : ∃ n', k = n' + 1 := ⟨k - 1, by omega⟩
    obtain ⟨l, rfl⟩ : ∃ n', l = n' + 1 := ⟨l - 1, by omega⟩
    rw [ks_X0_tick_116, ks_X11_ticks_184]
    unfold KB_X0_tick_116 KB_X11_ticks_184
    simp only [k_e, nI_1]
    rw [c6 602 (by omega), e602]
    by_cases q : n ≤ m + 1
    · rw [if_pos (nI_le q (by omega)), if_pos (nI_le q (by omega))]
      exact fin F1 G1 R1 S1 c1 c2 c3 c4 c5 c6 c7 c8 c9 c10
    · obtain ⟨a, a1, ⟨a2, _⟩, a3, a4⟩ := hL.1 m (by omega) (by omega)
      obtain ⟨b, b1, ⟨b2, _⟩, b3, b4⟩ := hL.1 (m + 1) (by omega) (by omega)
      have hab : a ≠ b := by
        intro e
        have := hL.2 m (m + 1) (by omega) (by omega) (by omega) (by omega) (by rw [a3, b3, e])
        omega
      rw [if_neg (nI_ge (by omega) (by omega)), if_neg (nI_ge (by omega) (by omega)), if_neg (ub_10 (by omega))]
      simp only [nI_clamp (show m < 2 ^ 31 by omega), nI_clamp (show m + 1 < 2 ^ 31 by omega)]
      rw [c8 40 (by omega) (by omega), a3, b3, c9 37 (by omega) (by omega), a4, b4]
      have ta := (hs a a1).mp a2
      have tb := (hs b b1).mp b2
      have e691 : F1 691 = F 691 := c6 691 (by omega)
      have ua := c1.1.2.2.2.2.2.1 a a1 (by rw [e691]; exact ta.1)
      have ub := c1.1.2.2.2.2.2.1 b b1 (by rw [e691]; exact tb.1)
      have va := c1.2.2.2.2.2.2.2 a a1 (by rw [e691]; exact ta.1)
      have vb := c1.2.2.2.2.2.2.2 b b1 (by rw [e691]; exact tb.1)
      obtain ⟨F2, R2, eX, fX⟩ := ux_touch (F := F1) (R := R1) a1 b1 hab (by rw [ua.2.2.2.1]; exact ua.2.2.2.2.2.2) (by rw [ub.2.2.2.1]; exact ub.2.2.2.2.2.2)
      obtain ⟨G2, S2, eM, fM⟩ := um_meet (G := G1) (S := S1) a1 b1 hab
      have frX := fr_sp_X0_touch F1 R1 (nI a) (nI b)
      have frM := fr_sp_X11_meet G1 S1 (nI a) (nI b)
      rw [eX] at frX
      rw [eM] at frM
      obtain ⟨x1, x2, x3⟩ := fX _ rfl
      obtain ⟨m1, m2, m3⟩ := fM _ rfl
      have et : utch (R1 44 a) (R1 44 b) (R1 38 a) (R1 38 b) (R1 6 (8 * a + 2)) (R1 6 (8 * b + 2)) = utch (S1 26 a) (S1 26 b) (S1 27 a) (S1 27 b) (S1 3 a) (S1 3 b) := by
        rw [va.1, vb.1, va.2.2.2.1, vb.2.2.2.1, ua.2.1, ub.2.1]
      rw [et] at x1 x2 x3
      have e39 : R1 39 b = S1 36 b := by
        rw [c8 39 (by omega) (by omega), c9 36 (by omega) (by omega)]
        exact h9 b b1 b2
      rw [va.2.2.2.1, vb.2.2.2.1, ua.2.2.2.1, ub.2.2.2.1] at x2
      rw [va.1, ua.2.1, ub.2.1, e39] at x3
      generalize utch (S1 26 a) (S1 26 b) (S1 27 a) (S1 27 b) (S1 3 a) (S1 3 b) = T at x1 x2 x3 m1 m2 m3
      rw [eX, eM, k_t2, k_t2]
      have gF : ∀ k, k ≠ 606 → F2 k = F1 k := fun k hk => frX.1 k (by simp [md_X0_touch]; exact hk)
      have gG : ∀ k, k ≠ 68 → G2 k = G1 k := fun k hk => frM.1 k (by simp [md_X11_meet]; exact hk)
      have gR : ∀ c, c ≠ 38 → c ≠ 44 → R2 c = R1 c := fun c h1 h2 => frX.2 c (by simp [mr_X0_touch]; exact ⟨h1, h2⟩)
      have gS : ∀ c, c ≠ 26 → c ≠ 27 → S2 c = S1 c := fun c h1 h2 => frM.2 c (by simp [mr_X11_meet]; exact ⟨h1, h2⟩)
      refine ih (m + 1) (by omega) k l F2 G2 R2 S2 (by omega) (by omega) ?_ ?_ ?_ ?_ ?_ ?_ ?_ ?_ ?_ ?_
      · obtain ⟨h1, h2, h3, h4, h5, h6, h7, h8⟩ := c1
        unfold UCore
        rw [gF 694 (by omega), gF 696 (by omega), gF 698 (by omega), gF 692 (by omega), gF 693 (by omega), gF 691 (by omega), gG 65 (by omega), gG 67 (by omega), gG 48 (by omega)]
        refine ⟨UStat_e h1 (gF _ (by omega)) (gF _ (by omega)) (gF _ (by omega)) (gF _ (by omega)) (gF _ (by omega)) (fun k hk => gG k (by omega)) (fun c hc => gR c (by omega) (by omega)) (fun c hc => gS c (by omega) (by omega)), h2, h3, h4, h5, h6, h7, fun j hj hh => ?_⟩
        obtain ⟨t1, t2, t3, t4, t5, t6, t7⟩ := h8 j hj hh
        unfold UTh
        rw [x2 j, x3 j, m2 j, m3 j, gR 45 (by omega) (by omega), gS 29 (by omega) (by omega), gS 28 (by omega) (by omega)]
        refine ⟨?_, t2, t3, ?_, t5, t6, t7⟩
        · by_cases z : T = true ∧ j = b
          · rw [if_pos z, if_pos z]
          · rw [if_neg z, if_neg z]; exact t1
        · by_cases z : T = true ∧ (j = a ∨ j = b)
          · rw [if_pos z, if_pos z]
          · rw [if_neg z, if_neg z]; exact t4
      · exact UHand_e c2 (fun k h1 h2 => gF k (by omega)) (fun k hk => gG k (by omega))
      · rw [gF 695 (by omega), gG 66 (by omega)]; exact c3
      · rw [x1, m1, c4]
        cases T with
        | true => rw [if_pos rfl, if_pos rfl, Int32.or_assoc]
        | false => rw [if_neg (by decide), if_neg (by decide)]
      · intro j hj hz
        rw [m1] at hz
        cases T with
        | true =>
          rw [if_pos rfl, ub_or hj, ub_or hj, ub_bit a1 hj, ub_bit b1 hj] at hz
          rcases hz with (hz | hz) | hz
          · exact c5 j hj hz
          · rw [hz]; exact a2
          · rw [hz]; exact b2
        | false =>
          rw [if_neg (by decide)] at hz
          exact c5 j hj hz
      · exact fun k hk => (gF k hk).trans (c6 k hk)
      · exact fun k hk => (gG k hk).trans (c7 k hk)
      · exact fun c h1 h2 => (gR c h1 h2).trans (c8 c h1 h2)
      · exact fun c h1 h2 => (gS c h1 h2).trans (c9 c h1 h2)
      · intro j hj hz
        rw [m3 j, if_neg (fun z => hz (by rw [z.2]; exact b2))]
        exact c10 j hj hz
