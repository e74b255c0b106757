/-! ===== sets of things at an evening's end ===== -/
section USE
variable {G : Nat → Int32} {S : Nat → Nat → Int32}
theorem m_st (G : Nat → Int32) (S : Nat → Nat → Int32) : jv 0 1023 (sp_X11_standing G S) ∧ ∀ j, j < 10 → (hb (sp_X11_standing G S) (nI j) ↔ hb (G 42) (nI j) ∧ S 28 j = 0) := by
  have main : ∀ d i, i + d = 10 → ∀ (n : Nat) (y : Int32), d < n → jv 0 1023 y → jv 0 1023 (K_X11_standing_4 G S n y (nI i)) ∧ ∀ j, j < 10 → (hb (K_X11_standing_4 G S n y (nI i)) (nI j) ↔ hb y (nI j) ∨ i ≤ j ∧ hb (G 42) (nI j) ∧ S 28 j = 0) := by
    intro d
    induction d with
    | zero =>
      intro i hi n y hn hy
      obtain ⟨n, rfl⟩ : ∃ n', n = n' + 1 := ⟨n - 1, by omega⟩
      have e : K_X11_standing_4 G S (n + 1) y (nI i) = y := by
        have e : K_X11_standing_4 G S (n + 1) y (nI i) = KB_X11_standing_4 (K_X11_standing_4 G S n) G S y (nI i) := rfl
        rw [e]
        unfold KB_X11_standing_4
        rw [if_pos (show (10 : Int32) ≤ nI i from nI_le (a := 10) (by omega) (by omega))]
      rw [e]
      exact ⟨hy, fun j hj => ⟨Or.inl, fun z => by rcases z with z | ⟨z, _⟩; exact z; omega⟩⟩
    | succ d ih =>
      intro i hi n y hn hy
      obtain ⟨n, rfl⟩ : ∃ n', n = n' + 1 := ⟨n - 1, by omega⟩
      have hsm := st_model (G := G) (S := S) (j := i) (by omega)
      have e : K_X11_standing_4 G S (n + 1) y (nI i) = if sp_X11_stands G S (nI i) = 0 then K_X11_standing_4 G S n y (nI (i + 1)) else K_X11_standing_4 G S n (y ||| (1 <<< (nI i &&& 31))) (nI (i + 1)) := by
        have e : K_X11_standing_4 G S (n + 1) y (nI i) = KB_X11_standing_4 (K_X11_standing_4 G S n) G S y (nI i) := rfl
        rw [e]
        unfold KB_X11_standing_4 K_X11_standing_24
        rw [if_neg (show ¬ (10 : Int32) ≤ nI i from nI_ge (a := i) (b := 10) (by omega) (by omega))]
        simp only [k_e]
        rw [nI_1]
      rw [e]
      by_cases q : sp_X11_stands G S (nI i) = 0
      · rw [if_pos q]
        obtain ⟨a1, a2⟩ := ih (i + 1) (by omega) n y (by omega) hy
        refine ⟨a1, fun j hj => ?_⟩
        rw [a2 j hj]
        constructor
        · intro z
          rcases z with z | ⟨z1, z2⟩
          · exact Or.inl z
          · exact Or.inr ⟨by omega, z2⟩
        · intro z
          rcases z with z | ⟨z1, z2⟩
          · exact Or.inl z
          · by_cases w : j = i
            · subst w
              exact absurd q (hsm.mpr z2)
            · exact Or.inr ⟨by omega, z2⟩
      · rw [if_neg q]
        obtain ⟨a1, a2⟩ := ih (i + 1) (by omega) n _ (by omega) (ub_or_rng hy (show i < 10 by omega))
        refine ⟨a1, fun j hj => ?_⟩
        rw [a2 j hj, ub_or hj, ub_bit (show i < 10 by omega) hj]
        constructor
        · intro z
          rcases z with (z | z) | ⟨z1, z2⟩
          · exact Or.inl z
          · subst z
            exact Or.inr ⟨Nat.le_refl _, hsm.mp q⟩
          · exact Or.inr ⟨by omega, z2⟩
        · intro z
          rcases z with z | ⟨z1, z2⟩
          · exact Or.inl (Or.inl z)
          · by_cases w : j = i
            · exact Or.inl (Or.inr w)
            · exact Or.inr ⟨by omega, z2⟩
  obtain ⟨a1, a2⟩ := main 10 0 (by omega) 8589934592 0 (by omega) ub_0_rng
  refine ⟨a1, fun j hj => ?_⟩
  have := a2 j hj
  constructor
  · intro z
    rcases this.mp z with y | y
    · exact absurd y (hb_0 hj)
    · exact y.2
  · intro z
    exact this.mpr (Or.inr ⟨Nat.zero_le _, z⟩)
theorem m_sb (G : Nat → Int32) (S : Nat → Nat → Int32) (a : Int32) : jv 0 1023 (sp_X11_stateBits G S a) ∧ ∀ j, j < 10 → (hb (sp_X11_stateBits G S a) (nI j) ↔ hb (G 42) (nI j) ∧ S 28 j = a) := by
  have main : ∀ d i, i + d = 10 → ∀ (n : Nat) (y : Int32), d < n → jv 0 1023 y → jv 0 1023 (K_X11_stateBits_4 G S a n y (nI i)) ∧ ∀ j, j < 10 → (hb (K_X11_stateBits_4 G S a n y (nI i)) (nI j) ↔ hb y (nI j) ∨ i ≤ j ∧ hb (G 42) (nI j) ∧ S 28 j = a) := by
    intro d
    induction d with
    | zero =>
      intro i hi n y hn hy
      obtain ⟨n, rfl⟩ : ∃ n', n = n' + 1 := ⟨n - 1, by omega⟩
      have e : K_X11_stateBits_4 G S a (n + 1) y (nI i) = y := by
        have e : K_X11_stateBits_4 G S a (n + 1) y (nI i) = KB_X11_stateBits_4 (K_X11_stateBits_4 G S a n) G S a y (nI i) := rfl
        rw [e]
        unfold KB_X11_stateBits_4
        rw [if_pos (show (10 : Int32) ≤ nI i from nI_le (a := 10) (by omega) (by omega))]
      rw [e]
      exact ⟨hy, fun j hj => ⟨Or.inl, fun z => by rcases z with z | ⟨z, _⟩; exact z; omega⟩⟩
    | succ d ih =>
      intro i hi n y hn hy
      obtain ⟨n, rfl⟩ : ∃ n', n = n' + 1 := ⟨n - 1, by omega⟩
      have e : ∃ b : Bool, (b = true ↔ hb (G 42) (nI i) ∧ S 28 i = a) ∧ K_X11_stateBits_4 G S a (n + 1) y (nI i) = if b = false then K_X11_stateBits_4 G S a n y (nI (i + 1)) else K_X11_stateBits_4 G S a n (y ||| (1 <<< (nI i &&& 31))) (nI (i + 1)) := by
        have e : K_X11_stateBits_4 G S a (n + 1) y (nI i) = KB_X11_stateBits_4 (K_X11_stateBits_4 G S a n) G S a y (nI i) := rfl
        rw [e]
        unfold KB_X11_stateBits_4 K_X11_stateBits_37
        rw [if_neg (show ¬ (10 : Int32) ≤ nI i from nI_ge (a := i) (b := 10) (by omega) (by omega))]
        simp only [k_e]
        rw [nI_1, nI_clamp (by omega)]
        by_cases q : hb (G 42) (nI i)
        · rw [if_neg (fun z => ub_hasv0.mp z q)]
          by_cases q2 : S 28 i = a
          · exact ⟨true, ⟨fun _ => ⟨q, q2⟩, fun _ => rfl⟩, by rw [if_pos q2, if_neg (by decide)]⟩
          · exact ⟨false, ⟨fun z => (by cases z), fun z => absurd z.2 q2⟩, by rw [if_neg q2, if_pos rfl]⟩
        · rw [if_pos (ub_hasv0.mpr q)]
          exact ⟨false, ⟨fun z => (by cases z), fun z => absurd z.1 q⟩, by rw [if_pos rfl]⟩
      obtain ⟨b, hsm, e⟩ := e
      rw [e]
      cases b with
      | false =>
        rw [if_pos rfl]
        obtain ⟨a1, a2⟩ := ih (i + 1) (by omega) n y (by omega) hy
        refine ⟨a1, fun j hj => ?_⟩
        rw [a2 j hj]
        constructor
        · intro z
          rcases z with z | ⟨z1, z2⟩
          · exact Or.inl z
          · exact Or.inr ⟨by omega, z2⟩
        · intro z
          rcases z with z | ⟨z1, z2⟩
          · exact Or.inl z
          · by_cases w : j = i
            · subst w
              exact absurd (hsm.mpr z2) (by decide)
            · exact Or.inr ⟨by omega, z2⟩
      | true =>
        rw [if_neg (by decide)]
        obtain ⟨a1, a2⟩ := ih (i + 1) (by omega) n _ (by omega) (ub_or_rng hy (show i < 10 by omega))
        refine ⟨a1, fun j hj => ?_⟩
        rw [a2 j hj, ub_or hj, ub_bit (show i < 10 by omega) hj]
        constructor
        · intro z
          rcases z with (z | z) | ⟨z1, z2⟩
          · exact Or.inl z
          · subst z
            exact Or.inr ⟨Nat.le_refl _, hsm.mp rfl⟩
          · exact Or.inr ⟨by omega, z2⟩
        · intro z
          rcases z with z | ⟨z1, z2⟩
          · exact Or.inl (Or.inl z)
          · by_cases w : j = i
            · exact Or.inl (Or.inr w)
            · exact Or.inr ⟨by omega, z2⟩
  obtain ⟨a1, a2⟩ := main 10 0 (by omega) 8589934592 0 (by omega) ub_0_rng
  refine ⟨a1, fun j hj => ?_⟩
  have := a2 j hj
  constructor
  · intro z
    rcases this.mp z with y | y
    · exact absurd y (hb_0 hj)
    · exact y.2
  · intro z
    exact this.mpr (Or.inr ⟨Nat.zero_le _, z⟩)
/-- the sets are the same -/
theorem set_eq {F : Nat → Int32} {R : Nat → Nat → Int32} (h : UCore F R G S) : sp_X4_standingSet F R = sp_X11_standing G S ∧ F 692 = sp_X11_stateBits G S 1 ∧ F 693 = sp_X11_stateBits G S 2 := by
  obtain ⟨s1, s2⟩ := m_st G S
  obtain ⟨t1, t2⟩ := m_sb G S 1
  obtain ⟨u1, u2⟩ := m_sb G S 2
  have hc := st_core h
  obtain ⟨⟨c1, c2, c3⟩, h2, h3, h4, h5, h6, h7, h8⟩ := h
  refine ⟨ub_ext ?_ s1 (fun j hj => ?_), ub_ext h5 t1 (fun j hj => ?_), ub_ext h6 u1 (fun j hj => ?_)⟩
  · unfold sp_X4_standingSet
    simp only [k_e]
    exact ub_and_rng c2
  · rw [hc j hj, s2 j hj, c1]
  · rw [t2 j hj, ← c1]
    constructor
    · intro z
      by_cases q : hb (F 691) (nI j)
      · exact ⟨q, (h8 j hj q).2.2.2.2.2.1.mp z⟩
      · exact absurd z (h7 j hj q).1
    · intro z
      exact (h8 j hj z.1).2.2.2.2.2.1.mpr z.2
  · rw [u2 j hj, ← c1]
    constructor
    · intro z
      by_cases q : hb (F 691) (nI j)
      · exact ⟨q, (h8 j hj q).2.2.2.2.2.2.mp z⟩
      · exact absurd z (h7 j hj q).2
    · intro z
      exact (h8 j hj z.1).2.2.2.2.2.2.mpr z.2
theorem stand_eq {F : Nat → Int32} {R : Nat → Nat → Int32} (h : UCore F R G S) (F' : Nat → Int32) (R' : Nat → Nat → Int32) (G' : Nat → Int32) (S' : Nat → Nat → Int32) (e1 : F' 691 = F 691) (e2 : F' 692 = F 692) (e3 : F' 693 = F 693) : sp_X4_standing F' R' = sp_X11_bits G' S' (sp_X11_standing G S) := by
  have e : sp_X4_standingSet F' R' = sp_X4_standingSet F R := by
    unfold sp_X4_standingSet
    simp only [k_e]
    rw [e1, e2, e3]
  unfold sp_X4_standing
  simp only [k_e]
  rw [e, (set_eq h).1, um_bits, bits_eq (m_st G S).1]
end USE
