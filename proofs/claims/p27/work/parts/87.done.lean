/-! ===== done ===== -/
section UDN
variable {F G : Nat → Int32} {R S : Nat → Nat → Int32}
/-- a drawn evening, both -/
theorem drawn_rel (h : URel F R G S) : ∃ t : Nat, t ≤ 300 ∧ UEnd t (sp_X10_tryDrawn F R) (sp_X11_runsDrawn G S) ∧ (sp_X10_tryDrawn F R).1 697 = nI t ∧ (sp_X10_tryDrawn F R).1 673 = (sp_X11_runsDrawn G S).1 3 ∧ jv 0 65535 ((sp_X11_runsDrawn G S).1 3) ∧ (sp_X11_runsDrawn G S).1 42 = G 4 := by
  have h' := h
  obtain ⟨h1, h2, h3, h4, h5⟩ := h
  obtain ⟨t, p1, p2, p3, p4⟩ := h4
  obtain ⟨FL, RL, c0, c80, c81, c82, c83, c84, c241, c672, c674, cf, cr6, cr16, cr⟩ := c_lay F R
  obtain ⟨S1, a1, a2, a3⟩ := m_lp (S := S) p3 p1
  obtain ⟨S2, b1, b2, b3⟩ := m_lt (upd G 44 (nI t)) S1
  have eC : sp_X10_tryDrawn F R = sp_X0_run (upd (upd FL 672 1) 673 (F 20)) RL := by
    unfold sp_X10_tryDrawn sp_X1_drawFrom
    rw [c0, k_t2]
    simp only [k_e, k_t2, k_e2]
  have eM : sp_X11_runsDrawn G S = sp_X11_runs (upd (upd (upd (upd (upd (upd G 44 (nI t)) 42 (upd G 44 (nI t) 4)) 43 (upd G 44 (nI t) 2)) 51 0) 49 0) 51 1) S2 := by
    unfold sp_X11_runsDrawn
    rw [a1, k_t2, b1, k_t2]
    simp only [k_e, k_e2]
  have hB : UBeg (upd (upd FL 672 1) 673 (F 20)) RL (upd (upd (upd (upd (upd (upd G 44 (nI t)) 42 (upd G 44 (nI t) 4)) 43 (upd G 44 (nI t) 2)) 51 0) 49 0) 51 1) S2 := by
    refine beg_of h' ?_ ?_ ?_ ?_ ?_ ?_ ?_ cr6 cr16 (fun c k1 k2 => cr c (by omega) (by omega)) ?_ ?_ ?_ ?_ ?_ ?_ (fun t' k h60 e hk => ?_) (fun k hk => ?_) (fun c hc => ?_) ?_
    · simp (decide := true) only [uu, if_false]; exact c80
    · simp (decide := true) only [uu, if_false]; exact c81
    · simp (decide := true) only [uu, if_false]; exact c82
    · simp (decide := true) only [uu, if_false]; exact c83
    · simp (decide := true) only [uu, if_false]; exact c241
    · simp (decide := true) only [uu, if_false]; exact cf 274 (by omega) (by omega) (by omega) (by omega) (by omega) (by omega) (by omega) (by omega)
    · simp (decide := true) only [uu, if_false]; exact cf 278 (by omega) (by omega) (by omega) (by omega) (by omega) (by omega) (by omega) (by omega)
    · simp (decide := true) only [uu, if_false]
    · simp (decide := true) only [uu, if_false]
    · simp (decide := true) only [uu, if_true, if_false]
    · simp (decide := true) only [uu, if_true, if_false]
    · simp (decide := true) only [uu, if_true, if_false]; exact p3.symm
    · simp (decide := true) only [uu, if_false]
    · rw [p3] at e
      have e2 : t = t' := (nI_eq (by omega) (by omega)).mp e
      subst e2
      rw [b3 25 (by omega) (by omega), a2 k hk]
    · rw [(b2 k hk).1, (b2 k hk).2, a3 2 (by omega), a3 6 (by omega)]
      exact ⟨rfl, rfl⟩
    · rw [b3 c (by omega) (by omega), a3 c (by omega)]
    · refine Or.inl ⟨?_, ?_, ?_, ?_⟩
      · simp (decide := true) only [uu, if_true, if_false]
      · simp (decide := true) only [uu, if_true]
      · simp (decide := true) only [uu, if_true, if_false]
        exact h1.2.2.2.1
      · simp (decide := true) only [uu, if_false]
        exact h5.1
  obtain ⟨t', r1, r2, r3⟩ := run_rel hB
  have frM := fr_sp_X11_runs (upd (upd (upd (upd (upd (upd G 44 (nI t)) 42 (upd G 44 (nI t) 4)) 43 (upd G 44 (nI t) 2)) 51 0) 49 0) 51 1) S2
  rw [eC, eM]
  refine ⟨t', r1, r2, r3, ?_⟩
  have h51 : (sp_X11_runs (upd (upd (upd (upd (upd (upd G 44 (nI t)) 42 (upd G 44 (nI t) 4)) 43 (upd G 44 (nI t) 2)) 51 0) 49 0) 51 1) S2).1 51 = 1 := by
    rw [frM.1 51 rfl, uu, if_pos rfl]
  have h42 : (sp_X11_runs (upd (upd (upd (upd (upd (upd G 44 (nI t)) 42 (upd G 44 (nI t) 4)) 43 (upd G 44 (nI t) 2)) 51 0) 49 0) 51 1) S2).1 42 = G 4 := by
    rw [frM.1 42 rfl]
    simp (decide := true) only [uu, if_true, if_false]
  rcases r2.2.1 with ⟨z1, z2, z3, z4⟩ | ⟨z1, z2, z3⟩
  · exact ⟨z3, z4, h42⟩
  · rw [h51] at z2
    exact absurd z2 (by decide)
/-- the class takes the end over into the table -/
theorem c_leave {F : Nat → Int32} : ∀ d i, i + d = 10 → ∀ (n : Nat) (F2 : Nat → Int32) (R : Nat → Nat → Int32), d < n → (∀ k, k ≠ 19 → F2 k = F k) → jv 0 1023 (F2 19) → ∃ F' R', K_X4_leave_r1_7 F n F2 R (nI i) = (F', R') ∧ F' 17 = F 698 ∧ (∀ k, k ≠ 17 → k ≠ 19 → F' k = F k) ∧ jv 0 1023 (F' 19) ∧ (∀ j, j < 10 → (hb (F' 19) (nI j) ↔ hb (F2 19) (nI j) ∧ (j < i ∨ ¬ hb (F 693) (nI j)))) ∧ (∀ c, c ≠ 2 → R' c = R c) ∧ (∀ j s, j < i → s < 8 → R' 2 (8 * j + s) = R 2 (8 * j + s)) ∧ (∀ j s, i ≤ j → j < 10 → s < 8 → hb (F2 19) (nI j) → ¬ hb (F 693) (nI j) → (s = 1 → R' 2 (8 * j + s) = R 44 j) ∧ (s = 6 → R' 2 (8 * j + s) = R 45 j) ∧ (s = 3 → hb (F 692) (nI j) → R' 2 (8 * j + s) = 1) ∧ (s = 3 → ¬ hb (F 692) (nI j) → R' 2 (8 * j + s) = R 2 (8 * j + s)) ∧ (s ≠ 1 → s ≠ 3 → s ≠ 6 → R' 2 (8 * j + s) = R 2 (8 * j + s))) := by
  intro d
  induction d with
  | zero =>
    intro i hi n F2 R hn hF h19
    obtain ⟨n, rfl⟩ : ∃ n', n = n' + 1 := ⟨n - 1, by omega⟩
    refine ⟨upd F2 17 (F 698), R, ?_, by rw [uu, if_pos rfl], fun k k1 k2 => by rw [uu, if_neg k1, hF k k2], by rw [uu, if_neg (by decide)]; exact h19, fun j hj => ?_, fun _ _ => rfl, fun _ _ _ _ => rfl, fun j s j1 j2 => by omega⟩
    · have e : K_X4_leave_r1_7 F (n + 1) F2 R (nI i) = KB_X4_leave_r1_7 (K_X4_leave_r1_7 F n) F F2 R (nI i) := rfl
      rw [e]
      unfold KB_X4_leave_r1_7
      rw [if_pos (show (10 : Int32) ≤ nI i from nI_le (a := 10) (by omega) (by omega)), k_e]
    · rw [uu, if_neg (by decide)]
      exact ⟨fun z => ⟨z, Or.inl (by omega)⟩, fun z => z.1⟩
  | succ d ih =>
    intro i hi n F2 R hn hF h19
    obtain ⟨n, rfl⟩ : ∃ n', n = n' + 1 := ⟨n - 1, by omega⟩
    have hi10 : i < 10 := by omega
    have e : K_X4_leave_r1_7 F (n + 1) F2 R (nI i) = KB_X4_leave_r1_7 (K_X4_leave_r1_7 F n) F F2 R (nI i) := rfl
    have e693 : F2 693 = F 693 := hF 693 (by omega)
    have n1 : ¬ (1 : Int32) = 0 := by decide
    have n10 : ¬ (10 : Int32) ≤ nI i := nI_ge (a := i) (b := 10) hi10 (by omega)
    have ov0 : ¬ hb (F 693) (nI i) → sp_X4_isOver F2 R (nI i) = 0 := by
      intro z
      unfold sp_X4_isOver K_X4_isOver_16
      simp only [k_e]
      rw [e693, if_pos ((ub_test hi10).mpr z)]
    have ov1 : hb (F 693) (nI i) → sp_X4_isOver F2 R (nI i) = 1 := by
      intro z
      unfold sp_X4_isOver K_X4_isOver_16
      simp only [k_e]
      rw [e693, if_neg (fun y => (ub_test hi10).mp y z)]
    have hs0 : ¬ hb (F2 19) (nI i) → sp_X8_has_1 F2 R (nI i) = 0 := by
      intro z
      unfold sp_X8_has_1 K_X8_has_1_25 K_X8_has_1_26
      simp only [k_e]
      rw [ug_i9 hi10, if_neg n1, if_pos ((ub_test hi10).mpr z)]
    have hs1 : hb (F2 19) (nI i) → sp_X8_has_1 F2 R (nI i) = 1 := by
      intro z
      unfold sp_X8_has_1 K_X8_has_1_26
      simp only [k_e]
      rw [ug_i9 hi10, if_neg n1, if_neg (fun y => (ub_test hi10).mp y z)]
    by_cases q : hb (F 693) (nI i)
    · have e1 : K_X4_leave_r1_7 F (n + 1) F2 R (nI i) = K_X4_leave_r1_7 F n (upd F2 19 (F2 19 &&& ((1 <<< (nI i &&& 31)) ^^^ (-1)))) R (nI (i + 1)) := by
        rw [e]
        unfold KB_X4_leave_r1_7 sp_X8_take_1 K_X4_leave_r1_80
        simp only [k_e]
        rw [if_neg n10, ov1 q, if_neg n1, k_t2, nI_1]
      obtain ⟨F', R', a1, a2, a3, a4, a5, a6, a7, a8⟩ := ih (i + 1) (by omega) n (upd F2 19 (F2 19 &&& ((1 <<< (nI i &&& 31)) ^^^ (-1)))) R (by omega) (fun k hk => by rw [uu, if_neg hk]; exact hF k hk) (by rw [uu, if_pos rfl]; exact ub_and_rng h19)
      have hbit : ∀ j, j < 10 → (hb (upd F2 19 (F2 19 &&& ((1 <<< (nI i &&& 31)) ^^^ (-1))) 19) (nI j) ↔ hb (F2 19) (nI j) ∧ j ≠ i) := by
        intro j hj
        rw [uu, if_pos rfl, ub_and hj, ub_not hj, ub_bit hi10 hj]
      refine ⟨F', R', e1.trans a1, a2, a3, a4, fun j hj => ?_, a6, fun j s h1 h2 => a7 j s (by omega) h2, fun j s h1 h2 h3 h4 h5 => ?_⟩
      · rw [a5 j hj, hbit j hj]
        constructor
        · intro z
          refine ⟨z.1.1, ?_⟩
          rcases z.2 with y | y
          · exact Or.inl (by have := z.1.2; omega)
          · exact Or.inr y
        · intro z
          have hji : j ≠ i := by
            intro y
            subst y
            rcases z.2 with y | y
            · omega
            · exact y q
          refine ⟨⟨z.1, hji⟩, ?_⟩
          rcases z.2 with y | y
          · exact Or.inl (by omega)
          · exact Or.inr y
      · have hji : j ≠ i := by
          intro y
          subst y
          exact h5 q
        exact a8 j s (by omega) h2 h3 ((hbit j h2).mpr ⟨h4, hji⟩) h5
    · by_cases q2 : hb (F2 19) (nI i)
      · -- taken over
        obtain ⟨R1, e1, f1, f2, f3⟩ : ∃ R1, K_X4_leave_r1_7 F (n + 1) F2 R (nI i) = K_X4_leave_r1_7 F n F2 R1 (nI (i + 1)) ∧ (∀ c, c ≠ 2 → R1 c = R c) ∧ (∀ j s, j ≠ i → s < 8 → R1 2 (8 * j + s) = R 2 (8 * j + s)) ∧ (∀ s, s < 8 → (s = 1 → R1 2 (8 * i + s) = R 44 i) ∧ (s = 6 → R1 2 (8 * i + s) = R 45 i) ∧ (s = 3 → hb (F 692) (nI i) → R1 2 (8 * i + s) = 1) ∧ (s = 3 → ¬ hb (F 692) (nI i) → R1 2 (8 * i + s) = R 2 (8 * i + s)) ∧ (s ≠ 1 → s ≠ 3 → s ≠ 6 → R1 2 (8 * i + s) = R 2 (8 * i + s))) := by
          have hc1 : sp_X8_change_1 F2 R (nI i) 1 (R 44 i) = (F2, g_u R 2 (upd (R 2) (8 * i + 1) (R 44 i))) := ux_change1 (x := 1) (s := 1) hi10 (by omega) rfl
          have r45 : g_u R 2 (upd (R 2) (8 * i + 1) (R 44 i)) 45 = R 45 := by rw [ug, if_neg (by decide)]
          have hc2 : sp_X8_change_1 F2 (g_u R 2 (upd (R 2) (8 * i + 1) (R 44 i))) (nI i) 6 (R 45 i) = (F2, g_u R 2 (upd (upd (R 2) (8 * i + 1) (R 44 i)) (8 * i + 6) (R 45 i))) := ux_change1' (x := 6) (s := 6) hi10 (by omega) rfl
          have hc3 : sp_X8_change_1 F2 (g_u R 2 (upd (upd (R 2) (8 * i + 1) (R 44 i)) (8 * i + 6) (R 45 i))) (nI i) 3 1 = (F2, g_u R 2 (upd (upd (upd (R 2) (8 * i + 1) (R 44 i)) (8 * i + 6) (R 45 i)) (8 * i + 3) 1)) := ux_change1' (x := 3) (s := 3) hi10 (by omega) rfl
          by_cases q3 : hb (F 692) (nI i)
          · refine ⟨g_u R 2 (upd (upd (upd (R 2) (8 * i + 1) (R 44 i)) (8 * i + 6) (R 45 i)) (8 * i + 3) 1), ?_, fun c hc => by rw [ug, if_neg hc], fun j s j1 j2 => ?_, fun s hs => ⟨fun z => ?_, fun z => ?_, fun z _ => ?_, fun z y => absurd q3 y, fun z1 z2 z3 => ?_⟩⟩
            · rw [e]
              unfold KB_X4_leave_r1_7 K_X4_leave_r1_80
              simp only [k_e]
              rw [if_neg n10, ov0 q, if_pos rfl, hs1 q2, if_neg n1, nI_clamp (by omega), hc1]
              simp only [k_t2]
              rw [r45, hc2]
              simp only [k_t2]
              rw [if_neg (fun y => (ub_test hi10).mp y q3), hc3, k_t2, nI_1]
            · rw [ug, if_pos rfl, uu, if_neg (by omega), uu, if_neg (by omega), uu, if_neg (by omega)]
            · rw [ug, if_pos rfl, uu, if_neg (by omega), uu, if_neg (by omega), uu, if_pos (by omega)]
            · rw [ug, if_pos rfl, uu, if_neg (by omega), uu, if_pos (by omega)]
            · rw [ug, if_pos rfl, uu, if_pos (by omega)]
            · rw [ug, if_pos rfl, uu, if_neg (by omega), uu, if_neg (by omega), uu, if_neg (by omega)]
          · refine ⟨g_u R 2 (upd (upd (R 2) (8 * i + 1) (R 44 i)) (8 * i + 6) (R 45 i)), ?_, fun c hc => by rw [ug, if_neg hc], fun j s j1 j2 => ?_, fun s hs => ⟨fun z => ?_, fun z => ?_, fun z y => absurd y q3, fun z _ => ?_, fun z1 z2 z3 => ?_⟩⟩
            · rw [e]
              unfold KB_X4_leave_r1_7 K_X4_leave_r1_80
              simp only [k_e]
              rw [if_neg n10, ov0 q, if_pos rfl, hs1 q2, if_neg n1, nI_clamp (by omega), hc1]
              simp only [k_t2]
              rw [r45, hc2]
              simp only [k_t2]
              rw [if_pos ((ub_test hi10).mpr q3), nI_1]
            · rw [ug, if_pos rfl, uu, if_neg (by omega), uu, if_neg (by omega)]
            · rw [ug, if_pos rfl, uu, if_neg (by omega), uu, if_pos (by omega)]
            · rw [ug, if_pos rfl, uu, if_pos (by omega)]
            · rw [ug, if_pos rfl, uu, if_neg (by omega), uu, if_neg (by omega)]
            · rw [ug, if_pos rfl, uu, if_neg (by omega), uu, if_neg (by omega)]
        obtain ⟨F', R', a1, a2, a3, a4, a5, a6, a7, a8⟩ := ih (i + 1) (by omega) n F2 R1 (by omega) hF h19
        refine ⟨F', R', e1.trans a1, a2, a3, a4, fun j hj => ?_, fun c hc => (a6 c hc).trans (f1 c hc), fun j s h1 h2 => by rw [a7 j s (by omega) h2, f2 j s (by omega) h2], fun j s h1 h2 h3 h4 h5 => ?_⟩
        · rw [a5 j hj]
          constructor
          · intro z
            refine ⟨z.1, ?_⟩
            rcases z.2 with y | y
            · by_cases w : j = i
              · subst w
                exact Or.inr q
              · exact Or.inl (by omega)
            · exact Or.inr y
          · intro z
            refine ⟨z.1, ?_⟩
            rcases z.2 with y | y
            · exact Or.inl (by omega)
            · exact Or.inr y
        · by_cases w : j = i
          · subst w
            rw [a7 j s (by omega) h3]
            exact f3 s h3
          · have := a8 j s (by omega) h2 h3 h4 h5
            rw [f1 44 (by omega), f1 45 (by omega), f2 j s w h3] at this
            exact this
      · have e1 : K_X4_leave_r1_7 F (n + 1) F2 R (nI i) = K_X4_leave_r1_7 F n F2 R (nI (i + 1)) := by
          rw [e]
          unfold KB_X4_leave_r1_7 K_X4_leave_r1_80
          simp only [k_e]
          rw [if_neg n10, ov0 q, if_pos rfl, hs0 q2, if_pos rfl, nI_1]
        obtain ⟨F', R', a1, a2, a3, a4, a5, a6, a7, a8⟩ := ih (i + 1) (by omega) n F2 R (by omega) hF h19
        refine ⟨F', R', e1.trans a1, a2, a3, a4, fun j hj => ?_, a6, fun j s h1 h2 => a7 j s (by omega) h2, fun j s h1 h2 h3 h4 h5 => ?_⟩
        · rw [a5 j hj]
          constructor
          · intro z
            refine ⟨z.1, ?_⟩
            rcases z.2 with y | y
            · by_cases w : j = i
              · subst w
                exact Or.inr q
              · exact Or.inl (by omega)
            · exact Or.inr y
          · intro z
            refine ⟨z.1, ?_⟩
            rcases z.2 with y | y
            · exact Or.inl (by omega)
            · exact Or.inr y
        · have w : j ≠ i := by
            intro w
            subst w
            exact q2 h4
          exact a8 j s (by omega) h2 h3 h4 h5
/-- .. and so does the reference -/
theorem m_leave {F F8 : Nat → Int32} {r : Int32} : ∀ d i, i + d = 10 → ∀ (n : Nat) (R : Nat → Nat → Int32), d < n → ∃ R', K_X11_done_23 F F8 r n R (nI i) = (r, upd (upd F8 4 (F 4 &&& (sp_X11_stateBits F8 R' 2 ^^^ (-1)))) 1 (F8 48), R') ∧ (∀ c, c ≠ 2 → c ≠ 4 → c ≠ 7 → R' c = R c) ∧ (∀ j, j < i → R' 2 j = R 2 j ∧ R' 4 j = R 4 j ∧ R' 7 j = R 7 j) ∧ (∀ j, i ≤ j → j < 10 → hb (F 4) (nI j) → R' 2 j = R 26 j ∧ R' 7 j = R 29 j ∧ (R 28 j = 1 → R' 4 j = 1) ∧ (R 28 j ≠ 1 → R' 4 j = R 4 j)) := by
  intro d
  induction d with
  | zero =>
    intro i hi n R hn
    obtain ⟨n, rfl⟩ : ∃ n', n = n' + 1 := ⟨n - 1, by omega⟩
    refine ⟨R, ?_, fun _ _ _ _ => rfl, fun _ _ => ⟨rfl, rfl, rfl⟩, fun j h1 h2 => by omega⟩
    have e : K_X11_done_23 F F8 r (n + 1) R (nI i) = KB_X11_done_23 (K_X11_done_23 F F8 r n) F F8 r R (nI i) := rfl
    rw [e]
    unfold KB_X11_done_23
    rw [if_pos (show (10 : Int32) ≤ nI i from nI_le (a := 10) (by omega) (by omega))]
    simp only [k_e]
  | succ d ih =>
    intro i hi n R hn
    obtain ⟨n, rfl⟩ : ∃ n', n = n' + 1 := ⟨n - 1, by omega⟩
    have hi10 : i < 10 := by omega
    have n10 : ¬ (10 : Int32) ≤ nI i := nI_ge (a := i) (b := 10) hi10 (by omega)
    have e : K_X11_done_23 F F8 r (n + 1) R (nI i) = KB_X11_done_23 (K_X11_done_23 F F8 r n) F F8 r R (nI i) := rfl
    by_cases q : hb (F 4) (nI i)
    · obtain ⟨R1, e1, f1, f2, f3⟩ : ∃ R1, K_X11_done_23 F F8 r (n + 1) R (nI i) = K_X11_done_23 F F8 r n R1 (nI (i + 1)) ∧ (∀ c, c ≠ 2 → c ≠ 4 → c ≠ 7 → R1 c = R c) ∧ (∀ j, j ≠ i → R1 2 j = R 2 j ∧ R1 4 j = R 4 j ∧ R1 7 j = R 7 j) ∧ (R1 2 i = R 26 i ∧ R1 7 i = R 29 i ∧ (R 28 i = 1 → R1 4 i = 1) ∧ (R 28 i ≠ 1 → R1 4 i = R 4 i)) := by
        obtain ⟨v, hv, ev⟩ : ∃ v, (if R 28 i = 1 then v = 1 else v = R 4 i) ∧ K_X11_done_23 F F8 r (n + 1) R (nI i) = K_X11_done_23 F F8 r n (g_u (g_u (g_u R 2 (upd (R 2) i (R 26 i))) 7 (upd (R 7) i (R 29 i))) 4 (upd (R 4) i v)) (nI (i + 1)) := by
          have x1 : g_u R 2 (upd (R 2) i (R 26 i)) 29 = R 29 := by rw [ug, if_neg (by decide)]
          have x2 : g_u R 2 (upd (R 2) i (R 26 i)) 7 = R 7 := by rw [ug, if_neg (by decide)]
          have x3 : g_u (g_u R 2 (upd (R 2) i (R 26 i))) 7 (upd (R 7) i (R 29 i)) 28 = R 28 := by rw [ug, if_neg (by decide), ug, if_neg (by decide)]
          have x4 : g_u (g_u R 2 (upd (R 2) i (R 26 i))) 7 (upd (R 7) i (R 29 i)) 4 = R 4 := by rw [ug, if_neg (by decide), ug, if_neg (by decide)]
          by_cases w : R 28 i = 1
          · refine ⟨1, by rw [if_pos w], ?_⟩
            rw [e]
            unfold KB_X11_done_23 K_X11_done_92 K_X11_done_93
            simp only [k_e]
            rw [if_neg n10, if_neg (fun z => ub_hasv0.mp z q), nI_clamp (by omega), x1, x2, x3, x4, if_pos w, nI_1]
          · refine ⟨R 4 i, by rw [if_neg w], ?_⟩
            rw [e]
            unfold KB_X11_done_23 K_X11_done_92 K_X11_done_93
            simp only [k_e]
            rw [if_neg n10, if_neg (fun z => ub_hasv0.mp z q), nI_clamp (by omega), x1, x2, x3, x4, if_neg w, nI_1]
        refine ⟨_, ev, fun c c1 c2 c3 => by rw [ug, if_neg c2, ug, if_neg c3, ug, if_neg c1], fun j hj => ?_, ?_, ?_, fun z => ?_, fun z => ?_⟩
        · simp (decide := true) only [ug, if_true, if_false]
          rw [uu, uu, uu, if_neg hj, if_neg hj, if_neg hj]
          exact ⟨rfl, rfl, rfl⟩
        · simp (decide := true) only [ug, if_true, if_false]
          rw [uu, if_pos rfl]
        · simp (decide := true) only [ug, if_true, if_false]
          rw [uu, if_pos rfl]
        · rw [if_pos z] at hv
          rw [ug, if_pos rfl, uu, if_pos rfl]
          exact hv
        · rw [if_neg z] at hv
          rw [ug, if_pos rfl, uu, if_pos rfl]
          exact hv
      obtain ⟨R', a1, a2, a3, a4⟩ := ih (i + 1) (by omega) n R1 (by omega)
      refine ⟨R', e1.trans a1, fun c c1 c2 c3 => (a2 c c1 c2 c3).trans (f1 c c1 c2 c3), fun j hj => ?_, fun j h1 h2 h3 => ?_⟩
      · obtain ⟨b1, b2, b3⟩ := a3 j (by omega)
        obtain ⟨d1, d2, d3⟩ := f2 j (by omega)
        exact ⟨b1.trans d1, b2.trans d2, b3.trans d3⟩
      · by_cases w : j = i
        · subst w
          obtain ⟨b1, b2, b3⟩ := a3 j (by omega)
          rw [b1, b2, b3]
          exact f3
        · have := a4 j (by omega) h2 h3
          rw [f1 26 (by omega) (by omega) (by omega), f1 29 (by omega) (by omega) (by omega), f1 28 (by omega) (by omega) (by omega), (f2 j w).2.1] at this
          exact this
    · have e1 : K_X11_done_23 F F8 r (n + 1) R (nI i) = K_X11_done_23 F F8 r n R (nI (i + 1)) := by
        rw [e]
        unfold KB_X11_done_23 K_X11_done_93
        simp only [k_e]
        rw [if_neg n10, if_pos (ub_hasv0.mpr q), nI_1]
      obtain ⟨R', a1, a2, a3, a4⟩ := ih (i + 1) (by omega) n R (by omega)
      refine ⟨R', e1.trans a1, a2, fun j hj => a3 j (by omega), fun j h1 h2 h3 => ?_⟩
      have w : j ≠ i := by
        intro w
        subst w
        exact q h3
      exact a4 j (by omega) h2 h3
end UDN
