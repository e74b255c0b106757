/-! ===== places told on the tape: how quick, which was wet ===== -/
section UFT
variable {F G : Nat → Int32} {R S : Nat → Nat → Int32}
theorem takes_eq (h : URel F R G S) (hz : ¬ (sp_X11_takesPlaces G S).1 = 0) : ∃ S', sp_X11_takesPlaces G S = (1, upd G 14 0, S') ∧ (∀ c, c ≠ 40 → S' c = S c) ∧ ∀ j, j < 10 → hb (G 4) (nI j) → S' 40 j = R 10 (cbt (G 4) j) := by
  obtain ⟨y1, T, y2, y3, y4⟩ := h.2.1
  have loop : ∀ d i, i + d = 10 → ∀ (n : Nat) (S1 : Nat → Nat → Int32), d < n → (∀ c, c ≠ 40 → S1 c = S c) → (∀ j, j < i → hb (G 4) (nI j) → S1 40 j = S 9 (cbt (G 4) j) &&& 255) → ∃ S', K_X11_takesPlaces_32 G (upd G 14 0) n S1 (nI (cbt (G 4) i)) (nI i) = (1, upd G 14 0, S') ∧ (∀ c, c ≠ 40 → S' c = S c) ∧ ∀ j, j < 10 → hb (G 4) (nI j) → S' 40 j = S 9 (cbt (G 4) j) &&& 255 := by
    intro d
    induction d with
    | zero =>
      intro i hi n S1 hn hS h40
      obtain ⟨n, rfl⟩ : ∃ n', n = n' + 1 := ⟨n - 1, by omega⟩
      obtain rfl : i = 10 := by omega
      refine ⟨S1, ?_, hS, h40⟩
      rw [ks_X11_takesPlaces_32]
      unfold KB_X11_takesPlaces_32
      rw [if_pos ub_10e]
    | succ d ih =>
      intro i hi n S1 hn hS h40
      obtain ⟨n, rfl⟩ : ∃ n', n = n' + 1 := ⟨n - 1, by omega⟩
      have hcl := cbt_le (G 4) i
      rw [ks_X11_takesPlaces_32]
      unfold KB_X11_takesPlaces_32 K_X11_takesPlaces_72
      rw [if_neg (ub_10 (by omega))]
      simp only [k_e, nI_1]
      by_cases q : hb (G 4) (nI i)
      · rw [if_neg (fun z => ub_hasv0.mp z q), nI_clamp (show cbt (G 4) i < 2 ^ 31 by omega), nI_clamp (show i < 2 ^ 31 by omega), hS 9 (by omega)]
        have e : cbt (G 4) i + 1 = cbt (G 4) (i + 1) := by rw [cbt_s, if_pos (uhb_t.mpr q)]
        rw [e]
        refine ih (i + 1) (by omega) n _ (by omega) (fun c hc => by rw [ug, if_neg hc]; exact hS c hc) (fun j hj ht => ?_)
        rw [g_uus, uu]
        by_cases z : j = i
        · rw [if_pos z, z]
        · rw [if_neg z]
          exact h40 j (by omega) ht
      · rw [if_pos (ub_hasv0.mpr q)]
        have e : cbt (G 4) i = cbt (G 4) (i + 1) := by rw [cbt_s, if_neg (fun z => q (uhb_t.mp z)), Nat.add_zero]
        rw [e]
        refine ih (i + 1) (by omega) n _ (by omega) hS (fun j hj ht => ?_)
        by_cases z : j = i
        · rw [z] at ht
          exact absurd ht q
        · exact h40 j (by omega) ht
  by_cases q : G 4 = 0
  · have eM : sp_X11_takesPlaces G S = (0, G, S) := by
      unfold sp_X11_takesPlaces K_X11_takesPlaces_21
      rw [if_pos q]
    rw [eM] at hz
    exact absurd rfl hz
  · by_cases q2 : bits10 (G 4) ≤ G 14
    · obtain ⟨S', a1, a2, a3⟩ := loop 10 0 (by omega) 8589934592 S (by omega) (fun _ _ => rfl) (fun j hj => absurd hj (Nat.not_lt_zero _))
      have a1 : K_X11_takesPlaces_32 G (upd G 14 0) 8589934592 S 0 0 = (1, upd G 14 0, S') := a1
      refine ⟨S', ?_, a2, fun j hj ht => ?_⟩
      · unfold sp_X11_takesPlaces
        simp only [k_e]
        rw [if_neg q, um_bits, if_pos q2, a1]
      · rw [a3 j hj ht]
        rw [bits_cb, ← y1, y3] at q2
        have h1 := cbt_le (G 4) 10
        have h2 := (nI_leI (a := cbt (G 4) 10) (b := T) (by omega) (by omega)).mp q2
        have h3 := cbt_lt ht 10 hj
        obtain ⟨b, b1, b2, b3⟩ := y4 (cbt (G 4) j) (by omega)
        rw [b2, b3]
    · have eM : sp_X11_takesPlaces G S = (0, G, S) := by
        unfold sp_X11_takesPlaces K_X11_takesPlaces_21
        simp only [k_e]
        rw [if_neg q, um_bits, if_neg q2]
      rw [eM] at hz
      exact absurd rfl hz
theorem c_at2 {k : Nat} (hk : k < 220) : sp_X9_at F R (nI k) = R 10 k := by
  unfold sp_X9_at K_X9_at_21
  simp only [k_e]
  have e : g_in (nI k) 0 219 = 1 := ug_in (lo := 0) (hi := 219) (by omega) (by omega) (by omega)
  rw [e, if_neg (by decide), nI_clamp (by omega)]
theorem fits_eq (u : UCore F R G S) (e4 : G 4 = F 691) (hS : ∀ j, j < 10 → hb (F 691) (nI j) → S 40 j = R 10 (cbt (F 691) j)) : sp_X4_isAsTold_r9 F R = sp_X11_fits G S := by
  obtain ⟨⟨c1, c2, cst⟩, c3, c4, c5, c6, c7, c8, c9⟩ := u
  have n1 : ¬ (1 : Int32) = 0 := by decide
  have loop : ∀ d i, i + d = 10 → ∀ n l, d < n → d < l → K_X4_isAsTold_r9_4 F R n (nI (cbt (F 691) i)) (nI i) = K_X11_fits_2 G S l (nI i) := by
    intro d
    induction d with
    | zero =>
      intro i hi n l hn hl
      obtain ⟨n, rfl⟩ : ∃ n', n = n' + 1 := ⟨n - 1, by omega⟩
      obtain ⟨l, rfl⟩ : ∃ n', l = n' + 1 := ⟨l - 1, by omega⟩
      obtain rfl : i = 10 := by omega
      rw [ks_X4_isAsTold_r9_4, ks_X11_fits_2]
      unfold KB_X4_isAsTold_r9_4 KB_X11_fits_2
      rw [if_pos ub_10e, if_pos ub_10e]
    | succ d ih =>
      intro i hi n l hn hl
      obtain ⟨n, rfl⟩ : ∃ n', n = n' + 1 := ⟨n - 1, by omega⟩
      obtain ⟨l, rfl⟩ : ∃ n', l = n' + 1 := ⟨l - 1, by omega⟩
      have hi9 : i < 10 := by omega
      have hcl := cbt_le (F 691) i
      have I := ih (i + 1) (by omega) n l (by omega) (by omega)
      rw [ks_X4_isAsTold_r9_4, ks_X11_fits_2]
      unfold KB_X4_isAsTold_r9_4 KB_X11_fits_2 K_X4_isAsTold_r9_45 K_X4_isAsTold_r9_62 K_X11_fits_47 K_X11_fits_52 sp_X4_isOver K_X4_isOver_16
      rw [if_neg (ub_10 hi9), if_neg (ub_10 hi9)]
      simp only [k_e, nI_1]
      by_cases q : hb (F 691) (nI i)
      · obtain ⟨v1, v2, v3, v4, v5, v6, v7⟩ := c9 i hi9 q
        have e : cbt (F 691) (i + 1) = cbt (F 691) i + 1 := by rw [cbt_s, if_pos (uhb_t.mpr q)]
        rw [e] at I
        rw [if_neg (fun z => (ub_test hi9).mp z q), if_neg (fun z => ub_hasv0.mp z (by rw [e4]; exact q)), c_at2 (by omega), nI_clamp (show i < 2 ^ 31 by omega), hS i hi9 q, v1]
        by_cases o : hb (F 693) (nI i)
        · rw [if_neg (fun z => (ub_test hi9).mp z o), if_neg n1, if_pos (v7.mp o)]
          by_cases y : R 10 (cbt (F 691) i) = 255
          · rw [if_pos y, if_pos y]
            exact I
          · rw [if_neg y, if_neg y]
        · rw [if_pos ((ub_test hi9).mpr o), if_pos rfl, if_neg (fun z => o (v7.mpr z))]
          by_cases y : R 10 (cbt (F 691) i) = S 26 i
          · rw [if_pos y, if_pos y]
            exact I
          · rw [if_neg y, if_neg y]
      · have e : cbt (F 691) (i + 1) = cbt (F 691) i := by rw [cbt_s, if_neg (fun z => q (uhb_t.mp z)), Nat.add_zero]
        rw [e] at I
        rw [if_pos ((ub_test hi9).mpr q), if_pos (ub_hasv0.mpr (by rw [e4]; exact q))]
        exact I
  unfold sp_X4_isAsTold_r9 sp_X11_fits
  exact loop 10 0 (by omega) 8589934592 8589934592 (by omega) (by omega)
/-- an evening is noted by the class -/
theorem note_eq (F : Nat → Int32) (R : Nat → Nat → Int32) (a b : Int32) : ∃ F', sp_X7_noteFit_r9 F R a b = (F', R) ∧ (∀ k, k ≠ 566 → k ≠ 567 → k ≠ 568 → F' k = F k) ∧ (sp_X4_isAsTold_r9 F R = 0 → F' = F) ∧ (¬ sp_X4_isAsTold_r9 F R = 0 → F' 568 = F 568 + 1 ∧ F' 566 = (if F 568 = 0 then a else F 566) ∧ F' 567 = (if F 568 = 0 then b else F 567)) := by
  by_cases q : sp_X4_isAsTold_r9 F R = 0
  · refine ⟨F, ?_, fun _ _ _ _ => rfl, fun _ => rfl, fun z => absurd q z⟩
    unfold sp_X7_noteFit_r9
    simp only [k_e]
    rw [if_pos q]
  · by_cases q2 : F 568 = 0
    · refine ⟨upd (upd (upd F 566 a) 567 b) 568 (F 568 + 1), ?_, fun k k1 k2 k3 => by rw [uu, if_neg k3, uu, if_neg k2, uu, if_neg k1], fun z => absurd z q, fun _ => ⟨by rw [uu, if_pos rfl], ?_, ?_⟩⟩
      · unfold sp_X7_noteFit_r9 K_X7_noteFit_r9_29
        simp only [k_e]
        rw [if_neg q, if_pos q2, uu, if_neg (by decide), uu, if_neg (by decide)]
      · rw [if_pos q2]; simp (decide := true) only [uu, if_true, if_false]
      · rw [if_pos q2]; simp (decide := true) only [uu, if_true, if_false]
    · refine ⟨upd F 568 (F 568 + 1), ?_, fun k k1 k2 k3 => by rw [uu, if_neg k3], fun z => absurd z q, fun _ => ⟨by rw [uu, if_pos rfl], ?_, ?_⟩⟩
      · unfold sp_X7_noteFit_r9 K_X7_noteFit_r9_29
        simp only [k_e]
        rw [if_neg q, if_neg q2]
      · rw [if_neg q2]; simp (decide := true) only [uu, if_false]
      · rw [if_neg q2]; simp (decide := true) only [uu, if_false]
/-! how quick -/
def UTold (R : Nat → Nat → Int32) (G : Nat → Int32) (S : Nat → Nat → Int32) : Prop := ∀ j, j < 10 → hb (G 4) (nI j) → S 40 j = R 10 (cbt (G 4) j)
def UNq (q : Nat) (F : Nat → Int32) (y1 y2 : Int32) : Prop := F 568 = nI q ∧ y1 = nI q ∧ (0 < q → F 566 = y2) ∧ (q = 0 → y2 = -2)
theorem hq_loop {F0 : Nat → Int32} (a0 : Int32) : ∀ d v, v + d = 41 → 1 ≤ v → ∀ (n l q : Nat) (F : Nat → Int32) (R : Nat → Nat → Int32) (G : Nat → Int32) (S : Nat → Nat → Int32) (y1 y2 : Int32), d < n → d < l → UR0 False F R G S → ULt F R → jv 0 200 (F 17) → F0 81 = F 81 → UTold R G S → q ≤ v → UNq q F y1 y2 → ∃ F' R', K_X7_findPaces_r9_7 F0 n F R (nI v) = (F', R') ∧ (K_X11_howQuick_26 a0 l G S y1 y2 (nI v)).1 = if a0 = 0 then F' 568 else if F' 568 = 0 then -2 else F' 566 := by
  intro d
  induction d with
  | zero =>
    intro v hv h1 n l q F R G S y1 y2 hn hl _ _ _ _ _ hq hN
    obtain ⟨n, rfl⟩ : ∃ n', n = n' + 1 := ⟨n - 1, by omega⟩
    obtain ⟨l, rfl⟩ : ∃ n', l = n' + 1 := ⟨l - 1, by omega⟩
    have e : (40 : Int32) < nI v := nI_lt (a := 40) (by omega) (by omega)
    obtain ⟨m1, m2, m3, m4⟩ := hN
    refine ⟨F, R, ?_, ?_⟩
    · rw [ks_X7_findPaces_r9_7]
      unfold KB_X7_findPaces_r9_7
      rw [if_pos e]
    · rw [ks_X11_howQuick_26]
      unfold KB_X11_howQuick_26 K_X11_howQuick_83
      rw [if_pos e]
      by_cases q0 : a0 = 0
      · rw [if_pos q0, if_pos q0, m1, m2]
      · rw [if_neg q0, if_neg q0]
        by_cases z : q = 0
        · rw [m1, z, if_pos (show nI 0 = 0 from rfl), m4 z]
        · rw [m1, if_neg (nI_ne0 (by omega) (by omega)), m3 (by omega)]
  | succ d ih =>
    intro v hv h1 n l q F R G S y1 y2 hn hl h hL hb1 e81 hT hq hN
    obtain ⟨n, rfl⟩ : ∃ n', n = n' + 1 := ⟨n - 1, by omega⟩
    obtain ⟨l, rfl⟩ : ∃ n', l = n' + 1 := ⟨l - 1, by omega⟩
    obtain ⟨Fe, Re, Ga, Sa, F', R', G', S', r, w, c1, c2, c3, c4, c5, c6, c7, c8, c9, c10, c11, c12⟩ := even_step h hL hb1 (P := v) ⟨h1, by omega⟩
    have e : ¬ (40 : Int32) < nI v := nI_nlt (b := v) (a := 40) (by omega) (by omega)
    obtain ⟨⟨ev, ue⟩, _⟩ := c5
    have g4 : G' 4 = G 4 := c11 4 (by unfold cfG; omega)
    have hT' : UTold R' G' S' := fun j hj ht => by
      rw [c12 40 (by unfold cfS; omega), c10 10 (by unfold cfR; omega), g4]
      exact hT j hj (by rw [← g4]; exact ht)
    have ue1 : UCore F' R' G' S' := ue.1
    have hf := fits_eq ue1 (by rw [g4, c8]) (fun j hj ht => by
      rw [c8] at ht
      rw [c8, ← g4]
      exact hT' j hj (by rw [g4]; exact ht))
    obtain ⟨F2, n1, n2, n3, n4⟩ := note_eq F' R' (nI v) 0
    have hU2 : UR0 False F2 R' G' S' := UR0_e c6 (fun k hk => n2 k (by unfold cF0 cF at hk; omega) (by unfold cF0 cF at hk; omega) (by unfold cF0 cF at hk; omega)) (fun _ _ => rfl) (fun _ _ => rfl) (fun _ _ => rfl)
    have hL2 : ULt F2 R' := by
      obtain ⟨z1, z2, z3, z4, z5, z6, z7⟩ := c7
      unfold ULt
      rw [n2 80 (by omega) (by omega) (by omega), n2 81 (by omega) (by omega) (by omega), n2 82 (by omega) (by omega) (by omega), n2 83 (by omega) (by omega) (by omega), n2 16 (by omega) (by omega) (by omega), n2 17 (by omega) (by omega) (by omega), n2 18 (by omega) (by omega) (by omega), n2 19 (by omega) (by omega) (by omega), n2 672 (by omega) (by omega) (by omega), n2 674 (by omega) (by omega) (by omega)]
      exact ⟨z1, z2, z3, z4, z5, z6, z7⟩
    have hb2 : jv 0 200 (F2 17) := by rw [n2 17 (by omega) (by omega) (by omega), c9 17 (by unfold cfF; omega)]; exact hb1
    have e2 : F0 81 = F2 81 := by rw [n2 81 (by omega) (by omega) (by omega), c9 81 (by unfold cfF; omega)]; exact e81
    obtain ⟨m1, m2, m3, m4⟩ := hN
    have f568 : F' 568 = nI q := (c9 568 (by unfold cfF; omega)).trans m1
    have f566 : F' 566 = F 566 := c9 566 (by unfold cfF; omega)
    have eC : K_X7_findPaces_r9_7 F0 (n + 1) F R (nI v) = K_X7_findPaces_r9_7 F0 n F2 R' (nI (v + 1)) := by
      rw [ks_X7_findPaces_r9_7]
      unfold KB_X7_findPaces_r9_7
      rw [if_neg e, e81, c1, k_t2, c2, k_t2, n1, k_t2, k_e, nI_1]
    have eM : K_X11_howQuick_26 a0 (l + 1) G S y1 y2 (nI v) = if sp_X11_fits G' S' = 0 then K_X11_howQuick_26 a0 l G' S' y1 y2 (nI (v + 1)) else K_X11_howQuick_26 a0 l G' S' (y1 + 1) (if y1 = 0 then nI v else y2) (nI (v + 1)) := by
      rw [ks_X11_howQuick_26]
      unfold KB_X11_howQuick_26 K_X11_howQuick_68 K_X11_howQuick_63 K_X11_howQuick_68
      rw [if_neg e, c3, k_t2, c4, k_t2]
      simp only [k_e, nI_1]
      by_cases z : y1 = 0
      · simp only [if_pos z]
      · simp only [if_neg z]
    rw [eC, eM]
    by_cases z : sp_X11_fits G' S' = 0
    · rw [if_pos z]
      have eF := n3 (hf.trans z)
      refine ih (v + 1) (by omega) (by omega) n l q F2 R' G' S' y1 y2 (by omega) (by omega) hU2 hL2 hb2 e2 hT' (by omega) ⟨?_, m2, fun p => ?_, m4⟩
      · rw [eF]; exact f568
      · rw [eF, f566]; exact m3 p
    · rw [if_neg z]
      obtain ⟨x1, x2, x3⟩ := n4 (fun y => z (hf.symm.trans y))
      refine ih (v + 1) (by omega) (by omega) n l (q + 1) F2 R' G' S' (y1 + 1) _ (by omega) (by omega) hU2 hL2 hb2 e2 hT' (by omega) ⟨?_, by rw [m2, nI_1], fun _ => ?_, fun p => by omega⟩
      · rw [x1, f568, nI_1]
      · rw [x2, f568, m2]
        by_cases p : q = 0
        · rw [p, if_pos (show nI 0 = 0 from rfl), if_pos (show nI 0 = 0 from rfl)]
        · rw [if_neg (nI_ne0 (by omega) (by omega)), if_neg (nI_ne0 (by omega) (by omega)), f566]
          exact m3 (by omega)
theorem an2_howQuick (h : URel2 F R G S) (a0 : Int32) : UAns URel2 (sp_X10_howQuick F R a0) (sp_X11_howQuick G S a0) := by
  refine ⟨?_, f22_howQuick h a0⟩
  obtain ⟨h1, h2, h3⟩ := can_eq h.1
  by_cases q : g_in a0 0 1 = 0
  · have eC : sp_X10_howQuick F R a0 = (-1, F, R) := by
      unfold sp_X10_howQuick K_X10_howQuick_16
      rw [k_e, if_pos q]
    have eM : sp_X11_howQuick G S a0 = (-1, G, S) := by
      unfold sp_X11_howQuick K_X11_howQuick_16
      rw [k_e, if_pos q]
    simp only [eC, eM]
  by_cases q2 : (sp_X11_takesPlaces G S).1 = 0
  · have eC : sp_X10_howQuick F R a0 = (-1, F, R) := by
      unfold sp_X10_howQuick K_X10_howQuick_16
      rw [k_e, if_neg q, k_e, if_pos (h1.mpr q2)]
    have eM : sp_X11_howQuick G S a0 = (-1, G, S) := by
      unfold sp_X11_howQuick K_X11_howQuick_16
      rw [k_e, if_neg q, h2 q2, k_t3, if_pos rfl]
    simp only [eC, eM]
  obtain ⟨S', e1, e2, e3⟩ := takes_eq h.1 q2
  obtain ⟨F1, R1, v1, v2, v3, v4, v5, v6⟩ := lay_rel h.1
  obtain ⟨F', R', w1, w2⟩ := hq_loop (F0 := F1) a0 40 1 (by omega) (by omega) 8589934592 8589934592 0 (upd F1 568 0) R1 (upd G 14 0) S' 0 (-2) (by omega) (by omega) (UR0_e (ur0_of v2) (fun k hk => by rw [uu, if_neg (by unfold cF0 cF at hk; omega)]) (fun k hk => by rw [uu, if_neg (by unfold cG0 at hk; omega)]) (fun _ _ => rfl) (fun c hc => e2 c (by unfold cS0 cS at hc; omega))) (by
    obtain ⟨z1, z2, z3, z4, z5, z6, z7⟩ := v3
    unfold ULt
    simp (decide := true) only [uu, if_false]
    exact ⟨z1, z2, z3, z4, z5, z6, z7⟩) (by rw [uu, if_neg (by decide), v5 17 (by omega)]; exact h.2.2.1) (by rw [uu, if_neg (by decide)]) (fun j hj ht => by
    rw [uu, if_neg (by decide)] at ht
    rw [uu, if_neg (by decide), v6 10 (by omega) (by omega)]
    exact e3 j hj ht) (by omega) ⟨by rw [uu, if_pos rfl]; rfl, rfl, fun z => absurd z (Nat.lt_irrefl _), fun _ => rfl⟩
  have w1 : K_X7_findPaces_r9_7 F1 8589934592 (upd F1 568 0) R1 1 = (F', R') := w1
  have w2 : (K_X11_howQuick_26 a0 8589934592 (upd G 14 0) S' 0 (-2) 1).1 = if a0 = 0 then F' 568 else if F' 568 = 0 then -2 else F' 566 := w2
  have eM : sp_X11_howQuick G S a0 = K_X11_howQuick_26 a0 8589934592 (upd G 14 0) S' 0 (-2) 1 := by
    unfold sp_X11_howQuick
    rw [k_e, if_neg q, e1, k_t3, if_neg (by decide)]
  have eP : sp_X7_findPaces_r9 F1 R1 = (F', R') := by
    unfold sp_X7_findPaces_r9
    rw [k_e]
    exact w1
  rw [eM, w2]
  unfold sp_X10_howQuick K_X10_howQuick_86
  rw [k_e, if_neg q, k_e, if_neg (fun z => q2 (h1.mp z)), v1, k_t2, eP, k_t2, k_e]
  by_cases z : a0 = 0
  · rw [if_pos z, if_pos z]
  · rw [if_neg z, if_neg z]
    by_cases y : F' 568 = 0
    · rw [if_pos y, if_pos y]
    · rw [if_neg y, if_neg y]
end UFT
