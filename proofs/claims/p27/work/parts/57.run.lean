/-! ===== a whole evening, run: both the same ===== -/
theorem m_35 {G : Nat → Int32} {S : Nat → Nat → Int32} : ∀ d i, i + d = 10 → ∀ (k : Nat) (S1 : Nat → Nat → Int32), d < k → (∀ c, c = 7 ∨ c = 4 → S1 c = S c) → (∀ j, j < i → S1 27 j = 0 ∧ S1 28 j = 0 ∧ S1 29 j = S 7 j ∧ S1 31 j = S 4 j ∧ S1 32 j = 0 ∧ S1 33 j = 0 ∧ S1 34 j = 0 ∧ S1 35 j = 0) → ∃ S', K_X11_begins_35 G k S1 (nI i) = (G, S') ∧ ∀ j, j < 10 → S' 27 j = 0 ∧ S' 28 j = 0 ∧ S' 29 j = S 7 j ∧ S' 31 j = S 4 j ∧ S' 32 j = 0 ∧ S' 33 j = 0 ∧ S' 34 j = 0 ∧ S' 35 j = 0 := by
  intro d
  induction d with
  | zero =>
    intro i hi k S1 hk h1 h2
    obtain ⟨k, rfl⟩ : ∃ n', k = n' + 1 := ⟨k - 1, by omega⟩
    obtain rfl : i = 10 := by omega
    rw [ks_X11_begins_35]
    unfold KB_X11_begins_35
    rw [if_pos ub_10e]
    exact ⟨S1, rfl, h2⟩
  | succ d ih =>
    intro i hi k S1 hk h1 h2
    obtain ⟨k, rfl⟩ : ∃ n', k = n' + 1 := ⟨k - 1, by omega⟩
    rw [ks_X11_begins_35]
    unfold KB_X11_begins_35
    rw [if_neg (ub_10 (by omega))]
    simp only [k_e, nI_1, nI_clamp (show i < 2 ^ 31 by omega)]
    refine ih (i + 1) (by omega) k _ (by omega) (fun c hc => ?_) (fun j hj => ?_)
    · rcases hc with rfl | rfl
      · simp (decide := true) only [ug, if_false]
        exact h1 7 (Or.inl rfl)
      · simp (decide := true) only [ug, if_false]
        exact h1 4 (Or.inr rfl)
    · simp (decide := true) only [ug, uu, if_true, if_false]
      by_cases q : j = i
      · rw [q]
        simp (decide := true) only [if_true, h1 7 (Or.inl rfl), h1 4 (Or.inr rfl)]
      · simp only [q, if_false]
        exact h2 j (by omega)
/-- before it begins: what is told of the table, the pull, the laws and the hand -/
def UBeg (F : Nat → Int32) (R : Nat → Nat → Int32) (G : Nat → Int32) (S : Nat → Nat → Int32) : Prop :=
  F 83 = G 42 ∧ jv 0 1023 (F 83) ∧ F 80 = G 0 ∧ F 81 = G 1 ∧ F 82 = G 43 ∧ F 241 = G 44 ∧ jv 0 60 (F 241) ∧ (∀ t, t < 60 → nI t < F 241 → R 16 t = S 25 t ∧ jv 0 40 (S 25 t)) ∧ (∀ j, j < 10 → hb (F 83) (nI j) → R 6 (8 * j) = S 1 j ∧ R 6 (8 * j + 1) = S 26 j ∧ R 6 (8 * j + 2) = S 3 j ∧ R 6 (8 * j + 3) = S 4 j ∧ R 6 (8 * j + 4) = S 5 j ∧ R 6 (8 * j + 5) = S 30 j ∧ R 6 (8 * j + 6) = S 7 j ∧ jv 1 40 (S 3 j) ∧ jv 1 99 (S 5 j) ∧ 0 ≤ (S 7 j).toInt) ∧ ULaw F R G S ∧ UHand F G
theorem begin_rel {F G : Nat → Int32} {R S : Nat → Nat → Int32} (h : UBeg F R G S) : UEnd 0 (sp_X0_begin F R) (sp_X11_begins G S) ∧ (sp_X0_begin F R).1 697 = 0 := by
  obtain ⟨h1, h2, h3, h4, h5, h6, h7, h8, h9, h10, h11⟩ := h
  obtain ⟨n, F', R', e, b1, b2, b3, b4, b5, b6, b7, b8, b9, b10, b11, b12⟩ := ux_begin F R
  have fx := fr_sp_X0_begin F R
  have fm := fr_sp_X11_begins G S
  have I := m_35 (G := upd (upd (upd (upd (upd (upd G 45 0) 46 0) 48 (G 1)) 65 0) 66 0) 67 0) (S := S) 10 0 (by omega) 8589934592 S (by omega) (fun _ _ => rfl) (fun j hj => absurd hj (by omega))
  rw [nI_0] at I
  obtain ⟨S', em, m1⟩ := I
  have em : sp_X11_begins G S = (upd (upd (upd (upd (upd (upd G 45 0) 46 0) 48 (G 1)) 65 0) 66 0) 67 0, S') := by
    unfold sp_X11_begins
    simp only [k_e]
    exact em
  rw [e] at fx
  rw [em] at fm
  rw [e, em]
  have gF : ∀ k, k ≠ 601 → k ≠ 603 → ¬ (691 ≤ k ∧ k ≤ 698) → F' k = F k := fun k z1 z2 z3 => fx.1 k (by simp [md_X0_begin]; omega)
  have gR : ∀ c, c ≠ 38 → c ≠ 41 → c ≠ 44 → c ≠ 45 → c ≠ 46 → R' c = R c := fun c z1 z2 z3 z4 z5 => fx.2 c (by simp [mr_X0_begin]; omega)
  have gS : ∀ c, c ≠ 27 → c ≠ 28 → c ≠ 29 → ¬ (31 ≤ c ∧ c ≤ 35) → S' c = S c := fun c z1 z2 z3 z4 => fm.2 c (by simp [mr_X11_begins]; omega)
  have gG : ∀ k, k ≠ 45 → k ≠ 46 → k ≠ 48 → ¬ (65 ≤ k ∧ k ≤ 67) → (upd (upd (upd (upd (upd (upd G 45 0) 46 0) 48 (G 1)) 65 0) 66 0) 67 0) k = G k := fun k z1 z2 z3 z4 => fm.1 k (by simp [md_X11_begins]; omega)
  have g45 : (upd (upd (upd (upd (upd (upd G 45 0) 46 0) 48 (G 1)) 65 0) 66 0) 67 0) 45 = 0 := by
    rw [g_un rfl, g_un rfl, g_un rfl, g_un rfl, g_un rfl, g_us]
  have g46 : (upd (upd (upd (upd (upd (upd G 45 0) 46 0) 48 (G 1)) 65 0) 66 0) 67 0) 46 = 0 := by
    rw [g_un rfl, g_un rfl, g_un rfl, g_un rfl, g_us]
  have g48 : (upd (upd (upd (upd (upd (upd G 45 0) 46 0) 48 (G 1)) 65 0) 66 0) 67 0) 48 = G 1 := by
    rw [g_un rfl, g_un rfl, g_un rfl, g_us]
  have g65 : (upd (upd (upd (upd (upd (upd G 45 0) 46 0) 48 (G 1)) 65 0) 66 0) 67 0) 65 = 0 := by
    rw [g_un rfl, g_un rfl, g_us]
  have g66 : (upd (upd (upd (upd (upd (upd G 45 0) 46 0) 48 (G 1)) 65 0) 66 0) 67 0) 66 = 0 := by
    rw [g_un rfl, g_us]
  have g67 : (upd (upd (upd (upd (upd (upd G 45 0) 46 0) 48 (G 1)) 65 0) 66 0) 67 0) 67 = 0 := g_us
  generalize (upd (upd (upd (upd (upd (upd G 45 0) 46 0) 48 (G 1)) 65 0) 66 0) 67 0) = G' at gG g45 g46 g48 g65 g66 g67
  have e691 : F' 691 = F 83 := b3
  refine ⟨⟨?_, ?_, ?_, ?_, ?_, ?_⟩, b9⟩
  · show UCore F' R' G' S'
    unfold UCore
    rw [b4, b5, b6, b8, b10, g65, g67, g48, e691]
    refine ⟨?_, rfl, rfl, h4, ub_0_rng, ub_0_rng, fun j hj _ => ⟨hb_0 hj, hb_0 hj⟩, fun j hj ht => ?_⟩
    · unfold UStat
      rw [e691, gG 42 (by omega) (by omega) (by omega) (by omega), gG 44 (by omega) (by omega) (by omega) (by omega), gF 241 (by omega) (by omega) (by omega), gR 16 (by omega) (by omega) (by omega) (by omega) (by omega), gS 25 (by omega) (by omega) (by omega) (by omega), gR 6 (by omega) (by omega) (by omega) (by omega) (by omega), gS 1 (by omega) (by omega) (by omega) (by omega), gS 3 (by omega) (by omega) (by omega) (by omega), gS 5 (by omega) (by omega) (by omega) (by omega), gS 30 (by omega) (by omega) (by omega) (by omega)]
      refine ⟨h1, h2, h6, h7, h8, fun j hj ht => ?_, ?_, ?_⟩
      · obtain ⟨t0, t1, t2, t3, t4, t5, t6, t7, t8, t9⟩ := h9 j hj ht
        rw [(m1 j hj).2.2.2.1]
        exact ⟨t0, t2, t3, t4, t5, t7, t8⟩
      · exact ULaw_e h10 (gF 274 (by omega) (by omega) (by omega)) (gF 278 (by omega) (by omega) (by omega)) (gG 28 (by omega) (by omega) (by omega) (by omega)) (fun c z1 z2 => gR c (by omega) (by omega) (by omega) (by omega) (by omega)) (fun c z1 z2 => gS c (by omega) (by omega) (by omega) (by omega))
      · unfold UFold
        rw [gG 43 (by omega) (by omega) (by omega) (by omega), gG 0 (by omega) (by omega) (by omega) (by omega), gG 1 (by omega) (by omega) (by omega) (by omega)]
        obtain ⟨n1, n2, n3, n4⟩ := b12
        rw [h3, h4, h5] at n3 n4
        exact ⟨n, n1, n2, n3, n4⟩
    · obtain ⟨t0, t1, t2, t3, t4, t5, t6, t7, t8, t9⟩ := h9 j hj ht
      obtain ⟨a1, a2, a3⟩ := b1 j hj
      obtain ⟨c1, c2, c3, _⟩ := m1 j hj
      unfold UTh
      rw [a1, a2, a3, c1, c2, c3, gS 26 (by omega) (by omega) (by omega) (by omega)]
      exact ⟨t1, t6, t9, rfl, Or.inl rfl, ⟨fun z => absurd z (hb_0 hj), fun z => absurd z (by decide)⟩, ⟨fun z => absurd z (hb_0 hj), fun z => absurd z (by decide)⟩⟩
  · exact UHand_e h11 (fun k z1 z2 => gF k (by omega) (by omega) (by omega)) (fun k hk => gG k (by omega) (by omega) (by omega) (by omega))
  · exact b7.trans g66.symm
  · exact b11.trans g46.symm
  · exact g45.trans nI_0.symm
  · intro j hj _
    obtain ⟨_, _, _, _, c5, c6, c7, c8⟩ := m1 j hj
    show ULed R' S' 0 0 j
    refine ⟨?_, fun b hb1 => ?_⟩
    · rw [c5, c6, c7, c8]; rfl
    · rw [b2 (10 * b + j) (by omega)]
      match b, hb1 with
      | 0, _ => rw [if_pos rfl]; exact (by rw [c6]; rfl)
      | 1, _ => rw [if_neg (by omega)]; exact c7.symm
      | 2, _ => rw [if_neg (by omega)]; exact c8.symm
theorem moves_rel {F G : Nat → Int32} {R S : Nat → Nat → Int32} (h : UCore F R G S) : sp_X0_moves F R = sp_X11_someMove G S := by
  unfold sp_X0_moves sp_X11_someMove
  rw [k_e]
  have main : ∀ d i, i + d = 10 → ∀ k l, d < k → d < l → K_X0_moves_10 R (sp_X4_standingSet F R) k (nI i) = K_X11_someMove_2 G S l (nI i) := by
    intro d
    induction d with
    | zero =>
      intro i hi k l hk hl
      obtain ⟨k, rfl⟩ : ∃ n', k = n' + 1 := ⟨k - 1, by omega⟩
      obtain ⟨l, rfl⟩ : ∃ n', l = n' + 1 := ⟨l - 1, by omega⟩
      obtain rfl : i = 10 := by omega
      rw [ks_X0_moves_10, ks_X11_someMove_2]
      unfold KB_X0_moves_10 KB_X11_someMove_2
      rw [if_pos ub_10e, if_pos ub_10e]
    | succ d ih =>
      intro i hi k l hk hl
      obtain ⟨k, rfl⟩ : ∃ n', k = n' + 1 := ⟨k - 1, by omega⟩
      obtain ⟨l, rfl⟩ : ∃ n', l = n' + 1 := ⟨l - 1, by omega⟩
      have hi9 : i < 10 := by omega
      rw [ks_X0_moves_10, ks_X11_someMove_2]
      unfold KB_X0_moves_10 KB_X11_someMove_2 K_X0_moves_35 K_X11_someMove_27
      rw [if_neg (ub_10 hi9), if_neg (ub_10 hi9)]
      simp only [k_e, nI_1, nI_clamp (show i < 2 ^ 31 by omega)]
      have I := ih (i + 1) (by omega) k l (by omega) (by omega)
      rw [I]
      have sc := st_core h i hi9
      have sm := st_model (G := G) (S := S) hi9
      rw [h.1.1] at sc
      by_cases q : hb (sp_X4_standingSet F R) (nI i)
      · have q2 := sm.mpr (sc.mp q)
        have t4 := (h.2.2.2.2.2.2.2 i hi9 (by rw [h.1.1]; exact (sc.mp q).1)).2.2.2.1
        rw [if_neg (fun z => (ub_test hi9).mp z q), if_neg q2, t4]
      · rw [if_pos ((ub_test hi9).mpr q)]
        have q2 : sp_X11_stands G S (nI i) = 0 := by
          by_cases z : sp_X11_stands G S (nI i) = 0
          · exact z
          · exact absurd (sc.mpr (sm.mp z)) q
        rw [if_pos q2]
        split <;> rfl
  have I := main 10 0 (by omega) 8589934592 8589934592 (by omega) (by omega)
  rw [nI_0] at I
  exact I
theorem run_rel {F G : Nat → Int32} {R S : Nat → Nat → Int32} (h : UBeg F R G S) : ∃ t, t ≤ 300 ∧ UEnd t (sp_X0_run F R) (sp_X11_runs G S) ∧ (sp_X0_run F R).1 697 = nI t := by
  have main : ∀ d t, t + d = 300 → ∀ (k l : Nat) (F1 G1 : Nat → Int32) (R1 S1 : Nat → Nat → Int32), d < k → d < l → UEnd t (F1, R1) (G1, S1) → F1 697 = nI t → ∃ t', t' ≤ 300 ∧ UEnd t' (K_X0_run_6 F k F1 R1 (nI t)) (K_X11_runs_4 G l G1 S1) ∧ (K_X0_run_6 F k F1 R1 (nI t)).1 697 = nI t' := by
    intro d
    induction d with
    | zero =>
      intro t ht k l F1 G1 R1 S1 hk hl hu h7
      obtain ⟨k, rfl⟩ : ∃ n', k = n' + 1 := ⟨k - 1, by omega⟩
      obtain ⟨l, rfl⟩ : ∃ n', l = n' + 1 := ⟨l - 1, by omega⟩
      obtain rfl : t = 300 := by omega
      rw [ks_X0_run_6, ks_X11_runs_4]
      unfold KB_X0_run_6 KB_X11_runs_4 K_X0_run_52 K_X11_runs_39
      have e45 : G1 45 = nI 300 := hu.2.2.2.2.1
      have z : (300 : Int32) ≤ nI 300 := nI_le (a := 300) (b := 300) (by omega) (by omega)
      rw [e45, if_pos z, if_pos z]
      exact ⟨300, by omega, hu, h7⟩
    | succ d ih =>
      intro t ht k l F1 G1 R1 S1 hk hl hu h7
      obtain ⟨k, rfl⟩ : ∃ n', k = n' + 1 := ⟨k - 1, by omega⟩
      obtain ⟨l, rfl⟩ : ∃ n', l = n' + 1 := ⟨l - 1, by omega⟩
      rw [ks_X0_run_6, ks_X11_runs_4]
      unfold KB_X0_run_6 KB_X11_runs_4 K_X0_run_52 K_X11_runs_39
      have e45 : G1 45 = nI t := hu.2.2.2.2.1
      have z : ¬ (300 : Int32) ≤ nI t := nI_ge (a := t) (b := 300) (by omega) (by omega)
      have em : sp_X0_moves F1 R1 = sp_X11_someMove G1 S1 := moves_rel hu.1
      rw [e45, if_neg z, if_neg z, h.2.2.2.2.2.1, k_e, k_e, em]
      have go : ∃ t', t' ≤ 300 ∧ UEnd t' (K_X0_run_31 (K_X0_run_6 F k) F1 R1 (nI t)) (K_X11_runs_32 (K_X11_runs_4 G l) G1 S1) ∧ (K_X0_run_31 (K_X0_run_6 F k) F1 R1 (nI t)).1 697 = nI t' := by
        unfold K_X0_run_31 K_X11_runs_32
        have T := tick_rel (by omega) hu
        generalize sp_X0_tick F1 R1 (nI t) = p at T ⊢
        generalize sp_X11_ticks G1 S1 = q at T ⊢
        obtain ⟨F2, R2⟩ := p
        obtain ⟨G2, S2⟩ := q
        simp only [k_t2, k_e, nI_1]
        refine ih (t + 1) (by omega) k l _ G2 R2 S2 (by omega) (by omega) ?_ g_us
        obtain ⟨u1, u2, u3, u4, u5, u6⟩ := T
        refine ⟨UCore_e u1 (fun k hk => g_un (by rw [bne_iff_ne]; omega)) (fun _ _ => rfl) (fun _ _ => rfl) (fun _ _ => rfl), UHand_e u2 (fun k z1 z2 => g_un (by rw [bne_iff_ne]; omega)) (fun _ _ => rfl), u3, u4, u5, u6⟩
      by_cases q : nI t < G 44
      · rw [if_pos q, if_pos q]
        exact go
      · rw [if_neg q, if_neg q]
        by_cases q2 : sp_X11_someMove G1 S1 = 0
        · rw [if_pos q2, if_pos q2]
          exact ⟨t, by omega, hu, h7⟩
        · rw [if_neg q2, if_neg q2]
          exact go
  unfold sp_X0_run sp_X11_runs
  obtain ⟨B1, B2⟩ := begin_rel h
  generalize sp_X0_begin F R = p at B1 B2 ⊢
  generalize sp_X11_begins G S = q at B1 ⊢
  obtain ⟨F2, R2⟩ := p
  obtain ⟨G2, S2⟩ := q
  rw [k_t2, k_t2]
  have I := main 300 0 (by omega) 8589934592 8589934592 F2 G2 R2 S2 (by omega) (by omega) B1 (B2.trans nI_0.symm)
  rw [nI_0] at I
  exact I
