/-! ===== law: both read the same ===== -/
def UTape (F : Nat → Int32) (R : Nat → Nat → Int32) (G : Nat → Int32) (S : Nat → Nat → Int32) : Prop := F 145 = G 14 ∧ ∃ T : Nat, T ≤ 220 ∧ F 145 = nI T ∧ ∀ k, k < T → ∃ b, b < 256 ∧ R 10 k = nI b ∧ S 9 k &&& 255 = nI b
theorem UTape_e {F F' G G' : Nat → Int32} {R R' S S' : Nat → Nat → Int32} (h : UTape F R G S) (e1 : F' 145 = F 145) (e2 : G' 14 = G 14) (r : R' 10 = R 10) (s : S' 9 = S 9) : UTape F' R' G' S' := by
  unfold UTape at *
  rw [e1, e2, r, s]
  exact h
theorem UTape_0 {F G : Nat → Int32} {R S : Nat → Nat → Int32} (e1 : F 145 = 0) (e2 : G 14 = 0) : UTape F R G S := ⟨by rw [e1, e2], 0, by omega, by rw [e1]; rfl, fun k hk => absurd hk (by omega)⟩
theorem at_n {F : Nat → Int32} {R : Nat → Nat → Int32} {k : Nat} (hk : k < 220) : sp_X9_at F R (nI k) = R 10 k := by
  unfold sp_X9_at K_X9_at_21
  have e2 : g_in (nI k) 0 219 = 1 := ug_in (lo := 0) (hi := 219) (by omega) (by omega) (by omega)
  rw [k_e, e2, if_neg (by decide), k_e, nI_clamp (by omega)]
/-- the text is taken from the tape -/
theorem c_text {n : Nat} (hn : n ≤ 200) : ∀ d y, y + d = n → ∀ (m : Nat) (F : Nat → Int32) (R : Nat → Nat → Int32), d < m → F 530 = nI y → ∃ F' R', K_X3_read_7 (nI n) m F R (nI y) = K_X3_read_50 F' R' ∧ F' 530 = nI n ∧ (∀ k, k ≠ 530 → F' k = F k) ∧ (∀ c, c ≠ 34 → R' c = R c) ∧ (∀ k, k < y → R' 34 k = R 34 k) ∧ (∀ k, y ≤ k → k < n → R' 34 k = R 10 k) := by
  intro d
  induction d with
  | zero =>
    intro y hy m F R hm h
    obtain ⟨m, rfl⟩ : ∃ n', m = n' + 1 := ⟨m - 1, by omega⟩
    refine ⟨F, R, ?_, by rw [h, show y = n from by omega], fun _ _ => rfl, fun _ _ => rfl, fun _ _ => rfl, fun k k1 k2 => by omega⟩
    rw [ks_X3_read_7]
    unfold KB_X3_read_7
    rw [if_pos (nI_le (by omega) (by omega))]
  | succ d ih =>
    intro y hy m F R hm h
    obtain ⟨m, rfl⟩ : ∃ n', m = n' + 1 := ⟨m - 1, by omega⟩
    obtain ⟨F', R', a1, a2, a3, a4, a5, a6⟩ := ih (y + 1) (by omega) m (upd F 530 (nI (y + 1))) (g_u R 34 (upd (R 34) y (R 10 y))) (by omega) (by rw [uu, if_pos rfl])
    refine ⟨F', R', ?_, a2, fun k hk => by rw [a3 k hk, uu, if_neg hk], fun c hc => by rw [a4 c hc, ug, if_neg hc], fun k hk => ?_, fun k k1 k2 => ?_⟩
    · rw [ks_X3_read_7]
      unfold KB_X3_read_7
      rw [if_neg (nI_ge (by omega) (by omega)), if_neg (show ¬ (200 : Int32) ≤ nI y from nI_ge (a := y) (b := 200) (by omega) (by omega))]
      simp only [k_e]
      rw [at_n (by omega), nI_clamp (by omega), h, nI_1]
      exact a1
    · rw [a5 k (by omega), ug, if_pos rfl, uu, if_neg (by omega)]
    · by_cases z : k = y
      · rw [z, a5 y (by omega), ug, if_pos rfl, uu, if_pos rfl]
      · rw [a6 k (by omega) k2, ug, if_neg (by decide)]
/-- one clause, as both hold it -/
def ClR (R S : Nat → Nat → Int32) (P C k : Nat) : Prop := ∃ (l p1 p2 a : Nat) (L1 L2 : List Cd), l < 6 ∧ R 28 k = nI l ∧ S 14 k = uch l ∧ R 29 k = nI p1 ∧ R 30 k = nI p2 ∧ S 15 k = nI a ∧ S 16 k = nI (a + L1.length) ∧ S 17 k = nI (a + L1.length + L2.length) ∧ p1 + L1.length < P ∧ p2 + L2.length < P ∧ a + L1.length + L2.length ≤ C ∧ CodeC (R 26) (R 27) p1 L1 ∧ R 26 (p1 + L1.length) = 0 ∧ CodeC (R 26) (R 27) p2 L2 ∧ R 26 (p2 + L2.length) = 0 ∧ CodeM (S 12) a L1 ∧ CodeM (S 12) (a + L1.length) L2 ∧ WS1 1 L1 ∧ CW L2
theorem ClR_keep {R R' S S' : Nat → Nat → Int32} {P P' C C' k : Nat} (h : ClR R S P C k) (hP : P ≤ P') (hC : C ≤ C') (r : ∀ z, z < P → R' 26 z = R 26 z ∧ R' 27 z = R 27 z) (r2 : R' 28 k = R 28 k ∧ R' 29 k = R 29 k ∧ R' 30 k = R 30 k) (s : ∀ z, z < C → S' 12 z = S 12 z) (s2 : S' 14 k = S 14 k ∧ S' 15 k = S 15 k ∧ S' 16 k = S 16 k ∧ S' 17 k = S 17 k) : ClR R' S' P' C' k := by
  obtain ⟨l, p1, p2, a, L1, L2, a1, a2, a3, a4, a5, a6, a7, a8, b1, b2, b3, b4, b5, b6, b7, b8, b9, b10, b11⟩ := h
  refine ⟨l, p1, p2, a, L1, L2, a1, by rw [r2.1]; exact a2, by rw [s2.1]; exact a3, by rw [r2.2.1]; exact a4, by rw [r2.2.2]; exact a5, by rw [s2.2.1]; exact a6, by rw [s2.2.2.1]; exact a7, by rw [s2.2.2.2]; exact a8, by omega, by omega, by omega, CodeC_eq L1 p1 (fun z z1 z2 => r z (by omega)) b4, by rw [(r _ b1).1]; exact b5, CodeC_eq L2 p2 (fun z z1 z2 => r z (by omega)) b6, by rw [(r _ b2).1]; exact b7, CodeM_eq L1 a (fun z z1 z2 => s z (by omega)) b8, CodeM_eq L2 _ (fun z z1 z2 => s z (by omega)) b9, b10, b11⟩
section RLW
variable {u : Nat → Nat} {N : Nat}
/-- both readers ahead of a clause or a ; -/
def LSt (u : Nat → Nat) (N : Nat) (F : Nat → Int32) (R : Nat → Nat → Int32) (G : Nat → Int32) (S : Nat → Nat → Int32) (i p c q : Nat) : Prop := CSt u N F R i p ∧ F 406 = nI q ∧ q ≤ 14 ∧ MS0 u N G S i c ∧ G 27 = nI q ∧ ∀ k, k < q → ClR R S p c k
theorem cl_rel (hu : HU u N) {F G : Nat → Int32} {R S : Nat → Nat → Int32} {i p c q : Nat} (h : LSt u N F R G S i p c q) : (∃ f G' S', ¬ f = 0 ∧ (sp_X3_clause F R).1 532 = f ∧ sp_X11_readsClause G S = (0, G', S') ∧ G' 17 = f) ∨ (∃ j p' c' G' S', sp_X11_readsClause G S = (1, G', S') ∧ i < j ∧ LSt u N (sp_X3_clause F R).1 (sp_X3_clause F R).2 G' S' j p' c' (q + 1)) := by
  obtain ⟨h1, h2, h3, h4, h5, h6⟩ := h
  obtain ⟨mF, mS⟩ := m_clause hu h4 h5 h3
  rcases c_clause (Ps := fun k o i j a L => PM u N k o i j a L ∧ PW k o i j a L) (Pf := PFm u N) hu (Rules_and (PM_rules hu) (PW_rules u)) h1 h2 h3 with ⟨f, f1, f2, f3⟩ | ⟨j, L, L2, g1, g2⟩
  · have f2' : ClF u (PM u N) (PFm u N) i q f := by
      rcases f2 with z | z | z | ⟨j, a, L, z1, z2, z3, z4, z5⟩
      · exact Or.inl z
      · exact Or.inr (Or.inl z)
      · exact Or.inr (Or.inr (Or.inl z))
      · refine Or.inr (Or.inr (Or.inr ⟨j, a, L, z1, z2, z3.1, z4, ?_⟩))
        rcases z5 with y | y | ⟨y1, j2, a2, L2, y2, y3⟩
        · exact Or.inl y
        · exact Or.inr (Or.inl y)
        · exact Or.inr (Or.inr ⟨y1, j2, a2, L2, y2.1, y3⟩)
    obtain ⟨G', S', d1, d2⟩ := mF f f2'
    exact Or.inl ⟨f, G', S', f1, f3, d1, d2⟩
  · obtain ⟨j1, j2, a, a2, z1, z2, z3, z4, z5, z6, z7, z8, z9, z10, z11, z12⟩ := g1
    obtain ⟨G', S', d1, d2, d3, d4, d5, d6, d7, d8, d9, d10, d11⟩ := mS j L L2 ⟨j1, j2, a, a2, z1, z2, z3.1, z4, z5, z6.1, z7, z8, z9, z10, z11, z12⟩
    obtain ⟨e1, e2, e3, e4, e5, e6, e7, e8, e9, e10, e11⟩ := g2
    have w1 : WS1 1 L := z3.2 (by omega)
    have w2 : CW L2 := (z6.2 (by omega)).1
    refine Or.inr ⟨j, _, _, G', S', d1, by omega, e1, e2, by omega, d2, d3, fun k hk => ?_⟩
    by_cases hkq : k = q
    · subst hkq
      refine ⟨lc (u i), p, p + L.length + 1, c, L, L2, z1, e3, ?_, e4, e5, d5, d6, d7, by omega, by omega, by omega, e6, e7, e8, e9, d8, d9, w1, w2⟩
      rw [d4]
      exact (lc_M F R (u i) (HU_le hu i)).2 z1
    · exact ClR_keep (h6 k (by omega)) (by omega) (by omega) e10 (e11 k hkq) d10 (d11 k hkq)
/-- how the reading ends: a fault, or clauses -/
def FrM (G0 : Nat → Int32) (S0 : Nat → Nat → Int32) (G : Nat → Int32) (S : Nat → Nat → Int32) : Prop := G 28 = G0 28 ∧ ∀ c, 18 ≤ c → c ≤ 22 → S c = S0 c
def LEnd (G0 : Nat → Int32) (S0 : Nat → Nat → Int32) (Z : Int32 × (Nat → Int32) × (Nat → Nat → Int32)) (Y : Int32 × (Nat → Int32) × (Nat → Nat → Int32)) : Prop :=
  (∃ f G' S', ¬ f = 0 ∧ Z.1 = f ∧ Y = K_X11_law_86 G' S' 0 ∧ G' 17 = f ∧ FrM G0 S0 G' S') ∨ (∃ q p c G' S', Z.1 = 0 ∧ Y = K_X11_law_86 G' S' 1 ∧ q ≤ 14 ∧ p ≤ 200 ∧ c ≤ 200 ∧ Z.2.1 402 = nI p ∧ Z.2.1 406 = nI q ∧ G' 25 = nI c ∧ G' 27 = nI q ∧ ∀ k, k < q → ClR Z.2.2 S' p c k)
theorem K73_e (n : Nat) (F : Nat → Int32) (R : Nat → Nat → Int32) (y : Int32) : K_X3_read_73 (n + 1) F R y = KB_X3_read_73 (K_X3_read_73 n) F R y := rfl
theorem K46_e (n : Nat) (F : Nat → Int32) (R : Nat → Nat → Int32) (y : Int32) : K_X11_law_46 (n + 1) F R y = KB_X11_law_46 (K_X11_law_46 n) F R y := rfl
theorem l_fault {G0 : Nat → Int32} {S0 : Nat → Nat → Int32} {n m : Nat} {F G : Nat → Int32} {R S : Nat → Nat → Int32} {y : Nat} {f : Int32} (hf : ¬ f = 0) (e1 : F 532 = f) (e2 : G 17 = f) (hfr : FrM G0 S0 G S) : LEnd G0 S0 (K_X3_read_73 (n + 1) F R (nI y)) (K_X11_law_46 (m + 1) G S 0) := by
  refine Or.inl ⟨f, G, S, hf, ?_, ?_, e2, hfr⟩
  · have h : ¬ F 532 = 0 := by rw [e1]; exact hf
    have e109 : (K_X3_read_109 F R).1 = f := by
      unfold K_X3_read_109 K_X3_read_132
      rw [if_neg h]
      exact e1
    rw [K73_e]
    unfold KB_X3_read_73
    have n1 : ¬ (-1 : Int32) = 59 := by decide
    rw [k_e, c_none h, if_neg n1]
    split <;> exact e109
  · rw [K46_e]
    unfold KB_X11_law_46
    rw [if_pos rfl]
theorem l_endC (hu : HU u N) {F : Nat → Int32} {R : Nat → Nat → Int32} {i p : Nat} (h1 : CSt u N F R i p) (z1 : i = N) (n : Nat) (y : Int32) : K_X3_read_73 (n + 1) F R y = (0, F, R) := by
  have hle := HU_le hu i
  have hN := hu.1
  have eu : u i = 256 := hu.2.2 i (by omega)
  have ne : ¬ u i = 59 := by omega
  have e109 : K_X3_read_109 F R = (0, F, R) := by
    unfold K_X3_read_109 K_X3_read_132
    rw [if_pos h1.2.1, h1.1, h1.2.2.2.2.2.1, if_pos (nI_le (by omega) (by omega)), h1.2.1]
  rw [K73_e]
  unfold KB_X3_read_73
  rw [k_e, c_sign hu h1, if_sg 59 59 rfl hle (by omega), if_neg ne]
  split <;> exact e109
theorem l_endM {G : Nat → Int32} {S : Nat → Nat → Int32} {i c : Nat} (h4 : MS0 u N G S i c) (hN : N ≤ 200) (z1 : i = N) (m : Nat) : K_X11_law_46 (m + 1) G S 1 = K_X11_law_86 G S 1 := by
  have n1 : ¬ (1 : Int32) = 0 := by decide
  rw [K46_e]
  unfold KB_X11_law_46
  rw [if_neg n1, h4.1, h4.2.1, if_pos (nI_le (by omega) (by omega))]
theorem l_goC (hu : HU u N) {F : Nat → Int32} {R : Nat → Nat → Int32} {i p y : Nat} (h1 : CSt u N F R i p) (hy : y < 200) (z2 : u i = 59) (n : Nat) : K_X3_read_73 (n + 1) F R (nI y) = K_X3_read_73 n (sp_X3_clause (upd F 531 (F 531 + 1)) R).1 (sp_X3_clause (upd F 531 (F 531 + 1)) R).2 (nI (y + 1)) := by
  have hle := HU_le hu i
  have y200 : ¬ (200 : Int32) ≤ nI y := nI_ge (a := y) (b := 200) (by omega) (by omega)
  rw [K73_e]
  unfold KB_X3_read_73
  simp only [k_e, k_e2]
  rw [if_neg y200, c_sign hu h1, if_sg 59 59 rfl hle (by omega), if_pos z2, nI_1]
theorem l_goM (hu : HU u N) {G : Nat → Int32} {S : Nat → Nat → Int32} {i c : Nat} (h4 : MS0 u N G S i c) (z1 : i < N) (z2 : u i = 59) (m : Nat) {G' : Nat → Int32} {S' : Nat → Nat → Int32} {r : Int32} (e : sp_X11_readsClause (upd G 15 (G 15 + 1)) S = (r, G', S')) (hr : r = 0 ∨ r = 1) : K_X11_law_46 (m + 1) G S 1 = K_X11_law_46 m G' S' r := by
  have hle := HU_le hu i
  have hN := hu.1
  have n1 : ¬ (1 : Int32) = 0 := by decide
  have hh := m_here0 hu h4
  have nle : ¬ nI N ≤ nI i := nI_ge (by omega) (by omega)
  rw [K46_e]
  unfold KB_X11_law_46
  rw [if_neg n1, h4.1, h4.2.1, if_neg nle]
  unfold sp_X11_takes K_X11_law_82
  simp only [k_e]
  rw [hh, if_sg 59 59 rfl hle (by omega), if_pos z2]
  simp only [k_t3]
  rw [if_neg n1, e, k_t3]
  rcases hr with hr | hr
  · rw [if_pos hr, hr]
  · rw [if_neg (by rw [hr]; exact n1), hr]
theorem l_badC (hu : HU u N) {F : Nat → Int32} {R : Nat → Nat → Int32} {i p y : Nat} (h1 : CSt u N F R i p) (hy : y < 200) (z1 : i < N) (z2 : ¬ u i = 59) (n : Nat) : (K_X3_read_73 (n + 1) F R (nI y)).1 = ft 1 i := by
  have hle := HU_le hu i
  have hN := hu.1
  have nle : ¬ nI N ≤ nI i := nI_ge (by omega) (by omega)
  have y200 : ¬ (200 : Int32) ≤ nI y := nI_ge (a := y) (b := 200) (by omega) (by omega)
  rw [K73_e]
  unfold KB_X3_read_73
  simp only [k_e]
  rw [if_neg y200, c_sign hu h1, if_sg 59 59 rfl hle (by omega), if_neg z2]
  unfold K_X3_read_109 K_X3_read_132
  rw [if_pos h1.2.1, h1.1, h1.2.2.2.2.2.1, if_neg nle, k_e2]
  exact c_fail h1
theorem l_badM (hu : HU u N) {G : Nat → Int32} {S : Nat → Nat → Int32} {i c : Nat} (h4 : MS0 u N G S i c) (z1 : i < N) (z2 : ¬ u i = 59) (m : Nat) : K_X11_law_46 (m + 1 + 1) G S 1 = K_X11_law_86 (upd G 17 (ft 1 i)) S 0 := by
  have hle := HU_le hu i
  have hN := hu.1
  have n1 : ¬ (1 : Int32) = 0 := by decide
  have hh := m_here0 hu h4
  have nle : ¬ nI N ≤ nI i := nI_ge (by omega) (by omega)
  have hw : sp_X11_wrongAt G S 1 (G 15) = (0, upd G 17 (ft 1 i), S) := by
    unfold sp_X11_wrongAt
    simp only [k_e]
    rw [h4.1]
    rfl
  have ht : sp_X11_takes G S 59 = (0, upd G 17 (ft 1 i), S) := by
    unfold sp_X11_takes
    rw [k_e, hh, if_sg 59 59 rfl hle (by omega), if_neg z2, hw, k_t3]
  have e2 : ∀ (b : (Nat → Int32) → (Nat → Nat → Int32) → Int32 → Int32 × (Nat → Int32) × (Nat → Nat → Int32)), KB_X11_law_46 b G S 1 = b (upd G 17 (ft 1 i)) S 0 := by
    intro b
    unfold KB_X11_law_46
    rw [if_neg n1, h4.1, h4.2.1, if_neg nle, ht, k_t3, if_pos rfl]
    rfl
  have e3 : ∀ (b : (Nat → Int32) → (Nat → Nat → Int32) → Int32 → Int32 × (Nat → Int32) × (Nat → Nat → Int32)), KB_X11_law_46 b (upd G 17 (ft 1 i)) S 0 = K_X11_law_86 (upd G 17 (ft 1 i)) S 0 := by
    intro b
    unfold KB_X11_law_46
    rw [if_pos rfl]
  rw [K46_e, e2, K46_e, e3]
theorem l_loop (hu : HU u N) {G0 : Nat → Int32} {S0 : Nat → Nat → Int32} : ∀ d i, 200 ≤ i + d → ∀ (n m p c q y : Nat) (F G : Nat → Int32) (R S : Nat → Nat → Int32), d < n → d < m → y ≤ i → LSt u N F R G S i p c q → FrM G0 S0 G S → LEnd G0 S0 (K_X3_read_73 (n + 1) F R (nI y)) (K_X11_law_46 (m + 1) G S 1) := by
  intro d
  induction d using Nat.strongRecOn with
  | _ d ih =>
    intro i hi n m p c q y F G R S hn hm hy h hfr
    have hN := hu.1
    obtain ⟨h1, h2, h3, h4, h5, h6⟩ := h
    have hiN := h1.2.2.2.2.1
    have hpi := h1.2.2.2.1
    obtain ⟨n, rfl⟩ : ∃ n', n = n' + 1 := ⟨n - 1, by omega⟩
    obtain ⟨m, rfl⟩ : ∃ n', m = n' + 1 := ⟨m - 1, by omega⟩
    by_cases z1 : i = N
    · rw [l_endC hu h1 z1, l_endM h4 hN z1]
      exact Or.inr ⟨q, p, c, G, S, rfl, rfl, h3, by omega, by have := h4.2.2.2.2.2; omega, h1.2.2.1, h2, h4.2.2.1, h5, h6⟩
    · by_cases z2 : u i = 59
      · have hC := c_adv hu h1 (show u i ≠ 256 by omega)
        have hM : MS0 u N (upd G 15 (G 15 + 1)) S (i + 1) c := by
          obtain ⟨t1, t2, t3, t4, t5, t6⟩ := h4
          refine ⟨?_, ?_, ?_, t4, by omega, by omega⟩
          · rw [uu, if_pos rfl, t1, nI_1]
          · rw [uu, if_neg (by decide)]; exact t2
          · rw [uu, if_neg (by decide)]; exact t3
        have hL : LSt u N (upd F 531 (F 531 + 1)) R (upd G 15 (G 15 + 1)) S (i + 1) p c q := ⟨hC, by rw [uu, if_neg (by decide)]; exact h2, h3, hM, by rw [uu, if_neg (by decide)]; exact h5, h6⟩
        have hfr2 : ∀ r G' S', sp_X11_readsClause (upd G 15 (G 15 + 1)) S = (r, G', S') → FrM G0 S0 G' S' := by
          intro r G' S' e
          have fr := fr_sp_X11_readsClause (upd G 15 (G 15 + 1)) S
          rw [e] at fr
          refine ⟨?_, fun c c1 c2 => ?_⟩
          · have x1 : G' 28 = upd G 15 (G 15 + 1) 28 := fr.1 28 rfl
            rw [x1, uu, if_neg (by decide)]
            exact hfr.1
          · have x1 : S' c = S c := fr.2 c (by simp [mr_X11_readsClause]; omega)
            exact x1.trans (hfr.2 c c1 c2)
        rcases cl_rel hu hL with ⟨f, G', S', f1, f2, f3, f4⟩ | ⟨j, p', c', G', S', g1, g2, g3⟩
        · rw [l_goC hu h1 (by omega) z2, l_goM hu h4 (by omega) z2 (m + 1) f3 (Or.inl rfl)]
          exact l_fault f1 f2 f4 (hfr2 _ _ _ f3)
        · rw [l_goC hu h1 (by omega) z2, l_goM hu h4 (by omega) z2 (m + 1) g1 (Or.inr rfl)]
          exact ih (d - 1) (by omega) j (by omega) n m p' c' (q + 1) (y + 1) _ _ _ _ (by omega) (by omega) (by omega) g3 (hfr2 _ _ _ g1)
      · rw [l_badM hu h4 (by omega) z2 m]
        exact Or.inl ⟨ft 1 i, _, _, ft_1 (by omega), l_badC hu h1 (by omega) (by omega) z2 (n + 1), rfl, by rw [uu, if_pos rfl], by rw [uu, if_neg (by decide)]; exact hfr.1, hfr.2⟩
end RLW
