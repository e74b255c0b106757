/-! ===== pull: both read the same ===== -/
section UP3
variable {u : Nat → Nat} {N : Nat}
def PRel (u : Nat → Nat) (N : Nat) (F : Nat → Int32) (R : Nat → Nat → Int32) (G : Nat → Int32) (S : Nat → Nat → Int32) (i t : Nat) : Prop := F 209 = nI t ∧ t ≤ 60 ∧ G 15 = nI i ∧ G 20 = nI t ∧ TxC u N R ∧ TxM u N G S ∧ ∀ z, z < t → R 14 z = S 11 z ∧ ∃ p : Nat, p ≤ 40 ∧ R 14 z = nI p
def FrP (G0 : Nat → Int32) (S0 : Nat → Nat → Int32) (G : Nat → Int32) (S : Nat → Nat → Int32) : Prop := G 19 = G0 19 ∧ S 10 = S0 10
def PEnd (G0 : Nat → Int32) (S0 : Nat → Nat → Int32) (Z Y : Int32 × (Nat → Int32) × (Nat → Nat → Int32)) : Prop :=
  (∃ f G' S', ¬ f = 0 ∧ Z.1 = f ∧ Y = K_X11_pull_85 G' S' 0 ∧ G' 17 = f ∧ FrP G0 S0 G' S') ∨ (∃ t G' S', Z.1 = 0 ∧ Y = K_X11_pull_85 G' S' 1 ∧ t ≤ 60 ∧ Z.2.1 209 = nI t ∧ G' 20 = nI t ∧ ∀ z, z < t → Z.2.2 14 z = S' 11 z ∧ ∃ p : Nat, p ≤ 40 ∧ Z.2.2 14 z = nI p)
theorem K45_0 (m : Nat) (G : Nat → Int32) (S : Nat → Nat → Int32) : K_X11_pull_45 (m + 1) G S 0 = K_X11_pull_85 G S 0 := by
  have e : K_X11_pull_45 (m + 1) G S 0 = KB_X11_pull_45 (K_X11_pull_45 m) G S 0 := rfl
  rw [e]
  unfold KB_X11_pull_45
  rw [if_pos rfl]
theorem p_fault {G0 : Nat → Int32} {S0 : Nat → Nat → Int32} {Z : Int32 × (Nat → Int32) × (Nat → Nat → Int32)} {G G' : Nat → Int32} {S S' : Nat → Nat → Int32} {f : Int32} {m : Nat} (hf : ¬ f = 0) (hZ : Z.1 = f) (hs : sp_X11_readsStep G S = (0, G', S')) (h17 : G' 17 = f) (hfr : FrP G0 S0 G' S') : PEnd G0 S0 Z (k_lt3 (sp_X11_readsStep G S) (fun r F R => K_X11_pull_45 (m + 1) F R r)) := by
  refine Or.inl ⟨f, G', S', hf, hZ, ?_, h17, hfr⟩
  rw [hs, k_t3, K45_0]
theorem ft_3 {i : Nat} (hi : i < 2 ^ 31) : ¬ ft 3 i = 0 := ft_ne (by decide) hi
theorem ft_6 {i : Nat} (hi : i < 2 ^ 31) : ¬ ft 6 i = 0 := ft_ne (by decide) hi
theorem p_r01 (hu : HU u N) {G : Nat → Int32} {S : Nat → Nat → Int32} (hM : TxM u N G S) {i k t : Nat} (hi : i < 300) (hk : k ≤ 20) (h15 : G 15 = nI i) (h20 : G 20 = nI t) (h21 : G 21 = nI k) (ht : t ≤ 60) : ∃ r G' S', sp_X11_readsStep G S = (r, G', S') ∧ (r = 0 ∨ r = 1) := by
  obtain ⟨c1, c2, c3, c4, c5, c6⟩ := p_M hu hM hi hk h15 h20 h21 ht
  by_cases z1 : dig (u i)
  · by_cases z2 : k = 20
    · obtain ⟨G', a1, _⟩ := c2 z1 z2
      exact ⟨0, G', S, a1, Or.inl rfl⟩
    · by_cases z3 : pv u i ≤ 40
      · by_cases z4 : gq u i
        · by_cases z5 : t + qm u i ≤ 60
          · obtain ⟨G', S', a1, _⟩ := c6 z1 (by omega) z3 z4 z5
            exact ⟨1, G', S', a1, Or.inr rfl⟩
          · obtain ⟨G', a1, _⟩ := c5 z1 (by omega) z3 z4 (by omega)
            exact ⟨0, G', S, a1, Or.inl rfl⟩
        · obtain ⟨G', a1, _⟩ := c4 z1 (by omega) z3 z4
          exact ⟨0, G', S, a1, Or.inl rfl⟩
      · obtain ⟨G', a1, _⟩ := c3 z1 (by omega) (by omega)
        exact ⟨0, G', S, a1, Or.inl rfl⟩
  · obtain ⟨G', a1, _⟩ := c1 z1
    exact ⟨0, G', S, a1, Or.inl rfl⟩
theorem qj_gt (i : Nat) : i < qj u i := by
  obtain ⟨h1, h2⟩ := pj_gt (u := u) i
  unfold qj
  split <;> omega
theorem qj_le (hu : HU u N) {i : Nat} (hd : dig (u i)) (hg : gq u i) : qj u i ≤ N := by
  have h' : 48 ≤ u i ∧ u i ≤ 57 := hd
  have h0 := HU_in hu (show u i ≠ 256 by omega)
  unfold qj
  by_cases z : u (pj u i) = 42
  · obtain ⟨g1, g2⟩ := hg z
    have := HU_in hu (show u (pj u i + 1) ≠ 256 by omega)
    rw [if_pos z]
    omega
  · rw [if_neg z]
    unfold pj
    by_cases y : dig (u (i + 1))
    · have y' : 48 ≤ u (i + 1) ∧ u (i + 1) ≤ 57 := y
      have := HU_in hu (show u (i + 1) ≠ 256 by omega)
      rw [if_pos y]
      omega
    · rw [if_neg y]
      omega
theorem qm_le {i : Nat} (hg : gq u i) : 1 ≤ qm u i ∧ qm u i ≤ 9 := by
  unfold qm
  by_cases z : u (pj u i) = 42
  · obtain ⟨g1, g2⟩ := hg z
    rw [if_pos z]
    omega
  · rw [if_neg z]
    omega
/-- the class behind a good step -/
theorem p_C3 (hu : HU u N) {F : Nat → Int32} {R : Nat → Nat → Int32} (hC : TxC u N R) {i k t j m v : Nat} (h209 : F 209 = nI t) (ht : t + m ≤ 60) (hj : j ≤ N) : ∃ F' R', F' 209 = nI (t + m) ∧ TxC u N R' ∧ (∀ z, z < t → R' 14 z = R 14 z) ∧ (∀ z, t ≤ z → z < t + m → R' 14 z = nI v) ∧ (∀ b, (j = N → K_X5_read_13_r9_154 b F R (nI N) (nI i) (nI k) (nI v) (nI j) (nI m) = (0, F', R')) ∧ (j < N → u j = 44 → K_X5_read_13_r9_154 b F R (nI N) (nI i) (nI k) (nI v) (nI j) (nI m) = b F' R' (nI (j + 1)) (nI (k + 1))) ∧ (j < N → u j ≠ 44 → (K_X5_read_13_r9_154 b F R (nI N) (nI i) (nI k) (nI v) (nI j) (nI m)).1 = ft 1 j)) := by
  have hN := hu.1
  obtain ⟨F', R', a1, a2, a3, a4, a5, a6⟩ := p_add (p := nI v) (many := m) m 0 (by omega) 8589934592 t F R (by omega) h209 ht (by omega)
  have a1' : sp_X5_add_13 F R (nI v) (nI m) = (F', R') := a1
  have hC' : TxC u N R' := fun z hz => by rw [a4 10 (by omega)]; exact hC z hz
  refine ⟨F', R', a2, hC', a5, a6, fun b => ⟨fun z => ?_, fun z1 z2 => ?_, fun z1 z2 => ?_⟩⟩
  · unfold K_X5_read_13_r9_154
    rw [k_e, h209, nI_add, if_pos (show nI (t + m) ≤ 60 from nI_le (a := t + m) (b := 60) ht (by omega)), a1', k_t2, z, if_neg (nI_nlt (Nat.le_refl _) (by omega))]
  · unfold K_X5_read_13_r9_154
    rw [k_e, h209, nI_add, if_pos (show nI (t + m) ≤ 60 from nI_le (a := t + m) (b := 60) ht (by omega)), a1', k_t2, if_pos (nI_lt z1 (by omega))]
    simp only [k_e]
    rw [at_n (by omega), hC' j z1, z2, if_pos (show nI 44 = 44 from rfl), nI_1, nI_1]
  · have hb := hu.2.1 j z1
    have n44 : ¬ nI (u j) = 44 := fun z => z2 ((nI_eq (b := 44) (by omega) (by omega)).mp z)
    unfold K_X5_read_13_r9_154
    rw [k_e, h209, nI_add, if_pos (show nI (t + m) ≤ 60 from nI_le (a := t + m) (b := 60) ht (by omega)), a1', k_t2, if_pos (nI_lt z1 (by omega)), k_e, at_n (by omega), hC' j z1, if_neg n44, k_e]
    rfl
theorem p_C4 {F : Nat → Int32} {R : Nat → Nat → Int32} {i k t j m v : Nat} (h209 : F 209 = nI t) (ht2 : t ≤ 60) (hm : m ≤ 9) (ht : 60 < t + m) (b : (Nat → Int32) → (Nat → Nat → Int32) → Int32 → Int32 → Int32 × (Nat → Int32) × (Nat → Nat → Int32)) : (K_X5_read_13_r9_154 b F R (nI N) (nI i) (nI k) (nI v) (nI j) (nI m)).1 = ft 6 i := by
  unfold K_X5_read_13_r9_154
  rw [k_e, h209, nI_add, if_neg (show ¬ nI (t + m) ≤ 60 from nI_ge (a := 60) (b := t + m) ht (by omega)), k_e]
  rfl
theorem p_loop (hu : HU u N) {G0 : Nat → Int32} {S0 : Nat → Nat → Int32} : ∀ d i, 200 ≤ i + d → ∀ (n m k t : Nat) (F G : Nat → Int32) (R S : Nat → Nat → Int32), d < n → d + 1 < m → k ≤ 20 → G 21 = nI k → i ≤ N → PRel u N F R G S i t → FrP G0 S0 G S → PEnd G0 S0 (K_X5_read_13_r9_20 (nI N) n F R (nI i) (nI k)) (k_lt3 (sp_X11_readsStep G S) (fun r F R => K_X11_pull_45 m F R r)) := by
  intro d
  induction d using Nat.strongRecOn with
  | _ d ih =>
    intro i hi n m k t F G R S hn hm hk h21 hiN h hfr
    have hN := hu.1
    have h' := h
    obtain ⟨p1, p2, p3, p4, p5, p6, p7⟩ := h
    obtain ⟨n, rfl⟩ : ∃ n', n = n' + 1 := ⟨n - 1, by omega⟩
    obtain ⟨m, rfl⟩ : ∃ n', m = n' + 1 := ⟨m - 1, by omega⟩
    have hstep : K_X5_read_13_r9_20 (nI N) (n + 1) F R (nI i) (nI k) = KB_X5_read_13_r9_20 (K_X5_read_13_r9_20 (nI N) n) (nI N) F R (nI i) (nI k) := rfl
    rw [hstep]
    obtain ⟨c1, c2, c3, c4, c5, c6⟩ := p_M hu p6 (by omega) hk p3 p4 h21 p2
    obtain ⟨d1, d2, d3⟩ := p_C1 (F := F) hu p5 (i := i) (k := k) (by omega) hk (K_X5_read_13_r9_20 (nI N) n)
    have frS := fr_sp_X11_readsStep G S
    have hfr2 : ∀ r G' S', sp_X11_readsStep G S = (r, G', S') → FrP G0 S0 G' S' := by
      intro r G' S' e
      rw [e] at frS
      exact ⟨(frS.1 19 rfl).trans hfr.1, (frS.2 10 rfl).trans hfr.2⟩
    by_cases z1 : dig (u i)
    · by_cases z2 : k = 20
      · obtain ⟨G', a1, a2⟩ := c2 z1 z2
        exact p_fault (ft_4 (by omega)) (d2 z1 z2) a1 a2 (hfr2 _ _ _ a1)
      · rw [d3 z1 (by omega)]
        obtain ⟨e1, e2, e3⟩ := p_C2 (F := F) hu p5 (i := i) (k := k) (by omega) z1 (K_X5_read_13_r9_20 (nI N) n)
        by_cases z3 : pv u i ≤ 40
        · by_cases z4 : gq u i
          · rw [e3 z3 z4]
            have hq := qm_le z4
            by_cases z5 : t + qm u i ≤ 60
            · obtain ⟨G', S', a1, a2, a3, a4, a5, a6, a7, a8⟩ := c6 z1 (by omega) z3 z4 z5
              have hjN := qj_le hu z1 z4
              have hji := qj_gt (u := u) i
              obtain ⟨F', R', b1, b2, b3, b4, b5⟩ := p_C3 hu p5 (i := i) (k := k) (v := pv u i) p1 z5 hjN
              obtain ⟨b6, b7, b8⟩ := b5 (K_X5_read_13_r9_20 (nI N) n)
              have hM' : TxM u N G' S' := ⟨by rw [a3]; exact p6.1, by rw [a6 9 (by omega)]; exact p6.2⟩
              have rows : ∀ z, z < t + qm u i → R' 14 z = S' 11 z ∧ ∃ p : Nat, p ≤ 40 ∧ R' 14 z = nI p := by
                intro z hz
                by_cases y : z < t
                · rw [b3 z y, a7 z y]
                  exact p7 z y
                · rw [b4 z (by omega) hz, a8 z (by omega) hz]
                  exact ⟨rfl, _, z3, rfl⟩
              have n1 : ¬ (1 : Int32) = 0 := by decide
              have eK : K_X11_pull_45 (m + 1) G' S' 1 = KB_X11_pull_45 (K_X11_pull_45 m) G' S' 1 := rfl
              by_cases z6 : qj u i = N
              · rw [b6 z6, a1, k_t3, eK]
                have eB : KB_X11_pull_45 (K_X11_pull_45 m) G' S' 1 = K_X11_pull_85 G' S' 1 := by
                  unfold KB_X11_pull_45
                  rw [if_neg n1, a2, a3, p6.1, if_pos (nI_le (by omega) (by omega))]
                rw [eB]
                exact Or.inr ⟨t + qm u i, G', S', rfl, rfl, z5, b1, a4, rows⟩
              · have nle : ¬ nI N ≤ nI (qj u i) := nI_ge (by omega) (by omega)
                have hh := p_here hu hM' a2 (by omega)
                have hlej := HU_le hu (qj u i)
                by_cases z7 : u (qj u i) = 44
                · rw [b7 (by omega) z7, a1, k_t3, eK]
                  have hM2 : TxM u N (upd G' 15 (nI (qj u i + 1))) S' := ⟨by rw [uu, if_neg (by decide)]; exact hM'.1, hM'.2⟩
                  have q15 : upd G' 15 (nI (qj u i + 1)) 15 = nI (qj u i + 1) := by rw [uu, if_pos rfl]
                  have q20 : upd G' 15 (nI (qj u i + 1)) 20 = nI (t + qm u i) := by rw [uu, if_neg (by decide)]; exact a4
                  have q21 : upd G' 15 (nI (qj u i + 1)) 21 = nI (k + 1) := by rw [uu, if_neg (by decide)]; exact a5
                  obtain ⟨r, Gr, Sr, r1, r2⟩ := p_r01 hu hM2 (by omega) (by omega) q15 q20 q21 z5
                  have I := ih (d - 1) (by omega) (qj u i + 1) (by omega) n m (k + 1) (t + qm u i) F' (upd G' 15 (nI (qj u i + 1))) R' S' (by omega) (by omega) (by omega) q21 (by omega) ⟨b1, z5, q15, q20, b2, hM2, rows⟩ (by
                    have := hfr2 _ _ _ a1
                    exact ⟨by rw [uu, if_neg (by decide)]; exact this.1, this.2⟩)
                  have eB : KB_X11_pull_45 (K_X11_pull_45 m) G' S' 1 = k_lt3 (sp_X11_readsStep (upd G' 15 (nI (qj u i + 1))) S') (fun r F R => K_X11_pull_45 m F R r) := by
                    unfold KB_X11_pull_45 K_X11_pull_80 K_X11_pull_81
                    rw [if_neg n1, a2, a3, p6.1, if_neg nle]
                    unfold sp_X11_takes
                    simp only [k_e]
                    rw [hh, if_sg 44 44 rfl hlej (by omega), if_pos z7, a2, nI_1]
                    simp only [k_t3]
                    rw [if_neg n1, r1, k_t3, k_t3]
                    rcases r2 with r2 | r2
                    · rw [if_pos r2, r2]
                    · rw [if_neg (by rw [r2]; exact n1), r2]
                  rw [eB]
                  exact I
                · refine Or.inl ⟨ft 1 (qj u i), upd G' 17 (ft 1 (qj u i)), S', ft_1 (by omega), b8 (by omega) z7, ?_, by rw [uu, if_pos rfl], by
                    have := hfr2 _ _ _ a1
                    exact ⟨by rw [uu, if_neg (by decide)]; exact this.1, this.2⟩⟩
                  obtain ⟨m, rfl⟩ : ∃ n', m = n' + 1 := ⟨m - 1, by omega⟩
                  have hw : sp_X11_wrongAt G' S' 1 (G' 15) = (0, upd G' 17 (ft 1 (qj u i)), S') := by
                    unfold sp_X11_wrongAt
                    simp only [k_e]
                    rw [a2]
                    rfl
                  have ht : sp_X11_takes G' S' 44 = (0, upd G' 17 (ft 1 (qj u i)), S') := by
                    unfold sp_X11_takes
                    rw [k_e, hh, if_sg 44 44 rfl hlej (by omega), if_neg z7, hw, k_t3]
                  have eB : ∀ b, KB_X11_pull_45 b G' S' 1 = b (upd G' 17 (ft 1 (qj u i))) S' 0 := by
                    intro b
                    unfold KB_X11_pull_45 K_X11_pull_80 K_X11_pull_81
                    rw [if_neg n1, a2, a3, p6.1, if_neg nle, ht, k_t3, if_pos rfl]
                  rw [a1, k_t3, eK, eB, K45_0]
            · obtain ⟨G', a1, a2⟩ := c5 z1 (by omega) z3 z4 (by omega)
              exact p_fault (ft_6 (by omega)) (p_C4 p1 p2 hq.2 (by omega) _) a1 a2 (hfr2 _ _ _ a1)
          · obtain ⟨G', a1, a2⟩ := c4 z1 (by omega) z3 z4
            have hj := pj_gt (u := u) i
            exact p_fault (ft_1 (by omega)) (e2 z3 z4) a1 a2 (hfr2 _ _ _ a1)
        · obtain ⟨G', a1, a2⟩ := c3 z1 (by omega) (by omega)
          exact p_fault (ft_3 (by omega)) (e1 (by omega)) a1 a2 (hfr2 _ _ _ a1)
    · obtain ⟨G', a1, a2⟩ := c1 z1
      exact p_fault (ft_1 (by omega)) (d1 z1) a1 a2 (hfr2 _ _ _ a1)
end UP3
theorem p_cp {F31 F38 : Nat → Int32} {t : Nat} (h20 : F31 20 = nI t) (ht : t ≤ 60) : ∀ d y, y + d = t → ∀ (n : Nat) (R : Nat → Nat → Int32), d < n → ∃ R', K_X11_pull_109 F31 F38 n R (nI y) = (nI t, F38, R') ∧ (∀ c, c ≠ 10 → R' c = R c) ∧ (∀ k, k < y → R' 10 k = R 10 k) ∧ (∀ k, y ≤ k → k < t → R' 10 k = R 11 k) := by
  intro d
  induction d with
  | zero =>
    intro y hy n R hn
    obtain ⟨n, rfl⟩ : ∃ n', n = n' + 1 := ⟨n - 1, by omega⟩
    refine ⟨R, ?_, fun _ _ => rfl, fun _ _ => rfl, fun k k1 k2 => by omega⟩
    have e : K_X11_pull_109 F31 F38 (n + 1) R (nI y) = KB_X11_pull_109 (K_X11_pull_109 F31 F38 n) F31 F38 R (nI y) := rfl
    rw [e]
    unfold KB_X11_pull_109
    rw [h20, if_pos (nI_le (by omega) (by omega))]
  | succ d ih =>
    intro y hy n R hn
    obtain ⟨n, rfl⟩ : ∃ n', n = n' + 1 := ⟨n - 1, by omega⟩
    obtain ⟨R', a1, a2, a3, a4⟩ := ih (y + 1) (by omega) n (g_u R 10 (upd (R 10) y (R 11 y))) (by omega)
    refine ⟨R', ?_, fun c hc => by rw [a2 c hc, ug, if_neg hc], fun k hk => ?_, fun k k1 k2 => ?_⟩
    · have e : K_X11_pull_109 F31 F38 (n + 1) R (nI y) = KB_X11_pull_109 (K_X11_pull_109 F31 F38 n) F31 F38 R (nI y) := rfl
      rw [e]
      unfold KB_X11_pull_109
      rw [h20, if_neg (nI_ge (by omega) (by omega))]
      simp only [k_e]
      rw [nI_clamp (by omega), nI_1]
      exact a1
    · rw [a3 k (by omega), ug, if_pos rfl, uu, if_neg (by omega)]
    · by_cases z : k = y
      · rw [a3 k (by omega), ug, if_pos rfl, uu, if_pos z, z]
      · rw [a4 k (by omega) k2, ug, if_neg (by decide)]
theorem pull_rel {F G : Nat → Int32} {R S : Nat → Nat → Int32} (h : UTape F R G S) (hp : UPull F R G S) (a : Int32) : (sp_X10_pull F R a).1 = (sp_X11_pull G S a).1 ∧ UTape (sp_X10_pull F R a).2.1 (sp_X10_pull F R a).2.2 (sp_X11_pull G S a).2.1 (sp_X11_pull G S a).2.2 ∧ UPull (sp_X10_pull F R a).2.1 (sp_X10_pull F R a).2.2 (sp_X11_pull G S a).2.1 (sp_X11_pull G S a).2.2 := by
  have h' := h
  obtain ⟨t1, T, t2, t3, t4⟩ := h
  by_cases hin : g_in a 1 120 = 0
  · have e1 : sp_X10_pull F R a = (-1, F, R) := by
      unfold sp_X10_pull K_X10_pull_21
      rw [k_e, if_pos hin]
    have e2 : sp_X11_pull G S a = (-1, G, S) := by
      unfold sp_X11_pull K_X11_pull_18
      rw [k_e, if_pos hin]
    rw [e1, e2]
    exact ⟨rfl, h', hp⟩
  · obtain ⟨n, n1, n2, rfl⟩ := gin_n (a := a) (lo := 1) (hi := 120) (by omega) (by omega) hin
    by_cases hT : T < n
    · have e1 : sp_X10_pull F R (nI n) = (-1, F, R) := by
        unfold sp_X10_pull K_X10_pull_21
        rw [k_e, if_neg hin, t3, if_neg (nI_ge hT (by omega))]
      have e2 : sp_X11_pull G S (nI n) = (-1, G, S) := by
        unfold sp_X11_pull K_X11_pull_18
        rw [k_e, if_neg hin, ← t1, t3, if_neg (nI_ge hT (by omega))]
      rw [e1, e2]
      exact ⟨rfl, h', hp⟩
    · obtain ⟨u, hu0⟩ : ∃ u : Nat → Nat, u = fun k => if k < n then (R 10 k).toNatClampNeg else 256 := ⟨_, rfl⟩
      have hub : ∀ k, k < n → u k < 256 ∧ R 10 k = nI (u k) ∧ S 9 k &&& 255 = nI (u k) := by
        intro k hk
        obtain ⟨b, b1, b2, b3⟩ := t4 k (by omega)
        have e : u k = b := by
          rw [hu0]
          show (if k < n then (R 10 k).toNatClampNeg else 256) = b
          rw [if_pos hk, b2, nI_clamp (by omega)]
        rw [e]
        exact ⟨b1, b2, b3⟩
      have hu : HU u n := ⟨by omega, fun k hk => (hub k hk).1, fun k hk => by rw [hu0]; show (if k < n then (R 10 k).toNatClampNeg else 256) = 256; rw [if_neg (by omega)]⟩
      have er : sp_X5_read_13_r9 F R (nI n) = K_X5_read_13_r9_20 (nI n) 8589934592 (upd F 209 0) R (nI 0) (nI 0) := by
        unfold sp_X5_read_13_r9
        rw [k_e]
        rfl
      have eM : sp_X11_pull G S (nI n) = k_lt3 (sp_X11_readsStep (upd (upd (upd (upd G 15 0) 16 (nI n)) 20 0) 21 0) S) (fun r F R => K_X11_pull_45 8589934592 F R r) := by
        unfold sp_X11_pull
        rw [k_e, if_neg hin, ← t1, t3, if_pos (nI_le (by omega) (by omega))]
        simp only [k_e]
      have hEnd : PEnd G S (sp_X5_read_13_r9 F R (nI n)) (sp_X11_pull G S (nI n)) := by
        rw [er, eM]
        refine p_loop hu 200 0 (by omega) 8589934592 8589934592 0 0 _ _ _ _ (by omega) (by omega) (by omega) (by rw [uu, if_pos rfl]; rfl) (Nat.zero_le _) ⟨by rw [uu, if_pos rfl]; rfl, by omega, ?_, ?_, fun k hk => (hub k hk).2.1, ⟨?_, fun k hk => (hub k hk).2.2⟩, fun z hz => by omega⟩ ⟨?_, rfl⟩
        · simp (decide := true) only [uu, if_true, if_false]
        · simp (decide := true) only [uu, if_true, if_false]
        · simp (decide := true) only [uu, if_true, if_false]
        · simp (decide := true) only [uu, if_false]
      have frr := fr_sp_X5_read_13_r9 F R (nI n)
      obtain ⟨rr, Z, eZ⟩ := pair_ex (sp_X5_read_13_r9 F R (nI n))
      obtain ⟨Fz, Rz, eP⟩ := pair_ex Z
      rw [eP] at eZ
      rw [eZ] at hEnd frr
      have eX : sp_X10_pull F R (nI n) = if rr = 0 then k_lt2 (sp_X5_copy_11_r13 (upd Fz 145 0) Rz) (fun F30 R31 => (F30 177, F30, R31)) else (rr, upd Fz 145 0, Rz) := by
        unfold sp_X10_pull
        rw [k_e, if_neg hin, t3, if_pos (nI_le (by omega) (by omega)), eZ, k_t3, k_e]
      rcases hEnd with ⟨f, G', S', f1, f2, f3, f4, f5⟩ | ⟨t, G', S', f1, f2, f3, f4, f5, f6⟩
      · have f2 : rr = f := f2
        have e1 : sp_X10_pull F R (nI n) = (f, upd Fz 145 0, Rz) := by
          rw [eX, f2, if_neg f1]
        have e2 : sp_X11_pull G S (nI n) = (f, upd G' 14 0, S') := by
          rw [f3]
          unfold K_X11_pull_85
          rw [k_e, if_pos rfl, f4]
        rw [e1, e2]
        dsimp only
        refine ⟨rfl, UTape_0 (by rw [uu, if_pos rfl]) (by rw [uu, if_pos rfl]), UPull_e hp ?_ ?_ ?_ f5.2⟩
        · rw [uu, if_neg (by decide)]
          exact frr.1 177 rfl
        · rw [uu, if_neg (by decide)]
          exact f5.1
        · exact frr.2 12 rfl
      · have f1 : rr = 0 := f1
        dsimp only at f4 f6
        obtain ⟨R', m1, m2, m3, m4⟩ := p_cp (F38 := upd (upd G' 14 0) 19 (nI t)) f5 f3 t 0 (by omega) 8589934592 S' (by omega)
        have e2 : sp_X11_pull G S (nI n) = (nI t, upd (upd G' 14 0) 19 (nI t), R') := by
          rw [f2]
          unfold K_X11_pull_85
          have n1 : ¬ (1 : Int32) = 0 := by decide
          rw [k_e, if_neg n1, k_e, f5]
          exact m1
        have y209 : upd Fz 145 0 209 = nI t := by rw [uu, if_neg (by decide)]; exact f4
        have e1 : sp_X10_pull F R (nI n) = (nI t, upd (upd Fz 145 0) 177 (nI t), g_u Rz 12 (va_cpy (Rz 14) (Rz 12) 0 0 60)) := by
          rw [eX, if_pos f1]
          unfold sp_X5_copy_11_r13
          simp only [k_e]
          rw [k_t2, y209, uu, if_pos rfl]
        rw [e1, e2]
        dsimp only
        refine ⟨rfl, UTape_0 ?_ ?_, t, f3, by rw [uu, if_pos rfl], by rw [uu, if_pos rfl], fun k hk => ?_⟩
        · simp (decide := true) only [uu, if_true, if_false]
        · simp (decide := true) only [uu, if_true, if_false]
        · rw [ug, if_pos rfl, cpy_k (by omega), m4 k (by omega) hk]
          exact f6 k hk
