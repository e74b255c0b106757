/-! ===== the reference's reader: factors and sums ===== -/
def FAc (n m : Nat) (F0 G : Nat → Int32) (S : Nat → Nat → Int32) : Int32 × (Nat → Int32) × (Nat → Nat → Int32) :=
  k_lt3 (K_X11_readsFactor_0 n G S) (fun r F6 R7 => if r = 0 then (0, F6, R7) else K_X11_readsSum_14 F0 m F6 R7)
/-- from a factor's start to an operator's place -/
def PMF (u : Nat → Nat) (N : Nat) (Q : Nat × Nat → Prop) (o i j : Nat) (L : List Cd) : Prop :=
  ∀ (F0 : Nat → Int32) (b : Nat) (G : Nat → Int32) (S : Nat → Nat → Int32) (c : Nat) (W : List (Nat × Nat)) (n m : Nat), F0 26 = nI b → b ≤ W.length → tops Q W → MSt u N G S i o c W → 200 < n + i → 200 < m + i →
    ∃ (m' : Nat) (G' : Nat → Int32) (S' : Nat → Nat → Int32) (K : List Cd) (q : List (Nat × Nat)), FAc n m F0 G S = K_X11_readsSum_14 F0 m' G' S' ∧ 200 < m' + j ∧ MSt u N G' S' j o (c + K.length) (q ++ W) ∧ CodeM (S' 12) c K ∧ (∀ k, k < c → S' 12 k = S 12 k) ∧ L = K ++ qc q ∧ (∀ x, x ∈ q → Q x)
/-- from an operator's place to an operator's place -/
def PMR (u : Nat → Nat) (N : Nat) (Q : Nat × Nat → Prop) (o i j : Nat) (L : List Cd) : Prop :=
  ∀ (F0 : Nat → Int32) (b : Nat) (G : Nat → Int32) (S : Nat → Nat → Int32) (c : Nat) (W : List (Nat × Nat)) (m : Nat) (q0 : List (Nat × Nat)), F0 26 = nI b → b ≤ W.length → tops Q W → MSt u N G S i o c (q0 ++ W) → (∀ x, x ∈ q0 → Q x) → c + q0.length ≤ i → 200 < m + i →
    ∃ (m' : Nat) (G' : Nat → Int32) (S' : Nat → Nat → Int32) (K : List Cd) (q : List (Nat × Nat)), K_X11_readsSum_14 F0 m G S = K_X11_readsSum_14 F0 m' G' S' ∧ 200 < m' + j ∧ MSt u N G' S' j o (c + K.length) (q ++ W) ∧ CodeM (S' 12) c K ∧ (∀ k, k < c → S' 12 k = S 12 k) ∧ qc q0 ++ L = K ++ qc q ∧ (∀ x, x ∈ q → Q x)
def PFF (u : Nat → Nat) (N : Nat) (Q : Nat × Nat → Prop) (o i : Nat) (f : Int32) : Prop :=
  ∀ (F0 : Nat → Int32) (b : Nat) (G : Nat → Int32) (S : Nat → Nat → Int32) (c : Nat) (W : List (Nat × Nat)) (n m : Nat), F0 26 = nI b → b ≤ W.length → tops Q W → MSt u N G S i o c W → 200 < n + i → 200 < m + i →
    ∃ (G' : Nat → Int32) (S' : Nat → Nat → Int32), FAc n m F0 G S = (0, G', S') ∧ G' 17 = f
def PFR (u : Nat → Nat) (N : Nat) (Q : Nat × Nat → Prop) (o i : Nat) (f : Int32) : Prop :=
  ∀ (F0 : Nat → Int32) (b : Nat) (G : Nat → Int32) (S : Nat → Nat → Int32) (c : Nat) (W : List (Nat × Nat)) (m : Nat) (q0 : List (Nat × Nat)), F0 26 = nI b → b ≤ W.length → tops Q W → MSt u N G S i o c (q0 ++ W) → (∀ x, x ∈ q0 → Q x) → c + q0.length ≤ i → 200 < m + i →
    ∃ (G' : Nat → Int32) (S' : Nat → Nat → Int32), K_X11_readsSum_14 F0 m G S = (0, G', S') ∧ G' 17 = f
section RM3
variable {u : Nat → Nat} {N : Nat} {o i : Nat}
/-- digits -/
theorem m_num (hu : HU u N) {c : Nat} {W : List (Nat × Nat)} {S : Nat → Nat → Int32} {G0 : Nat → Int32} (h0 : G0 15 = nI i) : ∀ d y, y + d = 5 → ∀ (n : Nat) (G : Nat → Int32), d < n → MSt u N G S (i + y) o c W → G 18 = nI (dv u i y) → (∀ k, k < y → dig (u (i + k))) → c ≤ i → W.length ≤ i →
    (∃ t G', y ≤ t ∧ t ≤ 5 ∧ (∀ k, k < t → dig (u (i + k))) ∧ ¬ dig (u (i + t)) ∧ K_X11_readsNumber_10 G0 S n G = (1, G', S) ∧ MSt u N G' S (i + t) o c W ∧ G' 18 = nI (dv u i t)) ∨ ((∀ k, k ≤ 5 → dig (u (i + k))) ∧ ∃ G' S', K_X11_readsNumber_10 G0 S n G = (0, G', S') ∧ G' 17 = ft 2 (i + 5)) := by
  intro d
  induction d with
  | zero =>
    intro y hy n G hn h e18 hd hc hW
    obtain ⟨n, rfl⟩ : ∃ n', n = n' + 1 := ⟨n - 1, by omega⟩
    have hiN := h.2.2.2.2.2.2.2.1
    have hN := hu.1
    rw [ks_X11_readsNumber_10]
    unfold KB_X11_readsNumber_10
    simp only [k_e]
    rw [m_dig hu h]
    by_cases q : dig (u (i + y))
    · rw [if_pos q, if_neg (by decide), h.1, h0, show nI i + 5 = nI (i + 5) from nI_add i 5, show y = 5 from by omega, if_pos rfl]
      refine Or.inr ⟨fun k hk => ?_, upd G 17 (ft 2 (i + 5)), S, ?_, by rw [uu, if_pos rfl]⟩
      · by_cases e : k = y
        · subst e
          exact q
        · exact hd k (by omega)
      · unfold sp_X11_wrongAt
        simp only [k_e, k_e3]
        rfl
    · rw [if_neg q, if_pos rfl]
      exact Or.inl ⟨y, G, Nat.le_refl _, by omega, hd, q, rfl, h, e18⟩
  | succ d ih =>
    intro y hy n G hn h e18 hd hc hW
    obtain ⟨n, rfl⟩ : ∃ n', n = n' + 1 := ⟨n - 1, by omega⟩
    have hiN := h.2.2.2.2.2.2.2.1
    have hN := hu.1
    rw [ks_X11_readsNumber_10]
    unfold KB_X11_readsNumber_10
    simp only [k_e]
    rw [m_dig hu h]
    by_cases q : dig (u (i + y))
    · have q' : 48 ≤ u (i + y) ∧ u (i + y) ≤ 57 := q
      have q3 : u (i + y) ≠ 256 := by omega
      have ne : ¬ nI (i + y) = nI (i + 5) := fun z => by have := (nI_eq (by omega) (by omega)).mp z; omega
      rw [if_pos q, if_neg (by decide), h.1, h0, show nI i + 5 = nI (i + 5) from nI_add i 5, if_neg ne, m_here hu h, sg_n (by omega), e18]
      have e1 : (10 : Int32) * nI (dv u i y) = nI (10 * dv u i y) := pk_mul 10 _
      have e2 : nI (10 * dv u i y + u (i + y)) - nI 48 = nI (10 * dv u i y + u (i + y) - 48) := pk_sub (by omega)
      have e3 : (10 : Int32) * nI (dv u i y) + nI (u (i + y)) - 48 = nI (dv u i (y + 1)) := by
        rw [e1, nI_add]
        refine e2.trans ?_
        show _ = nI (10 * dv u i y + (u (i + y) - 48))
        rw [show 10 * dv u i y + u (i + y) - 48 = 10 * dv u i y + (u (i + y) - 48) from by omega]
      rw [e3, nI_1]
      have hadv : MSt u N (upd (upd G 18 (nI (dv u i (y + 1)))) 15 (nI (i + y + 1))) S (i + (y + 1)) o c W := by
        have hj := HU_in hu q3
        obtain ⟨h1, h2, h3, h4, h5, h6, h7, h8, h9, h10⟩ := h
        refine ⟨by rw [uu, if_pos rfl, Nat.add_assoc], ?_, ?_, ?_, ?_, h6, h7, by omega, by omega, by omega⟩
        · simp (decide := true) only [uu, if_false]; exact h2
        · simp (decide := true) only [uu, if_false]; exact h3
        · simp (decide := true) only [uu, if_false]; exact h4
        · simp (decide := true) only [uu, if_false]; exact h5
      rcases ih (y + 1) (by omega) n _ (by omega) hadv (by simp (decide := true) only [uu, if_true, if_false]) (fun k hk => by
        by_cases e : k = y
        · subst e
          exact q
        · exact hd k (by omega)) hc hW with ⟨t, G', t1, t2⟩ | z
      · exact Or.inl ⟨t, G', by omega, t2⟩
      · exact Or.inr z
    · rw [if_neg q, if_pos rfl]
      exact Or.inl ⟨y, G, Nat.le_refl _, by omega, hd, q, rfl, h, e18⟩
theorem FA_step (n m : Nat) (F0 G : Nat → Int32) (S : Nat → Nat → Int32) : FAc (n + 1) m F0 G S = k_lt3 (KB_X11_readsFactor_0 (K_X11_readsFactor_0 n) G S) (fun r F6 R7 => if r = 0 then (0, F6, R7) else K_X11_readsSum_14 F0 m F6 R7) := rfl
theorem pm_num (hu : HU u N) {Q : Nat × Nat → Prop} {t : Nat} (h1 : 1 ≤ t) (h5 : t ≤ 5) (hd : ∀ k, k < t → dig (u (i + k))) (hn : ¬ dig (u (i + t))) : PMF u N Q o i (i + t) [(0, dv u i t, 0)] := by
  intro F0 b G S c W n m hb hbW hW h hfn hfm
  have hiN := h.2.2.2.2.2.2.2.1
  have hN := hu.1
  obtain ⟨n, rfl⟩ : ∃ n', n = n' + 1 := ⟨n - 1, by omega⟩
  have hle := HU_le hu i
  have d0 : 48 ≤ u i ∧ u i ≤ 57 := hd 0 (by omega)
  have h18 : MSt u N (upd G 18 0) S (i + 0) o c W := by
    obtain ⟨h1, h2, h3, h4, h5, h6⟩ := h
    refine ⟨?_, ?_, ?_, ?_, ?_, h6⟩
    · rw [uu, if_neg (by decide)]; exact h1
    · rw [uu, if_neg (by decide)]; exact h2
    · rw [uu, if_neg (by decide)]; exact h3
    · rw [uu, if_neg (by decide)]; exact h4
    · rw [uu, if_neg (by decide)]; exact h5
  have I := m_num (G0 := G) hu h.1 5 0 (by omega) 8589934592 (upd G 18 0) (by omega) h18 (by rw [uu, if_pos rfl]; rfl) (fun k hk => absurd hk (by omega)) h.2.2.2.2.2.2.2.2.2 h.2.2.2.2.2.2.2.2.1
  have eN : sp_X11_readsNumber G S = K_X11_readsNumber_10 G S 8589934592 (upd G 18 0) := by
    unfold sp_X11_readsNumber
    rw [k_e]
  rcases I with ⟨t', G', t1, t2, t3, t4, t5, t6, t7⟩ | ⟨z, _⟩
  · have et : t' = t := by
      by_cases z1 : t' < t
      · exact absurd (hd t' z1) t4
      · by_cases z2 : t < t'
        · exact absurd (t3 t z2) hn
        · omega
    subst et
    have hiN' := t6.2.2.2.2.2.2.2.1
    obtain ⟨G2, S2, n1, n2, n3, n4⟩ := m_note (op := 0) (v := dv u i t') t6 (by have := h.2.2.2.2.2.2.2.2.2; omega) hN
    refine ⟨m, G2, S2, [(0, dv u i t', 0)], [], ?_, by omega, n2, ⟨?_, trivial⟩, fun k hk => ?_, by simp [qc], fun x hx => by cases hx⟩
    · rw [FA_step]
      unfold KB_X11_readsFactor_0
      simp only [k_e]
      rw [m_here hu h, if_sg 91 91 rfl hle (by omega), if_neg (by omega), m_dig hu h, if_pos (show dig (u i) from d0), if_neg (by decide), eN, t5]
      simp only [k_t3]
      have n1' : sp_X11_notes G' S 0 (G' 18) = (G2, S2) := by
        rw [t7]
        exact n1
      rw [if_neg (by decide), n1']
      simp only [k_t2, k_t3]
      rw [if_neg (by decide)]
    · rw [n3, uu, if_pos rfl]
      unfold cvM
      rw [if_pos (by show (0 : Nat) ≤ 1; omega)]
    · rw [n3, uu, if_neg (by omega)]
  · exact absurd (z t h5) hn
theorem pf_num (hu : HU u N) {Q : Nat × Nat → Prop} (hd : ∀ k, k ≤ 5 → dig (u (i + k))) : PFF u N Q o i (ft 2 (i + 5)) := by
  intro F0 b G S c W n m hb hbW hW h hfn hfm
  have hiN := h.2.2.2.2.2.2.2.1
  have hN := hu.1
  obtain ⟨n, rfl⟩ : ∃ n', n = n' + 1 := ⟨n - 1, by omega⟩
  have hle := HU_le hu i
  have d0 : 48 ≤ u i ∧ u i ≤ 57 := hd 0 (by omega)
  have h18 : MSt u N (upd G 18 0) S (i + 0) o c W := by
    obtain ⟨h1, h2, h3, h4, h5, h6⟩ := h
    refine ⟨?_, ?_, ?_, ?_, ?_, h6⟩
    · rw [uu, if_neg (by decide)]; exact h1
    · rw [uu, if_neg (by decide)]; exact h2
    · rw [uu, if_neg (by decide)]; exact h3
    · rw [uu, if_neg (by decide)]; exact h4
    · rw [uu, if_neg (by decide)]; exact h5
  have I := m_num (G0 := G) hu h.1 5 0 (by omega) 8589934592 (upd G 18 0) (by omega) h18 (by rw [uu, if_pos rfl]; rfl) (fun k hk => absurd hk (by omega)) h.2.2.2.2.2.2.2.2.2 h.2.2.2.2.2.2.2.2.1
  have eN : sp_X11_readsNumber G S = K_X11_readsNumber_10 G S 8589934592 (upd G 18 0) := by
    unfold sp_X11_readsNumber
    rw [k_e]
  rcases I with ⟨t', G', t1, t2, t3, t4, t5, t6, t7⟩ | ⟨_, G', S', z1, z2⟩
  · exact absurd (hd t' t2) t4
  · refine ⟨G', S', ?_, z2⟩
    rw [FA_step]
    unfold KB_X11_readsFactor_0
    simp only [k_e]
    rw [m_here hu h, if_sg 91 91 rfl hle (by omega), if_neg (by omega), m_dig hu h, if_pos (show dig (u i) from d0), if_neg (by decide), eN, z1]
    simp only [k_t3, if_true]
theorem lf_no {n : Nat} (h : lf n < 12) : n ≠ 91 ∧ n ≠ 256 ∧ ¬ dig n := by
  unfold lf at h
  unfold dig
  refine ⟨fun e => ?_, fun e => ?_, fun e => ?_⟩
  · subst e
    exact absurd h (by decide)
  · subst e
    exact absurd h (by decide)
  · obtain ⟨e1, e2⟩ := e
    repeat' split at h
    all_goals omega
theorem pm_let (hu : HU u N) {Q : Nat × Nat → Prop} (hl : lf (u i) < 12) : PMF u N Q o i (i + 1) [(1, lf (u i), 0)] := by
  intro F0 b G S c W n m hb hbW hW h hfn hfm
  have hiN := h.2.2.2.2.2.2.2.1
  have hN := hu.1
  have hc := h.2.2.2.2.2.2.2.2.2
  obtain ⟨n, rfl⟩ : ∃ n', n = n' + 1 := ⟨n - 1, by omega⟩
  have hle := HU_le hu i
  obtain ⟨l1, l2, l3⟩ := lf_no hl
  have hadv := m_adv hu h l2
  obtain ⟨G2, S2, n1, n2, n3, n4⟩ := m_note (op := 1) (v := lf (u i)) hadv (by omega) hN
  -- the reference notes first, then passes the sign
  have hnt : sp_X11_notes G S 1 (nI (lf (u i))) = (upd G 25 (nI (c + 1)), g_u S 12 (upd (S 12) c (nI (1048576 * 1 + lf (u i))))) := by
    unfold sp_X11_notes
    simp only [k_e]
    rw [h.2.2.2.1, show (1048576 : Int32) * 1 + nI (lf (u i)) = nI (1048576 * 1 + lf (u i)) from m_enc 1 _, nI_1, nI_clamp (by omega)]
  refine ⟨m, upd (upd G 25 (nI (c + 1))) 15 (nI (i + 1)), g_u S 12 (upd (S 12) c (nI (1048576 * 1 + lf (u i)))), [(1, lf (u i), 0)], [], ?_, by omega, ?_, ⟨?_, trivial⟩, fun k hk => ?_, by simp [qc], fun x hx => by cases hx⟩
  · rw [FA_step]
    unfold KB_X11_readsFactor_0
    simp only [k_e]
    have nx : ¬ nI (lf (u i)) = -1 := fun z => by
      have h2 : (-1 : Int32) < 0 := by decide
      rw [← z] at h2
      exact nI_pos (by omega) h2
    rw [m_here hu h, if_sg 91 91 rfl hle (by omega), if_neg l1, m_dig hu h, if_neg l3, if_pos rfl, lf_M _ _ _ hle, if_pos hl, if_neg nx, hnt]
    simp only [k_t2, k_t3]
    rw [if_neg (by decide), h.1, nI_1]
  · obtain ⟨h1, h2, h3, h4, h5, h6, h7, h8, h9, h10⟩ := h
    have := HU_in hu l2
    refine ⟨?_, ?_, ?_, ?_, ?_, ?_, ?_, by omega, by show W.length ≤ i + 1; omega, by show c + 1 ≤ i + 1; omega⟩
    · rw [uu, if_pos rfl]
    · simp (decide := true) only [uu, if_false]; exact h2
    · simp (decide := true) only [uu, if_false]; exact h3
    · simp (decide := true) only [uu, if_true, if_false]; rfl
    · simp (decide := true) only [uu, if_false]; exact h5
    · rw [ug, if_neg (by decide)]; exact h6
    · rw [ug, if_neg (by decide)]; exact h7
  · rw [ug, if_pos rfl, uu, if_pos rfl]
    unfold cvM
    rw [if_pos (by show (1 : Nat) ≤ 1; omega)]
  · rw [ug, if_pos rfl, uu, if_neg (by omega)]
theorem pf_let (hu : HU u N) {Q : Nat × Nat → Prop} (h91 : u i ≠ 91) (hd : ¬ dig (u i)) (hl : lf (u i) = 12) : PFF u N Q o i (ft 1 i) := by
  intro F0 b G S c W n m hb hbW hW h hfn hfm
  have hiN := h.2.2.2.2.2.2.2.1
  have hN := hu.1
  obtain ⟨n, rfl⟩ : ∃ n', n = n' + 1 := ⟨n - 1, by omega⟩
  have hle := HU_le hu i
  refine ⟨upd G 17 (ft 1 i), S, ?_, by rw [uu, if_pos rfl]⟩
  rw [FA_step]
  unfold KB_X11_readsFactor_0
  simp only [k_e]
  rw [m_here hu h, if_sg 91 91 rfl hle (by omega), if_neg h91, m_dig hu h, if_neg hd, if_pos rfl, lf_M _ _ _ hle, if_neg (show ¬ lf (u i) < 12 by omega), if_pos rfl, m_wrong h]
  simp only [k_t3, if_true]
end RM3
