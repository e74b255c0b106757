/-! ===== put ===== -/
theorem a_sub {a x : Int32} (h : a &&& (x ^^^ (-1)) = 0) : a = x &&& a := by
  apply Int32.toBitVec_inj.mp
  rw [Int32.toBitVec_and]
  apply BitVec.eq_of_getLsbD_eq
  intro k hk
  have h1 := congrArg (fun z : Int32 => z.toBitVec.getLsbD k) h
  simp only [Int32.toBitVec_and, Int32.toBitVec_xor, BitVec.getLsbD_and, BitVec.getLsbD_xor] at h1 ⊢
  have e1 : ∀ k, k < 32 → (-1 : Int32).toBitVec.getLsbD k = true := by decide
  have e0 : ∀ k, k < 32 → (0 : Int32).toBitVec.getLsbD k = false := by decide
  rw [e1 k hk, e0 k hk] at h1
  revert h1
  cases a.toBitVec.getLsbD k <;> cases x.toBitVec.getLsbD k <;> simp
section UPT
variable {m : Nat} {mem : Nat → Nat} {F G : Nat → Int32} {R S : Nat → Nat → Int32} {a0 a1 : Int32}
theorem putC_same {X : Int32 × (Nat → Int32) × (Nat → Nat → Int32)} (h : ∀ y, K_X10_put_23 F R a0 a1 y = X) : sp_X10_put F R a0 a1 = X := by
  unfold sp_X10_put K_X10_put_22
  simp only [k_e]
  split
  · exact h _
  · split
    · exact h _
    · exact h _
theorem putM_same {X : Int32 × (Nat → Int32) × (Nat → Nat → Int32)} (h : ∀ y, K_X11_put_34 G S a0 a1 y = X) : sp_X11_put G S a0 a1 = X := by
  unfold sp_X11_put K_X11_put_33 K_X11_put_29
  simp only [k_e]
  split
  · split
    · exact h _
    · split
      · exact h _
      · exact h _
  · exact h _
theorem whose_rel {p : Nat} {F55 F70 : Nat → Int32} {R71 : Nat → Nat → Int32} (hm : m ≤ 5) (hF : F 755 = nI m) (hG : F55 75 = nI m) (h : ∀ k, k < m → R 48 k = R71 38 k ∧ R 50 k = R71 38 (Int32.toNatClampNeg (R71 39 k))) : ∀ e y, y + e = m → ∀ (n l : Nat), e < n → e < l → K_X11_put_341 F55 F70 R71 (nI p) l (nI y) = (K_X6_whose_2 F R (nI p) n (nI y), F70, R71) := by
  intro e
  induction e with
  | zero =>
    intro y hy n l hn hl
    obtain ⟨n, rfl⟩ : ∃ n', n = n' + 1 := ⟨n - 1, by omega⟩
    obtain ⟨l, rfl⟩ : ∃ n', l = n' + 1 := ⟨l - 1, by omega⟩
    rw [ks_X11_put_341, ks_X6_whose_2]
    unfold KB_X11_put_341 KB_X6_whose_2
    rw [hF, hG, if_pos (nI_le (by omega) (by omega)), if_pos (nI_le (by omega) (by omega))]
  | succ e ih =>
    intro y hy n l hn hl
    obtain ⟨n, rfl⟩ : ∃ n', n = n' + 1 := ⟨n - 1, by omega⟩
    obtain ⟨l, rfl⟩ : ∃ n', l = n' + 1 := ⟨l - 1, by omega⟩
    obtain ⟨h1, h2⟩ := h y (by omega)
    rw [ks_X11_put_341, ks_X6_whose_2]
    unfold KB_X11_put_341 KB_X6_whose_2
    rw [hF, hG, if_neg (nI_ge (by omega) (by omega)), if_neg (nI_ge (by omega) (by omega))]
    simp only [k_e]
    rw [nI_clamp (show y < 2 ^ 31 by omega), h1, h2, nI_1]
    by_cases q : R71 38 y = nI p
    · rw [if_pos q, if_pos q]
    · rw [if_neg q, if_neg q]
      exact ih (y + 1) (by omega) n l (by omega) (by omega)
/-- both have tried all rows: the answer, and what is left -/
theorem put_end (hm : 2 ≤ m ∧ m ≤ 5) (mono : ∀ a b, a < m → b < m → a < b → mem a < mem b) (hmem : ∀ k, k < m → mem k < 10) (h : UPut m mem F R G S) (h70 : ¬ G 70 = -1) {p : Nat} (hp : p ≤ 12) (n : Nat) : UAns URel (k_lt2 (K_X7_bestRow_r47_r1_68 F R) (fun F29 R30 => if nI p = 11 then (F29 565, F29, R30) else if 10 ≤ nI p then if nI p = 12 then k_lt2 (sp_X6_chooseBest F29 R30) (fun F47 R48 => k_lt2 (sp_X6_change_r1_r5 F47 R48) (fun F54 R55 => K_X10_put_149 F54 R55)) else K_X10_put_149 F29 R30 else k_lt (sp_X6_whose F29 R30 (nI p)) (fun r59 => (r59, F29, R30)))) (K_X11_put_155 (nI p) (nI (m ^ m)) (n + 1) G S (nI (m ^ m))) := by
  obtain ⟨h1, h2, h3, h4, h5, h6, h7, h8⟩ := h
  obtain ⟨k1, cb0, k2, k3, k4, k5⟩ := h8.resolve_left h70
  have hpw := pm_pow hm
  have e68 : ∃ F5 R5, K_X7_bestRow_r47_r1_68 F R = (F5, R5) ∧ (∀ k, k ≠ 80 → k ≠ 81 → k ≠ 82 → k ≠ 83 → k ≠ 84 → F5 k = F k) ∧ (∀ c, c ≠ 6 → R5 c = R c) ∧ (∀ k, k < 80 → R5 6 k = R 2 k) := by
    refine ⟨upd (upd (upd (upd (upd F 80 (F 16)) 81 (F 17)) 82 (F 18)) 83 (F 19)) 84 (F 20), g_u R 6 (va_cpy (R 2) (R 6) 0 0 80), ?_, fun k x0 x1 x2 x3 x4 => ?_, fun c hc => by rw [ug, if_neg hc], fun k hk => by rw [ug, if_pos rfl, cpy_k hk]⟩
    · unfold K_X7_bestRow_r47_r1_68 sp_X8_copy_5_r1
      simp only [k_e, k_t2]
    · rw [uu, if_neg x4, uu, if_neg x3, uu, if_neg x2, uu, if_neg x1, uu, if_neg x0]
  obtain ⟨F5, R5, e68, f5, r5, r56⟩ := e68
  have hU : URel F5 R5 G S := URel_e h1 (fun k hk => f5 k (by unfold cF at hk; omega) (by unfold cF at hk; omega) (by unfold cF at hk; omega) (by unfold cF at hk; omega) (by unfold cF at hk; omega)) (fun _ _ => rfl) (fun c hc => r5 c (by unfold cR at hc; omega)) (fun _ _ => rfl)
  have f755 : F5 755 = nI m := by rw [f5 755 (by omega) (by omega) (by omega) (by omega) (by omega)]; exact h3
  have f564 : F5 564 = G 70 := by rw [f5 564 (by omega) (by omega) (by omega) (by omega) (by omega)]; exact h7
  have f565 : F5 565 = G 71 := by rw [f5 565 (by omega) (by omega) (by omega) (by omega) (by omega)]; exact k1
  have eM : K_X11_put_155 (nI p) (nI (m ^ m)) (n + 1) G S (nI (m ^ m)) = if nI p = 11 then (G 71, G, S) else if nI p = 10 then (G 70, G, S) else k_lt3 (sp_X11_readsRow G S (G 72)) (fun r65 F70 R71 => if nI p = 12 then k_lt2 (sp_X11_laysThings F70 R71) (fun F104 R105 => K_X11_put_289 G F104 8589934592 R105 0) else K_X11_put_341 G F70 R71 (nI p) 8589934592 0) := by
    rw [ks_X11_put_155]
    unfold KB_X11_put_155
    rw [if_pos (nI_le (Nat.le_refl _) (by omega))]
  rw [e68, k_t2, eM]
  have n11 : nI p = 11 ↔ p = 11 := nI_eq (b := 11) (by omega) (by omega)
  have n10 : nI p = 10 ↔ p = 10 := nI_eq (b := 10) (by omega) (by omega)
  have n12 : nI p = 12 ↔ p = 12 := nI_eq (b := 12) (by omega) (by omega)
  have l10 : (10 : Int32) ≤ nI p ↔ 10 ≤ p := nI_leI (a := 10) (by omega) (by omega)
  by_cases q11 : p = 11
  · rw [if_pos (n11.mpr q11), if_pos (n11.mpr q11), f565]
    exact ⟨rfl, hU⟩
  rw [if_neg (fun z => q11 (n11.mp z)), if_neg (fun z => q11 (n11.mp z))]
  by_cases q10 : p = 10
  · rw [if_pos (l10.mpr (by omega)), if_neg (fun z => by have := n12.mp z; omega), if_pos (n10.mpr q10)]
    unfold K_X10_put_149
    rw [f564]
    exact ⟨rfl, hU⟩
  rw [if_neg (fun z => q10 (n10.mp z))]
  obtain ⟨S1, d1, d2, d3⟩ := rr_eq hm k2 h4 S
  rw [k4, d1, k_t3]
  have d3 := d3 k3
  have hU1 : URel F5 R5 G S1 := URel_e hU (fun _ _ => rfl) (fun _ _ => rfl) (fun _ _ => rfl) (fun c hc => d2 c (by unfold cS at hc; omega))
  by_cases q12 : p = 12
  · rw [if_pos (l10.mpr (by omega)), if_pos (n12.mpr q12), if_pos (n12.mpr q12)]
    have hdl : ∀ k, k < m → pdg m cb0 k < m := fun k _ => pdg_lt hm cb0 k
    have eCh : sp_X6_chooseBest F5 R5 = (F5, g_u R5 49 (va_cpy (R5 50) (R5 49) 0 0 5)) := by
      unfold sp_X6_chooseBest
      rw [k_e]
    obtain ⟨R6, a1, a2, a3, a4⟩ := c_chg1 (F := F5) (d := pdg m cb0) (mem := mem) hm.2 f755 hdl mono hmem m 0 (by omega) 8589934592 (g_u R5 49 (va_cpy (R5 50) (R5 49) 0 0 5)) (by omega) (fun k hk => by
      rw [ug, if_neg (by decide), ug, if_pos rfl, cpy_k (by omega), r5 48 (by omega), r5 50 (by omega)]
      exact ⟨(h5 k hk).1, k5 k hk⟩)
    have a1 : sp_X6_change_r1_r5 F5 (g_u R5 49 (va_cpy (R5 50) (R5 49) 0 0 5)) = (F5, R6) := a1
    obtain ⟨S2, b1, b2, b3⟩ := m_lt G S1
    obtain ⟨S3, c1, c2, c3, c4⟩ := m_chg1 (F55 := G) (F104 := upd (upd (upd (upd G 42 (G 4)) 43 (G 2)) 51 0) 49 0) (d := pdg m cb0) (mem := mem) hm.2 h4 hdl mono hmem m 0 (by omega) 8589934592 S2 (by omega) (fun k hk => by
      rw [b3 38 (by omega) (by omega), b3 39 (by omega) (by omega), d2 38 (by omega)]
      exact ⟨(h5 k hk).2.1, d3 k hk⟩)
    have c1 : K_X11_put_289 G (upd (upd (upd (upd G 42 (G 4)) 43 (G 2)) 51 0) 49 0) 8589934592 S2 0 = (G 70, upd (upd (upd (upd G 42 (G 4)) 43 (G 2)) 51 0) 49 0, S3) := c1
    rw [eCh, k_t2, a1, k_t2, b1, k_t2, c1]
    unfold K_X10_put_149
    have hg : ∀ k, cG k → (upd (upd (upd (upd G 42 (G 4)) 43 (G 2)) 51 0) 49 0) k = G k := fun k hk => by
      unfold cG at hk
      rw [uu, if_neg (by omega), uu, if_neg (by omega), uu, if_neg (by omega), uu, if_neg (by omega)]
    have hs3 : ∀ c, cS c → c ≠ 2 → S3 c = S c := fun c hc n2 => by
      unfold cS at hc
      rw [c2 c n2, b3 c (by omega) (by omega), d2 c (by omega)]
    have hr6 : ∀ c, cR c → c ≠ 2 → R6 c = R c := fun c hc n2 => by
      unfold cR at hc
      rw [a2 c n2, ug, if_neg (by omega), r5 c (by omega)]
    have tab := h1.1
    have tr := tab.2.2.2.2.2.2.1
    have rng := h1.2.2.2.2
    refine ⟨f564, (?_ : URel F5 R6 (upd (upd (upd (upd G 42 (G 4)) 43 (G 2)) 51 0) 49 0) S3)⟩
    refine URel_res h1 (fun k hk _ _ _ => f5 k (by unfold cF at hk; omega) (by unfold cF at hk; omega) (by unfold cF at hk; omega) (by unfold cF at hk; omega) (by unfold cF at hk; omega)) (fun k hk _ _ _ => hg k hk) hr6 (fun c hc n2 _ _ => hs3 c hc n2) ?_ ?_ ?_ ?_ ?_ (fun j hj ht => ?_) (fun j hj ht => ?_)
    · exact ((f5 17 (by omega) (by omega) (by omega) (by omega) (by omega)).trans tab.2.1).trans (hg 1 (by unfold cG; omega)).symm
    · exact ((f5 20 (by omega) (by omega) (by omega) (by omega) (by omega)).trans tab.2.2.2.1).trans (hg 3 (by unfold cG; omega)).symm
    · exact ((f5 19 (by omega) (by omega) (by omega) (by omega) (by omega)).trans tab.2.2.2.2.1).trans (hg 4 (by unfold cG; omega)).symm
    · have := hg 3 (by unfold cG; omega)
      rw [this]
      exact rng.1
    · rw [f5 19 (by omega) (by omega) (by omega) (by omega) (by omega)]
      exact tab.2.2.2.2.2.1
    · have e := f5 19 (by omega) (by omega) (by omega) (by omega) (by omega)
      exact e ▸ ht
    · have e := f5 19 (by omega) (by omega) (by omega) (by omega) (by omega)
      have ht : hb (F 19) (nI j) := e ▸ ht
      refine ⟨fun s hs => ?_, ?_⟩
      · by_cases s1 : s = 1
        · subst s1
          show R6 2 (8 * j + 1) = S3 2 j
          by_cases q : ∃ l, l < m ∧ j = mem l
          · obtain ⟨l, l1, rfl⟩ := q
            have hl := hdl l l1
            rw [a4 l (Nat.zero_le _) l1, c4 l (Nat.zero_le _) l1, (b2 _ (hmem _ hl)).1, d2 2 (by omega), ug, if_neg (by decide), r56 _ (by have := hmem _ hl; omega)]
            exact tr _ (hmem _ hl) (h5 _ hl).2.2 1 (by omega)
          · have q' : ∀ l, l < m → j ≠ mem l := fun l l1 e => q ⟨l, l1, e⟩
            rw [a3 _ (fun l _ l2 e => q' l l2 (by omega)), c3 j (fun l _ l2 => q' l l2), b3 2 (by omega) (by omega), d2 2 (by omega), ug, if_neg (by decide), r5 2 (by omega)]
            exact tr j hj ht 1 (by omega)
        · rw [a3 _ (fun l _ l2 e => by omega), ug, if_neg (by decide), r5 2 (by omega), hs3 (1 + s) (by unfold cS; omega) (by omega)]
          exact tr j hj ht s hs
      · rw [hs3 7 (by unfold cS; omega) (by omega)]
        exact (rng.2.2.1 j hj (by rw [← tab.2.2.2.2.1]; exact ht)).2.2
  · rw [if_neg (fun z => by have := l10.mp z; omega), if_neg (fun z => q12 (n12.mp z)), k_e]
    have w := whose_rel (p := p) (F := F5) (R := R5) (F55 := G) (F70 := G) (R71 := S1) hm.2 f755 h4 (fun k hk => by
      have hl : pdg m cb0 k < m := pdg_lt hm cb0 k
      rw [d3 k hk, nI_clamp (by omega), d2 38 (by omega), (h5 _ hl).2.1, (h5 _ hk).2.1, r5 48 (by omega), r5 50 (by omega)]
      exact ⟨(h5 k hk).1, k5 k hk⟩) m 0 (by omega) 8589934592 8589934592 (by omega) (by omega)
    have w : K_X11_put_341 G G S1 (nI p) 8589934592 0 = (sp_X6_whose F5 R5 (nI p), G, S1) := w
    rw [w]
    exact ⟨rfl, hU1⟩
/-- a row is taken by both -/
theorem put_go (h : URel F R G S) (hsub : a0 &&& (G 4 ^^^ (-1)) = 0) (hm : 2 ≤ cbt a0 10 ∧ cbt a0 10 ≤ 5) {p : Nat} (hp : p ≤ 12) {F1 : Nat → Int32} {R1 : Nat → Nat → Int32} (t1 : F1 755 = nI (cbt a0 10)) (t2 : ∀ j, j < 10 → hb a0 (nI j) → R1 48 (cbt a0 j) = nI j ∧ R1 49 (cbt a0 j) = nI j) (t3 : ∀ k, k ≠ 755 → F1 k = F k) (t4 : ∀ c, c ≠ 48 → c ≠ 49 → R1 c = R c) : UAns URel (K_X10_put_59 F1 R1 (nI p)) (K_X11_put_72 a0 (nI p) 8589934592 (upd G 75 0) S 0) := by
  obtain ⟨mem, M1, M2, M3⟩ := mem_ex a0
  generalize hcm : cbt a0 10 = m at *
  obtain ⟨G1, S1, u1, u2, u3, u4, u5⟩ := m_take (x := a0) (a1 := nI p) 10 0 (by omega) 8589934592 (upd G 75 0) S (by omega) (by rw [uu, if_pos rfl]; rfl) (fun j hj _ => by omega)
  have u1 : K_X11_put_72 a0 (nI p) 8589934592 (upd G 75 0) S 0 = K_X11_put_124 G1 S1 (nI p) 8589934592 1 0 := u1
  rw [hcm] at u2
  have eF : sp_X11_forgetsBest G1 S1 = (upd (upd (upd G1 70 (-1)) 71 0) 72 (-1), S1) := by
    unfold sp_X11_forgetsBest
    simp only [k_e]
  obtain ⟨F2, R2, v1, v2, v3, v4, v5⟩ := lay_laid F1 R1
  rw [u1, m_rows hm u2, eF, k_t2]
  unfold K_X10_put_59 sp_X7_bestRow_r47_r1
  rw [v1, k_t2, k_e]
  have hmem : ∀ k, k < m → mem k < 10 := fun k hk => (M1 k hk).1
  have hrm : ∀ k, k < m → R2 48 k = nI (mem k) ∧ R2 49 k = nI (mem k) ∧ S1 38 k = nI (mem k) ∧ hb (F 19) (nI (mem k)) := fun k hk => by
    obtain ⟨m1, m2, m3⟩ := M1 k hk
    have x := t2 _ m1 m2
    have y := u3 _ m1 m2
    rw [m3] at x y
    rw [v5 48 (by omega) (by omega), v5 49 (by omega) (by omega)]
    refine ⟨x.1, x.2, y, ?_⟩
    have z := a_sub hsub
    rw [z] at m2
    rw [h.1.2.2.2.2.1]
    exact ((ub_and m1).mp m2).1
  obtain ⟨pf1, pf2, pf3⟩ := p_first_m hm
  obtain ⟨F', R', G', S', n', w1, w2, w3, w4⟩ := put_loop (a1 := nI p) hm M2 hmem (m ^ m) 0 (Nat.zero_add _) 8589934592 8589934592 0 (upd F2 564 (-1)) R2 (upd (upd (upd G1 70 (-1)) 71 0) 72 (-1)) S1 1 (by have := pm_pow hm; omega) (by have := pm_pow hm; omega) (by
    refine ⟨URel_e h (fun k hk => ?_) (fun k hk => ?_) (fun c hc => ?_) (fun c hc => ?_), ULaid_e v2 (fun k hk => ?_) rfl rfl rfl (fun _ _ _ => rfl), ?_, ?_, fun k hk => ?_, fun j hj _ => v4 _ (by omega), ?_, Or.inl ?_⟩
    · unfold cF at hk
      rw [uu, if_neg (by omega), v3 k (by omega) (by omega) (by omega) (by omega) (by omega) (by omega) (by omega) (by omega), t3 k (by omega)]
    · unfold cG at hk
      rw [uu, if_neg (by omega), uu, if_neg (by omega), uu, if_neg (by omega), u4 k (by omega), uu, if_neg (by omega)]
    · unfold cR at hc
      rw [v5 c (by omega) (by omega), t4 c (by omega) (by omega)]
    · unfold cS at hc
      exact u5 c (by omega)
    · rw [uu, if_neg (by omega)]
    · rw [uu, if_neg (by decide), v3 755 (by omega) (by omega) (by omega) (by omega) (by omega) (by omega) (by omega) (by omega)]
      exact t1
    · rw [uu, if_neg (by decide), uu, if_neg (by decide), uu, if_neg (by decide)]
      exact u2
    · obtain ⟨y1, y2, y3, y4⟩ := hrm k hk
      refine ⟨y1, y3, ?_⟩
      rw [uu, if_neg (by decide), v3 19 (by omega) (by omega) (by omega) (by omega) (by omega) (by omega) (by omega) (by omega), t3 19 (by omega)]
      exact y4
    · rw [uu, if_pos rfl, uu, if_neg (by decide), uu, if_neg (by decide), uu, if_pos rfl]
    · rw [uu, if_neg (by decide), uu, if_neg (by decide), uu, if_pos rfl]) (by
    refine ⟨fun z => ?_, fun _ => ⟨by decide, fun k hk => ?_, pf1.symm⟩⟩
    · have z : pfp m (m ^ m) 0 = m ^ m := z
      omega
    · have e := pf2 k hk
      show R2 49 k = nI (mem (pdg m (pfp m (m ^ m) 0) k))
      rw [e]
      exact (hrm k hk).2.1) (fun z => absurd z (Nat.not_lt_zero _))
  have w1 : K_X7_bestRow_r47_r1_19 8589934592 (upd F2 564 (-1)) R2 1 0 = K_X7_bestRow_r47_r1_68 F' R' := w1
  have w2 : K_X11_put_155 (nI p) (nI (m ^ m)) 8589934592 (upd (upd (upd G1 70 (-1)) 71 0) 72 (-1)) S1 0 = K_X11_put_155 (nI p) (nI (m ^ m)) (n' + 1) G' S' (nI (m ^ m)) := w2
  rw [w1, w2]
  exact put_end hm M2 hmem w3 (w4 pf3) hp n'
theorem put_rel (h : URel F R G S) (a0 a1 : Int32) : UAns URel (sp_X10_put F R a0 a1) (sp_X11_put G S a0 a1) := by
  have e19 : F 19 = G 4 := h.1.2.2.2.2.1
  have hrg : jv 0 1023 (G 4) := by rw [← e19]; exact h.1.2.2.2.2.2.1
  by_cases hsub : a0 &&& (G 4 ^^^ (-1)) = 0
  · have ha : jv 0 1023 a0 := by rw [a_sub hsub]; exact ub_and_rng hrg
    have hbc : sp_J6_bitCount_0f7a4_s0 a0 = nI (cbt a0 10) := by rw [bits_eq ha, bits_cb]
    have hle := cbt_le a0 10
    by_cases hm : 2 ≤ cbt a0 10 ∧ cbt a0 10 ≤ 5
    · obtain ⟨F1, R1, t0, t1, t2, t3, t4⟩ := c_take (x := a0) hm.2 10 0 (by omega) 8589934592 (upd F 755 0) R (by omega) (by rw [uu, if_pos rfl]; rfl) (fun j hj _ => by omega)
      have t0 : K_X6_take_32 a0 8589934592 (upd F 755 0) R 0 = (1, F1, R1) := t0
      have t3 : ∀ k, k ≠ 755 → F1 k = F k := fun k hk => by rw [t3 k hk, uu, if_neg hk]
      have hi5 : g_in (nI (cbt a0 10)) 2 5 = 1 := ug_in (lo := 2) (hi := 5) (by omega) (by omega) (by omega)
      have eT : sp_X6_take F R a0 (F 19) = (1, F1, R1) := by
        unfold sp_X6_take
        simp only [k_e]
        rw [e19, if_pos hsub, hbc, hi5, if_neg (by decide)]
        exact t0
      have eC : ∀ y, K_X10_put_23 F R a0 a1 y = if y = 0 then (if g_in a1 10 12 = 0 then (-1, F1, R1) else K_X10_put_59 F1 R1 a1) else K_X10_put_59 F1 R1 a1 := by
        intro y
        unfold K_X10_put_23 K_X10_put_57
        rw [eT, k_t3, if_neg (by decide)]
        simp only [k_e]
      have eM : ∀ y, K_X11_put_34 G S a0 a1 y = if y = 0 then (-1, G, S) else K_X11_put_72 a0 a1 8589934592 (upd G 75 0) S 0 := by
        intro y
        unfold K_X11_put_34 K_X11_put_62
        simp only [k_e]
        rw [if_pos hsub, um_bits, bits_cb, hi5, if_neg (by decide)]
      have hU1 : URel F1 R1 G S := URel_e h (fun k hk => t3 k (by unfold cF at hk; omega)) (fun _ _ => rfl) (fun c hc => t4 c (by unfold cR at hc; omega) (by unfold cR at hc; omega)) (fun _ _ => rfl)
      have n1 : ¬ (1 : Int32) = 0 := by decide
      unfold sp_X10_put sp_X11_put K_X10_put_22 K_X11_put_33 K_X11_put_29
      simp only [k_e, eC, eM, n1, if_true, if_false]
      by_cases q1 : g_in a1 10 12 = 0
      · simp only [if_pos q1]
        by_cases q2 : g_in a1 0 9 = 0
        · rw [if_pos q2, if_pos q2]
          exact ⟨rfl, hU1⟩
        · rw [if_neg q2, if_neg q2]
          obtain ⟨p, _, hp9, rfl⟩ := gin_n (lo := 0) (hi := 9) (by omega) (by omega) q2
          by_cases q3 : hb a0 (nI p)
          · rw [if_neg (fun z => (ub_test (show p < 10 by omega)).mp z q3), if_neg (fun z => ub_hasv0.mp z q3)]
            exact put_go h hsub hm (by omega) t1 t2 t3 t4
          · rw [if_pos ((ub_test (show p < 10 by omega)).mpr q3), if_pos (ub_hasv0.mpr q3)]
            exact ⟨rfl, hU1⟩
      · obtain ⟨p, hp1, hp2, rfl⟩ := gin_n (lo := 10) (hi := 12) (by omega) (by omega) q1
        have q2 : g_in (nI p) 0 9 = 0 := by
          unfold g_in
          rw [if_neg (fun z => by
            have := (nI_leI (a := p) (b := 9) (by omega) (by omega)).mp z.2
            omega)]
        rw [if_pos q2, if_neg q1, if_neg q1]
        exact put_go h hsub hm hp2 t1 t2 t3 t4
    · have hi5 : g_in (nI (cbt a0 10)) 2 5 = 0 := by
        unfold g_in
        rw [if_neg (fun z => by
          have z1 := (nI_leI (a := 2) (b := cbt a0 10) (by omega) (by omega)).mp z.1
          have z2 := (nI_leI (a := cbt a0 10) (b := 5) (by omega) (by omega)).mp z.2
          omega)]
      rw [putC_same (X := (-1, F, R)) (fun y => by
        unfold K_X10_put_23 K_X10_put_57 sp_X6_take K_X6_take_22
        simp only [k_e]
        rw [e19, if_pos hsub, hbc, hi5, if_pos rfl, k_t3, if_pos rfl]), putM_same (X := (-1, G, S)) (fun y => by
        unfold K_X11_put_34 K_X11_put_62
        simp only [k_e]
        rw [if_pos hsub, um_bits, bits_cb, hi5, if_pos rfl])]
      exact ⟨rfl, h⟩
  · rw [putC_same (X := (-1, F, R)) (fun y => by
      unfold K_X10_put_23 K_X10_put_57 sp_X6_take K_X6_take_22
      simp only [k_e]
      rw [e19, if_neg hsub, k_t3, if_pos rfl]), putM_same (X := (-1, G, S)) (fun y => by
      unfold K_X11_put_34 K_X11_put_62
      simp only [k_e]
      rw [if_neg hsub])]
    exact ⟨rfl, h⟩
end UPT
