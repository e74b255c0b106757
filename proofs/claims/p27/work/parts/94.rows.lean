/-! ===== all rows of places are tried, by both in the same order ===== -/
def UPut (m : Nat) (mem : Nat → Nat) (F : Nat → Int32) (R : Nat → Nat → Int32) (G : Nat → Int32) (S : Nat → Nat → Int32) : Prop :=
  URel F R G S ∧ ULaid F R ∧ F 755 = nI m ∧ G 75 = nI m ∧ (∀ k, k < m → R 48 k = nI (mem k) ∧ S 38 k = nI (mem k) ∧ hb (F 19) (nI (mem k))) ∧ (∀ j, j < 10 → (∀ k, k < m → j ≠ mem k) → R 6 (8 * j + 1) = R 2 (8 * j + 1)) ∧ F 564 = G 70 ∧ (G 70 = -1 ∨ F 565 = G 71 ∧ ∃ cb, cb < m ^ m ∧ pok m cb = true ∧ G 72 = nI cb ∧ ∀ k, k < m → R 50 k = nI (mem (pdg m cb k)))
def UNext (m : Nat) (mem : Nat → Nat) (c : Nat) (R : Nat → Nat → Int32) (i : Nat) (more : Int32) : Prop :=
  (pfp m (m ^ m - c) c = m ^ m → more = 0) ∧ (pfp m (m ^ m - c) c ≠ m ^ m → ¬ more = 0 ∧ (∀ k, k < m → R 49 k = nI (mem (pdg m (pfp m (m ^ m - c) c) k))) ∧ i = prnk m (pfp m (m ^ m - c) c) m)
theorem utake_eq {r : Nat} {w b i b' i' : Int32} (hr : r ≤ 10) (e : b = b') (h : b' = -1 ∨ i = i') : utake (nI r) w b i = utake (nI r) w b' i' := by
  subst e
  rcases h with h | h
  · unfold utake
    have n1 : ¬ nI r = b := by
      rw [h]
      intro z
      have z := congrArg Int32.toInt z
      rw [nI_toInt (by omega)] at z
      have : (-1 : Int32).toInt = -1 := by decide
      omega
    simp [n1]
  · rw [h]
section UPL
variable {m : Nat} {mem : Nat → Nat} {a1 : Int32}
theorem put_step (hm : 2 ≤ m ∧ m ≤ 5) (mono : ∀ a b, a < m → b < m → a < b → mem a < mem b) (hmem : ∀ k, k < m → mem k < 10) {c : Nat} (hc : c < m ^ m) (hp : pok m c = true) {F G : Nat → Int32} {R S S1 : Nat → Nat → Int32} (h : UPut m mem F R G S) (hR : ∀ k, k < m → R 49 k = nI (mem (pdg m c k))) (s39 : ∀ k, k < m → S1 39 k = nI (pdg m c k)) (s1 : ∀ c, c ≠ 39 → S1 c = S c) (bC : (Nat → Int32) → (Nat → Nat → Int32) → (Nat → Int32) × (Nat → Nat → Int32)) (bM : (Nat → Int32) → (Nat → Nat → Int32) → Int32 → Int32 × (Nat → Int32) × (Nat → Nat → Int32)) : ∃ F' R' G' S', k_lt2 (sp_X6_change_r5_r1 F R) (fun F28 R29 => k_lt2 (sp_X0_run F28 R29) (fun F35 R36 => k_lt3 (sp_X7_improves F35 R36) (fun r38 F42 R43 => if r38 = 0 then bC F42 R43 else k_lt2 (sp_X6_markBest F42 R43) (fun F65 R66 => bC F65 R66)))) = bC F' R' ∧ k_lt2 (sp_X11_laysPull G S1) (fun F156 R157 => k_lt2 (sp_X11_laysThings F156 R157) (fun F164 R165 => K_X11_put_185 bM G F164 (nI c) 8589934592 R165 0)) = bM G' S' (nI (c + 1)) ∧ UPut m mem F' R' G' S' ∧ ¬ G' 70 = -1 ∧ (∀ k, k < m → R' 49 k = R 49 k) := by
  obtain ⟨h1, h2, h3, h4, h5, h6, h7, h8⟩ := h
  have hdl : ∀ k, k < m → pdg m c k < m := fun k _ => pdg_lt hm c k
  obtain ⟨t, p1, p2, p3, p4⟩ := h1.2.2.2.1
  obtain ⟨R1, a1, a2, a3, a4⟩ := c_chg (F := F) (d := pdg m c) (mem := mem) hm.2 h3 hdl mono hmem m 0 (by omega) 8589934592 R (by omega) (fun k hk => ⟨(h5 k hk).1, hR k hk⟩)
  have a1 : sp_X6_change_r5_r1 F R = (F, R1) := a1
  obtain ⟨Sa, Sb, b1, b2, b3, b4, b5⟩ := m_lays (G := G) (S := S1) p3 p1
  obtain ⟨SL, c1, c2, c3, c4⟩ := m_chg (F55 := G) (F164 := uGL G (nI t)) (b155 := bM) (y54 := nI c) (d := pdg m c) (mem := mem) hm.2 h4 hdl mono hmem m 0 (by omega) 8589934592 Sb (by omega) (fun k hk => ⟨by rw [b5 38 (by omega) (by omega) (by omega), s1 38 (by omega)]; exact (h5 k hk).2.1, by rw [b5 39 (by omega) (by omega) (by omega)]; exact s39 k hk⟩)
  have hU1 : URel F R1 G S1 := URel_e h1 (fun _ _ => rfl) (fun _ _ => rfl) (fun c hc => a2 c (by unfold cR at hc; omega)) (fun c hc => s1 c (by unfold cS at hc; omega))
  have hL1 : ULaid F R1 := ULaid_e h2 (fun _ _ => rfl) (a2 2 (by omega)) (a2 12 (by omega)) (a2 16 (by omega)) (fun k hk k1 => a3 k (fun l _ _ => by omega))
  have tab := h1.1.2.2.2.2.2.2.1
  have sl : ∀ c, c ≠ 25 → c ≠ 26 → c ≠ 30 → SL c = S1 c := fun c x1 x2 x3 => by rw [c2 c x2, b5 c x1 x2 x3]
  have b2' : sp_X11_laysThings (upd G 44 (nI t)) Sa = (uGL G (nI t), Sb) := b2
  have E := even_rel (F := F) (R := R1) (G := G) (S := S1) hU1 hL1 (SL := SL) (t := t) p1 p3 (fun k hk => by rw [c2 25 (by omega), b3 k hk]) (fun k hk => by rw [c2 30 (by omega), (b4 k hk).2]) sl (fun j hj ht => by
    by_cases q : ∃ l, l < m ∧ j = mem l
    · obtain ⟨l, l1, rfl⟩ := q
      rw [a4 l (Nat.zero_le _) l1, c4 l (Nat.zero_le _) l1, b5 2 (by omega) (by omega) (by omega), s1 2 (by omega)]
      exact tab _ (hmem _ (hdl l l1)) (h5 _ (hdl l l1)).2.2 1 (by omega)
    · have q' : ∀ l, l < m → j ≠ mem l := fun l l1 e => q ⟨l, l1, e⟩
      rw [a3 _ (fun l _ l2 e => q' l l2 (by omega)), h6 j hj q', c3 j (fun l _ l2 => q' l l2), (b4 j hj).1, s1 2 (by omega)]
      exact tab j hj ht 1 (by omega))
  obtain ⟨⟨e, eE⟩, eU, eL, r, w, r1, r2, r3, r4, r5⟩ := E
  have frC1 : g_fr md_X0_run F (sp_X0_run F R1).1 := (fr_sp_X0_run F R1).1
  have frC2 : g_fr mr_X0_run R1 (sp_X0_run F R1).2 := (fr_sp_X0_run F R1).2
  have frM1 : g_fr md_X11_runs (uGL G (nI t)) (sp_X11_runs (uGL G (nI t)) SL).1 := (fr_sp_X11_runs (uGL G (nI t)) SL).1
  have frM2 : g_fr mr_X11_runs SL (sp_X11_runs (uGL G (nI t)) SL).2 := (fr_sp_X11_runs (uGL G (nI t)) SL).2
  rw [a1, k_t2, k_e2, b1, k_t2, b2', k_t2]
  have c1' : K_X11_put_185 bM G (uGL G (nI t)) (nI c) 8589934592 Sb 0 = _ := c1
  rw [c1', k_e2]
  generalize (sp_X0_run F R1).1 = FP at *
  generalize (sp_X0_run F R1).2 = RP at *
  generalize (sp_X11_runs (uGL G (nI t)) SL).1 = GQ at *
  generalize (sp_X11_runs (uGL G (nI t)) SL).2 = SQ at *
  have f564 : FP 564 = F 564 := frC1 564 rfl
  have f565 : FP 565 = F 565 := frC1 565 rfl
  have f755 : FP 755 = F 755 := frC1 755 rfl
  have f19 : FP 19 = F 19 := frC1 19 rfl
  have g70 : GQ 70 = G 70 := (frM1 70 rfl).trans (uGL_k _ _ (by omega))
  have g71 : GQ 71 = G 71 := (frM1 71 rfl).trans (uGL_k _ _ (by omega))
  have g72 : GQ 72 = G 72 := (frM1 72 rfl).trans (uGL_k _ _ (by omega))
  have g75 : GQ 75 = G 75 := (frM1 75 rfl).trans (uGL_k _ _ (by omega))
  have rp : ∀ c, c = 2 ∨ c = 48 ∨ c = 49 ∨ c = 50 → RP c = R c := fun c hc => (frC2 c (by simp [mr_X0_run]; omega)).trans (a2 c (by omega))
  have rp6 : RP 6 = R1 6 := frC2 6 rfl
  have sq38 : SQ 38 = S 38 := (frM2 38 rfl).trans ((sl 38 (by omega) (by omega) (by omega)).trans (s1 38 (by omega)))
  have eU' : URel FP RP GQ SQ := eU
  rw [c_improves, m_better, r1, r2, r4, r5, f564, f565, g70, g71, utake_eq r3 h7 (h8.elim Or.inl (fun z => Or.inr z.1))]
  have base5 : ∀ k, k < m → RP 48 k = nI (mem k) ∧ SQ 38 k = nI (mem k) ∧ hb (FP 19) (nI (mem k)) := fun k hk => by
    rw [rp 48 (by omega), sq38, f19]
    exact h5 k hk
  have base6 : ∀ j, j < 10 → (∀ k, k < m → j ≠ mem k) → RP 6 (8 * j + 1) = RP 2 (8 * j + 1) := fun j hj q => by
    rw [rp 2 (by omega), rp6, a3 _ (fun l _ l2 e => q l l2 (by omega))]
    exact h6 j hj q
  by_cases tk : utake (nI r) w (G 70) (G 71) = true
  · have eMk : sp_X6_markBest (upd (upd FP 564 (nI r)) 565 w) RP = (upd (upd FP 564 (nI r)) 565 w, g_u RP 50 (va_cpy (RP 49) (RP 50) 0 0 5)) := by
      unfold sp_X6_markBest
      rw [k_e]
    rw [if_pos tk, if_pos tk, k_t3, if_neg (by decide), eMk, k_t2, k_t2]
    refine ⟨_, _, _, _, rfl, by unfold K_X11_put_239; rw [k_e, nI_1], ⟨URel_e eU' (fun k hk => ?_) (fun k hk => ?_) (fun c hc => ?_) (fun _ _ => rfl), ULaid_e eL (fun k hk => ?_) ?_ ?_ ?_ (fun k _ _ => ?_), ?_, ?_, fun k hk => ?_, fun j hj q => ?_, ?_, Or.inr ⟨?_, c, hc, hp, ?_, fun k hk => ?_⟩⟩, ?_, fun k hk => ?_⟩
    · rw [uu, if_neg (by unfold cF at hk; omega), uu, if_neg (by unfold cF at hk; omega)]
    · rw [uu, if_neg (by unfold cG at hk; omega), uu, if_neg (by unfold cG at hk; omega), uu, if_neg (by unfold cG at hk; omega)]
    · rw [ug, if_neg (by unfold cR at hc; omega)]
    · rw [uu, if_neg (by omega), uu, if_neg (by omega)]
    · rw [ug, if_neg (by decide)]
    · rw [ug, if_neg (by decide)]
    · rw [ug, if_neg (by decide)]
    · rw [ug, if_neg (by decide)]
    · rw [uu, if_neg (by decide), uu, if_neg (by decide), f755]
      exact h3
    · rw [uu, if_neg (by decide), uu, if_neg (by decide), uu, if_neg (by decide), g75]
      exact h4
    · rw [ug, if_neg (by decide), uu, if_neg (by decide), uu, if_neg (by decide)]
      exact base5 k hk
    · rw [ug, if_neg (by decide), ug, if_neg (by decide)]
      exact base6 j hj q
    · rw [uu, if_neg (by decide), uu, if_pos rfl, uu, if_neg (by decide), uu, if_neg (by decide), uu, if_pos rfl]
    · rw [uu, if_pos rfl, uu, if_neg (by decide), uu, if_pos rfl]
    · rw [uu, if_pos rfl]
    · rw [ug, if_pos rfl, cpy_k (by omega), rp 49 (by omega)]
      exact hR k hk
    · rw [uu, if_neg (by decide), uu, if_neg (by decide), uu, if_pos rfl]
      intro z
      have z := congrArg Int32.toInt z
      rw [nI_toInt (by omega)] at z
      have : (-1 : Int32).toInt = -1 := by decide
      omega
    · rw [ug, if_neg (by decide), rp 49 (by omega)]
  · rw [if_neg tk, if_neg tk, k_t3, if_pos rfl, k_t2]
    have n70 : ¬ G 70 = -1 := by
      intro z
      apply tk
      unfold utake
      rw [z]
      have h1 : ¬ nI r < -1 := by
        intro y
        have y := gc_lt y
        rw [nI_toInt (by omega)] at y
        have : (-1 : Int32).toInt = -1 := by decide
        omega
      have h2 : ¬ nI r = -1 := by
        intro y
        have y := congrArg Int32.toInt y
        rw [nI_toInt (by omega)] at y
        have : (-1 : Int32).toInt = -1 := by decide
        omega
      simp [h1, h2]
    obtain ⟨k1, cb0, k2, k3, k4, k5⟩ := h8.resolve_left n70
    refine ⟨_, _, _, _, rfl, by unfold K_X11_put_239; rw [k_e, nI_1], ⟨eU', eL, by rw [f755]; exact h3, by rw [g75]; exact h4, base5, base6, by rw [f564, g70]; exact h7, Or.inr ⟨by rw [f565, g71]; exact k1, cb0, k2, k3, by rw [g72]; exact k4, fun k hk => by rw [rp 50 (by omega)]; exact k5 k hk⟩⟩, by rw [g70]; exact n70, fun k hk => by rw [rp 49 (by omega)]⟩
theorem put_loop (hm : 2 ≤ m ∧ m ≤ 5) (mono : ∀ a b, a < m → b < m → a < b → mem a < mem b) (hmem : ∀ k, k < m → mem k < 10) : ∀ e c, c + e = m ^ m → ∀ (n l i : Nat) (F : Nat → Int32) (R : Nat → Nat → Int32) (G : Nat → Int32) (S : Nat → Nat → Int32) (more : Int32), e < n → e < l → UPut m mem F R G S → UNext m mem c R i more → (pfp m (m ^ m) 0 < c → ¬ G 70 = -1) → ∃ F' R' G' S' n', K_X7_bestRow_r47_r1_19 l F R more (nI i) = K_X7_bestRow_r47_r1_68 F' R' ∧ K_X11_put_155 a1 (nI (m ^ m)) n G S (nI c) = K_X11_put_155 a1 (nI (m ^ m)) (n' + 1) G' S' (nI (m ^ m)) ∧ UPut m mem F' R' G' S' ∧ (pfp m (m ^ m) 0 < m ^ m → ¬ G' 70 = -1) := by
  have hpw := pm_pow hm
  intro e
  induction e with
  | zero =>
    intro c hc n l i F R G S more hn hl h hx h70
    obtain ⟨n, rfl⟩ : ∃ n', n = n' + 1 := ⟨n - 1, by omega⟩
    obtain ⟨l, rfl⟩ : ∃ n', l = n' + 1 := ⟨l - 1, by omega⟩
    have hc : c = m ^ m := hc
    rw [hc] at hx h70
    have z : more = 0 := hx.1 (by rw [Nat.sub_self]; rfl)
    refine ⟨F, R, G, S, n, ?_, by rw [hc], h, h70⟩
    rw [ks_X7_bestRow_r47_r1_19]
    unfold KB_X7_bestRow_r47_r1_19
    rw [if_pos z]
    split <;> rfl
  | succ e ih =>
    intro c hc n l i F R G S more hn hl h hx h70
    obtain ⟨n, rfl⟩ : ∃ n', n = n' + 1 := ⟨n - 1, by omega⟩
    have hcm : c < m ^ m := by omega
    have h4 := h.2.2.2.1
    obtain ⟨S1, d1, d2, d3⟩ := rr_eq hm hcm h4 S
    have e155 : K_X11_put_155 a1 (nI (m ^ m)) (n + 1) G S (nI c) = k_lt3 (sp_X11_readsRow G S (nI c)) (fun r136 F141 R142 => if r136 = 0 then K_X11_put_239 (K_X11_put_155 a1 (nI (m ^ m)) n) (nI c) F141 R142 else k_lt2 (sp_X11_laysPull F141 R142) (fun F156 R157 => k_lt2 (sp_X11_laysThings F156 R157) (fun F164 R165 => K_X11_put_185 (K_X11_put_155 a1 (nI (m ^ m)) n) G F164 (nI c) 8589934592 R165 0))) := by
      rw [ks_X11_put_155]
      unfold KB_X11_put_155
      rw [if_neg (nI_ge hcm (by omega))]
    rw [e155, d1, k_t3]
    by_cases hp : pok m c = true
    · obtain ⟨l, rfl⟩ : ∃ n', l = n' + 1 := ⟨l - 1, by omega⟩
      obtain ⟨x1, x2, x3⟩ := p_next hm hcm hp
      have hq : pfp m (m ^ m - c) c = c := pfp_yes hcm hp
      obtain ⟨y1, y2, y3⟩ := hx.2 (by rw [hq]; omega)
      rw [hq] at y2 y3
      rw [if_pos hp, if_neg (by decide)]
      obtain ⟨F', R', G', S', z1, z2, z3, z4, z5⟩ := put_step hm mono hmem hcm hp h y2 (d3 hp) d2 (K_X7_bestRow_r47_r1_57 (K_X7_bestRow_r47_r1_19 l) (nI i)) (K_X11_put_155 a1 (nI (m ^ m)) n)
      have e19 : K_X7_bestRow_r47_r1_19 (l + 1) F R more (nI i) = K_X7_bestRow_r47_r1_57 (K_X7_bestRow_r47_r1_19 l) (nI i) F' R' := by
        rw [ks_X7_bestRow_r47_r1_19]
        unfold KB_X7_bestRow_r47_r1_19
        rw [if_neg (show ¬ (120 : Int32) ≤ nI i from nI_ge (b := 120) (by omega) (by omega)), if_neg y1]
        exact z1
      rw [e19, z2]
      obtain ⟨R2, w1, w2, w3⟩ := next_eq (F := F') (R := R') (d := pdg m c) (mem := mem) hm z3.2.2.1 (fun k hk => by rw [z5 k hk]; exact y2 k hk) (fun k _ => pdg_lt hm c k) mono hmem
      have e57 : K_X7_bestRow_r47_r1_57 (K_X7_bestRow_r47_r1_19 l) (nI i) F' R' = K_X7_bestRow_r47_r1_19 l F' R2 (if prise (pdg m c) (m - 1) = 0 then 0 else 1) (nI (i + 1)) := by
        unfold K_X7_bestRow_r47_r1_57
        rw [w1, k_t3, k_e, nI_1]
      rw [e57]
      refine ih (c + 1) (by omega) n l (i + 1) F' R2 G' S' _ (by omega) (by omega) ?_ ⟨fun q => ?_, fun q => ?_⟩ (fun _ => z4)
      · obtain ⟨v1, v2, v3, v4, v5, v6, v7, v8⟩ := z3
        refine ⟨URel_e v1 (fun _ _ => rfl) (fun _ _ => rfl) (fun c hc => w2 c (by unfold cR at hc; omega)) (fun _ _ => rfl), ULaid_e v2 (fun _ _ => rfl) (w2 2 (by omega)) (w2 12 (by omega)) (w2 16 (by omega)) (fun k _ _ => by rw [w2 6 (by omega)]), v3, v4, fun k hk => by rw [w2 48 (by omega)]; exact v5 k hk, fun j hj q => by rw [w2 6 (by omega), w2 2 (by omega)]; exact v6 j hj q, v7, v8.elim Or.inl (fun q => Or.inr ?_)⟩
        obtain ⟨u1, cb0, u2, u3, u4, u5⟩ := q
        exact ⟨u1, cb0, u2, u3, u4, fun k hk => by rw [w2 50 (by omega)]; exact u5 k hk⟩
      · rw [if_pos (x2 q)]
      · obtain ⟨u1, u2, u3⟩ := x3 q
        refine ⟨by rw [if_neg u1]; decide, fun k hk => ?_, by rw [u2, y3]⟩
        rw [w3 u1 k hk, u3 k hk]
    · rw [if_neg hp, if_pos rfl]
      have e239 : K_X11_put_239 (K_X11_put_155 a1 (nI (m ^ m)) n) (nI c) G S1 = K_X11_put_155 a1 (nI (m ^ m)) n G S1 (nI (c + 1)) := by
        unfold K_X11_put_239
        rw [k_e, nI_1]
      rw [e239]
      refine ih (c + 1) (by omega) n l i F R G S1 more (by omega) (by omega) ?_ ?_ (fun q => ?_)
      · obtain ⟨v1, v2, v3, v4, v5, v6, v7, v8⟩ := h
        exact ⟨URel_e v1 (fun _ _ => rfl) (fun _ _ => rfl) (fun _ _ => rfl) (fun c hc => d2 c (by unfold cS at hc; omega)), v2, v3, v4, fun k hk => by rw [d2 38 (by omega)]; exact v5 k hk, v6, v7, v8⟩
      · unfold UNext at hx ⊢
        rw [pfp_no hcm hp] at hx
        exact hx
      · refine h70 ?_
        by_cases z : pfp m (m ^ m) 0 = c
        · have := pfp_ok (m := m) (m ^ m) 0 (by omega)
          rw [z] at this
          exact absurd this hp
        · omega
end UPL
