/-! ===== the law, asked ===== -/
def uch (l : Nat) : Int32 := ([97, 115, 104, 106, 98, 122] : List Int32).getD l 0
def ulo (l : Nat) : Int32 := g_least.getD l 0
def uhi (l : Nat) : Int32 := g_most.getD l 0
theorem uch_inj : ∀ l m : Nat, l < 6 → m < 6 → (uch l = uch m ↔ l = m) := by
  have : ∀ l m : Fin 6, (uch l = uch m ↔ l.val = m.val) := by decide
  exact fun l m hl hm => this ⟨l, hl⟩ ⟨m, hm⟩
/-- the law's clauses, the class's and the reference's -/
def ULaw (F : Nat → Int32) (R : Nat → Nat → Int32) (G : Nat → Int32) (S : Nat → Nat → Int32) : Prop :=
  F 278 = G 28 ∧ ∃ C : Nat, C ≤ 14 ∧ F 278 = nI C ∧ ∀ q, q < C → ∃ l p1 p2 a L1 L2 : Nat, l < 6 ∧ R 20 q = nI l ∧ S 19 q = uch l ∧ R 21 q = nI p1 ∧ R 22 q = nI p2 ∧ S 20 q = nI a ∧ S 21 q = nI (a + L1) ∧ S 22 q = nI (a + L1 + L2) ∧ USeg (R 18) (R 19) (F 274) (S 18) p1 a L1 false ∧ USeg (R 18) (R 19) (F 274) (S 18) p2 (a + L1) L2 true
theorem ULaw_e {F F' G G' : Nat → Int32} {R R' S S' : Nat → Nat → Int32} (h : ULaw F R G S) (e1 : F' 274 = F 274) (e2 : F' 278 = F 278) (e3 : G' 28 = G 28) (r : ∀ c, 18 ≤ c → c ≤ 22 → R' c = R c) (s : ∀ c, 18 ≤ c → c ≤ 22 → S' c = S c) : ULaw F' R' G' S' := by
  unfold ULaw at *
  rw [e1, e2, e3, r 18 (by omega) (by omega), r 19 (by omega) (by omega), r 20 (by omega) (by omega), r 21 (by omega) (by omega), r 22 (by omega) (by omega), s 18 (by omega) (by omega), s 19 (by omega) (by omega), s 20 (by omega) (by omega), s 21 (by omega) (by omega), s 22 (by omega) (by omega)]
  exact h
theorem seg_rel {F G : Nat → Int32} {R S : Nat → Nat → Int32} {p a L : Nat} {c : Bool} (h : USeg (R 18) (R 19) (F 274) (S 18) p a L c) (et : ∀ j, j < 12 → R 23 j = S 24 j) : (sp_X2_reckon_17 F R (nI p)).1 = (sp_X11_comesTo G S (nI a) (nI (a + L))).1 ∧ (c = true → (sp_X2_reckon_17 F R (nI p)).1 = 0 ∨ (sp_X2_reckon_17 F R (nI p)).1 = 1) := by
  obtain ⟨H, B, h0, hL, b0, bL, hH, hp, ha, hsz, hst, hC⟩ := h
  have hL0 : L ≠ 0 := by
    intro e
    subst e
    omega
  have hs : ∀ k, k ≤ L → ¬ F 274 ≤ nI (p + k) := by
    intro k hk q
    apply hsz
    have h1 := gc_le q
    have h2 := gc_le (nI_le (a := p + k) (b := p + L) (by omega) (by omega))
    exact Int32.le_iff_toInt_le.mpr (by omega)
  have I := ev_run (G := G) hH hL hp ha hs hst hC L 0 (by omega) 8589934592 8589934592 R S (by omega) (by omega) rfl rfl rfl et (by rw [h0]; intro j hj; omega) (by rw [b0]; intro q; cases q)
  have e1 : sp_X2_reckon_17 F R (nI p) = K_X2_reckon_17_4 F 8589934592 R (nI (H 0)) (nI (p + 0)) := by
    rw [h0, nI_0]
    rfl
  have e2 : sp_X11_comesTo G S (nI a) (nI (a + L)) = K_X11_comesTo_16 G (nI (a + L)) 0 8589934592 S (nI (H 0)) (nI (a + 0)) := by
    unfold sp_X11_comesTo
    have d1 : nI a / 220 = 0 := by
      have := pk_div (a := a) (d := 220) (by omega) (by omega) (by omega)
      rw [show a / 220 = 0 from by omega, nI_0] at this
      exact this
    have d2 : (220 : Int32) * 0 = 0 := by decide
    rw [k_e, k_e, d1, d2, h0, nI_0]
    rfl
  rw [e1, e2, ← bL]
  exact I
theorem u_clamp {lo hi v : Int32} (h : lo ≤ hi) : (if lo < (if hi < v then hi else v) then (if hi < v then hi else v) else lo) = (if lo ≤ v then (if v ≤ hi then v else hi) else lo) := by
  have hh := gc_le h
  by_cases h1 : lo ≤ v
  · rw [if_pos h1]
    have g1 := gc_le h1
    by_cases h2 : v ≤ hi
    · have g2 := gc_le h2
      have n2 : ¬ hi < v := fun q => by have := gc_lt q; omega
      rw [if_pos h2, if_neg n2]
      by_cases h3 : lo < v
      · rw [if_pos h3]
      · rw [if_neg h3]
        have := gc_nlt h3
        exact Int32.toInt_inj.mp (by omega)
    · have g2 := gc_nle h2
      rw [if_neg h2, if_pos (Int32.lt_iff_toInt_lt.mpr g2)]
      by_cases h3 : lo < hi
      · rw [if_pos h3]
      · rw [if_neg h3]
        have := gc_nlt h3
        exact Int32.toInt_inj.mp (by omega)
  · have g1 := gc_nle h1
    rw [if_neg h1]
    have n2 : ¬ hi < v := fun q => by have := gc_lt q; omega
    rw [if_neg n2, if_neg (fun q => by have := gc_lt q; omega)]
theorem ulo_hi : ∀ l : Nat, l < 6 → ulo l ≤ uhi l := by
  have : ∀ l : Fin 6, ulo l ≤ uhi l := by decide
  exact fun l hl => this ⟨l, hl⟩
theorem ulo_0 : ∀ l : Nat, l < 6 → (if ulo l ≤ 0 then (if 0 ≤ uhi l then 0 else uhi l) else ulo l) = ulo l := by
  have : ∀ l : Fin 6, (if ulo l ≤ 0 then (if 0 ≤ uhi l then 0 else uhi l) else ulo l) = ulo l := by decide
  exact fun l hl => this ⟨l, hl⟩
theorem ask_72 {l : Nat} (hl : l < 6) (F : Nat → Int32) (R : Nat → Nat → Int32) (v : Int32) : (K_X2_ask_17_72 (nI l) F R v).1 = (if ulo l ≤ v then (if v ≤ uhi l then v else uhi l) else ulo l) := by
  unfold K_X2_ask_17_72
  rw [k_e, k_e, k_e, k_e, nI_clamp (by omega)]
  exact u_clamp (ulo_hi l hl)
theorem ask_loop {F G : Nat → Int32} {R S : Nat → Nat → Int32} {C l : Nat} (hl : l < 6) (hC : C ≤ 14) (e278 : F 278 = nI C) (g28 : G 28 = nI C) (et : ∀ j, j < 12 → R 23 j = S 24 j) (hq : ∀ q, q < C → ∃ l p1 p2 a L1 L2 : Nat, l < 6 ∧ R 20 q = nI l ∧ S 19 q = uch l ∧ R 21 q = nI p1 ∧ R 22 q = nI p2 ∧ S 20 q = nI a ∧ S 21 q = nI (a + L1) ∧ S 22 q = nI (a + L1 + L2) ∧ USeg (R 18) (R 19) (F 274) (S 18) p1 a L1 false ∧ USeg (R 18) (R 19) (F 274) (S 18) p2 (a + L1) L2 true) : ∀ d q, q + d = C → ∀ (n m : Nat) (F1 G1 : Nat → Int32) (R1 S1 : Nat → Nat → Int32), d < n → d < m → F1 274 = F 274 → (∀ c, c ≠ 24 → R1 c = R c) → (∀ c, c ≠ 23 → S1 c = S c) → (K_X2_ask_17_15 F (nI l) n F1 R1 (nI q)).1 = (K_X11_byLaw_3 G (uch l) (ulo l) (uhi l) m G1 S1 (nI q)).1 := by
  intro d
  induction d with
  | zero =>
    intro q hqd n m F1 G1 R1 S1 hn hm eF eR eS
    obtain ⟨n, rfl⟩ : ∃ n', n = n' + 1 := ⟨n - 1, by omega⟩
    obtain ⟨m, rfl⟩ : ∃ m', m = m' + 1 := ⟨m - 1, by omega⟩
    rw [ks_X2_ask_17_15, ks_X11_byLaw_3]
    unfold KB_X2_ask_17_15 KB_X11_byLaw_3
    rw [e278, g28, if_pos (nI_le (by omega) (by omega)), if_pos (nI_le (by omega) (by omega)), ask_72 hl]
    exact ulo_0 l hl
  | succ d ih =>
    intro q hqd n m F1 G1 R1 S1 hn hm eF eR eS
    obtain ⟨n, rfl⟩ : ∃ n', n = n' + 1 := ⟨n - 1, by omega⟩
    obtain ⟨m, rfl⟩ : ∃ m', m = m' + 1 := ⟨m - 1, by omega⟩
    obtain ⟨l2, p1, p2, a, L1, L2, hl2, r20, s19, r21, r22, s20, s21, s22, u1, u2⟩ := hq q (by omega)
    have next : ∀ (F2 G2 : Nat → Int32) (R2 S2 : Nat → Nat → Int32), F2 274 = F 274 → (∀ c, c ≠ 24 → R2 c = R c) → (∀ c, c ≠ 23 → S2 c = S c) → (K_X2_ask_17_66 (K_X2_ask_17_15 F (nI l) n) (nI q) F2 R2).1 = (K_X11_byLaw_91 (K_X11_byLaw_3 G (uch l) (ulo l) (uhi l) m) (nI q) G2 S2).1 := by
      intro F2 G2 R2 S2 e1 e2 e3
      unfold K_X2_ask_17_66 K_X11_byLaw_91
      rw [k_e, k_e, nI_1]
      exact ih (q + 1) (by omega) n m F2 G2 R2 S2 (by omega) (by omega) e1 e2 e3
    rw [ks_X2_ask_17_15, ks_X11_byLaw_3]
    unfold KB_X2_ask_17_15 KB_X11_byLaw_3
    rw [e278, g28, if_neg (nI_ge (by omega) (by omega)), if_neg (nI_ge (by omega) (by omega))]
    simp only [k_e, k_e3, nI_clamp (show q < 2 ^ 31 by omega)]
    rw [eR 20 (by omega), eS 19 (by omega), r20, s19]
    by_cases el : l2 = l
    · subst el
      rw [if_pos rfl, if_pos rfl, eR 22 (by omega), eS 21 (by omega), eS 22 (by omega), r22, s21, s22]
      have A := seg_rel (F := F1) (G := G1) (R := R1) (S := S1) (p := p2) (a := a + L1) (L := L2) (c := true) (by rw [eR 18 (by omega), eR 19 (by omega), eS 18 (by omega), eF]; exact u2) (by rw [eR 23 (by omega), eS 24 (by omega)]; exact et)
      have fr1 := fr_sp_X2_reckon_17 F1 R1 (nI p2)
      have fr2 := fr_sp_X11_comesTo G1 S1 (nI (a + L1)) (nI (a + L1 + L2))
      have eF2 : (sp_X2_reckon_17 F1 R1 (nI p2)).2.1 274 = F 274 := (fr1.1 274 rfl).trans eF
      have eR2 : ∀ c, c ≠ 24 → (sp_X2_reckon_17 F1 R1 (nI p2)).2.2 c = R c := fun c hc => (fr1.2 c (by simp [mr_X2_reckon_17]; omega)).trans (eR c hc)
      have eS2 : ∀ c, c ≠ 23 → (sp_X11_comesTo G1 S1 (nI (a + L1)) (nI (a + L1 + L2))).2.2 c = S c := fun c hc => (fr2.2 c (by simp [mr_X11_comesTo]; omega)).trans (eS c hc)
      rcases A.2 rfl with z | z
      · rw [if_pos z, ← A.1, if_neg (by rw [z]; decide)]
        exact next _ _ _ _ eF2 eR2 eS2
      · rw [if_neg (by rw [z]; decide), ← A.1, if_pos z, eR2 21 (by omega), eS2 20 (by omega), eS2 21 (by omega), r21, s20, s21, ask_72 hl]
        have A2 := seg_rel (F := (sp_X2_reckon_17 F1 R1 (nI p2)).2.1) (G := (sp_X11_comesTo G1 S1 (nI (a + L1)) (nI (a + L1 + L2))).2.1) (R := (sp_X2_reckon_17 F1 R1 (nI p2)).2.2) (S := (sp_X11_comesTo G1 S1 (nI (a + L1)) (nI (a + L1 + L2))).2.2) (p := p1) (a := a) (L := L1) (c := false) (by rw [eR2 18 (by omega), eR2 19 (by omega), eS2 18 (by omega), eF2]; exact u1) (by rw [eR2 23 (by omega), eS2 24 (by omega)]; exact et)
        rw [← A2.1]
        unfold K_X11_byLaw_90
        split
        · split <;> rfl
        · rfl
    · rw [if_neg (fun e => el ((nI_eq (by omega) (by omega)).mp e)), if_neg (fun e => el ((uch_inj l2 l hl2 hl).mp e))]
      exact next F1 G1 R1 S1 eF eR eS
/-- class and reference answer alike -/
theorem ask_rel {F G : Nat → Int32} {R S : Nat → Nat → Int32} (h : ULaw F R G S) (et : ∀ j, j < 12 → R 23 j = S 24 j) {l : Nat} (hl : l < 6) : (sp_X2_ask_17 F R (nI l)).1 = (sp_X11_byLaw G S (uch l) (ulo l) (uhi l)).1 := by
  obtain ⟨e, C, hC, e278, hq⟩ := h
  unfold sp_X2_ask_17 sp_X11_byLaw
  rw [k_e]
  have h5 : g_in (nI l) 0 5 = 1 := by
    unfold g_in
    rw [if_pos ⟨nI_pos' (by omega), nI_le (a := l) (b := 5) (by omega) (by omega)⟩]
  rw [h5, if_neg (by decide)]
  have I := ask_loop (G := G) hl hC e278 (e.symm.trans e278) et hq C 0 (by omega) 8589934592 8589934592 F G R S (by omega) (by omega) rfl (fun _ _ => rfl) (fun _ _ => rfl)
  rw [nI_0] at I
  exact I
