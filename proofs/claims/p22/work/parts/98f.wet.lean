/-! ===== which was wet ===== -/
/-- the table is laid, but for one thing's wet; the pull is laid; the hand is still -/
def UTw (F : Nat → Int32) (R : Nat → Nat → Int32) (i : Nat) : Prop := F 80 = F 16 ∧ F 81 = F 17 ∧ F 82 = F 18 ∧ F 83 = F 19 ∧ F 241 = F 177 ∧ F 672 = 0 ∧ F 674 = 0 ∧ (∀ k, k < 80 → k ≠ 8 * i + 5 → R 6 k = R 2 k) ∧ ∀ k, k < 60 → R 16 k = R 12 k
theorem UTw_e {F F' : Nat → Int32} {R R' : Nat → Nat → Int32} {i : Nat} (h : UTw F R i) (f : ∀ k, k = 241 ∨ cfF k ∧ k ≠ 566 ∧ k ≠ 567 ∧ k ≠ 568 → F' k = F k) (r : ∀ c, c = 16 ∨ cfR c → R' c = R c) : UTw F' R' i := by
  unfold UTw
  rw [f 80 (by unfold cfF; omega), f 81 (by unfold cfF; omega), f 82 (by unfold cfF; omega), f 83 (by unfold cfF; omega), f 16 (by unfold cfF; omega), f 17 (by unfold cfF; omega), f 18 (by unfold cfF; omega), f 19 (by unfold cfF; omega), f 672 (by unfold cfF; omega), f 674 (by unfold cfF; omega), f 241 (by omega), f 177 (by unfold cfF; omega), r 6 (by unfold cfR; omega), r 2 (by unfold cfR; omega), r 16 (by omega), r 12 (by unfold cfR; omega)]
  exact h
section UWW
variable {F G : Nat → Int32} {R S : Nat → Nat → Int32}
/-- one evening, one thing's wet changed -/
theorem wet_step (h : UR0 True F R G S) {i : Nat} (hi : i < 10) (hl : UTw F R i) (v : Int32) : ∃ Fa Ra Ga Sa Gb Sb F' R' G' S' r w, sp_X8_change_5 F R (nI i) 5 v = (Fa, Ra) ∧ sp_X0_run Fa Ra = (F', R') ∧ sp_X11_laysPull G S = (Ga, Sa) ∧ sp_X11_laysThings Ga Sa = (Gb, Sb) ∧ sp_X11_runs Gb (g_u Sb 30 (upd (Sb 30) i v)) = (G', S') ∧ UOut F' R' G' S' r w ∧ UR0 True F' R' G' S' ∧ UTw F' R' i ∧ F' 691 = G 4 ∧ (∀ k, k = 241 ∨ cfF k → F' k = F k) ∧ (∀ c, c = 16 ∨ cfR c → c ≠ 6 → R' c = R c) ∧ (∀ k, cfG k → G' k = G k) ∧ (∀ c, cfS c → S' c = S c) := by
  obtain ⟨t1, t2, t3, t4, t5, t6, t7, t8⟩ := id h.1
  obtain ⟨l1, l2, l3, l4, l5, l6, l7, l8, l9⟩ := id hl
  obtain ⟨t, p1, p2, p3, p4⟩ := id (h.2.2.1 trivial)
  obtain ⟨Sa, Sb, b1, b2, b3, b4, b5⟩ := m_lays (G := G) (S := S) p3 p1
  have eR : ∀ k, (g_u R 6 (upd (R 6) (8 * i + 5) v)) 6 k = if k = 8 * i + 5 then v else R 6 k := fun k => by rw [g_uus, uu]
  have eR' : ∀ c, c ≠ 6 → (g_u R 6 (upd (R 6) (8 * i + 5) v)) c = R c := fun c hc => by rw [ug, if_neg hc]
  have eS : ∀ k, (g_u Sb 30 (upd (Sb 30) i v)) 30 k = if k = i then v else Sb 30 k := fun k => by rw [g_uus, uu]
  have eS' : ∀ c, c ≠ 30 → (g_u Sb 30 (upd (Sb 30) i v)) c = Sb c := fun c hc => by rw [ug, if_neg hc]
  have eCh := ux_change5 (F := F) (R := R) (i := i) (s := 5) (x := 5) (v := v) hi (by omega) rfl
  generalize hRa : g_u R 6 (upd (R 6) (8 * i + 5) v) = Ra at *
  generalize hSc : g_u Sb 30 (upd (Sb 30) i v) = Sc at *
  have hU : UR0 True F Ra G S := UR0_e h (fun _ _ => rfl) (fun _ _ => rfl) (fun c hc => eR' c (by unfold cR0 cR at hc; omega)) (fun _ _ => rfl)
  have hp : UPl F Ra (uGL G (nI t)) Sc t := by
    refine ⟨p1, l5.trans p2, uGL_44 _ _, fun k hk => ?_⟩
    obtain ⟨x1, p, x2, x3⟩ := p4 k hk
    rw [eR' 16 (by omega), l9 k (by omega), eS' 25 (by omega), b3 k hk]
    refine ⟨x1, ?_⟩
    rw [← x1, x3]
    exact ⟨by rw [nI_toInt (by omega)]; omega, by rw [nI_toInt (by omega)]; omega⟩
  have hg : ∀ k, k ≠ 44 ∧ k ≠ 42 ∧ k ≠ 43 ∧ k ≠ 51 ∧ k ≠ 49 → uGL G (nI t) k = G k := fun k hk => uGL_k G _ hk
  have hs : ∀ c, c ≠ 25 → c ≠ 26 → c ≠ 30 → Sc c = S c := fun c x1 x2 x3 => by rw [eS' c x3, b5 c x1 x2 x3]
  have hB : UBeg F Ra (uGL G (nI t)) Sc := by
    refine ubeg_mk hU (by rw [uGL_42, l4]; exact t5) (by rw [l4]; exact t6) (fun j hj ht => by rw [l4] at ht; exact ht) l1 l2 (by rw [uGL_43, l3]; exact t3) (fun k hk _ => hg k (by unfold cG0 cG at hk; omega)) hp (fun j q hj hq q1 q5 => ?_) (fun j hj ht => ?_) (fun c hc => hs c (by unfold cS0 cS at hc; omega) (by unfold cS0 cS at hc; omega) (by unfold cS0 cS at hc; omega)) (Or.inr ⟨l6, uGL_51 _ _, by rw [uGL_49]; exact l7, Or.inl l7⟩)
    · rw [eR, if_neg (by omega), eR' 2 (by omega)]
      exact l8 _ (by omega) (by omega)
    · rw [l4] at ht
      have x := t7 j hj ht
      obtain ⟨y1, y2⟩ := b4 j hj
      rw [eR, if_neg (by omega), l8 _ (by omega) (by omega), eS' 26 (by omega), y1, eR, eS]
      refine ⟨x 1 (by omega), ?_⟩
      by_cases z : j = i
      · rw [if_pos (by omega), if_pos z]
      · rw [if_neg (by omega), if_neg z, l8 _ (by omega) (by omega), y2]
        exact x 5 (by omega)
  obtain ⟨F', R', G', S', q, w, a1, a2, a3, a4, a5, a6, a7, a8, a9⟩ := eve_rel hU hB (fun k hk => hg k (by unfold cG0 cG at hk; omega)) (fun c hc => hs c (by unfold cS0 cS at hc; omega) (by unfold cS0 cS at hc; omega) (by unfold cS0 cS at hc; omega)) (uGL_51 _ _)
  have fF : ∀ k, k = 241 ∨ cfF k → F' k = F k := fun k hk => a6 k (by unfold cfF at hk; simp [md_X0_run] <;> omega)
  have fR : ∀ c, c = 16 ∨ cfR c → R' c = Ra c := fun c hc => a7 c (by unfold cfR at hc; simp [mr_X0_run] <;> omega)
  have hTa : UTw F Ra i := by
    refine ⟨l1, l2, l3, l4, l5, l6, l7, fun k hk k5 => ?_, fun k hk => ?_⟩
    · rw [eR, if_neg k5, eR' 2 (by omega)]
      exact l8 k hk k5
    · rw [eR' 16 (by omega), eR' 12 (by omega)]
      exact l9 k hk
  refine ⟨F, Ra, upd G 44 (nI t), Sa, uGL G (nI t), Sb, F', R', G', S', q, w, eCh, a1, b1, b2, by rw [hSc]; exact a2, a3, a4, UTw_e hTa (fun k hk => fF k (hk.imp id And.left)) fR, ?_, fF, fun c hc c6 => by rw [fR c hc, eR' c c6], fun k hk => ?_, fun c hc => ?_⟩
  · rw [a5, l4]
    exact t5
  · exact (a8 k (by unfold cfG at hk; simp [md_X11_runs] <;> omega)).trans (hg k (by unfold cfG at hk; omega))
  · exact (a9 c (by unfold cfS at hc; simp [mr_X11_runs] <;> omega)).trans (hs c (by unfold cfS at hc; omega) (by unfold cfS at hc; omega) (by unfold cfS at hc; omega))
def UNw (q : Nat) (F : Nat → Int32) (y1 y2 : Int32) : Prop := F 568 = nI q ∧ y1 = nI q ∧ (q = 0 ∧ y2 = -1 ∨ 0 < q ∧ ∃ c, c < 100 ∧ y2 = nI c ∧ F 566 = nI (c / 10) ∧ F 567 = nI (c % 10))
/-- what goes on from code to code -/
def UWi (F : Nat → Int32) (R : Nat → Nat → Int32) (G : Nat → Int32) (S : Nat → Nat → Int32) (q : Nat) (y1 y2 : Int32) : Prop := UR0 True F R G S ∧ UTold R G S ∧ UNw q F y1 y2
theorem n_m1 {c : Nat} (hc : c < 1000) : ¬ nI c = -1 := by
  intro z
  have z := congrArg Int32.toInt z
  rw [nI_toInt (by omega)] at z
  have : (-1 : Int32).toInt = -1 := by decide
  omega
/-- the reference at one code -/
theorem w_code {G0 : Nat → Int32} (a0 : Int32) {l i w : Nat} (hi : i < 10) (hw : w < 10) (y1 y2 : Int32) : K_X11_wasWet_25 G0 a0 (l + 1) G S y1 y2 (nI (10 * i + w)) = if g_hasv (G0 4) (nI i) = 0 then K_X11_wasWet_25 G0 a0 l G S y1 y2 (nI (10 * i + w + 1)) else if S 6 i = nI w then K_X11_wasWet_25 G0 a0 l G S y1 y2 (nI (10 * i + w + 1)) else k_lt2 (sp_X11_laysPull G S) (fun F81 R82 => k_lt2 (sp_X11_laysThings F81 R82) (fun F89 R90 => k_lt2 (sp_X11_runs F89 (g_u R90 30 (upd (R90 30) i (nI w)))) (fun F100 R101 => if sp_X11_fits F100 R101 = 0 then K_X11_wasWet_25 G0 a0 l F100 R101 y1 y2 (nI (10 * i + w + 1)) else K_X11_wasWet_25 G0 a0 l F100 R101 (y1 + 1) (if y2 = -1 then nI (10 * i + w) else y2) (nI (10 * i + w + 1))))) := by
  have e : ¬ (100 : Int32) ≤ nI (10 * i + w) := nI_ge (b := 100) (by omega) (by omega)
  have ed : nI (10 * i + w) / 10 = nI i := by
    rw [show (10 : Int32) = nI 10 from rfl, pk_div (by omega) (by omega) (by omega)]
    congr 1
    omega
  have er : nI (10 * i + w) - nI i * 10 = nI w := by
    rw [show (10 : Int32) = nI 10 from rfl, pk_mul, pk_sub (by omega)]
    congr 1
    omega
  rw [ks_X11_wasWet_25]
  unfold KB_X11_wasWet_25 K_X11_wasWet_119 K_X11_wasWet_114 K_X11_wasWet_119
  rw [if_neg e]
  simp only [k_e, ed, er, nI_1, nI_clamp (show i < 2 ^ 31 by omega)]
  by_cases z : y2 = -1
  · simp only [if_pos z]
  · simp only [if_neg z]
theorem wet_in {G0 : Nat → Int32} (a0 : Int32) {i : Nat} (hi : i < 10) {told : Int32} : ∀ d w, w + d = 10 → ∀ (n l q : Nat) (F : Nat → Int32) (R : Nat → Nat → Int32) (G : Nat → Int32) (S : Nat → Nat → Int32) (y1 y2 : Int32) (b7 : (Nat → Int32) → (Nat → Nat → Int32) → Int32 → (Nat → Int32) × (Nat → Nat → Int32)), d < n → UWi F R G S q y1 y2 → UTw F R i → G 4 = G0 4 → q ≤ 10 * i + w → hb (G0 4) (nI i) → told = S 6 i → told = R 2 (8 * i + 5) → ∃ F' R' G' S' q' z1 z2, K_X7_findWet_r9_26 b7 told (nI i) n F R (nI w) = K_X7_findWet_r9_82 b7 F' R' told (nI i) ∧ K_X11_wasWet_25 G0 a0 (l + d) G S y1 y2 (nI (10 * i + w)) = K_X11_wasWet_25 G0 a0 l G' S' z1 z2 (nI (10 * (i + 1))) ∧ UWi F' R' G' S' q' z1 z2 ∧ UTw F' R' i ∧ G' 4 = G0 4 ∧ q' ≤ 10 * (i + 1) ∧ told = R' 2 (8 * i + 5) := by
  intro d
  induction d with
  | zero =>
    intro w hw n l q F R G S y1 y2 b7 hn hI hL h4 hq ht hS hR
    obtain ⟨n, rfl⟩ : ∃ n', n = n' + 1 := ⟨n - 1, by omega⟩
    obtain rfl : w = 10 := by omega
    refine ⟨F, R, G, S, q, y1, y2, ?_, by rw [show 10 * (i + 1) = 10 * i + 10 by omega, Nat.add_zero], hI, hL, h4, by omega, hR⟩
    rw [ks_X7_findWet_r9_26]
    unfold KB_X7_findWet_r9_26
    rw [if_pos (show (9 : Int32) < nI 10 from nI_lt (a := 9) (by omega) (by omega))]
  | succ d ih =>
    intro w hw n l q F R G S y1 y2 b7 hn hI hL h4 hq ht hS hR
    obtain ⟨n, rfl⟩ : ∃ n', n = n' + 1 := ⟨n - 1, by omega⟩
    obtain ⟨hU, hT, hN⟩ := hI
    have e9 : ¬ (9 : Int32) < nI w := nI_nlt (b := w) (a := 9) (by omega) (by omega)
    have e83 : F 83 = G0 4 := by rw [hL.2.2.2.1, ← h4]; exact hU.1.2.2.2.2.1
    have hh : sp_X8_has_5 F R (nI i) = 1 := by
      unfold sp_X8_has_5 K_X8_has_5_26
      simp only [k_e]
      rw [ug_i9 hi, if_neg (by decide), e83, if_neg (fun z => (ub_test hi).mp z ht)]
    have n1 : ¬ (1 : Int32) = 0 := by decide
    have eM := w_code (G0 := G0) (G := G) (S := S) a0 (l := l + d) hi (show w < 10 by omega) y1 y2
    rw [if_neg (fun z => ub_hasv0.mp z ht)] at eM
    rw [show 10 * i + w + 1 = 10 * i + (w + 1) from rfl] at eM
    rw [show l + (d + 1) = (l + d) + 1 by omega, eM]
    by_cases z : told = nI w
    · have eC : K_X7_findWet_r9_26 b7 told (nI i) (n + 1) F R (nI w) = K_X7_findWet_r9_26 b7 told (nI i) n F R (nI (w + 1)) := by
        rw [ks_X7_findWet_r9_26]
        unfold KB_X7_findWet_r9_26 K_X7_findWet_r9_76
        simp only [k_e]
        rw [if_neg e9, hh, if_neg n1, if_pos z.symm, nI_1]
      rw [eC, if_pos (hS.symm.trans z)]
      exact ih (w + 1) (by omega) n l q F R G S y1 y2 b7 (by omega) ⟨hU, hT, hN⟩ hL h4 (by omega) ht hS hR
    · obtain ⟨Fa, Ra, Ga, Sa, Gb, Sb, F', R', G', S', r, v, c0, c1, c2, c3, c4, c5, c6, c7, c8, c9, c10, c11, c12⟩ := wet_step hU hi hL (nI w)
      obtain ⟨F2, m1, m2, m3, m4⟩ := note_eq F' R' (nI i) (nI w)
      obtain ⟨⟨ev, ue⟩, _⟩ := c5
      have ue1 : UCore F' R' G' S' := ue.1
      have g4 : G' 4 = G 4 := c11 4 (by unfold cfG; omega)
      have hT' : UTold R' G' S' := fun j hj ht => by
        rw [c12 40 (by unfold cfS; omega), c10 10 (by unfold cfR; omega) (by omega), g4]
        exact hT j hj (by rw [← g4]; exact ht)
      have hf := fits_eq ue1 (by rw [g4, c8]) (fun j hj ht => by
        rw [c8] at ht
        rw [c8, ← g4]
        exact hT' j hj (by rw [g4]; exact ht))
      have hU2 : UR0 True F2 R' G' S' := UR0_e c6 (fun k hk => m2 k (by unfold cF0 cF at hk; omega) (by unfold cF0 cF at hk; omega) (by unfold cF0 cF at hk; omega)) (fun _ _ => rfl) (fun _ _ => rfl) (fun _ _ => rfl)
      have hL2 : UTw F2 R' i := UTw_e c7 (fun k hk => m2 k (by omega) (by omega) (by omega)) (fun _ _ => rfl)
      have eC : K_X7_findWet_r9_26 b7 told (nI i) (n + 1) F R (nI w) = K_X7_findWet_r9_26 b7 told (nI i) n F2 R' (nI (w + 1)) := by
        rw [ks_X7_findWet_r9_26]
        unfold KB_X7_findWet_r9_26 K_X7_findWet_r9_76
        rw [if_neg e9, k_e, hh, if_neg n1, if_neg (fun y => z y.symm), c0, k_t2, c1, k_t2, m1, k_t2, k_e, nI_1]
      rw [eC, if_neg (fun y => z (hS.trans y)), c2, k_t2, c3, k_t2, c4, k_t2]
      obtain ⟨k1, k2, k3⟩ := hN
      have f568 : F' 568 = nI q := (c9 568 (by unfold cfF; omega)).trans k1
      have f566 : F' 566 = F 566 := c9 566 (by unfold cfF; omega)
      have f567 : F' 567 = F 567 := c9 567 (by unfold cfF; omega)
      have hS2 : told = S' 6 i := by rw [c12 6 (by unfold cfS; omega)]; exact hS
      have hR2 : told = R' 2 (8 * i + 5) := by rw [c10 2 (by unfold cfR; omega) (by omega)]; exact hR
      by_cases y : sp_X11_fits G' S' = 0
      · rw [if_pos y]
        have eF := m3 (hf.trans y)
        refine ih (w + 1) (by omega) n l q F2 R' G' S' y1 y2 b7 (by omega) ⟨hU2, hT', ?_, k2, ?_⟩ hL2 (g4.trans h4) (by omega) ht hS2 hR2
        · rw [eF]; exact f568
        · rw [eF, f566, f567]; exact k3
      · rw [if_neg y]
        obtain ⟨x1, x2, x3⟩ := m4 (fun p => y (hf.symm.trans p))
        have hN2 : UNw (q + 1) F2 (y1 + 1) (if y2 = -1 then nI (10 * i + w) else y2) := by
          refine ⟨?_, by rw [k2, nI_1], Or.inr ⟨by omega, ?_⟩⟩
          · rw [x1, f568, nI_1]
          · rcases k3 with ⟨p1, p2⟩ | ⟨p1, c, p2, p3, p4, p5⟩
            · refine ⟨10 * i + w, by omega, by rw [if_pos p2], ?_, ?_⟩
              · rw [x2, f568, p1, if_pos (show nI 0 = 0 from rfl), show (10 * i + w) / 10 = i by omega]
              · rw [x3, f568, p1, if_pos (show nI 0 = 0 from rfl), show (10 * i + w) % 10 = w by omega]
            · have e2 : ¬ y2 = -1 := by rw [p3]; exact n_m1 (by omega)
              refine ⟨c, p2, by rw [if_neg e2]; exact p3, ?_, ?_⟩
              · rw [x2, f568, if_neg (nI_ne0 (by omega) (by omega)), f566]; exact p4
              · rw [x3, f568, if_neg (nI_ne0 (by omega) (by omega)), f567]; exact p5
        exact ih (w + 1) (by omega) n l (q + 1) F2 R' G' S' (y1 + 1) (if y2 = -1 then nI (10 * i + w) else y2) b7 (by omega) ⟨hU2, hT', hN2⟩ hL2 (g4.trans h4) (by omega) ht hS2 hR2
theorem wet_skip {G0 : Nat → Int32} (a0 : Int32) {i : Nat} (hi : i < 10) (ht : ¬ hb (G0 4) (nI i)) {y1 y2 : Int32} : ∀ d w, w + d = 10 → ∀ l, K_X11_wasWet_25 G0 a0 (l + d) G S y1 y2 (nI (10 * i + w)) = K_X11_wasWet_25 G0 a0 l G S y1 y2 (nI (10 * (i + 1))) := by
  intro d
  induction d with
  | zero =>
    intro w hw l
    obtain rfl : w = 10 := by omega
    rw [show 10 * (i + 1) = 10 * i + 10 by omega, Nat.add_zero]
  | succ d ih =>
    intro w hw l
    rw [show l + (d + 1) = (l + d) + 1 by omega, w_code a0 hi (show w < 10 by omega), if_pos (ub_hasv0.mpr ht), show 10 * i + w + 1 = 10 * i + (w + 1) from rfl]
    exact ih (w + 1) (by omega) l
theorem wet_out {G0 : Nat → Int32} (a0 : Int32) : ∀ d i, i + d = 10 → ∀ (n l q : Nat) (F : Nat → Int32) (R : Nat → Nat → Int32) (G : Nat → Int32) (S : Nat → Nat → Int32) (y1 y2 : Int32), d < n → UWi F R G S q y1 y2 → UTw F R 10 → G 4 = G0 4 → q ≤ 10 * i → ∃ F' R', K_X7_findWet_r9_7 n F R (nI i) = (F', R') ∧ (K_X11_wasWet_25 G0 a0 (l + 1 + 10 * d) G S y1 y2 (nI (10 * i))).1 = if a0 = 0 then F' 568 else if F' 568 = 0 then -2 else if a0 = 1 then F' 566 else F' 567 := by
  intro d
  induction d with
  | zero =>
    intro i hi n l q F R G S y1 y2 hn hI hL h4 hq
    obtain ⟨n, rfl⟩ : ∃ n', n = n' + 1 := ⟨n - 1, by omega⟩
    obtain rfl : i = 10 := by omega
    refine ⟨F, R, ?_, ?_⟩
    · rw [ks_X7_findWet_r9_7]
      unfold KB_X7_findWet_r9_7
      rw [if_pos ub_10e]
    · obtain ⟨hU, hT, k1, k2, k3⟩ := hI
      rw [show l + 1 + 10 * 0 = l + 1 by omega, ks_X11_wasWet_25]
      unfold KB_X11_wasWet_25 K_X11_wasWet_159
      rw [if_pos (show (100 : Int32) ≤ nI (10 * 10) from nI_le (a := 100) (by omega) (by omega))]
      simp only [k_e]
      rcases k3 with ⟨p1, p2⟩ | ⟨p1, c, p2, p3, p4, p5⟩
      · have z0 : F 568 = 0 := by rw [k1, p1]; rfl
        by_cases z : a0 = 0
        · rw [if_pos z, if_pos z, k1, k2]
        · rw [if_neg z, if_neg z, if_pos p2, if_pos z0]
      · have z0 : ¬ F 568 = 0 := by rw [k1]; exact nI_ne0 (by omega) (by omega)
        have e2 : ¬ y2 = -1 := by rw [p3]; exact n_m1 (by omega)
        have ed : y2 / 10 = nI (c / 10) := by rw [p3]; exact pk_div (a := c) (d := 10) (by omega) (by omega) (by omega)
        have er : y2 - y2 / 10 * 10 = nI (c % 10) := by rw [p3]; exact pk_rem (a := c) (d := 10) (by omega) (by omega) (by omega)
        by_cases z : a0 = 0
        · rw [if_pos z, if_pos z, k1, k2]
        · rw [if_neg z, if_neg z, if_neg e2, if_neg z0]
          by_cases z1 : a0 = 1
          · rw [if_pos z1, if_pos z1, p4]
            exact ed
          · rw [if_neg z1, if_neg z1, p5]
            exact er
  | succ d ih =>
    intro i hi n l q F R G S y1 y2 hn hI hL h4 hq
    obtain ⟨n, rfl⟩ : ∃ n', n = n' + 1 := ⟨n - 1, by omega⟩
    have hi9 : i < 10 := by omega
    obtain ⟨l1, l2, l3, l4, l5, l6, l7, l8, l9⟩ := id hL
    have hLi : UTw F R i := ⟨l1, l2, l3, l4, l5, l6, l7, fun k hk _ => l8 k hk (by omega), l9⟩
    have eT : sp_X8_side_5 F R (nI i) 5 = R 2 (8 * i + 5) := by rw [us_side (s := 5) (x := 5) hi9 (by omega) rfl, l8 _ (by omega) (by omega)]
    have e83 : F 83 = G0 4 := by rw [l4, ← h4]; exact hI.1.1.2.2.2.2.1
    have e19 : F 19 = G0 4 := l4.symm.trans e83
    have eC : K_X7_findWet_r9_7 (n + 1) F R (nI i) = K_X7_findWet_r9_26 (K_X7_findWet_r9_7 n) (R 2 (8 * i + 5)) (nI i) 8589934592 F R 0 := by
      rw [ks_X7_findWet_r9_7]
      unfold KB_X7_findWet_r9_7
      rw [if_neg (ub_10 hi9), k_e, eT]
    -- laid back: what a thing was told
    have back : ∀ (F' : Nat → Int32) (R' : Nat → Nat → Int32), UTw F' R' i → ∃ R2, K_X7_findWet_r9_82 (K_X7_findWet_r9_7 n) F' R' (R' 2 (8 * i + 5)) (nI i) = K_X7_findWet_r9_7 n F' R2 (nI (i + 1)) ∧ UTw F' R2 10 ∧ ∀ c, c ≠ 6 → R2 c = R' c := by
      intro F' R' hW
      obtain ⟨w1, w2, w3, w4, w5, w6, w7, w8, w9⟩ := hW
      refine ⟨g_u R' 6 (upd (R' 6) (8 * i + 5) (R' 2 (8 * i + 5))), ?_, ⟨w1, w2, w3, w4, w5, w6, w7, fun k hk _ => ?_, fun k hk => ?_⟩, fun c hc => by rw [ug, if_neg hc]⟩
      · unfold K_X7_findWet_r9_82
        rw [ux_change5 (s := 5) (x := 5) hi9 (by omega) rfl, k_t2, k_e, nI_1]
      · rw [g_uus, uu, ug, if_neg (show ¬ 2 = 6 by decide)]
        by_cases z : k = 8 * i + 5
        · rw [if_pos z, z]
        · rw [if_neg z]
          exact w8 k hk z
      · rw [ug, if_neg (by decide), ug, if_neg (by decide)]
        exact w9 k hk
    rw [eC]
    by_cases q0 : hb (G0 4) (nI i)
    · have tS : R 2 (8 * i + 5) = S 6 i := hI.1.1.2.2.2.2.2.2.1 i hi9 (by rw [e19]; exact q0) 5 (by omega)
      obtain ⟨F', R', G', S', q', z1, z2, x1, x2, x3, x4, x5, x6, x7⟩ := wet_in (G0 := G0) a0 hi9 (told := R 2 (8 * i + 5)) 10 0 (by omega) 8589934592 (l + 1 + 10 * d) q F R G S y1 y2 (K_X7_findWet_r9_7 n) (by omega) hI hLi h4 (by omega) q0 tS rfl
      have x1 : K_X7_findWet_r9_26 (K_X7_findWet_r9_7 n) (R 2 (8 * i + 5)) (nI i) 8589934592 F R 0 = _ := x1
      rw [x1, x7]
      obtain ⟨R2, y3, y4, y5⟩ := back F' R' x4
      rw [y3, show l + 1 + 10 * (d + 1) = l + 1 + 10 * d + 10 by omega, show 10 * i = 10 * i + 0 by omega, x2]
      obtain ⟨u1, u2, u3⟩ := x3
      exact ih (i + 1) (by omega) n l q' F' R2 G' S' z1 z2 (by omega) ⟨UR0_e u1 (fun _ _ => rfl) (fun _ _ => rfl) (fun c hc => y5 c (by unfold cR0 cR at hc; omega)) (fun _ _ => rfl), fun j hj ht => by rw [y5 10 (by omega)]; exact u2 j hj ht, u3⟩ y4 x5 x6
    · have hh : sp_X8_has_5 F R (nI i) = 0 := by
        unfold sp_X8_has_5 K_X8_has_5_25 K_X8_has_5_26
        simp only [k_e]
        rw [ug_i9 hi9, if_neg (by decide), e83, if_pos ((ub_test hi9).mpr q0)]
      have x1 : K_X7_findWet_r9_26 (K_X7_findWet_r9_7 n) (R 2 (8 * i + 5)) (nI i) 8589934592 F R 0 = K_X7_findWet_r9_82 (K_X7_findWet_r9_7 n) F R (R 2 (8 * i + 5)) (nI i) := by
        rw [show (8589934592 : Nat) = 8589934591 + 1 from rfl, ks_X7_findWet_r9_26]
        unfold KB_X7_findWet_r9_26
        rw [if_neg (show ¬ (9 : Int32) < 0 by decide), k_e, hh, if_pos rfl]
      obtain ⟨R2, y3, y4, y5⟩ := back F R hLi
      rw [x1, y3, show l + 1 + 10 * (d + 1) = l + 1 + 10 * d + 10 by omega, show 10 * i = 10 * i + 0 by omega, wet_skip a0 hi9 q0 10 0 (by omega)]
      obtain ⟨u1, u2, u3⟩ := hI
      exact ih (i + 1) (by omega) n l q F R2 G S y1 y2 (by omega) ⟨UR0_e u1 (fun _ _ => rfl) (fun _ _ => rfl) (fun c hc => y5 c (by unfold cR0 cR at hc; omega)) (fun _ _ => rfl), fun j hj ht => by rw [y5 10 (by omega)]; exact u2 j hj ht, u3⟩ y4 h4 (by omega)
theorem an2_wasWet (h : URel2 F R G S) (a0 : Int32) : UAns URel2 (sp_X10_wasWet F R a0) (sp_X11_wasWet G S a0) := by
  refine ⟨?_, f22_wasWet h a0⟩
  obtain ⟨h1, h2, h3⟩ := can_eq h.1
  by_cases q : g_in a0 0 2 = 0
  · have eC : sp_X10_wasWet F R a0 = (-1, F, R) := by
      unfold sp_X10_wasWet K_X10_wasWet_16
      rw [k_e, if_pos q]
    have eM : sp_X11_wasWet G S a0 = (-1, G, S) := by
      unfold sp_X11_wasWet K_X11_wasWet_16
      rw [k_e, if_pos q]
    simp only [eC, eM]
  by_cases q2 : (sp_X11_takesPlaces G S).1 = 0
  · have eC : sp_X10_wasWet F R a0 = (-1, F, R) := by
      unfold sp_X10_wasWet K_X10_wasWet_16
      rw [k_e, if_neg q, k_e, if_pos (h1.mpr q2)]
    have eM : sp_X11_wasWet G S a0 = (-1, G, S) := by
      unfold sp_X11_wasWet K_X11_wasWet_16
      rw [k_e, if_neg q, h2 q2, k_t3, if_pos rfl]
    simp only [eC, eM]
  obtain ⟨S', e1, e2, e3⟩ := takes_eq h.1 q2
  obtain ⟨F1, R1, v1, v2, v3, v4, v5, v6⟩ := lay_rel h.1
  obtain ⟨x1, x2, x3, x4, x5, x6, x7, x8, x9⟩ := v4
  obtain ⟨z1, z2, z3, z4, z5, z6, z7⟩ := v3
  obtain ⟨F', R', w1, w2⟩ := wet_out (G0 := G) a0 10 0 (by omega) 8589934592 8589934491 0 (upd F1 568 0) R1 (upd G 14 0) S' 0 (-1) (by omega) ⟨UR0_e (ur0_of v2) (fun k hk => by rw [uu, if_neg (by unfold cF0 cF at hk; omega)]) (fun k hk => by rw [uu, if_neg (by unfold cG0 at hk; omega)]) (fun _ _ => rfl) (fun c hc => e2 c (by unfold cS0 cS at hc; omega)), fun j hj ht => by
    rw [uu, if_neg (by decide)] at ht
    rw [uu, if_neg (by decide), v6 10 (by omega) (by omega)]
    exact e3 j hj ht, by rw [uu, if_pos rfl]; rfl, rfl, Or.inl ⟨rfl, rfl⟩⟩ (by
    unfold UTw
    simp (decide := true) only [uu, if_false]
    exact ⟨x1, x2, x3, x4, x5, x6, x7, fun k hk _ => z7 k hk, x9⟩) (by rw [uu, if_neg (by decide)]) (by omega)
  have w1 : K_X7_findWet_r9_7 8589934592 (upd F1 568 0) R1 0 = (F', R') := w1
  have w2 : (K_X11_wasWet_25 G a0 8589934592 (upd G 14 0) S' 0 (-1) 0).1 = if a0 = 0 then F' 568 else if F' 568 = 0 then -2 else if a0 = 1 then F' 566 else F' 567 := w2
  have eM : (sp_X11_wasWet G S a0).1 = (K_X11_wasWet_25 G a0 8589934592 (upd G 14 0) S' 0 (-1) 0).1 := by
    unfold sp_X11_wasWet
    rw [k_e, if_neg q, e1, k_t3, if_neg (by decide)]
  have eP : sp_X7_findWet_r9 F1 R1 = (F', R') := by
    unfold sp_X7_findWet_r9
    rw [k_e]
    exact w1
  rw [eM, w2]
  unfold sp_X10_wasWet K_X10_wasWet_99
  rw [k_e, if_neg q, k_e, if_neg (fun z => q2 (h1.mp z)), v1, k_t2, eP, k_t2, k_e]
  by_cases z : a0 = 0
  · rw [if_pos z, if_pos z]
  · rw [if_neg z, if_neg z]
    by_cases y : F' 568 = 0
    · rw [if_pos y, if_pos y]
    · rw [if_neg y, if_neg y]
      by_cases z1 : a0 = 1
      · rw [if_pos z1, if_pos z1]
      · rw [if_neg z1, if_neg z1]
end UWW
