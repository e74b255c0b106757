/-! ===== a tick: the slide ===== -/
theorem tick_C {F G : Nat → Int32} {R S : Nat → Nat → Int32} {t : Nat} {y r : Int32} (hr : ∀ j, j < 10 → (hb r (nI j) ↔ hb y (nI j) ∧ S 28 j = 0)) (e603 : F 603 = G 46 + G 47) (e45 : G 45 = nI t) (hy : ∀ j, j < 10 → hb y (nI j) → hb (F 691) (nI j)) (hny : ∀ j, j < 10 → hb (F 691) (nI j) → ¬ hb y (nI j) → ¬ S 28 j = 0) (hy01 : ∀ j, j < 10 → hb y (nI j) → S 28 j = 0 ∨ S 28 j = 1) (h36 : ∀ j, j < 10 → hb y (nI j) → S 36 j = S 26 j) (h5 : ∀ j, j < 10 → hb y (nI j) → (hb (F 605) (nI j) ↔ hb (G 69) (nI j))) (e606 : F 606 = 0) (g68 : G 68 = 0) : ∀ d i, i + d = 10 → ∀ (k l : Nat) (F1 : Nat → Int32) (R1 S1 : Nat → Nat → Int32), d < k → d < l → UCore F1 R1 G S1 → UHand F1 G → F1 695 = G 66 → (∀ k, k ≠ 693 → F1 k = F k) → (∀ c, c ≠ 39 → c ≠ 44 → c ≠ 46 → R1 c = R c) → (∀ c, c ≠ 26 → c ≠ 28 → S1 c = S c) → (∀ j, j < 10 → (¬ hb r (nI j) ∨ i ≤ j) → S1 28 j = S 28 j ∧ S1 26 j = S 26 j) → (∀ j, j < i → hb r (nI j) → R1 39 j = S 36 j ∧ (S1 28 j = 0 ∨ S1 28 j = 2)) → (∀ j, j < 10 → hb (F 691) (nI j) → (i ≤ j → ULed R1 S1 0 0 j) ∧ (j < i → UPend R1 G S1 y j)) → UEnd (t + 1) (K_X0_tick_85 r k F1 R1 (nI i)) (K_X11_ticks_143 y l G S1 (nI i)) := by
  intro d
  induction d with
  | zero =>
    intro i hi k l F1 R1 S1 hk hl c1 c2 c3 c4 c5 c6 c7 c8 c9
    obtain ⟨k, rfl⟩ : ∃ n', k = n' + 1 := ⟨k - 1, by omega⟩
    obtain ⟨l, rfl⟩ : ∃ n', l = n' + 1 := ⟨l - 1, by omega⟩
    obtain rfl : i = 10 := by omega
    rw [ks_X0_tick_85, ks_X11_ticks_143]
    unfold KB_X0_tick_85 KB_X11_ticks_143
    rw [if_pos ub_10e, if_pos ub_10e]
    have e691 : F1 691 = F 691 := c4 691 (by omega)
    have hs : ∀ j, j < 10 → (hb (sp_X4_standingSet (upd F1 602 0) R1) (nI j) ↔ hb (F 691) (nI j) ∧ S1 28 j = 0) := by
      intro j hj
      have e : sp_X4_standingSet (upd F1 602 0) R1 = sp_X4_standingSet F1 R1 := by
        unfold sp_X4_standingSet
        rw [g_un rfl, g_un rfl, g_un rfl]
      rw [e, st_core c1 j hj, e691]
    have O := order_rel (F := F1) (G := G) (R := R1) (S := S1) rfl (fun j hj => by rw [hs j hj, st_model hj, ← c1.1.1, e691]) (fun j hj h => (c1.2.2.2.2.2.2.2 j hj (by rw [e691]; exact ((hs j hj).mp h).1)).1)
    have f1 := fr_sp_X0_lineUp F1 R1
    have f2 := fr_sp_X11_laysOrder G S1
    generalize sp_X0_lineUp F1 R1 = p at O f1
    generalize sp_X11_laysOrder G S1 = q at O f2
    generalize hs0 : sp_X4_standingSet (upd F1 602 0) R1 = s at O hs
    obtain ⟨F2, R2⟩ := p
    obtain ⟨r54, G2, S2⟩ := q
    obtain ⟨n, hn, o1, o2, o3⟩ := O
    obtain rfl : G2 = G := funext (fun k => f2.1 k rfl)
    have gF : ∀ k, k ≠ 602 → F2 k = F1 k := fun k hk => f1.1 k (by simp [md_X0_lineUp]; exact hk)
    have gR : ∀ c, c ≠ 40 → R2 c = R1 c := fun c hc => f1.2 c (by simp [mr_X0_lineUp]; exact hc)
    have gS : ∀ c, c ≠ 37 → S2 c = S1 c := fun c hc => f2.2 c (by simp [mr_X11_laysOrder]; exact hc)
    rw [k_t2, k_t3]
    have o2 : r54 = nI n := o2
    have o1 : F2 602 = nI n := o1
    have o3 : ULn (R2 40) (S2 37) (fun j => hb s (nI j) ∧ j < 10) n n := o3
    rw [o2]
    have sr : ∀ j, j < 10 → hb s (nI j) → hb r (nI j) := by
      intro j hj h
      have z := (hs j hj).mp h
      by_cases q : hb r (nI j)
      · exact q
      · have e := (c7 j hj (Or.inl q)).1
        rw [e] at z
        by_cases q2 : hb y (nI j)
        · exact (hr j hj).mpr ⟨q2, z.2⟩
        · exact absurd z.2 (hny j hj z.1 q2)
    have I := tick_D (F := F2) (G := G2) (R := R2) (S := S2) (t := t) (n := n) (y := y) (s := s) (fun j hj => by rw [hs j hj, gF 691 (by omega), e691, gS 28 (by omega)]) (by rw [gF 603 (by omega), c4 603 (by omega)]; exact e603) e45 (fun j hj h => by rw [gF 691 (by omega), e691]; exact hy j hj h) (fun j hj h => ((hr j hj).mp (sr j hj h)).1) (fun j hj h => by rw [gF 605 (by omega), c4 605 (by omega)]; exact h5 j hj h) (fun j hj h => by
      rw [gR 39 (by omega), gS 36 (by omega), c6 36 (by omega) (by omega)]
      exact (c8 j hj (sr j hj h)).1) (fun j hj h h1 => by
      rw [gS 28 (by omega)] at h1
      have nr : ¬ hb r (nI j) := by
        intro z
        rcases (c8 j hj z).2 with e | e
        · exact absurd (e.symm.trans h1) (by decide)
        · exact absurd (e.symm.trans h1) (by decide)
      rw [gS 36 (by omega), gS 26 (by omega), c6 36 (by omega) (by omega), (c7 j hj (Or.inl nr)).2]
      exact h36 j hj h) (fun j hj h => by
      rw [gF 691 (by omega), e691] at h
      have P := (c9 j hj h).2 hj
      unfold UPend at P ⊢
      rw [gS 28 (by omega), gS 36 (by omega), gS 26 (by omega)]
      exact ULed_e hj P (fun b _ => congrFun (gR 46 (by omega)) _) (fun c a1 a2 => congrFun (gS c (by omega)) j)) hn o1 o3 (fun j hj => by rw [g68]; exact hb_0 hj) (n + 1) 0 (by omega) 8589934592 8589934592 F2 G2 R2 S2 (by omega) (by omega) (UCore_e c1 (fun k hk => gF k (by omega)) (fun _ _ => rfl) (fun c hc => gR c (by omega)) (fun c hc => gS c (by omega))) (UHand_e c2 (fun k h1 h2 => gF k (by omega)) (fun _ _ => rfl)) (by rw [gF 695 (by omega)]; exact c3) (by rw [gF 606 (by omega), c4 606 (by omega), e606, g68]) (fun j hj h => by rw [g68] at h; exact absurd h (hb_0 hj)) (fun _ _ => rfl) (fun _ _ => rfl) (fun _ _ _ => rfl) (fun _ _ _ => rfl) (fun _ _ _ => rfl)
    rw [nI_0] at I
    exact I
  | succ d ih =>
    intro i hi k l F1 R1 S1 hk hl c1 c2 c3 c4 c5 c6 c7 c8 c9
    obtain ⟨k, rfl⟩ : ∃ n', k = n' + 1 := ⟨k - 1, by omega⟩
    obtain ⟨l, rfl⟩ : ∃ n', l = n' + 1 := ⟨l - 1, by omega⟩
    have hi9 : i < 10 := by omega
    have e691 : F1 691 = F 691 := c4 691 (by omega)
    obtain ⟨e28, e26⟩ := c7 i hi9 (Or.inr (Nat.le_refl _))
    rw [ks_X0_tick_85, ks_X11_ticks_143]
    unfold KB_X0_tick_85 KB_X11_ticks_143 K_X0_tick_104 K_X11_ticks_171
    rw [if_neg (ub_10 hi9), if_neg (ub_10 hi9)]
    simp only [k_e, nI_1, nI_clamp (show i < 2 ^ 31 by omega)]
    by_cases q : hb r (nI i)
    · obtain ⟨qy, q0⟩ := (hr i hi9).mp q
      rw [if_neg (fun e => (ub_test hi9).mp e q), if_neg (fun e => ub_hasv0.mp e qy), if_pos (e28.trans q0)]
      obtain ⟨F2, R2, eX, x1, x2, x3, x4, x5, x6⟩ := ux_slide (F := F1) (R := R1) hi9
      obtain ⟨S2, eM, m1, m2, m3, m4⟩ := um_goes (G := G) (S := S1) hi9
      have frX := fr_sp_X0_slide F1 R1 (nI i)
      have frM := fr_sp_X11_goes G S1 (nI i)
      rw [eX] at frX
      rw [eM] at frM
      rw [eX, eM, k_t2, k_t2]
      have gF : ∀ k, k ≠ 693 → F2 k = F1 k := fun k hk => frX.1 k (by simp [md_X0_slide]; exact hk)
      have gR : ∀ c, c ≠ 39 → c ≠ 44 → c ≠ 46 → R2 c = R1 c := fun c h1 h2 h3 => frX.2 c (by simp [mr_X0_slide]; exact ⟨h1, h2, h3⟩)
      have gS : ∀ c, c ≠ 26 → c ≠ 28 → S2 c = S1 c := fun c h1 h2 => frM.2 c (by simp [mr_X11_goes]; exact ⟨h1, h2⟩)
      have ht := hy i hi9 qy
      obtain ⟨t1, t2, t3, t4, t5, t6, t7⟩ := c1.2.2.2.2.2.2.2 i hi9 (by rw [e691]; exact ht)
      rw [t1, t4] at x1 x4
      have x6 : ∀ m, R2 46 m = if 0 ≤ S1 26 i - S1 27 i then R1 46 m else if m = 10 * uby F1 i + i then R1 46 m + (S1 26 i - (S1 26 i - S1 27 i)) else R1 46 m := by
        intro m
        rw [x6 m, t1, t4]
      have eu : uby F1 i = mby G i := by_eq hi9 (by rw [c4 606 (by omega), e606, g68]) (by rw [c4 605 (by omega)]; exact h5 i hi9 qy)
      rw [eu] at x6
      have hm3 : mby G i < 3 := by rw [← eu]; exact uby_lt F1 i
      have other : ∀ j, j < 10 → j ≠ i → ∀ {k e}, ULed R1 S1 k e j → ULed R2 S2 k e j := by
        intro j hj hji k e h
        refine ULed_e hj h (fun b hb1 => ?_) (fun c a1 a2 => congrFun (gS c (by omega) (by omega)) j)
        rw [x6]
        by_cases z : 0 ≤ S1 26 i - S1 27 i
        · rw [if_pos z]
        · rw [if_neg z, if_neg (fun e => hji (by omega))]
      have z0 : S1 28 i = 0 := e28.trans q0
      refine ih (i + 1) (by omega) k l F2 R2 S2 (by omega) (by omega) ?_ ?_ ?_ ?_ ?_ ?_ ?_ ?_ ?_
      · obtain ⟨h1, h2, h3, h4, h5, h6, h7, h8⟩ := c1
        have b693 : ∀ j, j < 10 → j ≠ i → (hb (F2 693) (nI j) ↔ hb (F1 693) (nI j)) := by
          intro j hj hji
          rw [x1]
          by_cases z : 0 ≤ S1 26 i - S1 27 i
          · rw [if_pos z]
          · rw [if_neg z, ub_or hj, ub_bit hi9 hj]
            exact ⟨fun w => w.elim id (fun w => absurd w hji), Or.inl⟩
        unfold UCore
        rw [gF 694 (by omega), gF 696 (by omega), gF 698 (by omega), gF 692 (by omega), gF 691 (by omega)]
        refine ⟨UStat_e h1 (gF _ (by omega)) (gF _ (by omega)) (gF _ (by omega)) (gF _ (by omega)) (gF _ (by omega)) (fun k hk => rfl) (fun c hc => gR c (by omega) (by omega) (by omega)) (fun c hc => gS c (by omega) (by omega)), h2, h3, h4, h5, ?_, fun j hj hh => ⟨(h7 j hj hh).1, ?_⟩, fun j hj hh => ?_⟩
        · rw [x1]
          by_cases z : 0 ≤ S1 26 i - S1 27 i
          · rw [if_pos z]; exact h6
          · rw [if_neg z]; exact ub_or_rng h6 hi9
        · by_cases q2 : j = i
          · rw [e691, q2] at hh
            exact absurd ht hh
          · rw [b693 j hj q2]
            exact (h7 j hj hh).2
        · by_cases q2 : j = i
          · subst q2
            unfold UTh
            rw [x4, m1, gR 45 (by omega) (by omega) (by omega), gR 38 (by omega) (by omega) (by omega), gS 29 (by omega) (by omega), gS 27 (by omega) (by omega), m3, x1]
            have n2 : ¬ hb (F1 692) (nI j) := fun w => absurd (z0.symm.trans (t6.mp w)) (by decide)
            by_cases z : 0 ≤ S1 26 j - S1 27 j
            · rw [if_pos z, if_pos z]
              exact ⟨rfl, t2, t3, t4, t5, t6, t7⟩
            · rw [if_neg z, if_neg z]
              refine ⟨rfl, t2, t3, t4, Or.inr (Or.inr rfl), ⟨fun w => absurd w n2, fun w => absurd w (by decide)⟩, ⟨fun _ => rfl, fun _ => ?_⟩⟩
              rw [ub_or hj, ub_bit hi9 hj]
              exact Or.inr rfl
          · exact UTh_e (h8 j hj hh) (x5 j q2) (congrFun (gR 45 (by omega) (by omega) (by omega)) j) (congrFun (gR 38 (by omega) (by omega) (by omega)) j) (m2 j q2) (congrFun (gS 27 (by omega) (by omega)) j) (m4 j q2) (congrFun (gS 29 (by omega) (by omega)) j) Iff.rfl (b693 j hj q2)
      · exact UHand_e c2 (fun k h1 h2 => gF k (by omega)) (fun _ _ => rfl)
      · rw [gF 695 (by omega)]; exact c3
      · exact fun k hk => (gF k hk).trans (c4 k hk)
      · exact fun c h1 h2 h3 => (gR c h1 h2 h3).trans (c5 c h1 h2 h3)
      · exact fun c h1 h2 => (gS c h1 h2).trans (c6 c h1 h2)
      · intro j hj hz
        have hji : j ≠ i := by
          intro e
          rw [e] at hz
          rcases hz with w | w
          · exact w q
          · omega
        rw [m4 j hji, m2 j hji]
        exact c7 j hj (hz.elim Or.inl (fun w => Or.inr (by omega)))
      · intro j hj hz
        by_cases q2 : j = i
        · subst q2
          rw [x2, m3, t1, e26, h36 j hi9 qy]
          refine ⟨rfl, ?_⟩
          by_cases z : 0 ≤ S 26 j - S1 27 j
          · rw [if_pos z]; exact Or.inl z0
          · rw [if_neg z]; exact Or.inr rfl
        · rw [x3 j q2, m4 j q2]
          exact c8 j (by omega) hz
      · intro j hj ht2
        obtain ⟨p1, p2⟩ := c9 j hj ht2
        by_cases q2 : j = i
        · subst q2
          refine ⟨fun w => absurd w (by omega), fun _ => ?_⟩
          obtain ⟨w1, w2⟩ := p1 (Nat.le_refl _)
          have e0 : ∀ (b : Nat) (x : Int32), (if b = 0 then x + 0 else x) = x := by
            intro b x
            by_cases q : b = 0
            · rw [if_pos q, Int32.add_zero]
            · rw [if_neg q]
          unfold UPend
          rw [m3, m1, gS 36 (by omega) (by omega), c6 36 (by omega) (by omega), h36 j hi9 qy, ← e26]
          refine ⟨by rw [gS 32 (by omega) (by omega), gS 33 (by omega) (by omega), gS 34 (by omega) (by omega), gS 35 (by omega) (by omega)]; exact w1, fun b hb1 => ?_⟩
          rw [x6, gS (33 + b) (by omega) (by omega), w2 b hb1, e0]
          by_cases z : 0 ≤ S1 26 j - S1 27 j
          · have n2 : ¬ (uhb y (nI j) = true ∧ S1 28 j = 2) := fun w => absurd (z0.symm.trans w.2) (by decide)
            rw [if_pos z, if_pos z, if_neg n2, Int32.add_zero]
            split <;> rfl
          · have y2 : uhb y (nI j) = true ∧ (2 : Int32) = 2 := ⟨uhb_t.mpr qy, rfl⟩
            rw [if_neg z, if_neg z, if_pos y2]
            by_cases z2 : b = mby G j
            · rw [if_pos (by omega), if_pos z2]
            · rw [if_neg (by omega), if_neg z2]
        · refine ⟨fun w => other j hj q2 (p1 (by omega)), fun w => ?_⟩
          have P := p2 (by omega)
          unfold UPend at P ⊢
          rw [m4 j q2, m2 j q2, gS 36 (by omega) (by omega)]
          exact other j hj q2 P
    · rw [if_pos ((ub_test hi9).mpr q)]
      have er : (if g_hasv y (nI i) = 0 then K_X11_ticks_143 y l G S1 (nI (i + 1)) else if S1 28 i = 0 then k_lt2 (sp_X11_goes G S1 (nI i)) (fun F157 R158 => K_X11_ticks_143 y l F157 R158 (nI (i + 1))) else K_X11_ticks_143 y l G S1 (nI (i + 1))) = K_X11_ticks_143 y l G S1 (nI (i + 1)) := by
        by_cases qy : hb y (nI i)
        · rw [if_neg (fun e => ub_hasv0.mp e qy), if_neg (fun e => q ((hr i hi9).mpr ⟨qy, e28.symm.trans e⟩))]
        · rw [if_pos (ub_hasv0.mpr qy)]
      rw [er]
      refine ih (i + 1) (by omega) k l F1 R1 S1 (by omega) (by omega) c1 c2 c3 c4 c5 c6 (fun j hj hz => c7 j hj (hz.elim Or.inl (fun w => Or.inr (by omega)))) (fun j hj hz => ?_) (fun j hj ht => ?_)
      · by_cases q2 : j = i
        · rw [q2] at hz; exact absurd hz q
        · exact c8 j (by omega) hz
      · obtain ⟨p1, p2⟩ := c9 j hj ht
        refine ⟨fun w => p1 (by omega), fun w => ?_⟩
        by_cases q2 : j = i
        · subst q2
          have n2 : ¬ (uhb y (nI j) = true ∧ S1 28 j = 2) := by
            intro z
            rw [e28] at z
            rcases hy01 j hj (uhb_t.mp z.1) with e | e
            · exact absurd (e.symm.trans z.2) (by decide)
            · exact absurd (e.symm.trans z.2) (by decide)
          unfold UPend
          rw [if_neg n2]
          exact ULed_0.mpr (p1 (Nat.le_refl _))
        · exact p2 (by omega)
