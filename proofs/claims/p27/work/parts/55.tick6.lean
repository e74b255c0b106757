/-! ===== a whole tick ===== -/
theorem loop48 {G0 : Nat → Int32} {S0 : Nat → Nat → Int32} : ∀ d i, i + d = 10 → ∀ (k : Nat) (G1 : Nat → Int32) (S1 : Nat → Nat → Int32) (y1 : Int32), d < k → (∀ k, k ≠ 69 → G1 k = G0 k) → (∀ c, c ≠ 36 → S1 c = S0 c) → (∀ j, j < 10 → (hb y1 (nI j) ↔ j < i ∧ hb (G0 42) (nI j) ∧ S0 28 j = 0)) → (∀ j, j < i → hb y1 (nI j) → S1 36 j = S0 26 j ∧ (hb (G1 69) (nI j) ↔ ¬ G0 48 ≤ S0 26 j)) → (∀ j, i ≤ j → j < 10 → ¬ hb (G1 69) (nI j)) → ∃ G2 S2 y, K_X11_ticks_48 k G1 S1 y1 (nI i) = K_X11_ticks_116 y 8589934592 G2 S2 0 ∧ (∀ k, k ≠ 69 → G2 k = G0 k) ∧ (∀ c, c ≠ 36 → S2 c = S0 c) ∧ (∀ j, j < 10 → (hb y (nI j) ↔ hb (G0 42) (nI j) ∧ S0 28 j = 0)) ∧ (∀ j, j < 10 → hb y (nI j) → S2 36 j = S0 26 j ∧ (hb (G2 69) (nI j) ↔ ¬ G0 48 ≤ S0 26 j)) := by
  intro d
  induction d with
  | zero =>
    intro i hi k G1 S1 y1 hk c1 c2 c3 c4 c5
    obtain ⟨k, rfl⟩ : ∃ n', k = n' + 1 := ⟨k - 1, by omega⟩
    obtain rfl : i = 10 := by omega
    rw [ks_X11_ticks_48]
    unfold KB_X11_ticks_48
    rw [if_pos ub_10e]
    exact ⟨G1, S1, y1, rfl, c1, c2, fun j hj => ⟨fun h => ((c3 j hj).mp h).2, fun h => (c3 j hj).mpr ⟨hj, h⟩⟩, c4⟩
  | succ d ih =>
    intro i hi k G1 S1 y1 hk c1 c2 c3 c4 c5
    obtain ⟨k, rfl⟩ : ∃ n', k = n' + 1 := ⟨k - 1, by omega⟩
    have hi9 : i < 10 := by omega
    rw [ks_X11_ticks_48]
    unfold KB_X11_ticks_48 K_X11_ticks_108
    rw [if_neg (ub_10 hi9)]
    simp only [k_e, nI_1, nI_clamp (show i < 2 ^ 31 by omega)]
    have e42 : G1 42 = G0 42 := c1 42 (by omega)
    have e28 : S1 28 = S0 28 := c2 28 (by omega)
    have sm := st_model (G := G1) (S := S1) hi9
    rw [e42, e28] at sm
    by_cases q : hb (G0 42) (nI i) ∧ S0 28 i = 0
    · rw [if_neg (sm.mpr q), g_uun (show (36 != 26) = true from rfl), c1 48 (by omega), c2 26 (by omega)]
      have go : ∀ Gn : Nat → Int32, (∀ k, k ≠ 69 → Gn k = G0 k) → (∀ j, j < 10 → j ≠ i → (hb (Gn 69) (nI j) ↔ hb (G1 69) (nI j))) → (hb (Gn 69) (nI i) ↔ ¬ G0 48 ≤ S0 26 i) → ∃ G2 S2 y, K_X11_ticks_48 k Gn (g_u S1 36 (upd (S1 36) i (S0 26 i))) (y1 ||| 1 <<< (nI i &&& 31)) (nI (i + 1)) = K_X11_ticks_116 y 8589934592 G2 S2 0 ∧ (∀ k, k ≠ 69 → G2 k = G0 k) ∧ (∀ c, c ≠ 36 → S2 c = S0 c) ∧ (∀ j, j < 10 → (hb y (nI j) ↔ hb (G0 42) (nI j) ∧ S0 28 j = 0)) ∧ (∀ j, j < 10 → hb y (nI j) → S2 36 j = S0 26 j ∧ (hb (G2 69) (nI j) ↔ ¬ G0 48 ≤ S0 26 j)) := by
        intro Gn n1 n2 n3
        refine ih (i + 1) (by omega) k Gn _ _ (by omega) n1 (fun c hc => ?_) (fun j hj => ?_) (fun j hj h => ?_) (fun j h1 h2 h3 => ?_)
        · rw [g_uun (by rw [bne_iff_ne]; exact fun e => hc e.symm)]
          exact c2 c hc
        · rw [ub_or hj, ub_bit hi9 hj, c3 j hj]
          constructor
          · intro w
            rcases w with w | w
            · exact ⟨by omega, w.2⟩
            · rw [w]; exact ⟨by omega, q⟩
          · intro w
            by_cases q2 : j = i
            · exact Or.inr q2
            · exact Or.inl ⟨by omega, w.2⟩
        · rw [g_uus]
          by_cases q2 : j = i
          · subst q2
            rw [g_us]
            exact ⟨rfl, n3⟩
          · rw [g_un (by rw [bne_iff_ne]; exact fun e => q2 e.symm), n2 j (by omega) q2]
            rw [ub_or (by omega), ub_bit hi9 (by omega)] at h
            rcases h with w | w
            · exact c4 j (by omega) w
            · exact absurd w q2
        · exact c5 j (by omega) h2 ((n2 j h2 (by omega)).mp h3)
      by_cases z : G0 48 ≤ S0 26 i
      · rw [if_pos z]
        exact go G1 c1 (fun _ _ _ => Iff.rfl) ⟨fun w => absurd w (c5 i (Nat.le_refl _) hi9), fun w => absurd z w⟩
      · rw [if_neg z]
        refine go _ (fun k hk => ?_) (fun j hj hji => ?_) ?_
        · rw [g_un (by rw [bne_iff_ne]; exact fun e => hk e.symm)]
          exact c1 k hk
        · rw [g_us, ub_or hj, ub_bit hi9 hj]
          exact ⟨fun w => w.elim id (fun w => absurd w hji), Or.inl⟩
        · rw [g_us, ub_or hi9, ub_bit hi9 hi9]
          exact ⟨fun _ => z, fun _ => Or.inr rfl⟩
    · have z : sp_X11_stands G1 S1 (nI i) = 0 := by
        by_cases z : sp_X11_stands G1 S1 (nI i) = 0
        · exact z
        · exact absurd (sm.mp z) q
      rw [if_pos z]
      refine ih (i + 1) (by omega) k G1 S1 y1 (by omega) c1 c2 (fun j hj => ?_) (fun j hj h => ?_) (fun j h1 h2 => c5 j (by omega) h2)
      · rw [c3 j hj]
        constructor
        · intro w; exact ⟨by omega, w.2⟩
        · intro w
          by_cases q2 : j = i
          · rw [q2] at w; exact absurd w.2 q
          · exact ⟨by omega, w.2⟩
      · by_cases q2 : j = i
        · rw [q2] at h
          exact absurd ((c3 i hi9).mp h).2 q
        · exact c4 j (by omega) h
theorem tick_rel {F G : Nat → Int32} {R S : Nat → Nat → Int32} {t : Nat} (ht : t < 300) (h : UEnd t (F, R) (G, S)) : UEnd (t + 1) (sp_X0_tick F R (nI t)) (sp_X11_ticks G S) := by
  obtain ⟨hc, hh, e695, e603, e45, hl⟩ := h
  have hc : UCore F R G S := hc
  have hh : UHand F G := hh
  have e695 : F 695 = G 66 := e695
  have e603 : F 603 = G 46 := e603
  have e45 : G 45 = nI t := e45
  have hl : ∀ j, j < 10 → hb (F 691) (nI j) → ULed R S 0 0 j := hl
  obtain ⟨s1, s2, s3, s4, s5, s6, s7, s8⟩ := hc.1
  obtain ⟨p1, p2⟩ := pace_rel ht e45 s3 s4 s5
  obtain ⟨v, G', S', F', R', o1, o2, o3, o4, o5, o6, o7, o8, o9, o10, o11⟩ := slip_rel ht hc.1 e45 hh
  have hq : jv 0 40 (if 0 < sp_X11_paceNow G S - v then sp_X11_paceNow G S - v else 0) := by
    have I := (jv_sub (x := sp_X11_paceNow G S) (y := v) (z := sp_X11_paceNow G S - v) (-40) 40 rfl p2 o11 (by omega)).2
    exact jv_max (x := 0) (y := sp_X11_paceNow G S - v) 0 40 rfl (a := 0) (b := 0) ⟨by decide, by decide⟩ I (by omega)
  have ep : ∀ k, k ≠ 3 → k ≠ 50 → G' k = G k := o9
  have ec : sp_X0_tick F R (nI t) = k_lt2 (K_X0_pullCloth_98 (sp_X11_paceNow G S) F' R' v) (fun F5 R6 => k_lt (upd F5 605 0) (fun F8 => k_lt (upd F8 606 0) (fun F10 => k_lt (sp_X4_standingSet F10 R6) (fun r12 => K_X0_tick_25 r12 8589934592 F10 R6 0)))) := by
    unfold sp_X0_tick
    rw [o2]
  have er : sp_X11_ticks G S = K_X11_ticks_48 8589934592 (upd (upd (upd (upd G' 47 (if 0 < sp_X11_paceNow G S - v then sp_X11_paceNow G S - v else 0)) 48 (if 0 < G 48 - (if 0 < sp_X11_paceNow G S - v then sp_X11_paceNow G S - v else 0) then G 48 - (if 0 < sp_X11_paceNow G S - v then sp_X11_paceNow G S - v else 0) else 0)) 69 0) 68 0) S' 0 0 := by
    unfold sp_X11_ticks
    rw [k_e, o1, k_t3]
    simp only [k_e, um_max]
  rw [ec, er]
  unfold K_X0_pullCloth_98
  simp only [k_e, k_t2]
  generalize (if 0 < sp_X11_paceNow G S - v then sp_X11_paceNow G S - v else 0) = x at hq ⊢
  have f603 : F' 603 = G 46 := by rw [o8 603 (by omega) (by omega)]; exact e603
  have f698 : F' 698 = G 48 := by rw [o8 698 (by omega) (by omega)]; exact hc.2.2.2.1
  rw [f603, f698]
  have hF : ∀ k, k ≠ 603 → k ≠ 604 → k ≠ 605 → k ≠ 606 → k ≠ 698 → (upd (upd (upd (upd (upd F' 604 x) 603 (G 46 + x)) 698 (if 0 < G 48 - x then G 48 - x else 0)) 605 0) 606 0) k = F' k := by
    intro k h1 h2 h3 h4 h5
    rw [g_un (by rw [bne_iff_ne]; exact fun e => h4 e.symm), g_un (by rw [bne_iff_ne]; exact fun e => h3 e.symm), g_un (by rw [bne_iff_ne]; exact fun e => h5 e.symm), g_un (by rw [bne_iff_ne]; exact fun e => h1 e.symm), g_un (by rw [bne_iff_ne]; exact fun e => h2 e.symm)]
  have a603 : (upd (upd (upd (upd (upd F' 604 x) 603 (G 46 + x)) 698 (if 0 < G 48 - x then G 48 - x else 0)) 605 0) 606 0) 603 = G 46 + x := by
    rw [g_un rfl, g_un rfl, g_un rfl, g_us]
  have a604 : (upd (upd (upd (upd (upd F' 604 x) 603 (G 46 + x)) 698 (if 0 < G 48 - x then G 48 - x else 0)) 605 0) 606 0) 604 = x := by
    rw [g_un rfl, g_un rfl, g_un rfl, g_un rfl, g_us]
  have a605 : (upd (upd (upd (upd (upd F' 604 x) 603 (G 46 + x)) 698 (if 0 < G 48 - x then G 48 - x else 0)) 605 0) 606 0) 605 = 0 := by
    rw [g_un rfl, g_us]
  have a606 : (upd (upd (upd (upd (upd F' 604 x) 603 (G 46 + x)) 698 (if 0 < G 48 - x then G 48 - x else 0)) 605 0) 606 0) 606 = 0 := g_us
  have a698 : (upd (upd (upd (upd (upd F' 604 x) 603 (G 46 + x)) 698 (if 0 < G 48 - x then G 48 - x else 0)) 605 0) 606 0) 698 = (if 0 < G 48 - x then G 48 - x else 0) := by
    rw [g_un rfl, g_un rfl, g_us]
  generalize (upd (upd (upd (upd (upd F' 604 x) 603 (G 46 + x)) 698 (if 0 < G 48 - x then G 48 - x else 0)) 605 0) 606 0) = Fc at hF a603 a604 a605 a606 a698 ⊢
  have hG : ∀ k, k ≠ 47 → k ≠ 48 → k ≠ 69 → k ≠ 68 → (upd (upd (upd (upd G' 47 x) 48 (if 0 < G 48 - x then G 48 - x else 0)) 69 0) 68 0) k = G' k := by
    intro k h1 h2 h3 h4
    rw [g_un (by rw [bne_iff_ne]; exact fun e => h4 e.symm), g_un (by rw [bne_iff_ne]; exact fun e => h3 e.symm), g_un (by rw [bne_iff_ne]; exact fun e => h2 e.symm), g_un (by rw [bne_iff_ne]; exact fun e => h1 e.symm)]
  have b47 : (upd (upd (upd (upd G' 47 x) 48 (if 0 < G 48 - x then G 48 - x else 0)) 69 0) 68 0) 47 = x := by
    rw [g_un rfl, g_un rfl, g_un rfl, g_us]
  have b48 : (upd (upd (upd (upd G' 47 x) 48 (if 0 < G 48 - x then G 48 - x else 0)) 69 0) 68 0) 48 = (if 0 < G 48 - x then G 48 - x else 0) := by
    rw [g_un rfl, g_un rfl, g_us]
  have b69 : (upd (upd (upd (upd G' 47 x) 48 (if 0 < G 48 - x then G 48 - x else 0)) 69 0) 68 0) 69 = 0 := by
    rw [g_un rfl, g_us]
  have b68 : (upd (upd (upd (upd G' 47 x) 48 (if 0 < G 48 - x then G 48 - x else 0)) 69 0) 68 0) 68 = 0 := g_us
  generalize (upd (upd (upd (upd G' 47 x) 48 (if 0 < G 48 - x then G 48 - x else 0)) 69 0) 68 0) = Gc at hG b47 b48 b69 b68 ⊢
  have L := loop48 (G0 := Gc) (S0 := S') 10 0 (by omega) 8589934592 Gc S' 0 (by omega) (fun _ _ => rfl) (fun _ _ => rfl) (fun j hj => ⟨fun h => absurd h (hb_0 hj), fun h => absurd h.1 (by omega)⟩) (fun j hj => absurd hj (by omega)) (fun j _ hj => by rw [b69]; exact hb_0 hj)
  rw [nI_0] at L
  obtain ⟨G2, S2, y, l1, l2, l3, l4, l5⟩ := L
  rw [l1]
  have gS : ∀ c, c ≠ 23 → c ≠ 24 → c ≠ 36 → S2 c = S c := fun c h1 h2 h3 => (l3 c h3).trans (o10 c h1 h2)
  have gG : ∀ k, k ≠ 3 → k ≠ 50 → k ≠ 47 → k ≠ 48 → k ≠ 69 → k ≠ 68 → G2 k = G k := fun k h1 h2 h3 h4 h5 h6 => (l2 k h5).trans ((hG k h3 h4 h5 h6).trans (o9 k h1 h2))
  have gF : ∀ k, k ≠ 673 → k ≠ 675 → k ≠ 603 → k ≠ 604 → k ≠ 605 → k ≠ 606 → k ≠ 698 → Fc k = F k := fun k h1 h2 h3 h4 h5 h6 h7 => (hF k h3 h4 h5 h6 h7).trans (o8 k h1 h2)
  have hcore : UCore Fc R' G2 S2 := by
    obtain ⟨h1, h2, h3, h4, h5, h6, h7, h8⟩ := hc
    unfold UCore
    rw [gF 694 (by omega) (by omega) (by omega) (by omega) (by omega) (by omega) (by omega), gF 696 (by omega) (by omega) (by omega) (by omega) (by omega) (by omega) (by omega), gF 692 (by omega) (by omega) (by omega) (by omega) (by omega) (by omega) (by omega), gF 693 (by omega) (by omega) (by omega) (by omega) (by omega) (by omega) (by omega), gF 691 (by omega) (by omega) (by omega) (by omega) (by omega) (by omega) (by omega), gG 65 (by omega) (by omega) (by omega) (by omega) (by omega) (by omega), gG 67 (by omega) (by omega) (by omega) (by omega) (by omega) (by omega), a698, l2 48 (by omega), b48]
    refine ⟨UStat_e h1 (gF _ (by omega) (by omega) (by omega) (by omega) (by omega) (by omega) (by omega)) (gF _ (by omega) (by omega) (by omega) (by omega) (by omega) (by omega) (by omega)) (gF _ (by omega) (by omega) (by omega) (by omega) (by omega) (by omega) (by omega)) (gF _ (by omega) (by omega) (by omega) (by omega) (by omega) (by omega) (by omega)) (gF _ (by omega) (by omega) (by omega) (by omega) (by omega) (by omega) (by omega)) (fun k hk => gG k (by omega) (by omega) (by omega) (by omega) (by omega) (by omega)) (fun c hc => o6 c (by omega) (by omega)) (fun c hc => gS c (by omega) (by omega) (by omega)), h2, h3, rfl, h5, h6, h7, fun j hj hh => ?_⟩
    exact UTh_e (h8 j hj hh) (congrFun (o6 44 (by omega) (by omega)) j) (congrFun (o6 45 (by omega) (by omega)) j) (congrFun (o6 38 (by omega) (by omega)) j) (congrFun (gS 26 (by omega) (by omega) (by omega)) j) (congrFun (gS 27 (by omega) (by omega) (by omega)) j) (congrFun (gS 28 (by omega) (by omega) (by omega)) j) (congrFun (gS 29 (by omega) (by omega) (by omega)) j) Iff.rfl Iff.rfl
  have e691 : Fc 691 = Gc 42 := by
    rw [gF 691 (by omega) (by omega) (by omega) (by omega) (by omega) (by omega) (by omega), hG 42 (by omega) (by omega) (by omega) (by omega), o9 42 (by omega) (by omega)]
    exact hc.1.1
  have e28 : S2 28 = S' 28 := l3 28 (by omega)
  have e26 : S2 26 = S' 26 := l3 26 (by omega)
  have ep2 : sp_X11_paceNow G2 S2 = sp_X11_paceNow G S := by
    unfold sp_X11_paceNow
    rw [gG 44 (by omega) (by omega) (by omega) (by omega) (by omega) (by omega), gG 45 (by omega) (by omega) (by omega) (by omega) (by omega) (by omega), gS 25 (by omega) (by omega) (by omega)]
  have e45' : G2 45 = nI t := (gG 45 (by omega) (by omega) (by omega) (by omega) (by omega) (by omega)).trans e45
  have hyb : ∀ j, j < 10 → (hb y (nI j) ↔ hb (Fc 691) (nI j) ∧ S2 28 j = 0) := fun j hj => by rw [l4 j hj, e691, e28]
  have I := tick_B (F := Fc) (G := G2) (R := R') (S := S2) (t := t) (y := y) (r := sp_X4_standingSet Fc R') (fun j hj => by rw [st_core hcore j hj, hyb j hj]) (by rw [a603, l2 47 (by omega), b47, gG 46 (by omega) (by omega) (by omega) (by omega) (by omega) (by omega)]) (by rw [a604, l2 47 (by omega), b47]) (by rw [a604]; exact hq) e45' (fun j hj h => ((hyb j hj).mp h).1) (fun j hj h1 h2 h3 => h2 ((hyb j hj).mpr ⟨h1, h3⟩)) (fun j hj h => ((hyb j hj).mp h).2) (fun j hj h => by rw [e26]; exact (l5 j hj h).1) (fun j hj h => by rw [e26, l2 48 (by omega)]; exact (l5 j hj h).2) a606 ((l2 68 (by omega)).trans b68) (fun j hj h => by
    rw [gF 691 (by omega) (by omega) (by omega) (by omega) (by omega) (by omega) (by omega)] at h
    exact ULed_e hj (hl j hj h) (fun b _ => congrFun (o6 46 (by omega) (by omega)) _) (fun c a1 a2 => congrFun (gS c (by omega) (by omega) (by omega)) j)) 10 0 (by omega) 8589934592 8589934592 Fc G2 R' S2 (by omega) (by omega) hcore (UHand_e o7 (fun k h1 h2 => hF k (by omega) (by omega) (by omega) (by omega) (by omega)) (fun k hk => (l2 k (by omega)).trans (hG k (by omega) (by omega) (by omega) (by omega)))) (by rw [gF 695 (by omega) (by omega) (by omega) (by omega) (by omega) (by omega) (by omega), gG 66 (by omega) (by omega) (by omega) (by omega) (by omega) (by omega)]; exact e695) (fun _ _ _ _ _ => rfl) (fun _ _ _ => rfl) (fun _ _ _ _ _ => rfl) (fun _ _ _ _ _ _ => rfl) ⟨by rw [o3, e45'], by rw [o4, ep2], o5⟩ (fun _ _ _ => rfl) (fun j hj => absurd hj (by omega)) (fun j _ hj => by rw [a605]; exact hb_0 hj)
  rw [nI_0] at I
  exact I
