/-! ===== a tick: what the things feel ===== -/
theorem uspill_ge {ch z l : Int32} (hl : 0 ≤ l.toInt) : 0 ≤ (if uspill ch z l = true then l - 1 else l).toInt := by
  by_cases q : uspill ch z l = true
  · rw [if_pos q]
    unfold uspill at q
    have q2 := of_decide_eq_true q
    have h1 := gc_nle q2.2
    have z0 : (0 : Int32).toInt = 0 := rfl
    have I := (jv_sub (x := l) (y := 1) (z := l - 1) (a := 1) (b := 2147483647) (c := 1) (d := 1) 0 2147483646 rfl ⟨by omega, (jv_t l).2⟩ ⟨by decide, by decide⟩ (by omega)).2
    exact I.1
  · rw [if_neg q]; exact hl
def ulist (l : List Int32) (j : Nat) : Int32 := l.getD j 0
theorem tick_B {F G : Nat → Int32} {R S : Nat → Nat → Int32} {t : Nat} {y r : Int32} (hr : ∀ j, j < 10 → (hb r (nI j) ↔ hb y (nI j))) (e603 : F 603 = G 46 + G 47) (e604 : F 604 = G 47) (hq : jv 0 40 (F 604)) (e45 : G 45 = nI t) (hy : ∀ j, j < 10 → hb y (nI j) → hb (F 691) (nI j)) (hny : ∀ j, j < 10 → hb (F 691) (nI j) → ¬ hb y (nI j) → ¬ S 28 j = 0) (hy0 : ∀ j, j < 10 → hb y (nI j) → S 28 j = 0) (h36 : ∀ j, j < 10 → hb y (nI j) → S 36 j = S 26 j) (h69 : ∀ j, j < 10 → hb y (nI j) → (hb (G 69) (nI j) ↔ ¬ G 48 ≤ S 26 j)) (e606 : F 606 = 0) (g68 : G 68 = 0) (hl : ∀ j, j < 10 → hb (F 691) (nI j) → ULed R S 0 0 j) : ∀ d i, i + d = 10 → ∀ (k l : Nat) (F1 G1 : Nat → Int32) (R1 S1 : Nat → Nat → Int32), d < k → d < l → UCore F1 R1 G1 S1 → UHand F1 G1 → F1 695 = G1 66 → (∀ k, k ≠ 605 → k ≠ 692 → k ≠ 694 → k ≠ 696 → F1 k = F k) → (∀ k, k ≠ 65 → k ≠ 67 → G1 k = G k) → (∀ c, c ≠ 23 → c ≠ 24 → c ≠ 38 → c ≠ 45 → R1 c = R c) → (∀ c, c ≠ 23 → c ≠ 24 → c ≠ 27 → c ≠ 28 → c ≠ 29 → S1 c = S c) → (R1 23 0 = G 45 ∧ R1 23 1 = sp_X11_paceNow G S ∧ R1 23 2 = 0) → (∀ j, j < 10 → (¬ hb y (nI j) ∨ i ≤ j) → S1 28 j = S 28 j) → (∀ j, j < i → hb y (nI j) → (S1 28 j = 0 ∨ S1 28 j = 1) ∧ (hb (F1 605) (nI j) ↔ hb (G 69) (nI j))) → (∀ j, i ≤ j → j < 10 → ¬ hb (F1 605) (nI j)) → UEnd (t + 1) (K_X0_tick_25 r k F1 R1 (nI i)) (K_X11_ticks_116 y l G1 S1 (nI i)) := by
  intro d
  induction d with
  | zero =>
    intro i hi k l F1 G1 R1 S1 hk hkl c1 c2 c3 c4 c5 c6 c7 c8 c9 c10 c11
    obtain ⟨k, rfl⟩ : ∃ n', k = n' + 1 := ⟨k - 1, by omega⟩
    obtain ⟨l, rfl⟩ : ∃ n', l = n' + 1 := ⟨l - 1, by omega⟩
    obtain rfl : i = 10 := by omega
    rw [ks_X0_tick_25, ks_X11_ticks_116]
    unfold KB_X0_tick_25 KB_X11_ticks_116
    rw [if_pos ub_10e, if_pos ub_10e, k_e]
    have e691 : F1 691 = F 691 := c4 691 (by omega) (by omega) (by omega) (by omega)
    have I := tick_C (F := F1) (G := G1) (R := R1) (S := S1) (t := t) (y := y) (r := sp_X4_standingSet F1 R1) (fun j hj => by
      rw [st_core c1 j hj, e691]
      constructor
      · intro z
        by_cases q : hb y (nI j)
        · exact ⟨q, z.2⟩
        · exact absurd ((c9 j hj (Or.inl q)).symm.trans z.2) (hny j hj z.1 q)
      · intro z
        exact ⟨hy j hj z.1, z.2⟩) (by rw [c4 603 (by omega) (by omega) (by omega) (by omega), c5 46 (by omega) (by omega), c5 47 (by omega) (by omega)]; exact e603) (by rw [c5 45 (by omega) (by omega)]; exact e45) (fun j hj h => by rw [e691]; exact hy j hj h) (fun j hj h1 h2 => by
      rw [e691] at h1
      rw [c9 j hj (Or.inl h2)]
      exact hny j hj h1 h2) (fun j hj h => (c10 j hj h).1) (fun j hj h => by
      rw [c7 36 (by omega) (by omega) (by omega) (by omega) (by omega), c7 26 (by omega) (by omega) (by omega) (by omega) (by omega)]
      exact h36 j hj h) (fun j hj h => by rw [c5 69 (by omega) (by omega)]; exact (c10 j hj h).2) (by rw [c4 606 (by omega) (by omega) (by omega) (by omega)]; exact e606) (by rw [c5 68 (by omega) (by omega)]; exact g68) 10 0 (by omega) 8589934592 8589934592 F1 R1 S1 (by omega) (by omega) c1 c2 c3 (fun _ _ => rfl) (fun _ _ _ _ => rfl) (fun _ _ _ => rfl) (fun _ _ _ => ⟨rfl, rfl⟩) (fun j hj => absurd hj (by omega)) (fun j hj ht => ⟨fun _ => by
      rw [e691] at ht
      exact ULed_e hj (hl j hj ht) (fun b _ => congrFun (c6 46 (by omega) (by omega) (by omega) (by omega)) _) (fun c a1 a2 => congrFun (c7 c (by omega) (by omega) (by omega) (by omega) (by omega)) j), fun h => absurd h (by omega)⟩)
    rw [nI_0] at I
    exact I
  | succ d ih =>
    intro i hi k l F1 G1 R1 S1 hk hkl c1 c2 c3 c4 c5 c6 c7 c8 c9 c10 c11
    obtain ⟨k, rfl⟩ : ∃ n', k = n' + 1 := ⟨k - 1, by omega⟩
    obtain ⟨l, rfl⟩ : ∃ n', l = n' + 1 := ⟨l - 1, by omega⟩
    have hi9 : i < 10 := by omega
    rw [ks_X0_tick_25, ks_X11_ticks_116]
    unfold KB_X0_tick_25 KB_X11_ticks_116 K_X0_tick_69 K_X11_ticks_135
    rw [if_neg (ub_10 hi9), if_neg (ub_10 hi9)]
    simp only [k_e, nI_1, nI_clamp (show i < 2 ^ 31 by omega)]
    by_cases q : hb y (nI i)
    · rw [if_neg (fun e => (ub_test hi9).mp e ((hr i hi9).mpr q)), if_neg (fun e => ub_hasv0.mp e q)]
      have e691 : F1 691 = F 691 := c4 691 (by omega) (by omega) (by omega) (by omega)
      have f604 : F1 604 = G1 47 := by rw [c4 604 (by omega) (by omega) (by omega) (by omega), c5 47 (by omega) (by omega)]; exact e604
      have f603 : F1 603 = G1 46 + G1 47 := by rw [c4 603 (by omega) (by omega) (by omega) (by omega), c5 46 (by omega) (by omega), c5 47 (by omega) (by omega)]; exact e603
      have f26 : S1 26 = S 26 := c7 26 (by omega) (by omega) (by omega) (by omega) (by omega)
      have ht := hy i hi9 q
      have z0 : S1 28 i = 0 := (c9 i hi9 (Or.inr (Nat.le_refl _))).trans (hy0 i hi9 q)
      obtain ⟨t1, t2, t3, t4, t5, t6, t7⟩ := c1.2.2.2.2.2.2.2 i hi9 (by rw [e691]; exact ht)
      obtain ⟨w1, w2, w3, w4, w5, w6, w7⟩ := c1.1.2.2.2.2.2.1 i hi9 (by rw [e691]; exact ht)
      have ep : sp_X11_paceNow G1 S1 = sp_X11_paceNow G S := by
        unfold sp_X11_paceNow
        rw [c5 44 (by omega) (by omega), c5 45 (by omega) (by omega), c7 25 (by omega) (by omega) (by omega) (by omega) (by omega)]
      obtain ⟨V, oX, oM, hV⟩ := oracles c1.1.2.2.2.2.2.2.1 (ulist [G1 45, sp_X11_paceNow G1 S1, 0, nI i, S1 1 i, S1 26 i, S1 3 i, S1 5 i, S1 30 i, S1 29 i, S1 27 i, G1 47])
      have uM : UWm (ulist [G1 45, sp_X11_paceNow G1 S1, 0, nI i, S1 1 i, S1 26 i, S1 3 i, S1 5 i, S1 30 i, S1 29 i, S1 27 i, G1 47]) G1 S1 i := ⟨rfl, rfl, rfl, rfl, rfl, rfl, rfl, rfl, rfl, rfl, rfl, rfl⟩
      have uX : UW (ulist [G1 45, sp_X11_paceNow G1 S1, 0, nI i, S1 1 i, S1 26 i, S1 3 i, S1 5 i, S1 30 i, S1 29 i, S1 27 i, G1 47]) F1 R1 i := by
        unfold UW
        rw [c8.1, c8.2.1, c8.2.2, w1, w2, w4, w5, t1, t2, t4, f604, ← ep, ← c5 45 (by omega) (by omega)]
        exact ⟨rfl, rfl, rfl, rfl, rfl, rfl, rfl, rfl, rfl, rfl, rfl, rfl⟩
      generalize ulist [G1 45, sp_X11_paceNow G1 S1, 0, nI i, S1 1 i, S1 26 i, S1 3 i, S1 5 i, S1 30 i, S1 29 i, S1 27 i, G1 47] = w at oX oM uM uX
      have hc : ∃ c : Bool, (c = true ↔ ¬ G1 48 ≤ S1 26 i) := ⟨decide (¬ G1 48 ≤ S1 26 i), decide_eq_true_iff⟩
      obtain ⟨c, hc⟩ := hc
      have hj : ∃ j : Bool, (j = true ↔ c = true ∧ ¬ sp_X11_foldPasses G1 S1 (S1 26 i) = 0) := ⟨decide (c = true ∧ ¬ sp_X11_foldPasses G1 S1 (S1 26 i) = 0), decide_eq_true_iff⟩
      obtain ⟨j, hj⟩ := hj
      have fo := fold_rel (S := S1) c1.1.2.2.2.2.2.2.2 f603 f604 (S1 26 i)
      obtain ⟨Fa, Ra, F2, R2, eX1, eX2, hX⟩ := ux_thing hi9 oX uX hV (by rw [c4 604 (by omega) (by omega) (by omega) (by omega)]; exact hq) (by rw [w2]; exact w6) c j (by rw [c1.2.2.2.1, t1]; exact hc) (by rw [t1, fo]; exact hj)
      obtain ⟨G2, S2, eM, hM⟩ := um_hurries hi9 oM uM t3 c j (by rw [c5 69 (by omega) (by omega), h69 i hi9 q, ← c5 48 (by omega) (by omega), ← f26]; exact hc) hj
      have frM := fr_sp_X11_hurries G1 S1 (nI i)
      rw [eM] at frM
      have eX2 : sp_X0_shake Fa Ra (nI i) (if 0 ≤ Ra 38 i - R1 38 i then Ra 38 i - R1 38 i else 0 - (Ra 38 i - R1 38 i)) = (F2, R2) := eX2
      rw [eX1, k_t2, eX2, eM, k_t2, k_t2]
      have gG : ∀ k, k ≠ 65 → k ≠ 67 → G2 k = G1 k := fun k h1 h2 => frM.1 k (by simp [md_X11_hurries]; exact ⟨h1, h2⟩)
      have gS : ∀ c, c ≠ 23 → c ≠ 24 → c ≠ 27 → c ≠ 28 → c ≠ 29 → S2 c = S1 c := fun c h1 h2 h3 h4 h5 => frM.2 c (by simp [mr_X11_hurries]; exact ⟨h1, h2, h3, h4, h5⟩)
      unfold UXh at hX
      unfold UMh at hM
      rw [w2, w3, t2, t4, f604] at hX
      obtain ⟨x1, x2, x3, x4, x5, x6, x7, x8, x9, gF, gR⟩ := hX
      obtain ⟨m1, m2, m3, m4, m5, m6, m7, m8⟩ := hM
      generalize uvn c j (S1 27 i) (G1 47) V = v at x2 x3 x4 x5 x7 m1 m2 m3 m5 m7
      have hsp := uspill_ge (ch := uab (v - S1 27 i)) (z := V 5) t3
      rw [← m3] at hsp
      generalize ufell (utilt (uab (v - S1 27 i)) (S1 31 i) (S1 3 i)) (V 4) = T at x2 x5 m5 m7
      generalize urock (utilt (uab (v - S1 27 i)) (S1 31 i) (S1 3 i)) (V 4) = U at x3 m1
      generalize uspill (uab (v - S1 27 i)) (V 5) (S1 29 i) = W at x4 x7 m2 m3
      refine ih (i + 1) (by omega) k l F2 G2 R2 S2 (by omega) (by omega) ?_ ?_ ?_ ?_ ?_ ?_ ?_ ?_ ?_ ?_ ?_
      · obtain ⟨h1, h2, h3, h4, h5, h6, h7, h8⟩ := c1
        have b692 : ∀ j, j < 10 → j ≠ i → (hb (F2 692) (nI j) ↔ hb (F1 692) (nI j)) := by
          intro j hj hji
          rw [x2]
          cases T with
          | true =>
            rw [if_pos rfl, ub_or hj, ub_bit hi9 hj]
            exact ⟨fun w => w.elim id (fun w => absurd w hji), Or.inl⟩
          | false => rw [if_neg (by decide)]
        have e693 : F2 693 = F1 693 := gF 693 (by omega) (by omega) (by omega) (by omega)
        unfold UCore
        rw [x3, x4, m1, m2, e693, gF 698 (by omega) (by omega) (by omega) (by omega), gF 691 (by omega) (by omega) (by omega) (by omega), gG 48 (by omega) (by omega), h2, h3]
        refine ⟨UStat_e h1 (gF _ (by omega) (by omega) (by omega) (by omega)) (gF _ (by omega) (by omega) (by omega) (by omega)) (gF _ (by omega) (by omega) (by omega) (by omega)) (gF _ (by omega) (by omega) (by omega) (by omega)) (gF _ (by omega) (by omega) (by omega) (by omega)) (fun k hk => gG k (by omega) (by omega)) (fun c hc => gR c (by omega) (by omega) (by omega) (by omega)) (fun c hc => gS c (by omega) (by omega) (by omega) (by omega) (by omega)), rfl, rfl, h4, ?_, h6, fun j hj hh => ⟨?_, (h7 j hj hh).2⟩, fun j hj hh => ?_⟩
        · rw [x2]
          cases T with
          | true => rw [if_pos rfl]; exact ub_or_rng h5 hi9
          | false => rw [if_neg (by decide)]; exact h5
        · by_cases q2 : j = i
          · rw [e691, q2] at hh
            exact absurd ht hh
          · rw [b692 j hj q2]
            exact (h7 j hj hh).1
        · by_cases q2 : j = i
          · subst q2
            unfold UTh
            rw [gR 44 (by omega) (by omega) (by omega) (by omega), gS 26 (by omega) (by omega) (by omega) (by omega) (by omega), x7, x5, m5]
            refine ⟨t1, m3.symm, hsp, rfl, ?_⟩
            rw [m7, x2]
            have n3 : ¬ hb (F1 693) (nI j) := fun w => absurd (z0.symm.trans (t7.mp w)) (by decide)
            cases T with
            | true =>
              rw [if_pos rfl, if_pos rfl, ub_or hi9, ub_bit hi9 hi9]
              exact ⟨Or.inr (Or.inl rfl), ⟨fun _ => rfl, fun _ => Or.inr rfl⟩, ⟨fun w => absurd w n3, fun w => absurd w (by decide)⟩⟩
            | false =>
              rw [if_neg (by decide), if_neg (by decide)]
              exact ⟨t5, t6, t7⟩
          · exact UTh_e (h8 j hj hh) (congrFun (gR 44 (by omega) (by omega) (by omega) (by omega)) j) (x8 j q2) (x6 j q2) (congrFun (gS 26 (by omega) (by omega) (by omega) (by omega) (by omega)) j) (m6 j q2) (m8 j q2) (m4 j q2) (b692 j hj q2) Iff.rfl
      · exact UHand_e c2 (fun k h1 h2 => gF k (by omega) (by omega) (by omega) (by omega)) (fun k hk => gG k (by omega) (by omega))
      · rw [gF 695 (by omega) (by omega) (by omega) (by omega), gG 66 (by omega) (by omega)]; exact c3
      · exact fun k h1 h2 h3 h4 => (gF k h1 h2 h3 h4).trans (c4 k h1 h2 h3 h4)
      · exact fun k h1 h2 => (gG k h1 h2).trans (c5 k h1 h2)
      · exact fun c h1 h2 h3 h4 => (gR c h1 h2 h3 h4).trans (c6 c h1 h2 h3 h4)
      · exact fun c h1 h2 h3 h4 h5 => (gS c h1 h2 h3 h4 h5).trans (c7 c h1 h2 h3 h4 h5)
      · rw [x9 0 (by omega), x9 1 (by omega), x9 2 (by omega)]; exact c8
      · intro j hj hz
        have hji : j ≠ i := by
          intro e
          rw [e] at hz
          rcases hz with w | w
          · exact w q
          · omega
        rw [m8 j hji]
        exact c9 j hj (hz.elim Or.inl (fun w => Or.inr (by omega)))
      · intro j hj hz
        have hj9 : j < 10 := by omega
        by_cases q2 : j = i
        · subst q2
          constructor
          · rw [m7]
            cases T with
            | true => exact Or.inr (if_pos rfl)
            | false => exact Or.inl ((if_neg (by decide)).trans z0)
          · rw [x1, h69 j hi9 q, ub_or hi9, ← c5 48 (by omega) (by omega), ← f26, ← hc]
            cases c with
            | true =>
              rw [if_pos rfl, ub_bit hi9 hi9]
              exact ⟨fun _ => rfl, fun _ => Or.inr rfl⟩
            | false =>
              rw [if_neg (by decide)]
              exact ⟨fun w => w.elim (fun w => absurd w (c11 j (Nat.le_refl _) hi9)) (fun w => absurd w (hb_0 hi9)), fun w => absurd w (by decide)⟩
        · rw [m8 j q2, x1, ub_or hj9]
          obtain ⟨p1, p2⟩ := c10 j (by omega) hz
          refine ⟨p1, ?_⟩
          rw [← p2]
          cases c with
          | true =>
            rw [if_pos rfl, ub_bit hi9 hj9]
            exact ⟨fun w => w.elim id (fun w => absurd w q2), Or.inl⟩
          | false =>
            rw [if_neg (by decide)]
            exact ⟨fun w => w.elim id (fun w => absurd w (hb_0 hj9)), Or.inl⟩
      · intro j h1 h2 h3
        rw [x1, ub_or h2] at h3
        rcases h3 with w | w
        · exact c11 j (by omega) h2 w
        · cases c with
          | true =>
            rw [if_pos rfl, ub_bit hi9 h2] at w
            omega
          | false =>
            rw [if_neg (by decide)] at w
            exact hb_0 h2 w
    · rw [if_pos ((ub_test hi9).mpr (fun w => q ((hr i hi9).mp w))), if_pos (ub_hasv0.mpr q)]
      refine ih (i + 1) (by omega) k l F1 G1 R1 S1 (by omega) (by omega) c1 c2 c3 c4 c5 c6 c7 c8 (fun j hj hz => c9 j hj (hz.elim Or.inl (fun w => Or.inr (by omega)))) (fun j hj hz => ?_) (fun j h1 h2 => c11 j (by omega) h2)
      by_cases q2 : j = i
      · rw [q2] at hz; exact absurd hz q
      · exact c10 j (by omega) hz
