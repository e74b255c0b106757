/-! ===== a tick's end: the leads are counted ===== -/
theorem UHand_e {F F' G G' : Nat → Int32} (h : UHand F G) (f : ∀ k, 672 ≤ k → k ≤ 675 → F' k = F k) (g : ∀ k, k = 3 ∨ k = 49 ∨ k = 50 ∨ k = 51 → G' k = G k) : UHand F' G' := by
  unfold UHand
  rw [f 672 (by omega) (by omega), f 673 (by omega) (by omega), f 674 (by omega) (by omega), f 675 (by omega) (by omega), g 3 (by omega), g 49 (by omega), g 50 (by omega), g 51 (by omega)]
  exact h
def UEnd (t : Nat) (p q : (Nat → Int32) × (Nat → Nat → Int32)) : Prop := UCore p.1 p.2 q.1 q.2 ∧ UHand p.1 q.1 ∧ p.1 695 = q.1 66 ∧ p.1 603 = q.1 46 ∧ q.1 45 = nI t ∧ ∀ j, j < 10 → hb (p.1 691) (nI j) → ULed p.2 q.2 0 0 j
theorem tick_E {F G : Nat → Int32} {R S : Nat → Nat → Int32} {t : Nat} {y r : Int32} (hc : UCore F R G S) (hh : UHand F G) (e5 : F 695 = G 66) (e606 : F 606 = G 68) (e603 : F 603 = G 46 + G 47) (e45 : G 45 = nI t) (hr : ∀ j, j < 10 → (hb r (nI j) ↔ hb (F 691) (nI j) ∧ S 28 j = 0)) (hy : ∀ j, j < 10 → hb y (nI j) → hb (F 691) (nI j)) (hyr : ∀ j, j < 10 → hb r (nI j) → hb y (nI j)) (h5 : ∀ j, j < 10 → hb y (nI j) → (hb (F 605) (nI j) ↔ hb (G 69) (nI j))) (h9 : ∀ j, j < 10 → hb r (nI j) → R 39 j = S 36 j) (h6 : ∀ j, j < 10 → hb y (nI j) → S 28 j = 1 → S 36 j = S 26 j) : ∀ d i, i + d = 10 → ∀ (k l : Nat) (R1 S1 : Nat → Nat → Int32), d < k → d < l → (∀ c, c ≠ 46 → R1 c = R c) → (∀ c, c ≠ 32 → c ≠ 33 → c ≠ 34 → c ≠ 35 → S1 c = S c) → (∀ j, j < i → hb (F 691) (nI j) → ULed R1 S1 0 0 j) → (∀ j, i ≤ j → j < 10 → hb (F 691) (nI j) → ULed R1 S1 (mby G j) (if uhb y (nI j) = true ∧ S 28 j = 2 then S 36 j - S 26 j else 0) j) → UEnd (t + 1) (K_X0_tick_168 r k F R1 (nI i)) (K_X11_ticks_217 y l G S1 (nI i)) := by
  intro d
  induction d with
  | zero =>
    intro i hi k l R1 S1 hk hl eR eS h1 h2
    obtain ⟨k, rfl⟩ : ∃ n', k = n' + 1 := ⟨k - 1, by omega⟩
    obtain ⟨l, rfl⟩ : ∃ n', l = n' + 1 := ⟨l - 1, by omega⟩
    obtain rfl : i = 10 := by omega
    rw [ks_X0_tick_168, ks_X11_ticks_217]
    unfold KB_X0_tick_168 KB_X11_ticks_217
    rw [if_pos ub_10e, if_pos ub_10e]
    simp only [k_e]
    refine ⟨?_, ?_, ?_, ?_, ?_, ?_⟩
    · refine UCore_e hc (fun k hk => g_un (by rw [bne_iff_ne]; omega)) (fun k hk => ?_) (fun c hc => eR c (by omega)) (fun c hc => eS c (by omega) (by omega) (by omega) (by omega))
      exact ((g_un (by rw [bne_iff_ne]; omega)).trans (g_un (by rw [bne_iff_ne]; omega))).trans (g_un (by rw [bne_iff_ne]; omega))
    · refine UHand_e hh (fun k h1 h2 => g_un (by rw [bne_iff_ne]; omega)) (fun k hk => ?_)
      exact ((g_un (by rw [bne_iff_ne]; omega)).trans (g_un (by rw [bne_iff_ne]; omega))).trans (g_un (by rw [bne_iff_ne]; omega))
    · show upd F 695 (F 695 ||| F 606) 695 = upd (upd (upd G 66 (G 66 ||| G 68)) 46 (G 46 + G 47)) 45 (G 45 + 1) 66
      rw [g_us, g_un rfl, g_un rfl, g_us, e5, e606]
    · show upd F 695 (F 695 ||| F 606) 603 = upd (upd (upd G 66 (G 66 ||| G 68)) 46 (G 46 + G 47)) 45 (G 45 + 1) 46
      rw [g_un rfl, g_un rfl, g_us, e603]
    · show upd (upd (upd G 66 (G 66 ||| G 68)) 46 (G 46 + G 47)) 45 (G 45 + 1) 45 = nI (t + 1)
      rw [g_us, e45, nI_1]
    · intro j hj hb1
      have hb1 : hb (F 691) (nI j) := hb1
      exact h1 j hj hb1
  | succ d ih =>
    intro i hi k l R1 S1 hk hl eR eS h1 h2
    obtain ⟨k, rfl⟩ : ∃ n', k = n' + 1 := ⟨k - 1, by omega⟩
    obtain ⟨l, rfl⟩ : ∃ n', l = n' + 1 := ⟨l - 1, by omega⟩
    have hi9 : i < 10 := by omega
    rw [ks_X0_tick_168, ks_X11_ticks_217]
    unfold KB_X0_tick_168 KB_X11_ticks_217 K_X0_tick_187 K_X11_ticks_236
    rw [if_neg (ub_10 hi9), if_neg (ub_10 hi9)]
    simp only [k_e, nI_1]
    -- what the reference does to S1 here
    have ref : ∃ S2, (if g_hasv y (nI i) = 0 then K_X11_ticks_217 y l G S1 (nI (i + 1)) else k_lt2 (sp_X11_counts G S1 (nI i)) (fun F107 R108 => K_X11_ticks_217 y l F107 R108 (nI (i + 1)))) = K_X11_ticks_217 y l G S2 (nI (i + 1)) ∧ (∀ m, S2 32 m = if m = i ∧ uhb y (nI i) = true then S1 32 m + (S 36 i - S 26 i) else S1 32 m) ∧ (∀ b m, b < 3 → S2 (33 + b) m = if m = i ∧ b = mby G i ∧ uhb y (nI i) = true then S1 (33 + b) m + (S 36 i - S 26 i) else S1 (33 + b) m) ∧ (∀ c, c ≠ 32 → c ≠ 33 → c ≠ 34 → c ≠ 35 → S2 c = S c) := by
      by_cases q : hb y (nI i)
      · rw [if_neg (fun e => ub_hasv0.mp e q)]
        obtain ⟨S2, e, c1, c2, c3⟩ := um_counts2 (G := G) (S := S1) hi9
        rw [e, k_t2]
        have q' := uhb_t.mpr q
        refine ⟨S2, rfl, fun m => ?_, fun b m hb1 => ?_, fun c a1 a2 a3 a4 => (c3 c a1 a2 a3 a4).trans (eS c a1 a2 a3 a4)⟩
        · rw [c1 m, eS 36 (by omega) (by omega) (by omega) (by omega), eS 26 (by omega) (by omega) (by omega) (by omega)]
          by_cases q2 : m = i
          · rw [if_pos q2, if_pos ⟨q2, q'⟩, q2]
          · rw [if_neg q2, if_neg (fun z => q2 z.1)]
        · rw [c2 b m hb1, eS 36 (by omega) (by omega) (by omega) (by omega), eS 26 (by omega) (by omega) (by omega) (by omega)]
          by_cases q2 : m = i ∧ b = mby G i
          · rw [if_pos q2, if_pos ⟨q2.1, q2.2, q'⟩]
          · rw [if_neg q2, if_neg (fun z => q2 ⟨z.1, z.2.1⟩)]
      · rw [if_pos (ub_hasv0.mpr q)]
        exact ⟨S1, rfl, fun m => (if_neg (fun z => q (uhb_t.mp z.2))).symm, fun b m hb1 => (if_neg (fun z => q (uhb_t.mp z.2.2))).symm, eS⟩
    obtain ⟨S2, er, r1, r2, r3⟩ := ref
    rw [er]
    have cls : ∃ R2, (if r &&& 1 <<< (nI i &&& 31) = 0 then K_X0_tick_168 r k F R1 (nI (i + 1)) else k_lt2 (sp_X0_lead F R1 (nI i)) (fun F79 R80 => K_X0_tick_168 r k F79 R80 (nI (i + 1)))) = K_X0_tick_168 r k F R2 (nI (i + 1)) ∧ (∀ b m, b < 3 → m < 10 → R2 46 (10 * b + m) = if m = i ∧ b = mby G i ∧ uhb r (nI i) = true then R1 46 (10 * b + m) + (S 36 i - S 26 i) else R1 46 (10 * b + m)) ∧ (∀ c, c ≠ 46 → R2 c = R c) := by
      by_cases q : hb r (nI i)
      · rw [if_neg (fun e => (ub_test hi9).mp e q)]
        obtain ⟨R2, e, c1, c2⟩ := ux_lead2 (F := F) (R := R1) hi9
        rw [e, k_t2]
        refine ⟨R2, rfl, fun b m hb1 hm => ?_, fun c a1 => (c2 c a1).trans (eR c a1)⟩
        have eu : uby F i = mby G i := by_eq hi9 (by rw [e606]) (h5 i hi9 (hyr i hi9 q))
        have t1 := (hc.2.2.2.2.2.2.2 i hi9 ((hr i hi9).mp q).1).1
        rw [c1 b m hb1 hm, eR 39 (by omega), eR 44 (by omega), eu, h9 i hi9 q, t1]
        by_cases q2 : m = i ∧ b = mby G i
        · rw [if_pos q2, if_pos ⟨q2.1, q2.2, uhb_t.mpr q⟩]
        · rw [if_neg q2, if_neg (fun z => q2 ⟨z.1, z.2.1⟩)]
      · rw [if_pos ((ub_test hi9).mpr q)]
        exact ⟨R1, rfl, fun b m hb1 hm => (if_neg (fun z => q (uhb_t.mp z.2.2))).symm, eR⟩
    obtain ⟨R2, ec, c1, c2⟩ := cls
    rw [ec]
    have other : ∀ j, j < 10 → j ≠ i → ∀ {k e}, ULed R1 S1 k e j → ULed R2 S2 k e j := by
      intro j hj hji k e h
      refine ULed_e hj h (fun b hb1 => ?_) (fun c a1 a2 => ?_)
      · rw [c1 b j hb1 hj, if_neg (fun z => hji z.1)]
      · by_cases q : c = 32
        · rw [q, r1 j, if_neg (fun z => hji z.1)]
        · obtain ⟨b, rfl⟩ : ∃ b, c = 33 + b := ⟨c - 33, by omega⟩
          rw [r2 b j (by omega), if_neg (fun z => hji z.1)]
    refine ih (i + 1) (by omega) k l R2 S2 (by omega) (by omega) c2 r3 (fun j hj ht => ?_) (fun j h3 h4 ht => other j h4 (by omega) (h2 j (by omega) h4 ht))
    by_cases q : j = i
    · subst q
      have P := h2 j (Nat.le_refl _) hi9 ht
      have hk3 : mby G j < 3 := by unfold mby; split <;> (try split) <;> omega
      obtain ⟨p1, p2⟩ := P
      by_cases qy : hb y (nI j)
      · have qy' := uhb_t.mpr qy
        have eS32 : S2 32 j = S1 32 j + (S 36 j - S 26 j) := by rw [r1 j, if_pos ⟨rfl, qy'⟩]
        have eSb : ∀ b, b < 3 → S2 (33 + b) j = if b = mby G j then S1 (33 + b) j + (S 36 j - S 26 j) else S1 (33 + b) j := by
          intro b hb1
          rw [r2 b j hb1]
          by_cases q2 : b = mby G j
          · rw [if_pos ⟨rfl, q2, qy'⟩, if_pos q2]
          · rw [if_neg (fun z => q2 z.2.1), if_neg q2]
        have esum : S2 32 j = S2 33 j + S2 34 j + S2 35 j := by
          rw [eS32, u_sum3 hk3 p1]
          have a0 := eSb 0 (by omega)
          have a1 := eSb 1 (by omega)
          have a2 := eSb 2 (by omega)
          rw [show (33 + 0 : Nat) = 33 from rfl] at a0
          rw [show (33 + 1 : Nat) = 34 from rfl] at a1
          rw [show (33 + 2 : Nat) = 35 from rfl] at a2
          rw [a0, a1, a2]
        refine ⟨esum, fun b hb1 => ?_⟩
        rw [c1 b j hb1 hi9, eSb b hb1]
        have e0 : ∀ x : Int32, (if b = 0 then x + 0 else x) = x := by
          intro x
          by_cases q : b = 0
          · rw [if_pos q, Int32.add_zero]
          · rw [if_neg q]
        rw [e0, p2 b hb1]
        by_cases q2 : b = mby G j
        · rw [if_pos q2, if_pos q2]
          by_cases qr : hb r (nI j)
          · have z0 := ((hr j hi9).mp qr).2
            rw [if_pos ⟨rfl, q2, uhb_t.mpr qr⟩, if_neg (fun z => absurd (z0.symm.trans z.2) (by decide)), Int32.add_zero]
          · rw [if_neg (fun z => qr (uhb_t.mp z.2.2))]
            obtain ⟨_, _, _, _, t5, _, _⟩ := hc.2.2.2.2.2.2.2 j hi9 ht
            rcases t5 with e | e | e
            · exact absurd ((hr j hi9).mpr ⟨ht, e⟩) qr
            · rw [if_neg (fun z => absurd (e.symm.trans z.2) (by decide)), h6 j hi9 qy e, Int32.sub_self]
            · rw [if_pos ⟨qy', e⟩]
        · rw [if_neg q2, if_neg q2, if_neg (fun z => q2 z.2.1)]
      · have qy' : ¬ uhb y (nI j) = true := fun z => qy (uhb_t.mp z)
        have qr : ¬ uhb r (nI j) = true := fun z => qy (hyr j hi9 (uhb_t.mp z))
        have e1 : ULed R1 S1 0 0 j := by
          refine (ULed_0 (k := mby G j)).mp ?_
          rw [if_neg (fun z => qy' z.1)] at p2
          exact ⟨p1, p2⟩
        refine ULed_e hi9 e1 (fun b hb1 => ?_) (fun c a1 a2 => ?_)
        · rw [c1 b j hb1 hi9, if_neg (fun z => qr z.2.2)]
        · by_cases q : c = 32
          · rw [q, r1 j, if_neg (fun z => qy' z.2)]
          · obtain ⟨b, rfl⟩ : ∃ b, c = 33 + b := ⟨c - 33, by omega⟩
            rw [r2 b j (by omega), if_neg (fun z => qy' z.2.2)]
    · exact other j (by omega) q (h1 j (by omega) ht)
