/-! ===== how an evening ended, as both tell it ===== -/
section UTL
variable {F G : Nat → Int32} {R S : Nat → Nat → Int32}
theorem told_has {G0 : Nat → Int32} {S0 : Nat → Nat → Int32} {i : Nat} (hi : i < 10) : sp_X11_isTold G0 S0 (nI i) = 0 ↔ ¬ hb (G0 4) (nI i) := by
  unfold sp_X11_isTold
  simp only [k_e]
  rw [if_neg (nI_pos (by omega)), if_neg (ub_10 hi)]
  by_cases q : hb (G0 4) (nI i)
  · rw [if_neg (fun z => ub_hasv0.mp z q)]
    exact ⟨fun z => absurd z (by decide), fun z => absurd q z⟩
  · rw [if_pos (ub_hasv0.mpr q)]
    exact ⟨fun _ => q, fun _ => rfl⟩
theorem asked_lo {G0 : Nat → Int32} {S0 : Nat → Nat → Int32} {v : Nat} (hv : v ≤ 8) : sp_X11_isAsked G0 S0 (nI v) = 1 := by
  unfold sp_X11_isAsked
  simp only [k_e]
  have e : g_in (nI v) 0 8 = 1 := ug_in (lo := 0) (hi := 8) (by omega) (by omega) (by omega)
  rw [e, if_neg (by decide)]
theorem tell_lo (u : UCore F R G S) (e5 : F 695 = G 66) (e7 : F 697 = G 45) (hl : ∀ j, j < 10 → hb (F 691) (nI j) → ULed R S 0 0 j) (h0 : UL0 (F 691) R) {v : Nat} (hv : v ≤ 8) : sp_X4_tell F R (nI v) = sp_X11_told G S (nI v) := by
  obtain ⟨w1, w2, w3⟩ := set_eq u
  have hst := stand_eq u F R G S rfl rfl rfl
  have hin := inch_eq (S := S) F u.1.1 h0 hl
  obtain ⟨⟨c1, c2, cst⟩, c3, c4, c5, c6, c7, c8, c9⟩ := u
  have e10 : ¬ (10 : Int32) ≤ nI v := nI_ge (a := v) (b := 10) (by omega) (by omega)
  have ti : (nI v).toInt = (v : Int) := nI_toInt (by omega)
  unfold sp_X4_tell sp_X11_told K_X11_told_22
  simp only [k_e]
  rw [if_neg e10]
  simp only [ti]
  have : v = 0 ∨ v = 1 ∨ v = 2 ∨ v = 3 ∨ v = 4 ∨ v = 5 ∨ v = 6 ∨ v = 7 ∨ v = 8 := by omega
  rcases this with rfl | rfl | rfl | rfl | rfl | rfl | rfl | rfl | rfl
  · simp (decide := true) only [if_true, if_false]; exact hst
  · simp (decide := true) only [if_true, if_false]; exact hin
  · simp (decide := true) only [if_true, if_false]; exact e7
  · simp (decide := true) only [if_true, if_false]; exact c5
  · simp (decide := true) only [if_true, if_false]; exact w2
  · simp (decide := true) only [if_true, if_false]; exact w3
  · simp (decide := true) only [if_true, if_false]; exact c3
  · simp (decide := true) only [if_true, if_false]; exact e5
  · simp (decide := true) only [if_true, if_false]; exact c4
theorem tell_hi (u : UCore F R G S) (hl : ∀ j, j < 10 → hb (F 691) (nI j) → ULed R S 0 0 j) {i w : Nat} (hi : i < 10) (hw : 1 ≤ w ∧ w ≤ 6) (ht : hb (F 691) (nI i)) : sp_X4_tellThing F R (nI i) (nI w) = K_X11_told_22 G S (nI i) (nI (10 + w)) := by
  obtain ⟨⟨c1, c2, cst⟩, c3, c4, c5, c6, c7, c8, c9⟩ := u
  obtain ⟨v1, v2, v3, v4, v5, v6, v7⟩ := c9 i hi ht
  obtain ⟨s, a⟩ := hl i hi ht
  have a0 := a 0 (by omega)
  have a1 := a 1 (by omega)
  have a2 := a 2 (by omega)
  rw [if_pos rfl, Int32.add_zero] at a0
  rw [if_neg (by omega)] at a1 a2
  rw [show 10 * 0 + i = i by omega] at a0
  rw [show 10 * 1 + i = 10 + i by omega] at a1
  rw [show 10 * 2 + i = 20 + i by omega] at a2
  have e1 : (10 : Int32) + nI i = nI (10 + i) := nI_add 10 i
  have e2 : (20 : Int32) + nI i = nI (20 + i) := nI_add 20 i
  have n1 : ¬ (1 : Int32) = 0 := by decide
  have tw : (nI w).toInt = (w : Int) := nI_toInt (by omega)
  have tw2 : (nI (10 + w)).toInt = ((10 + w : Nat) : Int) := nI_toInt (by omega)
  unfold sp_X4_tellThing K_X4_tellThing_78 K_X11_told_22 sp_X11_endsAt K_X11_endsAt_20 sp_X4_isOver K_X4_isOver_16
  simp only [k_e]
  rw [ug_i9 hi, if_neg n1, if_neg (fun e => (ub_test hi).mp e ht)]
  simp only [tw, tw2, e1, e2, nI_clamp (show i < 2 ^ 31 by omega), nI_clamp (show 10 + i < 2 ^ 31 by omega), nI_clamp (show 20 + i < 2 ^ 31 by omega), a0, a1, a2, v1, v2]
  have : w = 1 ∨ w = 2 ∨ w = 3 ∨ w = 4 ∨ w = 5 ∨ w = 6 := by omega
  rcases this with rfl | rfl | rfl | rfl | rfl | rfl
  · simp (decide := true) only [if_true, if_false]
    by_cases q : hb (F 693) (nI i)
    · rw [if_neg (fun e => (ub_test hi).mp e q), if_neg n1, if_pos (v7.mp q)]
    · rw [if_pos ((ub_test hi).mpr q), if_pos rfl, if_neg (fun e => q (v7.mpr e))]
  · simp (decide := true) only [if_true, if_false]; exact s.symm
  · simp (decide := true) only [if_true, if_false]
  · simp (decide := true) only [if_true, if_false]
  · simp (decide := true) only [if_true, if_false]
  · simp (decide := true) only [if_true, if_false]
theorem tell_rel (u : UCore F R G S) (e5 : F 695 = G 66) (e7 : F 697 = G 45) (hl : ∀ j, j < 10 → hb (F 691) (nI j) → ULed R S 0 0 j) (h0 : UL0 (F 691) R) {G0 : Nat → Int32} {S0 : Nat → Nat → Int32} (e4 : F 691 = G0 4) (a : Int32) : sp_X4_tell F R a = if sp_X11_isAsked G0 S0 a = 0 then -1 else sp_X11_told G S a := by
  by_cases q : g_in a 0 8 = 0
  · have na : ∀ v : Nat, v ≤ 8 → ¬ a.toInt = (v : Int) := by
      intro v hv e
      have : a = nI v := Int32.toInt_inj.mp (by rw [nI_toInt (by omega)]; exact e)
      rw [this] at q
      have e : g_in (nI v) 0 8 = 1 := ug_in (lo := 0) (hi := 8) (by omega) (by omega) (by omega)
      rw [e] at q
      exact absurd q (by decide)
    have eC : sp_X4_tell F R a = if g_in a 10 69 = 0 then -1 else sp_X4_tellThing F R (a - a / 10 * 10) (a / 10) := by
      have n0 : ¬ a.toInt = 0 := na 0 (by omega)
      have n1 : ¬ a.toInt = 1 := na 1 (by omega)
      have n2 : ¬ a.toInt = 2 := na 2 (by omega)
      have n3 : ¬ a.toInt = 3 := na 3 (by omega)
      have n4 : ¬ a.toInt = 4 := na 4 (by omega)
      have n5 : ¬ a.toInt = 5 := na 5 (by omega)
      have n6 : ¬ a.toInt = 6 := na 6 (by omega)
      have n7 : ¬ a.toInt = 7 := na 7 (by omega)
      have n8 : ¬ a.toInt = 8 := na 8 (by omega)
      unfold sp_X4_tell K_X4_tell_124
      simp only [k_e]
      rw [if_neg n0, if_neg n1, if_neg n2, if_neg n3, if_neg n4, if_neg n5, if_neg n6, if_neg n7, if_neg n8]
    have eA : sp_X11_isAsked G0 S0 a = if g_in a 10 69 = 0 then 0 else if sp_X11_isTold G0 S0 (a - a / 10 * 10) = 0 then 0 else 1 := by
      unfold sp_X11_isAsked
      simp only [k_e]
      rw [if_pos q]
    rw [eC, eA]
    by_cases q2 : g_in a 10 69 = 0
    · rw [if_pos q2, if_pos q2, if_pos rfl]
    · rw [if_neg q2, if_neg q2]
      obtain ⟨v, v1, v2, rfl⟩ := gin_n (lo := 10) (hi := 69) (by omega) (by omega) q2
      have er : nI v - nI v / 10 * 10 = nI (v % 10) := pk_rem (a := v) (d := 10) (by omega) (by omega) (by omega)
      have ed : nI v / 10 = nI (v / 10) := pk_div (a := v) (d := 10) (by omega) (by omega) (by omega)
      have hi : v % 10 < 10 := Nat.mod_lt _ (by omega)
      rw [er, ed]
      by_cases q3 : hb (F 691) (nI (v % 10))
      · rw [if_neg (fun z => (told_has hi).mp z (by rw [← e4]; exact q3)), if_neg (by decide), tell_hi u hl hi (by omega) q3]
        unfold sp_X11_told
        simp only [k_e]
        rw [if_pos (show (10 : Int32) ≤ nI v from nI_le (a := 10) v1 (by omega)), er, ed, show (10 : Int32) + nI (v / 10) = nI (10 + v / 10) from nI_add 10 _]
      · rw [if_pos ((told_has hi).mpr (by rw [← e4]; exact q3)), if_pos rfl]
        unfold sp_X4_tellThing K_X4_tellThing_21
        simp only [k_e]
        rw [ug_i9 hi, if_neg (by decide), if_pos ((ub_test hi).mpr q3)]
  · obtain ⟨v, _, v2, rfl⟩ := gin_n (lo := 0) (hi := 8) (by omega) (by omega) q
    rw [asked_lo v2, if_neg (by decide)]
    exact tell_lo u e5 e7 hl h0 v2
theorem k_id2 {α β : Type} (p : α × β) : k_lt2 p (fun a b => (a, b)) = p := rfl
theorem fr2_run {F1 : Nat → Int32} {R1 : Nat → Nat → Int32} (h : URel F1 R1 G S) : URel (sp_X0_run F1 R1).1 (sp_X0_run F1 R1).2 G S := by
  have c := fr_sp_X0_run F1 R1
  exact URel_e h (fun k hk => c.1 k (by unfold cF at hk; simp [md_X0_run] <;> omega)) (fun _ _ => rfl) (fun k hk => c.2 k (by unfold cR at hk; simp [mr_X0_run] <;> omega)) (fun _ _ => rfl)
theorem ans_still (h : URel F R G S) (a : Int32) : UAns URel (sp_X10_still F R a) (sp_X11_still G S a) := by
  obtain ⟨t, p1, p2, p3, p4⟩ := h.2.2.2.1
  obtain ⟨F1, R1, v1, v2, v3, v4, v5⟩ := lay_laid F R
  obtain ⟨Sa, Sb, b1, b2, b3, b4, b5⟩ := m_lays (G := G) (S := S) p3 p1
  have hU1 : URel F1 R1 G S := URel_e h (fun k hk => by unfold cF at hk; exact v3 k (by omega) (by omega) (by omega) (by omega) (by omega) (by omega) (by omega) (by omega)) (fun _ _ => rfl) (fun c hc => by unfold cR at hc; exact v5 c (by omega) (by omega)) (fun _ _ => rfl)
  have f19 : F1 19 = F 19 := v3 19 (by omega) (by omega) (by omega) (by omega) (by omega) (by omega) (by omega) (by omega)
  have hpl : ∀ j, j < 10 → hb (F1 19) (nI j) → R1 6 (8 * j + 1) = Sb 26 j := fun j hj ht => by
    rw [v4 _ (by omega), v5 2 (by omega) (by omega), (b4 j hj).1]
    exact h.1.2.2.2.2.2.2.1 j hj (by rw [← f19]; exact ht) 1 (by omega)
  have hB := beg_pl hU1 v2 p1 p3 b3 (fun k hk => (b4 k hk).2) b5 hpl
  have eU := (even_rel hU1 v2 p1 p3 b3 (fun k hk => (b4 k hk).2) b5 hpl).2.1
  obtain ⟨e', x1, x2, x3⟩ := run_rel hB
  have led := run_led F1 R1
  have eC : sp_X10_still F R a = (sp_X4_tell (sp_X0_run F1 R1).1 (sp_X0_run F1 R1).2 a, (sp_X0_run F1 R1).1, (sp_X0_run F1 R1).2) := by
    unfold sp_X10_still
    rw [v1, k_t2, k_e2, k_e]
  have eS : sp_X11_runsStill G S = sp_X11_runs (uGL G (nI t)) Sb := by
    unfold sp_X11_runsStill
    rw [b1, k_t2, b2, k_t2, k_id2]
  have eM : sp_X11_still G S a = if sp_X11_isAsked G S a = 0 then (-1, G, S) else (sp_X11_told (sp_X11_runs (uGL G (nI t)) Sb).1 (sp_X11_runs (uGL G (nI t)) Sb).2 a, (sp_X11_runs (uGL G (nI t)) Sb).1, (sp_X11_runs (uGL G (nI t)) Sb).2) := by
    unfold sp_X11_still
    rw [k_e, eS, k_e2, k_e]
  have tl := tell_rel x2.1 x2.2.2.1 (x3.trans x2.2.2.2.2.1.symm) x2.2.2.2.2.2 (by rw [led.2]; exact led.1) (G0 := G) (S0 := S) (led.2.trans (v2.2.2.2.1.trans (f19.trans h.1.2.2.2.2.1))) a
  rw [eC, eM, tl]
  by_cases q : sp_X11_isAsked G S a = 0
  · rw [if_pos q, if_pos q]
    exact uans (fr2_run hU1)
  · rw [if_neg q, if_neg q]
    exact uans eU
theorem ans_tried (h : URel F R G S) (a : Int32) : UAns URel (sp_X10_tried F R a) (sp_X11_tried G S a) := by
  obtain ⟨t, d1, d2, d3, d4, d5, d6⟩ := drawn_rel h
  have c := fr_sp_X10_tryDrawn F R
  have m := fr_sp_X11_runsDrawn G S
  have led : UL0 ((sp_X10_tryDrawn F R).1 691) (sp_X10_tryDrawn F R).2 := by
    unfold sp_X10_tryDrawn
    rw [k_e2, k_e2, k_id2]
    have := run_led (sp_X1_drawFrom (sp_X7_lay_r1_r11 F R).1 (sp_X7_lay_r1_r11 F R).2 (F 20)).1 (sp_X1_drawFrom (sp_X7_lay_r1_r11 F R).1 (sp_X7_lay_r1_r11 F R).2 (F 20)).2
    rw [this.2]
    exact this.1
  have eC : sp_X10_tried F R a = (sp_X4_tell (sp_X10_tryDrawn F R).1 (sp_X10_tryDrawn F R).2 a, (sp_X10_tryDrawn F R).1, (sp_X10_tryDrawn F R).2) := by
    unfold sp_X10_tried
    rw [k_e2, k_e]
  have eM : sp_X11_tried G S a = if sp_X11_isAsked G S a = 0 then (-1, G, S) else (sp_X11_told (upd (sp_X11_runsDrawn G S).1 3 (G 3)) (sp_X11_runsDrawn G S).2 a, upd (sp_X11_runsDrawn G S).1 3 (G 3), (sp_X11_runsDrawn G S).2) := by
    unfold sp_X11_tried
    rw [k_e, k_e2, k_e, k_e]
  have hc : ∀ {G' : Nat → Int32} {S' : Nat → Nat → Int32}, (∀ k, cG k → G' k = G k) → (∀ k, cS k → S' k = S k) → URel (sp_X10_tryDrawn F R).1 (sp_X10_tryDrawn F R).2 G' S' := fun hg hs => URel_e h (fun k hk => c.1 k (by unfold cF at hk; simp [md_X10_tryDrawn] <;> omega)) hg (fun k hk => c.2 k (by unfold cR at hk; simp [mr_X10_tryDrawn] <;> omega)) hs
  have u' : UCore (sp_X10_tryDrawn F R).1 (sp_X10_tryDrawn F R).2 (upd (sp_X11_runsDrawn G S).1 3 (G 3)) (sp_X11_runsDrawn G S).2 := UCore_e d2.1 (fun _ _ => rfl) (fun k hk => by rw [uu, if_neg (by omega)]) (fun _ _ => rfl) (fun _ _ => rfl)
  have e42 : (sp_X10_tryDrawn F R).1 691 = G 4 := d2.1.1.1.trans d6
  have tl := tell_rel u' (by rw [uu, if_neg (by decide)]; exact d2.2.2.1) (by rw [uu, if_neg (by decide)]; exact d3.trans d2.2.2.2.2.1.symm) d2.2.2.2.2.2 led (G0 := G) (S0 := S) e42 a
  rw [eC, eM, tl]
  by_cases q : sp_X11_isAsked G S a = 0
  · rw [if_pos q, if_pos q]
    exact uans (hc (fun _ _ => rfl) (fun _ _ => rfl))
  · rw [if_neg q, if_neg q]
    refine uans (hc (fun k hk => ?_) (fun k hk => m.2 k (by unfold cS at hk; simp [mr_X11_runsDrawn] <;> omega)))
    rw [uu]
    by_cases z : k = 3
    · rw [if_pos z, z]
    · rw [if_neg z]
      exact m.1 k (by unfold cG at hk; simp [md_X11_runsDrawn] <;> omega)
end UTL
