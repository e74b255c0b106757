/-! ===== done, and an evening's telling ===== -/
section UD2
variable {F G : Nat → Int32} {R S : Nat → Nat → Int32}
theorem URel_res {F F' G G' : Nat → Int32} {R R' S S' : Nat → Nat → Int32} (h : URel F R G S) (f : ∀ k, cF k → k ≠ 17 → k ≠ 19 → k ≠ 20 → F' k = F k) (g : ∀ k, cG k → k ≠ 1 → k ≠ 3 → k ≠ 4 → G' k = G k) (r : ∀ c, cR c → c ≠ 2 → R' c = R c) (s : ∀ c, cS c → c ≠ 2 → c ≠ 4 → c ≠ 7 → S' c = S c) (e1 : F' 17 = G' 1) (e3 : F' 20 = G' 3) (e4 : F' 19 = G' 4) (jx : jv 0 65535 (G' 3)) (jt : jv 0 1023 (F' 19)) (hsub : ∀ j, j < 10 → hb (F' 19) (nI j) → hb (F 19) (nI j)) (hh : ∀ j, j < 10 → hb (F' 19) (nI j) → (∀ s, s < 8 → R' 2 (8 * j + s) = S' (1 + s) j) ∧ 0 ≤ (S' 7 j).toInt) : URel F' R' G' S' := by
  obtain ⟨h1, h2, h3, h4, h5⟩ := h
  obtain ⟨t1, t2, t3, t4, t5, t6, t7, t8, t9⟩ := h1
  obtain ⟨q1, q2, q3, q4⟩ := h5
  refine ⟨?_, UTape_e h2 (f 145 (by unfold cF; omega) (by omega) (by omega) (by omega)) (g 14 (by unfold cG; omega) (by omega) (by omega) (by omega)) (r 10 (by unfold cR; omega) (by omega)) (s 9 (by unfold cS; omega) (by omega) (by omega) (by omega)), ULaw_e h3 (f 274 (by unfold cF; omega) (by omega) (by omega) (by omega)) (f 278 (by unfold cF; omega) (by omega) (by omega) (by omega)) (g 28 (by unfold cG; omega) (by omega) (by omega) (by omega)) (fun c c1 c2 => r c (by unfold cR; omega) (by omega)) (fun c c1 c2 => s c (by unfold cS; omega) (by omega) (by omega) (by omega)), UPull_e h4 (f 177 (by unfold cF; omega) (by omega) (by omega) (by omega)) (g 19 (by unfold cG; omega) (by omega) (by omega) (by omega)) (r 12 (by unfold cR; omega) (by omega)) (s 10 (by unfold cS; omega) (by omega) (by omega) (by omega)), ?_⟩
  · unfold UTab
    have k : ∀ k, k = 11 ∨ k = 16 ∨ k = 18 ∨ 48 ≤ k ∧ k ≤ 52 → F' k = F k := fun k hk => f k (by unfold cF; omega) (by omega) (by omega) (by omega)
    have l : ∀ k, k = 0 ∨ k = 2 ∨ 77 ≤ k ∧ k ≤ 82 → G' k = G k := fun k hk => g k (by unfold cG; omega) (by omega) (by omega) (by omega)
    rw [k 11 (by omega), k 16 (by omega), k 18 (by omega), k 48 (by omega), k 49 (by omega), k 50 (by omega), k 51 (by omega), k 52 (by omega), l 0 (by omega), l 2 (by omega), l 77 (by omega), l 78 (by omega), l 79 (by omega), l 80 (by omega), l 81 (by omega), l 82 (by omega), r 4 (by unfold cR; omega) (by omega)]
    refine ⟨t1, e1, t3, e3, e4, jt, fun j hj ht => (hh j hj ht).1, t8, fun z => ?_⟩
    obtain ⟨k1, k2, k3, k4, k5, k6, k7⟩ := t9 z
    refine ⟨k1, k2, k3, k4, k5, k6, fun j hj ht q hq => ?_⟩
    rw [s (41 + q) (by unfold cS; omega) (by omega) (by omega) (by omega)]
    exact k7 j hj ht q hq
  · unfold URng
    rw [g 77 (by unfold cG; omega) (by omega) (by omega) (by omega), g 81 (by unfold cG; omega) (by omega) (by omega) (by omega), g 82 (by unfold cG; omega) (by omega) (by omega) (by omega), s 3 (by unfold cS; omega) (by omega) (by omega) (by omega), s 5 (by unfold cS; omega) (by omega) (by omega) (by omega), s 43 (by unfold cS; omega) (by omega) (by omega) (by omega), s 45 (by unfold cS; omega) (by omega) (by omega) (by omega), s 47 (by unfold cS; omega) (by omega) (by omega) (by omega)]
    refine ⟨jx, q2, fun j hj ht => ?_, q4⟩
    have ht' : hb (F' 19) (nI j) := by rw [e4]; exact ht
    have := q3 j hj (by rw [← t5]; exact hsub j hj ht')
    exact ⟨this.1, this.2.1, (hh j hj ht').2⟩
theorem done_rel (h : URel F R G S) : UAns URel (sp_X10_done F R) (sp_X11_done G S) := by
  have h' := h
  obtain ⟨h1, h2, h3, h4, h5⟩ := h
  obtain ⟨t0, p1, p2, p3, p4⟩ := h4
  unfold sp_X10_done sp_X11_done
  rw [p2, p3]
  by_cases z : nI t0 = 0
  · rw [if_pos z, if_pos z]
    exact ⟨rfl, h'⟩
  · rw [if_neg z, if_neg z]
    obtain ⟨t, d1, d2, d3, d4, d5, d6⟩ := drawn_rel h'
    have frC := fr_sp_X10_tryDrawn F R
    have frM := fr_sp_X11_runsDrawn G S
    generalize sp_X10_tryDrawn F R = P at *
    generalize sp_X11_runsDrawn G S = Q at *
    obtain ⟨FP, RP⟩ := P
    obtain ⟨GQ, SQ⟩ := Q
    obtain ⟨u1, u2, u3, u4, u5, u6⟩ := d2
    dsimp only at d4 d5 d6 u1
    have fC : ∀ k, cF k → FP k = F k := fun k hk => frC.1 k (by unfold cF at hk; simp [md_X10_tryDrawn]; omega)
    have rC : ∀ c, cR c → RP c = R c := fun c hc => frC.2 c (by unfold cR at hc; simp [mr_X10_tryDrawn]; omega)
    have gM : ∀ k, cG k → k ≠ 3 → GQ k = G k := fun k hk k3 => frM.1 k (by unfold cG at hk; simp [md_X11_runsDrawn]; omega)
    have sM : ∀ c, cS c → SQ c = S c := fun c hc => frM.2 c (by unfold cS at hc; simp [mr_X11_runsDrawn]; omega)
    rw [k_t2, k_t2]
    obtain ⟨F', R', a1, a2, a3, a4, a5, a6, a7, a8⟩ := c_leave (F := FP) 10 0 (by omega) 8589934592 FP RP (by omega) (fun _ _ => rfl) (by rw [fC 19 (by unfold cF; omega)]; exact h1.2.2.2.2.2.1)
    have a1' : sp_X4_leave_r1 FP RP = (F', R') := a1
    obtain ⟨S', b1, b2, b3, b4⟩ := m_leave (F := G) (F8 := GQ) (r := sp_X11_bits GQ SQ (sp_X11_standing GQ SQ)) 10 0 (by omega) 8589934592 SQ (by omega)
    have hst := stand_eq u1 (upd F' 20 (FP 673)) R' GQ SQ (by rw [uu, if_neg (by decide)]; exact a3 691 (by omega) (by omega)) (by rw [uu, if_neg (by decide)]; exact a3 692 (by omega) (by omega)) (by rw [uu, if_neg (by decide)]; exact a3 693 (by omega) (by omega))
    obtain ⟨w1, w2, w3⟩ := set_eq u1
    obtain ⟨⟨c1, c2, cst⟩, c3, c4, c5, c6, c7, c8, c9⟩ := u1
    have e691 : FP 691 = F 19 := by rw [c1, d6]; exact h1.2.2.2.2.1.symm
    rw [a1', k_t2, k_e, k_e, k_e, k_e]
    refine ⟨?_, ?_⟩
    · show sp_X4_standing (upd F' 20 (FP 673)) R' = (K_X11_done_23 G GQ (sp_X11_bits GQ SQ (sp_X11_standing GQ SQ)) 8589934592 SQ 0).1
      have b1' : K_X11_done_23 G GQ (sp_X11_bits GQ SQ (sp_X11_standing GQ SQ)) 8589934592 SQ 0 = (sp_X11_bits GQ SQ (sp_X11_standing GQ SQ), upd (upd GQ 4 (G 4 &&& (sp_X11_stateBits GQ S' 2 ^^^ (-1)))) 1 (GQ 48), S') := b1
      rw [b1', hst]
    · have b1' : K_X11_done_23 G GQ (sp_X11_bits GQ SQ (sp_X11_standing GQ SQ)) 8589934592 SQ 0 = (sp_X11_bits GQ SQ (sp_X11_standing GQ SQ), upd (upd GQ 4 (G 4 &&& (sp_X11_stateBits GQ S' 2 ^^^ (-1)))) 1 (GQ 48), S') := b1
      rw [b1']
      dsimp only
      have f19 : FP 19 = F 19 := fC 19 (by unfold cF; omega)
      have hsb : ∀ j, j < 10 → (hb (sp_X11_stateBits GQ S' 2) (nI j) ↔ hb (G 4) (nI j) ∧ SQ 28 j = 2) := by
        intro j hj
        rw [(m_sb GQ S' 2).2 j hj, d6, b2 28 (by omega) (by omega) (by omega)]
      have e4 : F' 19 = G 4 &&& (sp_X11_stateBits GQ S' 2 ^^^ (-1)) := by
        refine ub_ext a4 (ub_and_rng (by rw [← h1.2.2.2.2.1]; exact h1.2.2.2.2.2.1)) (fun j hj => ?_)
        rw [a5 j hj, ub_and hj, ub_not hj, hsb j hj, f19, h1.2.2.2.2.1]
        constructor
        · intro y
          refine ⟨y.1, fun x => ?_⟩
          rcases y.2 with y2 | y2
          · omega
          · refine y2 ((c9 j hj ?_).2.2.2.2.2.2.mpr x.2)
            rw [e691, h1.2.2.2.2.1]
            exact y.1
        · intro y
          refine ⟨y.1, Or.inr (fun x => y.2 ⟨y.1, ?_⟩)⟩
          refine (c9 j hj ?_).2.2.2.2.2.2.mp x
          rw [e691, h1.2.2.2.2.1]
          exact y.1
      have hsub : ∀ j, j < 10 → hb (upd F' 20 (FP 673) 19) (nI j) → hb (F 19) (nI j) ∧ ¬ hb (FP 693) (nI j) := by
        intro j hj ht
        rw [uu, if_neg (by decide)] at ht
        have y := (a5 j hj).mp ht
        rw [f19] at y
        refine ⟨y.1, ?_⟩
        rcases y.2 with y2 | y2
        · omega
        · exact y2
      refine URel_res h' (fun k hk k1 k2 k3 => ?_) (fun k hk k1 k2 k3 => ?_) (fun c hc c2 => ?_) (fun c hc c2 c4 c7 => ?_) ?_ ?_ ?_ ?_ ?_ (fun j hj ht => (hsub j hj ht).1) (fun j hj ht => ?_)
      · rw [uu, if_neg k3, a3 k k1 k2, fC k hk]
      · rw [uu, if_neg k1, uu, if_neg k3, gM k hk k2]
      · rw [a6 c c2, rC c hc]
      · rw [b2 c c2 c4 c7, sM c hc]
      · rw [uu, if_neg (by decide), a2, uu, if_pos rfl]
        exact c5
      · rw [uu, if_pos rfl, uu, if_neg (by decide), uu, if_neg (by decide)]
        exact d4
      · rw [uu, if_neg (by decide), uu, if_neg (by decide), uu, if_pos rfl]
        exact e4
      · rw [uu, if_neg (by decide), uu, if_neg (by decide)]
        exact d5
      · rw [uu, if_neg (by decide)]
        exact a4
      · obtain ⟨y1, y2⟩ := hsub j hj ht
        have yF : hb (FP 19) (nI j) := by rw [f19]; exact y1
        have yG : hb (G 4) (nI j) := by rw [← h1.2.2.2.2.1]; exact y1
        obtain ⟨v1, v2, v3, v4, v5, v6, v7⟩ := c9 j hj (by rw [e691]; exact y1)
        obtain ⟨m1, m2, m3, m4⟩ := b4 j (Nat.zero_le _) hj yG
        refine ⟨fun s hs => ?_, by rw [m2]; exact v3⟩
        obtain ⟨x1, x6, x3a, x3b, x0⟩ := a8 j s (Nat.zero_le _) hj hs yF y2
        have old := h1.2.2.2.2.2.2.1 j hj y1 s hs
        rw [← rC 2 (by unfold cR; omega)] at old
        by_cases s1 : s = 1
        · subst s1
          rw [x1 rfl, v1]
          exact m1.symm
        · by_cases s6 : s = 6
          · subst s6
            rw [x6 rfl, v2]
            exact m2.symm
          · by_cases s3 : s = 3
            · subst s3
              by_cases f : hb (FP 692) (nI j)
              · rw [x3a rfl f]
                exact (m3 (v6.mp f)).symm
              · rw [x3b rfl f, old]
                show S 4 j = S' 4 j
                rw [m4 (fun y => f (v6.mpr y)), sM 4 (by unfold cS; omega)]
            · rw [x0 s1 s3 s6, old, b2 (1 + s) (by omega) (by omega) (by omega), sM (1 + s) (by unfold cS; omega)]
end UD2
