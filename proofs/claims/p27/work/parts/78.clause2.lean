/-! ===== a clause is read by the reference ===== -/
section RCM
variable {u : Nat → Nat} {N : Nat}
theorem m_cond0 (hu : HU u N) {G : Nat → Int32} {S : Nat → Nat → Int32} {i c : Nat} (h : MSt u N G S i 0 c []) (hi : u i ≠ 40) : ∃ G' S', sp_X11_readsCondition G S = (0, G', S') ∧ G' 17 = ft 1 i := by
  refine ⟨upd G 17 (ft 1 i), S, ?_, by rw [uu, if_pos rfl]⟩
  unfold sp_X11_readsCondition
  rw [k_e, m_here hu h, if_sg 40 40 rfl (HU_le hu i) (by omega), if_neg hi, m_wrong h]
  simp only [k_t3]
theorem m_cond1 (hu : HU u N) {G : Nat → Int32} {S : Nat → Nat → Int32} {i c : Nat} (h : MSt u N G S i 0 c []) (hi : u i = 40) : ∃ G' S', sp_X11_readsCondition G S = K_X11_readsCondition_40 8589934592 G' S' ∧ MSt u N G' S' (i + 1) 1 c [(13, 0)] ∧ S' 12 = S 12 := by
  have h2 : MSt u N (upd (upd G 24 0) 26 0) S i 0 c [] := by
    obtain ⟨h1, h2, h3, h4, h5, h6⟩ := h
    refine ⟨?_, ?_, ?_, ?_, ?_, h6⟩
    · simp (decide := true) only [uu, if_false]; exact h1
    · simp (decide := true) only [uu, if_false]; exact h2
    · simp (decide := true) only [uu, if_true, if_false]
    · simp (decide := true) only [uu, if_false]; exact h4
    · simp (decide := true) only [uu, if_true]
  obtain ⟨G1, S1, a1, a2, a3⟩ := m_opens (s := 13) hu h2 (by omega) (by omega) (by omega)
  refine ⟨G1, S1, ?_, a2, a3⟩
  have a1' : sp_X11_opens (upd (upd G 24 0) 26 0) S 13 = (1, G1, S1) := a1
  unfold sp_X11_readsCondition
  simp only [k_e]
  have n1 : ¬ (1 : Int32) = 0 := by decide
  rw [m_here hu h, if_sg 40 40 rfl (HU_le hu i) (by omega), if_pos hi, a1', k_t3, if_neg n1]
theorem m_cond (hu : HU u N) {G : Nat → Int32} {S : Nat → Nat → Int32} {i j a c : Nat} {C : List Cd} (h : MSt u N G S i 0 c []) (hi : u i = 40) (ih : PMT u N 1 (i + 1) j a C) : (u j = 41 → ∃ G' S', sp_X11_readsCondition G S = (1, G', S') ∧ MSt u N G' S' (j + 1) 0 (c + C.length) [] ∧ CodeM (S' 12) c C ∧ (∀ k, k < c → S' 12 k = S 12 k)) ∧ (u j ≠ 41 → u j ≠ 38 → u j ≠ 124 → ∃ G' S', sp_X11_readsCondition G S = (0, G', S') ∧ G' 17 = ft 1 j) := by
  have hN := hu.1
  obtain ⟨G1, S1, a1, a2, a3⟩ := m_cond1 hu h hi
  obtain ⟨n', m', Y, G2, S2, b1, b2, b3, b4, b5, b6, b7⟩ := ih G1 S1 c [] [] 8589934592 a2 (fun x hx => by cases hx) (fun x hx => by cases hx) (by omega)
  have hjN := b4.2.2.2.2.2.2.2.1
  have hle := HU_le hu j
  obtain ⟨m', rfl⟩ : ∃ t, m' = t + 1 := ⟨m' - 1, by omega⟩
  constructor
  · intro hj
    obtain ⟨G3, S3, d1, d2, d3⟩ := m_out (o := 0) (b := K_X11_readsCondition_40 n') (m := m') hu hj (fun y hy => (b5 y hy).1) b6 b4
    obtain ⟨g1, g2, g3⟩ := b7 (S3 12) d3
    refine ⟨G3, S3, ?_, d2, g1, fun k hk => ?_⟩
    · rw [a1, b1, d1, if_pos rfl]
    · rw [g3 k hk (fun x hx => by cases hx), a3]
  · intro h41 h38 h124
    refine ⟨upd G2 17 (ft 1 j), S2, ?_, by rw [uu, if_pos rfl]⟩
    rw [a1, b1, K92_e]
    unfold KB_X11_readsCondition_92
    simp only [k_e]
    rw [m_here hu b4, if_sg 41 41 rfl hle (by omega), if_neg h41, if_sg 38 38 rfl hle (by omega), if_neg h38, if_sg 124 124 rfl hle (by omega), if_neg h124, m_wrong b4]
    simp only [k_t3]
theorem m_condF (hu : HU u N) {G : Nat → Int32} {S : Nat → Nat → Int32} {i c : Nat} {f : Int32} (h : MSt u N G S i 0 c []) (hi : u i = 40) (ih : PFT u N 1 (i + 1) f) : ∃ G' S', sp_X11_readsCondition G S = (0, G', S') ∧ G' 17 = f := by
  obtain ⟨G1, S1, a1, a2, a3⟩ := m_cond1 hu h hi
  obtain ⟨G2, S2, b1, b2⟩ := ih G1 S1 c [] [] 8589934592 a2 (fun x hx => by cases hx) (fun x hx => by cases hx) (by omega)
  exact ⟨G2, S2, a1.trans b1, b2⟩
/-- the reference ahead of a clause -/
def MS0 (u : Nat → Nat) (N : Nat) (G : Nat → Int32) (S : Nat → Nat → Int32) (i c : Nat) : Prop := G 15 = nI i ∧ G 16 = nI N ∧ G 25 = nI c ∧ (∀ k, k < N → S 9 k &&& 255 = nI (u k)) ∧ i ≤ N ∧ c ≤ i
theorem m_here0 (hu : HU u N) {G : Nat → Int32} {S : Nat → Nat → Int32} {i c : Nat} (h : MS0 u N G S i c) : sp_X11_here G S = sg (u i) := by
  obtain ⟨h1, h2, h3, h4, h5, h6⟩ := h
  have hm : MSt u N (upd (upd G 24 0) 26 0) S i 0 c [] := by
    refine ⟨?_, ?_, ?_, ?_, ?_, h4, trivial, h5, Nat.zero_le _, h6⟩
    · simp (decide := true) only [uu, if_false]; exact h1
    · simp (decide := true) only [uu, if_false]; exact h2
    · simp (decide := true) only [uu, if_true, if_false]
    · simp (decide := true) only [uu, if_false]; exact h3
    · simp (decide := true) only [uu, if_true]
  have e := m_here hu hm
  unfold sp_X11_here at e ⊢
  simp (decide := true) only [uu, if_false] at e
  exact e
/-- the reference's clause, up to its sum -/
def rcT2 (F : Nat → Int32) (F50 : Nat → Int32) (R51 : Nat → Nat → Int32) : Int32 × (Nat → Int32) × (Nat → Nat → Int32) := k_lt (g_u R51 17 (upd (R51 17) (Int32.toNatClampNeg (F 27)) (F50 25))) (fun R57 => k_lt ((F 27) + 1) (fun x59 => k_lt (upd F50 27 x59) (fun F61 => (1, F61, R57))))
def rcT1 (F : Nat → Int32) (F36 : Nat → Int32) (R37 : Nat → Nat → Int32) : Int32 × (Nat → Int32) × (Nat → Nat → Int32) := k_lt (g_u R37 16 (upd (R37 16) (Int32.toNatClampNeg (F 27)) (F36 25))) (fun R43 => k_lt3 (sp_X11_readsCondition F36 R43) (fun r45 F50 R51 => if r45 = 0 then (0, F50, R51) else rcT2 F F50 R51))
theorem rc_e (F : Nat → Int32) (R : Nat → Nat → Int32) : sp_X11_readsClause F R = k_lt (sp_X11_here F R) (fun r1 => k_lt (sp_X11_isClause F R r1) (fun r7 => if r7 = 0 then k_lt3 (sp_X11_wrongAt F R 1 (F 15)) (fun r78 F82 R83 => (r78, F82, R83)) else if (F 27) = 14 then k_lt3 (sp_X11_wrongAt F R 4 (F 15)) (fun r69 F73 R74 => (r69, F73, R74)) else k_lt (g_u R 14 (upd (R 14) (Int32.toNatClampNeg (F 27)) r1)) (fun R19 => k_lt ((F 15) + 1) (fun x21 => k_lt (upd F 15 x21) (fun F23 => k_lt (g_u R19 15 (upd (R19 15) (Int32.toNatClampNeg (F 27)) (F 25))) (fun R25 => k_lt (upd F23 24 0) (fun F27 => k_lt (upd F27 26 0) (fun F29 => k_lt3 (sp_X11_readsSum F29 R25) (fun r31 F36 R37 => if r31 = 0 then (0, F36, R37) else rcT1 F F36 R37))))))))) := rfl
theorem m_clause (hu : HU u N) {G : Nat → Int32} {S : Nat → Nat → Int32} {i c q : Nat} (h : MS0 u N G S i c) (h27 : G 27 = nI q) (hq : q ≤ 14) : (∀ f, ClF u (PM u N) (PFm u N) i q f → ∃ G' S', sp_X11_readsClause G S = (0, G', S') ∧ G' 17 = f) ∧ (∀ j L L2, ClS u (PM u N) i q j L L2 → ∃ G' S', sp_X11_readsClause G S = (1, G', S') ∧ MS0 u N G' S' j (c + L.length + L2.length) ∧ G' 27 = nI (q + 1) ∧ S' 14 q = sg (u i) ∧ S' 15 q = nI c ∧ S' 16 q = nI (c + L.length) ∧ S' 17 q = nI (c + L.length + L2.length) ∧ CodeM (S' 12) c L ∧ CodeM (S' 12) (c + L.length) L2 ∧ (∀ k, k < c → S' 12 k = S 12 k) ∧ (∀ k, k ≠ q → S' 14 k = S 14 k ∧ S' 15 k = S 15 k ∧ S' 16 k = S 16 k ∧ S' 17 k = S 17 k)) := by
  have hle := HU_le hu i
  have hN := hu.1
  have hh := m_here0 hu h
  have hcl := (lc_M G S (u i) hle).1
  obtain ⟨h1, h2, h3, h4, h5, h6⟩ := h
  have n1 : ¬ (1 : Int32) = 0 := by decide
  -- a letter that is none, or too many
  have bad1 : lc (u i) = 6 → ∃ G' S', sp_X11_readsClause G S = (0, G', S') ∧ G' 17 = ft 1 i := by
    intro z
    refine ⟨upd G 17 (ft 1 i), S, ?_, by rw [uu, if_pos rfl]⟩
    rw [rc_e, k_e, hh, k_e, hcl, if_neg (show ¬ lc (u i) < 6 by omega), if_pos rfl, h1]
    unfold sp_X11_wrongAt
    simp only [k_e, k_t3]
    rfl
  have bad4 : lc (u i) < 6 → q = 14 → ∃ G' S', sp_X11_readsClause G S = (0, G', S') ∧ G' 17 = ft 4 i := by
    intro z z2
    refine ⟨upd G 17 (ft 4 i), S, ?_, by rw [uu, if_pos rfl]⟩
    rw [rc_e, k_e, hh, k_e, hcl, if_pos z, if_neg n1, h27, if_pos (by rw [z2]; rfl), h1]
    unfold sp_X11_wrongAt
    simp only [k_e, k_t3]
    rfl
  -- the sum's start
  have good : lc (u i) < 6 → q < 14 → ∃ F29 R25, MSt u N F29 R25 (i + 1) 0 c [] ∧ R25 14 = upd (S 14) q (sg (u i)) ∧ R25 15 = upd (S 15) q (nI c) ∧ R25 16 = S 16 ∧ R25 17 = S 17 ∧ R25 12 = S 12 ∧ sp_X11_readsClause G S = k_lt3 (sp_X11_readsSum F29 R25) (fun r31 F36 R37 => if r31 = 0 then (0, F36, R37) else rcT1 G F36 R37) := by
    intro z z2
    have hi2 : u i ≠ 256 := by
      intro y
      rw [y] at z
      exact absurd z (by decide)
    have hlt := HU_in hu hi2
    have n14 : ¬ nI q = 14 := fun y => by have := (nI_eq (a := q) (b := 14) (by omega) (by omega)).mp y; omega
    refine ⟨upd (upd (upd G 15 (nI (i + 1))) 24 0) 26 0, g_u (g_u S 14 (upd (S 14) q (sg (u i)))) 15 (upd (S 15) q (nI c)), ⟨?_, ?_, ?_, ?_, ?_, ?_, trivial, by omega, Nat.zero_le _, by omega⟩, ?_, ?_, ?_, ?_, ?_, ?_⟩
    · simp (decide := true) only [uu, if_true, if_false]
    · simp (decide := true) only [uu, if_false]; exact h2
    · simp (decide := true) only [uu, if_true, if_false]
    · simp (decide := true) only [uu, if_false]; exact h3
    · simp (decide := true) only [uu, if_true]
    · simp (decide := true) only [ug, if_false]; exact h4
    · simp (decide := true) only [ug, if_true, if_false]
    · simp (decide := true) only [ug, if_true]
    · simp (decide := true) only [ug, if_false]
    · simp (decide := true) only [ug, if_false]
    · simp (decide := true) only [ug, if_false]
    · have x15 : g_u S 14 (upd (S 14) q (sg (u i))) 15 = S 15 := by rw [ug, if_neg (by decide)]
      rw [rc_e, k_e, hh, k_e, hcl, if_pos z, if_neg n1, h27, if_neg n14, nI_clamp (by omega), h1, h3]
      simp only [k_e]
      rw [x15, nI_1]
  constructor
  · intro f hf
    rcases hf with ⟨z1, z2⟩ | ⟨z1, z2, z3⟩ | ⟨z1, z2, z3⟩ | ⟨j, a, L, z1, z2, z3, z4, z5⟩
    · rw [z2]; exact bad1 z1
    · rw [z3]; exact bad4 z1 z2
    · obtain ⟨F29, R25, g1, g2, g3, g4, g5, g6, g7⟩ := good z1 z2
      obtain ⟨G1, S1, a1, a2⟩ := sum_bad (z3 (by omega)) (fun q W' e => by cases e) g1
      refine ⟨G1, S1, ?_, a2⟩
      rw [g7, a1, k_t3, if_pos rfl]
    · obtain ⟨F29, R25, g1, g2, g3, g4, g5, g6, g7⟩ := good z1 z2
      obtain ⟨G1, S1, a1, a2, a3, a4⟩ := sum_done hu z3.1 (z3.2 (by omega)) z4 (fun q W' e => by cases e) g1
      -- the condition's start
      have hm : MSt u N G1 (g_u S1 16 (upd (S1 16) q (G1 25))) j 0 (c + L.length) [] := by
        obtain ⟨t1, t2, t3, t4, t5, t6, t7⟩ := a2
        refine ⟨t1, t2, t3, t4, t5, ?_, trivial, t7.2⟩
        rw [ug, if_neg (by decide)]
        exact t6
      have hT : ∀ G' S', sp_X11_readsCondition G1 (g_u S1 16 (upd (S1 16) q (G1 25))) = (0, G', S') → sp_X11_readsClause G S = (0, G', S') := by
        intro G' S' e
        rw [g7, a1, k_t3, if_neg n1]
        unfold rcT1
        rw [h27, nI_clamp (by omega), k_e, e, k_t3, if_pos rfl]
      rcases z5 with ⟨y1, y2⟩ | ⟨y1, y2⟩ | ⟨y1, j2, a2', L2, y2, y3, y4, y5, y6⟩
      · obtain ⟨G', S', b1, b2⟩ := m_cond0 hu hm y1
        exact ⟨G', S', hT G' S' b1, by rw [y2]; exact b2⟩
      · obtain ⟨G', S', b1, b2⟩ := m_condF hu hm y1 (y2 (by omega))
        exact ⟨G', S', hT G' S' b1, b2⟩
      · obtain ⟨G', S', b1, b2⟩ := (m_cond hu hm y1 (y2.2 (by omega))).2 y5 y3 y4
        exact ⟨G', S', hT G' S' b1, by rw [y6]; exact b2⟩
  · intro j L L2 hs
    obtain ⟨j1, j2, a, a2', z1, z2, z3, z4, z5, z6, z7, z8, z9, z10, z11, z12⟩ := hs
    obtain ⟨F29, R25, g1, g2, g3, g4, g5, g6, g7⟩ := good z1 z2
    have FR1 := fr_sp_X11_readsSum F29 R25
    obtain ⟨G1, S1, a1, a2, a3, a4⟩ := sum_done hu z3.1 (z3.2 (by omega)) z4 (fun q W' e => by cases e) g1
    rw [a1] at FR1
    have hm : MSt u N G1 (g_u S1 16 (upd (S1 16) q (G1 25))) j1 0 (c + L.length) [] := by
      obtain ⟨t1, t2, t3, t4, t5, t6, t7⟩ := a2
      refine ⟨t1, t2, t3, t4, t5, ?_, trivial, t7.2⟩
      rw [ug, if_neg (by decide)]
      exact t6
    have FR2 := fr_sp_X11_readsCondition G1 (g_u S1 16 (upd (S1 16) q (G1 25)))
    obtain ⟨G2, S2, b1, b2, b3, b4⟩ := (m_cond hu hm z5 (z6.2 (by omega))).1 z9
    rw [b1] at FR2
    have r14 : S2 14 = upd (S 14) q (sg (u i)) := by
      have x1 : S2 14 = g_u S1 16 (upd (S1 16) q (G1 25)) 14 := FR2.2 14 rfl
      have x2 : S1 14 = R25 14 := FR1.2 14 rfl
      rw [x1, ug, if_neg (by decide), x2, g2]
    have r15 : S2 15 = upd (S 15) q (nI c) := by
      have x1 : S2 15 = g_u S1 16 (upd (S1 16) q (G1 25)) 15 := FR2.2 15 rfl
      have x2 : S1 15 = R25 15 := FR1.2 15 rfl
      rw [x1, ug, if_neg (by decide), x2, g3]
    have r16 : S2 16 = upd (S 16) q (nI (c + L.length)) := by
      have x1 : S2 16 = g_u S1 16 (upd (S1 16) q (G1 25)) 16 := FR2.2 16 rfl
      have x2 : S1 16 = R25 16 := FR1.2 16 rfl
      rw [x1, ug, if_pos rfl, x2, g4, a2.2.2.2.1]
    have r17 : S2 17 = S 17 := by
      have x1 : S2 17 = g_u S1 16 (upd (S1 16) q (G1 25)) 17 := FR2.2 17 rfl
      have x2 : S1 17 = R25 17 := FR1.2 17 rfl
      rw [x1, ug, if_neg (by decide), x2, g5]
    have s12 : g_u S1 16 (upd (S1 16) q (G1 25)) 12 = S1 12 := by rw [ug, if_neg (by decide)]
    rw [s12] at b4
    refine ⟨upd G2 27 (nI (q + 1)), g_u S2 17 (upd (S2 17) q (nI (c + L.length + L2.length))), ?_, ⟨?_, ?_, ?_, ?_, ?_, ?_⟩, by rw [uu, if_pos rfl], ?_, ?_, ?_, ?_, ?_, ?_, fun k hk => ?_, fun k hk => ?_⟩
    · rw [g7, a1, k_t3, if_neg n1]
      unfold rcT1 rcT2
      rw [h27, nI_clamp (by omega), k_e, b1, k_t3, if_neg n1]
      simp only [k_e]
      rw [b2.2.2.2.1, nI_1]
    · rw [uu, if_neg (by decide), z10]; exact b2.1
    · rw [uu, if_neg (by decide)]; exact b2.2.1
    · rw [uu, if_neg (by decide)]; exact b2.2.2.2.1
    · rw [ug, if_neg (by decide)]; exact b2.2.2.2.2.2.1
    · rw [z10]; exact b2.2.2.2.2.2.2.2.1
    · rw [z10]; exact b2.2.2.2.2.2.2.2.2.2
    · rw [ug, if_neg (by decide), r14, uu, if_pos rfl]
    · rw [ug, if_neg (by decide), r15, uu, if_pos rfl]
    · rw [ug, if_neg (by decide), r16, uu, if_pos rfl]
    · rw [ug, if_pos rfl, uu, if_pos rfl]
    · rw [ug, if_neg (by decide)]
      exact CodeM_eq L c (fun k k1 k2 => b4 k k2) a3
    · rw [ug, if_neg (by decide)]
      exact b3
    · rw [ug, if_neg (by decide), b4 k (by omega), a4 k hk, g6]
    · rw [ug, if_neg (by decide), ug, if_neg (by decide), ug, if_neg (by decide), ug, if_pos rfl, r14, r15, r16, uu, uu, uu, uu, if_neg hk, if_neg hk, if_neg hk, if_neg hk, r17]
      exact ⟨rfl, rfl, rfl, rfl⟩
end RCM
