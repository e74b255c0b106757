/-! ===== the reference's reader: & and | ===== -/
section RM7
variable {u : Nat → Nat} {N : Nat} {o i : Nat}
theorem OpAt_u {w : Nat → Int32} {Y : List (Nat × Nat)} {y : Nat × Nat} {e : Nat} (h : OpAt w Y) (hy : y.1 ≤ 14 ∧ ∃ v, v < 1048576 ∧ w y.2 = nI (1048576 * y.1 + v)) (he : e < 1048576) : OpAt (upd w y.2 (nI (1048576 * y.1 + e))) Y ∧ (∀ z, z ∈ Y → z.2 = y.2 → z.1 = y.1) := by
  obtain ⟨h14, v, hv, ev⟩ := hy
  have same : ∀ z, z ∈ Y → z.2 = y.2 → z.1 = y.1 := by
    intro z hz e2
    obtain ⟨z14, v2, hv2, ev2⟩ := h z hz
    rw [e2, ev] at ev2
    have := (nI_eq (by omega) (by omega)).mp ev2
    omega
  refine ⟨fun z hz => ?_, same⟩
  obtain ⟨z14, v2, hv2, ev2⟩ := h z hz
  refine ⟨z14, ?_⟩
  by_cases q : z.2 = y.2
  · refine ⟨e, he, ?_⟩
    rw [uu, if_pos q, same z hz q]
  · exact ⟨v2, hv2, by rw [uu, if_neg q]; exact ev2⟩
/-- jumps land -/
theorem m_lands (hu : HU u N) {a0 : Int32} {P : Nat → Prop} (hP : (a0 = 0 ∧ P = fun n => n = 11) ∨ (a0 = 1 ∧ P = fun n => n = 11 ∨ n = 12)) {q : Nat × Nat} {W : List (Nat × Nat)} (hW : ¬ P q.1) {F0 : Nat → Int32} {c : Nat} (h25 : F0 25 = nI c) (hc20 : c < 1048576) : ∀ (Y : List (Nat × Nat)) (n : Nat) (G : Nat → Int32) (S : Nat → Nat → Int32), Y.length < n → (∀ y, y ∈ Y → P y.1) → OpAt (S 12) Y → MSt u N G S i o c (Y ++ q :: W) → ∃ G' S', K_X11_lands_0 F0 a0 n G S = (G', S') ∧ MSt u N G' S' i o c (q :: W) ∧ Lnd (S 12) (S' 12) Y c
  | [], n, G, S, hn, hY, hO, h => by
    obtain ⟨n, rfl⟩ : ∃ n', n = n' + 1 := ⟨n - 1, by omega⟩
    have h : MSt u N G S i o c (q :: W) := h
    have h14 : q.1 ≤ 14 := h.2.2.2.2.2.2.1.2.1
    refine ⟨G, S, ?_, h, fun y hy => (by cases hy), fun _ _ => rfl⟩
    rw [ks_X11_lands_0]
    unfold KB_X11_lands_0
    simp only [k_e]
    rw [m_top h hu.1]
    have e11 : nI q.1 = 11 ↔ q.1 = 11 := nI_eq (b := 11) (by omega) (by omega)
    have e12 : nI q.1 = 12 ↔ q.1 = 12 := nI_eq (b := 12) (by omega) (by omega)
    rcases hP with ⟨r1, r2⟩ | ⟨r1, r2⟩
    · rw [r2] at hW
      rw [if_neg (fun z => hW (e11.mp z)), if_pos r1]
    · rw [r2] at hW
      have na : ¬ a0 = 0 := by rw [r1]; decide
      rw [if_neg (fun z => hW (Or.inl (e11.mp z))), if_neg na, if_neg (fun z => hW (Or.inr (e12.mp z)))]
  | y :: Y, n, G, S, hn, hY, hO, h => by
    obtain ⟨n, rfl⟩ : ∃ n', n = n' + 1 := ⟨n - 1, by omega⟩
    simp only [List.length_cons] at hn
    have h : MSt u N G S i o c (y :: (Y ++ q :: W)) := h
    have hN := hu.1
    have hiN := h.2.2.2.2.2.2.2.1
    have hwl := h.2.2.2.2.2.2.2.2.1
    have hci := h.2.2.2.2.2.2.2.2.2
    simp only [List.length_cons] at hwl
    have h14 : y.1 ≤ 14 := h.2.2.2.2.2.2.1.2.1
    have hr : y.2 < 1048576 := h.2.2.2.2.2.2.1.2.2.1
    have hw : S 13 (Y ++ q :: W).length = nI (1048576 * y.1 + y.2) := h.2.2.2.2.2.2.1.1
    have hO1 := hO y List.mem_cons_self
    obtain ⟨_, v, hv, ev⟩ := hO1
    have hOu := OpAt_u (e := c) (fun z hz => hO z (List.mem_cons_of_mem _ hz)) (hO y List.mem_cons_self) hc20
    have e26 : G 26 - 1 = nI (Y ++ q :: W).length := by
      rw [h.2.2.2.2.1]
      exact nI_pred _
    -- the new state
    have hst : MSt u N (upd G 26 (G 26 - 1)) (g_u S 12 (upd (S 12) y.2 (nI (1048576 * y.1 + c)))) i o c (Y ++ q :: W) := by
      obtain ⟨p1, p2, p3, p4, p5, p6, p7, p8, p9, p10⟩ := m_pop h
      refine ⟨p1, p2, p3, p4, p5, ?_, ?_, p8, p9, p10⟩
      · rw [ug, if_neg (by decide)]; exact p6
      · rw [ug, if_neg (by decide)]; exact p7
    have eS12 : g_u S 12 (upd (S 12) y.2 (nI (1048576 * y.1 + c))) 12 = upd (S 12) y.2 (nI (1048576 * y.1 + c)) := by rw [ug, if_pos rfl]
    obtain ⟨G', S', r1, r2, r3, r4⟩ := m_lands hu hP hW h25 hc20 Y n (upd G 26 (G 26 - 1)) (g_u S 12 (upd (S 12) y.2 (nI (1048576 * y.1 + c)))) (by omega) (fun z hz => hY z (List.mem_cons_of_mem _ hz)) (by rw [eS12]; exact hOu.1) hst
    rw [eS12] at r4
    have hstep : K_X11_lands_0 F0 a0 (n + 1) G S = K_X11_lands_0 F0 a0 n (upd G 26 (G 26 - 1)) (g_u S 12 (upd (S 12) y.2 (nI (1048576 * y.1 + c)))) := by
      rw [ks_X11_lands_0]
      unfold KB_X11_lands_0
      simp only [k_e]
      have d1 := m_dec h14 hr
      have d2 := m_dec (o := y.1) h14 hv
      rw [m_top h hN, e26, nI_clamp (by omega), hw, d1.1, d1.2, nI_clamp (by omega), ev, d2.1, h25, m_enc]
      have e11 : nI y.1 = 11 ↔ y.1 = 11 := nI_eq (b := 11) (by omega) (by omega)
      have e12 : nI y.1 = 12 ↔ y.1 = 12 := nI_eq (b := 12) (by omega) (by omega)
      have hy := hY y List.mem_cons_self
      rcases hP with ⟨q1, q2⟩ | ⟨q1, q2⟩
      · rw [q2] at hy
        rw [if_pos (e11.mpr hy)]
      · rw [q2] at hy
        have na : ¬ a0 = 0 := by rw [q1]; decide
        by_cases z : y.1 = 11
        · rw [if_pos (e11.mpr z)]
        · rcases hy with hy | hy
          · exact absurd hy z
          · rw [if_neg (fun t => z (e11.mp t)), if_neg na, if_pos (e12.mpr hy)]
    refine ⟨G', S', hstep.trans r1, r2, fun z hz => ?_, fun k hk => ?_⟩
    · by_cases m : ∃ z', z' ∈ Y ∧ z'.2 = z.2
      · obtain ⟨z', m1, m2⟩ := m
        have e1 := r3 z' m1
        rw [m2] at e1
        rw [e1]
        have hz14 := hO z hz
        have hz' := hO z' (List.mem_cons_of_mem _ m1)
        obtain ⟨t1, v1, t2, t3⟩ := hz14
        obtain ⟨s1, v2, s2, s3⟩ := hz'
        rw [m2, t3] at s3
        have := (nI_eq (by omega) (by omega)).mp s3
        rw [show z'.1 = z.1 from by omega]
      · have hzy : z = y := by
          rcases List.mem_cons.mp hz with t | t
          · exact t
          · exact absurd ⟨z, t, rfl⟩ m
        rw [r4 z.2 (fun z' t1 t2 => m ⟨z', t1, t2⟩), hzy, uu, if_pos rfl]
    · have hky := hk y List.mem_cons_self
      rw [r4 k (fun z hz => hk z (List.mem_cons_of_mem _ hz)), uu, if_neg (fun t => hky t.symm)]
/-- a jump is said, and waits -/
theorem m_jumps (hu : HU u N) {op : Nat} {G : Nat → Int32} {S : Nat → Nat → Int32} {c : Nat} {W : List (Nat × Nat)} (h : MSt u N G S i o c W) (hi : u i ≠ 256) (hop : op ≤ 14) : ∃ G' S', sp_X11_jumps G S (nI op) = (G', S') ∧ MSt u N G' S' (i + 1) o (c + 1) ((op, c) :: W) ∧ S' 12 = upd (S 12) c (nI (1048576 * op + 0)) := by
  have hN := hu.1
  have hlt := HU_in hu hi
  have hc := h.2.2.2.2.2.2.2.2.2
  have hl := h.2.2.2.2.2.2.2.2.1
  -- one after another
  have e1 : sp_X11_jumps G S (nI op) = (upd (upd (upd G 26 (nI (W.length + 1))) 25 (nI (c + 1))) 15 (nI (i + 1)), g_u (g_u S 13 (upd (S 13) W.length (nI (1048576 * op + c)))) 12 (upd (S 12) c (nI (1048576 * op + 0)))) := by
    unfold sp_X11_jumps sp_X11_notes
    simp only [k_e, k_t2]
    have e25 : upd G 26 (nI (W.length + 1)) 25 = nI c := by
      rw [uu, if_neg (by decide)]
      exact h.2.2.2.1
    have e13 : g_u S 13 (upd (S 13) W.length (nI (1048576 * op + c))) 12 = S 12 := by rw [ug, if_neg (by decide)]
    have e0 : (1048576 : Int32) * nI op + 0 = nI (1048576 * op + 0) := m_enc op 0
    rw [h.2.2.2.1, h.2.2.2.2.1, h.1, m_enc, nI_1, nI_clamp (show W.length < 2 ^ 31 by omega), e25, e13, nI_clamp (show c < 2 ^ 31 by omega), e0, nI_1, nI_1]
  refine ⟨_, _, e1, ?_, by rw [ug, if_pos rfl]⟩
  obtain ⟨h1, h2, h3, h4, h5, h6, h7, h8, h9, h10⟩ := h
  refine ⟨?_, ?_, ?_, ?_, ?_, ?_, ?_, by omega, by simp only [List.length_cons]; omega, by omega⟩
  · rw [uu, if_pos rfl]
  · simp (decide := true) only [uu, if_false]; exact h2
  · simp (decide := true) only [uu, if_false]; exact h3
  · simp (decide := true) only [uu, if_true, if_false]
  · simp (decide := true) only [uu, if_true, if_false]
    rfl
  · rw [ug, if_neg (by decide), ug, if_neg (by decide)]; exact h6
  · rw [ug, if_neg (by decide), ug, if_pos rfl]
    exact ⟨by rw [uu, if_pos rfl], hop, by show c < 1048576; omega, WX_eq W (fun k hk => by rw [uu, if_neg (by omega)]) h7⟩
/-- an & or | -/
theorem m_and (hu : HU u N) {b : (Nat → Int32) → (Nat → Nat → Int32) → Int32 × (Nat → Int32) × (Nat → Nat → Int32)} {m c op : Nat} {P : Nat → Prop} (hP : (u i = 38 ∧ op = 11 ∧ P = fun n => n = 11) ∨ (u i = 124 ∧ op = 12 ∧ P = fun n => n = 11 ∨ n = 12)) {q : Nat × Nat} {Y W : List (Nat × Nat)} (hW : ¬ P q.1) {G : Nat → Int32} {S : Nat → Nat → Int32} (hY : ∀ y, y ∈ Y → P y.1) (hO : OpAt (S 12) Y) (h : MSt u N G S i o c (Y ++ q :: W)) : ∃ G1 S1 S0, K_X11_readsCondition_92 b (m + 1) G S = b G1 S1 ∧ MSt u N G1 S1 (i + 1) o (c + 1) ((op, c) :: q :: W) ∧ Lnd (S 12) S0 Y c ∧ S1 12 = upd S0 c (nI (1048576 * op + 0)) := by
  have hN := hu.1
  have hle := HU_le hu i
  have hiN := h.2.2.2.2.2.2.2.1
  have hc := h.2.2.2.2.2.2.2.2.2
  have hl := h.2.2.2.2.2.2.2.2.1
  rw [List.length_append] at hl
  have h11 : op = 11 ∨ op = 12 := by
    rcases hP with ⟨_, z, _⟩ | ⟨_, z, _⟩
    · exact Or.inl z
    · exact Or.inr z
  have hi : u i ≠ 256 := by
    rcases hP with ⟨z, _⟩ | ⟨z, _⟩ <;> omega
  obtain ⟨a0, ha⟩ : ∃ a0 : Int32, (a0 = 0 ∧ P = fun n => n = 11) ∨ (a0 = 1 ∧ P = fun n => n = 11 ∨ n = 12) := by
    rcases hP with ⟨_, _, z⟩ | ⟨_, _, z⟩
    · exact ⟨0, Or.inl ⟨rfl, z⟩⟩
    · exact ⟨1, Or.inr ⟨rfl, z⟩⟩
  obtain ⟨G2, S2, r1, r2, r3⟩ := m_lands hu ha hW h.2.2.2.1 (by omega) Y 8589934592 G S (by omega) hY hO h
  obtain ⟨G3, S3, t1, t2, t3⟩ := m_jumps (op := op) hu r2 hi (by omega)
  refine ⟨G3, S3, S2 12, ?_, t2, r3, t3⟩
  have r1' : sp_X11_lands G S a0 = (G2, S2) := r1
  rw [K92_e]
  unfold KB_X11_readsCondition_92 K_X11_readsCondition_180 K_X11_readsCondition_195 K_X11_readsCondition_215
  simp only [k_e]
  rw [m_here hu h, if_sg 41 41 rfl hle (by omega), if_sg 38 38 rfl hle (by omega), if_sg 124 124 rfl hle (by omega)]
  rcases hP with ⟨z1, z2, z3⟩ | ⟨z1, z2, z3⟩
  · have e0 : a0 = 0 := by
      rcases ha with ⟨y, _⟩ | ⟨_, y⟩
      · exact y
      · rw [z3] at y
        have := congrFun y 12
        exact absurd (this.mpr (Or.inr rfl)) (by decide)
    rw [if_neg (by omega), if_pos z1, if_neg (show ¬ u i = 124 by omega), ← e0, r1']
    simp only [k_t2]
    rw [m_here hu r2, if_sg 38 38 rfl hle (by omega), if_pos z1]
    have t1' : sp_X11_jumps G2 S2 11 = (G3, S3) := by
      rw [z2] at t1
      exact t1
    rw [t1']
    simp only [k_t2]
  · have e0 : a0 = 1 := by
      rcases ha with ⟨_, y⟩ | ⟨y, _⟩
      · rw [z3] at y
        have := congrFun y 12
        exact absurd (this.mp (Or.inr rfl)) (by decide)
      · exact y
    rw [if_neg (by omega), if_neg (by omega), if_pos z1, if_sg 124 124 rfl hle (by omega), if_pos z1, ← e0, r1']
    simp only [k_t2]
    rw [m_here hu r2, if_sg 38 38 rfl hle (by omega), if_neg (by omega)]
    have t1' : sp_X11_jumps G2 S2 12 = (G3, S3) := by
      rw [z2] at t1
      exact t1
    rw [t1']
    simp only [k_t2]
end RM7
