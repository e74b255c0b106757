/-! ===== the reference's reader: brackets, operators ===== -/
theorem WX_no14 {w : Nat → Int32} : ∀ (q W : List (Nat × Nat)), WX w (q ++ W) → (∀ x, x ∈ q → Qa x) → ∀ m, W.length ≤ m → m < (q ++ W).length → ¬ w m / 1048576 = 14
  | [], W, _, _, m, h1, h2 => by
    have h2 : m < W.length := h2
    omega
  | x :: q, W, h, hq, m, h1, h2 => by
    have h : WX w (x :: (q ++ W)) := h
    obtain ⟨w1, w2, w3, w4⟩ := h
    have e : (x :: q ++ W).length = (q ++ W).length + 1 := rfl
    by_cases z : m = (q ++ W).length
    · rw [z, w1, (m_dec w2 w3).1]
      obtain ⟨a1, a2⟩ : 2 ≤ x.1 ∧ x.1 ≤ 6 := hq x List.mem_cons_self
      intro y
      have := (nI_eq (a := x.1) (b := 14) (by omega) (by omega)).mp y
      omega
    · exact WX_no14 q W w4 (fun y hy => hq y (List.mem_cons_of_mem _ hy)) m h1 (by omega)
section RM4
variable {u : Nat → Nat} {N : Nat} {o i : Nat}
theorem m_has_in {G : Nat → Int32} {S : Nat → Nat → Int32} {c b : Nat} {q W : List (Nat × Nat)} (hN : N ≤ 200) (h : MSt u N G S i o c (q ++ (14, 0) :: W)) (hb : b ≤ W.length) : sp_X11_hasOpenSum G S (nI b) = 1 := by
  obtain ⟨h1, h2, h3, h4, h5, h6, h7, h8, h9, h10⟩ := h
  have w := WX_tail q _ h7
  have e : (q ++ (14, 0) :: W).length = q.length + (W.length + 1) := by simp
  rw [e] at h9
  have h14 : S 13 W.length / 1048576 = 14 := by
    rw [w.1]
    exact (m_dec w.2.1 w.2.2.1).1
  exact m_has1 h5 (by omega) (by omega) h14 (W.length - b) b (by omega) 8589934592 (by omega)
theorem m_has_out {G : Nat → Int32} {S : Nat → Nat → Int32} {c : Nat} {q W : List (Nat × Nat)} (hN : N ≤ 200) (h : MSt u N G S i o c (q ++ W)) (hq : ∀ x, x ∈ q → Qa x) : sp_X11_hasOpenSum G S (nI W.length) = 0 := by
  obtain ⟨h1, h2, h3, h4, h5, h6, h7, h8, h9, h10⟩ := h
  have e : (q ++ W).length = q.length + W.length := by simp
  have w := WX_no14 q W h7 hq
  exact m_has0 h5 (by omega) q.length W.length (by omega) w 8589934592 (by omega)
theorem m_ss (G : Nat → Int32) (S : Nat → Nat → Int32) {n : Nat} (hn : n ≤ 256) : (mul n → sp_X11_sumSign G S (sg n) = nI (mop n)) ∧ (adds n → sp_X11_sumSign G S (sg n) = nI (aop n)) ∧ (nop n → sp_X11_sumSign G S (sg n) = -1) := by
  unfold sp_X11_sumSign
  rw [if_sg 43 43 rfl hn (by omega), if_sg 45 45 rfl hn (by omega), if_sg 42 42 rfl hn (by omega), if_sg 47 47 rfl hn (by omega), if_sg 37 37 rfl hn (by omega)]
  unfold mul adds nop mop aop
  refine ⟨fun h => ?_, fun h => ?_, fun h => ?_⟩
  · rcases h with h | h | h
    · subst h
      rfl
    · subst h
      rfl
    · subst h
      rfl
  · rcases h with h | h
    · subst h
      rfl
    · subst h
      rfl
  · obtain ⟨h1, h2⟩ := h
    unfold mul adds at *
    rw [if_neg (by omega), if_neg (by omega), if_neg (by omega), if_neg (by omega), if_neg (by omega)]
theorem K14_step (m : Nat) (F0 G : Nat → Int32) (S : Nat → Nat → Int32) : K_X11_readsSum_14 F0 (m + 1) G S = KB_X11_readsSum_14 (K_X11_readsSum_14 F0 m) F0 G S := rfl
theorem tops_14 {Q : Nat × Nat → Prop} (hQ : ∀ x, Q x → Qa x) {r : Nat} {W : List (Nat × Nat)} : tops Q ((14, r) :: W) := by
  intro q W' e h
  have e1 : q = (14, r) := (List.cons.inj e).1.symm
  have h2 : 2 ≤ q.1 ∧ q.1 ≤ 6 := hQ q h
  rw [e1] at h2
  simp only at h2
  omega
/-- the [ is passed -/
theorem FA_sqr (hu : HU u N) {F0 G : Nat → Int32} {S : Nat → Nat → Int32} {c n m : Nat} {W : List (Nat × Nat)} (h : MSt u N G S i o c W) (h91 : u i = 91) (ho : o < 6) : ∃ G1 S1, FAc (n + 1) m F0 G S = FAc n m F0 G1 S1 ∧ MSt u N G1 S1 (i + 1) (o + 1) c ((14, 0) :: W) ∧ S1 12 = S 12 := by
  have hle := HU_le hu i
  obtain ⟨G1, S1, a1, a2, a3⟩ := m_opens (s := 14) hu h (by omega) (by omega) ho
  refine ⟨G1, S1, ?_, a2, a3⟩
  rw [FA_step]
  unfold KB_X11_readsFactor_0
  simp only [k_e]
  have a1' : sp_X11_opens G S 14 = (1, G1, S1) := a1
  rw [m_here hu h, if_sg 91 91 rfl hle (by omega), if_pos h91, a1']
  simp only [k_t3]
  rw [if_neg (by decide)]
  rfl
theorem pm_sqr (hu : HU u N) {Q : Nat × Nat → Prop} {j : Nat} {L : List Cd} (h91 : u i = 91) (ho : o < 6) (hlen : i + 1 + L.length ≤ j) (ih : PMF u N Qa (o + 1) (i + 1) j L) (hj : u j = 93) : PMF u N Q o i (j + 1) L := by
  intro F0 b G S c W n m hb hbW hW h hfn hfm
  have hiN := h.2.2.2.2.2.2.2.1
  have hN := hu.1
  have hc := h.2.2.2.2.2.2.2.2.2
  obtain ⟨n, rfl⟩ : ∃ n', n = n' + 1 := ⟨n - 1, by omega⟩
  obtain ⟨G1, S1, a1, a2, a3⟩ := FA_sqr (n := n) (m := m) (F0 := F0) hu h h91 ho
  obtain ⟨m', G', S', K, q, b1, b2, b3, b4, b5, b6, b7⟩ := ih F0 b G1 S1 c ((14, 0) :: W) n m hb (by simp only [List.length_cons]; omega) (tops_14 (fun _ z => z)) a2 (by omega) (by omega)
  have hjN := b3.2.2.2.2.2.2.2.1
  have hle := HU_le hu j
  obtain ⟨m', rfl⟩ : ∃ n', m' = n' + 1 := ⟨m' - 1, by omega⟩
  have eL : L.length = K.length + q.length := by rw [b6, List.length_append, qc_len]
  obtain ⟨G2, S2, d1, d2, d3, d4⟩ := m_close (a0 := 1) (Q := Qa) hu (Or.inr ⟨rfl, rfl⟩) (tops_14 (fun _ z => z)) q 8589934592 _ G' S' (by have e := b3.2.2.2.2.2.2.2.2.1; rw [List.length_append] at e; omega) b7 b3 (by omega)
  have p1 := m_pop d2
  have hj2 : u j ≠ 256 := by omega
  have hjlt := HU_in hu hj2
  refine ⟨m', upd (upd (upd G2 26 (G2 26 - 1)) 24 (G' 24 - 1)) 15 (G' 15 + 1), S2, K ++ qc q, [], ?_, by omega, ?_, ?_, fun k hk => ?_, by simp [qc]; rw [b6]; simp [qc], fun x hx => by cases hx⟩
  · rw [a1, b1, K14_step]
    unfold KB_X11_readsSum_14
    simp only [k_e]
    have e0 : ¬ sp_X11_hasOpenSum G' S' (nI b) = 0 := by
      rw [m_has_in hN b3 hbW]
      decide
    have d1' : sp_X11_closesSums G' S' 1 = (G2, S2) := d1
    rw [m_here hu b3, (m_ss G' S' hle).2.2 ⟨by unfold mul; omega, by unfold adds; omega⟩, if_pos rfl, if_sg 93 93 rfl hle (by omega), if_pos hj, hb, if_neg e0, d1']
    simp only [k_t2]
  · obtain ⟨h1, h2, h3, h4, h5, h6, h7, h8, h9, h10⟩ := p1
    refine ⟨?_, ?_, ?_, ?_, ?_, h6, h7, by omega, ?_, ?_⟩
    · rw [uu, if_pos rfl, b3.1, nI_1]
    · rw [uu, if_neg (by decide), uu, if_neg (by decide)]; exact h2
    · rw [uu, if_neg (by decide), uu, if_pos rfl, b3.2.2.1, nI_pred]
    · rw [uu, if_neg (by decide), uu, if_neg (by decide), h4, List.length_append, qc_len, Nat.add_assoc]
    · rw [uu, if_neg (by decide), uu, if_neg (by decide)]; exact h5
    · show W.length ≤ j + 1
      omega
    · rw [List.length_append, qc_len]
      omega
  · rw [CodeM_app]
    exact ⟨CodeM_eq K c (fun k k1 k2 => d4 k (by omega)) b4, d3⟩
  · rw [d4 k (by omega), b5 k hk, a3]
theorem pf_sqrF (hu : HU u N) {Q : Nat × Nat → Prop} {j : Nat} {L : List Cd} (h91 : u i = 91) (ho : o < 6) (ih : PMF u N Qa (o + 1) (i + 1) j L) (hn : nop (u j)) (hj : u j ≠ 93) : PFF u N Q o i (ft 1 j) := by
  intro F0 b G S c W n m hb hbW hW h hfn hfm
  have hiN := h.2.2.2.2.2.2.2.1
  have hN := hu.1
  obtain ⟨n, rfl⟩ : ∃ n', n = n' + 1 := ⟨n - 1, by omega⟩
  obtain ⟨G1, S1, a1, a2, a3⟩ := FA_sqr (n := n) (m := m) (F0 := F0) hu h h91 ho
  obtain ⟨m', G', S', K, q, b1, b2, b3, b4, b5, b6, b7⟩ := ih F0 b G1 S1 c ((14, 0) :: W) n m hb (by simp only [List.length_cons]; omega) (tops_14 (fun _ z => z)) a2 (by omega) (by omega)
  have hjN := b3.2.2.2.2.2.2.2.1
  have hle := HU_le hu j
  obtain ⟨m', rfl⟩ : ∃ n', m' = n' + 1 := ⟨m' - 1, by omega⟩
  refine ⟨upd G' 17 (ft 1 j), S', ?_, by rw [uu, if_pos rfl]⟩
  rw [a1, b1, K14_step]
  unfold KB_X11_readsSum_14
  simp only [k_e]
  have e0 : ¬ sp_X11_hasOpenSum G' S' (nI b) = 0 := by
    rw [m_has_in hN b3 hbW]
    decide
  rw [m_here hu b3, (m_ss G' S' hle).2.2 hn, if_pos rfl, if_sg 93 93 rfl hle (by omega), if_neg hj, hb, if_neg e0, m_wrong b3]
  simp only [k_t3]
theorem pf_sqrG (hu : HU u N) {Q : Nat × Nat → Prop} {f : Int32} (h91 : u i = 91) (ho : o < 6) (ih : PFF u N Qa (o + 1) (i + 1) f) : PFF u N Q o i f := by
  intro F0 b G S c W n m hb hbW hW h hfn hfm
  have hiN := h.2.2.2.2.2.2.2.1
  have hN := hu.1
  obtain ⟨n, rfl⟩ : ∃ n', n = n' + 1 := ⟨n - 1, by omega⟩
  obtain ⟨G1, S1, a1, a2, a3⟩ := FA_sqr (n := n) (m := m) (F0 := F0) hu h h91 ho
  obtain ⟨G', S', b1, b2⟩ := ih F0 b G1 S1 c ((14, 0) :: W) n m hb (by simp only [List.length_cons]; omega) (tops_14 (fun _ z => z)) a2 (by omega) (by omega)
  exact ⟨G', S', a1.trans b1, b2⟩
theorem pf_sqrO (hu : HU u N) {Q : Nat × Nat → Prop} (h91 : u i = 91) (ho : o = 6) : PFF u N Q o i (ft 5 i) := by
  intro F0 b G S c W n m hb hbW hW h hfn hfm
  have hiN := h.2.2.2.2.2.2.2.1
  have hN := hu.1
  have hle := HU_le hu i
  subst ho
  obtain ⟨n, rfl⟩ : ∃ n', n = n' + 1 := ⟨n - 1, by omega⟩
  obtain ⟨G1, S1, a1, a2⟩ := m_opens6 (s := 14) h
  refine ⟨G1, S1, ?_, a2⟩
  rw [FA_step]
  unfold KB_X11_readsFactor_0
  simp only [k_e]
  rw [m_here hu h, if_sg 91 91 rfl hle (by omega), if_pos h91, a1]
  simp only [k_t3, if_true]
/-- an operator is passed -/
theorem m_op (hu : HU u N) {F0 G : Nat → Int32} {S : Nat → Nat → Int32} {c m s : Nat} {q0 W : List (Nat × Nat)} {Q : Nat × Nat → Prop} (hs : (mul (u i) ∧ s = mop (u i) ∧ Q = Qm) ∨ (adds (u i) ∧ s = aop (u i) ∧ Q = Qa)) (hW : tops Q W) (h : MSt u N G S i o c (q0 ++ W)) (hq : ∀ x, x ∈ q0 → Q x) (hc : c + q0.length ≤ i) : ∃ G1 S1, K_X11_readsSum_14 F0 (m + 1) G S = FAc 8589934592 m F0 G1 S1 ∧ MSt u N G1 S1 (i + 1) o (c + q0.length) ((s, 0) :: W) ∧ CodeM (S1 12) c (qc q0) ∧ (∀ k, k < c → S1 12 k = S 12 k) := by
  have hiN := h.2.2.2.2.2.2.2.1
  have hN := hu.1
  have hle := HU_le hu i
  have hl := h.2.2.2.2.2.2.2.2.1
  rw [List.length_append] at hl
  have hi : u i ≠ 256 := by
    rcases hs with ⟨z, _⟩ | ⟨z, _⟩
    · unfold mul at z; omega
    · unfold adds at z; omega
  have hss : sp_X11_sumSign G S (sg (u i)) = nI s := by
    rcases hs with ⟨z, z2, _⟩ | ⟨z, z2, _⟩
    · rw [z2]; exact (m_ss G S hle).1 z
    · rw [z2]; exact (m_ss G S hle).2.1 z
  have hs14 : 2 ≤ s ∧ s ≤ 6 := by
    rcases hs with ⟨_, z2, _⟩ | ⟨_, z2, _⟩
    · rw [z2]; unfold mop; split; omega; split <;> omega
    · rw [z2]; unfold aop; split <;> omega
  have hall : ∃ y : Int32, ((y = 0 ∧ Q = Qm) ∨ (y = 1 ∧ Q = Qa)) ∧ (if 4 ≤ nI s then K_X11_readsSum_38 (K_X11_readsSum_14 F0 m) G S (nI s) 0 else K_X11_readsSum_38 (K_X11_readsSum_14 F0 m) G S (nI s) 1) = K_X11_readsSum_38 (K_X11_readsSum_14 F0 m) G S (nI s) y := by
    have e4 : (4 : Int32) ≤ nI s ↔ 4 ≤ s := nI_leI (a := 4) (by omega) (by omega)
    rcases hs with ⟨_, z2, z3⟩ | ⟨_, z2, z3⟩
    · refine ⟨0, Or.inl ⟨rfl, z3⟩, ?_⟩
      rw [if_pos (e4.mpr (by rw [z2]; unfold mop; split; omega; split <;> omega))]
    · refine ⟨1, Or.inr ⟨rfl, z3⟩, ?_⟩
      rw [if_neg (fun y => by have := e4.mp y; rw [z2] at this; unfold aop at this; split at this <;> omega)]
  obtain ⟨y, y1, y2⟩ := hall
  obtain ⟨G2, S2, d1, d2, d3, d4⟩ := m_close (a0 := y) (Q := Q) hu y1 hW q0 8589934592 c G S (by omega) hq h hc
  refine ⟨upd (upd G2 26 (nI (W.length + 1))) 15 (nI (i + 1)), g_u S2 13 (upd (S2 13) W.length (nI (1048576 * s + 0))), ?_, ?_, ?_, ?_⟩
  · rw [K14_step]
    unfold KB_X11_readsSum_14
    simp only [k_e]
    have nx : ¬ nI s = -1 := fun z => by
      have h2 : (-1 : Int32) < 0 := by decide
      rw [← z] at h2
      exact nI_pos (by omega) h2
    rw [m_here hu h, hss, if_neg nx, y2]
    unfold K_X11_readsSum_38
    simp only [k_e]
    have d1' : sp_X11_closesSums G S y = (G2, S2) := d1
    rw [d1']
    simp only [k_t2]
    rw [d2.2.2.2.2.1, h.1, nI_1, nI_1, m_enc0, nI_clamp (by omega)]
    rfl
  · refine m_push hu d2 (by omega) (by omega) hi o _ _ ?_ ?_ ?_ ?_ ?_ ?_ ?_
    · rw [uu, if_pos rfl]
    · simp (decide := true) only [uu, if_false]
    · simp (decide := true) only [uu, if_false]
      exact d2.2.2.1
    · simp (decide := true) only [uu, if_false]
    · simp (decide := true) only [uu, if_true, if_false]
    · rw [ug, if_neg (by decide)]
    · rw [ug, if_pos rfl]
  · rw [ug, if_neg (by decide)]
    exact d3
  · rw [ug, if_neg (by decide)]
    exact d4
end RM4
