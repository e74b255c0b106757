/-! ===== the reference's reader: sums, comparisons ===== -/
section RM5
variable {u : Nat → Nat} {N : Nat} {o i : Nat}
theorem pm_rest0 {Q : Nat × Nat → Prop} : PMR u N Q o i i [] := by
  intro F0 b G S c W m q0 hb hbW hW h hq hc hfm
  exact ⟨m, G, S, [], q0, rfl, hfm, h, trivial, fun _ _ => rfl, by simp, hq⟩
def OpS (u : Nat → Nat) (i s : Nat) (Q Qs : Nat × Nat → Prop) : Prop := (mul (u i) ∧ s = mop (u i) ∧ Q = Qm ∧ Qs = Qn) ∨ (adds (u i) ∧ s = aop (u i) ∧ Q = Qa ∧ Qs = Qm)
theorem OpS_w {s : Nat} {Q Qs : Nat × Nat → Prop} (h : OpS u i s Q Qs) : (mul (u i) ∧ s = mop (u i) ∧ Q = Qm) ∨ (adds (u i) ∧ s = aop (u i) ∧ Q = Qa) := by
  rcases h with ⟨a, b, c, d⟩ | ⟨a, b, c, d⟩
  · exact Or.inl ⟨a, b, c⟩
  · exact Or.inr ⟨a, b, c⟩
theorem OpS_t {s : Nat} {Q Qs : Nat × Nat → Prop} (h : OpS u i s Q Qs) (W : List (Nat × Nat)) : tops Qs ((s, 0) :: W) := by
  intro q W' e hq
  have e1 : q = (s, 0) := (List.cons.inj e).1.symm
  rw [e1] at hq
  rcases h with ⟨a, b, c, d⟩ | ⟨a, b, c, d⟩
  · rw [d] at hq
    exact hq
  · rw [d] at hq
    obtain ⟨x1, x2⟩ : 4 ≤ s ∧ s ≤ 6 := hq
    rw [b] at x1
    unfold aop at x1
    split at x1 <;> omega
theorem OpS_q {s : Nat} {Q Qs : Nat × Nat → Prop} (h : OpS u i s Q Qs) : Q (s, 0) ∧ ∀ x, Qs x → Q x := by
  rcases h with ⟨a, b, c, d⟩ | ⟨a, b, c, d⟩
  · rw [c, d, b]
    refine ⟨?_, fun x hx => hx.elim⟩
    show 4 ≤ mop (u i) ∧ mop (u i) ≤ 6
    unfold mop
    split
    · omega
    · split <;> omega
  · rw [c, d, b]
    refine ⟨?_, fun x hx => ?_⟩
    · show 2 ≤ aop (u i) ∧ aop (u i) ≤ 6
      unfold aop
      split <;> omega
    · obtain ⟨x1, x2⟩ : 4 ≤ x.1 ∧ x.1 ≤ 6 := hx
      exact ⟨by omega, x2⟩
theorem pm_rest1 (hu : HU u N) {Q Qs : Nat × Nat → Prop} {s j j2 : Nat} {L L2 : List Cd} (hs : OpS u i s Q Qs) (hlen : i + 1 + L.length ≤ j) (ih1 : PMF u N Qs o (i + 1) j L) (ih2 : PMR u N Q o j j2 L2) : PMR u N Q o i j2 (L ++ (s, 0, 0) :: L2) := by
  intro F0 b G S c W m q0 hb hbW hW h hq hc hfm
  have hiN := h.2.2.2.2.2.2.2.1
  have hN := hu.1
  obtain ⟨m, rfl⟩ : ∃ n', m = n' + 1 := ⟨m - 1, by omega⟩
  obtain ⟨G1, S1, a1, a2, a3, a4⟩ := m_op (m := m) (F0 := F0) hu (OpS_w hs) hW h hq hc
  obtain ⟨m1, G2, S2, K1, q1, b1, b2, b3, b4, b5, b6, b7⟩ := ih1 F0 b G1 S1 (c + q0.length) ((s, 0) :: W) 8589934592 m hb (by simp only [List.length_cons]; omega) (OpS_t hs W) a2 (by omega) (by omega)
  have eL : L.length = K1.length + q1.length := by rw [b6, List.length_append, qc_len]
  have hq1 : ∀ x, x ∈ q1 ++ [(s, 0)] → Q x := by
    intro x hx
    rcases List.mem_append.mp hx with z | z
    · exact (OpS_q hs).2 x (b7 x z)
    · rw [List.mem_singleton.mp z]
      exact (OpS_q hs).1
  have b3' : MSt u N G2 S2 j o (c + q0.length + K1.length) ((q1 ++ [(s, 0)]) ++ W) := by
    rw [List.append_assoc]
    exact b3
  obtain ⟨m2, G3, S3, K2, q2, d1, d2, d3, d4, d5, d6, d7⟩ := ih2 F0 b G2 S2 _ W m1 (q1 ++ [(s, 0)]) hb hbW hW b3' hq1 (by rw [List.length_append]; simp only [List.length_cons, List.length_nil]; omega) b2
  refine ⟨m2, G3, S3, qc q0 ++ (K1 ++ K2), q2, a1.trans (b1.trans d1), d2, ?_, ?_, fun k hk => ?_, ?_, d7⟩
  · rw [List.length_append, List.length_append, qc_len, ← Nat.add_assoc, ← Nat.add_assoc]
    exact d3
  · rw [CodeM_app, CodeM_app, qc_len]
    refine ⟨CodeM_eq (qc q0) c (fun k k1 k2 => ?_) a3, CodeM_eq K1 _ (fun k k1 k2 => d5 k (by omega)) b4, d4⟩
    rw [qc_len] at k2
    rw [d5 k (by omega), b5 k (by omega)]
  · rw [d5 k (by omega), b5 k (by omega), a4 k hk]
  · have e1 : L ++ (s, 0, 0) :: L2 = K1 ++ (qc (q1 ++ [(s, 0)]) ++ L2) := by
      rw [b6]
      simp [qc]
    rw [e1, d6]
    simp
theorem pf_rest1 (hu : HU u N) {Q Qs : Nat × Nat → Prop} {s : Nat} {f : Int32} (hs : OpS u i s Q Qs) (ih1 : PFF u N Qs o (i + 1) f) : PFR u N Q o i f := by
  intro F0 b G S c W m q0 hb hbW hW h hq hc hfm
  have hiN := h.2.2.2.2.2.2.2.1
  have hN := hu.1
  obtain ⟨m, rfl⟩ : ∃ n', m = n' + 1 := ⟨m - 1, by omega⟩
  obtain ⟨G1, S1, a1, a2, a3, a4⟩ := m_op (m := m) (F0 := F0) hu (OpS_w hs) hW h hq hc
  obtain ⟨G2, S2, b1, b2⟩ := ih1 F0 b G1 S1 (c + q0.length) ((s, 0) :: W) 8589934592 m hb (by simp only [List.length_cons]; omega) (OpS_t hs W) a2 (by omega) (by omega)
  exact ⟨G2, S2, a1.trans b1, b2⟩
theorem pf_rest2 (hu : HU u N) {Q Qs : Nat × Nat → Prop} {s j : Nat} {L : List Cd} {f : Int32} (hs : OpS u i s Q Qs) (hlen : i + 1 + L.length ≤ j) (ih1 : PMF u N Qs o (i + 1) j L) (ih2 : PFR u N Q o j f) : PFR u N Q o i f := by
  intro F0 b G S c W m q0 hb hbW hW h hq hc hfm
  have hiN := h.2.2.2.2.2.2.2.1
  have hN := hu.1
  obtain ⟨m, rfl⟩ : ∃ n', m = n' + 1 := ⟨m - 1, by omega⟩
  obtain ⟨G1, S1, a1, a2, a3, a4⟩ := m_op (m := m) (F0 := F0) hu (OpS_w hs) hW h hq hc
  obtain ⟨m1, G2, S2, K1, q1, b1, b2, b3, b4, b5, b6, b7⟩ := ih1 F0 b G1 S1 (c + q0.length) ((s, 0) :: W) 8589934592 m hb (by simp only [List.length_cons]; omega) (OpS_t hs W) a2 (by omega) (by omega)
  have eL : L.length = K1.length + q1.length := by rw [b6, List.length_append, qc_len]
  have hq1 : ∀ x, x ∈ q1 ++ [(s, 0)] → Q x := by
    intro x hx
    rcases List.mem_append.mp hx with z | z
    · exact (OpS_q hs).2 x (b7 x z)
    · rw [List.mem_singleton.mp z]
      exact (OpS_q hs).1
  have b3' : MSt u N G2 S2 j o (c + q0.length + K1.length) ((q1 ++ [(s, 0)]) ++ W) := by
    rw [List.append_assoc]
    exact b3
  obtain ⟨G3, S3, d1, d2⟩ := ih2 F0 b G2 S2 _ W m1 (q1 ++ [(s, 0)]) hb hbW hW b3' hq1 (by rw [List.length_append]; simp only [List.length_cons, List.length_nil]; omega) b2
  exact ⟨G3, S3, a1.trans (b1.trans d1), d2⟩
theorem tops_w {Q Qs : Nat × Nat → Prop} (w : ∀ x, Qs x → Q x) {W : List (Nat × Nat)} (h : tops Q W) : tops Qs W := fun q W' e z => h q W' e (w q z)
theorem pm_seq {Q Qs : Nat × Nat → Prop} {j j2 : Nat} {L L2 : List Cd} (w : ∀ x, Qs x → Q x) (hlen : i + L.length ≤ j) (ih1 : PMF u N Qs o i j L) (ih2 : PMR u N Q o j j2 L2) : PMF u N Q o i j2 (L ++ L2) := by
  intro F0 b G S c W n m hb hbW hW h hfn hfm
  have hc := h.2.2.2.2.2.2.2.2.2
  obtain ⟨m1, G2, S2, K1, q1, b1, b2, b3, b4, b5, b6, b7⟩ := ih1 F0 b G S c W n m hb hbW (tops_w w hW) h hfn hfm
  have eL : L.length = K1.length + q1.length := by rw [b6, List.length_append, qc_len]
  obtain ⟨m2, G3, S3, K2, q2, d1, d2, d3, d4, d5, d6, d7⟩ := ih2 F0 b G2 S2 _ W m1 q1 hb hbW hW b3 (fun x hx => w x (b7 x hx)) (by omega) b2
  refine ⟨m2, G3, S3, K1 ++ K2, q2, b1.trans d1, d2, ?_, ?_, fun k hk => ?_, ?_, d7⟩
  · rw [List.length_append, ← Nat.add_assoc]
    exact d3
  · rw [CodeM_app]
    exact ⟨CodeM_eq K1 _ (fun k k1 k2 => d5 k (by omega)) b4, d4⟩
  · rw [d5 k (by omega), b5 k (by omega)]
  · rw [b6, List.append_assoc, d6, List.append_assoc]
theorem pf_seq1 {Q Qs : Nat × Nat → Prop} {f : Int32} (w : ∀ x, Qs x → Q x) (ih1 : PFF u N Qs o i f) : PFF u N Q o i f := by
  intro F0 b G S c W n m hb hbW hW h hfn hfm
  exact ih1 F0 b G S c W n m hb hbW (tops_w w hW) h hfn hfm
theorem pf_seq2 {Q Qs : Nat × Nat → Prop} {j : Nat} {L : List Cd} {f : Int32} (w : ∀ x, Qs x → Q x) (hlen : i + L.length ≤ j) (ih1 : PMF u N Qs o i j L) (ih2 : PFR u N Q o j f) : PFF u N Q o i f := by
  intro F0 b G S c W n m hb hbW hW h hfn hfm
  have hc := h.2.2.2.2.2.2.2.2.2
  obtain ⟨m1, G2, S2, K1, q1, b1, b2, b3, b4, b5, b6, b7⟩ := ih1 F0 b G S c W n m hb hbW (tops_w w hW) h hfn hfm
  have eL : L.length = K1.length + q1.length := by rw [b6, List.length_append, qc_len]
  obtain ⟨G3, S3, d1, d2⟩ := ih2 F0 b G2 S2 _ W m1 q1 hb hbW hW b3 (fun x hx => w x (b7 x hx)) (by omega) b2
  exact ⟨G3, S3, b1.trans d1, d2⟩
theorem rs_e (G : Nat → Int32) (S : Nat → Nat → Int32) : sp_X11_readsSum G S = FAc 8589934592 8589934592 G G S := rfl
theorem sum_done (hu : HU u N) {j c : Nat} {L : List Cd} {G : Nat → Int32} {S : Nat → Nat → Int32} {W : List (Nat × Nat)} (hlen : i + L.length ≤ j) (ih : PMF u N Qa o i j L) (hn : nop (u j)) (hW : tops Qa W) (h : MSt u N G S i o c W) : ∃ G' S', sp_X11_readsSum G S = (1, G', S') ∧ MSt u N G' S' j o (c + L.length) W ∧ CodeM (S' 12) c L ∧ (∀ k, k < c → S' 12 k = S 12 k) := by
  have hc := h.2.2.2.2.2.2.2.2.2
  have hN := hu.1
  obtain ⟨m1, G2, S2, K, q, b1, b2, b3, b4, b5, b6, b7⟩ := ih G W.length G S c W 8589934592 8589934592 h.2.2.2.2.1 (Nat.le_refl _) hW h (by omega) (by omega)
  have eL : L.length = K.length + q.length := by rw [b6, List.length_append, qc_len]
  have hjN := b3.2.2.2.2.2.2.2.1
  have hle := HU_le hu j
  obtain ⟨m1, rfl⟩ : ∃ n', m1 = n' + 1 := ⟨m1 - 1, by omega⟩
  have hql : q.length ≤ 200 := by
    have e := b3.2.2.2.2.2.2.2.2.1
    rw [List.length_append] at e
    omega
  obtain ⟨G3, S3, d1, d2, d3, d4⟩ := m_close (a0 := 1) (Q := Qa) hu (Or.inr ⟨rfl, rfl⟩) hW q 8589934592 _ G2 S2 (by omega) b7 b3 (by omega)
  refine ⟨G3, S3, ?_, ?_, ?_, fun k hk => ?_⟩
  · rw [rs_e, b1, K14_step]
    unfold KB_X11_readsSum_14
    simp only [k_e]
    have e0 : sp_X11_hasOpenSum G2 S2 (nI W.length) = 0 := m_has_out hN b3 b7
    have d1' : sp_X11_closesSums G2 S2 1 = (G3, S3) := d1
    rw [m_here hu b3, (m_ss G2 S2 hle).2.2 hn, if_pos rfl, if_sg 93 93 rfl hle (by omega), h.2.2.2.2.1, e0, if_pos rfl, d1']
    simp only [k_t2, if_true]
    split <;> rfl
  · rw [eL, ← Nat.add_assoc]
    exact d2
  · rw [b6, CodeM_app]
    exact ⟨CodeM_eq K _ (fun k k1 k2 => d4 k (by omega)) b4, d3⟩
  · rw [d4 k (by omega), b5 k hk]
theorem sum_bad {c : Nat} {f : Int32} {G : Nat → Int32} {S : Nat → Nat → Int32} {W : List (Nat × Nat)} (ih : PFF u N Qa o i f) (hW : tops Qa W) (h : MSt u N G S i o c W) : ∃ G' S', sp_X11_readsSum G S = (0, G', S') ∧ G' 17 = f := by
  obtain ⟨G', S', b1, b2⟩ := ih G W.length G S c W 8589934592 8589934592 h.2.2.2.2.1 (Nat.le_refl _) hW h (by omega) (by omega)
  exact ⟨G', S', (rs_e G S).trans b1, b2⟩
/-- a comparison -/
def PMC (u : Nat → Nat) (N : Nat) (o i j : Nat) (L : List Cd) : Prop := ∀ (G : Nat → Int32) (S : Nat → Nat → Int32) (c : Nat) (W : List (Nat × Nat)), tops Qa W → MSt u N G S i o c W → ∃ (G' : Nat → Int32) (S' : Nat → Nat → Int32), sp_X11_readsCompared G S = k_lt2 (sp_X11_endsPiece G' S') (fun F R => (1, F, R)) ∧ MSt u N G' S' j o (c + L.length) W ∧ CodeM (S' 12) c L ∧ (∀ k, k < c → S' 12 k = S 12 k)
def PFC (u : Nat → Nat) (N : Nat) (o i : Nat) (f : Int32) : Prop := ∀ (G : Nat → Int32) (S : Nat → Nat → Int32) (c : Nat) (W : List (Nat × Nat)), tops Qa W → MSt u N G S i o c W → ∃ (G' : Nat → Int32) (S' : Nat → Nat → Int32), sp_X11_readsCompared G S = (0, G', S') ∧ G' 17 = f
theorem cmp_how (hu : HU u N) {G G1 : Nat → Int32} {S S1 : Nat → Nat → Int32} {j c : Nat} {W : List (Nat × Nat)} (h : MSt u N G1 S1 j o c W) (e : sp_X11_readsSum G S = (1, G1, S1)) : (cmps (u j) → sp_X11_readsCompared G S = K_X11_readsCompared_52 G1 S1 (nI (cop (u j)))) ∧ (¬ cmps (u j) → sp_X11_readsCompared G S = K_X11_readsCompared_52 G1 S1 (-1)) := by
  have hle := HU_le hu j
  unfold sp_X11_readsCompared
  rw [e]
  simp only [k_e, k_t3]
  have n1 : ¬ (1 : Int32) = 0 := by decide
  rw [if_neg n1, m_here hu h, if_sg 60 60 rfl hle (by omega), if_sg 62 62 rfl hle (by omega), if_sg 61 61 rfl hle (by omega)]
  unfold cmps cop
  constructor
  · intro q
    by_cases q1 : u j = 60
    · rw [if_pos q1, if_pos q1]
      rfl
    · rw [if_neg q1, if_neg q1]
      by_cases q2 : u j = 62
      · rw [if_pos q2, if_pos q2]
        rfl
      · rw [if_neg q2, if_neg q2, if_pos (by omega)]
        rfl
  · intro q
    rw [if_neg (by omega), if_neg (by omega), if_neg (by omega)]
theorem pm_cm (hu : HU u N) {j j2 : Nat} {L L2 : List Cd} (hl1 : i + L.length ≤ j) (ih1 : PMF u N Qa o i j L) (hn : nop (u j)) (hc : cmps (u j)) (hl2 : j + 1 + L2.length ≤ j2) (ih2 : PMF u N Qa o (j + 1) j2 L2) (hn2 : nop (u j2)) : PMC u N o i j2 (L ++ (L2 ++ [(cop (u j), 0, 0)])) := by
  intro G S c W hW h
  have hci := h.2.2.2.2.2.2.2.2.2
  have hN := hu.1
  obtain ⟨G1, S1, a1, a2, a3, a4⟩ := sum_done hu hl1 ih1 hn hW h
  have hj : u j ≠ 256 := by unfold cmps at hc; omega
  have hop : 7 ≤ cop (u j) ∧ cop (u j) ≤ 9 := by
    unfold cop
    split
    · omega
    · split <;> omega
  obtain ⟨G2, S2, b1, b2, b3, b4⟩ := sum_done hu hl2 ih2 hn2 hW (m_adv hu a2 hj)
  obtain ⟨G3, S3, d1, d2, d3, d4⟩ := m_note (op := cop (u j)) (v := 0) b2 (by omega) hN
  have el : (L ++ (L2 ++ [(cop (u j), 0, 0)])).length = L.length + (L2.length + 1) := by simp
  refine ⟨G3, S3, ?_, ?_, ?_, fun k hk => ?_⟩
  · rw [(cmp_how hu a2 a1).1 hc]
    unfold K_X11_readsCompared_52
    simp only [k_e]
    have nx : ¬ nI (cop (u j)) = -1 := fun z => by
      have h2 : (-1 : Int32) < 0 := by decide
      rw [← z] at h2
      exact nI_pos (by omega) h2
    rw [if_neg nx, b1]
    simp only [k_t3]
    have n1 : ¬ (1 : Int32) = 0 := by decide
    have d1' : sp_X11_notes G2 S2 (nI (cop (u j))) 0 = (G3, S3) := d1
    rw [if_neg n1, d1']
    simp only [k_t2]
  · rw [el, ← Nat.add_assoc, ← Nat.add_assoc]
    exact d2
  · rw [CodeM_app, CodeM_app, d3]
    refine ⟨CodeM_eq L _ (fun k k1 k2 => ?_) a3, CodeM_eq L2 _ (fun k k1 k2 => ?_) b3, ?_, trivial⟩
    · rw [uu, if_neg (by omega), b4 k (by omega)]
    · rw [uu, if_neg (by omega)]
    · rw [uu, if_pos rfl]
      unfold cvM
      rw [if_neg (by show ¬ cop (u j) ≤ 1; omega), if_pos (by show cop (u j) ≤ 10; omega)]
  · rw [d3, uu, if_neg (by omega), b4 k (by omega), a4 k hk]
theorem pf_cm1 {f : Int32} (ih1 : PFF u N Qa o i f) : PFC u N o i f := by
  intro G S c W hW h
  obtain ⟨G1, S1, a1, a2⟩ := sum_bad ih1 hW h
  refine ⟨G1, S1, ?_, a2⟩
  unfold sp_X11_readsCompared
  rw [a1]
  simp only [k_t3, if_true]
theorem pf_cm2 (hu : HU u N) {j : Nat} {L : List Cd} (hl1 : i + L.length ≤ j) (ih1 : PMF u N Qa o i j L) (hn : nop (u j)) (hc : ¬ cmps (u j)) : PFC u N o i (ft 1 j) := by
  intro G S c W hW h
  obtain ⟨G1, S1, a1, a2, a3, a4⟩ := sum_done hu hl1 ih1 hn hW h
  refine ⟨upd G1 17 (ft 1 j), S1, ?_, by rw [uu, if_pos rfl]⟩
  rw [(cmp_how hu a2 a1).2 hc]
  unfold K_X11_readsCompared_52
  rw [if_pos rfl, m_wrong a2]
  simp only [k_t3]
theorem pf_cm3 (hu : HU u N) {j : Nat} {L : List Cd} {f : Int32} (hl1 : i + L.length ≤ j) (ih1 : PMF u N Qa o i j L) (hn : nop (u j)) (hc : cmps (u j)) (ih2 : PFF u N Qa o (j + 1) f) : PFC u N o i f := by
  intro G S c W hW h
  obtain ⟨G1, S1, a1, a2, a3, a4⟩ := sum_done hu hl1 ih1 hn hW h
  have hj : u j ≠ 256 := by unfold cmps at hc; omega
  have hop : 7 ≤ cop (u j) ∧ cop (u j) ≤ 9 := by
    unfold cop
    split
    · omega
    · split <;> omega
  obtain ⟨G2, S2, b1, b2⟩ := sum_bad ih2 hW (m_adv hu a2 hj)
  refine ⟨G2, S2, ?_, b2⟩
  rw [(cmp_how hu a2 a1).1 hc]
  unfold K_X11_readsCompared_52
  simp only [k_e]
  have nx : ¬ nI (cop (u j)) = -1 := fun z => by
    have h2 : (-1 : Int32) < 0 := by decide
    rw [← z] at h2
    exact nI_pos (by omega) h2
  rw [if_neg nx, b1]
  simp only [k_t3, if_true]
end RM5
