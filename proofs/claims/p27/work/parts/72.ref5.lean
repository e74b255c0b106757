/-! ===== the reference's reader: pieces ===== -/
def EPc (k n m : Nat) (G : Nat → Int32) (S : Nat → Nat → Int32) : Int32 × (Nat → Int32) × (Nat → Nat → Int32) := k_lt2 (K_X11_endsPiece_0 k G S) (fun F R => K_X11_readsCondition_92 (K_X11_readsCondition_40 n) m F R)
def PMP (u : Nat → Nat) (N : Nat) (o i j : Nat) (C : List Cd) : Prop := ∀ (G : Nat → Int32) (S : Nat → Nat → Int32) (c : Nat) (W : List (Nat × Nat)) (n : Nat), tops Qa W → W ≠ [] → MSt u N G S i o c W → 200 < n + i → ∃ (k' n' m' : Nat) (G' : Nat → Int32) (S' : Nat → Nat → Int32), K_X11_readsCondition_40 n G S = EPc k' n' m' G' S' ∧ W.length < k' ∧ 200 < n' + j ∧ 200 < m' + j ∧ MSt u N G' S' j o (c + C.length) W ∧ CodeM (S' 12) c C ∧ (∀ k, k < c → S' 12 k = S 12 k)
def PFP (u : Nat → Nat) (N : Nat) (o i : Nat) (f : Int32) : Prop := ∀ (G : Nat → Int32) (S : Nat → Nat → Int32) (c : Nat) (W : List (Nat × Nat)) (n : Nat), tops Qa W → W ≠ [] → MSt u N G S i o c W → 200 < n + i → ∃ (G' : Nat → Int32) (S' : Nat → Nat → Int32), K_X11_readsCondition_40 n G S = (0, G', S') ∧ G' 17 = f
/-- jumps that wait: their places say so -/
def OpAt (w : Nat → Int32) (Y : List (Nat × Nat)) : Prop := ∀ y, y ∈ Y → y.1 ≤ 14 ∧ ∃ v, v < 1048576 ∧ w y.2 = nI (1048576 * y.1 + v)
/-- .. and they have found their place: e -/
def Lnd (w w' : Nat → Int32) (Y : List (Nat × Nat)) (e : Nat) : Prop := (∀ y, y ∈ Y → w' y.2 = nI (1048576 * y.1 + e)) ∧ (∀ k, (∀ y, y ∈ Y → y.2 ≠ k) → w' k = w k)
def PMS (u : Nat → Nat) (N : Nat) (o i j a : Nat) (C : List Cd) : Prop := ∀ (G : Nat → Int32) (S : Nat → Nat → Int32) (c : Nat) (X W : List (Nat × Nat)) (n w r : Nat) (W' : List (Nat × Nat)), W = (w, r) :: W' → (w = 12 ∨ w = 13) → MSt u N G S i o c (X ++ W) → (∀ x, x ∈ X → x.1 = 11 ∧ x.2 < c) → OpAt (S 12) X → 200 < n + i →
  ∃ (n' m' : Nat) (Y : List (Nat × Nat)) (G' : Nat → Int32) (S' : Nat → Nat → Int32), K_X11_readsCondition_40 n G S = K_X11_readsCondition_92 (K_X11_readsCondition_40 n') m' G' S' ∧ 200 < n' + j ∧ 200 < m' + j ∧ MSt u N G' S' j o (c + C.length) (Y ++ W) ∧ (∀ y, y ∈ Y → y.1 = 11 ∧ y.2 < c + C.length ∧ (c ≤ y.2 ∨ y ∈ X)) ∧ OpAt (S' 12) Y ∧ (∀ k, k < c → (∀ x, x ∈ X → x.2 ≠ k) → S' 12 k = S 12 k) ∧ (∀ w', Lnd (S' 12) w' Y (c + C.length) → CodeM w' c C ∧ (∀ x, x ∈ X → w' x.2 = nI (1048576 * 11 + (c + a))) ∧ (∀ k, k < c → (∀ x, x ∈ X → x.2 ≠ k) → w' k = S 12 k))
def PFS (u : Nat → Nat) (N : Nat) (o i : Nat) (f : Int32) : Prop := ∀ (G : Nat → Int32) (S : Nat → Nat → Int32) (c : Nat) (X W : List (Nat × Nat)) (n w r : Nat) (W' : List (Nat × Nat)), W = (w, r) :: W' → (w = 12 ∨ w = 13) → MSt u N G S i o c (X ++ W) → (∀ x, x ∈ X → x.1 = 11 ∧ x.2 < c) → OpAt (S 12) X → 200 < n + i →
  ∃ (G' : Nat → Int32) (S' : Nat → Nat → Int32), K_X11_readsCondition_40 n G S = (0, G', S') ∧ G' 17 = f
def PMT (u : Nat → Nat) (N : Nat) (o i j a : Nat) (C : List Cd) : Prop := ∀ (G : Nat → Int32) (S : Nat → Nat → Int32) (c : Nat) (X W : List (Nat × Nat)) (n : Nat), MSt u N G S i o c (X ++ (13, 0) :: W) → (∀ x, x ∈ X → x.1 = 12 ∧ x.2 < c) → OpAt (S 12) X → 200 < n + i →
  ∃ (n' m' : Nat) (Y : List (Nat × Nat)) (G' : Nat → Int32) (S' : Nat → Nat → Int32), K_X11_readsCondition_40 n G S = K_X11_readsCondition_92 (K_X11_readsCondition_40 n') m' G' S' ∧ 200 < n' + j ∧ 200 < m' + j ∧ MSt u N G' S' j o (c + C.length) (Y ++ (13, 0) :: W) ∧ (∀ y, y ∈ Y → (y.1 = 11 ∨ y.1 = 12) ∧ y.2 < c + C.length ∧ (c ≤ y.2 ∨ y ∈ X)) ∧ OpAt (S' 12) Y ∧ (∀ w', Lnd (S' 12) w' Y (c + C.length) → CodeM w' c C ∧ (∀ x, x ∈ X → w' x.2 = nI (1048576 * 12 + (c + a))) ∧ (∀ k, k < c → (∀ x, x ∈ X → x.2 ≠ k) → w' k = S 12 k))
def PFT (u : Nat → Nat) (N : Nat) (o i : Nat) (f : Int32) : Prop := ∀ (G : Nat → Int32) (S : Nat → Nat → Int32) (c : Nat) (X W : List (Nat × Nat)) (n : Nat), MSt u N G S i o c (X ++ (13, 0) :: W) → (∀ x, x ∈ X → x.1 = 12 ∧ x.2 < c) → OpAt (S 12) X → 200 < n + i →
  ∃ (G' : Nat → Int32) (S' : Nat → Nat → Int32), K_X11_readsCondition_40 n G S = (0, G', S') ∧ G' 17 = f
section RM6
variable {u : Nat → Nat} {N : Nat} {o i : Nat}
theorem tops_c {Q : Nat × Nat → Prop} {q : Nat × Nat} {W : List (Nat × Nat)} (h : ¬ Q q) : tops Q (q :: W) := by
  intro q' W' e
  have e1 : q' = q := (List.cons.inj e).1.symm
  rw [e1]
  exact h
theorem nQa {q : Nat × Nat} (h : 7 ≤ q.1) : ¬ Qa q := fun z => by
  obtain ⟨z1, z2⟩ : 2 ≤ q.1 ∧ q.1 ≤ 6 := z
  omega
theorem m_ends0 {G : Nat → Int32} {S : Nat → Nat → Int32} {c k : Nat} {q : Nat × Nat} {W : List (Nat × Nat)} (hN : N ≤ 200) (h : MSt u N G S i o c (q :: W)) (hq : q.1 ≠ 10) : K_X11_endsPiece_0 (k + 1) G S = (G, S) := by
  rw [ks_X11_endsPiece_0]
  unfold KB_X11_endsPiece_0
  have h14 : q.1 ≤ 14 := h.2.2.2.2.2.2.1.2.1
  have e : ¬ nI q.1 = 10 := fun z => hq ((nI_eq (b := 10) (by omega) (by omega)).mp z)
  rw [k_e, m_top h hN, if_neg e]
theorem m_ends1 {G : Nat → Int32} {S : Nat → Nat → Int32} {c k r : Nat} {W : List (Nat × Nat)} (hN : N ≤ 200) (h : MSt u N G S i (o + 1) c ((10, r) :: W)) (hc : c + 1 ≤ i) : ∃ G' S', K_X11_endsPiece_0 (k + 1) G S = K_X11_endsPiece_0 k G' S' ∧ MSt u N G' S' i o (c + 1) W ∧ S' 12 = upd (S 12) c (nI (1048576 * 10 + 0)) := by
  obtain ⟨G1, S1, n1, n2, n3, n4⟩ := m_note (op := 10) (v := 0) h hc hN
  have p := m_pop n2
  refine ⟨upd (upd G1 26 (G 26 - 1)) 24 (G 24 - 1), S1, ?_, ?_, n3⟩
  · rw [ks_X11_endsPiece_0]
    unfold KB_X11_endsPiece_0
    have n1' : sp_X11_notes G S 10 0 = (G1, S1) := n1
    simp only [k_e]
    rw [m_top h hN, if_pos (show nI 10 = 10 from rfl), n1']
    simp only [k_t2]
  · have e26 : G1 26 = G 26 := n4 26 (by omega)
    rw [e26] at p
    obtain ⟨h1, h2, h3, h4, h5, h6⟩ := p
    refine ⟨?_, ?_, ?_, ?_, ?_, h6⟩
    · rw [uu, if_neg (by decide)]; exact h1
    · rw [uu, if_neg (by decide)]; exact h2
    · rw [uu, if_pos rfl, h.2.2.1, nI_pred]
    · rw [uu, if_neg (by decide)]; exact h4
    · rw [uu, if_neg (by decide)]; exact h5
theorem K40_e (n : Nat) (G : Nat → Int32) (S : Nat → Nat → Int32) : K_X11_readsCondition_40 (n + 1) G S = KB_X11_readsCondition_40 (K_X11_readsCondition_40 n) G S := rfl
theorem K92_e (b : (Nat → Int32) → (Nat → Nat → Int32) → Int32 × (Nat → Int32) × (Nat → Nat → Int32)) (m : Nat) (G : Nat → Int32) (S : Nat → Nat → Int32) : K_X11_readsCondition_92 b (m + 1) G S = KB_X11_readsCondition_92 (K_X11_readsCondition_92 b m) b G S := rfl
/-- a ! or ( is passed -/
theorem m_in (hu : HU u N) {G : Nat → Int32} {S : Nat → Nat → Int32} {c n : Nat} {W : List (Nat × Nat)} (h : MSt u N G S i o c W) (ho : o < 6) : (u i = 33 → ∃ G1 S1, K_X11_readsCondition_40 (n + 1) G S = K_X11_readsCondition_40 n G1 S1 ∧ MSt u N G1 S1 (i + 1) (o + 1) c ((10, 0) :: W) ∧ S1 12 = S 12) ∧ (u i = 40 → ∃ G1 S1, K_X11_readsCondition_40 (n + 1) G S = K_X11_readsCondition_40 n G1 S1 ∧ MSt u N G1 S1 (i + 1) (o + 1) c ((13, 0) :: W) ∧ S1 12 = S 12) := by
  have hle := HU_le hu i
  have n1 : ¬ (1 : Int32) = 0 := by decide
  constructor
  · intro q
    obtain ⟨G1, S1, a1, a2, a3⟩ := m_opens (s := 10) hu h (by omega) (by omega) ho
    refine ⟨G1, S1, ?_, a2, a3⟩
    have a1' : sp_X11_opens G S 10 = (1, G1, S1) := a1
    rw [K40_e]
    unfold KB_X11_readsCondition_40 K_X11_readsCondition_58 K_X11_readsCondition_75
    simp only [k_e]
    rw [m_here hu h, if_sg 33 33 rfl hle (by omega), if_pos q, if_sg 33 33 rfl hle (by omega), if_pos q, a1']
    simp only [k_t3]
    rw [if_neg n1]
  · intro q
    obtain ⟨G1, S1, a1, a2, a3⟩ := m_opens (s := 13) hu h (by omega) (by omega) ho
    refine ⟨G1, S1, ?_, a2, a3⟩
    have a1' : sp_X11_opens G S 13 = (1, G1, S1) := a1
    rw [K40_e]
    unfold KB_X11_readsCondition_40 K_X11_readsCondition_58 K_X11_readsCondition_75
    simp only [k_e]
    rw [m_here hu h, if_sg 33 33 rfl hle (by omega), if_neg (by omega), if_sg 40 40 rfl hle (by omega), if_pos q, if_sg 33 33 rfl hle (by omega), if_neg (by omega), a1']
    simp only [k_t3]
    rw [if_neg n1]
theorem pm_nt (hu : HU u N) {j : Nat} {C : List Cd} (q : u i = 33) (ho : o < 6) (hlen : i + 1 + C.length ≤ j) (ih : PMP u N (o + 1) (i + 1) j C) : PMP u N o i j (C ++ [(10, 0, 0)]) := by
  intro G S c W n hW hW0 h hfn
  have hN := hu.1
  have hiN := h.2.2.2.2.2.2.2.1
  have hc := h.2.2.2.2.2.2.2.2.2
  obtain ⟨n, rfl⟩ : ∃ n', n = n' + 1 := ⟨n - 1, by omega⟩
  obtain ⟨G1, S1, a1, a2, a3⟩ := (m_in (n := n) hu h ho).1 q
  obtain ⟨k', n', m', G2, S2, b1, b2, b3, b4, b5, b6, b7⟩ := ih G1 S1 c ((10, 0) :: W) n (tops_c (nQa (by show 7 ≤ 10; omega))) (by simp) a2 (by omega)
  simp only [List.length_cons] at b2
  obtain ⟨k', rfl⟩ : ∃ n', k' = n' + 1 := ⟨k' - 1, by omega⟩
  obtain ⟨G3, S3, d1, d2, d3⟩ := m_ends1 (k := k') hN b5 (by omega)
  have el : (C ++ [(10, 0, 0)]).length = C.length + 1 := by simp
  refine ⟨k', n', m', G3, S3, ?_, by omega, b3, b4, ?_, ?_, fun k hk => ?_⟩
  · rw [a1, b1]
    unfold EPc
    rw [d1]
  · rw [el, ← Nat.add_assoc]
    exact d2
  · rw [CodeM_app, d3]
    refine ⟨CodeM_eq C c (fun k k1 k2 => by rw [uu, if_neg (by omega)]) b6, ?_, trivial⟩
    rw [uu, if_pos rfl]
    rfl
  · rw [d3, uu, if_neg (by omega), b7 k hk, a3]
theorem pf_nt (hu : HU u N) {f : Int32} (q : u i = 33) (ho : o < 6) (ih : PFP u N (o + 1) (i + 1) f) : PFP u N o i f := by
  intro G S c W n hW hW0 h hfn
  have hN := hu.1
  have hiN := h.2.2.2.2.2.2.2.1
  obtain ⟨n, rfl⟩ : ∃ n', n = n' + 1 := ⟨n - 1, by omega⟩
  obtain ⟨G1, S1, a1, a2, a3⟩ := (m_in (n := n) hu h ho).1 q
  obtain ⟨G2, S2, b1, b2⟩ := ih G1 S1 c ((10, 0) :: W) n (tops_c (nQa (by show 7 ≤ 10; omega))) (by simp) a2 (by omega)
  exact ⟨G2, S2, a1.trans b1, b2⟩
theorem pf_op (hu : HU u N) (q : u i = 33 ∨ u i = 40) (ho : o = 6) : PFP u N o i (ft 5 i) := by
  intro G S c W n hW hW0 h hfn
  have hN := hu.1
  have hiN := h.2.2.2.2.2.2.2.1
  have hle := HU_le hu i
  subst ho
  obtain ⟨n, rfl⟩ : ∃ n', n = n' + 1 := ⟨n - 1, by omega⟩
  rcases q with q | q
  · obtain ⟨G1, S1, a1, a2⟩ := m_opens6 (s := 10) h
    refine ⟨G1, S1, ?_, a2⟩
    rw [K40_e]
    unfold KB_X11_readsCondition_40 K_X11_readsCondition_58 K_X11_readsCondition_75
    simp only [k_e]
    rw [m_here hu h, if_sg 33 33 rfl hle (by omega), if_pos q, if_sg 33 33 rfl hle (by omega), if_pos q, a1]
    simp only [k_t3, if_true]
  · obtain ⟨G1, S1, a1, a2⟩ := m_opens6 (s := 13) h
    refine ⟨G1, S1, ?_, a2⟩
    rw [K40_e]
    unfold KB_X11_readsCondition_40 K_X11_readsCondition_58 K_X11_readsCondition_75
    simp only [k_e]
    rw [m_here hu h, if_sg 33 33 rfl hle (by omega), if_neg (by omega), if_sg 40 40 rfl hle (by omega), if_pos q, if_sg 33 33 rfl hle (by omega), if_neg (by omega), a1]
    simp only [k_t3, if_true]
theorem pm_pc (hu : HU u N) {j : Nat} {C : List Cd} (q1 : u i ≠ 33) (q2 : u i ≠ 40) (hij : i < j) (ih : PMC u N o i j C) : PMP u N o i j C := by
  intro G S c W n hW hW0 h hfn
  have hN := hu.1
  have hiN := h.2.2.2.2.2.2.2.1
  have hle := HU_le hu i
  obtain ⟨n, rfl⟩ : ∃ n', n = n' + 1 := ⟨n - 1, by omega⟩
  obtain ⟨G1, S1, a1, a2, a3, a4⟩ := ih G S c W hW h
  have hj := a2.2.2.2.2.2.2.2.1
  have hWl := a2.2.2.2.2.2.2.2.2.1
  refine ⟨8589934592, n, 8589934592, G1, S1, ?_, by omega, by omega, by omega, a2, a3, a4⟩
  rw [K40_e]
  unfold KB_X11_readsCondition_40
  simp only [k_e]
  rw [m_here hu h, if_sg 33 33 rfl hle (by omega), if_neg q1, if_sg 40 40 rfl hle (by omega), if_neg q2, a1]
  unfold EPc
  have n1 : ¬ (1 : Int32) = 0 := by decide
  rw [k_e2, k_t3, if_neg n1, k_e2]
  rfl
theorem pf_pc (hu : HU u N) {f : Int32} (q1 : u i ≠ 33) (q2 : u i ≠ 40) (ih : PFC u N o i f) : PFP u N o i f := by
  intro G S c W n hW hW0 h hfn
  have hN := hu.1
  have hiN := h.2.2.2.2.2.2.2.1
  have hle := HU_le hu i
  obtain ⟨n, rfl⟩ : ∃ n', n = n' + 1 := ⟨n - 1, by omega⟩
  obtain ⟨G1, S1, a1, a2⟩ := ih G S c W hW h
  refine ⟨G1, S1, ?_, a2⟩
  rw [K40_e]
  unfold KB_X11_readsCondition_40
  simp only [k_e]
  rw [m_here hu h, if_sg 33 33 rfl hle (by omega), if_neg q1, if_sg 40 40 rfl hle (by omega), if_neg q2, a1]
  simp only [k_t3, if_true]
end RM6
