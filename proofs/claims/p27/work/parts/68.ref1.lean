/-! ===== the reference's reader ===== -/
/-- what waits, the top first -/
def WX (w : Nat → Int32) : List (Nat × Nat) → Prop
  | [] => True
  | q :: L => w L.length = nI (1048576 * q.1 + q.2) ∧ q.1 ≤ 14 ∧ q.2 < 1048576 ∧ WX w L
theorem WX_eq {w w' : Nat → Int32} : ∀ (W : List (Nat × Nat)), (∀ k, k < W.length → w' k = w k) → WX w W → WX w' W
  | [], _, _ => trivial
  | q :: L, e, h => by
    obtain ⟨h1, h2, h3, h4⟩ := h
    exact ⟨by rw [e L.length (by simp)]; exact h1, h2, h3, WX_eq L (fun k hk => e k (by simp only [List.length_cons]; omega)) h4⟩
theorem WX_tail {w : Nat → Int32} : ∀ (q W : List (Nat × Nat)), WX w (q ++ W) → WX w W
  | [], _, h => h
  | _ :: q, W, h => WX_tail q W h.2.2.2
def MSt (u : Nat → Nat) (N : Nat) (G : Nat → Int32) (S : Nat → Nat → Int32) (i o c : Nat) (W : List (Nat × Nat)) : Prop := G 15 = nI i ∧ G 16 = nI N ∧ G 24 = nI o ∧ G 25 = nI c ∧ G 26 = nI W.length ∧ (∀ k, k < N → S 9 k &&& 255 = nI (u k)) ∧ WX (S 13) W ∧ i ≤ N ∧ W.length ≤ i ∧ c ≤ i
theorem m_dec {o v : Nat} (ho : o ≤ 14) (hv : v < 1048576) : nI (1048576 * o + v) / 1048576 = nI o ∧ nI (1048576 * o + v) - nI o * 1048576 = nI v := by
  have e1 : nI (1048576 * o + v) / nI 1048576 = nI ((1048576 * o + v) / 1048576) := pk_div (by omega) (by omega) (by omega)
  have e3 : (1048576 * o + v) / 1048576 = o := by omega
  have e4 : nI (1048576 * o + v) - nI (o * 1048576) = nI (1048576 * o + v - o * 1048576) := pk_sub (by omega)
  have e5 : nI o * nI 1048576 = nI (o * 1048576) := pk_mul _ _
  have e6 : 1048576 * o + v - o * 1048576 = v := by omega
  rw [e3] at e1
  rw [e6] at e4
  exact ⟨e1, by rw [← e4, ← e5]; rfl⟩
theorem m_enc (o v : Nat) : (1048576 : Int32) * nI o + nI v = nI (1048576 * o + v) := by
  have e : nI 1048576 * nI o = nI (1048576 * o) := pk_mul _ _
  have e2 : (1048576 : Int32) * nI o = nI (1048576 * o) := e
  rw [e2, nI_add]
theorem m_enc0 (o : Nat) : (1048576 : Int32) * nI o = nI (1048576 * o + 0) := pk_mul 1048576 o
section RM1
variable {u : Nat → Nat} {N : Nat} {G : Nat → Int32} {S : Nat → Nat → Int32} {i o c : Nat} {W : List (Nat × Nat)}
theorem m_here (hu : HU u N) (h : MSt u N G S i o c W) : sp_X11_here G S = sg (u i) := by
  obtain ⟨h1, h2, h3, h4, h5, h6, h7, h8, h9, h10⟩ := h
  obtain ⟨n1, n2, n3⟩ := hu
  unfold sp_X11_here
  simp only [k_e]
  rw [h1, h2]
  by_cases q : i < N
  · rw [if_neg (nI_ge q (by omega)), nI_clamp (by omega), h6 i q, sg_n (n2 i q)]
  · rw [if_pos (nI_le (by omega) (by omega)), n3 i (by omega)]
    rfl
theorem m_dig (hu : HU u N) (h : MSt u N G S i o c W) : sp_X11_isDigit G S = if dig (u i) then 1 else 0 := by
  have hle := HU_le hu i
  unfold sp_X11_isDigit
  simp only [k_e]
  rw [m_here hu h]
  by_cases q1 : sg (u i) < 48
  · have := (sg_48 hle).mp q1
    rw [if_pos q1, if_neg (fun z => by have : 48 ≤ u i ∧ u i ≤ 57 := z; omega)]
  · have q1' := fun z => q1 ((sg_48 hle).mpr z)
    rw [if_neg q1]
    by_cases q2 : 57 < sg (u i)
    · have := (sg_57 hle).mp q2
      rw [if_pos q2, if_neg (fun z => by have : 48 ≤ u i ∧ u i ≤ 57 := z; omega)]
    · have q2' := fun z => q2 ((sg_57 hle).mpr z)
      rw [if_neg q2, if_pos]
      refine ⟨?_, ?_⟩
      · by_cases z : u i < 48
        · exact absurd (Or.inl z) q1'
        · omega
      · by_cases z : 57 < u i
        · by_cases z2 : u i = 256
          · exact absurd (Or.inr z2) q1'
          · exact absurd ⟨z, z2⟩ q2'
        · omega
theorem m_top0 (h : MSt u N G S i o c []) : sp_X11_waitTop G S = -1 := by
  unfold sp_X11_waitTop
  rw [h.2.2.2.2.1]
  rw [if_pos (show nI ([] : List (Nat × Nat)).length = 0 from rfl)]
theorem m_top {q : Nat × Nat} (h : MSt u N G S i o c (q :: W)) (hN : N ≤ 200) : sp_X11_waitTop G S = nI q.1 := by
  obtain ⟨h1, h2, h3, h4, h5, h6, h7, h8, h9, h10⟩ := h
  obtain ⟨w1, w2, w3, w4⟩ := h7
  have e : (q :: W).length = W.length + 1 := rfl
  rw [e] at h5 h9
  unfold sp_X11_waitTop
  simp only [k_e]
  rw [h5, if_neg (nI_ne0 (by omega) (by omega)), nI_pred, nI_clamp (by omega), w1]
  exact (m_dec w2 w3).1
theorem m_note {op v : Nat} (h : MSt u N G S i o c W) (hc : c + 1 ≤ i) (hN : N ≤ 200) : ∃ G' S', sp_X11_notes G S (nI op) (nI v) = (G', S') ∧ MSt u N G' S' i o (c + 1) W ∧ S' 12 = upd (S 12) c (nI (1048576 * op + v)) ∧ (∀ k, k ≠ 25 → G' k = G k) := by
  obtain ⟨h1, h2, h3, h4, h5, h6, h7, h8, h9, h10⟩ := h
  refine ⟨upd G 25 (nI (c + 1)), g_u S 12 (upd (S 12) c (nI (1048576 * op + v))), ?_, ⟨?_, ?_, ?_, ?_, ?_, ?_, ?_, h8, h9, hc⟩, ?_, ?_⟩
  · unfold sp_X11_notes
    simp only [k_e]
    rw [h4, m_enc, nI_1, nI_clamp (by omega)]
  · rw [uu, if_neg (by decide)]; exact h1
  · rw [uu, if_neg (by decide)]; exact h2
  · rw [uu, if_neg (by decide)]; exact h3
  · rw [uu, if_pos rfl]
  · rw [uu, if_neg (by decide)]; exact h5
  · rw [ug, if_neg (by decide)]; exact h6
  · rw [ug, if_neg (by decide)]; exact h7
  · rw [ug, if_pos rfl]
  · intro k hk
    rw [uu, if_neg hk]
/-- the top is taken away -/
theorem m_pop {q : Nat × Nat} (h : MSt u N G S i o c (q :: W)) : MSt u N (upd G 26 (G 26 - 1)) S i o c W := by
  obtain ⟨h1, h2, h3, h4, h5, h6, h7, h8, h9, h10⟩ := h
  have e : (q :: W).length = W.length + 1 := rfl
  rw [e] at h5 h9
  refine ⟨?_, ?_, ?_, ?_, ?_, h6, h7.2.2.2, h8, by omega, h10⟩
  · rw [uu, if_neg (by decide)]; exact h1
  · rw [uu, if_neg (by decide)]; exact h2
  · rw [uu, if_neg (by decide)]; exact h3
  · rw [uu, if_neg (by decide)]; exact h4
  · rw [uu, if_pos rfl, h5, nI_pred]
/-- one more waits, one sign is passed -/
theorem m_push (hu : HU u N) {s r : Nat} (h : MSt u N G S i o c W) (hs : s ≤ 14) (hr : r < 1048576) (hi : u i ≠ 256) (o' : Nat) (G' : Nat → Int32) (S' : Nat → Nat → Int32) (e15 : G' 15 = nI (i + 1)) (e16 : G' 16 = G 16) (e24 : G' 24 = nI o') (e25 : G' 25 = G 25) (e26 : G' 26 = nI (W.length + 1)) (e9 : S' 9 = S 9) (e13 : S' 13 = upd (S 13) W.length (nI (1048576 * s + r))) : MSt u N G' S' (i + 1) o' c ((s, r) :: W) := by
  have hiN := HU_in hu hi
  obtain ⟨h1, h2, h3, h4, h5, h6, h7, h8, h9, h10⟩ := h
  refine ⟨e15, by rw [e16]; exact h2, e24, by rw [e25]; exact h4, e26, by rw [e9]; exact h6, ?_, by omega, by simp only [List.length_cons]; omega, by omega⟩
  rw [e13]
  refine ⟨by rw [uu, if_pos rfl], hs, hr, WX_eq W (fun k hk => by rw [uu, if_neg (by omega)]) h7⟩
theorem m_opens (hu : HU u N) {s : Nat} (h : MSt u N G S i o c W) (hs : s ≤ 14) (hi : u i ≠ 256) (ho : o < 6) : ∃ G' S', sp_X11_opens G S (nI s) = (1, G', S') ∧ MSt u N G' S' (i + 1) (o + 1) c ((s, 0) :: W) ∧ S' 12 = S 12 := by
  have hc := h
  have hN := hu.1
  obtain ⟨h1, h2, h3, h4, h5, h6, h7, h8, h9, h10⟩ := h
  have n6 : ¬ nI o = 6 := fun z => by have := (nI_eq (a := o) (b := 6) (by omega) (by omega)).mp z; omega
  refine ⟨_, _, ?_, m_push hu hc hs (r := 0) (by omega) hi (o + 1) (upd (upd (upd G 24 (nI (o + 1))) 26 (nI (W.length + 1))) 15 (nI (i + 1))) (g_u S 13 (upd (S 13) W.length (nI (1048576 * s + 0)))) ?_ ?_ ?_ ?_ ?_ ?_ ?_, ?_⟩
  · unfold sp_X11_opens
    simp only [k_e]
    rw [h3, if_neg n6, h5, h1, nI_1, nI_1, nI_1, m_enc0, nI_clamp (by omega)]
  · rw [uu, if_pos rfl]
  · simp (decide := true) only [uu, if_false]
  · simp (decide := true) only [uu, if_true, if_false]
  · simp (decide := true) only [uu, if_true, if_false]
  · simp (decide := true) only [uu, if_true, if_false]
  · rw [ug, if_neg (by decide)]
  · rw [ug, if_pos rfl]
  · rw [ug, if_neg (by decide)]
theorem m_opens6 {s : Int32} (h : MSt u N G S i 6 c W) : ∃ G' S', sp_X11_opens G S s = (0, G', S') ∧ G' 17 = ft 5 i := by
  refine ⟨upd G 17 (ft 5 i), S, ?_, by rw [uu, if_pos rfl]⟩
  unfold sp_X11_opens sp_X11_wrongAt
  simp only [k_e, k_e3]
  rw [h.2.2.1, if_pos (show nI 6 = 6 from rfl), h.1]
  rfl
theorem m_wrong {k : Int32} (h : MSt u N G S i o c W) : sp_X11_wrongAt G S k (G 15) = (0, upd G 17 (ft k i), S) := by
  unfold sp_X11_wrongAt
  simp only [k_e]
  rw [h.1]
  rfl
/-- a sign is passed -/
theorem m_adv (hu : HU u N) (h : MSt u N G S i o c W) (hi : u i ≠ 256) : MSt u N (upd G 15 (G 15 + 1)) S (i + 1) o c W := by
  have hiN := HU_in hu hi
  obtain ⟨h1, h2, h3, h4, h5, h6, h7, h8, h9, h10⟩ := h
  refine ⟨?_, ?_, ?_, ?_, ?_, h6, h7, by omega, by omega, by omega⟩
  · rw [uu, if_pos rfl, h1, nI_1]
  · rw [uu, if_neg (by decide)]; exact h2
  · rw [uu, if_neg (by decide)]; exact h3
  · rw [uu, if_neg (by decide)]; exact h4
  · rw [uu, if_neg (by decide)]; exact h5
end RM1
/-- operators that wait become codes -/
def qc (q : List (Nat × Nat)) : List Cd := q.map (fun x => (x.1, 0, 0))
theorem qc_len (q : List (Nat × Nat)) : (qc q).length = q.length := by simp [qc]
def Qm (x : Nat × Nat) : Prop := 4 ≤ x.1 ∧ x.1 ≤ 6
def Qa (x : Nat × Nat) : Prop := 2 ≤ x.1 ∧ x.1 ≤ 6
def Qn (_ : Nat × Nat) : Prop := False
def tops (Q : Nat × Nat → Prop) (W : List (Nat × Nat)) : Prop := ∀ q W', W = q :: W' → ¬ Q q
section RM2
variable {u : Nat → Nat} {N : Nat}
theorem m_close (hu : HU u N) {a0 : Int32} {Q : Nat × Nat → Prop} (hQ : (a0 = 0 ∧ Q = Qm) ∨ (a0 = 1 ∧ Q = Qa)) {i o : Nat} {W : List (Nat × Nat)} (hW : tops Q W) : ∀ (q : List (Nat × Nat)) (n c : Nat) (G : Nat → Int32) (S : Nat → Nat → Int32), q.length < n → (∀ x, x ∈ q → Q x) → MSt u N G S i o c (q ++ W) → c + q.length ≤ i → ∃ G' S', K_X11_closesSums_0 a0 n G S = (G', S') ∧ MSt u N G' S' i o (c + q.length) W ∧ CodeM (S' 12) c (qc q) ∧ (∀ k, k < c → S' 12 k = S 12 k)
  | [], n, c, G, S, hn, hq, h, hc => by
    obtain ⟨n, rfl⟩ : ∃ n', n = n' + 1 := ⟨n - 1, by omega⟩
    refine ⟨G, S, ?_, h, trivial, fun _ _ => rfl⟩
    rw [ks_X11_closesSums_0]
    unfold KB_X11_closesSums_0
    simp only [k_e]
    have h : MSt u N G S i o c W := h
    have hN := hu.1
    have key : (sp_X11_waitTop G S < 4 ∧ (a0 = 0 ∨ (¬ sp_X11_waitTop G S = 2 ∧ ¬ sp_X11_waitTop G S = 3))) ∨ (¬ sp_X11_waitTop G S < 4 ∧ ¬ sp_X11_waitTop G S ≤ 6 ∧ ¬ sp_X11_waitTop G S = 2 ∧ ¬ sp_X11_waitTop G S = 3) := by
      cases W with
      | nil =>
        rw [m_top0 h]
        exact Or.inl ⟨by decide, Or.inr ⟨by decide, by decide⟩⟩
      | cons x W' =>
        have hx := hW x W' rfl
        have h14 : x.1 ≤ 14 := h.2.2.2.2.2.2.1.2.1
        rw [m_top h hN]
        have e4 : nI x.1 < 4 ↔ x.1 < 4 := nI_ltI (b := 4) (by omega) (by omega)
        have e6 : nI x.1 ≤ 6 ↔ x.1 ≤ 6 := nI_leI (b := 6) (by omega) (by omega)
        have e2 : nI x.1 = 2 ↔ x.1 = 2 := nI_eq (b := 2) (by omega) (by omega)
        have e3 : nI x.1 = 3 ↔ x.1 = 3 := nI_eq (b := 3) (by omega) (by omega)
        rw [e4, e6, e2, e3]
        rcases hQ with ⟨r1, r2⟩ | ⟨r1, r2⟩
        · rw [r2] at hx
          unfold Qm at hx
          by_cases z : x.1 < 4
          · exact Or.inl ⟨z, Or.inl r1⟩
          · exact Or.inr ⟨z, by omega, by omega, by omega⟩
        · rw [r2] at hx
          unfold Qa at hx
          by_cases z : x.1 < 4
          · exact Or.inl ⟨z, Or.inr ⟨by omega, by omega⟩⟩
          · exact Or.inr ⟨z, by omega, by omega, by omega⟩
    rcases key with ⟨k1, k2⟩ | ⟨k1, k2, k3, k4⟩
    · rw [if_pos k1]
      rcases k2 with k2 | ⟨k2, k3⟩
      · rw [if_pos k2]
      · by_cases z : a0 = 0
        · rw [if_pos z]
        · rw [if_neg z, if_neg k2, if_neg k3]
    · rw [if_neg k1, if_neg k2]
      by_cases z : a0 = 0
      · rw [if_pos z]
      · rw [if_neg z, if_neg k3, if_neg k4]
  | x :: q, n, c, G, S, hn, hq, h, hc => by
    obtain ⟨n, rfl⟩ : ∃ n', n = n' + 1 := ⟨n - 1, by omega⟩
    simp only [List.length_cons] at hn hc
    have hN := hu.1
    have hx := hq x List.mem_cons_self
    have h : MSt u N G S i o c (x :: (q ++ W)) := h
    have ht := m_top h hN
    have h14 : x.1 ≤ 14 := h.2.2.2.2.2.2.1.2.1
    have e4 : nI x.1 < 4 ↔ x.1 < 4 := nI_ltI (b := 4) (by omega) (by omega)
    have e6 : nI x.1 ≤ 6 ↔ x.1 ≤ 6 := nI_leI (b := 6) (by omega) (by omega)
    have e2 : nI x.1 = 2 ↔ x.1 = 2 := nI_eq (b := 2) (by omega) (by omega)
    have e3 : nI x.1 = 3 ↔ x.1 = 3 := nI_eq (b := 3) (by omega) (by omega)
    obtain ⟨G1, S1, n1, n2, n3, n4⟩ := m_note (op := x.1) (v := 0) h (by omega) hN
    have hp := m_pop n2
    have e26 : G1 26 = G 26 := n4 26 (by omega)
    rw [e26] at hp
    obtain ⟨G', S', r1, r2, r3, r4⟩ := m_close hu hQ hW q n (c + 1) _ _ (by omega) (fun y hy => hq y (List.mem_cons_of_mem _ hy)) hp (by omega)
    have hstep : K_X11_closesSums_0 a0 (n + 1) G S = K_X11_closesSums_0 a0 n (upd G1 26 (G 26 - 1)) S1 := by
      rw [ks_X11_closesSums_0]
      unfold KB_X11_closesSums_0 K_X11_closesSums_37
      simp only [k_e]
      rw [ht]
      have n1' : sp_X11_notes G S (nI x.1) 0 = (G1, S1) := n1
      rw [n1']
      simp only [k_t2]
      rcases hQ with ⟨r1, r2⟩ | ⟨r1, r2⟩
      · rw [r2] at hx
        obtain ⟨x4, x6⟩ : 4 ≤ x.1 ∧ x.1 ≤ 6 := hx
        rw [if_neg (fun z => by have := e4.mp z; omega), if_pos (e6.mpr x6)]
      · rw [r2] at hx
        obtain ⟨x4, x6⟩ : 2 ≤ x.1 ∧ x.1 ≤ 6 := hx
        have na : ¬ a0 = 0 := by rw [r1]; decide
        by_cases z : x.1 < 4
        · rw [if_pos (e4.mpr z), if_neg na]
          by_cases z2 : x.1 = 2
          · rw [if_pos (e2.mpr z2)]
          · rw [if_neg (fun y => z2 (e2.mp y)), if_pos (e3.mpr (by omega))]
        · rw [if_neg (fun y => z (e4.mp y)), if_pos (e6.mpr x6)]
    refine ⟨G', S', hstep.trans r1, ?_, ⟨?_, r3⟩, fun k hk => ?_⟩
    · have e : c + (x :: q).length = c + 1 + q.length := by simp only [List.length_cons]; omega
      rw [e]
      exact r2
    · rw [r4 c (by omega), n3, uu, if_pos rfl]
      have hx2 : 2 ≤ x.1 ∧ x.1 ≤ 6 := by
        rcases hQ with ⟨_, r2⟩ | ⟨_, r2⟩
        · rw [r2] at hx
          obtain ⟨x4, x6⟩ : 4 ≤ x.1 ∧ x.1 ≤ 6 := hx
          omega
        · rw [r2] at hx
          exact hx
      show nI (1048576 * x.1 + 0) = nI (1048576 * x.1 + cvM c (x.1, 0, 0))
      unfold cvM
      rw [if_neg (by show ¬ x.1 ≤ 1; omega), if_pos (by show x.1 ≤ 10; omega)]
    · rw [r4 k (by omega), n3, uu, if_neg (by omega)]
theorem m_has1 {G : Nat → Int32} {S : Nat → Nat → Int32} {m t : Nat} (ht : G 26 = nI t) (hm : m < t) (ht2 : t < 2 ^ 31) (h : S 13 m / 1048576 = 14) : ∀ d k, k + d = m → ∀ n, d < n → K_X11_hasOpenSum_2 G S n (nI k) = 1
  | 0, k, hk, n, hn => by
    obtain ⟨n, rfl⟩ : ∃ n', n = n' + 1 := ⟨n - 1, by omega⟩
    have e : k = m := by omega
    subst e
    rw [ks_X11_hasOpenSum_2]
    unfold KB_X11_hasOpenSum_2
    simp only [k_e]
    rw [ht, if_neg (nI_ge hm ht2), nI_clamp (by omega), if_pos h]
  | d + 1, k, hk, n, hn => by
    obtain ⟨n, rfl⟩ : ∃ n', n = n' + 1 := ⟨n - 1, by omega⟩
    rw [ks_X11_hasOpenSum_2]
    unfold KB_X11_hasOpenSum_2
    simp only [k_e]
    rw [ht, if_neg (nI_ge (show k < t by omega) ht2), nI_1]
    split
    · rfl
    · exact m_has1 ht hm ht2 h d (k + 1) (by omega) n (by omega)
theorem m_has0 {G : Nat → Int32} {S : Nat → Nat → Int32} {t : Nat} (ht : G 26 = nI t) (ht2 : t < 2 ^ 31) : ∀ d k, k + d = t → (∀ m, k ≤ m → m < t → ¬ S 13 m / 1048576 = 14) → ∀ n, d < n → K_X11_hasOpenSum_2 G S n (nI k) = 0
  | 0, k, hk, h, n, hn => by
    obtain ⟨n, rfl⟩ : ∃ n', n = n' + 1 := ⟨n - 1, by omega⟩
    rw [ks_X11_hasOpenSum_2]
    unfold KB_X11_hasOpenSum_2
    rw [ht, if_pos (nI_le (by omega) (by omega))]
  | d + 1, k, hk, h, n, hn => by
    obtain ⟨n, rfl⟩ : ∃ n', n = n' + 1 := ⟨n - 1, by omega⟩
    rw [ks_X11_hasOpenSum_2]
    unfold KB_X11_hasOpenSum_2
    simp only [k_e]
    rw [ht, if_neg (nI_ge (show k < t by omega) ht2), nI_1, nI_clamp (by omega), if_neg (h k (Nat.le_refl _) (by omega))]
    exact m_has0 ht ht2 d (k + 1) (by omega) (fun m h1 h2 => h m (by omega) h2) n (by omega)
end RM2
