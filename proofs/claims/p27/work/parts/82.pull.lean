/-! ===== pull ===== -/
def UPull (F : Nat → Int32) (R : Nat → Nat → Int32) (G : Nat → Int32) (S : Nat → Nat → Int32) : Prop := ∃ t : Nat, t ≤ 60 ∧ F 177 = nI t ∧ G 19 = nI t ∧ ∀ k, k < t → R 12 k = S 10 k ∧ ∃ p : Nat, p ≤ 40 ∧ R 12 k = nI p
theorem UPull_e {F F' G G' : Nat → Int32} {R R' S S' : Nat → Nat → Int32} (h : UPull F R G S) (e1 : F' 177 = F 177) (e2 : G' 19 = G 19) (r : R' 12 = R 12) (s : S' 10 = S 10) : UPull F' R' G' S' := by
  unfold UPull at *
  rw [e1, e2, r, s]
  exact h
section UPL
variable {u : Nat → Nat} {N : Nat}
/-- the text's signs, both tapes -/
def TxC (u : Nat → Nat) (N : Nat) (R : Nat → Nat → Int32) : Prop := ∀ k, k < N → R 10 k = nI (u k)
def TxM (u : Nat → Nat) (N : Nat) (G : Nat → Int32) (S : Nat → Nat → Int32) : Prop := G 16 = nI N ∧ ∀ k, k < N → S 9 k &&& 255 = nI (u k)
theorem p_dig (hu : HU u N) {F : Nat → Int32} {R : Nat → Nat → Int32} (h : TxC u N R) {k : Nat} (hk : k < 400) : sp_X5_digit_r9 F R (nI k) (nI N) = if dig (u k) then nI (u k - 48) else -1 := by
  have hle := HU_le hu k
  have hN := hu.1
  unfold sp_X5_digit_r9
  by_cases q : N ≤ k
  · rw [if_pos (nI_le q (by omega)), hu.2.2 k q]
    rfl
  · rw [if_neg (nI_ge (by omega) (by omega)), k_e, at_n (by omega), h k (by omega)]
    unfold K_X5_digit_r9_18 K_X5_digit_r9_38
    have hb := hu.2.1 k (by omega)
    rw [← sg_n hb, k_e, sg_in hle]
    by_cases z : dig (u k)
    · have z' : 48 ≤ u k ∧ u k ≤ 57 := z
      rw [if_pos z, if_pos z, if_neg (by decide), k_e, sg_n hb]
      exact pk_sub (a := u k) (b := 48) z'.1
    · rw [if_neg z, if_neg z, if_pos rfl]
theorem p_here (hu : HU u N) {G : Nat → Int32} {S : Nat → Nat → Int32} (h : TxM u N G S) {i : Nat} (h1 : G 15 = nI i) (hi : i < 400) : sp_X11_here G S = sg (u i) := by
  obtain ⟨h2, h6⟩ := h
  obtain ⟨n1, n2, n3⟩ := hu
  unfold sp_X11_here
  simp only [k_e]
  rw [h1, h2]
  by_cases q : i < N
  · rw [if_neg (nI_ge q (by omega)), nI_clamp (by omega), h6 i q, sg_n (n2 i q)]
  · rw [if_pos (nI_le (by omega) (by omega)), n3 i (by omega)]
    rfl
theorem p_isd (hu : HU u N) {G : Nat → Int32} {S : Nat → Nat → Int32} (h : TxM u N G S) {i : Nat} (h1 : G 15 = nI i) (hi : i < 400) : sp_X11_isDigit G S = if dig (u i) then 1 else 0 := by
  have hle := HU_le hu i
  unfold sp_X11_isDigit
  simp only [k_e]
  rw [p_here hu h h1 hi]
  by_cases q1 : sg (u i) < 48
  · have := (sg_48 hle).mp q1
    rw [if_pos q1, if_neg (fun z => by have : 48 ≤ u i ∧ u i ≤ 57 := z; omega)]
  · have q1' := fun z => q1 ((sg_48 hle).mpr z)
    rw [if_neg q1]
    by_cases q2 : 57 < sg (u i)
    · have := (sg_57 hle).mp q2
      rw [if_pos q2, if_neg (fun z => by have : 48 ≤ u i ∧ u i ≤ 57 := z; omega)]
    · have q2' := fun z => q2 ((sg_57 hle).mpr z)
      rw [if_neg q2, if_pos]
      refine ⟨?_, ?_⟩
      · by_cases z : u i < 48
        · exact absurd (Or.inl z) q1'
        · omega
      · by_cases z : 57 < u i
        · by_cases z2 : u i = 256
          · exact absurd (Or.inr z2) q1'
          · exact absurd ⟨z, z2⟩ q2'
        · omega
/-- the pace at i: its digits, its number -/
def pj (u : Nat → Nat) (i : Nat) : Nat := if dig (u (i + 1)) then i + 2 else i + 1
def pv (u : Nat → Nat) (i : Nat) : Nat := if dig (u (i + 1)) then 10 * (u i - 48) + (u (i + 1) - 48) else u i - 48
theorem pv_lt (i : Nat) (h : dig (u i)) : pv u i ≤ 99 := by
  have h' : 48 ≤ u i ∧ u i ≤ 57 := h
  unfold pv
  split
  · rename_i z
    have z' : 48 ≤ u (i + 1) ∧ u (i + 1) ≤ 57 := z
    omega
  · omega
theorem pj_gt (i : Nat) : i < pj u i ∧ pj u i ≤ i + 2 := by
  unfold pj
  split <;> omega
theorem p_pstep (hu : HU u N) {G0 G : Nat → Int32} {S : Nat → Nat → Int32} (h : TxM u N G S) {i y : Nat} {m v : Nat} (h0 : G0 15 = nI i) (h1 : G 15 = nI (i + y)) (hy : y < 2) (hi : i < 300) (h18 : G 18 = nI v) (hd : dig (u (i + y))) : ∃ G', K_X11_readsPace_10 G0 S (m + 1) G = K_X11_readsPace_10 G0 S m G' ∧ G' 15 = nI (i + (y + 1)) ∧ G' 18 = nI (10 * v + (u (i + y) - 48)) ∧ (∀ k, k ≠ 15 → k ≠ 18 → G' k = G k) := by
  have hle := HU_le hu (i + y)
  have d' : 48 ≤ u (i + y) ∧ u (i + y) ≤ 57 := hd
  have nle : ¬ nI (i + 2) ≤ nI (i + y) := nI_ge (by omega) (by omega)
  have e1 : (10 : Int32) * nI v = nI (10 * v) := pk_mul 10 _
  have e2 : nI (10 * v + u (i + y)) - nI 48 = nI (10 * v + u (i + y) - 48) := pk_sub (by omega)
  have e3 : (10 : Int32) * nI v + nI (u (i + y)) - 48 = nI (10 * v + (u (i + y) - 48)) := by
    rw [e1, nI_add]
    refine e2.trans ?_
    rw [show 10 * v + u (i + y) - 48 = 10 * v + (u (i + y) - 48) from by omega]
  refine ⟨upd (upd G 18 (nI (10 * v + (u (i + y) - 48)))) 15 (nI (i + (y + 1))), ?_, by rw [uu, if_pos rfl], by rw [uu, if_neg (by decide), uu, if_pos rfl], fun k k1 k2 => by rw [uu, if_neg k1, uu, if_neg k2]⟩
  have e : K_X11_readsPace_10 G0 S (m + 1) G = KB_X11_readsPace_10 (K_X11_readsPace_10 G0 S m) G0 S G := rfl
  rw [e]
  unfold KB_X11_readsPace_10
  simp only [k_e]
  rw [p_isd hu h h1 (by omega), if_pos hd, if_neg (by decide), h0, h1, show nI i + 2 = nI (i + 2) from nI_add i 2, if_neg nle, p_here hu h h1 (by omega), sg_n (by omega), h18, e3, nI_1, Nat.add_assoc]
theorem p_pend (hu : HU u N) {G0 G : Nat → Int32} {S : Nat → Nat → Int32} (h : TxM u N G S) {i y m : Nat} (h0 : G0 15 = nI i) (h1 : G 15 = nI (i + y)) (hy : y ≤ 2) (hi : i < 300) (hd : y = 2 ∨ ¬ dig (u (i + y))) : K_X11_readsPace_10 G0 S (m + 1) G = K_X11_readsPace_59 G0 G S := by
  have e : K_X11_readsPace_10 G0 S (m + 1) G = KB_X11_readsPace_10 (K_X11_readsPace_10 G0 S m) G0 S G := rfl
  rw [e]
  unfold KB_X11_readsPace_10
  simp only [k_e]
  rw [p_isd hu h h1 (by omega)]
  by_cases z : dig (u (i + y))
  · rw [if_pos z, if_neg (by decide), h0, h1, show nI i + 2 = nI (i + 2) from nI_add i 2, if_pos (nI_le (by omega) (by omega))]
  · rw [if_neg z, if_pos rfl]
theorem p_pace (hu : HU u N) {G : Nat → Int32} {S : Nat → Nat → Int32} (h : TxM u N G S) {i : Nat} (h1 : G 15 = nI i) (hi : i < 300) (hd : dig (u i)) : ∃ G', sp_X11_readsPace G S = (if pv u i ≤ 40 then (1, G', S) else (0, upd G' 17 (ft 3 i), S)) ∧ G' 15 = nI (pj u i) ∧ G' 18 = nI (pv u i) ∧ (∀ k, k ≠ 15 → k ≠ 18 → G' k = G k) := by
  have e0 : sp_X11_readsPace G S = K_X11_readsPace_10 G S 8589934592 (upd G 18 0) := by
    unfold sp_X11_readsPace
    rw [k_e]
  have hT : TxM u N (upd G 18 0) S := ⟨by rw [uu, if_neg (by decide)]; exact h.1, h.2⟩
  have e59 : ∀ G' : Nat → Int32, G' 18 = nI (pv u i) → K_X11_readsPace_59 G G' S = (if pv u i ≤ 40 then (1, G', S) else (0, upd G' 17 (ft 3 i), S)) := by
    intro G' e
    unfold K_X11_readsPace_59 K_X11_readsPace_82 sp_X11_wrongAt
    have hv := pv_lt (u := u) i hd
    have e4 : nI (pv u i) ≤ 40 ↔ pv u i ≤ 40 := nI_leI (b := 40) (by omega) (by omega)
    rw [e, h1]
    by_cases z : pv u i ≤ 40
    · rw [if_pos (e4.mpr z), if_pos z]
    · rw [if_neg (fun y => z (e4.mp y)), if_neg z]
      simp only [k_e, k_t3]
      rfl
  obtain ⟨G1, a1, a2, a3, a4⟩ := p_pstep (G0 := G) (G := upd G 18 0) (m := 8589934591) (v := 0) (y := 0) hu hT h1 (by rw [uu, if_neg (by decide)]; exact h1) (by omega) hi (by rw [uu, if_pos rfl]; rfl) hd
  have hT1 : TxM u N G1 S := ⟨by rw [a4 16 (by omega) (by omega)]; exact hT.1, h.2⟩
  by_cases z : dig (u (i + 1))
  · obtain ⟨G2, b1, b2, b3, b4⟩ := p_pstep (G0 := G) (G := G1) (m := 8589934590) (y := 1) hu hT1 h1 a2 (by omega) hi a3 z
    have hT2 : TxM u N G2 S := ⟨by rw [b4 16 (by omega) (by omega)]; exact hT1.1, h.2⟩
    have ej : pj u i = i + 2 := by unfold pj; rw [if_pos z]
    have ev : pv u i = 10 * (u i - 48) + (u (i + 1) - 48) := by unfold pv; rw [if_pos z]
    have ev2 : G2 18 = nI (pv u i) := by
      rw [b3, ev]
      show nI (10 * (10 * 0 + (u i - 48)) + (u (i + 1) - 48)) = _
      rw [show 10 * (10 * 0 + (u i - 48)) + (u (i + 1) - 48) = 10 * (u i - 48) + (u (i + 1) - 48) from by omega]
    have c1 := p_pend (G0 := G) (G := G2) (m := 8589934589) (y := 2) hu hT2 h1 b2 (by omega) hi (Or.inl rfl)
    refine ⟨G2, ?_, by rw [ej]; exact b2, ev2, fun k k1 k2 => ?_⟩
    · rw [e0]
      exact (a1.trans (b1.trans c1)).trans (e59 G2 ev2)
    · rw [b4 k k1 k2, a4 k k1 k2, uu, if_neg k2]
  · have ej : pj u i = i + 1 := by unfold pj; rw [if_neg z]
    have ev : pv u i = u i - 48 := by unfold pv; rw [if_neg z]
    have ev2 : G1 18 = nI (pv u i) := by
      rw [a3, ev]
      show nI (10 * 0 + (u i - 48)) = _
      rw [show 10 * 0 + (u i - 48) = u i - 48 from by omega]
    have c1 := p_pend (G0 := G) (G := G1) (m := 8589934590) (y := 1) hu hT1 h1 a2 (by omega) hi (Or.inr z)
    refine ⟨G1, ?_, by rw [ej]; exact a2, ev2, fun k k1 k2 => ?_⟩
    · rw [e0]
      exact (a1.trans c1).trans (e59 G1 ev2)
    · rw [a4 k k1 k2, uu, if_neg k2]
/-- how often: where the step ends, how many ticks -/
def qj (u : Nat → Nat) (i : Nat) : Nat := if u (pj u i) = 42 then pj u i + 2 else pj u i
def qm (u : Nat → Nat) (i : Nat) : Nat := if u (pj u i) = 42 then u (pj u i + 1) - 48 else 1
/-- ticks are laid by the class -/
theorem p_add {p : Int32} {many : Nat} : ∀ d y, y + d = many → ∀ (n t : Nat) (F : Nat → Int32) (R : Nat → Nat → Int32), d < n → F 209 = nI t → t + d ≤ 60 → many < 2 ^ 31 → ∃ F' R', K_X5_add_13_2 p (nI many) n F R (nI y) = (F', R') ∧ F' 209 = nI (t + d) ∧ (∀ k, k ≠ 209 → F' k = F k) ∧ (∀ c, c ≠ 14 → R' c = R c) ∧ (∀ k, k < t → R' 14 k = R 14 k) ∧ (∀ k, t ≤ k → k < t + d → R' 14 k = p) := by
  intro d
  induction d with
  | zero =>
    intro y hy n t F R hn ht h60 hm
    obtain ⟨n, rfl⟩ : ∃ n', n = n' + 1 := ⟨n - 1, by omega⟩
    refine ⟨F, R, ?_, ht, fun _ _ => rfl, fun _ _ => rfl, fun _ _ => rfl, fun k k1 k2 => by omega⟩
    have e : K_X5_add_13_2 p (nI many) (n + 1) F R (nI y) = KB_X5_add_13_2 (K_X5_add_13_2 p (nI many) n) p (nI many) F R (nI y) := rfl
    rw [e]
    unfold KB_X5_add_13_2 K_X5_add_13_42
    rw [show y = many from by omega, if_pos (Int32.le_refl _)]
  | succ d ih =>
    intro y hy n t F R hn ht h60 hm
    obtain ⟨n, rfl⟩ : ∃ n', n = n' + 1 := ⟨n - 1, by omega⟩
    · obtain ⟨F', R', a1, a2, a3, a4, a5, a6⟩ := ih (y + 1) (by omega) n (t + 1) (upd F 209 (nI (t + 1))) (g_u R 14 (upd (R 14) t p)) (by omega) (by rw [uu, if_pos rfl]) (by omega) hm
      refine ⟨F', R', ?_, by rw [a2]; congr 1; omega, fun k hk => by rw [a3 k hk, uu, if_neg hk], fun c hc => by rw [a4 c hc, ug, if_neg hc], fun k hk => ?_, fun k k1 k2 => ?_⟩
      · have e : K_X5_add_13_2 p (nI many) (n + 1) F R (nI y) = KB_X5_add_13_2 (K_X5_add_13_2 p (nI many) n) p (nI many) F R (nI y) := rfl
        rw [e]
        unfold KB_X5_add_13_2
        rw [if_neg (nI_ge (by omega) hm), ht, if_neg (show ¬ (60 : Int32) ≤ nI t from nI_ge (a := t) (b := 60) (by omega) (by omega))]
        simp only [k_e]
        rw [nI_clamp (by omega), nI_1, nI_1]
        exact a1
      · rw [a5 k (by omega), ug, if_pos rfl, uu, if_neg (by omega)]
      · by_cases z : k = t
        · rw [a5 k (by omega), ug, if_pos rfl, uu, if_pos z]
        · exact a6 k (by omega) (by omega)
/-- .. and by the reference -/
theorem p_lay {G : Nat → Int32} {many t : Nat} {p : Int32} (h18 : G 18 = p) (h20 : G 20 = nI t) (hm : t + many ≤ 60) {k21 : Nat} (h21 : G 21 = nI k21) : ∀ d y, y + d = many → ∀ (n : Nat) (S : Nat → Nat → Int32), d < n → ∃ S', K_X11_readsStep_136 G (nI many) n S (nI y) = (1, upd (upd G 20 (nI (t + many))) 21 (nI (k21 + 1)), S') ∧ (∀ c, c ≠ 11 → S' c = S c) ∧ (∀ k, k < t + y → S' 11 k = S 11 k) ∧ (∀ k, t + y ≤ k → k < t + many → S' 11 k = p) := by
  intro d
  induction d with
  | zero =>
    intro y hy n S hn
    obtain ⟨n, rfl⟩ : ∃ n', n = n' + 1 := ⟨n - 1, by omega⟩
    refine ⟨S, ?_, fun _ _ => rfl, fun _ _ => rfl, fun k k1 k2 => by omega⟩
    have e : K_X11_readsStep_136 G (nI many) (n + 1) S (nI y) = KB_X11_readsStep_136 (K_X11_readsStep_136 G (nI many) n) G (nI many) S (nI y) := rfl
    rw [e]
    unfold KB_X11_readsStep_136
    rw [show y = many from by omega, if_pos (Int32.le_refl _)]
    simp only [k_e]
    rw [h20, nI_add, h21, nI_1]
  | succ d ih =>
    intro y hy n S hn
    obtain ⟨n, rfl⟩ : ∃ n', n = n' + 1 := ⟨n - 1, by omega⟩
    obtain ⟨S', a1, a2, a3, a4⟩ := ih (y + 1) (by omega) n (g_u S 11 (upd (S 11) (t + y) p)) (by omega)
    refine ⟨S', ?_, fun c hc => by rw [a2 c hc, ug, if_neg hc], fun k hk => ?_, fun k k1 k2 => ?_⟩
    · have e : K_X11_readsStep_136 G (nI many) (n + 1) S (nI y) = KB_X11_readsStep_136 (K_X11_readsStep_136 G (nI many) n) G (nI many) S (nI y) := rfl
      rw [e]
      unfold KB_X11_readsStep_136
      rw [if_neg (nI_ge (by omega) (by omega))]
      simp only [k_e]
      rw [h20, nI_add, nI_clamp (by omega), h18, nI_1]
      exact a1
    · rw [a3 k (by omega), ug, if_pos rfl, uu, if_neg (by omega)]
    · by_cases z : k = t + y
      · rw [a3 k (by omega), ug, if_pos rfl, uu, if_pos z]
      · exact a4 k (by omega) k2
end UPL
