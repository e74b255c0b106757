/-! ===== pull: a step of both ===== -/
section UP2
variable {u : Nat → Nat} {N : Nat}
def gq (u : Nat → Nat) (i : Nat) : Prop := u (pj u i) = 42 → 50 ≤ u (pj u i + 1) ∧ u (pj u i + 1) ≤ 57
theorem p_C1 (hu : HU u N) {F : Nat → Int32} {R : Nat → Nat → Int32} (hC : TxC u N R) {i k : Nat} (hi : i < 300) (hk : k ≤ 20) (b : (Nat → Int32) → (Nat → Nat → Int32) → Int32 → Int32 → Int32 × (Nat → Int32) × (Nat → Nat → Int32)) : (¬ dig (u i) → (KB_X5_read_13_r9_20 b (nI N) F R (nI i) (nI k)).1 = ft 1 i) ∧ (dig (u i) → k = 20 → (KB_X5_read_13_r9_20 b (nI N) F R (nI i) (nI k)).1 = ft 4 i) ∧ (dig (u i) → k < 20 → KB_X5_read_13_r9_20 b (nI N) F R (nI i) (nI k) = K_X5_read_13_r9_95 b F R (nI N) (nI i) (nI k) (nI (pj u i)) (nI (pv u i))) := by
  have hd0 := p_dig (F := F) hu hC (k := i) (by omega)
  have hd1 := p_dig (F := F) hu hC (k := i + 1) (by omega)
  have nm : ¬ (0 : Int32) ≤ -1 := by decide
  refine ⟨fun h => ?_, fun h hk2 => ?_, fun h hk2 => ?_⟩
  · unfold KB_X5_read_13_r9_20
    rw [hd0, k_e, if_neg h, if_neg nm, k_e]
    rfl
  · unfold KB_X5_read_13_r9_20
    have h' : 48 ≤ u i ∧ u i ≤ 57 := h
    rw [hd0, k_e, if_pos h, if_pos (nI_pos' (by omega)), if_pos (by rw [hk2]; rfl), k_e]
    rfl
  · have h' : 48 ≤ u i ∧ u i ≤ 57 := h
    have n20 : ¬ nI k = 20 := fun z => by have := (nI_eq (a := k) (b := 20) (by omega) (by omega)).mp z; omega
    unfold KB_X5_read_13_r9_20
    simp only [k_e]
    rw [hd0, if_pos h, if_pos (nI_pos' (by omega)), if_neg n20, nI_1, hd1]
    unfold pj pv
    by_cases z : dig (u (i + 1))
    · have z' : 48 ≤ u (i + 1) ∧ u (i + 1) ≤ 57 := z
      have e1 : nI (u i - 48) * 10 = nI ((u i - 48) * 10) := pk_mul _ 10
      rw [if_pos z, if_neg (nI_pos (by omega)), if_pos z, if_pos z, e1, nI_add, nI_1, show (u i - 48) * 10 + (u (i + 1) - 48) = 10 * (u i - 48) + (u (i + 1) - 48) from by omega]
    · rw [if_neg z, if_pos (by decide), if_neg z, if_neg z]
theorem p_C2 (hu : HU u N) {F : Nat → Int32} {R : Nat → Nat → Int32} (hC : TxC u N R) {i k : Nat} (hi : i < 300) (hd : dig (u i)) (b : (Nat → Int32) → (Nat → Nat → Int32) → Int32 → Int32 → Int32 × (Nat → Int32) × (Nat → Nat → Int32)) : (40 < pv u i → (K_X5_read_13_r9_95 b F R (nI N) (nI i) (nI k) (nI (pj u i)) (nI (pv u i))).1 = ft 3 i) ∧ (pv u i ≤ 40 → ¬ gq u i → (K_X5_read_13_r9_95 b F R (nI N) (nI i) (nI k) (nI (pj u i)) (nI (pv u i))).1 = ft 1 (pj u i + 1)) ∧ (pv u i ≤ 40 → gq u i → K_X5_read_13_r9_95 b F R (nI N) (nI i) (nI k) (nI (pj u i)) (nI (pv u i)) = K_X5_read_13_r9_154 b F R (nI N) (nI i) (nI k) (nI (pv u i)) (nI (qj u i)) (nI (qm u i))) := by
  have hv := pv_lt i hd
  obtain ⟨hj1, hj2⟩ := pj_gt (u := u) i
  have hN := hu.1
  have e4 : nI (pv u i) ≤ 40 ↔ pv u i ≤ 40 := nI_leI (b := 40) (by omega) (by omega)
  have hd1 := p_dig (F := F) hu hC (k := pj u i + 1) (by omega)
  refine ⟨fun h => ?_, fun h hg => ?_, fun h hg => ?_⟩
  · unfold K_X5_read_13_r9_95
    rw [if_neg (fun z => by have := e4.mp z; omega), k_e]
    rfl
  · have h42 : u (pj u i) = 42 := by
      by_cases z : u (pj u i) = 42
      · exact z
      · exact absurd (fun y => absurd y z) hg
    have hlt : pj u i < N := HU_in hu (by omega)
    unfold K_X5_read_13_r9_95
    rw [if_pos (e4.mpr h), if_neg (nI_ge hlt (by omega))]
    simp only [k_e]
    rw [at_n (by omega), hC _ hlt, h42, if_pos (show nI 42 = 42 from rfl), nI_1, hd1]
    by_cases z : dig (u (pj u i + 1))
    · have z' : 48 ≤ u (pj u i + 1) ∧ u (pj u i + 1) ≤ 57 := z
      have n2 : ¬ (2 : Int32) ≤ nI (u (pj u i + 1) - 48) := nI_ge (a := u (pj u i + 1) - 48) (b := 2) (by
        by_cases y : u (pj u i + 1) < 50
        · omega
        · exact absurd (fun _ => ⟨by omega, z'.2⟩) hg) (by omega)
      rw [if_pos z, if_neg n2]
      rfl
    · rw [if_neg z, if_neg (by decide)]
      rfl
  · unfold K_X5_read_13_r9_95 qj qm
    rw [if_pos (e4.mpr h)]
    by_cases h42 : u (pj u i) = 42
    · have hlt : pj u i < N := HU_in hu (by omega)
      obtain ⟨g1, g2⟩ := hg h42
      rw [if_neg (nI_ge hlt (by omega)), if_pos h42, if_pos h42]
      simp only [k_e]
      have z : dig (u (pj u i + 1)) := ⟨by omega, g2⟩
      rw [at_n (by omega), hC _ hlt, h42, if_pos (show nI 42 = 42 from rfl), nI_1, hd1, if_pos z, if_pos (show (2 : Int32) ≤ nI (u (pj u i + 1) - 48) from nI_le (a := 2) (by omega) (by omega))]
      have e2 : nI (pj u i) + 2 = nI (pj u i + 2) := nI_add _ 2
      rw [e2]
    · rw [if_neg h42, if_neg h42]
      by_cases q : N ≤ pj u i
      · rw [if_pos (nI_le q (by omega))]
        rfl
      · have hb := hu.2.1 (pj u i) (by omega)
        have n42 : ¬ nI (u (pj u i)) = 42 := fun z => h42 ((nI_eq (b := 42) (by omega) (by omega)).mp z)
        rw [if_neg (nI_ge (by omega) (by omega)), k_e, at_n (by omega), hC _ (by omega), if_neg n42]
        rfl
theorem p_M (hu : HU u N) {G : Nat → Int32} {S : Nat → Nat → Int32} (hM : TxM u N G S) {i k t : Nat} (hi : i < 300) (hk : k ≤ 20) (h15 : G 15 = nI i) (h20 : G 20 = nI t) (h21 : G 21 = nI k) (ht : t ≤ 60) : (¬ dig (u i) → ∃ G', sp_X11_readsStep G S = (0, G', S) ∧ G' 17 = ft 1 i) ∧ (dig (u i) → k = 20 → ∃ G', sp_X11_readsStep G S = (0, G', S) ∧ G' 17 = ft 4 i) ∧ (dig (u i) → k < 20 → 40 < pv u i → ∃ G', sp_X11_readsStep G S = (0, G', S) ∧ G' 17 = ft 3 i) ∧ (dig (u i) → k < 20 → pv u i ≤ 40 → ¬ gq u i → ∃ G', sp_X11_readsStep G S = (0, G', S) ∧ G' 17 = ft 1 (pj u i + 1)) ∧ (dig (u i) → k < 20 → pv u i ≤ 40 → gq u i → 60 < t + qm u i → ∃ G', sp_X11_readsStep G S = (0, G', S) ∧ G' 17 = ft 6 i) ∧ (dig (u i) → k < 20 → pv u i ≤ 40 → gq u i → t + qm u i ≤ 60 → ∃ G' S', sp_X11_readsStep G S = (1, G', S') ∧ G' 15 = nI (qj u i) ∧ G' 16 = G 16 ∧ G' 20 = nI (t + qm u i) ∧ G' 21 = nI (k + 1) ∧ (∀ c, c ≠ 11 → S' c = S c) ∧ (∀ z, z < t → S' 11 z = S 11 z) ∧ (∀ z, t ≤ z → z < t + qm u i → S' 11 z = nI (pv u i))) := by
  obtain ⟨hj1, hj2⟩ := pj_gt (u := u) i
  have hN := hu.1
  have n1 : ¬ (1 : Int32) = 0 := by decide
  have hd0 := p_isd hu hM h15 (by omega)
  -- the step, up to the pace
  have top : dig (u i) → k < 20 → sp_X11_readsStep G S = k_lt3 (sp_X11_readsPace G S) (fun r14 F19 R20 => if r14 = 0 then (0, F19, R20) else k_lt (sp_X11_here F19 R20) (fun r25 => if r25 = 42 then k_lt ((F19 15) + 1) (fun x75 => k_lt (upd F19 15 x75) (fun F77 => k_lt (sp_X11_isDigit F77 R20) (fun r79 => if r79 = 0 then K_X11_readsStep_87 F77 R20 x75 else k_lt (sp_X11_here F77 R20) (fun r98 => if 50 ≤ r98 then k_lt (sp_X11_here F77 R20) (fun r107 => k_lt (r107 - 48) (fun x113 => k_lt (x75 + 1) (fun x115 => k_lt (upd F77 15 x115) (fun F117 => K_X11_readsStep_115 G R20 F117 x113)))) else K_X11_readsStep_87 F77 R20 x75)))) else K_X11_readsStep_115 G R20 F19 1)) := by
    intro z hk2
    have n20 : ¬ nI k = 20 := fun z => by have := (nI_eq (a := k) (b := 20) (by omega) (by omega)).mp z; omega
    unfold sp_X11_readsStep
    rw [k_e, hd0, if_pos z, if_neg n1, h21, if_neg n20]
  -- the step's end
  have fin : ∀ (G1 : Nat → Int32) (m : Nat), (∀ y, y ≠ 15 → y ≠ 18 → G1 y = G y) → G1 18 = nI (pv u i) → m < 60 → (60 < t + m → ∃ G', K_X11_readsStep_115 G S G1 (nI m) = (0, G', S) ∧ G' 17 = ft 6 i) ∧ (t + m ≤ 60 → ∃ S', K_X11_readsStep_115 G S G1 (nI m) = (1, upd (upd G1 20 (nI (t + m))) 21 (nI (k + 1)), S') ∧ (∀ c, c ≠ 11 → S' c = S c) ∧ (∀ z, z < t → S' 11 z = S 11 z) ∧ (∀ z, t ≤ z → z < t + m → S' 11 z = nI (pv u i))) := by
    intro G1 m hG h18 hm
    have e20 : G1 20 = nI t := by rw [hG 20 (by omega) (by omega)]; exact h20
    have e21 : G1 21 = nI k := by rw [hG 21 (by omega) (by omega)]; exact h21
    constructor
    · intro z
      refine ⟨upd G1 17 (ft 6 i), ?_, by rw [uu, if_pos rfl]⟩
      unfold K_X11_readsStep_115 sp_X11_wrongAt
      simp only [k_e]
      rw [e20, nI_add, if_neg (show ¬ nI (t + m) ≤ 60 from nI_ge (a := 60) (b := t + m) (by omega) (by omega)), h15, k_t3]
      rfl
    · intro z
      obtain ⟨S', a1, a2, a3, a4⟩ := p_lay (many := m) h18 e20 z e21 m 0 (by omega) 8589934592 S (by omega)
      refine ⟨S', ?_, a2, fun z hz => a3 z (by omega), fun z hz => a4 z (by omega)⟩
      unfold K_X11_readsStep_115
      rw [k_e, e20, nI_add, if_pos (show nI (t + m) ≤ 60 from nI_le (a := t + m) (b := 60) z (by omega))]
      exact a1
  refine ⟨fun z => ?_, fun z hk2 => ?_, fun z hk2 hv => ?_, fun z hk2 hv hg => ?_, fun z hk2 hv hg h60 => ?_, fun z hk2 hv hg h60 => ?_⟩
  · refine ⟨upd G 17 (ft 1 i), ?_, by rw [uu, if_pos rfl]⟩
    unfold sp_X11_readsStep sp_X11_wrongAt
    rw [k_e, hd0, if_neg z, if_pos rfl, h15]
    simp only [k_e, k_t3]
    rfl
  · refine ⟨upd G 17 (ft 4 i), ?_, by rw [uu, if_pos rfl]⟩
    unfold sp_X11_readsStep sp_X11_wrongAt
    rw [k_e, hd0, if_pos z, if_neg n1, h21, if_pos (by rw [hk2]; rfl), h15]
    simp only [k_e, k_t3]
    rfl
  · obtain ⟨G1, a1, a2, a3, a4⟩ := p_pace hu hM h15 hi z
    rw [if_neg (by omega)] at a1
    refine ⟨upd G1 17 (ft 3 i), ?_, by rw [uu, if_pos rfl]⟩
    rw [top z hk2, a1, k_t3, if_pos rfl]
  · obtain ⟨G1, a1, a2, a3, a4⟩ := p_pace hu hM h15 hi z
    rw [if_pos hv] at a1
    have hM1 : TxM u N G1 S := ⟨by rw [a4 16 (by omega) (by omega)]; exact hM.1, hM.2⟩
    have h42 : u (pj u i) = 42 := by
      by_cases y : u (pj u i) = 42
      · exact y
      · exact absurd (fun w => absurd w y) hg
    have hM2 : TxM u N (upd G1 15 (nI (pj u i + 1))) S := ⟨by rw [uu, if_neg (by decide)]; exact hM1.1, hM.2⟩
    have h2 : upd G1 15 (nI (pj u i + 1)) 15 = nI (pj u i + 1) := by rw [uu, if_pos rfl]
    have hle := HU_le hu (pj u i + 1)
    refine ⟨upd (upd G1 15 (nI (pj u i + 1))) 17 (ft 1 (pj u i + 1)), ?_, by rw [uu, if_pos rfl]⟩
    have e87 : K_X11_readsStep_87 (upd G1 15 (nI (pj u i + 1))) S (nI (pj u i + 1)) = (0, upd (upd G1 15 (nI (pj u i + 1))) 17 (ft 1 (pj u i + 1)), S) := by
      unfold K_X11_readsStep_87 sp_X11_wrongAt
      simp only [k_e, k_t3]
      rfl
    rw [top z hk2, a1, k_t3, if_neg n1, k_e, p_here hu hM1 a2 (by omega), h42, if_pos (show sg 42 = 42 from rfl)]
    simp only [k_e]
    rw [a2, nI_1, p_isd hu hM2 h2 (by omega)]
    by_cases y : dig (u (pj u i + 1))
    · have y' : 48 ≤ u (pj u i + 1) ∧ u (pj u i + 1) ≤ 57 := y
      have n50 : ¬ (50 : Int32) ≤ nI (u (pj u i + 1)) := nI_ge (a := u (pj u i + 1)) (b := 50) (by
        by_cases w : u (pj u i + 1) < 50
        · exact w
        · exact absurd (fun _ => ⟨by omega, y'.2⟩) hg) (by omega)
      rw [if_pos y, if_neg n1, p_here hu hM2 h2 (by omega), sg_n (by omega), if_neg n50]
      exact e87
    · rw [if_neg y, if_pos rfl]
      exact e87
  all_goals
    obtain ⟨G1, a1, a2, a3, a4⟩ := p_pace hu hM h15 hi z
    rw [if_pos hv] at a1
    have hM1 : TxM u N G1 S := ⟨by rw [a4 16 (by omega) (by omega)]; exact hM.1, hM.2⟩
    have hle := HU_le hu (pj u i)
    have hs : ∃ G2, sp_X11_readsStep G S = K_X11_readsStep_115 G S G2 (nI (qm u i)) ∧ (∀ y, y ≠ 15 → y ≠ 18 → G2 y = G y) ∧ G2 18 = nI (pv u i) ∧ G2 15 = nI (qj u i) ∧ qm u i < 60 := by
      unfold qm qj
      by_cases h42 : u (pj u i) = 42
      · obtain ⟨g1, g2⟩ := hg h42
        have hM2 : TxM u N (upd G1 15 (nI (pj u i + 1))) S := ⟨by rw [uu, if_neg (by decide)]; exact hM1.1, hM.2⟩
        have h2 : upd G1 15 (nI (pj u i + 1)) 15 = nI (pj u i + 1) := by rw [uu, if_pos rfl]
        refine ⟨upd (upd G1 15 (nI (pj u i + 1))) 15 (nI (pj u i + 2)), ?_, fun y y1 y2 => by rw [uu, if_neg y1, uu, if_neg y1, a4 y y1 y2], by rw [uu, if_neg (by decide), uu, if_neg (by decide)]; exact a3, by rw [uu, if_pos rfl, if_pos h42], by rw [if_pos h42]; omega⟩
        have y : dig (u (pj u i + 1)) := ⟨by omega, g2⟩
        have e48 : nI (u (pj u i + 1)) - 48 = nI (u (pj u i + 1) - 48) := pk_sub (a := u (pj u i + 1)) (b := 48) (by omega)
        rw [top z hk2, a1, k_t3, if_neg n1, k_e, p_here hu hM1 a2 (by omega), if_pos (show sg (u (pj u i)) = 42 by rw [h42]; rfl), if_pos h42]
        simp only [k_e]
        rw [a2, nI_1, p_isd hu hM2 h2 (by omega), if_pos y, if_neg n1, p_here hu hM2 h2 (by omega), sg_n (by omega), if_pos (show (50 : Int32) ≤ nI (u (pj u i + 1)) from nI_le (a := 50) g1 (by omega)), e48, nI_1]
      · refine ⟨G1, ?_, a4, a3, by rw [if_neg h42]; exact a2, by rw [if_neg h42]; omega⟩
        rw [top z hk2, a1, k_t3, if_neg n1, k_e, p_here hu hM1 a2 (by omega), if_sg 42 42 rfl hle (by omega), if_neg h42, if_neg h42]
        rfl
    obtain ⟨G2, s1, s2, s3, s4, s5⟩ := hs
  · obtain ⟨G', b1, b2⟩ := (fin G2 (qm u i) s2 s3 s5).1 h60
    exact ⟨G', s1.trans b1, b2⟩
  · obtain ⟨S', b1, b2, b3, b4⟩ := (fin G2 (qm u i) s2 s3 s5).2 h60
    refine ⟨_, S', s1.trans b1, ?_, ?_, ?_, by rw [uu, if_pos rfl], b2, b3, b4⟩
    · rw [uu, if_neg (by decide), uu, if_neg (by decide)]; exact s4
    · rw [uu, if_neg (by decide), uu, if_neg (by decide)]; exact s2 16 (by omega) (by omega)
    · rw [uu, if_neg (by decide), uu, if_pos rfl]
end UP2
