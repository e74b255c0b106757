/-! ===== evenings without slips, by a table that was laid and changed ===== -/
def uGL (G : Nat → Int32) (t : Int32) : Nat → Int32 := upd (upd (upd (upd (upd G 44 t) 42 (G 4)) 43 (G 2)) 51 0) 49 0
/-- the class has laid the table, but for places; the pull, without slips -/
def ULaid (F : Nat → Int32) (R : Nat → Nat → Int32) : Prop := F 80 = F 16 ∧ F 81 = F 17 ∧ F 82 = F 18 ∧ F 83 = F 19 ∧ F 241 = F 177 ∧ F 672 = 0 ∧ F 674 = 0 ∧ (∀ k, k < 80 → k % 8 ≠ 1 → R 6 k = R 2 k) ∧ (∀ k, k < 60 → R 16 k = R 12 k)
theorem ULaid_e {F F' : Nat → Int32} {R R' : Nat → Nat → Int32} (h : ULaid F R) (f : ∀ k, k = 16 ∨ k = 17 ∨ k = 18 ∨ k = 19 ∨ k = 177 ∨ k = 80 ∨ k = 81 ∨ k = 82 ∨ k = 83 ∨ k = 241 ∨ k = 672 ∨ k = 674 → F' k = F k) (r2 : R' 2 = R 2) (r12 : R' 12 = R 12) (r16 : R' 16 = R 16) (r6 : ∀ k, k < 80 → k % 8 ≠ 1 → R' 6 k = R 6 k) : ULaid F' R' := by
  obtain ⟨h1, h2, h3, h4, h5, h6, h7, h8, h9⟩ := h
  unfold ULaid
  rw [f 16 (by omega), f 17 (by omega), f 18 (by omega), f 19 (by omega), f 177 (by omega), f 80 (by omega), f 81 (by omega), f 82 (by omega), f 83 (by omega), f 241 (by omega), f 672 (by omega), f 674 (by omega), r2, r12, r16]
  exact ⟨h1, h2, h3, h4, h5, h6, h7, fun k hk k1 => by rw [r6 k hk k1]; exact h8 k hk k1, h9⟩
section UEV
variable {F G : Nat → Int32} {R S : Nat → Nat → Int32}
theorem lay_laid (F : Nat → Int32) (R : Nat → Nat → Int32) : ∃ F' R', sp_X7_lay_r1_r11 F R = (F', R') ∧ ULaid F' R' ∧ (∀ k, k ≠ 80 → k ≠ 81 → k ≠ 82 → k ≠ 83 → k ≠ 84 → k ≠ 241 → k ≠ 672 → k ≠ 674 → F' k = F k) ∧ (∀ k, k < 80 → R' 6 k = R' 2 k) ∧ (∀ c, c ≠ 6 → c ≠ 16 → R' c = R c) := by
  obtain ⟨F', R', c0, c80, c81, c82, c83, c84, c241, c672, c674, cf, cr6, cr16, cr⟩ := c_lay F R
  refine ⟨F', R', c0, ⟨?_, ?_, ?_, ?_, ?_, c672, c674, fun k hk _ => ?_, fun k hk => ?_⟩, cf, fun k hk => ?_, cr⟩
  · rw [c80, cf 16 (by omega) (by omega) (by omega) (by omega) (by omega) (by omega) (by omega) (by omega)]
  · rw [c81, cf 17 (by omega) (by omega) (by omega) (by omega) (by omega) (by omega) (by omega) (by omega)]
  · rw [c82, cf 18 (by omega) (by omega) (by omega) (by omega) (by omega) (by omega) (by omega) (by omega)]
  · rw [c83, cf 19 (by omega) (by omega) (by omega) (by omega) (by omega) (by omega) (by omega) (by omega)]
  · rw [c241, cf 177 (by omega) (by omega) (by omega) (by omega) (by omega) (by omega) (by omega) (by omega)]
  · rw [cr6 k hk, cr 2 (by omega) (by omega)]
  · rw [cr16 k hk, cr 12 (by omega) (by omega)]
  · rw [cr6 k hk, cr 2 (by omega) (by omega)]
theorem m_lays {t : Nat} (h : G 19 = nI t) (ht : t ≤ 60) : ∃ S1 S2, sp_X11_laysPull G S = (upd G 44 (nI t), S1) ∧ sp_X11_laysThings (upd G 44 (nI t)) S1 = (uGL G (nI t), S2) ∧ (∀ k, k < t → S2 25 k = S 10 k) ∧ (∀ k, k < 10 → S2 26 k = S 2 k ∧ S2 30 k = S 6 k) ∧ (∀ c, c ≠ 25 → c ≠ 26 → c ≠ 30 → S2 c = S c) := by
  obtain ⟨S1, a1, a2, a3⟩ := m_lp (S := S) h ht
  obtain ⟨S2, b1, b2, b3⟩ := m_lt (upd G 44 (nI t)) S1
  refine ⟨S1, S2, a1, ?_, fun k hk => ?_, fun k hk => ?_, fun c c1 c2 c3 => ?_⟩
  · rw [b1, uu, if_neg (by decide), uu, if_neg (by decide)]
    rfl
  · rw [b3 25 (by omega) (by omega), a2 k hk]
  · rw [(b2 k hk).1, (b2 k hk).2, a3 2 (by omega), a3 6 (by omega)]
    exact ⟨rfl, rfl⟩
  · rw [b3 c c2 c3, a3 c c1]
theorem uGL_k (G : Nat → Int32) (t : Int32) {k : Nat} (h : k ≠ 44 ∧ k ≠ 42 ∧ k ≠ 43 ∧ k ≠ 51 ∧ k ≠ 49) : uGL G t k = G k := by
  unfold uGL
  rw [uu, if_neg h.2.2.2.2, uu, if_neg h.2.2.2.1, uu, if_neg h.2.2.1, uu, if_neg h.2.1, uu, if_neg h.1]
theorem uGL_44 (G : Nat → Int32) (t : Int32) : uGL G t 44 = t := by
  unfold uGL
  simp (decide := true) only [uu, if_true, if_false]
theorem uGL_42 (G : Nat → Int32) (t : Int32) : uGL G t 42 = G 4 := by
  unfold uGL
  simp (decide := true) only [uu, if_true, if_false]
theorem uGL_43 (G : Nat → Int32) (t : Int32) : uGL G t 43 = G 2 := by
  unfold uGL
  simp (decide := true) only [uu, if_true, if_false]
theorem uGL_51 (G : Nat → Int32) (t : Int32) : uGL G t 51 = 0 := by
  unfold uGL
  simp (decide := true) only [uu, if_true, if_false]
theorem uGL_49 (G : Nat → Int32) (t : Int32) : uGL G t 49 = 0 := by
  unfold uGL
  simp (decide := true) only [uu, if_true]
theorem beg_pl (h : URel F R G S) (hl : ULaid F R) {SL : Nat → Nat → Int32} {t : Nat} (ht : t ≤ 60) (eG : G 19 = nI t) (s25 : ∀ k, k < t → SL 25 k = S 10 k) (s30 : ∀ k, k < 10 → SL 30 k = S 6 k) (sl : ∀ c, c ≠ 25 → c ≠ 26 → c ≠ 30 → SL c = S c) (pl : ∀ j, j < 10 → hb (F 19) (nI j) → R 6 (8 * j + 1) = SL 26 j) : UBeg F R (uGL G (nI t)) SL := by
  obtain ⟨h1, h2, h3, h4, h5⟩ := h
  obtain ⟨t1, t2, t3, t4, t5, t6, t7, t8, t9⟩ := h1
  obtain ⟨t', p1, p2, p3, p4⟩ := h4
  obtain ⟨q1, q2, q3, q4⟩ := h5
  obtain ⟨l1, l2, l3, l4, l5, l6, l7, l8, l9⟩ := hl
  have et : t = t' := (nI_eq (by omega) (by omega)).mp (eG.symm.trans p3)
  subst et
  have k0 := uGL_k G (nI t) (k := 0) (by omega)
  have k1 := uGL_k G (nI t) (k := 1) (by omega)
  have k28 := uGL_k G (nI t) (k := 28) (by omega)
  refine ⟨by rw [l4, uGL_42]; exact t5, by rw [l4]; exact t6, by rw [l1, k0]; exact t1, by rw [l2, k1]; exact t2, by rw [l3, uGL_43]; exact t3, by rw [l5, uGL_44, p2], by rw [l5, p2]; exact ⟨by rw [nI_toInt (by omega)]; omega, by rw [nI_toInt (by omega)]; omega⟩, fun k hk hk2 => ?_, fun j hj ht => ?_, ULaw_e h3 rfl rfl k28 (fun _ _ _ => rfl) (fun c c1 c2 => sl c (by omega) (by omega) (by omega)), Or.inr ⟨l6, uGL_51 _ _, by rw [l7, uGL_49], Or.inl l7⟩⟩
  · rw [l5, p2] at hk2
    have hkt : k < t := (nI_ltI (by omega) (by omega)).mp hk2
    obtain ⟨b1, p, b2, b3⟩ := p4 k hkt
    rw [l9 k hk, s25 k hkt]
    refine ⟨b1, ?_⟩
    rw [← b1, b3]
    exact ⟨by rw [nI_toInt (by omega)]; omega, by rw [nI_toInt (by omega)]; omega⟩
  · rw [l4] at ht
    have x := t7 j hj ht
    have y := q3 j hj (by rw [← t5]; exact ht)
    rw [pl j hj ht, s30 j hj, l8 (8 * j) (by omega) (by omega), l8 (8 * j + 2) (by omega) (by omega), l8 (8 * j + 3) (by omega) (by omega), l8 (8 * j + 4) (by omega) (by omega), l8 (8 * j + 5) (by omega) (by omega), l8 (8 * j + 6) (by omega) (by omega), sl 1 (by omega) (by omega) (by omega), sl 3 (by omega) (by omega) (by omega), sl 4 (by omega) (by omega) (by omega), sl 5 (by omega) (by omega) (by omega), sl 7 (by omega) (by omega) (by omega)]
    exact ⟨x 0 (by omega), rfl, x 2 (by omega), x 3 (by omega), x 4 (by omega), x 5 (by omega), x 6 (by omega), y.1, y.2.1, y.2.2⟩
/-- set bits below a place, counted -/
def cbt (x : Int32) : Nat → Nat
  | 0 => 0
  | i + 1 => cbt x i + (if uhb x (nI i) = true then 1 else 0)
theorem cbt_s (x : Int32) (i : Nat) : cbt x (i + 1) = cbt x i + (if uhb x (nI i) = true then 1 else 0) := rfl
theorem cbt_bit (x : Int32) (i n : Nat) (hn : n < 1000) : nI n + (x >>> (nI i &&& 31) &&& 1) = nI (n + (if uhb x (nI i) = true then 1 else 0)) := by
  by_cases q : hb x (nI i)
  · rw [if_pos (uhb_t.mpr q)]
    have q : x >>> (nI i &&& 31) &&& 1 = 1 := q
    rw [q, nI_1]
  · rw [if_neg (fun z => q (uhb_t.mp z))]
    have e := pk_and (x >>> (nI i &&& 31)) (m := 1) 1 (by decide)
    have h2 : (x >>> (nI i &&& 31)).toBitVec.toNat % 2 ^ 1 < 2 := Nat.mod_lt _ (by decide)
    have h3 : (x >>> (nI i &&& 31)).toBitVec.toNat % 2 ^ 1 = 0 := by
      by_cases z : (x >>> (nI i &&& 31)).toBitVec.toNat % 2 ^ 1 = 1
      · rw [z] at e
        exact absurd e q
      · omega
    rw [e, h3, nI_add]
theorem cbt_le (x : Int32) : ∀ i, cbt x i ≤ i := by
  intro i
  induction i with
  | zero => exact Nat.le_refl _
  | succ i ih =>
    rw [cbt_s]
    split <;> omega
theorem bits_cb (x : Int32) : bits10 x = nI (cbt x 10) := by
  have hz : (0 : Int32) = nI (cbt x 0) := rfl
  have b := cbt_le x
  unfold bits10
  rw [hz, cbt_bit x 0 (cbt x 0) (by have := b 0; omega), ← cbt_s, cbt_bit x 1 (cbt x 1) (by have := b 1; omega), ← cbt_s, cbt_bit x 2 (cbt x 2) (by have := b 2; omega), ← cbt_s, cbt_bit x 3 (cbt x 3) (by have := b 3; omega), ← cbt_s, cbt_bit x 4 (cbt x 4) (by have := b 4; omega), ← cbt_s, cbt_bit x 5 (cbt x 5) (by have := b 5; omega), ← cbt_s, cbt_bit x 6 (cbt x 6) (by have := b 6; omega), ← cbt_s, cbt_bit x 7 (cbt x 7) (by have := b 7; omega), ← cbt_s, cbt_bit x 8 (cbt x 8) (by have := b 8; omega), ← cbt_s, cbt_bit x 9 (cbt x 9) (by have := b 9; omega), ← cbt_s]
/-- behind an evening without slips: both the same, and nothing else changed -/
theorem even_rel (h : URel F R G S) (hl : ULaid F R) {SL : Nat → Nat → Int32} {t : Nat} (ht : t ≤ 60) (eG : G 19 = nI t) (s25 : ∀ k, k < t → SL 25 k = S 10 k) (s30 : ∀ k, k < 10 → SL 30 k = S 6 k) (sl : ∀ c, c ≠ 25 → c ≠ 26 → c ≠ 30 → SL c = S c) (pl : ∀ j, j < 10 → hb (F 19) (nI j) → R 6 (8 * j + 1) = SL 26 j) : (∃ e, UEnd e (sp_X0_run F R) (sp_X11_runs (uGL G (nI t)) SL)) ∧ URel (sp_X0_run F R).1 (sp_X0_run F R).2 (sp_X11_runs (uGL G (nI t)) SL).1 (sp_X11_runs (uGL G (nI t)) SL).2 ∧ ULaid (sp_X0_run F R).1 (sp_X0_run F R).2 ∧ (∃ r w, sp_X4_standing (sp_X0_run F R).1 (sp_X0_run F R).2 = nI r ∧ sp_X4_inches (sp_X0_run F R).1 (sp_X0_run F R).2 = w ∧ r ≤ 10 ∧ (∀ G' S', sp_X11_bits G' S' (sp_X11_standing (sp_X11_runs (uGL G (nI t)) SL).1 (sp_X11_runs (uGL G (nI t)) SL).2) = nI r) ∧ sp_X11_inchesAll (sp_X11_runs (uGL G (nI t)) SL).1 (sp_X11_runs (uGL G (nI t)) SL).2 = w) := by
  have hB := beg_pl h hl ht eG s25 s30 sl pl
  obtain ⟨e, r1, r2, r3⟩ := run_rel hB
  have frC := fr_sp_X0_run F R
  have frM := fr_sp_X11_runs (uGL G (nI t)) SL
  have kt := kt_sp_X11_runs (uGL G (nI t)) (uGL G (nI t)) SL rfl (uGL_51 _ _)
  have led := run_led F R
  have g3 : (sp_X11_runs (uGL G (nI t)) SL).1 3 = G 3 := kt.1.trans (uGL_k _ _ (by omega))
  generalize sp_X0_run F R = P at *
  generalize sp_X11_runs (uGL G (nI t)) SL = Q at *
  obtain ⟨FP, RP⟩ := P
  obtain ⟨GQ, SQ⟩ := Q
  dsimp only at led g3 ⊢
  have fC : ∀ k, cF k ∨ k = 80 ∨ k = 81 ∨ k = 82 ∨ k = 83 ∨ k = 241 ∨ k = 672 ∨ k = 674 → FP k = F k := fun k hk => frC.1 k (by unfold cF at hk; simp [md_X0_run]; omega)
  have rC : ∀ c, cR c ∨ c = 6 ∨ c = 16 → RP c = R c := fun c hc => frC.2 c (by unfold cR at hc; simp [mr_X0_run]; omega)
  refine ⟨⟨e, r2⟩, URel_e h (fun k hk => fC k (Or.inl hk)) (fun k hk => ?_) (fun c hc => rC c (Or.inl hc)) (fun c hc => ?_), ULaid_e hl (fun k hk => fC k (by unfold cF; omega)) (rC 2 (by unfold cR; omega)) (rC 12 (by unfold cR; omega)) (rC 16 (by omega)) (fun k hk _ => by rw [rC 6 (by omega)]), ?_⟩
  · by_cases k3 : k = 3
    · rw [k3]; exact g3
    · have : GQ k = uGL G (nI t) k := frM.1 k (by unfold cG at hk; simp [md_X11_runs]; omega)
      rw [this]
      exact uGL_k _ _ (by unfold cG at hk; omega)
  · have : SQ c = SL c := frM.2 c (by unfold cS at hc; simp [mr_X11_runs]; omega)
    rw [this]
    exact sl c (by unfold cS at hc; omega) (by unfold cS at hc; omega) (by unfold cS at hc; omega)
  · obtain ⟨u1, u2, u3, u4, u5, u6⟩ := r2
    have e42 : FP 691 = GQ 42 := u1.1.1
    have hst := fun G' S' => stand_eq u1 FP RP G' S' rfl rfl rfl
    refine ⟨cbt (sp_X11_standing GQ SQ) 10, _, ?_, rfl, cbt_le _ _, fun G' S' => by rw [um_bits, bits_cb], ?_⟩
    · rw [hst GQ SQ, um_bits, bits_cb]
    · exact (inch_eq FP e42 (by rw [led.2]; exact led.1) u6).symm
/-! the better one -/
def utake (r w b i : Int32) : Bool := decide (¬ r < b ∧ (r = b → w < i))
theorem c_improves (F : Nat → Int32) (R : Nat → Nat → Int32) : sp_X7_improves F R = if utake (sp_X4_standing F R) (sp_X4_inches F R) (F 564) (F 565) = true then (1, upd (upd F 564 (sp_X4_standing F R)) 565 (sp_X4_inches F R), R) else (0, F, R) := by
  unfold sp_X7_improves K_X7_improves_40 K_X7_improves_42 utake
  simp only [k_e]
  by_cases q1 : sp_X4_standing F R < F 564
  · rw [if_pos q1, if_neg (by simp [q1])]
  · rw [if_neg q1]
    by_cases q2 : sp_X4_standing F R = F 564
    · rw [if_pos q2]
      by_cases q3 : sp_X4_inches F R < F 565
      · rw [if_pos q3, if_pos (by simp [q1, q3])]
      · rw [if_neg q3, if_neg (by simp [q2, q3])]
    · rw [if_neg q2, if_pos (by simp [q1, q2])]
theorem m_better (G : Nat → Int32) (S : Nat → Nat → Int32) (c : Int32) : sp_X11_better G S c = if utake (sp_X11_bits G S (sp_X11_standing G S)) (sp_X11_inchesAll G S) (G 70) (G 71) = true then (upd (upd (upd G 70 (sp_X11_bits G S (sp_X11_standing G S))) 71 (sp_X11_inchesAll G S)) 72 c, S) else (G, S) := by
  unfold sp_X11_better utake
  simp only [k_e]
  by_cases q1 : sp_X11_bits G S (sp_X11_standing G S) < G 70
  · rw [if_pos q1, if_neg (by simp [q1])]
  · rw [if_neg q1]
    by_cases q2 : sp_X11_bits G S (sp_X11_standing G S) = G 70
    · rw [if_pos q2]
      by_cases q3 : sp_X11_inchesAll G S < G 71
      · rw [if_pos q3, if_pos (by simp [q1, q3])]
      · rw [if_neg q3, if_neg (by simp [q2, q3])]
    · rw [if_neg q2, if_pos (by simp [q1, q2])]
end UEV
