/-! ===== even paces ===== -/
def cfF (k : Nat) : Prop := k < 241 ∨ 242 ≤ k ∧ k ≤ 600 ∨ k = 672 ∨ k = 674 ∨ 700 ≤ k
def cfR (c : Nat) : Prop := c ≤ 15 ∨ 17 ≤ c ∧ c ≤ 22 ∨ 25 ≤ c ∧ c ≤ 37 ∨ 47 ≤ c
def cfG (k : Nat) : Prop := k ≤ 2 ∨ 4 ≤ k ∧ k ≤ 41 ∨ 70 ≤ k
def cfS (c : Nat) : Prop := c ≤ 22 ∨ 38 ≤ c
/-- the table is laid whole, the hand is still -/
def ULt (F : Nat → Int32) (R : Nat → Nat → Int32) : Prop := F 80 = F 16 ∧ F 81 = F 17 ∧ F 82 = F 18 ∧ F 83 = F 19 ∧ F 672 = 0 ∧ F 674 = 0 ∧ ∀ k, k < 80 → R 6 k = R 2 k
theorem ULt_e {F F' : Nat → Int32} {R R' : Nat → Nat → Int32} (h : ULt F R) (f : ∀ k, cfF k → F' k = F k) (r : ∀ c, cfR c → R' c = R c) : ULt F' R' := by
  unfold ULt
  rw [f 80 (by unfold cfF; omega), f 81 (by unfold cfF; omega), f 82 (by unfold cfF; omega), f 83 (by unfold cfF; omega), f 16 (by unfold cfF; omega), f 17 (by unfold cfF; omega), f 18 (by unfold cfF; omega), f 19 (by unfold cfF; omega), f 672 (by unfold cfF; omega), f 674 (by unfold cfF; omega), r 6 (by unfold cfR; omega), r 2 (by unfold cfR; omega)]
  exact h
theorem lt_of_laid {F : Nat → Int32} {R : Nat → Nat → Int32} (h : ULaid F R) (h6 : ∀ k, k < 80 → R 6 k = R 2 k) : ULt F R := by
  obtain ⟨l1, l2, l3, l4, l5, l6, l7, l8, l9⟩ := h
  exact ⟨l1, l2, l3, l4, l6, l7, h6⟩
section UPC
variable {b : Prop} {F G : Nat → Int32} {R S : Nat → Nat → Int32}
/-- a pull is laid by both: the evening by it -/
theorem laid_step (h : UR0 b F R G S) (hl : ULt F R) {Fe : Nat → Int32} {Re : Nat → Nat → Int32} {Gc : Nat → Int32} {Sc : Nat → Nat → Int32} {T : Nat} (hp : UPl Fe Re Gc Sc T) (f : ∀ k, k ≠ 241 → Fe k = F k) (r : ∀ c, c ≠ 16 → Re c = R c) (g : ∀ k, k ≠ 42 → k ≠ 43 → k ≠ 44 → k ≠ 49 → k ≠ 51 → Gc k = G k) (s : ∀ c, c ≠ 25 → c ≠ 26 → c ≠ 30 → Sc c = S c) (g42 : Gc 42 = G 4) (g43 : Gc 43 = G 2) (g49 : Gc 49 = 0) (g51 : Gc 51 = 0) (s26 : ∀ j, j < 10 → Sc 26 j = S 2 j ∧ Sc 30 j = S 6 j) : ∃ F' R' G' S' r w, sp_X0_run Fe Re = (F', R') ∧ sp_X11_runs Gc Sc = (G', S') ∧ UOut F' R' G' S' r w ∧ UR0 b F' R' G' S' ∧ ULt F' R' ∧ F' 691 = G 4 ∧ (∀ k, cfF k → F' k = F k) ∧ (∀ c, cfR c → R' c = R c) ∧ (∀ k, cfG k → G' k = G k) ∧ (∀ c, cfS c → S' c = S c) := by
  obtain ⟨t1, t2, t3, t4, t5, t6, t7, t8⟩ := id h.1
  obtain ⟨l1, l2, l3, l4, l5, l6, l7⟩ := id hl
  have hU : UR0 b Fe Re G S := UR0_e h (fun k hk => f k (by unfold cF0 cF at hk; omega)) (fun _ _ => rfl) (fun c hc => r c (by unfold cR0 cR at hc; omega)) (fun _ _ => rfl)
  have hB : UBeg Fe Re Gc Sc := by
    refine ubeg_mk hU (by rw [f 83 (by omega), g42, l4]; exact t5) (by rw [f 83 (by omega), l4]; exact t6) (fun j hj ht => ?_) (by rw [f 80 (by omega), f 16 (by omega)]; exact l1) (by rw [f 81 (by omega), f 17 (by omega)]; exact l2) (by rw [f 82 (by omega), g43, l3]; exact t3) (fun k hk _ => g k (by unfold cG0 cG at hk; omega) (by unfold cG0 cG at hk; omega) (by unfold cG0 cG at hk; omega) (by unfold cG0 cG at hk; omega) (by unfold cG0 cG at hk; omega)) hp (fun j q hj hq _ _ => ?_) (fun j hj ht => ?_) (fun c hc => s c (by unfold cS0 cS at hc; omega) (by unfold cS0 cS at hc; omega) (by unfold cS0 cS at hc; omega)) (Or.inr ⟨by rw [f 672 (by omega)]; exact l5, g51, by rw [f 674 (by omega), g49]; exact l6, Or.inl (by rw [f 674 (by omega)]; exact l6)⟩)
    · rw [f 83 (by omega), l4] at ht
      rw [f 19 (by omega)]
      exact ht
    · rw [r 6 (by omega), r 2 (by omega)]
      exact l7 _ (by omega)
    · rw [f 83 (by omega), l4] at ht
      have x := t7 j hj ht
      obtain ⟨y1, y2⟩ := s26 j hj
      rw [r 6 (by omega), l7 _ (by omega), l7 _ (by omega), y1, y2]
      exact ⟨x 1 (by omega), x 5 (by omega)⟩
  obtain ⟨F', R', G', S', q, w, a1, a2, a3, a4, a5, a6, a7, a8, a9⟩ := eve_rel hU hB (fun k hk => g k (by unfold cG0 cG at hk; omega) (by unfold cG0 cG at hk; omega) (by unfold cG0 cG at hk; omega) (by unfold cG0 cG at hk; omega) (by unfold cG0 cG at hk; omega)) (fun c hc => s c (by unfold cS0 cS at hc; omega) (by unfold cS0 cS at hc; omega) (by unfold cS0 cS at hc; omega)) g51
  have fF : ∀ k, cfF k → F' k = F k := fun k hk => (a6 k (by unfold cfF at hk; simp [md_X0_run] <;> omega)).trans (f k (by unfold cfF at hk; omega))
  have fR : ∀ c, cfR c → R' c = R c := fun c hc => (a7 c (by unfold cfR at hc; simp [mr_X0_run] <;> omega)).trans (r c (by unfold cfR at hc; omega))
  refine ⟨F', R', G', S', q, w, a1, a2, a3, a4, ULt_e hl fF fR, ?_, fF, fR, fun k hk => ?_, fun c hc => ?_⟩
  · rw [a5, f 83 (by omega), l4]
    exact t5
  · exact (a8 k (by unfold cfG at hk; simp [md_X11_runs] <;> omega)).trans (g k (by unfold cfG at hk; omega) (by unfold cfG at hk; omega) (by unfold cfG at hk; omega) (by unfold cfG at hk; omega) (by unfold cfG at hk; omega))
  · exact (a9 c (by unfold cfS at hc; simp [mr_X11_runs] <;> omega)).trans (s c (by unfold cfS at hc; omega) (by unfold cfS at hc; omega) (by unfold cfS at hc; omega))
theorem even_step (h : UR0 b F R G S) (hl : ULt F R) (hb1 : jv 0 200 (F 17)) {P : Nat} (hP : 1 ≤ P ∧ P ≤ 40) : ∃ Fe Re Ga Sa F' R' G' S' r w, sp_X5_even_15 F R (nI P) (F 81) = (Fe, Re) ∧ sp_X0_run Fe Re = (F', R') ∧ sp_X11_laysThings G S = (Ga, Sa) ∧ sp_X11_runsEven Ga Sa (nI P) = (G', S') ∧ UOut F' R' G' S' r w ∧ UR0 b F' R' G' S' ∧ ULt F' R' ∧ F' 691 = G 4 ∧ (∀ k, cfF k → F' k = F k) ∧ (∀ c, cfR c → R' c = R c) ∧ (∀ k, cfG k → G' k = G k) ∧ (∀ c, cfS c → S' c = S c) := by
  obtain ⟨Sa, b1, b2, b3⟩ := m_lt G S
  have ga : ∀ k, k ≠ 42 → k ≠ 43 → k ≠ 49 → k ≠ 51 → (upd (upd (upd (upd G 42 (G 4)) 43 (G 2)) 51 0) 49 0) k = G k := fun k k1 k2 k3 k4 => by
    rw [uu, if_neg k3, uu, if_neg k4, uu, if_neg k2, uu, if_neg k1]
  generalize hGa : upd (upd (upd (upd G 42 (G 4)) 43 (G 2)) 51 0) 49 0 = Ga at *
  have g42 : Ga 42 = G 4 := by rw [← hGa]; simp (decide := true) only [uu, if_true, if_false]
  have g43 : Ga 43 = G 2 := by rw [← hGa]; simp (decide := true) only [uu, if_true, if_false]
  have g51 : Ga 51 = 0 := by rw [← hGa]; simp (decide := true) only [uu, if_true, if_false]
  have g49 : Ga 49 = 0 := by rw [← hGa]; simp (decide := true) only [uu, if_true]
  have e81 : F 81 = F 17 := hl.2.1
  have ew : F 81 = Ga 1 := by rw [e81, ga 1 (by omega) (by omega) (by omega) (by omega)]; exact h.1.2.1
  obtain ⟨Fe, Re, Gc, Sc, T, c1, c2, c3, c4, c5, c6, c7⟩ := till_rel (F := upd F 241 0) (R := R) (G := upd Ga 44 0) (S := Sa) (T := 0) hP (way := F 81) (by rw [e81]; have := hb1.2; omega) ⟨Nat.zero_le _, by rw [uu, if_pos rfl]; rfl, by rw [uu, if_pos rfl]; rfl, fun k hk => absurd hk (Nat.not_lt_zero _)⟩
  obtain ⟨F', R', G', S', r, w, d1, d2, d3, d4, d5, d6, d7, d8, d9, d10⟩ := laid_step h hl c3 (fun k hk => by rw [c4 k hk, uu, if_neg hk]) c5 (fun k k1 k2 k3 k4 k5 => by rw [c6 k k3, uu, if_neg k3]; exact ga k k1 k2 k4 k5) (fun c x1 x2 x3 => by rw [c7 c x1]; exact b3 c x2 x3) (by rw [c6 42 (by omega), uu, if_neg (by decide)]; exact g42) (by rw [c6 43 (by omega), uu, if_neg (by decide)]; exact g43) (by rw [c6 49 (by omega), uu, if_neg (by decide)]; exact g49) (by rw [c6 51 (by omega), uu, if_neg (by decide)]; exact g51) (fun j hj => by rw [c7 26 (by omega), c7 30 (by omega)]; exact b2 j hj)
  refine ⟨Fe, Re, Ga, Sa, F', R', G', S', r, w, ?_, d1, b1, ?_, d3, d4, d5, d6, d7, d8, d9, d10⟩
  · unfold sp_X5_even_15
    rw [k_e, k_id2]
    exact c1
  · unfold sp_X11_runsEven
    rw [k_e, ← ew, c2, k_t2, d2, k_t2]
theorem pace_loop {F0 G0 : Nat → Int32} : ∀ d v, v + d = 41 → 1 ≤ v → ∀ (n l : Nat) (F : Nat → Int32) (R : Nat → Nat → Int32) (G : Nat → Int32) (S : Nat → Nat → Int32), d < n → d < l → UR0 b F R G S → ULt F R → jv 0 200 (F 17) → F0 81 = F 81 → G0 4 = G 4 → (K_X7_leastPace_2 F0 n F R (nI v)).1 = (K_X11_pace_2 G0 l G S (nI v)).1 := by
  intro d
  induction d with
  | zero =>
    intro v hv h1 n l F R G S hn hl _ _ _ _ _
    obtain ⟨n, rfl⟩ : ∃ n', n = n' + 1 := ⟨n - 1, by omega⟩
    obtain ⟨l, rfl⟩ : ∃ n', l = n' + 1 := ⟨l - 1, by omega⟩
    rw [ks_X7_leastPace_2, ks_X11_pace_2]
    unfold KB_X7_leastPace_2 KB_X11_pace_2
    have e : (40 : Int32) < nI v := nI_lt (a := 40) (by omega) (by omega)
    rw [if_pos e, if_pos e]
  | succ d ih =>
    intro v hv h1 n l F R G S hn hl h hL hb1 e81 e4
    obtain ⟨n, rfl⟩ : ∃ n', n = n' + 1 := ⟨n - 1, by omega⟩
    obtain ⟨l, rfl⟩ : ∃ n', l = n' + 1 := ⟨l - 1, by omega⟩
    obtain ⟨Fe, Re, Ga, Sa, F', R', G', S', r, w, c1, c2, c3, c4, c5, c6, c7, c8, c9, c10, c11, c12⟩ := even_step h hL hb1 (P := v) ⟨h1, by omega⟩
    rw [ks_X7_leastPace_2, ks_X11_pace_2]
    unfold KB_X7_leastPace_2 KB_X11_pace_2
    have e : ¬ (40 : Int32) < nI v := nI_nlt (b := v) (a := 40) (by omega) (by omega)
    rw [if_neg e, if_neg e, e81, c1, k_t2, c2, k_t2, c3, k_t2, c4, k_t2]
    simp only [k_e]
    rw [all_eq (F' := F) (R' := R) c5.2.2.2.2.2.2, c8, e4, nI_1]
    by_cases q : sp_X11_standing G' S' = G 4
    · rw [if_pos q, if_pos q, if_neg (by decide)]
    · rw [if_neg q, if_neg q, if_pos rfl]
      refine ih (v + 1) (by omega) (by omega) n l F' R' G' S' (by omega) (by omega) c6 c7 (by rw [c9 17 (by unfold cfF; omega)]; exact hb1) ?_ ?_
      · rw [c9 81 (by unfold cfF; omega)]; exact e81
      · rw [c11 4 (by unfold cfG; omega)]; exact e4
theorem lay_rel (h : URel F R G S) : ∃ F1 R1, sp_X7_lay_r1_r11 F R = (F1, R1) ∧ URel F1 R1 G S ∧ ULt F1 R1 ∧ ULaid F1 R1 ∧ (∀ k, k < 80 ∨ 85 ≤ k ∧ k ≤ 240 ∨ 242 ≤ k ∧ k ≤ 671 ∨ 675 ≤ k → F1 k = F k) ∧ (∀ c, c ≠ 6 → c ≠ 16 → R1 c = R c) := by
  obtain ⟨F1, R1, v1, v2, v3, v4, v5⟩ := lay_laid F R
  have hf : ∀ k, k < 80 ∨ 85 ≤ k ∧ k ≤ 240 ∨ 242 ≤ k ∧ k ≤ 671 ∨ 675 ≤ k → F1 k = F k := fun k hk => v3 k (by omega) (by omega) (by omega) (by omega) (by omega) (by omega) (by omega) (by omega)
  exact ⟨F1, R1, v1, URel_e h (fun k hk => hf k (by unfold cF at hk; omega)) (fun _ _ => rfl) (fun c hc => v5 c (by unfold cR at hc; omega) (by unfold cR at hc; omega)) (fun _ _ => rfl), lt_of_laid v2 v4, v2, hf, v5⟩
theorem an2_pace (h : URel2 F R G S) : UAns URel2 (sp_X10_pace F R) (sp_X11_pace G S) := by
  refine ⟨?_, f22_pace h⟩
  obtain ⟨F1, R1, v1, v2, v3, v4, v5, v6⟩ := lay_rel h.1
  have := pace_loop (F0 := F1) (G0 := G) 40 1 (by omega) (by omega) 8589934592 8589934592 F1 R1 G S (by omega) (by omega) (ur0_of (b := False) v2) v3 (by rw [v5 17 (by omega)]; exact h.2.2.1) rfl rfl
  unfold sp_X10_pace sp_X7_leastPace sp_X11_pace
  rw [v1, k_t2, k_e3]
  exact this
end UPC
