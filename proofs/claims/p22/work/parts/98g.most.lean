/-! ===== the most that stand ===== -/
/-- the table is laid, but for who is on it; the pull is laid; the hand is still -/
def UTm (F : Nat → Int32) (R : Nat → Nat → Int32) : Prop := F 80 = F 16 ∧ F 81 = F 17 ∧ F 82 = F 18 ∧ F 241 = F 177 ∧ F 672 = 0 ∧ F 674 = 0 ∧ (∀ k, k < 80 → R 6 k = R 2 k) ∧ ∀ k, k < 60 → R 16 k = R 12 k
def UTd (F : Nat → Int32) (R : Nat → Nat → Int32) : Prop := F 80 = F 16 ∧ F 81 = F 17 ∧ F 82 = F 18 ∧ F 241 = F 177 ∧ (∀ k, k < 80 → R 6 k = R 2 k) ∧ ∀ k, k < 60 → R 16 k = R 12 k
theorem UTm_d {F : Nat → Int32} {R : Nat → Nat → Int32} (h : UTm F R) : UTd F R := ⟨h.1, h.2.1, h.2.2.1, h.2.2.2.1, h.2.2.2.2.2.2.1, h.2.2.2.2.2.2.2⟩
theorem UTd_e {F F' : Nat → Int32} {R R' : Nat → Nat → Int32} (h : UTd F R) (f : ∀ k, k = 241 ∨ cfF k ∧ k ≠ 83 ∧ k ≠ 672 ∧ k ≠ 674 → F' k = F k) (r : ∀ c, c = 16 ∨ cfR c → R' c = R c) : UTd F' R' := by
  unfold UTd
  rw [f 80 (by unfold cfF; omega), f 81 (by unfold cfF; omega), f 82 (by unfold cfF; omega), f 16 (by unfold cfF; omega), f 17 (by unfold cfF; omega), f 18 (by unfold cfF; omega), f 241 (by omega), f 177 (by unfold cfF; omega), r 6 (by unfold cfR; omega), r 2 (by unfold cfR; omega), r 16 (by omega), r 12 (by unfold cfR; omega)]
  exact h
section UMO
variable {F G : Nat → Int32} {R S : Nat → Nat → Int32}
/-- the drawn pull, and who is there: any told set, by any hand without the seed -/
theorem set_step (h : UR0 True F R G S) (hl : UTd F R) (h83 : jv 0 1023 (F 83)) (sub : ∀ j, j < 10 → hb (F 83) (nI j) → hb (F 19) (nI j)) {t : Nat} (p1 : t ≤ 60) (p3 : G 19 = nI t) {Gc : Nat → Int32} {Sc : Nat → Nat → Int32} (g : ∀ k, k ≠ 42 → k ≠ 43 → k ≠ 44 → k ≠ 49 → k ≠ 50 → k ≠ 51 → Gc k = G k) (s : ∀ c, c ≠ 25 → c ≠ 26 → c ≠ 30 → Sc c = S c) (g42 : Gc 42 = F 83) (g43 : Gc 43 = G 2) (g44 : Gc 44 = nI t) (g51 : Gc 51 = 0) (hh : UHand F Gc) (s25 : ∀ k, k < t → Sc 25 k = S 10 k) (s26 : ∀ j, j < 10 → Sc 26 j = S 2 j ∧ Sc 30 j = S 6 j) : ∃ F' R' G' S' r w, sp_X0_run F R = (F', R') ∧ sp_X11_runs Gc Sc = (G', S') ∧ UOut F' R' G' S' r w ∧ UR0 True F' R' G' S' ∧ F' 691 = F 83 ∧ (∀ k, k = 241 ∨ cfF k → F' k = F k) ∧ (∀ c, c = 16 ∨ cfR c → R' c = R c) ∧ (∀ k, cfG k → G' k = G k) ∧ (∀ c, cfS c → S' c = S c) := by
  obtain ⟨t1, t2, t3, t4, t5, t6, t7, t8⟩ := id h.1
  obtain ⟨l1, l2, l3, l5, l8, l9⟩ := id hl
  obtain ⟨t', q1, q2, q3, q4⟩ := id (h.2.2.1 trivial)
  have et : t = t' := (nI_eq (by omega) (by omega)).mp (p3.symm.trans q3)
  subst et
  have hp : UPl F R Gc Sc t := by
    refine ⟨p1, l5.trans q2, g44, fun k hk => ?_⟩
    obtain ⟨x1, p, x2, x3⟩ := q4 k hk
    rw [l9 k (by omega), s25 k hk]
    refine ⟨x1, ?_⟩
    rw [← x1, x3]
    exact ⟨by rw [nI_toInt (by omega)]; omega, by rw [nI_toInt (by omega)]; omega⟩
  have hB : UBeg F R Gc Sc := by
    refine ubeg_mk h g42.symm h83 sub l1 l2 (by rw [g43, l3]; exact t3) (fun k hk _ => g k (by unfold cG0 cG at hk; omega) (by unfold cG0 cG at hk; omega) (by unfold cG0 cG at hk; omega) (by unfold cG0 cG at hk; omega) (by unfold cG0 cG at hk; omega) (by unfold cG0 cG at hk; omega)) hp (fun j q hj hq _ _ => l8 _ (by omega)) (fun j hj ht => ?_) (fun c hc => s c (by unfold cS0 cS at hc; omega) (by unfold cS0 cS at hc; omega) (by unfold cS0 cS at hc; omega)) hh
    have x := t7 j hj (sub j hj ht)
    obtain ⟨y1, y2⟩ := s26 j hj
    rw [l8 _ (by omega), l8 _ (by omega), y1, y2]
    exact ⟨x 1 (by omega), x 5 (by omega)⟩
  obtain ⟨F', R', G', S', q, w, a1, a2, a3, a4, a5, a6, a7, a8, a9⟩ := eve_rel h hB (fun k hk => g k (by unfold cG0 cG at hk; omega) (by unfold cG0 cG at hk; omega) (by unfold cG0 cG at hk; omega) (by unfold cG0 cG at hk; omega) (by unfold cG0 cG at hk; omega) (by unfold cG0 cG at hk; omega)) (fun c hc => s c (by unfold cS0 cS at hc; omega) (by unfold cS0 cS at hc; omega) (by unfold cS0 cS at hc; omega)) g51
  exact ⟨F', R', G', S', q, w, a1, a2, a3, a4, a5, fun k hk => a6 k (by unfold cfF at hk; simp [md_X0_run] <;> omega), fun c hc => a7 c (by unfold cfR at hc; simp [mr_X0_run] <;> omega), fun k hk => (a8 k (by unfold cfG at hk; simp [md_X11_runs] <;> omega)).trans (g k (by unfold cfG at hk; omega) (by unfold cfG at hk; omega) (by unfold cfG at hk; omega) (by unfold cfG at hk; omega) (by unfold cfG at hk; omega) (by unfold cfG at hk; omega)), fun c hc => (a9 c (by unfold cfS at hc; simp [mr_X11_runs] <;> omega)).trans (s c (by unfold cfS at hc; omega) (by unfold cfS at hc; omega) (by unfold cfS at hc; omega))⟩
theorem UTm_e {F' : Nat → Int32} {R' : Nat → Nat → Int32} (h : UTm F R) (f : ∀ k, k = 241 ∨ cfF k ∧ k ≠ 83 ∧ k ≠ 675 → F' k = F k) (r : ∀ c, c = 16 ∨ cfR c → R' c = R c) : UTm F' R' := by
  unfold UTm
  rw [f 80 (by unfold cfF; omega), f 81 (by unfold cfF; omega), f 82 (by unfold cfF; omega), f 16 (by unfold cfF; omega), f 17 (by unfold cfF; omega), f 18 (by unfold cfF; omega), f 672 (by unfold cfF; omega), f 674 (by unfold cfF; omega), f 241 (by omega), f 177 (by unfold cfF; omega), r 6 (by unfold cfR; omega), r 2 (by unfold cfR; omega), r 16 (by omega), r 12 (by unfold cfR; omega)]
  exact h
theorem most_loop {F0 G0 : Nat → Int32} (a0 : Int32) : ∀ d v, v + d = 1024 → ∀ (n l b : Nat) (F : Nat → Int32) (R : Nat → Nat → Int32) (G : Nat → Int32) (S : Nat → Nat → Int32), d < n → d < l → UR0 True F R G S → UTm F R → F0 83 = G0 4 → F 19 = G0 4 → jv 0 1023 (G0 4) → b ≤ 1023 → ∃ b', b' ≤ 1023 ∧ (K_X7_largestStanding_12 F0 n F R (nI b) (nI v)).1 = nI b' ∧ (K_X11_most_15 G0 a0 l G S (nI b) (nI v)).1 = if a0 = 0 then nI (cbt (nI b') 10) else nI b' := by
  intro d
  induction d with
  | zero =>
    intro v hv n l b F R G S hn hl _ _ _ _ _ hb1
    obtain ⟨n, rfl⟩ : ∃ n', n = n' + 1 := ⟨n - 1, by omega⟩
    obtain ⟨l, rfl⟩ : ∃ n', l = n' + 1 := ⟨l - 1, by omega⟩
    have e : (1024 : Int32) ≤ nI v := nI_le (a := 1024) (by omega) (by omega)
    refine ⟨b, hb1, ?_, ?_⟩
    · rw [ks_X7_largestStanding_12]
      unfold KB_X7_largestStanding_12
      rw [if_pos e, k_e]
    · rw [ks_X11_most_15]
      unfold KB_X11_most_15 K_X11_most_92
      simp only [k_e]
      rw [if_pos e]
      by_cases z : a0 = 0
      · rw [if_pos z, if_pos z, um_bits, bits_cb]
      · rw [if_neg z, if_neg z]
  | succ d ih =>
    intro v hv n l b F R G S hn hl h hL e0 e19 hr hb1
    obtain ⟨n, rfl⟩ : ∃ n', n = n' + 1 := ⟨n - 1, by omega⟩
    obtain ⟨l, rfl⟩ : ∃ n', l = n' + 1 := ⟨l - 1, by omega⟩
    have e : ¬ (1024 : Int32) ≤ nI v := nI_ge (b := 1024) (by omega) (by omega)
    have jv1 : jv 0 1023 (nI v) := ⟨by rw [nI_toInt (by omega)]; omega, by rw [nI_toInt (by omega)]; omega⟩
    have jb : jv 0 1023 (nI b) := ⟨by rw [nI_toInt (by omega)]; omega, by rw [nI_toInt (by omega)]; omega⟩
    have bv : sp_J6_bitCount_0f7a4_s0 (nI v) = nI (cbt (nI v) 10) := by rw [bits_eq jv1, bits_cb]
    have bb : sp_J6_bitCount_0f7a4_s0 (nI b) = nI (cbt (nI b) 10) := by rw [bits_eq jb, bits_cb]
    have cv := cbt_le (nI v) 10
    have cbb := cbt_le (nI b) 10
    rw [ks_X7_largestStanding_12, ks_X11_most_15]
    unfold KB_X7_largestStanding_12 KB_X11_most_15 K_X7_largestStanding_68 K_X7_largestStanding_69 K_X11_most_74
    rw [if_neg e, if_neg e]
    simp only [k_e]
    rw [e0, bv, bb]
    have skip : ∀ (X : Int32), X = nI v + 1 → ∃ b', b' ≤ 1023 ∧ (K_X7_largestStanding_12 F0 n F R (nI b) X).1 = nI b' ∧ (K_X11_most_15 G0 a0 l G S (nI b) X).1 = if a0 = 0 then nI (cbt (nI b') 10) else nI b' := by
      intro X hX
      rw [hX, nI_1]
      exact ih (v + 1) (by omega) n l b F R G S (by omega) (by omega) h hL e0 e19 hr hb1
    by_cases q : nI v &&& (G0 4 ^^^ (-1)) = 0
    · rw [if_pos q, if_pos q, um_bits, bits_cb, um_bits, bits_cb]
      by_cases q2 : cbt (nI v) 10 ≤ cbt (nI b) 10
      · rw [if_pos (nI_le q2 (by omega)), if_neg (nI_nlt q2 (by omega))]
        exact skip _ rfl
      · rw [if_neg (nI_ge (by omega) (by omega)), if_pos (nI_lt (by omega) (by omega))]
        obtain ⟨t, p1, p2, p3, p4⟩ := id (h.2.2.1 trivial)
        obtain ⟨Sa, Sb, b1, b2, b3, b4, b5⟩ := m_lays (G := G) (S := S) p3 p1
        have hL2 : UTm (upd F 83 (nI v)) R := UTm_e hL (fun k hk => by rw [uu, if_neg (by omega)]) (fun _ _ => rfl)
        have hU2 : UR0 True (upd F 83 (nI v)) R G S := UR0_e h (fun k hk => by rw [uu, if_neg (by unfold cF0 cF at hk; omega)]) (fun _ _ => rfl) (fun _ _ => rfl) (fun _ _ => rfl)
        have e83 : (upd F 83 (nI v)) 83 = nI v := by rw [uu, if_pos rfl]
        have f19 : (upd F 83 (nI v)) 19 = F 19 := by rw [uu, if_neg (by decide)]
        obtain ⟨F', R', G', S', r, w, a1, a2, a3, a4, a5, a6, a7, a8, a9⟩ := set_step (Gc := upd (uGL G (nI t)) 42 (nI v)) (Sc := Sb) hU2 (UTm_d hL2) (by rw [e83]; exact jv1) (fun j hj ht => by
          rw [e83] at ht
          rw [f19, e19]
          rw [a_sub q] at ht
          exact ((ub_and hj).mp ht).1) p1 p3 (fun k k1 k2 k3 k4 k5 k6 => by rw [uu, if_neg k1]; exact uGL_k G _ ⟨k3, k1, k2, k6, k4⟩) b5 (by rw [uu, if_pos rfl, e83]) (by rw [uu, if_neg (by decide)]; exact uGL_43 _ _) (by rw [uu, if_neg (by decide)]; exact uGL_44 _ _) (by rw [uu, if_neg (by decide)]; exact uGL_51 _ _) (by
          obtain ⟨l1, l2, l3, l5, l6, l7, l8, l9⟩ := hL2
          exact Or.inr ⟨l6, by rw [uu, if_neg (by decide)]; exact uGL_51 _ _, l7.trans (by rw [uu, if_neg (by decide)]; exact (uGL_49 _ _).symm), Or.inl l7⟩) b3 b4
        have hL3 : UTm F' R' := UTm_e hL2 (fun k hk => a6 k (hk.imp id And.left)) a7
        have f19' : F' 19 = G0 4 := (a6 19 (by unfold cfF; omega)).trans (f19.trans e19)
        have eS := a3.2.2.2.2.2.2
        rw [a1, k_t2, b1, k_t2, b2, k_t2, a2, k_t2, all_eq (F' := F) (R' := R) eS, a5, e83]
        by_cases q3 : sp_X11_standing G' S' = nI v
        · rw [if_pos q3, if_pos q3, if_neg (by decide), nI_1]
          exact ih (v + 1) (by omega) n l v F' R' G' S' (by omega) (by omega) a4 hL3 e0 f19' hr (by omega)
        · rw [if_neg q3, if_neg q3, if_pos rfl, nI_1]
          exact ih (v + 1) (by omega) n l b F' R' G' S' (by omega) (by omega) a4 hL3 e0 f19' hr hb1
    · rw [if_neg q, if_neg q]
      exact skip _ rfl
theorem an2_most (h : URel2 F R G S) (a0 : Int32) : UAns URel2 (sp_X10_most F R a0) (sp_X11_most G S a0) := by
  refine ⟨?_, f22_most h a0⟩
  by_cases q : g_in a0 0 1 = 0
  · have eC : sp_X10_most F R a0 = (-1, F, R) := by
      unfold sp_X10_most
      rw [k_e, if_pos q]
    have eM : sp_X11_most G S a0 = (-1, G, S) := by
      unfold sp_X11_most
      rw [k_e, if_pos q]
    simp only [eC, eM]
  obtain ⟨F1, R1, v1, v2, v3, v4, v5, v6⟩ := lay_rel h.1
  obtain ⟨x1, x2, x3, x4, x5, x6, x7, x8, x9⟩ := v4
  obtain ⟨z1, z2, z3, z4, z5, z6, z7⟩ := v3
  have e19 : F1 19 = G 4 := v2.1.2.2.2.2.1
  obtain ⟨b, hb1, w1, w2⟩ := most_loop (F0 := F1) (G0 := G) a0 1023 1 (by omega) 8589934592 8589934592 0 F1 R1 G S (by omega) (by omega) (ur0_of v2) ⟨x1, x2, x3, x5, x6, x7, z7, x9⟩ (x4.trans e19) e19 (by rw [← e19]; exact v2.1.2.2.2.2.2.1) (by omega)
  have w1 : (K_X7_largestStanding_12 F1 8589934592 F1 R1 0 1).1 = nI b := w1
  have w2 : (K_X11_most_15 G a0 8589934592 G S 0 1).1 = if a0 = 0 then nI (cbt (nI b) 10) else nI b := w2
  have eM : (sp_X11_most G S a0).1 = if a0 = 0 then nI (cbt (nI b) 10) else nI b := by
    unfold sp_X11_most
    rw [k_e, if_neg q]
    exact w2
  have jb : jv 0 1023 (nI b) := ⟨by rw [nI_toInt (by omega)]; omega, by rw [nI_toInt (by omega)]; omega⟩
  rw [eM]
  unfold sp_X10_most K_X10_most_46 sp_X7_largestStanding
  rw [k_e, if_neg q, v1, k_t2, k_e3, w1]
  by_cases z : a0 = 0
  · rw [if_pos z, if_pos z, k_e, bits_eq jb, bits_cb]
  · rw [if_neg z, if_neg z]
end UMO
