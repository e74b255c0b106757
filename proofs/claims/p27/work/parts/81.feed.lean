/-! ===== feed ===== -/
theorem by_nat (z : Int32) : z &&& 255 = nI (z.toBitVec.toNat % 256) := pk_and z 8 (by decide)
theorem by_int (z : Int32) : ((z.toBitVec.toNat % 256 : Nat) : Int) = z.toInt % 256 := by
  have h : z.toInt = z.toBitVec.toInt := rfl
  rw [h, BitVec.toInt_eq_toNat_cond]
  split <;> omega
theorem by_eq8 {a x y : Int32} {s : Nat} (hs : s = 0 ∨ s = 8 ∨ s = 16 ∨ s = 24) (hx : x.toInt = a.toInt >>> s) (hy : y.toBitVec.toNat = a.toBitVec.toNat / 2 ^ s) : (vp_nar .byte (x.toInt8.toInt32)) &&& 255 = y &&& 255 := by
  rw [pk_vb, by_nat, by_nat]
  congr 1
  have h1 := by_int (x.toInt8.toInt32)
  have h2 : x.toInt8.toInt32.toInt = x.toInt.bmod 256 := by
    rw [Int8.toInt_toInt32, Int32.toInt_toInt8]
  have h3 : a.toInt = a.toBitVec.toInt := rfl
  have h4 := BitVec.toInt_eq_toNat_cond a.toBitVec
  rw [hx, Int.shiftRight_eq_div_pow] at h2
  have h5 := Int.emod_emod_of_dvd (a.toInt / 2 ^ s) (show (256 : Int) ∣ 256 from ⟨1, rfl⟩)
  have h6 : (a.toInt / ((2 : Nat) ^ s : Nat)).bmod 256 % 256 = (a.toInt / ((2 : Nat) ^ s : Nat)) % 256 := Int.bmod_emod
  rw [hy]
  have hlt : a.toBitVec.toNat < 2 ^ 32 := a.toBitVec.isLt
  have h7 : ((x.toInt8.toInt32.toBitVec.toNat % 256 : Nat) : Int) = (a.toInt / ((2 : Nat) ^ s : Nat)) % 256 := by
    rw [h1, h2]
    exact h6
  rw [h3, h4] at h7
  rcases hs with rfl | rfl | rfl | rfl
  all_goals
    simp only [Nat.reducePow] at h7 ⊢
    split at h7 <;> omega
section UFD
variable {F G : Nat → Int32} {R S : Nat → Nat → Int32}
theorem UTape_in {T : Nat} (h : UTape F R G S) (hT : F 145 = nI T) : T ≤ 220 → G 14 = nI T ∧ ∀ k, k < T → ∃ b, b < 256 ∧ R 10 k = nI b ∧ S 9 k &&& 255 = nI b := by
  intro h220
  obtain ⟨t1, T', t2, t3, t4⟩ := h
  have e : T' = T := (nI_eq (by omega) (by omega)).mp (t3.symm.trans hT)
  subst e
  exact ⟨t1.symm.trans hT, t4⟩
theorem ty_step {a yc : Int32} {T s m : Nat} {k n : Nat} (hs : s = 0 ∨ s = 8 ∨ s = 16 ∨ s = 24) (hyc : yc = nI s) (hm : s = 8 * m) (h : UTape F R G S) (hT : F 145 = nI T) (hT2 : T < 220) : ∃ F' R' G' S', K_X9_add_3 a (k + 1) F R (nI s) = K_X9_add_3 a k F' R' (nI s + (-8)) ∧ K_X11_types_2 a (n + 1) G S (nI m) = K_X11_types_2 a n G' S' (nI m + (-1)) ∧ UTape F' R' G' S' ∧ F' 145 = nI (T + 1) ∧ (∀ z, z ≠ 145 → F' z = F z) ∧ (∀ c, c ≠ 10 → R' c = R c) ∧ (∀ z, z ≠ 14 → G' z = G z) ∧ (∀ c, c ≠ 9 → S' c = S c) := by
  obtain ⟨g14, hb⟩ := UTape_in h hT (by omega)
  have hm4 : m ≤ 3 := by omega
  -- the two shifts
  have hx : (a >>> (nI (8 * m) &&& 31)).toInt = a.toInt >>> s := by
    refine pk_shr a (nI (8 * m) &&& 31) s ?_
    have : m = 0 ∨ m = 1 ∨ m = 2 ∨ m = 3 := by omega
    rcases this with rfl | rfl | rfl | rfl <;> subst hm <;> decide
  have hy : ((Int32.toUInt32 a >>> (Int32.toUInt32 (nI s) &&& Int32.toUInt32 31)).toInt32).toBitVec.toNat = a.toBitVec.toNat / 2 ^ s := by
    refine pk_ushr a (nI s) s ?_
    rcases hs with rfl | rfl | rfl | rfl <;> decide
  have h8 := by_eq8 hs hx hy
  refine ⟨upd F 145 (nI (T + 1)), g_u R 10 (upd (R 10) T (((Int32.toUInt32 a >>> (Int32.toUInt32 (nI s) &&& Int32.toUInt32 31)).toInt32) &&& 255)), upd G 14 (nI (T + 1)), g_u S 9 (upd (S 9) T (vp_nar .byte ((a >>> (nI (8 * m) &&& 31)).toInt8.toInt32))), ?_, ?_, ⟨?_, T + 1, by omega, by rw [uu, if_pos rfl], fun k hk => ?_⟩, by rw [uu, if_pos rfl], fun z hz => by rw [uu, if_neg hz], fun c hc => by rw [ug, if_neg hc], fun z hz => by rw [uu, if_neg hz], fun c hc => by rw [ug, if_neg hc]⟩
  · have e : K_X9_add_3 a (k + 1) F R (nI s) = KB_X9_add_3 (K_X9_add_3 a k) a F R (nI s) := rfl
    rw [e]
    unfold KB_X9_add_3 K_X9_add_43
    rw [if_neg (nI_pos (by omega)), hT, if_neg (show ¬ (220 : Int32) ≤ nI T from nI_ge (a := T) (b := 220) hT2 (by omega))]
    simp only [k_e]
    rw [nI_clamp (by omega), nI_1]
  · have e : K_X11_types_2 a (n + 1) G S (nI m) = KB_X11_types_2 (K_X11_types_2 a n) a G S (nI m) := rfl
    have e8 : (8 : Int32) * nI m = nI (8 * m) := pk_mul 8 m
    rw [e]
    unfold KB_X11_types_2
    rw [if_neg (nI_pos (by omega))]
    simp only [k_e]
    rw [e8, g14, nI_clamp (by omega), nI_1]
  · rw [uu, if_pos rfl, uu, if_pos rfl]
  · rw [ug, if_pos rfl, ug, if_pos rfl, uu, uu]
    by_cases z : k = T
    · rw [if_pos z, if_pos z]
      refine ⟨_, ?_, by_nat _, h8.trans (by_nat _)⟩
      exact Nat.mod_lt _ (by omega)
    · rw [if_neg z, if_neg z]
      exact hb k (by omega)
theorem ty_rel (a : Int32) {T : Nat} (h : UTape F R G S) (hT : F 145 = nI T) (hT2 : T + 4 ≤ 220) : UTape (sp_X9_add F R a).1 (sp_X9_add F R a).2 (sp_X11_types G S a).1 (sp_X11_types G S a).2 ∧ (sp_X9_add F R a).1 145 = nI (T + 4) := by
  obtain ⟨F1, R1, G1, S1, a1, a2, a3, a4, _⟩ := ty_step (a := a) (k := 8589934591) (n := 8589934591) (s := 24) (m := 3) (by omega) rfl rfl h hT (by omega)
  obtain ⟨F2, R2, G2, S2, b1, b2, b3, b4, _⟩ := ty_step (a := a) (k := 8589934590) (n := 8589934590) (s := 16) (m := 2) (by omega) rfl rfl a3 a4 (by omega)
  obtain ⟨F3, R3, G3, S3, c1, c2, c3, c4, _⟩ := ty_step (a := a) (k := 8589934589) (n := 8589934589) (s := 8) (m := 1) (by omega) rfl rfl b3 b4 (by omega)
  obtain ⟨F4, R4, G4, S4, d1, d2, d3, d4, _⟩ := ty_step (a := a) (k := 8589934588) (n := 8589934588) (s := 0) (m := 0) (by omega) rfl rfl c3 c4 (by omega)
  have e1 : sp_X9_add F R a = (F4, R4) := by
    have x1 : K_X9_add_3 a 8589934592 F R 24 = K_X9_add_3 a 8589934591 F1 R1 16 := a1
    have x2 : K_X9_add_3 a 8589934591 F1 R1 16 = K_X9_add_3 a 8589934590 F2 R2 8 := b1
    have x3 : K_X9_add_3 a 8589934590 F2 R2 8 = K_X9_add_3 a 8589934589 F3 R3 0 := c1
    have x4 : K_X9_add_3 a 8589934589 F3 R3 0 = K_X9_add_3 a 8589934588 F4 R4 (-8) := d1
    have x5 : K_X9_add_3 a (8589934587 + 1) F4 R4 (-8) = KB_X9_add_3 (K_X9_add_3 a 8589934587) a F4 R4 (-8) := rfl
    unfold sp_X9_add
    rw [x1, x2, x3, x4, show (8589934588 : Nat) = 8589934587 + 1 from rfl, x5]
    unfold KB_X9_add_3
    rw [if_pos (by decide)]
  have e2 : sp_X11_types G S a = (G4, S4) := by
    have x1 : K_X11_types_2 a 8589934592 G S 3 = K_X11_types_2 a 8589934591 G1 S1 2 := a2
    have x2 : K_X11_types_2 a 8589934591 G1 S1 2 = K_X11_types_2 a 8589934590 G2 S2 1 := b2
    have x3 : K_X11_types_2 a 8589934590 G2 S2 1 = K_X11_types_2 a 8589934589 G3 S3 0 := c2
    have x4 : K_X11_types_2 a 8589934589 G3 S3 0 = K_X11_types_2 a 8589934588 G4 S4 (-1) := d2
    have x5 : K_X11_types_2 a (8589934587 + 1) G4 S4 (-1) = KB_X11_types_2 (K_X11_types_2 a 8589934587) a G4 S4 (-1) := rfl
    unfold sp_X11_types
    rw [x1, x2, x3, x4, show (8589934588 : Nat) = 8589934587 + 1 from rfl, x5]
    unfold KB_X11_types_2
    rw [if_pos (by decide)]
  rw [e1, e2]
  exact ⟨d3, d4⟩
theorem feed_rel (h : UTape F R G S) (a b c d e : Int32) : (sp_X10_feed F R a b c d e).1 = (sp_X11_feed G S a b c d e).1 ∧ UTape (sp_X10_feed F R a b c d e).2.1 (sp_X10_feed F R a b c d e).2.2 (sp_X11_feed G S a b c d e).2.1 (sp_X11_feed G S a b c d e).2.2 := by
  have h' := h
  obtain ⟨t1, T, t2, t3, t4⟩ := h'
  unfold sp_X10_feed sp_X11_feed
  rw [k_e, k_e, ← t1, t3]
  have e20 : nI T + 20 = nI (T + 20) := nI_add T 20
  rw [e20]
  by_cases q : T + 20 ≤ 220
  · rw [if_pos (show nI (T + 20) ≤ 220 from nI_le (a := T + 20) (b := 220) q (by omega)), if_pos (show nI (T + 20) ≤ 220 from nI_le (a := T + 20) (b := 220) q (by omega))]
    simp only [k_e2]
    obtain ⟨r1, s1⟩ := ty_rel a h t3 (by omega)
    generalize sp_X9_add F R a = Z1 at *
    generalize sp_X11_types G S a = Y1 at *
    obtain ⟨r2, s2⟩ := ty_rel b r1 s1 (by omega)
    generalize sp_X9_add Z1.1 Z1.2 b = Z2 at *
    generalize sp_X11_types Y1.1 Y1.2 b = Y2 at *
    obtain ⟨r3, s3⟩ := ty_rel c r2 s2 (by omega)
    generalize sp_X9_add Z2.1 Z2.2 c = Z3 at *
    generalize sp_X11_types Y2.1 Y2.2 c = Y3 at *
    obtain ⟨r4, s4⟩ := ty_rel d r3 s3 (by omega)
    generalize sp_X9_add Z3.1 Z3.2 d = Z4 at *
    generalize sp_X11_types Y3.1 Y3.2 d = Y4 at *
    obtain ⟨r5, s5⟩ := ty_rel e r4 s4 (by omega)
    exact ⟨r5.1, r5⟩
  · rw [if_neg (show ¬ nI (T + 20) ≤ 220 from nI_ge (a := 220) (b := T + 20) (by omega) (by omega)), if_neg (show ¬ nI (T + 20) ≤ 220 from nI_ge (a := 220) (b := T + 20) (by omega) (by omega))]
    exact ⟨rfl, h⟩
end UFD
