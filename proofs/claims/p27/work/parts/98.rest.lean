/-! ===== thingIs, count, check; the tape behind wasWet and howQuick ===== -/
section URS
variable {F G : Nat → Int32} {R S : Nat → Nat → Int32}
theorem c_has {i : Nat} (hi : i < 10) : (hb (F 19) (nI i) → sp_X8_has_1 F R (nI i) = 1) ∧ (¬ hb (F 19) (nI i) → sp_X8_has_1 F R (nI i) = 0) := by
  unfold sp_X8_has_1 K_X8_has_1_25 K_X8_has_1_26
  simp only [k_e]
  rw [ug_i9 hi, if_neg (by decide)]
  exact ⟨fun z => by rw [if_neg (fun y => (ub_test hi).mp y z)], fun z => by rw [if_pos ((ub_test hi).mpr z)]⟩
theorem ans_thingIs (h : URel F R G S) (a b : Int32) : sp_X10_thingIs F R a b = sp_X11_thingIs G S a b := by
  obtain ⟨e, e2⟩ := x8_has1 F R G S h.1.2.2.2.2.1 a
  unfold sp_X10_thingIs sp_X11_thingIs K_X10_thingIs_33 K_X10_thingIs_34
  simp only [k_e]
  rw [← e]
  rcases e2 with z | ⟨i, hi, rfl, ht, z⟩
  · rw [z, if_pos rfl, if_pos rfl]
  have z1 : ¬ (1 : Int32) = 0 := by decide
  rw [z, if_neg z1, if_neg z1]
  have tr := h.1.2.2.2.2.2.2.1 i hi ht
  by_cases q : g_in b 0 7 = 0
  · have na : ∀ v : Nat, v ≤ 7 → ¬ b.toInt = (v : Int) := by
      intro v hv e
      have : b = nI v := Int32.toInt_inj.mp (by rw [nI_toInt (by omega)]; exact e)
      rw [this] at q
      have e : g_in (nI v) 0 7 = 1 := ug_in (lo := 0) (hi := 7) (by omega) (by omega) (by omega)
      rw [e] at q
      exact absurd q (by decide)
    have n0 : ¬ b.toInt = 0 := na 0 (by omega)
    have n1 : ¬ b.toInt = 1 := na 1 (by omega)
    have n2 : ¬ b.toInt = 2 := na 2 (by omega)
    have n3 : ¬ b.toInt = 3 := na 3 (by omega)
    have n4 : ¬ b.toInt = 4 := na 4 (by omega)
    have n5 : ¬ b.toInt = 5 := na 5 (by omega)
    have n6 : ¬ b.toInt = 6 := na 6 (by omega)
    have n7 : ¬ b.toInt = 7 := na 7 (by omega)
    rw [if_pos q, if_neg n0, if_neg n1, if_neg n2, if_neg n3, if_neg n4, if_neg n5, if_neg n6, if_neg n7]
  · obtain ⟨v, _, hv, rfl⟩ := gin_n (lo := 0) (hi := 7) (by omega) (by omega) q
    rw [if_neg q, us_side1 (s := v) hi (by omega) rfl, tr v (by omega)]
    have ti : (nI v).toInt = (v : Int) := nI_toInt (by omega)
    simp only [ti, nI_clamp (show i < 2 ^ 31 by omega)]
    have : v = 0 ∨ v = 1 ∨ v = 2 ∨ v = 3 ∨ v = 4 ∨ v = 5 ∨ v = 6 ∨ v = 7 := by omega
    rcases this with rfl | rfl | rfl | rfl | rfl | rfl | rfl | rfl <;> simp (decide := true) only [if_true, if_false]
theorem ans_count (h : URel F R G S) (a : Int32) : sp_X10_count F R a = sp_X11_count G S a := by
  obtain ⟨⟨t1, t2, t3, t4, t5, t6, t7, t8, t9⟩, ⟨y1, y2⟩, h3, ⟨t, p1, p2, p3, p4⟩, h5⟩ := h
  have e28 : F 278 = G 28 := h3.1
  unfold sp_X10_count sp_X11_count K_X10_count_146 K_X11_count_117
  simp only [k_e]
  rw [t1, t2, t3, t5, t4, e28, y1, p2, p3]
  have e99 : (99 : Int32) + nI t = nI (99 + t) := nI_add 99 t
  rw [e99]
  congr 8
  by_cases q : g_in a 100 (nI (99 + t)) = 0
  · rw [if_pos q, if_pos q]
  · rw [if_neg q, if_neg q]
    obtain ⟨v, v1, v2, rfl⟩ := gin_n (lo := 100) (hi := 99 + t) (by omega) (by omega) q
    have e100 : nI v - 100 = nI (v - 100) := pk_sub (a := v) (b := 100) v1
    unfold sp_X5_paceAt_11 K_X5_paceAt_11_28
    simp only [k_e]
    rw [e100, if_neg (nI_pos (by omega)), p2, if_neg (nI_ge (by omega) (by omega)), nI_clamp (by omega)]
    exact (p4 (v - 100) (by omega)).1
theorem or_n {a b k : Nat} (hk : b < 2 ^ k) (h : 2 ^ k * a + b < 2 ^ 32) : nI (2 ^ k * a) ||| nI b = nI (2 ^ k * a + b) := by
  apply Int32.toBitVec_inj.mp
  apply BitVec.eq_of_toNat_eq
  rw [Int32.toBitVec_or, BitVec.toNat_or, pk_tn (by omega), pk_tn (by omega), pk_tn h, Nat.two_pow_add_eq_or_of_lt hk]
theorem c_at {k b : Nat} (hk : k < 220) (h : R 10 k = nI b) : sp_X9_at F R (nI k) = nI b := by
  unfold sp_X9_at K_X9_at_21
  simp only [k_e]
  have e : g_in (nI k) 0 219 = 1 := ug_in (lo := 0) (hi := 219) (by omega) (by omega) (by omega)
  rw [e, if_neg (by decide), nI_clamp (by omega), h]
theorem num_eq {i : Nat} (hi : i < 10) (h : ∀ k, k < 4 → ∃ b, b < 256 ∧ R 10 (4 * i + k) = nI b ∧ S 9 (4 * i + k) &&& 255 = nI b) : sp_X9_number F R (nI i) = sp_X11_tapeNumber G S (nI i) := by
  obtain ⟨b0, l0, r0, s0⟩ := h 0 (by omega)
  obtain ⟨b1, l1, r1, s1⟩ := h 1 (by omega)
  obtain ⟨b2, l2, r2, s2⟩ := h 2 (by omega)
  obtain ⟨b3, l3, r3, s3⟩ := h 3 (by omega)
  have e4 : nI i * 4 = nI (4 * i + 0) := by
    rw [show (4 : Int32) = nI 4 from rfl, pk_mul]
    congr 1
    omega
  have c1 : nI (4 * i + 0) + 1 = nI (4 * i + 1) := nI_add _ 1
  have c2 : nI (4 * i + 0) + 2 = nI (4 * i + 2) := nI_add _ 2
  have c3 : nI (4 * i + 0) + 3 = nI (4 * i + 3) := nI_add _ 3
  have x24 : nI b0 <<< (24 &&& 31 : Int32) = nI (2 ^ 24 * b0) := by
    rw [pk_shlN (n := b0) (24 &&& 31) 24 (by decide) (by omega)]
    congr 1
    omega
  have x16 : nI b1 <<< (16 &&& 31 : Int32) = nI (b1 * 2 ^ 16) := pk_shlN (n := b1) (16 &&& 31) 16 (by decide) (by omega)
  have x8 : nI b2 <<< (8 &&& 31 : Int32) = nI (b2 * 2 ^ 8) := pk_shlN (n := b2) (8 &&& 31) 8 (by decide) (by omega)
  have o1 : nI (2 ^ 24 * b0) ||| nI (b1 * 2 ^ 16) = nI (2 ^ 16 * (2 ^ 8 * b0 + b1)) := by
    rw [or_n (a := b0) (b := b1 * 2 ^ 16) (k := 24) (by omega) (by omega)]
    congr 1
    omega
  have o2 : nI (2 ^ 16 * (2 ^ 8 * b0 + b1)) ||| nI (b2 * 2 ^ 8) = nI (2 ^ 8 * (2 ^ 8 * (2 ^ 8 * b0 + b1) + b2)) := by
    rw [or_n (a := 2 ^ 8 * b0 + b1) (b := b2 * 2 ^ 8) (k := 16) (by omega) (by omega)]
    congr 1
    omega
  have o3 : nI (2 ^ 8 * (2 ^ 8 * (2 ^ 8 * b0 + b1) + b2)) ||| nI b3 = nI (2 ^ 8 * (2 ^ 8 * (2 ^ 8 * b0 + b1) + b2) + b3) := or_n (by omega) (by omega)
  have eC : sp_X9_number F R (nI i) = nI (2 ^ 8 * (2 ^ 8 * (2 ^ 8 * b0 + b1) + b2) + b3) := by
    unfold sp_X9_number
    simp only [k_e]
    rw [e4, c1, c2, c3, c_at (by omega) r0, c_at (by omega) r1, c_at (by omega) r2, c_at (by omega) r3, x24, x16, x8, o1, o2, o3]
  have step : ∀ (n v k b : Nat), k < 4 → b < 256 → 2 ^ 8 * v + b < 2 ^ 32 → S 9 (4 * i + k) &&& 255 = nI b → K_X11_tapeNumber_6 S (nI i) (n + 1) (nI v) (nI (4 * i + k)) = K_X11_tapeNumber_6 S (nI i) n (nI (2 ^ 8 * v + b)) (nI (4 * i + (k + 1))) := by
    intro n v k b hk hb1 hv hs
    have f4 : (4 : Int32) * nI i = nI (4 * i) := pk_mul 4 i
    have f44 : nI (4 * i) + 4 = nI (4 * i + 4) := nI_add _ 4
    have y8 : nI v <<< (8 &&& 31 : Int32) = nI (2 ^ 8 * v) := by
      rw [pk_shlN (n := v) (8 &&& 31) 8 (by decide) (by omega)]
      congr 1
      omega
    rw [ks_X11_tapeNumber_6]
    unfold KB_X11_tapeNumber_6
    simp only [k_e]
    rw [f4, f44, if_neg (nI_ge (by omega) (by omega)), nI_clamp (show 4 * i + k < 2 ^ 31 by omega), hs, y8, or_n (by omega) hv, nI_1]
    rfl
  have eM : ∀ n, K_X11_tapeNumber_6 S (nI i) (n + 5) (nI 0) (nI (4 * i + 0)) = nI (2 ^ 8 * (2 ^ 8 * (2 ^ 8 * b0 + b1) + b2) + b3) := by
    intro n
    rw [step (n + 4) 0 0 b0 (by omega) l0 (by omega) s0, step (n + 3) _ 1 b1 (by omega) l1 (by omega) s1, step (n + 2) _ 2 b2 (by omega) l2 (by omega) s2, step (n + 1) _ 3 b3 (by omega) l3 (by omega) s3]
    rw [ks_X11_tapeNumber_6]
    unfold KB_X11_tapeNumber_6
    simp only [k_e]
    have f4 : (4 : Int32) * nI i = nI (4 * i) := pk_mul 4 i
    have f44 : nI (4 * i) + 4 = nI (4 * i + 4) := nI_add _ 4
    rw [f4, f44, if_pos (nI_le (by omega) (by omega))]
    congr 1
    omega
  rw [eC]
  unfold sp_X11_tapeNumber
  rw [k_e, show (4 : Int32) * nI i = nI (4 * i + 0) from pk_mul 4 i]
  exact (eM 8589934587).symm
theorem UTape_c {F' G' : Nat → Int32} {R' S' : Nat → Nat → Int32} (h : URel F R G S) (f : ∀ k, cF k → k ≠ 145 → F' k = F k) (g : ∀ k, cG k → k ≠ 14 → G' k = G k) (r : ∀ c, cR c → R' c = R c) (s : ∀ c, cS c → S' c = S c) (e1 : F' 145 = 0) (e2 : G' 14 = 0) : URel F' R' G' S' := by
  obtain ⟨h1, h2, h3, h4, h5⟩ := h
  refine ⟨UTab_e h1 (fun k hk => f k (by unfold cF; omega) (by omega)) (fun k hk => g k (by unfold cG; omega) (by omega)) (fun c hc => r c (by unfold cR; omega)) (fun c hc => s c (by unfold cS; omega)), UTape_0 e1 e2, ULaw_e h3 (f 274 (by unfold cF; omega) (by omega)) (f 278 (by unfold cF; omega) (by omega)) (g 28 (by unfold cG; omega) (by omega)) (fun c c1 c2 => r c (by unfold cR; omega)) (fun c c1 c2 => s c (by unfold cS; omega)), UPull_e h4 (f 177 (by unfold cF; omega) (by omega)) (g 19 (by unfold cG; omega) (by omega)) (r 12 (by unfold cR; omega)) (s 10 (by unfold cS; omega)), URng_e h5 (fun k hk => g k (by unfold cG; omega) (by omega)) (fun c hc => s c (by unfold cS; omega))⟩
theorem check_loop (h : URel F R G S) {n T : Nat} (hn : n ≤ 10) (hT : n * 4 ≤ T) (hb1 : ∀ k, k < T → ∃ b, b < 256 ∧ R 10 k = nI b ∧ S 9 k &&& 255 = nI b) : ∀ d i, i + d = n → ∀ k l, d < k → d < l → ∃ r, K_X10_check_36 (upd F 145 0) R (nI n) k (nI i) = (r, upd F 145 0, R) ∧ K_X11_check_30 G (upd G 14 0) S (nI n) l (nI i) = (r, upd G 14 0, S) := by
  have e19 : F 19 = G 4 := h.1.2.2.2.2.1
  have u19 : (upd F 145 0) 19 = F 19 := by rw [uu, if_neg (by decide)]
  intro d
  induction d with
  | zero =>
    intro i hi k l hk hl
    obtain ⟨k, rfl⟩ : ∃ n', k = n' + 1 := ⟨k - 1, by omega⟩
    obtain ⟨l, rfl⟩ : ∃ n', l = n' + 1 := ⟨l - 1, by omega⟩
    refine ⟨-1, ?_, ?_⟩
    · rw [ks_X10_check_36]
      unfold KB_X10_check_36
      rw [if_pos (nI_le (by omega) (by omega))]
    · rw [ks_X11_check_30]
      unfold KB_X11_check_30
      rw [if_pos (nI_le (by omega) (by omega))]
  | succ d ih =>
    intro i hi k l hk hl
    obtain ⟨k, rfl⟩ : ∃ n', k = n' + 1 := ⟨k - 1, by omega⟩
    obtain ⟨l, rfl⟩ : ∃ n', l = n' + 1 := ⟨l - 1, by omega⟩
    have hi10 : i < 10 := by omega
    have hnum := num_eq (F := upd F 145 0) (R := R) (G := upd G 14 0) (S := S) hi10 (fun q hq => hb1 (4 * i + q) (by omega))
    obtain ⟨r, r1, r2⟩ := ih (i + 1) (by omega) k l (by omega) (by omega)
    have go : ∀ y, ∃ r, K_X10_check_65 (K_X10_check_36 (upd F 145 0) R (nI n) k) (upd F 145 0) R (nI i) y = (r, upd F 145 0, R) ∧ K_X11_check_61 (K_X11_check_30 G (upd G 14 0) S (nI n) l) (upd G 14 0) S (sp_X11_tapeNumber (upd G 14 0) S (nI i)) (nI i) y = (r, upd G 14 0, S) := by
      intro y
      unfold K_X10_check_65 K_X11_check_61
      simp only [k_e]
      rw [hnum, nI_1]
      by_cases q : sp_X11_tapeNumber (upd G 14 0) S (nI i) = y
      · rw [if_pos q, if_pos q]
        exact ⟨r, r1, r2⟩
      · rw [if_neg q, if_neg q]
        exact ⟨_, rfl, rfl⟩
    rw [ks_X10_check_36, ks_X11_check_30]
    unfold KB_X10_check_36 KB_X11_check_30
    rw [if_neg (nI_ge (by omega) (by omega)), if_neg (nI_ge (by omega) (by omega))]
    simp only [k_e]
    by_cases q : hb (F 19) (nI i)
    · rw [(c_has (F := upd F 145 0) hi10).1 (by rw [u19]; exact q), if_neg (by decide), if_neg (fun z => ub_hasv0.mp z (by rw [← e19]; exact q)), us_side1 (s := 1) (x := 1) hi10 (by omega) rfl, nI_clamp (by omega), h.1.2.2.2.2.2.2.1 i hi10 q 1 (by omega)]
      exact go _
    · rw [(c_has (F := upd F 145 0) hi10).2 (by rw [u19]; exact q), if_pos rfl, if_pos (ub_hasv0.mpr (by rw [← e19]; exact q))]
      exact go _
theorem ans_check (h : URel F R G S) (a : Int32) : UAns URel (sp_X10_check F R a) (sp_X11_check G S a) := by
  obtain ⟨y1, T, y2, y3, y4⟩ := h.2.1
  unfold sp_X10_check sp_X11_check K_X10_check_23 K_X11_check_20
  simp only [k_e]
  by_cases q : g_in a 0 10 = 0
  · rw [if_pos q, if_pos q]
    exact uans h
  rw [if_neg q, if_neg q]
  obtain ⟨n, _, hn, rfl⟩ := gin_n (lo := 0) (hi := 10) (by omega) (by omega) q
  have e4 : nI n * 4 = nI (n * 4) := pk_mul n 4
  have ed : nI T / 4 = nI (T / 4) := pk_div (a := T) (d := 4) (by omega) (by omega) (by omega)
  rw [← y1, y3, e4, ed]
  by_cases q2 : n * 4 ≤ T
  · rw [if_pos (nI_le q2 (by omega)), if_pos (nI_le (by omega) (by omega))]
    obtain ⟨r, r1, r2⟩ := check_loop h hn q2 y4 n 0 (by omega) 8589934592 8589934592 (by omega) (by omega)
    have r1 : K_X10_check_36 (upd F 145 0) R (nI n) 8589934592 0 = (r, upd F 145 0, R) := r1
    have r2 : K_X11_check_30 G (upd G 14 0) S (nI n) 8589934592 0 = (r, upd G 14 0, S) := r2
    rw [r1, r2]
    exact uans (UTape_c h (fun k _ hk => by rw [uu, if_neg hk]) (fun k _ hk => by rw [uu, if_neg hk]) (fun _ _ => rfl) (fun _ _ => rfl) (by rw [uu, if_pos rfl]) (by rw [uu, if_pos rfl]))
  · rw [if_neg (nI_ge (by omega) (by omega)), if_neg (nI_ge (by omega) (by omega))]
    exact uans h
/-! the tape is cleared by both, or by none -/
theorem can_eq (h : URel F R G S) : (sp_X10_canCompare F R = 0 ↔ (sp_X11_takesPlaces G S).1 = 0) ∧ ((sp_X11_takesPlaces G S).1 = 0 → sp_X11_takesPlaces G S = (0, G, S)) ∧ (¬ (sp_X11_takesPlaces G S).1 = 0 → ∃ S', sp_X11_takesPlaces G S = (1, upd G 14 0, S') ∧ ∀ c, c ≠ 40 → S' c = S c) := by
  have e19 : F 19 = G 4 := h.1.2.2.2.2.1
  have e145 : F 145 = G 14 := h.2.1.1
  have hrg : jv 0 1023 (G 4) := by rw [← e19]; exact h.1.2.2.2.2.2.1
  have hbt : sp_J6_bitCount_0f7a4_s0 (G 4) = bits10 (G 4) := bits_eq hrg
  have loop : ∀ d i, i + d = 10 → ∀ (n : Nat) (S1 : Nat → Nat → Int32) (y : Int32), d < n → (∀ c, c ≠ 40 → S1 c = S c) → ∃ S', K_X11_takesPlaces_32 G (upd G 14 0) n S1 y (nI i) = (1, upd G 14 0, S') ∧ ∀ c, c ≠ 40 → S' c = S c := by
    intro d
    induction d with
    | zero =>
      intro i hi n S1 y hn hS
      obtain ⟨n, rfl⟩ : ∃ n', n = n' + 1 := ⟨n - 1, by omega⟩
      obtain rfl : i = 10 := by omega
      refine ⟨S1, ?_, hS⟩
      rw [ks_X11_takesPlaces_32]
      unfold KB_X11_takesPlaces_32
      rw [if_pos ub_10e]
    | succ d ih =>
      intro i hi n S1 y hn hS
      obtain ⟨n, rfl⟩ : ∃ n', n = n' + 1 := ⟨n - 1, by omega⟩
      rw [ks_X11_takesPlaces_32]
      unfold KB_X11_takesPlaces_32 K_X11_takesPlaces_72
      rw [if_neg (ub_10 (by omega))]
      simp only [k_e, nI_1]
      split
      · exact ih (i + 1) (by omega) n _ _ (by omega) hS
      · exact ih (i + 1) (by omega) n _ _ (by omega) (fun c hc => by rw [ug, if_neg hc]; exact hS c hc)
  have n1 : ¬ (1 : Int32) = 0 := by decide
  by_cases q : G 4 = 0
  · have eM : sp_X11_takesPlaces G S = (0, G, S) := by
      unfold sp_X11_takesPlaces K_X11_takesPlaces_21
      rw [if_pos q]
    have eC : sp_X10_canCompare F R = 0 := by
      unfold sp_X10_canCompare K_X10_canCompare_34 K_X10_canCompare_35
      rw [e19, if_pos q]
    rw [eM, eC]
    exact ⟨⟨fun _ => rfl, fun _ => rfl⟩, fun _ => rfl, fun z => absurd rfl z⟩
  · by_cases q2 : bits10 (G 4) ≤ G 14
    · obtain ⟨S', a1, a2⟩ := loop 10 0 (by omega) 8589934592 S 0 (by omega) (fun _ _ => rfl)
      have a1 : K_X11_takesPlaces_32 G (upd G 14 0) 8589934592 S 0 0 = (1, upd G 14 0, S') := a1
      have eM : sp_X11_takesPlaces G S = (1, upd G 14 0, S') := by
        unfold sp_X11_takesPlaces
        simp only [k_e]
        rw [if_neg q, um_bits, if_pos q2, a1]
      have eC : sp_X10_canCompare F R = 1 := by
        unfold sp_X10_canCompare K_X10_canCompare_35
        simp only [k_e]
        rw [e19, if_neg q, hbt, e145, if_neg (Int32.not_lt.mpr q2)]
      rw [eM, eC]
      exact ⟨⟨fun z => absurd z n1, fun z => absurd z n1⟩, fun z => absurd z n1, fun _ => ⟨S', rfl, a2⟩⟩
    · have eM : sp_X11_takesPlaces G S = (0, G, S) := by
        unfold sp_X11_takesPlaces K_X11_takesPlaces_21
        simp only [k_e]
        rw [if_neg q, um_bits, if_neg q2]
      have eC : sp_X10_canCompare F R = 0 := by
        unfold sp_X10_canCompare K_X10_canCompare_34 K_X10_canCompare_35
        simp only [k_e]
        rw [e19, if_neg q, hbt, e145, if_pos (Int32.not_le.mp q2)]
      rw [eM, eC]
      exact ⟨⟨fun _ => rfl, fun _ => rfl⟩, fun _ => rfl, fun z => absurd rfl z⟩
theorem up0 {f : Nat → Int32} {k : Nat} : (upd f k 0) k = 0 := by rw [uu, if_pos rfl]
theorem ww14 (G0 : Nat → Int32) (a0 : Int32) : ∀ (n : Nat) (F : Nat → Int32) (R : Nat → Nat → Int32) (y1 y2 y3 : Int32), F 14 = 0 → (K_X11_wasWet_25 G0 a0 n F R y1 y2 y3).2.1 14 = 0 := by
  intro n
  induction n with
  | zero => intro F R y1 y2 y3 h; exact h
  | succ n ih =>
    intro F R y1 y2 y3 h
    rw [ks_X11_wasWet_25]
    unfold KB_X11_wasWet_25 K_X11_wasWet_159 K_X11_wasWet_119 K_X11_wasWet_114 K_X11_wasWet_119
    simp only [k_e, k_e2]
    have run : ∀ (F1 : Nat → Int32) (R1 : Nat → Nat → Int32), F1 14 = 0 → (sp_X11_runs F1 R1).1 14 = 0 := fun F1 R1 z => ((fr_sp_X11_runs F1 R1).1 14 rfl).trans z
    have lt : ∀ (F1 : Nat → Int32) (R1 : Nat → Nat → Int32), F1 14 = 0 → (sp_X11_laysThings F1 R1).1 14 = 0 := fun F1 R1 z => ((fr_sp_X11_laysThings F1 R1).1 14 rfl).trans z
    have lp : ∀ (F1 : Nat → Int32) (R1 : Nat → Nat → Int32), F1 14 = 0 → (sp_X11_laysPull F1 R1).1 14 = 0 := fun F1 R1 z => ((fr_sp_X11_laysPull F1 R1).1 14 rfl).trans z
    split
    · split
      · exact h
      · split
        · exact h
        · split <;> exact h
    · split
      · exact ih _ _ _ _ _ h
      · split
        · exact ih _ _ _ _ _ h
        · split
          · exact ih _ _ _ _ _ (run _ _ (lt _ _ (lp _ _ h)))
          · split
            · exact ih _ _ _ _ _ (run _ _ (lt _ _ (lp _ _ h)))
            · exact ih _ _ _ _ _ (run _ _ (lt _ _ (lp _ _ h)))
theorem hq14 (a0 : Int32) : ∀ (n : Nat) (F : Nat → Int32) (R : Nat → Nat → Int32) (y1 y2 y3 : Int32), F 14 = 0 → (K_X11_howQuick_26 a0 n F R y1 y2 y3).2.1 14 = 0 := by
  intro n
  induction n with
  | zero => intro F R y1 y2 y3 h; exact h
  | succ n ih =>
    intro F R y1 y2 y3 h
    rw [ks_X11_howQuick_26]
    unfold KB_X11_howQuick_26 K_X11_howQuick_83 K_X11_howQuick_68 K_X11_howQuick_63 K_X11_howQuick_68
    simp only [k_e, k_e2]
    have run : ∀ (F1 : Nat → Int32) (R1 : Nat → Nat → Int32) (x : Int32), F1 14 = 0 → (sp_X11_runsEven F1 R1 x).1 14 = 0 := fun F1 R1 x z => ((fr_sp_X11_runsEven F1 R1 x).1 14 rfl).trans z
    have lt : ∀ (F1 : Nat → Int32) (R1 : Nat → Nat → Int32), F1 14 = 0 → (sp_X11_laysThings F1 R1).1 14 = 0 := fun F1 R1 z => ((fr_sp_X11_laysThings F1 R1).1 14 rfl).trans z
    split
    · split <;> exact h
    · split
      · exact ih _ _ _ _ _ (run _ _ _ (lt _ _ h))
      · split
        · exact ih _ _ _ _ _ (run _ _ _ (lt _ _ h))
        · exact ih _ _ _ _ _ (run _ _ _ (lt _ _ h))
theorem fr2_wasWet (h : URel F R G S) (a0 : Int32) : URel (sp_X10_wasWet F R a0).2.1 (sp_X10_wasWet F R a0).2.2 (sp_X11_wasWet G S a0).2.1 (sp_X11_wasWet G S a0).2.2 := by
  obtain ⟨h1, h2, h3⟩ := can_eq h
  have c := fr_sp_X10_wasWet F R a0
  have m := fr_sp_X11_wasWet G S a0
  have t : (sp_X11_wasWet G S a0).2.1 3 = G 3 := kt_sp_X11_wasWet G G S a0 rfl
  by_cases q : g_in a0 0 2 = 0
  · have eC : sp_X10_wasWet F R a0 = (-1, F, R) := by
      unfold sp_X10_wasWet K_X10_wasWet_16
      rw [k_e, if_pos q]
    have eM : sp_X11_wasWet G S a0 = (-1, G, S) := by
      unfold sp_X11_wasWet K_X11_wasWet_16
      rw [k_e, if_pos q]
    rw [eC, eM]
    exact h
  by_cases q2 : (sp_X11_takesPlaces G S).1 = 0
  · have eC : sp_X10_wasWet F R a0 = (-1, F, R) := by
      unfold sp_X10_wasWet K_X10_wasWet_16
      rw [k_e, if_neg q, k_e, if_pos (h1.mpr q2)]
    have eM : sp_X11_wasWet G S a0 = (-1, G, S) := by
      unfold sp_X11_wasWet K_X11_wasWet_16
      rw [k_e, if_neg q, h2 q2, k_t3, if_pos rfl]
    rw [eC, eM]
    exact h
  obtain ⟨S', e1, e2⟩ := h3 q2
  refine UTape_c h (fun k hk k1 => c.1 k (by unfold cF at hk; simp [md_X10_wasWet] <;> omega)) (fun k hk k1 => ?_) (fun k hk => c.2 k (by unfold cR at hk; simp [mr_X10_wasWet] <;> omega)) (fun k hk => m.2 k (by unfold cS at hk; simp [mr_X11_wasWet] <;> omega)) ?_ ?_
  · by_cases z : k = 3
    · rw [z]; exact t
    · exact m.1 k (by unfold cG at hk; simp [md_X11_wasWet] <;> omega)
  · unfold sp_X10_wasWet K_X10_wasWet_99
    rw [k_e, if_neg q, k_e, if_neg (fun z => q2 (h1.mp z)), k_e2, k_e2, k_e]
    split
    · dsimp only
      exact up0
    · split
      · dsimp only
        exact up0
      · split <;> (dsimp only; exact up0)
  · unfold sp_X11_wasWet
    rw [k_e, if_neg q, e1, k_t3, if_neg (by decide)]
    exact ww14 _ _ _ _ _ _ _ _ (by rw [uu, if_pos rfl])
theorem fr2_howQuick (h : URel F R G S) (a0 : Int32) : URel (sp_X10_howQuick F R a0).2.1 (sp_X10_howQuick F R a0).2.2 (sp_X11_howQuick G S a0).2.1 (sp_X11_howQuick G S a0).2.2 := by
  obtain ⟨h1, h2, h3⟩ := can_eq h
  have c := fr_sp_X10_howQuick F R a0
  have m := fr_sp_X11_howQuick G S a0
  have t : (sp_X11_howQuick G S a0).2.1 3 = G 3 := kt_sp_X11_howQuick G G S a0 rfl
  by_cases q : g_in a0 0 1 = 0
  · have eC : sp_X10_howQuick F R a0 = (-1, F, R) := by
      unfold sp_X10_howQuick K_X10_howQuick_16
      rw [k_e, if_pos q]
    have eM : sp_X11_howQuick G S a0 = (-1, G, S) := by
      unfold sp_X11_howQuick K_X11_howQuick_16
      rw [k_e, if_pos q]
    rw [eC, eM]
    exact h
  by_cases q2 : (sp_X11_takesPlaces G S).1 = 0
  · have eC : sp_X10_howQuick F R a0 = (-1, F, R) := by
      unfold sp_X10_howQuick K_X10_howQuick_16
      rw [k_e, if_neg q, k_e, if_pos (h1.mpr q2)]
    have eM : sp_X11_howQuick G S a0 = (-1, G, S) := by
      unfold sp_X11_howQuick K_X11_howQuick_16
      rw [k_e, if_neg q, h2 q2, k_t3, if_pos rfl]
    rw [eC, eM]
    exact h
  obtain ⟨S', e1, e2⟩ := h3 q2
  refine UTape_c h (fun k hk k1 => c.1 k (by unfold cF at hk; simp [md_X10_howQuick] <;> omega)) (fun k hk k1 => ?_) (fun k hk => c.2 k (by unfold cR at hk; simp [mr_X10_howQuick] <;> omega)) (fun k hk => m.2 k (by unfold cS at hk; simp [mr_X11_howQuick] <;> omega)) ?_ ?_
  · by_cases z : k = 3
    · rw [z]; exact t
    · exact m.1 k (by unfold cG at hk; simp [md_X11_howQuick] <;> omega)
  · unfold sp_X10_howQuick K_X10_howQuick_86
    rw [k_e, if_neg q, k_e, if_neg (fun z => q2 (h1.mp z)), k_e2, k_e2, k_e]
    split
    · dsimp only
      exact up0
    · split <;> (dsimp only; exact up0)
  · unfold sp_X11_howQuick
    rw [k_e, if_neg q, e1, k_t3, if_neg (by decide)]
    exact hq14 _ _ _ _ _ _ _ (by rw [uu, if_pos rfl])
end URS
