/-! ===== a tick's first part: the hand, the cloth ===== -/
theorem ux_forget (F : Nat → Int32) (R : Nat → Nat → Int32) : ∃ f, sp_X2_forget_17 F R = (F, g_u R 23 f) ∧ ∀ j, j < 12 → f j = 0 := by
  have main : ∀ d i, i + d = 12 → ∀ (k : Nat) (R1 : Nat → Nat → Int32), d < k → (∀ c, c ≠ 23 → R1 c = R c) → (∀ j, j < i → R1 23 j = 0) → ∃ f, K_X2_forget_17_2 F k R1 (nI i) = (F, g_u R 23 f) ∧ ∀ j, j < 12 → f j = 0 := by
    intro d
    induction d with
    | zero =>
      intro i hi k R1 hk h1 h2
      obtain ⟨k, rfl⟩ : ∃ n', k = n' + 1 := ⟨k - 1, by omega⟩
      rw [ks_X2_forget_17_2]
      unfold KB_X2_forget_17_2
      rw [if_pos (show (12 : Int32) ≤ nI i from nI_le (a := 12) (b := i) (by omega) (by omega))]
      refine ⟨R1 23, ?_, fun j hj => h2 j (by omega)⟩
      have e : R1 = g_u R 23 (R1 23) := by
        funext c
        by_cases q : c = 23
        · subst q; rw [g_uus]
        · rw [g_uun (by rw [bne_iff_ne]; exact fun z => q z.symm)]
          exact h1 c q
      rw [← e]
    | succ d ih =>
      intro i hi k R1 hk h1 h2
      obtain ⟨k, rfl⟩ : ∃ n', k = n' + 1 := ⟨k - 1, by omega⟩
      rw [ks_X2_forget_17_2]
      unfold KB_X2_forget_17_2
      rw [if_neg (show ¬ (12 : Int32) ≤ nI i from nI_ge (a := i) (b := 12) (by omega) (by omega)), k_e, k_e, nI_1, nI_clamp (by omega)]
      refine ih (i + 1) (by omega) k _ (by omega) (fun c hc => ?_) (fun j hj => ?_)
      · rw [g_uun (by rw [bne_iff_ne]; exact fun z => hc z.symm)]
        exact h1 c hc
      · rw [g_uus]
        by_cases q : j = i
        · subst q; rw [g_us]
        · rw [g_un (by rw [bne_iff_ne]; exact fun z => q z.symm)]
          exact h2 j (by omega)
  have I := main 12 0 (by omega) 8589934592 R (by omega) (fun _ _ => rfl) (fun j hj => absurd hj (by omega))
  rw [nI_0] at I
  exact I
theorem um_zero {F F8 : Nat → Int32} {S : Nat → Nat → Int32} (y : Int32) : ∃ f, K_X11_slipsNow_92 F F8 y 8589934592 S 0 = sp_X11_byLaw F8 (g_u S 24 f) 104 0 40 ∧ f 0 = F 45 ∧ f 1 = sp_X11_paceNow F8 S ∧ f 2 = y ∧ ∀ j, 3 ≤ j → j < 12 → f j = 0 := by
  have main : ∀ d i, i + d = 12 → ∀ (k : Nat) (R1 : Nat → Nat → Int32), d < k → (∀ c, c ≠ 24 → R1 c = S c) → (∀ j, j < i → R1 24 j = 0) → ∃ f, K_X11_slipsNow_92 F F8 y k R1 (nI i) = sp_X11_byLaw F8 (g_u S 24 f) 104 0 40 ∧ f 0 = F 45 ∧ f 1 = sp_X11_paceNow F8 S ∧ f 2 = y ∧ ∀ j, 3 ≤ j → j < 12 → f j = 0 := by
    intro d
    induction d with
    | zero =>
      intro i hi k R1 hk h1 h2
      obtain ⟨k, rfl⟩ : ∃ n', k = n' + 1 := ⟨k - 1, by omega⟩
      have e : R1 = g_u S 24 (R1 24) := by
        funext c
        by_cases q : c = 24
        · subst q; rw [g_uus]
        · rw [g_uun (by rw [bne_iff_ne]; exact fun z => q z.symm)]
          exact h1 c q
      rw [ks_X11_slipsNow_92]
      unfold KB_X11_slipsNow_92
      rw [if_pos (show (12 : Int32) ≤ nI i from nI_le (a := 12) (b := i) (by omega) (by omega)), e, kst, k_e, um_pace (S := S) (g_uun rfl), kst, kst]
      refine ⟨_, by rw [k_t3], rfl, rfl, rfl, fun j h3 h4 => ?_⟩
      rw [g_un (by rw [bne_iff_ne]; omega), g_un (by rw [bne_iff_ne]; omega), g_un (by rw [bne_iff_ne]; omega)]
      exact h2 j (by omega)
    | succ d ih =>
      intro i hi k R1 hk h1 h2
      obtain ⟨k, rfl⟩ : ∃ n', k = n' + 1 := ⟨k - 1, by omega⟩
      rw [ks_X11_slipsNow_92]
      unfold KB_X11_slipsNow_92
      rw [if_neg (show ¬ (12 : Int32) ≤ nI i from nI_ge (a := i) (b := 12) (by omega) (by omega)), k_e, k_e, nI_1, nI_clamp (by omega)]
      refine ih (i + 1) (by omega) k _ (by omega) (fun c hc => ?_) (fun j hj => ?_)
      · rw [g_uun (by rw [bne_iff_ne]; exact fun z => hc z.symm)]
        exact h1 c hc
      · rw [g_uus]
        by_cases q : j = i
        · subst q; rw [g_us]
        · rw [g_un (by rw [bne_iff_ne]; exact fun z => q z.symm)]
          exact h2 j (by omega)
  have I := main 12 0 (by omega) 8589934592 S (by omega) (fun _ _ => rfl) (fun j hj => absurd hj (by omega))
  rw [nI_0] at I
  exact I
/-- how the hand slips: both the same -/
def UHand (F G : Nat → Int32) : Prop := (¬ F 672 = 0 ∧ ¬ G 51 = 0 ∧ F 673 = G 3 ∧ jv 0 65535 (G 3)) ∨ (F 672 = 0 ∧ G 51 = 0 ∧ F 674 = G 49 ∧ (F 674 = 0 ∨ F 675 = G 50 ∧ jv 0 1000 (G 50)))
theorem u_and16 {n : Nat} (h : n < 2 ^ 31) : nI n &&& 65535 = nI (n % 65536) := by
  apply Int32.toBitVec_inj.mp
  rw [Int32.toBitVec_and]
  apply BitVec.eq_of_toNat_eq
  have e1 : (nI n).toBitVec.toNat = n := by
    show (BitVec.ofNat 32 n).toNat = n
    rw [BitVec.toNat_ofNat]
    omega
  have e2 : (nI (n % 65536)).toBitVec.toNat = n % 65536 := by
    show (BitVec.ofNat 32 (n % 65536)).toNat = n % 65536
    rw [BitVec.toNat_ofNat]
    omega
  rw [BitVec.toNat_and, e1, e2]
  exact Nat.and_two_pow_sub_one_eq_mod n 16
theorem pace_rel {F G : Nat → Int32} {R S : Nat → Nat → Int32} {t : Nat} (ht : t < 300) (e45 : G 45 = nI t) (e : F 241 = G 44) (h60 : jv 0 60 (F 241)) (hp : ∀ t, t < 60 → nI t < F 241 → R 16 t = S 25 t ∧ jv 0 40 (S 25 t)) : sp_X5_paceAt_15 F R (nI t) = sp_X11_paceNow G S ∧ jv 0 40 (sp_X11_paceNow G S) := by
  unfold sp_X5_paceAt_15 sp_X11_paceNow K_X5_paceAt_15_27 K_X5_paceAt_15_28 K_X11_paceNow_24
  rw [if_neg (nI_pos (by omega)), e45, ← e]
  by_cases q : F 241 ≤ nI t
  · rw [if_pos q, if_pos q]
    exact ⟨rfl, by decide, by decide⟩
  · rw [if_neg q, if_neg q, k_e, k_e, nI_clamp (by omega)]
    have h1 := gc_nle q
    rw [nI_toInt (by omega)] at h1
    unfold jv at h60
    have h2 := hp t (by omega) (Int32.lt_iff_toInt_lt.mpr (gc_nle q))
    exact ⟨h2.1, by rw [← h2.1]; exact h2.1 ▸ h2.2⟩
/-- the class's slip, where there is a draw -/
theorem cx32 {F G : Nat → Int32} {R S : Nat → Nat → Int32} {t : Nat} {r y : Int32} (hL : ULaw F R G S) (hy : ¬ y = -1) {g : Nat → Int32} (g0 : g 0 = nI t) (g1 : g 1 = r) (g2 : g 2 = y) (g3 : ∀ j, 3 ≤ j → j < 12 → g j = 0) : ∃ R', K_X0_pullCloth_32 (nI t) r F R y = K_X0_pullCloth_98 r F R' (sp_X11_byLaw G (g_u S 24 g) 104 0 40).1 ∧ R' 23 0 = nI t ∧ R' 23 1 = r ∧ R' 23 2 = 0 ∧ (∀ c, c ≠ 23 → c ≠ 24 → R' c = R c) := by
  obtain ⟨f, ef, hf⟩ := ux_forget F R
  unfold K_X0_pullCloth_32
  rw [ef, k_t2, kst, kst, if_neg hy, kst]
  have hA : (sp_X2_ask_17 F (g_u R 23 (upd (upd (upd f 0 (nI t)) 1 r) 2 y)) 2).1 = (sp_X11_byLaw G (g_u S 24 g) 104 0 40).1 := by
    have h2 := ask_rel (F := F) (G := G) (R := g_u R 23 (upd (upd (upd f 0 (nI t)) 1 r) 2 y)) (S := g_u S 24 g) (ULaw_e hL rfl rfl rfl (fun c h1 h2 => g_uun (by rw [bne_iff_ne]; omega)) (fun c h1 h2 => g_uun (by rw [bne_iff_ne]; omega))) (by
      rw [g_uus, g_uus]
      intro j hj
      by_cases q : 3 ≤ j
      · rw [g3 j q hj, g_un (by rw [bne_iff_ne]; omega), g_un (by rw [bne_iff_ne]; omega), g_un (by rw [bne_iff_ne]; omega)]
        exact hf j hj
      · match j, q with
        | 0, _ => exact g0.symm
        | 1, _ => exact g1.symm
        | 2, _ => exact g2.symm
        | j + 3, q => exact absurd (by omega) q) (l := 2) (by omega)
    exact h2
  obtain ⟨fa, ea⟩ := ask_nf F (g_u R 23 (upd (upd (upd f 0 (nI t)) 1 r) 2 y)) 2
  rw [ea, k_t3, k_e, hA]
  refine ⟨_, rfl, ?_, ?_, ?_, fun c h1 h2 => ?_⟩
  · rw [g_uus, g_uun rfl, g_uus]
    rfl
  · rw [g_uus, g_uun rfl, g_uus]
    rfl
  · rw [g_uus, g_us]
  · rw [g_uun (by rw [bne_iff_ne]; exact fun z => h1 z.symm), g_uun (by rw [bne_iff_ne]; exact fun z => h2 z.symm), g_uun (by rw [bne_iff_ne]; exact fun z => h1 z.symm)]
theorem cx32n {F : Nat → Int32} {R : Nat → Nat → Int32} {t : Nat} {r : Int32} : ∃ R', K_X0_pullCloth_32 (nI t) r F R (-1) = K_X0_pullCloth_98 r F R' 0 ∧ R' 23 0 = nI t ∧ R' 23 1 = r ∧ R' 23 2 = 0 ∧ (∀ c, c ≠ 23 → c ≠ 24 → R' c = R c) := by
  obtain ⟨f, ef, hf⟩ := ux_forget F R
  unfold K_X0_pullCloth_32
  rw [ef, k_t2, kst, kst, if_pos rfl]
  refine ⟨_, rfl, ?_, ?_, ?_, fun c h1 h2 => ?_⟩
  · rw [g_uus]
    rfl
  · rw [g_uus]
    rfl
  · rw [g_uus, g_un rfl, g_un rfl]
    exact hf 2 (by omega)
  · rw [g_uun (by rw [bne_iff_ne]; exact fun z => h1 z.symm)]
/-- the slip of both; the hand behind it -/
theorem slip_rel {F G : Nat → Int32} {R S : Nat → Nat → Int32} {t : Nat} (ht : t < 300) (hs : UStat F R G S) (e45 : G 45 = nI t) (hh : UHand F G) : ∃ v G' S' F' R', sp_X11_slipsNow G S = (v, G', S') ∧ sp_X0_pullCloth F R (nI t) = K_X0_pullCloth_98 (sp_X11_paceNow G S) F' R' v ∧ R' 23 0 = nI t ∧ R' 23 1 = sp_X11_paceNow G S ∧ R' 23 2 = 0 ∧ (∀ c, c ≠ 23 → c ≠ 24 → R' c = R c) ∧ UHand F' G' ∧ (∀ k, k ≠ 673 → k ≠ 675 → F' k = F k) ∧ (∀ k, k ≠ 3 → k ≠ 50 → G' k = G k) ∧ (∀ c, c ≠ 23 → c ≠ 24 → S' c = S c) ∧ jv 0 40 v := by
  obtain ⟨s1, s2, s3, s4, s5, s6, s7, s8⟩ := hs
  obtain ⟨p1, p2⟩ := pace_rel ht e45 s3 s4 s5
  have none : ∀ F', (∀ k, k ≠ 673 → k ≠ 675 → F' k = F k) → UHand F' G → ∃ R', K_X0_pullCloth_32 (nI t) (sp_X11_paceNow G S) F' R (-1) = K_X0_pullCloth_98 (sp_X11_paceNow G S) F' R' 0 ∧ R' 23 0 = nI t ∧ R' 23 1 = sp_X11_paceNow G S ∧ R' 23 2 = 0 ∧ (∀ c, c ≠ 23 → c ≠ 24 → R' c = R c) ∧ UHand F' G ∧ (∀ k, k ≠ 673 → k ≠ 675 → F' k = F k) := by
    intro F' h1 h2
    obtain ⟨R', r1, r2, r3, r4, r5⟩ := cx32n (F := F') (R := R) (t := t) (r := sp_X11_paceNow G S)
    exact ⟨R', r1, r2, r3, r4, r5, h2, h1⟩
  have z0 : jv 0 40 (0 : Int32) := ⟨by decide, by decide⟩
  -- a draw d, the hand behind it
  have some_ : ∀ (F' G' : Nat → Int32) (d : Int32), (∀ k, k ≠ 673 → k ≠ 675 → F' k = F k) → (∀ k, k ≠ 3 → k ≠ 50 → G' k = G k) → UHand F' G' → ¬ d = -1 → ∃ v S' R', K_X11_slipsNow_90 G S G' d = (v, G', S') ∧ K_X0_pullCloth_32 (nI t) (sp_X11_paceNow G S) F' R d = K_X0_pullCloth_98 (sp_X11_paceNow G S) F' R' v ∧ R' 23 0 = nI t ∧ R' 23 1 = sp_X11_paceNow G S ∧ R' 23 2 = 0 ∧ (∀ c, c ≠ 23 → c ≠ 24 → R' c = R c) ∧ (∀ c, c ≠ 23 → c ≠ 24 → S' c = S c) ∧ jv 0 40 v := by
    intro F' G' d h1 h2 h3 hd
    unfold K_X11_slipsNow_90
    obtain ⟨f, ef, f0, f1, f2, f3⟩ := um_zero (F := G) (F8 := G') (S := S) d
    have ep : sp_X11_paceNow G' S = sp_X11_paceNow G S := by
      unfold sp_X11_paceNow
      rw [h2 44 (by omega) (by omega), h2 45 (by omega) (by omega)]
    have hL : ULaw F' R G' S := ULaw_e s7 (h1 274 (by omega) (by omega)) (h1 278 (by omega) (by omega)) (h2 28 (by omega) (by omega)) (fun _ _ _ => rfl) (fun _ _ _ => rfl)
    obtain ⟨R', r1, r2, r3, r4, r5⟩ := cx32 (F := F') (G := G') (R := R) (S := S) (t := t) (r := sp_X11_paceNow G S) (y := d) hL hd (g := f) (f0.trans e45) (f1.trans ep) f2 f3
    obtain ⟨fb, eb⟩ := byLaw_nf G' (g_u S 24 f) 104 0 40
    have hv : jv 0 40 (sp_X11_byLaw G' (g_u S 24 f) 104 0 40).1 := by
      obtain ⟨V, _, o2, o3⟩ := oracles hL f
      obtain ⟨fc, ec⟩ := o2 G' (g_u S 24 f) rfl (fun c h1 h2 => g_uun (by rw [bne_iff_ne]; omega)) (fun j hj => by rw [g_uus]) 2 (by omega)
      have ec : sp_X11_byLaw G' (g_u S 24 f) 104 0 40 = (V 2, G', g_u (g_u S 24 f) 23 fc) := ec
      rw [ec]
      exact urng_iv (o3 2 (by omega)) rfl rfl
    refine ⟨_, g_u (g_u S 24 f) 23 fb, R', ?_, r1, r2, r3, r4, r5, ?_, hv⟩
    · rw [ef]
      exact eb
    · intro c h1 h2
      rw [g_uun (by rw [bne_iff_ne]; exact fun z => h1 z.symm), g_uun (by rw [bne_iff_ne]; exact fun z => h2 z.symm)]
  unfold sp_X11_slipsNow sp_X0_pullCloth
  rw [k_e, p1, e45, ← s3]
  by_cases q : F 241 ≤ nI t
  · rw [if_pos q, if_neg (fun z => by have := gc_lt z; have := gc_le q; omega)]
    obtain ⟨R', r⟩ := none F (fun _ _ _ => rfl) hh
    exact ⟨0, G, S, F, R', rfl, r.1, r.2.1, r.2.2.1, r.2.2.2.1, r.2.2.2.2.1, r.2.2.2.2.2.1, r.2.2.2.2.2.2, fun _ _ _ => rfl, fun _ _ _ => rfl, z0⟩
  · have q' : nI t < F 241 := Int32.lt_iff_toInt_lt.mpr (gc_nle q)
    have fin : ∀ (F' G' : Nat → Int32) (d : Int32), sp_X1_draw F R (nI t) = (d, F', R) → (if G 51 = 0 then (if nI t < G 49 then K_X11_slipsNow_33 G S else (0, G, S)) else K_X11_slipsNow_33 G S) = K_X11_slipsNow_90 G S G' d → (∀ k, k ≠ 673 → k ≠ 675 → F' k = F k) → (∀ k, k ≠ 3 → k ≠ 50 → G' k = G k) → UHand F' G' → ¬ d = -1 → ∃ v G' S' F' R', (if G 51 = 0 then (if nI t < G 49 then K_X11_slipsNow_33 G S else (0, G, S)) else K_X11_slipsNow_33 G S) = (v, G', S') ∧ k_lt3 (sp_X1_draw F R (nI t)) (fun r59 F63 R64 => K_X0_pullCloth_32 (nI t) (sp_X11_paceNow G S) F63 R64 r59) = K_X0_pullCloth_98 (sp_X11_paceNow G S) F' R' v ∧ R' 23 0 = nI t ∧ R' 23 1 = sp_X11_paceNow G S ∧ R' 23 2 = 0 ∧ (∀ c, c ≠ 23 → c ≠ 24 → R' c = R c) ∧ UHand F' G' ∧ (∀ k, k ≠ 673 → k ≠ 675 → F' k = F k) ∧ (∀ k, k ≠ 3 → k ≠ 50 → G' k = G k) ∧ (∀ c, c ≠ 23 → c ≠ 24 → S' c = S c) ∧ jv 0 40 v := by
      intro F' G' d ed er h1 h2 h3 hd
      obtain ⟨v, S', R', r1, r2, r3, r4, r5, r6, r7, r8⟩ := some_ F' G' d h1 h2 h3 hd
      rw [ed, k_t3, er]
      exact ⟨v, G', S', F', R', r1, r2, r3, r4, r5, r6, h3, h1, h2, r7, r8⟩
    rw [if_neg q, if_pos q']
    have nn : ∀ m : Nat, m < 10 → ¬ nI m = -1 := by
      have : ∀ m : Fin 10, ¬ nI m = -1 := by decide
      exact fun m hm => this ⟨m, hm⟩
    rcases hh with ⟨h1, h2, h3, h4⟩ | ⟨h1, h2, h3, h4⟩
    · obtain ⟨n, en, hn⟩ : ∃ n, G 3 = nI n ∧ n < 65536 := by
        obtain ⟨n, e1, e2, e3, e4⟩ := jv_n h4 (by omega)
        exact ⟨n, e1, by omega⟩
      have m1 : (25173 : Int32) * nI n = nI (25173 * n) := pk_mul 25173 n
      have m2 : nI (25173 * n) + 13849 = nI (25173 * n + 13849) := nI_add _ 13849
      have m3 : nI (25173 * n + 13849) &&& 65535 = nI ((25173 * n + 13849) % 65536) := u_and16 (by omega)
      have m4 : nI (25173 * n + 13849) - nI (25173 * n + 13849) / 65536 * 65536 = nI ((25173 * n + 13849) % 65536) := pk_rem (d := 65536) (by omega) (by omega) (by omega)
      have hx : (25173 * n + 13849) % 65536 < 65536 := Nat.mod_lt _ (by omega)
      have m5 : nI ((25173 * n + 13849) % 65536) - nI ((25173 * n + 13849) % 65536) / 10 * 10 = nI ((25173 * n + 13849) % 65536 % 10) := pk_rem (d := 10) (by omega) (by omega) (by omega)
      refine fin (upd F 673 (nI ((25173 * n + 13849) % 65536))) (upd G 3 (nI ((25173 * n + 13849) % 65536))) (nI ((25173 * n + 13849) % 65536 % 10)) ?_ ?_ ?_ ?_ ?_ (nn _ (Nat.mod_lt _ (by omega)))
      · unfold sp_X1_draw
        rw [if_neg h1, h3, en, m1, k_e, m2, k_e, m3, k_e, k_e, m5, k_e]
      · unfold K_X11_slipsNow_33
        rw [if_neg h2, k_e, if_neg h2, en, m1, k_e, m2, k_e, m4, k_e, k_e, m5, k_e]
      · intro k k1 k2
        exact g_un (by rw [bne_iff_ne]; exact fun e => k1 e.symm)
      · intro k k1 k2
        exact g_un (by rw [bne_iff_ne]; exact fun e => k1 e.symm)
      · left
        refine ⟨by rw [g_un rfl]; exact h1, by rw [g_un rfl]; exact h2, by rw [g_us, g_us], ?_⟩
        rw [g_us]
        unfold jv
        rw [nI_toInt (by omega)]
        omega
    · by_cases q2 : nI t < F 674
      · have q3 : ¬ F 674 = 0 := by
          intro e
          rw [e] at q2
          exact nI_pos (by omega) q2
        rcases h4 with h4 | ⟨h4, h5⟩
        · exact absurd h4 q3
        · obtain ⟨n, en, hn⟩ : ∃ n, G 50 = nI n ∧ n ≤ 1000 := by
            obtain ⟨n, e1, e2, e3, e4⟩ := jv_n h5 (by omega)
            exact ⟨n, e1, by omega⟩
          have m5 : nI n - nI n / 10 * 10 = nI (n % 10) := pk_rem (d := 10) (by omega) (by omega) (by omega)
          have m6 : nI n / 10 = nI (n / 10) := pk_div (d := 10) (by omega) (by omega) (by omega)
          refine fin (upd F 675 (nI (n / 10))) (upd G 50 (nI (n / 10))) (nI (n % 10)) ?_ ?_ ?_ ?_ ?_ (nn _ (Nat.mod_lt _ (by omega)))
          · unfold sp_X1_draw
            rw [if_pos h1, if_pos q2, h4, en, m5, k_e, m6, k_e, k_e]
          · unfold K_X11_slipsNow_33
            rw [if_pos h2, if_pos (by rw [← h3]; exact q2), en, m5, k_e, if_pos h2, m6, k_e, k_e]
          · intro k k1 k2
            exact g_un (by rw [bne_iff_ne]; exact fun e => k2 e.symm)
          · intro k k1 k2
            exact g_un (by rw [bne_iff_ne]; exact fun e => k2 e.symm)
          · right
            refine ⟨by rw [g_un rfl]; exact h1, by rw [g_un rfl]; exact h2, by rw [g_un rfl, g_un rfl]; exact h3, Or.inr ⟨by rw [g_us, g_us], ?_⟩⟩
            rw [g_us]
            unfold jv
            rw [nI_toInt (by omega)]
            omega
      · have ed : sp_X1_draw F R (nI t) = (-1, F, R) := by
          unfold sp_X1_draw
          rw [if_pos h1, if_neg q2]
        rw [if_pos h2, ← h3, if_neg q2, ed, k_t3]
        obtain ⟨R', r⟩ := none F (fun _ _ _ => rfl) (Or.inr ⟨h1, h2, h3, h4⟩)
        exact ⟨0, G, S, F, R', rfl, r.1, r.2.1, r.2.2.1, r.2.2.2.1, r.2.2.2.2.1, r.2.2.2.2.2.1, r.2.2.2.2.2.2, fun _ _ _ => rfl, fun _ _ _ => rfl, z0⟩
