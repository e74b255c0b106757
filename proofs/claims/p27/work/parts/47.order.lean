/-! ===== those that stand, from the edge on ===== -/
/-- rows of numbers, alike, but for the hole h -/
def ULn (r s : Nat → Int32) (T : Nat → Prop) (n : Nat) (h : Nat) : Prop := (∀ m, m < n → m ≠ h → ∃ a, a < 10 ∧ T a ∧ r m = nI a ∧ s m = nI a) ∧ (∀ m m', m < n → m' < n → m ≠ h → m' ≠ h → r m = r m' → m = m')
def UOrd (T : Nat → Prop) (p : (Nat → Int32) × (Nat → Nat → Int32)) (q : Int32 × (Nat → Int32) × (Nat → Nat → Int32)) : Prop := ∃ n, n ≤ 10 ∧ p.1 602 = nI n ∧ q.1 = nI n ∧ ULn (p.2 40) (q.2.2 37) T n n
theorem ux_placeOf {F : Nat → Int32} {R : Nat → Nat → Int32} {i : Nat} (hi : i < 10) : sp_X4_placeOf F R (nI i) = R 44 i := by
  unfold sp_X4_placeOf K_X4_placeOf_20
  rw [k_e, ug_i9 hi, if_neg (by decide), k_e, nI_clamp (by omega)]
theorem order_in {T : Nat → Prop} {F G : Nat → Int32} {i n : Nat} (hi : i < 10) (hn : n ≤ i) (e602 : F 602 = nI n) (pl : Nat → Int32) (b15 : (Nat → Int32) → (Nat → Nat → Int32) → Int32 → (Nat → Int32) × (Nat → Nat → Int32)) (b4 : (Nat → Nat → Int32) → Int32 → Int32 → Int32 × (Nat → Int32) × (Nat → Nat → Int32)) (hT : T i) (Q : (Nat → Int32) × (Nat → Nat → Int32) → Int32 × (Nat → Int32) × (Nat → Nat → Int32) → Prop) (Z : (Nat → Nat → Int32) → (Nat → Nat → Int32) → Prop) (hZ : ∀ R S f g, Z R S → Z (g_u R 40 f) (g_u S 37 g)) (hp : ∀ R S a, Z R S → a < 10 → T a → R 44 a = pl a ∧ S 26 a = pl a) (hc : ∀ R S, Z R S → ULn (R 40) (S 37) T (n + 1) (n + 1) → Q (b15 (upd F 602 (nI (n + 1))) R (nI (i + 1))) (b4 S (nI (n + 1)) (nI (i + 1)))) : ∀ h, h ≤ n → ∀ (k l : Nat) (R S : Nat → Nat → Int32), h < k → h < l → Z R S → ULn (R 40) (S 37) T (n + 1) h → (∀ m, m < n + 1 → m ≠ h → R 40 m ≠ nI i) → Q (K_X0_lineUp_34 b15 F (nI i) k R (nI h)) (K_X11_laysOrder_23 b4 G (nI n) (nI i) l S (nI h)) := by
  intro h
  induction h with
  | zero =>
    intro hh k l R S hk hl hz hL hne
    obtain ⟨k, rfl⟩ : ∃ n', k = n' + 1 := ⟨k - 1, by omega⟩
    obtain ⟨l, rfl⟩ : ∃ n', l = n' + 1 := ⟨l - 1, by omega⟩
    rw [ks_X0_lineUp_34, ks_X11_laysOrder_23]
    unfold KB_X0_lineUp_34 KB_X11_laysOrder_23 K_X0_lineUp_91 K_X11_laysOrder_70 K_X0_lineUp_118 K_X11_laysOrder_81
    have c0 : nI 0 ≤ 0 := nI_le (a := 0) (b := 0) (by omega) (by omega)
    rw [if_pos c0, if_pos c0, if_neg (nI_pos (by omega)), if_neg (ub_10 (by omega)), e602]
    simp only [k_e, nI_1, nI_clamp (show (0 : Nat) < 2 ^ 31 by omega)]
    refine hc _ _ (hZ _ _ _ _ hz) ⟨fun m hm hmn => ?_, fun m m' h1 h2 _ _ e => ?_⟩
    · rw [g_uus, g_uus]
      by_cases q : m = 0
      · subst q
        exact ⟨i, hi, hT, g_us, g_us⟩
      · rw [g_un (by rw [bne_iff_ne]; exact fun z => q z.symm), g_un (by rw [bne_iff_ne]; exact fun z => q z.symm)]
        exact hL.1 m hm q
    · rw [g_uus] at e
      by_cases q : m = 0
      · by_cases q' : m' = 0
        · omega
        · subst q
          rw [g_us, g_un (by rw [bne_iff_ne]; exact fun z => q' z.symm)] at e
          exact absurd e.symm (hne m' h2 q')
      · by_cases q' : m' = 0
        · subst q'
          rw [g_us, g_un (by rw [bne_iff_ne]; exact fun z => q z.symm)] at e
          exact absurd e (hne m h1 q)
        · rw [g_un (by rw [bne_iff_ne]; exact fun z => q z.symm), g_un (by rw [bne_iff_ne]; exact fun z => q' z.symm)] at e
          exact hL.2 m m' h1 h2 q q' e
  | succ h ih =>
    intro hh k l R S hk hl hz hL hne
    obtain ⟨k, rfl⟩ : ∃ n', k = n' + 1 := ⟨k - 1, by omega⟩
    obtain ⟨l, rfl⟩ : ∃ n', l = n' + 1 := ⟨l - 1, by omega⟩
    obtain ⟨a, ha, hTa, ra, sa⟩ := hL.1 h (by omega) (by omega)
    obtain ⟨p1, p2⟩ := hp R S a hz ha hTa
    obtain ⟨p3, p4⟩ := hp R S i hz hi hT
    rw [ks_X0_lineUp_34, ks_X11_laysOrder_23]
    unfold KB_X0_lineUp_34 KB_X11_laysOrder_23
    have c0 : ¬ nI (h + 1) ≤ 0 := nI_nle (by omega) (by omega)
    rw [if_neg c0, if_neg c0, if_neg (ub_10 (by omega))]
    simp only [k_e, nI_pred, pk_m1, nI_clamp (show h < 2 ^ 31 by omega), nI_clamp (show h + 1 < 2 ^ 31 by omega), nI_clamp (show i < 2 ^ 31 by omega), ra, sa, nI_clamp (show a < 2 ^ 31 by omega), ux_placeOf ha, p1, p2, p3, p4]
    by_cases q : pl a ≤ pl i
    · rw [if_pos q, if_pos q]
      unfold K_X0_lineUp_91 K_X11_laysOrder_70 K_X0_lineUp_118 K_X11_laysOrder_81
      rw [if_neg (nI_pos (by omega)), if_neg (ub_10 (by omega)), e602]
      simp only [k_e, nI_1, nI_clamp (show h + 1 < 2 ^ 31 by omega)]
      refine hc _ _ (hZ _ _ _ _ hz) ⟨fun m hm hmn => ?_, fun m m' h1 h2 _ _ e => ?_⟩
      · rw [g_uus, g_uus]
        by_cases q : m = h + 1
        · subst q
          exact ⟨i, hi, hT, g_us, g_us⟩
        · rw [g_un (by rw [bne_iff_ne]; exact fun z => q z.symm), g_un (by rw [bne_iff_ne]; exact fun z => q z.symm)]
          exact hL.1 m hm q
      · rw [g_uus] at e
        by_cases q : m = h + 1
        · by_cases q' : m' = h + 1
          · omega
          · subst q
            rw [g_us, g_un (by rw [bne_iff_ne]; exact fun z => q' z.symm)] at e
            exact absurd e.symm (hne m' h2 q')
        · by_cases q' : m' = h + 1
          · subst q'
            rw [g_us, g_un (by rw [bne_iff_ne]; exact fun z => q z.symm)] at e
            exact absurd e (hne m h1 q)
          · rw [g_un (by rw [bne_iff_ne]; exact fun z => q z.symm), g_un (by rw [bne_iff_ne]; exact fun z => q' z.symm)] at e
            exact hL.2 m m' h1 h2 q q' e
    · rw [if_neg q, if_neg q]
      refine ih (by omega) k l _ _ (by omega) (by omega) (hZ _ _ _ _ hz) ⟨fun m hm hmn => ?_, fun m m' h1 h2 n1 n2 e => ?_⟩ (fun m hm hmn => ?_)
      · rw [g_uus, g_uus]
        by_cases q : m = h + 1
        · subst q
          exact ⟨a, ha, hTa, g_us, g_us⟩
        · rw [g_un (by rw [bne_iff_ne]; exact fun z => q z.symm), g_un (by rw [bne_iff_ne]; exact fun z => q z.symm)]
          exact hL.1 m hm q
      · rw [g_uus] at e
        by_cases q : m = h + 1
        · by_cases q' : m' = h + 1
          · omega
          · subst q
            rw [g_us, g_un (by rw [bne_iff_ne]; exact fun z => q' z.symm), ← ra] at e
            exact absurd (hL.2 h m' (by omega) h2 (by omega) q' e) (fun z => n2 z.symm)
        · by_cases q' : m' = h + 1
          · subst q'
            rw [g_us, g_un (by rw [bne_iff_ne]; exact fun z => q z.symm), ← ra] at e
            exact absurd (hL.2 m h h1 (by omega) q (by omega) e) n1
          · rw [g_un (by rw [bne_iff_ne]; exact fun z => q z.symm), g_un (by rw [bne_iff_ne]; exact fun z => q' z.symm)] at e
            exact hL.2 m m' h1 h2 q q' e
      · rw [g_uus]
        by_cases q : m = h + 1
        · subst q
          rw [g_us, ← ra]
          exact hne h (by omega) (by omega)
        · rw [g_un (by rw [bne_iff_ne]; exact fun z => q z.symm)]
          exact hne m hm q
theorem order_rel {F G : Nat → Int32} {R S : Nat → Nat → Int32} {s : Int32} (es : s = sp_X4_standingSet (upd F 602 0) R) (st : ∀ j, j < 10 → (hb s (nI j) ↔ ¬ sp_X11_stands G S (nI j) = 0)) (hp : ∀ j, j < 10 → hb s (nI j) → R 44 j = S 26 j) : UOrd (fun j => hb s (nI j) ∧ j < 10) (sp_X0_lineUp F R) (sp_X11_laysOrder G S) := by
  have main : ∀ d i n, i + d = 10 → n ≤ i → ∀ (k l : Nat) (F1 : Nat → Int32) (R1 S1 : Nat → Nat → Int32), d < k → d < l → F1 602 = nI n → (∀ c, c ≠ 40 → R1 c = R c) → (∀ c, c ≠ 37 → S1 c = S c) → ULn (R1 40) (S1 37) (fun j => hb s (nI j) ∧ j < i) n n → UOrd (fun j => hb s (nI j) ∧ j < 10) (K_X0_lineUp_15 s k F1 R1 (nI i)) (K_X11_laysOrder_4 G l S1 (nI n) (nI i)) := by
    intro d
    induction d with
    | zero =>
      intro i n hid hn k l F1 R1 S1 hk hl e602 eR eS hL
      obtain ⟨k, rfl⟩ : ∃ n', k = n' + 1 := ⟨k - 1, by omega⟩
      obtain ⟨l, rfl⟩ : ∃ n', l = n' + 1 := ⟨l - 1, by omega⟩
      obtain rfl : i = 10 := by omega
      rw [ks_X0_lineUp_15, ks_X11_laysOrder_4]
      unfold KB_X0_lineUp_15 KB_X11_laysOrder_4
      rw [if_pos ub_10e, if_pos ub_10e]
      exact ⟨n, by omega, e602, rfl, hL⟩
    | succ d ih =>
      intro i n hid hn k l F1 R1 S1 hk hl e602 eR eS hL
      obtain ⟨k, rfl⟩ : ∃ n', k = n' + 1 := ⟨k - 1, by omega⟩
      obtain ⟨l, rfl⟩ : ∃ n', l = n' + 1 := ⟨l - 1, by omega⟩
      have hi : i < 10 := by omega
      have wk : ∀ m, m < n → m ≠ n → ∃ a, a < 10 ∧ (hb s (nI a) ∧ a < i + 1) ∧ R1 40 m = nI a ∧ S1 37 m = nI a := by
        intro m h1 h2
        obtain ⟨a, a1, a2, a3, a4⟩ := hL.1 m h1 h2
        exact ⟨a, a1, ⟨a2.1, by omega⟩, a3, a4⟩
      rw [ks_X0_lineUp_15, ks_X11_laysOrder_4]
      unfold KB_X0_lineUp_15 KB_X11_laysOrder_4
      rw [if_neg (ub_10 hi), if_neg (ub_10 hi), k_e, k_e]
      have es : sp_X11_stands G S1 (nI i) = sp_X11_stands G S (nI i) := by
        unfold sp_X11_stands
        rw [eS 28 (by omega)]
      rw [k_e, es]
      by_cases q : hb s (nI i)
      · rw [if_neg (fun z => (ub_test hi).mp z q), if_neg ((st i hi).mp q), e602]
        refine order_in (T := fun j => hb s (nI j) ∧ j < i + 1) (G := G) hi hn e602 (R 44) _ _ ⟨q, by omega⟩ (UOrd (fun j => hb s (nI j) ∧ j < 10)) (fun R2 S2 => (∀ c, c ≠ 40 → R2 c = R c) ∧ (∀ c, c ≠ 37 → S2 c = S c)) ?_ ?_ ?_ n (Nat.le_refl _) _ _ _ _ (by omega) (by omega) ⟨eR, eS⟩ ⟨fun m hm hmn => wk m (by omega) hmn, fun m m' h1 h2 h3 h4 e => hL.2 m m' (by omega) (by omega) h3 h4 e⟩ ?_
        · intro R2 S2 f g hz
          exact ⟨fun c hc => by rw [g_uun (by rw [bne_iff_ne]; exact fun e => hc e.symm)]; exact hz.1 c hc, fun c hc => by rw [g_uun (by rw [bne_iff_ne]; exact fun e => hc e.symm)]; exact hz.2 c hc⟩
        · intro R2 S2 a hz ha hTa
          rw [hz.1 44 (by omega), hz.2 26 (by omega)]
          exact ⟨rfl, (hp a ha hTa.1).symm⟩
        · intro R2 S2 hz hL2
          exact ih (i + 1) (n + 1) (by omega) (by omega) k l _ R2 S2 (by omega) (by omega) g_us hz.1 hz.2 hL2
        · intro m hm hmn e
          obtain ⟨a, a1, a2, a3, a4⟩ := hL.1 m (by omega) hmn
          have := (nI_eq (by omega) (by omega)).mp (a3.symm.trans e)
          omega
      · rw [if_pos ((ub_test hi).mpr q), if_pos (by
          by_cases z : sp_X11_stands G S (nI i) = 0
          · exact z
          · exact absurd ((st i hi).mpr z) q)]
        unfold K_X0_lineUp_118 K_X11_laysOrder_81
        rw [k_e, k_e, nI_1]
        exact ih (i + 1) n (by omega) (by omega) k l F1 R1 S1 (by omega) (by omega) e602 eR eS ⟨wk, hL.2⟩
  unfold sp_X0_lineUp sp_X11_laysOrder
  rw [k_e, k_e, ← es]
  have I := main 10 0 0 (by omega) (by omega) 8589934592 8589934592 (upd F 602 0) R S (by omega) (by omega) (by rw [g_us]; exact nI_0.symm) (fun _ _ => rfl) (fun _ _ => rfl) ⟨fun m h => absurd h (by omega), fun m m' h => absurd h (by omega)⟩
  rw [nI_0] at I
  exact I
