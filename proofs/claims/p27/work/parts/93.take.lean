/-! ===== those that change places: whom, and what they get ===== -/
theorem cbt_lt {x : Int32} {j : Nat} (h : hb x (nI j)) : ∀ i, j < i → cbt x j + 1 ≤ cbt x i := by
  intro i
  induction i with
  | zero => intro z; omega
  | succ i ih =>
    intro z
    rw [cbt_s]
    by_cases e : j = i
    · subst e
      rw [if_pos (uhb_t.mpr h)]
      exact Nat.le_refl _
    · have := ih (by omega)
      split <;> omega
theorem cbt_mono (x : Int32) : ∀ i j, i ≤ j → cbt x i ≤ cbt x j := by
  intro i j
  induction j with
  | zero => intro h; rw [show i = 0 by omega]; exact Nat.le_refl _
  | succ j ih =>
    intro h
    by_cases e : i = j + 1
    · rw [e]; exact Nat.le_refl _
    · have := ih (by omega)
      rw [cbt_s]
      split <;> omega
theorem cbt_ex (x : Int32) : ∀ i k, k < cbt x i → ∃ j, j < i ∧ hb x (nI j) ∧ cbt x j = k := by
  intro i
  induction i with
  | zero => intro k hk; exact absurd hk (Nat.not_lt_zero _)
  | succ i ih =>
    intro k hk
    by_cases q : k < cbt x i
    · obtain ⟨j, h1, h2, h3⟩ := ih k q
      exact ⟨j, by omega, h2, h3⟩
    · rw [cbt_s] at hk
      by_cases q2 : hb x (nI i)
      · rw [if_pos (uhb_t.mpr q2)] at hk
        exact ⟨i, by omega, q2, by omega⟩
      · rw [if_neg (fun z => q2 (uhb_t.mp z))] at hk
        omega
/-- the members, by numbers -/
def UMem (x : Int32) (m : Nat) (mem : Nat → Nat) : Prop := (∀ k, k < m → mem k < 10 ∧ hb x (nI (mem k)) ∧ cbt x (mem k) = k) ∧ (∀ a b, a < m → b < m → a < b → mem a < mem b) ∧ ∀ j, j < 10 → hb x (nI j) → cbt x j < m ∧ mem (cbt x j) = j
theorem mem_ex (x : Int32) : ∃ mem, UMem x (cbt x 10) mem := by
  have h : ∀ k, ∃ j, k < cbt x 10 → j < 10 ∧ hb x (nI j) ∧ cbt x j = k := by
    intro k
    by_cases q : k < cbt x 10
    · obtain ⟨j, hj⟩ := cbt_ex x 10 k q
      exact ⟨j, fun _ => hj⟩
    · exact ⟨0, fun z => absurd z q⟩
  obtain ⟨mem, hm⟩ := Classical.axiomOfChoice h
  have inj : ∀ i j, hb x (nI i) → hb x (nI j) → cbt x i = cbt x j → i = j := by
    intro i j hi hj e
    by_cases q : i < j
    · have := cbt_lt hi j q
      omega
    · by_cases q2 : j < i
      · have := cbt_lt hj i q2
        omega
      · omega
  refine ⟨mem, hm, fun a b ha hb1 hab => ?_, fun j hj ht => ?_⟩
  · obtain ⟨a1, a2, a3⟩ := hm a ha
    obtain ⟨b1, b2, b3⟩ := hm b hb1
    by_cases q : mem a < mem b
    · exact q
    · have := cbt_mono x (mem b) (mem a) (by omega)
      omega
  · have := cbt_lt ht 10 hj
    refine ⟨by omega, ?_⟩
    obtain ⟨a1, a2, a3⟩ := hm (cbt x j) (by omega)
    exact inj _ _ a2 ht a3
section UTK
variable {x : Int32} {m : Nat} {mem : Nat → Nat}
theorem c_take (hm : cbt x 10 ≤ 5) : ∀ d i, i + d = 10 → ∀ (n : Nat) (F : Nat → Int32) (R : Nat → Nat → Int32), d < n → F 755 = nI (cbt x i) → (∀ j, j < i → hb x (nI j) → R 48 (cbt x j) = nI j ∧ R 49 (cbt x j) = nI j) → ∃ F' R', K_X6_take_32 x n F R (nI i) = (1, F', R') ∧ F' 755 = nI (cbt x 10) ∧ (∀ j, j < 10 → hb x (nI j) → R' 48 (cbt x j) = nI j ∧ R' 49 (cbt x j) = nI j) ∧ (∀ k, k ≠ 755 → F' k = F k) ∧ (∀ c, c ≠ 48 → c ≠ 49 → R' c = R c) := by
  intro d
  induction d with
  | zero =>
    intro i hi n F R hn hF h
    obtain ⟨n, rfl⟩ : ∃ n', n = n' + 1 := ⟨n - 1, by omega⟩
    obtain rfl : i = 10 := by omega
    refine ⟨F, R, ?_, hF, h, fun _ _ => rfl, fun _ _ _ => rfl⟩
    rw [ks_X6_take_32]
    unfold KB_X6_take_32 K_X6_take_94
    rw [if_pos ub_10e]
  | succ d ih =>
    intro i hi n F R hn hF h
    obtain ⟨n, rfl⟩ : ∃ n', n = n' + 1 := ⟨n - 1, by omega⟩
    have hi9 : i < 10 := by omega
    have hcm := cbt_mono x i 10 (by omega)
    rw [ks_X6_take_32]
    unfold KB_X6_take_32 K_X6_take_94 K_X6_take_88
    rw [if_neg (ub_10 hi9)]
    by_cases q5 : 5 ≤ cbt x i
    · rw [if_pos (by rw [hF]; exact nI_le (a := 5) q5 (by omega))]
      refine ⟨F, R, rfl, ?_, fun j hj ht => ?_, fun _ _ => rfl, fun _ _ _ => rfl⟩
      · rw [hF, show cbt x i = cbt x 10 by omega]
      · by_cases q : j < i
        · exact h j q ht
        · have h1 := cbt_mono x i j (by omega)
          have h2 := cbt_lt ht 10 hj
          omega
    · rw [if_neg (by rw [hF]; exact nI_ge (b := 5) (by omega) (by omega))]
      simp only [k_e]
      by_cases q : hb x (nI i)
      · rw [if_neg (fun e => (ub_test hi9).mp e q), hF, nI_clamp (by omega), nI_1, nI_1]
        obtain ⟨F', R', a1, a2, a3, a4, a5⟩ := ih (i + 1) (by omega) n (upd F 755 (nI (cbt x i + 1))) (g_u (g_u R 48 (upd (R 48) (cbt x i) (nI i))) 49 (upd ((g_u R 48 (upd (R 48) (cbt x i) (nI i))) 49) (cbt x i) (nI i))) (by omega) (by rw [uu, if_pos rfl, cbt_s, if_pos (uhb_t.mpr q)]) (fun j hj ht => by
          rw [ug, if_neg (by decide), g_uus, g_uus, ug, if_neg (by decide), uu, uu]
          by_cases e : j = i
          · rw [e, if_pos rfl, if_pos rfl]
            exact ⟨rfl, rfl⟩
          · have := cbt_lt ht i (by omega)
            rw [if_neg (by omega), if_neg (by omega)]
            exact h j (by omega) ht)
        exact ⟨F', R', a1, a2, a3, fun k hk => by rw [a4 k hk, uu, if_neg hk], fun c c1 c2 => by rw [a5 c c1 c2, ug, if_neg c2, ug, if_neg c1]⟩
      · rw [if_pos ((ub_test hi9).mpr q), nI_1]
        refine ih (i + 1) (by omega) n F R (by omega) (by rw [cbt_s, if_neg (fun z => q (uhb_t.mp z))]; exact hF) (fun j hj ht => ?_)
        by_cases e : j = i
        · rw [e] at ht
          exact absurd ht q
        · exact h j (by omega) ht
theorem m_take {a1 : Int32} : ∀ d i, i + d = 10 → ∀ (n : Nat) (F : Nat → Int32) (R : Nat → Nat → Int32), d < n → F 75 = nI (cbt x i) → (∀ j, j < i → hb x (nI j) → R 38 (cbt x j) = nI j) → ∃ F' R', K_X11_put_72 x a1 n F R (nI i) = K_X11_put_124 F' R' a1 8589934592 1 0 ∧ F' 75 = nI (cbt x 10) ∧ (∀ j, j < 10 → hb x (nI j) → R' 38 (cbt x j) = nI j) ∧ (∀ k, k ≠ 75 → F' k = F k) ∧ (∀ c, c ≠ 38 → R' c = R c) := by
  intro d
  induction d with
  | zero =>
    intro i hi n F R hn hF h
    obtain ⟨n, rfl⟩ : ∃ n', n = n' + 1 := ⟨n - 1, by omega⟩
    obtain rfl : i = 10 := by omega
    refine ⟨F, R, ?_, hF, h, fun _ _ => rfl, fun _ _ => rfl⟩
    rw [ks_X11_put_72]
    unfold KB_X11_put_72
    rw [if_pos ub_10e]
  | succ d ih =>
    intro i hi n F R hn hF h
    obtain ⟨n, rfl⟩ : ∃ n', n = n' + 1 := ⟨n - 1, by omega⟩
    have hi9 : i < 10 := by omega
    have hcl := cbt_le x i
    rw [ks_X11_put_72]
    unfold KB_X11_put_72 K_X11_put_112
    rw [if_neg (ub_10 hi9)]
    simp only [k_e]
    by_cases q : hb x (nI i)
    · rw [if_neg (fun z => ub_hasv0.mp z q), hF, nI_clamp (by omega), nI_1, nI_1]
      obtain ⟨F', R', a1, a2, a3, a4, a5⟩ := ih (i + 1) (by omega) n (upd F 75 (nI (cbt x i + 1))) (g_u R 38 (upd (R 38) (cbt x i) (nI i))) (by omega) (by rw [uu, if_pos rfl, cbt_s, if_pos (uhb_t.mpr q)]) (fun j hj ht => by
        rw [g_uus, uu]
        by_cases e : j = i
        · rw [e, if_pos rfl]
        · have := cbt_lt ht i (by omega)
          rw [if_neg (by omega)]
          exact h j (by omega) ht)
      exact ⟨F', R', a1, a2, a3, fun k hk => by rw [a4 k hk, uu, if_neg hk], fun c c1 => by rw [a5 c c1, ug, if_neg c1]⟩
    · rw [if_pos (ub_hasv0.mpr q), nI_1]
      refine ih (i + 1) (by omega) n F R (by omega) (by rw [cbt_s, if_neg (fun z => q (uhb_t.mp z))]; exact hF) (fun j hj ht => ?_)
      by_cases e : j = i
      · rw [e] at ht
        exact absurd ht q
      · exact h j (by omega) ht
/-- how many rows there are -/
theorem m_rows {F : Nat → Int32} {R : Nat → Nat → Int32} {a1 : Int32} (hm : 2 ≤ m ∧ m ≤ 5) (hF : F 75 = nI m) : K_X11_put_124 F R a1 8589934592 1 0 = k_lt2 (sp_X11_forgetsBest F R) (fun F51 R52 => K_X11_put_155 a1 (nI (m ^ m)) 8589934592 F51 R52 0) := by
  have main : ∀ d i, i + d = m → ∀ n, d < n → K_X11_put_124 F R a1 n (nI (m ^ i)) (nI i) = k_lt2 (sp_X11_forgetsBest F R) (fun F51 R52 => K_X11_put_155 a1 (nI (m ^ m)) 8589934592 F51 R52 0) := by
    intro d
    induction d with
    | zero =>
      intro i hi n hn
      obtain ⟨n, rfl⟩ : ∃ n', n = n' + 1 := ⟨n - 1, by omega⟩
      obtain rfl : i = m := by omega
      rw [ks_X11_put_124]
      unfold KB_X11_put_124
      rw [hF, if_pos (nI_le (Nat.le_refl _) (by omega))]
    | succ d ih =>
      intro i hi n hn
      obtain ⟨n, rfl⟩ : ∃ n', n = n' + 1 := ⟨n - 1, by omega⟩
      rw [ks_X11_put_124]
      unfold KB_X11_put_124
      rw [hF, if_neg (nI_ge (by omega) (by omega))]
      simp only [k_e]
      rw [pk_mul, nI_1, ← Nat.pow_succ]
      exact ih (i + 1) (by omega) n (by omega)
  have := main m 0 (by omega) 8589934592 (by omega)
  rw [Nat.pow_zero] at this
  exact this
/-! places -/
theorem us_side1 {F : Nat → Int32} {R : Nat → Nat → Int32} {i s : Nat} {x : Int32} (hi : i < 10) (hs : s < 8) (hx : x = nI s) : sp_X8_side_1 F R (nI i) x = R 2 (8 * i + s) := by
  unfold sp_X8_side_1 K_X8_side_1_35
  have e : nI i * 8 + nI s = nI (8 * i + s) := by
    rw [show (8 : Int32) = nI 8 from rfl, pk_mul, nI_add]
    congr 1
    omega
  have e2 : g_in (nI s) 0 7 = 1 := ug_in (lo := 0) (hi := 7) (by omega) (by omega) (by omega)
  rw [hx, k_e, ug_i9 hi, if_neg (by decide), k_e, e2, if_neg (by decide), k_e, k_e, k_e, e, nI_clamp (by omega)]
theorem ux_change5 {F : Nat → Int32} {R : Nat → Nat → Int32} {i s : Nat} {x v : Int32} (hi : i < 10) (hs : s < 8) (hx : x = nI s) : sp_X8_change_5 F R (nI i) x v = (F, g_u R 6 (upd (R 6) (8 * i + s) v)) := by
  unfold sp_X8_change_5 K_X8_change_5_32
  have e : nI i * 8 + nI s = nI (8 * i + s) := by
    rw [show (8 : Int32) = nI 8 from rfl, pk_mul, nI_add]
    congr 1
    omega
  have e2 : g_in (nI s) 0 7 = 1 := ug_in (lo := 0) (hi := 7) (by omega) (by omega) (by omega)
  rw [hx, k_e, ug_i9 hi, if_neg (by decide), k_e, e2, if_neg (by decide), k_e, k_e, k_e, e, nI_clamp (by omega)]
variable {d : Nat → Nat}
/-- the class lays places into the table that is tried -/
theorem c_chg {F : Nat → Int32} (hm : m ≤ 5) (hF : F 755 = nI m) (hd : ∀ k, k < m → d k < m) (mono : ∀ a b, a < m → b < m → a < b → mem a < mem b) (hmem : ∀ k, k < m → mem k < 10) : ∀ e y, y + e = m → ∀ (n : Nat) (R : Nat → Nat → Int32), e < n → (∀ k, k < m → R 48 k = nI (mem k) ∧ R 49 k = nI (mem (d k))) → ∃ R', K_X6_change_r5_r1_2 F n F R (nI y) = (F, R') ∧ (∀ c, c ≠ 6 → R' c = R c) ∧ (∀ k, (∀ l, y ≤ l → l < m → k ≠ 8 * mem l + 1) → R' 6 k = R 6 k) ∧ ∀ l, y ≤ l → l < m → R' 6 (8 * mem l + 1) = R 2 (8 * mem (d l) + 1) := by
  intro e
  induction e with
  | zero =>
    intro y hy n R hn h
    obtain ⟨n, rfl⟩ : ∃ n', n = n' + 1 := ⟨n - 1, by omega⟩
    refine ⟨R, ?_, fun _ _ => rfl, fun _ _ => rfl, fun l h1 h2 => by omega⟩
    rw [ks_X6_change_r5_r1_2]
    unfold KB_X6_change_r5_r1_2
    rw [hF, if_pos (nI_le (by omega) (by omega))]
  | succ e ih =>
    intro y hy n R hn h
    obtain ⟨n, rfl⟩ : ∃ n', n = n' + 1 := ⟨n - 1, by omega⟩
    have hym : y < m := by omega
    obtain ⟨R', a1, a2, a3, a4⟩ := ih (y + 1) (by omega) n (g_u R 6 (upd (R 6) (8 * mem y + 1) (R 2 (8 * mem (d y) + 1)))) (by omega) (fun k hk => by
      rw [ug, if_neg (by decide), ug, if_neg (by decide)]
      exact h k hk)
    refine ⟨R', ?_, fun c hc => by rw [a2 c hc, ug, if_neg hc], fun k hk => ?_, fun l h1 h2 => ?_⟩
    · rw [ks_X6_change_r5_r1_2]
      unfold KB_X6_change_r5_r1_2
      rw [hF, if_neg (nI_ge (by omega) (by omega))]
      simp only [k_e]
      rw [nI_clamp (by omega), (h y hym).1, (h y hym).2, us_side1 (s := 1) (x := 1) (hmem _ (hd y hym)) (by omega) rfl, ux_change5 (s := 1) (x := 1) (hmem y hym) (by omega) rfl, k_t2, nI_1]
      exact a1
    · rw [a3 k (fun l l1 l2 => hk l (by omega) l2), g_uus, uu, if_neg (hk y (Nat.le_refl _) hym)]
    · by_cases q : l = y
      · subst q
        rw [a3 _ (fun l' l1 l2 => by
          have := mono l l' hym l2 (by omega)
          omega), g_uus, uu, if_pos rfl]
      · rw [a4 l (by omega) h2, ug, if_neg (by decide)]
/-- the class changes the table itself -/
theorem c_chg1 {F : Nat → Int32} (hm : m ≤ 5) (hF : F 755 = nI m) (hd : ∀ k, k < m → d k < m) (mono : ∀ a b, a < m → b < m → a < b → mem a < mem b) (hmem : ∀ k, k < m → mem k < 10) : ∀ e y, y + e = m → ∀ (n : Nat) (R : Nat → Nat → Int32), e < n → (∀ k, k < m → R 48 k = nI (mem k) ∧ R 49 k = nI (mem (d k))) → ∃ R', K_X6_change_r1_r5_2 F n F R (nI y) = (F, R') ∧ (∀ c, c ≠ 2 → R' c = R c) ∧ (∀ k, (∀ l, y ≤ l → l < m → k ≠ 8 * mem l + 1) → R' 2 k = R 2 k) ∧ ∀ l, y ≤ l → l < m → R' 2 (8 * mem l + 1) = R 6 (8 * mem (d l) + 1) := by
  intro e
  induction e with
  | zero =>
    intro y hy n R hn h
    obtain ⟨n, rfl⟩ : ∃ n', n = n' + 1 := ⟨n - 1, by omega⟩
    refine ⟨R, ?_, fun _ _ => rfl, fun _ _ => rfl, fun l h1 h2 => by omega⟩
    rw [ks_X6_change_r1_r5_2]
    unfold KB_X6_change_r1_r5_2
    rw [hF, if_pos (nI_le (by omega) (by omega))]
  | succ e ih =>
    intro y hy n R hn h
    obtain ⟨n, rfl⟩ : ∃ n', n = n' + 1 := ⟨n - 1, by omega⟩
    have hym : y < m := by omega
    obtain ⟨R', a1, a2, a3, a4⟩ := ih (y + 1) (by omega) n (g_u R 2 (upd (R 2) (8 * mem y + 1) (R 6 (8 * mem (d y) + 1)))) (by omega) (fun k hk => by
      rw [ug, if_neg (by decide), ug, if_neg (by decide)]
      exact h k hk)
    refine ⟨R', ?_, fun c hc => by rw [a2 c hc, ug, if_neg hc], fun k hk => ?_, fun l h1 h2 => ?_⟩
    · rw [ks_X6_change_r1_r5_2]
      unfold KB_X6_change_r1_r5_2
      rw [hF, if_neg (nI_ge (by omega) (by omega))]
      simp only [k_e]
      rw [nI_clamp (by omega), (h y hym).1, (h y hym).2, us_side (s := 1) (x := 1) (hmem _ (hd y hym)) (by omega) rfl, ux_change1 (s := 1) (x := 1) (hmem y hym) (by omega) rfl, k_t2, nI_1]
      exact a1
    · rw [a3 k (fun l l1 l2 => hk l (by omega) l2), g_uus, uu, if_neg (hk y (Nat.le_refl _) hym)]
    · by_cases q : l = y
      · subst q
        rw [a3 _ (fun l' l1 l2 => by
          have := mono l l' hym l2 (by omega)
          omega), g_uus, uu, if_pos rfl]
      · rw [a4 l (by omega) h2, ug, if_neg (by decide)]
/-- the reference lays places -/
theorem m_chg {F55 F164 : Nat → Int32} {b155 : (Nat → Int32) → (Nat → Nat → Int32) → Int32 → Int32 × (Nat → Int32) × (Nat → Nat → Int32)} {y54 : Int32} (hm : m ≤ 5) (hF : F55 75 = nI m) (hd : ∀ k, k < m → d k < m) (mono : ∀ a b, a < m → b < m → a < b → mem a < mem b) (hmem : ∀ k, k < m → mem k < 10) : ∀ e y, y + e = m → ∀ (n : Nat) (R : Nat → Nat → Int32), e < n → (∀ k, k < m → R 38 k = nI (mem k) ∧ R 39 k = nI (d k)) → ∃ R', K_X11_put_185 b155 F55 F164 y54 n R (nI y) = k_lt2 (sp_X11_runs F164 R') (fun F177 R178 => k_lt2 (sp_X11_better F177 R178 y54) (fun F186 R187 => K_X11_put_239 b155 y54 F186 R187)) ∧ (∀ c, c ≠ 26 → R' c = R c) ∧ (∀ k, (∀ l, y ≤ l → l < m → k ≠ mem l) → R' 26 k = R 26 k) ∧ ∀ l, y ≤ l → l < m → R' 26 (mem l) = R 2 (mem (d l)) := by
  intro e
  induction e with
  | zero =>
    intro y hy n R hn h
    obtain ⟨n, rfl⟩ : ∃ n', n = n' + 1 := ⟨n - 1, by omega⟩
    refine ⟨R, ?_, fun _ _ => rfl, fun _ _ => rfl, fun l h1 h2 => by omega⟩
    rw [ks_X11_put_185]
    unfold KB_X11_put_185
    rw [hF, if_pos (nI_le (by omega) (by omega))]
  | succ e ih =>
    intro y hy n R hn h
    obtain ⟨n, rfl⟩ : ∃ n', n = n' + 1 := ⟨n - 1, by omega⟩
    have hym : y < m := by omega
    have hdm := hd y hym
    have hm1 := hmem y hym
    have hm2 := hmem _ hdm
    obtain ⟨R', a1, a2, a3, a4⟩ := ih (y + 1) (by omega) n (g_u R 26 (upd (R 26) (mem y) (R 2 (mem (d y))))) (by omega) (fun k hk => by
      rw [ug, if_neg (by decide), ug, if_neg (by decide)]
      exact h k hk)
    refine ⟨R', ?_, fun c hc => by rw [a2 c hc, ug, if_neg hc], fun k hk => ?_, fun l h1 h2 => ?_⟩
    · rw [ks_X11_put_185]
      unfold KB_X11_put_185
      rw [hF, if_neg (nI_ge (by omega) (by omega))]
      simp only [k_e]
      rw [nI_clamp (show y < 2 ^ 31 by omega), (h y hym).1, (h y hym).2, nI_clamp (show mem y < 2 ^ 31 by omega), nI_clamp (show d y < 2 ^ 31 by omega), (h _ hdm).1, nI_clamp (show mem (d y) < 2 ^ 31 by omega), nI_1]
      exact a1
    · rw [a3 k (fun l l1 l2 => hk l (by omega) l2), g_uus, uu, if_neg (hk y (Nat.le_refl _) hym)]
    · by_cases q : l = y
      · subst q
        rw [a3 _ (fun l' l1 l2 => by
          have := mono l l' hym l2 (by omega)
          omega), g_uus, uu, if_pos rfl]
      · rw [a4 l (by omega) h2, ug, if_neg (by decide)]
/-- the reference changes the table itself -/
theorem m_chg1 {F55 F104 : Nat → Int32} (hm : m ≤ 5) (hF : F55 75 = nI m) (hd : ∀ k, k < m → d k < m) (mono : ∀ a b, a < m → b < m → a < b → mem a < mem b) (hmem : ∀ k, k < m → mem k < 10) : ∀ e y, y + e = m → ∀ (n : Nat) (R : Nat → Nat → Int32), e < n → (∀ k, k < m → R 38 k = nI (mem k) ∧ R 39 k = nI (d k)) → ∃ R', K_X11_put_289 F55 F104 n R (nI y) = (F55 70, F104, R') ∧ (∀ c, c ≠ 2 → R' c = R c) ∧ (∀ k, (∀ l, y ≤ l → l < m → k ≠ mem l) → R' 2 k = R 2 k) ∧ ∀ l, y ≤ l → l < m → R' 2 (mem l) = R 26 (mem (d l)) := by
  intro e
  induction e with
  | zero =>
    intro y hy n R hn h
    obtain ⟨n, rfl⟩ : ∃ n', n = n' + 1 := ⟨n - 1, by omega⟩
    refine ⟨R, ?_, fun _ _ => rfl, fun _ _ => rfl, fun l h1 h2 => by omega⟩
    rw [ks_X11_put_289]
    unfold KB_X11_put_289
    rw [hF, if_pos (nI_le (by omega) (by omega))]
  | succ e ih =>
    intro y hy n R hn h
    obtain ⟨n, rfl⟩ : ∃ n', n = n' + 1 := ⟨n - 1, by omega⟩
    have hym : y < m := by omega
    have hdm := hd y hym
    have hm1 := hmem y hym
    have hm2 := hmem _ hdm
    obtain ⟨R', a1, a2, a3, a4⟩ := ih (y + 1) (by omega) n (g_u R 2 (upd (R 2) (mem y) (R 26 (mem (d y))))) (by omega) (fun k hk => by
      rw [ug, if_neg (by decide), ug, if_neg (by decide)]
      exact h k hk)
    refine ⟨R', ?_, fun c hc => by rw [a2 c hc, ug, if_neg hc], fun k hk => ?_, fun l h1 h2 => ?_⟩
    · rw [ks_X11_put_289]
      unfold KB_X11_put_289
      rw [hF, if_neg (nI_ge (by omega) (by omega))]
      simp only [k_e]
      rw [nI_clamp (show y < 2 ^ 31 by omega), (h y hym).1, (h y hym).2, nI_clamp (show mem y < 2 ^ 31 by omega), nI_clamp (show d y < 2 ^ 31 by omega), (h _ hdm).1, nI_clamp (show mem (d y) < 2 ^ 31 by omega), nI_1]
      exact a1
    · rw [a3 k (fun l l1 l2 => hk l (by omega) l2), g_uus, uu, if_neg (hk y (Nat.le_refl _) hym)]
    · by_cases q : l = y
      · subst q
        rw [a3 _ (fun l' l1 l2 => by
          have := mono l l' hym l2 (by omega)
          omega), g_uus, uu, if_pos rfl]
      · rw [a4 l (by omega) h2, ug, if_neg (by decide)]
end UTK
