/-! ===== what is not told is not led; inches, both ===== -/
def UL0 (T : Int32) (R : Nat → Nat → Int32) : Prop := ∀ j, j < 10 → ¬ hb T (nI j) → ∀ b, b < 3 → R 46 (10 * b + j) = 0
theorem ul0_r {T : Int32} {R R' : Nat → Nat → Int32} (h : UL0 T R) (e : R' 46 = R 46) : UL0 T R' := by
  intro j hj ht b hb1
  rw [e]
  exact h j hj ht b hb1
theorem st_sub {F : Nat → Int32} {R : Nat → Nat → Int32} {j : Nat} (hj : j < 10) (h : hb (sp_X4_standingSet F R) (nI j)) : hb (F 691) (nI j) := by
  unfold sp_X4_standingSet at h
  simp only [k_e] at h
  exact ((ub_and hj).mp h).1
theorem ul0_lead {T : Int32} {F : Nat → Int32} {R : Nat → Nat → Int32} {i : Nat} (hi : i < 10) (ht : hb T (nI i)) (h : UL0 T R) : UL0 T (sp_X0_lead F R (nI i)).2 := by
  rw [ux_lead hi]
  intro j hj hn b hb1
  show (g_u R 46 (upd (R 46) (10 * uby F i + i) (R 46 (10 * uby F i + i) + (R 39 i - R 44 i)))) 46 (10 * b + j) = 0
  rw [g_uus, uu, if_neg]
  · exact h j hj hn b hb1
  · intro e
    have h3 := uby_lt F i
    have : j = i := by omega
    subst this
    exact hn ht
theorem ul0_slide {T : Int32} {F : Nat → Int32} {R : Nat → Nat → Int32} {i : Nat} (hi : i < 10) (ht : hb T (nI i)) (h : UL0 T R) : UL0 T (sp_X0_slide F R (nI i)).2 := by
  obtain ⟨F', R', e, a1, a2, a3, a4, a5, a6⟩ := ux_slide (F := F) (R := R) hi
  rw [e]
  intro j hj hn b hb1
  show R' 46 (10 * b + j) = 0
  rw [a6]
  split
  · exact h j hj hn b hb1
  · rw [if_neg]
    · exact h j hj hn b hb1
    · intro e
      have h3 := uby_lt F i
      have : j = i := by omega
      subst this
      exact hn ht
theorem ul0_168 {T r : Int32} (hr : ∀ j, j < 10 → hb r (nI j) → hb T (nI j)) : ∀ d i, i + d = 10 → ∀ (n : Nat) (F : Nat → Int32) (R : Nat → Nat → Int32), d < n → UL0 T R → UL0 T (K_X0_tick_168 r n F R (nI i)).2 := by
  intro d
  induction d with
  | zero =>
    intro i hi n F R hn h
    obtain ⟨n, rfl⟩ : ∃ n', n = n' + 1 := ⟨n - 1, by omega⟩
    obtain rfl : i = 10 := by omega
    rw [ks_X0_tick_168]
    unfold KB_X0_tick_168
    rw [if_pos ub_10e]
    exact h
  | succ d ih =>
    intro i hi n F R hn h
    obtain ⟨n, rfl⟩ : ∃ n', n = n' + 1 := ⟨n - 1, by omega⟩
    have hi9 : i < 10 := by omega
    rw [ks_X0_tick_168]
    unfold KB_X0_tick_168 K_X0_tick_187
    rw [if_neg (ub_10 hi9)]
    simp only [k_e, k_e2, nI_1]
    by_cases q : hb r (nI i)
    · rw [if_neg (fun e => (ub_test hi9).mp e q)]
      exact ih (i + 1) (by omega) n _ _ (by omega) (ul0_lead hi9 (hr i hi9 q) h)
    · rw [if_pos ((ub_test hi9).mpr q)]
      exact ih (i + 1) (by omega) n _ _ (by omega) h
theorem ul0_158 {T : Int32} {F : Nat → Int32} {R : Nat → Nat → Int32} (e : F 691 = T) (h : UL0 T R) : UL0 T (K_X0_tick_158 F R).2 := by
  unfold K_X0_tick_158
  rw [k_e]
  exact ul0_168 (fun j hj q => by rw [← e]; exact st_sub hj q) 10 0 (by omega) 8589934592 F R (by omega) h
theorem ul0_116 {T : Int32} : ∀ d m, m + d = 10 → ∀ (n : Nat) (F : Nat → Int32) (R : Nat → Nat → Int32), d < n → F 691 = T → UL0 T R → UL0 T (K_X0_tick_116 n F R (nI m)).2 := by
  intro d
  induction d with
  | zero =>
    intro m hm n F R hn e h
    obtain ⟨n, rfl⟩ : ∃ n', n = n' + 1 := ⟨n - 1, by omega⟩
    obtain rfl : m = 10 := by omega
    rw [ks_X0_tick_116]
    unfold KB_X0_tick_116
    simp only [k_e, nI_1]
    split
    · exact ul0_158 e h
    · rw [if_pos (show (10 : Int32) ≤ nI (10 + 1) from nI_le (a := 10) (by omega) (by omega))]
      exact ul0_158 e h
  | succ d ih =>
    intro m hm n F R hn e h
    obtain ⟨n, rfl⟩ : ∃ n', n = n' + 1 := ⟨n - 1, by omega⟩
    rw [ks_X0_tick_116]
    unfold KB_X0_tick_116
    simp only [k_e, k_e2, nI_1]
    split
    · exact ul0_158 e h
    · split
      · exact ul0_158 e h
      · refine ih (m + 1) (by omega) n _ _ (by omega) ?_ ?_
        · rw [(fr_sp_X0_touch F R _ _).1 691 rfl]
          exact e
        · exact ul0_r h ((fr_sp_X0_touch F R _ _).2 46 rfl)
theorem ul0_85 {T r : Int32} (hr : ∀ j, j < 10 → hb r (nI j) → hb T (nI j)) : ∀ d i, i + d = 10 → ∀ (n : Nat) (F : Nat → Int32) (R : Nat → Nat → Int32), d < n → F 691 = T → UL0 T R → UL0 T (K_X0_tick_85 r n F R (nI i)).2 := by
  intro d
  induction d with
  | zero =>
    intro i hi n F R hn e h
    obtain ⟨n, rfl⟩ : ∃ n', n = n' + 1 := ⟨n - 1, by omega⟩
    obtain rfl : i = 10 := by omega
    rw [ks_X0_tick_85]
    unfold KB_X0_tick_85
    rw [if_pos ub_10e, k_e2]
    refine ul0_116 10 0 (by omega) 8589934592 _ _ (by omega) ?_ ?_
    · rw [(fr_sp_X0_lineUp F R).1 691 rfl]
      exact e
    · exact ul0_r h ((fr_sp_X0_lineUp F R).2 46 rfl)
  | succ d ih =>
    intro i hi n F R hn e h
    obtain ⟨n, rfl⟩ : ∃ n', n = n' + 1 := ⟨n - 1, by omega⟩
    have hi9 : i < 10 := by omega
    rw [ks_X0_tick_85]
    unfold KB_X0_tick_85 K_X0_tick_104
    rw [if_neg (ub_10 hi9)]
    simp only [k_e, k_e2, nI_1]
    by_cases q : hb r (nI i)
    · rw [if_neg (fun e => (ub_test hi9).mp e q)]
      refine ih (i + 1) (by omega) n _ _ (by omega) ?_ (ul0_slide hi9 (hr i hi9 q) h)
      rw [(fr_sp_X0_slide F R (nI i)).1 691 rfl]
      exact e
    · rw [if_pos ((ub_test hi9).mpr q)]
      exact ih (i + 1) (by omega) n _ _ (by omega) e h
theorem ul0_25 {T r : Int32} : ∀ d i, i + d = 10 → ∀ (n : Nat) (F : Nat → Int32) (R : Nat → Nat → Int32), d < n → F 691 = T → UL0 T R → UL0 T (K_X0_tick_25 r n F R (nI i)).2 := by
  intro d
  induction d with
  | zero =>
    intro i hi n F R hn e h
    obtain ⟨n, rfl⟩ : ∃ n', n = n' + 1 := ⟨n - 1, by omega⟩
    obtain rfl : i = 10 := by omega
    rw [ks_X0_tick_25]
    unfold KB_X0_tick_25
    rw [if_pos ub_10e, k_e]
    exact ul0_85 (fun j hj q => by rw [← e]; exact st_sub hj q) 10 0 (by omega) 8589934592 _ _ (by omega) e h
  | succ d ih =>
    intro i hi n F R hn e h
    obtain ⟨n, rfl⟩ : ∃ n', n = n' + 1 := ⟨n - 1, by omega⟩
    have hi9 : i < 10 := by omega
    rw [ks_X0_tick_25]
    unfold KB_X0_tick_25 K_X0_tick_69
    rw [if_neg (ub_10 hi9)]
    simp only [k_e, k_e2, nI_1]
    split
    · exact ih (i + 1) (by omega) n _ _ (by omega) e h
    · refine ih (i + 1) (by omega) n _ _ (by omega) ?_ ?_
      · rw [(fr_sp_X0_shake _ _ (nI i) _).1 691 rfl, (fr_sp_X0_feelCloth F R (nI i)).1 691 rfl]
        exact e
      · exact ul0_r h (((fr_sp_X0_shake _ _ (nI i) _).2 46 rfl).trans ((fr_sp_X0_feelCloth F R (nI i)).2 46 rfl))
theorem ul0_tick {T : Int32} {F : Nat → Int32} {R : Nat → Nat → Int32} {x : Int32} (e : F 691 = T) (h : UL0 T R) : UL0 T (sp_X0_tick F R x).2 := by
  unfold sp_X0_tick
  simp only [k_e, k_e2]
  refine ul0_25 10 0 (by omega) 8589934592 _ _ (by omega) ?_ (ul0_r h ((fr_sp_X0_pullCloth F R x).2 46 rfl))
  rw [uu, if_neg (by decide), uu, if_neg (by decide), (fr_sp_X0_pullCloth F R x).1 691 rfl]
  exact e
theorem ul0_run6 {T : Int32} {F0 : Nat → Int32} : ∀ (n : Nat) (F : Nat → Int32) (R : Nat → Nat → Int32) (x : Int32), F 691 = T → UL0 T R → UL0 T (K_X0_run_6 F0 n F R x).2 ∧ (K_X0_run_6 F0 n F R x).1 691 = T := by
  intro n
  induction n with
  | zero => intro F R x e h; exact ⟨h, e⟩
  | succ n ih =>
    intro F R x e h
    have step : UL0 T (K_X0_run_31 (K_X0_run_6 F0 n) F R x).2 ∧ (K_X0_run_31 (K_X0_run_6 F0 n) F R x).1 691 = T := by
      unfold K_X0_run_31
      simp only [k_e, k_e2]
      refine ih _ _ _ ?_ (ul0_tick e h)
      rw [uu, if_neg (by decide), (fr_sp_X0_tick F R x).1 691 rfl]
      exact e
    rw [ks_X0_run_6]
    unfold KB_X0_run_6 K_X0_run_52
    simp only [k_e]
    split
    · exact ⟨h, e⟩
    · split
      · exact step
      · split
        · exact ⟨h, e⟩
        · exact step
theorem run_led (F : Nat → Int32) (R : Nat → Nat → Int32) : UL0 (F 83) (sp_X0_run F R).2 ∧ (sp_X0_run F R).1 691 = F 83 := by
  obtain ⟨n, F', R', e, b1, b2, b3, b4⟩ := ux_begin F R
  unfold sp_X0_run
  rw [e, k_t2]
  exact ul0_run6 _ _ _ _ b3 (fun j hj hn b hb1 => b2 _ (by omega))
/-! sums -/
def usum (f : Nat → Int32) : Nat → Int32
  | 0 => 0
  | n + 1 => usum f n + f n
theorem usum_s (f : Nat → Int32) (n : Nat) : usum f (n + 1) = usum f n + f n := rfl
theorem usum_app (f : Nat → Int32) (n : Nat) : ∀ m, usum f (n + m) = usum f n + usum (fun k => f (n + k)) m := by
  intro m
  induction m with
  | zero => show usum f n = usum f n + 0; rw [Int32.add_zero]
  | succ m ih =>
    show usum f (n + m) + f (n + m) = usum f n + (usum (fun k => f (n + k)) m + f (n + m))
    rw [ih, Int32.add_assoc]
theorem usum_add (f g : Nat → Int32) : ∀ m, usum (fun k => f k + g k) m = usum f m + usum g m := by
  intro m
  induction m with
  | zero => rfl
  | succ m ih =>
    show usum (fun k => f k + g k) m + (f m + g m) = (usum f m + f m) + (usum g m + g m)
    rw [ih]
    generalize usum f m = a
    generalize usum g m = b
    generalize f m = c
    generalize g m = d
    rw [Int32.add_assoc a b, ← Int32.add_assoc b c d, Int32.add_comm b c, Int32.add_assoc c b d, ← Int32.add_assoc a c]
theorem usum_e {f g : Nat → Int32} : ∀ {m : Nat}, (∀ k, k < m → f k = g k) → usum f m = usum g m := by
  intro m
  induction m with
  | zero => intro _; rfl
  | succ m ih =>
    intro h
    rw [usum_s, usum_s, ih (fun k hk => h k (by omega)), h m (by omega)]
theorem c_inch (F : Nat → Int32) (R : Nat → Nat → Int32) : sp_X4_inches F R = usum (R 46) 30 := by
  have main : ∀ d i, i + d = 30 → ∀ (n : Nat), d < n → K_X4_inches_4 R n (usum (R 46) i) (nI i) = usum (R 46) 30 := by
    intro d
    induction d with
    | zero =>
      intro i hi n hn
      obtain ⟨n, rfl⟩ : ∃ n', n = n' + 1 := ⟨n - 1, by omega⟩
      obtain rfl : i = 30 := by omega
      rw [ks_X4_inches_4]
      unfold KB_X4_inches_4
      rw [if_pos (show (30 : Int32) ≤ nI 30 from nI_le (a := 30) (by omega) (by omega))]
    | succ d ih =>
      intro i hi n hn
      obtain ⟨n, rfl⟩ : ∃ n', n = n' + 1 := ⟨n - 1, by omega⟩
      rw [ks_X4_inches_4]
      unfold KB_X4_inches_4
      rw [if_neg (show ¬ (30 : Int32) ≤ nI i from nI_ge (a := i) (b := 30) (by omega) (by omega))]
      simp only [k_e, nI_1, nI_clamp (show i < 2 ^ 31 by omega)]
      exact ih (i + 1) (by omega) n (by omega)
  unfold sp_X4_inches
  exact main 30 0 (by omega) 8589934592 (by omega)
theorem m_inch (G : Nat → Int32) (S : Nat → Nat → Int32) : sp_X11_inchesAll G S = usum (fun j => if uhb (G 42) (nI j) = true then S 32 j else 0) 10 := by
  have main : ∀ d i, i + d = 10 → ∀ (n : Nat), d < n → K_X11_inchesAll_4 G S n (usum (fun j => if uhb (G 42) (nI j) = true then S 32 j else 0) i) (nI i) = usum (fun j => if uhb (G 42) (nI j) = true then S 32 j else 0) 10 := by
    intro d
    induction d with
    | zero =>
      intro i hi n hn
      obtain ⟨n, rfl⟩ : ∃ n', n = n' + 1 := ⟨n - 1, by omega⟩
      obtain rfl : i = 10 := by omega
      rw [ks_X11_inchesAll_4]
      unfold KB_X11_inchesAll_4
      rw [if_pos ub_10e]
    | succ d ih =>
      intro i hi n hn
      obtain ⟨n, rfl⟩ : ∃ n', n = n' + 1 := ⟨n - 1, by omega⟩
      rw [ks_X11_inchesAll_4]
      unfold KB_X11_inchesAll_4 K_X11_inchesAll_32
      rw [if_neg (ub_10 (by omega))]
      simp only [k_e, nI_1, nI_clamp (show i < 2 ^ 31 by omega)]
      have I := ih (i + 1) (by omega) n (by omega)
      rw [usum_s] at I
      by_cases q : hb (G 42) (nI i)
      · rw [if_neg (fun z => ub_hasv0.mp z q)]
        rw [if_pos (uhb_t.mpr q)] at I
        exact I
      · rw [if_pos (ub_hasv0.mpr q)]
        rw [if_neg (fun z => q (uhb_t.mp z))] at I
        exact I
  unfold sp_X11_inchesAll
  exact main 10 0 (by omega) 8589934592 (by omega)
theorem inch_eq {F G : Nat → Int32} {R S : Nat → Nat → Int32} (F' : Nat → Int32) (e : F 691 = G 42) (h0 : UL0 (F 691) R) (h : ∀ j, j < 10 → hb (F 691) (nI j) → ULed R S 0 0 j) : sp_X4_inches F' R = sp_X11_inchesAll G S := by
  rw [c_inch, m_inch, usum_app (R 46) 10 20, usum_app (fun k => R 46 (10 + k)) 10 10, ← Int32.add_assoc, ← usum_add, ← usum_add]
  refine usum_e (fun k hk => ?_)
  show R 46 k + R 46 (10 + k) + R 46 (10 + (10 + k)) = _
  by_cases q : hb (F 691) (nI k)
  · obtain ⟨s, a⟩ := h k hk q
    have a0 := a 0 (by omega)
    have a1 := a 1 (by omega)
    have a2 := a 2 (by omega)
    rw [if_pos rfl, Int32.add_zero] at a0
    rw [if_neg (by omega)] at a1 a2
    rw [show 10 * 0 + k = k by omega] at a0
    rw [show 10 * 1 + k = 10 + k by omega] at a1
    rw [show 10 * 2 + k = 10 + (10 + k) by omega] at a2
    rw [if_pos (uhb_t.mpr (by rw [← e]; exact q)), s, a0, a1, a2]
  · have a0 := h0 k hk q 0 (by omega)
    have a1 := h0 k hk q 1 (by omega)
    have a2 := h0 k hk q 2 (by omega)
    rw [show 10 * 0 + k = k by omega] at a0
    rw [show 10 * 1 + k = 10 + k by omega] at a1
    rw [show 10 * 2 + k = 10 + (10 + k) by omega] at a2
    rw [if_neg (fun z => q (by rw [e]; exact uhb_t.mp z)), a0, a1, a2]
    rfl
