/-! ===== the table, and the table kept ===== -/
theorem gin_n {a : Int32} {lo hi : Nat} (hl : lo < 2 ^ 31) (hh : hi < 2 ^ 31) (h : ¬ g_in a (nI lo) (nI hi) = 0) : ∃ n, lo ≤ n ∧ n ≤ hi ∧ a = nI n := by
  have e : g_in a (nI lo) (nI hi) = 1 := (g_in_01 a _ _).resolve_left h
  unfold g_in at e
  by_cases q : nI lo ≤ a ∧ a ≤ nI hi
  · have h1 := gc_le q.1
    have h2 := gc_le q.2
    rw [nI_toInt hh] at h2
    rw [nI_toInt hl] at h1
    obtain ⟨n, n1, n2, n3, n4⟩ := jv_n (x := a) (a := lo) (b := hi) ⟨h1, h2⟩ (by omega)
    exact ⟨n, by omega, by omega, n1⟩
  · rw [if_neg q] at e
    exact absurd e (by decide)
theorem ux_change1 {F : Nat → Int32} {R : Nat → Nat → Int32} {i s : Nat} {x v : Int32} (hi : i < 10) (hs : s < 8) (hx : x = nI s) : sp_X8_change_1 F R (nI i) x v = (F, g_u R 2 (upd (R 2) (8 * i + s) v)) := by
  unfold sp_X8_change_1 K_X8_change_1_32
  have e : nI i * 8 + nI s = nI (8 * i + s) := by
    rw [show (8 : Int32) = nI 8 from rfl, pk_mul, nI_add]
    congr 1
    omega
  have e2 : g_in (nI s) 0 7 = 1 := ug_in (lo := 0) (hi := 7) (by omega) (by omega) (by omega)
  rw [hx, k_e, ug_i9 hi, if_neg (by decide), k_e, e2, if_neg (by decide), k_e, k_e, k_e, e, nI_clamp (by omega)]
theorem x8_has1 (F : Nat → Int32) (R : Nat → Nat → Int32) (G : Nat → Int32) (S : Nat → Nat → Int32) (h : F 19 = G 4) (a : Int32) : sp_X8_has_1 F R a = sp_X11_isTold G S a ∧ (sp_X8_has_1 F R a = 0 ∨ ∃ i, i < 10 ∧ a = nI i ∧ hb (F 19) (nI i) ∧ sp_X8_has_1 F R a = 1) := by
  unfold sp_X8_has_1 sp_X11_isTold K_X8_has_1_25 K_X8_has_1_26
  simp only [k_e]
  by_cases q : g_in a 0 9 = 0
  · rw [if_pos q]
    refine ⟨?_, Or.inl rfl⟩
    by_cases q1 : a < 0
    · rw [if_pos q1]
    · rw [if_neg q1]
      by_cases q2 : (10 : Int32) ≤ a
      · rw [if_pos q2]
      · exfalso
        unfold g_in at q
        rw [if_pos ⟨Int32.not_lt.mp q1, by
          have := gc_nle q2
          exact Int32.le_iff_toInt_le.mpr (by
            have t9 : (9 : Int32).toInt = 9 := rfl
            have t10 : (10 : Int32).toInt = 10 := rfl
            omega)⟩] at q
        exact absurd q (by decide)
  · obtain ⟨i, _, hi, rfl⟩ := gin_n (lo := 0) (hi := 9) (by omega) (by omega) q
    have hi9 : i < 10 := by omega
    rw [if_neg q, if_neg (nI_pos (by omega)), if_neg (ub_10 hi9), ← h]
    by_cases q2 : hb (F 19) (nI i)
    · rw [if_neg (fun z => (ub_test hi9).mp z q2), if_neg (fun z => ub_hasv0.mp z q2)]
      exact ⟨rfl, Or.inr ⟨i, hi9, rfl, q2, rfl⟩⟩
    · rw [if_pos ((ub_test hi9).mpr q2), if_pos (ub_hasv0.mpr q2)]
      exact ⟨rfl, Or.inl rfl⟩
def UTab (F : Nat → Int32) (R : Nat → Nat → Int32) (G : Nat → Int32) (S : Nat → Nat → Int32) : Prop :=
  F 16 = G 0 ∧ F 17 = G 1 ∧ F 18 = G 2 ∧ F 20 = G 3 ∧ F 19 = G 4 ∧ jv 0 1023 (F 19) ∧ (∀ j, j < 10 → hb (F 19) (nI j) → ∀ s, s < 8 → R 2 (8 * j + s) = S (1 + s) j) ∧ F 11 = G 77 ∧ (¬ F 11 = 0 → F 48 = G 78 ∧ F 49 = G 79 ∧ F 50 = G 80 ∧ F 52 = G 81 ∧ F 51 = G 82 ∧ jv 0 1023 (F 51) ∧ ∀ j, j < 10 → hb (F 51) (nI j) → ∀ s, s < 8 → R 4 (8 * j + s) = S (41 + s) j)
theorem UTab_e {F F' G G' : Nat → Int32} {R R' S S' : Nat → Nat → Int32} (h : UTab F R G S) (f : ∀ k, k = 11 ∨ 16 ≤ k ∧ k ≤ 20 ∨ 48 ≤ k ∧ k ≤ 52 → F' k = F k) (g : ∀ k, k ≤ 4 ∨ 77 ≤ k ∧ k ≤ 82 → G' k = G k) (r : ∀ c, c = 2 ∨ c = 4 → R' c = R c) (s : ∀ c, 1 ≤ c ∧ c ≤ 8 ∨ 41 ≤ c ∧ c ≤ 48 → S' c = S c) : UTab F' R' G' S' := by
  obtain ⟨h1, h2, h3, h4, h5, h6, h7, h8, h9⟩ := h
  unfold UTab
  rw [f 11 (by omega), f 16 (by omega), f 17 (by omega), f 18 (by omega), f 19 (by omega), f 20 (by omega), f 48 (by omega), f 49 (by omega), f 50 (by omega), f 51 (by omega), f 52 (by omega), g 0 (by omega), g 1 (by omega), g 2 (by omega), g 3 (by omega), g 4 (by omega), g 77 (by omega), g 78 (by omega), g 79 (by omega), g 80 (by omega), g 81 (by omega), g 82 (by omega), r 2 (by omega), r 4 (by omega)]
  refine ⟨h1, h2, h3, h4, h5, h6, fun j hj ht q hq => ?_, h8, fun z => ?_⟩
  · rw [s (1 + q) (by omega)]
    exact h7 j hj ht q hq
  · obtain ⟨k1, k2, k3, k4, k5, k6, k7⟩ := h9 z
    refine ⟨k1, k2, k3, k4, k5, k6, fun j hj ht q hq => ?_⟩
    rw [s (41 + q) (by omega)]
    exact k7 j hj ht q hq
abbrev UR3 := Int32 × (Nat → Int32) × (Nat → Nat → Int32)
def UAns (REL : (Nat → Int32) → (Nat → Nat → Int32) → (Nat → Int32) → (Nat → Nat → Int32) → Prop) (p q : UR3) : Prop := p.1 = q.1 ∧ REL p.2.1 p.2.2 q.2.1 q.2.2
theorem uans {REL : (Nat → Int32) → (Nat → Nat → Int32) → (Nat → Int32) → (Nat → Nat → Int32) → Prop} {r : Int32} {F G : Nat → Int32} {R S : Nat → Nat → Int32} (h : REL F R G S) : UAns REL (r, F, R) (r, G, S) := ⟨rfl, h⟩
theorem tab_table {F G : Nat → Int32} {R S : Nat → Nat → Int32} (h : UTab F R G S) (a b : Int32) : UAns UTab (sp_X10_table F R a b) (sp_X11_table G S a b) := by
  unfold sp_X10_table sp_X11_table K_X10_table_22 K_X11_table_22
  simp only [k_e]
  by_cases q1 : g_in a 10 200 = 0
  · rw [if_pos q1, if_pos q1]; exact ⟨rfl, h⟩
  · rw [if_neg q1, if_neg q1]
    by_cases q2 : g_in b 0 63 = 0
    · rw [if_pos q2, if_pos q2]; exact ⟨rfl, h⟩
    · rw [if_neg q2, if_neg q2]
      obtain ⟨h1, h2, h3, h4, h5, h6, h7, h8, h9⟩ := h
      refine ⟨rfl, ?_⟩
      show UTab (upd (upd (upd (upd F 16 a) 17 a) 18 b) 19 0) R (upd (upd (upd (upd G 0 a) 1 a) 2 b) 4 0) S
      unfold UTab
      simp (decide := true) only [uu, if_true, if_false]
      exact ⟨trivial, trivial, trivial, h4, trivial, ub_0_rng, fun j hj ht => absurd ht (hb_0 hj), h8, h9⟩
theorem tab_cloth {F G : Nat → Int32} {R S : Nat → Nat → Int32} (h : UTab F R G S) (a : Int32) : UAns UTab (sp_X10_cloth F R a) (sp_X11_cloth G S a) := by
  unfold sp_X10_cloth sp_X11_cloth
  simp only [k_e]
  rw [h.1]
  by_cases q1 : g_in a 0 (G 0) = 0
  · rw [if_pos q1, if_pos q1]; exact ⟨rfl, h⟩
  · rw [if_neg q1, if_neg q1]
    obtain ⟨h1, h2, h3, h4, h5, h6, h7, h8, h9⟩ := h
    refine ⟨rfl, ?_⟩
    show UTab (upd F 17 a) R (upd G 1 a) S
    unfold UTab
    simp (decide := true) only [uu, if_true, if_false]
    exact ⟨h1, trivial, h3, h4, h5, h6, h7, h8, h9⟩
theorem tab_seed {F G : Nat → Int32} {R S : Nat → Nat → Int32} (h : UTab F R G S) (a : Int32) : UAns UTab (sp_X10_seed F R a) (sp_X11_seed G S a) := by
  unfold sp_X10_seed sp_X11_seed
  simp only [k_e]
  by_cases q1 : g_in a 0 65535 = 0
  · rw [if_pos q1, if_pos q1]; exact ⟨rfl, h⟩
  · rw [if_neg q1, if_neg q1]
    obtain ⟨h1, h2, h3, h4, h5, h6, h7, h8, h9⟩ := h
    refine ⟨rfl, ?_⟩
    show UTab (upd F 20 a) R (upd G 3 a) S
    unfold UTab
    simp (decide := true) only [uu, if_true, if_false]
    exact ⟨h1, h2, h3, trivial, h5, h6, h7, h8, h9⟩
theorem ux_change1' {F : Nat → Int32} {R : Nat → Nat → Int32} {f : Nat → Int32} {i s : Nat} {x v : Int32} (hi : i < 10) (hs : s < 8) (hx : x = nI s) : sp_X8_change_1 F (g_u R 2 f) (nI i) x v = (F, g_u R 2 (upd f (8 * i + s) v)) := by
  rw [ux_change1 hi hs hx, g_uus, ug_uu]
theorem upd8 (f : Nat → Int32) (i : Nat) (v0 v1 v2 v3 v4 v5 v6 v7 : Int32) : ∀ j s, s < 8 → (upd (upd (upd (upd (upd (upd (upd (upd f (8 * i + 0) v0) (8 * i + 1) v1) (8 * i + 2) v2) (8 * i + 3) v3) (8 * i + 4) v4) (8 * i + 5) v5) (8 * i + 6) v6) (8 * i + 7) v7) (8 * j + s) = if j = i then ulist [v0, v1, v2, v3, v4, v5, v6, v7] s else f (8 * j + s) := by
  intro j s hs
  simp only [uu]
  by_cases q : j = i
  · subst q
    rw [if_pos rfl]
    match s, hs with
    | 0, _ => rw [if_neg (by omega), if_neg (by omega), if_neg (by omega), if_neg (by omega), if_neg (by omega), if_neg (by omega), if_neg (by omega), if_pos rfl]; rfl
    | 1, _ => rw [if_neg (by omega), if_neg (by omega), if_neg (by omega), if_neg (by omega), if_neg (by omega), if_neg (by omega), if_pos rfl]; rfl
    | 2, _ => rw [if_neg (by omega), if_neg (by omega), if_neg (by omega), if_neg (by omega), if_neg (by omega), if_pos rfl]; rfl
    | 3, _ => rw [if_neg (by omega), if_neg (by omega), if_neg (by omega), if_neg (by omega), if_pos rfl]; rfl
    | 4, _ => rw [if_neg (by omega), if_neg (by omega), if_neg (by omega), if_pos rfl]; rfl
    | 5, _ => rw [if_neg (by omega), if_neg (by omega), if_pos rfl]; rfl
    | 6, _ => rw [if_neg (by omega), if_pos rfl]; rfl
    | 7, _ => rw [if_pos rfl]; rfl
  · rw [if_neg q, if_neg (by omega), if_neg (by omega), if_neg (by omega), if_neg (by omega), if_neg (by omega), if_neg (by omega), if_neg (by omega), if_neg (by omega)]
theorem UTab_set {F F' G G' : Nat → Int32} {R R' S S' : Nat → Nat → Int32} (h : UTab F R G S) (f : ∀ k, k ≠ 19 → F' k = F k) (g : ∀ k, k ≠ 4 → G' k = G k) (e : F' 19 = G' 4) (hr : jv 0 1023 (F' 19)) (r : R' 4 = R 4) (s : ∀ c, 9 ≤ c → S' c = S c) (hh : ∀ j, j < 10 → hb (F' 19) (nI j) → ∀ s, s < 8 → R' 2 (8 * j + s) = S' (1 + s) j) : UTab F' R' G' S' := by
  obtain ⟨h1, h2, h3, h4, h5, h6, h7, h8, h9⟩ := h
  unfold UTab
  rw [f 11 (by omega), f 16 (by omega), f 17 (by omega), f 18 (by omega), f 20 (by omega), f 48 (by omega), f 49 (by omega), f 50 (by omega), f 51 (by omega), f 52 (by omega), g 0 (by omega), g 1 (by omega), g 2 (by omega), g 3 (by omega), g 77 (by omega), g 78 (by omega), g 79 (by omega), g 80 (by omega), g 81 (by omega), g 82 (by omega), r]
  refine ⟨h1, h2, h3, h4, e, hr, hh, h8, fun z => ?_⟩
  obtain ⟨k1, k2, k3, k4, k5, k6, k7⟩ := h9 z
  refine ⟨k1, k2, k3, k4, k5, k6, fun j hj ht q hq => ?_⟩
  rw [s (41 + q) (by omega)]
  exact k7 j hj ht q hq
theorem tab_thing {F G : Nat → Int32} {R S : Nat → Nat → Int32} (h : UTab F R G S) (a0 a1 a2 a3 a4 a5 : Int32) : UAns UTab (sp_X10_thing F R a0 a1 a2 a3 a4 a5) (sp_X11_thing G S a0 a1 a2 a3 a4 a5) := by
  have e1 : K_X10_thing_74 F R a0 a1 a2 a3 a4 a5 0 = (0, F, R) := by unfold K_X10_thing_74; rw [if_pos rfl]
  unfold sp_X10_thing sp_X11_thing K_X10_thing_73 K_X11_thing_66
  simp only [k_e, e1]
  rw [h.1]
  by_cases q0 : g_in a0 0 9 = 0
  · rw [if_pos q0, if_pos q0]; exact ⟨rfl, h⟩
  rw [if_neg q0, if_neg q0]
  by_cases q1 : g_in a1 0 3 = 0
  · rw [if_pos q1, if_pos q1]; exact ⟨rfl, h⟩
  rw [if_neg q1, if_neg q1]
  by_cases q2 : g_in a2 0 (G 0 - 1) = 0
  · rw [if_pos q2, if_pos q2]; exact ⟨rfl, h⟩
  rw [if_neg q2, if_neg q2]
  by_cases q3 : g_in a3 1 40 = 0
  · rw [if_pos q3, if_pos q3]; exact ⟨rfl, h⟩
  rw [if_neg q3, if_neg q3]
  by_cases q4 : g_in a4 1 60 = 0
  · rw [if_pos q4, if_pos q4]; exact ⟨rfl, h⟩
  rw [if_neg q4, if_neg q4]
  by_cases q5 : g_in a5 1 99 = 0
  · rw [if_pos q5, if_pos q5]; exact ⟨rfl, h⟩
  rw [if_neg q5, if_neg q5]
  obtain ⟨i, _, hi, rfl⟩ := gin_n (lo := 0) (hi := 9) (by omega) (by omega) q0
  have hi9 : i < 10 := by omega
  unfold K_X10_thing_74
  rw [if_neg (by decide)]
  simp only [k_e]
  rw [ux_change1 (s := 0) (x := 0) hi9 (by omega) rfl, k_t2, ux_change1' (s := 1) (x := 1) hi9 (by omega) rfl, k_t2, ux_change1' (s := 2) (x := 2) hi9 (by omega) rfl, k_t2, ux_change1' (s := 3) (x := 3) hi9 (by omega) rfl, k_t2, ux_change1' (s := 4) (x := 4) hi9 (by omega) rfl, k_t2, ux_change1' (s := 5) (x := 5) hi9 (by omega) rfl, k_t2, ux_change1' (s := 6) (x := 6) hi9 (by omega) rfl, k_t2, ux_change1' (s := 7) (x := 7) hi9 (by omega) rfl, k_t2]
  simp only [nI_clamp (show i < 2 ^ 31 by omega)]
  refine uans (UTab_set h (fun k hk => g_un (by rw [bne_iff_ne]; exact fun z => hk z.symm)) (fun k hk => g_un (by rw [bne_iff_ne]; exact fun z => hk z.symm)) ?_ ?_ (by simp (decide := true) only [ug, if_false]) (fun c hc => ?_) (fun j hj ht s hs => ?_))
  · exact g_us.trans ((congrArg (fun x => x ||| 1 <<< (nI i &&& 31)) h.2.2.2.2.1).trans g_us.symm)
  · exact (show jv 0 1023 (F 19 ||| 1 <<< (nI i &&& 31)) from ub_or_rng h.2.2.2.2.2.1 hi9)
  · simp only [ug]
    rw [if_neg (by omega), if_neg (by omega), if_neg (by omega), if_neg (by omega), if_neg (by omega), if_neg (by omega), if_neg (by omega), if_neg (by omega)]
  have ht : hb (F 19 ||| 1 <<< (nI i &&& 31)) (nI j) := ht
  have U := upd8 (R 2) i a1 a2 a3 a4 a5 0 0 0 j s hs
  refine ((congrFun g_uus _).trans U).trans ?_
  by_cases q : j = i
  · rw [if_pos q, q]
    match s, hs with
    | 0, _ => simp (decide := true) only [ug, uu, if_true, if_false]; rfl
    | 1, _ => simp (decide := true) only [ug, uu, if_true, if_false]; rfl
    | 2, _ => simp (decide := true) only [ug, uu, if_true, if_false]; rfl
    | 3, _ => simp (decide := true) only [ug, uu, if_true, if_false]; rfl
    | 4, _ => simp (decide := true) only [ug, uu, if_true, if_false]; rfl
    | 5, _ => simp (decide := true) only [ug, uu, if_true, if_false]; rfl
    | 6, _ => simp (decide := true) only [ug, uu, if_true, if_false]; rfl
    | 7, _ => simp (decide := true) only [ug, uu, if_true, if_false]; rfl
  · rw [ub_or hj, ub_bit hi9 hj] at ht
    rw [if_neg q, h.2.2.2.2.2.2.1 j hj (ht.resolve_right q) s hs]
    match s, hs with
    | 0, _ => simp (decide := true) only [ug, uu, q, if_true, if_false]
    | 1, _ => simp (decide := true) only [ug, uu, q, if_true, if_false]
    | 2, _ => simp (decide := true) only [ug, uu, q, if_true, if_false]
    | 3, _ => simp (decide := true) only [ug, uu, q, if_true, if_false]
    | 4, _ => simp (decide := true) only [ug, uu, q, if_true, if_false]
    | 5, _ => simp (decide := true) only [ug, uu, q, if_true, if_false]
    | 6, _ => simp (decide := true) only [ug, uu, q, if_true, if_false]
    | 7, _ => simp (decide := true) only [ug, uu, q, if_true, if_false]
theorem tab_away {F G : Nat → Int32} {R S : Nat → Nat → Int32} (h : UTab F R G S) (a : Int32) : UAns UTab (sp_X10_away F R a) (sp_X11_away G S a) := by
  unfold sp_X10_away sp_X11_away sp_X8_take_1
  obtain ⟨e, e2⟩ := x8_has1 F R G S h.2.2.2.2.1 a
  simp only [k_e]
  rw [← e]
  rcases e2 with z | ⟨i, hi, rfl, ht, z⟩
  · rw [z, if_pos rfl, if_pos rfl]; exact ⟨rfl, h⟩
  · have n1 : ¬ (1 : Int32) = 0 := by decide
    rw [z, if_neg n1, if_neg n1, k_t2]
    obtain ⟨h1, h2, h3, h4, h5, h6, h7, h8, h9⟩ := h
    refine ⟨rfl, ?_⟩
    unfold UTab
    simp (decide := true) only [uu, if_true, if_false]
    refine ⟨h1, h2, h3, h4, by rw [h5], ub_and_rng h6, fun j hj ht s hs => h7 j hj ((ub_and hj).mp ht).1 s hs, h8, h9⟩
theorem tab_more {F G : Nat → Int32} {R S : Nat → Nat → Int32} (h : UTab F R G S) (a a1 a2 a3 : Int32) : UAns UTab (sp_X10_more F R a a1 a2 a3) (sp_X11_more G S a a1 a2 a3) := by
  unfold sp_X10_more sp_X11_more K_X10_more_43 K_X11_more_40
  obtain ⟨e, e2⟩ := x8_has1 F R G S h.2.2.2.2.1 a
  simp only [k_e]
  rw [← e]
  rcases e2 with z | ⟨i, hi9, rfl, ht, z⟩
  · rw [z, if_pos rfl, if_pos rfl]; exact ⟨rfl, h⟩
  have n1 : ¬ (1 : Int32) = 0 := by decide
  rw [z, if_neg n1, if_neg n1]
  by_cases q1 : g_in a1 0 9 = 0
  · rw [if_pos q1, if_pos q1]; exact ⟨rfl, h⟩
  rw [if_neg q1, if_neg q1]
  by_cases q2 : g_in a2 0 9 = 0
  · rw [if_pos q2, if_pos q2]; exact ⟨rfl, h⟩
  rw [if_neg q2, if_neg q2]
  by_cases q3 : g_in a3 0 999 = 0
  · rw [if_pos q3, if_pos q3]; exact ⟨rfl, h⟩
  rw [if_neg q3, if_neg q3]
  rw [ux_change1 (s := 5) (x := 5) hi9 (by omega) rfl, k_t2, ux_change1' (s := 6) (x := 6) hi9 (by omega) rfl, k_t2, ux_change1' (s := 7) (x := 7) hi9 (by omega) rfl, k_t2]
  simp only [nI_clamp (show i < 2 ^ 31 by omega)]
  refine uans (UTab_set h (fun k hk => rfl) (fun k hk => rfl) h.2.2.2.2.1 h.2.2.2.2.2.1 (by simp (decide := true) only [ug, if_false]) (fun c hc => ?_) (fun j hj ht s hs => ?_))
  · simp only [ug]
    rw [if_neg (by omega), if_neg (by omega), if_neg (by omega)]
  have I := h.2.2.2.2.2.2.1 j hj ht s hs
  refine (congrFun g_uus _).trans ?_
  simp only [uu]
  by_cases q : j = i
  · subst q
    match s, hs with
    | 0, _ => rw [if_neg (by omega), if_neg (by omega), if_neg (by omega), I]; simp (decide := true) only [ug, uu, if_true, if_false]
    | 1, _ => rw [if_neg (by omega), if_neg (by omega), if_neg (by omega), I]; simp (decide := true) only [ug, uu, if_true, if_false]
    | 2, _ => rw [if_neg (by omega), if_neg (by omega), if_neg (by omega), I]; simp (decide := true) only [ug, uu, if_true, if_false]
    | 3, _ => rw [if_neg (by omega), if_neg (by omega), if_neg (by omega), I]; simp (decide := true) only [ug, uu, if_true, if_false]
    | 4, _ => rw [if_neg (by omega), if_neg (by omega), if_neg (by omega), I]; simp (decide := true) only [ug, uu, if_true, if_false]
    | 5, _ => rw [if_neg (by omega), if_neg (by omega), if_pos rfl]; simp (decide := true) only [ug, uu, if_true, if_false]
    | 6, _ => rw [if_neg (by omega), if_pos rfl]; simp (decide := true) only [ug, uu, if_true, if_false]
    | 7, _ => rw [if_pos rfl]; simp (decide := true) only [ug, uu, if_true, if_false]
  · rw [if_neg (by omega), if_neg (by omega), if_neg (by omega), I]
    match s, hs with
    | 0, _ => simp (decide := true) only [ug, uu, q, if_true, if_false]
    | 1, _ => simp (decide := true) only [ug, uu, q, if_true, if_false]
    | 2, _ => simp (decide := true) only [ug, uu, q, if_true, if_false]
    | 3, _ => simp (decide := true) only [ug, uu, q, if_true, if_false]
    | 4, _ => simp (decide := true) only [ug, uu, q, if_true, if_false]
    | 5, _ => simp (decide := true) only [ug, uu, q, if_true, if_false]
    | 6, _ => simp (decide := true) only [ug, uu, q, if_true, if_false]
    | 7, _ => simp (decide := true) only [ug, uu, q, if_true, if_false]
