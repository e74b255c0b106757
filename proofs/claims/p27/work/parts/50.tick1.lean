/-! ===== a tick, from its end: the leads, the order, the slide, the feeling ===== -/
def UTh (a b : Int32) (R S : Nat → Nat → Int32) (j : Nat) : Prop := R 44 j = S 26 j ∧ R 45 j = S 29 j ∧ 0 ≤ (S 29 j).toInt ∧ R 38 j = S 27 j ∧ (S 28 j = 0 ∨ S 28 j = 1 ∨ S 28 j = 2) ∧ (hb a (nI j) ↔ S 28 j = 1) ∧ (hb b (nI j) ↔ S 28 j = 2)
def UCore (F : Nat → Int32) (R : Nat → Nat → Int32) (G : Nat → Int32) (S : Nat → Nat → Int32) : Prop :=
  UStat F R G S ∧ F 694 = G 65 ∧ F 696 = G 67 ∧ F 698 = G 48 ∧ jv 0 1023 (F 692) ∧ jv 0 1023 (F 693) ∧ (∀ j, j < 10 → ¬ hb (F 691) (nI j) → ¬ hb (F 692) (nI j) ∧ ¬ hb (F 693) (nI j)) ∧ ∀ j, j < 10 → hb (F 691) (nI j) → UTh (F 692) (F 693) R S j
theorem UTh_e {a b a' b' : Int32} {R S R' S' : Nat → Nat → Int32} {j : Nat} (h : UTh a b R S j) (r4 : R' 44 j = R 44 j) (r5 : R' 45 j = R 45 j) (r8 : R' 38 j = R 38 j) (s6 : S' 26 j = S 26 j) (s7 : S' 27 j = S 27 j) (s8 : S' 28 j = S 28 j) (s9 : S' 29 j = S 29 j) (ea : hb a' (nI j) ↔ hb a (nI j)) (eb : hb b' (nI j) ↔ hb b (nI j)) : UTh a' b' R' S' j := by
  unfold UTh
  rw [r4, r5, r8, s6, s7, s8, s9, ea, eb]
  exact h
theorem UCore_e {F F' G G' : Nat → Int32} {R R' S S' : Nat → Nat → Int32} (h : UCore F R G S) (f : ∀ k, k = 691 ∨ k = 241 ∨ k = 601 ∨ k = 274 ∨ k = 278 ∨ k = 692 ∨ k = 693 ∨ k = 694 ∨ k = 696 ∨ k = 698 → F' k = F k) (g : ∀ k, k = 0 ∨ k = 1 ∨ k = 28 ∨ k = 42 ∨ k = 43 ∨ k = 44 ∨ k = 48 ∨ k = 65 ∨ k = 67 → G' k = G k) (r : ∀ c, c = 6 ∨ c = 16 ∨ c = 41 ∨ c = 38 ∨ c = 44 ∨ c = 45 ∨ 18 ≤ c ∧ c ≤ 22 → R' c = R c) (s : ∀ c, c = 1 ∨ c = 3 ∨ c = 5 ∨ c = 25 ∨ 26 ≤ c ∧ c ≤ 31 ∨ 18 ≤ c ∧ c ≤ 22 → S' c = S c) : UCore F' R' G' S' := by
  obtain ⟨h1, h2, h3, h4, h5, h6, h7, h8⟩ := h
  unfold UCore
  rw [f 694 (by omega), f 696 (by omega), f 698 (by omega), f 692 (by omega), f 693 (by omega), f 691 (by omega), g 65 (by omega), g 67 (by omega), g 48 (by omega)]
  refine ⟨UStat_e h1 (f 691 (by omega)) (f 241 (by omega)) (f 601 (by omega)) (f 274 (by omega)) (f 278 (by omega)) (fun k hk => g k (by omega)) (fun c hc => r c (by omega)) (fun c hc => s c (by omega)), h2, h3, h4, h5, h6, h7, fun j hj hh => ?_⟩
  exact UTh_e (h8 j hj hh) (congrFun (r 44 (by omega)) j) (congrFun (r 45 (by omega)) j) (congrFun (r 38 (by omega)) j) (congrFun (s 26 (by omega)) j) (congrFun (s 27 (by omega)) j) (congrFun (s 28 (by omega)) j) (congrFun (s 29 (by omega)) j) Iff.rfl Iff.rfl
theorem st_core {F G : Nat → Int32} {R S : Nat → Nat → Int32} (h : UCore F R G S) : ∀ j, j < 10 → (hb (sp_X4_standingSet F R) (nI j) ↔ hb (F 691) (nI j) ∧ S 28 j = 0) := by
  intro j hj
  unfold sp_X4_standingSet
  rw [k_e, k_e, k_e, ub_and hj, ub_not hj, ub_or hj]
  constructor
  · intro z
    obtain ⟨_, _, _, _, t5, t6, t7⟩ := h.2.2.2.2.2.2.2 j hj z.1
    refine ⟨z.1, ?_⟩
    rcases t5 with e | e | e
    · exact e
    · exact absurd (Or.inl (t6.mpr e)) z.2
    · exact absurd (Or.inr (t7.mpr e)) z.2
  · intro z
    obtain ⟨_, _, _, _, t5, t6, t7⟩ := h.2.2.2.2.2.2.2 j hj z.1
    refine ⟨z.1, fun q => ?_⟩
    rcases q with q | q
    · exact absurd ((t6.mp q).symm.trans z.2) (by decide)
    · exact absurd ((t7.mp q).symm.trans z.2) (by decide)
theorem st_model {G : Nat → Int32} {S : Nat → Nat → Int32} {j : Nat} (hj : j < 10) : ¬ sp_X11_stands G S (nI j) = 0 ↔ hb (G 42) (nI j) ∧ S 28 j = 0 := by
  unfold sp_X11_stands
  rw [k_e]
  by_cases q : hb (G 42) (nI j)
  · rw [if_neg (fun e => ub_hasv0.mp e q), k_e, nI_clamp (by omega)]
    by_cases q2 : S 28 j = 0
    · rw [if_pos q2]
      exact ⟨fun _ => ⟨q, q2⟩, fun _ => by decide⟩
    · rw [if_neg q2]
      exact ⟨fun z => absurd rfl z, fun z => absurd z.2 q2⟩
  · rw [if_pos (ub_hasv0.mpr q)]
    exact ⟨fun z => absurd rfl z, fun z => absurd z.1 q⟩
/-! the leads -/
def mby (G : Nat → Int32) (i : Nat) : Nat := if uhb (G 68) (nI i) = true then 2 else if uhb (G 69) (nI i) = true then 0 else 1
theorem by_eq {F G : Nat → Int32} {i : Nat} (hi : i < 10) (h1 : hb (F 606) (nI i) ↔ hb (G 68) (nI i)) (h2 : hb (F 605) (nI i) ↔ hb (G 69) (nI i)) : uby F i = mby G i := by
  unfold uby mby
  by_cases q : hb (G 68) (nI i)
  · rw [if_neg (fun e => (ub_test hi).mp e (h1.mpr q)), if_pos (uhb_t.mpr q)]
  · rw [if_pos ((ub_test hi).mpr (fun e => q (h1.mp e))), if_neg (fun e => q (uhb_t.mp e))]
    by_cases q2 : hb (G 69) (nI i)
    · rw [if_neg (fun e => (ub_test hi).mp e (h2.mpr q2)), if_pos (uhb_t.mpr q2)]
    · rw [if_pos ((ub_test hi).mpr (fun e => q2 (h2.mp e))), if_neg (fun e => q2 (uhb_t.mp e))]
theorem um_counts2 {G : Nat → Int32} {S : Nat → Nat → Int32} {i : Nat} (hi : i < 10) : ∃ S', sp_X11_counts G S (nI i) = (G, S') ∧ (∀ m, S' 32 m = if m = i then S 32 i + (S 36 i - S 26 i) else S 32 m) ∧ (∀ b m, b < 3 → S' (33 + b) m = if m = i ∧ b = mby G i then S (33 + b) m + (S 36 i - S 26 i) else S (33 + b) m) ∧ (∀ c, c ≠ 32 → c ≠ 33 → c ≠ 34 → c ≠ 35 → S' c = S c) := by
  obtain ⟨S', e, c1, c2, c3, c4⟩ := um_counts (G := G) (S := S) hi
  have fr := fr_sp_X11_counts G S (nI i)
  rw [e] at fr
  refine ⟨S', e, c1, fun b m hb1 => ?_, fun c h1 h2 h3 h4 => fr.2 c (by simp [mr_X11_counts]; exact ⟨h1, h2, h3, h4⟩)⟩
  unfold mby
  by_cases q : uhb (G 68) (nI i) = true
  · rw [if_pos q]
    match b, hb1 with
    | 0, _ => rw [if_neg (by omega)]; exact (c2 m).trans (if_neg (fun z => by rw [q] at z; exact absurd z.2.1 (by decide)))
    | 1, _ => rw [if_neg (by omega)]; exact (c3 m).trans (if_neg (fun z => by rw [q] at z; exact absurd z.2.1 (by decide)))
    | 2, _ =>
      have z := c4 m
      by_cases q2 : m = i
      · rw [if_pos ⟨q2, q⟩] at z
        rw [if_pos ⟨q2, rfl⟩, q2]
        rw [q2] at z
        exact z
      · rw [if_neg (fun z => q2 z.1)] at z
        rw [if_neg (fun z => q2 z.1)]
        exact z
  · have q' : uhb (G 68) (nI i) = false := by cases hq : uhb (G 68) (nI i) <;> simp_all
    rw [if_neg q]
    by_cases q3 : uhb (G 69) (nI i) = true
    · rw [if_pos q3]
      match b, hb1 with
      | 0, _ =>
        have z := c2 m
        by_cases q2 : m = i
        · rw [if_pos ⟨q2, q', q3⟩] at z
          rw [if_pos ⟨q2, rfl⟩, q2]
          rw [q2] at z
          exact z
        · rw [if_neg (fun z => q2 z.1)] at z
          rw [if_neg (fun z => q2 z.1)]
          exact z
      | 1, _ => rw [if_neg (by omega)]; exact (c3 m).trans (if_neg (fun z => by rw [q3] at z; exact absurd z.2.2 (by decide)))
      | 2, _ => rw [if_neg (by omega)]; exact (c4 m).trans (if_neg (fun z => q z.2))
    · have q3' : uhb (G 69) (nI i) = false := by cases hq : uhb (G 69) (nI i) <;> simp_all
      rw [if_neg q3]
      match b, hb1 with
      | 0, _ => rw [if_neg (by omega)]; exact (c2 m).trans (if_neg (fun z => q3 z.2.2))
      | 1, _ =>
        have z := c3 m
        by_cases q2 : m = i
        · rw [if_pos ⟨q2, q', q3'⟩] at z
          rw [if_pos ⟨q2, rfl⟩, q2]
          rw [q2] at z
          exact z
        · rw [if_neg (fun z => q2 z.1)] at z
          rw [if_neg (fun z => q2 z.1)]
          exact z
      | 2, _ => rw [if_neg (by omega)]; exact (c4 m).trans (if_neg (fun z => q z.2))
theorem ux_lead2 {F : Nat → Int32} {R : Nat → Nat → Int32} {i : Nat} (hi : i < 10) : ∃ R', sp_X0_lead F R (nI i) = (F, R') ∧ (∀ b m, b < 3 → m < 10 → R' 46 (10 * b + m) = if m = i ∧ b = uby F i then R 46 (10 * b + m) + (R 39 i - R 44 i) else R 46 (10 * b + m)) ∧ (∀ c, c ≠ 46 → R' c = R c) := by
  refine ⟨_, ux_lead hi, fun b m h1 h2 => ?_, fun c hc => g_uun (by rw [bne_iff_ne]; exact fun e => hc e.symm)⟩
  have h3 := uby_lt F i
  rw [g_uus, uu]
  by_cases q : m = i ∧ b = uby F i
  · rw [if_pos q, if_pos (by rw [q.1, q.2]), q.1, q.2]
  · rw [if_neg q, if_neg (fun e => q (by constructor <;> omega))]
theorem u_sum3 {x a b c d : Int32} {k : Nat} (hk : k < 3) (h : x = a + b + c) : x + d = (if 0 = k then a + d else a) + (if 1 = k then b + d else b) + (if 2 = k then c + d else c) := by
  match k, hk with
  | 0, _ => rw [if_pos rfl, if_neg (by omega), if_neg (by omega), h, Int32.add_assoc a d b, Int32.add_comm d b, ← Int32.add_assoc a b d, Int32.add_assoc (a + b) d c, Int32.add_comm d c, ← Int32.add_assoc]
  | 1, _ => rw [if_neg (by omega), if_pos rfl, if_neg (by omega), h, ← Int32.add_assoc a b d, Int32.add_assoc (a + b) d c, Int32.add_comm d c, ← Int32.add_assoc]
  | 2, _ => rw [if_neg (by omega), if_neg (by omega), if_pos rfl, h, Int32.add_assoc (a + b) c d]
/-- led so far: the class has counted what went in this tick already -/
def ULed (R S : Nat → Nat → Int32) (k : Nat) (e : Int32) (j : Nat) : Prop := S 32 j = S 33 j + S 34 j + S 35 j ∧ ∀ b, b < 3 → R 46 (10 * b + j) = if b = k then S (33 + b) j + e else S (33 + b) j
theorem ULed_0 {R S : Nat → Nat → Int32} {k j : Nat} : ULed R S k 0 j ↔ ULed R S 0 0 j := by
  unfold ULed
  have e : ∀ (k b : Nat) (x : Int32), (if b = k then x + 0 else x) = x := by
    intro k b x
    by_cases q : b = k
    · rw [if_pos q, Int32.add_zero]
    · rw [if_neg q]
  constructor
  · intro h
    exact ⟨h.1, fun b hb1 => by rw [h.2 b hb1, e, e]⟩
  · intro h
    exact ⟨h.1, fun b hb1 => by rw [h.2 b hb1, e, e]⟩
theorem ULed_e {R S R' S' : Nat → Nat → Int32} {k : Nat} {e : Int32} {j : Nat} (hj : j < 10) (h : ULed R S k e j) (r : ∀ b, b < 3 → R' 46 (10 * b + j) = R 46 (10 * b + j)) (s : ∀ c, 32 ≤ c → c ≤ 35 → S' c j = S c j) : ULed R' S' k e j := by
  unfold ULed
  rw [s 32 (by omega) (by omega), s 33 (by omega) (by omega), s 34 (by omega) (by omega), s 35 (by omega) (by omega)]
  refine ⟨h.1, fun b hb1 => ?_⟩
  rw [r b hb1, s (33 + b) (by omega) (by omega)]
  exact h.2 b hb1
