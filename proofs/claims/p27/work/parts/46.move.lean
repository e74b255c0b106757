/-! ===== how a thing goes, is led, touches ===== -/
theorem ux_lead4 {F : Nat → Int32} {R : Nat → Nat → Int32} {i b : Nat} (hi : i < 10) (hb1 : b < 3) (w : Int32) : sp_X4_lead F R (nI i) (nI b) w = (F, g_u R 46 (upd (R 46) (10 * b + i) (R 46 (10 * b + i) + w))) := by
  unfold sp_X4_lead K_X4_lead_34
  have e2 : g_in (nI b) 0 2 = 1 := ug_in (lo := 0) (hi := 2) (by omega) (by omega) (by omega)
  have e3 : nI b * 10 = nI (b * 10) := pk_mul b 10
  rw [k_e, ug_i9 hi, if_neg (by decide), k_e, e2, if_neg (by decide), k_e, k_e, k_e, k_e, k_e, e3, nI_add, nI_clamp (by omega), show b * 10 + i = 10 * b + i from by omega]
/-- by what it is led: 0 cloth, 1 wood, 2 touching -/
def uby (F : Nat → Int32) (i : Nat) : Nat := if F 606 &&& (1 <<< (nI i &&& 31)) = 0 then (if F 605 &&& (1 <<< (nI i &&& 31)) = 0 then 1 else 0) else 2
theorem uby_lt (F : Nat → Int32) (i : Nat) : uby F i < 3 := by
  unfold uby
  split
  · split <;> omega
  · omega
theorem ux_lead {F : Nat → Int32} {R : Nat → Nat → Int32} {i : Nat} (hi : i < 10) : sp_X0_lead F R (nI i) = (F, g_u R 46 (upd (R 46) (10 * uby F i + i) (R 46 (10 * uby F i + i) + (R 39 i - R 44 i)))) := by
  have k30 : ∀ b, b < 3 → K_X0_lead_30 F R (nI i) (nI b) = (F, g_u R 46 (upd (R 46) (10 * b + i) (R 46 (10 * b + i) + (R 39 i - R 44 i)))) := by
    intro b hb1
    unfold K_X0_lead_30
    rw [k_e, k_e, k_e, nI_clamp (by omega), ux_lead4 hi hb1, k_t2]
  have k16 : ∀ b, b < 3 → K_X0_lead_16 F R (nI i) (nI b) = (F, g_u R 46 (upd (R 46) (10 * (if F 606 &&& (1 <<< (nI i &&& 31)) = 0 then b else 2) + i) (R 46 (10 * (if F 606 &&& (1 <<< (nI i &&& 31)) = 0 then b else 2) + i) + (R 39 i - R 44 i)))) := by
    intro b hb1
    unfold K_X0_lead_16
    rw [k_e, k_e]
    by_cases q : F 606 &&& (1 <<< (nI i &&& 31)) = 0
    · rw [if_pos q, if_pos q]
      exact k30 b hb1
    · rw [if_neg q, if_neg q]
      exact k30 2 (by omega)
  unfold sp_X0_lead
  rw [k_e, k_e]
  by_cases q : F 605 &&& (1 <<< (nI i &&& 31)) = 0
  · rw [if_pos q]
    have I := k16 1 (by omega)
    unfold uby
    rw [if_pos q]
    exact I
  · rw [if_neg q]
    have I := k16 0 (by omega)
    unfold uby
    rw [if_neg q]
    exact I
theorem ux_slide {F : Nat → Int32} {R : Nat → Nat → Int32} {i : Nat} (hi : i < 10) : ∃ F' R', sp_X0_slide F R (nI i) = (F', R') ∧ F' 693 = (if 0 ≤ R 44 i - R 38 i then F 693 else F 693 ||| (1 <<< (nI i &&& 31))) ∧ R' 39 i = R 44 i ∧ (∀ m, m ≠ i → R' 39 m = R 39 m) ∧ R' 44 i = R 44 i - R 38 i ∧ (∀ m, m ≠ i → R' 44 m = R 44 m) ∧ (∀ m, R' 46 m = if 0 ≤ R 44 i - R 38 i then R 46 m else if m = 10 * uby F i + i then R 46 m + (R 44 i - (R 44 i - R 38 i)) else R 46 m) := by
  unfold sp_X0_slide K_X0_slide_65
  rw [k_e, k_e, k_e, k_e, k_e, k_e, k_e, nI_clamp (by omega)]
  have e13 : (g_u (g_u R 39 (upd (R 39) i (R 44 i))) 44 (upd ((g_u R 39 (upd (R 39) i (R 44 i))) 44) i ((g_u R 39 (upd (R 39) i (R 44 i))) 44 i - (g_u R 39 (upd (R 39) i (R 44 i))) 38 i))) 44 i = R 44 i - R 38 i := by
    simp (decide := true) only [ug, uu, if_true, if_false]
  rw [e13]
  by_cases q : 0 ≤ R 44 i - R 38 i
  · rw [if_pos q]
    refine ⟨_, _, rfl, (if_pos q).symm, ?_, fun m hm => ?_, ?_, fun m hm => ?_, fun m => ?_⟩
    · simp (decide := true) only [ug, uu, if_true, if_false]
    · simp (decide := true) only [ug, uu, if_true, if_false]
      rw [if_neg hm]
    · simp (decide := true) only [ug, uu, if_true, if_false]
    · simp (decide := true) only [ug, uu, if_true, if_false]
      rw [if_neg hm]
    · simp (decide := true) only [ug, uu, if_true, if_false]
      rw [if_pos q]
  · rw [if_neg q, k_e, k_e, k_e, ux_lead hi, k_t2]
    have eb : uby (upd F 693 (F 693 ||| (1 <<< (nI i &&& 31)))) i = uby F i := by
      unfold uby
      simp (decide := true) only [ug, uu, if_true, if_false]
    rw [eb]
    refine ⟨_, _, rfl, ?_, ?_, fun m hm => ?_, ?_, fun m hm => ?_, fun m => ?_⟩
    · rw [g_us, if_neg q]
    · simp (decide := true) only [ug, uu, if_true, if_false]
    · simp (decide := true) only [ug, uu, if_true, if_false]
      rw [if_neg hm]
    · simp (decide := true) only [ug, uu, if_true, if_false]
    · simp (decide := true) only [ug, uu, if_true, if_false]
      rw [if_neg hm]
    · simp (decide := true) only [ug, uu, if_true, if_false]
      rw [if_neg q]
      by_cases e : m = 10 * uby F i + i
      · rw [if_pos e, if_pos e, e]
      · rw [if_neg e, if_neg e]
theorem um_goes {G : Nat → Int32} {S : Nat → Nat → Int32} {i : Nat} (hi : i < 10) : ∃ S', sp_X11_goes G S (nI i) = (G, S') ∧ S' 26 i = S 26 i - S 27 i ∧ (∀ m, m ≠ i → S' 26 m = S 26 m) ∧ S' 28 i = (if 0 ≤ S 26 i - S 27 i then S 28 i else 2) ∧ (∀ m, m ≠ i → S' 28 m = S 28 m) := by
  unfold sp_X11_goes K_X11_goes_35
  rw [k_e, k_e, k_e, k_e, k_e, nI_clamp (by omega), g_uus, g_us]
  by_cases q : 0 ≤ S 26 i - S 27 i
  · rw [if_pos q, if_pos q]
    refine ⟨_, rfl, ?_, fun m hm => ?_, ?_, fun m hm => ?_⟩
    · simp (decide := true) only [ug, uu, if_true, if_false]
    · simp (decide := true) only [ug, uu, if_true, if_false]
      rw [if_neg hm]
    · simp (decide := true) only [ug, uu, if_true, if_false]
    · simp (decide := true) only [ug, uu, if_true, if_false]
  · rw [if_neg q, if_neg q, k_e]
    refine ⟨_, rfl, ?_, fun m hm => ?_, ?_, fun m hm => ?_⟩
    · simp (decide := true) only [ug, uu, if_true, if_false]
    · simp (decide := true) only [ug, uu, if_true, if_false]
      rw [if_neg hm]
    · simp (decide := true) only [ug, uu, if_true, if_false]
    · simp (decide := true) only [ug, uu, if_true, if_false]
      rw [if_neg hm]
theorem um_counts {G : Nat → Int32} {S : Nat → Nat → Int32} {i : Nat} (hi : i < 10) : ∃ S', sp_X11_counts G S (nI i) = (G, S') ∧ (∀ m, S' 32 m = if m = i then S 32 i + (S 36 i - S 26 i) else S 32 m) ∧ (∀ m, S' 33 m = if m = i ∧ uhb (G 68) (nI i) = false ∧ uhb (G 69) (nI i) = true then S 33 i + (S 36 i - S 26 i) else S 33 m) ∧ (∀ m, S' 34 m = if m = i ∧ uhb (G 68) (nI i) = false ∧ uhb (G 69) (nI i) = false then S 34 i + (S 36 i - S 26 i) else S 34 m) ∧ (∀ m, S' 35 m = if m = i ∧ uhb (G 68) (nI i) = true then S 35 i + (S 36 i - S 26 i) else S 35 m) := by
  unfold sp_X11_counts K_X11_counts_98
  rw [k_e, k_e, k_e, k_e, k_e, k_e, k_e, nI_clamp (by omega)]
  by_cases q : hb (G 68) (nI i)
  · have u1 : uhb (G 68) (nI i) = true := uhb_t.mpr q
    rw [if_neg (fun e => (ub_hasv0.mp e) q), k_e, k_e, k_e, u1]
    refine ⟨_, rfl, fun m => ?_, fun m => ?_, fun m => ?_, fun m => ?_⟩
    · simp (decide := true) only [ug, uu, if_true, if_false, and_true, and_false, true_and, false_and]
    · simp (decide := true) only [ug, uu, if_true, if_false, and_true, and_false, true_and, false_and]
    · simp (decide := true) only [ug, uu, if_true, if_false, and_true, and_false, true_and, false_and]
    · simp (decide := true) only [ug, uu, if_true, if_false, and_true, and_false, true_and, false_and]
  · have u1 : uhb (G 68) (nI i) = false := uhb_f.mpr q
    rw [if_pos (ub_hasv0.mpr q), k_e, u1]
    by_cases q2 : hb (G 69) (nI i)
    · have u2 : uhb (G 69) (nI i) = true := uhb_t.mpr q2
      rw [if_neg (fun e => (ub_hasv0.mp e) q2), k_e, k_e, k_e, u2]
      refine ⟨_, rfl, fun m => ?_, fun m => ?_, fun m => ?_, fun m => ?_⟩
      · simp (decide := true) only [ug, uu, if_true, if_false, and_true, and_false, true_and, false_and]
      · simp (decide := true) only [ug, uu, if_true, if_false, and_true, and_false, true_and, false_and]
      · simp (decide := true) only [ug, uu, if_true, if_false, and_true, and_false, true_and, false_and]
      · simp (decide := true) only [ug, uu, if_true, if_false, and_true, and_false, true_and, false_and]
    · have u2 : uhb (G 69) (nI i) = false := uhb_f.mpr q2
      rw [if_pos (ub_hasv0.mpr q2), k_e, k_e, k_e, u2]
      refine ⟨_, rfl, fun m => ?_, fun m => ?_, fun m => ?_, fun m => ?_⟩
      · simp (decide := true) only [ug, uu, if_true, if_false, and_true, and_false, true_and, false_and]
      · simp (decide := true) only [ug, uu, if_true, if_false, and_true, and_false, true_and, false_and]
      · simp (decide := true) only [ug, uu, if_true, if_false, and_true, and_false, true_and, false_and]
      · simp (decide := true) only [ug, uu, if_true, if_false, and_true, and_false, true_and, false_and]
/-! two that touch -/
def utch (pa pb sa sb fa fb : Int32) : Bool := decide (¬ (fa + fb) / 2 ≤ pb - pa ∧ sa < sb)
def uboth (sa sb wa wb : Int32) : Int32 := (sa * wa + sb * wb) / (wa + wb)
def uback (pa ab fa fb : Int32) : Int32 := if ab < pa + (fa + fb) / 2 then ab else pa + (fa + fb) / 2
theorem ux_touch {F : Nat → Int32} {R : Nat → Nat → Int32} {a b : Nat} (ha : a < 10) (hb1 : b < 10) (hab : a ≠ b) (wa : jv 1 99 (R 6 (8 * a + 4))) (wb : jv 1 99 (R 6 (8 * b + 4))) : ∃ F' R', sp_X0_touch F R (nI a) (nI b) = (F', R') ∧ (∀ t, t = utch (R 44 a) (R 44 b) (R 38 a) (R 38 b) (R 6 (8 * a + 2)) (R 6 (8 * b + 2)) → F' 606 = (if t = true then F 606 ||| ((1 <<< (nI a &&& 31)) ||| (1 <<< (nI b &&& 31))) else F 606) ∧ (∀ m, R' 38 m = if t = true ∧ (m = a ∨ m = b) then uboth (R 38 a) (R 38 b) (R 6 (8 * a + 4)) (R 6 (8 * b + 4)) else R 38 m) ∧ (∀ m, R' 44 m = if t = true ∧ m = b then uback (R 44 a) (R 39 b) (R 6 (8 * a + 2)) (R 6 (8 * b + 2)) else R 44 m)) := by
  unfold sp_X0_touch K_X0_touch_20 K_X0_touch_81
  rw [k_e, ug_i9 ha, if_neg (by decide), k_e, ug_i9 hb1, if_neg (by decide), k_e, us_side (x := 2) (s := 2) ha (by decide) rfl, k_e, us_side (x := 2) (s := 2) hb1 (by decide) rfl, k_e, k_e, k_e, k_e, k_e, nI_clamp (by omega), nI_clamp (by omega)]
  by_cases q : (R 6 (8 * a + 2) + R 6 (8 * b + 2)) / 2 ≤ R 44 b - R 44 a
  · rw [if_pos q]
    refine ⟨_, _, rfl, fun t ht => ?_⟩
    have t0 : t = false := by rw [ht]; unfold utch; simp [q]
    rw [t0]
    exact ⟨rfl, fun m => by rw [if_neg (fun z => by cases z.1)], fun m => by rw [if_neg (fun z => by cases z.1)]⟩
  · rw [if_neg q, k_e, k_e]
    by_cases q2 : R 38 a < R 38 b
    · rw [if_pos q2, k_e, us_side (x := 4) (s := 4) ha (by decide) rfl, k_e, us_side (x := 4) (s := 4) hb1 (by decide) rfl, k_e, k_e, k_e, k_e, k_e, k_e]
      have hw := jv_add (x := R 6 (8 * a + 4)) (y := R 6 (8 * b + 4)) 2 198 rfl wa wb (by decide)
      rw [if_neg (fun z => by have := gc_le z; have := hw.2.1; have z0 : (0 : Int32).toInt = 0 := rfl; omega), k_e]
      unfold K_X0_touch_151
      rw [k_e, k_e, k_e, k_e, k_e, k_e, k_e, k_e, k_e, k_e, k_e, k_e, k_e, nI_clamp (by omega), nI_clamp (by omega)]
      refine ⟨_, _, rfl, fun t ht => ?_⟩
      have t1 : t = true := by rw [ht]; unfold utch; simp [q, q2]
      rw [t1]
      refine ⟨?_, fun m => ?_, fun m => ?_⟩
      · rw [g_us]
        rfl
      · simp (decide := true) only [ug, uu, if_true, if_false, and_true, and_false, true_and, false_and]
        by_cases e1 : m = b
        · rw [if_pos e1, if_pos (Or.inr e1)]
          rfl
        · rw [if_neg e1]
          by_cases e2 : m = a
          · rw [if_pos e2, if_pos (Or.inl e2)]
            rfl
          · rw [if_neg e2, if_neg (fun z => z.elim e2 e1)]
      · simp (decide := true) only [ug, uu, if_true, if_false, and_true, and_false, true_and, false_and]
        by_cases e1 : m = b
        · rw [if_pos e1, if_pos e1]
          rfl
        · rw [if_neg e1, if_neg e1]
    · rw [if_neg q2]
      refine ⟨_, _, rfl, fun t ht => ?_⟩
      have t0 : t = false := by rw [ht]; unfold utch; simp [q2]
      rw [t0]
      exact ⟨rfl, fun m => by rw [if_neg (fun z => by cases z.1)], fun m => by rw [if_neg (fun z => by cases z.1)]⟩
theorem um_meet {G : Nat → Int32} {S : Nat → Nat → Int32} {a b : Nat} (ha : a < 10) (hb1 : b < 10) (hab : a ≠ b) : ∃ G' S', sp_X11_meet G S (nI a) (nI b) = (G', S') ∧ (∀ t, t = utch (S 26 a) (S 26 b) (S 27 a) (S 27 b) (S 3 a) (S 3 b) → G' 68 = (if t = true then (G 68 ||| (1 <<< (nI a &&& 31))) ||| (1 <<< (nI b &&& 31)) else G 68) ∧ (∀ m, S' 27 m = if t = true ∧ (m = a ∨ m = b) then uboth (S 27 a) (S 27 b) (S 5 a) (S 5 b) else S 27 m) ∧ (∀ m, S' 26 m = if t = true ∧ m = b then uback (S 26 a) (S 36 b) (S 3 a) (S 3 b) else S 26 m)) := by
  unfold sp_X11_meet K_X11_meet_48
  rw [k_e, k_e, k_e, k_e, k_e, k_e, k_e, nI_clamp (by omega), nI_clamp (by omega)]
  by_cases q : (S 3 a + S 3 b) / 2 ≤ S 26 b - S 26 a
  · rw [if_pos q]
    refine ⟨_, _, rfl, fun t ht => ?_⟩
    have t0 : t = false := by rw [ht]; unfold utch; simp [q]
    rw [t0]
    exact ⟨rfl, fun m => by rw [if_neg (fun z => by cases z.1)], fun m => by rw [if_neg (fun z => by cases z.1)]⟩
  · rw [if_neg q, k_e, k_e]
    by_cases q2 : S 27 a < S 27 b
    · rw [if_pos q2, k_e, k_e, k_e, k_e, k_e, k_e, k_e, k_e, k_e, k_e, k_e, k_e, k_e, k_e, k_e, k_e, um_min, k_e, k_e, k_e, k_e, k_e, k_e, k_e]
      refine ⟨_, _, rfl, fun t ht => ?_⟩
      have t1 : t = true := by rw [ht]; unfold utch; simp [q, q2]
      rw [t1]
      refine ⟨?_, fun m => ?_, fun m => ?_⟩
      · rw [g_us]
        rfl
      · simp (decide := true) only [ug, uu, if_true, if_false, and_true, and_false, true_and, false_and]
        by_cases e1 : m = b
        · rw [if_pos e1, if_pos (Or.inr e1)]
          rfl
        · rw [if_neg e1]
          by_cases e2 : m = a
          · rw [if_pos e2, if_pos (Or.inl e2)]
            rfl
          · rw [if_neg e2, if_neg (fun z => z.elim e2 e1)]
      · simp (decide := true) only [ug, uu, if_true, if_false, and_true, and_false, true_and, false_and]
        by_cases e1 : m = b
        · rw [if_pos e1, if_pos e1]
          unfold uback
          by_cases z1 : S 26 a + (S 3 a + S 3 b) / 2 < S 36 b
          · have z2 : ¬ S 36 b < S 26 a + (S 3 a + S 3 b) / 2 := fun z => by have := gc_lt z; have := gc_lt z1; omega
            rw [if_pos z1, if_neg z2]
          · rw [if_neg z1]
            by_cases z2 : S 36 b < S 26 a + (S 3 a + S 3 b) / 2
            · rw [if_pos z2]
            · rw [if_neg z2]
              have h1 := gc_nlt z1
              have h2 := gc_nlt z2
              exact Int32.toInt_inj.mp (by omega)
        · rw [if_neg e1, if_neg e1]
    · rw [if_neg q2]
      refine ⟨_, _, rfl, fun t ht => ?_⟩
      have t0 : t = false := by rw [ht]; unfold utch; simp [q2]
      rw [t0]
      exact ⟨rfl, fun m => by rw [if_neg (fun z => by cases z.1)], fun m => by rw [if_neg (fun z => by cases z.1)]⟩
