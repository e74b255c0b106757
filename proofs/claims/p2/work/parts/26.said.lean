/-! ===== the reader of laws: what waits, what is said ===== -/
def WS (w : Nat → Int32) : List (Int × Nat) → Prop
  | [] => True
  | q :: L => (w L.length).toInt = 1048576 * q.1 + q.2 ∧ 0 ≤ q.1 ∧ q.1 ≤ 14 ∧ (q.2 : Int) < 1048576 ∧ WS w L
theorem WS_u {w : Nat → Int32} {i : Nat} {v : Int32} : ∀ {L : List (Int × Nat)}, WS w L → L.length ≤ i → WS (upd w i v) L
  | [], _, _ => trivial
  | q :: L, h, hi => by
    obtain ⟨h1, h2, h3, h4, h5⟩ := h
    have hl : L.length < i := hi
    refine ⟨?_, h2, h3, h4, WS_u h5 (Nat.le_of_lt hl)⟩
    rw [g_un (by simp; omega)]
    exact h1
theorem WS_push {w : Nat → Int32} {L : List (Int × Nat)} {v : Int32} {o : Int} {r : Nat} (h : WS w L) (hv : v.toInt = 1048576 * o + r) (ho : 0 ≤ o ∧ o ≤ 14) (hr : (r : Int) < 1048576) : WS (upd w L.length v) ((o, r) :: L) :=
  ⟨by rw [g_us]; exact hv, ho.1, ho.2, hr, WS_u h (Nat.le_refl _)⟩
theorem WS_top {w : Nat → Int32} {L : List (Int × Nat)} {o : Int} {r : Nat} (h : WS w ((o, r) :: L)) : g_op (w L.length) = o ∧ g_arg (w L.length) = r := by
  obtain ⟨h1, h2, h3, h4, h5⟩ := h
  simp only at h1 h2 h3 h4
  unfold g_op g_arg
  omega
/-- how many of those that wait become codes -/
def cg : List (Int × Nat) → Int
  | [] => 0
  | q :: L => cg L + (if 2 ≤ q.1 ∧ q.1 ≤ 6 ∨ q.1 = 10 then 1 else 0)
/-- .. and how many of them want two numbers -/
def cb : List (Int × Nat) → Int
  | [] => 0
  | q :: L => cb L + (if 2 ≤ q.1 ∧ q.1 ≤ 6 then 1 else 0)
theorem cg_0 : ∀ L : List (Int × Nat), 0 ≤ cb L ∧ cb L ≤ cg L
  | [] => ⟨Int.le_refl _, Int.le_refl _⟩
  | q :: L => by
    have h := cg_0 L
    simp only [cg, cb]
    split <;> split <;> omega
theorem cg_app : ∀ M L : List (Int × Nat), cg (M ++ L) = cg M + cg L
  | [], L => by simp [cg]
  | q :: M, L => by
    have h := cg_app M L
    show cg (M ++ L) + _ = cg M + _ + cg L
    omega
/-- a code's needs, met by the height h in front of it -/
def g_need (x : Int32) (h : Int) : Prop := (g_op x = 1 → g_arg x ≤ 11) ∧ (2 ≤ g_op x → 1 ≤ h) ∧ (2 ≤ g_op x → g_op x ≤ 9 → 2 ≤ h)
def PC (f : Nat → Int32) (A n : Nat) (L : List (Int × Nat)) : Prop :=
  A ≤ n ∧ (∀ k, A ≤ k → k < n → g_need (f k) (g_ht f A (k - A)) ∧ (11 ≤ g_op (f k) → ((k : Int) < g_arg (f k) ∧ g_arg (f k) ≤ n ∧ g_ht f A ((g_arg (f k)).toNat - A) = g_ht f A (k - A)) ∨ ∃ o, (o, k) ∈ L ∧ 11 ≤ o ∧ o ≤ 12)) ∧ (∀ q ∈ L, 11 ≤ q.1 → q.1 ≤ 12 → A ≤ q.2 ∧ q.2 < n ∧ 11 ≤ g_op (f q.2) ∧ g_ht f A (q.2 - A) = 1)
theorem g_ht_eq {f g : Nat → Int32} {a : Nat} : ∀ {n : Nat}, (∀ k, a ≤ k → k < a + n → g_dl (g k) = g_dl (f k)) → g_ht g a n = g_ht f a n
  | 0, _ => rfl
  | n + 1, h => by
    rw [g_ht, g_ht, g_ht_eq (n := n) (fun k h1 h2 => h k h1 (by omega)), h (a + n) (by omega) (by omega)]
theorem g_ht_u {f : Nat → Int32} {a n i : Nat} {v : Int32} (h : a + n ≤ i) : g_ht (upd f i v) a n = g_ht f a n := g_ht_eq (fun k h1 h2 => by rw [g_un (by simp; omega)])
theorem PC_0 (f : Nat → Int32) (A : Nat) {L : List (Int × Nat)} (hL : ∀ q ∈ L, ¬ (11 ≤ q.1 ∧ q.1 ≤ 12)) : PC f A A L := ⟨Nat.le_refl _, fun k h1 h2 => absurd h1 (by omega), fun q hq h1 h2 => absurd ⟨h1, h2⟩ (hL q hq)⟩
theorem PC_note {f : Nat → Int32} {A n : Nat} {L : List (Int × Nat)} {x : Int32} (h : PC f A n L) (hx : g_need x (g_ht f A (n - A))) (ho : g_op x < 11) : PC (upd f n x) A (n + 1) L := by
  obtain ⟨h0, h1, h2⟩ := h
  refine ⟨by omega, fun k hk1 hk2 => ?_, fun q hq q1 q2 => ?_⟩
  · by_cases e : n = k
    · subst e
      rw [g_us, g_ht_u (by omega)]
      exact ⟨hx, fun q => absurd q (by omega)⟩
    · obtain ⟨a, b⟩ := h1 k hk1 (by omega)
      rw [g_un (by simpa using e), g_ht_u (by omega)]
      refine ⟨a, fun q => ?_⟩
      rcases b q with ⟨b1, b2, b3⟩ | b
      · exact Or.inl ⟨b1, by omega, by rw [g_ht_u (by omega)]; exact b3⟩
      · exact Or.inr b
  · obtain ⟨a, b, c, d⟩ := h2 q hq q1 q2
    rw [g_un (by simp; omega), g_ht_u (by omega)]
    exact ⟨a, by omega, c, d⟩
/-- a jump is said, and waits for its place -/
theorem PC_jump {f : Nat → Int32} {A n : Nat} {L : List (Int × Nat)} {x : Int32} {o : Int} (h : PC f A n L) (hh : g_ht f A (n - A) = 1) (ho : 11 ≤ g_op x) (ho2 : 11 ≤ o ∧ o ≤ 12) : PC (upd f n x) A (n + 1) ((o, n) :: L) := by
  obtain ⟨h0, h1, h2⟩ := h
  refine ⟨by omega, fun k hk1 hk2 => ?_, fun q hq q1 q2 => ?_⟩
  · by_cases e : n = k
    · subst e
      rw [g_us, g_ht_u (by omega), hh]
      exact ⟨⟨fun q => absurd q (by omega), fun _ => Int.le_refl _, fun _ q => absurd q (by omega)⟩, fun _ => Or.inr ⟨o, List.mem_cons_self, ho2⟩⟩
    · obtain ⟨a, b⟩ := h1 k hk1 (by omega)
      rw [g_un (by simpa using e), g_ht_u (by omega)]
      refine ⟨a, fun q => ?_⟩
      rcases b q with ⟨b1, b2, b3⟩ | ⟨o2, b1, b2⟩
      · exact Or.inl ⟨b1, by omega, by rw [g_ht_u (by omega)]; exact b3⟩
      · exact Or.inr ⟨o2, List.mem_cons_of_mem _ b1, b2⟩
  · rcases List.mem_cons.mp hq with e | hq
    · subst e
      show A ≤ n ∧ n < n + 1 ∧ 11 ≤ g_op (upd f n x n) ∧ g_ht (upd f n x) A (n - A) = 1
      rw [g_us, g_ht_u (by omega)]
      exact ⟨h0, by omega, ho, hh⟩
    · obtain ⟨a, b, c, d⟩ := h2 q hq q1 q2
      rw [g_un (by simp; omega), g_ht_u (by omega)]
      exact ⟨a, by omega, c, d⟩
theorem PC_pop {f : Nat → Int32} {A n : Nat} {L : List (Int × Nat)} {o : Int} {r : Nat} (h : PC f A n ((o, r) :: L)) (ho : ¬ (11 ≤ o ∧ o ≤ 12)) : PC f A n L := by
  obtain ⟨h0, h1, h2⟩ := h
  refine ⟨h0, fun k hk1 hk2 => ?_, fun q hq => h2 q (List.mem_cons_of_mem _ hq)⟩
  obtain ⟨a, b⟩ := h1 k hk1 hk2
  refine ⟨a, fun q => ?_⟩
  rcases b q with b | ⟨o2, b1, b2⟩
  · exact Or.inl b
  · rcases List.mem_cons.mp b1 with e | b1
    · cases e
      exact absurd b2 ho
    · exact Or.inr ⟨o2, b1, b2⟩
theorem PC_push {f : Nat → Int32} {A n : Nat} {L : List (Int × Nat)} {o : Int} {r : Nat} (h : PC f A n L) (ho : ¬ (11 ≤ o ∧ o ≤ 12)) : PC f A n ((o, r) :: L) := by
  obtain ⟨h0, h1, h2⟩ := h
  refine ⟨h0, fun k hk1 hk2 => ?_, fun q hq q1 q2 => ?_⟩
  · obtain ⟨a, b⟩ := h1 k hk1 hk2
    refine ⟨a, fun q => ?_⟩
    rcases b q with b | ⟨o2, b1, b2⟩
    · exact Or.inl b
    · exact Or.inr ⟨o2, List.mem_cons_of_mem _ b1, b2⟩
  · rcases List.mem_cons.mp hq with e | hq
    · subst e
      exact absurd ⟨q1, q2⟩ ho
    · exact h2 q hq q1 q2
/-- a jump finds its place: here -/
theorem PC_land {f : Nat → Int32} {A n : Nat} {L : List (Int × Nat)} {o : Int} {r : Nat} {x : Int32} (h : PC f A n ((o, r) :: L)) (ho : 11 ≤ o ∧ o ≤ 12) (hh : g_ht f A (n - A) = 1) (hx : g_op x = g_op (f r)) (hy : g_arg x = n) : PC (upd f r x) A n L := by
  obtain ⟨h0, h1, h2⟩ := h
  obtain ⟨r1, r2, r3, r4⟩ := h2 _ List.mem_cons_self ho.1 ho.2
  simp only at r1 r2 r3 r4
  have hd : ∀ k, g_dl (upd f r x k) = g_dl (f k) := by
    intro k
    by_cases e : r = k
    · subst e
      rw [g_us]
      unfold g_dl
      rw [hx]
    · rw [g_un (by simpa using e)]
  have hH : ∀ m, g_ht (upd f r x) A m = g_ht f A m := fun m => g_ht_eq (fun k _ _ => hd k)
  have hO : ∀ k, g_op (upd f r x k) = g_op (f k) := by
    intro k
    by_cases e : r = k
    · subst e
      rw [g_us, hx]
    · rw [g_un (by simpa using e)]
  refine ⟨h0, fun k hk1 hk2 => ?_, fun q hq q1 q2 => ?_⟩
  · obtain ⟨a, b⟩ := h1 k hk1 hk2
    rw [hH]
    by_cases e : r = k
    · subst e
      rw [g_us]
      refine ⟨⟨fun q => absurd q (by omega), fun _ => by omega, fun _ q => absurd q (by omega)⟩, fun _ => Or.inl ⟨by omega, by omega, ?_⟩⟩
      rw [hy, hH, show ((n : Int)).toNat = n from rfl, hh, r4]
    · rw [g_un (by simpa using e)]
      refine ⟨a, fun q => ?_⟩
      rcases b q with ⟨b1, b2, b3⟩ | ⟨o2, b1, b2⟩
      · exact Or.inl ⟨b1, b2, by rw [hH]; exact b3⟩
      · rcases List.mem_cons.mp b1 with e2 | b1
        · cases e2
          exact absurd rfl e
        · exact Or.inr ⟨o2, b1, b2⟩
  · obtain ⟨a, b, c, d⟩ := h2 q (List.mem_cons_of_mem _ hq) q1 q2
    rw [hO, hH]
    exact ⟨a, b, c, d⟩
theorem PC_end {f : Nat → Int32} {A n : Nat} (h : PC f A n []) : g_wf f A n := by
  intro k hk1 hk2
  obtain ⟨⟨a, b, c⟩, d⟩ := h.2.1 k hk1 hk2
  refine ⟨a, b, c, fun q => ?_⟩
  rcases d q with d | ⟨o, d, _⟩
  · exact d
  · exact absurd d List.not_mem_nil
theorem g_wf_eq {f g : Nat → Int32} {a b : Nat} (h : ∀ k, a ≤ k → k < b → g k = f k) (hw : g_wf f a b) : g_wf g a b := by
  have hH : ∀ m, a + m ≤ b → g_ht g a m = g_ht f a m := fun m hm => g_ht_eq (fun k h1 h2 => by rw [h k h1 (by omega)])
  intro k hk1 hk2
  obtain ⟨w1, w2, w3, w4⟩ := hw k hk1 hk2
  rw [h k hk1 hk2, hH _ (by omega)]
  refine ⟨w1, w2, w3, fun q => ?_⟩
  obtain ⟨q1, q2, q3⟩ := w4 q
  exact ⟨q1, q2, by rw [hH _ (by omega)]; exact q3⟩
