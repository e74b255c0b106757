/-! ===== the reader of laws: what waits, what is said ===== -/
def WS (w : Nat → Int32) : List (Int × Nat) → Prop
  | [] => True
  | q :: L => (w L.length).toInt = 1048576 * q.1 + q.2 ∧ 0 ≤ q.1 ∧ q.1 ≤ 14 ∧ (q.2 : Int) < 1048576 ∧ WS w L
theorem WS_u {w : Nat → Int32} {i : Nat} {v : Int32} : ∀ {L : List (Int × Nat)}, WS w L → L.length ≤ i → WS (upd w i v) L
  | [], _, _ => trivial
  | q :: L, h, hi => by
    obtain ⟨h1, h2, h3, h4, h5⟩ := h
    have hl : L.length < i := hi
    refine ⟨?_, h2, h3, h4, WS_u h5 (Nat.le_of_lt hl)⟩
    rw [g_un (by simp; omega)]
    exact h1
theorem WS_push {w : Nat → Int32} {L : List (Int × Nat)} {v : Int32} {o : Int} {r : Nat} (h : WS w L) (hv : v.toInt = 1048576 * o + r) (ho : 0 ≤ o ∧ o ≤ 14) (hr : (r : Int) < 1048576) : WS (upd w L.length v) ((o, r) :: L) :=
  ⟨by rw [g_us]; exact hv, ho.1, ho.2, hr, WS_u h (Nat.le_refl _)⟩
theorem WS_top {w : Nat → Int32} {L : List (Int × Nat)} {o : Int} {r : Nat} (h : WS w ((o, r) :: L)) : g_op (w L.length) = o ∧ g_arg (w L.length) = r := by
  obtain ⟨h1, h2, h3, h4, h5⟩ := h
  simp only at h1 h2 h3 h4
  unfold g_op g_arg
  omega
/-- how many of those that wait become codes -/
def cg : List (Int × Nat) → Int
  | [] => 0
  | q :: L => cg L + (if 2 ≤ q.1 ∧ q.1 ≤ 6 ∨ q.1 = 10 then 1 else 0)
/-- .. and how many of them want two numbers -/
def cb : List (Int × Nat) → Int
  | [] => 0
  | q :: L => cb L + (if 2 ≤ q.1 ∧ q.1 ≤ 6 then 1 else 0)
theorem cg_0 : ∀ L : List (Int × Nat), 0 ≤ cb L ∧ cb L ≤ cg L
  | [] => ⟨Int.le_refl _, Int.le_refl _⟩
  | q :: L => by
    have h := cg_0 L
    simp only [cg, cb]
    split <;> split <;> omega
theorem cg_app : ∀ M L : List (Int × Nat), cg (M ++ L) = cg M + cg L
  | [], L => by simp [cg]
  | q :: M, L => by
    have h := cg_app M L
    show cg (M ++ L) + _ = cg M + _ + cg L
    omega
/-- a code's needs, met by the height h in front of it -/
def g_need (x : Int32) (h : Int) : Prop := (g_op x = 1 → g_arg x ≤ 11) ∧ (2 ≤ g_op x → 1 ≤ h) ∧ (2 ≤ g_op x → g_op x ≤ 9 → 2 ≤ h)
def PC (f : Nat → Int32) (A n : Nat) (L : List (Int × Nat)) : Prop :=
  A ≤ n ∧ (∀ k, A ≤ k → k < n → g_need (f k) (g_ht f A (k - A)) ∧ (11 ≤ g_op (f k) → ((k : Int) < g_arg (f k) ∧ g_arg (f k) ≤ n ∧ g_ht f A ((g_arg (f k)).toNat - A) = g_ht f A (k - A)) ∨ ∃ o, (o, k) ∈ L ∧ 11 ≤ o ∧ o ≤ 12)) ∧ (∀ q ∈ L, 11 ≤ q.1 → q.1 ≤ 12 → A ≤ q.2 ∧ q.2 < n ∧ 11 ≤ g_op (f q.2) ∧ g_ht f A (q.2 - A) = 1)
theorem g_ht_eq {f g : Nat → Int32} {a : Nat} : ∀ {n : Nat}, (∀ k, a ≤ k → k < a + n → g_dl (g k) = g_dl (f k)) → g_ht g a n = g_ht f a n
  | 0, _ => rfl
  | n + 1, h => by
    rw [g_ht, g_ht, g_ht_eq (n := n) (fun k h1 h2 => h k h1 (by omega)), h (a + n) (by omega) (by omega)]
theorem g_ht_u {f : Nat → Int32} {a n i : Nat} {v : Int32} (h : a + n ≤ i) : g_ht (upd f i v) a n = g_ht f a n := g_ht_eq (fun k h1 h2 => by rw [g_un (by simp; omega)])
theorem PC_0 (f : Nat → Int32) (A : Nat) {L : List (Int × Nat)} (hL : ∀ q ∈ L, ¬ (11 ≤ q.1 ∧ q.1 ≤ 12)) : PC f A A L := ⟨Nat.le_refl _, fun k h1 h2 => absurd h1 (by omega), fun q hq h1 h2 => absurd ⟨h1, h2⟩ (hL q hq)⟩
theorem PC_note {f : Nat → Int32} {A n : Nat} {L : List (Int × Nat)} {x : Int32} (h : PC f A n L) (hx : g_need x (g_ht f A (n - A))) (ho : g_op x < 11) : PC (upd f n x) A (n + 1) L := by
  obtain ⟨h0, h1, h2⟩ := h
  refine ⟨by omega, fun k hk1 hk2 => ?_, fun q hq q1 q2 => ?_⟩
  · by_cases e : n = k
    · subst e
      rw [g_us, g_ht_u (by omega)]
      exact ⟨hx, fun q => absurd q (by omega)⟩
    · obtain ⟨a, b⟩ := h1 k hk1 (by omega)
      rw [g_un (by simpa using e), g_ht_u (by omega)]
      refine ⟨a, fun q => ?_⟩
      rcases b q with ⟨b1, b2, b3⟩ | b
      · exact Or.inl ⟨b1, by omega, by rw [g_ht_u (by omega)]; exact b3⟩
      · exact Or.inr b
  · obtain ⟨a, b, c, d⟩ := h2 q hq q1 q2
    rw [g_un (by simp; omega), g_ht_u (by omega)]
    exact ⟨a, by omega, c, d⟩
/-- a jump is said, and waits for its place -/
theorem PC_jump {f : Nat → Int32} {A n : Nat} {L : List (Int × Nat)} {x : Int32} {o : Int} (h : PC f A n L) (hh : g_ht f A (n - A) = 1) (ho : 11 ≤ g_op x) (ho2 : 11 ≤ o ∧ o ≤ 12) : PC (upd f n x) A (n + 1) ((o, n) :: L) := by
  obtain ⟨h0, h1, h2⟩ := h
  refine ⟨by omega, fun k hk1 hk2 => ?_, fun q hq q1 q2 => ?_⟩
  · by_cases e : n = k
    · subst e
      rw [g_us, g_ht_u (by omega), hh]
      exact ⟨⟨fun q => absurd q (by omega), fun _ => Int.le_refl _, fun _ q => absurd q (by omega)⟩, fun _ => Or.inr ⟨o, List.mem_cons_self, ho2⟩⟩
    · obtain ⟨a, b⟩ := h1 k hk1 (by omega)
      rw [g_un (by simpa using e), g_ht_u (by omega)]
      refine ⟨a, fun q => ?_⟩
      rcases b q with ⟨b1, b2, b3⟩ | ⟨o2, b1, b2⟩
      · exact Or.inl ⟨b1, by omega, by rw [g_ht_u (by omega)]; exact b3⟩
      · exact Or.inr ⟨o2, List.mem_cons_of_mem _ b1, b2⟩
  · rcases List.mem_cons.mp hq with e | hq
    · subst e
      show A ≤ n ∧ n < n + 1 ∧ 11 ≤ g_op (upd f n x n) ∧ g_ht (upd f n x) A (n - A) = 1
      rw [g_us, g_ht_u (by omega)]
      exact ⟨h0, by omega, ho, hh⟩
    · obtain ⟨a, b, c, d⟩ := h2 q hq q1 q2
      rw [g_un (by simp; omega), g_ht_u (by omega)]
      exact ⟨a, by omega, c, d⟩
theorem PC_pop {f : Nat → Int32} {A n : Nat} {L : List (Int × Nat)} {o : Int} {r : Nat} (h : PC f A n ((o, r) :: L)) (ho : ¬ (11 ≤ o ∧ o ≤ 12)) : PC f A n L := by
  obtain ⟨h0, h1, h2⟩ := h
  refine ⟨h0, fun k hk1 hk2 => ?_, fun q hq => h2 q (List.mem_cons_of_mem _ hq)⟩
  obtain ⟨a, b⟩ := h1 k hk1 hk2
  refine ⟨a, fun q => ?_⟩
  rcases b q with b | ⟨o2, b1, b2⟩
  · exact Or.inl b
  · rcases List.mem_cons.mp b1 with e | b1
    · cases e
      exact absurd b2 ho
    · exact Or.inr ⟨o2, b1, b2⟩
theorem PC_push {f : Nat → Int32} {A n : Nat} {L : List (Int × Nat)} {o : Int} {r : Nat} (h : PC f A n L) (ho : ¬ (11 ≤ o ∧ o ≤ 12)) : PC f A n ((o, r) :: L) := by
  obtain ⟨h0, h1, h2⟩ := h
  refine ⟨h0, fun k hk1 hk2 => ?_, fun q hq q1 q2 => ?_⟩
  · obtain ⟨a, b⟩ := h1 k hk1 hk2
    refine ⟨a, fun q => ?_⟩
    rcases b q with b | ⟨o2, b1, b2⟩
    · exact Or.inl b
    · exact Or.inr ⟨o2, List.mem_cons_of_mem _ b1, b2⟩
  · rcases List.mem_cons.mp hq with e | hq
    · subst e
      exact absurd ⟨q1, q2⟩ ho
    · exact h2 q hq q1 q2
/-- a jump finds its place: here -/
theorem PC_land {f : Nat → Int32} {A n : Nat} {L : List (Int × Nat)} {o : Int} {r : Nat} {x : Int32} (h : PC f A n ((o, r) :: L)) (ho : 11 ≤ o ∧ o ≤ 12) (hh : g_ht f A (n - A) = 1) (hx : g_op x = g_op (f r)) (hy : g_arg x = n) : PC (upd f r x) A n L := by
  obtain ⟨h0, h1, h2⟩ := h
  obtain ⟨r1, r2, r3, r4⟩ := h2 _ List.mem_cons_self ho.1 ho.2
  simp only at r1 r2 r3 r4
  have hd : ∀ k, g_dl (upd f r x k) = g_dl (f k) := by
    intro k
    by_cases e : r = k
    · subst e
      rw [g_us]
      unfold g_dl
      rw [hx]
    · rw [g_un (by simpa using e)]
  have hH : ∀ m, g_ht (upd f r x) A m = g_ht f A m := fun m => g_ht_eq (fun k _ _ => hd k)
  have hO : ∀ k, g_op (upd f r x k) = g_op (f k) := by
    intro k
    by_cases e : r = k
    · subst e
      rw [g_us, hx]
    · rw [g_un (by simpa using e)]
  refine ⟨h0, fun k hk1 hk2 => ?_, fun q hq q1 q2 => ?_⟩
  · obtain ⟨a, b⟩ := h1 k hk1 hk2
    rw [hH]
    by_cases e : r = k
    · subst e
      rw [g_us]
      refine ⟨⟨fun q => absurd q (by omega), fun _ => by omega, fun _ q => absurd q (by omega)⟩, fun _ => Or.inl ⟨by omega, by omega, ?_⟩⟩
      rw [hy, hH, show ((n : Int)).toNat = n from rfl, hh, r4]
    · rw [g_un (by simpa using e)]
      refine ⟨a, fun q => ?_⟩
      rcases b q with ⟨b1, b2, b3⟩ | ⟨o2, b1, b2⟩
      · exact Or.inl ⟨b1, b2, by rw [hH]; exact b3⟩
      · rcases List.mem_cons.mp b1 with e2 | b1
        · cases e2
          exact absurd rfl e
        · exact Or.inr ⟨o2, b1, b2⟩
  · obtain ⟨a, b, c, d⟩ := h2 q (List.mem_cons_of_mem _ hq) q1 q2
    rw [hO, hH]
    exact ⟨a, b, c, d⟩
theorem PC_end {f : Nat → Int32} {A n : Nat} (h : PC f A n []) : g_wf f A n := by
  intro k hk1 hk2
  obtain ⟨⟨a, b, c⟩, d⟩ := h.2.1 k hk1 hk2
  refine ⟨a, b, c, fun q => ?_⟩
  rcases d q with d | ⟨o, d, _⟩
  · exact d
  · exact absurd d List.not_mem_nil
theorem g_wf_eq {f g : Nat → Int32} {a b : Nat} (h : ∀ k, a ≤ k → k < b → g k = f k) (hw : g_wf f a b) : g_wf g a b := by
  have hH : ∀ m, a + m ≤ b → g_ht g a m = g_ht f a m := fun m hm => g_ht_eq (fun k h1 h2 => by rw [h k h1 (by omega)])
  intro k hk1 hk2
  obtain ⟨w1, w2, w3, w4⟩ := hw k hk1 hk2
  rw [h k hk1 hk2, hH _ (by omega)]
  refine ⟨w1, w2, w3, fun q => ?_⟩
  obtain ⟨q1, q2, q3⟩ := w4 q
  exact ⟨q1, q2, by rw [hH _ (by omega)]; exact q3⟩
/-- the top of what waits, -1 where nothing does -/
def tp : List (Int × Nat) → Int
  | [] => -1
  | q :: _ => q.1
theorem WS_tp {F : Nat → Int32} {w : Nat → Int32} {L : List (Int × Nat)} {x r i : Int32} (h : WS w L) (hl : (L.length : Int) = (F 26).toInt) (hp : 1 ≤ (F 26).toInt) (ei : i.toInt = (F 26).toInt - 1) (ex : x = w i.toNatClampNeg) (er : r.toInt = x.toInt / 1048576) : r.toInt = tp L := by
  cases L with
  | nil => simp at hl; omega
  | cons q L =>
    obtain ⟨a, b⟩ := q
    have h1 := WS_top h
    have e : i.toNatClampNeg = L.length := by
      have : i.toNatClampNeg = i.toInt.toNat := rfl
      simp only [List.length_cons] at hl
      omega
    rw [ex, e] at er
    exact er.trans h1.1
theorem WS_tp0 {F : Nat → Int32} {L : List (Int × Nat)} (hl : (L.length : Int) = (F 26).toInt) (hp : (F 26).toInt = 0) : (-1 : Int32).toInt = tp L := by
  cases L with
  | nil => rfl
  | cons q L => simp only [List.length_cons] at hl; omega
/-- the reader's state: from A on, what waits, the height -/
def PS (F : Nat → Int32) (R : Nat → Nat → Int32) (A : Nat × Nat) (L : List (Int × Nat)) (h : Int) : Prop :=
  PC (R 12) A.1 (F 25).toInt.toNat L ∧ WS (R 13) L ∧ (L.length : Int) = (F 26).toInt ∧ g_ht (R 12) A.1 ((F 25).toInt.toNat - A.1) = h ∧ (F 25).toInt + cg L + (A.2 : Int) ≤ (F 15).toInt ∧ (L.length : Int) ≤ (F 15).toInt
theorem PS_e {F F' : Nat → Int32} {R R' : Nat → Nat → Int32} {A : Nat × Nat} {L : List (Int × Nat)} {h : Int} (p : PS F R A L h) (e25 : F' 25 = F 25) (e26 : F' 26 = F 26) (e15 : F' 15 = F 15) (e12 : R' 12 = R 12) (e13 : R' 13 = R 13) : PS F' R' A L h := by
  unfold PS at *
  rw [e25, e26, e15, e12, e13]
  exact p
/-- the place goes on -/
theorem PS_go {F F' : Nat → Int32} {R R' : Nat → Nat → Int32} {A : Nat × Nat} {L : List (Int × Nat)} {h : Int} (p : PS F R A L h) (e25 : F' 25 = F 25) (e26 : F' 26 = F 26) (e15 : (F 15).toInt ≤ (F' 15).toInt) (e12 : R' 12 = R 12) (e13 : R' 13 = R 13) : PS F' R' A L h := by
  unfold PS at *
  rw [e25, e26, e12, e13]
  obtain ⟨p1, p2, p3, p4, p5, p6⟩ := p
  exact ⟨p1, p2, p3, p4, by omega, by omega⟩
/-- a code that is no jump is said -/
theorem PS_note {F F' : Nat → Int32} {R R' : Nat → Nat → Int32} {A : Nat × Nat} {L : List (Int × Nat)} {h : Int} {x : Int32} (p : PS F R A L h) (h0 : 0 ≤ (F 25).toInt) (hx : g_need x h) (ho : g_op x < 11) (e25 : (F' 25).toInt = (F 25).toInt + 1) (e26 : F' 26 = F 26) (e15 : (F 25).toInt + 1 + cg L + (A.2 : Int) ≤ (F' 15).toInt) (e15b : (F 15).toInt ≤ (F' 15).toInt) (e12 : R' 12 = upd (R 12) (F 25).toInt.toNat x) (e13 : R' 13 = R 13) : PS F' R' A L (h + g_dl x) := by
  obtain ⟨p1, p2, p3, p4, p5, p6⟩ := p
  have e : (F' 25).toInt.toNat = (F 25).toInt.toNat + 1 := by omega
  unfold PS
  rw [e26, e12, e13, e]
  refine ⟨PC_note p1 (by rw [p4]; exact hx) ho, p2, p3, ?_, by omega, by omega⟩
  have hA := p1.1
  rw [show (F 25).toInt.toNat + 1 - A.1 = ((F 25).toInt.toNat - A.1) + 1 from by omega, g_ht, g_ht_u (by omega), p4, show A.1 + ((F 25).toInt.toNat - A.1) = (F 25).toInt.toNat from by omega, g_us]
/-- one that waited, and no jump, is taken away -/
theorem PS_pop {F F' : Nat → Int32} {R R' : Nat → Nat → Int32} {A : Nat × Nat} {L : List (Int × Nat)} {h : Int} {o : Int} {r : Nat} (p : PS F R A ((o, r) :: L) h) (ho : ¬ (11 ≤ o ∧ o ≤ 12)) (e25 : F' 25 = F 25) (e26 : (F' 26).toInt = (F 26).toInt - 1) (e15 : (F 15).toInt ≤ (F' 15).toInt) (e12 : R' 12 = R 12) (e13 : R' 13 = R 13) : PS F' R' A L h := by
  obtain ⟨p1, p2, p3, p4, p5, p6⟩ := p
  unfold PS
  rw [e25, e12, e13]
  simp only [List.length_cons] at p3 p6
  have hc : cg L ≤ cg ((o, r) :: L) := by
    simp only [cg]
    split <;> omega
  exact ⟨PC_pop p1 ho, p2.2.2.2.2, by omega, p4, by omega, by omega⟩
/-- one more waits -/
theorem PS_push {F F' : Nat → Int32} {R R' : Nat → Nat → Int32} {A : Nat × Nat} {L : List (Int × Nat)} {h : Int} {o : Int} {v : Int32} (p : PS F R A L h) (ho : 0 ≤ o ∧ o ≤ 14 ∧ ¬ (11 ≤ o ∧ o ≤ 12)) (hv : v.toInt = 1048576 * o) (e25 : F' 25 = F 25) (e26 : (F' 26).toInt = (F 26).toInt + 1) (e15 : (F' 15).toInt = (F 15).toInt + 1) (e12 : R' 12 = R 12) (e13 : R' 13 = upd (R 13) (F 26).toInt.toNat v) : PS F' R' A ((o, 0) :: L) h := by
  obtain ⟨p1, p2, p3, p4, p5, p6⟩ := p
  unfold PS
  have el : (F 26).toInt.toNat = L.length := by omega
  rw [e25, e12, e13, el]
  have hc : cg ((o, 0) :: L) ≤ cg L + 1 := by
    simp only [cg]
    split <;> omega
  simp only [List.length_cons]
  exact ⟨PC_push p1 ho.2.2, WS_push p2 (by omega) ⟨ho.1, ho.2.1⟩ (by decide), by omega, p4, by omega, by omega⟩
/-- a jump is said and waits: two at one sign -/
theorem PS_jump {F F' : Nat → Int32} {R R' : Nat → Nat → Int32} {A : Nat × Nat} {L : List (Int × Nat)} {o : Int} {v x : Int32} (p : PS F R A L 1) (h0 : 0 ≤ (F 25).toInt ∧ (F 25).toInt ≤ 219) (ho : o = 11 ∨ o = 12) (hv : v.toInt = 1048576 * o + (F 25).toInt) (hx : x.toInt = 1048576 * o) (e25 : (F' 25).toInt = (F 25).toInt + 1) (e26 : (F' 26).toInt = (F 26).toInt + 1) (e15 : (F' 15).toInt = (F 15).toInt + 1) (e12 : R' 12 = upd (R 12) (F 25).toInt.toNat x) (e13 : R' 13 = upd (R 13) (F 26).toInt.toNat v) : PS F' R' A ((o, (F 25).toInt.toNat) :: L) 0 := by
  obtain ⟨p1, p2, p3, p4, p5, p6⟩ := p
  unfold PS
  have el : (F 26).toInt.toNat = L.length := by omega
  have en : (F' 25).toInt.toNat = (F 25).toInt.toNat + 1 := by omega
  have hop : g_op x = o := by unfold g_op; omega
  have hc : cg ((o, (F 25).toInt.toNat) :: L) = cg L := by
    simp only [cg]
    rw [if_neg (by omega)]
    omega
  rw [e12, e13, el, en, hc]
  simp only [List.length_cons]
  have hA := p1.1
  refine ⟨PC_jump p1 p4 (by omega) (by omega), WS_push p2 (by omega) (by omega) (by omega), by omega, ?_, by omega, by omega⟩
  rw [show (F 25).toInt.toNat + 1 - A.1 = ((F 25).toInt.toNat - A.1) + 1 from by omega, g_ht, g_ht_u (by omega), p4, show A.1 + ((F 25).toInt.toNat - A.1) = (F 25).toInt.toNat from by omega, g_us]
  have := g_dl_c x
  omega
/-- a jump that waited finds its place -/
theorem PS_land {F F' : Nat → Int32} {R R' : Nat → Nat → Int32} {A : Nat × Nat} {L : List (Int × Nat)} {o : Int} {r : Nat} {x : Int32} (p : PS F R A ((o, r) :: L) 1) (h0 : 0 ≤ (F 25).toInt) (ho : o = 11 ∨ o = 12) (hx : x.toInt = 1048576 * g_op (R 12 r) + (F 25).toInt) (hn : (F 25).toInt ≤ 220) (e25 : F' 25 = F 25) (e26 : (F' 26).toInt = (F 26).toInt - 1) (e15 : F' 15 = F 15) (e12 : R' 12 = upd (R 12) r x) (e13 : R' 13 = R 13) : PS F' R' A L 1 := by
  obtain ⟨p1, p2, p3, p4, p5, p6⟩ := p
  unfold PS
  rw [e25, e12, e13, e15]
  simp only [List.length_cons] at p3 p6
  have hc : cg ((o, r) :: L) = cg L := by
    simp only [cg]
    rw [if_neg (by omega)]
    omega
  have h1 : g_op x = g_op (R 12 r) := by
    rw [g_opd x]
    omega
  have h2 : g_arg x = (F 25).toInt := by
    unfold g_arg
    omega
  have p1' := PC_land p1 (by omega) p4 h1 (by omega)
  refine ⟨p1', p2.2.2.2.2, by omega, ?_, by omega, by omega⟩
  have hd : ∀ k, g_dl (upd (R 12) r x k) = g_dl (R 12 k) := by
    intro k
    by_cases e : r = k
    · subst e
      rw [g_us]
      unfold g_dl
      rw [h1]
    · rw [g_un (by simpa using e)]
  rw [g_ht_eq (fun k _ _ => hd k)]
  exact p4
/-- a jump that waits points at a code that is said -/
theorem PS_at {F : Nat → Int32} {R : Nat → Nat → Int32} {A : Nat × Nat} {L : List (Int × Nat)} {h o : Int} {r : Nat} (p : PS F R A ((o, r) :: L) h) (ho : 11 ≤ o ∧ o ≤ 12) : A.1 ≤ r ∧ (r : Int) < (F 25).toInt := by
  obtain ⟨a, b, c, d⟩ := p.1.2.2 _ List.mem_cons_self ho.1 ho.2
  simp only at a b
  exact ⟨a, by omega⟩
