/-! ===== codes that are read are well made ===== -/
def hst (o h : Nat) : Nat := if o ≤ 1 then h + 1 else if o = 10 then h else h - 1
def ht : List Cd → Nat → Nat
  | [], h => h
  | c :: L, h => ht L (hst c.1 h)
def jok (c : Cd) (L : List Cd) (h : Nat) : Prop := 1 ≤ c.2.1 ∧ c.2.1 ≤ c.2.2 ∧ c.2.2 ≤ L.length + 1 ∧ ht (L.take (c.2.1 - 1)) (h - 1) = h ∧ ht (L.take (c.2.2 - 1)) (h - 1) = h ∧ (c.2.1 = c.2.2 ∨ ∃ a' b', L[c.2.1 - 1]? = some (c.1, a', b') ∧ c.2.1 + b' = c.2.2)
def okc : List Cd → Nat → Prop
  | [], h => h ≤ 30
  | c :: L, h => h ≤ 30 ∧ c.1 ≤ 12 ∧ (c.1 ≤ 1 → c.2.1 < 1048576) ∧ (c.1 = 1 → c.2.1 < 12) ∧ (c.1 = 10 → 1 ≤ h) ∧ (2 ≤ c.1 → c.1 ≤ 9 → 2 ≤ h) ∧ (11 ≤ c.1 → 1 ≤ h ∧ jok c L h) ∧ okc L (hst c.1 h)
def bok : Bool → List Cd → Prop
  | _, [] => True
  | b, c :: L => (10 ≤ c.1 → b = true) ∧ bok (decide (7 ≤ c.1 ∧ c.1 ≤ 10)) L
def eb : Bool → List Cd → Bool
  | b, [] => b
  | _, c :: L => eb (decide (7 ≤ c.1 ∧ c.1 ≤ 10)) L
theorem ht_app : ∀ (L1 L2 : List Cd) (h : Nat), ht (L1 ++ L2) h = ht L2 (ht L1 h)
  | [], _, _ => rfl
  | c :: L1, L2, h => ht_app L1 L2 (hst c.1 h)
theorem eb_app : ∀ (L1 L2 : List Cd) (b : Bool), eb b (L1 ++ L2) = eb (eb b L1) L2
  | [], _, _ => rfl
  | c :: L1, L2, b => eb_app L1 L2 _
theorem bok_app : ∀ (L1 L2 : List Cd) (b : Bool), bok b L1 → bok (eb b L1) L2 → bok b (L1 ++ L2)
  | [], _, _, _, h => h
  | c :: L1, L2, b, h1, h2 => ⟨h1.1, bok_app L1 L2 _ h1.2 h2⟩
theorem jok_app {c : Cd} {L L2 : List Cd} {h : Nat} (z : jok c L h) : jok c (L ++ L2) h := by
  obtain ⟨z1, z2, z3, z4, z5, z6⟩ := z
  refine ⟨z1, z2, by rw [List.length_append]; omega, ?_, ?_, ?_⟩
  · rw [List.take_append_of_le_length (by omega)]
    exact z4
  · rw [List.take_append_of_le_length (by omega)]
    exact z5
  · rcases z6 with z6 | ⟨a', b', z6, z7⟩
    · exact Or.inl z6
    · refine Or.inr ⟨a', b', ?_, z7⟩
      have hlt : c.2.1 - 1 < L.length := by
        obtain ⟨q, _⟩ := List.getElem?_eq_some_iff.mp z6
        exact q
      rw [List.getElem?_append_left hlt]
      exact z6
theorem okc_app : ∀ (L1 L2 : List Cd) (h : Nat), okc L1 h → okc L2 (ht L1 h) → okc (L1 ++ L2) h
  | [], _, _, _, h => h
  | c :: L1, L2, h, h1, h2 => by
    obtain ⟨a1, a2, a3, a4, a5, a6, a7, a8⟩ := h1
    exact ⟨a1, a2, a3, a4, a5, a6, fun q => ⟨(a7 q).1, jok_app (a7 q).2⟩, okc_app L1 L2 _ a8 h2⟩
/-- what is known of the code at k -/
theorem okc_get : ∀ (L : List Cd) (h k : Nat), okc L h → k < L.length → ∃ c, L[k]? = some c ∧ ht (L.take k) h ≤ 30 ∧ c.1 ≤ 12 ∧ (c.1 ≤ 1 → c.2.1 < 1048576) ∧ (c.1 = 1 → c.2.1 < 12) ∧ (c.1 = 10 → 1 ≤ ht (L.take k) h) ∧ (2 ≤ c.1 → c.1 ≤ 9 → 2 ≤ ht (L.take k) h) ∧ ht (L.take (k + 1)) h = hst c.1 (ht (L.take k) h) ∧ (11 ≤ c.1 → 1 ≤ ht (L.take k) h ∧ 1 ≤ c.2.1 ∧ c.2.1 ≤ c.2.2 ∧ k + c.2.2 ≤ L.length ∧ ht (L.take (k + c.2.1)) h = ht (L.take k) h ∧ ht (L.take (k + c.2.2)) h = ht (L.take k) h ∧ (c.2.1 = c.2.2 ∨ ∃ a' b', L[k + c.2.1]? = some (c.1, a', b') ∧ c.2.1 + b' = c.2.2))
  | [], h, k, _, hk => by simp at hk
  | c :: L, h, 0, z, _ => by
    obtain ⟨a1, a2, a3, a4, a5, a6, a7, a8⟩ := z
    refine ⟨c, rfl, a1, a2, a3, a4, a5, a6, rfl, fun q => ?_⟩
    obtain ⟨b0, b1, b2, b3, b4, b5, b6⟩ := a7 q
    have e10 : hst c.1 h = h - 1 := by
      unfold hst
      rw [if_neg (by omega), if_neg (by omega)]
    obtain ⟨x, ex⟩ : ∃ x, c.2.1 = x + 1 := ⟨c.2.1 - 1, by omega⟩
    obtain ⟨y, ey⟩ : ∃ y, c.2.2 = y + 1 := ⟨c.2.2 - 1, by omega⟩
    refine ⟨b0, b1, b2, by simp only [List.length_cons]; omega, ?_, ?_, ?_⟩
    · rw [Nat.zero_add, ex]
      show ht (L.take x) (hst c.1 h) = h
      rw [ex] at b4
      rw [e10]
      exact b4
    · rw [Nat.zero_add, ey]
      show ht (L.take y) (hst c.1 h) = h
      rw [ey] at b5
      rw [e10]
      exact b5
    · rcases b6 with b6 | ⟨a', b', b6, b7⟩
      · exact Or.inl b6
      · refine Or.inr ⟨a', b', ?_, b7⟩
        rw [Nat.zero_add, ex]
        rw [ex] at b6
        exact b6
  | c :: L, h, k + 1, z, hk => by
    obtain ⟨a1, a2, a3, a4, a5, a6, a7, a8⟩ := z
    obtain ⟨d, e0, e1, e2, e3, e4, e5, e6, e7, e8⟩ := okc_get L (hst c.1 h) k a8 (by simp only [List.length_cons] at hk; omega)
    refine ⟨d, e0, e1, e2, e3, e4, e5, e6, e7, fun q => ?_⟩
    obtain ⟨b0, b1, b2, b3, b4, b5, b6⟩ := e8 q
    refine ⟨b0, b1, b2, by simp only [List.length_cons]; omega, ?_, ?_, ?_⟩
    · rw [show k + 1 + d.2.1 = (k + d.2.1) + 1 from by omega]
      exact b4
    · rw [show k + 1 + d.2.2 = (k + d.2.2) + 1 from by omega]
      exact b5
    · rw [show k + 1 + d.2.1 = (k + d.2.1) + 1 from by omega]
      exact b6
theorem bok_get : ∀ (L : List Cd) (b : Bool) (k : Nat) (c : Cd), bok b L → L[k]? = some c → (10 ≤ c.1 → eb b (L.take k) = true) ∧ eb b (L.take (k + 1)) = decide (7 ≤ c.1 ∧ c.1 ≤ 10)
  | [], b, k, c, _, h => by simp at h
  | d :: L, b, 0, c, z, h => by
    have e : d = c := by simpa using h
    subst e
    exact ⟨z.1, rfl⟩
  | d :: L, b, k + 1, c, z, h => bok_get L _ k c z.2 h
theorem CodeC_get {r s : Nat → Int32} : ∀ (L : List Cd) (p k : Nat) (c : Cd), CodeC r s p L → L[k]? = some c → r (p + k) = nI (uo c.1) ∧ (c.1 ≤ 1 ∨ 11 ≤ c.1 → s (p + k) = cvC (p + k) c)
  | [], p, k, c, _, h => by simp at h
  | d :: L, p, 0, c, z, h => by
    have e : d = c := by simpa using h
    subst e
    exact ⟨z.1, z.2.1⟩
  | d :: L, p, k + 1, c, z, h => by
    have := CodeC_get L (p + 1) k c z.2.2 h
    rw [show p + (k + 1) = p + 1 + k from by omega]
    exact this
theorem CodeM_get {w : Nat → Int32} : ∀ (L : List Cd) (a k : Nat) (c : Cd), CodeM w a L → L[k]? = some c → w (a + k) = nI (1048576 * c.1 + cvM (a + k) c)
  | [], a, k, c, _, h => by simp at h
  | d :: L, a, 0, c, z, h => by
    have e : d = c := by simpa using h
    subst e
    exact z.1
  | d :: L, a, k + 1, c, z, h => by
    have := CodeM_get L (a + 1) k c z.2 h
    rw [show a + (k + 1) = a + 1 + k from by omega]
    exact this
theorem useg_of {r18 r19 s18 : Nat → Int32} {sz : Int32} {p a : Nat} {L : List Cd} {c : Bool} (h1 : okc L 0) (h2 : ht L 0 = 1) (h3 : bok false L) (h4 : eb false L = c) (hC : CodeC r18 r19 p L) (hM : CodeM s18 a L) (hp : p + L.length < 256) (ha : a + L.length ≤ 220) (hs : ¬ sz ≤ nI (p + L.length)) (h0 : r18 (p + L.length) = 0) : USeg r18 r19 sz s18 p a L.length c := by
  refine ⟨fun k => ht (L.take k) 0, fun k => eb false (L.take k), rfl, by show ht (L.take L.length) 0 = 1; rw [List.take_length]; exact h2, rfl, by show eb false (L.take L.length) = c; rw [List.take_length]; exact h4, fun k hk => ?_, hp, ha, hs, h0, fun k hk => ?_⟩
  · by_cases q : k < L.length
    · obtain ⟨d, e0, e1, e2⟩ := okc_get L 0 k h1 q
      exact e1
    · show ht (L.take k) 0 ≤ 30
      rw [List.take_of_length_le (by omega), h2]
      omega
  · obtain ⟨d, e0, e1, e2, e3, e4, e5, e6, e7, e8⟩ := okc_get L 0 k h1 hk
    obtain ⟨b1, b2⟩ := bok_get L false k d h3 e0
    obtain ⟨c1, c2⟩ := CodeC_get L p k d hC e0
    have m1 := CodeM_get L a k d hM e0
    refine ⟨d.1, cvM (a + k) d, e2, ?_, m1, c1, fun q => ⟨?_, ?_⟩, fun q => ?_, fun q => ⟨e5 q, ?_⟩, fun q1 q2 => ⟨e6 q1 q2, ?_⟩, fun q => ?_, fun q => b1 q, fun q => ?_⟩
    · unfold cvM
      split
      · exact e3 (by assumption)
      · split
        · omega
        · obtain ⟨_, _, f1, f2, _⟩ := e8 (by omega)
          omega
    · rw [c2 (Or.inl q)]
      unfold cvC cvM
      rw [if_pos q, if_pos q]
    · show ht (L.take (k + 1)) 0 = ht (L.take k) 0 + 1
      rw [e7]
      unfold hst
      rw [if_pos q]
    · unfold cvM
      rw [if_pos (by omega)]
      exact e4 q
    · show ht (L.take (k + 1)) 0 = ht (L.take k) 0
      rw [e7]
      unfold hst
      rw [if_neg (by omega), if_pos q]
    · show ht (L.take (k + 1)) 0 + 1 = ht (L.take k) 0
      have := e6 q1 q2
      rw [e7]
      unfold hst
      rw [if_neg (by omega), if_neg (by omega)]
      omega
    · obtain ⟨f0, f1, f2, f3, f4, f5, f6⟩ := e8 q
      refine ⟨f0, ?_, k + d.2.2, k + d.2.1, ?_, ?_, by omega, by omega, f3, f5, f4, ?_⟩
      · show ht (L.take (k + 1)) 0 + 1 = ht (L.take k) 0
        rw [e7]
        unfold hst
        rw [if_neg (by omega), if_neg (by omega)]
        omega
      · rw [c2 (Or.inr q)]
        unfold cvC
        rw [if_neg (by omega), Nat.add_assoc]
      · unfold cvM
        rw [if_neg (by omega), if_neg (by omega), Nat.add_assoc]
      · rcases f6 with f6 | ⟨a', b', g1, g2⟩
        · exact Or.inl (by rw [f6])
        · obtain ⟨c3, c4⟩ := CodeC_get L p _ _ hC g1
          have m3 := CodeM_get L a _ _ hM g1
          have hlt : k + d.2.1 < L.length := (List.getElem?_eq_some_iff.mp g1).1
          obtain ⟨d', z0, z1, z2, z3, z4, z5, z6, z7, z8⟩ := okc_get L 0 _ h1 hlt
          have ed : d' = (d.1, a', b') := by
            rw [g1] at z0
            exact (Option.some.inj z0).symm
          obtain ⟨_, _, y1, y2, _⟩ := z8 (by rw [ed]; exact q)
          rw [ed] at y1 y2
          simp only at y1 y2
          refine Or.inr ⟨cvM (a + (k + d.2.1)) (d.1, a', b'), ?_, m3, c3, ?_⟩
          · unfold cvM
            rw [if_neg (by show ¬ d.1 ≤ 1; omega), if_neg (by show ¬ d.1 ≤ 10; omega)]
            show a + (k + d.2.1) + a' < 1048576
            omega
          · rw [c4 (Or.inr q)]
            unfold cvC
            rw [if_neg (by show ¬ d.1 ≤ 1; omega)]
            show nI (p + (k + d.2.1) + b') = nI (p + (k + d.2.2))
            rw [show p + (k + d.2.1) + b' = p + (k + d.2.2) from by omega]
    · exact of_decide_eq_true (b2.symm.trans q)
/-- sums -/
def o6 (L : List Cd) : Prop := ∀ c, c ∈ L → c.1 ≤ 6
theorem o6_app {L1 L2 : List Cd} (h1 : o6 L1) (h2 : o6 L2) : o6 (L1 ++ L2) := fun c hc => by
  rcases List.mem_append.mp hc with z | z
  · exact h1 c z
  · exact h2 c z
theorem o6_cons {c : Cd} {L : List Cd} (h1 : c.1 ≤ 6) (h2 : o6 L) : o6 (c :: L) := fun d hd => by
  rcases List.mem_cons.mp hd with z | z
  · rw [z]; exact h1
  · exact h2 d z
theorem o6_bok : ∀ (L : List Cd) (b : Bool), o6 L → bok b L ∧ (b = false → eb b L = false)
  | [], _, _ => ⟨trivial, fun h => h⟩
  | c :: L, b, h => by
    have h1 := h c List.mem_cons_self
    have e : decide (7 ≤ c.1 ∧ c.1 ≤ 10) = false := decide_eq_false (by omega)
    obtain ⟨i1, i2⟩ := o6_bok L (decide (7 ≤ c.1 ∧ c.1 ≤ 10)) (fun d hd => h d (List.mem_cons_of_mem _ hd))
    exact ⟨⟨fun q => by omega, i1⟩, fun _ => i2 e⟩
def WS1 (m : Nat) (L : List Cd) : Prop := (∀ h, h ≤ m → okc L h ∧ ht L h = h + 1) ∧ o6 L
def WR1 (m : Nat) (L : List Cd) : Prop := (∀ h, h ≤ m → okc L (h + 1) ∧ ht L (h + 1) = h + 1) ∧ o6 L
def CW (L : List Cd) : Prop := okc L 0 ∧ ht L 0 = 1 ∧ bok false L ∧ eb false L = true
def CJ (o a : Nat) (L : List Cd) : Prop := CW L ∧ a ≤ L.length ∧ ht (L.take a) 0 = 1 ∧ (a = L.length ∨ ∃ a' b', L[a]? = some (o, a', b') ∧ a + b' = L.length)
theorem CW_jmp {o a : Nat} {L L2 : List Cd} (ho : o = 11 ∨ o = 12) (h1 : CW L) (h2 : CJ o a L2) : CJ o L.length (L ++ (o, 1 + a, 1 + L2.length) :: L2) := by
  obtain ⟨a1, a2, a3, a4⟩ := h1
  obtain ⟨⟨b1, b2, b3, b4⟩, b5, b6, b7⟩ := h2
  have e1 : hst o 1 = 0 := by
    rcases ho with rfl | rfl <;> rfl
  have el : (L ++ (o, 1 + a, 1 + L2.length) :: L2).length = L.length + (1 + L2.length) := by simp; omega
  refine ⟨⟨?_, ?_, ?_, ?_⟩, by rw [el]; omega, ?_, Or.inr ⟨1 + a, 1 + L2.length, ?_, by rw [el]⟩⟩
  · refine okc_app _ _ _ a1 ?_
    rw [a2]
    refine ⟨by omega, by show o ≤ 12; omega, fun q => by have : o ≤ 1 := q; omega, fun q => by have : o = 1 := q; omega, fun q => by have : o = 10 := q; omega, fun q1 q2 => by have : o ≤ 9 := q2; omega, fun _ => ⟨by omega, ?_⟩, by show okc L2 (hst o 1); rw [e1]; exact b1⟩
    refine ⟨by show 1 ≤ 1 + a; omega, by show 1 + a ≤ 1 + L2.length; omega, by show 1 + L2.length ≤ L2.length + 1; omega, ?_, ?_, ?_⟩
    · show ht (L2.take (1 + a - 1)) 0 = 1
      rw [show 1 + a - 1 = a from by omega]
      exact b6
    · show ht (L2.take (1 + L2.length - 1)) 0 = 1
      rw [show 1 + L2.length - 1 = L2.length from by omega, List.take_length]
      exact b2
    · rcases b7 with b7 | ⟨a', b', b7, b8⟩
      · left
        show 1 + a = 1 + L2.length
        rw [b7]
      · right
        refine ⟨a', b', ?_, by show 1 + a + b' = 1 + L2.length; omega⟩
        show L2[1 + a - 1]? = some (o, a', b')
        rw [show 1 + a - 1 = a from by omega]
        exact b7
  · rw [ht_app, a2]
    show ht L2 (hst o 1) = 1
    rw [e1]
    exact b2
  · refine bok_app _ _ _ a3 ?_
    rw [a4]
    refine ⟨fun _ => rfl, ?_⟩
    rw [show (decide (7 ≤ o ∧ o ≤ 10)) = false from decide_eq_false (by omega)]
    exact b3
  · rw [eb_app]
    show eb (decide (7 ≤ o ∧ o ≤ 10)) L2 = true
    rw [show (decide (7 ≤ o ∧ o ≤ 10)) = false from decide_eq_false (by omega)]
    exact b4
  · rw [List.take_append_of_le_length (Nat.le_refl _), List.take_length]
    exact a2
  · rw [List.getElem?_append_right (Nat.le_refl _), Nat.sub_self]
    rfl
theorem CJ_one {o : Nat} {L : List Cd} (h : CW L) : CJ o L.length L := ⟨h, Nat.le_refl _, by rw [List.take_length]; exact h.2.1, Or.inl rfl⟩
def PW : PsT := fun k o _ _ a L => o ≤ 6 → (match k with
  | 0 => WS1 (2 * o + 3) L
  | 1 => WR1 (2 * o + 2) L
  | 2 => WS1 (2 * o + 2) L
  | 3 => WR1 (2 * o + 1) L
  | 4 => WS1 (2 * o + 1) L
  | 5 => CW L
  | 6 => CW L
  | 7 => CJ 11 a L
  | 8 => CJ 12 a L
  | _ => True)
theorem WS_one {c : Cd} {m : Nat} (hm : m ≤ 15) (h1 : c.1 ≤ 1) (h2 : c.2.1 < 1048576) (h3 : c.1 = 1 → c.2.1 < 12) : WS1 m [c] := by
  refine ⟨fun h hh => ?_, o6_cons (by omega) (fun d hd => by cases hd)⟩
  have e : hst c.1 h = h + 1 := by
    unfold hst
    rw [if_pos h1]
  refine ⟨⟨by omega, by omega, fun _ => h2, h3, fun q => by omega, fun q => by omega, fun q => by omega, ?_⟩, e⟩
  rw [e]
  show h + 1 ≤ 30
  omega
theorem WR_nil {m : Nat} (hm : m ≤ 15) : WR1 m [] := ⟨fun h hh => ⟨by show h + 1 ≤ 30; omega, rfl⟩, fun d hd => by cases hd⟩
theorem WR_op {m s : Nat} {L L2 : List Cd} (hm : m ≤ 15) (hs : 2 ≤ s ∧ s ≤ 6) (h1 : WS1 (m + 1) L) (h2 : WR1 m L2) : WR1 m (L ++ (s, 0, 0) :: L2) := by
  refine ⟨fun h hh => ?_, o6_app h1.2 (o6_cons hs.2 h2.2)⟩
  obtain ⟨a1, a2⟩ := h1.1 (h + 1) (by omega)
  obtain ⟨b1, b2⟩ := h2.1 h hh
  have e : hst s (h + 1 + 1) = h + 1 := by
    unfold hst
    rw [if_neg (by omega), if_neg (by omega)]
    omega
  constructor
  · refine okc_app _ _ _ a1 ?_
    rw [a2]
    refine ⟨by omega, by show s ≤ 12; omega, fun q => by have : s ≤ 1 := q; omega, fun q => by have : s = 1 := q; omega, fun q => by have : s = 10 := q; omega, fun q1 q2 => by omega, fun q => by have : 11 ≤ s := q; omega, ?_⟩
    show okc L2 (hst s (h + 1 + 1))
    rw [e]
    exact b1
  · rw [ht_app, a2]
    show ht L2 (hst s (h + 1 + 1)) = h + 1
    rw [e]
    exact b2
theorem WS_seq {m : Nat} {L L2 : List Cd} (h1 : WS1 m L) (h2 : WR1 m L2) : WS1 m (L ++ L2) := by
  refine ⟨fun h hh => ?_, o6_app h1.2 h2.2⟩
  obtain ⟨a1, a2⟩ := h1.1 h hh
  obtain ⟨b1, b2⟩ := h2.1 h hh
  exact ⟨okc_app _ _ _ a1 (by rw [a2]; exact b1), by rw [ht_app, a2]; exact b2⟩
theorem WS_mono {m m' : Nat} {L : List Cd} (h : m ≤ m') (h1 : WS1 m' L) : WS1 m L := ⟨fun k hk => h1.1 k (by omega), h1.2⟩
theorem CW_cmp {s m : Nat} {L L2 : List Cd} (hs : 7 ≤ s ∧ s ≤ 9) (hm : 1 ≤ m) (h1 : WS1 m L) (h2 : WS1 m L2) : CW (L ++ (L2 ++ [(s, 0, 0)])) := by
  obtain ⟨a1, a2⟩ := h1.1 0 (by omega)
  obtain ⟨b1, b2⟩ := h2.1 1 hm
  have e : hst s 2 = 1 := by
    unfold hst
    rw [if_neg (by omega), if_neg (by omega)]
  have c1 : okc [(s, 0, 0)] 2 := by
    refine ⟨by omega, by show s ≤ 12; omega, fun q => by have : s ≤ 1 := q; omega, fun q => by have : s = 1 := q; omega, fun q => by have : s = 10 := q; omega, fun _ _ => by omega, fun q => by have : 11 ≤ s := q; omega, ?_⟩
    show okc [] (hst s 2)
    rw [e]
    show 1 ≤ 30
    omega
  obtain ⟨p1, p2⟩ := o6_bok L false h1.2
  obtain ⟨q1, q2⟩ := o6_bok L2 false h2.2
  have ed : decide (7 ≤ s ∧ s ≤ 10) = true := decide_eq_true (by omega)
  refine ⟨okc_app _ _ _ a1 (by rw [a2]; exact okc_app _ _ _ b1 (by rw [b2]; exact c1)), ?_, bok_app _ _ _ p1 (by rw [p2 rfl]; exact bok_app _ _ _ q1 ⟨fun q => by have : 10 ≤ s := q; omega, trivial⟩), ?_⟩
  · rw [ht_app, ht_app, a2, b2]
    exact e
  · rw [eb_app, eb_app]
    exact ed
theorem CW_not {L : List Cd} (h1 : CW L) : CW (L ++ [(10, 0, 0)]) := by
  obtain ⟨a1, a2, a3, a4⟩ := h1
  refine ⟨okc_app _ _ _ a1 ?_, ?_, bok_app _ _ _ a3 ?_, ?_⟩
  · rw [a2]
    exact ⟨by omega, by show 10 ≤ 12; omega, fun q => absurd q (by decide), fun q => absurd q (by decide), fun _ => by omega, fun _ q => absurd q (by decide), fun q => absurd q (by decide), by show 1 ≤ 30; omega⟩
  · rw [ht_app, a2]
    rfl
  · rw [a4]
    exact ⟨fun _ => rfl, trivial⟩
  · rw [eb_app]
    rfl
theorem PW_rules (u : Nat → Nat) : Rules u PW (fun _ _ _ _ => True) :=
  ⟨fun o i n h1 h2 h3 h4 h => WS_one (by omega) (by show 0 ≤ 1; omega) (by have := dv_5 h2 h3; show dv u i n < 1048576; omega) (fun q => by have : (0 : Nat) = 1 := q; omega),
   fun _ _ _ => trivial,
   fun o i h1 h => WS_one (by omega) (Nat.le_refl _) (by show lf (u i) < 1048576; omega) (fun _ => h1),
   fun _ _ _ _ _ => trivial,
   fun o i j L {_} h1 h2 h3 h4 h => WS_mono (by omega) (h3 (by omega)),
   fun _ _ _ _ {_} _ _ _ _ _ => trivial,
   fun _ _ _ _ _ _ => trivial,
   fun _ _ _ _ => trivial,
   fun o i _ h => WR_nil (by omega),
   fun o i j j2 L L2 {_} {_} h1 h2 h3 h => WR_op (by omega) (by unfold mop; split; omega; split <;> omega) (h2 h) (h3 h),
   fun _ _ _ _ _ => trivial,
   fun _ _ _ _ _ {_} _ _ _ => trivial,
   fun o i j j2 L L2 {_} {_} h1 h2 h => WS_seq (WS_mono (by omega) (h1 h)) (h2 h),
   fun _ _ _ _ => trivial,
   fun _ _ _ _ _ {_} _ _ => trivial,
   fun o i _ h => WR_nil (by omega),
   fun o i j j2 L L2 {_} {_} h1 h2 h3 h => WR_op (by omega) (by unfold aop; split <;> omega) (h2 h) (h3 h),
   fun _ _ _ _ _ => trivial,
   fun _ _ _ _ _ {_} _ _ _ => trivial,
   fun o i j j2 L L2 {_} {_} h1 h2 h => WS_seq (WS_mono (by omega) (h1 h)) (h2 h),
   fun _ _ _ _ => trivial,
   fun _ _ _ _ _ {_} _ _ => trivial,
   fun o i j j2 L L2 {_} {_} h1 h2 h3 h4 h5 h => CW_cmp (by unfold cop; split; omega; split <;> omega) (by omega) (h1 h) (h4 h),
   fun _ _ _ _ => trivial,
   fun _ _ _ _ {_} _ _ _ => trivial,
   fun _ _ _ _ _ {_} _ _ _ _ => trivial,
   fun o i j L {_} h1 h2 h3 h => CW_not (h3 (by omega)),
   fun _ _ _ _ _ _ => trivial,
   fun _ _ _ _ => trivial,
   fun o i j a L h1 h2 h3 h4 h => (h3 (by omega)).1,
   fun _ _ _ _ _ _ _ _ _ _ _ => trivial,
   fun _ _ _ _ _ _ => trivial,
   fun o i j L {_} h1 h2 h3 h => h3 h,
   fun _ _ _ _ _ _ => trivial,
   fun o i j L {_} h1 h2 h => CJ_one (h1 h),
   fun _ _ _ _ => trivial,
   fun o i j j2 a L L2 {_} h1 h2 h3 h => CW_jmp (Or.inl rfl) (h1 h) (h3 h),
   fun _ _ _ _ _ {_} _ _ _ => trivial,
   fun o i j a L h1 h2 h3 h => CJ_one (h1 h).1,
   fun _ _ _ _ => trivial,
   fun o i j j2 a a2 L L2 h1 h2 h3 h4 h => CW_jmp (Or.inr rfl) (h1 h).1 (h4 h),
   fun _ _ _ _ _ _ _ _ _ _ => trivial⟩
