/-! ===== the class's reader: products, sums, comparisons ===== -/
abbrev MM := (Nat → Int32) → (Nat → Nat → Int32) → (Nat → Int32) × (Nat → Nat → Int32)
abbrev ML := (Nat → Int32) → (Nat → Nat → Int32) → Int32 → (Nat → Int32) × (Nat → Nat → Int32)
def stpB (fac : MM) (b7 : ML) (F9 : Nat → Int32) (R10 : Nat → Nat → Int32) (y8 : Int32) (y26 : Int32) : (Nat → Int32) × (Nat → Nat → Int32) :=
  k_lt ((F9 531) + 1) (fun x27 => k_lt (upd F9 531 x27) (fun F29 => k_lt2 (fac F29 R10) (fun F35 R36 => k_lt3 (sp_X2_emit_25 F35 R36 y26 0) (fun r38 F42 R43 => k_lt (y8 + 1) (fun x45 => b7 F42 R43 x45)))))
def prodB41 (fac : MM) (b7 : ML) (F9 : Nat → Int32) (R10 : Nat → Nat → Int32) (y8 : Int32) : (Nat → Int32) × (Nat → Nat → Int32) :=
  k_lt (sp_X3_sign F9 R10) (fun r21 => if r21 = 42 then stpB fac b7 F9 R10 y8 8 else k_lt (sp_X3_sign F9 R10) (fun r49 => if r49 = 47 then stpB fac b7 F9 R10 y8 9 else stpB fac b7 F9 R10 y8 10))
def prodB (fac : MM) (b7 : ML) (F9 : Nat → Int32) (R10 : Nat → Nat → Int32) (y8 : Int32) : (Nat → Int32) × (Nat → Nat → Int32) :=
  if 200 ≤ y8 then (F9, R10) else k_lt (sp_X3_sign F9 R10) (fun r16 => if r16 = 42 then prodB41 fac b7 F9 R10 y8 else k_lt (sp_X3_sign F9 R10) (fun r64 => if r64 = 47 then prodB41 fac b7 F9 R10 y8 else k_lt (sp_X3_sign F9 R10) (fun r73 => if r73 = 37 then prodB41 fac b7 F9 R10 y8 else (F9, R10))))
def sumB32 (fac : MM) (b7 : ML) (F9 : Nat → Int32) (R10 : Nat → Nat → Int32) (y8 : Int32) : (Nat → Int32) × (Nat → Nat → Int32) :=
  k_lt (sp_X3_sign F9 R10) (fun r21 => if r21 = 43 then stpB fac b7 F9 R10 y8 6 else stpB fac b7 F9 R10 y8 7)
def sumB (fac : MM) (b7 : ML) (F9 : Nat → Int32) (R10 : Nat → Nat → Int32) (y8 : Int32) : (Nat → Int32) × (Nat → Nat → Int32) :=
  if 200 ≤ y8 then (F9, R10) else k_lt (sp_X3_sign F9 R10) (fun r16 => if r16 = 43 then sumB32 fac b7 F9 R10 y8 else k_lt (sp_X3_sign F9 R10) (fun r55 => if r55 = 45 then sumB32 fac b7 F9 R10 y8 else (F9, R10)))
section RC3
variable {u : Nat → Nat} {N : Nat} {Ps : PsT} {Pf : PfT} {o : Nat} {fac : MM} {L : Nat → ML}
/-- a loop of operators: k the kind of what stands between them, k' the rest's -/
theorem c_rest (hu : HU u N) {k k' : Nat} {E : Nat → Prop} {S : Nat → Prop} {c : Nat → Nat} (S256 : ¬ S 256) (c10 : ∀ n, 2 ≤ c n ∧ c n ≤ 6) (hf : CC u N Ps Pf k o E fac) (fk : ∀ n F R y, ¬ F 532 = 0 → (L n F R y).1 532 = F 532) (hs : ∀ n F R i p y, CSt u N F R i p → y < 200 → S (u i) → L (n + 1) F R (nI y) = stpB fac (L n) F R (nI y) (nI (uo (c (u i))))) (he : ∀ n F R i p y, CSt u N F R i p → y < 2 ^ 31 → ¬ S (u i) → L (n + 1) F R (nI y) = (F, R)) (r0 : ∀ i, ¬ S (u i) → Ps k' o i i 0 []) (r1 : ∀ i j j2 a a2 L L2, S (u i) → Ps k o (i + 1) j a L → Ps k' o j j2 a2 L2 → Ps k' o i j2 0 (L ++ (c (u i), 0, 0) :: L2)) (rF : ∀ i f, S (u i) → Pf k o (i + 1) f → Pf k' o i f) (rG : ∀ i j a L f, S (u i) → Ps k o (i + 1) j a L → Pf k' o j f → Pf k' o i f) (hE : ∀ n, ¬ S n → E n → E n) : ∀ d i, 200 ≤ i + d → ∀ (n p y : Nat) (F : Nat → Int32) (R : Nat → Nat → Int32), d < n → CSt u N F R i p → y ≤ i → E (u i) → CPost u N Ps Pf k' o i p (fun v => E v ∧ ¬ S v) R (L n F R (nI y)) := by
  intro d
  induction d with
  | zero =>
    intro i hi n p y F R hn h hy hE0
    obtain ⟨n, rfl⟩ : ∃ n', n = n' + 1 := ⟨n - 1, by omega⟩
    have e : u i = 256 := hu.2.2 i (by have := hu.1; omega)
    have e' : ¬ S (u i) := by rw [e]; exact S256
    rw [he n F R i p y h (by have := h.2.2.2.2.1; have := hu.1; omega) e']
    exact Or.inr ⟨i, 0, [], r0 i e', ⟨hE0, e'⟩, Nat.le_refl _, h, trivial, fun _ _ => ⟨rfl, rfl⟩⟩
  | succ d ih =>
    intro i hi n p y F R hn h hy hE0
    obtain ⟨n, rfl⟩ : ∃ n', n = n' + 1 := ⟨n - 1, by omega⟩
    by_cases q : S (u i)
    · have q2 : u i ≠ 256 := fun z => S256 (z ▸ q)
      have hiN := HU_in hu q2
      have hN := hu.1
      have hp := h.2.2.2.1
      rw [hs n F R i p y h (by omega) q]
      unfold stpB
      simp only [k_e, k_e2, k_e3]
      rcases hf _ R (i + 1) p (c_adv hu h q2) with ⟨f, f1, f2, f3⟩ | ⟨j, a, L1, g1, g2, g3, g4, g5, g6⟩
      · refine Or.inl ⟨f, f1, rF i f q f2, ?_⟩
        have e := c_emit_f (R := (fac (upd F 531 (F 531 + 1)) R).2) (F := (fac (upd F 531 (F 531 + 1)) R).1) (nI (uo (c (u i)))) 0 532 (by decide)
        rw [fk _ _ _ _ (by rw [e, f3]; exact f1), e, f3]
      · have C := c_one (c := (c (u i), 0, 0)) (x := nI (uo (c (u i)))) (y := 0) hu g4 (by omega) rfl (fun z => by have := c10 (u i); simp only at z; omega)
        rw [nI_1]
        rcases ih j (by omega) n (p + L1.length + 1) (y + 1) _ _ (by omega) C.1 (by omega) g2 with ⟨f, f1, f2, f3⟩ | ⟨j2, a2, L2, l1, l2, l3, l4, l5, l6⟩
        · exact Or.inl ⟨f, f1, rG i j a L1 f q g1 f2, f3⟩
        · have el : (L1 ++ (c (u i), 0, 0) :: L2).length = L1.length + 1 + L2.length := by simp; omega
          refine Or.inr ⟨j2, 0, _, r1 i j j2 a a2 L1 L2 q g1 l1, l2, by omega, ?_, c_cat g5 (fun z hz => C.2.2 z (by omega)) C.2.1 l6 l5, fun z hz => ?_⟩
          · rw [el, ← Nat.add_assoc, ← Nat.add_assoc]
            exact l4
          · have e1 := l6 z (by omega)
            have e2 := C.2.2 z (by omega)
            have e3 := g6 z hz
            exact ⟨e1.1.trans (e2.1.trans e3.1), e1.2.trans (e2.2.trans e3.2)⟩
    · rw [he n F R i p y h (by have := h.2.2.2.2.1; have := hu.1; omega) q]
      exact Or.inr ⟨i, 0, [], r0 i q, ⟨hE0, q⟩, Nat.le_refl _, h, trivial, fun _ _ => ⟨rfl, rfl⟩⟩
/-- two, one behind the other -/
theorem c_two (hu : HU u N) {k1 k2 k3 : Nat} {E1 E2 : Nat → Prop} {i p : Nat} {R : Nat → Nat → Int32} {Z1 Z2 : (Nat → Int32) × (Nat → Nat → Int32)} (h1 : CPost u N Ps Pf k1 o i p E1 R Z1) (fk : ¬ Z1.1 532 = 0 → Z2.1 532 = Z1.1 532) (h2 : ∀ j p2, CSt u N Z1.1 Z1.2 j p2 → E1 (u j) → CPost u N Ps Pf k2 o j p2 E2 Z1.2 Z2) (r : ∀ j j2 a a2 L L2, Ps k1 o i j a L → Ps k2 o j j2 a2 L2 → Ps k3 o i j2 0 (L ++ L2)) (rF : ∀ f, Pf k1 o i f → Pf k3 o i f) (rG : ∀ j a L f, Ps k1 o i j a L → Pf k2 o j f → Pf k3 o i f) : CPost u N Ps Pf k3 o i p E2 R Z2 := by
  rcases h1 with ⟨f, f1, f2, f3⟩ | ⟨j, a, L1, g1, g2, g3, g4, g5, g6⟩
  · exact Or.inl ⟨f, f1, rF f f2, by rw [fk (by rw [f3]; exact f1), f3]⟩
  · rcases h2 j _ g4 g2 with ⟨f, f1, f2, f3⟩ | ⟨j2, a2, L2, l1, l2, l3, l4, l5, l6⟩
    · exact Or.inl ⟨f, f1, rG j a L1 f g1 f2, f3⟩
    · refine Or.inr ⟨j2, 0, L1 ++ L2, r j j2 a a2 L1 L2 g1 l1, l2, by rw [List.length_append]; omega, ?_, ?_, fun z hz => ?_⟩
      · rw [List.length_append, ← Nat.add_assoc]
        exact l4
      · rw [CodeC_app]
        exact ⟨CodeC_eq L1 p (fun k a b => l6 k (by omega)) g5, l5⟩
      · have e1 := l6 z (by omega)
        have e2 := g6 z hz
        exact ⟨e1.1.trans e2.1, e1.2.trans e2.2⟩
theorem c_prod (hu : HU u N) (hR : Rules u Ps Pf) (hf : CC u N Ps Pf 0 o (fun _ => True) fac) (hL : ∀ n F R y, L (n + 1) F R y = prodB fac (L n) F R y) (hL0 : ∀ F R y, L 0 F R y = (F, R)) : (∀ n F R y, ¬ F 532 = 0 → (L n F R y).1 532 = F 532) ∧ CC u N Ps Pf 2 o (fun v => ¬ mul v) (fun F R => k_lt2 (fac F R) (fun F5 R6 => L 8589934592 F5 R6 0)) := by
  have fk : ∀ n F R y, ¬ F 532 = 0 → (L n F R y).1 532 = F 532 := by
    intro n F R y h
    cases n with
    | zero => rw [hL0]
    | succ n =>
      rw [hL]
      unfold prodB
      simp only [k_e]
      rw [c_none h]
      have n1 : ¬ (-1 : Int32) = 42 := by decide
      have n2 : ¬ (-1 : Int32) = 47 := by decide
      have n3 : ¬ (-1 : Int32) = 37 := by decide
      rw [if_neg n1, if_neg n2, if_neg n3]
      split <;> rfl
  refine ⟨fk, fun F R i p h => ?_⟩
  dsimp only
  rw [k_e2]
  have B : ∀ n F R i p y, CSt u N F R i p → y < 2 ^ 31 → L (n + 1) F R (nI y) = if 200 ≤ y then (F, R) else if mul (u i) then stpB fac (L n) F R (nI y) (nI (uo (mop (u i)))) else (F, R) := by
    intro n F R i p y h q31
    have hle := HU_le hu i
    rw [hL]
    unfold prodB prodB41
    simp only [k_e]
    rw [c_sign hu h, if_sg 42 42 rfl hle (by omega), if_sg 47 47 rfl hle (by omega), if_sg 42 42 rfl hle (by omega), if_sg 47 47 rfl hle (by omega), if_sg 37 37 rfl hle (by omega)]
    by_cases q : 200 ≤ y
    · rw [if_pos (show (200 : Int32) ≤ nI y from nI_le (a := 200) q q31), if_pos q]
    · rw [if_neg (show ¬ (200 : Int32) ≤ nI y from nI_ge (a := y) (b := 200) (by omega) (by omega)), if_neg q]
      unfold mul mop
      by_cases q1 : u i = 42
      · simp only [q1, if_true, true_or]
        rfl
      · by_cases q2 : u i = 47
        · simp (decide := true) only [q2, if_true, if_false, true_or, or_true]
          rfl
        · by_cases q3 : u i = 37
          · simp (decide := true) only [q3, if_true, if_false, true_or, or_true]
            rfl
          · simp only [q1, q2, q3, if_false, or_self]
  have hR1 := c_rest (E := fun _ => True) (S := mul) (c := mop) hu (by decide) (fun n => by unfold mop; split; omega; split <;> omega) hf fk (fun n F R i p y h1 h2 h3 => by rw [B n F R i p y h1 (by omega), if_neg (by omega), if_pos h3]) (fun n F R i p y h1 h2 h3 => by rw [B n F R i p y h1 h2, if_neg h3]; split <;> rfl) (fun i q => ru_pr0 hR o i q) (fun i j j2 a a2 L L2 q h1 h2 => ru_pr1 hR o i j j2 L L2 q h1 h2) (fun i f q h1 => ru_prF hR o i f q h1) (fun i j a L f q h1 h2 => ru_prG hR o i j L f q h1 h2) (fun _ _ h => h)
  refine c_two (k1 := 0) (k2 := 1) (E1 := fun _ => True) hu (hf F R i p h) (fun z => fk _ _ _ _ z) (fun j p2 h2 _ => ?_) (fun j j2 a a2 L L2 h1 h2 => ru_pd hR o i j j2 L L2 h1 h2) (fun f h1 => ru_pdF hR o i f h1) (fun j a L f h1 h2 => ru_pdG hR o i j L f h1 h2)
  rcases hR1 200 j (by omega) 8589934592 p2 0 _ _ (by omega) h2 (by omega) trivial with z | ⟨j2, a2, L2, l1, l2, l3⟩
  · exact Or.inl z
  · exact Or.inr ⟨j2, a2, L2, l1, l2.2, l3⟩
theorem c_sum (hu : HU u N) (hR : Rules u Ps Pf) (hf : CC u N Ps Pf 2 o (fun v => ¬ mul v) fac) (hL : ∀ n F R y, L (n + 1) F R y = sumB fac (L n) F R y) (hL0 : ∀ F R y, L 0 F R y = (F, R)) : (∀ n F R y, ¬ F 532 = 0 → (L n F R y).1 532 = F 532) ∧ CC u N Ps Pf 4 o nop (fun F R => k_lt2 (fac F R) (fun F5 R6 => L 8589934592 F5 R6 0)) := by
  have fk : ∀ n F R y, ¬ F 532 = 0 → (L n F R y).1 532 = F 532 := by
    intro n F R y h
    cases n with
    | zero => rw [hL0]
    | succ n =>
      rw [hL]
      unfold sumB
      simp only [k_e]
      rw [c_none h]
      have n1 : ¬ (-1 : Int32) = 43 := by decide
      have n2 : ¬ (-1 : Int32) = 45 := by decide
      rw [if_neg n1, if_neg n2]
      split <;> rfl
  refine ⟨fk, fun F R i p h => ?_⟩
  dsimp only
  rw [k_e2]
  have B : ∀ n F R i p y, CSt u N F R i p → y < 2 ^ 31 → L (n + 1) F R (nI y) = if 200 ≤ y then (F, R) else if adds (u i) then stpB fac (L n) F R (nI y) (nI (uo (aop (u i)))) else (F, R) := by
    intro n F R i p y h q31
    have hle := HU_le hu i
    rw [hL]
    unfold sumB sumB32
    simp only [k_e]
    rw [c_sign hu h, if_sg 43 43 rfl hle (by omega), if_sg 43 43 rfl hle (by omega), if_sg 45 45 rfl hle (by omega)]
    by_cases q : 200 ≤ y
    · rw [if_pos (show (200 : Int32) ≤ nI y from nI_le (a := 200) q q31), if_pos q]
    · rw [if_neg (show ¬ (200 : Int32) ≤ nI y from nI_ge (a := y) (b := 200) (by omega) (by omega)), if_neg q]
      unfold adds aop
      by_cases q1 : u i = 43
      · simp only [q1, if_true, true_or]
        rfl
      · by_cases q2 : u i = 45
        · simp (decide := true) only [q2, if_true, if_false, true_or, or_true]
          rfl
        · simp only [q1, q2, if_false, or_self]
  have hR1 := c_rest (E := fun v => ¬ mul v) (S := adds) (c := aop) hu (by decide) (fun n => by unfold aop; split <;> omega) hf fk (fun n F R i p y h1 h2 h3 => by rw [B n F R i p y h1 (by omega), if_neg (by omega), if_pos h3]) (fun n F R i p y h1 h2 h3 => by rw [B n F R i p y h1 h2, if_neg h3]; split <;> rfl) (fun i q => ru_sr0 hR o i q) (fun i j j2 a a2 L L2 q h1 h2 => ru_sr1 hR o i j j2 L L2 q h1 h2) (fun i f q h1 => ru_srF hR o i f q h1) (fun i j a L f q h1 h2 => ru_srG hR o i j L f q h1 h2) (fun _ _ h => h)
  refine c_two (k1 := 2) (k2 := 3) (E1 := fun v => ¬ mul v) hu (hf F R i p h) (fun z => fk _ _ _ _ z) (fun j p2 h2 h3 => ?_) (fun j j2 a a2 L L2 h1 h2 => ru_sm hR o i j j2 L L2 h1 h2) (fun f h1 => ru_smF hR o i f h1) (fun j a L f h1 h2 => ru_smG hR o i j L f h1 h2)
  rcases hR1 200 j (by omega) 8589934592 p2 0 _ _ (by omega) h2 (by omega) h3 with z | ⟨j2, a2, L2, l1, l2, l3⟩
  · exact Or.inl z
  · exact Or.inr ⟨j2, a2, L2, l1, l2, l3⟩
end RC3
