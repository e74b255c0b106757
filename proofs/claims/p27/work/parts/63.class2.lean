/-! ===== the class's reader: numbers, factors, products, sums ===== -/
section RC2
variable {u : Nat → Nat} {N : Nat} {Ps : PsT} {Pf : PfT} {o : Nat}
theorem if_sg {α : Type} {n : Nat} {a b : α} (x : Int32) (c : Nat) (hx : x = nI c) (hn : n ≤ 256) (hc : c < 256) : (if sg n = x then a else b) = if n = c then a else b := by
  subst hx
  by_cases q : n = c
  · rw [if_pos q, if_pos ((sg_eq hn hc).mpr q)]
  · rw [if_neg q, if_neg (fun z => q ((sg_eq hn hc).mp z))]
theorem sg_c {n : Nat} (hn : n ≤ 256) (c : Nat) (hc : c < 256) : (sg n = nI c) = (n = c) := propext (sg_eq hn hc)
theorem c_num_end (hu : HU u N) (hR : Rules u Ps Pf) {F : Nat → Int32} {R : Nat → Nat → Int32} {i p y : Nat} (h : CSt u N F R (i + y) p) (hp : p ≤ i) (hd : ∀ k, k < y → dig (u (i + k))) (hy : y ≤ 5) (h1 : 1 ≤ y) (hs : dig (u (i + y)) → y = 5) : CPost u N Ps Pf 0 o i p (fun _ => True) R (K_X3_number_52 F R (nI (dv u i y))) := by
  have hle := HU_le hu (i + y)
  unfold K_X3_number_52 K_X3_number_71
  simp only [k_e, k_e2, k_e3]
  rw [c_sign hu h, sg_in hle]
  by_cases q : dig (u (i + y))
  · have e := hs q
    subst e
    have hb := c_fail (k := 2) h
    have h5 := ft_2 (i := i + 5) (by have := h.2.2.2.2.1; have := hu.1; omega)
    rw [if_pos q, if_neg (by decide)]
    refine Or.inl ⟨ft 2 (i + 5), h5, ru_numF hR o i (fun k hk => ?_), ?_⟩
    · by_cases e : k = 5
      · subst e
        exact q
      · exact hd k (by omega)
    · rw [c_emit_f _ _ 532 (by decide)]
      exact hb
  · rw [if_neg q, if_pos rfl]
    have C := c_one (c := (0, dv u i y, 0)) (x := 1) (y := nI (dv u i y)) hu h (by omega) rfl (fun _ => rfl)
    exact Or.inr ⟨i + y, 0, [(0, dv u i y, 0)], ru_num hR o i y h1 hy hd q, trivial, by simp; omega, C.1, C.2.1, fun q hq => C.2.2 q (by omega)⟩
theorem c_num_loop (hu : HU u N) (hR : Rules u Ps Pf) {R : Nat → Nat → Int32} {i p : Nat} (hp : p ≤ i) (h0 : dig (u i)) : ∀ d y, y + d = 5 → ∀ (n : Nat) (F : Nat → Int32), d < n → CSt u N F R (i + y) p → (∀ k, k < y → dig (u (i + k))) → CPost u N Ps Pf 0 o i p (fun _ => True) R (K_X3_number_4 R n F (nI (dv u i y)) (nI y)) := by
  intro d
  induction d with
  | zero =>
    intro y hy n F hn h hd
    obtain ⟨n, rfl⟩ : ∃ n', n = n' + 1 := ⟨n - 1, by omega⟩
    rw [ks_X3_number_4]
    unfold KB_X3_number_4
    rw [if_pos (show (5 : Int32) ≤ nI y from nI_le (a := 5) (by omega) (by omega))]
    exact c_num_end hu hR h hp hd (by omega) (by omega) (fun _ => by omega)
  | succ d ih =>
    intro y hy n F hn h hd
    obtain ⟨n, rfl⟩ : ∃ n', n = n' + 1 := ⟨n - 1, by omega⟩
    have hle := HU_le hu (i + y)
    rw [ks_X3_number_4]
    unfold KB_X3_number_4
    rw [if_neg (show ¬ (5 : Int32) ≤ nI y from nI_ge (a := y) (b := 5) (by omega) (by omega))]
    simp only [k_e]
    rw [c_sign hu h, sg_in hle]
    by_cases q : dig (u (i + y))
    · have q' : 48 ≤ u (i + y) ∧ u (i + y) ≤ 57 := q
      have q3 : u (i + y) ≠ 256 := by omega
      rw [if_pos q, if_neg (by decide), sg_n (by omega), show nI (dv u i y) * 10 + nI (u (i + y)) - 48 = nI (dv u i (y + 1)) from ?_, nI_1]
      · refine ih (y + 1) (by omega) n _ (by omega) (c_adv hu h q3) (fun k hk => ?_)
        by_cases e : k = y
        · subst e
          exact q
        · exact hd k (by omega)
      · have e1 : nI (dv u i y) * 10 = nI (dv u i y * 10) := pk_mul _ 10
        have e2 : nI (dv u i y * 10 + u (i + y)) - nI 48 = nI (dv u i y * 10 + u (i + y) - 48) := pk_sub (by omega)
        rw [e1, nI_add]
        refine e2.trans ?_
        show _ = nI (10 * dv u i y + (u (i + y) - 48))
        rw [show dv u i y * 10 + u (i + y) - 48 = 10 * dv u i y + (u (i + y) - 48) from by omega]
    · rw [if_neg q, if_pos rfl]
      refine c_num_end hu hR h hp hd (by omega) ?_ (fun z => absurd z q)
      by_cases e : y = 0
      · subst e
        exact absurd h0 q
      · omega
theorem c_number (hu : HU u N) (hR : Rules u Ps Pf) {F : Nat → Int32} {R : Nat → Nat → Int32} {i p : Nat} (h : CSt u N F R i p) (h0 : dig (u i)) : CPost u N Ps Pf 0 o i p (fun _ => True) R (sp_X3_number F R) := by
  have := c_num_loop (o := o) hu hR h.2.2.2.1 h0 5 0 (by omega) 8589934592 F (by omega) h (fun k hk => absurd hk (by omega))
  exact this
def opsB (F : Nat → Int32) (R : Nat → Nat → Int32) : Int32 × (Nat → Int32) × (Nat → Nat → Int32) := k_lt ((F 531) + 1) (fun x1 => k_lt (upd F 531 x1) (fun F3 => (1, F3, R)))
def facB72 (F : Nat → Int32) (R : Nat → Nat → Int32) (y25 : Int32) : (Nat → Int32) × (Nat → Nat → Int32) :=
  if 0 ≤ y25 then k_lt ((F 531) + 1) (fun x29 => k_lt (upd F 531 x29) (fun F31 => k_lt3 (sp_X2_emit_25 F31 R 2 y25) (fun r33 F37 R38 => (F37, R38)))) else k_lt2 (sp_X3_fail F R 1) (fun F46 R47 => (F46, R47))
def facN (F : Nat → Int32) (R : Nat → Nat → Int32) : (Nat → Int32) × (Nat → Nat → Int32) :=
  k_lt (sp_X3_sign F R) (fun r8 => k_lt (g_in r8 48 57) (fun r13 => if r13 = 0 then k_lt (sp_X3_sign F R) (fun r20 => if r20 = (-1) then facB72 F R (-1) else k_lt (sp_X3_sign F R) (fun r51 => k_lt ((r51.toUInt32 % 65536).toInt32) (fun x56 => k_lt (sp_J0_indexOf_0f7a4_s1 x56) (fun r58 => facB72 F R r58)))) else k_lt2 (sp_X3_number F R) (fun F71 R72 => (F71, R72))))
def facB (nxt : (Nat → Int32) → (Nat → Nat → Int32) → (Nat → Int32) × (Nat → Nat → Int32)) (F : Nat → Int32) (R : Nat → Nat → Int32) : (Nat → Int32) × (Nat → Nat → Int32) :=
  k_lt (sp_X3_sign F R) (fun r1 => if r1 = 91 then k_lt3 (opsB F R) (fun r76 F80 R81 => k_lt2 (nxt F80 R81) (fun F88 R89 => k_lt2 (sp_X3_pass F88 R89 93) (fun F95 R96 => (F95, R96)))) else facN F R)
def facB6 (F : Nat → Int32) (R : Nat → Nat → Int32) : (Nat → Int32) × (Nat → Nat → Int32) :=
  k_lt (sp_X3_sign F R) (fun r1 => if r1 = 91 then k_lt3 (sp_X3_opens_c6 F R) (fun r76 F80 R81 => (F80, R81)) else facN F R)
theorem c_facN (hu : HU u N) (hR : Rules u Ps Pf) {F : Nat → Int32} {R : Nat → Nat → Int32} {i p : Nat} (h : CSt u N F R i p) (h91 : u i ≠ 91) : CPost u N Ps Pf 0 o i p (fun _ => True) R (facN F R) := by
  have hle := HU_le hu i
  have hi := h.2.2.2.2.1
  have hN := hu.1
  unfold facN facB72
  simp only [k_e, k_e2, k_e3]
  rw [c_sign hu h, sg_in hle]
  by_cases q : dig (u i)
  · rw [if_pos q, if_neg (by decide)]
    exact c_number hu hR h q
  · rw [if_neg q, if_pos rfl]
    by_cases q2 : u i = 256
    · rw [q2, sg_256, if_pos rfl, if_neg (by decide)]
      refine Or.inl ⟨ft 1 i, ft_1 (by omega), ru_letF hR o i h91 q ?_, c_fail h⟩
      rw [q2]
      decide
    · have hx : ¬ sg (u i) = -1 := fun z => q2 ((sg_m1 hle).mp z)
      rw [if_neg hx, sg_n (by omega), lf_C (u i) (by omega)]
      by_cases q3 : lf (u i) < 12
      · rw [if_pos q3, if_pos (nI_pos' (by omega))]
        have C := c_one (c := (1, lf (u i), 0)) (x := 2) (y := nI (lf (u i))) hu (c_adv hu h q2) (by have := h.2.2.2.1; omega) rfl (fun _ => rfl)
        exact Or.inr ⟨i + 1, 0, [(1, lf (u i), 0)], ru_let hR o i q3, trivial, by simp, C.1, C.2.1, fun q hq => C.2.2 q (by omega)⟩
      · rw [if_neg q3, if_neg (by decide)]
        refine Or.inl ⟨ft 1 i, ft_1 (by omega), ru_letF hR o i h91 q ?_, c_fail h⟩
        have := lf_12 (u i)
        omega
theorem c_fac6 (hu : HU u N) (hR : Rules u Ps Pf) : CC u N Ps Pf 0 6 (fun _ => True) facB6 := by
  intro F R i p h
  have hle := HU_le hu i
  have hi := h.2.2.2.2.1
  have hN := hu.1
  unfold facB6
  simp only [k_e, k_e3]
  rw [c_sign hu h, if_sg 91 91 rfl hle (by omega)]
  by_cases q : u i = 91
  · rw [if_pos q]
    refine Or.inl ⟨ft 5 i, ft_5 (by omega), ru_sqrO hR 6 i q (Nat.le_refl _), ?_⟩
    unfold sp_X3_opens_c6
    rw [k_e2]
    exact c_fail h
  · rw [if_neg q]
    exact c_facN hu hR h q
theorem c_pass (hu : HU u N) {F : Nat → Int32} {R : Nat → Nat → Int32} {i p : Nat} (h : CSt u N F R i p) (c : Nat) (hc : c < 256) : (u i = c → sp_X3_pass F R (nI c) = (upd F 531 (F 531 + 1), R)) ∧ (u i ≠ c → (sp_X3_pass F R (nI c)).1 532 = ft 1 i) := by
  unfold sp_X3_pass K_X3_pass_26
  simp only [k_e, k_e2]
  rw [c_sign hu h, if_sg (nI c) c rfl (HU_le hu i) hc]
  constructor
  · intro q
    rw [if_pos q]
  · intro q
    rw [if_neg q]
    exact c_fail h
theorem c_pass_k {F : Nat → Int32} {R : Nat → Nat → Int32} (h : ¬ F 532 = 0) (c : Nat) (hc : c < 256) : (sp_X3_pass F R (nI c)).1 532 = F 532 := by
  unfold sp_X3_pass K_X3_pass_26
  simp only [k_e, k_e2]
  have hx : ¬ (-1 : Int32) = nI c := by
    intro z
    have := (sg_c (n := 256) (by omega) c hc).mp z
    omega
  rw [c_none h, if_neg hx, c_fail_k h]
theorem c_fac (hu : HU u N) (hR : Rules u Ps Pf) (ho : o < 6) {nxt : (Nat → Int32) → (Nat → Nat → Int32) → (Nat → Int32) × (Nat → Nat → Int32)} (hn : CC u N Ps Pf 4 (o + 1) nop nxt) : CC u N Ps Pf 0 o (fun _ => True) (facB nxt) := by
  intro F R i p h
  have hle := HU_le hu i
  have hi := h.2.2.2.2.1
  have hN := hu.1
  unfold facB opsB
  simp only [k_e, k_e2, k_e3]
  rw [c_sign hu h, if_sg 91 91 rfl hle (by omega)]
  by_cases q : u i = 91
  · rw [if_pos q]
    rcases hn _ R (i + 1) p (c_adv hu h (by omega)) with ⟨f, f1, f2, f3⟩ | ⟨j, a, L, g1, g2, g3, g4, g5, g6⟩
    · refine Or.inl ⟨f, f1, ru_sqrG hR o i f q ho f2, ?_⟩
      rw [show (93 : Int32) = nI 93 from rfl, c_pass_k (by rw [f3]; exact f1) 93 (by omega), f3]
    · have hj := g4.2.2.2.2.1
      by_cases q2 : u j = 93
      · rw [show (93 : Int32) = nI 93 from rfl, (c_pass hu g4 93 (by omega)).1 q2]
        exact Or.inr ⟨j + 1, 0, L, ru_sqr hR o i j L q ho g1 q2, trivial, by omega, c_adv hu g4 (by omega), g5, g6⟩
      · refine Or.inl ⟨ft 1 j, ft_1 (by omega), ru_sqrF hR o i j L q ho g1 g2 q2, ?_⟩
        exact (c_pass hu g4 93 (by omega)).2 q2
  · rw [if_neg q]
    exact c_facN hu hR h q
theorem fk_facN {F : Nat → Int32} {R : Nat → Nat → Int32} (h : ¬ F 532 = 0) : (facN F R).1 532 = F 532 := by
  unfold facN facB72
  simp only [k_e, k_e2, k_e3]
  rw [c_none h, show g_in (-1) 48 57 = 0 from by decide, if_pos rfl, if_pos rfl, if_neg (by decide), c_fail_k h]
theorem fk_facB {nxt : (Nat → Int32) → (Nat → Nat → Int32) → (Nat → Int32) × (Nat → Nat → Int32)} : FKp (facB nxt) := by
  intro F R h
  unfold facB
  simp only [k_e]
  rw [c_none h, if_neg (by decide)]
  exact fk_facN h
theorem fk_facB6 : FKp facB6 := by
  intro F R h
  unfold facB6
  simp only [k_e]
  rw [c_none h, if_neg (by decide)]
  exact fk_facN h
end RC2
