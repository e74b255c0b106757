/-! ===== the class's reader: comparisons, pieces, parts ===== -/
abbrev ML2 := (Nat → Int32) → (Nat → Nat → Int32) → Int32 → Int32 → (Nat → Int32) × (Nat → Nat → Int32)
def cmpB49 (sm : MM) (F5 : Nat → Int32) (R6 : Nat → Nat → Int32) (y13 : Int32) : (Nat → Int32) × (Nat → Nat → Int32) :=
  if y13 = (-1) then k_lt2 (sp_X3_fail F5 R6 1) (fun F41 R42 => (F41, R42)) else k_lt ((F5 531) + 1) (fun x17 => k_lt (upd F5 531 x17) (fun F19 => k_lt2 (sm F19 R6) (fun F25 R26 => k_lt3 (sp_X2_emit_25 F25 R26 y13 0) (fun r28 F32 R33 => (F32, R33)))))
def cmpB (sm : MM) (F : Nat → Int32) (R : Nat → Nat → Int32) : (Nat → Int32) × (Nat → Nat → Int32) :=
  k_lt2 (sm F R) (fun F5 R6 => k_lt (sp_X3_sign F5 R6) (fun r8 => if r8 = 60 then cmpB49 sm F5 R6 11 else k_lt (sp_X3_sign F5 R6) (fun r46 => if r46 = 62 then cmpB49 sm F5 R6 12 else k_lt (sp_X3_sign F5 R6) (fun r53 => if r53 = 61 then cmpB49 sm F5 R6 13 else cmpB49 sm F5 R6 (-1)))))
def pieB (pie par cmp : MM) (F : Nat → Int32) (R : Nat → Nat → Int32) : (Nat → Int32) × (Nat → Nat → Int32) :=
  k_lt (sp_X3_sign F R) (fun r1 => if r1 = 33 then k_lt3 (opsB F R) (fun r50 F54 R55 => k_lt2 (pie F54 R55) (fun F62 R63 => k_lt3 (sp_X2_emit_25 F62 R63 3 0) (fun r65 F69 R70 => (F69, R70)))) else k_lt (sp_X3_sign F R) (fun r10 => if r10 = 40 then k_lt3 (opsB F R) (fun r26 F30 R31 => k_lt2 (par F30 R31) (fun F38 R39 => k_lt2 (sp_X3_pass F38 R39 41) (fun F45 R46 => (F45, R46)))) else k_lt2 (cmp F R) (fun F21 R22 => (F21, R22))))
def pieB6 (cmp : MM) (F : Nat → Int32) (R : Nat → Nat → Int32) : (Nat → Int32) × (Nat → Nat → Int32) :=
  k_lt (sp_X3_sign F R) (fun r1 => if r1 = 33 then k_lt3 (sp_X3_opens_c6 F R) (fun r36 F40 R41 => (F40, R41)) else k_lt (sp_X3_sign F R) (fun r10 => if r10 = 40 then k_lt3 (sp_X3_opens_c6 F R) (fun r26 F30 R31 => (F30, R31)) else k_lt2 (cmp F R) (fun F21 R22 => (F21, R22))))
def chB56 (F10 : Nat → Int32) (R11 : Nat → Nat → Int32) (y8 : Int32) : (Nat → Int32) × (Nat → Nat → Int32) :=
  k_lt2 (sp_X2_landHere_25 F10 R11 y8) (fun F16 R17 => (F16, R17))
def chB (sub : MM) (sgn op : Int32) (b9 : ML2) (F10 : Nat → Int32) (R11 : Nat → Nat → Int32) (y8 : Int32) (y9 : Int32) : (Nat → Int32) × (Nat → Nat → Int32) :=
  if 200 ≤ y9 then chB56 F10 R11 y8 else k_lt (sp_X3_sign F10 R11) (fun r24 => if r24 = sgn then k_lt ((F10 531) + 1) (fun x33 => k_lt (upd F10 531 x33) (fun F35 => k_lt3 (sp_X2_emit_25 F35 R11 op y8) (fun r37 F41 R42 => k_lt2 (sub F41 R42) (fun F48 R49 => k_lt (y9 + 1) (fun x51 => b9 F48 R49 r37 x51))))) else chB56 F10 R11 y8)
section RC4
variable {u : Nat → Nat} {N : Nat} {Ps : PsT} {Pf : PfT} {o : Nat}
theorem fk_cmp {sm : MM} (fk : FKp sm) : FKp (cmpB sm) := by
  intro F R h
  have e := fk F R h
  unfold cmpB
  simp only [k_e, k_e2]
  have n1 : ¬ (-1 : Int32) = 60 := by decide
  have n2 : ¬ (-1 : Int32) = 62 := by decide
  have n3 : ¬ (-1 : Int32) = 61 := by decide
  have h2 : ¬ (sm F R).1 532 = 0 := by rw [e]; exact h
  rw [c_none h2, if_neg n1, if_neg n2, if_neg n3]
  unfold cmpB49
  rw [if_pos rfl, k_e2, c_fail_k h2]
  exact e
theorem c_cmp (hu : HU u N) (hR : Rules u Ps Pf) {sm : MM} (hs : CC u N Ps Pf 4 o nop sm) (fk : FKp sm) : CC u N Ps Pf 5 o (fun _ => True) (cmpB sm) := by
  intro F R i p h
  rcases hs F R i p h with ⟨f, f1, f2, f3⟩ | ⟨j, a, L1, g1, g2, g3, g4, g5, g6⟩
  · have hz : ¬ (sm F R).1 532 = 0 := by rw [f3]; exact f1
    refine Or.inl ⟨f, f1, ru_cmF hR o i f f2, ?_⟩
    unfold cmpB
    simp only [k_e, k_e2]
    have n1 : ¬ (-1 : Int32) = 60 := by decide
    have n2 : ¬ (-1 : Int32) = 62 := by decide
    have n3 : ¬ (-1 : Int32) = 61 := by decide
    rw [c_none hz, if_neg n1, if_neg n2, if_neg n3]
    unfold cmpB49
    rw [if_pos rfl, k_e2, c_fail_k hz]
    exact f3
  · have hle := HU_le hu j
    have hjN := g4.2.2.2.2.1
    have hN := hu.1
    have hp := h.2.2.2.1
    have body : ∀ c : Nat, 7 ≤ c → c ≤ 9 → cmps (u j) → cop (u j) = c → CPost u N Ps Pf 5 o i p (fun _ => True) R (cmpB49 sm (sm F R).1 (sm F R).2 (nI (uo c))) := by
      intro c c1 c2 hc he
      have q2 : u j ≠ 256 := by
        rcases hc with z | z | z <;> omega
      have nx : ¬ nI (uo c) = -1 := by
        obtain rfl | rfl | rfl : c = 7 ∨ c = 8 ∨ c = 9 := by omega
        · decide
        · decide
        · decide
      unfold cmpB49
      simp only [k_e, k_e2, k_e3]
      rw [if_neg nx]
      rcases hs _ (sm F R).2 (j + 1) _ (c_adv hu g4 q2) with ⟨f, f1, f2, f3⟩ | ⟨j2, a2, L2, l1, l2, l3, l4, l5, l6⟩
      · refine Or.inl ⟨f, f1, ru_cmH hR o i j L1 f g1 g2 hc f2, ?_⟩
        rw [c_emit_f _ _ 532 (by decide)]
        exact f3
      · have C := c_one (c := (c, 0, 0)) (x := nI (uo c)) (y := 0) hu l4 (by omega) rfl (fun z => by simp only at z; omega)
        have el : (L1 ++ (L2 ++ [(cop (u j), 0, 0)])).length = L1.length + (L2.length + 1) := by simp
        refine Or.inr ⟨j2, 0, _, ru_cm hR o i j j2 L1 L2 g1 g2 hc l1 l2, trivial, by omega, ?_, ?_, fun z hz => ?_⟩
        · rw [el, show p + (L1.length + (L2.length + 1)) = p + L1.length + L2.length + 1 from by omega]
          exact C.1
        · rw [he, CodeC_app, CodeC_app]
          refine ⟨CodeC_eq L1 p (fun k a b => ?_) g5, CodeC_eq L2 _ (fun k a b => C.2.2 k (by omega)) l5, C.2.1⟩
          have e1 := C.2.2 k (by omega)
          have e2 := l6 k (by omega)
          exact ⟨e1.1.trans e2.1, e1.2.trans e2.2⟩
        · have e1 := C.2.2 z (by omega)
          have e2 := l6 z (by omega)
          have e3 := g6 z hz
          exact ⟨e1.1.trans (e2.1.trans e3.1), e1.2.trans (e2.2.trans e3.2)⟩
    unfold cmpB
    simp only [k_e, k_e2]
    rw [c_sign hu g4, if_sg 60 60 rfl hle (by omega), if_sg 62 62 rfl hle (by omega), if_sg 61 61 rfl hle (by omega)]
    by_cases q1 : u j = 60
    · rw [if_pos q1]
      exact body 7 (by omega) (by omega) (Or.inl q1) (by unfold cop; rw [if_pos q1])
    · rw [if_neg q1]
      by_cases q2 : u j = 62
      · rw [if_pos q2]
        exact body 8 (by omega) (by omega) (Or.inr (Or.inl q2)) (by unfold cop; rw [if_neg q1, if_pos q2])
      · rw [if_neg q2]
        by_cases q3 : u j = 61
        · rw [if_pos q3]
          exact body 9 (by omega) (by omega) (Or.inr (Or.inr q3)) (by unfold cop; rw [if_neg q1, if_neg q2])
        · rw [if_neg q3]
          unfold cmpB49
          rw [if_pos rfl, k_e2]
          exact Or.inl ⟨ft 1 j, ft_1 (by omega), ru_cmG hR o i j L1 g1 g2 (fun z => by rcases z with z | z | z <;> omega), c_fail g4⟩
theorem fk_pie {pie par cmp : MM} (fk : FKp cmp) : FKp (pieB pie par cmp) := by
  intro F R h
  unfold pieB
  simp only [k_e, k_e2]
  have n1 : ¬ (-1 : Int32) = 33 := by decide
  have n2 : ¬ (-1 : Int32) = 40 := by decide
  rw [c_none h, if_neg n1, if_neg n2]
  exact fk F R h
theorem fk_pie6 {cmp : MM} (fk : FKp cmp) : FKp (pieB6 cmp) := by
  intro F R h
  unfold pieB6
  simp only [k_e, k_e2]
  have n1 : ¬ (-1 : Int32) = 33 := by decide
  have n2 : ¬ (-1 : Int32) = 40 := by decide
  rw [c_none h, if_neg n1, if_neg n2]
  exact fk F R h
theorem c_pc (hR : Rules u Ps Pf) {i p : Nat} {R : Nat → Nat → Int32} {Z : (Nat → Int32) × (Nat → Nat → Int32)} (q1 : u i ≠ 33) (q2 : u i ≠ 40) (h : CPost u N Ps Pf 5 o i p (fun _ => True) R Z) : CPost u N Ps Pf 6 o i p (fun _ => True) R Z := by
  rcases h with ⟨f, f1, f2, f3⟩ | ⟨j, a, L1, g1, g2, g3⟩
  · exact Or.inl ⟨f, f1, ru_pcF hR o i f q1 q2 f2, f3⟩
  · exact Or.inr ⟨j, 0, L1, ru_pc hR o i j L1 q1 q2 g1, trivial, g3⟩
theorem c_pie6 (hu : HU u N) (hR : Rules u Ps Pf) {cmp : MM} (hc : CC u N Ps Pf 5 6 (fun _ => True) cmp) : CC u N Ps Pf 6 6 (fun _ => True) (pieB6 cmp) := by
  intro F R i p h
  have hle := HU_le hu i
  have hi := h.2.2.2.2.1
  have hN := hu.1
  unfold pieB6 sp_X3_opens_c6
  simp only [k_e, k_e2, k_e3]
  rw [c_sign hu h, if_sg 33 33 rfl hle (by omega), if_sg 40 40 rfl hle (by omega)]
  by_cases q : u i = 33
  · rw [if_pos q]
    exact Or.inl ⟨ft 5 i, ft_5 (by omega), ru_opF hR 6 i (Or.inl q) (Nat.le_refl _), c_fail h⟩
  · rw [if_neg q]
    by_cases q2 : u i = 40
    · rw [if_pos q2]
      exact Or.inl ⟨ft 5 i, ft_5 (by omega), ru_opF hR 6 i (Or.inr q2) (Nat.le_refl _), c_fail h⟩
    · rw [if_neg q2]
      exact c_pc hR q q2 (hc F R i p h)
theorem c_pie (hu : HU u N) (hR : Rules u Ps Pf) (ho : o < 6) {pie par cmp : MM} (hp : CC u N Ps Pf 6 (o + 1) (fun _ => True) pie) (ha : CC u N Ps Pf 8 (o + 1) (fun v => v ≠ 38 ∧ v ≠ 124) par) (hc : CC u N Ps Pf 5 o (fun _ => True) cmp) : CC u N Ps Pf 6 o (fun _ => True) (pieB pie par cmp) := by
  intro F R i p h
  have hle := HU_le hu i
  have hi := h.2.2.2.2.1
  have hN := hu.1
  have hpi := h.2.2.2.1
  unfold pieB opsB
  simp only [k_e, k_e2, k_e3]
  rw [c_sign hu h, if_sg 33 33 rfl hle (by omega), if_sg 40 40 rfl hle (by omega)]
  by_cases q : u i = 33
  · rw [if_pos q]
    rcases hp _ R (i + 1) p (c_adv hu h (by omega)) with ⟨f, f1, f2, f3⟩ | ⟨j, a, L, g1, g2, g3, g4, g5, g6⟩
    · refine Or.inl ⟨f, f1, ru_ntF hR o i f q ho f2, ?_⟩
      rw [c_emit_f _ _ 532 (by decide)]
      exact f3
    · have C := c_one (c := (10, 0, 0)) (x := 3) (y := 0) hu g4 (by omega) rfl (fun z => by simp only at z; omega)
      refine Or.inr ⟨j, 0, _, ru_nt hR o i j L q ho g1, trivial, by simp; omega, ?_, ?_, fun z hz => ?_⟩
      · rw [List.length_append, ← Nat.add_assoc]
        exact C.1
      · rw [CodeC_app]
        exact ⟨CodeC_eq L p (fun k a b => C.2.2 k (by omega)) g5, C.2.1⟩
      · have e1 := C.2.2 z (by omega)
        have e2 := g6 z hz
        exact ⟨e1.1.trans e2.1, e1.2.trans e2.2⟩
  · rw [if_neg q]
    by_cases q2 : u i = 40
    · rw [if_pos q2]
      rcases ha _ R (i + 1) p (c_adv hu h (by omega)) with ⟨f, f1, f2, f3⟩ | ⟨j, a, L, g1, g2, g3, g4, g5, g6⟩
      · refine Or.inl ⟨f, f1, ru_parG hR o i f q2 ho f2, ?_⟩
        rw [show (41 : Int32) = nI 41 from rfl, c_pass_k (by rw [f3]; exact f1) 41 (by omega), f3]
      · have hj := g4.2.2.2.2.1
        by_cases q3 : u j = 41
        · rw [show (41 : Int32) = nI 41 from rfl, (c_pass hu g4 41 (by omega)).1 q3]
          exact Or.inr ⟨j + 1, 0, L, ru_par hR o i j a L q2 ho g1 q3, trivial, by omega, c_adv hu g4 (by omega), g5, g6⟩
        · exact Or.inl ⟨ft 1 j, ft_1 (by omega), ru_parF hR o i j a L q2 ho g1 q3 g2.1 g2.2, (c_pass hu g4 41 (by omega)).2 q3⟩
    · rw [if_neg q2]
      exact c_pc hR q q2 (hc F R i p h)
/-- the jumps that wait, the last one first -/
def Chn (s : Nat → Int32) : Int32 → List Nat → Prop
  | h, [] => h = -1
  | h, x :: xs => h = nI x ∧ x < 256 ∧ (∀ y, y ∈ xs → y < x) ∧ Chn s (s x) xs
theorem Chn_eq {s s' : Nat → Int32} : ∀ (xs : List Nat) (h : Int32), (∀ y, y ∈ xs → s' y = s y) → Chn s h xs → Chn s' h xs
  | [], _, _, z => z
  | x :: xs, h, e, z => by
    obtain ⟨z1, z2, z3, z4⟩ := z
    refine ⟨z1, z2, z3, ?_⟩
    rw [e x List.mem_cons_self]
    exact Chn_eq xs (s x) (fun y hy => e y (List.mem_cons_of_mem _ hy)) z4
theorem c_land_f {F : Nat → Int32} : ∀ (n : Nat) (R : Nat → Nat → Int32) (h y : Int32), (K_X2_landHere_25_4 F n R h y).1 = F
  | 0, _, _, _ => rfl
  | n + 1, R, h, y => by
    rw [ks_X2_landHere_25_4]
    unfold KB_X2_landHere_25_4 K_X2_landHere_25_49
    simp only [k_e]
    split
    · rfl
    · split
      · rfl
      · split
        · rfl
        · exact c_land_f n _ _ _
theorem c_land {F : Nat → Int32} : ∀ (xs : List Nat) (n y : Nat) (R : Nat → Nat → Int32) (h : Int32), xs.length + y < 256 → xs.length < n → Chn (R 27) h xs → (∀ c, c ≠ 27 → (K_X2_landHere_25_4 F n R h (nI y)).2 c = R c) ∧ (∀ k, (K_X2_landHere_25_4 F n R h (nI y)).2 27 k = if k ∈ xs then F 402 else R 27 k)
  | [], n, y, R, h, hy, hn, hc => by
    obtain ⟨n, rfl⟩ : ∃ n', n = n' + 1 := ⟨n - 1, by simp only [List.length_nil] at hn; omega⟩
    simp only [List.length_nil] at hy
    have e : h = -1 := hc
    subst e
    rw [ks_X2_landHere_25_4]
    unfold KB_X2_landHere_25_4 K_X2_landHere_25_49
    have n1 : (-1 : Int32) < 0 := by decide
    rw [if_neg (show ¬ (256 : Int32) ≤ nI y from nI_ge (a := y) (b := 256) (by omega) (by omega)), if_pos n1]
    exact ⟨fun _ _ => rfl, fun k => by simp⟩
  | x :: xs, n, y, R, h, hy, hn, hc => by
    obtain ⟨n, rfl⟩ : ∃ n', n = n' + 1 := ⟨n - 1, by simp only [List.length_cons] at hn; omega⟩
    simp only [List.length_cons] at hy hn
    obtain ⟨z1, z2, z3, z4⟩ := hc
    subst z1
    rw [ks_X2_landHere_25_4]
    unfold KB_X2_landHere_25_4
    rw [if_neg (show ¬ (256 : Int32) ≤ nI y from nI_ge (a := y) (b := 256) (by omega) (by omega)), if_neg (nI_pos (by omega)), if_neg (show ¬ (256 : Int32) ≤ nI x from nI_ge (a := x) (b := 256) (by omega) (by omega))]
    simp only [k_e]
    rw [nI_clamp (by omega), nI_1]
    have e27 : g_u R 27 (upd (R 27) x (F 402)) 27 = upd (R 27) x (F 402) := by rw [ug, if_pos rfl]
    have I := c_land (F := F) xs n (y + 1) (g_u R 27 (upd (R 27) x (F 402))) (R 27 x) (by omega) (by omega) (by
      rw [e27]
      refine Chn_eq xs _ (fun w hw => ?_) z4
      have := z3 w hw
      rw [uu, if_neg (by omega)])
    refine ⟨fun c hc => (I.1 c hc).trans (by rw [ug, if_neg hc]), fun k => ?_⟩
    rw [I.2 k, e27, uu]
    by_cases m : k ∈ xs
    · rw [if_pos m, if_pos (List.mem_cons_of_mem _ m)]
    · rw [if_neg m]
      by_cases m2 : k = x
      · rw [if_pos m2, if_pos (by rw [m2]; exact List.mem_cons_self)]
      · rw [if_neg m2, if_neg (by intro z; rcases List.mem_cons.mp z with z | z; exact m2 z; exact m z)]
theorem fk_ch {sub : MM} {L : Nat → ML2} {sgn op : Int32} (hsg : ¬ (-1 : Int32) = sgn) (fk : FKp sub) (hL : ∀ n F R y z, L (n + 1) F R y z = chB sub sgn op (L n) F R y z) : FKp (fun F R => k_lt2 (sub F R) (fun F5 R6 => L 8589934592 F5 R6 (-1) 0)) := by
  intro F R h
  have e := fk F R h
  have h2 : ¬ (sub F R).1 532 = 0 := by rw [e]; exact h
  dsimp only
  rw [k_e2, show (8589934592 : Nat) = 8589934591 + 1 from rfl, hL]
  unfold chB chB56 sp_X2_landHere_25
  simp only [k_e, k_e2]
  rw [c_none h2, if_neg hsg]
  have n0 : ¬ (200 : Int32) ≤ 0 := by decide
  rw [if_neg n0, c_land_f]
  exact e
end RC4
