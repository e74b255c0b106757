/-! ===== the rules of the readers (laid by wip/xg/rules.py) ===== -/
def ft (k : Int32) (i : Nat) : Int32 := (-1000) * k - nI i
theorem ft_ne {c : Int32} {i : Nat} (hc : c < 0) (hi : i < 2 ^ 31) : ¬ c - nI i = 0 := by
  intro h
  have h1 : c = nI i := by
    have h2 : c - nI i + nI i = 0 + nI i := by rw [h]
    rw [Int32.sub_add_cancel, Int32.zero_add] at h2
    exact h2
  rw [h1] at hc
  exact nI_pos hi hc
theorem ft_1 {i : Nat} (hi : i < 2 ^ 31) : ¬ ft 1 i = 0 := ft_ne (by decide) hi
theorem ft_2 {i : Nat} (hi : i < 2 ^ 31) : ¬ ft 2 i = 0 := ft_ne (by decide) hi
theorem ft_4 {i : Nat} (hi : i < 2 ^ 31) : ¬ ft 4 i = 0 := ft_ne (by decide) hi
theorem ft_5 {i : Nat} (hi : i < 2 ^ 31) : ¬ ft 5 i = 0 := ft_ne (by decide) hi
abbrev PsT := Nat → Nat → Nat → Nat → Nat → List Cd → Prop
abbrev PfT := Nat → Nat → Nat → Int32 → Prop
def Ru_num (u : Nat → Nat) (Ps : PsT) (Pf : PfT) : Prop := ∀ (o : Nat) (i : Nat) (n : Nat), 1 ≤ n → n ≤ 5 → (∀ k, k < n → dig (u (i + k))) → ¬ dig (u (i + n)) → Ps 0 o i (i + n) 0 [(0, dv u i n, 0)]
def Ru_numF (u : Nat → Nat) (Ps : PsT) (Pf : PfT) : Prop := ∀ (o : Nat) (i : Nat), (∀ k, k ≤ 5 → dig (u (i + k))) → Pf 0 o i (ft 2 (i + 5))
def Ru_let (u : Nat → Nat) (Ps : PsT) (Pf : PfT) : Prop := ∀ (o : Nat) (i : Nat), lf (u i) < 12 → Ps 0 o i (i + 1) 0 [(1, lf (u i), 0)]
def Ru_letF (u : Nat → Nat) (Ps : PsT) (Pf : PfT) : Prop := ∀ (o : Nat) (i : Nat), u i ≠ 91 → ¬ dig (u i) → lf (u i) = 12 → Pf 0 o i (ft 1 i)
def Ru_sqr (u : Nat → Nat) (Ps : PsT) (Pf : PfT) : Prop := ∀ (o : Nat) (i : Nat) (j : Nat) (L : List Cd) {b2 : Nat}, u i = 91 → o < 6 → Ps 4 (o + 1) (i + 1) j b2 L → u j = 93 → Ps 0 o i (j + 1) 0 L
def Ru_sqrF (u : Nat → Nat) (Ps : PsT) (Pf : PfT) : Prop := ∀ (o : Nat) (i : Nat) (j : Nat) (L : List Cd) {b2 : Nat}, u i = 91 → o < 6 → Ps 4 (o + 1) (i + 1) j b2 L → nop (u j) → u j ≠ 93 → Pf 0 o i (ft 1 j)
def Ru_sqrG (u : Nat → Nat) (Ps : PsT) (Pf : PfT) : Prop := ∀ (o : Nat) (i : Nat) (f : Int32), u i = 91 → o < 6 → Pf 4 (o + 1) (i + 1) f → Pf 0 o i f
def Ru_sqrO (u : Nat → Nat) (Ps : PsT) (Pf : PfT) : Prop := ∀ (o : Nat) (i : Nat), u i = 91 → 6 ≤ o → Pf 0 o i (ft 5 i)
def Ru_pr0 (u : Nat → Nat) (Ps : PsT) (Pf : PfT) : Prop := ∀ (o : Nat) (i : Nat), ¬ mul (u i) → Ps 1 o i i 0 []
def Ru_pr1 (u : Nat → Nat) (Ps : PsT) (Pf : PfT) : Prop := ∀ (o : Nat) (i : Nat) (j : Nat) (j2 : Nat) (L : List Cd) (L2 : List Cd) {b1 : Nat} {b2 : Nat}, mul (u i) → Ps 0 o (i + 1) j b1 L → Ps 1 o j j2 b2 L2 → Ps 1 o i j2 0 (L ++ (mop (u i), 0, 0) :: L2)
def Ru_prF (u : Nat → Nat) (Ps : PsT) (Pf : PfT) : Prop := ∀ (o : Nat) (i : Nat) (f : Int32), mul (u i) → Pf 0 o (i + 1) f → Pf 1 o i f
def Ru_prG (u : Nat → Nat) (Ps : PsT) (Pf : PfT) : Prop := ∀ (o : Nat) (i : Nat) (j : Nat) (L : List Cd) (f : Int32) {b1 : Nat}, mul (u i) → Ps 0 o (i + 1) j b1 L → Pf 1 o j f → Pf 1 o i f
def Ru_pd (u : Nat → Nat) (Ps : PsT) (Pf : PfT) : Prop := ∀ (o : Nat) (i : Nat) (j : Nat) (j2 : Nat) (L : List Cd) (L2 : List Cd) {b0 : Nat} {b1 : Nat}, Ps 0 o i j b0 L → Ps 1 o j j2 b1 L2 → Ps 2 o i j2 0 (L ++ L2)
def Ru_pdF (u : Nat → Nat) (Ps : PsT) (Pf : PfT) : Prop := ∀ (o : Nat) (i : Nat) (f : Int32), Pf 0 o i f → Pf 2 o i f
def Ru_pdG (u : Nat → Nat) (Ps : PsT) (Pf : PfT) : Prop := ∀ (o : Nat) (i : Nat) (j : Nat) (L : List Cd) (f : Int32) {b0 : Nat}, Ps 0 o i j b0 L → Pf 1 o j f → Pf 2 o i f
def Ru_sr0 (u : Nat → Nat) (Ps : PsT) (Pf : PfT) : Prop := ∀ (o : Nat) (i : Nat), ¬ adds (u i) → Ps 3 o i i 0 []
def Ru_sr1 (u : Nat → Nat) (Ps : PsT) (Pf : PfT) : Prop := ∀ (o : Nat) (i : Nat) (j : Nat) (j2 : Nat) (L : List Cd) (L2 : List Cd) {b1 : Nat} {b2 : Nat}, adds (u i) → Ps 2 o (i + 1) j b1 L → Ps 3 o j j2 b2 L2 → Ps 3 o i j2 0 (L ++ (aop (u i), 0, 0) :: L2)
def Ru_srF (u : Nat → Nat) (Ps : PsT) (Pf : PfT) : Prop := ∀ (o : Nat) (i : Nat) (f : Int32), adds (u i) → Pf 2 o (i + 1) f → Pf 3 o i f
def Ru_srG (u : Nat → Nat) (Ps : PsT) (Pf : PfT) : Prop := ∀ (o : Nat) (i : Nat) (j : Nat) (L : List Cd) (f : Int32) {b1 : Nat}, adds (u i) → Ps 2 o (i + 1) j b1 L → Pf 3 o j f → Pf 3 o i f
def Ru_sm (u : Nat → Nat) (Ps : PsT) (Pf : PfT) : Prop := ∀ (o : Nat) (i : Nat) (j : Nat) (j2 : Nat) (L : List Cd) (L2 : List Cd) {b0 : Nat} {b1 : Nat}, Ps 2 o i j b0 L → Ps 3 o j j2 b1 L2 → Ps 4 o i j2 0 (L ++ L2)
def Ru_smF (u : Nat → Nat) (Ps : PsT) (Pf : PfT) : Prop := ∀ (o : Nat) (i : Nat) (f : Int32), Pf 2 o i f → Pf 4 o i f
def Ru_smG (u : Nat → Nat) (Ps : PsT) (Pf : PfT) : Prop := ∀ (o : Nat) (i : Nat) (j : Nat) (L : List Cd) (f : Int32) {b0 : Nat}, Ps 2 o i j b0 L → Pf 3 o j f → Pf 4 o i f
def Ru_cm (u : Nat → Nat) (Ps : PsT) (Pf : PfT) : Prop := ∀ (o : Nat) (i : Nat) (j : Nat) (j2 : Nat) (L : List Cd) (L2 : List Cd) {b0 : Nat} {b3 : Nat}, Ps 4 o i j b0 L → nop (u j) → cmps (u j) → Ps 4 o (j + 1) j2 b3 L2 → nop (u j2) → Ps 5 o i j2 0 (L ++ (L2 ++ [(cop (u j), 0, 0)]))
def Ru_cmF (u : Nat → Nat) (Ps : PsT) (Pf : PfT) : Prop := ∀ (o : Nat) (i : Nat) (f : Int32), Pf 4 o i f → Pf 5 o i f
def Ru_cmG (u : Nat → Nat) (Ps : PsT) (Pf : PfT) : Prop := ∀ (o : Nat) (i : Nat) (j : Nat) (L : List Cd) {b0 : Nat}, Ps 4 o i j b0 L → nop (u j) → ¬ cmps (u j) → Pf 5 o i (ft 1 j)
def Ru_cmH (u : Nat → Nat) (Ps : PsT) (Pf : PfT) : Prop := ∀ (o : Nat) (i : Nat) (j : Nat) (L : List Cd) (f : Int32) {b0 : Nat}, Ps 4 o i j b0 L → nop (u j) → cmps (u j) → Pf 4 o (j + 1) f → Pf 5 o i f
def Ru_nt (u : Nat → Nat) (Ps : PsT) (Pf : PfT) : Prop := ∀ (o : Nat) (i : Nat) (j : Nat) (L : List Cd) {b2 : Nat}, u i = 33 → o < 6 → Ps 6 (o + 1) (i + 1) j b2 L → Ps 6 o i j 0 (L ++ [(10, 0, 0)])
def Ru_ntF (u : Nat → Nat) (Ps : PsT) (Pf : PfT) : Prop := ∀ (o : Nat) (i : Nat) (f : Int32), u i = 33 → o < 6 → Pf 6 (o + 1) (i + 1) f → Pf 6 o i f
def Ru_opF (u : Nat → Nat) (Ps : PsT) (Pf : PfT) : Prop := ∀ (o : Nat) (i : Nat), (u i = 33 ∨ u i = 40) → 6 ≤ o → Pf 6 o i (ft 5 i)
def Ru_par (u : Nat → Nat) (Ps : PsT) (Pf : PfT) : Prop := ∀ (o : Nat) (i : Nat) (j : Nat) (a : Nat) (L : List Cd), u i = 40 → o < 6 → Ps 8 (o + 1) (i + 1) j a L → u j = 41 → Ps 6 o i (j + 1) 0 L
def Ru_parF (u : Nat → Nat) (Ps : PsT) (Pf : PfT) : Prop := ∀ (o : Nat) (i : Nat) (j : Nat) (a : Nat) (L : List Cd), u i = 40 → o < 6 → Ps 8 (o + 1) (i + 1) j a L → u j ≠ 41 → u j ≠ 38 → u j ≠ 124 → Pf 6 o i (ft 1 j)
def Ru_parG (u : Nat → Nat) (Ps : PsT) (Pf : PfT) : Prop := ∀ (o : Nat) (i : Nat) (f : Int32), u i = 40 → o < 6 → Pf 8 (o + 1) (i + 1) f → Pf 6 o i f
def Ru_pc (u : Nat → Nat) (Ps : PsT) (Pf : PfT) : Prop := ∀ (o : Nat) (i : Nat) (j : Nat) (L : List Cd) {b2 : Nat}, u i ≠ 33 → u i ≠ 40 → Ps 5 o i j b2 L → Ps 6 o i j 0 L
def Ru_pcF (u : Nat → Nat) (Ps : PsT) (Pf : PfT) : Prop := ∀ (o : Nat) (i : Nat) (f : Int32), u i ≠ 33 → u i ≠ 40 → Pf 5 o i f → Pf 6 o i f
def Ru_ps0 (u : Nat → Nat) (Ps : PsT) (Pf : PfT) : Prop := ∀ (o : Nat) (i : Nat) (j : Nat) (L : List Cd) {b0 : Nat}, Ps 6 o i j b0 L → u j ≠ 38 → Ps 7 o i j L.length L
def Ru_psF (u : Nat → Nat) (Ps : PsT) (Pf : PfT) : Prop := ∀ (o : Nat) (i : Nat) (f : Int32), Pf 6 o i f → Pf 7 o i f
def Ru_ps1 (u : Nat → Nat) (Ps : PsT) (Pf : PfT) : Prop := ∀ (o : Nat) (i : Nat) (j : Nat) (j2 : Nat) (a : Nat) (L : List Cd) (L2 : List Cd) {b0 : Nat}, Ps 6 o i j b0 L → u j = 38 → Ps 7 o (j + 1) j2 a L2 → Ps 7 o i j2 L.length (L ++ (11, 1 + a, 1 + L2.length) :: L2)
def Ru_psG (u : Nat → Nat) (Ps : PsT) (Pf : PfT) : Prop := ∀ (o : Nat) (i : Nat) (j : Nat) (L : List Cd) (f : Int32) {b0 : Nat}, Ps 6 o i j b0 L → u j = 38 → Pf 7 o (j + 1) f → Pf 7 o i f
def Ru_pt0 (u : Nat → Nat) (Ps : PsT) (Pf : PfT) : Prop := ∀ (o : Nat) (i : Nat) (j : Nat) (a : Nat) (L : List Cd), Ps 7 o i j a L → u j ≠ 38 → u j ≠ 124 → Ps 8 o i j L.length L
def Ru_ptF (u : Nat → Nat) (Ps : PsT) (Pf : PfT) : Prop := ∀ (o : Nat) (i : Nat) (f : Int32), Pf 7 o i f → Pf 8 o i f
def Ru_pt1 (u : Nat → Nat) (Ps : PsT) (Pf : PfT) : Prop := ∀ (o : Nat) (i : Nat) (j : Nat) (j2 : Nat) (a : Nat) (a2 : Nat) (L : List Cd) (L2 : List Cd), Ps 7 o i j a L → u j ≠ 38 → u j = 124 → Ps 8 o (j + 1) j2 a2 L2 → Ps 8 o i j2 L.length (L ++ (12, 1 + a2, 1 + L2.length) :: L2)
def Ru_ptG (u : Nat → Nat) (Ps : PsT) (Pf : PfT) : Prop := ∀ (o : Nat) (i : Nat) (j : Nat) (a : Nat) (L : List Cd) (f : Int32), Ps 7 o i j a L → u j ≠ 38 → u j = 124 → Pf 8 o (j + 1) f → Pf 8 o i f
def Rules (u : Nat → Nat) (Ps : PsT) (Pf : PfT) : Prop := Ru_num u Ps Pf ∧ Ru_numF u Ps Pf ∧ Ru_let u Ps Pf ∧ Ru_letF u Ps Pf ∧ Ru_sqr u Ps Pf ∧ Ru_sqrF u Ps Pf ∧ Ru_sqrG u Ps Pf ∧ Ru_sqrO u Ps Pf ∧ Ru_pr0 u Ps Pf ∧ Ru_pr1 u Ps Pf ∧ Ru_prF u Ps Pf ∧ Ru_prG u Ps Pf ∧ Ru_pd u Ps Pf ∧ Ru_pdF u Ps Pf ∧ Ru_pdG u Ps Pf ∧ Ru_sr0 u Ps Pf ∧ Ru_sr1 u Ps Pf ∧ Ru_srF u Ps Pf ∧ Ru_srG u Ps Pf ∧ Ru_sm u Ps Pf ∧ Ru_smF u Ps Pf ∧ Ru_smG u Ps Pf ∧ Ru_cm u Ps Pf ∧ Ru_cmF u Ps Pf ∧ Ru_cmG u Ps Pf ∧ Ru_cmH u Ps Pf ∧ Ru_nt u Ps Pf ∧ Ru_ntF u Ps Pf ∧ Ru_opF u Ps Pf ∧ Ru_par u Ps Pf ∧ Ru_parF u Ps Pf ∧ Ru_parG u Ps Pf ∧ Ru_pc u Ps Pf ∧ Ru_pcF u Ps Pf ∧ Ru_ps0 u Ps Pf ∧ Ru_psF u Ps Pf ∧ Ru_ps1 u Ps Pf ∧ Ru_psG u Ps Pf ∧ Ru_pt0 u Ps Pf ∧ Ru_ptF u Ps Pf ∧ Ru_pt1 u Ps Pf ∧ Ru_ptG u Ps Pf
theorem ru_num {u : Nat → Nat} {Ps : PsT} {Pf : PfT} (h : Rules u Ps Pf) : ∀ (o : Nat) (i : Nat) (n : Nat), 1 ≤ n → n ≤ 5 → (∀ k, k < n → dig (u (i + k))) → ¬ dig (u (i + n)) → Ps 0 o i (i + n) 0 [(0, dv u i n, 0)] := h.1
theorem ru_numF {u : Nat → Nat} {Ps : PsT} {Pf : PfT} (h : Rules u Ps Pf) : ∀ (o : Nat) (i : Nat), (∀ k, k ≤ 5 → dig (u (i + k))) → Pf 0 o i (ft 2 (i + 5)) := h.2.1
theorem ru_let {u : Nat → Nat} {Ps : PsT} {Pf : PfT} (h : Rules u Ps Pf) : ∀ (o : Nat) (i : Nat), lf (u i) < 12 → Ps 0 o i (i + 1) 0 [(1, lf (u i), 0)] := h.2.2.1
theorem ru_letF {u : Nat → Nat} {Ps : PsT} {Pf : PfT} (h : Rules u Ps Pf) : ∀ (o : Nat) (i : Nat), u i ≠ 91 → ¬ dig (u i) → lf (u i) = 12 → Pf 0 o i (ft 1 i) := h.2.2.2.1
theorem ru_sqr {u : Nat → Nat} {Ps : PsT} {Pf : PfT} (h : Rules u Ps Pf) : ∀ (o : Nat) (i : Nat) (j : Nat) (L : List Cd) {b2 : Nat}, u i = 91 → o < 6 → Ps 4 (o + 1) (i + 1) j b2 L → u j = 93 → Ps 0 o i (j + 1) 0 L := h.2.2.2.2.1
theorem ru_sqrF {u : Nat → Nat} {Ps : PsT} {Pf : PfT} (h : Rules u Ps Pf) : ∀ (o : Nat) (i : Nat) (j : Nat) (L : List Cd) {b2 : Nat}, u i = 91 → o < 6 → Ps 4 (o + 1) (i + 1) j b2 L → nop (u j) → u j ≠ 93 → Pf 0 o i (ft 1 j) := h.2.2.2.2.2.1
theorem ru_sqrG {u : Nat → Nat} {Ps : PsT} {Pf : PfT} (h : Rules u Ps Pf) : ∀ (o : Nat) (i : Nat) (f : Int32), u i = 91 → o < 6 → Pf 4 (o + 1) (i + 1) f → Pf 0 o i f := h.2.2.2.2.2.2.1
theorem ru_sqrO {u : Nat → Nat} {Ps : PsT} {Pf : PfT} (h : Rules u Ps Pf) : ∀ (o : Nat) (i : Nat), u i = 91 → 6 ≤ o → Pf 0 o i (ft 5 i) := h.2.2.2.2.2.2.2.1
theorem ru_pr0 {u : Nat → Nat} {Ps : PsT} {Pf : PfT} (h : Rules u Ps Pf) : ∀ (o : Nat) (i : Nat), ¬ mul (u i) → Ps 1 o i i 0 [] := h.2.2.2.2.2.2.2.2.1
theorem ru_pr1 {u : Nat → Nat} {Ps : PsT} {Pf : PfT} (h : Rules u Ps Pf) : ∀ (o : Nat) (i : Nat) (j : Nat) (j2 : Nat) (L : List Cd) (L2 : List Cd) {b1 : Nat} {b2 : Nat}, mul (u i) → Ps 0 o (i + 1) j b1 L → Ps 1 o j j2 b2 L2 → Ps 1 o i j2 0 (L ++ (mop (u i), 0, 0) :: L2) := h.2.2.2.2.2.2.2.2.2.1
theorem ru_prF {u : Nat → Nat} {Ps : PsT} {Pf : PfT} (h : Rules u Ps Pf) : ∀ (o : Nat) (i : Nat) (f : Int32), mul (u i) → Pf 0 o (i + 1) f → Pf 1 o i f := h.2.2.2.2.2.2.2.2.2.2.1
theorem ru_prG {u : Nat → Nat} {Ps : PsT} {Pf : PfT} (h : Rules u Ps Pf) : ∀ (o : Nat) (i : Nat) (j : Nat) (L : List Cd) (f : Int32) {b1 : Nat}, mul (u i) → Ps 0 o (i + 1) j b1 L → Pf 1 o j f → Pf 1 o i f := h.2.2.2.2.2.2.2.2.2.2.2.1
theorem ru_pd {u : Nat → Nat} {Ps : PsT} {Pf : PfT} (h : Rules u Ps Pf) : ∀ (o : Nat) (i : Nat) (j : Nat) (j2 : Nat) (L : List Cd) (L2 : List Cd) {b0 : Nat} {b1 : Nat}, Ps 0 o i j b0 L → Ps 1 o j j2 b1 L2 → Ps 2 o i j2 0 (L ++ L2) := h.2.2.2.2.2.2.2.2.2.2.2.2.1
theorem ru_pdF {u : Nat → Nat} {Ps : PsT} {Pf : PfT} (h : Rules u Ps Pf) : ∀ (o : Nat) (i : Nat) (f : Int32), Pf 0 o i f → Pf 2 o i f := h.2.2.2.2.2.2.2.2.2.2.2.2.2.1
theorem ru_pdG {u : Nat → Nat} {Ps : PsT} {Pf : PfT} (h : Rules u Ps Pf) : ∀ (o : Nat) (i : Nat) (j : Nat) (L : List Cd) (f : Int32) {b0 : Nat}, Ps 0 o i j b0 L → Pf 1 o j f → Pf 2 o i f := h.2.2.2.2.2.2.2.2.2.2.2.2.2.2.1
theorem ru_sr0 {u : Nat → Nat} {Ps : PsT} {Pf : PfT} (h : Rules u Ps Pf) : ∀ (o : Nat) (i : Nat), ¬ adds (u i) → Ps 3 o i i 0 [] := h.2.2.2.2.2.2.2.2.2.2.2.2.2.2.2.1
theorem ru_sr1 {u : Nat → Nat} {Ps : PsT} {Pf : PfT} (h : Rules u Ps Pf) : ∀ (o : Nat) (i : Nat) (j : Nat) (j2 : Nat) (L : List Cd) (L2 : List Cd) {b1 : Nat} {b2 : Nat}, adds (u i) → Ps 2 o (i + 1) j b1 L → Ps 3 o j j2 b2 L2 → Ps 3 o i j2 0 (L ++ (aop (u i), 0, 0) :: L2) := h.2.2.2.2.2.2.2.2.2.2.2.2.2.2.2.2.1
theorem ru_srF {u : Nat → Nat} {Ps : PsT} {Pf : PfT} (h : Rules u Ps Pf) : ∀ (o : Nat) (i : Nat) (f : Int32), adds (u i) → Pf 2 o (i + 1) f → Pf 3 o i f := h.2.2.2.2.2.2.2.2.2.2.2.2.2.2.2.2.2.1
theorem ru_srG {u : Nat → Nat} {Ps : PsT} {Pf : PfT} (h : Rules u Ps Pf) : ∀ (o : Nat) (i : Nat) (j : Nat) (L : List Cd) (f : Int32) {b1 : Nat}, adds (u i) → Ps 2 o (i + 1) j b1 L → Pf 3 o j f → Pf 3 o i f := h.2.2.2.2.2.2.2.2.2.2.2.2.2.2.2.2.2.2.1
theorem ru_sm {u : Nat → Nat} {Ps : PsT} {Pf : PfT} (h : Rules u Ps Pf) : ∀ (o : Nat) (i : Nat) (j : Nat) (j2 : Nat) (L : List Cd) (L2 : List Cd) {b0 : Nat} {b1 : Nat}, Ps 2 o i j b0 L → Ps 3 o j j2 b1 L2 → Ps 4 o i j2 0 (L ++ L2) := h.2.2.2.2.2.2.2.2.2.2.2.2.2.2.2.2.2.2.2.1
theorem ru_smF {u : Nat → Nat} {Ps : PsT} {Pf : PfT} (h : Rules u Ps Pf) : ∀ (o : Nat) (i : Nat) (f : Int32), Pf 2 o i f → Pf 4 o i f := h.2.2.2.2.2.2.2.2.2.2.2.2.2.2.2.2.2.2.2.2.1
theorem ru_smG {u : Nat → Nat} {Ps : PsT} {Pf : PfT} (h : Rules u Ps Pf) : ∀ (o : Nat) (i : Nat) (j : Nat) (L : List Cd) (f : Int32) {b0 : Nat}, Ps 2 o i j b0 L → Pf 3 o j f → Pf 4 o i f := h.2.2.2.2.2.2.2.2.2.2.2.2.2.2.2.2.2.2.2.2.2.1
theorem ru_cm {u : Nat → Nat} {Ps : PsT} {Pf : PfT} (h : Rules u Ps Pf) : ∀ (o : Nat) (i : Nat) (j : Nat) (j2 : Nat) (L : List Cd) (L2 : List Cd) {b0 : Nat} {b3 : Nat}, Ps 4 o i j b0 L → nop (u j) → cmps (u j) → Ps 4 o (j + 1) j2 b3 L2 → nop (u j2) → Ps 5 o i j2 0 (L ++ (L2 ++ [(cop (u j), 0, 0)])) := h.2.2.2.2.2.2.2.2.2.2.2.2.2.2.2.2.2.2.2.2.2.2.1
theorem ru_cmF {u : Nat → Nat} {Ps : PsT} {Pf : PfT} (h : Rules u Ps Pf) : ∀ (o : Nat) (i : Nat) (f : Int32), Pf 4 o i f → Pf 5 o i f := h.2.2.2.2.2.2.2.2.2.2.2.2.2.2.2.2.2.2.2.2.2.2.2.1
theorem ru_cmG {u : Nat → Nat} {Ps : PsT} {Pf : PfT} (h : Rules u Ps Pf) : ∀ (o : Nat) (i : Nat) (j : Nat) (L : List Cd) {b0 : Nat}, Ps 4 o i j b0 L → nop (u j) → ¬ cmps (u j) → Pf 5 o i (ft 1 j) := h.2.2.2.2.2.2.2.2.2.2.2.2.2.2.2.2.2.2.2.2.2.2.2.2.1
theorem ru_cmH {u : Nat → Nat} {Ps : PsT} {Pf : PfT} (h : Rules u Ps Pf) : ∀ (o : Nat) (i : Nat) (j : Nat) (L : List Cd) (f : Int32) {b0 : Nat}, Ps 4 o i j b0 L → nop (u j) → cmps (u j) → Pf 4 o (j + 1) f → Pf 5 o i f := h.2.2.2.2.2.2.2.2.2.2.2.2.2.2.2.2.2.2.2.2.2.2.2.2.2.1
theorem ru_nt {u : Nat → Nat} {Ps : PsT} {Pf : PfT} (h : Rules u Ps Pf) : ∀ (o : Nat) (i : Nat) (j : Nat) (L : List Cd) {b2 : Nat}, u i = 33 → o < 6 → Ps 6 (o + 1) (i + 1) j b2 L → Ps 6 o i j 0 (L ++ [(10, 0, 0)]) := h.2.2.2.2.2.2.2.2.2.2.2.2.2.2.2.2.2.2.2.2.2.2.2.2.2.2.1
theorem ru_ntF {u : Nat → Nat} {Ps : PsT} {Pf : PfT} (h : Rules u Ps Pf) : ∀ (o : Nat) (i : Nat) (f : Int32), u i = 33 → o < 6 → Pf 6 (o + 1) (i + 1) f → Pf 6 o i f := h.2.2.2.2.2.2.2.2.2.2.2.2.2.2.2.2.2.2.2.2.2.2.2.2.2.2.2.1
theorem ru_opF {u : Nat → Nat} {Ps : PsT} {Pf : PfT} (h : Rules u Ps Pf) : ∀ (o : Nat) (i : Nat), (u i = 33 ∨ u i = 40) → 6 ≤ o → Pf 6 o i (ft 5 i) := h.2.2.2.2.2.2.2.2.2.2.2.2.2.2.2.2.2.2.2.2.2.2.2.2.2.2.2.2.1
theorem ru_par {u : Nat → Nat} {Ps : PsT} {Pf : PfT} (h : Rules u Ps Pf) : ∀ (o : Nat) (i : Nat) (j : Nat) (a : Nat) (L : List Cd), u i = 40 → o < 6 → Ps 8 (o + 1) (i + 1) j a L → u j = 41 → Ps 6 o i (j + 1) 0 L := h.2.2.2.2.2.2.2.2.2.2.2.2.2.2.2.2.2.2.2.2.2.2.2.2.2.2.2.2.2.1
theorem ru_parF {u : Nat → Nat} {Ps : PsT} {Pf : PfT} (h : Rules u Ps Pf) : ∀ (o : Nat) (i : Nat) (j : Nat) (a : Nat) (L : List Cd), u i = 40 → o < 6 → Ps 8 (o + 1) (i + 1) j a L → u j ≠ 41 → u j ≠ 38 → u j ≠ 124 → Pf 6 o i (ft 1 j) := h.2.2.2.2.2.2.2.2.2.2.2.2.2.2.2.2.2.2.2.2.2.2.2.2.2.2.2.2.2.2.1
theorem ru_parG {u : Nat → Nat} {Ps : PsT} {Pf : PfT} (h : Rules u Ps Pf) : ∀ (o : Nat) (i : Nat) (f : Int32), u i = 40 → o < 6 → Pf 8 (o + 1) (i + 1) f → Pf 6 o i f := h.2.2.2.2.2.2.2.2.2.2.2.2.2.2.2.2.2.2.2.2.2.2.2.2.2.2.2.2.2.2.2.1
theorem ru_pc {u : Nat → Nat} {Ps : PsT} {Pf : PfT} (h : Rules u Ps Pf) : ∀ (o : Nat) (i : Nat) (j : Nat) (L : List Cd) {b2 : Nat}, u i ≠ 33 → u i ≠ 40 → Ps 5 o i j b2 L → Ps 6 o i j 0 L := h.2.2.2.2.2.2.2.2.2.2.2.2.2.2.2.2.2.2.2.2.2.2.2.2.2.2.2.2.2.2.2.2.1
theorem ru_pcF {u : Nat → Nat} {Ps : PsT} {Pf : PfT} (h : Rules u Ps Pf) : ∀ (o : Nat) (i : Nat) (f : Int32), u i ≠ 33 → u i ≠ 40 → Pf 5 o i f → Pf 6 o i f := h.2.2.2.2.2.2.2.2.2.2.2.2.2.2.2.2.2.2.2.2.2.2.2.2.2.2.2.2.2.2.2.2.2.1
theorem ru_ps0 {u : Nat → Nat} {Ps : PsT} {Pf : PfT} (h : Rules u Ps Pf) : ∀ (o : Nat) (i : Nat) (j : Nat) (L : List Cd) {b0 : Nat}, Ps 6 o i j b0 L → u j ≠ 38 → Ps 7 o i j L.length L := h.2.2.2.2.2.2.2.2.2.2.2.2.2.2.2.2.2.2.2.2.2.2.2.2.2.2.2.2.2.2.2.2.2.2.1
theorem ru_psF {u : Nat → Nat} {Ps : PsT} {Pf : PfT} (h : Rules u Ps Pf) : ∀ (o : Nat) (i : Nat) (f : Int32), Pf 6 o i f → Pf 7 o i f := h.2.2.2.2.2.2.2.2.2.2.2.2.2.2.2.2.2.2.2.2.2.2.2.2.2.2.2.2.2.2.2.2.2.2.2.1
theorem ru_ps1 {u : Nat → Nat} {Ps : PsT} {Pf : PfT} (h : Rules u Ps Pf) : ∀ (o : Nat) (i : Nat) (j : Nat) (j2 : Nat) (a : Nat) (L : List Cd) (L2 : List Cd) {b0 : Nat}, Ps 6 o i j b0 L → u j = 38 → Ps 7 o (j + 1) j2 a L2 → Ps 7 o i j2 L.length (L ++ (11, 1 + a, 1 + L2.length) :: L2) := h.2.2.2.2.2.2.2.2.2.2.2.2.2.2.2.2.2.2.2.2.2.2.2.2.2.2.2.2.2.2.2.2.2.2.2.2.1
theorem ru_psG {u : Nat → Nat} {Ps : PsT} {Pf : PfT} (h : Rules u Ps Pf) : ∀ (o : Nat) (i : Nat) (j : Nat) (L : List Cd) (f : Int32) {b0 : Nat}, Ps 6 o i j b0 L → u j = 38 → Pf 7 o (j + 1) f → Pf 7 o i f := h.2.2.2.2.2.2.2.2.2.2.2.2.2.2.2.2.2.2.2.2.2.2.2.2.2.2.2.2.2.2.2.2.2.2.2.2.2.1
theorem ru_pt0 {u : Nat → Nat} {Ps : PsT} {Pf : PfT} (h : Rules u Ps Pf) : ∀ (o : Nat) (i : Nat) (j : Nat) (a : Nat) (L : List Cd), Ps 7 o i j a L → u j ≠ 38 → u j ≠ 124 → Ps 8 o i j L.length L := h.2.2.2.2.2.2.2.2.2.2.2.2.2.2.2.2.2.2.2.2.2.2.2.2.2.2.2.2.2.2.2.2.2.2.2.2.2.2.1
theorem ru_ptF {u : Nat → Nat} {Ps : PsT} {Pf : PfT} (h : Rules u Ps Pf) : ∀ (o : Nat) (i : Nat) (f : Int32), Pf 7 o i f → Pf 8 o i f := h.2.2.2.2.2.2.2.2.2.2.2.2.2.2.2.2.2.2.2.2.2.2.2.2.2.2.2.2.2.2.2.2.2.2.2.2.2.2.2.1
theorem ru_pt1 {u : Nat → Nat} {Ps : PsT} {Pf : PfT} (h : Rules u Ps Pf) : ∀ (o : Nat) (i : Nat) (j : Nat) (j2 : Nat) (a : Nat) (a2 : Nat) (L : List Cd) (L2 : List Cd), Ps 7 o i j a L → u j ≠ 38 → u j = 124 → Ps 8 o (j + 1) j2 a2 L2 → Ps 8 o i j2 L.length (L ++ (12, 1 + a2, 1 + L2.length) :: L2) := h.2.2.2.2.2.2.2.2.2.2.2.2.2.2.2.2.2.2.2.2.2.2.2.2.2.2.2.2.2.2.2.2.2.2.2.2.2.2.2.2.1
theorem ru_ptG {u : Nat → Nat} {Ps : PsT} {Pf : PfT} (h : Rules u Ps Pf) : ∀ (o : Nat) (i : Nat) (j : Nat) (a : Nat) (L : List Cd) (f : Int32), Ps 7 o i j a L → u j ≠ 38 → u j = 124 → Pf 8 o (j + 1) f → Pf 8 o i f := h.2.2.2.2.2.2.2.2.2.2.2.2.2.2.2.2.2.2.2.2.2.2.2.2.2.2.2.2.2.2.2.2.2.2.2.2.2.2.2.2.2
theorem Rules_and {u : Nat → Nat} {P Q : PsT} {Pf : PfT} (h : Rules u P Pf) (g : Rules u Q (fun _ _ _ _ => True)) : Rules u (fun k o i j a L => P k o i j a L ∧ Q k o i j a L) Pf :=
  ⟨(fun o i n z0 z1 z2 z3 => ⟨ru_num h o i n z0 z1 z2 z3, ru_num g o i n z0 z1 z2 z3⟩),
   (fun o i z0 => ru_numF h o i z0),
   (fun o i z0 => ⟨ru_let h o i z0, ru_let g o i z0⟩),
   (fun o i z0 z1 z2 => ru_letF h o i z0 z1 z2),
   (fun o i j L {b2 : Nat} z0 z1 z2 z3 => ⟨ru_sqr h o i j L z0 z1 z2.1 z3, ru_sqr g o i j L z0 z1 z2.2 z3⟩),
   (fun o i j L {b2 : Nat} z0 z1 z2 z3 z4 => ru_sqrF h o i j L z0 z1 z2.1 z3 z4),
   (fun o i f z0 z1 z2 => ru_sqrG h o i f z0 z1 z2),
   (fun o i z0 z1 => ru_sqrO h o i z0 z1),
   (fun o i z0 => ⟨ru_pr0 h o i z0, ru_pr0 g o i z0⟩),
   (fun o i j j2 L L2 {b1 : Nat} {b2 : Nat} z0 z1 z2 => ⟨ru_pr1 h o i j j2 L L2 z0 z1.1 z2.1, ru_pr1 g o i j j2 L L2 z0 z1.2 z2.2⟩),
   (fun o i f z0 z1 => ru_prF h o i f z0 z1),
   (fun o i j L f {b1 : Nat} z0 z1 z2 => ru_prG h o i j L f z0 z1.1 z2),
   (fun o i j j2 L L2 {b0 : Nat} {b1 : Nat} z0 z1 => ⟨ru_pd h o i j j2 L L2 z0.1 z1.1, ru_pd g o i j j2 L L2 z0.2 z1.2⟩),
   (fun o i f z0 => ru_pdF h o i f z0),
   (fun o i j L f {b0 : Nat} z0 z1 => ru_pdG h o i j L f z0.1 z1),
   (fun o i z0 => ⟨ru_sr0 h o i z0, ru_sr0 g o i z0⟩),
   (fun o i j j2 L L2 {b1 : Nat} {b2 : Nat} z0 z1 z2 => ⟨ru_sr1 h o i j j2 L L2 z0 z1.1 z2.1, ru_sr1 g o i j j2 L L2 z0 z1.2 z2.2⟩),
   (fun o i f z0 z1 => ru_srF h o i f z0 z1),
   (fun o i j L f {b1 : Nat} z0 z1 z2 => ru_srG h o i j L f z0 z1.1 z2),
   (fun o i j j2 L L2 {b0 : Nat} {b1 : Nat} z0 z1 => ⟨ru_sm h o i j j2 L L2 z0.1 z1.1, ru_sm g o i j j2 L L2 z0.2 z1.2⟩),
   (fun o i f z0 => ru_smF h o i f z0),
   (fun o i j L f {b0 : Nat} z0 z1 => ru_smG h o i j L f z0.1 z1),
   (fun o i j j2 L L2 {b0 : Nat} {b3 : Nat} z0 z1 z2 z3 z4 => ⟨ru_cm h o i j j2 L L2 z0.1 z1 z2 z3.1 z4, ru_cm g o i j j2 L L2 z0.2 z1 z2 z3.2 z4⟩),
   (fun o i f z0 => ru_cmF h o i f z0),
   (fun o i j L {b0 : Nat} z0 z1 z2 => ru_cmG h o i j L z0.1 z1 z2),
   (fun o i j L f {b0 : Nat} z0 z1 z2 z3 => ru_cmH h o i j L f z0.1 z1 z2 z3),
   (fun o i j L {b2 : Nat} z0 z1 z2 => ⟨ru_nt h o i j L z0 z1 z2.1, ru_nt g o i j L z0 z1 z2.2⟩),
   (fun o i f z0 z1 z2 => ru_ntF h o i f z0 z1 z2),
   (fun o i z0 z1 => ru_opF h o i z0 z1),
   (fun o i j a L z0 z1 z2 z3 => ⟨ru_par h o i j a L z0 z1 z2.1 z3, ru_par g o i j a L z0 z1 z2.2 z3⟩),
   (fun o i j a L z0 z1 z2 z3 z4 z5 => ru_parF h o i j a L z0 z1 z2.1 z3 z4 z5),
   (fun o i f z0 z1 z2 => ru_parG h o i f z0 z1 z2),
   (fun o i j L {b2 : Nat} z0 z1 z2 => ⟨ru_pc h o i j L z0 z1 z2.1, ru_pc g o i j L z0 z1 z2.2⟩),
   (fun o i f z0 z1 z2 => ru_pcF h o i f z0 z1 z2),
   (fun o i j L {b0 : Nat} z0 z1 => ⟨ru_ps0 h o i j L z0.1 z1, ru_ps0 g o i j L z0.2 z1⟩),
   (fun o i f z0 => ru_psF h o i f z0),
   (fun o i j j2 a L L2 {b0 : Nat} z0 z1 z2 => ⟨ru_ps1 h o i j j2 a L L2 z0.1 z1 z2.1, ru_ps1 g o i j j2 a L L2 z0.2 z1 z2.2⟩),
   (fun o i j L f {b0 : Nat} z0 z1 z2 => ru_psG h o i j L f z0.1 z1 z2),
   (fun o i j a L z0 z1 z2 => ⟨ru_pt0 h o i j a L z0.1 z1 z2, ru_pt0 g o i j a L z0.2 z1 z2⟩),
   (fun o i f z0 => ru_ptF h o i f z0),
   (fun o i j j2 a a2 L L2 z0 z1 z2 z3 => ⟨ru_pt1 h o i j j2 a a2 L L2 z0.1 z1 z2 z3.1, ru_pt1 g o i j j2 a a2 L L2 z0.2 z1 z2 z3.2⟩),
   (fun o i j a L f z0 z1 z2 z3 => ru_ptG h o i j a L f z0.1 z1 z2 z3)⟩
