/-! ===== the signs of a text; codes ===== -/
/-- a sign: 0 to 255, or 256: none -/
def sg (n : Nat) : Int32 := if n = 256 then -1 else nI n
theorem sg_256 : sg 256 = -1 := rfl
theorem sg_n {n : Nat} (h : n < 256) : sg n = nI n := by
  unfold sg
  rw [if_neg (by omega)]
theorem sg_eq {n c : Nat} (hn : n ≤ 256) (hc : c < 256) : sg n = nI c ↔ n = c := by
  by_cases h : n = 256
  · subst h
    constructor
    · intro q
      exfalso
      have h1 : (-1 : Int32) = nI c := q
      have h2 : (-1 : Int32) < 0 := by decide
      rw [h1] at h2
      exact nI_pos (n := c) (by omega) h2
    · intro q
      omega
  · rw [sg_n (by omega)]
    exact nI_eq (by omega) (by omega)
abbrev dig (n : Nat) : Prop := 48 ≤ n ∧ n ≤ 57
theorem sg_in {n : Nat} (hn : n ≤ 256) : g_in (sg n) 48 57 = if dig n then 1 else 0 := by
  unfold g_in
  by_cases h : n = 256
  · subst h
    decide
  · rw [sg_n (by omega)]
    have e1 : (48 : Int32) ≤ nI n ↔ 48 ≤ n := nI_leI (a := 48) (by omega) (by omega)
    have e2 : nI n ≤ (57 : Int32) ↔ n ≤ 57 := nI_leI (b := 57) (by omega) (by omega)
    simp only [e1, e2, dig]
theorem sg_48 {n : Nat} (hn : n ≤ 256) : sg n < 48 ↔ (n < 48 ∨ n = 256) := by
  by_cases h : n = 256
  · subst h
    exact ⟨fun _ => Or.inr rfl, fun _ => by decide⟩
  · rw [sg_n (by omega)]
    have e1 : nI n < (48 : Int32) ↔ n < 48 := nI_ltI (b := 48) (by omega) (by omega)
    rw [e1]
    omega
theorem sg_57 {n : Nat} (hn : n ≤ 256) : 57 < sg n ↔ (57 < n ∧ n ≠ 256) := by
  by_cases h : n = 256
  · subst h
    exact ⟨fun q => absurd q (by decide), fun q => absurd rfl q.2⟩
  · rw [sg_n (by omega)]
    have e1 : (57 : Int32) < nI n ↔ 57 < n := nI_ltI (a := 57) (by omega) (by omega)
    rw [e1]
    omega
theorem sg_m1 {n : Nat} (hn : n ≤ 256) : sg n = -1 ↔ n = 256 := by
  constructor
  · intro h
    by_cases q : n = 256
    · exact q
    · rw [sg_n (by omega)] at h
      have h2 : (-1 : Int32) < 0 := by decide
      rw [← h] at h2
      exact absurd h2 (nI_pos (by omega))
  · intro h
    subst h
    rfl
/-- the letters that are told -/
def lf (n : Nat) : Nat := if n = 116 then 0 else if n = 112 then 1 else if n = 114 then 2 else if n = 105 then 3 else if n = 107 then 4 else if n = 120 then 5 else if n = 102 then 6 else if n = 103 then 7 else if n = 119 then 8 else if n = 108 then 9 else if n = 117 then 10 else if n = 99 then 11 else 12
/-- the letters of clauses -/
def lc (n : Nat) : Nat := if n = 97 then 0 else if n = 115 then 1 else if n = 104 then 2 else if n = 106 then 3 else if n = 98 then 4 else if n = 122 then 5 else 6
theorem lf_12 (n : Nat) : lf n ≤ 12 := by
  unfold lf
  repeat' split
  all_goals omega
theorem lf_C : ∀ n : Nat, n < 256 → sp_J0_indexOf_0f7a4_s1 (((nI n).toUInt32 % 65536).toInt32) = if lf n < 12 then nI (lf n) else -1 := by
  have : ∀ n : Fin 256, sp_J0_indexOf_0f7a4_s1 (((nI n.val).toUInt32 % 65536).toInt32) = if lf n.val < 12 then nI (lf n.val) else -1 := by decide +kernel
  exact fun n h => this ⟨n, h⟩
theorem lc_C : ∀ n : Nat, n < 256 → sp_J0_indexOf_0f7a4_s0 (((nI n).toUInt32 % 65536).toInt32) = if lc n < 6 then nI (lc n) else -1 := by
  have : ∀ n : Fin 256, sp_J0_indexOf_0f7a4_s0 (((nI n.val).toUInt32 % 65536).toInt32) = if lc n.val < 6 then nI (lc n.val) else -1 := by decide +kernel
  exact fun n h => this ⟨n, h⟩
theorem lf_M (F : Nat → Int32) (R : Nat → Nat → Int32) : ∀ n : Nat, n ≤ 256 → sp_X11_factOf F R (sg n) = if lf n < 12 then nI (lf n) else -1 := by
  have : ∀ n : Fin 257, sp_X11_factOf (fun _ => 0) (fun _ _ => 0) (sg n.val) = if lf n.val < 12 then nI (lf n.val) else -1 := by decide +kernel
  exact fun n h => this ⟨n, by omega⟩
theorem lc_M (F : Nat → Int32) (R : Nat → Nat → Int32) : ∀ n : Nat, n ≤ 256 → (sp_X11_isClause F R (sg n) = if lc n < 6 then 1 else 0) ∧ (lc n < 6 → sg n = uch (lc n)) := by
  have : ∀ n : Fin 257, (sp_X11_isClause (fun _ => 0) (fun _ _ => 0) (sg n.val) = if lc n.val < 6 then 1 else 0) ∧ (lc n.val < 6 → sg n.val = uch (lc n.val)) := by decide +kernel
  exact fun n h => this ⟨n, by omega⟩
/-- the number that n digits from i come to -/
def dv (u : Nat → Nat) (i : Nat) : Nat → Nat
  | 0 => 0
  | n + 1 => 10 * dv u i n + (u (i + n) - 48)
theorem dv_lt {u : Nat → Nat} {i : Nat} : ∀ n : Nat, (∀ k, k < n → dig (u (i + k))) → dv u i n < 10 ^ n
  | 0, _ => Nat.one_pos
  | n + 1, h => by
    have h1 := dv_lt n (fun k hk => h k (by omega))
    have h2 : 48 ≤ u (i + n) ∧ u (i + n) ≤ 57 := h n (by omega)
    show 10 * dv u i n + (u (i + n) - 48) < 10 ^ (n + 1)
    rw [Nat.pow_succ]
    omega
theorem dv_5 {u : Nat → Nat} {i n : Nat} (hn : n ≤ 5) (h : ∀ k, k < n → dig (u (i + k))) : dv u i n < 100000 := by
  have h1 := dv_lt n h
  have h2 : 10 ^ n ≤ 10 ^ 5 := Nat.pow_le_pow_right (by decide) hn
  omega
abbrev mul (n : Nat) : Prop := n = 42 ∨ n = 47 ∨ n = 37
abbrev adds (n : Nat) : Prop := n = 43 ∨ n = 45
def mop (n : Nat) : Nat := if n = 42 then 4 else if n = 47 then 5 else 6
def aop (n : Nat) : Nat := if n = 43 then 2 else 3
abbrev cmps (n : Nat) : Prop := n = 60 ∨ n = 62 ∨ n = 61
def cop (n : Nat) : Nat := if n = 60 then 7 else if n = 62 then 8 else 9
abbrev nop (n : Nat) : Prop := ¬ mul n ∧ ¬ adds n
/-- a code: its sign; a number, a letter, or how far it jumps in the reference; how far it jumps in the class -/
abbrev Cd := Nat × Nat × Nat
def cvC (p : Nat) (c : Cd) : Int32 := if c.1 ≤ 1 then nI c.2.1 else nI (p + c.2.2)
def cvM (a : Nat) (c : Cd) : Nat := if c.1 ≤ 1 then c.2.1 else if c.1 ≤ 10 then 0 else a + c.2.1
/-- the codes lie at p in the class -/
def CodeC (r s : Nat → Int32) : Nat → List Cd → Prop
  | _, [] => True
  | p, c :: L => r p = nI (uo c.1) ∧ (c.1 ≤ 1 ∨ 11 ≤ c.1 → s p = cvC p c) ∧ CodeC r s (p + 1) L
/-- .. and at a in the reference -/
def CodeM (w : Nat → Int32) : Nat → List Cd → Prop
  | _, [] => True
  | a, c :: L => w a = nI (1048576 * c.1 + cvM a c) ∧ CodeM w (a + 1) L
theorem CodeC_app {r s : Nat → Int32} : ∀ (L1 L2 : List Cd) (p : Nat), CodeC r s p (L1 ++ L2) ↔ CodeC r s p L1 ∧ CodeC r s (p + L1.length) L2
  | [], L2, p => by simp [CodeC]
  | c :: L1, L2, p => by
    show r p = nI (uo c.1) ∧ _ ∧ CodeC r s (p + 1) (L1 ++ L2) ↔ (r p = nI (uo c.1) ∧ _ ∧ CodeC r s (p + 1) L1) ∧ CodeC r s (p + (L1.length + 1)) L2
    rw [CodeC_app L1 L2 (p + 1), show p + (L1.length + 1) = p + 1 + L1.length from by omega]
    exact ⟨fun h => ⟨⟨h.1, h.2.1, h.2.2.1⟩, h.2.2.2⟩, fun h => ⟨h.1.1, h.1.2.1, h.1.2.2, h.2⟩⟩
theorem CodeM_app {w : Nat → Int32} : ∀ (L1 L2 : List Cd) (a : Nat), CodeM w a (L1 ++ L2) ↔ CodeM w a L1 ∧ CodeM w (a + L1.length) L2
  | [], L2, a => by simp [CodeM]
  | c :: L1, L2, a => by
    show w a = _ ∧ CodeM w (a + 1) (L1 ++ L2) ↔ (w a = _ ∧ CodeM w (a + 1) L1) ∧ CodeM w (a + (L1.length + 1)) L2
    rw [CodeM_app L1 L2 (a + 1), show a + (L1.length + 1) = a + 1 + L1.length from by omega]
    exact ⟨fun h => ⟨⟨h.1, h.2.1⟩, h.2.2⟩, fun h => ⟨h.1.1, h.1.2, h.2⟩⟩
theorem CodeC_eq {r s r' s' : Nat → Int32} : ∀ (L : List Cd) (p : Nat), (∀ k, p ≤ k → k < p + L.length → r' k = r k ∧ s' k = s k) → CodeC r s p L → CodeC r' s' p L
  | [], _, _, _ => trivial
  | c :: L, p, e, h => by
    have el : (c :: L).length = L.length + 1 := rfl
    refine ⟨by rw [(e p (by omega) (by omega)).1]; exact h.1, fun q => by rw [(e p (by omega) (by omega)).2]; exact h.2.1 q, CodeC_eq L (p + 1) (fun k h1 h2 => e k (by omega) (by omega)) h.2.2⟩
theorem CodeM_eq {w w' : Nat → Int32} : ∀ (L : List Cd) (a : Nat), (∀ k, a ≤ k → k < a + L.length → w' k = w k) → CodeM w a L → CodeM w' a L
  | [], _, _, _ => trivial
  | c :: L, a, e, h => by
    have el : (c :: L).length = L.length + 1 := rfl
    refine ⟨by rw [e a (by omega) (by omega)]; exact h.1, CodeM_eq L (a + 1) (fun k h1 h2 => e k (by omega) (by omega)) h.2⟩
