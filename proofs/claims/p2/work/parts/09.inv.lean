def g_rg (x : Int32) (n : Nat) : Prop := ∃ j : Nat, j ≤ n ∧ x = nI j
/-- what the class's numbers keep to: the tape's size, the pulls' ticks, the laws' sizes and clauses, the row's size -/
def IX (F : Nat → Int32) : Prop := g_rg (F 145) 220 ∧ g_rg (F 177) 60 ∧ g_rg (F 209) 60 ∧ g_rg (F 241) 60 ∧ g_rg (F 274) 256 ∧ g_rg (F 402) 256 ∧ g_rg (F 278) 14 ∧ g_rg (F 406) 14 ∧ g_rg (F 755) 5
/-- what only table, keep and undo change: length, kept length, kept -/
def KX (F F' : Nat → Int32) : Prop := F' 16 = F 16 ∧ F' 48 = F 48 ∧ F' 11 = F 11
theorem KX_rf (F : Nat → Int32) : KX F F := ⟨rfl, rfl, rfl⟩
theorem KX_tr {F G H : Nat → Int32} (h1 : KX F G) (h2 : KX G H) : KX F H := ⟨h2.1.trans h1.1, h2.2.1.trans h1.2.1, h2.2.2.trans h1.2.2⟩
def g_kfr (k : Nat) : Bool := k != 16 && k != 48 && k != 11
theorem g_upn {F : Nat → Int32} {k j : Nat} {v : Int32} (h : (k != j) = true) : upd F k v j = F j := by
  unfold upd
  rw [if_neg]
  intro e
  subst e
  simp at h
theorem KX_u {F G : Nat → Int32} {k : Nat} {v : Int32} (h : KX F G) (hk : g_kfr k = true) : KX F (upd G k v) := by
  simp only [g_kfr, Bool.and_eq_true] at hk
  exact ⟨(g_upn hk.1.1).trans h.1, (g_upn hk.1.2).trans h.2.1, (g_upn hk.2).trans h.2.2⟩
def g_ifr (k : Nat) : Bool := k != 145 && k != 177 && k != 209 && k != 241 && k != 274 && k != 402 && k != 278 && k != 406 && k != 755
theorem IX_u {F : Nat → Int32} {k : Nat} {v : Int32} (h : IX F) (hk : g_ifr k = true) : IX (upd F k v) := by
  simp only [g_ifr, Bool.and_eq_true] at hk
  unfold IX at h ⊢
  rw [g_upn (j := 145) hk.1.1.1.1.1.1.1.1, g_upn (j := 177) hk.1.1.1.1.1.1.1.2, g_upn (j := 209) hk.1.1.1.1.1.1.2, g_upn (j := 241) hk.1.1.1.1.1.2, g_upn (j := 274) hk.1.1.1.1.2, g_upn (j := 402) hk.1.1.1.2, g_upn (j := 278) hk.1.1.2, g_upn (j := 406) hk.1.2, g_upn (j := 755) hk.2]
  exact h
theorem IX_145 {F : Nat → Int32} {v : Int32} (h : IX F) (hv : g_rg v 220) : IX (upd F 145 v) := ⟨hv, h.2.1, h.2.2.1, h.2.2.2.1, h.2.2.2.2.1, h.2.2.2.2.2.1, h.2.2.2.2.2.2.1, h.2.2.2.2.2.2.2.1, h.2.2.2.2.2.2.2.2⟩
theorem IX_145g {F : Nat → Int32} (h : IX F) : g_rg (F 145) 220 := h.1
theorem IX_177 {F : Nat → Int32} {v : Int32} (h : IX F) (hv : g_rg v 60) : IX (upd F 177 v) := ⟨h.1, hv, h.2.2.1, h.2.2.2.1, h.2.2.2.2.1, h.2.2.2.2.2.1, h.2.2.2.2.2.2.1, h.2.2.2.2.2.2.2.1, h.2.2.2.2.2.2.2.2⟩
theorem IX_177g {F : Nat → Int32} (h : IX F) : g_rg (F 177) 60 := h.2.1
theorem IX_209 {F : Nat → Int32} {v : Int32} (h : IX F) (hv : g_rg v 60) : IX (upd F 209 v) := ⟨h.1, h.2.1, hv, h.2.2.2.1, h.2.2.2.2.1, h.2.2.2.2.2.1, h.2.2.2.2.2.2.1, h.2.2.2.2.2.2.2.1, h.2.2.2.2.2.2.2.2⟩
theorem IX_209g {F : Nat → Int32} (h : IX F) : g_rg (F 209) 60 := h.2.2.1
theorem IX_241 {F : Nat → Int32} {v : Int32} (h : IX F) (hv : g_rg v 60) : IX (upd F 241 v) := ⟨h.1, h.2.1, h.2.2.1, hv, h.2.2.2.2.1, h.2.2.2.2.2.1, h.2.2.2.2.2.2.1, h.2.2.2.2.2.2.2.1, h.2.2.2.2.2.2.2.2⟩
theorem IX_241g {F : Nat → Int32} (h : IX F) : g_rg (F 241) 60 := h.2.2.2.1
theorem IX_274 {F : Nat → Int32} {v : Int32} (h : IX F) (hv : g_rg v 256) : IX (upd F 274 v) := ⟨h.1, h.2.1, h.2.2.1, h.2.2.2.1, hv, h.2.2.2.2.2.1, h.2.2.2.2.2.2.1, h.2.2.2.2.2.2.2.1, h.2.2.2.2.2.2.2.2⟩
theorem IX_274g {F : Nat → Int32} (h : IX F) : g_rg (F 274) 256 := h.2.2.2.2.1
theorem IX_402 {F : Nat → Int32} {v : Int32} (h : IX F) (hv : g_rg v 256) : IX (upd F 402 v) := ⟨h.1, h.2.1, h.2.2.1, h.2.2.2.1, h.2.2.2.2.1, hv, h.2.2.2.2.2.2.1, h.2.2.2.2.2.2.2.1, h.2.2.2.2.2.2.2.2⟩
theorem IX_402g {F : Nat → Int32} (h : IX F) : g_rg (F 402) 256 := h.2.2.2.2.2.1
theorem IX_278 {F : Nat → Int32} {v : Int32} (h : IX F) (hv : g_rg v 14) : IX (upd F 278 v) := ⟨h.1, h.2.1, h.2.2.1, h.2.2.2.1, h.2.2.2.2.1, h.2.2.2.2.2.1, hv, h.2.2.2.2.2.2.2.1, h.2.2.2.2.2.2.2.2⟩
theorem IX_278g {F : Nat → Int32} (h : IX F) : g_rg (F 278) 14 := h.2.2.2.2.2.2.1
theorem IX_406 {F : Nat → Int32} {v : Int32} (h : IX F) (hv : g_rg v 14) : IX (upd F 406 v) := ⟨h.1, h.2.1, h.2.2.1, h.2.2.2.1, h.2.2.2.2.1, h.2.2.2.2.2.1, h.2.2.2.2.2.2.1, hv, h.2.2.2.2.2.2.2.2⟩
theorem IX_406g {F : Nat → Int32} (h : IX F) : g_rg (F 406) 14 := h.2.2.2.2.2.2.2.1
theorem IX_755 {F : Nat → Int32} {v : Int32} (h : IX F) (hv : g_rg v 5) : IX (upd F 755 v) := ⟨h.1, h.2.1, h.2.2.1, h.2.2.2.1, h.2.2.2.2.1, h.2.2.2.2.2.1, h.2.2.2.2.2.2.1, h.2.2.2.2.2.2.2.1, hv⟩
theorem IX_755g {F : Nat → Int32} (h : IX F) : g_rg (F 755) 5 := h.2.2.2.2.2.2.2.2

