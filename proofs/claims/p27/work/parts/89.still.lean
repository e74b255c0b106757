/-! ===== an evening that is not drawn leaves the seed (laid by wip/xg/kt.py) ===== -/
def ka2 (F0 : Nat → Int32) (p : (Nat → Int32) × (Nat → Nat → Int32)) : Prop := p.1 3 = F0 3
def ka3 (F0 : Nat → Int32) (p : Int32 × (Nat → Int32) × (Nat → Nat → Int32)) : Prop := p.2.1 3 = F0 3
def kb2 (F0 : Nat → Int32) (p : (Nat → Int32) × (Nat → Nat → Int32)) : Prop := p.1 3 = F0 3 ∧ p.1 51 = 0
def kb3 (F0 : Nat → Int32) (p : Int32 × (Nat → Int32) × (Nat → Nat → Int32)) : Prop := p.2.1 3 = F0 3 ∧ p.2.1 51 = 0
section KT
variable {F0 Fo F' : Nat → Int32} {Ro R' : Nat → Nat → Int32} {M N : List Nat}
theorem ka2_lt {α : Type} {e : α} {f : α → (Nat → Int32) × (Nat → Nat → Int32)} (h : ∀ x, x = e → ka2 F0 (f x)) : ka2 F0 (k_lt e f) := h e rfl
theorem ka2_lt2 {α β : Type} {e : α × β} {f : α → β → (Nat → Int32) × (Nat → Nat → Int32)} (h : ∀ x y, (x, y) = e → ka2 F0 (f x y)) : ka2 F0 (k_lt2 e f) := h _ _ rfl
theorem ka2_lt3 {α β γ : Type} {e : α × β × γ} {f : α → β → γ → (Nat → Int32) × (Nat → Nat → Int32)} (h : ∀ x y z, (x, y, z) = e → ka2 F0 (f x y z)) : ka2 F0 (k_lt3 e f) := h _ _ _ rfl
theorem ka2_ite {c : Prop} [Decidable c] {a b : (Nat → Int32) × (Nat → Nat → Int32)} (ha : ka2 F0 a) (hb : ka2 F0 b) : ka2 F0 (if c then a else b) := by split <;> assumption
theorem ka3_lt {α : Type} {e : α} {f : α → Int32 × (Nat → Int32) × (Nat → Nat → Int32)} (h : ∀ x, x = e → ka3 F0 (f x)) : ka3 F0 (k_lt e f) := h e rfl
theorem ka3_lt2 {α β : Type} {e : α × β} {f : α → β → Int32 × (Nat → Int32) × (Nat → Nat → Int32)} (h : ∀ x y, (x, y) = e → ka3 F0 (f x y)) : ka3 F0 (k_lt2 e f) := h _ _ rfl
theorem ka3_lt3 {α β γ : Type} {e : α × β × γ} {f : α → β → γ → Int32 × (Nat → Int32) × (Nat → Nat → Int32)} (h : ∀ x y z, (x, y, z) = e → ka3 F0 (f x y z)) : ka3 F0 (k_lt3 e f) := h _ _ _ rfl
theorem ka3_ite {c : Prop} [Decidable c] {a b : Int32 × (Nat → Int32) × (Nat → Nat → Int32)} (ha : ka3 F0 a) (hb : ka3 F0 b) : ka3 F0 (if c then a else b) := by split <;> assumption
theorem kb2_lt {α : Type} {e : α} {f : α → (Nat → Int32) × (Nat → Nat → Int32)} (h : ∀ x, x = e → kb2 F0 (f x)) : kb2 F0 (k_lt e f) := h e rfl
theorem kb2_lt2 {α β : Type} {e : α × β} {f : α → β → (Nat → Int32) × (Nat → Nat → Int32)} (h : ∀ x y, (x, y) = e → kb2 F0 (f x y)) : kb2 F0 (k_lt2 e f) := h _ _ rfl
theorem kb2_lt3 {α β γ : Type} {e : α × β × γ} {f : α → β → γ → (Nat → Int32) × (Nat → Nat → Int32)} (h : ∀ x y z, (x, y, z) = e → kb2 F0 (f x y z)) : kb2 F0 (k_lt3 e f) := h _ _ _ rfl
theorem kb2_ite {c : Prop} [Decidable c] {a b : (Nat → Int32) × (Nat → Nat → Int32)} (ha : kb2 F0 a) (hb : kb2 F0 b) : kb2 F0 (if c then a else b) := by split <;> assumption
theorem kb3_lt {α : Type} {e : α} {f : α → Int32 × (Nat → Int32) × (Nat → Nat → Int32)} (h : ∀ x, x = e → kb3 F0 (f x)) : kb3 F0 (k_lt e f) := h e rfl
theorem kb3_lt2 {α β : Type} {e : α × β} {f : α → β → Int32 × (Nat → Int32) × (Nat → Nat → Int32)} (h : ∀ x y, (x, y) = e → kb3 F0 (f x y)) : kb3 F0 (k_lt2 e f) := h _ _ rfl
theorem kb3_lt3 {α β γ : Type} {e : α × β × γ} {f : α → β → γ → Int32 × (Nat → Int32) × (Nat → Nat → Int32)} (h : ∀ x y z, (x, y, z) = e → kb3 F0 (f x y z)) : kb3 F0 (k_lt3 e f) := h _ _ _ rfl
theorem kb3_ite {c : Prop} [Decidable c] {a b : Int32 × (Nat → Int32) × (Nat → Nat → Int32)} (ha : kb3 F0 a) (hb : kb3 F0 b) : kb3 F0 (if c then a else b) := by split <;> assumption
theorem kt_ua {k : Nat} {v : Int32} (h : Fo 3 = F0 3) (hk : (k != 3) = true) (e : F' = upd Fo k v) : F' 3 = F0 3 := by rw [e, g_un hk]; exact h
theorem kt_ub {k : Nat} {v : Int32} (h : Fo 51 = 0) (hk : (k != 51) = true) (e : F' = upd Fo k v) : F' 51 = 0 := by rw [e, g_un hk]; exact h
theorem kt_51 (e : F' = upd Fo 51 0) : F' 51 = 0 := by rw [e, g_us]
theorem kt_lt (e : (F', R') = sp_X11_laysThings Fo Ro) : F' 51 = 0 := by
  obtain ⟨S', a, _⟩ := m_lt Fo Ro
  rw [a] at e
  have e1 := congrArg Prod.fst e
  have e1 : F' = _ := e1
  rw [e1]
  show (upd (upd (upd (upd Fo 42 (Fo 4)) 43 (Fo 2)) 51 0) 49 0) 51 = 0
  rw [g_un rfl, g_us]
theorem kf2_A {p : (Nat → Int32) × (Nat → Nat → Int32)} (h0 : Fo 3 = F0 3) (h : kf2 M N Fo Ro p) (e : (F', R') = p) (hk : M.contains 3 = false) : F' 3 = F0 3 := by subst e; exact (h.1 3 hk).trans h0
theorem kf3_A {r : Int32} {p : Int32 × (Nat → Int32) × (Nat → Nat → Int32)} (h0 : Fo 3 = F0 3) (h : kf3 M N Fo Ro p) (e : (r, F', R') = p) (hk : M.contains 3 = false) : F' 3 = F0 3 := by subst e; exact (h.1 3 hk).trans h0
theorem kf2_B {p : (Nat → Int32) × (Nat → Nat → Int32)} (h0 : Fo 51 = 0) (h : kf2 M N Fo Ro p) (e : (F', R') = p) (hk : M.contains 51 = false) : F' 51 = 0 := by subst e; exact (h.1 51 hk).trans h0
theorem kf3_B {r : Int32} {p : Int32 × (Nat → Int32) × (Nat → Nat → Int32)} (h0 : Fo 51 = 0) (h : kf3 M N Fo Ro p) (e : (r, F', R') = p) (hk : M.contains 51 = false) : F' 51 = 0 := by subst e; exact (h.1 51 hk).trans h0
theorem ka2_A {p : (Nat → Int32) × (Nat → Nat → Int32)} (h : ka2 F0 p) (e : (F', R') = p) : F' 3 = F0 3 := by subst e; exact h
theorem ka3_A {r : Int32} {p : Int32 × (Nat → Int32) × (Nat → Nat → Int32)} (h : ka3 F0 p) (e : (r, F', R') = p) : F' 3 = F0 3 := by subst e; exact h
theorem kb2_A {p : (Nat → Int32) × (Nat → Nat → Int32)} (h : kb2 F0 p) (e : (F', R') = p) : F' 3 = F0 3 := by subst e; exact h.1
theorem kb3_A {r : Int32} {p : Int32 × (Nat → Int32) × (Nat → Nat → Int32)} (h : kb3 F0 p) (e : (r, F', R') = p) : F' 3 = F0 3 := by subst e; exact h.1
theorem kb2_B {p : (Nat → Int32) × (Nat → Nat → Int32)} (h : kb2 F0 p) (e : (F', R') = p) : F' 51 = 0 := by subst e; exact h.2
theorem kb3_B {r : Int32} {p : Int32 × (Nat → Int32) × (Nat → Nat → Int32)} (h : kb3 F0 p) (e : (r, F', R') = p) : F' 51 = 0 := by subst e; exact h.2
end KT
theorem kt_92 (F F8 : Nat → Int32) (y7 : Int32) : ∀ (n : Nat) (R : Nat → Nat → Int32) (y : Int32), (K_X11_slipsNow_92 F F8 y7 n R y).2.1 3 = F8 3 ∧ (K_X11_slipsNow_92 F F8 y7 n R y).2.1 51 = F8 51
  | 0, _, _ => ⟨rfl, rfl⟩
  | n + 1, R, y => by
    have e : K_X11_slipsNow_92 F F8 y7 (n + 1) R y = KB_X11_slipsNow_92 (K_X11_slipsNow_92 F F8 y7 n) F F8 y7 R y := rfl
    rw [e]
    unfold KB_X11_slipsNow_92
    simp only [k_e, k_e3]
    split
    · exact ⟨(fr_sp_X11_byLaw F8 _ 104 0 40).1 3 rfl, (fr_sp_X11_byLaw F8 _ 104 0 40).1 51 rfl⟩
    · exact kt_92 F F8 y7 n _ _
theorem kt_sp_X11_slipsNow (F0 : Nat → Int32) (F : Nat → Int32) (R : Nat → Nat → Int32) (hA : F 3 = F0 3) (hB : F 51 = 0) : kb3 F0 (sp_X11_slipsNow F R) := by
  have h33 : kb3 F0 (K_X11_slipsNow_33 F R) := by
    unfold K_X11_slipsNow_33 K_X11_slipsNow_90
    simp only [k_e]
    rw [if_pos hB]
    have := kt_92 F (upd F 50 (F 50 / 10)) (F 50 - F 50 / 10 * 10) 8589934592 R 0
    refine ⟨this.1.trans ?_, this.2.trans ?_⟩
    · rw [g_un rfl]; exact hA
    · rw [g_un rfl]; exact hB
  unfold sp_X11_slipsNow
  rw [if_pos hB]
  split
  · split
    · exact h33
    · exact ⟨hA, hB⟩
  · exact ⟨hA, hB⟩
theorem kt_K_X11_ticks_236 (F0 : Nat → Int32) (y69 : Int32) (F93 : Nat → Int32) (R94 : Nat → Nat → Int32) (b217 : (Nat → Int32) → (Nat → Nat → Int32) → (Int32) → (Nat → Int32) × (Nat → Nat → Int32)) (hb217 : ∀ (F70 : Nat → Int32) (R71 : Nat → Nat → Int32) (y69 : Int32), F70 3 = F0 3 → F70 51 = 0 → kb2 F0 (b217 F70 R71 y69)) (hA : F93 3 = F0 3) (hB : F93 51 = 0) : kb2 F0 (K_X11_ticks_236 b217 y69 F93 R94) := by
  unfold K_X11_ticks_236
  exact (kb2_lt (fun x95 _ => (hb217 F93 R94 x95 hA hB)))
theorem kt_KB_X11_ticks_217 (F0 : Nat → Int32) (y35 : Int32) (F70 : Nat → Int32) (R71 : Nat → Nat → Int32) (y69 : Int32) (b217 : (Nat → Int32) → (Nat → Nat → Int32) → (Int32) → (Nat → Int32) × (Nat → Nat → Int32)) (hb217 : ∀ (F70 : Nat → Int32) (R71 : Nat → Nat → Int32) (y69 : Int32), F70 3 = F0 3 → F70 51 = 0 → kb2 F0 (b217 F70 R71 y69)) (hA : F70 3 = F0 3) (hB : F70 51 = 0) : kb2 F0 (KB_X11_ticks_217 b217 y35 F70 R71 y69) := by
  unfold KB_X11_ticks_217
  exact (kb2_ite (kb2_lt (fun x75 _ => (kb2_lt (fun F77 zF77 => (kb2_lt (fun x79 _ => (kb2_lt (fun F81 zF81 => (kb2_lt (fun x83 _ => (kb2_lt (fun F85 zF85 => ⟨(kt_ua (kt_ua (kt_ua hA rfl zF77) rfl zF81) rfl zF85), (kt_ub (kt_ub (kt_ub hB rfl zF77) rfl zF81) rfl zF85)⟩)))))))))))) (kb2_lt (fun r89 _ => (kb2_ite (kt_K_X11_ticks_236 F0 y69 F70 R71 b217 hb217 hA hB) (kb2_lt2 (fun F107 R108 zF107 => (kt_K_X11_ticks_236 F0 y69 F107 R108 b217 hb217 (kf2_A hA (fr_sp_X11_counts F70 R71 y69) zF107 rfl) (kf2_B hB (fr_sp_X11_counts F70 R71 y69) zF107 rfl))))))))
theorem kt_K_X11_ticks_217 (F0 : Nat → Int32) (y35 : Int32) : ∀ (n : Nat) (F70 : Nat → Int32) (R71 : Nat → Nat → Int32) (y69 : Int32), F70 3 = F0 3 → F70 51 = 0 → kb2 F0 (K_X11_ticks_217 y35 n F70 R71 y69)
  | 0, F70, R71, y69, hA, hB => ⟨hA, hB⟩
  | n + 1, F70, R71, y69, hA, hB => kt_KB_X11_ticks_217 F0 y35 F70 R71 y69 (K_X11_ticks_217 y35 n) (kt_K_X11_ticks_217 F0 y35 n) hA hB
theorem kt_KB_X11_ticks_184 (F0 : Nat → Int32) (r54 : Int32) (y35 : Int32) (F63 : Nat → Int32) (R64 : Nat → Nat → Int32) (y62 : Int32) (b184 : (Nat → Int32) → (Nat → Nat → Int32) → (Int32) → (Nat → Int32) × (Nat → Nat → Int32)) (hb184 : ∀ (F63 : Nat → Int32) (R64 : Nat → Nat → Int32) (y62 : Int32), F63 3 = F0 3 → F63 51 = 0 → kb2 F0 (b184 F63 R64 y62)) (hA : F63 3 = F0 3) (hB : F63 51 = 0) : kb2 F0 (KB_X11_ticks_184 b184 r54 y35 F63 R64 y62) := by
  unfold KB_X11_ticks_184
  exact (kb2_lt (fun x65 _ => (kb2_ite (kt_K_X11_ticks_217 F0 y35 8589934592 F63 R64 0 hA hB) (kb2_lt (fun x114 _ => (kb2_lt (fun x117 _ => (kb2_lt (fun x119 _ => (kb2_lt2 (fun F126 R127 zF126 => (kb2_lt (fun x129 _ => (hb184 F126 R127 x129 (kf2_A hA (fr_sp_X11_meet F63 R64 x114 x119) zF126 rfl) (kf2_B hB (fr_sp_X11_meet F63 R64 x114 x119) zF126 rfl)))))))))))))))
theorem kt_K_X11_ticks_184 (F0 : Nat → Int32) (r54 : Int32) (y35 : Int32) : ∀ (n : Nat) (F63 : Nat → Int32) (R64 : Nat → Nat → Int32) (y62 : Int32), F63 3 = F0 3 → F63 51 = 0 → kb2 F0 (K_X11_ticks_184 r54 y35 n F63 R64 y62)
  | 0, F63, R64, y62, hA, hB => ⟨hA, hB⟩
  | n + 1, F63, R64, y62, hA, hB => kt_KB_X11_ticks_184 F0 r54 y35 F63 R64 y62 (K_X11_ticks_184 r54 y35 n) (kt_K_X11_ticks_184 F0 r54 y35 n) hA hB
theorem kt_K_X11_ticks_171 (F0 : Nat → Int32) (y48 : Int32) (F137 : Nat → Int32) (R138 : Nat → Nat → Int32) (b143 : (Nat → Int32) → (Nat → Nat → Int32) → (Int32) → (Nat → Int32) × (Nat → Nat → Int32)) (hb143 : ∀ (F49 : Nat → Int32) (R50 : Nat → Nat → Int32) (y48 : Int32), F49 3 = F0 3 → F49 51 = 0 → kb2 F0 (b143 F49 R50 y48)) (hA : F137 3 = F0 3) (hB : F137 51 = 0) : kb2 F0 (K_X11_ticks_171 b143 y48 F137 R138) := by
  unfold K_X11_ticks_171
  exact (kb2_lt (fun x139 _ => (hb143 F137 R138 x139 hA hB)))
theorem kt_KB_X11_ticks_143 (F0 : Nat → Int32) (y35 : Int32) (F49 : Nat → Int32) (R50 : Nat → Nat → Int32) (y48 : Int32) (b143 : (Nat → Int32) → (Nat → Nat → Int32) → (Int32) → (Nat → Int32) × (Nat → Nat → Int32)) (hb143 : ∀ (F49 : Nat → Int32) (R50 : Nat → Nat → Int32) (y48 : Int32), F49 3 = F0 3 → F49 51 = 0 → kb2 F0 (b143 F49 R50 y48)) (hA : F49 3 = F0 3) (hB : F49 51 = 0) : kb2 F0 (KB_X11_ticks_143 b143 y35 F49 R50 y48) := by
  unfold KB_X11_ticks_143
  exact (kb2_ite (kb2_lt3 (fun r54 F59 R60 zF59 => (kt_K_X11_ticks_184 F0 r54 y35 8589934592 F59 R60 0 (kf3_A hA (fr_sp_X11_laysOrder F49 R50) zF59 rfl) (kf3_B hB (fr_sp_X11_laysOrder F49 R50) zF59 rfl)))) (kb2_lt (fun r133 _ => (kb2_ite (kt_K_X11_ticks_171 F0 y48 F49 R50 b143 hb143 hA hB) (kb2_lt (fun x147 _ => (kb2_ite (kb2_lt2 (fun F157 R158 zF157 => (kt_K_X11_ticks_171 F0 y48 F157 R158 b143 hb143 (kf2_A hA (fr_sp_X11_goes F49 R50 y48) zF157 rfl) (kf2_B hB (fr_sp_X11_goes F49 R50 y48) zF157 rfl)))) (kt_K_X11_ticks_171 F0 y48 F49 R50 b143 hb143 hA hB))))))))
theorem kt_K_X11_ticks_143 (F0 : Nat → Int32) (y35 : Int32) : ∀ (n : Nat) (F49 : Nat → Int32) (R50 : Nat → Nat → Int32) (y48 : Int32), F49 3 = F0 3 → F49 51 = 0 → kb2 F0 (K_X11_ticks_143 y35 n F49 R50 y48)
  | 0, F49, R50, y48, hA, hB => ⟨hA, hB⟩
  | n + 1, F49, R50, y48, hA, hB => kt_KB_X11_ticks_143 F0 y35 F49 R50 y48 (K_X11_ticks_143 y35 n) (kt_K_X11_ticks_143 F0 y35 n) hA hB
theorem kt_K_X11_ticks_135 (F0 : Nat → Int32) (y42 : Int32) (F166 : Nat → Int32) (R167 : Nat → Nat → Int32) (b116 : (Nat → Int32) → (Nat → Nat → Int32) → (Int32) → (Nat → Int32) × (Nat → Nat → Int32)) (hb116 : ∀ (F43 : Nat → Int32) (R44 : Nat → Nat → Int32) (y42 : Int32), F43 3 = F0 3 → F43 51 = 0 → kb2 F0 (b116 F43 R44 y42)) (hA : F166 3 = F0 3) (hB : F166 51 = 0) : kb2 F0 (K_X11_ticks_135 b116 y42 F166 R167) := by
  unfold K_X11_ticks_135
  exact (kb2_lt (fun x168 _ => (hb116 F166 R167 x168 hA hB)))
theorem kt_KB_X11_ticks_116 (F0 : Nat → Int32) (y35 : Int32) (F43 : Nat → Int32) (R44 : Nat → Nat → Int32) (y42 : Int32) (b116 : (Nat → Int32) → (Nat → Nat → Int32) → (Int32) → (Nat → Int32) × (Nat → Nat → Int32)) (hb116 : ∀ (F43 : Nat → Int32) (R44 : Nat → Nat → Int32) (y42 : Int32), F43 3 = F0 3 → F43 51 = 0 → kb2 F0 (b116 F43 R44 y42)) (hA : F43 3 = F0 3) (hB : F43 51 = 0) : kb2 F0 (KB_X11_ticks_116 b116 y35 F43 R44 y42) := by
  unfold KB_X11_ticks_116
  exact (kb2_ite (kt_K_X11_ticks_143 F0 y35 8589934592 F43 R44 0 hA hB) (kb2_lt (fun r162 _ => (kb2_ite (kt_K_X11_ticks_135 F0 y42 F43 R44 b116 hb116 hA hB) (kb2_lt2 (fun F180 R181 zF180 => (kt_K_X11_ticks_135 F0 y42 F180 R181 b116 hb116 (kf2_A hA (fr_sp_X11_hurries F43 R44 y42) zF180 rfl) (kf2_B hB (fr_sp_X11_hurries F43 R44 y42) zF180 rfl))))))))
theorem kt_K_X11_ticks_116 (F0 : Nat → Int32) (y35 : Int32) : ∀ (n : Nat) (F43 : Nat → Int32) (R44 : Nat → Nat → Int32) (y42 : Int32), F43 3 = F0 3 → F43 51 = 0 → kb2 F0 (K_X11_ticks_116 y35 n F43 R44 y42)
  | 0, F43, R44, y42, hA, hB => ⟨hA, hB⟩
  | n + 1, F43, R44, y42, hA, hB => kt_KB_X11_ticks_116 F0 y35 F43 R44 y42 (K_X11_ticks_116 y35 n) (kt_K_X11_ticks_116 F0 y35 n) hA hB
theorem kt_K_X11_ticks_108 (F0 : Nat → Int32) (y36 : Int32) (F192 : Nat → Int32) (R193 : Nat → Nat → Int32) (y191 : Int32) (b48 : (Nat → Int32) → (Nat → Nat → Int32) → (Int32) → (Int32) → (Nat → Int32) × (Nat → Nat → Int32)) (hb48 : ∀ (F37 : Nat → Int32) (R38 : Nat → Nat → Int32) (y35 : Int32) (y36 : Int32), F37 3 = F0 3 → F37 51 = 0 → kb2 F0 (b48 F37 R38 y35 y36)) (hA : F192 3 = F0 3) (hB : F192 51 = 0) : kb2 F0 (K_X11_ticks_108 b48 y36 F192 R193 y191) := by
  unfold K_X11_ticks_108
  exact (kb2_lt (fun x194 _ => (hb48 F192 R193 y191 x194 hA hB)))
theorem kt_KB_X11_ticks_48 (F0 : Nat → Int32) (F37 : Nat → Int32) (R38 : Nat → Nat → Int32) (y35 : Int32) (y36 : Int32) (b48 : (Nat → Int32) → (Nat → Nat → Int32) → (Int32) → (Int32) → (Nat → Int32) × (Nat → Nat → Int32)) (hb48 : ∀ (F37 : Nat → Int32) (R38 : Nat → Nat → Int32) (y35 : Int32) (y36 : Int32), F37 3 = F0 3 → F37 51 = 0 → kb2 F0 (b48 F37 R38 y35 y36)) (hA : F37 3 = F0 3) (hB : F37 51 = 0) : kb2 F0 (KB_X11_ticks_48 b48 F37 R38 y35 y36) := by
  unfold KB_X11_ticks_48
  exact (kb2_ite (kt_K_X11_ticks_116 F0 y35 8589934592 F37 R38 0 hA hB) (kb2_lt (fun r185 _ => (kb2_ite (kt_K_X11_ticks_108 F0 y36 F37 R38 y35 b48 hb48 hA hB) (kb2_lt (fun x199 _ => (kb2_lt (fun x201 _ => (kb2_lt (fun x203 _ => (kb2_lt (fun R205 _ => (kb2_lt (fun x207 _ => (kb2_ite (kt_K_X11_ticks_108 F0 y36 F37 R205 x201 b48 hb48 hA hB) (kb2_lt (fun x214 _ => (kb2_lt (fun x216 _ => (kb2_lt (fun F218 zF218 => (kt_K_X11_ticks_108 F0 y36 F218 R205 x201 b48 hb48 (kt_ua hA rfl zF218) (kt_ub hB rfl zF218)))))))))))))))))))))))
theorem kt_K_X11_ticks_48 (F0 : Nat → Int32)  : ∀ (n : Nat) (F37 : Nat → Int32) (R38 : Nat → Nat → Int32) (y35 : Int32) (y36 : Int32), F37 3 = F0 3 → F37 51 = 0 → kb2 F0 (K_X11_ticks_48  n F37 R38 y35 y36)
  | 0, F37, R38, y35, y36, hA, hB => ⟨hA, hB⟩
  | n + 1, F37, R38, y35, y36, hA, hB => kt_KB_X11_ticks_48 F0 F37 R38 y35 y36 (K_X11_ticks_48  n) (kt_K_X11_ticks_48 F0  n) hA hB
theorem kt_sp_X11_ticks (F0 : Nat → Int32) (F : Nat → Int32) (R : Nat → Nat → Int32) (hA : F 3 = F0 3) (hB : F 51 = 0) : kb2 F0 (sp_X11_ticks F R) := by
  unfold sp_X11_ticks
  exact (kb2_lt (fun r1 _ => (kb2_lt3 (fun r6 F10 R11 zF10 => (kb2_lt (fun x13 _ => (kb2_lt (fun r15 _ => (kb2_lt (fun F20 zF20 => (kb2_lt (fun x22 _ => (kb2_lt (fun r24 _ => (kb2_lt (fun F29 zF29 => (kb2_lt (fun F31 zF31 => (kb2_lt (fun F33 zF33 => (kt_K_X11_ticks_48 F0 8589934592 F33 R11 0 0 (kt_ua (kt_ua (kt_ua (kt_ua (kb3_A (kt_sp_X11_slipsNow F0 F R hA hB) zF10) rfl zF20) rfl zF29) rfl zF31) rfl zF33) (kt_ub (kt_ub (kt_ub (kt_ub (kb3_B (kt_sp_X11_slipsNow F0 F R hA hB) zF10) rfl zF20) rfl zF29) rfl zF31) rfl zF33))))))))))))))))))))))
theorem kt_K_X11_runs_39 (F0 : Nat → Int32) (F8 : Nat → Int32) (R9 : Nat → Nat → Int32) (hA : F8 3 = F0 3) (hB : F8 51 = 0) : kb2 F0 (K_X11_runs_39 F8 R9) := by
  unfold K_X11_runs_39
  exact ⟨hA, hB⟩
theorem kt_K_X11_runs_32 (F0 : Nat → Int32) (F8 : Nat → Int32) (R9 : Nat → Nat → Int32) (b4 : (Nat → Int32) → (Nat → Nat → Int32) → (Nat → Int32) × (Nat → Nat → Int32)) (hb4 : ∀ (F8 : Nat → Int32) (R9 : Nat → Nat → Int32), F8 3 = F0 3 → F8 51 = 0 → kb2 F0 (b4 F8 R9)) (hA : F8 3 = F0 3) (hB : F8 51 = 0) : kb2 F0 (K_X11_runs_32 b4 F8 R9) := by
  unfold K_X11_runs_32
  exact (kb2_lt2 (fun F20 R21 zF20 => (hb4 F20 R21 (kb2_A (kt_sp_X11_ticks F0 F8 R9 hA hB) zF20) (kb2_B (kt_sp_X11_ticks F0 F8 R9 hA hB) zF20))))
theorem kt_KB_X11_runs_4 (F0 : Nat → Int32) (F : Nat → Int32) (F8 : Nat → Int32) (R9 : Nat → Nat → Int32) (b4 : (Nat → Int32) → (Nat → Nat → Int32) → (Nat → Int32) × (Nat → Nat → Int32)) (hb4 : ∀ (F8 : Nat → Int32) (R9 : Nat → Nat → Int32), F8 3 = F0 3 → F8 51 = 0 → kb2 F0 (b4 F8 R9)) (hA : F8 3 = F0 3) (hB : F8 51 = 0) : kb2 F0 (KB_X11_runs_4 b4 F F8 R9) := by
  unfold KB_X11_runs_4
  exact (kb2_ite (kt_K_X11_runs_39 F0 F8 R9 hA hB) (kb2_ite (kt_K_X11_runs_32 F0 F8 R9 b4 hb4 hA hB) (kb2_lt (fun r28 _ => (kb2_ite (kt_K_X11_runs_39 F0 F8 R9 hA hB) (kt_K_X11_runs_32 F0 F8 R9 b4 hb4 hA hB))))))
theorem kt_K_X11_runs_4 (F0 : Nat → Int32) (F : Nat → Int32) : ∀ (n : Nat) (F8 : Nat → Int32) (R9 : Nat → Nat → Int32), F8 3 = F0 3 → F8 51 = 0 → kb2 F0 (K_X11_runs_4 F n F8 R9)
  | 0, F8, R9, hA, hB => ⟨hA, hB⟩
  | n + 1, F8, R9, hA, hB => kt_KB_X11_runs_4 F0 F F8 R9 (K_X11_runs_4 F n) (kt_K_X11_runs_4 F0 F n) hA hB
theorem kt_sp_X11_runs (F0 : Nat → Int32) (F : Nat → Int32) (R : Nat → Nat → Int32) (hA : F 3 = F0 3) (hB : F 51 = 0) : kb2 F0 (sp_X11_runs F R) := by
  unfold sp_X11_runs
  exact (kb2_lt2 (fun F5 R6 zF5 => (kt_K_X11_runs_4 F0 F 8589934592 F5 R6 (kf2_A hA (fr_sp_X11_begins F R) zF5 rfl) (kf2_B hB (fr_sp_X11_begins F R) zF5 rfl))))
theorem kt_sp_X11_runsStill (F0 : Nat → Int32) (F : Nat → Int32) (R : Nat → Nat → Int32) (hA : F 3 = F0 3) : ka2 F0 (sp_X11_runsStill F R) := by
  unfold sp_X11_runsStill
  exact (ka2_lt2 (fun F5 R6 zF5 => (ka2_lt2 (fun F13 R14 zF13 => (ka2_lt2 (fun F20 R21 zF20 => (kb2_A (kt_sp_X11_runs F0 F13 R14 (kf2_A (kf2_A hA (fr_sp_X11_laysPull F R) zF5 rfl) (fr_sp_X11_laysThings F5 R6) zF13 rfl) (kt_lt zF13)) zF20)))))))
theorem kt_sp_X11_still (F0 : Nat → Int32) (F : Nat → Int32) (R : Nat → Nat → Int32) (a0 : Int32) (hA : F 3 = F0 3) : ka3 F0 (sp_X11_still F R a0) := by
  unfold sp_X11_still
  exact (ka3_lt (fun r1 _ => (ka3_ite hA (ka3_lt2 (fun F15 R16 zF15 => (ka3_lt (fun r18 _ => (ka2_A (kt_sp_X11_runsStill F0 F R hA) zF15))))))))
theorem kt_sp_X11_runsEven (F0 : Nat → Int32) (F : Nat → Int32) (R : Nat → Nat → Int32) (a0 : Int32) (hA : F 3 = F0 3) (hB : F 51 = 0) : kb2 F0 (sp_X11_runsEven F R a0) := by
  unfold sp_X11_runsEven
  exact (kb2_lt (fun F1 zF1 => (kb2_lt2 (fun F7 R8 zF7 => (kb2_lt2 (fun F14 R15 zF14 => ⟨(kb2_A (kt_sp_X11_runs F0 F7 R8 (kf2_A (kt_ua hA rfl zF1) (fr_sp_X11_laysPaces F1 R a0 (F 1)) zF7 rfl) (kf2_B (kt_ub hB rfl zF1) (fr_sp_X11_laysPaces F1 R a0 (F 1)) zF7 rfl)) zF14), (kb2_B (kt_sp_X11_runs F0 F7 R8 (kf2_A (kt_ua hA rfl zF1) (fr_sp_X11_laysPaces F1 R a0 (F 1)) zF7 rfl) (kf2_B (kt_ub hB rfl zF1) (fr_sp_X11_laysPaces F1 R a0 (F 1)) zF7 rfl)) zF14)⟩))))))
theorem kt_KB_X11_pace_2 (F0 : Nat → Int32) (F : Nat → Int32) (F2 : Nat → Int32) (R3 : Nat → Nat → Int32) (y1 : Int32) (b2 : (Nat → Int32) → (Nat → Nat → Int32) → (Int32) → Int32 × (Nat → Int32) × (Nat → Nat → Int32)) (hb2 : ∀ (F2 : Nat → Int32) (R3 : Nat → Nat → Int32) (y1 : Int32), F2 3 = F0 3 → ka3 F0 (b2 F2 R3 y1)) (hA : F2 3 = F0 3) : ka3 F0 (KB_X11_pace_2 b2 F F2 R3 y1) := by
  unfold KB_X11_pace_2
  exact (ka3_ite hA (ka3_lt2 (fun F14 R15 zF14 => (ka3_lt2 (fun F21 R22 zF21 => (ka3_lt (fun r24 _ => (ka3_ite (kb2_A (kt_sp_X11_runsEven F0 F14 R15 y1 (kf2_A hA (fr_sp_X11_laysThings F2 R3) zF14 rfl) (kt_lt zF14)) zF21) (ka3_lt (fun x31 _ => (hb2 F21 R22 x31 (kb2_A (kt_sp_X11_runsEven F0 F14 R15 y1 (kf2_A hA (fr_sp_X11_laysThings F2 R3) zF14 rfl) (kt_lt zF14)) zF21))))))))))))
theorem kt_K_X11_pace_2 (F0 : Nat → Int32) (F : Nat → Int32) : ∀ (n : Nat) (F2 : Nat → Int32) (R3 : Nat → Nat → Int32) (y1 : Int32), F2 3 = F0 3 → ka3 F0 (K_X11_pace_2 F n F2 R3 y1)
  | 0, F2, R3, y1, hA => hA
  | n + 1, F2, R3, y1, hA => kt_KB_X11_pace_2 F0 F F2 R3 y1 (K_X11_pace_2 F n) (kt_K_X11_pace_2 F0 F n) hA
theorem kt_sp_X11_pace (F0 : Nat → Int32) (F : Nat → Int32) (R : Nat → Nat → Int32) (hA : F 3 = F0 3) : ka3 F0 (sp_X11_pace F R) := by
  unfold sp_X11_pace
  exact (kt_K_X11_pace_2 F0 F 8589934592 F R 1 hA)
theorem kt_KB_X11_best_47 (F0 : Nat → Int32) (F : Nat → Int32) (x54 : Int32) (x58 : Int32) (y17 : Int32) (F63 : Nat → Int32) (R64 : Nat → Nat → Int32) (y62 : Int32) (b47 : (Nat → Int32) → (Nat → Nat → Int32) → (Int32) → Int32 × (Nat → Int32) × (Nat → Nat → Int32)) (hb47 : ∀ (F63 : Nat → Int32) (R64 : Nat → Nat → Int32) (y62 : Int32), F63 3 = F0 3 → ka3 F0 (b47 F63 R64 y62)) (b17 : (Nat → Int32) → (Nat → Nat → Int32) → (Int32) → Int32 × (Nat → Int32) × (Nat → Nat → Int32)) (hb17 : ∀ (F18 : Nat → Int32) (R19 : Nat → Nat → Int32) (y17 : Int32), F18 3 = F0 3 → ka3 F0 (b17 F18 R19 y17)) (hA : F63 3 = F0 3) : ka3 F0 (KB_X11_best_47 b47 b17 F x54 x58 y17 F63 R64 y62) := by
  unfold KB_X11_best_47
  exact (ka3_ite (ka3_lt (fun x69 _ => (ka3_lt (fun x71 _ => (ka3_lt (fun x73 _ => (ka3_lt (fun x75 _ => (ka3_lt (fun x77 _ => (ka3_lt2 (fun F83 R84 zF83 => (ka3_lt2 (fun F91 R92 zF91 => (ka3_lt2 (fun F98 R99 zF98 => (ka3_lt2 (fun F107 R108 zF107 => (ka3_lt (fun x110 _ => (hb17 F107 R108 x110 (kf2_A (kb2_A (kt_sp_X11_runs F0 F91 R92 (kf2_A (kf2_A hA (fr_sp_X11_laysPaces F63 R64 x73 x77) zF83 rfl) (fr_sp_X11_laysThings F83 R84) zF91 rfl) (kt_lt zF91)) zF98) (fr_sp_X11_better F98 R99 y17) zF107 rfl)))))))))))))))))))))) (ka3_lt (fun R114 _ => (ka3_lt (fun x116 _ => (ka3_lt (fun F118 zF118 => (ka3_lt (fun x120 _ => (hb47 F118 R114 x120 (kt_ua hA rfl zF118)))))))))))
theorem kt_K_X11_best_47 (F0 : Nat → Int32) (F : Nat → Int32) (x54 : Int32) (x58 : Int32) (y17 : Int32) (b17 : (Nat → Int32) → (Nat → Nat → Int32) → (Int32) → Int32 × (Nat → Int32) × (Nat → Nat → Int32)) (hb17 : ∀ (F18 : Nat → Int32) (R19 : Nat → Nat → Int32) (y17 : Int32), F18 3 = F0 3 → ka3 F0 (b17 F18 R19 y17)) : ∀ (n : Nat) (F63 : Nat → Int32) (R64 : Nat → Nat → Int32) (y62 : Int32), F63 3 = F0 3 → ka3 F0 (K_X11_best_47 b17 F x54 x58 y17 n F63 R64 y62)
  | 0, F63, R64, y62, hA => hA
  | n + 1, F63, R64, y62, hA => kt_KB_X11_best_47 F0 F x54 x58 y17 F63 R64 y62 (K_X11_best_47 b17 F x54 x58 y17 n) (kt_K_X11_best_47 F0 F x54 x58 y17 b17 hb17 n) b17 hb17 hA
theorem kt_KB_X11_best_17 (F0 : Nat → Int32) (F : Nat → Int32) (a0 : Int32) (F18 : Nat → Int32) (R19 : Nat → Nat → Int32) (y17 : Int32) (b17 : (Nat → Int32) → (Nat → Nat → Int32) → (Int32) → Int32 × (Nat → Int32) × (Nat → Nat → Int32)) (hb17 : ∀ (F18 : Nat → Int32) (R19 : Nat → Nat → Int32) (y17 : Int32), F18 3 = F0 3 → ka3 F0 (b17 F18 R19 y17)) (hA : F18 3 = F0 3) : ka3 F0 (KB_X11_best_17 b17 F a0 F18 R19 y17) := by
  unfold KB_X11_best_17
  exact (ka3_ite (ka3_lt (fun zy23 _ => (ka3_ite (ka3_lt (fun x28 _ => (ka3_lt (fun x30 _ => hA)))) (ka3_ite (ka3_lt (fun x34 _ => (ka3_lt (fun x36 _ => (ka3_lt (fun x38 _ => hA)))))) (ka3_ite (ka3_lt (fun x42 _ => (ka3_lt (fun x44 _ => hA)))) (ka3_ite hA hA)))))) (ka3_lt (fun x52 _ => (ka3_lt (fun x54 _ => (ka3_lt (fun x56 _ => (ka3_lt (fun x58 _ => (ka3_lt (fun F60 zF60 => (kt_K_X11_best_47 F0 F x54 x58 y17 b17 hb17 8589934592 F60 R19 0 (kt_ua hA rfl zF60)))))))))))))
theorem kt_K_X11_best_17 (F0 : Nat → Int32) (F : Nat → Int32) (a0 : Int32) : ∀ (n : Nat) (F18 : Nat → Int32) (R19 : Nat → Nat → Int32) (y17 : Int32), F18 3 = F0 3 → ka3 F0 (K_X11_best_17 F a0 n F18 R19 y17)
  | 0, F18, R19, y17, hA => hA
  | n + 1, F18, R19, y17, hA => kt_KB_X11_best_17 F0 F a0 F18 R19 y17 (K_X11_best_17 F a0 n) (kt_K_X11_best_17 F0 F a0 n) hA
theorem kt_sp_X11_best (F0 : Nat → Int32) (F : Nat → Int32) (R : Nat → Nat → Int32) (a0 : Int32) (hA : F 3 = F0 3) : ka3 F0 (sp_X11_best F R a0) := by
  unfold sp_X11_best
  exact (ka3_lt (fun r1 _ => (ka3_ite hA (ka3_lt2 (fun F14 R15 zF14 => (kt_K_X11_best_17 F0 F a0 8589934592 F14 R15 0 (kf2_A hA (fr_sp_X11_forgetsBest F R) zF14 rfl)))))))
theorem kt_K_X11_most_92 (F0 : Nat → Int32) (F11 : Nat → Int32) (R12 : Nat → Nat → Int32) (y16 : Int32) (hA : F11 3 = F0 3) : ka3 F0 (K_X11_most_92 F11 R12 y16) := by
  unfold K_X11_most_92
  exact hA
theorem kt_K_X11_most_74 (F0 : Nat → Int32) (y10 : Int32) (F35 : Nat → Int32) (R36 : Nat → Nat → Int32) (y34 : Int32) (b15 : (Nat → Int32) → (Nat → Nat → Int32) → (Int32) → (Int32) → Int32 × (Nat → Int32) × (Nat → Nat → Int32)) (hb15 : ∀ (F11 : Nat → Int32) (R12 : Nat → Nat → Int32) (y9 : Int32) (y10 : Int32), F11 3 = F0 3 → ka3 F0 (b15 F11 R12 y9 y10)) (hA : F35 3 = F0 3) : ka3 F0 (K_X11_most_74 b15 y10 F35 R36 y34) := by
  unfold K_X11_most_74
  exact (ka3_lt (fun x37 _ => (hb15 F35 R36 y34 x37 hA)))
theorem kt_KB_X11_most_15 (F0 : Nat → Int32) (F : Nat → Int32) (a0 : Int32) (F11 : Nat → Int32) (R12 : Nat → Nat → Int32) (y9 : Int32) (y10 : Int32) (b15 : (Nat → Int32) → (Nat → Nat → Int32) → (Int32) → (Int32) → Int32 × (Nat → Int32) × (Nat → Nat → Int32)) (hb15 : ∀ (F11 : Nat → Int32) (R12 : Nat → Nat → Int32) (y9 : Int32) (y10 : Int32), F11 3 = F0 3 → ka3 F0 (b15 F11 R12 y9 y10)) (hA : F11 3 = F0 3) : ka3 F0 (KB_X11_most_15 b15 F a0 F11 R12 y9 y10) := by
  unfold KB_X11_most_15
  exact (ka3_ite (ka3_ite (ka3_lt (fun r22 _ => (kt_K_X11_most_92 F0 F11 R12 r22 hA))) (kt_K_X11_most_92 F0 F11 R12 y9 hA)) (ka3_lt (fun x30 _ => (ka3_lt (fun x32 _ => (ka3_ite (ka3_lt (fun r44 _ => (ka3_lt (fun r50 _ => (ka3_ite (ka3_lt2 (fun F64 R65 zF64 => (ka3_lt2 (fun F72 R73 zF72 => (ka3_lt (fun F75 zF75 => (ka3_lt2 (fun F81 R82 zF81 => (ka3_lt (fun r84 _ => (ka3_ite (kt_K_X11_most_74 F0 y10 F81 R82 y10 b15 hb15 (kb2_A (kt_sp_X11_runs F0 F75 R73 (kt_ua (kf2_A (kf2_A hA (fr_sp_X11_laysPull F11 R12) zF64 rfl) (fr_sp_X11_laysThings F64 R65) zF72 rfl) rfl zF75) (kt_ub (kt_lt zF72) rfl zF75)) zF81)) (kt_K_X11_most_74 F0 y10 F81 R82 y9 b15 hb15 (kb2_A (kt_sp_X11_runs F0 F75 R73 (kt_ua (kf2_A (kf2_A hA (fr_sp_X11_laysPull F11 R12) zF64 rfl) (fr_sp_X11_laysThings F64 R65) zF72 rfl) rfl zF75) (kt_ub (kt_lt zF72) rfl zF75)) zF81))))))))))))) (kt_K_X11_most_74 F0 y10 F11 R12 y9 b15 hb15 hA)))))) (kt_K_X11_most_74 F0 y10 F11 R12 y9 b15 hb15 hA)))))))
theorem kt_K_X11_most_15 (F0 : Nat → Int32) (F : Nat → Int32) (a0 : Int32) : ∀ (n : Nat) (F11 : Nat → Int32) (R12 : Nat → Nat → Int32) (y9 : Int32) (y10 : Int32), F11 3 = F0 3 → ka3 F0 (K_X11_most_15 F a0 n F11 R12 y9 y10)
  | 0, F11, R12, y9, y10, hA => hA
  | n + 1, F11, R12, y9, y10, hA => kt_KB_X11_most_15 F0 F a0 F11 R12 y9 y10 (K_X11_most_15 F a0 n) (kt_K_X11_most_15 F0 F a0 n) hA
theorem kt_sp_X11_most (F0 : Nat → Int32) (F : Nat → Int32) (R : Nat → Nat → Int32) (a0 : Int32) (hA : F 3 = F0 3) : ka3 F0 (sp_X11_most F R a0) := by
  unfold sp_X11_most
  exact (ka3_lt (fun r1 _ => (ka3_ite hA (kt_K_X11_most_15 F0 F a0 8589934592 F R 0 1 hA))))
theorem kt_K_X11_worth_68 (F0 : Nat → Int32) (F : Nat → Int32) (R : Nat → Nat → Int32) (hA : F 3 = F0 3) : ka3 F0 (K_X11_worth_68 F R) := by
  unfold K_X11_worth_68
  exact hA
theorem kt_K_X11_worth_157 (F0 : Nat → Int32) (F78 : Nat → Int32) (R79 : Nat → Nat → Int32) (y77 : Int32) (hA : F78 3 = F0 3) (hB : F78 51 = 0) : ka3 F0 (K_X11_worth_157 F78 R79 y77) := by
  unfold K_X11_worth_157
  exact hA
theorem kt_K_X11_worth_68a (F0 : Nat → Int32) (F : Nat → Int32) (R : Nat → Nat → Int32) (hA : F 3 = F0 3) : ka3 F0 (K_X11_worth_68a F R) := by
  unfold K_X11_worth_68a
  exact hA
theorem kt_K_X11_worth_68b (F0 : Nat → Int32) (F : Nat → Int32) (R : Nat → Nat → Int32) (hA : F 3 = F0 3) : ka3 F0 (K_X11_worth_68b F R) := by
  unfold K_X11_worth_68b
  exact hA
theorem kt_K_X11_worth_157a (F0 : Nat → Int32) (F183 : Nat → Int32) (R184 : Nat → Nat → Int32) (y182 : Int32) (hA : F183 3 = F0 3) (hB : F183 51 = 0) : ka3 F0 (K_X11_worth_157a F183 R184 y182) := by
  unfold K_X11_worth_157a
  exact hA
theorem kt_K_X11_worth_68c (F0 : Nat → Int32) (F : Nat → Int32) (R : Nat → Nat → Int32) (hA : F 3 = F0 3) : ka3 F0 (K_X11_worth_68c F R) := by
  unfold K_X11_worth_68c
  exact hA
theorem kt_sp_X11_worth (F0 : Nat → Int32) (F : Nat → Int32) (R : Nat → Nat → Int32) (a0 : Int32) (a1 : Int32) (hA : F 3 = F0 3) : ka3 F0 (sp_X11_worth F R a0 a1) := by
  unfold sp_X11_worth
  exact (ka3_lt (fun r1 _ => (ka3_ite hA (ka3_ite (ka3_lt (fun r12 _ => (ka3_ite (kt_K_X11_worth_68 F0 F R hA) (ka3_lt (fun x24 _ => (ka3_ite (kt_K_X11_worth_68a F0 F R hA) (ka3_lt2 (fun F32 R33 zF32 => (ka3_lt (fun r35 _ => (ka3_lt (fun r40 _ => (ka3_lt (fun r46 _ => (ka3_lt2 (fun F55 R56 zF55 => (ka3_lt2 (fun F63 R64 zF63 => (ka3_lt (fun R66 _ => (ka3_lt2 (fun F72 R73 zF72 => (ka3_lt (fun x75 _ => (ka3_ite (ka3_lt (fun r92 _ => (ka3_lt (fun r97 _ => (ka3_lt (fun x103 _ => (kt_K_X11_worth_157 F0 F72 R73 x103 (kb2_A (kt_sp_X11_runs F0 F63 R66 (kf2_A (kf2_A (ka2_A (kt_sp_X11_runsStill F0 F R hA) zF32) (fr_sp_X11_laysPull F32 R33) zF55 rfl) (fr_sp_X11_laysThings F55 R56) zF63 rfl) (kt_lt zF63)) zF72) (kb2_B (kt_sp_X11_runs F0 F63 R66 (kf2_A (kf2_A (ka2_A (kt_sp_X11_runsStill F0 F R hA) zF32) (fr_sp_X11_laysPull F32 R33) zF55 rfl) (fr_sp_X11_laysThings F55 R56) zF63 rfl) (kt_lt zF63)) zF72)))))))) (ka3_lt (fun r83 _ => (ka3_lt (fun x88 _ => (kt_K_X11_worth_157 F0 F72 R73 x88 (kb2_A (kt_sp_X11_runs F0 F63 R66 (kf2_A (kf2_A (ka2_A (kt_sp_X11_runsStill F0 F R hA) zF32) (fr_sp_X11_laysPull F32 R33) zF55 rfl) (fr_sp_X11_laysThings F55 R56) zF63 rfl) (kt_lt zF63)) zF72) (kb2_B (kt_sp_X11_runs F0 F63 R66 (kf2_A (kf2_A (ka2_A (kt_sp_X11_runsStill F0 F R hA) zF32) (fr_sp_X11_laysPull F32 R33) zF55 rfl) (fr_sp_X11_laysThings F55 R56) zF63 rfl) (kt_lt zF63)) zF72))))))))))))))))))))))))))))))) (ka3_lt (fun r109 _ => (ka3_ite (kt_K_X11_worth_68b F0 F R hA) (ka3_lt (fun r119 _ => (ka3_ite (kt_K_X11_worth_68c F0 F R hA) (ka3_lt2 (fun F131 R132 zF131 => (ka3_lt (fun r134 _ => (ka3_lt (fun r139 _ => (ka3_lt (fun r145 _ => (ka3_lt2 (fun F154 R155 zF154 => (ka3_lt2 (fun F162 R163 zF162 => (ka3_lt (fun x165 _ => (ka3_lt (fun x167 _ => (ka3_lt (fun x169 _ => (ka3_lt (fun F171 zF171 => (ka3_lt2 (fun F177 R178 zF177 => (ka3_lt (fun x180 _ => (ka3_ite (ka3_lt (fun r197 _ => (ka3_lt (fun r202 _ => (ka3_lt (fun x208 _ => (kt_K_X11_worth_157a F0 F177 R178 x208 (kb2_A (kt_sp_X11_runs F0 F171 R163 (kt_ua (kf2_A (kf2_A (ka2_A (kt_sp_X11_runsStill F0 F R hA) zF131) (fr_sp_X11_laysPull F131 R132) zF154 rfl) (fr_sp_X11_laysThings F154 R155) zF162 rfl) rfl zF171) (kt_ub (kt_lt zF162) rfl zF171)) zF177) (kb2_B (kt_sp_X11_runs F0 F171 R163 (kt_ua (kf2_A (kf2_A (ka2_A (kt_sp_X11_runsStill F0 F R hA) zF131) (fr_sp_X11_laysPull F131 R132) zF154 rfl) (fr_sp_X11_laysThings F154 R155) zF162 rfl) rfl zF171) (kt_ub (kt_lt zF162) rfl zF171)) zF177)))))))) (ka3_lt (fun r188 _ => (ka3_lt (fun x193 _ => (kt_K_X11_worth_157a F0 F177 R178 x193 (kb2_A (kt_sp_X11_runs F0 F171 R163 (kt_ua (kf2_A (kf2_A (ka2_A (kt_sp_X11_runsStill F0 F R hA) zF131) (fr_sp_X11_laysPull F131 R132) zF154 rfl) (fr_sp_X11_laysThings F154 R155) zF162 rfl) rfl zF171) (kt_ub (kt_lt zF162) rfl zF171)) zF177) (kb2_B (kt_sp_X11_runs F0 F171 R163 (kt_ua (kf2_A (kf2_A (ka2_A (kt_sp_X11_runsStill F0 F R hA) zF131) (fr_sp_X11_laysPull F131 R132) zF154 rfl) (fr_sp_X11_laysThings F154 R155) zF162 rfl) rfl zF171) (kt_ub (kt_lt zF162) rfl zF171)) zF177)))))))))))))))))))))))))))))))))))))))))
theorem kt_K_X11_wasWet_16 (F0 : Nat → Int32) (F5 : Nat → Int32) (R6 : Nat → Nat → Int32) (hA : F5 3 = F0 3) : ka3 F0 (K_X11_wasWet_16 F5 R6) := by
  unfold K_X11_wasWet_16
  exact hA
theorem kt_K_X11_wasWet_159 (F0 : Nat → Int32) (F26 : Nat → Int32) (R27 : Nat → Nat → Int32) (y31 : Int32) (hA : F26 3 = F0 3) : ka3 F0 (K_X11_wasWet_159 F26 R27 y31) := by
  unfold K_X11_wasWet_159
  exact hA
theorem kt_K_X11_wasWet_119 (F0 : Nat → Int32) (y25 : Int32) (F61 : Nat → Int32) (R62 : Nat → Nat → Int32) (y59 : Int32) (y60 : Int32) (b25 : (Nat → Int32) → (Nat → Nat → Int32) → (Int32) → (Int32) → (Int32) → Int32 × (Nat → Int32) × (Nat → Nat → Int32)) (hb25 : ∀ (F26 : Nat → Int32) (R27 : Nat → Nat → Int32) (y23 : Int32) (y24 : Int32) (y25 : Int32), F26 3 = F0 3 → ka3 F0 (b25 F26 R27 y23 y24 y25)) (hA : F61 3 = F0 3) : ka3 F0 (K_X11_wasWet_119 b25 y25 F61 R62 y59 y60) := by
  unfold K_X11_wasWet_119
  exact (ka3_lt (fun x63 _ => (hb25 F61 R62 y59 y60 x63 hA)))
theorem kt_K_X11_wasWet_114 (F0 : Nat → Int32) (F100 : Nat → Int32) (R101 : Nat → Nat → Int32) (y23 : Int32) (y25 : Int32) (y111 : Int32) (b25 : (Nat → Int32) → (Nat → Nat → Int32) → (Int32) → (Int32) → (Int32) → Int32 × (Nat → Int32) × (Nat → Nat → Int32)) (hb25 : ∀ (F26 : Nat → Int32) (R27 : Nat → Nat → Int32) (y23 : Int32) (y24 : Int32) (y25 : Int32), F26 3 = F0 3 → ka3 F0 (b25 F26 R27 y23 y24 y25)) (hA : F100 3 = F0 3) (hB : F100 51 = 0) : ka3 F0 (K_X11_wasWet_114 b25 F100 R101 y23 y25 y111) := by
  unfold K_X11_wasWet_114
  exact (ka3_lt (fun x112 _ => (kt_K_X11_wasWet_119 F0 y25 F100 R101 x112 y111 b25 hb25 hA)))
theorem kt_KB_X11_wasWet_25 (F0 : Nat → Int32) (F : Nat → Int32) (a0 : Int32) (F26 : Nat → Int32) (R27 : Nat → Nat → Int32) (y23 : Int32) (y24 : Int32) (y25 : Int32) (b25 : (Nat → Int32) → (Nat → Nat → Int32) → (Int32) → (Int32) → (Int32) → Int32 × (Nat → Int32) × (Nat → Nat → Int32)) (hb25 : ∀ (F26 : Nat → Int32) (R27 : Nat → Nat → Int32) (y23 : Int32) (y24 : Int32) (y25 : Int32), F26 3 = F0 3 → ka3 F0 (b25 F26 R27 y23 y24 y25)) (hA : F26 3 = F0 3) : ka3 F0 (KB_X11_wasWet_25 b25 F a0 F26 R27 y23 y24 y25) := by
  unfold KB_X11_wasWet_25
  exact (ka3_ite (ka3_ite (kt_K_X11_wasWet_159 F0 F26 R27 y23 hA) (ka3_ite (kt_K_X11_wasWet_159 F0 F26 R27 (-2) hA) (ka3_ite (ka3_lt (fun x45 _ => (kt_K_X11_wasWet_159 F0 F26 R27 x45 hA))) (ka3_lt (fun x41 _ => (kt_K_X11_wasWet_159 F0 F26 R27 x41 hA)))))) (ka3_lt (fun x53 _ => (ka3_lt (fun r55 _ => (ka3_ite (kt_K_X11_wasWet_119 F0 y25 F26 R27 y23 y24 b25 hb25 hA) (ka3_lt (fun x71 _ => (ka3_lt (fun x73 _ => (ka3_ite (kt_K_X11_wasWet_119 F0 y25 F26 R27 y23 y24 b25 hb25 hA) (ka3_lt2 (fun F81 R82 zF81 => (ka3_lt2 (fun F89 R90 zF89 => (ka3_lt (fun x92 _ => (ka3_lt (fun R94 _ => (ka3_lt2 (fun F100 R101 zF100 => (ka3_lt (fun r103 _ => (ka3_ite (kt_K_X11_wasWet_119 F0 y25 F100 R101 y23 y24 b25 hb25 (kb2_A (kt_sp_X11_runs F0 F89 R94 (kf2_A (kf2_A hA (fr_sp_X11_laysPull F26 R27) zF81 rfl) (fr_sp_X11_laysThings F81 R82) zF89 rfl) (kt_lt zF89)) zF100)) (ka3_ite (kt_K_X11_wasWet_114 F0 F100 R101 y23 y25 y25 b25 hb25 (kb2_A (kt_sp_X11_runs F0 F89 R94 (kf2_A (kf2_A hA (fr_sp_X11_laysPull F26 R27) zF81 rfl) (fr_sp_X11_laysThings F81 R82) zF89 rfl) (kt_lt zF89)) zF100) (kb2_B (kt_sp_X11_runs F0 F89 R94 (kf2_A (kf2_A hA (fr_sp_X11_laysPull F26 R27) zF81 rfl) (fr_sp_X11_laysThings F81 R82) zF89 rfl) (kt_lt zF89)) zF100)) (kt_K_X11_wasWet_114 F0 F100 R101 y23 y25 y24 b25 hb25 (kb2_A (kt_sp_X11_runs F0 F89 R94 (kf2_A (kf2_A hA (fr_sp_X11_laysPull F26 R27) zF81 rfl) (fr_sp_X11_laysThings F81 R82) zF89 rfl) (kt_lt zF89)) zF100) (kb2_B (kt_sp_X11_runs F0 F89 R94 (kf2_A (kf2_A hA (fr_sp_X11_laysPull F26 R27) zF81 rfl) (fr_sp_X11_laysThings F81 R82) zF89 rfl) (kt_lt zF89)) zF100)))))))))))))))))))))))))))
theorem kt_K_X11_wasWet_25 (F0 : Nat → Int32) (F : Nat → Int32) (a0 : Int32) : ∀ (n : Nat) (F26 : Nat → Int32) (R27 : Nat → Nat → Int32) (y23 : Int32) (y24 : Int32) (y25 : Int32), F26 3 = F0 3 → ka3 F0 (K_X11_wasWet_25 F a0 n F26 R27 y23 y24 y25)
  | 0, F26, R27, y23, y24, y25, hA => hA
  | n + 1, F26, R27, y23, y24, y25, hA => kt_KB_X11_wasWet_25 F0 F a0 F26 R27 y23 y24 y25 (K_X11_wasWet_25 F a0 n) (kt_K_X11_wasWet_25 F0 F a0 n) hA
theorem kt_sp_X11_wasWet (F0 : Nat → Int32) (F : Nat → Int32) (R : Nat → Nat → Int32) (a0 : Int32) (hA : F 3 = F0 3) : ka3 F0 (sp_X11_wasWet F R a0) := by
  unfold sp_X11_wasWet
  exact (ka3_lt (fun r1 _ => (ka3_ite (kt_K_X11_wasWet_16 F0 F R hA) (ka3_lt3 (fun r13 F17 R18 zF17 => (ka3_ite (kt_K_X11_wasWet_16 F0 F17 R18 (kf3_A hA (fr_sp_X11_takesPlaces F R) zF17 rfl)) (kt_K_X11_wasWet_25 F0 F a0 8589934592 F17 R18 0 (-1) 0 (kf3_A hA (fr_sp_X11_takesPlaces F R) zF17 rfl))))))))
theorem kt_K_X11_howQuick_16 (F0 : Nat → Int32) (F5 : Nat → Int32) (R6 : Nat → Nat → Int32) (hA : F5 3 = F0 3) : ka3 F0 (K_X11_howQuick_16 F5 R6) := by
  unfold K_X11_howQuick_16
  exact hA
theorem kt_K_X11_howQuick_83 (F0 : Nat → Int32) (F26 : Nat → Int32) (R27 : Nat → Nat → Int32) (y31 : Int32) (hA : F26 3 = F0 3) : ka3 F0 (K_X11_howQuick_83 F26 R27 y31) := by
  unfold K_X11_howQuick_83
  exact hA
theorem kt_K_X11_howQuick_68 (F0 : Nat → Int32) (F51 : Nat → Int32) (R52 : Nat → Nat → Int32) (y25 : Int32) (y59 : Int32) (y60 : Int32) (b26 : (Nat → Int32) → (Nat → Nat → Int32) → (Int32) → (Int32) → (Int32) → Int32 × (Nat → Int32) × (Nat → Nat → Int32)) (hb26 : ∀ (F26 : Nat → Int32) (R27 : Nat → Nat → Int32) (y23 : Int32) (y24 : Int32) (y25 : Int32), F26 3 = F0 3 → ka3 F0 (b26 F26 R27 y23 y24 y25)) (hA : F51 3 = F0 3) (hB : F51 51 = 0) : ka3 F0 (K_X11_howQuick_68 b26 F51 R52 y25 y59 y60) := by
  unfold K_X11_howQuick_68
  exact (ka3_lt (fun x61 _ => (hb26 F51 R52 y59 y60 x61 hA)))
theorem kt_K_X11_howQuick_63 (F0 : Nat → Int32) (F51 : Nat → Int32) (R52 : Nat → Nat → Int32) (y23 : Int32) (y25 : Int32) (y66 : Int32) (b26 : (Nat → Int32) → (Nat → Nat → Int32) → (Int32) → (Int32) → (Int32) → Int32 × (Nat → Int32) × (Nat → Nat → Int32)) (hb26 : ∀ (F26 : Nat → Int32) (R27 : Nat → Nat → Int32) (y23 : Int32) (y24 : Int32) (y25 : Int32), F26 3 = F0 3 → ka3 F0 (b26 F26 R27 y23 y24 y25)) (hA : F51 3 = F0 3) (hB : F51 51 = 0) : ka3 F0 (K_X11_howQuick_63 b26 F51 R52 y23 y25 y66) := by
  unfold K_X11_howQuick_63
  exact (ka3_lt (fun x67 _ => (kt_K_X11_howQuick_68 F0 F51 R52 y25 x67 y66 b26 hb26 hA hB)))
theorem kt_KB_X11_howQuick_26 (F0 : Nat → Int32) (a0 : Int32) (F26 : Nat → Int32) (R27 : Nat → Nat → Int32) (y23 : Int32) (y24 : Int32) (y25 : Int32) (b26 : (Nat → Int32) → (Nat → Nat → Int32) → (Int32) → (Int32) → (Int32) → Int32 × (Nat → Int32) × (Nat → Nat → Int32)) (hb26 : ∀ (F26 : Nat → Int32) (R27 : Nat → Nat → Int32) (y23 : Int32) (y24 : Int32) (y25 : Int32), F26 3 = F0 3 → ka3 F0 (b26 F26 R27 y23 y24 y25)) (hA : F26 3 = F0 3) : ka3 F0 (KB_X11_howQuick_26 b26 a0 F26 R27 y23 y24 y25) := by
  unfold KB_X11_howQuick_26
  exact (ka3_ite (ka3_ite (kt_K_X11_howQuick_83 F0 F26 R27 y23 hA) (kt_K_X11_howQuick_83 F0 F26 R27 y24 hA)) (ka3_lt2 (fun F44 R45 zF44 => (ka3_lt2 (fun F51 R52 zF51 => (ka3_lt (fun r54 _ => (ka3_ite (kt_K_X11_howQuick_68 F0 F51 R52 y25 y23 y24 b26 hb26 (kb2_A (kt_sp_X11_runsEven F0 F44 R45 y25 (kf2_A hA (fr_sp_X11_laysThings F26 R27) zF44 rfl) (kt_lt zF44)) zF51) (kb2_B (kt_sp_X11_runsEven F0 F44 R45 y25 (kf2_A hA (fr_sp_X11_laysThings F26 R27) zF44 rfl) (kt_lt zF44)) zF51)) (ka3_ite (kt_K_X11_howQuick_63 F0 F51 R52 y23 y25 y25 b26 hb26 (kb2_A (kt_sp_X11_runsEven F0 F44 R45 y25 (kf2_A hA (fr_sp_X11_laysThings F26 R27) zF44 rfl) (kt_lt zF44)) zF51) (kb2_B (kt_sp_X11_runsEven F0 F44 R45 y25 (kf2_A hA (fr_sp_X11_laysThings F26 R27) zF44 rfl) (kt_lt zF44)) zF51)) (kt_K_X11_howQuick_63 F0 F51 R52 y23 y25 y24 b26 hb26 (kb2_A (kt_sp_X11_runsEven F0 F44 R45 y25 (kf2_A hA (fr_sp_X11_laysThings F26 R27) zF44 rfl) (kt_lt zF44)) zF51) (kb2_B (kt_sp_X11_runsEven F0 F44 R45 y25 (kf2_A hA (fr_sp_X11_laysThings F26 R27) zF44 rfl) (kt_lt zF44)) zF51)))))))))))
theorem kt_K_X11_howQuick_26 (F0 : Nat → Int32) (a0 : Int32) : ∀ (n : Nat) (F26 : Nat → Int32) (R27 : Nat → Nat → Int32) (y23 : Int32) (y24 : Int32) (y25 : Int32), F26 3 = F0 3 → ka3 F0 (K_X11_howQuick_26 a0 n F26 R27 y23 y24 y25)
  | 0, F26, R27, y23, y24, y25, hA => hA
  | n + 1, F26, R27, y23, y24, y25, hA => kt_KB_X11_howQuick_26 F0 a0 F26 R27 y23 y24 y25 (K_X11_howQuick_26 a0 n) (kt_K_X11_howQuick_26 F0 a0 n) hA
theorem kt_sp_X11_howQuick (F0 : Nat → Int32) (F : Nat → Int32) (R : Nat → Nat → Int32) (a0 : Int32) (hA : F 3 = F0 3) : ka3 F0 (sp_X11_howQuick F R a0) := by
  unfold sp_X11_howQuick
  exact (ka3_lt (fun r1 _ => (ka3_ite (kt_K_X11_howQuick_16 F0 F R hA) (ka3_lt3 (fun r13 F17 R18 zF17 => (ka3_ite (kt_K_X11_howQuick_16 F0 F17 R18 (kf3_A hA (fr_sp_X11_takesPlaces F R) zF17 rfl)) (kt_K_X11_howQuick_26 F0 a0 8589934592 F17 R18 0 (-2) 1 (kf3_A hA (fr_sp_X11_takesPlaces F R) zF17 rfl))))))))
theorem kt_sp_X11_runsBy (F0 : Nat → Int32) (F : Nat → Int32) (R : Nat → Nat → Int32) (a0 : Int32) (a1 : Int32) (hA : F 3 = F0 3) : ka2 F0 (sp_X11_runsBy F R a0 a1) := by
  unfold sp_X11_runsBy
  exact (ka2_lt2 (fun F5 R6 zF5 => (ka2_lt2 (fun F13 R14 zF13 => (ka2_lt (fun F16 zF16 => (ka2_lt (fun F18 zF18 => (ka2_lt2 (fun F24 R25 zF24 => (kb2_A (kt_sp_X11_runs F0 F18 R14 (kt_ua (kt_ua (kf2_A (kf2_A hA (fr_sp_X11_laysPull F R) zF5 rfl) (fr_sp_X11_laysThings F5 R6) zF13 rfl) rfl zF16) rfl zF18) (kt_ub (kt_ub (kt_lt zF13) rfl zF16) rfl zF18)) zF24)))))))))))
theorem kt_K_X11_odds_35 (F0 : Nat → Int32) (F : Nat → Int32) (R : Nat → Nat → Int32) (hA : F 3 = F0 3) : ka3 F0 (K_X11_odds_35 F R) := by
  unfold K_X11_odds_35
  exact hA
theorem kt_K_X11_odds_119 (F0 : Nat → Int32) (F36 : Nat → Int32) (R37 : Nat → Nat → Int32) (y57 : Int32) (hA : F36 3 = F0 3) : ka3 F0 (K_X11_odds_119 F36 R37 y57) := by
  unfold K_X11_odds_119
  exact hA
theorem kt_K_X11_odds_78 (F0 : Nat → Int32) (F78 : Nat → Int32) (R79 : Nat → Nat → Int32) (y34 : Int32) (y35 : Int32) (y92 : Int32) (b43 : (Nat → Int32) → (Nat → Nat → Int32) → (Int32) → (Int32) → Int32 × (Nat → Int32) × (Nat → Nat → Int32)) (hb43 : ∀ (F36 : Nat → Int32) (R37 : Nat → Nat → Int32) (y34 : Int32) (y35 : Int32), F36 3 = F0 3 → ka3 F0 (b43 F36 R37 y34 y35)) (hA : F78 3 = F0 3) : ka3 F0 (K_X11_odds_78 b43 F78 R79 y34 y35 y92) := by
  unfold K_X11_odds_78
  exact (ka3_lt (fun x93 _ => (ka3_lt (fun x95 _ => (hb43 F78 R79 x93 x95 hA)))))
theorem kt_KB_X11_odds_43 (F0 : Nat → Int32) (a0 : Int32) (a1 : Int32) (a2 : Int32) (F36 : Nat → Int32) (R37 : Nat → Nat → Int32) (y34 : Int32) (y35 : Int32) (b43 : (Nat → Int32) → (Nat → Nat → Int32) → (Int32) → (Int32) → Int32 × (Nat → Int32) × (Nat → Nat → Int32)) (hb43 : ∀ (F36 : Nat → Int32) (R37 : Nat → Nat → Int32) (y34 : Int32) (y35 : Int32), F36 3 = F0 3 → ka3 F0 (b43 F36 R37 y34 y35)) (hA : F36 3 = F0 3) : ka3 F0 (KB_X11_odds_43 b43 a0 a1 a2 F36 R37 y34 y35) := by
  unfold KB_X11_odds_43
  exact (ka3_lt (fun r39 _ => (ka3_ite (ka3_lt (fun r47 _ => (ka3_lt (fun r52 _ => (ka3_ite (ka3_lt (fun x70 _ => (kt_K_X11_odds_119 F0 F36 R37 x70 hA))) (ka3_lt (fun r61 _ => (ka3_lt (fun x66 _ => (kt_K_X11_odds_119 F0 F36 R37 x66 hA)))))))))) (ka3_lt2 (fun F78 R79 zF78 => (ka3_lt (fun r81 _ => (ka3_lt (fun r86 _ => (ka3_ite (kt_K_X11_odds_78 F0 F78 R79 y34 y35 0 b43 hb43 (ka2_A (kt_sp_X11_runsBy F0 F36 R37 a0 y35 hA) zF78)) (kt_K_X11_odds_78 F0 F78 R79 y34 y35 1 b43 hb43 (ka2_A (kt_sp_X11_runsBy F0 F36 R37 a0 y35 hA) zF78))))))))))))
theorem kt_K_X11_odds_43 (F0 : Nat → Int32) (a0 : Int32) (a1 : Int32) (a2 : Int32) : ∀ (n : Nat) (F36 : Nat → Int32) (R37 : Nat → Nat → Int32) (y34 : Int32) (y35 : Int32), F36 3 = F0 3 → ka3 F0 (K_X11_odds_43 a0 a1 a2 n F36 R37 y34 y35)
  | 0, F36, R37, y34, y35, hA => hA
  | n + 1, F36, R37, y34, y35, hA => kt_KB_X11_odds_43 F0 a0 a1 a2 F36 R37 y34 y35 (K_X11_odds_43 a0 a1 a2 n) (kt_K_X11_odds_43 F0 a0 a1 a2 n) hA
theorem kt_sp_X11_odds (F0 : Nat → Int32) (F : Nat → Int32) (R : Nat → Nat → Int32) (a0 : Int32) (a1 : Int32) (a2 : Int32) (hA : F 3 = F0 3) : ka3 F0 (sp_X11_odds F R a0 a1 a2) := by
  unfold sp_X11_odds
  exact (ka3_lt (fun r1 _ => (ka3_ite (kt_K_X11_odds_35 F0 F R hA) (ka3_lt (fun r11 _ => (ka3_ite (kt_K_X11_odds_35 F0 F R hA) (ka3_lt (fun r21 _ => (ka3_ite (kt_K_X11_odds_35 F0 F R hA) (ka3_ite (kt_K_X11_odds_35 F0 F R hA) (kt_K_X11_odds_43 F0 a0 a1 a2 8589934592 F R 0 0 hA)))))))))))
theorem kt_K_X11_should_27 (F0 : Nat → Int32) (F : Nat → Int32) (R : Nat → Nat → Int32) (hA : F 3 = F0 3) : ka3 F0 (K_X11_should_27 F R) := by
  unfold K_X11_should_27
  exact hA
theorem kt_K_X11_should_114 (F0 : Nat → Int32) (F42 : Nat → Int32) (y52 : Int32) (y64 : Int32) (b75 : (Int32) → (Int32) → Int32 × (Nat → Int32) × (Nat → Nat → Int32)) (hb75 : ∀ (y51 : Int32) (y52 : Int32), F42 3 = F0 3 → ka3 F0 (b75 y51 y52)) (hA : F42 3 = F0 3) : ka3 F0 (K_X11_should_114 b75 y52 y64) := by
  unfold K_X11_should_114
  exact (ka3_lt (fun x65 _ => (hb75 y64 x65 hA)))
theorem kt_KB_X11_should_75 (F0 : Nat → Int32) (F : Nat → Int32) (F42 : Nat → Int32) (R43 : Nat → Nat → Int32) (r45 : Int32) (y25 : Int32) (y51 : Int32) (y52 : Int32) (b75 : (Int32) → (Int32) → Int32 × (Nat → Int32) × (Nat → Nat → Int32)) (hb75 : ∀ (y51 : Int32) (y52 : Int32), F42 3 = F0 3 → ka3 F0 (b75 y51 y52)) (b36 : (Nat → Int32) → (Nat → Nat → Int32) → (Int32) → (Int32) → Int32 × (Nat → Int32) × (Nat → Nat → Int32)) (hb36 : ∀ (F26 : Nat → Int32) (R27 : Nat → Nat → Int32) (y24 : Int32) (y25 : Int32), F26 3 = F0 3 → ka3 F0 (b36 F26 R27 y24 y25)) (hA : F42 3 = F0 3) : ka3 F0 (KB_X11_should_75 b75 b36 F F42 R43 r45 y25 y51 y52) := by
  unfold KB_X11_should_75
  exact (ka3_ite (ka3_lt (fun x56 _ => (hb36 F42 R43 y51 x56 hA))) (ka3_lt (fun r60 _ => (ka3_ite (kt_K_X11_should_114 F0 F42 y52 y51 b75 hb75 hA) (ka3_lt (fun r73 _ => (ka3_ite (ka3_lt (fun x83 _ => (ka3_lt (fun x85 _ => (kt_K_X11_should_114 F0 F42 y52 x85 b75 hb75 hA))))) (kt_K_X11_should_114 F0 F42 y52 y51 b75 hb75 hA))))))))
theorem kt_K_X11_should_75 (F0 : Nat → Int32) (F : Nat → Int32) (F42 : Nat → Int32) (R43 : Nat → Nat → Int32) (r45 : Int32) (y25 : Int32) (b36 : (Nat → Int32) → (Nat → Nat → Int32) → (Int32) → (Int32) → Int32 × (Nat → Int32) × (Nat → Nat → Int32)) (hb36 : ∀ (F26 : Nat → Int32) (R27 : Nat → Nat → Int32) (y24 : Int32) (y25 : Int32), F26 3 = F0 3 → ka3 F0 (b36 F26 R27 y24 y25)) : ∀ (n : Nat) (y51 : Int32) (y52 : Int32), F42 3 = F0 3 → ka3 F0 (K_X11_should_75 b36 F F42 R43 r45 y25 n y51 y52)
  | 0, y51, y52, hA => hA
  | n + 1, y51, y52, hA => kt_KB_X11_should_75 F0 F F42 R43 r45 y25 y51 y52 (K_X11_should_75 b36 F F42 R43 r45 y25 n) (kt_K_X11_should_75 F0 F F42 R43 r45 y25 b36 hb36 n) b36 hb36 hA
theorem kt_K_X11_should_72 (F0 : Nat → Int32) (F : Nat → Int32) (F42 : Nat → Int32) (R43 : Nat → Nat → Int32) (r45 : Int32) (y25 : Int32) (y50 : Int32) (b36 : (Nat → Int32) → (Nat → Nat → Int32) → (Int32) → (Int32) → Int32 × (Nat → Int32) × (Nat → Nat → Int32)) (hb36 : ∀ (F26 : Nat → Int32) (R27 : Nat → Nat → Int32) (y24 : Int32) (y25 : Int32), F26 3 = F0 3 → ka3 F0 (b36 F26 R27 y24 y25)) (hA : F42 3 = F0 3) : ka3 F0 (K_X11_should_72 b36 F F42 R43 r45 y25 y50) := by
  unfold K_X11_should_72
  exact (kt_K_X11_should_75 F0 F F42 R43 r45 y25 b36 hb36 8589934592 y50 0 hA)
theorem kt_KB_X11_should_36 (F0 : Nat → Int32) (F : Nat → Int32) (a0 : Int32) (a1 : Int32) (F26 : Nat → Int32) (R27 : Nat → Nat → Int32) (y24 : Int32) (y25 : Int32) (b36 : (Nat → Int32) → (Nat → Nat → Int32) → (Int32) → (Int32) → Int32 × (Nat → Int32) × (Nat → Nat → Int32)) (hb36 : ∀ (F26 : Nat → Int32) (R27 : Nat → Nat → Int32) (y24 : Int32) (y25 : Int32), F26 3 = F0 3 → ka3 F0 (b36 F26 R27 y24 y25)) (hA : F26 3 = F0 3) : ka3 F0 (KB_X11_should_36 b36 F a0 a1 F26 R27 y24 y25) := by
  unfold KB_X11_should_36
  exact (ka3_lt (fun r28 _ => (ka3_ite hA (ka3_lt2 (fun F42 R43 zF42 => (ka3_lt (fun r45 _ => (ka3_ite (ka3_lt (fun x90 _ => (kt_K_X11_should_72 F0 F F42 R43 r45 y25 x90 b36 hb36 (ka2_A (kt_sp_X11_runsBy F0 F26 R27 a0 y25 hA) zF42)))) (kt_K_X11_should_72 F0 F F42 R43 r45 y25 y24 b36 hb36 (ka2_A (kt_sp_X11_runsBy F0 F26 R27 a0 y25 hA) zF42))))))))))
theorem kt_K_X11_should_36 (F0 : Nat → Int32) (F : Nat → Int32) (a0 : Int32) (a1 : Int32) : ∀ (n : Nat) (F26 : Nat → Int32) (R27 : Nat → Nat → Int32) (y24 : Int32) (y25 : Int32), F26 3 = F0 3 → ka3 F0 (K_X11_should_36 F a0 a1 n F26 R27 y24 y25)
  | 0, F26, R27, y24, y25, hA => hA
  | n + 1, F26, R27, y24, y25, hA => kt_KB_X11_should_36 F0 F a0 a1 F26 R27 y24 y25 (K_X11_should_36 F a0 a1 n) (kt_K_X11_should_36 F0 F a0 a1 n) hA
theorem kt_sp_X11_should (F0 : Nat → Int32) (F : Nat → Int32) (R : Nat → Nat → Int32) (a0 : Int32) (a1 : Int32) (hA : F 3 = F0 3) : ka3 F0 (sp_X11_should F R a0 a1) := by
  unfold sp_X11_should
  exact (ka3_lt (fun r1 _ => (ka3_ite (kt_K_X11_should_27 F0 F R hA) (ka3_lt (fun r11 _ => (ka3_ite (kt_K_X11_should_27 F0 F R hA) (ka3_ite (kt_K_X11_should_27 F0 F R hA) (kt_K_X11_should_36 F0 F a0 a1 8589934592 F R 0 0 hA))))))))
theorem kt_K_X11_put_62 (F0 : Nat → Int32) (F : Nat → Int32) (R : Nat → Nat → Int32) (hA : F 3 = F0 3) : ka3 F0 (K_X11_put_62 F R) := by
  unfold K_X11_put_62
  exact hA
theorem kt_KB_X11_put_341 (F0 : Nat → Int32) (F55 : Nat → Int32) (F70 : Nat → Int32) (R71 : Nat → Nat → Int32) (a1 : Int32) (y75 : Int32) (b341 : (Int32) → Int32 × (Nat → Int32) × (Nat → Nat → Int32)) (hb341 : ∀ (y75 : Int32), F70 3 = F0 3 → ka3 F0 (b341 y75)) (hA : F70 3 = F0 3) : ka3 F0 (KB_X11_put_341 b341 F55 F70 R71 a1 y75) := by
  unfold KB_X11_put_341
  exact (ka3_ite hA (ka3_lt (fun x82 _ => (ka3_ite (ka3_lt (fun x91 _ => (ka3_lt (fun x94 _ => hA)))) (ka3_lt (fun x87 _ => (hb341 x87 hA)))))))
theorem kt_K_X11_put_341 (F0 : Nat → Int32) (F55 : Nat → Int32) (F70 : Nat → Int32) (R71 : Nat → Nat → Int32) (a1 : Int32) : ∀ (n : Nat) (y75 : Int32), F70 3 = F0 3 → ka3 F0 (K_X11_put_341 F55 F70 R71 a1 n y75)
  | 0, y75, hA => hA
  | n + 1, y75, hA => kt_KB_X11_put_341 F0 F55 F70 R71 a1 y75 (K_X11_put_341 F55 F70 R71 a1 n) (kt_K_X11_put_341 F0 F55 F70 R71 a1 n) hA
theorem kt_KB_X11_put_289 (F0 : Nat → Int32) (F55 : Nat → Int32) (F104 : Nat → Int32) (R108 : Nat → Nat → Int32) (y107 : Int32) (b289 : (Nat → Nat → Int32) → (Int32) → Int32 × (Nat → Int32) × (Nat → Nat → Int32)) (hb289 : ∀ (R108 : Nat → Nat → Int32) (y107 : Int32), F104 3 = F0 3 → F104 51 = 0 → ka3 F0 (b289 R108 y107)) (hA : F104 3 = F0 3) (hB : F104 51 = 0) : ka3 F0 (KB_X11_put_289 b289 F55 F104 R108 y107) := by
  unfold KB_X11_put_289
  exact (ka3_ite hA (ka3_lt (fun x115 _ => (ka3_lt (fun x118 _ => (ka3_lt (fun x121 _ => (ka3_lt (fun x124 _ => (ka3_lt (fun R126 _ => (ka3_lt (fun x128 _ => (hb289 R126 x128 hA hB))))))))))))))
theorem kt_K_X11_put_289 (F0 : Nat → Int32) (F55 : Nat → Int32) (F104 : Nat → Int32) : ∀ (n : Nat) (R108 : Nat → Nat → Int32) (y107 : Int32), F104 3 = F0 3 → F104 51 = 0 → ka3 F0 (K_X11_put_289 F55 F104 n R108 y107)
  | 0, R108, y107, hA, hB => hA
  | n + 1, R108, y107, hA, hB => kt_KB_X11_put_289 F0 F55 F104 R108 y107 (K_X11_put_289 F55 F104 n) (kt_K_X11_put_289 F0 F55 F104 n) hA hB
theorem kt_K_X11_put_239 (F0 : Nat → Int32) (y54 : Int32) (F144 : Nat → Int32) (R145 : Nat → Nat → Int32) (b155 : (Nat → Int32) → (Nat → Nat → Int32) → (Int32) → Int32 × (Nat → Int32) × (Nat → Nat → Int32)) (hb155 : ∀ (F55 : Nat → Int32) (R56 : Nat → Nat → Int32) (y54 : Int32), F55 3 = F0 3 → ka3 F0 (b155 F55 R56 y54)) (hA : F144 3 = F0 3) : ka3 F0 (K_X11_put_239 b155 y54 F144 R145) := by
  unfold K_X11_put_239
  exact (ka3_lt (fun x147 _ => (hb155 F144 R145 x147 hA)))
theorem kt_KB_X11_put_185 (F0 : Nat → Int32) (F55 : Nat → Int32) (F164 : Nat → Int32) (y54 : Int32) (R168 : Nat → Nat → Int32) (y167 : Int32) (b185 : (Nat → Nat → Int32) → (Int32) → Int32 × (Nat → Int32) × (Nat → Nat → Int32)) (hb185 : ∀ (R168 : Nat → Nat → Int32) (y167 : Int32), F164 3 = F0 3 → F164 51 = 0 → ka3 F0 (b185 R168 y167)) (b155 : (Nat → Int32) → (Nat → Nat → Int32) → (Int32) → Int32 × (Nat → Int32) × (Nat → Nat → Int32)) (hb155 : ∀ (F55 : Nat → Int32) (R56 : Nat → Nat → Int32) (y54 : Int32), F55 3 = F0 3 → ka3 F0 (b155 F55 R56 y54)) (hA : F164 3 = F0 3) (hB : F164 51 = 0) : ka3 F0 (KB_X11_put_185 b185 b155 F55 F164 y54 R168 y167) := by
  unfold KB_X11_put_185
  exact (ka3_ite (ka3_lt2 (fun F177 R178 zF177 => (ka3_lt2 (fun F186 R187 zF186 => (kt_K_X11_put_239 F0 y54 F186 R187 b155 hb155 (kf2_A (kb2_A (kt_sp_X11_runs F0 F164 R168 hA hB) zF177) (fr_sp_X11_better F177 R178 y54) zF186 rfl)))))) (ka3_lt (fun x191 _ => (ka3_lt (fun x194 _ => (ka3_lt (fun x197 _ => (ka3_lt (fun x200 _ => (ka3_lt (fun R202 _ => (ka3_lt (fun x204 _ => (hb185 R202 x204 hA hB))))))))))))))
theorem kt_K_X11_put_185 (F0 : Nat → Int32) (F55 : Nat → Int32) (F164 : Nat → Int32) (y54 : Int32) (b155 : (Nat → Int32) → (Nat → Nat → Int32) → (Int32) → Int32 × (Nat → Int32) × (Nat → Nat → Int32)) (hb155 : ∀ (F55 : Nat → Int32) (R56 : Nat → Nat → Int32) (y54 : Int32), F55 3 = F0 3 → ka3 F0 (b155 F55 R56 y54)) : ∀ (n : Nat) (R168 : Nat → Nat → Int32) (y167 : Int32), F164 3 = F0 3 → F164 51 = 0 → ka3 F0 (K_X11_put_185 b155 F55 F164 y54 n R168 y167)
  | 0, R168, y167, hA, hB => hA
  | n + 1, R168, y167, hA, hB => kt_KB_X11_put_185 F0 F55 F164 y54 R168 y167 (K_X11_put_185 b155 F55 F164 y54 n) (kt_K_X11_put_185 F0 F55 F164 y54 b155 hb155 n) b155 hb155 hA hB
theorem kt_KB_X11_put_155 (F0 : Nat → Int32) (a1 : Int32) (y41 : Int32) (F55 : Nat → Int32) (R56 : Nat → Nat → Int32) (y54 : Int32) (b155 : (Nat → Int32) → (Nat → Nat → Int32) → (Int32) → Int32 × (Nat → Int32) × (Nat → Nat → Int32)) (hb155 : ∀ (F55 : Nat → Int32) (R56 : Nat → Nat → Int32) (y54 : Int32), F55 3 = F0 3 → ka3 F0 (b155 F55 R56 y54)) (hA : F55 3 = F0 3) : ka3 F0 (KB_X11_put_155 b155 a1 y41 F55 R56 y54) := by
  unfold KB_X11_put_155
  exact (ka3_ite (ka3_ite hA (ka3_ite hA (ka3_lt3 (fun r65 F70 R71 zF70 => (ka3_ite (ka3_lt2 (fun F104 R105 zF104 => (kt_K_X11_put_289 F0 F55 F104 8589934592 R105 0 (kf2_A (kf3_A hA (fr_sp_X11_readsRow F55 R56 (F55 72)) zF70 rfl) (fr_sp_X11_laysThings F70 R71) zF104 rfl) (kt_lt zF104)))) (kt_K_X11_put_341 F0 F55 F70 R71 a1 8589934592 0 (kf3_A hA (fr_sp_X11_readsRow F55 R56 (F55 72)) zF70 rfl))))))) (ka3_lt3 (fun r136 F141 R142 zF141 => (ka3_ite (kt_K_X11_put_239 F0 y54 F141 R142 b155 hb155 (kf3_A hA (fr_sp_X11_readsRow F55 R56 y54) zF141 rfl)) (ka3_lt2 (fun F156 R157 zF156 => (ka3_lt2 (fun F164 R165 zF164 => (kt_K_X11_put_185 F0 F55 F164 y54 b155 hb155 8589934592 R165 0 (kf2_A (kf2_A (kf3_A hA (fr_sp_X11_readsRow F55 R56 y54) zF141 rfl) (fr_sp_X11_laysPull F141 R142) zF156 rfl) (fr_sp_X11_laysThings F156 R157) zF164 rfl) (kt_lt zF164))))))))))
theorem kt_K_X11_put_155 (F0 : Nat → Int32) (a1 : Int32) (y41 : Int32) : ∀ (n : Nat) (F55 : Nat → Int32) (R56 : Nat → Nat → Int32) (y54 : Int32), F55 3 = F0 3 → ka3 F0 (K_X11_put_155 a1 y41 n F55 R56 y54)
  | 0, F55, R56, y54, hA => hA
  | n + 1, F55, R56, y54, hA => kt_KB_X11_put_155 F0 a1 y41 F55 R56 y54 (K_X11_put_155 a1 y41 n) (kt_K_X11_put_155 F0 a1 y41 n) hA
theorem kt_KB_X11_put_124 (F0 : Nat → Int32) (F36 : Nat → Int32) (R37 : Nat → Nat → Int32) (a1 : Int32) (y41 : Int32) (y42 : Int32) (b124 : (Int32) → (Int32) → Int32 × (Nat → Int32) × (Nat → Nat → Int32)) (hb124 : ∀ (y41 : Int32) (y42 : Int32), F36 3 = F0 3 → ka3 F0 (b124 y41 y42)) (hA : F36 3 = F0 3) : ka3 F0 (KB_X11_put_124 b124 F36 R37 a1 y41 y42) := by
  unfold KB_X11_put_124
  exact (ka3_ite (ka3_lt2 (fun F51 R52 zF51 => (kt_K_X11_put_155 F0 a1 y41 8589934592 F51 R52 0 (kf2_A hA (fr_sp_X11_forgetsBest F36 R37) zF51 rfl)))) (ka3_lt (fun x211 _ => (ka3_lt (fun x213 _ => (hb124 x211 x213 hA))))))
theorem kt_K_X11_put_124 (F0 : Nat → Int32) (F36 : Nat → Int32) (R37 : Nat → Nat → Int32) (a1 : Int32) : ∀ (n : Nat) (y41 : Int32) (y42 : Int32), F36 3 = F0 3 → ka3 F0 (K_X11_put_124 F36 R37 a1 n y41 y42)
  | 0, y41, y42, hA => hA
  | n + 1, y41, y42, hA => kt_KB_X11_put_124 F0 F36 R37 a1 y41 y42 (K_X11_put_124 F36 R37 a1 n) (kt_K_X11_put_124 F0 F36 R37 a1 n) hA
theorem kt_K_X11_put_112 (F0 : Nat → Int32) (y35 : Int32) (F221 : Nat → Int32) (R222 : Nat → Nat → Int32) (b72 : (Nat → Int32) → (Nat → Nat → Int32) → (Int32) → Int32 × (Nat → Int32) × (Nat → Nat → Int32)) (hb72 : ∀ (F36 : Nat → Int32) (R37 : Nat → Nat → Int32) (y35 : Int32), F36 3 = F0 3 → ka3 F0 (b72 F36 R37 y35)) (hA : F221 3 = F0 3) : ka3 F0 (K_X11_put_112 b72 y35 F221 R222) := by
  unfold K_X11_put_112
  exact (ka3_lt (fun x223 _ => (hb72 F221 R222 x223 hA)))
theorem kt_KB_X11_put_72 (F0 : Nat → Int32) (a0 : Int32) (a1 : Int32) (F36 : Nat → Int32) (R37 : Nat → Nat → Int32) (y35 : Int32) (b72 : (Nat → Int32) → (Nat → Nat → Int32) → (Int32) → Int32 × (Nat → Int32) × (Nat → Nat → Int32)) (hb72 : ∀ (F36 : Nat → Int32) (R37 : Nat → Nat → Int32) (y35 : Int32), F36 3 = F0 3 → ka3 F0 (b72 F36 R37 y35)) (hA : F36 3 = F0 3) : ka3 F0 (KB_X11_put_72 b72 a0 a1 F36 R37 y35) := by
  unfold KB_X11_put_72
  exact (ka3_ite (kt_K_X11_put_124 F0 F36 R37 a1 8589934592 1 0 hA) (ka3_lt (fun r217 _ => (ka3_ite (kt_K_X11_put_112 F0 y35 F36 R37 b72 hb72 hA) (ka3_lt (fun R231 _ => (ka3_lt (fun x233 _ => (ka3_lt (fun F235 zF235 => (kt_K_X11_put_112 F0 y35 F235 R231 b72 hb72 (kt_ua hA rfl zF235))))))))))))
theorem kt_K_X11_put_72 (F0 : Nat → Int32) (a0 : Int32) (a1 : Int32) : ∀ (n : Nat) (F36 : Nat → Int32) (R37 : Nat → Nat → Int32) (y35 : Int32), F36 3 = F0 3 → ka3 F0 (K_X11_put_72 a0 a1 n F36 R37 y35)
  | 0, F36, R37, y35, hA => hA
  | n + 1, F36, R37, y35, hA => kt_KB_X11_put_72 F0 a0 a1 F36 R37 y35 (K_X11_put_72 a0 a1 n) (kt_K_X11_put_72 F0 a0 a1 n) hA
theorem kt_K_X11_put_34 (F0 : Nat → Int32) (F : Nat → Int32) (R : Nat → Nat → Int32) (a0 : Int32) (a1 : Int32) (y5 : Int32) (hA : F 3 = F0 3) : ka3 F0 (K_X11_put_34 F R a0 a1 y5) := by
  unfold K_X11_put_34
  exact (ka3_lt (fun x6 _ => (ka3_lt (fun x8 _ => (ka3_ite (ka3_lt (fun r14 _ => (ka3_lt (fun r20 _ => (ka3_ite (kt_K_X11_put_62 F0 F R hA) (ka3_ite (kt_K_X11_put_62 F0 F R hA) (ka3_lt (fun F33 zF33 => (kt_K_X11_put_72 F0 a0 a1 8589934592 F33 R 0 (kt_ua hA rfl zF33)))))))))) (kt_K_X11_put_62 F0 F R hA))))))
theorem kt_K_X11_put_29 (F0 : Nat → Int32) (F : Nat → Int32) (R : Nat → Nat → Int32) (a0 : Int32) (a1 : Int32) (hA : F 3 = F0 3) : ka3 F0 (K_X11_put_29 F R a0 a1) := by
  unfold K_X11_put_29
  exact (kt_K_X11_put_34 F0 F R a0 a1 1 hA)
theorem kt_K_X11_put_33 (F0 : Nat → Int32) (F : Nat → Int32) (R : Nat → Nat → Int32) (a0 : Int32) (a1 : Int32) (hA : F 3 = F0 3) : ka3 F0 (K_X11_put_33 F R a0 a1) := by
  unfold K_X11_put_33
  exact (kt_K_X11_put_34 F0 F R a0 a1 0 hA)
theorem kt_sp_X11_put (F0 : Nat → Int32) (F : Nat → Int32) (R : Nat → Nat → Int32) (a0 : Int32) (a1 : Int32) (hA : F 3 = F0 3) : ka3 F0 (sp_X11_put F R a0 a1) := by
  unfold sp_X11_put
  exact (ka3_lt (fun r1 _ => (ka3_ite (ka3_lt (fun r248 _ => (ka3_ite (kt_K_X11_put_33 F0 F R a0 a1 hA) (ka3_lt (fun r258 _ => (ka3_ite (kt_K_X11_put_33 F0 F R a0 a1 hA) (kt_K_X11_put_29 F0 F R a0 a1 hA))))))) (kt_K_X11_put_29 F0 F R a0 a1 hA))))
