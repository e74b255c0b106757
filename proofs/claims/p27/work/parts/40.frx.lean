/-! ===== frames of the pure texts ===== -/
def kf2 (M N : List Nat) (F : Nat → Int32) (R : Nat → Nat → Int32) (p : (Nat → Int32) × (Nat → Nat → Int32)) : Prop := g_fr M F p.1 ∧ g_fr N R p.2
def kf3 (M N : List Nat) (F : Nat → Int32) (R : Nat → Nat → Int32) (p : Int32 × (Nat → Int32) × (Nat → Nat → Int32)) : Prop := g_fr M F p.2.1 ∧ g_fr N R p.2.2
section KF
variable {M N M' N' : List Nat} {F F1 Fo F' : Nat → Int32} {R R1 Ro R' : Nat → Nat → Int32}
theorem kf2_lt {α : Type} {e : α} {f : α → (Nat → Int32) × (Nat → Nat → Int32)} (h : ∀ x, x = e → kf2 M N F R (f x)) : kf2 M N F R (k_lt e f) := h e rfl
theorem kf3_lt {α : Type} {e : α} {f : α → Int32 × (Nat → Int32) × (Nat → Nat → Int32)} (h : ∀ x, x = e → kf3 M N F R (f x)) : kf3 M N F R (k_lt e f) := h e rfl
theorem kf2_lt2 {α β : Type} {e : α × β} {f : α → β → (Nat → Int32) × (Nat → Nat → Int32)} (h : ∀ x y, (x, y) = e → kf2 M N F R (f x y)) : kf2 M N F R (k_lt2 e f) := h _ _ rfl
theorem kf3_lt2 {α β : Type} {e : α × β} {f : α → β → Int32 × (Nat → Int32) × (Nat → Nat → Int32)} (h : ∀ x y, (x, y) = e → kf3 M N F R (f x y)) : kf3 M N F R (k_lt2 e f) := h _ _ rfl
theorem kf2_lt3 {α β γ : Type} {e : α × β × γ} {f : α → β → γ → (Nat → Int32) × (Nat → Nat → Int32)} (h : ∀ x y z, (x, y, z) = e → kf2 M N F R (f x y z)) : kf2 M N F R (k_lt3 e f) := h _ _ _ rfl
theorem kf3_lt3 {α β γ : Type} {e : α × β × γ} {f : α → β → γ → Int32 × (Nat → Int32) × (Nat → Nat → Int32)} (h : ∀ x y z, (x, y, z) = e → kf3 M N F R (f x y z)) : kf3 M N F R (k_lt3 e f) := h _ _ _ rfl
theorem kf2_ite {c : Prop} [Decidable c] {a b : (Nat → Int32) × (Nat → Nat → Int32)} (ha : kf2 M N F R a) (hb : kf2 M N F R b) : kf2 M N F R (if c then a else b) := by split <;> assumption
theorem kf3_ite {c : Prop} [Decidable c] {a b : Int32 × (Nat → Int32) × (Nat → Nat → Int32)} (ha : kf3 M N F R a) (hb : kf3 M N F R b) : kf3 M N F R (if c then a else b) := by split <;> assumption
theorem kf_u {k : Nat} {v : Int32} (h : g_fr M F Fo) (hk : M.contains k = true) (e : F' = upd Fo k v) : g_fr M F F' := by rw [e]; exact g_fr_u h hk
theorem kf_r {k : Nat} {v : Nat → Int32} (h : g_fr N R Ro) (hk : N.contains k = true) (e : R' = g_u Ro k v) : g_fr N R R' := by rw [e]; exact g_fr_r h hk
theorem kf2_F {p : (Nat → Int32) × (Nat → Nat → Int32)} (h0 : g_fr M F F1) (h : kf2 M' N' F1 R1 p) (e : (F', R') = p) (hk : M'.all (fun k => M.contains k) = true) : g_fr M F F' := by subst e; exact g_fr_c h0 h.1 hk
theorem kf2_R {p : (Nat → Int32) × (Nat → Nat → Int32)} (h0 : g_fr N R R1) (h : kf2 M' N' F1 R1 p) (e : (F', R') = p) (hk : N'.all (fun k => N.contains k) = true) : g_fr N R R' := by subst e; exact g_fr_c h0 h.2 hk
theorem kf3_F {r : Int32} {p : Int32 × (Nat → Int32) × (Nat → Nat → Int32)} (h0 : g_fr M F F1) (h : kf3 M' N' F1 R1 p) (e : (r, F', R') = p) (hk : M'.all (fun k => M.contains k) = true) : g_fr M F F' := by subst e; exact g_fr_c h0 h.1 hk
theorem kf3_R {r : Int32} {p : Int32 × (Nat → Int32) × (Nat → Nat → Int32)} (h0 : g_fr N R R1) (h : kf3 M' N' F1 R1 p) (e : (r, F', R') = p) (hk : N'.all (fun k => N.contains k) = true) : g_fr N R R' := by subst e; exact g_fr_c h0 h.2 hk
theorem kf2_tr {p : (Nat → Int32) × (Nat → Nat → Int32)} (h1 : g_fr M F F1) (h2 : g_fr N R R1) (h : kf2 M N F1 R1 p) : kf2 M N F R p := ⟨fun k hk => (h.1 k hk).trans (h1 k hk), fun k hk => (h.2 k hk).trans (h2 k hk)⟩
theorem kf3_tr {p : Int32 × (Nat → Int32) × (Nat → Nat → Int32)} (h1 : g_fr M F F1) (h2 : g_fr N R R1) (h : kf3 M N F1 R1 p) : kf3 M N F R p := ⟨fun k hk => (h.1 k hk).trans (h1 k hk), fun k hk => (h.2 k hk).trans (h2 k hk)⟩
end KF
theorem fr_K_X10_table_22 (F : Nat → Int32) (R : Nat → Nat → Int32) : kf3 md_X10_table mr_X10_table F R (K_X10_table_22 F R) := by
  unfold K_X10_table_22
  exact ⟨(g_fr_rf _), (g_fr_rf _)⟩
theorem fr_sp_X10_table (F : Nat → Int32) (R : Nat → Nat → Int32) (a0 : Int32) (a1 : Int32) : kf3 md_X10_table mr_X10_table F R (sp_X10_table F R a0 a1) := by
  unfold sp_X10_table
  exact (kf3_lt (fun r1 _ => (kf3_ite (kf3_tr (g_fr_rf _) (g_fr_rf _) (fr_K_X10_table_22 F R)) (kf3_lt (fun r11 _ => (kf3_ite (kf3_tr (g_fr_rf _) (g_fr_rf _) (fr_K_X10_table_22 F R)) (kf3_lt (fun F19 zF19 => (kf3_lt (fun F21 zF21 => (kf3_lt (fun F23 zF23 => (kf3_lt (fun F25 zF25 => ⟨(kf_u (kf_u (kf_u (kf_u (g_fr_rf _) rfl zF19) rfl zF21) rfl zF23) rfl zF25), (g_fr_rf _)⟩))))))))))))))
theorem fr_sp_X10_cloth (F : Nat → Int32) (R : Nat → Nat → Int32) (a0 : Int32) : kf3 md_X10_cloth mr_X10_cloth F R (sp_X10_cloth F R a0) := by
  unfold sp_X10_cloth
  exact (kf3_lt (fun r1 _ => (kf3_ite ⟨(g_fr_rf _), (g_fr_rf _)⟩ (kf3_lt (fun F8 zF8 => ⟨(kf_u (g_fr_rf _) rfl zF8), (g_fr_rf _)⟩)))))
theorem fr_K_X8_change_1_32 (F : Nat → Int32) (R5 : Nat → Nat → Int32) : kf2 md_X8_change_1 mr_X8_change_1 F R5 (K_X8_change_1_32 F R5) := by
  unfold K_X8_change_1_32
  exact ⟨(g_fr_rf _), (g_fr_rf _)⟩
theorem fr_sp_X8_change_1 (F : Nat → Int32) (R : Nat → Nat → Int32) (a0 : Int32) (a1 : Int32) (a2 : Int32) : kf2 md_X8_change_1 mr_X8_change_1 F R (sp_X8_change_1 F R a0 a1 a2) := by
  unfold sp_X8_change_1
  exact (kf2_lt (fun r1 _ => (kf2_ite (kf2_tr (g_fr_rf _) (g_fr_rf _) (fr_K_X8_change_1_32 F R)) (kf2_lt (fun r12 _ => (kf2_ite (kf2_tr (g_fr_rf _) (g_fr_rf _) (fr_K_X8_change_1_32 F R)) (kf2_lt (fun x22 _ => (kf2_lt (fun x24 _ => (kf2_lt (fun R26 zR26 => (kf2_tr (g_fr_rf _) (kf_r (g_fr_rf _) rfl zR26) (fr_K_X8_change_1_32 F R26))))))))))))))
theorem fr_K_X10_thing_74 (F : Nat → Int32) (R : Nat → Nat → Int32) (a0 : Int32) (a1 : Int32) (a2 : Int32) (a3 : Int32) (a4 : Int32) (a5 : Int32) (y5 : Int32) : kf3 md_X10_thing mr_X10_thing F R (K_X10_thing_74 F R a0 a1 a2 a3 a4 a5 y5) := by
  unfold K_X10_thing_74
  exact (kf3_ite ⟨(g_fr_rf _), (g_fr_rf _)⟩ (kf3_lt (fun x9 _ => (kf3_lt (fun x11 _ => (kf3_lt (fun F13 zF13 => (kf3_lt2 (fun F19 R20 zF19 => (kf3_lt2 (fun F26 R27 zF26 => (kf3_lt2 (fun F33 R34 zF33 => (kf3_lt2 (fun F40 R41 zF40 => (kf3_lt2 (fun F47 R48 zF47 => (kf3_lt2 (fun F54 R55 zF54 => (kf3_lt2 (fun F61 R62 zF61 => (kf3_lt2 (fun F68 R69 zF68 => ⟨(kf2_F (kf2_F (kf2_F (kf2_F (kf2_F (kf2_F (kf2_F (kf2_F (kf_u (g_fr_rf _) rfl zF13) (fr_sp_X8_change_1 F13 R a0 0 a1) zF19 rfl) (fr_sp_X8_change_1 F19 R20 a0 1 a2) zF26 rfl) (fr_sp_X8_change_1 F26 R27 a0 2 a3) zF33 rfl) (fr_sp_X8_change_1 F33 R34 a0 3 a4) zF40 rfl) (fr_sp_X8_change_1 F40 R41 a0 4 a5) zF47 rfl) (fr_sp_X8_change_1 F47 R48 a0 5 0) zF54 rfl) (fr_sp_X8_change_1 F54 R55 a0 6 0) zF61 rfl) (fr_sp_X8_change_1 F61 R62 a0 7 0) zF68 rfl), (kf2_R (kf2_R (kf2_R (kf2_R (kf2_R (kf2_R (kf2_R (kf2_R (g_fr_rf _) (fr_sp_X8_change_1 F13 R a0 0 a1) zF19 rfl) (fr_sp_X8_change_1 F19 R20 a0 1 a2) zF26 rfl) (fr_sp_X8_change_1 F26 R27 a0 2 a3) zF33 rfl) (fr_sp_X8_change_1 F33 R34 a0 3 a4) zF40 rfl) (fr_sp_X8_change_1 F40 R41 a0 4 a5) zF47 rfl) (fr_sp_X8_change_1 F47 R48 a0 5 0) zF54 rfl) (fr_sp_X8_change_1 F54 R55 a0 6 0) zF61 rfl) (fr_sp_X8_change_1 F61 R62 a0 7 0) zF68 rfl)⟩)))))))))))))))))))))))
theorem fr_K_X10_thing_73 (F : Nat → Int32) (R : Nat → Nat → Int32) (a0 : Int32) (a1 : Int32) (a2 : Int32) (a3 : Int32) (a4 : Int32) (a5 : Int32) : kf3 md_X10_thing mr_X10_thing F R (K_X10_thing_73 F R a0 a1 a2 a3 a4 a5) := by
  unfold K_X10_thing_73
  exact (kf3_tr (g_fr_rf _) (g_fr_rf _) (fr_K_X10_thing_74 F R a0 a1 a2 a3 a4 a5 0))
theorem fr_sp_X10_thing (F : Nat → Int32) (R : Nat → Nat → Int32) (a0 : Int32) (a1 : Int32) (a2 : Int32) (a3 : Int32) (a4 : Int32) (a5 : Int32) : kf3 md_X10_thing mr_X10_thing F R (sp_X10_thing F R a0 a1 a2 a3 a4 a5) := by
  unfold sp_X10_thing
  exact (kf3_lt (fun r1 _ => (kf3_ite (kf3_tr (g_fr_rf _) (g_fr_rf _) (fr_K_X10_thing_73 F R a0 a1 a2 a3 a4 a5)) (kf3_lt (fun r79 _ => (kf3_ite (kf3_tr (g_fr_rf _) (g_fr_rf _) (fr_K_X10_thing_73 F R a0 a1 a2 a3 a4 a5)) (kf3_lt (fun x89 _ => (kf3_lt (fun r91 _ => (kf3_ite (kf3_tr (g_fr_rf _) (g_fr_rf _) (fr_K_X10_thing_73 F R a0 a1 a2 a3 a4 a5)) (kf3_lt (fun r100 _ => (kf3_ite (kf3_tr (g_fr_rf _) (g_fr_rf _) (fr_K_X10_thing_73 F R a0 a1 a2 a3 a4 a5)) (kf3_lt (fun r110 _ => (kf3_ite (kf3_tr (g_fr_rf _) (g_fr_rf _) (fr_K_X10_thing_73 F R a0 a1 a2 a3 a4 a5)) (kf3_lt (fun r120 _ => (kf3_ite (kf3_tr (g_fr_rf _) (g_fr_rf _) (fr_K_X10_thing_73 F R a0 a1 a2 a3 a4 a5)) (kf3_tr (g_fr_rf _) (g_fr_rf _) (fr_K_X10_thing_74 F R a0 a1 a2 a3 a4 a5 1))))))))))))))))))))))
theorem fr_K_X10_more_43 (F : Nat → Int32) (R : Nat → Nat → Int32) : kf3 md_X10_more mr_X10_more F R (K_X10_more_43 F R) := by
  unfold K_X10_more_43
  exact ⟨(g_fr_rf _), (g_fr_rf _)⟩
theorem fr_sp_X10_more (F : Nat → Int32) (R : Nat → Nat → Int32) (a0 : Int32) (a1 : Int32) (a2 : Int32) (a3 : Int32) : kf3 md_X10_more mr_X10_more F R (sp_X10_more F R a0 a1 a2 a3) := by
  unfold sp_X10_more
  exact (kf3_lt (fun r1 _ => (kf3_ite (kf3_tr (g_fr_rf _) (g_fr_rf _) (fr_K_X10_more_43 F R)) (kf3_lt (fun r11 _ => (kf3_ite (kf3_tr (g_fr_rf _) (g_fr_rf _) (fr_K_X10_more_43 F R)) (kf3_lt (fun r21 _ => (kf3_ite (kf3_tr (g_fr_rf _) (g_fr_rf _) (fr_K_X10_more_43 F R)) (kf3_lt (fun r31 _ => (kf3_ite (kf3_tr (g_fr_rf _) (g_fr_rf _) (fr_K_X10_more_43 F R)) (kf3_lt2 (fun F43 R44 zF43 => (kf3_lt2 (fun F50 R51 zF50 => (kf3_lt2 (fun F57 R58 zF57 => ⟨(kf2_F (kf2_F (kf2_F (g_fr_rf _) (fr_sp_X8_change_1 F R a0 5 a1) zF43 rfl) (fr_sp_X8_change_1 F43 R44 a0 6 a2) zF50 rfl) (fr_sp_X8_change_1 F50 R51 a0 7 a3) zF57 rfl), (kf2_R (kf2_R (kf2_R (g_fr_rf _) (fr_sp_X8_change_1 F R a0 5 a1) zF43 rfl) (fr_sp_X8_change_1 F43 R44 a0 6 a2) zF50 rfl) (fr_sp_X8_change_1 F50 R51 a0 7 a3) zF57 rfl)⟩))))))))))))))))))
theorem fr_sp_X8_take_1 (F : Nat → Int32) (R : Nat → Nat → Int32) (a0 : Int32) : kf2 md_X8_take_1 mr_X8_take_1 F R (sp_X8_take_1 F R a0) := by
  unfold sp_X8_take_1
  exact (kf2_lt (fun x1 _ => (kf2_lt (fun x3 _ => (kf2_lt (fun x5 _ => (kf2_lt (fun F7 zF7 => ⟨(kf_u (g_fr_rf _) rfl zF7), (g_fr_rf _)⟩))))))))
theorem fr_sp_X10_away (F : Nat → Int32) (R : Nat → Nat → Int32) (a0 : Int32) : kf3 md_X10_away mr_X10_away F R (sp_X10_away F R a0) := by
  unfold sp_X10_away
  exact (kf3_lt (fun r1 _ => (kf3_ite ⟨(g_fr_rf _), (g_fr_rf _)⟩ (kf3_lt2 (fun F13 R14 zF13 => ⟨(kf2_F (g_fr_rf _) (fr_sp_X8_take_1 F R a0) zF13 rfl), (kf2_R (g_fr_rf _) (fr_sp_X8_take_1 F R a0) zF13 rfl)⟩)))))
theorem fr_K_X9_add_43 (y1 : Int32) (F9 : Nat → Int32) (R10 : Nat → Nat → Int32) (b3 : (Nat → Int32) → (Nat → Nat → Int32) → (Int32) → (Nat → Int32) × (Nat → Nat → Int32)) (hb3 : ∀ (F2 : Nat → Int32) (R3 : Nat → Nat → Int32) (y1 : Int32), kf2 md_X9_add mr_X9_add F2 R3 (b3 F2 R3 y1)) : kf2 md_X9_add mr_X9_add F9 R10 (K_X9_add_43 b3 y1 F9 R10) := by
  unfold K_X9_add_43
  exact (kf2_lt (fun x11 _ => (kf2_tr (g_fr_rf _) (g_fr_rf _) (hb3 F9 R10 x11))))
theorem fr_KB_X9_add_3 (a0 : Int32) (F2 : Nat → Int32) (R3 : Nat → Nat → Int32) (y1 : Int32) (b3 : (Nat → Int32) → (Nat → Nat → Int32) → (Int32) → (Nat → Int32) × (Nat → Nat → Int32)) (hb3 : ∀ (F2 : Nat → Int32) (R3 : Nat → Nat → Int32) (y1 : Int32), kf2 md_X9_add mr_X9_add F2 R3 (b3 F2 R3 y1)) : kf2 md_X9_add mr_X9_add F2 R3 (KB_X9_add_3 b3 a0 F2 R3 y1) := by
  unfold KB_X9_add_3
  exact (kf2_ite ⟨(g_fr_rf _), (g_fr_rf _)⟩ (kf2_ite (kf2_tr (g_fr_rf _) (g_fr_rf _) (fr_K_X9_add_43 y1 F2 R3 b3 hb3)) (kf2_lt (fun x18 _ => (kf2_lt (fun x20 _ => (kf2_lt (fun R22 zR22 => (kf2_lt (fun x24 _ => (kf2_lt (fun F26 zF26 => (kf2_tr (kf_u (g_fr_rf _) rfl zF26) (kf_r (g_fr_rf _) rfl zR22) (fr_K_X9_add_43 y1 F26 R22 b3 hb3))))))))))))))
theorem fr_K_X9_add_3 (a0 : Int32) : ∀ (n : Nat) (F2 : Nat → Int32) (R3 : Nat → Nat → Int32) (y1 : Int32), kf2 md_X9_add mr_X9_add F2 R3 (K_X9_add_3 a0 n F2 R3 y1)
  | 0, F2, R3, y1 => ⟨g_fr_rf _, g_fr_rf _⟩
  | n + 1, F2, R3, y1 => fr_KB_X9_add_3 a0 F2 R3 y1 (K_X9_add_3 a0 n) (fr_K_X9_add_3 a0 n)
theorem fr_sp_X9_add (F : Nat → Int32) (R : Nat → Nat → Int32) (a0 : Int32) : kf2 md_X9_add mr_X9_add F R (sp_X9_add F R a0) := by
  unfold sp_X9_add
  exact (kf2_tr (g_fr_rf _) (g_fr_rf _) (fr_K_X9_add_3 a0 8589934592 F R 24))
theorem fr_sp_X10_feed (F : Nat → Int32) (R : Nat → Nat → Int32) (a0 : Int32) (a1 : Int32) (a2 : Int32) (a3 : Int32) (a4 : Int32) : kf3 md_X10_feed mr_X10_feed F R (sp_X10_feed F R a0 a1 a2 a3 a4) := by
  unfold sp_X10_feed
  exact (kf3_lt (fun x1 _ => (kf3_ite (kf3_lt2 (fun F11 R12 zF11 => (kf3_lt2 (fun F18 R19 zF18 => (kf3_lt2 (fun F25 R26 zF25 => (kf3_lt2 (fun F32 R33 zF32 => (kf3_lt2 (fun F39 R40 zF39 => ⟨(kf2_F (kf2_F (kf2_F (kf2_F (kf2_F (g_fr_rf _) (fr_sp_X9_add F R a0) zF11 rfl) (fr_sp_X9_add F11 R12 a1) zF18 rfl) (fr_sp_X9_add F18 R19 a2) zF25 rfl) (fr_sp_X9_add F25 R26 a3) zF32 rfl) (fr_sp_X9_add F32 R33 a4) zF39 rfl), (kf2_R (kf2_R (kf2_R (kf2_R (kf2_R (g_fr_rf _) (fr_sp_X9_add F R a0) zF11 rfl) (fr_sp_X9_add F11 R12 a1) zF18 rfl) (fr_sp_X9_add F18 R19 a2) zF25 rfl) (fr_sp_X9_add F25 R26 a3) zF32 rfl) (fr_sp_X9_add F32 R33 a4) zF39 rfl)⟩)))))))))) ⟨(g_fr_rf _), (g_fr_rf _)⟩)))
theorem fr_sp_X10_seed (F : Nat → Int32) (R : Nat → Nat → Int32) (a0 : Int32) : kf3 md_X10_seed mr_X10_seed F R (sp_X10_seed F R a0) := by
  unfold sp_X10_seed
  exact (kf3_lt (fun r1 _ => (kf3_ite ⟨(g_fr_rf _), (g_fr_rf _)⟩ (kf3_lt (fun F9 zF9 => ⟨(kf_u (g_fr_rf _) rfl zF9), (g_fr_rf _)⟩)))))
theorem fr_K_X5_add_13_42 (F2 : Nat → Int32) (R3 : Nat → Nat → Int32) : kf2 md_X5_add_13 mr_X5_add_13 F2 R3 (K_X5_add_13_42 F2 R3) := by
  unfold K_X5_add_13_42
  exact ⟨(g_fr_rf _), (g_fr_rf _)⟩
theorem fr_KB_X5_add_13_2 (a0 : Int32) (a1 : Int32) (F2 : Nat → Int32) (R3 : Nat → Nat → Int32) (y1 : Int32) (b2 : (Nat → Int32) → (Nat → Nat → Int32) → (Int32) → (Nat → Int32) × (Nat → Nat → Int32)) (hb2 : ∀ (F2 : Nat → Int32) (R3 : Nat → Nat → Int32) (y1 : Int32), kf2 md_X5_add_13 mr_X5_add_13 F2 R3 (b2 F2 R3 y1)) : kf2 md_X5_add_13 mr_X5_add_13 F2 R3 (KB_X5_add_13_2 b2 a0 a1 F2 R3 y1) := by
  unfold KB_X5_add_13_2
  exact (kf2_ite (kf2_tr (g_fr_rf _) (g_fr_rf _) (fr_K_X5_add_13_42 F2 R3)) (kf2_ite (kf2_tr (g_fr_rf _) (g_fr_rf _) (fr_K_X5_add_13_42 F2 R3)) (kf2_lt (fun R14 zR14 => (kf2_lt (fun x16 _ => (kf2_lt (fun F18 zF18 => (kf2_lt (fun x20 _ => (kf2_tr (kf_u (g_fr_rf _) rfl zF18) (kf_r (g_fr_rf _) rfl zR14) (hb2 F18 R14 x20))))))))))))
theorem fr_K_X5_add_13_2 (a0 : Int32) (a1 : Int32) : ∀ (n : Nat) (F2 : Nat → Int32) (R3 : Nat → Nat → Int32) (y1 : Int32), kf2 md_X5_add_13 mr_X5_add_13 F2 R3 (K_X5_add_13_2 a0 a1 n F2 R3 y1)
  | 0, F2, R3, y1 => ⟨g_fr_rf _, g_fr_rf _⟩
  | n + 1, F2, R3, y1 => fr_KB_X5_add_13_2 a0 a1 F2 R3 y1 (K_X5_add_13_2 a0 a1 n) (fr_K_X5_add_13_2 a0 a1 n)
theorem fr_sp_X5_add_13 (F : Nat → Int32) (R : Nat → Nat → Int32) (a0 : Int32) (a1 : Int32) : kf2 md_X5_add_13 mr_X5_add_13 F R (sp_X5_add_13 F R a0 a1) := by
  unfold sp_X5_add_13
  exact (kf2_tr (g_fr_rf _) (g_fr_rf _) (fr_K_X5_add_13_2 a0 a1 8589934592 F R 0))
theorem fr_K_X5_read_13_r9_154 (F5 : Nat → Int32) (R6 : Nat → Nat → Int32) (a1 : Int32) (y3 : Int32) (y4 : Int32) (y32 : Int32) (y36 : Int32) (y37 : Int32) (b20 : (Nat → Int32) → (Nat → Nat → Int32) → (Int32) → (Int32) → Int32 × (Nat → Int32) × (Nat → Nat → Int32)) (hb20 : ∀ (F5 : Nat → Int32) (R6 : Nat → Nat → Int32) (y3 : Int32) (y4 : Int32), kf3 md_X5_read_13_r9 mr_X5_read_13_r9 F5 R6 (b20 F5 R6 y3 y4)) : kf3 md_X5_read_13_r9 mr_X5_read_13_r9 F5 R6 (K_X5_read_13_r9_154 b20 F5 R6 a1 y3 y4 y32 y36 y37) := by
  unfold K_X5_read_13_r9_154
  exact (kf3_lt (fun x38 _ => (kf3_ite (kf3_lt2 (fun F47 R48 zF47 => (kf3_ite (kf3_lt (fun r54 _ => (kf3_ite (kf3_lt (fun x62 _ => (kf3_lt (fun x64 _ => (kf3_tr (kf2_F (g_fr_rf _) (fr_sp_X5_add_13 F5 R6 y32 y37) zF47 rfl) (kf2_R (g_fr_rf _) (fr_sp_X5_add_13 F5 R6 y32 y37) zF47 rfl) (hb20 F47 R48 x62 x64)))))) (kf3_lt (fun r67 _ => ⟨(kf2_F (g_fr_rf _) (fr_sp_X5_add_13 F5 R6 y32 y37) zF47 rfl), (kf2_R (g_fr_rf _) (fr_sp_X5_add_13 F5 R6 y32 y37) zF47 rfl)⟩))))) ⟨(kf2_F (g_fr_rf _) (fr_sp_X5_add_13 F5 R6 y32 y37) zF47 rfl), (kf2_R (g_fr_rf _) (fr_sp_X5_add_13 F5 R6 y32 y37) zF47 rfl)⟩))) (kf3_lt (fun r75 _ => ⟨(g_fr_rf _), (g_fr_rf _)⟩)))))
theorem fr_K_X5_read_13_r9_95 (F5 : Nat → Int32) (R6 : Nat → Nat → Int32) (a1 : Int32) (y3 : Int32) (y4 : Int32) (y31 : Int32) (y32 : Int32) (b20 : (Nat → Int32) → (Nat → Nat → Int32) → (Int32) → (Int32) → Int32 × (Nat → Int32) × (Nat → Nat → Int32)) (hb20 : ∀ (F5 : Nat → Int32) (R6 : Nat → Nat → Int32) (y3 : Int32) (y4 : Int32), kf3 md_X5_read_13_r9 mr_X5_read_13_r9 F5 R6 (b20 F5 R6 y3 y4)) : kf3 md_X5_read_13_r9 mr_X5_read_13_r9 F5 R6 (K_X5_read_13_r9_95 b20 F5 R6 a1 y3 y4 y31 y32) := by
  unfold K_X5_read_13_r9_95
  exact (kf3_ite (kf3_ite (kf3_tr (g_fr_rf _) (g_fr_rf _) (fr_K_X5_read_13_r9_154 F5 R6 a1 y3 y4 y32 y31 1 b20 hb20)) (kf3_lt (fun r85 _ => (kf3_ite (kf3_lt (fun x94 _ => (kf3_lt (fun r96 _ => (kf3_ite (kf3_lt (fun x104 _ => (kf3_tr (g_fr_rf _) (g_fr_rf _) (fr_K_X5_read_13_r9_154 F5 R6 a1 y3 y4 y32 x104 r96 b20 hb20)))) (kf3_lt (fun x108 _ => (kf3_lt (fun r110 _ => ⟨(g_fr_rf _), (g_fr_rf _)⟩))))))))) (kf3_tr (g_fr_rf _) (g_fr_rf _) (fr_K_X5_read_13_r9_154 F5 R6 a1 y3 y4 y32 y31 1 b20 hb20)))))) (kf3_lt (fun r117 _ => ⟨(g_fr_rf _), (g_fr_rf _)⟩)))
theorem fr_KB_X5_read_13_r9_20 (a1 : Int32) (F5 : Nat → Int32) (R6 : Nat → Nat → Int32) (y3 : Int32) (y4 : Int32) (b20 : (Nat → Int32) → (Nat → Nat → Int32) → (Int32) → (Int32) → Int32 × (Nat → Int32) × (Nat → Nat → Int32)) (hb20 : ∀ (F5 : Nat → Int32) (R6 : Nat → Nat → Int32) (y3 : Int32) (y4 : Int32), kf3 md_X5_read_13_r9 mr_X5_read_13_r9 F5 R6 (b20 F5 R6 y3 y4)) : kf3 md_X5_read_13_r9 mr_X5_read_13_r9 F5 R6 (KB_X5_read_13_r9_20 b20 a1 F5 R6 y3 y4) := by
  unfold KB_X5_read_13_r9_20
  exact (kf3_lt (fun r8 _ => (kf3_ite (kf3_ite (kf3_lt (fun r140 _ => ⟨(g_fr_rf _), (g_fr_rf _)⟩)) (kf3_lt (fun r19 _ => (kf3_lt (fun x24 _ => (kf3_lt (fun r26 _ => (kf3_ite (kf3_tr (g_fr_rf _) (g_fr_rf _) (fr_K_X5_read_13_r9_95 F5 R6 a1 y3 y4 x24 r19 b20 hb20)) (kf3_lt (fun x127 _ => (kf3_lt (fun r129 _ => (kf3_lt (fun x134 _ => (kf3_lt (fun x136 _ => (kf3_tr (g_fr_rf _) (g_fr_rf _) (fr_K_X5_read_13_r9_95 F5 R6 a1 y3 y4 x136 x134 b20 hb20)))))))))))))))))) (kf3_lt (fun r147 _ => ⟨(g_fr_rf _), (g_fr_rf _)⟩)))))
theorem fr_K_X5_read_13_r9_20 (a1 : Int32) : ∀ (n : Nat) (F5 : Nat → Int32) (R6 : Nat → Nat → Int32) (y3 : Int32) (y4 : Int32), kf3 md_X5_read_13_r9 mr_X5_read_13_r9 F5 R6 (K_X5_read_13_r9_20 a1 n F5 R6 y3 y4)
  | 0, F5, R6, y3, y4 => ⟨g_fr_rf _, g_fr_rf _⟩
  | n + 1, F5, R6, y3, y4 => fr_KB_X5_read_13_r9_20 a1 F5 R6 y3 y4 (K_X5_read_13_r9_20 a1 n) (fr_K_X5_read_13_r9_20 a1 n)
theorem fr_sp_X5_read_13_r9 (F : Nat → Int32) (R : Nat → Nat → Int32) (a1 : Int32) : kf3 md_X5_read_13_r9 mr_X5_read_13_r9 F R (sp_X5_read_13_r9 F R a1) := by
  unfold sp_X5_read_13_r9
  exact (kf3_lt (fun F1 zF1 => (kf3_tr (kf_u (g_fr_rf _) rfl zF1) (g_fr_rf _) (fr_K_X5_read_13_r9_20 a1 8589934592 F1 R 0 0))))
theorem fr_sp_X5_copy_11_r13 (F : Nat → Int32) (R : Nat → Nat → Int32) : kf2 md_X5_copy_11_r13 mr_X5_copy_11_r13 F R (sp_X5_copy_11_r13 F R) := by
  unfold sp_X5_copy_11_r13
  exact (kf2_lt (fun F1 zF1 => (kf2_lt (fun R3 zR3 => ⟨(kf_u (g_fr_rf _) rfl zF1), (kf_r (g_fr_rf _) rfl zR3)⟩))))
theorem fr_K_X10_pull_21 (F : Nat → Int32) (R : Nat → Nat → Int32) : kf3 md_X10_pull mr_X10_pull F R (K_X10_pull_21 F R) := by
  unfold K_X10_pull_21
  exact ⟨(g_fr_rf _), (g_fr_rf _)⟩
theorem fr_sp_X10_pull (F : Nat → Int32) (R : Nat → Nat → Int32) (a0 : Int32) : kf3 md_X10_pull mr_X10_pull F R (sp_X10_pull F R a0) := by
  unfold sp_X10_pull
  exact (kf3_lt (fun r1 _ => (kf3_ite (kf3_tr (g_fr_rf _) (g_fr_rf _) (fr_K_X10_pull_21 F R)) (kf3_ite (kf3_lt3 (fun r14 F18 R19 zF18 => (kf3_lt (fun F21 zF21 => (kf3_ite (kf3_lt2 (fun F30 R31 zF30 => ⟨(kf2_F (kf_u (kf3_F (g_fr_rf _) (fr_sp_X5_read_13_r9 F R a0) zF18 rfl) rfl zF21) (fr_sp_X5_copy_11_r13 F21 R19) zF30 rfl), (kf2_R (kf3_R (g_fr_rf _) (fr_sp_X5_read_13_r9 F R a0) zF18 rfl) (fr_sp_X5_copy_11_r13 F21 R19) zF30 rfl)⟩)) ⟨(kf_u (kf3_F (g_fr_rf _) (fr_sp_X5_read_13_r9 F R a0) zF18 rfl) rfl zF21), (kf3_R (g_fr_rf _) (fr_sp_X5_read_13_r9 F R a0) zF18 rfl)⟩))))) (kf3_tr (g_fr_rf _) (g_fr_rf _) (fr_K_X10_pull_21 F R))))))
theorem fr_K_X10_check_23 (F : Nat → Int32) (R : Nat → Nat → Int32) : kf3 md_X10_check mr_X10_check F R (K_X10_check_23 F R) := by
  unfold K_X10_check_23
  exact ⟨(g_fr_rf _), (g_fr_rf _)⟩
theorem fr_K_X10_check_65 (F15 : Nat → Int32) (R : Nat → Nat → Int32) (y17 : Int32) (y28 : Int32) (b36 : (Int32) → Int32 × (Nat → Int32) × (Nat → Nat → Int32)) (hb36 : ∀ (y17 : Int32), kf3 md_X10_check mr_X10_check F15 R (b36 y17)) : kf3 md_X10_check mr_X10_check F15 R (K_X10_check_65 b36 F15 R y17 y28) := by
  unfold K_X10_check_65
  exact (kf3_lt (fun r29 _ => (kf3_ite (kf3_lt (fun x36 _ => (kf3_tr (g_fr_rf _) (g_fr_rf _) (hb36 x36)))) ⟨(g_fr_rf _), (g_fr_rf _)⟩)))
theorem fr_KB_X10_check_36 (F15 : Nat → Int32) (R : Nat → Nat → Int32) (a0 : Int32) (y17 : Int32) (b36 : (Int32) → Int32 × (Nat → Int32) × (Nat → Nat → Int32)) (hb36 : ∀ (y17 : Int32), kf3 md_X10_check mr_X10_check F15 R (b36 y17)) : kf3 md_X10_check mr_X10_check F15 R (KB_X10_check_36 b36 F15 R a0 y17) := by
  unfold KB_X10_check_36
  exact (kf3_ite ⟨(g_fr_rf _), (g_fr_rf _)⟩ (kf3_lt (fun r23 _ => (kf3_ite (kf3_tr (g_fr_rf _) (g_fr_rf _) (fr_K_X10_check_65 F15 R y17 0 b36 hb36)) (kf3_lt (fun r44 _ => (kf3_tr (g_fr_rf _) (g_fr_rf _) (fr_K_X10_check_65 F15 R y17 r44 b36 hb36))))))))
theorem fr_K_X10_check_36 (F15 : Nat → Int32) (R : Nat → Nat → Int32) (a0 : Int32) : ∀ (n : Nat) (y17 : Int32), kf3 md_X10_check mr_X10_check F15 R (K_X10_check_36 F15 R a0 n y17)
  | 0, y17 => ⟨g_fr_rf _, g_fr_rf _⟩
  | n + 1, y17 => fr_KB_X10_check_36 F15 R a0 y17 (K_X10_check_36 F15 R a0 n) (fr_K_X10_check_36 F15 R a0 n)
theorem fr_sp_X10_check (F : Nat → Int32) (R : Nat → Nat → Int32) (a0 : Int32) : kf3 md_X10_check mr_X10_check F R (sp_X10_check F R a0) := by
  unfold sp_X10_check
  exact (kf3_lt (fun r1 _ => (kf3_ite (kf3_tr (g_fr_rf _) (g_fr_rf _) (fr_K_X10_check_23 F R)) (kf3_lt (fun x11 _ => (kf3_ite (kf3_lt (fun F15 zF15 => (kf3_tr (kf_u (g_fr_rf _) rfl zF15) (g_fr_rf _) (fr_K_X10_check_36 F15 R a0 8589934592 0)))) (kf3_tr (g_fr_rf _) (g_fr_rf _) (fr_K_X10_check_23 F R))))))))
theorem fr_sp_X8_copy_3_r1 (F : Nat → Int32) (R : Nat → Nat → Int32) : kf2 md_X8_copy_3_r1 mr_X8_copy_3_r1 F R (sp_X8_copy_3_r1 F R) := by
  unfold sp_X8_copy_3_r1
  exact (kf2_lt (fun F1 zF1 => (kf2_lt (fun F3 zF3 => (kf2_lt (fun F5 zF5 => (kf2_lt (fun F7 zF7 => (kf2_lt (fun F9 zF9 => (kf2_lt (fun R11 zR11 => ⟨(kf_u (kf_u (kf_u (kf_u (kf_u (g_fr_rf _) rfl zF1) rfl zF3) rfl zF5) rfl zF7) rfl zF9), (kf_r (g_fr_rf _) rfl zR11)⟩))))))))))))
theorem fr_sp_X10_keep (F : Nat → Int32) (R : Nat → Nat → Int32) : kf3 md_X10_keep mr_X10_keep F R (sp_X10_keep F R) := by
  unfold sp_X10_keep
  exact (kf3_lt2 (fun F5 R6 zF5 => (kf3_lt (fun F8 zF8 => (kf3_lt (fun r10 _ => ⟨(kf_u (kf2_F (g_fr_rf _) (fr_sp_X8_copy_3_r1 F R) zF5 rfl) rfl zF8), (kf2_R (g_fr_rf _) (fr_sp_X8_copy_3_r1 F R) zF5 rfl)⟩))))))
theorem fr_sp_X8_copy_1_r3 (F : Nat → Int32) (R : Nat → Nat → Int32) : kf2 md_X8_copy_1_r3 mr_X8_copy_1_r3 F R (sp_X8_copy_1_r3 F R) := by
  unfold sp_X8_copy_1_r3
  exact (kf2_lt (fun F1 zF1 => (kf2_lt (fun F3 zF3 => (kf2_lt (fun F5 zF5 => (kf2_lt (fun F7 zF7 => (kf2_lt (fun F9 zF9 => (kf2_lt (fun R11 zR11 => ⟨(kf_u (kf_u (kf_u (kf_u (kf_u (g_fr_rf _) rfl zF1) rfl zF3) rfl zF5) rfl zF7) rfl zF9), (kf_r (g_fr_rf _) rfl zR11)⟩))))))))))))
theorem fr_sp_X10_undo (F : Nat → Int32) (R : Nat → Nat → Int32) : kf3 md_X10_undo mr_X10_undo F R (sp_X10_undo F R) := by
  unfold sp_X10_undo
  exact (kf3_ite ⟨(g_fr_rf _), (g_fr_rf _)⟩ (kf3_lt2 (fun F8 R9 zF8 => ⟨(kf2_F (g_fr_rf _) (fr_sp_X8_copy_1_r3 F R) zF8 rfl), (kf2_R (g_fr_rf _) (fr_sp_X8_copy_1_r3 F R) zF8 rfl)⟩)))
theorem fr_sp_X1_draw (F : Nat → Int32) (R : Nat → Nat → Int32) (a0 : Int32) : kf3 md_X1_draw mr_X1_draw F R (sp_X1_draw F R a0) := by
  unfold sp_X1_draw
  exact (kf3_ite (kf3_ite (kf3_lt (fun x8 _ => (kf3_lt (fun x10 _ => (kf3_lt (fun F12 zF12 => ⟨(kf_u (g_fr_rf _) rfl zF12), (g_fr_rf _)⟩)))))) ⟨(g_fr_rf _), (g_fr_rf _)⟩) (kf3_lt (fun x16 _ => (kf3_lt (fun x18 _ => (kf3_lt (fun x20 _ => (kf3_lt (fun F22 zF22 => (kf3_lt (fun x24 _ => ⟨(kf_u (g_fr_rf _) rfl zF22), (g_fr_rf _)⟩)))))))))))
theorem fr_sp_X1_drawFrom (F : Nat → Int32) (R : Nat → Nat → Int32) (a0 : Int32) : kf2 md_X1_drawFrom mr_X1_drawFrom F R (sp_X1_drawFrom F R a0) := by
  unfold sp_X1_drawFrom
  exact (kf2_lt (fun F1 zF1 => (kf2_lt (fun F3 zF3 => ⟨(kf_u (kf_u (g_fr_rf _) rfl zF1) rfl zF3), (g_fr_rf _)⟩))))
theorem fr_sp_X1_drawTold (F : Nat → Int32) (R : Nat → Nat → Int32) (a0 : Int32) (a1 : Int32) : kf2 md_X1_drawTold mr_X1_drawTold F R (sp_X1_drawTold F R a0 a1) := by
  unfold sp_X1_drawTold
  exact (kf2_lt (fun F1 zF1 => (kf2_lt (fun F3 zF3 => (kf2_lt (fun F5 zF5 => ⟨(kf_u (kf_u (kf_u (g_fr_rf _) rfl zF1) rfl zF3) rfl zF5), (g_fr_rf _)⟩))))))
theorem fr_sp_X1_holdStill (F : Nat → Int32) (R : Nat → Nat → Int32) : kf2 md_X1_holdStill mr_X1_holdStill F R (sp_X1_holdStill F R) := by
  unfold sp_X1_holdStill
  exact (kf2_lt (fun F1 zF1 => (kf2_lt (fun F3 zF3 => ⟨(kf_u (kf_u (g_fr_rf _) rfl zF1) rfl zF3), (g_fr_rf _)⟩))))
theorem fr_KB_X4_begin_r5_46 (F : Nat → Int32) (R7 : Nat → Nat → Int32) (y6 : Int32) (b46 : (Nat → Nat → Int32) → (Int32) → (Nat → Int32) × (Nat → Nat → Int32)) (hb46 : ∀ (R7 : Nat → Nat → Int32) (y6 : Int32), kf2 md_X4_begin_r5 mr_X4_begin_r5 F R7 (b46 R7 y6)) : kf2 md_X4_begin_r5 mr_X4_begin_r5 F R7 (KB_X4_begin_r5_46 b46 F R7 y6) := by
  unfold KB_X4_begin_r5_46
  exact (kf2_ite (kf2_lt (fun F11 zF11 => (kf2_lt (fun F13 zF13 => (kf2_lt (fun F15 zF15 => (kf2_lt (fun F17 zF17 => (kf2_lt (fun F19 zF19 => (kf2_lt (fun F21 zF21 => (kf2_lt (fun F23 zF23 => (kf2_lt (fun F25 zF25 => ⟨(kf_u (kf_u (kf_u (kf_u (kf_u (kf_u (kf_u (kf_u (g_fr_rf _) rfl zF11) rfl zF13) rfl zF15) rfl zF17) rfl zF19) rfl zF21) rfl zF23) rfl zF25), (g_fr_rf _)⟩)))))))))))))))) (kf2_lt (fun R29 zR29 => (kf2_lt (fun x31 _ => (kf2_tr (g_fr_rf _) (kf_r (g_fr_rf _) rfl zR29) (hb46 R29 x31)))))))
theorem fr_K_X4_begin_r5_46 (F : Nat → Int32) : ∀ (n : Nat) (R7 : Nat → Nat → Int32) (y6 : Int32), kf2 md_X4_begin_r5 mr_X4_begin_r5 F R7 (K_X4_begin_r5_46 F n R7 y6)
  | 0, R7, y6 => ⟨g_fr_rf _, g_fr_rf _⟩
  | n + 1, R7, y6 => fr_KB_X4_begin_r5_46 F R7 y6 (K_X4_begin_r5_46 F n) (fr_K_X4_begin_r5_46 F n)
theorem fr_KB_X4_begin_r5_7 (F : Nat → Int32) (R2 : Nat → Nat → Int32) (y1 : Int32) (b7 : (Nat → Nat → Int32) → (Int32) → (Nat → Int32) × (Nat → Nat → Int32)) (hb7 : ∀ (R2 : Nat → Nat → Int32) (y1 : Int32), kf2 md_X4_begin_r5 mr_X4_begin_r5 F R2 (b7 R2 y1)) : kf2 md_X4_begin_r5 mr_X4_begin_r5 F R2 (KB_X4_begin_r5_7 b7 F R2 y1) := by
  unfold KB_X4_begin_r5_7
  exact (kf2_ite (kf2_tr (g_fr_rf _) (g_fr_rf _) (fr_K_X4_begin_r5_46 F 8589934592 R2 0)) (kf2_lt (fun r35 _ => (kf2_lt (fun R40 zR40 => (kf2_lt (fun r42 _ => (kf2_lt (fun R47 zR47 => (kf2_lt (fun x49 _ => (kf2_tr (g_fr_rf _) (kf_r (kf_r (g_fr_rf _) rfl zR40) rfl zR47) (hb7 R47 x49)))))))))))))
theorem fr_K_X4_begin_r5_7 (F : Nat → Int32) : ∀ (n : Nat) (R2 : Nat → Nat → Int32) (y1 : Int32), kf2 md_X4_begin_r5 mr_X4_begin_r5 F R2 (K_X4_begin_r5_7 F n R2 y1)
  | 0, R2, y1 => ⟨g_fr_rf _, g_fr_rf _⟩
  | n + 1, R2, y1 => fr_KB_X4_begin_r5_7 F R2 y1 (K_X4_begin_r5_7 F n) (fr_K_X4_begin_r5_7 F n)
theorem fr_sp_X4_begin_r5 (F : Nat → Int32) (R : Nat → Nat → Int32) : kf2 md_X4_begin_r5 mr_X4_begin_r5 F R (sp_X4_begin_r5 F R) := by
  unfold sp_X4_begin_r5
  exact (kf2_tr (g_fr_rf _) (g_fr_rf _) (fr_K_X4_begin_r5_7 F 8589934592 R 0))
theorem fr_K_X4_lead_34 (F : Nat → Int32) (R5 : Nat → Nat → Int32) : kf2 md_X4_lead mr_X4_lead F R5 (K_X4_lead_34 F R5) := by
  unfold K_X4_lead_34
  exact ⟨(g_fr_rf _), (g_fr_rf _)⟩
theorem fr_sp_X4_lead (F : Nat → Int32) (R : Nat → Nat → Int32) (a0 : Int32) (a1 : Int32) (a2 : Int32) : kf2 md_X4_lead mr_X4_lead F R (sp_X4_lead F R a0 a1 a2) := by
  unfold sp_X4_lead
  exact (kf2_lt (fun r1 _ => (kf2_ite (kf2_tr (g_fr_rf _) (g_fr_rf _) (fr_K_X4_lead_34 F R)) (kf2_lt (fun r12 _ => (kf2_ite (kf2_tr (g_fr_rf _) (g_fr_rf _) (fr_K_X4_lead_34 F R)) (kf2_lt (fun x22 _ => (kf2_lt (fun x24 _ => (kf2_lt (fun x26 _ => (kf2_lt (fun x28 _ => (kf2_lt (fun R30 zR30 => (kf2_tr (g_fr_rf _) (kf_r (g_fr_rf _) rfl zR30) (fr_K_X4_lead_34 F R30))))))))))))))))))
theorem fr_K_X4_leave_r1_80 (y1 : Int32) (F16 : Nat → Int32) (R17 : Nat → Nat → Int32) (b7 : (Nat → Int32) → (Nat → Nat → Int32) → (Int32) → (Nat → Int32) × (Nat → Nat → Int32)) (hb7 : ∀ (F2 : Nat → Int32) (R3 : Nat → Nat → Int32) (y1 : Int32), kf2 md_X4_leave_r1 mr_X4_leave_r1 F2 R3 (b7 F2 R3 y1)) : kf2 md_X4_leave_r1 mr_X4_leave_r1 F16 R17 (K_X4_leave_r1_80 b7 y1 F16 R17) := by
  unfold K_X4_leave_r1_80
  exact (kf2_lt (fun x18 _ => (kf2_tr (g_fr_rf _) (g_fr_rf _) (hb7 F16 R17 x18))))
theorem fr_KB_X4_leave_r1_7 (F : Nat → Int32) (F2 : Nat → Int32) (R3 : Nat → Nat → Int32) (y1 : Int32) (b7 : (Nat → Int32) → (Nat → Nat → Int32) → (Int32) → (Nat → Int32) × (Nat → Nat → Int32)) (hb7 : ∀ (F2 : Nat → Int32) (R3 : Nat → Nat → Int32) (y1 : Int32), kf2 md_X4_leave_r1 mr_X4_leave_r1 F2 R3 (b7 F2 R3 y1)) : kf2 md_X4_leave_r1 mr_X4_leave_r1 F2 R3 (KB_X4_leave_r1_7 b7 F F2 R3 y1) := by
  unfold KB_X4_leave_r1_7
  exact (kf2_ite (kf2_lt (fun F7 zF7 => ⟨(kf_u (g_fr_rf _) rfl zF7), (g_fr_rf _)⟩)) (kf2_lt (fun r11 _ => (kf2_ite (kf2_lt (fun r23 _ => (kf2_ite (kf2_tr (g_fr_rf _) (g_fr_rf _) (fr_K_X4_leave_r1_80 y1 F2 R3 b7 hb7)) (kf2_lt (fun x33 _ => (kf2_lt2 (fun F39 R40 zF39 => (kf2_lt (fun x42 _ => (kf2_lt2 (fun F48 R49 zF48 => (kf2_lt (fun x51 _ => (kf2_lt (fun x53 _ => (kf2_ite (kf2_tr (kf2_F (kf2_F (g_fr_rf _) (fr_sp_X8_change_1 F2 R3 y1 1 x33) zF39 rfl) (fr_sp_X8_change_1 F39 R40 y1 6 x42) zF48 rfl) (kf2_R (kf2_R (g_fr_rf _) (fr_sp_X8_change_1 F2 R3 y1 1 x33) zF39 rfl) (fr_sp_X8_change_1 F39 R40 y1 6 x42) zF48 rfl) (fr_K_X4_leave_r1_80 y1 F48 R49 b7 hb7)) (kf2_lt2 (fun F63 R64 zF63 => (kf2_tr (kf2_F (kf2_F (kf2_F (g_fr_rf _) (fr_sp_X8_change_1 F2 R3 y1 1 x33) zF39 rfl) (fr_sp_X8_change_1 F39 R40 y1 6 x42) zF48 rfl) (fr_sp_X8_change_1 F48 R49 y1 3 1) zF63 rfl) (kf2_R (kf2_R (kf2_R (g_fr_rf _) (fr_sp_X8_change_1 F2 R3 y1 1 x33) zF39 rfl) (fr_sp_X8_change_1 F39 R40 y1 6 x42) zF48 rfl) (fr_sp_X8_change_1 F48 R49 y1 3 1) zF63 rfl) (fr_K_X4_leave_r1_80 y1 F63 R64 b7 hb7)))))))))))))))))))) (kf2_lt2 (fun F72 R73 zF72 => (kf2_tr (kf2_F (g_fr_rf _) (fr_sp_X8_take_1 F2 R3 y1) zF72 rfl) (kf2_R (g_fr_rf _) (fr_sp_X8_take_1 F2 R3 y1) zF72 rfl) (fr_K_X4_leave_r1_80 y1 F72 R73 b7 hb7))))))))
theorem fr_K_X4_leave_r1_7 (F : Nat → Int32) : ∀ (n : Nat) (F2 : Nat → Int32) (R3 : Nat → Nat → Int32) (y1 : Int32), kf2 md_X4_leave_r1 mr_X4_leave_r1 F2 R3 (K_X4_leave_r1_7 F n F2 R3 y1)
  | 0, F2, R3, y1 => ⟨g_fr_rf _, g_fr_rf _⟩
  | n + 1, F2, R3, y1 => fr_KB_X4_leave_r1_7 F F2 R3 y1 (K_X4_leave_r1_7 F n) (fr_K_X4_leave_r1_7 F n)
theorem fr_sp_X4_leave_r1 (F : Nat → Int32) (R : Nat → Nat → Int32) : kf2 md_X4_leave_r1 mr_X4_leave_r1 F R (sp_X4_leave_r1 F R) := by
  unfold sp_X4_leave_r1
  exact (kf2_tr (g_fr_rf _) (g_fr_rf _) (fr_K_X4_leave_r1_7 F 8589934592 F R 0))
theorem fr_K_X2_reckon_17_298 (F : Nat → Int32) (R3 : Nat → Nat → Int32) (y4 : Int32) : kf3 md_X2_reckon_17 mr_X2_reckon_17 F R3 (K_X2_reckon_17_298 F R3 y4) := by
  unfold K_X2_reckon_17_298
  exact ⟨(g_fr_rf _), (g_fr_rf _)⟩
theorem fr_K_X2_reckon_17_282 (F : Nat → Int32) (R3 : Nat → Nat → Int32) (y1 : Int32) : kf3 md_X2_reckon_17 mr_X2_reckon_17 F R3 (K_X2_reckon_17_282 F R3 y1) := by
  unfold K_X2_reckon_17_282
  exact (kf3_ite (kf3_tr (g_fr_rf _) (g_fr_rf _) (fr_K_X2_reckon_17_298 F R3 0)) (kf3_lt (fun x10 _ => (kf3_lt (fun x12 _ => (kf3_tr (g_fr_rf _) (g_fr_rf _) (fr_K_X2_reckon_17_298 F R3 x12)))))))
theorem fr_K_X2_reckon_17_276 (F : Nat → Int32) (R37 : Nat → Nat → Int32) (y35 : Int32) (y36 : Int32) (b4 : (Nat → Nat → Int32) → (Int32) → (Int32) → Int32 × (Nat → Int32) × (Nat → Nat → Int32)) (hb4 : ∀ (R3 : Nat → Nat → Int32) (y1 : Int32) (y2 : Int32), kf3 md_X2_reckon_17 mr_X2_reckon_17 F R3 (b4 R3 y1 y2)) : kf3 md_X2_reckon_17 mr_X2_reckon_17 F R37 (K_X2_reckon_17_276 b4 R37 y35 y36) := by
  unfold K_X2_reckon_17_276
  exact (kf3_lt (fun x38 _ => (kf3_tr (g_fr_rf _) (g_fr_rf _) (hb4 R37 y35 x38))))
theorem fr_K_X2_reckon_17_90 (F : Nat → Int32) (R3 : Nat → Nat → Int32) (y1 : Int32) (y2 : Int32) (y43 : Int32) (b4 : (Nat → Nat → Int32) → (Int32) → (Int32) → Int32 × (Nat → Int32) × (Nat → Nat → Int32)) (hb4 : ∀ (R3 : Nat → Nat → Int32) (y1 : Int32) (y2 : Int32), kf3 md_X2_reckon_17 mr_X2_reckon_17 F R3 (b4 R3 y1 y2)) : kf3 md_X2_reckon_17 mr_X2_reckon_17 F R3 (K_X2_reckon_17_90 b4 R3 y1 y2 y43) := by
  unfold K_X2_reckon_17_90
  exact (kf3_lt (fun R44 zR44 => (kf3_lt (fun x46 _ => (kf3_tr (g_fr_rf _) (kf_r (g_fr_rf _) rfl zR44) (fr_K_X2_reckon_17_276 F R44 x46 y2 b4 hb4))))))
theorem fr_K_X2_reckon_17_60 (F : Nat → Int32) (R3 : Nat → Nat → Int32) (x31 : Int32) (x33 : Int32) (y1 : Int32) (y2 : Int32) (b4 : (Nat → Nat → Int32) → (Int32) → (Int32) → Int32 × (Nat → Int32) × (Nat → Nat → Int32)) (hb4 : ∀ (R3 : Nat → Nat → Int32) (y1 : Int32) (y2 : Int32), kf3 md_X2_reckon_17 mr_X2_reckon_17 F R3 (b4 R3 y1 y2)) : kf3 md_X2_reckon_17 mr_X2_reckon_17 F R3 (K_X2_reckon_17_60 b4 F R3 x31 x33 y1 y2) := by
  unfold K_X2_reckon_17_60
  exact (kf3_ite (kf3_ite (kf3_tr (g_fr_rf _) (g_fr_rf _) (fr_K_X2_reckon_17_90 F R3 y1 y2 x33 b4 hb4)) (kf3_lt (fun r50 _ => (kf3_tr (g_fr_rf _) (g_fr_rf _) (fr_K_X2_reckon_17_90 F R3 y1 y2 r50 b4 hb4))))) ⟨(g_fr_rf _), (g_fr_rf _)⟩)
theorem fr_K_X2_reckon_17_210 (F : Nat → Int32) (R3 : Nat → Nat → Int32) (y77 : Int32) (y78 : Int32) (b4 : (Nat → Nat → Int32) → (Int32) → (Int32) → Int32 × (Nat → Int32) × (Nat → Nat → Int32)) (hb4 : ∀ (R3 : Nat → Nat → Int32) (y1 : Int32) (y2 : Int32), kf3 md_X2_reckon_17 mr_X2_reckon_17 F R3 (b4 R3 y1 y2)) : kf3 md_X2_reckon_17 mr_X2_reckon_17 F R3 (K_X2_reckon_17_210 b4 R3 y77 y78) := by
  unfold K_X2_reckon_17_210
  exact (kf3_tr (g_fr_rf _) (g_fr_rf _) (fr_K_X2_reckon_17_276 F R3 y78 y77 b4 hb4))
theorem fr_K_X2_reckon_17_197 (F : Nat → Int32) (R3 : Nat → Nat → Int32) (y1 : Int32) (y76 : Int32) (y77 : Int32) (b4 : (Nat → Nat → Int32) → (Int32) → (Int32) → Int32 × (Nat → Int32) × (Nat → Nat → Int32)) (hb4 : ∀ (R3 : Nat → Nat → Int32) (y1 : Int32) (y2 : Int32), kf3 md_X2_reckon_17 mr_X2_reckon_17 F R3 (b4 R3 y1 y2)) : kf3 md_X2_reckon_17 mr_X2_reckon_17 F R3 (K_X2_reckon_17_197 b4 R3 y1 y76 y77) := by
  unfold K_X2_reckon_17_197
  exact (kf3_ite (kf3_lt (fun x82 _ => (kf3_tr (g_fr_rf _) (g_fr_rf _) (fr_K_X2_reckon_17_210 F R3 y77 x82 b4 hb4)))) (kf3_tr (g_fr_rf _) (g_fr_rf _) (fr_K_X2_reckon_17_210 F R3 y77 y1 b4 hb4)))
theorem fr_K_X2_reckon_17_178 (F : Nat → Int32) (R3 : Nat → Nat → Int32) (x33 : Int32) (y1 : Int32) (y2 : Int32) (y76 : Int32) (b4 : (Nat → Nat → Int32) → (Int32) → (Int32) → Int32 × (Nat → Int32) × (Nat → Nat → Int32)) (hb4 : ∀ (R3 : Nat → Nat → Int32) (y1 : Int32) (y2 : Int32), kf3 md_X2_reckon_17 mr_X2_reckon_17 F R3 (b4 R3 y1 y2)) : kf3 md_X2_reckon_17 mr_X2_reckon_17 F R3 (K_X2_reckon_17_178 b4 R3 x33 y1 y2 y76) := by
  unfold K_X2_reckon_17_178
  exact (kf3_ite (kf3_tr (g_fr_rf _) (g_fr_rf _) (fr_K_X2_reckon_17_197 F R3 y1 y76 y2 b4 hb4)) (kf3_lt (fun x91 _ => (kf3_lt (fun x93 _ => (kf3_tr (g_fr_rf _) (g_fr_rf _) (fr_K_X2_reckon_17_197 F R3 y1 y76 x93 b4 hb4)))))))
theorem fr_K_X2_reckon_17_170 (F : Nat → Int32) (R3 : Nat → Nat → Int32) (x33 : Int32) (y1 : Int32) (y2 : Int32) (y74 : Int32) (y75 : Int32) (b4 : (Nat → Nat → Int32) → (Int32) → (Int32) → Int32 × (Nat → Int32) × (Nat → Nat → Int32)) (hb4 : ∀ (R3 : Nat → Nat → Int32) (y1 : Int32) (y2 : Int32), kf3 md_X2_reckon_17 mr_X2_reckon_17 F R3 (b4 R3 y1 y2)) : kf3 md_X2_reckon_17 mr_X2_reckon_17 F R3 (K_X2_reckon_17_170 b4 R3 x33 y1 y2 y74 y75) := by
  unfold K_X2_reckon_17_170
  exact (kf3_ite (kf3_tr (g_fr_rf _) (g_fr_rf _) (fr_K_X2_reckon_17_178 F R3 x33 y1 y2 1 b4 hb4)) (kf3_tr (g_fr_rf _) (g_fr_rf _) (fr_K_X2_reckon_17_178 F R3 x33 y1 y2 0 b4 hb4)))
theorem fr_K_X2_reckon_17_159 (F : Nat → Int32) (R3 : Nat → Nat → Int32) (x31 : Int32) (x33 : Int32) (y1 : Int32) (y2 : Int32) (y74 : Int32) (b4 : (Nat → Nat → Int32) → (Int32) → (Int32) → Int32 × (Nat → Int32) × (Nat → Nat → Int32)) (hb4 : ∀ (R3 : Nat → Nat → Int32) (y1 : Int32) (y2 : Int32), kf3 md_X2_reckon_17 mr_X2_reckon_17 F R3 (b4 R3 y1 y2)) : kf3 md_X2_reckon_17 mr_X2_reckon_17 F R3 (K_X2_reckon_17_159 b4 R3 x31 x33 y1 y2 y74) := by
  unfold K_X2_reckon_17_159
  exact (kf3_ite (kf3_tr (g_fr_rf _) (g_fr_rf _) (fr_K_X2_reckon_17_170 F R3 x33 y1 y2 y74 1 b4 hb4)) (kf3_tr (g_fr_rf _) (g_fr_rf _) (fr_K_X2_reckon_17_170 F R3 x33 y1 y2 y74 0 b4 hb4)))
theorem fr_K_X2_reckon_17_143 (F : Nat → Int32) (R3 : Nat → Nat → Int32) (x31 : Int32) (x33 : Int32) (y1 : Int32) (y2 : Int32) (b4 : (Nat → Nat → Int32) → (Int32) → (Int32) → Int32 × (Nat → Int32) × (Nat → Nat → Int32)) (hb4 : ∀ (R3 : Nat → Nat → Int32) (y1 : Int32) (y2 : Int32), kf3 md_X2_reckon_17 mr_X2_reckon_17 F R3 (b4 R3 y1 y2)) : kf3 md_X2_reckon_17 mr_X2_reckon_17 F R3 (K_X2_reckon_17_143 b4 R3 x31 x33 y1 y2) := by
  unfold K_X2_reckon_17_143
  exact (kf3_lt (fun x70 _ => (kf3_lt (fun x72 _ => (kf3_ite (kf3_tr (g_fr_rf _) (g_fr_rf _) (fr_K_X2_reckon_17_159 F R3 x31 x33 y1 y2 0 b4 hb4)) (kf3_tr (g_fr_rf _) (g_fr_rf _) (fr_K_X2_reckon_17_159 F R3 x31 x33 y1 y2 1 b4 hb4)))))))
theorem fr_K_X2_reckon_17_244 (F : Nat → Int32) (R3 : Nat → Nat → Int32) : kf3 md_X2_reckon_17 mr_X2_reckon_17 F R3 (K_X2_reckon_17_244 F R3) := by
  unfold K_X2_reckon_17_244
  exact ⟨(g_fr_rf _), (g_fr_rf _)⟩
theorem fr_K_X2_reckon_17_246 (F : Nat → Int32) (R3 : Nat → Nat → Int32) (x31 : Int32) (y1 : Int32) (y2 : Int32) (b4 : (Nat → Nat → Int32) → (Int32) → (Int32) → Int32 × (Nat → Int32) × (Nat → Nat → Int32)) (hb4 : ∀ (R3 : Nat → Nat → Int32) (y1 : Int32) (y2 : Int32), kf3 md_X2_reckon_17 mr_X2_reckon_17 F R3 (b4 R3 y1 y2)) : kf3 md_X2_reckon_17 mr_X2_reckon_17 F R3 (K_X2_reckon_17_246 b4 F R3 x31 y1 y2) := by
  unfold K_X2_reckon_17_246
  exact (kf3_lt (fun x121 _ => (kf3_lt (fun x123 _ => (kf3_lt (fun x125 _ => (kf3_lt (fun x127 _ => (kf3_lt (fun x129 _ => (kf3_lt (fun r131 _ => (kf3_lt (fun R136 zR136 => (kf3_tr (g_fr_rf _) (kf_r (g_fr_rf _) rfl zR136) (fr_K_X2_reckon_17_276 F R136 x121 y2 b4 hb4))))))))))))))))
theorem fr_KB_X2_reckon_17_4 (F : Nat → Int32) (R3 : Nat → Nat → Int32) (y1 : Int32) (y2 : Int32) (b4 : (Nat → Nat → Int32) → (Int32) → (Int32) → Int32 × (Nat → Int32) × (Nat → Nat → Int32)) (hb4 : ∀ (R3 : Nat → Nat → Int32) (y1 : Int32) (y2 : Int32), kf3 md_X2_reckon_17 mr_X2_reckon_17 F R3 (b4 R3 y1 y2)) : kf3 md_X2_reckon_17 mr_X2_reckon_17 F R3 (KB_X2_reckon_17_4 b4 F R3 y1 y2) := by
  unfold KB_X2_reckon_17_4
  exact (kf3_ite (kf3_tr (g_fr_rf _) (g_fr_rf _) (fr_K_X2_reckon_17_282 F R3 y1)) (kf3_ite (kf3_tr (g_fr_rf _) (g_fr_rf _) (fr_K_X2_reckon_17_282 F R3 y1)) (kf3_lt (fun x25 _ => (kf3_ite (kf3_tr (g_fr_rf _) (g_fr_rf _) (fr_K_X2_reckon_17_282 F R3 y1)) (kf3_lt (fun x31 _ => (kf3_lt (fun x33 _ => (kf3_ite (kf3_tr (g_fr_rf _) (g_fr_rf _) (fr_K_X2_reckon_17_60 F R3 x31 x33 y1 y2 b4 hb4)) (kf3_ite (kf3_tr (g_fr_rf _) (g_fr_rf _) (fr_K_X2_reckon_17_60 F R3 x31 x33 y1 y2 b4 hb4)) (kf3_ite (kf3_ite (kf3_lt (fun x154 _ => (kf3_lt (fun x156 _ => (kf3_lt (fun x158 _ => (kf3_lt (fun x160 _ => (kf3_lt (fun R162 zR162 => (kf3_tr (g_fr_rf _) (kf_r (g_fr_rf _) rfl zR162) (fr_K_X2_reckon_17_276 F R162 y1 y2 b4 hb4)))))))))))) (kf3_ite (kf3_tr (g_fr_rf _) (g_fr_rf _) (fr_K_X2_reckon_17_143 F R3 x31 x33 y1 y2 b4 hb4)) (kf3_ite (kf3_tr (g_fr_rf _) (g_fr_rf _) (fr_K_X2_reckon_17_143 F R3 x31 x33 y1 y2 b4 hb4)) (kf3_ite (kf3_tr (g_fr_rf _) (g_fr_rf _) (fr_K_X2_reckon_17_244 F R3)) (kf3_lt (fun x117 _ => (kf3_lt (fun x119 _ => (kf3_ite (kf3_ite (kf3_tr (g_fr_rf _) (g_fr_rf _) (fr_K_X2_reckon_17_244 F R3)) (kf3_ite (kf3_tr (g_fr_rf _) (g_fr_rf _) (fr_K_X2_reckon_17_244 F R3)) (kf3_tr (g_fr_rf _) (g_fr_rf _) (fr_K_X2_reckon_17_246 F R3 x31 y1 y2 b4 hb4)))) (kf3_tr (g_fr_rf _) (g_fr_rf _) (fr_K_X2_reckon_17_246 F R3 x31 y1 y2 b4 hb4))))))))))) ⟨(g_fr_rf _), (g_fr_rf _)⟩))))))))))))
theorem fr_K_X2_reckon_17_4 (F : Nat → Int32) : ∀ (n : Nat) (R3 : Nat → Nat → Int32) (y1 : Int32) (y2 : Int32), kf3 md_X2_reckon_17 mr_X2_reckon_17 F R3 (K_X2_reckon_17_4 F n R3 y1 y2)
  | 0, R3, y1, y2 => ⟨g_fr_rf _, g_fr_rf _⟩
  | n + 1, R3, y1, y2 => fr_KB_X2_reckon_17_4 F R3 y1 y2 (K_X2_reckon_17_4 F n) (fr_K_X2_reckon_17_4 F n)
theorem fr_sp_X2_reckon_17 (F : Nat → Int32) (R : Nat → Nat → Int32) (a0 : Int32) : kf3 md_X2_reckon_17 mr_X2_reckon_17 F R (sp_X2_reckon_17 F R a0) := by
  unfold sp_X2_reckon_17
  exact (kf3_tr (g_fr_rf _) (g_fr_rf _) (fr_K_X2_reckon_17_4 F 8589934592 R 0 a0))
theorem fr_KB_X2_forget_17_2 (F : Nat → Int32) (R2 : Nat → Nat → Int32) (y1 : Int32) (b2 : (Nat → Nat → Int32) → (Int32) → (Nat → Int32) × (Nat → Nat → Int32)) (hb2 : ∀ (R2 : Nat → Nat → Int32) (y1 : Int32), kf2 md_X2_forget_17 mr_X2_forget_17 F R2 (b2 R2 y1)) : kf2 md_X2_forget_17 mr_X2_forget_17 F R2 (KB_X2_forget_17_2 b2 F R2 y1) := by
  unfold KB_X2_forget_17_2
  exact (kf2_ite ⟨(g_fr_rf _), (g_fr_rf _)⟩ (kf2_lt (fun R8 zR8 => (kf2_lt (fun x10 _ => (kf2_tr (g_fr_rf _) (kf_r (g_fr_rf _) rfl zR8) (hb2 R8 x10)))))))
theorem fr_K_X2_forget_17_2 (F : Nat → Int32) : ∀ (n : Nat) (R2 : Nat → Nat → Int32) (y1 : Int32), kf2 md_X2_forget_17 mr_X2_forget_17 F R2 (K_X2_forget_17_2 F n R2 y1)
  | 0, R2, y1 => ⟨g_fr_rf _, g_fr_rf _⟩
  | n + 1, R2, y1 => fr_KB_X2_forget_17_2 F R2 y1 (K_X2_forget_17_2 F n) (fr_K_X2_forget_17_2 F n)
theorem fr_sp_X2_forget_17 (F : Nat → Int32) (R : Nat → Nat → Int32) : kf2 md_X2_forget_17 mr_X2_forget_17 F R (sp_X2_forget_17 F R) := by
  unfold sp_X2_forget_17
  exact (kf2_tr (g_fr_rf _) (g_fr_rf _) (fr_K_X2_forget_17_2 F 8589934592 R 0))
theorem fr_K_X2_ask_17_72 (a0 : Int32) (F13 : Nat → Int32) (R14 : Nat → Nat → Int32) (y12 : Int32) : kf3 md_X2_ask_17 mr_X2_ask_17 F13 R14 (K_X2_ask_17_72 a0 F13 R14 y12) := by
  unfold K_X2_ask_17_72
  exact (kf3_lt (fun x15 _ => (kf3_lt (fun x17 _ => (kf3_lt (fun x19 _ => (kf3_lt (fun x21 _ => ⟨(g_fr_rf _), (g_fr_rf _)⟩))))))))
theorem fr_K_X2_ask_17_66 (y9 : Int32) (F31 : Nat → Int32) (R32 : Nat → Nat → Int32) (b15 : (Nat → Int32) → (Nat → Nat → Int32) → (Int32) → Int32 × (Nat → Int32) × (Nat → Nat → Int32)) (hb15 : ∀ (F10 : Nat → Int32) (R11 : Nat → Nat → Int32) (y9 : Int32), kf3 md_X2_ask_17 mr_X2_ask_17 F10 R11 (b15 F10 R11 y9)) : kf3 md_X2_ask_17 mr_X2_ask_17 F31 R32 (K_X2_ask_17_66 b15 y9 F31 R32) := by
  unfold K_X2_ask_17_66
  exact (kf3_lt (fun x33 _ => (kf3_tr (g_fr_rf _) (g_fr_rf _) (hb15 F31 R32 x33))))
theorem fr_KB_X2_ask_17_15 (F : Nat → Int32) (a0 : Int32) (F10 : Nat → Int32) (R11 : Nat → Nat → Int32) (y9 : Int32) (b15 : (Nat → Int32) → (Nat → Nat → Int32) → (Int32) → Int32 × (Nat → Int32) × (Nat → Nat → Int32)) (hb15 : ∀ (F10 : Nat → Int32) (R11 : Nat → Nat → Int32) (y9 : Int32), kf3 md_X2_ask_17 mr_X2_ask_17 F10 R11 (b15 F10 R11 y9)) : kf3 md_X2_ask_17 mr_X2_ask_17 F10 R11 (KB_X2_ask_17_15 b15 F a0 F10 R11 y9) := by
  unfold KB_X2_ask_17_15
  exact (kf3_ite (kf3_tr (g_fr_rf _) (g_fr_rf _) (fr_K_X2_ask_17_72 a0 F10 R11 0)) (kf3_lt (fun x29 _ => (kf3_ite (kf3_lt (fun x39 _ => (kf3_lt3 (fun r41 F45 R46 zF45 => (kf3_ite (kf3_tr (kf3_F (g_fr_rf _) (fr_sp_X2_reckon_17 F10 R11 x39) zF45 rfl) (kf3_R (g_fr_rf _) (fr_sp_X2_reckon_17 F10 R11 x39) zF45 rfl) (fr_K_X2_ask_17_66 y9 F45 R46 b15 hb15)) (kf3_lt (fun x52 _ => (kf3_lt3 (fun r54 F58 R59 zF58 => (kf3_tr (kf3_F (kf3_F (g_fr_rf _) (fr_sp_X2_reckon_17 F10 R11 x39) zF45 rfl) (fr_sp_X2_reckon_17 F45 R46 x52) zF58 rfl) (kf3_R (kf3_R (g_fr_rf _) (fr_sp_X2_reckon_17 F10 R11 x39) zF45 rfl) (fr_sp_X2_reckon_17 F45 R46 x52) zF58 rfl) (fr_K_X2_ask_17_72 a0 F58 R59 r54))))))))))) (kf3_tr (g_fr_rf _) (g_fr_rf _) (fr_K_X2_ask_17_66 y9 F10 R11 b15 hb15))))))
theorem fr_K_X2_ask_17_15 (F : Nat → Int32) (a0 : Int32) : ∀ (n : Nat) (F10 : Nat → Int32) (R11 : Nat → Nat → Int32) (y9 : Int32), kf3 md_X2_ask_17 mr_X2_ask_17 F10 R11 (K_X2_ask_17_15 F a0 n F10 R11 y9)
  | 0, F10, R11, y9 => ⟨g_fr_rf _, g_fr_rf _⟩
  | n + 1, F10, R11, y9 => fr_KB_X2_ask_17_15 F a0 F10 R11 y9 (K_X2_ask_17_15 F a0 n) (fr_K_X2_ask_17_15 F a0 n)
theorem fr_sp_X2_ask_17 (F : Nat → Int32) (R : Nat → Nat → Int32) (a0 : Int32) : kf3 md_X2_ask_17 mr_X2_ask_17 F R (sp_X2_ask_17 F R a0) := by
  unfold sp_X2_ask_17
  exact (kf3_lt (fun r1 _ => (kf3_ite ⟨(g_fr_rf _), (g_fr_rf _)⟩ (kf3_tr (g_fr_rf _) (g_fr_rf _) (fr_K_X2_ask_17_15 F a0 8589934592 F R 0)))))
theorem fr_sp_X2_clear_25 (F : Nat → Int32) (R : Nat → Nat → Int32) : kf2 md_X2_clear_25 mr_X2_clear_25 F R (sp_X2_clear_25 F R) := by
  unfold sp_X2_clear_25
  exact (kf2_lt (fun F1 zF1 => (kf2_lt (fun F3 zF3 => ⟨(kf_u (kf_u (g_fr_rf _) rfl zF1) rfl zF3), (g_fr_rf _)⟩))))
theorem fr_sp_X2_emit_25 (F : Nat → Int32) (R : Nat → Nat → Int32) (a0 : Int32) (a1 : Int32) : kf3 md_X2_emit_25 mr_X2_emit_25 F R (sp_X2_emit_25 F R a0 a1) := by
  unfold sp_X2_emit_25
  exact (kf3_ite (kf3_lt (fun R4 zR4 => (kf3_lt (fun R6 zR6 => (kf3_lt (fun x8 _ => (kf3_lt (fun F10 zF10 => (kf3_lt (fun x12 _ => ⟨(kf_u (g_fr_rf _) rfl zF10), (kf_r (kf_r (g_fr_rf _) rfl zR4) rfl zR6)⟩)))))))))) ⟨(g_fr_rf _), (g_fr_rf _)⟩)
theorem fr_K_X3_fail_21 (R : Nat → Nat → Int32) (F1 : Nat → Int32) : kf2 md_X3_fail mr_X3_fail F1 R (K_X3_fail_21 R F1) := by
  unfold K_X3_fail_21
  exact ⟨(g_fr_rf _), (g_fr_rf _)⟩
theorem fr_sp_X3_fail (F : Nat → Int32) (R : Nat → Nat → Int32) (a0 : Int32) : kf2 md_X3_fail mr_X3_fail F R (sp_X3_fail F R a0) := by
  unfold sp_X3_fail
  exact (kf2_ite (kf2_lt (fun x6 _ => (kf2_lt (fun x8 _ => (kf2_lt (fun F10 zF10 => (kf2_tr (kf_u (g_fr_rf _) rfl zF10) (g_fr_rf _) (fr_K_X3_fail_21 R F10)))))))) (kf2_tr (g_fr_rf _) (g_fr_rf _) (fr_K_X3_fail_21 R F)))
theorem fr_K_X3_number_71 (y1 : Int32) (F13 : Nat → Int32) (R14 : Nat → Nat → Int32) : kf2 md_X3_number mr_X3_number F13 R14 (K_X3_number_71 y1 F13 R14) := by
  unfold K_X3_number_71
  exact (kf2_lt3 (fun r15 F19 R20 zF19 => ⟨(kf3_F (g_fr_rf _) (fr_sp_X2_emit_25 F13 R14 1 y1) zF19 rfl), (kf3_R (g_fr_rf _) (fr_sp_X2_emit_25 F13 R14 1 y1) zF19 rfl)⟩))
theorem fr_K_X3_number_52 (F3 : Nat → Int32) (R : Nat → Nat → Int32) (y1 : Int32) : kf2 md_X3_number mr_X3_number F3 R (K_X3_number_52 F3 R y1) := by
  unfold K_X3_number_52
  exact (kf2_lt (fun r4 _ => (kf2_lt (fun r9 _ => (kf2_ite (kf2_tr (g_fr_rf _) (g_fr_rf _) (fr_K_X3_number_71 y1 F3 R)) (kf2_lt2 (fun F32 R33 zF32 => (kf2_tr (kf2_F (g_fr_rf _) (fr_sp_X3_fail F3 R 2) zF32 rfl) (kf2_R (g_fr_rf _) (fr_sp_X3_fail F3 R 2) zF32 rfl) (fr_K_X3_number_71 y1 F32 R33)))))))))
theorem fr_KB_X3_number_4 (R : Nat → Nat → Int32) (F3 : Nat → Int32) (y1 : Int32) (y2 : Int32) (b4 : (Nat → Int32) → (Int32) → (Int32) → (Nat → Int32) × (Nat → Nat → Int32)) (hb4 : ∀ (F3 : Nat → Int32) (y1 : Int32) (y2 : Int32), kf2 md_X3_number mr_X3_number F3 R (b4 F3 y1 y2)) : kf2 md_X3_number mr_X3_number F3 R (KB_X3_number_4 b4 R F3 y1 y2) := by
  unfold KB_X3_number_4
  exact (kf2_ite (kf2_tr (g_fr_rf _) (g_fr_rf _) (fr_K_X3_number_52 F3 R y1)) (kf2_lt (fun r40 _ => (kf2_lt (fun r45 _ => (kf2_ite (kf2_tr (g_fr_rf _) (g_fr_rf _) (fr_K_X3_number_52 F3 R y1)) (kf2_lt (fun x55 _ => (kf2_lt (fun r57 _ => (kf2_lt (fun x62 _ => (kf2_lt (fun x64 _ => (kf2_lt (fun x66 _ => (kf2_lt (fun F68 zF68 => (kf2_lt (fun x70 _ => (kf2_tr (kf_u (g_fr_rf _) rfl zF68) (g_fr_rf _) (hb4 F68 x64 x70))))))))))))))))))))))
theorem fr_K_X3_number_4 (R : Nat → Nat → Int32) : ∀ (n : Nat) (F3 : Nat → Int32) (y1 : Int32) (y2 : Int32), kf2 md_X3_number mr_X3_number F3 R (K_X3_number_4 R n F3 y1 y2)
  | 0, F3, y1, y2 => ⟨g_fr_rf _, g_fr_rf _⟩
  | n + 1, F3, y1, y2 => fr_KB_X3_number_4 R F3 y1 y2 (K_X3_number_4 R n) (fr_K_X3_number_4 R n)
theorem fr_sp_X3_number (F : Nat → Int32) (R : Nat → Nat → Int32) : kf2 md_X3_number mr_X3_number F R (sp_X3_number F R) := by
  unfold sp_X3_number
  exact (kf2_tr (g_fr_rf _) (g_fr_rf _) (fr_K_X3_number_4 R 8589934592 F 0 0))
theorem fr_sp_X3_opens_c0 (F : Nat → Int32) (R : Nat → Nat → Int32) : kf3 md_X3_opens_c0 mr_X3_opens_c0 F R (sp_X3_opens_c0 F R) := by
  unfold sp_X3_opens_c0
  exact (kf3_lt (fun x1 _ => (kf3_lt (fun F3 zF3 => ⟨(kf_u (g_fr_rf _) rfl zF3), (g_fr_rf _)⟩))))
theorem fr_sp_X3_opens_c1 (F : Nat → Int32) (R : Nat → Nat → Int32) : kf3 md_X3_opens_c1 mr_X3_opens_c1 F R (sp_X3_opens_c1 F R) := by
  unfold sp_X3_opens_c1
  exact (kf3_lt (fun x1 _ => (kf3_lt (fun F3 zF3 => ⟨(kf_u (g_fr_rf _) rfl zF3), (g_fr_rf _)⟩))))
theorem fr_sp_X3_opens_c2 (F : Nat → Int32) (R : Nat → Nat → Int32) : kf3 md_X3_opens_c2 mr_X3_opens_c2 F R (sp_X3_opens_c2 F R) := by
  unfold sp_X3_opens_c2
  exact (kf3_lt (fun x1 _ => (kf3_lt (fun F3 zF3 => ⟨(kf_u (g_fr_rf _) rfl zF3), (g_fr_rf _)⟩))))
theorem fr_sp_X3_opens_c3 (F : Nat → Int32) (R : Nat → Nat → Int32) : kf3 md_X3_opens_c3 mr_X3_opens_c3 F R (sp_X3_opens_c3 F R) := by
  unfold sp_X3_opens_c3
  exact (kf3_lt (fun x1 _ => (kf3_lt (fun F3 zF3 => ⟨(kf_u (g_fr_rf _) rfl zF3), (g_fr_rf _)⟩))))
theorem fr_sp_X3_opens_c4 (F : Nat → Int32) (R : Nat → Nat → Int32) : kf3 md_X3_opens_c4 mr_X3_opens_c4 F R (sp_X3_opens_c4 F R) := by
  unfold sp_X3_opens_c4
  exact (kf3_lt (fun x1 _ => (kf3_lt (fun F3 zF3 => ⟨(kf_u (g_fr_rf _) rfl zF3), (g_fr_rf _)⟩))))
theorem fr_sp_X3_opens_c5 (F : Nat → Int32) (R : Nat → Nat → Int32) : kf3 md_X3_opens_c5 mr_X3_opens_c5 F R (sp_X3_opens_c5 F R) := by
  unfold sp_X3_opens_c5
  exact (kf3_lt (fun x1 _ => (kf3_lt (fun F3 zF3 => ⟨(kf_u (g_fr_rf _) rfl zF3), (g_fr_rf _)⟩))))
theorem fr_sp_X3_opens_c6 (F : Nat → Int32) (R : Nat → Nat → Int32) : kf3 md_X3_opens_c6 mr_X3_opens_c6 F R (sp_X3_opens_c6 F R) := by
  unfold sp_X3_opens_c6
  exact (kf3_lt2 (fun F5 R6 zF5 => ⟨(kf2_F (g_fr_rf _) (fr_sp_X3_fail F R 5) zF5 rfl), (kf2_R (g_fr_rf _) (fr_sp_X3_fail F R 5) zF5 rfl)⟩))
theorem fr_K_X3_factor_c6_72 (F : Nat → Int32) (R : Nat → Nat → Int32) (y25 : Int32) : kf2 md_X3_factor_c6 mr_X3_factor_c6 F R (K_X3_factor_c6_72 F R y25) := by
  unfold K_X3_factor_c6_72
  exact (kf2_ite (kf2_lt (fun x29 _ => (kf2_lt (fun F31 zF31 => (kf2_lt3 (fun r33 F37 R38 zF37 => ⟨(kf3_F (kf_u (g_fr_rf _) rfl zF31) (fr_sp_X2_emit_25 F31 R 2 y25) zF37 rfl), (kf3_R (g_fr_rf _) (fr_sp_X2_emit_25 F31 R 2 y25) zF37 rfl)⟩)))))) (kf2_lt2 (fun F46 R47 zF46 => ⟨(kf2_F (g_fr_rf _) (fr_sp_X3_fail F R 1) zF46 rfl), (kf2_R (g_fr_rf _) (fr_sp_X3_fail F R 1) zF46 rfl)⟩)))
theorem fr_sp_X3_factor_c6 (F : Nat → Int32) (R : Nat → Nat → Int32) : kf2 md_X3_factor_c6 mr_X3_factor_c6 F R (sp_X3_factor_c6 F R) := by
  unfold sp_X3_factor_c6
  exact (kf2_lt (fun r1 _ => (kf2_ite (kf2_lt3 (fun r76 F80 R81 zF80 => ⟨(kf3_F (g_fr_rf _) (fr_sp_X3_opens_c6 F R) zF80 rfl), (kf3_R (g_fr_rf _) (fr_sp_X3_opens_c6 F R) zF80 rfl)⟩)) (kf2_lt (fun r8 _ => (kf2_lt (fun r13 _ => (kf2_ite (kf2_lt (fun r20 _ => (kf2_ite (kf2_tr (g_fr_rf _) (g_fr_rf _) (fr_K_X3_factor_c6_72 F R (-1))) (kf2_lt (fun r51 _ => (kf2_lt (fun x56 _ => (kf2_lt (fun r58 _ => (kf2_tr (g_fr_rf _) (g_fr_rf _) (fr_K_X3_factor_c6_72 F R r58))))))))))) (kf2_lt2 (fun F71 R72 zF71 => ⟨(kf2_F (g_fr_rf _) (fr_sp_X3_number F R) zF71 rfl), (kf2_R (g_fr_rf _) (fr_sp_X3_number F R) zF71 rfl)⟩))))))))))
theorem fr_K_X3_product_c6_103 (F9 : Nat → Int32) (R10 : Nat → Nat → Int32) : kf2 md_X3_product_c6 mr_X3_product_c6 F9 R10 (K_X3_product_c6_103 F9 R10) := by
  unfold K_X3_product_c6_103
  exact ⟨(g_fr_rf _), (g_fr_rf _)⟩
theorem fr_K_X3_product_c6_71 (F9 : Nat → Int32) (R10 : Nat → Nat → Int32) (y8 : Int32) (y26 : Int32) (b7 : (Nat → Int32) → (Nat → Nat → Int32) → (Int32) → (Nat → Int32) × (Nat → Nat → Int32)) (hb7 : ∀ (F9 : Nat → Int32) (R10 : Nat → Nat → Int32) (y8 : Int32), kf2 md_X3_product_c6 mr_X3_product_c6 F9 R10 (b7 F9 R10 y8)) : kf2 md_X3_product_c6 mr_X3_product_c6 F9 R10 (K_X3_product_c6_71 b7 F9 R10 y8 y26) := by
  unfold K_X3_product_c6_71
  exact (kf2_lt (fun x27 _ => (kf2_lt (fun F29 zF29 => (kf2_lt2 (fun F35 R36 zF35 => (kf2_lt3 (fun r38 F42 R43 zF42 => (kf2_lt (fun x45 _ => (kf2_tr (kf3_F (kf2_F (kf_u (g_fr_rf _) rfl zF29) (fr_sp_X3_factor_c6 F29 R10) zF35 rfl) (fr_sp_X2_emit_25 F35 R36 y26 0) zF42 rfl) (kf3_R (kf2_R (g_fr_rf _) (fr_sp_X3_factor_c6 F29 R10) zF35 rfl) (fr_sp_X2_emit_25 F35 R36 y26 0) zF42 rfl) (hb7 F42 R43 x45))))))))))))
theorem fr_K_X3_product_c6_41 (F9 : Nat → Int32) (R10 : Nat → Nat → Int32) (y8 : Int32) (b7 : (Nat → Int32) → (Nat → Nat → Int32) → (Int32) → (Nat → Int32) × (Nat → Nat → Int32)) (hb7 : ∀ (F9 : Nat → Int32) (R10 : Nat → Nat → Int32) (y8 : Int32), kf2 md_X3_product_c6 mr_X3_product_c6 F9 R10 (b7 F9 R10 y8)) : kf2 md_X3_product_c6 mr_X3_product_c6 F9 R10 (K_X3_product_c6_41 b7 F9 R10 y8) := by
  unfold K_X3_product_c6_41
  exact (kf2_lt (fun r21 _ => (kf2_ite (kf2_tr (g_fr_rf _) (g_fr_rf _) (fr_K_X3_product_c6_71 F9 R10 y8 8 b7 hb7)) (kf2_lt (fun r49 _ => (kf2_ite (kf2_tr (g_fr_rf _) (g_fr_rf _) (fr_K_X3_product_c6_71 F9 R10 y8 9 b7 hb7)) (kf2_tr (g_fr_rf _) (g_fr_rf _) (fr_K_X3_product_c6_71 F9 R10 y8 10 b7 hb7))))))))
theorem fr_KB_X3_product_c6_7 (F9 : Nat → Int32) (R10 : Nat → Nat → Int32) (y8 : Int32) (b7 : (Nat → Int32) → (Nat → Nat → Int32) → (Int32) → (Nat → Int32) × (Nat → Nat → Int32)) (hb7 : ∀ (F9 : Nat → Int32) (R10 : Nat → Nat → Int32) (y8 : Int32), kf2 md_X3_product_c6 mr_X3_product_c6 F9 R10 (b7 F9 R10 y8)) : kf2 md_X3_product_c6 mr_X3_product_c6 F9 R10 (KB_X3_product_c6_7 b7 F9 R10 y8) := by
  unfold KB_X3_product_c6_7
  exact (kf2_ite (kf2_tr (g_fr_rf _) (g_fr_rf _) (fr_K_X3_product_c6_103 F9 R10)) (kf2_lt (fun r16 _ => (kf2_ite (kf2_tr (g_fr_rf _) (g_fr_rf _) (fr_K_X3_product_c6_41 F9 R10 y8 b7 hb7)) (kf2_lt (fun r64 _ => (kf2_ite (kf2_tr (g_fr_rf _) (g_fr_rf _) (fr_K_X3_product_c6_41 F9 R10 y8 b7 hb7)) (kf2_lt (fun r73 _ => (kf2_ite (kf2_tr (g_fr_rf _) (g_fr_rf _) (fr_K_X3_product_c6_41 F9 R10 y8 b7 hb7)) (kf2_tr (g_fr_rf _) (g_fr_rf _) (fr_K_X3_product_c6_103 F9 R10))))))))))))
theorem fr_K_X3_product_c6_7  : ∀ (n : Nat) (F9 : Nat → Int32) (R10 : Nat → Nat → Int32) (y8 : Int32), kf2 md_X3_product_c6 mr_X3_product_c6 F9 R10 (K_X3_product_c6_7  n F9 R10 y8)
  | 0, F9, R10, y8 => ⟨g_fr_rf _, g_fr_rf _⟩
  | n + 1, F9, R10, y8 => fr_KB_X3_product_c6_7 F9 R10 y8 (K_X3_product_c6_7  n) (fr_K_X3_product_c6_7  n)
theorem fr_sp_X3_product_c6 (F : Nat → Int32) (R : Nat → Nat → Int32) : kf2 md_X3_product_c6 mr_X3_product_c6 F R (sp_X3_product_c6 F R) := by
  unfold sp_X3_product_c6
  exact (kf2_lt2 (fun F5 R6 zF5 => (kf2_tr (kf2_F (g_fr_rf _) (fr_sp_X3_factor_c6 F R) zF5 rfl) (kf2_R (g_fr_rf _) (fr_sp_X3_factor_c6 F R) zF5 rfl) (fr_K_X3_product_c6_7 8589934592 F5 R6 0))))
theorem fr_K_X3_sum_c6_80 (F9 : Nat → Int32) (R10 : Nat → Nat → Int32) : kf2 md_X3_sum_c6 mr_X3_sum_c6 F9 R10 (K_X3_sum_c6_80 F9 R10) := by
  unfold K_X3_sum_c6_80
  exact ⟨(g_fr_rf _), (g_fr_rf _)⟩
theorem fr_K_X3_sum_c6_48 (F9 : Nat → Int32) (R10 : Nat → Nat → Int32) (y8 : Int32) (y26 : Int32) (b7 : (Nat → Int32) → (Nat → Nat → Int32) → (Int32) → (Nat → Int32) × (Nat → Nat → Int32)) (hb7 : ∀ (F9 : Nat → Int32) (R10 : Nat → Nat → Int32) (y8 : Int32), kf2 md_X3_sum_c6 mr_X3_sum_c6 F9 R10 (b7 F9 R10 y8)) : kf2 md_X3_sum_c6 mr_X3_sum_c6 F9 R10 (K_X3_sum_c6_48 b7 F9 R10 y8 y26) := by
  unfold K_X3_sum_c6_48
  exact (kf2_lt (fun x27 _ => (kf2_lt (fun F29 zF29 => (kf2_lt2 (fun F35 R36 zF35 => (kf2_lt3 (fun r38 F42 R43 zF42 => (kf2_lt (fun x45 _ => (kf2_tr (kf3_F (kf2_F (kf_u (g_fr_rf _) rfl zF29) (fr_sp_X3_product_c6 F29 R10) zF35 rfl) (fr_sp_X2_emit_25 F35 R36 y26 0) zF42 rfl) (kf3_R (kf2_R (g_fr_rf _) (fr_sp_X3_product_c6 F29 R10) zF35 rfl) (fr_sp_X2_emit_25 F35 R36 y26 0) zF42 rfl) (hb7 F42 R43 x45))))))))))))
theorem fr_K_X3_sum_c6_32 (F9 : Nat → Int32) (R10 : Nat → Nat → Int32) (y8 : Int32) (b7 : (Nat → Int32) → (Nat → Nat → Int32) → (Int32) → (Nat → Int32) × (Nat → Nat → Int32)) (hb7 : ∀ (F9 : Nat → Int32) (R10 : Nat → Nat → Int32) (y8 : Int32), kf2 md_X3_sum_c6 mr_X3_sum_c6 F9 R10 (b7 F9 R10 y8)) : kf2 md_X3_sum_c6 mr_X3_sum_c6 F9 R10 (K_X3_sum_c6_32 b7 F9 R10 y8) := by
  unfold K_X3_sum_c6_32
  exact (kf2_lt (fun r21 _ => (kf2_ite (kf2_tr (g_fr_rf _) (g_fr_rf _) (fr_K_X3_sum_c6_48 F9 R10 y8 6 b7 hb7)) (kf2_tr (g_fr_rf _) (g_fr_rf _) (fr_K_X3_sum_c6_48 F9 R10 y8 7 b7 hb7)))))
theorem fr_KB_X3_sum_c6_7 (F9 : Nat → Int32) (R10 : Nat → Nat → Int32) (y8 : Int32) (b7 : (Nat → Int32) → (Nat → Nat → Int32) → (Int32) → (Nat → Int32) × (Nat → Nat → Int32)) (hb7 : ∀ (F9 : Nat → Int32) (R10 : Nat → Nat → Int32) (y8 : Int32), kf2 md_X3_sum_c6 mr_X3_sum_c6 F9 R10 (b7 F9 R10 y8)) : kf2 md_X3_sum_c6 mr_X3_sum_c6 F9 R10 (KB_X3_sum_c6_7 b7 F9 R10 y8) := by
  unfold KB_X3_sum_c6_7
  exact (kf2_ite (kf2_tr (g_fr_rf _) (g_fr_rf _) (fr_K_X3_sum_c6_80 F9 R10)) (kf2_lt (fun r16 _ => (kf2_ite (kf2_tr (g_fr_rf _) (g_fr_rf _) (fr_K_X3_sum_c6_32 F9 R10 y8 b7 hb7)) (kf2_lt (fun r55 _ => (kf2_ite (kf2_tr (g_fr_rf _) (g_fr_rf _) (fr_K_X3_sum_c6_32 F9 R10 y8 b7 hb7)) (kf2_tr (g_fr_rf _) (g_fr_rf _) (fr_K_X3_sum_c6_80 F9 R10)))))))))
theorem fr_K_X3_sum_c6_7  : ∀ (n : Nat) (F9 : Nat → Int32) (R10 : Nat → Nat → Int32) (y8 : Int32), kf2 md_X3_sum_c6 mr_X3_sum_c6 F9 R10 (K_X3_sum_c6_7  n F9 R10 y8)
  | 0, F9, R10, y8 => ⟨g_fr_rf _, g_fr_rf _⟩
  | n + 1, F9, R10, y8 => fr_KB_X3_sum_c6_7 F9 R10 y8 (K_X3_sum_c6_7  n) (fr_K_X3_sum_c6_7  n)
theorem fr_sp_X3_sum_c6 (F : Nat → Int32) (R : Nat → Nat → Int32) : kf2 md_X3_sum_c6 mr_X3_sum_c6 F R (sp_X3_sum_c6 F R) := by
  unfold sp_X3_sum_c6
  exact (kf2_lt2 (fun F5 R6 zF5 => (kf2_tr (kf2_F (g_fr_rf _) (fr_sp_X3_product_c6 F R) zF5 rfl) (kf2_R (g_fr_rf _) (fr_sp_X3_product_c6 F R) zF5 rfl) (fr_K_X3_sum_c6_7 8589934592 F5 R6 0))))
theorem fr_K_X3_pass_26 (F6 : Nat → Int32) (R7 : Nat → Nat → Int32) : kf2 md_X3_pass mr_X3_pass F6 R7 (K_X3_pass_26 F6 R7) := by
  unfold K_X3_pass_26
  exact ⟨(g_fr_rf _), (g_fr_rf _)⟩
theorem fr_sp_X3_pass (F : Nat → Int32) (R : Nat → Nat → Int32) (a0 : Int32) : kf2 md_X3_pass mr_X3_pass F R (sp_X3_pass F R a0) := by
  unfold sp_X3_pass
  exact (kf2_lt (fun r1 _ => (kf2_ite (kf2_lt (fun x18 _ => (kf2_lt (fun F20 zF20 => (kf2_tr (kf_u (g_fr_rf _) rfl zF20) (g_fr_rf _) (fr_K_X3_pass_26 F20 R)))))) (kf2_lt2 (fun F14 R15 zF14 => (kf2_tr (kf2_F (g_fr_rf _) (fr_sp_X3_fail F R 1) zF14 rfl) (kf2_R (g_fr_rf _) (fr_sp_X3_fail F R 1) zF14 rfl) (fr_K_X3_pass_26 F14 R15)))))))
theorem fr_K_X3_factor_c5_72 (F : Nat → Int32) (R : Nat → Nat → Int32) (y25 : Int32) : kf2 md_X3_factor_c5 mr_X3_factor_c5 F R (K_X3_factor_c5_72 F R y25) := by
  unfold K_X3_factor_c5_72
  exact (kf2_ite (kf2_lt (fun x29 _ => (kf2_lt (fun F31 zF31 => (kf2_lt3 (fun r33 F37 R38 zF37 => ⟨(kf3_F (kf_u (g_fr_rf _) rfl zF31) (fr_sp_X2_emit_25 F31 R 2 y25) zF37 rfl), (kf3_R (g_fr_rf _) (fr_sp_X2_emit_25 F31 R 2 y25) zF37 rfl)⟩)))))) (kf2_lt2 (fun F46 R47 zF46 => ⟨(kf2_F (g_fr_rf _) (fr_sp_X3_fail F R 1) zF46 rfl), (kf2_R (g_fr_rf _) (fr_sp_X3_fail F R 1) zF46 rfl)⟩)))
theorem fr_sp_X3_factor_c5 (F : Nat → Int32) (R : Nat → Nat → Int32) : kf2 md_X3_factor_c5 mr_X3_factor_c5 F R (sp_X3_factor_c5 F R) := by
  unfold sp_X3_factor_c5
  exact (kf2_lt (fun r1 _ => (kf2_ite (kf2_lt3 (fun r76 F80 R81 zF80 => (kf2_lt2 (fun F88 R89 zF88 => (kf2_lt2 (fun F95 R96 zF95 => ⟨(kf2_F (kf2_F (kf3_F (g_fr_rf _) (fr_sp_X3_opens_c5 F R) zF80 rfl) (fr_sp_X3_sum_c6 F80 R81) zF88 rfl) (fr_sp_X3_pass F88 R89 93) zF95 rfl), (kf2_R (kf2_R (kf3_R (g_fr_rf _) (fr_sp_X3_opens_c5 F R) zF80 rfl) (fr_sp_X3_sum_c6 F80 R81) zF88 rfl) (fr_sp_X3_pass F88 R89 93) zF95 rfl)⟩)))))) (kf2_lt (fun r8 _ => (kf2_lt (fun r13 _ => (kf2_ite (kf2_lt (fun r20 _ => (kf2_ite (kf2_tr (g_fr_rf _) (g_fr_rf _) (fr_K_X3_factor_c5_72 F R (-1))) (kf2_lt (fun r51 _ => (kf2_lt (fun x56 _ => (kf2_lt (fun r58 _ => (kf2_tr (g_fr_rf _) (g_fr_rf _) (fr_K_X3_factor_c5_72 F R r58))))))))))) (kf2_lt2 (fun F71 R72 zF71 => ⟨(kf2_F (g_fr_rf _) (fr_sp_X3_number F R) zF71 rfl), (kf2_R (g_fr_rf _) (fr_sp_X3_number F R) zF71 rfl)⟩))))))))))
theorem fr_K_X3_product_c5_103 (F9 : Nat → Int32) (R10 : Nat → Nat → Int32) : kf2 md_X3_product_c5 mr_X3_product_c5 F9 R10 (K_X3_product_c5_103 F9 R10) := by
  unfold K_X3_product_c5_103
  exact ⟨(g_fr_rf _), (g_fr_rf _)⟩
theorem fr_K_X3_product_c5_71 (F9 : Nat → Int32) (R10 : Nat → Nat → Int32) (y8 : Int32) (y26 : Int32) (b7 : (Nat → Int32) → (Nat → Nat → Int32) → (Int32) → (Nat → Int32) × (Nat → Nat → Int32)) (hb7 : ∀ (F9 : Nat → Int32) (R10 : Nat → Nat → Int32) (y8 : Int32), kf2 md_X3_product_c5 mr_X3_product_c5 F9 R10 (b7 F9 R10 y8)) : kf2 md_X3_product_c5 mr_X3_product_c5 F9 R10 (K_X3_product_c5_71 b7 F9 R10 y8 y26) := by
  unfold K_X3_product_c5_71
  exact (kf2_lt (fun x27 _ => (kf2_lt (fun F29 zF29 => (kf2_lt2 (fun F35 R36 zF35 => (kf2_lt3 (fun r38 F42 R43 zF42 => (kf2_lt (fun x45 _ => (kf2_tr (kf3_F (kf2_F (kf_u (g_fr_rf _) rfl zF29) (fr_sp_X3_factor_c5 F29 R10) zF35 rfl) (fr_sp_X2_emit_25 F35 R36 y26 0) zF42 rfl) (kf3_R (kf2_R (g_fr_rf _) (fr_sp_X3_factor_c5 F29 R10) zF35 rfl) (fr_sp_X2_emit_25 F35 R36 y26 0) zF42 rfl) (hb7 F42 R43 x45))))))))))))
theorem fr_K_X3_product_c5_41 (F9 : Nat → Int32) (R10 : Nat → Nat → Int32) (y8 : Int32) (b7 : (Nat → Int32) → (Nat → Nat → Int32) → (Int32) → (Nat → Int32) × (Nat → Nat → Int32)) (hb7 : ∀ (F9 : Nat → Int32) (R10 : Nat → Nat → Int32) (y8 : Int32), kf2 md_X3_product_c5 mr_X3_product_c5 F9 R10 (b7 F9 R10 y8)) : kf2 md_X3_product_c5 mr_X3_product_c5 F9 R10 (K_X3_product_c5_41 b7 F9 R10 y8) := by
  unfold K_X3_product_c5_41
  exact (kf2_lt (fun r21 _ => (kf2_ite (kf2_tr (g_fr_rf _) (g_fr_rf _) (fr_K_X3_product_c5_71 F9 R10 y8 8 b7 hb7)) (kf2_lt (fun r49 _ => (kf2_ite (kf2_tr (g_fr_rf _) (g_fr_rf _) (fr_K_X3_product_c5_71 F9 R10 y8 9 b7 hb7)) (kf2_tr (g_fr_rf _) (g_fr_rf _) (fr_K_X3_product_c5_71 F9 R10 y8 10 b7 hb7))))))))
theorem fr_KB_X3_product_c5_7 (F9 : Nat → Int32) (R10 : Nat → Nat → Int32) (y8 : Int32) (b7 : (Nat → Int32) → (Nat → Nat → Int32) → (Int32) → (Nat → Int32) × (Nat → Nat → Int32)) (hb7 : ∀ (F9 : Nat → Int32) (R10 : Nat → Nat → Int32) (y8 : Int32), kf2 md_X3_product_c5 mr_X3_product_c5 F9 R10 (b7 F9 R10 y8)) : kf2 md_X3_product_c5 mr_X3_product_c5 F9 R10 (KB_X3_product_c5_7 b7 F9 R10 y8) := by
  unfold KB_X3_product_c5_7
  exact (kf2_ite (kf2_tr (g_fr_rf _) (g_fr_rf _) (fr_K_X3_product_c5_103 F9 R10)) (kf2_lt (fun r16 _ => (kf2_ite (kf2_tr (g_fr_rf _) (g_fr_rf _) (fr_K_X3_product_c5_41 F9 R10 y8 b7 hb7)) (kf2_lt (fun r64 _ => (kf2_ite (kf2_tr (g_fr_rf _) (g_fr_rf _) (fr_K_X3_product_c5_41 F9 R10 y8 b7 hb7)) (kf2_lt (fun r73 _ => (kf2_ite (kf2_tr (g_fr_rf _) (g_fr_rf _) (fr_K_X3_product_c5_41 F9 R10 y8 b7 hb7)) (kf2_tr (g_fr_rf _) (g_fr_rf _) (fr_K_X3_product_c5_103 F9 R10))))))))))))
theorem fr_K_X3_product_c5_7  : ∀ (n : Nat) (F9 : Nat → Int32) (R10 : Nat → Nat → Int32) (y8 : Int32), kf2 md_X3_product_c5 mr_X3_product_c5 F9 R10 (K_X3_product_c5_7  n F9 R10 y8)
  | 0, F9, R10, y8 => ⟨g_fr_rf _, g_fr_rf _⟩
  | n + 1, F9, R10, y8 => fr_KB_X3_product_c5_7 F9 R10 y8 (K_X3_product_c5_7  n) (fr_K_X3_product_c5_7  n)
theorem fr_sp_X3_product_c5 (F : Nat → Int32) (R : Nat → Nat → Int32) : kf2 md_X3_product_c5 mr_X3_product_c5 F R (sp_X3_product_c5 F R) := by
  unfold sp_X3_product_c5
  exact (kf2_lt2 (fun F5 R6 zF5 => (kf2_tr (kf2_F (g_fr_rf _) (fr_sp_X3_factor_c5 F R) zF5 rfl) (kf2_R (g_fr_rf _) (fr_sp_X3_factor_c5 F R) zF5 rfl) (fr_K_X3_product_c5_7 8589934592 F5 R6 0))))
theorem fr_K_X3_sum_c5_80 (F9 : Nat → Int32) (R10 : Nat → Nat → Int32) : kf2 md_X3_sum_c5 mr_X3_sum_c5 F9 R10 (K_X3_sum_c5_80 F9 R10) := by
  unfold K_X3_sum_c5_80
  exact ⟨(g_fr_rf _), (g_fr_rf _)⟩
theorem fr_K_X3_sum_c5_48 (F9 : Nat → Int32) (R10 : Nat → Nat → Int32) (y8 : Int32) (y26 : Int32) (b7 : (Nat → Int32) → (Nat → Nat → Int32) → (Int32) → (Nat → Int32) × (Nat → Nat → Int32)) (hb7 : ∀ (F9 : Nat → Int32) (R10 : Nat → Nat → Int32) (y8 : Int32), kf2 md_X3_sum_c5 mr_X3_sum_c5 F9 R10 (b7 F9 R10 y8)) : kf2 md_X3_sum_c5 mr_X3_sum_c5 F9 R10 (K_X3_sum_c5_48 b7 F9 R10 y8 y26) := by
  unfold K_X3_sum_c5_48
  exact (kf2_lt (fun x27 _ => (kf2_lt (fun F29 zF29 => (kf2_lt2 (fun F35 R36 zF35 => (kf2_lt3 (fun r38 F42 R43 zF42 => (kf2_lt (fun x45 _ => (kf2_tr (kf3_F (kf2_F (kf_u (g_fr_rf _) rfl zF29) (fr_sp_X3_product_c5 F29 R10) zF35 rfl) (fr_sp_X2_emit_25 F35 R36 y26 0) zF42 rfl) (kf3_R (kf2_R (g_fr_rf _) (fr_sp_X3_product_c5 F29 R10) zF35 rfl) (fr_sp_X2_emit_25 F35 R36 y26 0) zF42 rfl) (hb7 F42 R43 x45))))))))))))
theorem fr_K_X3_sum_c5_32 (F9 : Nat → Int32) (R10 : Nat → Nat → Int32) (y8 : Int32) (b7 : (Nat → Int32) → (Nat → Nat → Int32) → (Int32) → (Nat → Int32) × (Nat → Nat → Int32)) (hb7 : ∀ (F9 : Nat → Int32) (R10 : Nat → Nat → Int32) (y8 : Int32), kf2 md_X3_sum_c5 mr_X3_sum_c5 F9 R10 (b7 F9 R10 y8)) : kf2 md_X3_sum_c5 mr_X3_sum_c5 F9 R10 (K_X3_sum_c5_32 b7 F9 R10 y8) := by
  unfold K_X3_sum_c5_32
  exact (kf2_lt (fun r21 _ => (kf2_ite (kf2_tr (g_fr_rf _) (g_fr_rf _) (fr_K_X3_sum_c5_48 F9 R10 y8 6 b7 hb7)) (kf2_tr (g_fr_rf _) (g_fr_rf _) (fr_K_X3_sum_c5_48 F9 R10 y8 7 b7 hb7)))))
theorem fr_KB_X3_sum_c5_7 (F9 : Nat → Int32) (R10 : Nat → Nat → Int32) (y8 : Int32) (b7 : (Nat → Int32) → (Nat → Nat → Int32) → (Int32) → (Nat → Int32) × (Nat → Nat → Int32)) (hb7 : ∀ (F9 : Nat → Int32) (R10 : Nat → Nat → Int32) (y8 : Int32), kf2 md_X3_sum_c5 mr_X3_sum_c5 F9 R10 (b7 F9 R10 y8)) : kf2 md_X3_sum_c5 mr_X3_sum_c5 F9 R10 (KB_X3_sum_c5_7 b7 F9 R10 y8) := by
  unfold KB_X3_sum_c5_7
  exact (kf2_ite (kf2_tr (g_fr_rf _) (g_fr_rf _) (fr_K_X3_sum_c5_80 F9 R10)) (kf2_lt (fun r16 _ => (kf2_ite (kf2_tr (g_fr_rf _) (g_fr_rf _) (fr_K_X3_sum_c5_32 F9 R10 y8 b7 hb7)) (kf2_lt (fun r55 _ => (kf2_ite (kf2_tr (g_fr_rf _) (g_fr_rf _) (fr_K_X3_sum_c5_32 F9 R10 y8 b7 hb7)) (kf2_tr (g_fr_rf _) (g_fr_rf _) (fr_K_X3_sum_c5_80 F9 R10)))))))))
theorem fr_K_X3_sum_c5_7  : ∀ (n : Nat) (F9 : Nat → Int32) (R10 : Nat → Nat → Int32) (y8 : Int32), kf2 md_X3_sum_c5 mr_X3_sum_c5 F9 R10 (K_X3_sum_c5_7  n F9 R10 y8)
  | 0, F9, R10, y8 => ⟨g_fr_rf _, g_fr_rf _⟩
  | n + 1, F9, R10, y8 => fr_KB_X3_sum_c5_7 F9 R10 y8 (K_X3_sum_c5_7  n) (fr_K_X3_sum_c5_7  n)
theorem fr_sp_X3_sum_c5 (F : Nat → Int32) (R : Nat → Nat → Int32) : kf2 md_X3_sum_c5 mr_X3_sum_c5 F R (sp_X3_sum_c5 F R) := by
  unfold sp_X3_sum_c5
  exact (kf2_lt2 (fun F5 R6 zF5 => (kf2_tr (kf2_F (g_fr_rf _) (fr_sp_X3_product_c5 F R) zF5 rfl) (kf2_R (g_fr_rf _) (fr_sp_X3_product_c5 F R) zF5 rfl) (fr_K_X3_sum_c5_7 8589934592 F5 R6 0))))
theorem fr_K_X3_factor_c4_72 (F : Nat → Int32) (R : Nat → Nat → Int32) (y25 : Int32) : kf2 md_X3_factor_c4 mr_X3_factor_c4 F R (K_X3_factor_c4_72 F R y25) := by
  unfold K_X3_factor_c4_72
  exact (kf2_ite (kf2_lt (fun x29 _ => (kf2_lt (fun F31 zF31 => (kf2_lt3 (fun r33 F37 R38 zF37 => ⟨(kf3_F (kf_u (g_fr_rf _) rfl zF31) (fr_sp_X2_emit_25 F31 R 2 y25) zF37 rfl), (kf3_R (g_fr_rf _) (fr_sp_X2_emit_25 F31 R 2 y25) zF37 rfl)⟩)))))) (kf2_lt2 (fun F46 R47 zF46 => ⟨(kf2_F (g_fr_rf _) (fr_sp_X3_fail F R 1) zF46 rfl), (kf2_R (g_fr_rf _) (fr_sp_X3_fail F R 1) zF46 rfl)⟩)))
theorem fr_sp_X3_factor_c4 (F : Nat → Int32) (R : Nat → Nat → Int32) : kf2 md_X3_factor_c4 mr_X3_factor_c4 F R (sp_X3_factor_c4 F R) := by
  unfold sp_X3_factor_c4
  exact (kf2_lt (fun r1 _ => (kf2_ite (kf2_lt3 (fun r76 F80 R81 zF80 => (kf2_lt2 (fun F88 R89 zF88 => (kf2_lt2 (fun F95 R96 zF95 => ⟨(kf2_F (kf2_F (kf3_F (g_fr_rf _) (fr_sp_X3_opens_c4 F R) zF80 rfl) (fr_sp_X3_sum_c5 F80 R81) zF88 rfl) (fr_sp_X3_pass F88 R89 93) zF95 rfl), (kf2_R (kf2_R (kf3_R (g_fr_rf _) (fr_sp_X3_opens_c4 F R) zF80 rfl) (fr_sp_X3_sum_c5 F80 R81) zF88 rfl) (fr_sp_X3_pass F88 R89 93) zF95 rfl)⟩)))))) (kf2_lt (fun r8 _ => (kf2_lt (fun r13 _ => (kf2_ite (kf2_lt (fun r20 _ => (kf2_ite (kf2_tr (g_fr_rf _) (g_fr_rf _) (fr_K_X3_factor_c4_72 F R (-1))) (kf2_lt (fun r51 _ => (kf2_lt (fun x56 _ => (kf2_lt (fun r58 _ => (kf2_tr (g_fr_rf _) (g_fr_rf _) (fr_K_X3_factor_c4_72 F R r58))))))))))) (kf2_lt2 (fun F71 R72 zF71 => ⟨(kf2_F (g_fr_rf _) (fr_sp_X3_number F R) zF71 rfl), (kf2_R (g_fr_rf _) (fr_sp_X3_number F R) zF71 rfl)⟩))))))))))
theorem fr_K_X3_product_c4_103 (F9 : Nat → Int32) (R10 : Nat → Nat → Int32) : kf2 md_X3_product_c4 mr_X3_product_c4 F9 R10 (K_X3_product_c4_103 F9 R10) := by
  unfold K_X3_product_c4_103
  exact ⟨(g_fr_rf _), (g_fr_rf _)⟩
theorem fr_K_X3_product_c4_71 (F9 : Nat → Int32) (R10 : Nat → Nat → Int32) (y8 : Int32) (y26 : Int32) (b7 : (Nat → Int32) → (Nat → Nat → Int32) → (Int32) → (Nat → Int32) × (Nat → Nat → Int32)) (hb7 : ∀ (F9 : Nat → Int32) (R10 : Nat → Nat → Int32) (y8 : Int32), kf2 md_X3_product_c4 mr_X3_product_c4 F9 R10 (b7 F9 R10 y8)) : kf2 md_X3_product_c4 mr_X3_product_c4 F9 R10 (K_X3_product_c4_71 b7 F9 R10 y8 y26) := by
  unfold K_X3_product_c4_71
  exact (kf2_lt (fun x27 _ => (kf2_lt (fun F29 zF29 => (kf2_lt2 (fun F35 R36 zF35 => (kf2_lt3 (fun r38 F42 R43 zF42 => (kf2_lt (fun x45 _ => (kf2_tr (kf3_F (kf2_F (kf_u (g_fr_rf _) rfl zF29) (fr_sp_X3_factor_c4 F29 R10) zF35 rfl) (fr_sp_X2_emit_25 F35 R36 y26 0) zF42 rfl) (kf3_R (kf2_R (g_fr_rf _) (fr_sp_X3_factor_c4 F29 R10) zF35 rfl) (fr_sp_X2_emit_25 F35 R36 y26 0) zF42 rfl) (hb7 F42 R43 x45))))))))))))
theorem fr_K_X3_product_c4_41 (F9 : Nat → Int32) (R10 : Nat → Nat → Int32) (y8 : Int32) (b7 : (Nat → Int32) → (Nat → Nat → Int32) → (Int32) → (Nat → Int32) × (Nat → Nat → Int32)) (hb7 : ∀ (F9 : Nat → Int32) (R10 : Nat → Nat → Int32) (y8 : Int32), kf2 md_X3_product_c4 mr_X3_product_c4 F9 R10 (b7 F9 R10 y8)) : kf2 md_X3_product_c4 mr_X3_product_c4 F9 R10 (K_X3_product_c4_41 b7 F9 R10 y8) := by
  unfold K_X3_product_c4_41
  exact (kf2_lt (fun r21 _ => (kf2_ite (kf2_tr (g_fr_rf _) (g_fr_rf _) (fr_K_X3_product_c4_71 F9 R10 y8 8 b7 hb7)) (kf2_lt (fun r49 _ => (kf2_ite (kf2_tr (g_fr_rf _) (g_fr_rf _) (fr_K_X3_product_c4_71 F9 R10 y8 9 b7 hb7)) (kf2_tr (g_fr_rf _) (g_fr_rf _) (fr_K_X3_product_c4_71 F9 R10 y8 10 b7 hb7))))))))
theorem fr_KB_X3_product_c4_7 (F9 : Nat → Int32) (R10 : Nat → Nat → Int32) (y8 : Int32) (b7 : (Nat → Int32) → (Nat → Nat → Int32) → (Int32) → (Nat → Int32) × (Nat → Nat → Int32)) (hb7 : ∀ (F9 : Nat → Int32) (R10 : Nat → Nat → Int32) (y8 : Int32), kf2 md_X3_product_c4 mr_X3_product_c4 F9 R10 (b7 F9 R10 y8)) : kf2 md_X3_product_c4 mr_X3_product_c4 F9 R10 (KB_X3_product_c4_7 b7 F9 R10 y8) := by
  unfold KB_X3_product_c4_7
  exact (kf2_ite (kf2_tr (g_fr_rf _) (g_fr_rf _) (fr_K_X3_product_c4_103 F9 R10)) (kf2_lt (fun r16 _ => (kf2_ite (kf2_tr (g_fr_rf _) (g_fr_rf _) (fr_K_X3_product_c4_41 F9 R10 y8 b7 hb7)) (kf2_lt (fun r64 _ => (kf2_ite (kf2_tr (g_fr_rf _) (g_fr_rf _) (fr_K_X3_product_c4_41 F9 R10 y8 b7 hb7)) (kf2_lt (fun r73 _ => (kf2_ite (kf2_tr (g_fr_rf _) (g_fr_rf _) (fr_K_X3_product_c4_41 F9 R10 y8 b7 hb7)) (kf2_tr (g_fr_rf _) (g_fr_rf _) (fr_K_X3_product_c4_103 F9 R10))))))))))))
theorem fr_K_X3_product_c4_7  : ∀ (n : Nat) (F9 : Nat → Int32) (R10 : Nat → Nat → Int32) (y8 : Int32), kf2 md_X3_product_c4 mr_X3_product_c4 F9 R10 (K_X3_product_c4_7  n F9 R10 y8)
  | 0, F9, R10, y8 => ⟨g_fr_rf _, g_fr_rf _⟩
  | n + 1, F9, R10, y8 => fr_KB_X3_product_c4_7 F9 R10 y8 (K_X3_product_c4_7  n) (fr_K_X3_product_c4_7  n)
theorem fr_sp_X3_product_c4 (F : Nat → Int32) (R : Nat → Nat → Int32) : kf2 md_X3_product_c4 mr_X3_product_c4 F R (sp_X3_product_c4 F R) := by
  unfold sp_X3_product_c4
  exact (kf2_lt2 (fun F5 R6 zF5 => (kf2_tr (kf2_F (g_fr_rf _) (fr_sp_X3_factor_c4 F R) zF5 rfl) (kf2_R (g_fr_rf _) (fr_sp_X3_factor_c4 F R) zF5 rfl) (fr_K_X3_product_c4_7 8589934592 F5 R6 0))))
theorem fr_K_X3_sum_c4_80 (F9 : Nat → Int32) (R10 : Nat → Nat → Int32) : kf2 md_X3_sum_c4 mr_X3_sum_c4 F9 R10 (K_X3_sum_c4_80 F9 R10) := by
  unfold K_X3_sum_c4_80
  exact ⟨(g_fr_rf _), (g_fr_rf _)⟩
theorem fr_K_X3_sum_c4_48 (F9 : Nat → Int32) (R10 : Nat → Nat → Int32) (y8 : Int32) (y26 : Int32) (b7 : (Nat → Int32) → (Nat → Nat → Int32) → (Int32) → (Nat → Int32) × (Nat → Nat → Int32)) (hb7 : ∀ (F9 : Nat → Int32) (R10 : Nat → Nat → Int32) (y8 : Int32), kf2 md_X3_sum_c4 mr_X3_sum_c4 F9 R10 (b7 F9 R10 y8)) : kf2 md_X3_sum_c4 mr_X3_sum_c4 F9 R10 (K_X3_sum_c4_48 b7 F9 R10 y8 y26) := by
  unfold K_X3_sum_c4_48
  exact (kf2_lt (fun x27 _ => (kf2_lt (fun F29 zF29 => (kf2_lt2 (fun F35 R36 zF35 => (kf2_lt3 (fun r38 F42 R43 zF42 => (kf2_lt (fun x45 _ => (kf2_tr (kf3_F (kf2_F (kf_u (g_fr_rf _) rfl zF29) (fr_sp_X3_product_c4 F29 R10) zF35 rfl) (fr_sp_X2_emit_25 F35 R36 y26 0) zF42 rfl) (kf3_R (kf2_R (g_fr_rf _) (fr_sp_X3_product_c4 F29 R10) zF35 rfl) (fr_sp_X2_emit_25 F35 R36 y26 0) zF42 rfl) (hb7 F42 R43 x45))))))))))))
theorem fr_K_X3_sum_c4_32 (F9 : Nat → Int32) (R10 : Nat → Nat → Int32) (y8 : Int32) (b7 : (Nat → Int32) → (Nat → Nat → Int32) → (Int32) → (Nat → Int32) × (Nat → Nat → Int32)) (hb7 : ∀ (F9 : Nat → Int32) (R10 : Nat → Nat → Int32) (y8 : Int32), kf2 md_X3_sum_c4 mr_X3_sum_c4 F9 R10 (b7 F9 R10 y8)) : kf2 md_X3_sum_c4 mr_X3_sum_c4 F9 R10 (K_X3_sum_c4_32 b7 F9 R10 y8) := by
  unfold K_X3_sum_c4_32
  exact (kf2_lt (fun r21 _ => (kf2_ite (kf2_tr (g_fr_rf _) (g_fr_rf _) (fr_K_X3_sum_c4_48 F9 R10 y8 6 b7 hb7)) (kf2_tr (g_fr_rf _) (g_fr_rf _) (fr_K_X3_sum_c4_48 F9 R10 y8 7 b7 hb7)))))
theorem fr_KB_X3_sum_c4_7 (F9 : Nat → Int32) (R10 : Nat → Nat → Int32) (y8 : Int32) (b7 : (Nat → Int32) → (Nat → Nat → Int32) → (Int32) → (Nat → Int32) × (Nat → Nat → Int32)) (hb7 : ∀ (F9 : Nat → Int32) (R10 : Nat → Nat → Int32) (y8 : Int32), kf2 md_X3_sum_c4 mr_X3_sum_c4 F9 R10 (b7 F9 R10 y8)) : kf2 md_X3_sum_c4 mr_X3_sum_c4 F9 R10 (KB_X3_sum_c4_7 b7 F9 R10 y8) := by
  unfold KB_X3_sum_c4_7
  exact (kf2_ite (kf2_tr (g_fr_rf _) (g_fr_rf _) (fr_K_X3_sum_c4_80 F9 R10)) (kf2_lt (fun r16 _ => (kf2_ite (kf2_tr (g_fr_rf _) (g_fr_rf _) (fr_K_X3_sum_c4_32 F9 R10 y8 b7 hb7)) (kf2_lt (fun r55 _ => (kf2_ite (kf2_tr (g_fr_rf _) (g_fr_rf _) (fr_K_X3_sum_c4_32 F9 R10 y8 b7 hb7)) (kf2_tr (g_fr_rf _) (g_fr_rf _) (fr_K_X3_sum_c4_80 F9 R10)))))))))
theorem fr_K_X3_sum_c4_7  : ∀ (n : Nat) (F9 : Nat → Int32) (R10 : Nat → Nat → Int32) (y8 : Int32), kf2 md_X3_sum_c4 mr_X3_sum_c4 F9 R10 (K_X3_sum_c4_7  n F9 R10 y8)
  | 0, F9, R10, y8 => ⟨g_fr_rf _, g_fr_rf _⟩
  | n + 1, F9, R10, y8 => fr_KB_X3_sum_c4_7 F9 R10 y8 (K_X3_sum_c4_7  n) (fr_K_X3_sum_c4_7  n)
theorem fr_sp_X3_sum_c4 (F : Nat → Int32) (R : Nat → Nat → Int32) : kf2 md_X3_sum_c4 mr_X3_sum_c4 F R (sp_X3_sum_c4 F R) := by
  unfold sp_X3_sum_c4
  exact (kf2_lt2 (fun F5 R6 zF5 => (kf2_tr (kf2_F (g_fr_rf _) (fr_sp_X3_product_c4 F R) zF5 rfl) (kf2_R (g_fr_rf _) (fr_sp_X3_product_c4 F R) zF5 rfl) (fr_K_X3_sum_c4_7 8589934592 F5 R6 0))))
theorem fr_K_X3_factor_c3_72 (F : Nat → Int32) (R : Nat → Nat → Int32) (y25 : Int32) : kf2 md_X3_factor_c3 mr_X3_factor_c3 F R (K_X3_factor_c3_72 F R y25) := by
  unfold K_X3_factor_c3_72
  exact (kf2_ite (kf2_lt (fun x29 _ => (kf2_lt (fun F31 zF31 => (kf2_lt3 (fun r33 F37 R38 zF37 => ⟨(kf3_F (kf_u (g_fr_rf _) rfl zF31) (fr_sp_X2_emit_25 F31 R 2 y25) zF37 rfl), (kf3_R (g_fr_rf _) (fr_sp_X2_emit_25 F31 R 2 y25) zF37 rfl)⟩)))))) (kf2_lt2 (fun F46 R47 zF46 => ⟨(kf2_F (g_fr_rf _) (fr_sp_X3_fail F R 1) zF46 rfl), (kf2_R (g_fr_rf _) (fr_sp_X3_fail F R 1) zF46 rfl)⟩)))
theorem fr_sp_X3_factor_c3 (F : Nat → Int32) (R : Nat → Nat → Int32) : kf2 md_X3_factor_c3 mr_X3_factor_c3 F R (sp_X3_factor_c3 F R) := by
  unfold sp_X3_factor_c3
  exact (kf2_lt (fun r1 _ => (kf2_ite (kf2_lt3 (fun r76 F80 R81 zF80 => (kf2_lt2 (fun F88 R89 zF88 => (kf2_lt2 (fun F95 R96 zF95 => ⟨(kf2_F (kf2_F (kf3_F (g_fr_rf _) (fr_sp_X3_opens_c3 F R) zF80 rfl) (fr_sp_X3_sum_c4 F80 R81) zF88 rfl) (fr_sp_X3_pass F88 R89 93) zF95 rfl), (kf2_R (kf2_R (kf3_R (g_fr_rf _) (fr_sp_X3_opens_c3 F R) zF80 rfl) (fr_sp_X3_sum_c4 F80 R81) zF88 rfl) (fr_sp_X3_pass F88 R89 93) zF95 rfl)⟩)))))) (kf2_lt (fun r8 _ => (kf2_lt (fun r13 _ => (kf2_ite (kf2_lt (fun r20 _ => (kf2_ite (kf2_tr (g_fr_rf _) (g_fr_rf _) (fr_K_X3_factor_c3_72 F R (-1))) (kf2_lt (fun r51 _ => (kf2_lt (fun x56 _ => (kf2_lt (fun r58 _ => (kf2_tr (g_fr_rf _) (g_fr_rf _) (fr_K_X3_factor_c3_72 F R r58))))))))))) (kf2_lt2 (fun F71 R72 zF71 => ⟨(kf2_F (g_fr_rf _) (fr_sp_X3_number F R) zF71 rfl), (kf2_R (g_fr_rf _) (fr_sp_X3_number F R) zF71 rfl)⟩))))))))))
theorem fr_K_X3_product_c3_103 (F9 : Nat → Int32) (R10 : Nat → Nat → Int32) : kf2 md_X3_product_c3 mr_X3_product_c3 F9 R10 (K_X3_product_c3_103 F9 R10) := by
  unfold K_X3_product_c3_103
  exact ⟨(g_fr_rf _), (g_fr_rf _)⟩
theorem fr_K_X3_product_c3_71 (F9 : Nat → Int32) (R10 : Nat → Nat → Int32) (y8 : Int32) (y26 : Int32) (b7 : (Nat → Int32) → (Nat → Nat → Int32) → (Int32) → (Nat → Int32) × (Nat → Nat → Int32)) (hb7 : ∀ (F9 : Nat → Int32) (R10 : Nat → Nat → Int32) (y8 : Int32), kf2 md_X3_product_c3 mr_X3_product_c3 F9 R10 (b7 F9 R10 y8)) : kf2 md_X3_product_c3 mr_X3_product_c3 F9 R10 (K_X3_product_c3_71 b7 F9 R10 y8 y26) := by
  unfold K_X3_product_c3_71
  exact (kf2_lt (fun x27 _ => (kf2_lt (fun F29 zF29 => (kf2_lt2 (fun F35 R36 zF35 => (kf2_lt3 (fun r38 F42 R43 zF42 => (kf2_lt (fun x45 _ => (kf2_tr (kf3_F (kf2_F (kf_u (g_fr_rf _) rfl zF29) (fr_sp_X3_factor_c3 F29 R10) zF35 rfl) (fr_sp_X2_emit_25 F35 R36 y26 0) zF42 rfl) (kf3_R (kf2_R (g_fr_rf _) (fr_sp_X3_factor_c3 F29 R10) zF35 rfl) (fr_sp_X2_emit_25 F35 R36 y26 0) zF42 rfl) (hb7 F42 R43 x45))))))))))))
theorem fr_K_X3_product_c3_41 (F9 : Nat → Int32) (R10 : Nat → Nat → Int32) (y8 : Int32) (b7 : (Nat → Int32) → (Nat → Nat → Int32) → (Int32) → (Nat → Int32) × (Nat → Nat → Int32)) (hb7 : ∀ (F9 : Nat → Int32) (R10 : Nat → Nat → Int32) (y8 : Int32), kf2 md_X3_product_c3 mr_X3_product_c3 F9 R10 (b7 F9 R10 y8)) : kf2 md_X3_product_c3 mr_X3_product_c3 F9 R10 (K_X3_product_c3_41 b7 F9 R10 y8) := by
  unfold K_X3_product_c3_41
  exact (kf2_lt (fun r21 _ => (kf2_ite (kf2_tr (g_fr_rf _) (g_fr_rf _) (fr_K_X3_product_c3_71 F9 R10 y8 8 b7 hb7)) (kf2_lt (fun r49 _ => (kf2_ite (kf2_tr (g_fr_rf _) (g_fr_rf _) (fr_K_X3_product_c3_71 F9 R10 y8 9 b7 hb7)) (kf2_tr (g_fr_rf _) (g_fr_rf _) (fr_K_X3_product_c3_71 F9 R10 y8 10 b7 hb7))))))))
theorem fr_KB_X3_product_c3_7 (F9 : Nat → Int32) (R10 : Nat → Nat → Int32) (y8 : Int32) (b7 : (Nat → Int32) → (Nat → Nat → Int32) → (Int32) → (Nat → Int32) × (Nat → Nat → Int32)) (hb7 : ∀ (F9 : Nat → Int32) (R10 : Nat → Nat → Int32) (y8 : Int32), kf2 md_X3_product_c3 mr_X3_product_c3 F9 R10 (b7 F9 R10 y8)) : kf2 md_X3_product_c3 mr_X3_product_c3 F9 R10 (KB_X3_product_c3_7 b7 F9 R10 y8) := by
  unfold KB_X3_product_c3_7
  exact (kf2_ite (kf2_tr (g_fr_rf _) (g_fr_rf _) (fr_K_X3_product_c3_103 F9 R10)) (kf2_lt (fun r16 _ => (kf2_ite (kf2_tr (g_fr_rf _) (g_fr_rf _) (fr_K_X3_product_c3_41 F9 R10 y8 b7 hb7)) (kf2_lt (fun r64 _ => (kf2_ite (kf2_tr (g_fr_rf _) (g_fr_rf _) (fr_K_X3_product_c3_41 F9 R10 y8 b7 hb7)) (kf2_lt (fun r73 _ => (kf2_ite (kf2_tr (g_fr_rf _) (g_fr_rf _) (fr_K_X3_product_c3_41 F9 R10 y8 b7 hb7)) (kf2_tr (g_fr_rf _) (g_fr_rf _) (fr_K_X3_product_c3_103 F9 R10))))))))))))
theorem fr_K_X3_product_c3_7  : ∀ (n : Nat) (F9 : Nat → Int32) (R10 : Nat → Nat → Int32) (y8 : Int32), kf2 md_X3_product_c3 mr_X3_product_c3 F9 R10 (K_X3_product_c3_7  n F9 R10 y8)
  | 0, F9, R10, y8 => ⟨g_fr_rf _, g_fr_rf _⟩
  | n + 1, F9, R10, y8 => fr_KB_X3_product_c3_7 F9 R10 y8 (K_X3_product_c3_7  n) (fr_K_X3_product_c3_7  n)
theorem fr_sp_X3_product_c3 (F : Nat → Int32) (R : Nat → Nat → Int32) : kf2 md_X3_product_c3 mr_X3_product_c3 F R (sp_X3_product_c3 F R) := by
  unfold sp_X3_product_c3
  exact (kf2_lt2 (fun F5 R6 zF5 => (kf2_tr (kf2_F (g_fr_rf _) (fr_sp_X3_factor_c3 F R) zF5 rfl) (kf2_R (g_fr_rf _) (fr_sp_X3_factor_c3 F R) zF5 rfl) (fr_K_X3_product_c3_7 8589934592 F5 R6 0))))
theorem fr_K_X3_sum_c3_80 (F9 : Nat → Int32) (R10 : Nat → Nat → Int32) : kf2 md_X3_sum_c3 mr_X3_sum_c3 F9 R10 (K_X3_sum_c3_80 F9 R10) := by
  unfold K_X3_sum_c3_80
  exact ⟨(g_fr_rf _), (g_fr_rf _)⟩
theorem fr_K_X3_sum_c3_48 (F9 : Nat → Int32) (R10 : Nat → Nat → Int32) (y8 : Int32) (y26 : Int32) (b7 : (Nat → Int32) → (Nat → Nat → Int32) → (Int32) → (Nat → Int32) × (Nat → Nat → Int32)) (hb7 : ∀ (F9 : Nat → Int32) (R10 : Nat → Nat → Int32) (y8 : Int32), kf2 md_X3_sum_c3 mr_X3_sum_c3 F9 R10 (b7 F9 R10 y8)) : kf2 md_X3_sum_c3 mr_X3_sum_c3 F9 R10 (K_X3_sum_c3_48 b7 F9 R10 y8 y26) := by
  unfold K_X3_sum_c3_48
  exact (kf2_lt (fun x27 _ => (kf2_lt (fun F29 zF29 => (kf2_lt2 (fun F35 R36 zF35 => (kf2_lt3 (fun r38 F42 R43 zF42 => (kf2_lt (fun x45 _ => (kf2_tr (kf3_F (kf2_F (kf_u (g_fr_rf _) rfl zF29) (fr_sp_X3_product_c3 F29 R10) zF35 rfl) (fr_sp_X2_emit_25 F35 R36 y26 0) zF42 rfl) (kf3_R (kf2_R (g_fr_rf _) (fr_sp_X3_product_c3 F29 R10) zF35 rfl) (fr_sp_X2_emit_25 F35 R36 y26 0) zF42 rfl) (hb7 F42 R43 x45))))))))))))
theorem fr_K_X3_sum_c3_32 (F9 : Nat → Int32) (R10 : Nat → Nat → Int32) (y8 : Int32) (b7 : (Nat → Int32) → (Nat → Nat → Int32) → (Int32) → (Nat → Int32) × (Nat → Nat → Int32)) (hb7 : ∀ (F9 : Nat → Int32) (R10 : Nat → Nat → Int32) (y8 : Int32), kf2 md_X3_sum_c3 mr_X3_sum_c3 F9 R10 (b7 F9 R10 y8)) : kf2 md_X3_sum_c3 mr_X3_sum_c3 F9 R10 (K_X3_sum_c3_32 b7 F9 R10 y8) := by
  unfold K_X3_sum_c3_32
  exact (kf2_lt (fun r21 _ => (kf2_ite (kf2_tr (g_fr_rf _) (g_fr_rf _) (fr_K_X3_sum_c3_48 F9 R10 y8 6 b7 hb7)) (kf2_tr (g_fr_rf _) (g_fr_rf _) (fr_K_X3_sum_c3_48 F9 R10 y8 7 b7 hb7)))))
theorem fr_KB_X3_sum_c3_7 (F9 : Nat → Int32) (R10 : Nat → Nat → Int32) (y8 : Int32) (b7 : (Nat → Int32) → (Nat → Nat → Int32) → (Int32) → (Nat → Int32) × (Nat → Nat → Int32)) (hb7 : ∀ (F9 : Nat → Int32) (R10 : Nat → Nat → Int32) (y8 : Int32), kf2 md_X3_sum_c3 mr_X3_sum_c3 F9 R10 (b7 F9 R10 y8)) : kf2 md_X3_sum_c3 mr_X3_sum_c3 F9 R10 (KB_X3_sum_c3_7 b7 F9 R10 y8) := by
  unfold KB_X3_sum_c3_7
  exact (kf2_ite (kf2_tr (g_fr_rf _) (g_fr_rf _) (fr_K_X3_sum_c3_80 F9 R10)) (kf2_lt (fun r16 _ => (kf2_ite (kf2_tr (g_fr_rf _) (g_fr_rf _) (fr_K_X3_sum_c3_32 F9 R10 y8 b7 hb7)) (kf2_lt (fun r55 _ => (kf2_ite (kf2_tr (g_fr_rf _) (g_fr_rf _) (fr_K_X3_sum_c3_32 F9 R10 y8 b7 hb7)) (kf2_tr (g_fr_rf _) (g_fr_rf _) (fr_K_X3_sum_c3_80 F9 R10)))))))))
theorem fr_K_X3_sum_c3_7  : ∀ (n : Nat) (F9 : Nat → Int32) (R10 : Nat → Nat → Int32) (y8 : Int32), kf2 md_X3_sum_c3 mr_X3_sum_c3 F9 R10 (K_X3_sum_c3_7  n F9 R10 y8)
  | 0, F9, R10, y8 => ⟨g_fr_rf _, g_fr_rf _⟩
  | n + 1, F9, R10, y8 => fr_KB_X3_sum_c3_7 F9 R10 y8 (K_X3_sum_c3_7  n) (fr_K_X3_sum_c3_7  n)
theorem fr_sp_X3_sum_c3 (F : Nat → Int32) (R : Nat → Nat → Int32) : kf2 md_X3_sum_c3 mr_X3_sum_c3 F R (sp_X3_sum_c3 F R) := by
  unfold sp_X3_sum_c3
  exact (kf2_lt2 (fun F5 R6 zF5 => (kf2_tr (kf2_F (g_fr_rf _) (fr_sp_X3_product_c3 F R) zF5 rfl) (kf2_R (g_fr_rf _) (fr_sp_X3_product_c3 F R) zF5 rfl) (fr_K_X3_sum_c3_7 8589934592 F5 R6 0))))
theorem fr_K_X3_factor_c2_72 (F : Nat → Int32) (R : Nat → Nat → Int32) (y25 : Int32) : kf2 md_X3_factor_c2 mr_X3_factor_c2 F R (K_X3_factor_c2_72 F R y25) := by
  unfold K_X3_factor_c2_72
  exact (kf2_ite (kf2_lt (fun x29 _ => (kf2_lt (fun F31 zF31 => (kf2_lt3 (fun r33 F37 R38 zF37 => ⟨(kf3_F (kf_u (g_fr_rf _) rfl zF31) (fr_sp_X2_emit_25 F31 R 2 y25) zF37 rfl), (kf3_R (g_fr_rf _) (fr_sp_X2_emit_25 F31 R 2 y25) zF37 rfl)⟩)))))) (kf2_lt2 (fun F46 R47 zF46 => ⟨(kf2_F (g_fr_rf _) (fr_sp_X3_fail F R 1) zF46 rfl), (kf2_R (g_fr_rf _) (fr_sp_X3_fail F R 1) zF46 rfl)⟩)))
theorem fr_sp_X3_factor_c2 (F : Nat → Int32) (R : Nat → Nat → Int32) : kf2 md_X3_factor_c2 mr_X3_factor_c2 F R (sp_X3_factor_c2 F R) := by
  unfold sp_X3_factor_c2
  exact (kf2_lt (fun r1 _ => (kf2_ite (kf2_lt3 (fun r76 F80 R81 zF80 => (kf2_lt2 (fun F88 R89 zF88 => (kf2_lt2 (fun F95 R96 zF95 => ⟨(kf2_F (kf2_F (kf3_F (g_fr_rf _) (fr_sp_X3_opens_c2 F R) zF80 rfl) (fr_sp_X3_sum_c3 F80 R81) zF88 rfl) (fr_sp_X3_pass F88 R89 93) zF95 rfl), (kf2_R (kf2_R (kf3_R (g_fr_rf _) (fr_sp_X3_opens_c2 F R) zF80 rfl) (fr_sp_X3_sum_c3 F80 R81) zF88 rfl) (fr_sp_X3_pass F88 R89 93) zF95 rfl)⟩)))))) (kf2_lt (fun r8 _ => (kf2_lt (fun r13 _ => (kf2_ite (kf2_lt (fun r20 _ => (kf2_ite (kf2_tr (g_fr_rf _) (g_fr_rf _) (fr_K_X3_factor_c2_72 F R (-1))) (kf2_lt (fun r51 _ => (kf2_lt (fun x56 _ => (kf2_lt (fun r58 _ => (kf2_tr (g_fr_rf _) (g_fr_rf _) (fr_K_X3_factor_c2_72 F R r58))))))))))) (kf2_lt2 (fun F71 R72 zF71 => ⟨(kf2_F (g_fr_rf _) (fr_sp_X3_number F R) zF71 rfl), (kf2_R (g_fr_rf _) (fr_sp_X3_number F R) zF71 rfl)⟩))))))))))
theorem fr_K_X3_product_c2_103 (F9 : Nat → Int32) (R10 : Nat → Nat → Int32) : kf2 md_X3_product_c2 mr_X3_product_c2 F9 R10 (K_X3_product_c2_103 F9 R10) := by
  unfold K_X3_product_c2_103
  exact ⟨(g_fr_rf _), (g_fr_rf _)⟩
theorem fr_K_X3_product_c2_71 (F9 : Nat → Int32) (R10 : Nat → Nat → Int32) (y8 : Int32) (y26 : Int32) (b7 : (Nat → Int32) → (Nat → Nat → Int32) → (Int32) → (Nat → Int32) × (Nat → Nat → Int32)) (hb7 : ∀ (F9 : Nat → Int32) (R10 : Nat → Nat → Int32) (y8 : Int32), kf2 md_X3_product_c2 mr_X3_product_c2 F9 R10 (b7 F9 R10 y8)) : kf2 md_X3_product_c2 mr_X3_product_c2 F9 R10 (K_X3_product_c2_71 b7 F9 R10 y8 y26) := by
  unfold K_X3_product_c2_71
  exact (kf2_lt (fun x27 _ => (kf2_lt (fun F29 zF29 => (kf2_lt2 (fun F35 R36 zF35 => (kf2_lt3 (fun r38 F42 R43 zF42 => (kf2_lt (fun x45 _ => (kf2_tr (kf3_F (kf2_F (kf_u (g_fr_rf _) rfl zF29) (fr_sp_X3_factor_c2 F29 R10) zF35 rfl) (fr_sp_X2_emit_25 F35 R36 y26 0) zF42 rfl) (kf3_R (kf2_R (g_fr_rf _) (fr_sp_X3_factor_c2 F29 R10) zF35 rfl) (fr_sp_X2_emit_25 F35 R36 y26 0) zF42 rfl) (hb7 F42 R43 x45))))))))))))
theorem fr_K_X3_product_c2_41 (F9 : Nat → Int32) (R10 : Nat → Nat → Int32) (y8 : Int32) (b7 : (Nat → Int32) → (Nat → Nat → Int32) → (Int32) → (Nat → Int32) × (Nat → Nat → Int32)) (hb7 : ∀ (F9 : Nat → Int32) (R10 : Nat → Nat → Int32) (y8 : Int32), kf2 md_X3_product_c2 mr_X3_product_c2 F9 R10 (b7 F9 R10 y8)) : kf2 md_X3_product_c2 mr_X3_product_c2 F9 R10 (K_X3_product_c2_41 b7 F9 R10 y8) := by
  unfold K_X3_product_c2_41
  exact (kf2_lt (fun r21 _ => (kf2_ite (kf2_tr (g_fr_rf _) (g_fr_rf _) (fr_K_X3_product_c2_71 F9 R10 y8 8 b7 hb7)) (kf2_lt (fun r49 _ => (kf2_ite (kf2_tr (g_fr_rf _) (g_fr_rf _) (fr_K_X3_product_c2_71 F9 R10 y8 9 b7 hb7)) (kf2_tr (g_fr_rf _) (g_fr_rf _) (fr_K_X3_product_c2_71 F9 R10 y8 10 b7 hb7))))))))
theorem fr_KB_X3_product_c2_7 (F9 : Nat → Int32) (R10 : Nat → Nat → Int32) (y8 : Int32) (b7 : (Nat → Int32) → (Nat → Nat → Int32) → (Int32) → (Nat → Int32) × (Nat → Nat → Int32)) (hb7 : ∀ (F9 : Nat → Int32) (R10 : Nat → Nat → Int32) (y8 : Int32), kf2 md_X3_product_c2 mr_X3_product_c2 F9 R10 (b7 F9 R10 y8)) : kf2 md_X3_product_c2 mr_X3_product_c2 F9 R10 (KB_X3_product_c2_7 b7 F9 R10 y8) := by
  unfold KB_X3_product_c2_7
  exact (kf2_ite (kf2_tr (g_fr_rf _) (g_fr_rf _) (fr_K_X3_product_c2_103 F9 R10)) (kf2_lt (fun r16 _ => (kf2_ite (kf2_tr (g_fr_rf _) (g_fr_rf _) (fr_K_X3_product_c2_41 F9 R10 y8 b7 hb7)) (kf2_lt (fun r64 _ => (kf2_ite (kf2_tr (g_fr_rf _) (g_fr_rf _) (fr_K_X3_product_c2_41 F9 R10 y8 b7 hb7)) (kf2_lt (fun r73 _ => (kf2_ite (kf2_tr (g_fr_rf _) (g_fr_rf _) (fr_K_X3_product_c2_41 F9 R10 y8 b7 hb7)) (kf2_tr (g_fr_rf _) (g_fr_rf _) (fr_K_X3_product_c2_103 F9 R10))))))))))))
theorem fr_K_X3_product_c2_7  : ∀ (n : Nat) (F9 : Nat → Int32) (R10 : Nat → Nat → Int32) (y8 : Int32), kf2 md_X3_product_c2 mr_X3_product_c2 F9 R10 (K_X3_product_c2_7  n F9 R10 y8)
  | 0, F9, R10, y8 => ⟨g_fr_rf _, g_fr_rf _⟩
  | n + 1, F9, R10, y8 => fr_KB_X3_product_c2_7 F9 R10 y8 (K_X3_product_c2_7  n) (fr_K_X3_product_c2_7  n)
theorem fr_sp_X3_product_c2 (F : Nat → Int32) (R : Nat → Nat → Int32) : kf2 md_X3_product_c2 mr_X3_product_c2 F R (sp_X3_product_c2 F R) := by
  unfold sp_X3_product_c2
  exact (kf2_lt2 (fun F5 R6 zF5 => (kf2_tr (kf2_F (g_fr_rf _) (fr_sp_X3_factor_c2 F R) zF5 rfl) (kf2_R (g_fr_rf _) (fr_sp_X3_factor_c2 F R) zF5 rfl) (fr_K_X3_product_c2_7 8589934592 F5 R6 0))))
theorem fr_K_X3_sum_c2_80 (F9 : Nat → Int32) (R10 : Nat → Nat → Int32) : kf2 md_X3_sum_c2 mr_X3_sum_c2 F9 R10 (K_X3_sum_c2_80 F9 R10) := by
  unfold K_X3_sum_c2_80
  exact ⟨(g_fr_rf _), (g_fr_rf _)⟩
theorem fr_K_X3_sum_c2_48 (F9 : Nat → Int32) (R10 : Nat → Nat → Int32) (y8 : Int32) (y26 : Int32) (b7 : (Nat → Int32) → (Nat → Nat → Int32) → (Int32) → (Nat → Int32) × (Nat → Nat → Int32)) (hb7 : ∀ (F9 : Nat → Int32) (R10 : Nat → Nat → Int32) (y8 : Int32), kf2 md_X3_sum_c2 mr_X3_sum_c2 F9 R10 (b7 F9 R10 y8)) : kf2 md_X3_sum_c2 mr_X3_sum_c2 F9 R10 (K_X3_sum_c2_48 b7 F9 R10 y8 y26) := by
  unfold K_X3_sum_c2_48
  exact (kf2_lt (fun x27 _ => (kf2_lt (fun F29 zF29 => (kf2_lt2 (fun F35 R36 zF35 => (kf2_lt3 (fun r38 F42 R43 zF42 => (kf2_lt (fun x45 _ => (kf2_tr (kf3_F (kf2_F (kf_u (g_fr_rf _) rfl zF29) (fr_sp_X3_product_c2 F29 R10) zF35 rfl) (fr_sp_X2_emit_25 F35 R36 y26 0) zF42 rfl) (kf3_R (kf2_R (g_fr_rf _) (fr_sp_X3_product_c2 F29 R10) zF35 rfl) (fr_sp_X2_emit_25 F35 R36 y26 0) zF42 rfl) (hb7 F42 R43 x45))))))))))))
theorem fr_K_X3_sum_c2_32 (F9 : Nat → Int32) (R10 : Nat → Nat → Int32) (y8 : Int32) (b7 : (Nat → Int32) → (Nat → Nat → Int32) → (Int32) → (Nat → Int32) × (Nat → Nat → Int32)) (hb7 : ∀ (F9 : Nat → Int32) (R10 : Nat → Nat → Int32) (y8 : Int32), kf2 md_X3_sum_c2 mr_X3_sum_c2 F9 R10 (b7 F9 R10 y8)) : kf2 md_X3_sum_c2 mr_X3_sum_c2 F9 R10 (K_X3_sum_c2_32 b7 F9 R10 y8) := by
  unfold K_X3_sum_c2_32
  exact (kf2_lt (fun r21 _ => (kf2_ite (kf2_tr (g_fr_rf _) (g_fr_rf _) (fr_K_X3_sum_c2_48 F9 R10 y8 6 b7 hb7)) (kf2_tr (g_fr_rf _) (g_fr_rf _) (fr_K_X3_sum_c2_48 F9 R10 y8 7 b7 hb7)))))
theorem fr_KB_X3_sum_c2_7 (F9 : Nat → Int32) (R10 : Nat → Nat → Int32) (y8 : Int32) (b7 : (Nat → Int32) → (Nat → Nat → Int32) → (Int32) → (Nat → Int32) × (Nat → Nat → Int32)) (hb7 : ∀ (F9 : Nat → Int32) (R10 : Nat → Nat → Int32) (y8 : Int32), kf2 md_X3_sum_c2 mr_X3_sum_c2 F9 R10 (b7 F9 R10 y8)) : kf2 md_X3_sum_c2 mr_X3_sum_c2 F9 R10 (KB_X3_sum_c2_7 b7 F9 R10 y8) := by
  unfold KB_X3_sum_c2_7
  exact (kf2_ite (kf2_tr (g_fr_rf _) (g_fr_rf _) (fr_K_X3_sum_c2_80 F9 R10)) (kf2_lt (fun r16 _ => (kf2_ite (kf2_tr (g_fr_rf _) (g_fr_rf _) (fr_K_X3_sum_c2_32 F9 R10 y8 b7 hb7)) (kf2_lt (fun r55 _ => (kf2_ite (kf2_tr (g_fr_rf _) (g_fr_rf _) (fr_K_X3_sum_c2_32 F9 R10 y8 b7 hb7)) (kf2_tr (g_fr_rf _) (g_fr_rf _) (fr_K_X3_sum_c2_80 F9 R10)))))))))
theorem fr_K_X3_sum_c2_7  : ∀ (n : Nat) (F9 : Nat → Int32) (R10 : Nat → Nat → Int32) (y8 : Int32), kf2 md_X3_sum_c2 mr_X3_sum_c2 F9 R10 (K_X3_sum_c2_7  n F9 R10 y8)
  | 0, F9, R10, y8 => ⟨g_fr_rf _, g_fr_rf _⟩
  | n + 1, F9, R10, y8 => fr_KB_X3_sum_c2_7 F9 R10 y8 (K_X3_sum_c2_7  n) (fr_K_X3_sum_c2_7  n)
theorem fr_sp_X3_sum_c2 (F : Nat → Int32) (R : Nat → Nat → Int32) : kf2 md_X3_sum_c2 mr_X3_sum_c2 F R (sp_X3_sum_c2 F R) := by
  unfold sp_X3_sum_c2
  exact (kf2_lt2 (fun F5 R6 zF5 => (kf2_tr (kf2_F (g_fr_rf _) (fr_sp_X3_product_c2 F R) zF5 rfl) (kf2_R (g_fr_rf _) (fr_sp_X3_product_c2 F R) zF5 rfl) (fr_K_X3_sum_c2_7 8589934592 F5 R6 0))))
theorem fr_K_X3_factor_c1_72 (F : Nat → Int32) (R : Nat → Nat → Int32) (y25 : Int32) : kf2 md_X3_factor_c1 mr_X3_factor_c1 F R (K_X3_factor_c1_72 F R y25) := by
  unfold K_X3_factor_c1_72
  exact (kf2_ite (kf2_lt (fun x29 _ => (kf2_lt (fun F31 zF31 => (kf2_lt3 (fun r33 F37 R38 zF37 => ⟨(kf3_F (kf_u (g_fr_rf _) rfl zF31) (fr_sp_X2_emit_25 F31 R 2 y25) zF37 rfl), (kf3_R (g_fr_rf _) (fr_sp_X2_emit_25 F31 R 2 y25) zF37 rfl)⟩)))))) (kf2_lt2 (fun F46 R47 zF46 => ⟨(kf2_F (g_fr_rf _) (fr_sp_X3_fail F R 1) zF46 rfl), (kf2_R (g_fr_rf _) (fr_sp_X3_fail F R 1) zF46 rfl)⟩)))
theorem fr_sp_X3_factor_c1 (F : Nat → Int32) (R : Nat → Nat → Int32) : kf2 md_X3_factor_c1 mr_X3_factor_c1 F R (sp_X3_factor_c1 F R) := by
  unfold sp_X3_factor_c1
  exact (kf2_lt (fun r1 _ => (kf2_ite (kf2_lt3 (fun r76 F80 R81 zF80 => (kf2_lt2 (fun F88 R89 zF88 => (kf2_lt2 (fun F95 R96 zF95 => ⟨(kf2_F (kf2_F (kf3_F (g_fr_rf _) (fr_sp_X3_opens_c1 F R) zF80 rfl) (fr_sp_X3_sum_c2 F80 R81) zF88 rfl) (fr_sp_X3_pass F88 R89 93) zF95 rfl), (kf2_R (kf2_R (kf3_R (g_fr_rf _) (fr_sp_X3_opens_c1 F R) zF80 rfl) (fr_sp_X3_sum_c2 F80 R81) zF88 rfl) (fr_sp_X3_pass F88 R89 93) zF95 rfl)⟩)))))) (kf2_lt (fun r8 _ => (kf2_lt (fun r13 _ => (kf2_ite (kf2_lt (fun r20 _ => (kf2_ite (kf2_tr (g_fr_rf _) (g_fr_rf _) (fr_K_X3_factor_c1_72 F R (-1))) (kf2_lt (fun r51 _ => (kf2_lt (fun x56 _ => (kf2_lt (fun r58 _ => (kf2_tr (g_fr_rf _) (g_fr_rf _) (fr_K_X3_factor_c1_72 F R r58))))))))))) (kf2_lt2 (fun F71 R72 zF71 => ⟨(kf2_F (g_fr_rf _) (fr_sp_X3_number F R) zF71 rfl), (kf2_R (g_fr_rf _) (fr_sp_X3_number F R) zF71 rfl)⟩))))))))))
theorem fr_K_X3_product_c1_103 (F9 : Nat → Int32) (R10 : Nat → Nat → Int32) : kf2 md_X3_product_c1 mr_X3_product_c1 F9 R10 (K_X3_product_c1_103 F9 R10) := by
  unfold K_X3_product_c1_103
  exact ⟨(g_fr_rf _), (g_fr_rf _)⟩
theorem fr_K_X3_product_c1_71 (F9 : Nat → Int32) (R10 : Nat → Nat → Int32) (y8 : Int32) (y26 : Int32) (b7 : (Nat → Int32) → (Nat → Nat → Int32) → (Int32) → (Nat → Int32) × (Nat → Nat → Int32)) (hb7 : ∀ (F9 : Nat → Int32) (R10 : Nat → Nat → Int32) (y8 : Int32), kf2 md_X3_product_c1 mr_X3_product_c1 F9 R10 (b7 F9 R10 y8)) : kf2 md_X3_product_c1 mr_X3_product_c1 F9 R10 (K_X3_product_c1_71 b7 F9 R10 y8 y26) := by
  unfold K_X3_product_c1_71
  exact (kf2_lt (fun x27 _ => (kf2_lt (fun F29 zF29 => (kf2_lt2 (fun F35 R36 zF35 => (kf2_lt3 (fun r38 F42 R43 zF42 => (kf2_lt (fun x45 _ => (kf2_tr (kf3_F (kf2_F (kf_u (g_fr_rf _) rfl zF29) (fr_sp_X3_factor_c1 F29 R10) zF35 rfl) (fr_sp_X2_emit_25 F35 R36 y26 0) zF42 rfl) (kf3_R (kf2_R (g_fr_rf _) (fr_sp_X3_factor_c1 F29 R10) zF35 rfl) (fr_sp_X2_emit_25 F35 R36 y26 0) zF42 rfl) (hb7 F42 R43 x45))))))))))))
theorem fr_K_X3_product_c1_41 (F9 : Nat → Int32) (R10 : Nat → Nat → Int32) (y8 : Int32) (b7 : (Nat → Int32) → (Nat → Nat → Int32) → (Int32) → (Nat → Int32) × (Nat → Nat → Int32)) (hb7 : ∀ (F9 : Nat → Int32) (R10 : Nat → Nat → Int32) (y8 : Int32), kf2 md_X3_product_c1 mr_X3_product_c1 F9 R10 (b7 F9 R10 y8)) : kf2 md_X3_product_c1 mr_X3_product_c1 F9 R10 (K_X3_product_c1_41 b7 F9 R10 y8) := by
  unfold K_X3_product_c1_41
  exact (kf2_lt (fun r21 _ => (kf2_ite (kf2_tr (g_fr_rf _) (g_fr_rf _) (fr_K_X3_product_c1_71 F9 R10 y8 8 b7 hb7)) (kf2_lt (fun r49 _ => (kf2_ite (kf2_tr (g_fr_rf _) (g_fr_rf _) (fr_K_X3_product_c1_71 F9 R10 y8 9 b7 hb7)) (kf2_tr (g_fr_rf _) (g_fr_rf _) (fr_K_X3_product_c1_71 F9 R10 y8 10 b7 hb7))))))))
theorem fr_KB_X3_product_c1_7 (F9 : Nat → Int32) (R10 : Nat → Nat → Int32) (y8 : Int32) (b7 : (Nat → Int32) → (Nat → Nat → Int32) → (Int32) → (Nat → Int32) × (Nat → Nat → Int32)) (hb7 : ∀ (F9 : Nat → Int32) (R10 : Nat → Nat → Int32) (y8 : Int32), kf2 md_X3_product_c1 mr_X3_product_c1 F9 R10 (b7 F9 R10 y8)) : kf2 md_X3_product_c1 mr_X3_product_c1 F9 R10 (KB_X3_product_c1_7 b7 F9 R10 y8) := by
  unfold KB_X3_product_c1_7
  exact (kf2_ite (kf2_tr (g_fr_rf _) (g_fr_rf _) (fr_K_X3_product_c1_103 F9 R10)) (kf2_lt (fun r16 _ => (kf2_ite (kf2_tr (g_fr_rf _) (g_fr_rf _) (fr_K_X3_product_c1_41 F9 R10 y8 b7 hb7)) (kf2_lt (fun r64 _ => (kf2_ite (kf2_tr (g_fr_rf _) (g_fr_rf _) (fr_K_X3_product_c1_41 F9 R10 y8 b7 hb7)) (kf2_lt (fun r73 _ => (kf2_ite (kf2_tr (g_fr_rf _) (g_fr_rf _) (fr_K_X3_product_c1_41 F9 R10 y8 b7 hb7)) (kf2_tr (g_fr_rf _) (g_fr_rf _) (fr_K_X3_product_c1_103 F9 R10))))))))))))
theorem fr_K_X3_product_c1_7  : ∀ (n : Nat) (F9 : Nat → Int32) (R10 : Nat → Nat → Int32) (y8 : Int32), kf2 md_X3_product_c1 mr_X3_product_c1 F9 R10 (K_X3_product_c1_7  n F9 R10 y8)
  | 0, F9, R10, y8 => ⟨g_fr_rf _, g_fr_rf _⟩
  | n + 1, F9, R10, y8 => fr_KB_X3_product_c1_7 F9 R10 y8 (K_X3_product_c1_7  n) (fr_K_X3_product_c1_7  n)
theorem fr_sp_X3_product_c1 (F : Nat → Int32) (R : Nat → Nat → Int32) : kf2 md_X3_product_c1 mr_X3_product_c1 F R (sp_X3_product_c1 F R) := by
  unfold sp_X3_product_c1
  exact (kf2_lt2 (fun F5 R6 zF5 => (kf2_tr (kf2_F (g_fr_rf _) (fr_sp_X3_factor_c1 F R) zF5 rfl) (kf2_R (g_fr_rf _) (fr_sp_X3_factor_c1 F R) zF5 rfl) (fr_K_X3_product_c1_7 8589934592 F5 R6 0))))
theorem fr_K_X3_sum_c1_80 (F9 : Nat → Int32) (R10 : Nat → Nat → Int32) : kf2 md_X3_sum_c1 mr_X3_sum_c1 F9 R10 (K_X3_sum_c1_80 F9 R10) := by
  unfold K_X3_sum_c1_80
  exact ⟨(g_fr_rf _), (g_fr_rf _)⟩
theorem fr_K_X3_sum_c1_48 (F9 : Nat → Int32) (R10 : Nat → Nat → Int32) (y8 : Int32) (y26 : Int32) (b7 : (Nat → Int32) → (Nat → Nat → Int32) → (Int32) → (Nat → Int32) × (Nat → Nat → Int32)) (hb7 : ∀ (F9 : Nat → Int32) (R10 : Nat → Nat → Int32) (y8 : Int32), kf2 md_X3_sum_c1 mr_X3_sum_c1 F9 R10 (b7 F9 R10 y8)) : kf2 md_X3_sum_c1 mr_X3_sum_c1 F9 R10 (K_X3_sum_c1_48 b7 F9 R10 y8 y26) := by
  unfold K_X3_sum_c1_48
  exact (kf2_lt (fun x27 _ => (kf2_lt (fun F29 zF29 => (kf2_lt2 (fun F35 R36 zF35 => (kf2_lt3 (fun r38 F42 R43 zF42 => (kf2_lt (fun x45 _ => (kf2_tr (kf3_F (kf2_F (kf_u (g_fr_rf _) rfl zF29) (fr_sp_X3_product_c1 F29 R10) zF35 rfl) (fr_sp_X2_emit_25 F35 R36 y26 0) zF42 rfl) (kf3_R (kf2_R (g_fr_rf _) (fr_sp_X3_product_c1 F29 R10) zF35 rfl) (fr_sp_X2_emit_25 F35 R36 y26 0) zF42 rfl) (hb7 F42 R43 x45))))))))))))
theorem fr_K_X3_sum_c1_32 (F9 : Nat → Int32) (R10 : Nat → Nat → Int32) (y8 : Int32) (b7 : (Nat → Int32) → (Nat → Nat → Int32) → (Int32) → (Nat → Int32) × (Nat → Nat → Int32)) (hb7 : ∀ (F9 : Nat → Int32) (R10 : Nat → Nat → Int32) (y8 : Int32), kf2 md_X3_sum_c1 mr_X3_sum_c1 F9 R10 (b7 F9 R10 y8)) : kf2 md_X3_sum_c1 mr_X3_sum_c1 F9 R10 (K_X3_sum_c1_32 b7 F9 R10 y8) := by
  unfold K_X3_sum_c1_32
  exact (kf2_lt (fun r21 _ => (kf2_ite (kf2_tr (g_fr_rf _) (g_fr_rf _) (fr_K_X3_sum_c1_48 F9 R10 y8 6 b7 hb7)) (kf2_tr (g_fr_rf _) (g_fr_rf _) (fr_K_X3_sum_c1_48 F9 R10 y8 7 b7 hb7)))))
theorem fr_KB_X3_sum_c1_7 (F9 : Nat → Int32) (R10 : Nat → Nat → Int32) (y8 : Int32) (b7 : (Nat → Int32) → (Nat → Nat → Int32) → (Int32) → (Nat → Int32) × (Nat → Nat → Int32)) (hb7 : ∀ (F9 : Nat → Int32) (R10 : Nat → Nat → Int32) (y8 : Int32), kf2 md_X3_sum_c1 mr_X3_sum_c1 F9 R10 (b7 F9 R10 y8)) : kf2 md_X3_sum_c1 mr_X3_sum_c1 F9 R10 (KB_X3_sum_c1_7 b7 F9 R10 y8) := by
  unfold KB_X3_sum_c1_7
  exact (kf2_ite (kf2_tr (g_fr_rf _) (g_fr_rf _) (fr_K_X3_sum_c1_80 F9 R10)) (kf2_lt (fun r16 _ => (kf2_ite (kf2_tr (g_fr_rf _) (g_fr_rf _) (fr_K_X3_sum_c1_32 F9 R10 y8 b7 hb7)) (kf2_lt (fun r55 _ => (kf2_ite (kf2_tr (g_fr_rf _) (g_fr_rf _) (fr_K_X3_sum_c1_32 F9 R10 y8 b7 hb7)) (kf2_tr (g_fr_rf _) (g_fr_rf _) (fr_K_X3_sum_c1_80 F9 R10)))))))))
theorem fr_K_X3_sum_c1_7  : ∀ (n : Nat) (F9 : Nat → Int32) (R10 : Nat → Nat → Int32) (y8 : Int32), kf2 md_X3_sum_c1 mr_X3_sum_c1 F9 R10 (K_X3_sum_c1_7  n F9 R10 y8)
  | 0, F9, R10, y8 => ⟨g_fr_rf _, g_fr_rf _⟩
  | n + 1, F9, R10, y8 => fr_KB_X3_sum_c1_7 F9 R10 y8 (K_X3_sum_c1_7  n) (fr_K_X3_sum_c1_7  n)
theorem fr_sp_X3_sum_c1 (F : Nat → Int32) (R : Nat → Nat → Int32) : kf2 md_X3_sum_c1 mr_X3_sum_c1 F R (sp_X3_sum_c1 F R) := by
  unfold sp_X3_sum_c1
  exact (kf2_lt2 (fun F5 R6 zF5 => (kf2_tr (kf2_F (g_fr_rf _) (fr_sp_X3_product_c1 F R) zF5 rfl) (kf2_R (g_fr_rf _) (fr_sp_X3_product_c1 F R) zF5 rfl) (fr_K_X3_sum_c1_7 8589934592 F5 R6 0))))
theorem fr_K_X3_factor_c0_72 (F : Nat → Int32) (R : Nat → Nat → Int32) (y25 : Int32) : kf2 md_X3_factor_c0 mr_X3_factor_c0 F R (K_X3_factor_c0_72 F R y25) := by
  unfold K_X3_factor_c0_72
  exact (kf2_ite (kf2_lt (fun x29 _ => (kf2_lt (fun F31 zF31 => (kf2_lt3 (fun r33 F37 R38 zF37 => ⟨(kf3_F (kf_u (g_fr_rf _) rfl zF31) (fr_sp_X2_emit_25 F31 R 2 y25) zF37 rfl), (kf3_R (g_fr_rf _) (fr_sp_X2_emit_25 F31 R 2 y25) zF37 rfl)⟩)))))) (kf2_lt2 (fun F46 R47 zF46 => ⟨(kf2_F (g_fr_rf _) (fr_sp_X3_fail F R 1) zF46 rfl), (kf2_R (g_fr_rf _) (fr_sp_X3_fail F R 1) zF46 rfl)⟩)))
theorem fr_sp_X3_factor_c0 (F : Nat → Int32) (R : Nat → Nat → Int32) : kf2 md_X3_factor_c0 mr_X3_factor_c0 F R (sp_X3_factor_c0 F R) := by
  unfold sp_X3_factor_c0
  exact (kf2_lt (fun r1 _ => (kf2_ite (kf2_lt3 (fun r76 F80 R81 zF80 => (kf2_lt2 (fun F88 R89 zF88 => (kf2_lt2 (fun F95 R96 zF95 => ⟨(kf2_F (kf2_F (kf3_F (g_fr_rf _) (fr_sp_X3_opens_c0 F R) zF80 rfl) (fr_sp_X3_sum_c1 F80 R81) zF88 rfl) (fr_sp_X3_pass F88 R89 93) zF95 rfl), (kf2_R (kf2_R (kf3_R (g_fr_rf _) (fr_sp_X3_opens_c0 F R) zF80 rfl) (fr_sp_X3_sum_c1 F80 R81) zF88 rfl) (fr_sp_X3_pass F88 R89 93) zF95 rfl)⟩)))))) (kf2_lt (fun r8 _ => (kf2_lt (fun r13 _ => (kf2_ite (kf2_lt (fun r20 _ => (kf2_ite (kf2_tr (g_fr_rf _) (g_fr_rf _) (fr_K_X3_factor_c0_72 F R (-1))) (kf2_lt (fun r51 _ => (kf2_lt (fun x56 _ => (kf2_lt (fun r58 _ => (kf2_tr (g_fr_rf _) (g_fr_rf _) (fr_K_X3_factor_c0_72 F R r58))))))))))) (kf2_lt2 (fun F71 R72 zF71 => ⟨(kf2_F (g_fr_rf _) (fr_sp_X3_number F R) zF71 rfl), (kf2_R (g_fr_rf _) (fr_sp_X3_number F R) zF71 rfl)⟩))))))))))
theorem fr_K_X3_product_c0_103 (F9 : Nat → Int32) (R10 : Nat → Nat → Int32) : kf2 md_X3_product_c0 mr_X3_product_c0 F9 R10 (K_X3_product_c0_103 F9 R10) := by
  unfold K_X3_product_c0_103
  exact ⟨(g_fr_rf _), (g_fr_rf _)⟩
theorem fr_K_X3_product_c0_71 (F9 : Nat → Int32) (R10 : Nat → Nat → Int32) (y8 : Int32) (y26 : Int32) (b7 : (Nat → Int32) → (Nat → Nat → Int32) → (Int32) → (Nat → Int32) × (Nat → Nat → Int32)) (hb7 : ∀ (F9 : Nat → Int32) (R10 : Nat → Nat → Int32) (y8 : Int32), kf2 md_X3_product_c0 mr_X3_product_c0 F9 R10 (b7 F9 R10 y8)) : kf2 md_X3_product_c0 mr_X3_product_c0 F9 R10 (K_X3_product_c0_71 b7 F9 R10 y8 y26) := by
  unfold K_X3_product_c0_71
  exact (kf2_lt (fun x27 _ => (kf2_lt (fun F29 zF29 => (kf2_lt2 (fun F35 R36 zF35 => (kf2_lt3 (fun r38 F42 R43 zF42 => (kf2_lt (fun x45 _ => (kf2_tr (kf3_F (kf2_F (kf_u (g_fr_rf _) rfl zF29) (fr_sp_X3_factor_c0 F29 R10) zF35 rfl) (fr_sp_X2_emit_25 F35 R36 y26 0) zF42 rfl) (kf3_R (kf2_R (g_fr_rf _) (fr_sp_X3_factor_c0 F29 R10) zF35 rfl) (fr_sp_X2_emit_25 F35 R36 y26 0) zF42 rfl) (hb7 F42 R43 x45))))))))))))
theorem fr_K_X3_product_c0_41 (F9 : Nat → Int32) (R10 : Nat → Nat → Int32) (y8 : Int32) (b7 : (Nat → Int32) → (Nat → Nat → Int32) → (Int32) → (Nat → Int32) × (Nat → Nat → Int32)) (hb7 : ∀ (F9 : Nat → Int32) (R10 : Nat → Nat → Int32) (y8 : Int32), kf2 md_X3_product_c0 mr_X3_product_c0 F9 R10 (b7 F9 R10 y8)) : kf2 md_X3_product_c0 mr_X3_product_c0 F9 R10 (K_X3_product_c0_41 b7 F9 R10 y8) := by
  unfold K_X3_product_c0_41
  exact (kf2_lt (fun r21 _ => (kf2_ite (kf2_tr (g_fr_rf _) (g_fr_rf _) (fr_K_X3_product_c0_71 F9 R10 y8 8 b7 hb7)) (kf2_lt (fun r49 _ => (kf2_ite (kf2_tr (g_fr_rf _) (g_fr_rf _) (fr_K_X3_product_c0_71 F9 R10 y8 9 b7 hb7)) (kf2_tr (g_fr_rf _) (g_fr_rf _) (fr_K_X3_product_c0_71 F9 R10 y8 10 b7 hb7))))))))
theorem fr_KB_X3_product_c0_7 (F9 : Nat → Int32) (R10 : Nat → Nat → Int32) (y8 : Int32) (b7 : (Nat → Int32) → (Nat → Nat → Int32) → (Int32) → (Nat → Int32) × (Nat → Nat → Int32)) (hb7 : ∀ (F9 : Nat → Int32) (R10 : Nat → Nat → Int32) (y8 : Int32), kf2 md_X3_product_c0 mr_X3_product_c0 F9 R10 (b7 F9 R10 y8)) : kf2 md_X3_product_c0 mr_X3_product_c0 F9 R10 (KB_X3_product_c0_7 b7 F9 R10 y8) := by
  unfold KB_X3_product_c0_7
  exact (kf2_ite (kf2_tr (g_fr_rf _) (g_fr_rf _) (fr_K_X3_product_c0_103 F9 R10)) (kf2_lt (fun r16 _ => (kf2_ite (kf2_tr (g_fr_rf _) (g_fr_rf _) (fr_K_X3_product_c0_41 F9 R10 y8 b7 hb7)) (kf2_lt (fun r64 _ => (kf2_ite (kf2_tr (g_fr_rf _) (g_fr_rf _) (fr_K_X3_product_c0_41 F9 R10 y8 b7 hb7)) (kf2_lt (fun r73 _ => (kf2_ite (kf2_tr (g_fr_rf _) (g_fr_rf _) (fr_K_X3_product_c0_41 F9 R10 y8 b7 hb7)) (kf2_tr (g_fr_rf _) (g_fr_rf _) (fr_K_X3_product_c0_103 F9 R10))))))))))))
theorem fr_K_X3_product_c0_7  : ∀ (n : Nat) (F9 : Nat → Int32) (R10 : Nat → Nat → Int32) (y8 : Int32), kf2 md_X3_product_c0 mr_X3_product_c0 F9 R10 (K_X3_product_c0_7  n F9 R10 y8)
  | 0, F9, R10, y8 => ⟨g_fr_rf _, g_fr_rf _⟩
  | n + 1, F9, R10, y8 => fr_KB_X3_product_c0_7 F9 R10 y8 (K_X3_product_c0_7  n) (fr_K_X3_product_c0_7  n)
theorem fr_sp_X3_product_c0 (F : Nat → Int32) (R : Nat → Nat → Int32) : kf2 md_X3_product_c0 mr_X3_product_c0 F R (sp_X3_product_c0 F R) := by
  unfold sp_X3_product_c0
  exact (kf2_lt2 (fun F5 R6 zF5 => (kf2_tr (kf2_F (g_fr_rf _) (fr_sp_X3_factor_c0 F R) zF5 rfl) (kf2_R (g_fr_rf _) (fr_sp_X3_factor_c0 F R) zF5 rfl) (fr_K_X3_product_c0_7 8589934592 F5 R6 0))))
theorem fr_K_X3_sum_c0_80 (F9 : Nat → Int32) (R10 : Nat → Nat → Int32) : kf2 md_X3_sum_c0 mr_X3_sum_c0 F9 R10 (K_X3_sum_c0_80 F9 R10) := by
  unfold K_X3_sum_c0_80
  exact ⟨(g_fr_rf _), (g_fr_rf _)⟩
theorem fr_K_X3_sum_c0_48 (F9 : Nat → Int32) (R10 : Nat → Nat → Int32) (y8 : Int32) (y26 : Int32) (b7 : (Nat → Int32) → (Nat → Nat → Int32) → (Int32) → (Nat → Int32) × (Nat → Nat → Int32)) (hb7 : ∀ (F9 : Nat → Int32) (R10 : Nat → Nat → Int32) (y8 : Int32), kf2 md_X3_sum_c0 mr_X3_sum_c0 F9 R10 (b7 F9 R10 y8)) : kf2 md_X3_sum_c0 mr_X3_sum_c0 F9 R10 (K_X3_sum_c0_48 b7 F9 R10 y8 y26) := by
  unfold K_X3_sum_c0_48
  exact (kf2_lt (fun x27 _ => (kf2_lt (fun F29 zF29 => (kf2_lt2 (fun F35 R36 zF35 => (kf2_lt3 (fun r38 F42 R43 zF42 => (kf2_lt (fun x45 _ => (kf2_tr (kf3_F (kf2_F (kf_u (g_fr_rf _) rfl zF29) (fr_sp_X3_product_c0 F29 R10) zF35 rfl) (fr_sp_X2_emit_25 F35 R36 y26 0) zF42 rfl) (kf3_R (kf2_R (g_fr_rf _) (fr_sp_X3_product_c0 F29 R10) zF35 rfl) (fr_sp_X2_emit_25 F35 R36 y26 0) zF42 rfl) (hb7 F42 R43 x45))))))))))))
theorem fr_K_X3_sum_c0_32 (F9 : Nat → Int32) (R10 : Nat → Nat → Int32) (y8 : Int32) (b7 : (Nat → Int32) → (Nat → Nat → Int32) → (Int32) → (Nat → Int32) × (Nat → Nat → Int32)) (hb7 : ∀ (F9 : Nat → Int32) (R10 : Nat → Nat → Int32) (y8 : Int32), kf2 md_X3_sum_c0 mr_X3_sum_c0 F9 R10 (b7 F9 R10 y8)) : kf2 md_X3_sum_c0 mr_X3_sum_c0 F9 R10 (K_X3_sum_c0_32 b7 F9 R10 y8) := by
  unfold K_X3_sum_c0_32
  exact (kf2_lt (fun r21 _ => (kf2_ite (kf2_tr (g_fr_rf _) (g_fr_rf _) (fr_K_X3_sum_c0_48 F9 R10 y8 6 b7 hb7)) (kf2_tr (g_fr_rf _) (g_fr_rf _) (fr_K_X3_sum_c0_48 F9 R10 y8 7 b7 hb7)))))
theorem fr_KB_X3_sum_c0_7 (F9 : Nat → Int32) (R10 : Nat → Nat → Int32) (y8 : Int32) (b7 : (Nat → Int32) → (Nat → Nat → Int32) → (Int32) → (Nat → Int32) × (Nat → Nat → Int32)) (hb7 : ∀ (F9 : Nat → Int32) (R10 : Nat → Nat → Int32) (y8 : Int32), kf2 md_X3_sum_c0 mr_X3_sum_c0 F9 R10 (b7 F9 R10 y8)) : kf2 md_X3_sum_c0 mr_X3_sum_c0 F9 R10 (KB_X3_sum_c0_7 b7 F9 R10 y8) := by
  unfold KB_X3_sum_c0_7
  exact (kf2_ite (kf2_tr (g_fr_rf _) (g_fr_rf _) (fr_K_X3_sum_c0_80 F9 R10)) (kf2_lt (fun r16 _ => (kf2_ite (kf2_tr (g_fr_rf _) (g_fr_rf _) (fr_K_X3_sum_c0_32 F9 R10 y8 b7 hb7)) (kf2_lt (fun r55 _ => (kf2_ite (kf2_tr (g_fr_rf _) (g_fr_rf _) (fr_K_X3_sum_c0_32 F9 R10 y8 b7 hb7)) (kf2_tr (g_fr_rf _) (g_fr_rf _) (fr_K_X3_sum_c0_80 F9 R10)))))))))
theorem fr_K_X3_sum_c0_7  : ∀ (n : Nat) (F9 : Nat → Int32) (R10 : Nat → Nat → Int32) (y8 : Int32), kf2 md_X3_sum_c0 mr_X3_sum_c0 F9 R10 (K_X3_sum_c0_7  n F9 R10 y8)
  | 0, F9, R10, y8 => ⟨g_fr_rf _, g_fr_rf _⟩
  | n + 1, F9, R10, y8 => fr_KB_X3_sum_c0_7 F9 R10 y8 (K_X3_sum_c0_7  n) (fr_K_X3_sum_c0_7  n)
theorem fr_sp_X3_sum_c0 (F : Nat → Int32) (R : Nat → Nat → Int32) : kf2 md_X3_sum_c0 mr_X3_sum_c0 F R (sp_X3_sum_c0 F R) := by
  unfold sp_X3_sum_c0
  exact (kf2_lt2 (fun F5 R6 zF5 => (kf2_tr (kf2_F (g_fr_rf _) (fr_sp_X3_product_c0 F R) zF5 rfl) (kf2_R (g_fr_rf _) (fr_sp_X3_product_c0 F R) zF5 rfl) (fr_K_X3_sum_c0_7 8589934592 F5 R6 0))))
theorem fr_K_X3_comparison_c1_49 (F5 : Nat → Int32) (R6 : Nat → Nat → Int32) (y13 : Int32) : kf2 md_X3_comparison_c1 mr_X3_comparison_c1 F5 R6 (K_X3_comparison_c1_49 F5 R6 y13) := by
  unfold K_X3_comparison_c1_49
  exact (kf2_ite (kf2_lt2 (fun F41 R42 zF41 => ⟨(kf2_F (g_fr_rf _) (fr_sp_X3_fail F5 R6 1) zF41 rfl), (kf2_R (g_fr_rf _) (fr_sp_X3_fail F5 R6 1) zF41 rfl)⟩)) (kf2_lt (fun x17 _ => (kf2_lt (fun F19 zF19 => (kf2_lt2 (fun F25 R26 zF25 => (kf2_lt3 (fun r28 F32 R33 zF32 => ⟨(kf3_F (kf2_F (kf_u (g_fr_rf _) rfl zF19) (fr_sp_X3_sum_c1 F19 R6) zF25 rfl) (fr_sp_X2_emit_25 F25 R26 y13 0) zF32 rfl), (kf3_R (kf2_R (g_fr_rf _) (fr_sp_X3_sum_c1 F19 R6) zF25 rfl) (fr_sp_X2_emit_25 F25 R26 y13 0) zF32 rfl)⟩)))))))))
theorem fr_sp_X3_comparison_c1 (F : Nat → Int32) (R : Nat → Nat → Int32) : kf2 md_X3_comparison_c1 mr_X3_comparison_c1 F R (sp_X3_comparison_c1 F R) := by
  unfold sp_X3_comparison_c1
  exact (kf2_lt2 (fun F5 R6 zF5 => (kf2_lt (fun r8 _ => (kf2_ite (kf2_tr (kf2_F (g_fr_rf _) (fr_sp_X3_sum_c1 F R) zF5 rfl) (kf2_R (g_fr_rf _) (fr_sp_X3_sum_c1 F R) zF5 rfl) (fr_K_X3_comparison_c1_49 F5 R6 11)) (kf2_lt (fun r46 _ => (kf2_ite (kf2_tr (kf2_F (g_fr_rf _) (fr_sp_X3_sum_c1 F R) zF5 rfl) (kf2_R (g_fr_rf _) (fr_sp_X3_sum_c1 F R) zF5 rfl) (fr_K_X3_comparison_c1_49 F5 R6 12)) (kf2_lt (fun r53 _ => (kf2_ite (kf2_tr (kf2_F (g_fr_rf _) (fr_sp_X3_sum_c1 F R) zF5 rfl) (kf2_R (g_fr_rf _) (fr_sp_X3_sum_c1 F R) zF5 rfl) (fr_K_X3_comparison_c1_49 F5 R6 13)) (kf2_tr (kf2_F (g_fr_rf _) (fr_sp_X3_sum_c1 F R) zF5 rfl) (kf2_R (g_fr_rf _) (fr_sp_X3_sum_c1 F R) zF5 rfl) (fr_K_X3_comparison_c1_49 F5 R6 (-1))))))))))))))
theorem fr_K_X3_comparison_c2_49 (F5 : Nat → Int32) (R6 : Nat → Nat → Int32) (y13 : Int32) : kf2 md_X3_comparison_c2 mr_X3_comparison_c2 F5 R6 (K_X3_comparison_c2_49 F5 R6 y13) := by
  unfold K_X3_comparison_c2_49
  exact (kf2_ite (kf2_lt2 (fun F41 R42 zF41 => ⟨(kf2_F (g_fr_rf _) (fr_sp_X3_fail F5 R6 1) zF41 rfl), (kf2_R (g_fr_rf _) (fr_sp_X3_fail F5 R6 1) zF41 rfl)⟩)) (kf2_lt (fun x17 _ => (kf2_lt (fun F19 zF19 => (kf2_lt2 (fun F25 R26 zF25 => (kf2_lt3 (fun r28 F32 R33 zF32 => ⟨(kf3_F (kf2_F (kf_u (g_fr_rf _) rfl zF19) (fr_sp_X3_sum_c2 F19 R6) zF25 rfl) (fr_sp_X2_emit_25 F25 R26 y13 0) zF32 rfl), (kf3_R (kf2_R (g_fr_rf _) (fr_sp_X3_sum_c2 F19 R6) zF25 rfl) (fr_sp_X2_emit_25 F25 R26 y13 0) zF32 rfl)⟩)))))))))
theorem fr_sp_X3_comparison_c2 (F : Nat → Int32) (R : Nat → Nat → Int32) : kf2 md_X3_comparison_c2 mr_X3_comparison_c2 F R (sp_X3_comparison_c2 F R) := by
  unfold sp_X3_comparison_c2
  exact (kf2_lt2 (fun F5 R6 zF5 => (kf2_lt (fun r8 _ => (kf2_ite (kf2_tr (kf2_F (g_fr_rf _) (fr_sp_X3_sum_c2 F R) zF5 rfl) (kf2_R (g_fr_rf _) (fr_sp_X3_sum_c2 F R) zF5 rfl) (fr_K_X3_comparison_c2_49 F5 R6 11)) (kf2_lt (fun r46 _ => (kf2_ite (kf2_tr (kf2_F (g_fr_rf _) (fr_sp_X3_sum_c2 F R) zF5 rfl) (kf2_R (g_fr_rf _) (fr_sp_X3_sum_c2 F R) zF5 rfl) (fr_K_X3_comparison_c2_49 F5 R6 12)) (kf2_lt (fun r53 _ => (kf2_ite (kf2_tr (kf2_F (g_fr_rf _) (fr_sp_X3_sum_c2 F R) zF5 rfl) (kf2_R (g_fr_rf _) (fr_sp_X3_sum_c2 F R) zF5 rfl) (fr_K_X3_comparison_c2_49 F5 R6 13)) (kf2_tr (kf2_F (g_fr_rf _) (fr_sp_X3_sum_c2 F R) zF5 rfl) (kf2_R (g_fr_rf _) (fr_sp_X3_sum_c2 F R) zF5 rfl) (fr_K_X3_comparison_c2_49 F5 R6 (-1))))))))))))))
theorem fr_K_X3_comparison_c3_49 (F5 : Nat → Int32) (R6 : Nat → Nat → Int32) (y13 : Int32) : kf2 md_X3_comparison_c3 mr_X3_comparison_c3 F5 R6 (K_X3_comparison_c3_49 F5 R6 y13) := by
  unfold K_X3_comparison_c3_49
  exact (kf2_ite (kf2_lt2 (fun F41 R42 zF41 => ⟨(kf2_F (g_fr_rf _) (fr_sp_X3_fail F5 R6 1) zF41 rfl), (kf2_R (g_fr_rf _) (fr_sp_X3_fail F5 R6 1) zF41 rfl)⟩)) (kf2_lt (fun x17 _ => (kf2_lt (fun F19 zF19 => (kf2_lt2 (fun F25 R26 zF25 => (kf2_lt3 (fun r28 F32 R33 zF32 => ⟨(kf3_F (kf2_F (kf_u (g_fr_rf _) rfl zF19) (fr_sp_X3_sum_c3 F19 R6) zF25 rfl) (fr_sp_X2_emit_25 F25 R26 y13 0) zF32 rfl), (kf3_R (kf2_R (g_fr_rf _) (fr_sp_X3_sum_c3 F19 R6) zF25 rfl) (fr_sp_X2_emit_25 F25 R26 y13 0) zF32 rfl)⟩)))))))))
theorem fr_sp_X3_comparison_c3 (F : Nat → Int32) (R : Nat → Nat → Int32) : kf2 md_X3_comparison_c3 mr_X3_comparison_c3 F R (sp_X3_comparison_c3 F R) := by
  unfold sp_X3_comparison_c3
  exact (kf2_lt2 (fun F5 R6 zF5 => (kf2_lt (fun r8 _ => (kf2_ite (kf2_tr (kf2_F (g_fr_rf _) (fr_sp_X3_sum_c3 F R) zF5 rfl) (kf2_R (g_fr_rf _) (fr_sp_X3_sum_c3 F R) zF5 rfl) (fr_K_X3_comparison_c3_49 F5 R6 11)) (kf2_lt (fun r46 _ => (kf2_ite (kf2_tr (kf2_F (g_fr_rf _) (fr_sp_X3_sum_c3 F R) zF5 rfl) (kf2_R (g_fr_rf _) (fr_sp_X3_sum_c3 F R) zF5 rfl) (fr_K_X3_comparison_c3_49 F5 R6 12)) (kf2_lt (fun r53 _ => (kf2_ite (kf2_tr (kf2_F (g_fr_rf _) (fr_sp_X3_sum_c3 F R) zF5 rfl) (kf2_R (g_fr_rf _) (fr_sp_X3_sum_c3 F R) zF5 rfl) (fr_K_X3_comparison_c3_49 F5 R6 13)) (kf2_tr (kf2_F (g_fr_rf _) (fr_sp_X3_sum_c3 F R) zF5 rfl) (kf2_R (g_fr_rf _) (fr_sp_X3_sum_c3 F R) zF5 rfl) (fr_K_X3_comparison_c3_49 F5 R6 (-1))))))))))))))
theorem fr_K_X3_comparison_c4_49 (F5 : Nat → Int32) (R6 : Nat → Nat → Int32) (y13 : Int32) : kf2 md_X3_comparison_c4 mr_X3_comparison_c4 F5 R6 (K_X3_comparison_c4_49 F5 R6 y13) := by
  unfold K_X3_comparison_c4_49
  exact (kf2_ite (kf2_lt2 (fun F41 R42 zF41 => ⟨(kf2_F (g_fr_rf _) (fr_sp_X3_fail F5 R6 1) zF41 rfl), (kf2_R (g_fr_rf _) (fr_sp_X3_fail F5 R6 1) zF41 rfl)⟩)) (kf2_lt (fun x17 _ => (kf2_lt (fun F19 zF19 => (kf2_lt2 (fun F25 R26 zF25 => (kf2_lt3 (fun r28 F32 R33 zF32 => ⟨(kf3_F (kf2_F (kf_u (g_fr_rf _) rfl zF19) (fr_sp_X3_sum_c4 F19 R6) zF25 rfl) (fr_sp_X2_emit_25 F25 R26 y13 0) zF32 rfl), (kf3_R (kf2_R (g_fr_rf _) (fr_sp_X3_sum_c4 F19 R6) zF25 rfl) (fr_sp_X2_emit_25 F25 R26 y13 0) zF32 rfl)⟩)))))))))
theorem fr_sp_X3_comparison_c4 (F : Nat → Int32) (R : Nat → Nat → Int32) : kf2 md_X3_comparison_c4 mr_X3_comparison_c4 F R (sp_X3_comparison_c4 F R) := by
  unfold sp_X3_comparison_c4
  exact (kf2_lt2 (fun F5 R6 zF5 => (kf2_lt (fun r8 _ => (kf2_ite (kf2_tr (kf2_F (g_fr_rf _) (fr_sp_X3_sum_c4 F R) zF5 rfl) (kf2_R (g_fr_rf _) (fr_sp_X3_sum_c4 F R) zF5 rfl) (fr_K_X3_comparison_c4_49 F5 R6 11)) (kf2_lt (fun r46 _ => (kf2_ite (kf2_tr (kf2_F (g_fr_rf _) (fr_sp_X3_sum_c4 F R) zF5 rfl) (kf2_R (g_fr_rf _) (fr_sp_X3_sum_c4 F R) zF5 rfl) (fr_K_X3_comparison_c4_49 F5 R6 12)) (kf2_lt (fun r53 _ => (kf2_ite (kf2_tr (kf2_F (g_fr_rf _) (fr_sp_X3_sum_c4 F R) zF5 rfl) (kf2_R (g_fr_rf _) (fr_sp_X3_sum_c4 F R) zF5 rfl) (fr_K_X3_comparison_c4_49 F5 R6 13)) (kf2_tr (kf2_F (g_fr_rf _) (fr_sp_X3_sum_c4 F R) zF5 rfl) (kf2_R (g_fr_rf _) (fr_sp_X3_sum_c4 F R) zF5 rfl) (fr_K_X3_comparison_c4_49 F5 R6 (-1))))))))))))))
theorem fr_K_X3_comparison_c5_49 (F5 : Nat → Int32) (R6 : Nat → Nat → Int32) (y13 : Int32) : kf2 md_X3_comparison_c5 mr_X3_comparison_c5 F5 R6 (K_X3_comparison_c5_49 F5 R6 y13) := by
  unfold K_X3_comparison_c5_49
  exact (kf2_ite (kf2_lt2 (fun F41 R42 zF41 => ⟨(kf2_F (g_fr_rf _) (fr_sp_X3_fail F5 R6 1) zF41 rfl), (kf2_R (g_fr_rf _) (fr_sp_X3_fail F5 R6 1) zF41 rfl)⟩)) (kf2_lt (fun x17 _ => (kf2_lt (fun F19 zF19 => (kf2_lt2 (fun F25 R26 zF25 => (kf2_lt3 (fun r28 F32 R33 zF32 => ⟨(kf3_F (kf2_F (kf_u (g_fr_rf _) rfl zF19) (fr_sp_X3_sum_c5 F19 R6) zF25 rfl) (fr_sp_X2_emit_25 F25 R26 y13 0) zF32 rfl), (kf3_R (kf2_R (g_fr_rf _) (fr_sp_X3_sum_c5 F19 R6) zF25 rfl) (fr_sp_X2_emit_25 F25 R26 y13 0) zF32 rfl)⟩)))))))))
theorem fr_sp_X3_comparison_c5 (F : Nat → Int32) (R : Nat → Nat → Int32) : kf2 md_X3_comparison_c5 mr_X3_comparison_c5 F R (sp_X3_comparison_c5 F R) := by
  unfold sp_X3_comparison_c5
  exact (kf2_lt2 (fun F5 R6 zF5 => (kf2_lt (fun r8 _ => (kf2_ite (kf2_tr (kf2_F (g_fr_rf _) (fr_sp_X3_sum_c5 F R) zF5 rfl) (kf2_R (g_fr_rf _) (fr_sp_X3_sum_c5 F R) zF5 rfl) (fr_K_X3_comparison_c5_49 F5 R6 11)) (kf2_lt (fun r46 _ => (kf2_ite (kf2_tr (kf2_F (g_fr_rf _) (fr_sp_X3_sum_c5 F R) zF5 rfl) (kf2_R (g_fr_rf _) (fr_sp_X3_sum_c5 F R) zF5 rfl) (fr_K_X3_comparison_c5_49 F5 R6 12)) (kf2_lt (fun r53 _ => (kf2_ite (kf2_tr (kf2_F (g_fr_rf _) (fr_sp_X3_sum_c5 F R) zF5 rfl) (kf2_R (g_fr_rf _) (fr_sp_X3_sum_c5 F R) zF5 rfl) (fr_K_X3_comparison_c5_49 F5 R6 13)) (kf2_tr (kf2_F (g_fr_rf _) (fr_sp_X3_sum_c5 F R) zF5 rfl) (kf2_R (g_fr_rf _) (fr_sp_X3_sum_c5 F R) zF5 rfl) (fr_K_X3_comparison_c5_49 F5 R6 (-1))))))))))))))
theorem fr_K_X3_comparison_c6_49 (F5 : Nat → Int32) (R6 : Nat → Nat → Int32) (y13 : Int32) : kf2 md_X3_comparison_c6 mr_X3_comparison_c6 F5 R6 (K_X3_comparison_c6_49 F5 R6 y13) := by
  unfold K_X3_comparison_c6_49
  exact (kf2_ite (kf2_lt2 (fun F41 R42 zF41 => ⟨(kf2_F (g_fr_rf _) (fr_sp_X3_fail F5 R6 1) zF41 rfl), (kf2_R (g_fr_rf _) (fr_sp_X3_fail F5 R6 1) zF41 rfl)⟩)) (kf2_lt (fun x17 _ => (kf2_lt (fun F19 zF19 => (kf2_lt2 (fun F25 R26 zF25 => (kf2_lt3 (fun r28 F32 R33 zF32 => ⟨(kf3_F (kf2_F (kf_u (g_fr_rf _) rfl zF19) (fr_sp_X3_sum_c6 F19 R6) zF25 rfl) (fr_sp_X2_emit_25 F25 R26 y13 0) zF32 rfl), (kf3_R (kf2_R (g_fr_rf _) (fr_sp_X3_sum_c6 F19 R6) zF25 rfl) (fr_sp_X2_emit_25 F25 R26 y13 0) zF32 rfl)⟩)))))))))
theorem fr_sp_X3_comparison_c6 (F : Nat → Int32) (R : Nat → Nat → Int32) : kf2 md_X3_comparison_c6 mr_X3_comparison_c6 F R (sp_X3_comparison_c6 F R) := by
  unfold sp_X3_comparison_c6
  exact (kf2_lt2 (fun F5 R6 zF5 => (kf2_lt (fun r8 _ => (kf2_ite (kf2_tr (kf2_F (g_fr_rf _) (fr_sp_X3_sum_c6 F R) zF5 rfl) (kf2_R (g_fr_rf _) (fr_sp_X3_sum_c6 F R) zF5 rfl) (fr_K_X3_comparison_c6_49 F5 R6 11)) (kf2_lt (fun r46 _ => (kf2_ite (kf2_tr (kf2_F (g_fr_rf _) (fr_sp_X3_sum_c6 F R) zF5 rfl) (kf2_R (g_fr_rf _) (fr_sp_X3_sum_c6 F R) zF5 rfl) (fr_K_X3_comparison_c6_49 F5 R6 12)) (kf2_lt (fun r53 _ => (kf2_ite (kf2_tr (kf2_F (g_fr_rf _) (fr_sp_X3_sum_c6 F R) zF5 rfl) (kf2_R (g_fr_rf _) (fr_sp_X3_sum_c6 F R) zF5 rfl) (fr_K_X3_comparison_c6_49 F5 R6 13)) (kf2_tr (kf2_F (g_fr_rf _) (fr_sp_X3_sum_c6 F R) zF5 rfl) (kf2_R (g_fr_rf _) (fr_sp_X3_sum_c6 F R) zF5 rfl) (fr_K_X3_comparison_c6_49 F5 R6 (-1))))))))))))))
theorem fr_K_X3_piece_c6_75 (F6 : Nat → Int32) (R7 : Nat → Nat → Int32) : kf2 md_X3_piece_c6 mr_X3_piece_c6 F6 R7 (K_X3_piece_c6_75 F6 R7) := by
  unfold K_X3_piece_c6_75
  exact ⟨(g_fr_rf _), (g_fr_rf _)⟩
theorem fr_sp_X3_piece_c6 (F : Nat → Int32) (R : Nat → Nat → Int32) : kf2 md_X3_piece_c6 mr_X3_piece_c6 F R (sp_X3_piece_c6 F R) := by
  unfold sp_X3_piece_c6
  exact (kf2_lt (fun r1 _ => (kf2_ite (kf2_lt3 (fun r36 F40 R41 zF40 => (kf2_tr (kf3_F (g_fr_rf _) (fr_sp_X3_opens_c6 F R) zF40 rfl) (kf3_R (g_fr_rf _) (fr_sp_X3_opens_c6 F R) zF40 rfl) (fr_K_X3_piece_c6_75 F40 R41)))) (kf2_lt (fun r10 _ => (kf2_ite (kf2_lt3 (fun r26 F30 R31 zF30 => (kf2_tr (kf3_F (g_fr_rf _) (fr_sp_X3_opens_c6 F R) zF30 rfl) (kf3_R (g_fr_rf _) (fr_sp_X3_opens_c6 F R) zF30 rfl) (fr_K_X3_piece_c6_75 F30 R31)))) (kf2_lt2 (fun F21 R22 zF21 => (kf2_tr (kf2_F (g_fr_rf _) (fr_sp_X3_comparison_c6 F R) zF21 rfl) (kf2_R (g_fr_rf _) (fr_sp_X3_comparison_c6 F R) zF21 rfl) (fr_K_X3_piece_c6_75 F21 R22))))))))))
theorem fr_K_X2_landHere_25_49 (F : Nat → Int32) (R3 : Nat → Nat → Int32) : kf2 md_X2_landHere_25 mr_X2_landHere_25 F R3 (K_X2_landHere_25_49 F R3) := by
  unfold K_X2_landHere_25_49
  exact ⟨(g_fr_rf _), (g_fr_rf _)⟩
theorem fr_KB_X2_landHere_25_4 (F : Nat → Int32) (R3 : Nat → Nat → Int32) (y1 : Int32) (y2 : Int32) (b4 : (Nat → Nat → Int32) → (Int32) → (Int32) → (Nat → Int32) × (Nat → Nat → Int32)) (hb4 : ∀ (R3 : Nat → Nat → Int32) (y1 : Int32) (y2 : Int32), kf2 md_X2_landHere_25 mr_X2_landHere_25 F R3 (b4 R3 y1 y2)) : kf2 md_X2_landHere_25 mr_X2_landHere_25 F R3 (KB_X2_landHere_25_4 b4 F R3 y1 y2) := by
  unfold KB_X2_landHere_25_4
  exact (kf2_ite (kf2_tr (g_fr_rf _) (g_fr_rf _) (fr_K_X2_landHere_25_49 F R3)) (kf2_ite (kf2_tr (g_fr_rf _) (g_fr_rf _) (fr_K_X2_landHere_25_49 F R3)) (kf2_ite (kf2_tr (g_fr_rf _) (g_fr_rf _) (fr_K_X2_landHere_25_49 F R3)) (kf2_lt (fun x19 _ => (kf2_lt (fun R21 zR21 => (kf2_lt (fun x23 _ => (kf2_tr (g_fr_rf _) (kf_r (g_fr_rf _) rfl zR21) (hb4 R21 x19 x23)))))))))))
theorem fr_K_X2_landHere_25_4 (F : Nat → Int32) : ∀ (n : Nat) (R3 : Nat → Nat → Int32) (y1 : Int32) (y2 : Int32), kf2 md_X2_landHere_25 mr_X2_landHere_25 F R3 (K_X2_landHere_25_4 F n R3 y1 y2)
  | 0, R3, y1, y2 => ⟨g_fr_rf _, g_fr_rf _⟩
  | n + 1, R3, y1, y2 => fr_KB_X2_landHere_25_4 F R3 y1 y2 (K_X2_landHere_25_4 F n) (fr_K_X2_landHere_25_4 F n)
theorem fr_sp_X2_landHere_25 (F : Nat → Int32) (R : Nat → Nat → Int32) (a0 : Int32) : kf2 md_X2_landHere_25 mr_X2_landHere_25 F R (sp_X2_landHere_25 F R a0) := by
  unfold sp_X2_landHere_25
  exact (kf2_tr (g_fr_rf _) (g_fr_rf _) (fr_K_X2_landHere_25_4 F 8589934592 R a0 0))
theorem fr_K_X3_pieces_c6_56 (F10 : Nat → Int32) (R11 : Nat → Nat → Int32) (y8 : Int32) : kf2 md_X3_pieces_c6 mr_X3_pieces_c6 F10 R11 (K_X3_pieces_c6_56 F10 R11 y8) := by
  unfold K_X3_pieces_c6_56
  exact (kf2_lt2 (fun F16 R17 zF16 => ⟨(kf2_F (g_fr_rf _) (fr_sp_X2_landHere_25 F10 R11 y8) zF16 rfl), (kf2_R (g_fr_rf _) (fr_sp_X2_landHere_25 F10 R11 y8) zF16 rfl)⟩))
theorem fr_KB_X3_pieces_c6_9 (F10 : Nat → Int32) (R11 : Nat → Nat → Int32) (y8 : Int32) (y9 : Int32) (b9 : (Nat → Int32) → (Nat → Nat → Int32) → (Int32) → (Int32) → (Nat → Int32) × (Nat → Nat → Int32)) (hb9 : ∀ (F10 : Nat → Int32) (R11 : Nat → Nat → Int32) (y8 : Int32) (y9 : Int32), kf2 md_X3_pieces_c6 mr_X3_pieces_c6 F10 R11 (b9 F10 R11 y8 y9)) : kf2 md_X3_pieces_c6 mr_X3_pieces_c6 F10 R11 (KB_X3_pieces_c6_9 b9 F10 R11 y8 y9) := by
  unfold KB_X3_pieces_c6_9
  exact (kf2_ite (kf2_tr (g_fr_rf _) (g_fr_rf _) (fr_K_X3_pieces_c6_56 F10 R11 y8)) (kf2_lt (fun r24 _ => (kf2_ite (kf2_lt (fun x33 _ => (kf2_lt (fun F35 zF35 => (kf2_lt3 (fun r37 F41 R42 zF41 => (kf2_lt2 (fun F48 R49 zF48 => (kf2_lt (fun x51 _ => (kf2_tr (kf2_F (kf3_F (kf_u (g_fr_rf _) rfl zF35) (fr_sp_X2_emit_25 F35 R11 4 y8) zF41 rfl) (fr_sp_X3_piece_c6 F41 R42) zF48 rfl) (kf2_R (kf3_R (g_fr_rf _) (fr_sp_X2_emit_25 F35 R11 4 y8) zF41 rfl) (fr_sp_X3_piece_c6 F41 R42) zF48 rfl) (hb9 F48 R49 r37 x51)))))))))))) (kf2_tr (g_fr_rf _) (g_fr_rf _) (fr_K_X3_pieces_c6_56 F10 R11 y8))))))
theorem fr_K_X3_pieces_c6_9  : ∀ (n : Nat) (F10 : Nat → Int32) (R11 : Nat → Nat → Int32) (y8 : Int32) (y9 : Int32), kf2 md_X3_pieces_c6 mr_X3_pieces_c6 F10 R11 (K_X3_pieces_c6_9  n F10 R11 y8 y9)
  | 0, F10, R11, y8, y9 => ⟨g_fr_rf _, g_fr_rf _⟩
  | n + 1, F10, R11, y8, y9 => fr_KB_X3_pieces_c6_9 F10 R11 y8 y9 (K_X3_pieces_c6_9  n) (fr_K_X3_pieces_c6_9  n)
theorem fr_sp_X3_pieces_c6 (F : Nat → Int32) (R : Nat → Nat → Int32) : kf2 md_X3_pieces_c6 mr_X3_pieces_c6 F R (sp_X3_pieces_c6 F R) := by
  unfold sp_X3_pieces_c6
  exact (kf2_lt2 (fun F5 R6 zF5 => (kf2_tr (kf2_F (g_fr_rf _) (fr_sp_X3_piece_c6 F R) zF5 rfl) (kf2_R (g_fr_rf _) (fr_sp_X3_piece_c6 F R) zF5 rfl) (fr_K_X3_pieces_c6_9 8589934592 F5 R6 (-1) 0))))
theorem fr_K_X3_parts_c6_56 (F10 : Nat → Int32) (R11 : Nat → Nat → Int32) (y8 : Int32) : kf2 md_X3_parts_c6 mr_X3_parts_c6 F10 R11 (K_X3_parts_c6_56 F10 R11 y8) := by
  unfold K_X3_parts_c6_56
  exact (kf2_lt2 (fun F16 R17 zF16 => ⟨(kf2_F (g_fr_rf _) (fr_sp_X2_landHere_25 F10 R11 y8) zF16 rfl), (kf2_R (g_fr_rf _) (fr_sp_X2_landHere_25 F10 R11 y8) zF16 rfl)⟩))
theorem fr_KB_X3_parts_c6_9 (F10 : Nat → Int32) (R11 : Nat → Nat → Int32) (y8 : Int32) (y9 : Int32) (b9 : (Nat → Int32) → (Nat → Nat → Int32) → (Int32) → (Int32) → (Nat → Int32) × (Nat → Nat → Int32)) (hb9 : ∀ (F10 : Nat → Int32) (R11 : Nat → Nat → Int32) (y8 : Int32) (y9 : Int32), kf2 md_X3_parts_c6 mr_X3_parts_c6 F10 R11 (b9 F10 R11 y8 y9)) : kf2 md_X3_parts_c6 mr_X3_parts_c6 F10 R11 (KB_X3_parts_c6_9 b9 F10 R11 y8 y9) := by
  unfold KB_X3_parts_c6_9
  exact (kf2_ite (kf2_tr (g_fr_rf _) (g_fr_rf _) (fr_K_X3_parts_c6_56 F10 R11 y8)) (kf2_lt (fun r24 _ => (kf2_ite (kf2_lt (fun x33 _ => (kf2_lt (fun F35 zF35 => (kf2_lt3 (fun r37 F41 R42 zF41 => (kf2_lt2 (fun F48 R49 zF48 => (kf2_lt (fun x51 _ => (kf2_tr (kf2_F (kf3_F (kf_u (g_fr_rf _) rfl zF35) (fr_sp_X2_emit_25 F35 R11 5 y8) zF41 rfl) (fr_sp_X3_pieces_c6 F41 R42) zF48 rfl) (kf2_R (kf3_R (g_fr_rf _) (fr_sp_X2_emit_25 F35 R11 5 y8) zF41 rfl) (fr_sp_X3_pieces_c6 F41 R42) zF48 rfl) (hb9 F48 R49 r37 x51)))))))))))) (kf2_tr (g_fr_rf _) (g_fr_rf _) (fr_K_X3_parts_c6_56 F10 R11 y8))))))
theorem fr_K_X3_parts_c6_9  : ∀ (n : Nat) (F10 : Nat → Int32) (R11 : Nat → Nat → Int32) (y8 : Int32) (y9 : Int32), kf2 md_X3_parts_c6 mr_X3_parts_c6 F10 R11 (K_X3_parts_c6_9  n F10 R11 y8 y9)
  | 0, F10, R11, y8, y9 => ⟨g_fr_rf _, g_fr_rf _⟩
  | n + 1, F10, R11, y8, y9 => fr_KB_X3_parts_c6_9 F10 R11 y8 y9 (K_X3_parts_c6_9  n) (fr_K_X3_parts_c6_9  n)
theorem fr_sp_X3_parts_c6 (F : Nat → Int32) (R : Nat → Nat → Int32) : kf2 md_X3_parts_c6 mr_X3_parts_c6 F R (sp_X3_parts_c6 F R) := by
  unfold sp_X3_parts_c6
  exact (kf2_lt2 (fun F5 R6 zF5 => (kf2_tr (kf2_F (g_fr_rf _) (fr_sp_X3_pieces_c6 F R) zF5 rfl) (kf2_R (g_fr_rf _) (fr_sp_X3_pieces_c6 F R) zF5 rfl) (fr_K_X3_parts_c6_9 8589934592 F5 R6 (-1) 0))))
theorem fr_K_X3_piece_c5_75 (F6 : Nat → Int32) (R7 : Nat → Nat → Int32) : kf2 md_X3_piece_c5 mr_X3_piece_c5 F6 R7 (K_X3_piece_c5_75 F6 R7) := by
  unfold K_X3_piece_c5_75
  exact ⟨(g_fr_rf _), (g_fr_rf _)⟩
theorem fr_sp_X3_piece_c5 (F : Nat → Int32) (R : Nat → Nat → Int32) : kf2 md_X3_piece_c5 mr_X3_piece_c5 F R (sp_X3_piece_c5 F R) := by
  unfold sp_X3_piece_c5
  exact (kf2_lt (fun r1 _ => (kf2_ite (kf2_lt3 (fun r50 F54 R55 zF54 => (kf2_lt2 (fun F62 R63 zF62 => (kf2_lt3 (fun r65 F69 R70 zF69 => (kf2_tr (kf3_F (kf2_F (kf3_F (g_fr_rf _) (fr_sp_X3_opens_c5 F R) zF54 rfl) (fr_sp_X3_piece_c6 F54 R55) zF62 rfl) (fr_sp_X2_emit_25 F62 R63 3 0) zF69 rfl) (kf3_R (kf2_R (kf3_R (g_fr_rf _) (fr_sp_X3_opens_c5 F R) zF54 rfl) (fr_sp_X3_piece_c6 F54 R55) zF62 rfl) (fr_sp_X2_emit_25 F62 R63 3 0) zF69 rfl) (fr_K_X3_piece_c5_75 F69 R70)))))))) (kf2_lt (fun r10 _ => (kf2_ite (kf2_lt3 (fun r26 F30 R31 zF30 => (kf2_lt2 (fun F38 R39 zF38 => (kf2_lt2 (fun F45 R46 zF45 => (kf2_tr (kf2_F (kf2_F (kf3_F (g_fr_rf _) (fr_sp_X3_opens_c5 F R) zF30 rfl) (fr_sp_X3_parts_c6 F30 R31) zF38 rfl) (fr_sp_X3_pass F38 R39 41) zF45 rfl) (kf2_R (kf2_R (kf3_R (g_fr_rf _) (fr_sp_X3_opens_c5 F R) zF30 rfl) (fr_sp_X3_parts_c6 F30 R31) zF38 rfl) (fr_sp_X3_pass F38 R39 41) zF45 rfl) (fr_K_X3_piece_c5_75 F45 R46)))))))) (kf2_lt2 (fun F21 R22 zF21 => (kf2_tr (kf2_F (g_fr_rf _) (fr_sp_X3_comparison_c5 F R) zF21 rfl) (kf2_R (g_fr_rf _) (fr_sp_X3_comparison_c5 F R) zF21 rfl) (fr_K_X3_piece_c5_75 F21 R22))))))))))
theorem fr_K_X3_pieces_c5_56 (F10 : Nat → Int32) (R11 : Nat → Nat → Int32) (y8 : Int32) : kf2 md_X3_pieces_c5 mr_X3_pieces_c5 F10 R11 (K_X3_pieces_c5_56 F10 R11 y8) := by
  unfold K_X3_pieces_c5_56
  exact (kf2_lt2 (fun F16 R17 zF16 => ⟨(kf2_F (g_fr_rf _) (fr_sp_X2_landHere_25 F10 R11 y8) zF16 rfl), (kf2_R (g_fr_rf _) (fr_sp_X2_landHere_25 F10 R11 y8) zF16 rfl)⟩))
theorem fr_KB_X3_pieces_c5_9 (F10 : Nat → Int32) (R11 : Nat → Nat → Int32) (y8 : Int32) (y9 : Int32) (b9 : (Nat → Int32) → (Nat → Nat → Int32) → (Int32) → (Int32) → (Nat → Int32) × (Nat → Nat → Int32)) (hb9 : ∀ (F10 : Nat → Int32) (R11 : Nat → Nat → Int32) (y8 : Int32) (y9 : Int32), kf2 md_X3_pieces_c5 mr_X3_pieces_c5 F10 R11 (b9 F10 R11 y8 y9)) : kf2 md_X3_pieces_c5 mr_X3_pieces_c5 F10 R11 (KB_X3_pieces_c5_9 b9 F10 R11 y8 y9) := by
  unfold KB_X3_pieces_c5_9
  exact (kf2_ite (kf2_tr (g_fr_rf _) (g_fr_rf _) (fr_K_X3_pieces_c5_56 F10 R11 y8)) (kf2_lt (fun r24 _ => (kf2_ite (kf2_lt (fun x33 _ => (kf2_lt (fun F35 zF35 => (kf2_lt3 (fun r37 F41 R42 zF41 => (kf2_lt2 (fun F48 R49 zF48 => (kf2_lt (fun x51 _ => (kf2_tr (kf2_F (kf3_F (kf_u (g_fr_rf _) rfl zF35) (fr_sp_X2_emit_25 F35 R11 4 y8) zF41 rfl) (fr_sp_X3_piece_c5 F41 R42) zF48 rfl) (kf2_R (kf3_R (g_fr_rf _) (fr_sp_X2_emit_25 F35 R11 4 y8) zF41 rfl) (fr_sp_X3_piece_c5 F41 R42) zF48 rfl) (hb9 F48 R49 r37 x51)))))))))))) (kf2_tr (g_fr_rf _) (g_fr_rf _) (fr_K_X3_pieces_c5_56 F10 R11 y8))))))
theorem fr_K_X3_pieces_c5_9  : ∀ (n : Nat) (F10 : Nat → Int32) (R11 : Nat → Nat → Int32) (y8 : Int32) (y9 : Int32), kf2 md_X3_pieces_c5 mr_X3_pieces_c5 F10 R11 (K_X3_pieces_c5_9  n F10 R11 y8 y9)
  | 0, F10, R11, y8, y9 => ⟨g_fr_rf _, g_fr_rf _⟩
  | n + 1, F10, R11, y8, y9 => fr_KB_X3_pieces_c5_9 F10 R11 y8 y9 (K_X3_pieces_c5_9  n) (fr_K_X3_pieces_c5_9  n)
theorem fr_sp_X3_pieces_c5 (F : Nat → Int32) (R : Nat → Nat → Int32) : kf2 md_X3_pieces_c5 mr_X3_pieces_c5 F R (sp_X3_pieces_c5 F R) := by
  unfold sp_X3_pieces_c5
  exact (kf2_lt2 (fun F5 R6 zF5 => (kf2_tr (kf2_F (g_fr_rf _) (fr_sp_X3_piece_c5 F R) zF5 rfl) (kf2_R (g_fr_rf _) (fr_sp_X3_piece_c5 F R) zF5 rfl) (fr_K_X3_pieces_c5_9 8589934592 F5 R6 (-1) 0))))
theorem fr_K_X3_parts_c5_56 (F10 : Nat → Int32) (R11 : Nat → Nat → Int32) (y8 : Int32) : kf2 md_X3_parts_c5 mr_X3_parts_c5 F10 R11 (K_X3_parts_c5_56 F10 R11 y8) := by
  unfold K_X3_parts_c5_56
  exact (kf2_lt2 (fun F16 R17 zF16 => ⟨(kf2_F (g_fr_rf _) (fr_sp_X2_landHere_25 F10 R11 y8) zF16 rfl), (kf2_R (g_fr_rf _) (fr_sp_X2_landHere_25 F10 R11 y8) zF16 rfl)⟩))
theorem fr_KB_X3_parts_c5_9 (F10 : Nat → Int32) (R11 : Nat → Nat → Int32) (y8 : Int32) (y9 : Int32) (b9 : (Nat → Int32) → (Nat → Nat → Int32) → (Int32) → (Int32) → (Nat → Int32) × (Nat → Nat → Int32)) (hb9 : ∀ (F10 : Nat → Int32) (R11 : Nat → Nat → Int32) (y8 : Int32) (y9 : Int32), kf2 md_X3_parts_c5 mr_X3_parts_c5 F10 R11 (b9 F10 R11 y8 y9)) : kf2 md_X3_parts_c5 mr_X3_parts_c5 F10 R11 (KB_X3_parts_c5_9 b9 F10 R11 y8 y9) := by
  unfold KB_X3_parts_c5_9
  exact (kf2_ite (kf2_tr (g_fr_rf _) (g_fr_rf _) (fr_K_X3_parts_c5_56 F10 R11 y8)) (kf2_lt (fun r24 _ => (kf2_ite (kf2_lt (fun x33 _ => (kf2_lt (fun F35 zF35 => (kf2_lt3 (fun r37 F41 R42 zF41 => (kf2_lt2 (fun F48 R49 zF48 => (kf2_lt (fun x51 _ => (kf2_tr (kf2_F (kf3_F (kf_u (g_fr_rf _) rfl zF35) (fr_sp_X2_emit_25 F35 R11 5 y8) zF41 rfl) (fr_sp_X3_pieces_c5 F41 R42) zF48 rfl) (kf2_R (kf3_R (g_fr_rf _) (fr_sp_X2_emit_25 F35 R11 5 y8) zF41 rfl) (fr_sp_X3_pieces_c5 F41 R42) zF48 rfl) (hb9 F48 R49 r37 x51)))))))))))) (kf2_tr (g_fr_rf _) (g_fr_rf _) (fr_K_X3_parts_c5_56 F10 R11 y8))))))
theorem fr_K_X3_parts_c5_9  : ∀ (n : Nat) (F10 : Nat → Int32) (R11 : Nat → Nat → Int32) (y8 : Int32) (y9 : Int32), kf2 md_X3_parts_c5 mr_X3_parts_c5 F10 R11 (K_X3_parts_c5_9  n F10 R11 y8 y9)
  | 0, F10, R11, y8, y9 => ⟨g_fr_rf _, g_fr_rf _⟩
  | n + 1, F10, R11, y8, y9 => fr_KB_X3_parts_c5_9 F10 R11 y8 y9 (K_X3_parts_c5_9  n) (fr_K_X3_parts_c5_9  n)
theorem fr_sp_X3_parts_c5 (F : Nat → Int32) (R : Nat → Nat → Int32) : kf2 md_X3_parts_c5 mr_X3_parts_c5 F R (sp_X3_parts_c5 F R) := by
  unfold sp_X3_parts_c5
  exact (kf2_lt2 (fun F5 R6 zF5 => (kf2_tr (kf2_F (g_fr_rf _) (fr_sp_X3_pieces_c5 F R) zF5 rfl) (kf2_R (g_fr_rf _) (fr_sp_X3_pieces_c5 F R) zF5 rfl) (fr_K_X3_parts_c5_9 8589934592 F5 R6 (-1) 0))))
theorem fr_K_X3_piece_c4_75 (F6 : Nat → Int32) (R7 : Nat → Nat → Int32) : kf2 md_X3_piece_c4 mr_X3_piece_c4 F6 R7 (K_X3_piece_c4_75 F6 R7) := by
  unfold K_X3_piece_c4_75
  exact ⟨(g_fr_rf _), (g_fr_rf _)⟩
theorem fr_sp_X3_piece_c4 (F : Nat → Int32) (R : Nat → Nat → Int32) : kf2 md_X3_piece_c4 mr_X3_piece_c4 F R (sp_X3_piece_c4 F R) := by
  unfold sp_X3_piece_c4
  exact (kf2_lt (fun r1 _ => (kf2_ite (kf2_lt3 (fun r50 F54 R55 zF54 => (kf2_lt2 (fun F62 R63 zF62 => (kf2_lt3 (fun r65 F69 R70 zF69 => (kf2_tr (kf3_F (kf2_F (kf3_F (g_fr_rf _) (fr_sp_X3_opens_c4 F R) zF54 rfl) (fr_sp_X3_piece_c5 F54 R55) zF62 rfl) (fr_sp_X2_emit_25 F62 R63 3 0) zF69 rfl) (kf3_R (kf2_R (kf3_R (g_fr_rf _) (fr_sp_X3_opens_c4 F R) zF54 rfl) (fr_sp_X3_piece_c5 F54 R55) zF62 rfl) (fr_sp_X2_emit_25 F62 R63 3 0) zF69 rfl) (fr_K_X3_piece_c4_75 F69 R70)))))))) (kf2_lt (fun r10 _ => (kf2_ite (kf2_lt3 (fun r26 F30 R31 zF30 => (kf2_lt2 (fun F38 R39 zF38 => (kf2_lt2 (fun F45 R46 zF45 => (kf2_tr (kf2_F (kf2_F (kf3_F (g_fr_rf _) (fr_sp_X3_opens_c4 F R) zF30 rfl) (fr_sp_X3_parts_c5 F30 R31) zF38 rfl) (fr_sp_X3_pass F38 R39 41) zF45 rfl) (kf2_R (kf2_R (kf3_R (g_fr_rf _) (fr_sp_X3_opens_c4 F R) zF30 rfl) (fr_sp_X3_parts_c5 F30 R31) zF38 rfl) (fr_sp_X3_pass F38 R39 41) zF45 rfl) (fr_K_X3_piece_c4_75 F45 R46)))))))) (kf2_lt2 (fun F21 R22 zF21 => (kf2_tr (kf2_F (g_fr_rf _) (fr_sp_X3_comparison_c4 F R) zF21 rfl) (kf2_R (g_fr_rf _) (fr_sp_X3_comparison_c4 F R) zF21 rfl) (fr_K_X3_piece_c4_75 F21 R22))))))))))
theorem fr_K_X3_pieces_c4_56 (F10 : Nat → Int32) (R11 : Nat → Nat → Int32) (y8 : Int32) : kf2 md_X3_pieces_c4 mr_X3_pieces_c4 F10 R11 (K_X3_pieces_c4_56 F10 R11 y8) := by
  unfold K_X3_pieces_c4_56
  exact (kf2_lt2 (fun F16 R17 zF16 => ⟨(kf2_F (g_fr_rf _) (fr_sp_X2_landHere_25 F10 R11 y8) zF16 rfl), (kf2_R (g_fr_rf _) (fr_sp_X2_landHere_25 F10 R11 y8) zF16 rfl)⟩))
theorem fr_KB_X3_pieces_c4_9 (F10 : Nat → Int32) (R11 : Nat → Nat → Int32) (y8 : Int32) (y9 : Int32) (b9 : (Nat → Int32) → (Nat → Nat → Int32) → (Int32) → (Int32) → (Nat → Int32) × (Nat → Nat → Int32)) (hb9 : ∀ (F10 : Nat → Int32) (R11 : Nat → Nat → Int32) (y8 : Int32) (y9 : Int32), kf2 md_X3_pieces_c4 mr_X3_pieces_c4 F10 R11 (b9 F10 R11 y8 y9)) : kf2 md_X3_pieces_c4 mr_X3_pieces_c4 F10 R11 (KB_X3_pieces_c4_9 b9 F10 R11 y8 y9) := by
  unfold KB_X3_pieces_c4_9
  exact (kf2_ite (kf2_tr (g_fr_rf _) (g_fr_rf _) (fr_K_X3_pieces_c4_56 F10 R11 y8)) (kf2_lt (fun r24 _ => (kf2_ite (kf2_lt (fun x33 _ => (kf2_lt (fun F35 zF35 => (kf2_lt3 (fun r37 F41 R42 zF41 => (kf2_lt2 (fun F48 R49 zF48 => (kf2_lt (fun x51 _ => (kf2_tr (kf2_F (kf3_F (kf_u (g_fr_rf _) rfl zF35) (fr_sp_X2_emit_25 F35 R11 4 y8) zF41 rfl) (fr_sp_X3_piece_c4 F41 R42) zF48 rfl) (kf2_R (kf3_R (g_fr_rf _) (fr_sp_X2_emit_25 F35 R11 4 y8) zF41 rfl) (fr_sp_X3_piece_c4 F41 R42) zF48 rfl) (hb9 F48 R49 r37 x51)))))))))))) (kf2_tr (g_fr_rf _) (g_fr_rf _) (fr_K_X3_pieces_c4_56 F10 R11 y8))))))
theorem fr_K_X3_pieces_c4_9  : ∀ (n : Nat) (F10 : Nat → Int32) (R11 : Nat → Nat → Int32) (y8 : Int32) (y9 : Int32), kf2 md_X3_pieces_c4 mr_X3_pieces_c4 F10 R11 (K_X3_pieces_c4_9  n F10 R11 y8 y9)
  | 0, F10, R11, y8, y9 => ⟨g_fr_rf _, g_fr_rf _⟩
  | n + 1, F10, R11, y8, y9 => fr_KB_X3_pieces_c4_9 F10 R11 y8 y9 (K_X3_pieces_c4_9  n) (fr_K_X3_pieces_c4_9  n)
theorem fr_sp_X3_pieces_c4 (F : Nat → Int32) (R : Nat → Nat → Int32) : kf2 md_X3_pieces_c4 mr_X3_pieces_c4 F R (sp_X3_pieces_c4 F R) := by
  unfold sp_X3_pieces_c4
  exact (kf2_lt2 (fun F5 R6 zF5 => (kf2_tr (kf2_F (g_fr_rf _) (fr_sp_X3_piece_c4 F R) zF5 rfl) (kf2_R (g_fr_rf _) (fr_sp_X3_piece_c4 F R) zF5 rfl) (fr_K_X3_pieces_c4_9 8589934592 F5 R6 (-1) 0))))
theorem fr_K_X3_parts_c4_56 (F10 : Nat → Int32) (R11 : Nat → Nat → Int32) (y8 : Int32) : kf2 md_X3_parts_c4 mr_X3_parts_c4 F10 R11 (K_X3_parts_c4_56 F10 R11 y8) := by
  unfold K_X3_parts_c4_56
  exact (kf2_lt2 (fun F16 R17 zF16 => ⟨(kf2_F (g_fr_rf _) (fr_sp_X2_landHere_25 F10 R11 y8) zF16 rfl), (kf2_R (g_fr_rf _) (fr_sp_X2_landHere_25 F10 R11 y8) zF16 rfl)⟩))
theorem fr_KB_X3_parts_c4_9 (F10 : Nat → Int32) (R11 : Nat → Nat → Int32) (y8 : Int32) (y9 : Int32) (b9 : (Nat → Int32) → (Nat → Nat → Int32) → (Int32) → (Int32) → (Nat → Int32) × (Nat → Nat → Int32)) (hb9 : ∀ (F10 : Nat → Int32) (R11 : Nat → Nat → Int32) (y8 : Int32) (y9 : Int32), kf2 md_X3_parts_c4 mr_X3_parts_c4 F10 R11 (b9 F10 R11 y8 y9)) : kf2 md_X3_parts_c4 mr_X3_parts_c4 F10 R11 (KB_X3_parts_c4_9 b9 F10 R11 y8 y9) := by
  unfold KB_X3_parts_c4_9
  exact (kf2_ite (kf2_tr (g_fr_rf _) (g_fr_rf _) (fr_K_X3_parts_c4_56 F10 R11 y8)) (kf2_lt (fun r24 _ => (kf2_ite (kf2_lt (fun x33 _ => (kf2_lt (fun F35 zF35 => (kf2_lt3 (fun r37 F41 R42 zF41 => (kf2_lt2 (fun F48 R49 zF48 => (kf2_lt (fun x51 _ => (kf2_tr (kf2_F (kf3_F (kf_u (g_fr_rf _) rfl zF35) (fr_sp_X2_emit_25 F35 R11 5 y8) zF41 rfl) (fr_sp_X3_pieces_c4 F41 R42) zF48 rfl) (kf2_R (kf3_R (g_fr_rf _) (fr_sp_X2_emit_25 F35 R11 5 y8) zF41 rfl) (fr_sp_X3_pieces_c4 F41 R42) zF48 rfl) (hb9 F48 R49 r37 x51)))))))))))) (kf2_tr (g_fr_rf _) (g_fr_rf _) (fr_K_X3_parts_c4_56 F10 R11 y8))))))
theorem fr_K_X3_parts_c4_9  : ∀ (n : Nat) (F10 : Nat → Int32) (R11 : Nat → Nat → Int32) (y8 : Int32) (y9 : Int32), kf2 md_X3_parts_c4 mr_X3_parts_c4 F10 R11 (K_X3_parts_c4_9  n F10 R11 y8 y9)
  | 0, F10, R11, y8, y9 => ⟨g_fr_rf _, g_fr_rf _⟩
  | n + 1, F10, R11, y8, y9 => fr_KB_X3_parts_c4_9 F10 R11 y8 y9 (K_X3_parts_c4_9  n) (fr_K_X3_parts_c4_9  n)
theorem fr_sp_X3_parts_c4 (F : Nat → Int32) (R : Nat → Nat → Int32) : kf2 md_X3_parts_c4 mr_X3_parts_c4 F R (sp_X3_parts_c4 F R) := by
  unfold sp_X3_parts_c4
  exact (kf2_lt2 (fun F5 R6 zF5 => (kf2_tr (kf2_F (g_fr_rf _) (fr_sp_X3_pieces_c4 F R) zF5 rfl) (kf2_R (g_fr_rf _) (fr_sp_X3_pieces_c4 F R) zF5 rfl) (fr_K_X3_parts_c4_9 8589934592 F5 R6 (-1) 0))))
theorem fr_K_X3_piece_c3_75 (F6 : Nat → Int32) (R7 : Nat → Nat → Int32) : kf2 md_X3_piece_c3 mr_X3_piece_c3 F6 R7 (K_X3_piece_c3_75 F6 R7) := by
  unfold K_X3_piece_c3_75
  exact ⟨(g_fr_rf _), (g_fr_rf _)⟩
theorem fr_sp_X3_piece_c3 (F : Nat → Int32) (R : Nat → Nat → Int32) : kf2 md_X3_piece_c3 mr_X3_piece_c3 F R (sp_X3_piece_c3 F R) := by
  unfold sp_X3_piece_c3
  exact (kf2_lt (fun r1 _ => (kf2_ite (kf2_lt3 (fun r50 F54 R55 zF54 => (kf2_lt2 (fun F62 R63 zF62 => (kf2_lt3 (fun r65 F69 R70 zF69 => (kf2_tr (kf3_F (kf2_F (kf3_F (g_fr_rf _) (fr_sp_X3_opens_c3 F R) zF54 rfl) (fr_sp_X3_piece_c4 F54 R55) zF62 rfl) (fr_sp_X2_emit_25 F62 R63 3 0) zF69 rfl) (kf3_R (kf2_R (kf3_R (g_fr_rf _) (fr_sp_X3_opens_c3 F R) zF54 rfl) (fr_sp_X3_piece_c4 F54 R55) zF62 rfl) (fr_sp_X2_emit_25 F62 R63 3 0) zF69 rfl) (fr_K_X3_piece_c3_75 F69 R70)))))))) (kf2_lt (fun r10 _ => (kf2_ite (kf2_lt3 (fun r26 F30 R31 zF30 => (kf2_lt2 (fun F38 R39 zF38 => (kf2_lt2 (fun F45 R46 zF45 => (kf2_tr (kf2_F (kf2_F (kf3_F (g_fr_rf _) (fr_sp_X3_opens_c3 F R) zF30 rfl) (fr_sp_X3_parts_c4 F30 R31) zF38 rfl) (fr_sp_X3_pass F38 R39 41) zF45 rfl) (kf2_R (kf2_R (kf3_R (g_fr_rf _) (fr_sp_X3_opens_c3 F R) zF30 rfl) (fr_sp_X3_parts_c4 F30 R31) zF38 rfl) (fr_sp_X3_pass F38 R39 41) zF45 rfl) (fr_K_X3_piece_c3_75 F45 R46)))))))) (kf2_lt2 (fun F21 R22 zF21 => (kf2_tr (kf2_F (g_fr_rf _) (fr_sp_X3_comparison_c3 F R) zF21 rfl) (kf2_R (g_fr_rf _) (fr_sp_X3_comparison_c3 F R) zF21 rfl) (fr_K_X3_piece_c3_75 F21 R22))))))))))
theorem fr_K_X3_pieces_c3_56 (F10 : Nat → Int32) (R11 : Nat → Nat → Int32) (y8 : Int32) : kf2 md_X3_pieces_c3 mr_X3_pieces_c3 F10 R11 (K_X3_pieces_c3_56 F10 R11 y8) := by
  unfold K_X3_pieces_c3_56
  exact (kf2_lt2 (fun F16 R17 zF16 => ⟨(kf2_F (g_fr_rf _) (fr_sp_X2_landHere_25 F10 R11 y8) zF16 rfl), (kf2_R (g_fr_rf _) (fr_sp_X2_landHere_25 F10 R11 y8) zF16 rfl)⟩))
theorem fr_KB_X3_pieces_c3_9 (F10 : Nat → Int32) (R11 : Nat → Nat → Int32) (y8 : Int32) (y9 : Int32) (b9 : (Nat → Int32) → (Nat → Nat → Int32) → (Int32) → (Int32) → (Nat → Int32) × (Nat → Nat → Int32)) (hb9 : ∀ (F10 : Nat → Int32) (R11 : Nat → Nat → Int32) (y8 : Int32) (y9 : Int32), kf2 md_X3_pieces_c3 mr_X3_pieces_c3 F10 R11 (b9 F10 R11 y8 y9)) : kf2 md_X3_pieces_c3 mr_X3_pieces_c3 F10 R11 (KB_X3_pieces_c3_9 b9 F10 R11 y8 y9) := by
  unfold KB_X3_pieces_c3_9
  exact (kf2_ite (kf2_tr (g_fr_rf _) (g_fr_rf _) (fr_K_X3_pieces_c3_56 F10 R11 y8)) (kf2_lt (fun r24 _ => (kf2_ite (kf2_lt (fun x33 _ => (kf2_lt (fun F35 zF35 => (kf2_lt3 (fun r37 F41 R42 zF41 => (kf2_lt2 (fun F48 R49 zF48 => (kf2_lt (fun x51 _ => (kf2_tr (kf2_F (kf3_F (kf_u (g_fr_rf _) rfl zF35) (fr_sp_X2_emit_25 F35 R11 4 y8) zF41 rfl) (fr_sp_X3_piece_c3 F41 R42) zF48 rfl) (kf2_R (kf3_R (g_fr_rf _) (fr_sp_X2_emit_25 F35 R11 4 y8) zF41 rfl) (fr_sp_X3_piece_c3 F41 R42) zF48 rfl) (hb9 F48 R49 r37 x51)))))))))))) (kf2_tr (g_fr_rf _) (g_fr_rf _) (fr_K_X3_pieces_c3_56 F10 R11 y8))))))
theorem fr_K_X3_pieces_c3_9  : ∀ (n : Nat) (F10 : Nat → Int32) (R11 : Nat → Nat → Int32) (y8 : Int32) (y9 : Int32), kf2 md_X3_pieces_c3 mr_X3_pieces_c3 F10 R11 (K_X3_pieces_c3_9  n F10 R11 y8 y9)
  | 0, F10, R11, y8, y9 => ⟨g_fr_rf _, g_fr_rf _⟩
  | n + 1, F10, R11, y8, y9 => fr_KB_X3_pieces_c3_9 F10 R11 y8 y9 (K_X3_pieces_c3_9  n) (fr_K_X3_pieces_c3_9  n)
theorem fr_sp_X3_pieces_c3 (F : Nat → Int32) (R : Nat → Nat → Int32) : kf2 md_X3_pieces_c3 mr_X3_pieces_c3 F R (sp_X3_pieces_c3 F R) := by
  unfold sp_X3_pieces_c3
  exact (kf2_lt2 (fun F5 R6 zF5 => (kf2_tr (kf2_F (g_fr_rf _) (fr_sp_X3_piece_c3 F R) zF5 rfl) (kf2_R (g_fr_rf _) (fr_sp_X3_piece_c3 F R) zF5 rfl) (fr_K_X3_pieces_c3_9 8589934592 F5 R6 (-1) 0))))
theorem fr_K_X3_parts_c3_56 (F10 : Nat → Int32) (R11 : Nat → Nat → Int32) (y8 : Int32) : kf2 md_X3_parts_c3 mr_X3_parts_c3 F10 R11 (K_X3_parts_c3_56 F10 R11 y8) := by
  unfold K_X3_parts_c3_56
  exact (kf2_lt2 (fun F16 R17 zF16 => ⟨(kf2_F (g_fr_rf _) (fr_sp_X2_landHere_25 F10 R11 y8) zF16 rfl), (kf2_R (g_fr_rf _) (fr_sp_X2_landHere_25 F10 R11 y8) zF16 rfl)⟩))
theorem fr_KB_X3_parts_c3_9 (F10 : Nat → Int32) (R11 : Nat → Nat → Int32) (y8 : Int32) (y9 : Int32) (b9 : (Nat → Int32) → (Nat → Nat → Int32) → (Int32) → (Int32) → (Nat → Int32) × (Nat → Nat → Int32)) (hb9 : ∀ (F10 : Nat → Int32) (R11 : Nat → Nat → Int32) (y8 : Int32) (y9 : Int32), kf2 md_X3_parts_c3 mr_X3_parts_c3 F10 R11 (b9 F10 R11 y8 y9)) : kf2 md_X3_parts_c3 mr_X3_parts_c3 F10 R11 (KB_X3_parts_c3_9 b9 F10 R11 y8 y9) := by
  unfold KB_X3_parts_c3_9
  exact (kf2_ite (kf2_tr (g_fr_rf _) (g_fr_rf _) (fr_K_X3_parts_c3_56 F10 R11 y8)) (kf2_lt (fun r24 _ => (kf2_ite (kf2_lt (fun x33 _ => (kf2_lt (fun F35 zF35 => (kf2_lt3 (fun r37 F41 R42 zF41 => (kf2_lt2 (fun F48 R49 zF48 => (kf2_lt (fun x51 _ => (kf2_tr (kf2_F (kf3_F (kf_u (g_fr_rf _) rfl zF35) (fr_sp_X2_emit_25 F35 R11 5 y8) zF41 rfl) (fr_sp_X3_pieces_c3 F41 R42) zF48 rfl) (kf2_R (kf3_R (g_fr_rf _) (fr_sp_X2_emit_25 F35 R11 5 y8) zF41 rfl) (fr_sp_X3_pieces_c3 F41 R42) zF48 rfl) (hb9 F48 R49 r37 x51)))))))))))) (kf2_tr (g_fr_rf _) (g_fr_rf _) (fr_K_X3_parts_c3_56 F10 R11 y8))))))
theorem fr_K_X3_parts_c3_9  : ∀ (n : Nat) (F10 : Nat → Int32) (R11 : Nat → Nat → Int32) (y8 : Int32) (y9 : Int32), kf2 md_X3_parts_c3 mr_X3_parts_c3 F10 R11 (K_X3_parts_c3_9  n F10 R11 y8 y9)
  | 0, F10, R11, y8, y9 => ⟨g_fr_rf _, g_fr_rf _⟩
  | n + 1, F10, R11, y8, y9 => fr_KB_X3_parts_c3_9 F10 R11 y8 y9 (K_X3_parts_c3_9  n) (fr_K_X3_parts_c3_9  n)
theorem fr_sp_X3_parts_c3 (F : Nat → Int32) (R : Nat → Nat → Int32) : kf2 md_X3_parts_c3 mr_X3_parts_c3 F R (sp_X3_parts_c3 F R) := by
  unfold sp_X3_parts_c3
  exact (kf2_lt2 (fun F5 R6 zF5 => (kf2_tr (kf2_F (g_fr_rf _) (fr_sp_X3_pieces_c3 F R) zF5 rfl) (kf2_R (g_fr_rf _) (fr_sp_X3_pieces_c3 F R) zF5 rfl) (fr_K_X3_parts_c3_9 8589934592 F5 R6 (-1) 0))))
theorem fr_K_X3_piece_c2_75 (F6 : Nat → Int32) (R7 : Nat → Nat → Int32) : kf2 md_X3_piece_c2 mr_X3_piece_c2 F6 R7 (K_X3_piece_c2_75 F6 R7) := by
  unfold K_X3_piece_c2_75
  exact ⟨(g_fr_rf _), (g_fr_rf _)⟩
theorem fr_sp_X3_piece_c2 (F : Nat → Int32) (R : Nat → Nat → Int32) : kf2 md_X3_piece_c2 mr_X3_piece_c2 F R (sp_X3_piece_c2 F R) := by
  unfold sp_X3_piece_c2
  exact (kf2_lt (fun r1 _ => (kf2_ite (kf2_lt3 (fun r50 F54 R55 zF54 => (kf2_lt2 (fun F62 R63 zF62 => (kf2_lt3 (fun r65 F69 R70 zF69 => (kf2_tr (kf3_F (kf2_F (kf3_F (g_fr_rf _) (fr_sp_X3_opens_c2 F R) zF54 rfl) (fr_sp_X3_piece_c3 F54 R55) zF62 rfl) (fr_sp_X2_emit_25 F62 R63 3 0) zF69 rfl) (kf3_R (kf2_R (kf3_R (g_fr_rf _) (fr_sp_X3_opens_c2 F R) zF54 rfl) (fr_sp_X3_piece_c3 F54 R55) zF62 rfl) (fr_sp_X2_emit_25 F62 R63 3 0) zF69 rfl) (fr_K_X3_piece_c2_75 F69 R70)))))))) (kf2_lt (fun r10 _ => (kf2_ite (kf2_lt3 (fun r26 F30 R31 zF30 => (kf2_lt2 (fun F38 R39 zF38 => (kf2_lt2 (fun F45 R46 zF45 => (kf2_tr (kf2_F (kf2_F (kf3_F (g_fr_rf _) (fr_sp_X3_opens_c2 F R) zF30 rfl) (fr_sp_X3_parts_c3 F30 R31) zF38 rfl) (fr_sp_X3_pass F38 R39 41) zF45 rfl) (kf2_R (kf2_R (kf3_R (g_fr_rf _) (fr_sp_X3_opens_c2 F R) zF30 rfl) (fr_sp_X3_parts_c3 F30 R31) zF38 rfl) (fr_sp_X3_pass F38 R39 41) zF45 rfl) (fr_K_X3_piece_c2_75 F45 R46)))))))) (kf2_lt2 (fun F21 R22 zF21 => (kf2_tr (kf2_F (g_fr_rf _) (fr_sp_X3_comparison_c2 F R) zF21 rfl) (kf2_R (g_fr_rf _) (fr_sp_X3_comparison_c2 F R) zF21 rfl) (fr_K_X3_piece_c2_75 F21 R22))))))))))
theorem fr_K_X3_pieces_c2_56 (F10 : Nat → Int32) (R11 : Nat → Nat → Int32) (y8 : Int32) : kf2 md_X3_pieces_c2 mr_X3_pieces_c2 F10 R11 (K_X3_pieces_c2_56 F10 R11 y8) := by
  unfold K_X3_pieces_c2_56
  exact (kf2_lt2 (fun F16 R17 zF16 => ⟨(kf2_F (g_fr_rf _) (fr_sp_X2_landHere_25 F10 R11 y8) zF16 rfl), (kf2_R (g_fr_rf _) (fr_sp_X2_landHere_25 F10 R11 y8) zF16 rfl)⟩))
theorem fr_KB_X3_pieces_c2_9 (F10 : Nat → Int32) (R11 : Nat → Nat → Int32) (y8 : Int32) (y9 : Int32) (b9 : (Nat → Int32) → (Nat → Nat → Int32) → (Int32) → (Int32) → (Nat → Int32) × (Nat → Nat → Int32)) (hb9 : ∀ (F10 : Nat → Int32) (R11 : Nat → Nat → Int32) (y8 : Int32) (y9 : Int32), kf2 md_X3_pieces_c2 mr_X3_pieces_c2 F10 R11 (b9 F10 R11 y8 y9)) : kf2 md_X3_pieces_c2 mr_X3_pieces_c2 F10 R11 (KB_X3_pieces_c2_9 b9 F10 R11 y8 y9) := by
  unfold KB_X3_pieces_c2_9
  exact (kf2_ite (kf2_tr (g_fr_rf _) (g_fr_rf _) (fr_K_X3_pieces_c2_56 F10 R11 y8)) (kf2_lt (fun r24 _ => (kf2_ite (kf2_lt (fun x33 _ => (kf2_lt (fun F35 zF35 => (kf2_lt3 (fun r37 F41 R42 zF41 => (kf2_lt2 (fun F48 R49 zF48 => (kf2_lt (fun x51 _ => (kf2_tr (kf2_F (kf3_F (kf_u (g_fr_rf _) rfl zF35) (fr_sp_X2_emit_25 F35 R11 4 y8) zF41 rfl) (fr_sp_X3_piece_c2 F41 R42) zF48 rfl) (kf2_R (kf3_R (g_fr_rf _) (fr_sp_X2_emit_25 F35 R11 4 y8) zF41 rfl) (fr_sp_X3_piece_c2 F41 R42) zF48 rfl) (hb9 F48 R49 r37 x51)))))))))))) (kf2_tr (g_fr_rf _) (g_fr_rf _) (fr_K_X3_pieces_c2_56 F10 R11 y8))))))
theorem fr_K_X3_pieces_c2_9  : ∀ (n : Nat) (F10 : Nat → Int32) (R11 : Nat → Nat → Int32) (y8 : Int32) (y9 : Int32), kf2 md_X3_pieces_c2 mr_X3_pieces_c2 F10 R11 (K_X3_pieces_c2_9  n F10 R11 y8 y9)
  | 0, F10, R11, y8, y9 => ⟨g_fr_rf _, g_fr_rf _⟩
  | n + 1, F10, R11, y8, y9 => fr_KB_X3_pieces_c2_9 F10 R11 y8 y9 (K_X3_pieces_c2_9  n) (fr_K_X3_pieces_c2_9  n)
theorem fr_sp_X3_pieces_c2 (F : Nat → Int32) (R : Nat → Nat → Int32) : kf2 md_X3_pieces_c2 mr_X3_pieces_c2 F R (sp_X3_pieces_c2 F R) := by
  unfold sp_X3_pieces_c2
  exact (kf2_lt2 (fun F5 R6 zF5 => (kf2_tr (kf2_F (g_fr_rf _) (fr_sp_X3_piece_c2 F R) zF5 rfl) (kf2_R (g_fr_rf _) (fr_sp_X3_piece_c2 F R) zF5 rfl) (fr_K_X3_pieces_c2_9 8589934592 F5 R6 (-1) 0))))
theorem fr_K_X3_parts_c2_56 (F10 : Nat → Int32) (R11 : Nat → Nat → Int32) (y8 : Int32) : kf2 md_X3_parts_c2 mr_X3_parts_c2 F10 R11 (K_X3_parts_c2_56 F10 R11 y8) := by
  unfold K_X3_parts_c2_56
  exact (kf2_lt2 (fun F16 R17 zF16 => ⟨(kf2_F (g_fr_rf _) (fr_sp_X2_landHere_25 F10 R11 y8) zF16 rfl), (kf2_R (g_fr_rf _) (fr_sp_X2_landHere_25 F10 R11 y8) zF16 rfl)⟩))
theorem fr_KB_X3_parts_c2_9 (F10 : Nat → Int32) (R11 : Nat → Nat → Int32) (y8 : Int32) (y9 : Int32) (b9 : (Nat → Int32) → (Nat → Nat → Int32) → (Int32) → (Int32) → (Nat → Int32) × (Nat → Nat → Int32)) (hb9 : ∀ (F10 : Nat → Int32) (R11 : Nat → Nat → Int32) (y8 : Int32) (y9 : Int32), kf2 md_X3_parts_c2 mr_X3_parts_c2 F10 R11 (b9 F10 R11 y8 y9)) : kf2 md_X3_parts_c2 mr_X3_parts_c2 F10 R11 (KB_X3_parts_c2_9 b9 F10 R11 y8 y9) := by
  unfold KB_X3_parts_c2_9
  exact (kf2_ite (kf2_tr (g_fr_rf _) (g_fr_rf _) (fr_K_X3_parts_c2_56 F10 R11 y8)) (kf2_lt (fun r24 _ => (kf2_ite (kf2_lt (fun x33 _ => (kf2_lt (fun F35 zF35 => (kf2_lt3 (fun r37 F41 R42 zF41 => (kf2_lt2 (fun F48 R49 zF48 => (kf2_lt (fun x51 _ => (kf2_tr (kf2_F (kf3_F (kf_u (g_fr_rf _) rfl zF35) (fr_sp_X2_emit_25 F35 R11 5 y8) zF41 rfl) (fr_sp_X3_pieces_c2 F41 R42) zF48 rfl) (kf2_R (kf3_R (g_fr_rf _) (fr_sp_X2_emit_25 F35 R11 5 y8) zF41 rfl) (fr_sp_X3_pieces_c2 F41 R42) zF48 rfl) (hb9 F48 R49 r37 x51)))))))))))) (kf2_tr (g_fr_rf _) (g_fr_rf _) (fr_K_X3_parts_c2_56 F10 R11 y8))))))
theorem fr_K_X3_parts_c2_9  : ∀ (n : Nat) (F10 : Nat → Int32) (R11 : Nat → Nat → Int32) (y8 : Int32) (y9 : Int32), kf2 md_X3_parts_c2 mr_X3_parts_c2 F10 R11 (K_X3_parts_c2_9  n F10 R11 y8 y9)
  | 0, F10, R11, y8, y9 => ⟨g_fr_rf _, g_fr_rf _⟩
  | n + 1, F10, R11, y8, y9 => fr_KB_X3_parts_c2_9 F10 R11 y8 y9 (K_X3_parts_c2_9  n) (fr_K_X3_parts_c2_9  n)
theorem fr_sp_X3_parts_c2 (F : Nat → Int32) (R : Nat → Nat → Int32) : kf2 md_X3_parts_c2 mr_X3_parts_c2 F R (sp_X3_parts_c2 F R) := by
  unfold sp_X3_parts_c2
  exact (kf2_lt2 (fun F5 R6 zF5 => (kf2_tr (kf2_F (g_fr_rf _) (fr_sp_X3_pieces_c2 F R) zF5 rfl) (kf2_R (g_fr_rf _) (fr_sp_X3_pieces_c2 F R) zF5 rfl) (fr_K_X3_parts_c2_9 8589934592 F5 R6 (-1) 0))))
theorem fr_K_X3_piece_c1_75 (F6 : Nat → Int32) (R7 : Nat → Nat → Int32) : kf2 md_X3_piece_c1 mr_X3_piece_c1 F6 R7 (K_X3_piece_c1_75 F6 R7) := by
  unfold K_X3_piece_c1_75
  exact ⟨(g_fr_rf _), (g_fr_rf _)⟩
theorem fr_sp_X3_piece_c1 (F : Nat → Int32) (R : Nat → Nat → Int32) : kf2 md_X3_piece_c1 mr_X3_piece_c1 F R (sp_X3_piece_c1 F R) := by
  unfold sp_X3_piece_c1
  exact (kf2_lt (fun r1 _ => (kf2_ite (kf2_lt3 (fun r50 F54 R55 zF54 => (kf2_lt2 (fun F62 R63 zF62 => (kf2_lt3 (fun r65 F69 R70 zF69 => (kf2_tr (kf3_F (kf2_F (kf3_F (g_fr_rf _) (fr_sp_X3_opens_c1 F R) zF54 rfl) (fr_sp_X3_piece_c2 F54 R55) zF62 rfl) (fr_sp_X2_emit_25 F62 R63 3 0) zF69 rfl) (kf3_R (kf2_R (kf3_R (g_fr_rf _) (fr_sp_X3_opens_c1 F R) zF54 rfl) (fr_sp_X3_piece_c2 F54 R55) zF62 rfl) (fr_sp_X2_emit_25 F62 R63 3 0) zF69 rfl) (fr_K_X3_piece_c1_75 F69 R70)))))))) (kf2_lt (fun r10 _ => (kf2_ite (kf2_lt3 (fun r26 F30 R31 zF30 => (kf2_lt2 (fun F38 R39 zF38 => (kf2_lt2 (fun F45 R46 zF45 => (kf2_tr (kf2_F (kf2_F (kf3_F (g_fr_rf _) (fr_sp_X3_opens_c1 F R) zF30 rfl) (fr_sp_X3_parts_c2 F30 R31) zF38 rfl) (fr_sp_X3_pass F38 R39 41) zF45 rfl) (kf2_R (kf2_R (kf3_R (g_fr_rf _) (fr_sp_X3_opens_c1 F R) zF30 rfl) (fr_sp_X3_parts_c2 F30 R31) zF38 rfl) (fr_sp_X3_pass F38 R39 41) zF45 rfl) (fr_K_X3_piece_c1_75 F45 R46)))))))) (kf2_lt2 (fun F21 R22 zF21 => (kf2_tr (kf2_F (g_fr_rf _) (fr_sp_X3_comparison_c1 F R) zF21 rfl) (kf2_R (g_fr_rf _) (fr_sp_X3_comparison_c1 F R) zF21 rfl) (fr_K_X3_piece_c1_75 F21 R22))))))))))
theorem fr_K_X3_pieces_c1_56 (F10 : Nat → Int32) (R11 : Nat → Nat → Int32) (y8 : Int32) : kf2 md_X3_pieces_c1 mr_X3_pieces_c1 F10 R11 (K_X3_pieces_c1_56 F10 R11 y8) := by
  unfold K_X3_pieces_c1_56
  exact (kf2_lt2 (fun F16 R17 zF16 => ⟨(kf2_F (g_fr_rf _) (fr_sp_X2_landHere_25 F10 R11 y8) zF16 rfl), (kf2_R (g_fr_rf _) (fr_sp_X2_landHere_25 F10 R11 y8) zF16 rfl)⟩))
theorem fr_KB_X3_pieces_c1_9 (F10 : Nat → Int32) (R11 : Nat → Nat → Int32) (y8 : Int32) (y9 : Int32) (b9 : (Nat → Int32) → (Nat → Nat → Int32) → (Int32) → (Int32) → (Nat → Int32) × (Nat → Nat → Int32)) (hb9 : ∀ (F10 : Nat → Int32) (R11 : Nat → Nat → Int32) (y8 : Int32) (y9 : Int32), kf2 md_X3_pieces_c1 mr_X3_pieces_c1 F10 R11 (b9 F10 R11 y8 y9)) : kf2 md_X3_pieces_c1 mr_X3_pieces_c1 F10 R11 (KB_X3_pieces_c1_9 b9 F10 R11 y8 y9) := by
  unfold KB_X3_pieces_c1_9
  exact (kf2_ite (kf2_tr (g_fr_rf _) (g_fr_rf _) (fr_K_X3_pieces_c1_56 F10 R11 y8)) (kf2_lt (fun r24 _ => (kf2_ite (kf2_lt (fun x33 _ => (kf2_lt (fun F35 zF35 => (kf2_lt3 (fun r37 F41 R42 zF41 => (kf2_lt2 (fun F48 R49 zF48 => (kf2_lt (fun x51 _ => (kf2_tr (kf2_F (kf3_F (kf_u (g_fr_rf _) rfl zF35) (fr_sp_X2_emit_25 F35 R11 4 y8) zF41 rfl) (fr_sp_X3_piece_c1 F41 R42) zF48 rfl) (kf2_R (kf3_R (g_fr_rf _) (fr_sp_X2_emit_25 F35 R11 4 y8) zF41 rfl) (fr_sp_X3_piece_c1 F41 R42) zF48 rfl) (hb9 F48 R49 r37 x51)))))))))))) (kf2_tr (g_fr_rf _) (g_fr_rf _) (fr_K_X3_pieces_c1_56 F10 R11 y8))))))
theorem fr_K_X3_pieces_c1_9  : ∀ (n : Nat) (F10 : Nat → Int32) (R11 : Nat → Nat → Int32) (y8 : Int32) (y9 : Int32), kf2 md_X3_pieces_c1 mr_X3_pieces_c1 F10 R11 (K_X3_pieces_c1_9  n F10 R11 y8 y9)
  | 0, F10, R11, y8, y9 => ⟨g_fr_rf _, g_fr_rf _⟩
  | n + 1, F10, R11, y8, y9 => fr_KB_X3_pieces_c1_9 F10 R11 y8 y9 (K_X3_pieces_c1_9  n) (fr_K_X3_pieces_c1_9  n)
theorem fr_sp_X3_pieces_c1 (F : Nat → Int32) (R : Nat → Nat → Int32) : kf2 md_X3_pieces_c1 mr_X3_pieces_c1 F R (sp_X3_pieces_c1 F R) := by
  unfold sp_X3_pieces_c1
  exact (kf2_lt2 (fun F5 R6 zF5 => (kf2_tr (kf2_F (g_fr_rf _) (fr_sp_X3_piece_c1 F R) zF5 rfl) (kf2_R (g_fr_rf _) (fr_sp_X3_piece_c1 F R) zF5 rfl) (fr_K_X3_pieces_c1_9 8589934592 F5 R6 (-1) 0))))
theorem fr_K_X3_parts_c1_56 (F10 : Nat → Int32) (R11 : Nat → Nat → Int32) (y8 : Int32) : kf2 md_X3_parts_c1 mr_X3_parts_c1 F10 R11 (K_X3_parts_c1_56 F10 R11 y8) := by
  unfold K_X3_parts_c1_56
  exact (kf2_lt2 (fun F16 R17 zF16 => ⟨(kf2_F (g_fr_rf _) (fr_sp_X2_landHere_25 F10 R11 y8) zF16 rfl), (kf2_R (g_fr_rf _) (fr_sp_X2_landHere_25 F10 R11 y8) zF16 rfl)⟩))
theorem fr_KB_X3_parts_c1_9 (F10 : Nat → Int32) (R11 : Nat → Nat → Int32) (y8 : Int32) (y9 : Int32) (b9 : (Nat → Int32) → (Nat → Nat → Int32) → (Int32) → (Int32) → (Nat → Int32) × (Nat → Nat → Int32)) (hb9 : ∀ (F10 : Nat → Int32) (R11 : Nat → Nat → Int32) (y8 : Int32) (y9 : Int32), kf2 md_X3_parts_c1 mr_X3_parts_c1 F10 R11 (b9 F10 R11 y8 y9)) : kf2 md_X3_parts_c1 mr_X3_parts_c1 F10 R11 (KB_X3_parts_c1_9 b9 F10 R11 y8 y9) := by
  unfold KB_X3_parts_c1_9
  exact (kf2_ite (kf2_tr (g_fr_rf _) (g_fr_rf _) (fr_K_X3_parts_c1_56 F10 R11 y8)) (kf2_lt (fun r24 _ => (kf2_ite (kf2_lt (fun x33 _ => (kf2_lt (fun F35 zF35 => (kf2_lt3 (fun r37 F41 R42 zF41 => (kf2_lt2 (fun F48 R49 zF48 => (kf2_lt (fun x51 _ => (kf2_tr (kf2_F (kf3_F (kf_u (g_fr_rf _) rfl zF35) (fr_sp_X2_emit_25 F35 R11 5 y8) zF41 rfl) (fr_sp_X3_pieces_c1 F41 R42) zF48 rfl) (kf2_R (kf3_R (g_fr_rf _) (fr_sp_X2_emit_25 F35 R11 5 y8) zF41 rfl) (fr_sp_X3_pieces_c1 F41 R42) zF48 rfl) (hb9 F48 R49 r37 x51)))))))))))) (kf2_tr (g_fr_rf _) (g_fr_rf _) (fr_K_X3_parts_c1_56 F10 R11 y8))))))
theorem fr_K_X3_parts_c1_9  : ∀ (n : Nat) (F10 : Nat → Int32) (R11 : Nat → Nat → Int32) (y8 : Int32) (y9 : Int32), kf2 md_X3_parts_c1 mr_X3_parts_c1 F10 R11 (K_X3_parts_c1_9  n F10 R11 y8 y9)
  | 0, F10, R11, y8, y9 => ⟨g_fr_rf _, g_fr_rf _⟩
  | n + 1, F10, R11, y8, y9 => fr_KB_X3_parts_c1_9 F10 R11 y8 y9 (K_X3_parts_c1_9  n) (fr_K_X3_parts_c1_9  n)
theorem fr_sp_X3_parts_c1 (F : Nat → Int32) (R : Nat → Nat → Int32) : kf2 md_X3_parts_c1 mr_X3_parts_c1 F R (sp_X3_parts_c1 F R) := by
  unfold sp_X3_parts_c1
  exact (kf2_lt2 (fun F5 R6 zF5 => (kf2_tr (kf2_F (g_fr_rf _) (fr_sp_X3_pieces_c1 F R) zF5 rfl) (kf2_R (g_fr_rf _) (fr_sp_X3_pieces_c1 F R) zF5 rfl) (fr_K_X3_parts_c1_9 8589934592 F5 R6 (-1) 0))))
theorem fr_K_X2_addClause_25_49 (F1 : Nat → Int32) (R2 : Nat → Nat → Int32) : kf2 md_X2_addClause_25 mr_X2_addClause_25 F1 R2 (K_X2_addClause_25_49 F1 R2) := by
  unfold K_X2_addClause_25_49
  exact ⟨(g_fr_rf _), (g_fr_rf _)⟩
theorem fr_sp_X2_addClause_25 (F : Nat → Int32) (R : Nat → Nat → Int32) (a0 : Int32) (a1 : Int32) (a2 : Int32) : kf2 md_X2_addClause_25 mr_X2_addClause_25 F R (sp_X2_addClause_25 F R a0 a1 a2) := by
  unfold sp_X2_addClause_25
  exact (kf2_ite (kf2_tr (g_fr_rf _) (g_fr_rf _) (fr_K_X2_addClause_25_49 F R)) (kf2_lt (fun R8 zR8 => (kf2_lt (fun R10 zR10 => (kf2_lt (fun R12 zR12 => (kf2_lt (fun x14 _ => (kf2_lt (fun F16 zF16 => (kf2_tr (kf_u (g_fr_rf _) rfl zF16) (kf_r (kf_r (kf_r (g_fr_rf _) rfl zR8) rfl zR10) rfl zR12) (fr_K_X2_addClause_25_49 F16 R12)))))))))))))
theorem fr_K_X3_clause_22 (F : Nat → Int32) (R : Nat → Nat → Int32) (y6 : Int32) : kf2 md_X3_clause mr_X3_clause F R (K_X3_clause_22 F R y6) := by
  unfold K_X3_clause_22
  exact (kf2_ite (kf2_ite (kf2_lt (fun x13 _ => (kf2_lt (fun F15 zF15 => (kf2_lt2 (fun F21 R22 zF21 => (kf2_lt3 (fun r24 F28 R29 zF28 => (kf2_lt2 (fun F35 R36 zF35 => (kf2_lt2 (fun F42 R43 zF42 => (kf2_lt2 (fun F49 R50 zF49 => (kf2_lt3 (fun r52 F56 R57 zF56 => (kf2_lt2 (fun F63 R64 zF63 => ⟨(kf2_F (kf3_F (kf2_F (kf2_F (kf2_F (kf3_F (kf2_F (kf_u (g_fr_rf _) rfl zF15) (fr_sp_X3_sum_c0 F15 R) zF21 rfl) (fr_sp_X2_emit_25 F21 R22 0 0) zF28 rfl) (fr_sp_X3_pass F28 R29 40) zF35 rfl) (fr_sp_X3_parts_c1 F35 R36) zF42 rfl) (fr_sp_X3_pass F42 R43 41) zF49 rfl) (fr_sp_X2_emit_25 F49 R50 0 0) zF56 rfl) (fr_sp_X2_addClause_25 F56 R57 y6 (F 402) (F28 402)) zF63 rfl), (kf2_R (kf3_R (kf2_R (kf2_R (kf2_R (kf3_R (kf2_R (g_fr_rf _) (fr_sp_X3_sum_c0 F15 R) zF21 rfl) (fr_sp_X2_emit_25 F21 R22 0 0) zF28 rfl) (fr_sp_X3_pass F28 R29 40) zF35 rfl) (fr_sp_X3_parts_c1 F35 R36) zF42 rfl) (fr_sp_X3_pass F42 R43 41) zF49 rfl) (fr_sp_X2_emit_25 F49 R50 0 0) zF56 rfl) (fr_sp_X2_addClause_25 F56 R57 y6 (F 402) (F28 402)) zF63 rfl)⟩)))))))))))))))))) (kf2_lt2 (fun F72 R73 zF72 => ⟨(kf2_F (g_fr_rf _) (fr_sp_X3_fail F R 4) zF72 rfl), (kf2_R (g_fr_rf _) (fr_sp_X3_fail F R 4) zF72 rfl)⟩))) (kf2_lt2 (fun F81 R82 zF81 => ⟨(kf2_F (g_fr_rf _) (fr_sp_X3_fail F R 1) zF81 rfl), (kf2_R (g_fr_rf _) (fr_sp_X3_fail F R 1) zF81 rfl)⟩)))
theorem fr_sp_X3_clause (F : Nat → Int32) (R : Nat → Nat → Int32) : kf2 md_X3_clause mr_X3_clause F R (sp_X3_clause F R) := by
  unfold sp_X3_clause
  exact (kf2_lt (fun r1 _ => (kf2_ite (kf2_tr (g_fr_rf _) (g_fr_rf _) (fr_K_X3_clause_22 F R (-1))) (kf2_lt (fun r86 _ => (kf2_lt (fun x91 _ => (kf2_lt (fun r93 _ => (kf2_tr (g_fr_rf _) (g_fr_rf _) (fr_K_X3_clause_22 F R r93)))))))))))
theorem fr_K_X3_read_132 (F27 : Nat → Int32) (R28 : Nat → Nat → Int32) : kf3 md_X3_read mr_X3_read F27 R28 (K_X3_read_132 F27 R28) := by
  unfold K_X3_read_132
  exact ⟨(g_fr_rf _), (g_fr_rf _)⟩
theorem fr_K_X3_read_109 (F25 : Nat → Int32) (R26 : Nat → Nat → Int32) : kf3 md_X3_read mr_X3_read F25 R26 (K_X3_read_109 F25 R26) := by
  unfold K_X3_read_109
  exact (kf3_ite (kf3_ite (kf3_tr (g_fr_rf _) (g_fr_rf _) (fr_K_X3_read_132 F25 R26)) (kf3_lt2 (fun F42 R43 zF42 => (kf3_tr (kf2_F (g_fr_rf _) (fr_sp_X3_fail F25 R26 1) zF42 rfl) (kf2_R (g_fr_rf _) (fr_sp_X3_fail F25 R26 1) zF42 rfl) (fr_K_X3_read_132 F42 R43))))) (kf3_tr (g_fr_rf _) (g_fr_rf _) (fr_K_X3_read_132 F25 R26)))
theorem fr_KB_X3_read_73 (F25 : Nat → Int32) (R26 : Nat → Nat → Int32) (y24 : Int32) (b73 : (Nat → Int32) → (Nat → Nat → Int32) → (Int32) → Int32 × (Nat → Int32) × (Nat → Nat → Int32)) (hb73 : ∀ (F25 : Nat → Int32) (R26 : Nat → Nat → Int32) (y24 : Int32), kf3 md_X3_read mr_X3_read F25 R26 (b73 F25 R26 y24)) : kf3 md_X3_read mr_X3_read F25 R26 (KB_X3_read_73 b73 F25 R26 y24) := by
  unfold KB_X3_read_73
  exact (kf3_ite (kf3_tr (g_fr_rf _) (g_fr_rf _) (fr_K_X3_read_109 F25 R26)) (kf3_lt (fun r50 _ => (kf3_ite (kf3_lt (fun x59 _ => (kf3_lt (fun F61 zF61 => (kf3_lt2 (fun F67 R68 zF67 => (kf3_lt (fun x70 _ => (kf3_tr (kf2_F (kf_u (g_fr_rf _) rfl zF61) (fr_sp_X3_clause F61 R26) zF67 rfl) (kf2_R (g_fr_rf _) (fr_sp_X3_clause F61 R26) zF67 rfl) (hb73 F67 R68 x70)))))))))) (kf3_tr (g_fr_rf _) (g_fr_rf _) (fr_K_X3_read_109 F25 R26))))))
theorem fr_K_X3_read_73  : ∀ (n : Nat) (F25 : Nat → Int32) (R26 : Nat → Nat → Int32) (y24 : Int32), kf3 md_X3_read mr_X3_read F25 R26 (K_X3_read_73  n F25 R26 y24)
  | 0, F25, R26, y24 => ⟨g_fr_rf _, g_fr_rf _⟩
  | n + 1, F25, R26, y24 => fr_KB_X3_read_73 F25 R26 y24 (K_X3_read_73  n) (fr_K_X3_read_73  n)
theorem fr_K_X3_read_50 (F4 : Nat → Int32) (R5 : Nat → Nat → Int32) : kf3 md_X3_read mr_X3_read F4 R5 (K_X3_read_50 F4 R5) := by
  unfold K_X3_read_50
  exact (kf3_lt (fun F6 zF6 => (kf3_lt (fun F8 zF8 => (kf3_lt2 (fun F14 R15 zF14 => (kf3_lt2 (fun F21 R22 zF21 => (kf3_tr (kf2_F (kf2_F (kf_u (kf_u (g_fr_rf _) rfl zF6) rfl zF8) (fr_sp_X2_clear_25 F8 R5) zF14 rfl) (fr_sp_X3_clause F14 R15) zF21 rfl) (kf2_R (kf2_R (g_fr_rf _) (fr_sp_X2_clear_25 F8 R5) zF14 rfl) (fr_sp_X3_clause F14 R15) zF21 rfl) (fr_K_X3_read_73 8589934592 F21 R22 0))))))))))
theorem fr_KB_X3_read_7 (a1 : Int32) (F4 : Nat → Int32) (R5 : Nat → Nat → Int32) (y3 : Int32) (b7 : (Nat → Int32) → (Nat → Nat → Int32) → (Int32) → Int32 × (Nat → Int32) × (Nat → Nat → Int32)) (hb7 : ∀ (F4 : Nat → Int32) (R5 : Nat → Nat → Int32) (y3 : Int32), kf3 md_X3_read mr_X3_read F4 R5 (b7 F4 R5 y3)) : kf3 md_X3_read mr_X3_read F4 R5 (KB_X3_read_7 b7 a1 F4 R5 y3) := by
  unfold KB_X3_read_7
  exact (kf3_ite (kf3_tr (g_fr_rf _) (g_fr_rf _) (fr_K_X3_read_50 F4 R5)) (kf3_ite (kf3_tr (g_fr_rf _) (g_fr_rf _) (fr_K_X3_read_50 F4 R5)) (kf3_lt (fun r82 _ => (kf3_lt (fun R87 zR87 => (kf3_lt (fun x89 _ => (kf3_lt (fun F91 zF91 => (kf3_lt (fun x93 _ => (kf3_tr (kf_u (g_fr_rf _) rfl zF91) (kf_r (g_fr_rf _) rfl zR87) (hb7 F91 R87 x93))))))))))))))
theorem fr_K_X3_read_7 (a1 : Int32) : ∀ (n : Nat) (F4 : Nat → Int32) (R5 : Nat → Nat → Int32) (y3 : Int32), kf3 md_X3_read mr_X3_read F4 R5 (K_X3_read_7 a1 n F4 R5 y3)
  | 0, F4, R5, y3 => ⟨g_fr_rf _, g_fr_rf _⟩
  | n + 1, F4, R5, y3 => fr_KB_X3_read_7 a1 F4 R5 y3 (K_X3_read_7 a1 n) (fr_K_X3_read_7 a1 n)
theorem fr_sp_X3_read (F : Nat → Int32) (R : Nat → Nat → Int32) (a1 : Int32) : kf3 md_X3_read mr_X3_read F R (sp_X3_read F R a1) := by
  unfold sp_X3_read
  exact (kf3_lt (fun F1 zF1 => (kf3_tr (kf_u (g_fr_rf _) rfl zF1) (g_fr_rf _) (fr_K_X3_read_7 a1 8589934592 F1 R 0))))
theorem fr_sp_X2_copy_17_r25 (F : Nat → Int32) (R : Nat → Nat → Int32) : kf2 md_X2_copy_17_r25 mr_X2_copy_17_r25 F R (sp_X2_copy_17_r25 F R) := by
  unfold sp_X2_copy_17_r25
  exact (kf2_lt (fun F1 zF1 => (kf2_lt (fun F3 zF3 => (kf2_lt (fun R5 zR5 => (kf2_lt (fun R7 zR7 => (kf2_lt (fun R9 zR9 => (kf2_lt (fun R11 zR11 => (kf2_lt (fun R13 zR13 => ⟨(kf_u (kf_u (g_fr_rf _) rfl zF1) rfl zF3), (kf_r (kf_r (kf_r (kf_r (kf_r (g_fr_rf _) rfl zR5) rfl zR7) rfl zR9) rfl zR11) rfl zR13)⟩))))))))))))))
theorem fr_K_X10_law_22 (F : Nat → Int32) (R : Nat → Nat → Int32) : kf3 md_X10_law mr_X10_law F R (K_X10_law_22 F R) := by
  unfold K_X10_law_22
  exact ⟨(g_fr_rf _), (g_fr_rf _)⟩
theorem fr_sp_X10_law (F : Nat → Int32) (R : Nat → Nat → Int32) (a0 : Int32) : kf3 md_X10_law mr_X10_law F R (sp_X10_law F R a0) := by
  unfold sp_X10_law
  exact (kf3_lt (fun r1 _ => (kf3_ite (kf3_tr (g_fr_rf _) (g_fr_rf _) (fr_K_X10_law_22 F R)) (kf3_ite (kf3_lt3 (fun r14 F18 R19 zF18 => (kf3_lt (fun F21 zF21 => (kf3_ite (kf3_lt2 (fun F30 R31 zF30 => (kf3_lt (fun x33 _ => (kf3_lt (fun F35 zF35 => ⟨(kf_u (kf2_F (kf_u (kf3_F (g_fr_rf _) (fr_sp_X3_read F R a0) zF18 rfl) rfl zF21) (fr_sp_X2_copy_17_r25 F21 R19) zF30 rfl) rfl zF35), (kf2_R (kf3_R (g_fr_rf _) (fr_sp_X3_read F R a0) zF18 rfl) (fr_sp_X2_copy_17_r25 F21 R19) zF30 rfl)⟩)))))) ⟨(kf_u (kf3_F (g_fr_rf _) (fr_sp_X3_read F R a0) zF18 rfl) rfl zF21), (kf3_R (g_fr_rf _) (fr_sp_X3_read F R a0) zF18 rfl)⟩))))) (kf3_tr (g_fr_rf _) (g_fr_rf _) (fr_K_X10_law_22 F R))))))
theorem fr_K_X0_begin_88 (y17 : Int32) (F31 : Nat → Int32) (R32 : Nat → Nat → Int32) (b44 : (Nat → Int32) → (Nat → Nat → Int32) → (Int32) → (Nat → Int32) × (Nat → Nat → Int32)) (hb44 : ∀ (F18 : Nat → Int32) (R19 : Nat → Nat → Int32) (y17 : Int32), kf2 md_X0_begin mr_X0_begin F18 R19 (b44 F18 R19 y17)) : kf2 md_X0_begin mr_X0_begin F31 R32 (K_X0_begin_88 b44 y17 F31 R32) := by
  unfold K_X0_begin_88
  exact (kf2_lt (fun x34 _ => (kf2_tr (g_fr_rf _) (g_fr_rf _) (hb44 F31 R32 x34))))
theorem fr_KB_X0_begin_44 (F18 : Nat → Int32) (R19 : Nat → Nat → Int32) (y17 : Int32) (b44 : (Nat → Int32) → (Nat → Nat → Int32) → (Int32) → (Nat → Int32) × (Nat → Nat → Int32)) (hb44 : ∀ (F18 : Nat → Int32) (R19 : Nat → Nat → Int32) (y17 : Int32), kf2 md_X0_begin mr_X0_begin F18 R19 (b44 F18 R19 y17)) : kf2 md_X0_begin mr_X0_begin F18 R19 (KB_X0_begin_44 b44 F18 R19 y17) := by
  unfold KB_X0_begin_44
  exact (kf2_ite ⟨(g_fr_rf _), (g_fr_rf _)⟩ (kf2_lt (fun r26 _ => (kf2_ite (kf2_tr (g_fr_rf _) (g_fr_rf _) (fr_K_X0_begin_88 y17 F18 R19 b44 hb44)) (kf2_lt (fun r41 _ => (kf2_lt (fun R46 zR46 => (kf2_lt (fun x48 _ => (kf2_lt (fun F50 zF50 => (kf2_tr (kf_u (g_fr_rf _) rfl zF50) (kf_r (g_fr_rf _) rfl zR46) (fr_K_X0_begin_88 y17 F50 R46 b44 hb44))))))))))))))
theorem fr_K_X0_begin_44  : ∀ (n : Nat) (F18 : Nat → Int32) (R19 : Nat → Nat → Int32) (y17 : Int32), kf2 md_X0_begin mr_X0_begin F18 R19 (K_X0_begin_44  n F18 R19 y17)
  | 0, F18, R19, y17 => ⟨g_fr_rf _, g_fr_rf _⟩
  | n + 1, F18, R19, y17 => fr_KB_X0_begin_44 F18 R19 y17 (K_X0_begin_44  n) (fr_K_X0_begin_44  n)
theorem fr_KB_X0_begin_18 (F8 : Nat → Int32) (R11 : Nat → Nat → Int32) (y10 : Int32) (b18 : (Nat → Nat → Int32) → (Int32) → (Nat → Int32) × (Nat → Nat → Int32)) (hb18 : ∀ (R11 : Nat → Nat → Int32) (y10 : Int32), kf2 md_X0_begin mr_X0_begin F8 R11 (b18 R11 y10)) : kf2 md_X0_begin mr_X0_begin F8 R11 (KB_X0_begin_18 b18 F8 R11 y10) := by
  unfold KB_X0_begin_18
  exact (kf2_ite (kf2_lt (fun F15 zF15 => (kf2_tr (kf_u (g_fr_rf _) rfl zF15) (g_fr_rf _) (fr_K_X0_begin_44 8589934592 F15 R11 0)))) (kf2_lt (fun R54 zR54 => (kf2_lt (fun x56 _ => (kf2_tr (g_fr_rf _) (kf_r (g_fr_rf _) rfl zR54) (hb18 R54 x56)))))))
theorem fr_K_X0_begin_18 (F8 : Nat → Int32) : ∀ (n : Nat) (R11 : Nat → Nat → Int32) (y10 : Int32), kf2 md_X0_begin mr_X0_begin F8 R11 (K_X0_begin_18 F8 n R11 y10)
  | 0, R11, y10 => ⟨g_fr_rf _, g_fr_rf _⟩
  | n + 1, R11, y10 => fr_KB_X0_begin_18 F8 R11 y10 (K_X0_begin_18 F8 n) (fr_K_X0_begin_18 F8 n)
theorem fr_sp_X0_begin (F : Nat → Int32) (R : Nat → Nat → Int32) : kf2 md_X0_begin mr_X0_begin F R (sp_X0_begin F R) := by
  unfold sp_X0_begin
  exact (kf2_lt2 (fun F5 R6 zF5 => (kf2_lt (fun F8 zF8 => (kf2_tr (kf_u (kf2_F (g_fr_rf _) (fr_sp_X4_begin_r5 F R) zF5 rfl) rfl zF8) (kf2_R (g_fr_rf _) (fr_sp_X4_begin_r5 F R) zF5 rfl) (fr_K_X0_begin_18 F8 8589934592 R6 0))))))
theorem fr_K_X0_pullCloth_98 (r1 : Int32) (F21 : Nat → Int32) (R22 : Nat → Nat → Int32) (y20 : Int32) : kf2 md_X0_pullCloth mr_X0_pullCloth F21 R22 (K_X0_pullCloth_98 r1 F21 R22 y20) := by
  unfold K_X0_pullCloth_98
  exact (kf2_lt (fun x23 _ => (kf2_lt (fun x25 _ => (kf2_lt (fun F27 zF27 => (kf2_lt (fun x29 _ => (kf2_lt (fun F31 zF31 => (kf2_lt (fun x33 _ => (kf2_lt (fun x35 _ => (kf2_lt (fun F37 zF37 => ⟨(kf_u (kf_u (kf_u (g_fr_rf _) rfl zF27) rfl zF31) rfl zF37), (g_fr_rf _)⟩))))))))))))))))
theorem fr_K_X0_pullCloth_32 (a0 : Int32) (r1 : Int32) (F7 : Nat → Int32) (R8 : Nat → Nat → Int32) (y6 : Int32) : kf2 md_X0_pullCloth mr_X0_pullCloth F7 R8 (K_X0_pullCloth_32 a0 r1 F7 R8 y6) := by
  unfold K_X0_pullCloth_32
  exact (kf2_lt2 (fun F13 R14 zF13 => (kf2_lt (fun R16 zR16 => (kf2_lt (fun R18 zR18 => (kf2_ite (kf2_tr (kf2_F (g_fr_rf _) (fr_sp_X2_forget_17 F7 R8) zF13 rfl) (kf_r (kf_r (kf2_R (g_fr_rf _) (fr_sp_X2_forget_17 F7 R8) zF13 rfl) rfl zR16) rfl zR18) (fr_K_X0_pullCloth_98 r1 F13 R18 0)) (kf2_lt (fun R43 zR43 => (kf2_lt3 (fun r45 F49 R50 zF49 => (kf2_lt (fun R52 zR52 => (kf2_tr (kf3_F (kf2_F (g_fr_rf _) (fr_sp_X2_forget_17 F7 R8) zF13 rfl) (fr_sp_X2_ask_17 F13 R43 2) zF49 rfl) (kf_r (kf3_R (kf_r (kf_r (kf_r (kf2_R (g_fr_rf _) (fr_sp_X2_forget_17 F7 R8) zF13 rfl) rfl zR16) rfl zR18) rfl zR43) (fr_sp_X2_ask_17 F13 R43 2) zF49 rfl) rfl zR52) (fr_K_X0_pullCloth_98 r1 F49 R52 r45)))))))))))))))
theorem fr_sp_X0_pullCloth (F : Nat → Int32) (R : Nat → Nat → Int32) (a0 : Int32) : kf2 md_X0_pullCloth mr_X0_pullCloth F R (sp_X0_pullCloth F R a0) := by
  unfold sp_X0_pullCloth
  exact (kf2_lt (fun r1 _ => (kf2_ite (kf2_tr (g_fr_rf _) (g_fr_rf _) (fr_K_X0_pullCloth_32 a0 r1 F R (-1))) (kf2_lt3 (fun r59 F63 R64 zF63 => (kf2_tr (kf3_F (g_fr_rf _) (fr_sp_X1_draw F R a0) zF63 rfl) (kf3_R (g_fr_rf _) (fr_sp_X1_draw F R a0) zF63 rfl) (fr_K_X0_pullCloth_32 a0 r1 F63 R64 r59)))))))
theorem fr_sp_X0_describe (F : Nat → Int32) (R : Nat → Nat → Int32) (a0 : Int32) : kf2 md_X0_describe mr_X0_describe F R (sp_X0_describe F R a0) := by
  unfold sp_X0_describe
  exact (kf2_lt (fun R1 zR1 => (kf2_lt (fun r3 _ => (kf2_lt (fun R8 zR8 => (kf2_lt (fun x10 _ => (kf2_lt (fun R12 zR12 => (kf2_lt (fun r14 _ => (kf2_lt (fun R19 zR19 => (kf2_lt (fun r21 _ => (kf2_lt (fun R26 zR26 => (kf2_lt (fun r28 _ => (kf2_lt (fun R33 zR33 => (kf2_lt (fun x35 _ => (kf2_lt (fun R37 zR37 => (kf2_lt (fun x39 _ => (kf2_lt (fun R41 zR41 => (kf2_lt (fun R43 zR43 => ⟨(g_fr_rf _), (kf_r (kf_r (kf_r (kf_r (kf_r (kf_r (kf_r (kf_r (kf_r (g_fr_rf _) rfl zR1) rfl zR8) rfl zR12) rfl zR19) rfl zR26) rfl zR33) rfl zR37) rfl zR41) rfl zR43)⟩))))))))))))))))))))))))))))))))
theorem fr_K_X0_feelCloth_198 (F22 : Nat → Int32) (R23 : Nat → Nat → Int32) : kf2 md_X0_feelCloth mr_X0_feelCloth F22 R23 (K_X0_feelCloth_198 F22 R23) := by
  unfold K_X0_feelCloth_198
  exact ⟨(g_fr_rf _), (g_fr_rf _)⟩
theorem fr_K_X0_feelCloth_176 (a0 : Int32) (y6 : Int32) (F20 : Nat → Int32) (R21 : Nat → Nat → Int32) : kf2 md_X0_feelCloth mr_X0_feelCloth F20 R21 (K_X0_feelCloth_176 a0 y6 F20 R21) := by
  unfold K_X0_feelCloth_176
  exact (kf2_ite (kf2_tr (g_fr_rf _) (g_fr_rf _) (fr_K_X0_feelCloth_198 F20 R21)) (kf2_lt (fun x29 _ => (kf2_lt3 (fun r31 F35 R36 zF35 => (kf2_lt (fun x38 _ => (kf2_lt (fun R40 zR40 => (kf2_tr (kf3_F (g_fr_rf _) (fr_sp_X2_ask_17 F20 R21 3) zF35 rfl) (kf_r (kf3_R (g_fr_rf _) (fr_sp_X2_ask_17 F20 R21 3) zF35 rfl) rfl zR40) (fr_K_X0_feelCloth_198 F35 R40)))))))))))
theorem fr_K_X0_feelCloth_101 (F : Nat → Int32) (F10 : Nat → Int32) (R : Nat → Nat → Int32) (a0 : Int32) (x1 : Int32) (y5 : Int32) (y6 : Int32) : kf2 md_X0_feelCloth mr_X0_feelCloth F10 R (K_X0_feelCloth_101 F F10 R a0 x1 y5 y6) := by
  unfold K_X0_feelCloth_101
  exact (kf2_lt2 (fun F17 R18 zF17 => (kf2_ite (kf2_lt3 (fun r69 F73 R74 zF73 => (kf2_lt (fun x76 _ => (kf2_lt (fun x78 _ => (kf2_lt (fun R80 zR80 => (kf2_tr (kf3_F (kf2_F (g_fr_rf _) (fr_sp_X0_describe F10 R a0) zF17 rfl) (fr_sp_X2_ask_17 F17 R18 1) zF73 rfl) (kf_r (kf3_R (kf2_R (g_fr_rf _) (fr_sp_X0_describe F10 R a0) zF17 rfl) (fr_sp_X2_ask_17 F17 R18 1) zF73 rfl) rfl zR80) (fr_K_X0_feelCloth_176 a0 y6 F73 R80)))))))))) (kf2_ite (kf2_lt3 (fun r47 F51 R52 zF51 => (kf2_lt (fun x54 _ => (kf2_lt (fun x56 _ => (kf2_lt (fun R58 zR58 => (kf2_tr (kf3_F (kf2_F (g_fr_rf _) (fr_sp_X0_describe F10 R a0) zF17 rfl) (fr_sp_X2_ask_17 F17 R18 0) zF51 rfl) (kf_r (kf3_R (kf2_R (g_fr_rf _) (fr_sp_X0_describe F10 R a0) zF17 rfl) (fr_sp_X2_ask_17 F17 R18 0) zF51 rfl) rfl zR58) (fr_K_X0_feelCloth_176 a0 y6 F51 R58)))))))))) (kf2_lt (fun x63 _ => (kf2_lt (fun R65 zR65 => (kf2_tr (kf2_F (g_fr_rf _) (fr_sp_X0_describe F10 R a0) zF17 rfl) (kf_r (kf2_R (g_fr_rf _) (fr_sp_X0_describe F10 R a0) zF17 rfl) rfl zR65) (fr_K_X0_feelCloth_176 a0 y6 F17 R65))))))))))
theorem fr_K_X0_feelCloth_92 (F : Nat → Int32) (F10 : Nat → Int32) (R : Nat → Nat → Int32) (a0 : Int32) (x1 : Int32) (y5 : Int32) (y6 : Int32) (y12 : Int32) : kf2 md_X0_feelCloth mr_X0_feelCloth F10 R (K_X0_feelCloth_92 F F10 R a0 x1 y5 y6 y12) := by
  unfold K_X0_feelCloth_92
  exact (kf2_ite (kf2_ite ⟨(g_fr_rf _), (g_fr_rf _)⟩ (kf2_tr (g_fr_rf _) (g_fr_rf _) (fr_K_X0_feelCloth_101 F F10 R a0 x1 y5 y6))) (kf2_tr (g_fr_rf _) (g_fr_rf _) (fr_K_X0_feelCloth_101 F F10 R a0 x1 y5 y6)))
theorem fr_K_X0_feelCloth_75 (F : Nat → Int32) (R : Nat → Nat → Int32) (a0 : Int32) (x1 : Int32) (y5 : Int32) (y6 : Int32) (y7 : Int32) : kf2 md_X0_feelCloth mr_X0_feelCloth F R (K_X0_feelCloth_75 F R a0 x1 y5 y6 y7) := by
  unfold K_X0_feelCloth_75
  exact (kf2_lt (fun x8 _ => (kf2_lt (fun F10 zF10 => (kf2_ite (kf2_tr (kf_u (g_fr_rf _) rfl zF10) (g_fr_rf _) (fr_K_X0_feelCloth_92 F F10 R a0 x1 y5 y6 0)) (kf2_tr (kf_u (g_fr_rf _) rfl zF10) (g_fr_rf _) (fr_K_X0_feelCloth_92 F F10 R a0 x1 y5 y6 (F 604))))))))
theorem fr_K_X0_feelCloth_57 (F : Nat → Int32) (R : Nat → Nat → Int32) (a0 : Int32) (x1 : Int32) (y5 : Int32) (y6 : Int32) : kf2 md_X0_feelCloth mr_X0_feelCloth F R (K_X0_feelCloth_57 F R a0 x1 y5 y6) := by
  unfold K_X0_feelCloth_57
  exact (kf2_ite (kf2_tr (g_fr_rf _) (g_fr_rf _) (fr_K_X0_feelCloth_75 F R a0 x1 y5 y6 0)) (kf2_lt (fun x100 _ => (kf2_tr (g_fr_rf _) (g_fr_rf _) (fr_K_X0_feelCloth_75 F R a0 x1 y5 y6 x100)))))
theorem fr_K_X0_feelCloth_56 (F : Nat → Int32) (R : Nat → Nat → Int32) (a0 : Int32) (x1 : Int32) (y5 : Int32) : kf2 md_X0_feelCloth mr_X0_feelCloth F R (K_X0_feelCloth_56 F R a0 x1 y5) := by
  unfold K_X0_feelCloth_56
  exact (kf2_tr (g_fr_rf _) (g_fr_rf _) (fr_K_X0_feelCloth_57 F R a0 x1 y5 0))
theorem fr_K_X0_feelCloth_31 (F : Nat → Int32) (R : Nat → Nat → Int32) (a0 : Int32) (x1 : Int32) (y5 : Int32) : kf2 md_X0_feelCloth mr_X0_feelCloth F R (K_X0_feelCloth_31 F R a0 x1 y5) := by
  unfold K_X0_feelCloth_31
  exact (kf2_ite (kf2_tr (g_fr_rf _) (g_fr_rf _) (fr_K_X0_feelCloth_56 F R a0 x1 y5)) (kf2_lt (fun x107 _ => (kf2_lt (fun r109 _ => (kf2_ite (kf2_tr (g_fr_rf _) (g_fr_rf _) (fr_K_X0_feelCloth_56 F R a0 x1 y5)) (kf2_tr (g_fr_rf _) (g_fr_rf _) (fr_K_X0_feelCloth_57 F R a0 x1 y5 1))))))))
theorem fr_sp_X0_feelCloth (F : Nat → Int32) (R : Nat → Nat → Int32) (a0 : Int32) : kf2 md_X0_feelCloth mr_X0_feelCloth F R (sp_X0_feelCloth F R a0) := by
  unfold sp_X0_feelCloth
  exact (kf2_lt (fun x1 _ => (kf2_lt (fun x3 _ => (kf2_ite (kf2_tr (g_fr_rf _) (g_fr_rf _) (fr_K_X0_feelCloth_31 F R a0 x1 0)) (kf2_tr (g_fr_rf _) (g_fr_rf _) (fr_K_X0_feelCloth_31 F R a0 x1 1)))))))
theorem fr_K_X0_shake_156 (F20 : Nat → Int32) (R21 : Nat → Nat → Int32) : kf2 md_X0_shake mr_X0_shake F20 R21 (K_X0_shake_156 F20 R21) := by
  unfold K_X0_shake_156
  exact ⟨(g_fr_rf _), (g_fr_rf _)⟩
theorem fr_K_X0_shake_100 (a0 : Int32) (r9 : Int32) (y8 : Int32) (F18 : Nat → Int32) (R19 : Nat → Nat → Int32) : kf2 md_X0_shake mr_X0_shake F18 R19 (K_X0_shake_100 a0 r9 y8 F18 R19) := by
  unfold K_X0_shake_100
  exact (kf2_ite (kf2_lt (fun x25 _ => (kf2_ite (kf2_tr (g_fr_rf _) (g_fr_rf _) (fr_K_X0_shake_156 F18 R19)) (kf2_lt (fun x32 _ => (kf2_lt (fun x34 _ => (kf2_lt (fun F36 zF36 => (kf2_tr (kf_u (g_fr_rf _) rfl zF36) (g_fr_rf _) (fr_K_X0_shake_156 F36 R19))))))))))) (kf2_lt (fun x40 _ => (kf2_lt (fun x42 _ => (kf2_lt (fun F44 zF44 => (kf2_lt (fun R46 zR46 => (kf2_tr (kf_u (g_fr_rf _) rfl zF44) (kf_r (g_fr_rf _) rfl zR46) (fr_K_X0_shake_156 F44 R46)))))))))))
theorem fr_K_X0_shake_36 (F : Nat → Int32) (R : Nat → Nat → Int32) (a0 : Int32) (a1 : Int32) (y8 : Int32) : kf2 md_X0_shake mr_X0_shake F R (K_X0_shake_36 F R a0 a1 y8) := by
  unfold K_X0_shake_36
  exact (kf2_lt3 (fun r9 F13 R14 zF13 => (kf2_lt (fun x16 _ => (kf2_ite (kf2_tr (kf3_F (g_fr_rf _) (fr_sp_X2_ask_17 F R 4) zF13 rfl) (kf3_R (g_fr_rf _) (fr_sp_X2_ask_17 F R 4) zF13 rfl) (fr_K_X0_shake_100 a0 r9 y8 F13 R14)) (kf2_lt3 (fun r53 F57 R58 zF57 => (kf2_ite (kf2_tr (kf3_F (kf3_F (g_fr_rf _) (fr_sp_X2_ask_17 F R 4) zF13 rfl) (fr_sp_X2_ask_17 F13 R14 5) zF57 rfl) (kf3_R (kf3_R (g_fr_rf _) (fr_sp_X2_ask_17 F R 4) zF13 rfl) (fr_sp_X2_ask_17 F13 R14 5) zF57 rfl) (fr_K_X0_shake_100 a0 r9 y8 F57 R58)) (kf2_lt (fun x65 _ => (kf2_lt (fun x67 _ => (kf2_lt (fun R69 zR69 => (kf2_lt (fun x71 _ => (kf2_lt (fun x73 _ => (kf2_lt (fun F75 zF75 => (kf2_tr (kf_u (kf3_F (kf3_F (g_fr_rf _) (fr_sp_X2_ask_17 F R 4) zF13 rfl) (fr_sp_X2_ask_17 F13 R14 5) zF57 rfl) rfl zF75) (kf_r (kf3_R (kf3_R (g_fr_rf _) (fr_sp_X2_ask_17 F R 4) zF13 rfl) (fr_sp_X2_ask_17 F13 R14 5) zF57 rfl) rfl zR69) (fr_K_X0_shake_100 a0 r9 y8 F75 R69))))))))))))))))))))))
theorem fr_sp_X0_shake (F : Nat → Int32) (R : Nat → Nat → Int32) (a0 : Int32) (a1 : Int32) : kf2 md_X0_shake mr_X0_shake F R (sp_X0_shake F R a0 a1) := by
  unfold sp_X0_shake
  exact (kf2_ite ⟨(g_fr_rf _), (g_fr_rf _)⟩ (kf2_lt (fun r3 _ => (kf2_ite (kf2_tr (g_fr_rf _) (g_fr_rf _) (fr_K_X0_shake_36 F R a0 a1 0)) (kf2_lt (fun r82 _ => (kf2_lt (fun x87 _ => (kf2_lt (fun x89 _ => (kf2_tr (g_fr_rf _) (g_fr_rf _) (fr_K_X0_shake_36 F R a0 a1 x89))))))))))))
theorem fr_K_X0_lead_30 (F : Nat → Int32) (R : Nat → Nat → Int32) (a0 : Int32) (y10 : Int32) : kf2 md_X0_lead mr_X0_lead F R (K_X0_lead_30 F R a0 y10) := by
  unfold K_X0_lead_30
  exact (kf2_lt (fun x11 _ => (kf2_lt (fun x13 _ => (kf2_lt (fun x15 _ => (kf2_lt2 (fun F21 R22 zF21 => ⟨(kf2_F (g_fr_rf _) (fr_sp_X4_lead F R a0 y10 x15) zF21 rfl), (kf2_R (g_fr_rf _) (fr_sp_X4_lead F R a0 y10 x15) zF21 rfl)⟩))))))))
theorem fr_K_X0_lead_16 (F : Nat → Int32) (R : Nat → Nat → Int32) (a0 : Int32) (y5 : Int32) : kf2 md_X0_lead mr_X0_lead F R (K_X0_lead_16 F R a0 y5) := by
  unfold K_X0_lead_16
  exact (kf2_lt (fun x6 _ => (kf2_lt (fun x8 _ => (kf2_ite (kf2_tr (g_fr_rf _) (g_fr_rf _) (fr_K_X0_lead_30 F R a0 y5)) (kf2_tr (g_fr_rf _) (g_fr_rf _) (fr_K_X0_lead_30 F R a0 2)))))))
theorem fr_sp_X0_lead (F : Nat → Int32) (R : Nat → Nat → Int32) (a0 : Int32) : kf2 md_X0_lead mr_X0_lead F R (sp_X0_lead F R a0) := by
  unfold sp_X0_lead
  exact (kf2_lt (fun x1 _ => (kf2_lt (fun x3 _ => (kf2_ite (kf2_tr (g_fr_rf _) (g_fr_rf _) (fr_K_X0_lead_16 F R a0 1)) (kf2_tr (g_fr_rf _) (g_fr_rf _) (fr_K_X0_lead_16 F R a0 0)))))))
theorem fr_K_X0_slide_65 (F15 : Nat → Int32) (R16 : Nat → Nat → Int32) : kf2 md_X0_slide mr_X0_slide F15 R16 (K_X0_slide_65 F15 R16) := by
  unfold K_X0_slide_65
  exact ⟨(g_fr_rf _), (g_fr_rf _)⟩
theorem fr_sp_X0_slide (F : Nat → Int32) (R : Nat → Nat → Int32) (a0 : Int32) : kf2 md_X0_slide mr_X0_slide F R (sp_X0_slide F R a0) := by
  unfold sp_X0_slide
  exact (kf2_lt (fun x1 _ => (kf2_lt (fun R3 zR3 => (kf2_lt (fun x5 _ => (kf2_lt (fun x7 _ => (kf2_lt (fun x9 _ => (kf2_lt (fun R11 zR11 => (kf2_lt (fun x13 _ => (kf2_ite (kf2_tr (g_fr_rf _) (kf_r (kf_r (g_fr_rf _) rfl zR3) rfl zR11) (fr_K_X0_slide_65 F R11)) (kf2_lt (fun x22 _ => (kf2_lt (fun x24 _ => (kf2_lt (fun F26 zF26 => (kf2_lt2 (fun F32 R33 zF32 => (kf2_tr (kf2_F (kf_u (g_fr_rf _) rfl zF26) (fr_sp_X0_lead F26 R11 a0) zF32 rfl) (kf2_R (kf_r (kf_r (g_fr_rf _) rfl zR3) rfl zR11) (fr_sp_X0_lead F26 R11 a0) zF32 rfl) (fr_K_X0_slide_65 F32 R33)))))))))))))))))))))))))
theorem fr_K_X0_lineUp_118 (y8 : Int32) (F20 : Nat → Int32) (R21 : Nat → Nat → Int32) (b15 : (Nat → Int32) → (Nat → Nat → Int32) → (Int32) → (Nat → Int32) × (Nat → Nat → Int32)) (hb15 : ∀ (F9 : Nat → Int32) (R10 : Nat → Nat → Int32) (y8 : Int32), kf2 md_X0_lineUp mr_X0_lineUp F9 R10 (b15 F9 R10 y8)) : kf2 md_X0_lineUp mr_X0_lineUp F20 R21 (K_X0_lineUp_118 b15 y8 F20 R21) := by
  unfold K_X0_lineUp_118
  exact (kf2_lt (fun x22 _ => (kf2_tr (g_fr_rf _) (g_fr_rf _) (hb15 F20 R21 x22))))
theorem fr_K_X0_lineUp_91 (F9 : Nat → Int32) (R29 : Nat → Nat → Int32) (y8 : Int32) (y28 : Int32) (b15 : (Nat → Int32) → (Nat → Nat → Int32) → (Int32) → (Nat → Int32) × (Nat → Nat → Int32)) (hb15 : ∀ (F9 : Nat → Int32) (R10 : Nat → Nat → Int32) (y8 : Int32), kf2 md_X0_lineUp mr_X0_lineUp F9 R10 (b15 F9 R10 y8)) : kf2 md_X0_lineUp mr_X0_lineUp F9 R29 (K_X0_lineUp_91 b15 F9 R29 y8 y28) := by
  unfold K_X0_lineUp_91
  exact (kf2_ite (kf2_tr (g_fr_rf _) (g_fr_rf _) (fr_K_X0_lineUp_118 y8 F9 R29 b15 hb15)) (kf2_ite (kf2_tr (g_fr_rf _) (g_fr_rf _) (fr_K_X0_lineUp_118 y8 F9 R29 b15 hb15)) (kf2_lt (fun R40 zR40 => (kf2_lt (fun x42 _ => (kf2_lt (fun F44 zF44 => (kf2_tr (kf_u (g_fr_rf _) rfl zF44) (kf_r (g_fr_rf _) rfl zR40) (fr_K_X0_lineUp_118 y8 F44 R40 b15 hb15))))))))))
theorem fr_KB_X0_lineUp_34 (F9 : Nat → Int32) (y8 : Int32) (R29 : Nat → Nat → Int32) (y28 : Int32) (b34 : (Nat → Nat → Int32) → (Int32) → (Nat → Int32) × (Nat → Nat → Int32)) (hb34 : ∀ (R29 : Nat → Nat → Int32) (y28 : Int32), kf2 md_X0_lineUp mr_X0_lineUp F9 R29 (b34 R29 y28)) (b15 : (Nat → Int32) → (Nat → Nat → Int32) → (Int32) → (Nat → Int32) × (Nat → Nat → Int32)) (hb15 : ∀ (F9 : Nat → Int32) (R10 : Nat → Nat → Int32) (y8 : Int32), kf2 md_X0_lineUp mr_X0_lineUp F9 R10 (b15 F9 R10 y8)) : kf2 md_X0_lineUp mr_X0_lineUp F9 R29 (KB_X0_lineUp_34 b34 b15 F9 y8 R29 y28) := by
  unfold KB_X0_lineUp_34
  exact (kf2_ite (kf2_tr (g_fr_rf _) (g_fr_rf _) (fr_K_X0_lineUp_91 F9 R29 y8 y28 b15 hb15)) (kf2_ite (kf2_tr (g_fr_rf _) (g_fr_rf _) (fr_K_X0_lineUp_91 F9 R29 y8 y28 b15 hb15)) (kf2_lt (fun x56 _ => (kf2_lt (fun x58 _ => (kf2_lt (fun r60 _ => (kf2_lt (fun x65 _ => (kf2_ite (kf2_tr (g_fr_rf _) (g_fr_rf _) (fr_K_X0_lineUp_91 F9 R29 y8 y28 b15 hb15)) (kf2_lt (fun x72 _ => (kf2_lt (fun x74 _ => (kf2_lt (fun R76 zR76 => (kf2_lt (fun x78 _ => (kf2_tr (g_fr_rf _) (kf_r (g_fr_rf _) rfl zR76) (hb34 R76 x78)))))))))))))))))))))
theorem fr_K_X0_lineUp_34 (F9 : Nat → Int32) (y8 : Int32) (b15 : (Nat → Int32) → (Nat → Nat → Int32) → (Int32) → (Nat → Int32) × (Nat → Nat → Int32)) (hb15 : ∀ (F9 : Nat → Int32) (R10 : Nat → Nat → Int32) (y8 : Int32), kf2 md_X0_lineUp mr_X0_lineUp F9 R10 (b15 F9 R10 y8)) : ∀ (n : Nat) (R29 : Nat → Nat → Int32) (y28 : Int32), kf2 md_X0_lineUp mr_X0_lineUp F9 R29 (K_X0_lineUp_34 b15 F9 y8 n R29 y28)
  | 0, R29, y28 => ⟨g_fr_rf _, g_fr_rf _⟩
  | n + 1, R29, y28 => fr_KB_X0_lineUp_34 F9 y8 R29 y28 (K_X0_lineUp_34 b15 F9 y8 n) (fr_K_X0_lineUp_34 F9 y8 b15 hb15 n) b15 hb15
theorem fr_KB_X0_lineUp_15 (r3 : Int32) (F9 : Nat → Int32) (R10 : Nat → Nat → Int32) (y8 : Int32) (b15 : (Nat → Int32) → (Nat → Nat → Int32) → (Int32) → (Nat → Int32) × (Nat → Nat → Int32)) (hb15 : ∀ (F9 : Nat → Int32) (R10 : Nat → Nat → Int32) (y8 : Int32), kf2 md_X0_lineUp mr_X0_lineUp F9 R10 (b15 F9 R10 y8)) : kf2 md_X0_lineUp mr_X0_lineUp F9 R10 (KB_X0_lineUp_15 b15 r3 F9 R10 y8) := by
  unfold KB_X0_lineUp_15
  exact (kf2_ite ⟨(g_fr_rf _), (g_fr_rf _)⟩ (kf2_lt (fun x16 _ => (kf2_lt (fun x18 _ => (kf2_ite (kf2_tr (g_fr_rf _) (g_fr_rf _) (fr_K_X0_lineUp_118 y8 F9 R10 b15 hb15)) (kf2_tr (g_fr_rf _) (g_fr_rf _) (fr_K_X0_lineUp_34 F9 y8 b15 hb15 8589934592 R10 (F9 602)))))))))
theorem fr_K_X0_lineUp_15 (r3 : Int32) : ∀ (n : Nat) (F9 : Nat → Int32) (R10 : Nat → Nat → Int32) (y8 : Int32), kf2 md_X0_lineUp mr_X0_lineUp F9 R10 (K_X0_lineUp_15 r3 n F9 R10 y8)
  | 0, F9, R10, y8 => ⟨g_fr_rf _, g_fr_rf _⟩
  | n + 1, F9, R10, y8 => fr_KB_X0_lineUp_15 r3 F9 R10 y8 (K_X0_lineUp_15 r3 n) (fr_K_X0_lineUp_15 r3 n)
theorem fr_sp_X0_lineUp (F : Nat → Int32) (R : Nat → Nat → Int32) : kf2 md_X0_lineUp mr_X0_lineUp F R (sp_X0_lineUp F R) := by
  unfold sp_X0_lineUp
  exact (kf2_lt (fun F1 zF1 => (kf2_lt (fun r3 _ => (kf2_tr (kf_u (g_fr_rf _) rfl zF1) (g_fr_rf _) (fr_K_X0_lineUp_15 r3 8589934592 F1 R 0))))))
theorem fr_K_X0_touch_20 (F : Nat → Int32) (R : Nat → Nat → Int32) : kf2 md_X0_touch mr_X0_touch F R (K_X0_touch_20 F R) := by
  unfold K_X0_touch_20
  exact ⟨(g_fr_rf _), (g_fr_rf _)⟩
theorem fr_K_X0_touch_81 (F : Nat → Int32) (R : Nat → Nat → Int32) : kf2 md_X0_touch mr_X0_touch F R (K_X0_touch_81 F R) := by
  unfold K_X0_touch_81
  exact ⟨(g_fr_rf _), (g_fr_rf _)⟩
theorem fr_K_X0_touch_151 (F : Nat → Int32) (R : Nat → Nat → Int32) (a0 : Int32) (a1 : Int32) (x31 : Int32) (y74 : Int32) : kf2 md_X0_touch mr_X0_touch F R (K_X0_touch_151 F R a0 a1 x31 y74) := by
  unfold K_X0_touch_151
  exact (kf2_lt (fun R75 zR75 => (kf2_lt (fun x77 _ => (kf2_lt (fun R79 zR79 => (kf2_lt (fun x81 _ => (kf2_lt (fun x83 _ => (kf2_lt (fun x85 _ => (kf2_lt (fun x87 _ => (kf2_lt (fun R89 zR89 => (kf2_lt (fun x91 _ => (kf2_lt (fun x93 _ => (kf2_lt (fun x95 _ => (kf2_lt (fun x97 _ => (kf2_lt (fun F99 zF99 => ⟨(kf_u (g_fr_rf _) rfl zF99), (kf_r (kf_r (kf_r (g_fr_rf _) rfl zR75) rfl zR79) rfl zR89)⟩))))))))))))))))))))))))))
theorem fr_sp_X0_touch (F : Nat → Int32) (R : Nat → Nat → Int32) (a0 : Int32) (a1 : Int32) : kf2 md_X0_touch mr_X0_touch F R (sp_X0_touch F R a0 a1) := by
  unfold sp_X0_touch
  exact (kf2_lt (fun r1 _ => (kf2_ite (kf2_tr (g_fr_rf _) (g_fr_rf _) (fr_K_X0_touch_20 F R)) (kf2_lt (fun r11 _ => (kf2_ite (kf2_tr (g_fr_rf _) (g_fr_rf _) (fr_K_X0_touch_20 F R)) (kf2_lt (fun r19 _ => (kf2_lt (fun r24 _ => (kf2_lt (fun x29 _ => (kf2_lt (fun x31 _ => (kf2_lt (fun x33 _ => (kf2_lt (fun x35 _ => (kf2_lt (fun x37 _ => (kf2_ite (kf2_tr (g_fr_rf _) (g_fr_rf _) (fr_K_X0_touch_81 F R)) (kf2_lt (fun x44 _ => (kf2_lt (fun x46 _ => (kf2_ite (kf2_lt (fun r52 _ => (kf2_lt (fun r57 _ => (kf2_lt (fun x62 _ => (kf2_lt (fun x64 _ => (kf2_lt (fun x66 _ => (kf2_lt (fun x68 _ => (kf2_lt (fun x70 _ => (kf2_lt (fun x72 _ => (kf2_ite (kf2_tr (g_fr_rf _) (g_fr_rf _) (fr_K_X0_touch_151 F R a0 a1 x31 0)) (kf2_lt (fun x106 _ => (kf2_tr (g_fr_rf _) (g_fr_rf _) (fr_K_X0_touch_151 F R a0 a1 x31 x106))))))))))))))))))))) (kf2_tr (g_fr_rf _) (g_fr_rf _) (fr_K_X0_touch_81 F R))))))))))))))))))))))))))))
theorem fr_K_X0_tick_187 (y51 : Int32) (F67 : Nat → Int32) (R68 : Nat → Nat → Int32) (b168 : (Nat → Int32) → (Nat → Nat → Int32) → (Int32) → (Nat → Int32) × (Nat → Nat → Int32)) (hb168 : ∀ (F52 : Nat → Int32) (R53 : Nat → Nat → Int32) (y51 : Int32), kf2 md_X0_tick mr_X0_tick F52 R53 (b168 F52 R53 y51)) : kf2 md_X0_tick mr_X0_tick F67 R68 (K_X0_tick_187 b168 y51 F67 R68) := by
  unfold K_X0_tick_187
  exact (kf2_lt (fun x69 _ => (kf2_tr (g_fr_rf _) (g_fr_rf _) (hb168 F67 R68 x69))))
theorem fr_KB_X0_tick_168 (r46 : Int32) (F52 : Nat → Int32) (R53 : Nat → Nat → Int32) (y51 : Int32) (b168 : (Nat → Int32) → (Nat → Nat → Int32) → (Int32) → (Nat → Int32) × (Nat → Nat → Int32)) (hb168 : ∀ (F52 : Nat → Int32) (R53 : Nat → Nat → Int32) (y51 : Int32), kf2 md_X0_tick mr_X0_tick F52 R53 (b168 F52 R53 y51)) : kf2 md_X0_tick mr_X0_tick F52 R53 (KB_X0_tick_168 b168 r46 F52 R53 y51) := by
  unfold KB_X0_tick_168
  exact (kf2_ite (kf2_lt (fun x57 _ => (kf2_lt (fun F59 zF59 => ⟨(kf_u (g_fr_rf _) rfl zF59), (g_fr_rf _)⟩)))) (kf2_lt (fun x63 _ => (kf2_lt (fun x65 _ => (kf2_ite (kf2_tr (g_fr_rf _) (g_fr_rf _) (fr_K_X0_tick_187 y51 F52 R53 b168 hb168)) (kf2_lt2 (fun F79 R80 zF79 => (kf2_tr (kf2_F (g_fr_rf _) (fr_sp_X0_lead F52 R53 y51) zF79 rfl) (kf2_R (g_fr_rf _) (fr_sp_X0_lead F52 R53 y51) zF79 rfl) (fr_K_X0_tick_187 y51 F79 R80 b168 hb168))))))))))
theorem fr_K_X0_tick_168 (r46 : Int32) : ∀ (n : Nat) (F52 : Nat → Int32) (R53 : Nat → Nat → Int32) (y51 : Int32), kf2 md_X0_tick mr_X0_tick F52 R53 (K_X0_tick_168 r46 n F52 R53 y51)
  | 0, F52, R53, y51 => ⟨g_fr_rf _, g_fr_rf _⟩
  | n + 1, F52, R53, y51 => fr_KB_X0_tick_168 r46 F52 R53 y51 (K_X0_tick_168 r46 n) (fr_K_X0_tick_168 r46 n)
theorem fr_K_X0_tick_158 (F42 : Nat → Int32) (R43 : Nat → Nat → Int32) : kf2 md_X0_tick mr_X0_tick F42 R43 (K_X0_tick_158 F42 R43) := by
  unfold K_X0_tick_158
  exact (kf2_lt (fun r46 _ => (kf2_tr (g_fr_rf _) (g_fr_rf _) (fr_K_X0_tick_168 r46 8589934592 F42 R43 0))))
theorem fr_KB_X0_tick_116 (F42 : Nat → Int32) (R43 : Nat → Nat → Int32) (y41 : Int32) (b116 : (Nat → Int32) → (Nat → Nat → Int32) → (Int32) → (Nat → Int32) × (Nat → Nat → Int32)) (hb116 : ∀ (F42 : Nat → Int32) (R43 : Nat → Nat → Int32) (y41 : Int32), kf2 md_X0_tick mr_X0_tick F42 R43 (b116 F42 R43 y41)) : kf2 md_X0_tick mr_X0_tick F42 R43 (KB_X0_tick_116 b116 F42 R43 y41) := by
  unfold KB_X0_tick_116
  exact (kf2_lt (fun x44 _ => (kf2_ite (kf2_tr (g_fr_rf _) (g_fr_rf _) (fr_K_X0_tick_158 F42 R43)) (kf2_lt (fun x87 _ => (kf2_ite (kf2_tr (g_fr_rf _) (g_fr_rf _) (fr_K_X0_tick_158 F42 R43)) (kf2_lt (fun x96 _ => (kf2_lt (fun x98 _ => (kf2_lt (fun x100 _ => (kf2_lt2 (fun F106 R107 zF106 => (kf2_lt (fun x109 _ => (kf2_tr (kf2_F (g_fr_rf _) (fr_sp_X0_touch F42 R43 x96 x100) zF106 rfl) (kf2_R (g_fr_rf _) (fr_sp_X0_touch F42 R43 x96 x100) zF106 rfl) (hb116 F106 R107 x109))))))))))))))))))
theorem fr_K_X0_tick_116  : ∀ (n : Nat) (F42 : Nat → Int32) (R43 : Nat → Nat → Int32) (y41 : Int32), kf2 md_X0_tick mr_X0_tick F42 R43 (K_X0_tick_116  n F42 R43 y41)
  | 0, F42, R43, y41 => ⟨g_fr_rf _, g_fr_rf _⟩
  | n + 1, F42, R43, y41 => fr_KB_X0_tick_116 F42 R43 y41 (K_X0_tick_116  n) (fr_K_X0_tick_116  n)
theorem fr_K_X0_tick_104 (y28 : Int32) (F117 : Nat → Int32) (R118 : Nat → Nat → Int32) (b85 : (Nat → Int32) → (Nat → Nat → Int32) → (Int32) → (Nat → Int32) × (Nat → Nat → Int32)) (hb85 : ∀ (F29 : Nat → Int32) (R30 : Nat → Nat → Int32) (y28 : Int32), kf2 md_X0_tick mr_X0_tick F29 R30 (b85 F29 R30 y28)) : kf2 md_X0_tick mr_X0_tick F117 R118 (K_X0_tick_104 b85 y28 F117 R118) := by
  unfold K_X0_tick_104
  exact (kf2_lt (fun x119 _ => (kf2_tr (g_fr_rf _) (g_fr_rf _) (hb85 F117 R118 x119))))
theorem fr_KB_X0_tick_85 (r23 : Int32) (F29 : Nat → Int32) (R30 : Nat → Nat → Int32) (y28 : Int32) (b85 : (Nat → Int32) → (Nat → Nat → Int32) → (Int32) → (Nat → Int32) × (Nat → Nat → Int32)) (hb85 : ∀ (F29 : Nat → Int32) (R30 : Nat → Nat → Int32) (y28 : Int32), kf2 md_X0_tick mr_X0_tick F29 R30 (b85 F29 R30 y28)) : kf2 md_X0_tick mr_X0_tick F29 R30 (KB_X0_tick_85 b85 r23 F29 R30 y28) := by
  unfold KB_X0_tick_85
  exact (kf2_ite (kf2_lt2 (fun F38 R39 zF38 => (kf2_tr (kf2_F (g_fr_rf _) (fr_sp_X0_lineUp F29 R30) zF38 rfl) (kf2_R (g_fr_rf _) (fr_sp_X0_lineUp F29 R30) zF38 rfl) (fr_K_X0_tick_116 8589934592 F38 R39 0)))) (kf2_lt (fun x113 _ => (kf2_lt (fun x115 _ => (kf2_ite (kf2_tr (g_fr_rf _) (g_fr_rf _) (fr_K_X0_tick_104 y28 F29 R30 b85 hb85)) (kf2_lt2 (fun F129 R130 zF129 => (kf2_tr (kf2_F (g_fr_rf _) (fr_sp_X0_slide F29 R30 y28) zF129 rfl) (kf2_R (g_fr_rf _) (fr_sp_X0_slide F29 R30 y28) zF129 rfl) (fr_K_X0_tick_104 y28 F129 R130 b85 hb85))))))))))
theorem fr_K_X0_tick_85 (r23 : Int32) : ∀ (n : Nat) (F29 : Nat → Int32) (R30 : Nat → Nat → Int32) (y28 : Int32), kf2 md_X0_tick mr_X0_tick F29 R30 (K_X0_tick_85 r23 n F29 R30 y28)
  | 0, F29, R30, y28 => ⟨g_fr_rf _, g_fr_rf _⟩
  | n + 1, F29, R30, y28 => fr_KB_X0_tick_85 r23 F29 R30 y28 (K_X0_tick_85 r23 n) (fr_K_X0_tick_85 r23 n)
theorem fr_K_X0_tick_69 (y17 : Int32) (F138 : Nat → Int32) (R139 : Nat → Nat → Int32) (b25 : (Nat → Int32) → (Nat → Nat → Int32) → (Int32) → (Nat → Int32) × (Nat → Nat → Int32)) (hb25 : ∀ (F18 : Nat → Int32) (R19 : Nat → Nat → Int32) (y17 : Int32), kf2 md_X0_tick mr_X0_tick F18 R19 (b25 F18 R19 y17)) : kf2 md_X0_tick mr_X0_tick F138 R139 (K_X0_tick_69 b25 y17 F138 R139) := by
  unfold K_X0_tick_69
  exact (kf2_lt (fun x140 _ => (kf2_tr (g_fr_rf _) (g_fr_rf _) (hb25 F138 R139 x140))))
theorem fr_KB_X0_tick_25 (r12 : Int32) (F18 : Nat → Int32) (R19 : Nat → Nat → Int32) (y17 : Int32) (b25 : (Nat → Int32) → (Nat → Nat → Int32) → (Int32) → (Nat → Int32) × (Nat → Nat → Int32)) (hb25 : ∀ (F18 : Nat → Int32) (R19 : Nat → Nat → Int32) (y17 : Int32), kf2 md_X0_tick mr_X0_tick F18 R19 (b25 F18 R19 y17)) : kf2 md_X0_tick mr_X0_tick F18 R19 (KB_X0_tick_25 b25 r12 F18 R19 y17) := by
  unfold KB_X0_tick_25
  exact (kf2_ite (kf2_lt (fun r23 _ => (kf2_tr (g_fr_rf _) (g_fr_rf _) (fr_K_X0_tick_85 r23 8589934592 F18 R19 0)))) (kf2_lt (fun x134 _ => (kf2_lt (fun x136 _ => (kf2_ite (kf2_tr (g_fr_rf _) (g_fr_rf _) (fr_K_X0_tick_69 y17 F18 R19 b25 hb25)) (kf2_lt (fun x146 _ => (kf2_lt2 (fun F152 R153 zF152 => (kf2_lt (fun x155 _ => (kf2_lt (fun x157 _ => (kf2_lt (fun x159 _ => (kf2_lt2 (fun F165 R166 zF165 => (kf2_tr (kf2_F (kf2_F (g_fr_rf _) (fr_sp_X0_feelCloth F18 R19 y17) zF152 rfl) (fr_sp_X0_shake F152 R153 y17 x159) zF165 rfl) (kf2_R (kf2_R (g_fr_rf _) (fr_sp_X0_feelCloth F18 R19 y17) zF152 rfl) (fr_sp_X0_shake F152 R153 y17 x159) zF165 rfl) (fr_K_X0_tick_69 y17 F165 R166 b25 hb25))))))))))))))))))))
theorem fr_K_X0_tick_25 (r12 : Int32) : ∀ (n : Nat) (F18 : Nat → Int32) (R19 : Nat → Nat → Int32) (y17 : Int32), kf2 md_X0_tick mr_X0_tick F18 R19 (K_X0_tick_25 r12 n F18 R19 y17)
  | 0, F18, R19, y17 => ⟨g_fr_rf _, g_fr_rf _⟩
  | n + 1, F18, R19, y17 => fr_KB_X0_tick_25 r12 F18 R19 y17 (K_X0_tick_25 r12 n) (fr_K_X0_tick_25 r12 n)
theorem fr_sp_X0_tick (F : Nat → Int32) (R : Nat → Nat → Int32) (a0 : Int32) : kf2 md_X0_tick mr_X0_tick F R (sp_X0_tick F R a0) := by
  unfold sp_X0_tick
  exact (kf2_lt2 (fun F5 R6 zF5 => (kf2_lt (fun F8 zF8 => (kf2_lt (fun F10 zF10 => (kf2_lt (fun r12 _ => (kf2_tr (kf_u (kf_u (kf2_F (g_fr_rf _) (fr_sp_X0_pullCloth F R a0) zF5 rfl) rfl zF8) rfl zF10) (kf2_R (g_fr_rf _) (fr_sp_X0_pullCloth F R a0) zF5 rfl) (fr_K_X0_tick_25 r12 8589934592 F10 R6 0))))))))))
theorem fr_K_X0_run_52 (F9 : Nat → Int32) (R10 : Nat → Nat → Int32) : kf2 md_X0_run mr_X0_run F9 R10 (K_X0_run_52 F9 R10) := by
  unfold K_X0_run_52
  exact ⟨(g_fr_rf _), (g_fr_rf _)⟩
theorem fr_K_X0_run_31 (F9 : Nat → Int32) (R10 : Nat → Nat → Int32) (y8 : Int32) (b6 : (Nat → Int32) → (Nat → Nat → Int32) → (Int32) → (Nat → Int32) × (Nat → Nat → Int32)) (hb6 : ∀ (F9 : Nat → Int32) (R10 : Nat → Nat → Int32) (y8 : Int32), kf2 md_X0_run mr_X0_run F9 R10 (b6 F9 R10 y8)) : kf2 md_X0_run mr_X0_run F9 R10 (K_X0_run_31 b6 F9 R10 y8) := by
  unfold K_X0_run_31
  exact (kf2_lt2 (fun F20 R21 zF20 => (kf2_lt (fun x23 _ => (kf2_lt (fun F25 zF25 => (kf2_lt (fun x27 _ => (kf2_tr (kf_u (kf2_F (g_fr_rf _) (fr_sp_X0_tick F9 R10 y8) zF20 rfl) rfl zF25) (kf2_R (g_fr_rf _) (fr_sp_X0_tick F9 R10 y8) zF20 rfl) (hb6 F25 R21 x27))))))))))
theorem fr_KB_X0_run_6 (F : Nat → Int32) (F9 : Nat → Int32) (R10 : Nat → Nat → Int32) (y8 : Int32) (b6 : (Nat → Int32) → (Nat → Nat → Int32) → (Int32) → (Nat → Int32) × (Nat → Nat → Int32)) (hb6 : ∀ (F9 : Nat → Int32) (R10 : Nat → Nat → Int32) (y8 : Int32), kf2 md_X0_run mr_X0_run F9 R10 (b6 F9 R10 y8)) : kf2 md_X0_run mr_X0_run F9 R10 (KB_X0_run_6 b6 F F9 R10 y8) := by
  unfold KB_X0_run_6
  exact (kf2_ite (kf2_tr (g_fr_rf _) (g_fr_rf _) (fr_K_X0_run_52 F9 R10)) (kf2_ite (kf2_tr (g_fr_rf _) (g_fr_rf _) (fr_K_X0_run_31 F9 R10 y8 b6 hb6)) (kf2_lt (fun r34 _ => (kf2_ite (kf2_tr (g_fr_rf _) (g_fr_rf _) (fr_K_X0_run_52 F9 R10)) (kf2_tr (g_fr_rf _) (g_fr_rf _) (fr_K_X0_run_31 F9 R10 y8 b6 hb6)))))))
theorem fr_K_X0_run_6 (F : Nat → Int32) : ∀ (n : Nat) (F9 : Nat → Int32) (R10 : Nat → Nat → Int32) (y8 : Int32), kf2 md_X0_run mr_X0_run F9 R10 (K_X0_run_6 F n F9 R10 y8)
  | 0, F9, R10, y8 => ⟨g_fr_rf _, g_fr_rf _⟩
  | n + 1, F9, R10, y8 => fr_KB_X0_run_6 F F9 R10 y8 (K_X0_run_6 F n) (fr_K_X0_run_6 F n)
theorem fr_sp_X0_run (F : Nat → Int32) (R : Nat → Nat → Int32) : kf2 md_X0_run mr_X0_run F R (sp_X0_run F R) := by
  unfold sp_X0_run
  exact (kf2_lt2 (fun F5 R6 zF5 => (kf2_tr (kf2_F (g_fr_rf _) (fr_sp_X0_begin F R) zF5 rfl) (kf2_R (g_fr_rf _) (fr_sp_X0_begin F R) zF5 rfl) (fr_K_X0_run_6 F 8589934592 F5 R6 0))))
theorem fr_sp_X8_copy_5_r1 (F : Nat → Int32) (R : Nat → Nat → Int32) : kf2 md_X8_copy_5_r1 mr_X8_copy_5_r1 F R (sp_X8_copy_5_r1 F R) := by
  unfold sp_X8_copy_5_r1
  exact (kf2_lt (fun F1 zF1 => (kf2_lt (fun F3 zF3 => (kf2_lt (fun F5 zF5 => (kf2_lt (fun F7 zF7 => (kf2_lt (fun F9 zF9 => (kf2_lt (fun R11 zR11 => ⟨(kf_u (kf_u (kf_u (kf_u (kf_u (g_fr_rf _) rfl zF1) rfl zF3) rfl zF5) rfl zF7) rfl zF9), (kf_r (g_fr_rf _) rfl zR11)⟩))))))))))))
theorem fr_sp_X5_copy_15_r11 (F : Nat → Int32) (R : Nat → Nat → Int32) : kf2 md_X5_copy_15_r11 mr_X5_copy_15_r11 F R (sp_X5_copy_15_r11 F R) := by
  unfold sp_X5_copy_15_r11
  exact (kf2_lt (fun F1 zF1 => (kf2_lt (fun R3 zR3 => ⟨(kf_u (g_fr_rf _) rfl zF1), (kf_r (g_fr_rf _) rfl zR3)⟩))))
theorem fr_sp_X7_lay_r1_r11 (F : Nat → Int32) (R : Nat → Nat → Int32) : kf2 md_X7_lay_r1_r11 mr_X7_lay_r1_r11 F R (sp_X7_lay_r1_r11 F R) := by
  unfold sp_X7_lay_r1_r11
  exact (kf2_lt2 (fun F5 R6 zF5 => (kf2_lt2 (fun F12 R13 zF12 => (kf2_lt2 (fun F19 R20 zF19 => ⟨(kf2_F (kf2_F (kf2_F (g_fr_rf _) (fr_sp_X8_copy_5_r1 F R) zF5 rfl) (fr_sp_X5_copy_15_r11 F5 R6) zF12 rfl) (fr_sp_X1_holdStill F12 R13) zF19 rfl), (kf2_R (kf2_R (kf2_R (g_fr_rf _) (fr_sp_X8_copy_5_r1 F R) zF5 rfl) (fr_sp_X5_copy_15_r11 F5 R6) zF12 rfl) (fr_sp_X1_holdStill F12 R13) zF19 rfl)⟩))))))
theorem fr_sp_X10_tryDrawn (F : Nat → Int32) (R : Nat → Nat → Int32) : kf2 md_X10_tryDrawn mr_X10_tryDrawn F R (sp_X10_tryDrawn F R) := by
  unfold sp_X10_tryDrawn
  exact (kf2_lt2 (fun F5 R6 zF5 => (kf2_lt2 (fun F12 R13 zF12 => (kf2_lt2 (fun F19 R20 zF19 => ⟨(kf2_F (kf2_F (kf2_F (g_fr_rf _) (fr_sp_X7_lay_r1_r11 F R) zF5 rfl) (fr_sp_X1_drawFrom F5 R6 (F 20)) zF12 rfl) (fr_sp_X0_run F12 R13) zF19 rfl), (kf2_R (kf2_R (kf2_R (g_fr_rf _) (fr_sp_X7_lay_r1_r11 F R) zF5 rfl) (fr_sp_X1_drawFrom F5 R6 (F 20)) zF12 rfl) (fr_sp_X0_run F12 R13) zF19 rfl)⟩))))))
theorem fr_sp_X10_tried (F : Nat → Int32) (R : Nat → Nat → Int32) (a0 : Int32) : kf3 md_X10_tried mr_X10_tried F R (sp_X10_tried F R a0) := by
  unfold sp_X10_tried
  exact (kf3_lt2 (fun F5 R6 zF5 => (kf3_lt (fun r8 _ => ⟨(kf2_F (g_fr_rf _) (fr_sp_X10_tryDrawn F R) zF5 rfl), (kf2_R (g_fr_rf _) (fr_sp_X10_tryDrawn F R) zF5 rfl)⟩))))
theorem fr_sp_X10_still (F : Nat → Int32) (R : Nat → Nat → Int32) (a0 : Int32) : kf3 md_X10_still mr_X10_still F R (sp_X10_still F R a0) := by
  unfold sp_X10_still
  exact (kf3_lt2 (fun F5 R6 zF5 => (kf3_lt2 (fun F12 R13 zF12 => (kf3_lt (fun r15 _ => ⟨(kf2_F (kf2_F (g_fr_rf _) (fr_sp_X7_lay_r1_r11 F R) zF5 rfl) (fr_sp_X0_run F5 R6) zF12 rfl), (kf2_R (kf2_R (g_fr_rf _) (fr_sp_X7_lay_r1_r11 F R) zF5 rfl) (fr_sp_X0_run F5 R6) zF12 rfl)⟩))))))
theorem fr_sp_X10_done (F : Nat → Int32) (R : Nat → Nat → Int32) : kf3 md_X10_done mr_X10_done F R (sp_X10_done F R) := by
  unfold sp_X10_done
  exact (kf3_ite ⟨(g_fr_rf _), (g_fr_rf _)⟩ (kf3_lt2 (fun F8 R9 zF8 => (kf3_lt2 (fun F15 R16 zF15 => (kf3_lt (fun F18 zF18 => (kf3_lt (fun r20 _ => ⟨(kf_u (kf2_F (kf2_F (g_fr_rf _) (fr_sp_X10_tryDrawn F R) zF8 rfl) (fr_sp_X4_leave_r1 F8 R9) zF15 rfl) rfl zF18), (kf2_R (kf2_R (g_fr_rf _) (fr_sp_X10_tryDrawn F R) zF8 rfl) (fr_sp_X4_leave_r1 F8 R9) zF15 rfl)⟩)))))))))
theorem fr_K_X5_add_15_42 (F2 : Nat → Int32) (R3 : Nat → Nat → Int32) : kf2 md_X5_add_15 mr_X5_add_15 F2 R3 (K_X5_add_15_42 F2 R3) := by
  unfold K_X5_add_15_42
  exact ⟨(g_fr_rf _), (g_fr_rf _)⟩
theorem fr_KB_X5_add_15_2 (a0 : Int32) (a1 : Int32) (F2 : Nat → Int32) (R3 : Nat → Nat → Int32) (y1 : Int32) (b2 : (Nat → Int32) → (Nat → Nat → Int32) → (Int32) → (Nat → Int32) × (Nat → Nat → Int32)) (hb2 : ∀ (F2 : Nat → Int32) (R3 : Nat → Nat → Int32) (y1 : Int32), kf2 md_X5_add_15 mr_X5_add_15 F2 R3 (b2 F2 R3 y1)) : kf2 md_X5_add_15 mr_X5_add_15 F2 R3 (KB_X5_add_15_2 b2 a0 a1 F2 R3 y1) := by
  unfold KB_X5_add_15_2
  exact (kf2_ite (kf2_tr (g_fr_rf _) (g_fr_rf _) (fr_K_X5_add_15_42 F2 R3)) (kf2_ite (kf2_tr (g_fr_rf _) (g_fr_rf _) (fr_K_X5_add_15_42 F2 R3)) (kf2_lt (fun R14 zR14 => (kf2_lt (fun x16 _ => (kf2_lt (fun F18 zF18 => (kf2_lt (fun x20 _ => (kf2_tr (kf_u (g_fr_rf _) rfl zF18) (kf_r (g_fr_rf _) rfl zR14) (hb2 F18 R14 x20))))))))))))
theorem fr_K_X5_add_15_2 (a0 : Int32) (a1 : Int32) : ∀ (n : Nat) (F2 : Nat → Int32) (R3 : Nat → Nat → Int32) (y1 : Int32), kf2 md_X5_add_15 mr_X5_add_15 F2 R3 (K_X5_add_15_2 a0 a1 n F2 R3 y1)
  | 0, F2, R3, y1 => ⟨g_fr_rf _, g_fr_rf _⟩
  | n + 1, F2, R3, y1 => fr_KB_X5_add_15_2 a0 a1 F2 R3 y1 (K_X5_add_15_2 a0 a1 n) (fr_K_X5_add_15_2 a0 a1 n)
theorem fr_sp_X5_add_15 (F : Nat → Int32) (R : Nat → Nat → Int32) (a0 : Int32) (a1 : Int32) : kf2 md_X5_add_15 mr_X5_add_15 F R (sp_X5_add_15 F R a0 a1) := by
  unfold sp_X5_add_15
  exact (kf2_tr (g_fr_rf _) (g_fr_rf _) (fr_K_X5_add_15_2 a0 a1 8589934592 F R 0))
theorem fr_K_X5_addTill_15_20 (F1 : Nat → Int32) (R2 : Nat → Nat → Int32) : kf2 md_X5_addTill_15 mr_X5_addTill_15 F1 R2 (K_X5_addTill_15_20 F1 R2) := by
  unfold K_X5_addTill_15_20
  exact ⟨(g_fr_rf _), (g_fr_rf _)⟩
theorem fr_sp_X5_addTill_15 (F : Nat → Int32) (R : Nat → Nat → Int32) (a0 : Int32) (a1 : Int32) : kf2 md_X5_addTill_15 mr_X5_addTill_15 F R (sp_X5_addTill_15 F R a0 a1) := by
  unfold sp_X5_addTill_15
  exact (kf2_ite (kf2_tr (g_fr_rf _) (g_fr_rf _) (fr_K_X5_addTill_15_20 F R)) (kf2_ite (kf2_tr (g_fr_rf _) (g_fr_rf _) (fr_K_X5_addTill_15_20 F R)) (kf2_lt (fun x13 _ => (kf2_lt (fun x15 _ => (kf2_lt (fun x17 _ => (kf2_lt2 (fun F23 R24 zF23 => (kf2_tr (kf2_F (g_fr_rf _) (fr_sp_X5_add_15 F R a0 x17) zF23 rfl) (kf2_R (g_fr_rf _) (fr_sp_X5_add_15 F R a0 x17) zF23 rfl) (fr_K_X5_addTill_15_20 F23 R24))))))))))))
theorem fr_sp_X5_even_15 (F : Nat → Int32) (R : Nat → Nat → Int32) (a0 : Int32) (a1 : Int32) : kf2 md_X5_even_15 mr_X5_even_15 F R (sp_X5_even_15 F R a0 a1) := by
  unfold sp_X5_even_15
  exact (kf2_lt (fun F1 zF1 => (kf2_lt2 (fun F7 R8 zF7 => ⟨(kf2_F (kf_u (g_fr_rf _) rfl zF1) (fr_sp_X5_addTill_15 F1 R a0 a1) zF7 rfl), (kf2_R (g_fr_rf _) (fr_sp_X5_addTill_15 F1 R a0 a1) zF7 rfl)⟩))))
theorem fr_KB_X7_leastPace_2 (F : Nat → Int32) (F2 : Nat → Int32) (R3 : Nat → Nat → Int32) (y1 : Int32) (b2 : (Nat → Int32) → (Nat → Nat → Int32) → (Int32) → Int32 × (Nat → Int32) × (Nat → Nat → Int32)) (hb2 : ∀ (F2 : Nat → Int32) (R3 : Nat → Nat → Int32) (y1 : Int32), kf3 md_X7_leastPace mr_X7_leastPace F2 R3 (b2 F2 R3 y1)) : kf3 md_X7_leastPace mr_X7_leastPace F2 R3 (KB_X7_leastPace_2 b2 F F2 R3 y1) := by
  unfold KB_X7_leastPace_2
  exact (kf3_ite ⟨(g_fr_rf _), (g_fr_rf _)⟩ (kf3_lt2 (fun F13 R14 zF13 => (kf3_lt2 (fun F20 R21 zF20 => (kf3_lt (fun r23 _ => (kf3_ite (kf3_lt (fun x31 _ => (kf3_tr (kf2_F (kf2_F (g_fr_rf _) (fr_sp_X5_even_15 F2 R3 y1 (F 81)) zF13 rfl) (fr_sp_X0_run F13 R14) zF20 rfl) (kf2_R (kf2_R (g_fr_rf _) (fr_sp_X5_even_15 F2 R3 y1 (F 81)) zF13 rfl) (fr_sp_X0_run F13 R14) zF20 rfl) (hb2 F20 R21 x31)))) ⟨(kf2_F (kf2_F (g_fr_rf _) (fr_sp_X5_even_15 F2 R3 y1 (F 81)) zF13 rfl) (fr_sp_X0_run F13 R14) zF20 rfl), (kf2_R (kf2_R (g_fr_rf _) (fr_sp_X5_even_15 F2 R3 y1 (F 81)) zF13 rfl) (fr_sp_X0_run F13 R14) zF20 rfl)⟩))))))))
theorem fr_K_X7_leastPace_2 (F : Nat → Int32) : ∀ (n : Nat) (F2 : Nat → Int32) (R3 : Nat → Nat → Int32) (y1 : Int32), kf3 md_X7_leastPace mr_X7_leastPace F2 R3 (K_X7_leastPace_2 F n F2 R3 y1)
  | 0, F2, R3, y1 => ⟨g_fr_rf _, g_fr_rf _⟩
  | n + 1, F2, R3, y1 => fr_KB_X7_leastPace_2 F F2 R3 y1 (K_X7_leastPace_2 F n) (fr_K_X7_leastPace_2 F n)
theorem fr_sp_X7_leastPace (F : Nat → Int32) (R : Nat → Nat → Int32) : kf3 md_X7_leastPace mr_X7_leastPace F R (sp_X7_leastPace F R) := by
  unfold sp_X7_leastPace
  exact (kf3_tr (g_fr_rf _) (g_fr_rf _) (fr_K_X7_leastPace_2 F 8589934592 F R 1))
theorem fr_sp_X10_pace (F : Nat → Int32) (R : Nat → Nat → Int32) : kf3 md_X10_pace mr_X10_pace F R (sp_X10_pace F R) := by
  unfold sp_X10_pace
  exact (kf3_lt2 (fun F5 R6 zF5 => (kf3_lt3 (fun r8 F12 R13 zF12 => ⟨(kf3_F (kf2_F (g_fr_rf _) (fr_sp_X7_lay_r1_r11 F R) zF5 rfl) (fr_sp_X7_leastPace F5 R6) zF12 rfl), (kf3_R (kf2_R (g_fr_rf _) (fr_sp_X7_lay_r1_r11 F R) zF5 rfl) (fr_sp_X7_leastPace F5 R6) zF12 rfl)⟩))))
theorem fr_sp_X8_copy_7_r5 (F : Nat → Int32) (R : Nat → Nat → Int32) : kf2 md_X8_copy_7_r5 mr_X8_copy_7_r5 F R (sp_X8_copy_7_r5 F R) := by
  unfold sp_X8_copy_7_r5
  exact (kf2_lt (fun F1 zF1 => (kf2_lt (fun F3 zF3 => (kf2_lt (fun F5 zF5 => (kf2_lt (fun F7 zF7 => (kf2_lt (fun F9 zF9 => (kf2_lt (fun R11 zR11 => ⟨(kf_u (kf_u (kf_u (kf_u (kf_u (g_fr_rf _) rfl zF1) rfl zF3) rfl zF5) rfl zF7) rfl zF9), (kf_r (g_fr_rf _) rfl zR11)⟩))))))))))))
theorem fr_K_X7_improves_40 (F : Nat → Int32) (R : Nat → Nat → Int32) : kf3 md_X7_improves mr_X7_improves F R (K_X7_improves_40 F R) := by
  unfold K_X7_improves_40
  exact ⟨(g_fr_rf _), (g_fr_rf _)⟩
theorem fr_K_X7_improves_42 (F : Nat → Int32) (R : Nat → Nat → Int32) (r1 : Int32) (r6 : Int32) : kf3 md_X7_improves mr_X7_improves F R (K_X7_improves_42 F R r1 r6) := by
  unfold K_X7_improves_42
  exact (kf3_lt (fun F16 zF16 => (kf3_lt (fun F18 zF18 => ⟨(kf_u (kf_u (g_fr_rf _) rfl zF16) rfl zF18), (g_fr_rf _)⟩))))
theorem fr_sp_X7_improves (F : Nat → Int32) (R : Nat → Nat → Int32) : kf3 md_X7_improves mr_X7_improves F R (sp_X7_improves F R) := by
  unfold sp_X7_improves
  exact (kf3_lt (fun r1 _ => (kf3_lt (fun r6 _ => (kf3_ite (kf3_tr (g_fr_rf _) (g_fr_rf _) (fr_K_X7_improves_40 F R)) (kf3_ite (kf3_ite (kf3_tr (g_fr_rf _) (g_fr_rf _) (fr_K_X7_improves_42 F R r1 r6)) (kf3_tr (g_fr_rf _) (g_fr_rf _) (fr_K_X7_improves_40 F R))) (kf3_tr (g_fr_rf _) (g_fr_rf _) (fr_K_X7_improves_42 F R r1 r6))))))))
theorem fr_K_X7_bestPull_144 (F75 : Nat → Int32) (y34 : Int32) (R78 : Nat → Nat → Int32) (b63 : (Nat → Int32) → (Nat → Nat → Int32) → (Int32) → (Nat → Int32) × (Nat → Nat → Int32)) (hb63 : ∀ (F35 : Nat → Int32) (R36 : Nat → Nat → Int32) (y34 : Int32), kf2 md_X7_bestPull mr_X7_bestPull F35 R36 (b63 F35 R36 y34)) : kf2 md_X7_bestPull mr_X7_bestPull F75 R78 (K_X7_bestPull_144 b63 F75 y34 R78) := by
  unfold K_X7_bestPull_144
  exact (kf2_lt (fun x79 _ => (kf2_tr (g_fr_rf _) (g_fr_rf _) (hb63 F75 R78 x79))))
theorem fr_KB_X7_bestPull_63 (F : Nat → Int32) (y12 : Int32) (y24 : Int32) (F35 : Nat → Int32) (R36 : Nat → Nat → Int32) (y34 : Int32) (b63 : (Nat → Int32) → (Nat → Nat → Int32) → (Int32) → (Nat → Int32) × (Nat → Nat → Int32)) (hb63 : ∀ (F35 : Nat → Int32) (R36 : Nat → Nat → Int32) (y34 : Int32), kf2 md_X7_bestPull mr_X7_bestPull F35 R36 (b63 F35 R36 y34)) (b54 : (Nat → Int32) → (Nat → Nat → Int32) → (Int32) → (Nat → Int32) × (Nat → Nat → Int32)) (hb54 : ∀ (F25 : Nat → Int32) (R26 : Nat → Nat → Int32) (y24 : Int32), kf2 md_X7_bestPull mr_X7_bestPull F25 R26 (b54 F25 R26 y24)) : kf2 md_X7_bestPull mr_X7_bestPull F35 R36 (KB_X7_bestPull_63 b63 b54 F y12 y24 F35 R36 y34) := by
  unfold KB_X7_bestPull_63
  exact (kf2_ite (kf2_lt (fun x40 _ => (kf2_tr (g_fr_rf _) (g_fr_rf _) (hb54 F35 R36 x40)))) (kf2_lt (fun F44 zF44 => (kf2_lt2 (fun F50 R51 zF50 => (kf2_lt (fun x53 _ => (kf2_lt (fun x55 _ => (kf2_lt2 (fun F61 R62 zF61 => (kf2_lt2 (fun F68 R69 zF68 => (kf2_lt3 (fun r71 F75 R76 zF75 => (kf2_ite (kf2_tr (kf3_F (kf2_F (kf2_F (kf2_F (kf_u (g_fr_rf _) rfl zF44) (fr_sp_X5_add_15 F44 R36 y12 y34) zF50 rfl) (fr_sp_X5_addTill_15 F50 R51 y24 x55) zF61 rfl) (fr_sp_X0_run F61 R62) zF68 rfl) (fr_sp_X7_improves F68 R69) zF75 rfl) (kf3_R (kf2_R (kf2_R (kf2_R (g_fr_rf _) (fr_sp_X5_add_15 F44 R36 y12 y34) zF50 rfl) (fr_sp_X5_addTill_15 F50 R51 y24 x55) zF61 rfl) (fr_sp_X0_run F61 R62) zF68 rfl) (fr_sp_X7_improves F68 R69) zF75 rfl) (fr_K_X7_bestPull_144 F75 y34 R76 b63 hb63)) (kf2_lt (fun R86 zR86 => (kf2_lt (fun R88 zR88 => (kf2_lt (fun R90 zR90 => (kf2_tr (kf3_F (kf2_F (kf2_F (kf2_F (kf_u (g_fr_rf _) rfl zF44) (fr_sp_X5_add_15 F44 R36 y12 y34) zF50 rfl) (fr_sp_X5_addTill_15 F50 R51 y24 x55) zF61 rfl) (fr_sp_X0_run F61 R62) zF68 rfl) (fr_sp_X7_improves F68 R69) zF75 rfl) (kf_r (kf_r (kf_r (kf3_R (kf2_R (kf2_R (kf2_R (g_fr_rf _) (fr_sp_X5_add_15 F44 R36 y12 y34) zF50 rfl) (fr_sp_X5_addTill_15 F50 R51 y24 x55) zF61 rfl) (fr_sp_X0_run F61 R62) zF68 rfl) (fr_sp_X7_improves F68 R69) zF75 rfl) rfl zR86) rfl zR88) rfl zR90) (fr_K_X7_bestPull_144 F75 y34 R90 b63 hb63))))))))))))))))))))))))
theorem fr_K_X7_bestPull_63 (F : Nat → Int32) (y12 : Int32) (y24 : Int32) (b54 : (Nat → Int32) → (Nat → Nat → Int32) → (Int32) → (Nat → Int32) × (Nat → Nat → Int32)) (hb54 : ∀ (F25 : Nat → Int32) (R26 : Nat → Nat → Int32) (y24 : Int32), kf2 md_X7_bestPull mr_X7_bestPull F25 R26 (b54 F25 R26 y24)) : ∀ (n : Nat) (F35 : Nat → Int32) (R36 : Nat → Nat → Int32) (y34 : Int32), kf2 md_X7_bestPull mr_X7_bestPull F35 R36 (K_X7_bestPull_63 b54 F y12 y24 n F35 R36 y34)
  | 0, F35, R36, y34 => ⟨g_fr_rf _, g_fr_rf _⟩
  | n + 1, F35, R36, y34 => fr_KB_X7_bestPull_63 F y12 y24 F35 R36 y34 (K_X7_bestPull_63 b54 F y12 y24 n) (fr_K_X7_bestPull_63 F y12 y24 b54 hb54 n) b54 hb54
theorem fr_KB_X7_bestPull_54 (F : Nat → Int32) (y12 : Int32) (F25 : Nat → Int32) (R26 : Nat → Nat → Int32) (y24 : Int32) (b54 : (Nat → Int32) → (Nat → Nat → Int32) → (Int32) → (Nat → Int32) × (Nat → Nat → Int32)) (hb54 : ∀ (F25 : Nat → Int32) (R26 : Nat → Nat → Int32) (y24 : Int32), kf2 md_X7_bestPull mr_X7_bestPull F25 R26 (b54 F25 R26 y24)) (b46 : (Nat → Int32) → (Nat → Nat → Int32) → (Int32) → (Nat → Int32) × (Nat → Nat → Int32)) (hb46 : ∀ (F13 : Nat → Int32) (R14 : Nat → Nat → Int32) (y12 : Int32), kf2 md_X7_bestPull mr_X7_bestPull F13 R14 (b46 F13 R14 y12)) : kf2 md_X7_bestPull mr_X7_bestPull F25 R26 (KB_X7_bestPull_54 b54 b46 F y12 F25 R26 y24) := by
  unfold KB_X7_bestPull_54
  exact (kf2_ite (kf2_lt (fun x30 _ => (kf2_tr (g_fr_rf _) (g_fr_rf _) (hb46 F25 R26 x30)))) (kf2_tr (g_fr_rf _) (g_fr_rf _) (fr_K_X7_bestPull_63 F y12 y24 b54 hb54 8589934592 F25 R26 1)))
theorem fr_K_X7_bestPull_54 (F : Nat → Int32) (y12 : Int32) (b46 : (Nat → Int32) → (Nat → Nat → Int32) → (Int32) → (Nat → Int32) × (Nat → Nat → Int32)) (hb46 : ∀ (F13 : Nat → Int32) (R14 : Nat → Nat → Int32) (y12 : Int32), kf2 md_X7_bestPull mr_X7_bestPull F13 R14 (b46 F13 R14 y12)) : ∀ (n : Nat) (F25 : Nat → Int32) (R26 : Nat → Nat → Int32) (y24 : Int32), kf2 md_X7_bestPull mr_X7_bestPull F25 R26 (K_X7_bestPull_54 b46 F y12 n F25 R26 y24)
  | 0, F25, R26, y24 => ⟨g_fr_rf _, g_fr_rf _⟩
  | n + 1, F25, R26, y24 => fr_KB_X7_bestPull_54 F y12 F25 R26 y24 (K_X7_bestPull_54 b46 F y12 n) (fr_K_X7_bestPull_54 F y12 b46 hb46 n) b46 hb46
theorem fr_KB_X7_bestPull_46 (F : Nat → Int32) (F13 : Nat → Int32) (R14 : Nat → Nat → Int32) (y12 : Int32) (b46 : (Nat → Int32) → (Nat → Nat → Int32) → (Int32) → (Nat → Int32) × (Nat → Nat → Int32)) (hb46 : ∀ (F13 : Nat → Int32) (R14 : Nat → Nat → Int32) (y12 : Int32), kf2 md_X7_bestPull mr_X7_bestPull F13 R14 (b46 F13 R14 y12)) : kf2 md_X7_bestPull mr_X7_bestPull F13 R14 (KB_X7_bestPull_46 b46 F F13 R14 y12) := by
  unfold KB_X7_bestPull_46
  exact (kf2_ite (kf2_lt (fun R18 zR18 => (kf2_lt (fun R20 zR20 => ⟨(g_fr_rf _), (kf_r (kf_r (g_fr_rf _) rfl zR18) rfl zR20)⟩)))) (kf2_tr (g_fr_rf _) (g_fr_rf _) (fr_K_X7_bestPull_54 F y12 b46 hb46 8589934592 F13 R14 1)))
theorem fr_K_X7_bestPull_46 (F : Nat → Int32) : ∀ (n : Nat) (F13 : Nat → Int32) (R14 : Nat → Nat → Int32) (y12 : Int32), kf2 md_X7_bestPull mr_X7_bestPull F13 R14 (K_X7_bestPull_46 F n F13 R14 y12)
  | 0, F13, R14, y12 => ⟨g_fr_rf _, g_fr_rf _⟩
  | n + 1, F13, R14, y12 => fr_KB_X7_bestPull_46 F F13 R14 y12 (K_X7_bestPull_46 F n) (fr_K_X7_bestPull_46 F n)
theorem fr_K_X7_bestPull_23 (F : Nat → Int32) (R : Nat → Nat → Int32) (a0 : Int32) : kf2 md_X7_bestPull mr_X7_bestPull F R (K_X7_bestPull_23 F R a0) := by
  unfold K_X7_bestPull_23
  exact (kf2_lt (fun F1 zF1 => (kf2_lt2 (fun F7 R8 zF7 => (kf2_lt (fun F10 zF10 => (kf2_tr (kf_u (kf2_F (kf_u (g_fr_rf _) rfl zF1) (fr_sp_X8_copy_7_r5 F1 R) zF7 rfl) rfl zF10) (kf2_R (g_fr_rf _) (fr_sp_X8_copy_7_r5 F1 R) zF7 rfl) (fr_K_X7_bestPull_46 F 8589934592 F10 R8 1))))))))
theorem fr_sp_X7_bestPull (F : Nat → Int32) (R : Nat → Nat → Int32) (a0 : Int32) : kf2 md_X7_bestPull mr_X7_bestPull F R (sp_X7_bestPull F R a0) := by
  unfold sp_X7_bestPull
  exact (kf2_ite (kf2_lt (fun r95 _ => (kf2_ite (kf2_tr (g_fr_rf _) (g_fr_rf _) (fr_K_X7_bestPull_23 F R a0)) ⟨(g_fr_rf _), (g_fr_rf _)⟩))) (kf2_tr (g_fr_rf _) (g_fr_rf _) (fr_K_X7_bestPull_23 F R a0)))
theorem fr_sp_X10_best (F : Nat → Int32) (R : Nat → Nat → Int32) (a0 : Int32) : kf3 md_X10_best mr_X10_best F R (sp_X10_best F R a0) := by
  unfold sp_X10_best
  exact (kf3_lt (fun r1 _ => (kf3_ite ⟨(g_fr_rf _), (g_fr_rf _)⟩ (kf3_lt2 (fun F13 R14 zF13 => (kf3_lt2 (fun F20 R21 zF20 => (kf3_lt (fun r23 _ => ⟨(kf2_F (kf2_F (g_fr_rf _) (fr_sp_X7_lay_r1_r11 F R) zF13 rfl) (fr_sp_X7_bestPull F13 R14 (F 12)) zF20 rfl), (kf2_R (kf2_R (g_fr_rf _) (fr_sp_X7_lay_r1_r11 F R) zF13 rfl) (fr_sp_X7_bestPull F13 R14 (F 12)) zF20 rfl)⟩)))))))))
theorem fr_K_X6_take_22 (F : Nat → Int32) (R : Nat → Nat → Int32) : kf3 md_X6_take mr_X6_take F R (K_X6_take_22 F R) := by
  unfold K_X6_take_22
  exact ⟨(g_fr_rf _), (g_fr_rf _)⟩
theorem fr_K_X6_take_94 (F24 : Nat → Int32) (R25 : Nat → Nat → Int32) : kf3 md_X6_take mr_X6_take F24 R25 (K_X6_take_94 F24 R25) := by
  unfold K_X6_take_94
  exact ⟨(g_fr_rf _), (g_fr_rf _)⟩
theorem fr_K_X6_take_88 (y23 : Int32) (F40 : Nat → Int32) (R41 : Nat → Nat → Int32) (b32 : (Nat → Int32) → (Nat → Nat → Int32) → (Int32) → Int32 × (Nat → Int32) × (Nat → Nat → Int32)) (hb32 : ∀ (F24 : Nat → Int32) (R25 : Nat → Nat → Int32) (y23 : Int32), kf3 md_X6_take mr_X6_take F24 R25 (b32 F24 R25 y23)) : kf3 md_X6_take mr_X6_take F40 R41 (K_X6_take_88 b32 y23 F40 R41) := by
  unfold K_X6_take_88
  exact (kf3_lt (fun x42 _ => (kf3_tr (g_fr_rf _) (g_fr_rf _) (hb32 F40 R41 x42))))
theorem fr_KB_X6_take_32 (a0 : Int32) (F24 : Nat → Int32) (R25 : Nat → Nat → Int32) (y23 : Int32) (b32 : (Nat → Int32) → (Nat → Nat → Int32) → (Int32) → Int32 × (Nat → Int32) × (Nat → Nat → Int32)) (hb32 : ∀ (F24 : Nat → Int32) (R25 : Nat → Nat → Int32) (y23 : Int32), kf3 md_X6_take mr_X6_take F24 R25 (b32 F24 R25 y23)) : kf3 md_X6_take mr_X6_take F24 R25 (KB_X6_take_32 b32 a0 F24 R25 y23) := by
  unfold KB_X6_take_32
  exact (kf3_ite (kf3_tr (g_fr_rf _) (g_fr_rf _) (fr_K_X6_take_94 F24 R25)) (kf3_ite (kf3_tr (g_fr_rf _) (g_fr_rf _) (fr_K_X6_take_94 F24 R25)) (kf3_lt (fun x36 _ => (kf3_lt (fun x38 _ => (kf3_ite (kf3_tr (g_fr_rf _) (g_fr_rf _) (fr_K_X6_take_88 y23 F24 R25 b32 hb32)) (kf3_lt (fun R48 zR48 => (kf3_lt (fun R50 zR50 => (kf3_lt (fun x52 _ => (kf3_lt (fun F54 zF54 => (kf3_tr (kf_u (g_fr_rf _) rfl zF54) (kf_r (kf_r (g_fr_rf _) rfl zR48) rfl zR50) (fr_K_X6_take_88 y23 F54 R50 b32 hb32)))))))))))))))))
theorem fr_K_X6_take_32 (a0 : Int32) : ∀ (n : Nat) (F24 : Nat → Int32) (R25 : Nat → Nat → Int32) (y23 : Int32), kf3 md_X6_take mr_X6_take F24 R25 (K_X6_take_32 a0 n F24 R25 y23)
  | 0, F24, R25, y23 => ⟨g_fr_rf _, g_fr_rf _⟩
  | n + 1, F24, R25, y23 => fr_KB_X6_take_32 a0 F24 R25 y23 (K_X6_take_32 a0 n) (fr_K_X6_take_32 a0 n)
theorem fr_sp_X6_take (F : Nat → Int32) (R : Nat → Nat → Int32) (a0 : Int32) (a1 : Int32) : kf3 md_X6_take mr_X6_take F R (sp_X6_take F R a0 a1) := by
  unfold sp_X6_take
  exact (kf3_lt (fun r1 _ => (kf3_lt (fun x5 _ => (kf3_lt (fun x7 _ => (kf3_ite (kf3_lt (fun r13 _ => (kf3_ite (kf3_tr (g_fr_rf _) (g_fr_rf _) (fr_K_X6_take_22 F R)) (kf3_lt (fun F21 zF21 => (kf3_tr (kf_u (g_fr_rf _) rfl zF21) (g_fr_rf _) (fr_K_X6_take_32 a0 8589934592 F21 R 0))))))) (kf3_tr (g_fr_rf _) (g_fr_rf _) (fr_K_X6_take_22 F R)))))))))
theorem fr_K_X8_change_5_32 (F : Nat → Int32) (R5 : Nat → Nat → Int32) : kf2 md_X8_change_5 mr_X8_change_5 F R5 (K_X8_change_5_32 F R5) := by
  unfold K_X8_change_5_32
  exact ⟨(g_fr_rf _), (g_fr_rf _)⟩
theorem fr_sp_X8_change_5 (F : Nat → Int32) (R : Nat → Nat → Int32) (a0 : Int32) (a1 : Int32) (a2 : Int32) : kf2 md_X8_change_5 mr_X8_change_5 F R (sp_X8_change_5 F R a0 a1 a2) := by
  unfold sp_X8_change_5
  exact (kf2_lt (fun r1 _ => (kf2_ite (kf2_tr (g_fr_rf _) (g_fr_rf _) (fr_K_X8_change_5_32 F R)) (kf2_lt (fun r12 _ => (kf2_ite (kf2_tr (g_fr_rf _) (g_fr_rf _) (fr_K_X8_change_5_32 F R)) (kf2_lt (fun x22 _ => (kf2_lt (fun x24 _ => (kf2_lt (fun R26 zR26 => (kf2_tr (g_fr_rf _) (kf_r (g_fr_rf _) rfl zR26) (fr_K_X8_change_5_32 F R26))))))))))))))
theorem fr_KB_X6_change_r5_r1_2 (F : Nat → Int32) (F2 : Nat → Int32) (R3 : Nat → Nat → Int32) (y1 : Int32) (b2 : (Nat → Int32) → (Nat → Nat → Int32) → (Int32) → (Nat → Int32) × (Nat → Nat → Int32)) (hb2 : ∀ (F2 : Nat → Int32) (R3 : Nat → Nat → Int32) (y1 : Int32), kf2 md_X6_change_r5_r1 mr_X6_change_r5_r1 F2 R3 (b2 F2 R3 y1)) : kf2 md_X6_change_r5_r1 mr_X6_change_r5_r1 F2 R3 (KB_X6_change_r5_r1_2 b2 F F2 R3 y1) := by
  unfold KB_X6_change_r5_r1_2
  exact (kf2_ite ⟨(g_fr_rf _), (g_fr_rf _)⟩ (kf2_lt (fun x10 _ => (kf2_lt (fun x12 _ => (kf2_lt (fun r14 _ => (kf2_lt2 (fun F23 R24 zF23 => (kf2_lt (fun x26 _ => (kf2_tr (kf2_F (g_fr_rf _) (fr_sp_X8_change_5 F2 R3 x10 1 r14) zF23 rfl) (kf2_R (g_fr_rf _) (fr_sp_X8_change_5 F2 R3 x10 1 r14) zF23 rfl) (hb2 F23 R24 x26)))))))))))))
theorem fr_K_X6_change_r5_r1_2 (F : Nat → Int32) : ∀ (n : Nat) (F2 : Nat → Int32) (R3 : Nat → Nat → Int32) (y1 : Int32), kf2 md_X6_change_r5_r1 mr_X6_change_r5_r1 F2 R3 (K_X6_change_r5_r1_2 F n F2 R3 y1)
  | 0, F2, R3, y1 => ⟨g_fr_rf _, g_fr_rf _⟩
  | n + 1, F2, R3, y1 => fr_KB_X6_change_r5_r1_2 F F2 R3 y1 (K_X6_change_r5_r1_2 F n) (fr_K_X6_change_r5_r1_2 F n)
theorem fr_sp_X6_change_r5_r1 (F : Nat → Int32) (R : Nat → Nat → Int32) : kf2 md_X6_change_r5_r1 mr_X6_change_r5_r1 F R (sp_X6_change_r5_r1 F R) := by
  unfold sp_X6_change_r5_r1
  exact (kf2_tr (g_fr_rf _) (g_fr_rf _) (fr_K_X6_change_r5_r1_2 F 8589934592 F R 0))
theorem fr_K_X6_swap_44 (F : Nat → Int32) (R5 : Nat → Nat → Int32) : kf2 md_X6_swap mr_X6_swap F R5 (K_X6_swap_44 F R5) := by
  unfold K_X6_swap_44
  exact ⟨(g_fr_rf _), (g_fr_rf _)⟩
theorem fr_sp_X6_swap (F : Nat → Int32) (R : Nat → Nat → Int32) (a0 : Int32) (a1 : Int32) : kf2 md_X6_swap mr_X6_swap F R (sp_X6_swap F R a0 a1) := by
  unfold sp_X6_swap
  exact (kf2_lt (fun r1 _ => (kf2_ite (kf2_tr (g_fr_rf _) (g_fr_rf _) (fr_K_X6_swap_44 F R)) (kf2_lt (fun r12 _ => (kf2_ite (kf2_tr (g_fr_rf _) (g_fr_rf _) (fr_K_X6_swap_44 F R)) (kf2_lt (fun x22 _ => (kf2_lt (fun x24 _ => (kf2_lt (fun R26 zR26 => (kf2_lt (fun R28 zR28 => (kf2_tr (g_fr_rf _) (kf_r (kf_r (g_fr_rf _) rfl zR26) rfl zR28) (fr_K_X6_swap_44 F R28))))))))))))))))
theorem fr_KB_X6_next_101 (F29 : Nat → Int32) (R30 : Nat → Nat → Int32) (y27 : Int32) (y28 : Int32) (b101 : (Nat → Int32) → (Nat → Nat → Int32) → (Int32) → (Int32) → Int32 × (Nat → Int32) × (Nat → Nat → Int32)) (hb101 : ∀ (F29 : Nat → Int32) (R30 : Nat → Nat → Int32) (y27 : Int32) (y28 : Int32), kf3 md_X6_next mr_X6_next F29 R30 (b101 F29 R30 y27 y28)) : kf3 md_X6_next mr_X6_next F29 R30 (KB_X6_next_101 b101 F29 R30 y27 y28) := by
  unfold KB_X6_next_101
  exact (kf3_ite ⟨(g_fr_rf _), (g_fr_rf _)⟩ (kf3_lt2 (fun F40 R41 zF40 => (kf3_lt (fun x43 _ => (kf3_lt (fun x45 _ => (kf3_tr (kf2_F (g_fr_rf _) (fr_sp_X6_swap F29 R30 y27 y28) zF40 rfl) (kf2_R (g_fr_rf _) (fr_sp_X6_swap F29 R30 y27 y28) zF40 rfl) (hb101 F40 R41 x43 x45)))))))))
theorem fr_K_X6_next_101  : ∀ (n : Nat) (F29 : Nat → Int32) (R30 : Nat → Nat → Int32) (y27 : Int32) (y28 : Int32), kf3 md_X6_next mr_X6_next F29 R30 (K_X6_next_101  n F29 R30 y27 y28)
  | 0, F29, R30, y27, y28 => ⟨g_fr_rf _, g_fr_rf _⟩
  | n + 1, F29, R30, y27, y28 => fr_KB_X6_next_101 F29 R30 y27 y28 (K_X6_next_101  n) (fr_K_X6_next_101  n)
theorem fr_K_X6_next_83 (F : Nat → Int32) (R : Nat → Nat → Int32) (y5 : Int32) (y13 : Int32) : kf3 md_X6_next mr_X6_next F R (K_X6_next_83 F R y5 y13) := by
  unfold K_X6_next_83
  exact (kf3_lt2 (fun F20 R21 zF20 => (kf3_lt (fun x23 _ => (kf3_lt (fun x25 _ => (kf3_tr (kf2_F (g_fr_rf _) (fr_sp_X6_swap F R y5 y13) zF20 rfl) (kf2_R (g_fr_rf _) (fr_sp_X6_swap F R y5 y13) zF20 rfl) (fr_K_X6_next_101 8589934592 F20 R21 x23 x25))))))))
theorem fr_KB_X6_next_55 (F : Nat → Int32) (R : Nat → Nat → Int32) (y5 : Int32) (y13 : Int32) (b55 : (Int32) → Int32 × (Nat → Int32) × (Nat → Nat → Int32)) (hb55 : ∀ (y13 : Int32), kf3 md_X6_next mr_X6_next F R (b55 y13)) : kf3 md_X6_next mr_X6_next F R (KB_X6_next_55 b55 F R y5 y13) := by
  unfold KB_X6_next_55
  exact (kf3_lt (fun x14 _ => (kf3_ite (kf3_tr (g_fr_rf _) (g_fr_rf _) (fr_K_X6_next_83 F R y5 y13)) (kf3_lt (fun x53 _ => (kf3_lt (fun x55 _ => (kf3_ite (kf3_tr (g_fr_rf _) (g_fr_rf _) (fr_K_X6_next_83 F R y5 y13)) (kf3_lt (fun x62 _ => (kf3_tr (g_fr_rf _) (g_fr_rf _) (hb55 x62))))))))))))
theorem fr_K_X6_next_55 (F : Nat → Int32) (R : Nat → Nat → Int32) (y5 : Int32) : ∀ (n : Nat) (y13 : Int32), kf3 md_X6_next mr_X6_next F R (K_X6_next_55 F R y5 n y13)
  | 0, y13 => ⟨g_fr_rf _, g_fr_rf _⟩
  | n + 1, y13 => fr_KB_X6_next_55 F R y5 y13 (K_X6_next_55 F R y5 n) (fr_K_X6_next_55 F R y5 n)
theorem fr_K_X6_next_38 (F : Nat → Int32) (R : Nat → Nat → Int32) (y5 : Int32) : kf3 md_X6_next mr_X6_next F R (K_X6_next_38 F R y5) := by
  unfold K_X6_next_38
  exact (kf3_ite (kf3_lt (fun x9 _ => (kf3_lt (fun x11 _ => (kf3_tr (g_fr_rf _) (g_fr_rf _) (fr_K_X6_next_55 F R y5 8589934592 x11)))))) ⟨(g_fr_rf _), (g_fr_rf _)⟩)
theorem fr_KB_X6_next_11 (F : Nat → Int32) (R : Nat → Nat → Int32) (y5 : Int32) (b11 : (Int32) → Int32 × (Nat → Int32) × (Nat → Nat → Int32)) (hb11 : ∀ (y5 : Int32), kf3 md_X6_next mr_X6_next F R (b11 y5)) : kf3 md_X6_next mr_X6_next F R (KB_X6_next_11 b11 F R y5) := by
  unfold KB_X6_next_11
  exact (kf3_ite (kf3_tr (g_fr_rf _) (g_fr_rf _) (fr_K_X6_next_38 F R y5)) (kf3_lt (fun x71 _ => (kf3_lt (fun x73 _ => (kf3_lt (fun x75 _ => (kf3_ite (kf3_tr (g_fr_rf _) (g_fr_rf _) (fr_K_X6_next_38 F R y5)) (kf3_lt (fun x82 _ => (kf3_tr (g_fr_rf _) (g_fr_rf _) (hb11 x82))))))))))))
theorem fr_K_X6_next_11 (F : Nat → Int32) (R : Nat → Nat → Int32) : ∀ (n : Nat) (y5 : Int32), kf3 md_X6_next mr_X6_next F R (K_X6_next_11 F R n y5)
  | 0, y5 => ⟨g_fr_rf _, g_fr_rf _⟩
  | n + 1, y5 => fr_KB_X6_next_11 F R y5 (K_X6_next_11 F R n) (fr_K_X6_next_11 F R n)
theorem fr_sp_X6_next (F : Nat → Int32) (R : Nat → Nat → Int32) : kf3 md_X6_next mr_X6_next F R (sp_X6_next F R) := by
  unfold sp_X6_next
  exact (kf3_lt (fun x1 _ => (kf3_lt (fun x3 _ => (kf3_tr (g_fr_rf _) (g_fr_rf _) (fr_K_X6_next_11 F R 8589934592 x3))))))
theorem fr_sp_X6_markBest (F : Nat → Int32) (R : Nat → Nat → Int32) : kf2 md_X6_markBest mr_X6_markBest F R (sp_X6_markBest F R) := by
  unfold sp_X6_markBest
  exact (kf2_lt (fun R1 zR1 => ⟨(g_fr_rf _), (kf_r (g_fr_rf _) rfl zR1)⟩))
theorem fr_K_X7_bestRow_r47_r1_68 (F5 : Nat → Int32) (R6 : Nat → Nat → Int32) : kf2 md_X7_bestRow_r47_r1 mr_X7_bestRow_r47_r1 F5 R6 (K_X7_bestRow_r47_r1_68 F5 R6) := by
  unfold K_X7_bestRow_r47_r1_68
  exact (kf2_lt2 (fun F11 R12 zF11 => ⟨(kf2_F (g_fr_rf _) (fr_sp_X8_copy_5_r1 F5 R6) zF11 rfl), (kf2_R (g_fr_rf _) (fr_sp_X8_copy_5_r1 F5 R6) zF11 rfl)⟩))
theorem fr_K_X7_bestRow_r47_r1_57 (y4 : Int32) (F45 : Nat → Int32) (R46 : Nat → Nat → Int32) (b19 : (Nat → Int32) → (Nat → Nat → Int32) → (Int32) → (Int32) → (Nat → Int32) × (Nat → Nat → Int32)) (hb19 : ∀ (F5 : Nat → Int32) (R6 : Nat → Nat → Int32) (y3 : Int32) (y4 : Int32), kf2 md_X7_bestRow_r47_r1 mr_X7_bestRow_r47_r1 F5 R6 (b19 F5 R6 y3 y4)) : kf2 md_X7_bestRow_r47_r1 mr_X7_bestRow_r47_r1 F45 R46 (K_X7_bestRow_r47_r1_57 b19 y4 F45 R46) := by
  unfold K_X7_bestRow_r47_r1_57
  exact (kf2_lt3 (fun r47 F51 R52 zF51 => (kf2_lt (fun x54 _ => (kf2_tr (kf3_F (g_fr_rf _) (fr_sp_X6_next F45 R46) zF51 rfl) (kf3_R (g_fr_rf _) (fr_sp_X6_next F45 R46) zF51 rfl) (hb19 F51 R52 r47 x54))))))
theorem fr_KB_X7_bestRow_r47_r1_19 (F5 : Nat → Int32) (R6 : Nat → Nat → Int32) (y3 : Int32) (y4 : Int32) (b19 : (Nat → Int32) → (Nat → Nat → Int32) → (Int32) → (Int32) → (Nat → Int32) × (Nat → Nat → Int32)) (hb19 : ∀ (F5 : Nat → Int32) (R6 : Nat → Nat → Int32) (y3 : Int32) (y4 : Int32), kf2 md_X7_bestRow_r47_r1 mr_X7_bestRow_r47_r1 F5 R6 (b19 F5 R6 y3 y4)) : kf2 md_X7_bestRow_r47_r1 mr_X7_bestRow_r47_r1 F5 R6 (KB_X7_bestRow_r47_r1_19 b19 F5 R6 y3 y4) := by
  unfold KB_X7_bestRow_r47_r1_19
  exact (kf2_ite (kf2_tr (g_fr_rf _) (g_fr_rf _) (fr_K_X7_bestRow_r47_r1_68 F5 R6)) (kf2_ite (kf2_tr (g_fr_rf _) (g_fr_rf _) (fr_K_X7_bestRow_r47_r1_68 F5 R6)) (kf2_lt2 (fun F28 R29 zF28 => (kf2_lt2 (fun F35 R36 zF35 => (kf2_lt3 (fun r38 F42 R43 zF42 => (kf2_ite (kf2_tr (kf3_F (kf2_F (kf2_F (g_fr_rf _) (fr_sp_X6_change_r5_r1 F5 R6) zF28 rfl) (fr_sp_X0_run F28 R29) zF35 rfl) (fr_sp_X7_improves F35 R36) zF42 rfl) (kf3_R (kf2_R (kf2_R (g_fr_rf _) (fr_sp_X6_change_r5_r1 F5 R6) zF28 rfl) (fr_sp_X0_run F28 R29) zF35 rfl) (fr_sp_X7_improves F35 R36) zF42 rfl) (fr_K_X7_bestRow_r47_r1_57 y4 F42 R43 b19 hb19)) (kf2_lt2 (fun F65 R66 zF65 => (kf2_tr (kf2_F (kf3_F (kf2_F (kf2_F (g_fr_rf _) (fr_sp_X6_change_r5_r1 F5 R6) zF28 rfl) (fr_sp_X0_run F28 R29) zF35 rfl) (fr_sp_X7_improves F35 R36) zF42 rfl) (fr_sp_X6_markBest F42 R43) zF65 rfl) (kf2_R (kf3_R (kf2_R (kf2_R (g_fr_rf _) (fr_sp_X6_change_r5_r1 F5 R6) zF28 rfl) (fr_sp_X0_run F28 R29) zF35 rfl) (fr_sp_X7_improves F35 R36) zF42 rfl) (fr_sp_X6_markBest F42 R43) zF65 rfl) (fr_K_X7_bestRow_r47_r1_57 y4 F65 R66 b19 hb19)))))))))))))
theorem fr_K_X7_bestRow_r47_r1_19  : ∀ (n : Nat) (F5 : Nat → Int32) (R6 : Nat → Nat → Int32) (y3 : Int32) (y4 : Int32), kf2 md_X7_bestRow_r47_r1 mr_X7_bestRow_r47_r1 F5 R6 (K_X7_bestRow_r47_r1_19  n F5 R6 y3 y4)
  | 0, F5, R6, y3, y4 => ⟨g_fr_rf _, g_fr_rf _⟩
  | n + 1, F5, R6, y3, y4 => fr_KB_X7_bestRow_r47_r1_19 F5 R6 y3 y4 (K_X7_bestRow_r47_r1_19  n) (fr_K_X7_bestRow_r47_r1_19  n)
theorem fr_sp_X7_bestRow_r47_r1 (F : Nat → Int32) (R : Nat → Nat → Int32) : kf2 md_X7_bestRow_r47_r1 mr_X7_bestRow_r47_r1 F R (sp_X7_bestRow_r47_r1 F R) := by
  unfold sp_X7_bestRow_r47_r1
  exact (kf2_lt (fun F1 zF1 => (kf2_tr (kf_u (g_fr_rf _) rfl zF1) (g_fr_rf _) (fr_K_X7_bestRow_r47_r1_19 8589934592 F1 R 1 0))))
theorem fr_sp_X6_chooseBest (F : Nat → Int32) (R : Nat → Nat → Int32) : kf2 md_X6_chooseBest mr_X6_chooseBest F R (sp_X6_chooseBest F R) := by
  unfold sp_X6_chooseBest
  exact (kf2_lt (fun R1 zR1 => ⟨(g_fr_rf _), (kf_r (g_fr_rf _) rfl zR1)⟩))
theorem fr_KB_X6_change_r1_r5_2 (F : Nat → Int32) (F2 : Nat → Int32) (R3 : Nat → Nat → Int32) (y1 : Int32) (b2 : (Nat → Int32) → (Nat → Nat → Int32) → (Int32) → (Nat → Int32) × (Nat → Nat → Int32)) (hb2 : ∀ (F2 : Nat → Int32) (R3 : Nat → Nat → Int32) (y1 : Int32), kf2 md_X6_change_r1_r5 mr_X6_change_r1_r5 F2 R3 (b2 F2 R3 y1)) : kf2 md_X6_change_r1_r5 mr_X6_change_r1_r5 F2 R3 (KB_X6_change_r1_r5_2 b2 F F2 R3 y1) := by
  unfold KB_X6_change_r1_r5_2
  exact (kf2_ite ⟨(g_fr_rf _), (g_fr_rf _)⟩ (kf2_lt (fun x10 _ => (kf2_lt (fun x12 _ => (kf2_lt (fun r14 _ => (kf2_lt2 (fun F23 R24 zF23 => (kf2_lt (fun x26 _ => (kf2_tr (kf2_F (g_fr_rf _) (fr_sp_X8_change_1 F2 R3 x10 1 r14) zF23 rfl) (kf2_R (g_fr_rf _) (fr_sp_X8_change_1 F2 R3 x10 1 r14) zF23 rfl) (hb2 F23 R24 x26)))))))))))))
theorem fr_K_X6_change_r1_r5_2 (F : Nat → Int32) : ∀ (n : Nat) (F2 : Nat → Int32) (R3 : Nat → Nat → Int32) (y1 : Int32), kf2 md_X6_change_r1_r5 mr_X6_change_r1_r5 F2 R3 (K_X6_change_r1_r5_2 F n F2 R3 y1)
  | 0, F2, R3, y1 => ⟨g_fr_rf _, g_fr_rf _⟩
  | n + 1, F2, R3, y1 => fr_KB_X6_change_r1_r5_2 F F2 R3 y1 (K_X6_change_r1_r5_2 F n) (fr_K_X6_change_r1_r5_2 F n)
theorem fr_sp_X6_change_r1_r5 (F : Nat → Int32) (R : Nat → Nat → Int32) : kf2 md_X6_change_r1_r5 mr_X6_change_r1_r5 F R (sp_X6_change_r1_r5 F R) := by
  unfold sp_X6_change_r1_r5
  exact (kf2_tr (g_fr_rf _) (g_fr_rf _) (fr_K_X6_change_r1_r5_2 F 8589934592 F R 0))
theorem fr_K_X10_put_57 (F10 : Nat → Int32) (R11 : Nat → Nat → Int32) : kf3 md_X10_put mr_X10_put F10 R11 (K_X10_put_57 F10 R11) := by
  unfold K_X10_put_57
  exact ⟨(g_fr_rf _), (g_fr_rf _)⟩
theorem fr_K_X10_put_149 (F37 : Nat → Int32) (R38 : Nat → Nat → Int32) : kf3 md_X10_put mr_X10_put F37 R38 (K_X10_put_149 F37 R38) := by
  unfold K_X10_put_149
  exact ⟨(g_fr_rf _), (g_fr_rf _)⟩
theorem fr_K_X10_put_59 (F10 : Nat → Int32) (R11 : Nat → Nat → Int32) (a1 : Int32) : kf3 md_X10_put mr_X10_put F10 R11 (K_X10_put_59 F10 R11 a1) := by
  unfold K_X10_put_59
  exact (kf3_lt2 (fun F22 R23 zF22 => (kf3_lt2 (fun F29 R30 zF29 => (kf3_ite ⟨(kf2_F (kf2_F (g_fr_rf _) (fr_sp_X7_lay_r1_r11 F10 R11) zF22 rfl) (fr_sp_X7_bestRow_r47_r1 F22 R23) zF29 rfl), (kf2_R (kf2_R (g_fr_rf _) (fr_sp_X7_lay_r1_r11 F10 R11) zF22 rfl) (fr_sp_X7_bestRow_r47_r1 F22 R23) zF29 rfl)⟩ (kf3_ite (kf3_ite (kf3_lt2 (fun F47 R48 zF47 => (kf3_lt2 (fun F54 R55 zF54 => (kf3_tr (kf2_F (kf2_F (kf2_F (kf2_F (g_fr_rf _) (fr_sp_X7_lay_r1_r11 F10 R11) zF22 rfl) (fr_sp_X7_bestRow_r47_r1 F22 R23) zF29 rfl) (fr_sp_X6_chooseBest F29 R30) zF47 rfl) (fr_sp_X6_change_r1_r5 F47 R48) zF54 rfl) (kf2_R (kf2_R (kf2_R (kf2_R (g_fr_rf _) (fr_sp_X7_lay_r1_r11 F10 R11) zF22 rfl) (fr_sp_X7_bestRow_r47_r1 F22 R23) zF29 rfl) (fr_sp_X6_chooseBest F29 R30) zF47 rfl) (fr_sp_X6_change_r1_r5 F47 R48) zF54 rfl) (fr_K_X10_put_149 F54 R55)))))) (kf3_tr (kf2_F (kf2_F (g_fr_rf _) (fr_sp_X7_lay_r1_r11 F10 R11) zF22 rfl) (fr_sp_X7_bestRow_r47_r1 F22 R23) zF29 rfl) (kf2_R (kf2_R (g_fr_rf _) (fr_sp_X7_lay_r1_r11 F10 R11) zF22 rfl) (fr_sp_X7_bestRow_r47_r1 F22 R23) zF29 rfl) (fr_K_X10_put_149 F29 R30))) (kf3_lt (fun r59 _ => ⟨(kf2_F (kf2_F (g_fr_rf _) (fr_sp_X7_lay_r1_r11 F10 R11) zF22 rfl) (fr_sp_X7_bestRow_r47_r1 F22 R23) zF29 rfl), (kf2_R (kf2_R (g_fr_rf _) (fr_sp_X7_lay_r1_r11 F10 R11) zF22 rfl) (fr_sp_X7_bestRow_r47_r1 F22 R23) zF29 rfl)⟩))))))))
theorem fr_K_X10_put_23 (F : Nat → Int32) (R : Nat → Nat → Int32) (a0 : Int32) (a1 : Int32) (y5 : Int32) : kf3 md_X10_put mr_X10_put F R (K_X10_put_23 F R a0 a1 y5) := by
  unfold K_X10_put_23
  exact (kf3_lt3 (fun r6 F10 R11 zF10 => (kf3_ite (kf3_tr (kf3_F (g_fr_rf _) (fr_sp_X6_take F R a0 (F 19)) zF10 rfl) (kf3_R (g_fr_rf _) (fr_sp_X6_take F R a0 (F 19)) zF10 rfl) (fr_K_X10_put_57 F10 R11)) (kf3_ite (kf3_lt (fun r71 _ => (kf3_ite (kf3_tr (kf3_F (g_fr_rf _) (fr_sp_X6_take F R a0 (F 19)) zF10 rfl) (kf3_R (g_fr_rf _) (fr_sp_X6_take F R a0 (F 19)) zF10 rfl) (fr_K_X10_put_57 F10 R11)) (kf3_tr (kf3_F (g_fr_rf _) (fr_sp_X6_take F R a0 (F 19)) zF10 rfl) (kf3_R (g_fr_rf _) (fr_sp_X6_take F R a0 (F 19)) zF10 rfl) (fr_K_X10_put_59 F10 R11 a1))))) (kf3_tr (kf3_F (g_fr_rf _) (fr_sp_X6_take F R a0 (F 19)) zF10 rfl) (kf3_R (g_fr_rf _) (fr_sp_X6_take F R a0 (F 19)) zF10 rfl) (fr_K_X10_put_59 F10 R11 a1))))))
theorem fr_K_X10_put_22 (F : Nat → Int32) (R : Nat → Nat → Int32) (a0 : Int32) (a1 : Int32) : kf3 md_X10_put mr_X10_put F R (K_X10_put_22 F R a0 a1) := by
  unfold K_X10_put_22
  exact (kf3_tr (g_fr_rf _) (g_fr_rf _) (fr_K_X10_put_23 F R a0 a1 0))
theorem fr_sp_X10_put (F : Nat → Int32) (R : Nat → Nat → Int32) (a0 : Int32) (a1 : Int32) : kf3 md_X10_put mr_X10_put F R (sp_X10_put F R a0 a1) := by
  unfold sp_X10_put
  exact (kf3_lt (fun r1 _ => (kf3_ite (kf3_tr (g_fr_rf _) (g_fr_rf _) (fr_K_X10_put_22 F R a0 a1)) (kf3_lt (fun x87 _ => (kf3_lt (fun x89 _ => (kf3_ite (kf3_tr (g_fr_rf _) (g_fr_rf _) (fr_K_X10_put_22 F R a0 a1)) (kf3_tr (g_fr_rf _) (g_fr_rf _) (fr_K_X10_put_23 F R a0 a1 1))))))))))
theorem fr_K_X7_largestStanding_69 (y2 : Int32) (F17 : Nat → Int32) (R18 : Nat → Nat → Int32) (y16 : Int32) (b12 : (Nat → Int32) → (Nat → Nat → Int32) → (Int32) → (Int32) → Int32 × (Nat → Int32) × (Nat → Nat → Int32)) (hb12 : ∀ (F3 : Nat → Int32) (R4 : Nat → Nat → Int32) (y1 : Int32) (y2 : Int32), kf3 md_X7_largestStanding mr_X7_largestStanding F3 R4 (b12 F3 R4 y1 y2)) : kf3 md_X7_largestStanding mr_X7_largestStanding F17 R18 (K_X7_largestStanding_69 b12 y2 F17 R18 y16) := by
  unfold K_X7_largestStanding_69
  exact (kf3_lt (fun x19 _ => (kf3_tr (g_fr_rf _) (g_fr_rf _) (hb12 F17 R18 y16 x19))))
theorem fr_K_X7_largestStanding_68 (F45 : Nat → Int32) (R46 : Nat → Nat → Int32) (y2 : Int32) (y53 : Int32) (b12 : (Nat → Int32) → (Nat → Nat → Int32) → (Int32) → (Int32) → Int32 × (Nat → Int32) × (Nat → Nat → Int32)) (hb12 : ∀ (F3 : Nat → Int32) (R4 : Nat → Nat → Int32) (y1 : Int32) (y2 : Int32), kf3 md_X7_largestStanding mr_X7_largestStanding F3 R4 (b12 F3 R4 y1 y2)) : kf3 md_X7_largestStanding mr_X7_largestStanding F45 R46 (K_X7_largestStanding_68 b12 F45 R46 y2 y53) := by
  unfold K_X7_largestStanding_68
  exact (kf3_tr (g_fr_rf _) (g_fr_rf _) (fr_K_X7_largestStanding_69 y2 F45 R46 y53 b12 hb12))
theorem fr_KB_X7_largestStanding_12 (F : Nat → Int32) (F3 : Nat → Int32) (R4 : Nat → Nat → Int32) (y1 : Int32) (y2 : Int32) (b12 : (Nat → Int32) → (Nat → Nat → Int32) → (Int32) → (Int32) → Int32 × (Nat → Int32) × (Nat → Nat → Int32)) (hb12 : ∀ (F3 : Nat → Int32) (R4 : Nat → Nat → Int32) (y1 : Int32) (y2 : Int32), kf3 md_X7_largestStanding mr_X7_largestStanding F3 R4 (b12 F3 R4 y1 y2)) : kf3 md_X7_largestStanding mr_X7_largestStanding F3 R4 (KB_X7_largestStanding_12 b12 F F3 R4 y1 y2) := by
  unfold KB_X7_largestStanding_12
  exact (kf3_ite (kf3_lt (fun F8 zF8 => ⟨(kf_u (g_fr_rf _) rfl zF8), (g_fr_rf _)⟩)) (kf3_lt (fun x12 _ => (kf3_lt (fun x14 _ => (kf3_ite (kf3_lt (fun r26 _ => (kf3_lt (fun r30 _ => (kf3_ite (kf3_tr (g_fr_rf _) (g_fr_rf _) (fr_K_X7_largestStanding_69 y2 F3 R4 y1 b12 hb12)) (kf3_lt (fun F39 zF39 => (kf3_lt2 (fun F45 R46 zF45 => (kf3_lt (fun r48 _ => (kf3_ite (kf3_tr (kf2_F (kf_u (g_fr_rf _) rfl zF39) (fr_sp_X0_run F39 R4) zF45 rfl) (kf2_R (g_fr_rf _) (fr_sp_X0_run F39 R4) zF45 rfl) (fr_K_X7_largestStanding_68 F45 R46 y2 y1 b12 hb12)) (kf3_tr (kf2_F (kf_u (g_fr_rf _) rfl zF39) (fr_sp_X0_run F39 R4) zF45 rfl) (kf2_R (g_fr_rf _) (fr_sp_X0_run F39 R4) zF45 rfl) (fr_K_X7_largestStanding_68 F45 R46 y2 y2 b12 hb12)))))))))))))) (kf3_tr (g_fr_rf _) (g_fr_rf _) (fr_K_X7_largestStanding_69 y2 F3 R4 y1 b12 hb12))))))))
theorem fr_K_X7_largestStanding_12 (F : Nat → Int32) : ∀ (n : Nat) (F3 : Nat → Int32) (R4 : Nat → Nat → Int32) (y1 : Int32) (y2 : Int32), kf3 md_X7_largestStanding mr_X7_largestStanding F3 R4 (K_X7_largestStanding_12 F n F3 R4 y1 y2)
  | 0, F3, R4, y1, y2 => ⟨g_fr_rf _, g_fr_rf _⟩
  | n + 1, F3, R4, y1, y2 => fr_KB_X7_largestStanding_12 F F3 R4 y1 y2 (K_X7_largestStanding_12 F n) (fr_K_X7_largestStanding_12 F n)
theorem fr_sp_X7_largestStanding (F : Nat → Int32) (R : Nat → Nat → Int32) : kf3 md_X7_largestStanding mr_X7_largestStanding F R (sp_X7_largestStanding F R) := by
  unfold sp_X7_largestStanding
  exact (kf3_tr (g_fr_rf _) (g_fr_rf _) (fr_K_X7_largestStanding_12 F 8589934592 F R 0 1))
theorem fr_K_X10_most_46 (F20 : Nat → Int32) (R21 : Nat → Nat → Int32) (y23 : Int32) : kf3 md_X10_most mr_X10_most F20 R21 (K_X10_most_46 F20 R21 y23) := by
  unfold K_X10_most_46
  exact ⟨(g_fr_rf _), (g_fr_rf _)⟩
theorem fr_sp_X10_most (F : Nat → Int32) (R : Nat → Nat → Int32) (a0 : Int32) : kf3 md_X10_most mr_X10_most F R (sp_X10_most F R a0) := by
  unfold sp_X10_most
  exact (kf3_lt (fun r1 _ => (kf3_ite ⟨(g_fr_rf _), (g_fr_rf _)⟩ (kf3_lt2 (fun F13 R14 zF13 => (kf3_lt3 (fun r16 F20 R21 zF20 => (kf3_ite (kf3_lt (fun r29 _ => (kf3_tr (kf3_F (kf2_F (g_fr_rf _) (fr_sp_X7_lay_r1_r11 F R) zF13 rfl) (fr_sp_X7_largestStanding F13 R14) zF20 rfl) (kf3_R (kf2_R (g_fr_rf _) (fr_sp_X7_lay_r1_r11 F R) zF13 rfl) (fr_sp_X7_largestStanding F13 R14) zF20 rfl) (fr_K_X10_most_46 F20 R21 r29)))) (kf3_tr (kf3_F (kf2_F (g_fr_rf _) (fr_sp_X7_lay_r1_r11 F R) zF13 rfl) (fr_sp_X7_largestStanding F13 R14) zF20 rfl) (kf3_R (kf2_R (g_fr_rf _) (fr_sp_X7_lay_r1_r11 F R) zF13 rfl) (fr_sp_X7_largestStanding F13 R14) zF20 rfl) (fr_K_X10_most_46 F20 R21 r16))))))))))
theorem fr_K_X10_worth_220 (F41 : Nat → Int32) (R42 : Nat → Nat → Int32) (y45 : Int32) : kf3 md_X10_worth mr_X10_worth F41 R42 (K_X10_worth_220 F41 R42 y45) := by
  unfold K_X10_worth_220
  exact ⟨(g_fr_rf _), (g_fr_rf _)⟩
theorem fr_K_X10_worth_184 (F41 : Nat → Int32) (R42 : Nat → Nat → Int32) (r25 : Int32) (r30 : Int32) (y44 : Int32) : kf3 md_X10_worth mr_X10_worth F41 R42 (K_X10_worth_184 F41 R42 r25 r30 y44) := by
  unfold K_X10_worth_184
  exact (kf3_ite (kf3_lt (fun r49 _ => (kf3_lt (fun x54 _ => (kf3_tr (g_fr_rf _) (g_fr_rf _) (fr_K_X10_worth_220 F41 R42 x54)))))) (kf3_lt (fun r58 _ => (kf3_lt (fun x63 _ => (kf3_tr (g_fr_rf _) (g_fr_rf _) (fr_K_X10_worth_220 F41 R42 x63)))))))
theorem fr_K_X10_worth_179 (F41 : Nat → Int32) (R42 : Nat → Nat → Int32) (r25 : Int32) (r30 : Int32) : kf3 md_X10_worth mr_X10_worth F41 R42 (K_X10_worth_179 F41 R42 r25 r30) := by
  unfold K_X10_worth_179
  exact (kf3_tr (g_fr_rf _) (g_fr_rf _) (fr_K_X10_worth_184 F41 R42 r25 r30 1))
theorem fr_K_X10_worth_163 (a1 : Int32) (r25 : Int32) (r30 : Int32) (F35 : Nat → Int32) (R36 : Nat → Nat → Int32) : kf3 md_X10_worth mr_X10_worth F35 R36 (K_X10_worth_163 a1 r25 r30 F35 R36) := by
  unfold K_X10_worth_163
  exact (kf3_lt2 (fun F41 R42 zF41 => (kf3_ite (kf3_tr (kf2_F (g_fr_rf _) (fr_sp_X0_run F35 R36) zF41 rfl) (kf2_R (g_fr_rf _) (fr_sp_X0_run F35 R36) zF41 rfl) (fr_K_X10_worth_179 F41 R42 r25 r30)) (kf3_ite (kf3_tr (kf2_F (g_fr_rf _) (fr_sp_X0_run F35 R36) zF41 rfl) (kf2_R (g_fr_rf _) (fr_sp_X0_run F35 R36) zF41 rfl) (fr_K_X10_worth_179 F41 R42 r25 r30)) (kf3_tr (kf2_F (g_fr_rf _) (fr_sp_X0_run F35 R36) zF41 rfl) (kf2_R (g_fr_rf _) (fr_sp_X0_run F35 R36) zF41 rfl) (fr_K_X10_worth_184 F41 R42 r25 r30 0))))))
theorem fr_K_X10_worth_77 (F : Nat → Int32) (R : Nat → Nat → Int32) (a0 : Int32) (a1 : Int32) (y5 : Int32) : kf3 md_X10_worth mr_X10_worth F R (K_X10_worth_77 F R a0 a1 y5) := by
  unfold K_X10_worth_77
  exact (kf3_lt2 (fun F15 R16 zF15 => (kf3_lt2 (fun F22 R23 zF22 => (kf3_lt (fun r25 _ => (kf3_lt (fun r30 _ => (kf3_ite (kf3_lt2 (fun F80 R81 zF80 => (kf3_tr (kf2_F (kf2_F (kf2_F (g_fr_rf _) (fr_sp_X7_lay_r1_r11 F R) zF15 rfl) (fr_sp_X0_run F15 R16) zF22 rfl) (fr_sp_X8_change_5 F22 R23 a0 5 0) zF80 rfl) (kf2_R (kf2_R (kf2_R (g_fr_rf _) (fr_sp_X7_lay_r1_r11 F R) zF15 rfl) (fr_sp_X0_run F15 R16) zF22 rfl) (fr_sp_X8_change_5 F22 R23 a0 5 0) zF80 rfl) (fr_K_X10_worth_163 a1 r25 r30 F80 R81)))) (kf3_lt (fun x85 _ => (kf3_lt (fun x87 _ => (kf3_lt (fun x89 _ => (kf3_lt (fun F91 zF91 => (kf3_tr (kf_u (kf2_F (kf2_F (g_fr_rf _) (fr_sp_X7_lay_r1_r11 F R) zF15 rfl) (fr_sp_X0_run F15 R16) zF22 rfl) rfl zF91) (kf2_R (kf2_R (g_fr_rf _) (fr_sp_X7_lay_r1_r11 F R) zF15 rfl) (fr_sp_X0_run F15 R16) zF22 rfl) (fr_K_X10_worth_163 a1 r25 r30 F91 R23)))))))))))))))))))
theorem fr_K_X10_worth_63 (F : Nat → Int32) (R : Nat → Nat → Int32) (a0 : Int32) (a1 : Int32) (y5 : Int32) (y10 : Int32) : kf3 md_X10_worth mr_X10_worth F R (K_X10_worth_63 F R a0 a1 y5 y10) := by
  unfold K_X10_worth_63
  exact (kf3_ite (kf3_ite ⟨(g_fr_rf _), (g_fr_rf _)⟩ (kf3_tr (g_fr_rf _) (g_fr_rf _) (fr_K_X10_worth_77 F R a0 a1 y5))) (kf3_tr (g_fr_rf _) (g_fr_rf _) (fr_K_X10_worth_77 F R a0 a1 y5)))
theorem fr_K_X10_worth_62 (F : Nat → Int32) (R : Nat → Nat → Int32) (a0 : Int32) (a1 : Int32) (y5 : Int32) : kf3 md_X10_worth mr_X10_worth F R (K_X10_worth_62 F R a0 a1 y5) := by
  unfold K_X10_worth_62
  exact (kf3_tr (g_fr_rf _) (g_fr_rf _) (fr_K_X10_worth_63 F R a0 a1 y5 0))
theorem fr_K_X10_worth_25 (F : Nat → Int32) (R : Nat → Nat → Int32) (a0 : Int32) (a1 : Int32) (y5 : Int32) : kf3 md_X10_worth mr_X10_worth F R (K_X10_worth_25 F R a0 a1 y5) := by
  unfold K_X10_worth_25
  exact (kf3_lt (fun r6 _ => (kf3_ite (kf3_tr (g_fr_rf _) (g_fr_rf _) (fr_K_X10_worth_62 F R a0 a1 y5)) (kf3_lt (fun r109 _ => (kf3_ite (kf3_tr (g_fr_rf _) (g_fr_rf _) (fr_K_X10_worth_62 F R a0 a1 y5)) (kf3_lt (fun r119 _ => (kf3_ite (kf3_tr (g_fr_rf _) (g_fr_rf _) (fr_K_X10_worth_62 F R a0 a1 y5)) (kf3_tr (g_fr_rf _) (g_fr_rf _) (fr_K_X10_worth_63 F R a0 a1 y5 1)))))))))))
theorem fr_K_X10_worth_24 (F : Nat → Int32) (R : Nat → Nat → Int32) (a0 : Int32) (a1 : Int32) : kf3 md_X10_worth mr_X10_worth F R (K_X10_worth_24 F R a0 a1) := by
  unfold K_X10_worth_24
  exact (kf3_tr (g_fr_rf _) (g_fr_rf _) (fr_K_X10_worth_25 F R a0 a1 0))
theorem fr_sp_X10_worth (F : Nat → Int32) (R : Nat → Nat → Int32) (a0 : Int32) (a1 : Int32) : kf3 md_X10_worth mr_X10_worth F R (sp_X10_worth F R a0 a1) := by
  unfold sp_X10_worth
  exact (kf3_lt (fun r1 _ => (kf3_ite (kf3_tr (g_fr_rf _) (g_fr_rf _) (fr_K_X10_worth_24 F R a0 a1)) (kf3_lt (fun r134 _ => (kf3_ite (kf3_tr (g_fr_rf _) (g_fr_rf _) (fr_K_X10_worth_24 F R a0 a1)) (kf3_tr (g_fr_rf _) (g_fr_rf _) (fr_K_X10_worth_25 F R a0 a1 1))))))))
theorem fr_K_X7_noteFit_r9_29 (R : Nat → Nat → Int32) (F9 : Nat → Int32) : kf2 md_X7_noteFit_r9 mr_X7_noteFit_r9 F9 R (K_X7_noteFit_r9_29 R F9) := by
  unfold K_X7_noteFit_r9_29
  exact (kf2_lt (fun x10 _ => (kf2_lt (fun F12 zF12 => ⟨(kf_u (g_fr_rf _) rfl zF12), (g_fr_rf _)⟩))))
theorem fr_sp_X7_noteFit_r9 (F : Nat → Int32) (R : Nat → Nat → Int32) (a1 : Int32) (a2 : Int32) : kf2 md_X7_noteFit_r9 mr_X7_noteFit_r9 F R (sp_X7_noteFit_r9 F R a1 a2) := by
  unfold sp_X7_noteFit_r9
  exact (kf2_lt (fun r1 _ => (kf2_ite ⟨(g_fr_rf _), (g_fr_rf _)⟩ (kf2_ite (kf2_lt (fun F18 zF18 => (kf2_lt (fun F20 zF20 => (kf2_tr (kf_u (kf_u (g_fr_rf _) rfl zF18) rfl zF20) (g_fr_rf _) (fr_K_X7_noteFit_r9_29 R F20)))))) (kf2_tr (g_fr_rf _) (g_fr_rf _) (fr_K_X7_noteFit_r9_29 R F))))))
theorem fr_K_X7_findWet_r9_82 (F17 : Nat → Int32) (R18 : Nat → Nat → Int32) (r11 : Int32) (y3 : Int32) (b7 : (Nat → Int32) → (Nat → Nat → Int32) → (Int32) → (Nat → Int32) × (Nat → Nat → Int32)) (hb7 : ∀ (F4 : Nat → Int32) (R5 : Nat → Nat → Int32) (y3 : Int32), kf2 md_X7_findWet_r9 mr_X7_findWet_r9 F4 R5 (b7 F4 R5 y3)) : kf2 md_X7_findWet_r9 mr_X7_findWet_r9 F17 R18 (K_X7_findWet_r9_82 b7 F17 R18 r11 y3) := by
  unfold K_X7_findWet_r9_82
  exact (kf2_lt2 (fun F23 R24 zF23 => (kf2_lt (fun x26 _ => (kf2_tr (kf2_F (g_fr_rf _) (fr_sp_X8_change_5 F17 R18 y3 5 r11) zF23 rfl) (kf2_R (g_fr_rf _) (fr_sp_X8_change_5 F17 R18 y3 5 r11) zF23 rfl) (hb7 F23 R24 x26))))))
theorem fr_K_X7_findWet_r9_76 (y16 : Int32) (F43 : Nat → Int32) (R44 : Nat → Nat → Int32) (b26 : (Nat → Int32) → (Nat → Nat → Int32) → (Int32) → (Nat → Int32) × (Nat → Nat → Int32)) (hb26 : ∀ (F17 : Nat → Int32) (R18 : Nat → Nat → Int32) (y16 : Int32), kf2 md_X7_findWet_r9 mr_X7_findWet_r9 F17 R18 (b26 F17 R18 y16)) : kf2 md_X7_findWet_r9 mr_X7_findWet_r9 F43 R44 (K_X7_findWet_r9_76 b26 y16 F43 R44) := by
  unfold K_X7_findWet_r9_76
  exact (kf2_lt (fun x45 _ => (kf2_tr (g_fr_rf _) (g_fr_rf _) (hb26 F43 R44 x45))))
theorem fr_KB_X7_findWet_r9_26 (r11 : Int32) (y3 : Int32) (F17 : Nat → Int32) (R18 : Nat → Nat → Int32) (y16 : Int32) (b26 : (Nat → Int32) → (Nat → Nat → Int32) → (Int32) → (Nat → Int32) × (Nat → Nat → Int32)) (hb26 : ∀ (F17 : Nat → Int32) (R18 : Nat → Nat → Int32) (y16 : Int32), kf2 md_X7_findWet_r9 mr_X7_findWet_r9 F17 R18 (b26 F17 R18 y16)) (b7 : (Nat → Int32) → (Nat → Nat → Int32) → (Int32) → (Nat → Int32) × (Nat → Nat → Int32)) (hb7 : ∀ (F4 : Nat → Int32) (R5 : Nat → Nat → Int32) (y3 : Int32), kf2 md_X7_findWet_r9 mr_X7_findWet_r9 F4 R5 (b7 F4 R5 y3)) : kf2 md_X7_findWet_r9 mr_X7_findWet_r9 F17 R18 (KB_X7_findWet_r9_26 b26 b7 r11 y3 F17 R18 y16) := by
  unfold KB_X7_findWet_r9_26
  exact (kf2_ite (kf2_tr (g_fr_rf _) (g_fr_rf _) (fr_K_X7_findWet_r9_82 F17 R18 r11 y3 b7 hb7)) (kf2_lt (fun r33 _ => (kf2_ite (kf2_tr (g_fr_rf _) (g_fr_rf _) (fr_K_X7_findWet_r9_82 F17 R18 r11 y3 b7 hb7)) (kf2_ite (kf2_tr (g_fr_rf _) (g_fr_rf _) (fr_K_X7_findWet_r9_76 y16 F17 R18 b26 hb26)) (kf2_lt2 (fun F55 R56 zF55 => (kf2_lt2 (fun F62 R63 zF62 => (kf2_lt2 (fun F69 R70 zF69 => (kf2_tr (kf2_F (kf2_F (kf2_F (g_fr_rf _) (fr_sp_X8_change_5 F17 R18 y3 5 y16) zF55 rfl) (fr_sp_X0_run F55 R56) zF62 rfl) (fr_sp_X7_noteFit_r9 F62 R63 y3 y16) zF69 rfl) (kf2_R (kf2_R (kf2_R (g_fr_rf _) (fr_sp_X8_change_5 F17 R18 y3 5 y16) zF55 rfl) (fr_sp_X0_run F55 R56) zF62 rfl) (fr_sp_X7_noteFit_r9 F62 R63 y3 y16) zF69 rfl) (fr_K_X7_findWet_r9_76 y16 F69 R70 b26 hb26)))))))))))))
theorem fr_K_X7_findWet_r9_26 (r11 : Int32) (y3 : Int32) (b7 : (Nat → Int32) → (Nat → Nat → Int32) → (Int32) → (Nat → Int32) × (Nat → Nat → Int32)) (hb7 : ∀ (F4 : Nat → Int32) (R5 : Nat → Nat → Int32) (y3 : Int32), kf2 md_X7_findWet_r9 mr_X7_findWet_r9 F4 R5 (b7 F4 R5 y3)) : ∀ (n : Nat) (F17 : Nat → Int32) (R18 : Nat → Nat → Int32) (y16 : Int32), kf2 md_X7_findWet_r9 mr_X7_findWet_r9 F17 R18 (K_X7_findWet_r9_26 b7 r11 y3 n F17 R18 y16)
  | 0, F17, R18, y16 => ⟨g_fr_rf _, g_fr_rf _⟩
  | n + 1, F17, R18, y16 => fr_KB_X7_findWet_r9_26 r11 y3 F17 R18 y16 (K_X7_findWet_r9_26 b7 r11 y3 n) (fr_K_X7_findWet_r9_26 r11 y3 b7 hb7 n) b7 hb7
theorem fr_KB_X7_findWet_r9_7 (F4 : Nat → Int32) (R5 : Nat → Nat → Int32) (y3 : Int32) (b7 : (Nat → Int32) → (Nat → Nat → Int32) → (Int32) → (Nat → Int32) × (Nat → Nat → Int32)) (hb7 : ∀ (F4 : Nat → Int32) (R5 : Nat → Nat → Int32) (y3 : Int32), kf2 md_X7_findWet_r9 mr_X7_findWet_r9 F4 R5 (b7 F4 R5 y3)) : kf2 md_X7_findWet_r9 mr_X7_findWet_r9 F4 R5 (KB_X7_findWet_r9_7 b7 F4 R5 y3) := by
  unfold KB_X7_findWet_r9_7
  exact (kf2_ite ⟨(g_fr_rf _), (g_fr_rf _)⟩ (kf2_lt (fun r11 _ => (kf2_tr (g_fr_rf _) (g_fr_rf _) (fr_K_X7_findWet_r9_26 r11 y3 b7 hb7 8589934592 F4 R5 0)))))
theorem fr_K_X7_findWet_r9_7  : ∀ (n : Nat) (F4 : Nat → Int32) (R5 : Nat → Nat → Int32) (y3 : Int32), kf2 md_X7_findWet_r9 mr_X7_findWet_r9 F4 R5 (K_X7_findWet_r9_7  n F4 R5 y3)
  | 0, F4, R5, y3 => ⟨g_fr_rf _, g_fr_rf _⟩
  | n + 1, F4, R5, y3 => fr_KB_X7_findWet_r9_7 F4 R5 y3 (K_X7_findWet_r9_7  n) (fr_K_X7_findWet_r9_7  n)
theorem fr_sp_X7_findWet_r9 (F : Nat → Int32) (R : Nat → Nat → Int32) : kf2 md_X7_findWet_r9 mr_X7_findWet_r9 F R (sp_X7_findWet_r9 F R) := by
  unfold sp_X7_findWet_r9
  exact (kf2_lt (fun F1 zF1 => (kf2_tr (kf_u (g_fr_rf _) rfl zF1) (g_fr_rf _) (fr_K_X7_findWet_r9_7 8589934592 F1 R 0))))
theorem fr_K_X10_wasWet_16 (F : Nat → Int32) (R : Nat → Nat → Int32) : kf3 md_X10_wasWet mr_X10_wasWet F R (K_X10_wasWet_16 F R) := by
  unfold K_X10_wasWet_16
  exact ⟨(g_fr_rf _), (g_fr_rf _)⟩
theorem fr_K_X10_wasWet_99 (F33 : Nat → Int32) (R31 : Nat → Nat → Int32) (y40 : Int32) : kf3 md_X10_wasWet mr_X10_wasWet F33 R31 (K_X10_wasWet_99 F33 R31 y40) := by
  unfold K_X10_wasWet_99
  exact ⟨(g_fr_rf _), (g_fr_rf _)⟩
theorem fr_sp_X10_wasWet (F : Nat → Int32) (R : Nat → Nat → Int32) (a0 : Int32) : kf3 md_X10_wasWet mr_X10_wasWet F R (sp_X10_wasWet F R a0) := by
  unfold sp_X10_wasWet
  exact (kf3_lt (fun r1 _ => (kf3_ite (kf3_tr (g_fr_rf _) (g_fr_rf _) (fr_K_X10_wasWet_16 F R)) (kf3_lt (fun r11 _ => (kf3_ite (kf3_tr (g_fr_rf _) (g_fr_rf _) (fr_K_X10_wasWet_16 F R)) (kf3_lt2 (fun F23 R24 zF23 => (kf3_lt2 (fun F30 R31 zF30 => (kf3_lt (fun F33 zF33 => (kf3_ite ⟨(kf_u (kf2_F (kf2_F (g_fr_rf _) (fr_sp_X7_lay_r1_r11 F R) zF23 rfl) (fr_sp_X7_findWet_r9 F23 R24) zF30 rfl) rfl zF33), (kf2_R (kf2_R (g_fr_rf _) (fr_sp_X7_lay_r1_r11 F R) zF23 rfl) (fr_sp_X7_findWet_r9 F23 R24) zF30 rfl)⟩ (kf3_ite ⟨(kf_u (kf2_F (kf2_F (g_fr_rf _) (fr_sp_X7_lay_r1_r11 F R) zF23 rfl) (fr_sp_X7_findWet_r9 F23 R24) zF30 rfl) rfl zF33), (kf2_R (kf2_R (g_fr_rf _) (fr_sp_X7_lay_r1_r11 F R) zF23 rfl) (fr_sp_X7_findWet_r9 F23 R24) zF30 rfl)⟩ (kf3_ite (kf3_tr (kf_u (kf2_F (kf2_F (g_fr_rf _) (fr_sp_X7_lay_r1_r11 F R) zF23 rfl) (fr_sp_X7_findWet_r9 F23 R24) zF30 rfl) rfl zF33) (kf2_R (kf2_R (g_fr_rf _) (fr_sp_X7_lay_r1_r11 F R) zF23 rfl) (fr_sp_X7_findWet_r9 F23 R24) zF30 rfl) (fr_K_X10_wasWet_99 F33 R31 (F30 566))) (kf3_tr (kf_u (kf2_F (kf2_F (g_fr_rf _) (fr_sp_X7_lay_r1_r11 F R) zF23 rfl) (fr_sp_X7_findWet_r9 F23 R24) zF30 rfl) rfl zF33) (kf2_R (kf2_R (g_fr_rf _) (fr_sp_X7_lay_r1_r11 F R) zF23 rfl) (fr_sp_X7_findWet_r9 F23 R24) zF30 rfl) (fr_K_X10_wasWet_99 F33 R31 (F30 567))))))))))))))))))
theorem fr_KB_X7_findPaces_r9_7 (F : Nat → Int32) (F4 : Nat → Int32) (R5 : Nat → Nat → Int32) (y3 : Int32) (b7 : (Nat → Int32) → (Nat → Nat → Int32) → (Int32) → (Nat → Int32) × (Nat → Nat → Int32)) (hb7 : ∀ (F4 : Nat → Int32) (R5 : Nat → Nat → Int32) (y3 : Int32), kf2 md_X7_findPaces_r9 mr_X7_findPaces_r9 F4 R5 (b7 F4 R5 y3)) : kf2 md_X7_findPaces_r9 mr_X7_findPaces_r9 F4 R5 (KB_X7_findPaces_r9_7 b7 F F4 R5 y3) := by
  unfold KB_X7_findPaces_r9_7
  exact (kf2_ite ⟨(g_fr_rf _), (g_fr_rf _)⟩ (kf2_lt2 (fun F15 R16 zF15 => (kf2_lt2 (fun F22 R23 zF22 => (kf2_lt2 (fun F29 R30 zF29 => (kf2_lt (fun x32 _ => (kf2_tr (kf2_F (kf2_F (kf2_F (g_fr_rf _) (fr_sp_X5_even_15 F4 R5 y3 (F 81)) zF15 rfl) (fr_sp_X0_run F15 R16) zF22 rfl) (fr_sp_X7_noteFit_r9 F22 R23 y3 0) zF29 rfl) (kf2_R (kf2_R (kf2_R (g_fr_rf _) (fr_sp_X5_even_15 F4 R5 y3 (F 81)) zF15 rfl) (fr_sp_X0_run F15 R16) zF22 rfl) (fr_sp_X7_noteFit_r9 F22 R23 y3 0) zF29 rfl) (hb7 F29 R30 x32)))))))))))
theorem fr_K_X7_findPaces_r9_7 (F : Nat → Int32) : ∀ (n : Nat) (F4 : Nat → Int32) (R5 : Nat → Nat → Int32) (y3 : Int32), kf2 md_X7_findPaces_r9 mr_X7_findPaces_r9 F4 R5 (K_X7_findPaces_r9_7 F n F4 R5 y3)
  | 0, F4, R5, y3 => ⟨g_fr_rf _, g_fr_rf _⟩
  | n + 1, F4, R5, y3 => fr_KB_X7_findPaces_r9_7 F F4 R5 y3 (K_X7_findPaces_r9_7 F n) (fr_K_X7_findPaces_r9_7 F n)
theorem fr_sp_X7_findPaces_r9 (F : Nat → Int32) (R : Nat → Nat → Int32) : kf2 md_X7_findPaces_r9 mr_X7_findPaces_r9 F R (sp_X7_findPaces_r9 F R) := by
  unfold sp_X7_findPaces_r9
  exact (kf2_lt (fun F1 zF1 => (kf2_tr (kf_u (g_fr_rf _) rfl zF1) (g_fr_rf _) (fr_K_X7_findPaces_r9_7 F 8589934592 F1 R 1))))
theorem fr_K_X10_howQuick_16 (F : Nat → Int32) (R : Nat → Nat → Int32) : kf3 md_X10_howQuick mr_X10_howQuick F R (K_X10_howQuick_16 F R) := by
  unfold K_X10_howQuick_16
  exact ⟨(g_fr_rf _), (g_fr_rf _)⟩
theorem fr_K_X10_howQuick_86 (F33 : Nat → Int32) (R31 : Nat → Nat → Int32) (y38 : Int32) : kf3 md_X10_howQuick mr_X10_howQuick F33 R31 (K_X10_howQuick_86 F33 R31 y38) := by
  unfold K_X10_howQuick_86
  exact ⟨(g_fr_rf _), (g_fr_rf _)⟩
theorem fr_sp_X10_howQuick (F : Nat → Int32) (R : Nat → Nat → Int32) (a0 : Int32) : kf3 md_X10_howQuick mr_X10_howQuick F R (sp_X10_howQuick F R a0) := by
  unfold sp_X10_howQuick
  exact (kf3_lt (fun r1 _ => (kf3_ite (kf3_tr (g_fr_rf _) (g_fr_rf _) (fr_K_X10_howQuick_16 F R)) (kf3_lt (fun r11 _ => (kf3_ite (kf3_tr (g_fr_rf _) (g_fr_rf _) (fr_K_X10_howQuick_16 F R)) (kf3_lt2 (fun F23 R24 zF23 => (kf3_lt2 (fun F30 R31 zF30 => (kf3_lt (fun F33 zF33 => (kf3_ite ⟨(kf_u (kf2_F (kf2_F (g_fr_rf _) (fr_sp_X7_lay_r1_r11 F R) zF23 rfl) (fr_sp_X7_findPaces_r9 F23 R24) zF30 rfl) rfl zF33), (kf2_R (kf2_R (g_fr_rf _) (fr_sp_X7_lay_r1_r11 F R) zF23 rfl) (fr_sp_X7_findPaces_r9 F23 R24) zF30 rfl)⟩ (kf3_ite (kf3_tr (kf_u (kf2_F (kf2_F (g_fr_rf _) (fr_sp_X7_lay_r1_r11 F R) zF23 rfl) (fr_sp_X7_findPaces_r9 F23 R24) zF30 rfl) rfl zF33) (kf2_R (kf2_R (g_fr_rf _) (fr_sp_X7_lay_r1_r11 F R) zF23 rfl) (fr_sp_X7_findPaces_r9 F23 R24) zF30 rfl) (fr_K_X10_howQuick_86 F33 R31 (-2))) (kf3_tr (kf_u (kf2_F (kf2_F (g_fr_rf _) (fr_sp_X7_lay_r1_r11 F R) zF23 rfl) (fr_sp_X7_findPaces_r9 F23 R24) zF30 rfl) rfl zF33) (kf2_R (kf2_R (g_fr_rf _) (fr_sp_X7_lay_r1_r11 F R) zF23 rfl) (fr_sp_X7_findPaces_r9 F23 R24) zF30 rfl) (fr_K_X10_howQuick_86 F33 R31 (F30 566)))))))))))))))))
theorem fr_K_X7_countHands_50 (F21 : Nat → Int32) (R22 : Nat → Nat → Int32) (y1 : Int32) (y2 : Int32) (y29 : Int32) (b6 : (Nat → Int32) → (Nat → Nat → Int32) → (Int32) → (Int32) → Int32 × (Nat → Int32) × (Nat → Nat → Int32)) (hb6 : ∀ (F3 : Nat → Int32) (R4 : Nat → Nat → Int32) (y1 : Int32) (y2 : Int32), kf3 md_X7_countHands mr_X7_countHands F3 R4 (b6 F3 R4 y1 y2)) : kf3 md_X7_countHands mr_X7_countHands F21 R22 (K_X7_countHands_50 b6 F21 R22 y1 y2 y29) := by
  unfold K_X7_countHands_50
  exact (kf3_lt (fun x30 _ => (kf3_lt (fun x32 _ => (kf3_tr (g_fr_rf _) (g_fr_rf _) (hb6 F21 R22 x30 x32))))))
theorem fr_KB_X7_countHands_6 (a0 : Int32) (a1 : Int32) (a2 : Int32) (F3 : Nat → Int32) (R4 : Nat → Nat → Int32) (y1 : Int32) (y2 : Int32) (b6 : (Nat → Int32) → (Nat → Nat → Int32) → (Int32) → (Int32) → Int32 × (Nat → Int32) × (Nat → Nat → Int32)) (hb6 : ∀ (F3 : Nat → Int32) (R4 : Nat → Nat → Int32) (y1 : Int32) (y2 : Int32), kf3 md_X7_countHands mr_X7_countHands F3 R4 (b6 F3 R4 y1 y2)) : kf3 md_X7_countHands mr_X7_countHands F3 R4 (KB_X7_countHands_6 b6 a0 a1 a2 F3 R4 y1 y2) := by
  unfold KB_X7_countHands_6
  exact (kf3_ite ⟨(g_fr_rf _), (g_fr_rf _)⟩ (kf3_lt2 (fun F14 R15 zF14 => (kf3_lt2 (fun F21 R22 zF21 => (kf3_lt (fun r24 _ => (kf3_ite (kf3_tr (kf2_F (kf2_F (g_fr_rf _) (fr_sp_X1_drawTold F3 R4 a0 y2) zF14 rfl) (fr_sp_X0_run F14 R15) zF21 rfl) (kf2_R (kf2_R (g_fr_rf _) (fr_sp_X1_drawTold F3 R4 a0 y2) zF14 rfl) (fr_sp_X0_run F14 R15) zF21 rfl) (fr_K_X7_countHands_50 F21 R22 y1 y2 0 b6 hb6)) (kf3_tr (kf2_F (kf2_F (g_fr_rf _) (fr_sp_X1_drawTold F3 R4 a0 y2) zF14 rfl) (fr_sp_X0_run F14 R15) zF21 rfl) (kf2_R (kf2_R (g_fr_rf _) (fr_sp_X1_drawTold F3 R4 a0 y2) zF14 rfl) (fr_sp_X0_run F14 R15) zF21 rfl) (fr_K_X7_countHands_50 F21 R22 y1 y2 1 b6 hb6))))))))))
theorem fr_K_X7_countHands_6 (a0 : Int32) (a1 : Int32) (a2 : Int32) : ∀ (n : Nat) (F3 : Nat → Int32) (R4 : Nat → Nat → Int32) (y1 : Int32) (y2 : Int32), kf3 md_X7_countHands mr_X7_countHands F3 R4 (K_X7_countHands_6 a0 a1 a2 n F3 R4 y1 y2)
  | 0, F3, R4, y1, y2 => ⟨g_fr_rf _, g_fr_rf _⟩
  | n + 1, F3, R4, y1, y2 => fr_KB_X7_countHands_6 a0 a1 a2 F3 R4 y1 y2 (K_X7_countHands_6 a0 a1 a2 n) (fr_K_X7_countHands_6 a0 a1 a2 n)
theorem fr_sp_X7_countHands (F : Nat → Int32) (R : Nat → Nat → Int32) (a0 : Int32) (a1 : Int32) (a2 : Int32) : kf3 md_X7_countHands mr_X7_countHands F R (sp_X7_countHands F R a0 a1 a2) := by
  unfold sp_X7_countHands
  exact (kf3_tr (g_fr_rf _) (g_fr_rf _) (fr_K_X7_countHands_6 a0 a1 a2 8589934592 F R 0 0))
theorem fr_K_X10_odds_50 (F : Nat → Int32) (R : Nat → Nat → Int32) : kf3 md_X10_odds mr_X10_odds F R (K_X10_odds_50 F R) := by
  unfold K_X10_odds_50
  exact ⟨(g_fr_rf _), (g_fr_rf _)⟩
theorem fr_K_X10_odds_123 (F30 : Nat → Int32) (R31 : Nat → Nat → Int32) (y39 : Int32) : kf3 md_X10_odds mr_X10_odds F30 R31 (K_X10_odds_123 F30 R31 y39) := by
  unfold K_X10_odds_123
  exact ⟨(g_fr_rf _), (g_fr_rf _)⟩
theorem fr_K_X10_odds_106 (F30 : Nat → Int32) (R31 : Nat → Nat → Int32) (r33 : Int32) (y38 : Int32) : kf3 md_X10_odds mr_X10_odds F30 R31 (K_X10_odds_106 F30 R31 r33 y38) := by
  unfold K_X10_odds_106
  exact (kf3_ite (kf3_tr (g_fr_rf _) (g_fr_rf _) (fr_K_X10_odds_123 F30 R31 y38)) (kf3_lt (fun x42 _ => (kf3_tr (g_fr_rf _) (g_fr_rf _) (fr_K_X10_odds_123 F30 R31 x42)))))
theorem fr_K_X10_odds_33 (F : Nat → Int32) (R : Nat → Nat → Int32) (a0 : Int32) (a1 : Int32) (a2 : Int32) (y5 : Int32) : kf3 md_X10_odds mr_X10_odds F R (K_X10_odds_33 F R a0 a1 a2 y5) := by
  unfold K_X10_odds_33
  exact (kf3_ite (kf3_tr (g_fr_rf _) (g_fr_rf _) (fr_K_X10_odds_50 F R)) (kf3_ite (kf3_tr (g_fr_rf _) (g_fr_rf _) (fr_K_X10_odds_50 F R)) (kf3_lt2 (fun F18 R19 zF18 => (kf3_lt (fun r21 _ => (kf3_lt3 (fun r26 F30 R31 zF30 => (kf3_lt (fun r33 _ => (kf3_ite (kf3_tr (kf3_F (kf2_F (g_fr_rf _) (fr_sp_X7_lay_r1_r11 F R) zF18 rfl) (fr_sp_X7_countHands F18 R19 a0 r21 a1) zF30 rfl) (kf3_R (kf2_R (g_fr_rf _) (fr_sp_X7_lay_r1_r11 F R) zF18 rfl) (fr_sp_X7_countHands F18 R19 a0 r21 a1) zF30 rfl) (fr_K_X10_odds_106 F30 R31 r33 r26)) (kf3_tr (kf3_F (kf2_F (g_fr_rf _) (fr_sp_X7_lay_r1_r11 F R) zF18 rfl) (fr_sp_X7_countHands F18 R19 a0 r21 a1) zF30 rfl) (kf3_R (kf2_R (g_fr_rf _) (fr_sp_X7_lay_r1_r11 F R) zF18 rfl) (fr_sp_X7_countHands F18 R19 a0 r21 a1) zF30 rfl) (fr_K_X10_odds_106 F30 R31 r33 r21)))))))))))))
theorem fr_K_X10_odds_32 (F : Nat → Int32) (R : Nat → Nat → Int32) (a0 : Int32) (a1 : Int32) (a2 : Int32) : kf3 md_X10_odds mr_X10_odds F R (K_X10_odds_32 F R a0 a1 a2) := by
  unfold K_X10_odds_32
  exact (kf3_tr (g_fr_rf _) (g_fr_rf _) (fr_K_X10_odds_33 F R a0 a1 a2 0))
theorem fr_sp_X10_odds (F : Nat → Int32) (R : Nat → Nat → Int32) (a0 : Int32) (a1 : Int32) (a2 : Int32) : kf3 md_X10_odds mr_X10_odds F R (sp_X10_odds F R a0 a1 a2) := by
  unfold sp_X10_odds
  exact (kf3_lt (fun r1 _ => (kf3_ite (kf3_tr (g_fr_rf _) (g_fr_rf _) (fr_K_X10_odds_32 F R a0 a1 a2)) (kf3_lt (fun r58 _ => (kf3_ite (kf3_tr (g_fr_rf _) (g_fr_rf _) (fr_K_X10_odds_32 F R a0 a1 a2)) (kf3_lt (fun r68 _ => (kf3_ite (kf3_tr (g_fr_rf _) (g_fr_rf _) (fr_K_X10_odds_32 F R a0 a1 a2)) (kf3_tr (g_fr_rf _) (g_fr_rf _) (fr_K_X10_odds_33 F R a0 a1 a2 1)))))))))))
theorem fr_K_X7_sumHands_49 (F21 : Nat → Int32) (R22 : Nat → Nat → Int32) (y1 : Int32) (y2 : Int32) (y29 : Int32) (b6 : (Nat → Int32) → (Nat → Nat → Int32) → (Int32) → (Int32) → Int32 × (Nat → Int32) × (Nat → Nat → Int32)) (hb6 : ∀ (F3 : Nat → Int32) (R4 : Nat → Nat → Int32) (y1 : Int32) (y2 : Int32), kf3 md_X7_sumHands mr_X7_sumHands F3 R4 (b6 F3 R4 y1 y2)) : kf3 md_X7_sumHands mr_X7_sumHands F21 R22 (K_X7_sumHands_49 b6 F21 R22 y1 y2 y29) := by
  unfold K_X7_sumHands_49
  exact (kf3_lt (fun r30 _ => (kf3_lt (fun x35 _ => (kf3_lt (fun x37 _ => (kf3_lt (fun x39 _ => (kf3_tr (g_fr_rf _) (g_fr_rf _) (hb6 F21 R22 x37 x39))))))))))
theorem fr_KB_X7_sumHands_6 (a0 : Int32) (a1 : Int32) (a2 : Int32) (F3 : Nat → Int32) (R4 : Nat → Nat → Int32) (y1 : Int32) (y2 : Int32) (b6 : (Nat → Int32) → (Nat → Nat → Int32) → (Int32) → (Int32) → Int32 × (Nat → Int32) × (Nat → Nat → Int32)) (hb6 : ∀ (F3 : Nat → Int32) (R4 : Nat → Nat → Int32) (y1 : Int32) (y2 : Int32), kf3 md_X7_sumHands mr_X7_sumHands F3 R4 (b6 F3 R4 y1 y2)) : kf3 md_X7_sumHands mr_X7_sumHands F3 R4 (KB_X7_sumHands_6 b6 a0 a1 a2 F3 R4 y1 y2) := by
  unfold KB_X7_sumHands_6
  exact (kf3_ite ⟨(g_fr_rf _), (g_fr_rf _)⟩ (kf3_lt2 (fun F14 R15 zF14 => (kf3_lt2 (fun F21 R22 zF21 => (kf3_lt (fun r24 _ => (kf3_ite (kf3_tr (kf2_F (kf2_F (g_fr_rf _) (fr_sp_X1_drawTold F3 R4 a0 y2) zF14 rfl) (fr_sp_X0_run F14 R15) zF21 rfl) (kf2_R (kf2_R (g_fr_rf _) (fr_sp_X1_drawTold F3 R4 a0 y2) zF14 rfl) (fr_sp_X0_run F14 R15) zF21 rfl) (fr_K_X7_sumHands_49 F21 R22 y1 y2 0 b6 hb6)) (kf3_tr (kf2_F (kf2_F (g_fr_rf _) (fr_sp_X1_drawTold F3 R4 a0 y2) zF14 rfl) (fr_sp_X0_run F14 R15) zF21 rfl) (kf2_R (kf2_R (g_fr_rf _) (fr_sp_X1_drawTold F3 R4 a0 y2) zF14 rfl) (fr_sp_X0_run F14 R15) zF21 rfl) (fr_K_X7_sumHands_49 F21 R22 y1 y2 a2 b6 hb6))))))))))
theorem fr_K_X7_sumHands_6 (a0 : Int32) (a1 : Int32) (a2 : Int32) : ∀ (n : Nat) (F3 : Nat → Int32) (R4 : Nat → Nat → Int32) (y1 : Int32) (y2 : Int32), kf3 md_X7_sumHands mr_X7_sumHands F3 R4 (K_X7_sumHands_6 a0 a1 a2 n F3 R4 y1 y2)
  | 0, F3, R4, y1, y2 => ⟨g_fr_rf _, g_fr_rf _⟩
  | n + 1, F3, R4, y1, y2 => fr_KB_X7_sumHands_6 a0 a1 a2 F3 R4 y1 y2 (K_X7_sumHands_6 a0 a1 a2 n) (fr_K_X7_sumHands_6 a0 a1 a2 n)
theorem fr_sp_X7_sumHands (F : Nat → Int32) (R : Nat → Nat → Int32) (a0 : Int32) (a1 : Int32) (a2 : Int32) : kf3 md_X7_sumHands mr_X7_sumHands F R (sp_X7_sumHands F R a0 a1 a2) := by
  unfold sp_X7_sumHands
  exact (kf3_tr (g_fr_rf _) (g_fr_rf _) (fr_K_X7_sumHands_6 a0 a1 a2 8589934592 F R 0 0))
theorem fr_K_X10_should_30 (F : Nat → Int32) (R : Nat → Nat → Int32) : kf3 md_X10_should mr_X10_should F R (K_X10_should_30 F R) := by
  unfold K_X10_should_30
  exact ⟨(g_fr_rf _), (g_fr_rf _)⟩
theorem fr_sp_X10_should (F : Nat → Int32) (R : Nat → Nat → Int32) (a0 : Int32) (a1 : Int32) : kf3 md_X10_should mr_X10_should F R (sp_X10_should F R a0 a1) := by
  unfold sp_X10_should
  exact (kf3_lt (fun r1 _ => (kf3_ite (kf3_tr (g_fr_rf _) (g_fr_rf _) (fr_K_X10_should_30 F R)) (kf3_lt (fun r11 _ => (kf3_ite (kf3_tr (g_fr_rf _) (g_fr_rf _) (fr_K_X10_should_30 F R)) (kf3_ite (kf3_tr (g_fr_rf _) (g_fr_rf _) (fr_K_X10_should_30 F R)) (kf3_lt2 (fun F28 R29 zF28 => (kf3_lt (fun r31 _ => (kf3_lt3 (fun r36 F40 R41 zF40 => ⟨(kf3_F (kf2_F (g_fr_rf _) (fr_sp_X7_lay_r1_r11 F R) zF28 rfl) (fr_sp_X7_sumHands F28 R29 a0 r31 a1) zF40 rfl), (kf3_R (kf2_R (g_fr_rf _) (fr_sp_X7_lay_r1_r11 F R) zF28 rfl) (fr_sp_X7_sumHands F28 R29 a0 r31 a1) zF40 rfl)⟩)))))))))))))
