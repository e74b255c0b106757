theorem fr_K_X11_table_22 (F : Nat → Int32) (R : Nat → Nat → Int32) : kf3 md_X11_table mr_X11_table F R (K_X11_table_22 F R) := by
  unfold K_X11_table_22
  exact ⟨(g_fr_rf _), (g_fr_rf _)⟩
theorem fr_sp_X11_table (F : Nat → Int32) (R : Nat → Nat → Int32) (a0 : Int32) (a1 : Int32) : kf3 md_X11_table mr_X11_table F R (sp_X11_table F R a0 a1) := by
  unfold sp_X11_table
  exact (kf3_lt (fun r1 _ => (kf3_ite (kf3_tr (g_fr_rf _) (g_fr_rf _) (fr_K_X11_table_22 F R)) (kf3_lt (fun r11 _ => (kf3_ite (kf3_tr (g_fr_rf _) (g_fr_rf _) (fr_K_X11_table_22 F R)) (kf3_lt (fun F19 zF19 => (kf3_lt (fun F21 zF21 => (kf3_lt (fun F23 zF23 => (kf3_lt (fun F25 zF25 => ⟨(kf_u (kf_u (kf_u (kf_u (g_fr_rf _) rfl zF19) rfl zF21) rfl zF23) rfl zF25), (g_fr_rf _)⟩))))))))))))))
theorem fr_sp_X11_cloth (F : Nat → Int32) (R : Nat → Nat → Int32) (a0 : Int32) : kf3 md_X11_cloth mr_X11_cloth F R (sp_X11_cloth F R a0) := by
  unfold sp_X11_cloth
  exact (kf3_lt (fun r1 _ => (kf3_ite ⟨(g_fr_rf _), (g_fr_rf _)⟩ (kf3_lt (fun F10 zF10 => ⟨(kf_u (g_fr_rf _) rfl zF10), (g_fr_rf _)⟩)))))
theorem fr_K_X11_thing_66 (F : Nat → Int32) (R : Nat → Nat → Int32) : kf3 md_X11_thing mr_X11_thing F R (K_X11_thing_66 F R) := by
  unfold K_X11_thing_66
  exact ⟨(g_fr_rf _), (g_fr_rf _)⟩
theorem fr_sp_X11_thing (F : Nat → Int32) (R : Nat → Nat → Int32) (a0 : Int32) (a1 : Int32) (a2 : Int32) (a3 : Int32) (a4 : Int32) (a5 : Int32) : kf3 md_X11_thing mr_X11_thing F R (sp_X11_thing F R a0 a1 a2 a3 a4 a5) := by
  unfold sp_X11_thing
  exact (kf3_lt (fun r1 _ => (kf3_ite (kf3_tr (g_fr_rf _) (g_fr_rf _) (fr_K_X11_thing_66 F R)) (kf3_lt (fun r11 _ => (kf3_ite (kf3_tr (g_fr_rf _) (g_fr_rf _) (fr_K_X11_thing_66 F R)) (kf3_lt (fun x21 _ => (kf3_lt (fun r23 _ => (kf3_ite (kf3_tr (g_fr_rf _) (g_fr_rf _) (fr_K_X11_thing_66 F R)) (kf3_lt (fun r34 _ => (kf3_ite (kf3_tr (g_fr_rf _) (g_fr_rf _) (fr_K_X11_thing_66 F R)) (kf3_lt (fun r44 _ => (kf3_ite (kf3_tr (g_fr_rf _) (g_fr_rf _) (fr_K_X11_thing_66 F R)) (kf3_lt (fun r54 _ => (kf3_ite (kf3_tr (g_fr_rf _) (g_fr_rf _) (fr_K_X11_thing_66 F R)) (kf3_lt (fun x62 _ => (kf3_lt (fun x64 _ => (kf3_lt (fun F66 zF66 => (kf3_lt (fun R68 zR68 => (kf3_lt (fun R70 zR70 => (kf3_lt (fun R72 zR72 => (kf3_lt (fun R74 zR74 => (kf3_lt (fun R76 zR76 => (kf3_lt (fun R78 zR78 => (kf3_lt (fun R80 zR80 => (kf3_lt (fun R82 zR82 => ⟨(kf_u (g_fr_rf _) rfl zF66), (kf_r (kf_r (kf_r (kf_r (kf_r (kf_r (kf_r (kf_r (g_fr_rf _) rfl zR68) rfl zR70) rfl zR72) rfl zR74) rfl zR76) rfl zR78) rfl zR80) rfl zR82)⟩))))))))))))))))))))))))))))))))))))))))))
theorem fr_K_X11_more_40 (F : Nat → Int32) (R : Nat → Nat → Int32) : kf3 md_X11_more mr_X11_more F R (K_X11_more_40 F R) := by
  unfold K_X11_more_40
  exact ⟨(g_fr_rf _), (g_fr_rf _)⟩
theorem fr_sp_X11_more (F : Nat → Int32) (R : Nat → Nat → Int32) (a0 : Int32) (a1 : Int32) (a2 : Int32) (a3 : Int32) : kf3 md_X11_more mr_X11_more F R (sp_X11_more F R a0 a1 a2 a3) := by
  unfold sp_X11_more
  exact (kf3_lt (fun r1 _ => (kf3_ite (kf3_tr (g_fr_rf _) (g_fr_rf _) (fr_K_X11_more_40 F R)) (kf3_lt (fun r13 _ => (kf3_ite (kf3_tr (g_fr_rf _) (g_fr_rf _) (fr_K_X11_more_40 F R)) (kf3_lt (fun r23 _ => (kf3_ite (kf3_tr (g_fr_rf _) (g_fr_rf _) (fr_K_X11_more_40 F R)) (kf3_lt (fun r33 _ => (kf3_ite (kf3_tr (g_fr_rf _) (g_fr_rf _) (fr_K_X11_more_40 F R)) (kf3_lt (fun R41 zR41 => (kf3_lt (fun R43 zR43 => (kf3_lt (fun R45 zR45 => ⟨(g_fr_rf _), (kf_r (kf_r (kf_r (g_fr_rf _) rfl zR41) rfl zR43) rfl zR45)⟩))))))))))))))))))
theorem fr_sp_X11_away (F : Nat → Int32) (R : Nat → Nat → Int32) (a0 : Int32) : kf3 md_X11_away mr_X11_away F R (sp_X11_away F R a0) := by
  unfold sp_X11_away
  exact (kf3_lt (fun r1 _ => (kf3_ite ⟨(g_fr_rf _), (g_fr_rf _)⟩ (kf3_lt (fun x11 _ => (kf3_lt (fun x13 _ => (kf3_lt (fun x15 _ => (kf3_lt (fun F17 zF17 => ⟨(kf_u (g_fr_rf _) rfl zF17), (g_fr_rf _)⟩)))))))))))
theorem fr_KB_X11_types_2 (a0 : Int32) (F2 : Nat → Int32) (R3 : Nat → Nat → Int32) (y1 : Int32) (b2 : (Nat → Int32) → (Nat → Nat → Int32) → (Int32) → (Nat → Int32) × (Nat → Nat → Int32)) (hb2 : ∀ (F2 : Nat → Int32) (R3 : Nat → Nat → Int32) (y1 : Int32), kf2 md_X11_types mr_X11_types F2 R3 (b2 F2 R3 y1)) : kf2 md_X11_types mr_X11_types F2 R3 (KB_X11_types_2 b2 a0 F2 R3 y1) := by
  unfold KB_X11_types_2
  exact (kf2_ite ⟨(g_fr_rf _), (g_fr_rf _)⟩ (kf2_lt (fun x10 _ => (kf2_lt (fun x12 _ => (kf2_lt (fun x14 _ => (kf2_lt (fun R16 zR16 => (kf2_lt (fun x18 _ => (kf2_lt (fun F20 zF20 => (kf2_lt (fun x22 _ => (kf2_tr (kf_u (g_fr_rf _) rfl zF20) (kf_r (g_fr_rf _) rfl zR16) (hb2 F20 R16 x22)))))))))))))))))
theorem fr_K_X11_types_2 (a0 : Int32) : ∀ (n : Nat) (F2 : Nat → Int32) (R3 : Nat → Nat → Int32) (y1 : Int32), kf2 md_X11_types mr_X11_types F2 R3 (K_X11_types_2 a0 n F2 R3 y1)
  | 0, F2, R3, y1 => ⟨g_fr_rf _, g_fr_rf _⟩
  | n + 1, F2, R3, y1 => fr_KB_X11_types_2 a0 F2 R3 y1 (K_X11_types_2 a0 n) (fr_K_X11_types_2 a0 n)
theorem fr_sp_X11_types (F : Nat → Int32) (R : Nat → Nat → Int32) (a0 : Int32) : kf2 md_X11_types mr_X11_types F R (sp_X11_types F R a0) := by
  unfold sp_X11_types
  exact (kf2_tr (g_fr_rf _) (g_fr_rf _) (fr_K_X11_types_2 a0 8589934592 F R 3))
theorem fr_sp_X11_feed (F : Nat → Int32) (R : Nat → Nat → Int32) (a0 : Int32) (a1 : Int32) (a2 : Int32) (a3 : Int32) (a4 : Int32) : kf3 md_X11_feed mr_X11_feed F R (sp_X11_feed F R a0 a1 a2 a3 a4) := by
  unfold sp_X11_feed
  exact (kf3_lt (fun x1 _ => (kf3_ite (kf3_lt2 (fun F12 R13 zF12 => (kf3_lt2 (fun F20 R21 zF20 => (kf3_lt2 (fun F28 R29 zF28 => (kf3_lt2 (fun F36 R37 zF36 => (kf3_lt2 (fun F44 R45 zF44 => ⟨(kf2_F (kf2_F (kf2_F (kf2_F (kf2_F (g_fr_rf _) (fr_sp_X11_types F R a0) zF12 rfl) (fr_sp_X11_types F12 R13 a1) zF20 rfl) (fr_sp_X11_types F20 R21 a2) zF28 rfl) (fr_sp_X11_types F28 R29 a3) zF36 rfl) (fr_sp_X11_types F36 R37 a4) zF44 rfl), (kf2_R (kf2_R (kf2_R (kf2_R (kf2_R (g_fr_rf _) (fr_sp_X11_types F R a0) zF12 rfl) (fr_sp_X11_types F12 R13 a1) zF20 rfl) (fr_sp_X11_types F20 R21 a2) zF28 rfl) (fr_sp_X11_types F28 R29 a3) zF36 rfl) (fr_sp_X11_types F36 R37 a4) zF44 rfl)⟩)))))))))) ⟨(g_fr_rf _), (g_fr_rf _)⟩)))
theorem fr_sp_X11_seed (F : Nat → Int32) (R : Nat → Nat → Int32) (a0 : Int32) : kf3 md_X11_seed mr_X11_seed F R (sp_X11_seed F R a0) := by
  unfold sp_X11_seed
  exact (kf3_lt (fun r1 _ => (kf3_ite ⟨(g_fr_rf _), (g_fr_rf _)⟩ (kf3_lt (fun F9 zF9 => ⟨(kf_u (g_fr_rf _) rfl zF9), (g_fr_rf _)⟩)))))
theorem fr_KB_X11_copies_r1_r41_2 (F : Nat → Int32) (R2 : Nat → Nat → Int32) (y1 : Int32) (b2 : (Nat → Nat → Int32) → (Int32) → (Nat → Int32) × (Nat → Nat → Int32)) (hb2 : ∀ (R2 : Nat → Nat → Int32) (y1 : Int32), kf2 md_X11_copies_r1_r41 mr_X11_copies_r1_r41 F R2 (b2 R2 y1)) : kf2 md_X11_copies_r1_r41 mr_X11_copies_r1_r41 F R2 (KB_X11_copies_r1_r41_2 b2 F R2 y1) := by
  unfold KB_X11_copies_r1_r41_2
  exact (kf2_ite ⟨(g_fr_rf _), (g_fr_rf _)⟩ (kf2_lt (fun x8 _ => (kf2_lt (fun R10 zR10 => (kf2_lt (fun x12 _ => (kf2_tr (g_fr_rf _) (kf_r (g_fr_rf _) rfl zR10) (hb2 R10 x12)))))))))
theorem fr_K_X11_copies_r1_r41_2 (F : Nat → Int32) : ∀ (n : Nat) (R2 : Nat → Nat → Int32) (y1 : Int32), kf2 md_X11_copies_r1_r41 mr_X11_copies_r1_r41 F R2 (K_X11_copies_r1_r41_2 F n R2 y1)
  | 0, R2, y1 => ⟨g_fr_rf _, g_fr_rf _⟩
  | n + 1, R2, y1 => fr_KB_X11_copies_r1_r41_2 F R2 y1 (K_X11_copies_r1_r41_2 F n) (fr_K_X11_copies_r1_r41_2 F n)
theorem fr_sp_X11_copies_r1_r41 (F : Nat → Int32) (R : Nat → Nat → Int32) : kf2 md_X11_copies_r1_r41 mr_X11_copies_r1_r41 F R (sp_X11_copies_r1_r41 F R) := by
  unfold sp_X11_copies_r1_r41
  exact (kf2_tr (g_fr_rf _) (g_fr_rf _) (fr_K_X11_copies_r1_r41_2 F 8589934592 R 0))
theorem fr_KB_X11_copies_r2_r42_2 (F : Nat → Int32) (R2 : Nat → Nat → Int32) (y1 : Int32) (b2 : (Nat → Nat → Int32) → (Int32) → (Nat → Int32) × (Nat → Nat → Int32)) (hb2 : ∀ (R2 : Nat → Nat → Int32) (y1 : Int32), kf2 md_X11_copies_r2_r42 mr_X11_copies_r2_r42 F R2 (b2 R2 y1)) : kf2 md_X11_copies_r2_r42 mr_X11_copies_r2_r42 F R2 (KB_X11_copies_r2_r42_2 b2 F R2 y1) := by
  unfold KB_X11_copies_r2_r42_2
  exact (kf2_ite ⟨(g_fr_rf _), (g_fr_rf _)⟩ (kf2_lt (fun x8 _ => (kf2_lt (fun R10 zR10 => (kf2_lt (fun x12 _ => (kf2_tr (g_fr_rf _) (kf_r (g_fr_rf _) rfl zR10) (hb2 R10 x12)))))))))
theorem fr_K_X11_copies_r2_r42_2 (F : Nat → Int32) : ∀ (n : Nat) (R2 : Nat → Nat → Int32) (y1 : Int32), kf2 md_X11_copies_r2_r42 mr_X11_copies_r2_r42 F R2 (K_X11_copies_r2_r42_2 F n R2 y1)
  | 0, R2, y1 => ⟨g_fr_rf _, g_fr_rf _⟩
  | n + 1, R2, y1 => fr_KB_X11_copies_r2_r42_2 F R2 y1 (K_X11_copies_r2_r42_2 F n) (fr_K_X11_copies_r2_r42_2 F n)
theorem fr_sp_X11_copies_r2_r42 (F : Nat → Int32) (R : Nat → Nat → Int32) : kf2 md_X11_copies_r2_r42 mr_X11_copies_r2_r42 F R (sp_X11_copies_r2_r42 F R) := by
  unfold sp_X11_copies_r2_r42
  exact (kf2_tr (g_fr_rf _) (g_fr_rf _) (fr_K_X11_copies_r2_r42_2 F 8589934592 R 0))
theorem fr_KB_X11_copies_r3_r43_2 (F : Nat → Int32) (R2 : Nat → Nat → Int32) (y1 : Int32) (b2 : (Nat → Nat → Int32) → (Int32) → (Nat → Int32) × (Nat → Nat → Int32)) (hb2 : ∀ (R2 : Nat → Nat → Int32) (y1 : Int32), kf2 md_X11_copies_r3_r43 mr_X11_copies_r3_r43 F R2 (b2 R2 y1)) : kf2 md_X11_copies_r3_r43 mr_X11_copies_r3_r43 F R2 (KB_X11_copies_r3_r43_2 b2 F R2 y1) := by
  unfold KB_X11_copies_r3_r43_2
  exact (kf2_ite ⟨(g_fr_rf _), (g_fr_rf _)⟩ (kf2_lt (fun x8 _ => (kf2_lt (fun R11 zR11 => (kf2_lt (fun x13 _ => (kf2_tr (g_fr_rf _) (kf_r (g_fr_rf _) rfl zR11) (hb2 R11 x13)))))))))
theorem fr_K_X11_copies_r3_r43_2 (F : Nat → Int32) : ∀ (n : Nat) (R2 : Nat → Nat → Int32) (y1 : Int32), kf2 md_X11_copies_r3_r43 mr_X11_copies_r3_r43 F R2 (K_X11_copies_r3_r43_2 F n R2 y1)
  | 0, R2, y1 => ⟨g_fr_rf _, g_fr_rf _⟩
  | n + 1, R2, y1 => fr_KB_X11_copies_r3_r43_2 F R2 y1 (K_X11_copies_r3_r43_2 F n) (fr_K_X11_copies_r3_r43_2 F n)
theorem fr_sp_X11_copies_r3_r43 (F : Nat → Int32) (R : Nat → Nat → Int32) : kf2 md_X11_copies_r3_r43 mr_X11_copies_r3_r43 F R (sp_X11_copies_r3_r43 F R) := by
  unfold sp_X11_copies_r3_r43
  exact (kf2_tr (g_fr_rf _) (g_fr_rf _) (fr_K_X11_copies_r3_r43_2 F 8589934592 R 0))
theorem fr_KB_X11_copies_r4_r44_2 (F : Nat → Int32) (R2 : Nat → Nat → Int32) (y1 : Int32) (b2 : (Nat → Nat → Int32) → (Int32) → (Nat → Int32) × (Nat → Nat → Int32)) (hb2 : ∀ (R2 : Nat → Nat → Int32) (y1 : Int32), kf2 md_X11_copies_r4_r44 mr_X11_copies_r4_r44 F R2 (b2 R2 y1)) : kf2 md_X11_copies_r4_r44 mr_X11_copies_r4_r44 F R2 (KB_X11_copies_r4_r44_2 b2 F R2 y1) := by
  unfold KB_X11_copies_r4_r44_2
  exact (kf2_ite ⟨(g_fr_rf _), (g_fr_rf _)⟩ (kf2_lt (fun x8 _ => (kf2_lt (fun R10 zR10 => (kf2_lt (fun x12 _ => (kf2_tr (g_fr_rf _) (kf_r (g_fr_rf _) rfl zR10) (hb2 R10 x12)))))))))
theorem fr_K_X11_copies_r4_r44_2 (F : Nat → Int32) : ∀ (n : Nat) (R2 : Nat → Nat → Int32) (y1 : Int32), kf2 md_X11_copies_r4_r44 mr_X11_copies_r4_r44 F R2 (K_X11_copies_r4_r44_2 F n R2 y1)
  | 0, R2, y1 => ⟨g_fr_rf _, g_fr_rf _⟩
  | n + 1, R2, y1 => fr_KB_X11_copies_r4_r44_2 F R2 y1 (K_X11_copies_r4_r44_2 F n) (fr_K_X11_copies_r4_r44_2 F n)
theorem fr_sp_X11_copies_r4_r44 (F : Nat → Int32) (R : Nat → Nat → Int32) : kf2 md_X11_copies_r4_r44 mr_X11_copies_r4_r44 F R (sp_X11_copies_r4_r44 F R) := by
  unfold sp_X11_copies_r4_r44
  exact (kf2_tr (g_fr_rf _) (g_fr_rf _) (fr_K_X11_copies_r4_r44_2 F 8589934592 R 0))
theorem fr_KB_X11_copies_r5_r45_2 (F : Nat → Int32) (R2 : Nat → Nat → Int32) (y1 : Int32) (b2 : (Nat → Nat → Int32) → (Int32) → (Nat → Int32) × (Nat → Nat → Int32)) (hb2 : ∀ (R2 : Nat → Nat → Int32) (y1 : Int32), kf2 md_X11_copies_r5_r45 mr_X11_copies_r5_r45 F R2 (b2 R2 y1)) : kf2 md_X11_copies_r5_r45 mr_X11_copies_r5_r45 F R2 (KB_X11_copies_r5_r45_2 b2 F R2 y1) := by
  unfold KB_X11_copies_r5_r45_2
  exact (kf2_ite ⟨(g_fr_rf _), (g_fr_rf _)⟩ (kf2_lt (fun x8 _ => (kf2_lt (fun R11 zR11 => (kf2_lt (fun x13 _ => (kf2_tr (g_fr_rf _) (kf_r (g_fr_rf _) rfl zR11) (hb2 R11 x13)))))))))
theorem fr_K_X11_copies_r5_r45_2 (F : Nat → Int32) : ∀ (n : Nat) (R2 : Nat → Nat → Int32) (y1 : Int32), kf2 md_X11_copies_r5_r45 mr_X11_copies_r5_r45 F R2 (K_X11_copies_r5_r45_2 F n R2 y1)
  | 0, R2, y1 => ⟨g_fr_rf _, g_fr_rf _⟩
  | n + 1, R2, y1 => fr_KB_X11_copies_r5_r45_2 F R2 y1 (K_X11_copies_r5_r45_2 F n) (fr_K_X11_copies_r5_r45_2 F n)
theorem fr_sp_X11_copies_r5_r45 (F : Nat → Int32) (R : Nat → Nat → Int32) : kf2 md_X11_copies_r5_r45 mr_X11_copies_r5_r45 F R (sp_X11_copies_r5_r45 F R) := by
  unfold sp_X11_copies_r5_r45
  exact (kf2_tr (g_fr_rf _) (g_fr_rf _) (fr_K_X11_copies_r5_r45_2 F 8589934592 R 0))
theorem fr_KB_X11_copies_r6_r46_2 (F : Nat → Int32) (R2 : Nat → Nat → Int32) (y1 : Int32) (b2 : (Nat → Nat → Int32) → (Int32) → (Nat → Int32) × (Nat → Nat → Int32)) (hb2 : ∀ (R2 : Nat → Nat → Int32) (y1 : Int32), kf2 md_X11_copies_r6_r46 mr_X11_copies_r6_r46 F R2 (b2 R2 y1)) : kf2 md_X11_copies_r6_r46 mr_X11_copies_r6_r46 F R2 (KB_X11_copies_r6_r46_2 b2 F R2 y1) := by
  unfold KB_X11_copies_r6_r46_2
  exact (kf2_ite ⟨(g_fr_rf _), (g_fr_rf _)⟩ (kf2_lt (fun x8 _ => (kf2_lt (fun R10 zR10 => (kf2_lt (fun x12 _ => (kf2_tr (g_fr_rf _) (kf_r (g_fr_rf _) rfl zR10) (hb2 R10 x12)))))))))
theorem fr_K_X11_copies_r6_r46_2 (F : Nat → Int32) : ∀ (n : Nat) (R2 : Nat → Nat → Int32) (y1 : Int32), kf2 md_X11_copies_r6_r46 mr_X11_copies_r6_r46 F R2 (K_X11_copies_r6_r46_2 F n R2 y1)
  | 0, R2, y1 => ⟨g_fr_rf _, g_fr_rf _⟩
  | n + 1, R2, y1 => fr_KB_X11_copies_r6_r46_2 F R2 y1 (K_X11_copies_r6_r46_2 F n) (fr_K_X11_copies_r6_r46_2 F n)
theorem fr_sp_X11_copies_r6_r46 (F : Nat → Int32) (R : Nat → Nat → Int32) : kf2 md_X11_copies_r6_r46 mr_X11_copies_r6_r46 F R (sp_X11_copies_r6_r46 F R) := by
  unfold sp_X11_copies_r6_r46
  exact (kf2_tr (g_fr_rf _) (g_fr_rf _) (fr_K_X11_copies_r6_r46_2 F 8589934592 R 0))
theorem fr_KB_X11_copies_r7_r47_2 (F : Nat → Int32) (R2 : Nat → Nat → Int32) (y1 : Int32) (b2 : (Nat → Nat → Int32) → (Int32) → (Nat → Int32) × (Nat → Nat → Int32)) (hb2 : ∀ (R2 : Nat → Nat → Int32) (y1 : Int32), kf2 md_X11_copies_r7_r47 mr_X11_copies_r7_r47 F R2 (b2 R2 y1)) : kf2 md_X11_copies_r7_r47 mr_X11_copies_r7_r47 F R2 (KB_X11_copies_r7_r47_2 b2 F R2 y1) := by
  unfold KB_X11_copies_r7_r47_2
  exact (kf2_ite ⟨(g_fr_rf _), (g_fr_rf _)⟩ (kf2_lt (fun x8 _ => (kf2_lt (fun R10 zR10 => (kf2_lt (fun x12 _ => (kf2_tr (g_fr_rf _) (kf_r (g_fr_rf _) rfl zR10) (hb2 R10 x12)))))))))
theorem fr_K_X11_copies_r7_r47_2 (F : Nat → Int32) : ∀ (n : Nat) (R2 : Nat → Nat → Int32) (y1 : Int32), kf2 md_X11_copies_r7_r47 mr_X11_copies_r7_r47 F R2 (K_X11_copies_r7_r47_2 F n R2 y1)
  | 0, R2, y1 => ⟨g_fr_rf _, g_fr_rf _⟩
  | n + 1, R2, y1 => fr_KB_X11_copies_r7_r47_2 F R2 y1 (K_X11_copies_r7_r47_2 F n) (fr_K_X11_copies_r7_r47_2 F n)
theorem fr_sp_X11_copies_r7_r47 (F : Nat → Int32) (R : Nat → Nat → Int32) : kf2 md_X11_copies_r7_r47 mr_X11_copies_r7_r47 F R (sp_X11_copies_r7_r47 F R) := by
  unfold sp_X11_copies_r7_r47
  exact (kf2_tr (g_fr_rf _) (g_fr_rf _) (fr_K_X11_copies_r7_r47_2 F 8589934592 R 0))
theorem fr_KB_X11_copies_r8_r48_2 (F : Nat → Int32) (R2 : Nat → Nat → Int32) (y1 : Int32) (b2 : (Nat → Nat → Int32) → (Int32) → (Nat → Int32) × (Nat → Nat → Int32)) (hb2 : ∀ (R2 : Nat → Nat → Int32) (y1 : Int32), kf2 md_X11_copies_r8_r48 mr_X11_copies_r8_r48 F R2 (b2 R2 y1)) : kf2 md_X11_copies_r8_r48 mr_X11_copies_r8_r48 F R2 (KB_X11_copies_r8_r48_2 b2 F R2 y1) := by
  unfold KB_X11_copies_r8_r48_2
  exact (kf2_ite ⟨(g_fr_rf _), (g_fr_rf _)⟩ (kf2_lt (fun x8 _ => (kf2_lt (fun R10 zR10 => (kf2_lt (fun x12 _ => (kf2_tr (g_fr_rf _) (kf_r (g_fr_rf _) rfl zR10) (hb2 R10 x12)))))))))
theorem fr_K_X11_copies_r8_r48_2 (F : Nat → Int32) : ∀ (n : Nat) (R2 : Nat → Nat → Int32) (y1 : Int32), kf2 md_X11_copies_r8_r48 mr_X11_copies_r8_r48 F R2 (K_X11_copies_r8_r48_2 F n R2 y1)
  | 0, R2, y1 => ⟨g_fr_rf _, g_fr_rf _⟩
  | n + 1, R2, y1 => fr_KB_X11_copies_r8_r48_2 F R2 y1 (K_X11_copies_r8_r48_2 F n) (fr_K_X11_copies_r8_r48_2 F n)
theorem fr_sp_X11_copies_r8_r48 (F : Nat → Int32) (R : Nat → Nat → Int32) : kf2 md_X11_copies_r8_r48 mr_X11_copies_r8_r48 F R (sp_X11_copies_r8_r48 F R) := by
  unfold sp_X11_copies_r8_r48
  exact (kf2_tr (g_fr_rf _) (g_fr_rf _) (fr_K_X11_copies_r8_r48_2 F 8589934592 R 0))
theorem fr_sp_X11_keep (F : Nat → Int32) (R : Nat → Nat → Int32) : kf3 md_X11_keep mr_X11_keep F R (sp_X11_keep F R) := by
  unfold sp_X11_keep
  exact (kf3_lt (fun F1 zF1 => (kf3_lt (fun F3 zF3 => (kf3_lt (fun F5 zF5 => (kf3_lt (fun F7 zF7 => (kf3_lt (fun F9 zF9 => (kf3_lt (fun F11 zF11 => (kf3_lt2 (fun F18 R19 zF18 => (kf3_lt2 (fun F26 R27 zF26 => (kf3_lt2 (fun F34 R35 zF34 => (kf3_lt2 (fun F42 R43 zF42 => (kf3_lt2 (fun F50 R51 zF50 => (kf3_lt2 (fun F58 R59 zF58 => (kf3_lt2 (fun F66 R67 zF66 => (kf3_lt2 (fun F74 R75 zF74 => (kf3_lt (fun r77 _ => ⟨(kf2_F (kf2_F (kf2_F (kf2_F (kf2_F (kf2_F (kf2_F (kf2_F (kf_u (kf_u (kf_u (kf_u (kf_u (kf_u (g_fr_rf _) rfl zF1) rfl zF3) rfl zF5) rfl zF7) rfl zF9) rfl zF11) (fr_sp_X11_copies_r1_r41 F11 R) zF18 rfl) (fr_sp_X11_copies_r2_r42 F18 R19) zF26 rfl) (fr_sp_X11_copies_r3_r43 F26 R27) zF34 rfl) (fr_sp_X11_copies_r4_r44 F34 R35) zF42 rfl) (fr_sp_X11_copies_r5_r45 F42 R43) zF50 rfl) (fr_sp_X11_copies_r6_r46 F50 R51) zF58 rfl) (fr_sp_X11_copies_r7_r47 F58 R59) zF66 rfl) (fr_sp_X11_copies_r8_r48 F66 R67) zF74 rfl), (kf2_R (kf2_R (kf2_R (kf2_R (kf2_R (kf2_R (kf2_R (kf2_R (g_fr_rf _) (fr_sp_X11_copies_r1_r41 F11 R) zF18 rfl) (fr_sp_X11_copies_r2_r42 F18 R19) zF26 rfl) (fr_sp_X11_copies_r3_r43 F26 R27) zF34 rfl) (fr_sp_X11_copies_r4_r44 F34 R35) zF42 rfl) (fr_sp_X11_copies_r5_r45 F42 R43) zF50 rfl) (fr_sp_X11_copies_r6_r46 F50 R51) zF58 rfl) (fr_sp_X11_copies_r7_r47 F58 R59) zF66 rfl) (fr_sp_X11_copies_r8_r48 F66 R67) zF74 rfl)⟩))))))))))))))))))))))))))))))
theorem fr_KB_X11_copies_r41_r1_2 (F : Nat → Int32) (R2 : Nat → Nat → Int32) (y1 : Int32) (b2 : (Nat → Nat → Int32) → (Int32) → (Nat → Int32) × (Nat → Nat → Int32)) (hb2 : ∀ (R2 : Nat → Nat → Int32) (y1 : Int32), kf2 md_X11_copies_r41_r1 mr_X11_copies_r41_r1 F R2 (b2 R2 y1)) : kf2 md_X11_copies_r41_r1 mr_X11_copies_r41_r1 F R2 (KB_X11_copies_r41_r1_2 b2 F R2 y1) := by
  unfold KB_X11_copies_r41_r1_2
  exact (kf2_ite ⟨(g_fr_rf _), (g_fr_rf _)⟩ (kf2_lt (fun x8 _ => (kf2_lt (fun R10 zR10 => (kf2_lt (fun x12 _ => (kf2_tr (g_fr_rf _) (kf_r (g_fr_rf _) rfl zR10) (hb2 R10 x12)))))))))
theorem fr_K_X11_copies_r41_r1_2 (F : Nat → Int32) : ∀ (n : Nat) (R2 : Nat → Nat → Int32) (y1 : Int32), kf2 md_X11_copies_r41_r1 mr_X11_copies_r41_r1 F R2 (K_X11_copies_r41_r1_2 F n R2 y1)
  | 0, R2, y1 => ⟨g_fr_rf _, g_fr_rf _⟩
  | n + 1, R2, y1 => fr_KB_X11_copies_r41_r1_2 F R2 y1 (K_X11_copies_r41_r1_2 F n) (fr_K_X11_copies_r41_r1_2 F n)
theorem fr_sp_X11_copies_r41_r1 (F : Nat → Int32) (R : Nat → Nat → Int32) : kf2 md_X11_copies_r41_r1 mr_X11_copies_r41_r1 F R (sp_X11_copies_r41_r1 F R) := by
  unfold sp_X11_copies_r41_r1
  exact (kf2_tr (g_fr_rf _) (g_fr_rf _) (fr_K_X11_copies_r41_r1_2 F 8589934592 R 0))
theorem fr_KB_X11_copies_r42_r2_2 (F : Nat → Int32) (R2 : Nat → Nat → Int32) (y1 : Int32) (b2 : (Nat → Nat → Int32) → (Int32) → (Nat → Int32) × (Nat → Nat → Int32)) (hb2 : ∀ (R2 : Nat → Nat → Int32) (y1 : Int32), kf2 md_X11_copies_r42_r2 mr_X11_copies_r42_r2 F R2 (b2 R2 y1)) : kf2 md_X11_copies_r42_r2 mr_X11_copies_r42_r2 F R2 (KB_X11_copies_r42_r2_2 b2 F R2 y1) := by
  unfold KB_X11_copies_r42_r2_2
  exact (kf2_ite ⟨(g_fr_rf _), (g_fr_rf _)⟩ (kf2_lt (fun x8 _ => (kf2_lt (fun R10 zR10 => (kf2_lt (fun x12 _ => (kf2_tr (g_fr_rf _) (kf_r (g_fr_rf _) rfl zR10) (hb2 R10 x12)))))))))
theorem fr_K_X11_copies_r42_r2_2 (F : Nat → Int32) : ∀ (n : Nat) (R2 : Nat → Nat → Int32) (y1 : Int32), kf2 md_X11_copies_r42_r2 mr_X11_copies_r42_r2 F R2 (K_X11_copies_r42_r2_2 F n R2 y1)
  | 0, R2, y1 => ⟨g_fr_rf _, g_fr_rf _⟩
  | n + 1, R2, y1 => fr_KB_X11_copies_r42_r2_2 F R2 y1 (K_X11_copies_r42_r2_2 F n) (fr_K_X11_copies_r42_r2_2 F n)
theorem fr_sp_X11_copies_r42_r2 (F : Nat → Int32) (R : Nat → Nat → Int32) : kf2 md_X11_copies_r42_r2 mr_X11_copies_r42_r2 F R (sp_X11_copies_r42_r2 F R) := by
  unfold sp_X11_copies_r42_r2
  exact (kf2_tr (g_fr_rf _) (g_fr_rf _) (fr_K_X11_copies_r42_r2_2 F 8589934592 R 0))
theorem fr_KB_X11_copies_r43_r3_2 (F : Nat → Int32) (R2 : Nat → Nat → Int32) (y1 : Int32) (b2 : (Nat → Nat → Int32) → (Int32) → (Nat → Int32) × (Nat → Nat → Int32)) (hb2 : ∀ (R2 : Nat → Nat → Int32) (y1 : Int32), kf2 md_X11_copies_r43_r3 mr_X11_copies_r43_r3 F R2 (b2 R2 y1)) : kf2 md_X11_copies_r43_r3 mr_X11_copies_r43_r3 F R2 (KB_X11_copies_r43_r3_2 b2 F R2 y1) := by
  unfold KB_X11_copies_r43_r3_2
  exact (kf2_ite ⟨(g_fr_rf _), (g_fr_rf _)⟩ (kf2_lt (fun x8 _ => (kf2_lt (fun R11 zR11 => (kf2_lt (fun x13 _ => (kf2_tr (g_fr_rf _) (kf_r (g_fr_rf _) rfl zR11) (hb2 R11 x13)))))))))
theorem fr_K_X11_copies_r43_r3_2 (F : Nat → Int32) : ∀ (n : Nat) (R2 : Nat → Nat → Int32) (y1 : Int32), kf2 md_X11_copies_r43_r3 mr_X11_copies_r43_r3 F R2 (K_X11_copies_r43_r3_2 F n R2 y1)
  | 0, R2, y1 => ⟨g_fr_rf _, g_fr_rf _⟩
  | n + 1, R2, y1 => fr_KB_X11_copies_r43_r3_2 F R2 y1 (K_X11_copies_r43_r3_2 F n) (fr_K_X11_copies_r43_r3_2 F n)
theorem fr_sp_X11_copies_r43_r3 (F : Nat → Int32) (R : Nat → Nat → Int32) : kf2 md_X11_copies_r43_r3 mr_X11_copies_r43_r3 F R (sp_X11_copies_r43_r3 F R) := by
  unfold sp_X11_copies_r43_r3
  exact (kf2_tr (g_fr_rf _) (g_fr_rf _) (fr_K_X11_copies_r43_r3_2 F 8589934592 R 0))
theorem fr_KB_X11_copies_r44_r4_2 (F : Nat → Int32) (R2 : Nat → Nat → Int32) (y1 : Int32) (b2 : (Nat → Nat → Int32) → (Int32) → (Nat → Int32) × (Nat → Nat → Int32)) (hb2 : ∀ (R2 : Nat → Nat → Int32) (y1 : Int32), kf2 md_X11_copies_r44_r4 mr_X11_copies_r44_r4 F R2 (b2 R2 y1)) : kf2 md_X11_copies_r44_r4 mr_X11_copies_r44_r4 F R2 (KB_X11_copies_r44_r4_2 b2 F R2 y1) := by
  unfold KB_X11_copies_r44_r4_2
  exact (kf2_ite ⟨(g_fr_rf _), (g_fr_rf _)⟩ (kf2_lt (fun x8 _ => (kf2_lt (fun R10 zR10 => (kf2_lt (fun x12 _ => (kf2_tr (g_fr_rf _) (kf_r (g_fr_rf _) rfl zR10) (hb2 R10 x12)))))))))
theorem fr_K_X11_copies_r44_r4_2 (F : Nat → Int32) : ∀ (n : Nat) (R2 : Nat → Nat → Int32) (y1 : Int32), kf2 md_X11_copies_r44_r4 mr_X11_copies_r44_r4 F R2 (K_X11_copies_r44_r4_2 F n R2 y1)
  | 0, R2, y1 => ⟨g_fr_rf _, g_fr_rf _⟩
  | n + 1, R2, y1 => fr_KB_X11_copies_r44_r4_2 F R2 y1 (K_X11_copies_r44_r4_2 F n) (fr_K_X11_copies_r44_r4_2 F n)
theorem fr_sp_X11_copies_r44_r4 (F : Nat → Int32) (R : Nat → Nat → Int32) : kf2 md_X11_copies_r44_r4 mr_X11_copies_r44_r4 F R (sp_X11_copies_r44_r4 F R) := by
  unfold sp_X11_copies_r44_r4
  exact (kf2_tr (g_fr_rf _) (g_fr_rf _) (fr_K_X11_copies_r44_r4_2 F 8589934592 R 0))
theorem fr_KB_X11_copies_r45_r5_2 (F : Nat → Int32) (R2 : Nat → Nat → Int32) (y1 : Int32) (b2 : (Nat → Nat → Int32) → (Int32) → (Nat → Int32) × (Nat → Nat → Int32)) (hb2 : ∀ (R2 : Nat → Nat → Int32) (y1 : Int32), kf2 md_X11_copies_r45_r5 mr_X11_copies_r45_r5 F R2 (b2 R2 y1)) : kf2 md_X11_copies_r45_r5 mr_X11_copies_r45_r5 F R2 (KB_X11_copies_r45_r5_2 b2 F R2 y1) := by
  unfold KB_X11_copies_r45_r5_2
  exact (kf2_ite ⟨(g_fr_rf _), (g_fr_rf _)⟩ (kf2_lt (fun x8 _ => (kf2_lt (fun R11 zR11 => (kf2_lt (fun x13 _ => (kf2_tr (g_fr_rf _) (kf_r (g_fr_rf _) rfl zR11) (hb2 R11 x13)))))))))
theorem fr_K_X11_copies_r45_r5_2 (F : Nat → Int32) : ∀ (n : Nat) (R2 : Nat → Nat → Int32) (y1 : Int32), kf2 md_X11_copies_r45_r5 mr_X11_copies_r45_r5 F R2 (K_X11_copies_r45_r5_2 F n R2 y1)
  | 0, R2, y1 => ⟨g_fr_rf _, g_fr_rf _⟩
  | n + 1, R2, y1 => fr_KB_X11_copies_r45_r5_2 F R2 y1 (K_X11_copies_r45_r5_2 F n) (fr_K_X11_copies_r45_r5_2 F n)
theorem fr_sp_X11_copies_r45_r5 (F : Nat → Int32) (R : Nat → Nat → Int32) : kf2 md_X11_copies_r45_r5 mr_X11_copies_r45_r5 F R (sp_X11_copies_r45_r5 F R) := by
  unfold sp_X11_copies_r45_r5
  exact (kf2_tr (g_fr_rf _) (g_fr_rf _) (fr_K_X11_copies_r45_r5_2 F 8589934592 R 0))
theorem fr_KB_X11_copies_r46_r6_2 (F : Nat → Int32) (R2 : Nat → Nat → Int32) (y1 : Int32) (b2 : (Nat → Nat → Int32) → (Int32) → (Nat → Int32) × (Nat → Nat → Int32)) (hb2 : ∀ (R2 : Nat → Nat → Int32) (y1 : Int32), kf2 md_X11_copies_r46_r6 mr_X11_copies_r46_r6 F R2 (b2 R2 y1)) : kf2 md_X11_copies_r46_r6 mr_X11_copies_r46_r6 F R2 (KB_X11_copies_r46_r6_2 b2 F R2 y1) := by
  unfold KB_X11_copies_r46_r6_2
  exact (kf2_ite ⟨(g_fr_rf _), (g_fr_rf _)⟩ (kf2_lt (fun x8 _ => (kf2_lt (fun R10 zR10 => (kf2_lt (fun x12 _ => (kf2_tr (g_fr_rf _) (kf_r (g_fr_rf _) rfl zR10) (hb2 R10 x12)))))))))
theorem fr_K_X11_copies_r46_r6_2 (F : Nat → Int32) : ∀ (n : Nat) (R2 : Nat → Nat → Int32) (y1 : Int32), kf2 md_X11_copies_r46_r6 mr_X11_copies_r46_r6 F R2 (K_X11_copies_r46_r6_2 F n R2 y1)
  | 0, R2, y1 => ⟨g_fr_rf _, g_fr_rf _⟩
  | n + 1, R2, y1 => fr_KB_X11_copies_r46_r6_2 F R2 y1 (K_X11_copies_r46_r6_2 F n) (fr_K_X11_copies_r46_r6_2 F n)
theorem fr_sp_X11_copies_r46_r6 (F : Nat → Int32) (R : Nat → Nat → Int32) : kf2 md_X11_copies_r46_r6 mr_X11_copies_r46_r6 F R (sp_X11_copies_r46_r6 F R) := by
  unfold sp_X11_copies_r46_r6
  exact (kf2_tr (g_fr_rf _) (g_fr_rf _) (fr_K_X11_copies_r46_r6_2 F 8589934592 R 0))
theorem fr_KB_X11_copies_r47_r7_2 (F : Nat → Int32) (R2 : Nat → Nat → Int32) (y1 : Int32) (b2 : (Nat → Nat → Int32) → (Int32) → (Nat → Int32) × (Nat → Nat → Int32)) (hb2 : ∀ (R2 : Nat → Nat → Int32) (y1 : Int32), kf2 md_X11_copies_r47_r7 mr_X11_copies_r47_r7 F R2 (b2 R2 y1)) : kf2 md_X11_copies_r47_r7 mr_X11_copies_r47_r7 F R2 (KB_X11_copies_r47_r7_2 b2 F R2 y1) := by
  unfold KB_X11_copies_r47_r7_2
  exact (kf2_ite ⟨(g_fr_rf _), (g_fr_rf _)⟩ (kf2_lt (fun x8 _ => (kf2_lt (fun R10 zR10 => (kf2_lt (fun x12 _ => (kf2_tr (g_fr_rf _) (kf_r (g_fr_rf _) rfl zR10) (hb2 R10 x12)))))))))
theorem fr_K_X11_copies_r47_r7_2 (F : Nat → Int32) : ∀ (n : Nat) (R2 : Nat → Nat → Int32) (y1 : Int32), kf2 md_X11_copies_r47_r7 mr_X11_copies_r47_r7 F R2 (K_X11_copies_r47_r7_2 F n R2 y1)
  | 0, R2, y1 => ⟨g_fr_rf _, g_fr_rf _⟩
  | n + 1, R2, y1 => fr_KB_X11_copies_r47_r7_2 F R2 y1 (K_X11_copies_r47_r7_2 F n) (fr_K_X11_copies_r47_r7_2 F n)
theorem fr_sp_X11_copies_r47_r7 (F : Nat → Int32) (R : Nat → Nat → Int32) : kf2 md_X11_copies_r47_r7 mr_X11_copies_r47_r7 F R (sp_X11_copies_r47_r7 F R) := by
  unfold sp_X11_copies_r47_r7
  exact (kf2_tr (g_fr_rf _) (g_fr_rf _) (fr_K_X11_copies_r47_r7_2 F 8589934592 R 0))
theorem fr_KB_X11_copies_r48_r8_2 (F : Nat → Int32) (R2 : Nat → Nat → Int32) (y1 : Int32) (b2 : (Nat → Nat → Int32) → (Int32) → (Nat → Int32) × (Nat → Nat → Int32)) (hb2 : ∀ (R2 : Nat → Nat → Int32) (y1 : Int32), kf2 md_X11_copies_r48_r8 mr_X11_copies_r48_r8 F R2 (b2 R2 y1)) : kf2 md_X11_copies_r48_r8 mr_X11_copies_r48_r8 F R2 (KB_X11_copies_r48_r8_2 b2 F R2 y1) := by
  unfold KB_X11_copies_r48_r8_2
  exact (kf2_ite ⟨(g_fr_rf _), (g_fr_rf _)⟩ (kf2_lt (fun x8 _ => (kf2_lt (fun R10 zR10 => (kf2_lt (fun x12 _ => (kf2_tr (g_fr_rf _) (kf_r (g_fr_rf _) rfl zR10) (hb2 R10 x12)))))))))
theorem fr_K_X11_copies_r48_r8_2 (F : Nat → Int32) : ∀ (n : Nat) (R2 : Nat → Nat → Int32) (y1 : Int32), kf2 md_X11_copies_r48_r8 mr_X11_copies_r48_r8 F R2 (K_X11_copies_r48_r8_2 F n R2 y1)
  | 0, R2, y1 => ⟨g_fr_rf _, g_fr_rf _⟩
  | n + 1, R2, y1 => fr_KB_X11_copies_r48_r8_2 F R2 y1 (K_X11_copies_r48_r8_2 F n) (fr_K_X11_copies_r48_r8_2 F n)
theorem fr_sp_X11_copies_r48_r8 (F : Nat → Int32) (R : Nat → Nat → Int32) : kf2 md_X11_copies_r48_r8 mr_X11_copies_r48_r8 F R (sp_X11_copies_r48_r8 F R) := by
  unfold sp_X11_copies_r48_r8
  exact (kf2_tr (g_fr_rf _) (g_fr_rf _) (fr_K_X11_copies_r48_r8_2 F 8589934592 R 0))
theorem fr_sp_X11_undo (F : Nat → Int32) (R : Nat → Nat → Int32) : kf3 md_X11_undo mr_X11_undo F R (sp_X11_undo F R) := by
  unfold sp_X11_undo
  exact (kf3_ite ⟨(g_fr_rf _), (g_fr_rf _)⟩ (kf3_lt (fun F4 zF4 => (kf3_lt (fun F6 zF6 => (kf3_lt (fun F8 zF8 => (kf3_lt (fun F10 zF10 => (kf3_lt (fun F12 zF12 => (kf3_lt2 (fun F19 R20 zF19 => (kf3_lt2 (fun F27 R28 zF27 => (kf3_lt2 (fun F35 R36 zF35 => (kf3_lt2 (fun F43 R44 zF43 => (kf3_lt2 (fun F51 R52 zF51 => (kf3_lt2 (fun F59 R60 zF59 => (kf3_lt2 (fun F67 R68 zF67 => (kf3_lt2 (fun F75 R76 zF75 => ⟨(kf2_F (kf2_F (kf2_F (kf2_F (kf2_F (kf2_F (kf2_F (kf2_F (kf_u (kf_u (kf_u (kf_u (kf_u (g_fr_rf _) rfl zF4) rfl zF6) rfl zF8) rfl zF10) rfl zF12) (fr_sp_X11_copies_r41_r1 F12 R) zF19 rfl) (fr_sp_X11_copies_r42_r2 F19 R20) zF27 rfl) (fr_sp_X11_copies_r43_r3 F27 R28) zF35 rfl) (fr_sp_X11_copies_r44_r4 F35 R36) zF43 rfl) (fr_sp_X11_copies_r45_r5 F43 R44) zF51 rfl) (fr_sp_X11_copies_r46_r6 F51 R52) zF59 rfl) (fr_sp_X11_copies_r47_r7 F59 R60) zF67 rfl) (fr_sp_X11_copies_r48_r8 F67 R68) zF75 rfl), (kf2_R (kf2_R (kf2_R (kf2_R (kf2_R (kf2_R (kf2_R (kf2_R (g_fr_rf _) (fr_sp_X11_copies_r41_r1 F12 R) zF19 rfl) (fr_sp_X11_copies_r42_r2 F19 R20) zF27 rfl) (fr_sp_X11_copies_r43_r3 F27 R28) zF35 rfl) (fr_sp_X11_copies_r44_r4 F35 R36) zF43 rfl) (fr_sp_X11_copies_r45_r5 F43 R44) zF51 rfl) (fr_sp_X11_copies_r46_r6 F51 R52) zF59 rfl) (fr_sp_X11_copies_r47_r7 F59 R60) zF67 rfl) (fr_sp_X11_copies_r48_r8 F67 R68) zF75 rfl)⟩)))))))))))))))))))))))))))
theorem fr_K_X11_check_20 (F : Nat → Int32) (R : Nat → Nat → Int32) : kf3 md_X11_check mr_X11_check F R (K_X11_check_20 F R) := by
  unfold K_X11_check_20
  exact ⟨(g_fr_rf _), (g_fr_rf _)⟩
theorem fr_K_X11_check_61 (F15 : Nat → Int32) (R : Nat → Nat → Int32) (r23 : Int32) (y17 : Int32) (y32 : Int32) (b30 : (Int32) → Int32 × (Nat → Int32) × (Nat → Nat → Int32)) (hb30 : ∀ (y17 : Int32), kf3 md_X11_check mr_X11_check F15 R (b30 y17)) : kf3 md_X11_check mr_X11_check F15 R (K_X11_check_61 b30 F15 R r23 y17 y32) := by
  unfold K_X11_check_61
  exact (kf3_ite (kf3_lt (fun x35 _ => (kf3_tr (g_fr_rf _) (g_fr_rf _) (hb30 x35)))) ⟨(g_fr_rf _), (g_fr_rf _)⟩)
theorem fr_KB_X11_check_30 (F : Nat → Int32) (F15 : Nat → Int32) (R : Nat → Nat → Int32) (a0 : Int32) (y17 : Int32) (b30 : (Int32) → Int32 × (Nat → Int32) × (Nat → Nat → Int32)) (hb30 : ∀ (y17 : Int32), kf3 md_X11_check mr_X11_check F15 R (b30 y17)) : kf3 md_X11_check mr_X11_check F15 R (KB_X11_check_30 b30 F F15 R a0 y17) := by
  unfold KB_X11_check_30
  exact (kf3_ite ⟨(g_fr_rf _), (g_fr_rf _)⟩ (kf3_lt (fun r23 _ => (kf3_lt (fun r28 _ => (kf3_ite (kf3_tr (g_fr_rf _) (g_fr_rf _) (fr_K_X11_check_61 F15 R r23 y17 0 b30 hb30)) (kf3_lt (fun x44 _ => (kf3_tr (g_fr_rf _) (g_fr_rf _) (fr_K_X11_check_61 F15 R r23 y17 x44 b30 hb30))))))))))
theorem fr_K_X11_check_30 (F : Nat → Int32) (F15 : Nat → Int32) (R : Nat → Nat → Int32) (a0 : Int32) : ∀ (n : Nat) (y17 : Int32), kf3 md_X11_check mr_X11_check F15 R (K_X11_check_30 F F15 R a0 n y17)
  | 0, y17 => ⟨g_fr_rf _, g_fr_rf _⟩
  | n + 1, y17 => fr_KB_X11_check_30 F F15 R a0 y17 (K_X11_check_30 F F15 R a0 n) (fr_K_X11_check_30 F F15 R a0 n)
theorem fr_sp_X11_check (F : Nat → Int32) (R : Nat → Nat → Int32) (a0 : Int32) : kf3 md_X11_check mr_X11_check F R (sp_X11_check F R a0) := by
  unfold sp_X11_check
  exact (kf3_lt (fun r1 _ => (kf3_ite (kf3_tr (g_fr_rf _) (g_fr_rf _) (fr_K_X11_check_20 F R)) (kf3_lt (fun x11 _ => (kf3_ite (kf3_lt (fun F15 zF15 => (kf3_tr (kf_u (g_fr_rf _) rfl zF15) (g_fr_rf _) (fr_K_X11_check_30 F F15 R a0 8589934592 0)))) (kf3_tr (g_fr_rf _) (g_fr_rf _) (fr_K_X11_check_20 F R))))))))
theorem fr_K_X11_comesTo_230 (F : Nat → Int32) (R29 : Nat → Nat → Int32) (y27 : Int32) (y28 : Int32) (b16 : (Nat → Nat → Int32) → (Int32) → (Int32) → Int32 × (Nat → Int32) × (Nat → Nat → Int32)) (hb16 : ∀ (R7 : Nat → Nat → Int32) (y5 : Int32) (y6 : Int32), kf3 md_X11_comesTo mr_X11_comesTo F R7 (b16 R7 y5 y6)) : kf3 md_X11_comesTo mr_X11_comesTo F R29 (K_X11_comesTo_230 b16 R29 y27 y28) := by
  unfold K_X11_comesTo_230
  exact (kf3_tr (g_fr_rf _) (g_fr_rf _) (hb16 R29 y27 y28))
theorem fr_K_X11_comesTo_85 (F : Nat → Int32) (R7 : Nat → Nat → Int32) (x25 : Int32) (y5 : Int32) (y33 : Int32) (b16 : (Nat → Nat → Int32) → (Int32) → (Int32) → Int32 × (Nat → Int32) × (Nat → Nat → Int32)) (hb16 : ∀ (R7 : Nat → Nat → Int32) (y5 : Int32) (y6 : Int32), kf3 md_X11_comesTo mr_X11_comesTo F R7 (b16 R7 y5 y6)) : kf3 md_X11_comesTo mr_X11_comesTo F R7 (K_X11_comesTo_85 b16 R7 x25 y5 y33) := by
  unfold K_X11_comesTo_85
  exact (kf3_lt (fun R34 zR34 => (kf3_lt (fun x36 _ => (kf3_tr (g_fr_rf _) (kf_r (g_fr_rf _) rfl zR34) (fr_K_X11_comesTo_230 F R34 x36 x25 b16 hb16))))))
theorem fr_K_X11_comesTo_155 (F : Nat → Int32) (R7 : Nat → Nat → Int32) (x3 : Int32) (x23 : Int32) (x25 : Int32) (y5 : Int32) (y53 : Int32) (y54 : Int32) (b16 : (Nat → Nat → Int32) → (Int32) → (Int32) → Int32 × (Nat → Int32) × (Nat → Nat → Int32)) (hb16 : ∀ (R7 : Nat → Nat → Int32) (y5 : Int32) (y6 : Int32), kf3 md_X11_comesTo mr_X11_comesTo F R7 (b16 R7 y5 y6)) : kf3 md_X11_comesTo mr_X11_comesTo F R7 (K_X11_comesTo_155 b16 R7 x3 x23 x25 y5 y53 y54) := by
  unfold K_X11_comesTo_155
  exact (kf3_ite (kf3_lt (fun x61 _ => (kf3_tr (g_fr_rf _) (g_fr_rf _) (fr_K_X11_comesTo_230 F R7 y5 x61 b16 hb16)))) (kf3_lt (fun x57 _ => (kf3_tr (g_fr_rf _) (g_fr_rf _) (fr_K_X11_comesTo_230 F R7 x57 x25 b16 hb16)))))
theorem fr_K_X11_comesTo_155a (F : Nat → Int32) (R7 : Nat → Nat → Int32) (x3 : Int32) (x23 : Int32) (x25 : Int32) (y5 : Int32) (y141 : Int32) (y142 : Int32) (b16 : (Nat → Nat → Int32) → (Int32) → (Int32) → Int32 × (Nat → Int32) × (Nat → Nat → Int32)) (hb16 : ∀ (R7 : Nat → Nat → Int32) (y5 : Int32) (y6 : Int32), kf3 md_X11_comesTo mr_X11_comesTo F R7 (b16 R7 y5 y6)) : kf3 md_X11_comesTo mr_X11_comesTo F R7 (K_X11_comesTo_155a b16 R7 x3 x23 x25 y5 y141 y142) := by
  unfold K_X11_comesTo_155a
  exact (kf3_ite (kf3_lt (fun x149 _ => (kf3_tr (g_fr_rf _) (g_fr_rf _) (fr_K_X11_comesTo_230 F R7 y5 x149 b16 hb16)))) (kf3_lt (fun x145 _ => (kf3_tr (g_fr_rf _) (g_fr_rf _) (fr_K_X11_comesTo_230 F R7 x145 x25 b16 hb16)))))
theorem fr_K_X11_comesTo_85a (F : Nat → Int32) (R7 : Nat → Nat → Int32) (x25 : Int32) (y5 : Int32) (y166 : Int32) (b16 : (Nat → Nat → Int32) → (Int32) → (Int32) → Int32 × (Nat → Int32) × (Nat → Nat → Int32)) (hb16 : ∀ (R7 : Nat → Nat → Int32) (y5 : Int32) (y6 : Int32), kf3 md_X11_comesTo mr_X11_comesTo F R7 (b16 R7 y5 y6)) : kf3 md_X11_comesTo mr_X11_comesTo F R7 (K_X11_comesTo_85a b16 R7 x25 y5 y166) := by
  unfold K_X11_comesTo_85a
  exact (kf3_lt (fun R167 zR167 => (kf3_lt (fun x169 _ => (kf3_tr (g_fr_rf _) (kf_r (g_fr_rf _) rfl zR167) (fr_K_X11_comesTo_230 F R167 x169 x25 b16 hb16))))))
theorem fr_KB_X11_comesTo_16 (F : Nat → Int32) (a1 : Int32) (x3 : Int32) (R7 : Nat → Nat → Int32) (y5 : Int32) (y6 : Int32) (b16 : (Nat → Nat → Int32) → (Int32) → (Int32) → Int32 × (Nat → Int32) × (Nat → Nat → Int32)) (hb16 : ∀ (R7 : Nat → Nat → Int32) (y5 : Int32) (y6 : Int32), kf3 md_X11_comesTo mr_X11_comesTo F R7 (b16 R7 y5 y6)) : kf3 md_X11_comesTo mr_X11_comesTo F R7 (KB_X11_comesTo_16 b16 F a1 x3 R7 y5 y6) := by
  unfold KB_X11_comesTo_16
  exact (kf3_ite (kf3_lt (fun x10 _ => ⟨(g_fr_rf _), (g_fr_rf _)⟩)) (kf3_lt (fun x15 _ => (kf3_lt (fun x18 _ => (kf3_lt (fun x20 _ => (kf3_lt (fun x23 _ => (kf3_lt (fun x25 _ => (kf3_ite (kf3_tr (g_fr_rf _) (g_fr_rf _) (fr_K_X11_comesTo_85 F R7 x25 y5 x23 b16 hb16)) (kf3_ite (kf3_lt (fun x172 _ => (kf3_tr (g_fr_rf _) (g_fr_rf _) (fr_K_X11_comesTo_85a F R7 x25 y5 x172 b16 hb16)))) (kf3_ite (kf3_lt (fun x154 _ => (kf3_lt (fun x156 _ => (kf3_lt (fun x158 _ => (kf3_lt (fun x160 _ => (kf3_lt (fun R162 zR162 => (kf3_tr (g_fr_rf _) (kf_r (g_fr_rf _) rfl zR162) (fr_K_X11_comesTo_230 F R162 y5 x25 b16 hb16)))))))))))) (kf3_ite (kf3_lt (fun x49 _ => (kf3_lt (fun x51 _ => (kf3_tr (g_fr_rf _) (g_fr_rf _) (fr_K_X11_comesTo_155 F R7 x3 x23 x25 y5 x51 0 b16 hb16)))))) (kf3_ite (kf3_lt (fun x137 _ => (kf3_lt (fun x139 _ => (kf3_tr (g_fr_rf _) (g_fr_rf _) (fr_K_X11_comesTo_155a F R7 x3 x23 x25 y5 x139 1 b16 hb16)))))) (kf3_lt (fun x68 _ => (kf3_ite (kf3_lt (fun x73 _ => (kf3_ite ⟨(g_fr_rf _), (g_fr_rf _)⟩ (kf3_lt (fun x77 _ => (kf3_lt (fun x79 _ => (kf3_lt (fun x81 _ => (kf3_lt (fun x83 _ => (kf3_lt (fun r85 _ => (kf3_lt (fun R90 zR90 => (kf3_tr (g_fr_rf _) (kf_r (g_fr_rf _) rfl zR90) (fr_K_X11_comesTo_230 F R90 x68 x25 b16 hb16))))))))))))))))) (kf3_ite (kf3_lt (fun x114 _ => (kf3_ite ⟨(g_fr_rf _), (g_fr_rf _)⟩ (kf3_lt (fun x118 _ => (kf3_lt (fun x120 _ => (kf3_lt (fun x122 _ => (kf3_lt (fun x124 _ => (kf3_lt (fun r126 _ => (kf3_lt (fun R131 zR131 => (kf3_tr (g_fr_rf _) (kf_r (g_fr_rf _) rfl zR131) (fr_K_X11_comesTo_230 F R131 x68 x25 b16 hb16))))))))))))))))) (kf3_lt (fun x97 _ => (kf3_lt (fun x99 _ => (kf3_lt (fun x101 _ => (kf3_lt (fun x103 _ => (kf3_lt (fun r105 _ => (kf3_lt (fun R110 zR110 => (kf3_tr (g_fr_rf _) (kf_r (g_fr_rf _) rfl zR110) (fr_K_X11_comesTo_230 F R110 x68 x25 b16 hb16))))))))))))))))))))))))))))))))))
theorem fr_K_X11_comesTo_16 (F : Nat → Int32) (a1 : Int32) (x3 : Int32) : ∀ (n : Nat) (R7 : Nat → Nat → Int32) (y5 : Int32) (y6 : Int32), kf3 md_X11_comesTo mr_X11_comesTo F R7 (K_X11_comesTo_16 F a1 x3 n R7 y5 y6)
  | 0, R7, y5, y6 => ⟨g_fr_rf _, g_fr_rf _⟩
  | n + 1, R7, y5, y6 => fr_KB_X11_comesTo_16 F a1 x3 R7 y5 y6 (K_X11_comesTo_16 F a1 x3 n) (fr_K_X11_comesTo_16 F a1 x3 n)
theorem fr_sp_X11_comesTo (F : Nat → Int32) (R : Nat → Nat → Int32) (a0 : Int32) (a1 : Int32) : kf3 md_X11_comesTo mr_X11_comesTo F R (sp_X11_comesTo F R a0 a1) := by
  unfold sp_X11_comesTo
  exact (kf3_lt (fun x1 _ => (kf3_lt (fun x3 _ => (kf3_tr (g_fr_rf _) (g_fr_rf _) (fr_K_X11_comesTo_16 F a1 x3 8589934592 R 0 a0))))))
theorem fr_K_X11_byLaw_91 (y1 : Int32) (F11 : Nat → Int32) (R12 : Nat → Nat → Int32) (b3 : (Nat → Int32) → (Nat → Nat → Int32) → (Int32) → Int32 × (Nat → Int32) × (Nat → Nat → Int32)) (hb3 : ∀ (F2 : Nat → Int32) (R3 : Nat → Nat → Int32) (y1 : Int32), kf3 md_X11_byLaw mr_X11_byLaw F2 R3 (b3 F2 R3 y1)) : kf3 md_X11_byLaw mr_X11_byLaw F11 R12 (K_X11_byLaw_91 b3 y1 F11 R12) := by
  unfold K_X11_byLaw_91
  exact (kf3_lt (fun x13 _ => (kf3_tr (g_fr_rf _) (g_fr_rf _) (hb3 F11 R12 x13))))
theorem fr_K_X11_byLaw_90 (F40 : Nat → Int32) (R41 : Nat → Nat → Int32) (y43 : Int32) : kf3 md_X11_byLaw mr_X11_byLaw F40 R41 (K_X11_byLaw_90 F40 R41 y43) := by
  unfold K_X11_byLaw_90
  exact ⟨(g_fr_rf _), (g_fr_rf _)⟩
theorem fr_KB_X11_byLaw_3 (F : Nat → Int32) (a0 : Int32) (a1 : Int32) (a2 : Int32) (F2 : Nat → Int32) (R3 : Nat → Nat → Int32) (y1 : Int32) (b3 : (Nat → Int32) → (Nat → Nat → Int32) → (Int32) → Int32 × (Nat → Int32) × (Nat → Nat → Int32)) (hb3 : ∀ (F2 : Nat → Int32) (R3 : Nat → Nat → Int32) (y1 : Int32), kf3 md_X11_byLaw mr_X11_byLaw F2 R3 (b3 F2 R3 y1)) : kf3 md_X11_byLaw mr_X11_byLaw F2 R3 (KB_X11_byLaw_3 b3 F a0 a1 a2 F2 R3 y1) := by
  unfold KB_X11_byLaw_3
  exact (kf3_ite ⟨(g_fr_rf _), (g_fr_rf _)⟩ (kf3_lt (fun x9 _ => (kf3_ite (kf3_lt (fun x18 _ => (kf3_lt (fun x20 _ => (kf3_lt3 (fun r22 F26 R27 zF26 => (kf3_ite (kf3_lt (fun x32 _ => (kf3_lt (fun x34 _ => (kf3_lt3 (fun r36 F40 R41 zF40 => (kf3_ite (kf3_ite (kf3_tr (kf3_F (kf3_F (g_fr_rf _) (fr_sp_X11_comesTo F2 R3 x18 x20) zF26 rfl) (fr_sp_X11_comesTo F26 R27 x32 x34) zF40 rfl) (kf3_R (kf3_R (g_fr_rf _) (fr_sp_X11_comesTo F2 R3 x18 x20) zF26 rfl) (fr_sp_X11_comesTo F26 R27 x32 x34) zF40 rfl) (fr_K_X11_byLaw_90 F40 R41 r36)) (kf3_tr (kf3_F (kf3_F (g_fr_rf _) (fr_sp_X11_comesTo F2 R3 x18 x20) zF26 rfl) (fr_sp_X11_comesTo F26 R27 x32 x34) zF40 rfl) (kf3_R (kf3_R (g_fr_rf _) (fr_sp_X11_comesTo F2 R3 x18 x20) zF26 rfl) (fr_sp_X11_comesTo F26 R27 x32 x34) zF40 rfl) (fr_K_X11_byLaw_90 F40 R41 a2))) (kf3_tr (kf3_F (kf3_F (g_fr_rf _) (fr_sp_X11_comesTo F2 R3 x18 x20) zF26 rfl) (fr_sp_X11_comesTo F26 R27 x32 x34) zF40 rfl) (kf3_R (kf3_R (g_fr_rf _) (fr_sp_X11_comesTo F2 R3 x18 x20) zF26 rfl) (fr_sp_X11_comesTo F26 R27 x32 x34) zF40 rfl) (fr_K_X11_byLaw_90 F40 R41 a1))))))))) (kf3_tr (kf3_F (g_fr_rf _) (fr_sp_X11_comesTo F2 R3 x18 x20) zF26 rfl) (kf3_R (g_fr_rf _) (fr_sp_X11_comesTo F2 R3 x18 x20) zF26 rfl) (fr_K_X11_byLaw_91 y1 F26 R27 b3 hb3))))))))) (kf3_tr (g_fr_rf _) (g_fr_rf _) (fr_K_X11_byLaw_91 y1 F2 R3 b3 hb3))))))
theorem fr_K_X11_byLaw_3 (F : Nat → Int32) (a0 : Int32) (a1 : Int32) (a2 : Int32) : ∀ (n : Nat) (F2 : Nat → Int32) (R3 : Nat → Nat → Int32) (y1 : Int32), kf3 md_X11_byLaw mr_X11_byLaw F2 R3 (K_X11_byLaw_3 F a0 a1 a2 n F2 R3 y1)
  | 0, F2, R3, y1 => ⟨g_fr_rf _, g_fr_rf _⟩
  | n + 1, F2, R3, y1 => fr_KB_X11_byLaw_3 F a0 a1 a2 F2 R3 y1 (K_X11_byLaw_3 F a0 a1 a2 n) (fr_K_X11_byLaw_3 F a0 a1 a2 n)
theorem fr_sp_X11_byLaw (F : Nat → Int32) (R : Nat → Nat → Int32) (a0 : Int32) (a1 : Int32) (a2 : Int32) : kf3 md_X11_byLaw mr_X11_byLaw F R (sp_X11_byLaw F R a0 a1 a2) := by
  unfold sp_X11_byLaw
  exact (kf3_tr (g_fr_rf _) (g_fr_rf _) (fr_K_X11_byLaw_3 F a0 a1 a2 8589934592 F R 0))
theorem fr_K_X11_laysOrder_81 (F : Nat → Int32) (y2 : Int32) (R17 : Nat → Nat → Int32) (y16 : Int32) (b4 : (Nat → Nat → Int32) → (Int32) → (Int32) → Int32 × (Nat → Int32) × (Nat → Nat → Int32)) (hb4 : ∀ (R3 : Nat → Nat → Int32) (y1 : Int32) (y2 : Int32), kf3 md_X11_laysOrder mr_X11_laysOrder F R3 (b4 R3 y1 y2)) : kf3 md_X11_laysOrder mr_X11_laysOrder F R17 (K_X11_laysOrder_81 b4 y2 R17 y16) := by
  unfold K_X11_laysOrder_81
  exact (kf3_lt (fun x19 _ => (kf3_tr (g_fr_rf _) (g_fr_rf _) (hb4 R17 y16 x19))))
theorem fr_K_X11_laysOrder_70 (F : Nat → Int32) (R25 : Nat → Nat → Int32) (y1 : Int32) (y2 : Int32) (y24 : Int32) (b4 : (Nat → Nat → Int32) → (Int32) → (Int32) → Int32 × (Nat → Int32) × (Nat → Nat → Int32)) (hb4 : ∀ (R3 : Nat → Nat → Int32) (y1 : Int32) (y2 : Int32), kf3 md_X11_laysOrder mr_X11_laysOrder F R3 (b4 R3 y1 y2)) : kf3 md_X11_laysOrder mr_X11_laysOrder F R25 (K_X11_laysOrder_70 b4 R25 y1 y2 y24) := by
  unfold K_X11_laysOrder_70
  exact (kf3_lt (fun R27 zR27 => (kf3_lt (fun x29 _ => (kf3_tr (g_fr_rf _) (kf_r (g_fr_rf _) rfl zR27) (fr_K_X11_laysOrder_81 F y2 R27 x29 b4 hb4))))))
theorem fr_KB_X11_laysOrder_23 (F : Nat → Int32) (y1 : Int32) (y2 : Int32) (R25 : Nat → Nat → Int32) (y24 : Int32) (b23 : (Nat → Nat → Int32) → (Int32) → Int32 × (Nat → Int32) × (Nat → Nat → Int32)) (hb23 : ∀ (R25 : Nat → Nat → Int32) (y24 : Int32), kf3 md_X11_laysOrder mr_X11_laysOrder F R25 (b23 R25 y24)) (b4 : (Nat → Nat → Int32) → (Int32) → (Int32) → Int32 × (Nat → Int32) × (Nat → Nat → Int32)) (hb4 : ∀ (R3 : Nat → Nat → Int32) (y1 : Int32) (y2 : Int32), kf3 md_X11_laysOrder mr_X11_laysOrder F R3 (b4 R3 y1 y2)) : kf3 md_X11_laysOrder mr_X11_laysOrder F R25 (KB_X11_laysOrder_23 b23 b4 F y1 y2 R25 y24) := by
  unfold KB_X11_laysOrder_23
  exact (kf3_ite (kf3_tr (g_fr_rf _) (g_fr_rf _) (fr_K_X11_laysOrder_70 F R25 y1 y2 y24 b4 hb4)) (kf3_lt (fun x36 _ => (kf3_lt (fun x38 _ => (kf3_lt (fun x41 _ => (kf3_lt (fun x43 _ => (kf3_ite (kf3_tr (g_fr_rf _) (g_fr_rf _) (fr_K_X11_laysOrder_70 F R25 y1 y2 y24 b4 hb4)) (kf3_lt (fun x50 _ => (kf3_lt (fun x52 _ => (kf3_lt (fun R55 zR55 => (kf3_lt (fun x57 _ => (kf3_tr (g_fr_rf _) (kf_r (g_fr_rf _) rfl zR55) (hb23 R55 x57))))))))))))))))))))
theorem fr_K_X11_laysOrder_23 (F : Nat → Int32) (y1 : Int32) (y2 : Int32) (b4 : (Nat → Nat → Int32) → (Int32) → (Int32) → Int32 × (Nat → Int32) × (Nat → Nat → Int32)) (hb4 : ∀ (R3 : Nat → Nat → Int32) (y1 : Int32) (y2 : Int32), kf3 md_X11_laysOrder mr_X11_laysOrder F R3 (b4 R3 y1 y2)) : ∀ (n : Nat) (R25 : Nat → Nat → Int32) (y24 : Int32), kf3 md_X11_laysOrder mr_X11_laysOrder F R25 (K_X11_laysOrder_23 b4 F y1 y2 n R25 y24)
  | 0, R25, y24 => ⟨g_fr_rf _, g_fr_rf _⟩
  | n + 1, R25, y24 => fr_KB_X11_laysOrder_23 F y1 y2 R25 y24 (K_X11_laysOrder_23 b4 F y1 y2 n) (fr_K_X11_laysOrder_23 F y1 y2 b4 hb4 n) b4 hb4
theorem fr_KB_X11_laysOrder_4 (F : Nat → Int32) (R3 : Nat → Nat → Int32) (y1 : Int32) (y2 : Int32) (b4 : (Nat → Nat → Int32) → (Int32) → (Int32) → Int32 × (Nat → Int32) × (Nat → Nat → Int32)) (hb4 : ∀ (R3 : Nat → Nat → Int32) (y1 : Int32) (y2 : Int32), kf3 md_X11_laysOrder mr_X11_laysOrder F R3 (b4 R3 y1 y2)) : kf3 md_X11_laysOrder mr_X11_laysOrder F R3 (KB_X11_laysOrder_4 b4 F R3 y1 y2) := by
  unfold KB_X11_laysOrder_4
  exact (kf3_ite ⟨(g_fr_rf _), (g_fr_rf _)⟩ (kf3_lt (fun r10 _ => (kf3_ite (kf3_tr (g_fr_rf _) (g_fr_rf _) (fr_K_X11_laysOrder_81 F y2 R3 y1 b4 hb4)) (kf3_tr (g_fr_rf _) (g_fr_rf _) (fr_K_X11_laysOrder_23 F y1 y2 b4 hb4 8589934592 R3 y1))))))
theorem fr_K_X11_laysOrder_4 (F : Nat → Int32) : ∀ (n : Nat) (R3 : Nat → Nat → Int32) (y1 : Int32) (y2 : Int32), kf3 md_X11_laysOrder mr_X11_laysOrder F R3 (K_X11_laysOrder_4 F n R3 y1 y2)
  | 0, R3, y1, y2 => ⟨g_fr_rf _, g_fr_rf _⟩
  | n + 1, R3, y1, y2 => fr_KB_X11_laysOrder_4 F R3 y1 y2 (K_X11_laysOrder_4 F n) (fr_K_X11_laysOrder_4 F n)
theorem fr_sp_X11_laysOrder (F : Nat → Int32) (R : Nat → Nat → Int32) : kf3 md_X11_laysOrder mr_X11_laysOrder F R (sp_X11_laysOrder F R) := by
  unfold sp_X11_laysOrder
  exact (kf3_tr (g_fr_rf _) (g_fr_rf _) (fr_K_X11_laysOrder_4 F 8589934592 R 0 0))
theorem fr_KB_X11_slipsNow_92 (F : Nat → Int32) (F8 : Nat → Int32) (y7 : Int32) (R10 : Nat → Nat → Int32) (y9 : Int32) (b92 : (Nat → Nat → Int32) → (Int32) → Int32 × (Nat → Int32) × (Nat → Nat → Int32)) (hb92 : ∀ (R10 : Nat → Nat → Int32) (y9 : Int32), kf3 md_X11_slipsNow mr_X11_slipsNow F8 R10 (b92 R10 y9)) : kf3 md_X11_slipsNow mr_X11_slipsNow F8 R10 (KB_X11_slipsNow_92 b92 F F8 y7 R10 y9) := by
  unfold KB_X11_slipsNow_92
  exact (kf3_ite (kf3_lt (fun R14 zR14 => (kf3_lt (fun r16 _ => (kf3_lt (fun R21 zR21 => (kf3_lt (fun R23 zR23 => (kf3_lt3 (fun r25 F29 R30 zF29 => ⟨(kf3_F (g_fr_rf _) (fr_sp_X11_byLaw F8 R23 104 0 40) zF29 rfl), (kf3_R (kf_r (kf_r (kf_r (g_fr_rf _) rfl zR14) rfl zR21) rfl zR23) (fr_sp_X11_byLaw F8 R23 104 0 40) zF29 rfl)⟩)))))))))) (kf3_lt (fun R34 zR34 => (kf3_lt (fun x36 _ => (kf3_tr (g_fr_rf _) (kf_r (g_fr_rf _) rfl zR34) (hb92 R34 x36)))))))
theorem fr_K_X11_slipsNow_92 (F : Nat → Int32) (F8 : Nat → Int32) (y7 : Int32) : ∀ (n : Nat) (R10 : Nat → Nat → Int32) (y9 : Int32), kf3 md_X11_slipsNow mr_X11_slipsNow F8 R10 (K_X11_slipsNow_92 F F8 y7 n R10 y9)
  | 0, R10, y9 => ⟨g_fr_rf _, g_fr_rf _⟩
  | n + 1, R10, y9 => fr_KB_X11_slipsNow_92 F F8 y7 R10 y9 (K_X11_slipsNow_92 F F8 y7 n) (fr_K_X11_slipsNow_92 F F8 y7 n)
theorem fr_K_X11_slipsNow_90 (F : Nat → Int32) (R : Nat → Nat → Int32) (F8 : Nat → Int32) (y7 : Int32) : kf3 md_X11_slipsNow mr_X11_slipsNow F8 R (K_X11_slipsNow_90 F R F8 y7) := by
  unfold K_X11_slipsNow_90
  exact (kf3_tr (g_fr_rf _) (g_fr_rf _) (fr_K_X11_slipsNow_92 F F8 y7 8589934592 R 0))
theorem fr_K_X11_slipsNow_33 (F : Nat → Int32) (R : Nat → Nat → Int32) : kf3 md_X11_slipsNow mr_X11_slipsNow F R (K_X11_slipsNow_33 F R) := by
  unfold K_X11_slipsNow_33
  exact (kf3_lt (fun x5 _ => (kf3_ite (kf3_lt (fun x41 _ => (kf3_lt (fun F43 zF43 => (kf3_tr (kf_u (g_fr_rf _) rfl zF43) (g_fr_rf _) (fr_K_X11_slipsNow_90 F R F43 x5)))))) (kf3_lt (fun x47 _ => (kf3_lt (fun x49 _ => (kf3_lt (fun x51 _ => (kf3_lt (fun F53 zF53 => (kf3_lt (fun x55 _ => (kf3_tr (kf_u (g_fr_rf _) rfl zF53) (g_fr_rf _) (fr_K_X11_slipsNow_90 F R F53 x55)))))))))))))))
theorem fr_sp_X11_slipsNow (F : Nat → Int32) (R : Nat → Nat → Int32) : kf3 md_X11_slipsNow mr_X11_slipsNow F R (sp_X11_slipsNow F R) := by
  unfold sp_X11_slipsNow
  exact (kf3_ite (kf3_ite (kf3_ite (kf3_tr (g_fr_rf _) (g_fr_rf _) (fr_K_X11_slipsNow_33 F R)) ⟨(g_fr_rf _), (g_fr_rf _)⟩) (kf3_tr (g_fr_rf _) (g_fr_rf _) (fr_K_X11_slipsNow_33 F R))) ⟨(g_fr_rf _), (g_fr_rf _)⟩)
theorem fr_sp_X11_feels (F : Nat → Int32) (R : Nat → Nat → Int32) (a0 : Int32) : kf2 md_X11_feels mr_X11_feels F R (sp_X11_feels F R a0) := by
  unfold sp_X11_feels
  exact (kf2_lt (fun R1 zR1 => (kf2_lt (fun r3 _ => (kf2_lt (fun R8 zR8 => (kf2_lt (fun R10 zR10 => (kf2_lt (fun R12 zR12 => (kf2_lt (fun x14 _ => (kf2_lt (fun R16 zR16 => (kf2_lt (fun x18 _ => (kf2_lt (fun R20 zR20 => (kf2_lt (fun x22 _ => (kf2_lt (fun R25 zR25 => (kf2_lt (fun x27 _ => (kf2_lt (fun R30 zR30 => (kf2_lt (fun x32 _ => (kf2_lt (fun R34 zR34 => (kf2_lt (fun x36 _ => (kf2_lt (fun R38 zR38 => (kf2_lt (fun x40 _ => (kf2_lt (fun R42 zR42 => (kf2_lt (fun R44 zR44 => ⟨(g_fr_rf _), (kf_r (kf_r (kf_r (kf_r (kf_r (kf_r (kf_r (kf_r (kf_r (kf_r (kf_r (kf_r (g_fr_rf _) rfl zR1) rfl zR8) rfl zR10) rfl zR12) rfl zR16) rfl zR20) rfl zR25) rfl zR30) rfl zR34) rfl zR38) rfl zR42) rfl zR44)⟩))))))))))))))))))))))))))))))))))))))))
theorem fr_K_X11_hurries_231 (F50 : Nat → Int32) (R51 : Nat → Nat → Int32) : kf2 md_X11_hurries mr_X11_hurries F50 R51 (K_X11_hurries_231 F50 R51) := by
  unfold K_X11_hurries_231
  exact ⟨(g_fr_rf _), (g_fr_rf _)⟩
theorem fr_K_X11_hurries_217 (a0 : Int32) (y38 : Int32) (F50 : Nat → Int32) (R51 : Nat → Nat → Int32) : kf2 md_X11_hurries mr_X11_hurries F50 R51 (K_X11_hurries_217 a0 y38 F50 R51) := by
  unfold K_X11_hurries_217
  exact (kf2_ite (kf2_tr (g_fr_rf _) (g_fr_rf _) (fr_K_X11_hurries_231 F50 R51)) (kf2_lt (fun x57 _ => (kf2_ite (kf2_tr (g_fr_rf _) (g_fr_rf _) (fr_K_X11_hurries_231 F50 R51)) (kf2_lt (fun x61 _ => (kf2_lt (fun x63 _ => (kf2_lt (fun R65 zR65 => (kf2_lt (fun x67 _ => (kf2_lt (fun x69 _ => (kf2_lt (fun F71 zF71 => ⟨(kf_u (g_fr_rf _) rfl zF71), (kf_r (g_fr_rf _) rfl zR65)⟩))))))))))))))))
theorem fr_K_X11_hurries_145 (F15 : Nat → Int32) (F35 : Nat → Int32) (R36 : Nat → Nat → Int32) (a0 : Int32) (r19 : Int32) (r24 : Int32) (y14 : Int32) (y38 : Int32) : kf2 md_X11_hurries mr_X11_hurries F35 R36 (K_X11_hurries_145 F15 F35 R36 a0 r19 r24 y14 y38) := by
  unfold K_X11_hurries_145
  exact (kf2_lt (fun R39 zR39 => (kf2_lt (fun x41 _ => (kf2_lt (fun x43 _ => (kf2_lt (fun x45 _ => (kf2_lt (fun x48 _ => (kf2_ite (kf2_lt (fun x77 _ => (kf2_ite (kf2_tr (g_fr_rf _) (kf_r (g_fr_rf _) rfl zR39) (fr_K_X11_hurries_217 a0 y38 F35 R39)) (kf2_lt (fun x84 _ => (kf2_lt (fun x86 _ => (kf2_lt (fun F88 zF88 => (kf2_tr (kf_u (g_fr_rf _) rfl zF88) (kf_r (g_fr_rf _) rfl zR39) (fr_K_X11_hurries_217 a0 y38 F88 R39))))))))))) (kf2_lt (fun R93 zR93 => (kf2_lt (fun R95 zR95 => (kf2_tr (g_fr_rf _) (kf_r (kf_r (kf_r (g_fr_rf _) rfl zR39) rfl zR93) rfl zR95) (fr_K_X11_hurries_217 a0 y38 F35 R95)))))))))))))))))
theorem fr_K_X11_hurries_106 (a0 : Int32) (x8 : Int32) (F15 : Nat → Int32) (R16 : Nat → Nat → Int32) (y14 : Int32) : kf2 md_X11_hurries mr_X11_hurries F15 R16 (K_X11_hurries_106 a0 x8 F15 R16 y14) := by
  unfold K_X11_hurries_106
  exact (kf2_lt (fun x17 _ => (kf2_lt (fun r19 _ => (kf2_lt3 (fun r24 F28 R29 zF28 => (kf2_lt3 (fun r31 F35 R36 zF35 => (kf2_ite (kf2_tr (kf3_F (kf3_F (g_fr_rf _) (fr_sp_X11_byLaw F15 R16 98 0 999) zF28 rfl) (fr_sp_X11_byLaw F28 R29 122 0 99) zF35 rfl) (kf3_R (kf3_R (g_fr_rf _) (fr_sp_X11_byLaw F15 R16 98 0 999) zF28 rfl) (fr_sp_X11_byLaw F28 R29 122 0 99) zF35 rfl) (fr_K_X11_hurries_145 F15 F35 R36 a0 r19 r24 y14 0)) (kf2_tr (kf3_F (kf3_F (g_fr_rf _) (fr_sp_X11_byLaw F15 R16 98 0 999) zF28 rfl) (fr_sp_X11_byLaw F28 R29 122 0 99) zF35 rfl) (kf3_R (kf3_R (g_fr_rf _) (fr_sp_X11_byLaw F15 R16 98 0 999) zF28 rfl) (fr_sp_X11_byLaw F28 R29 122 0 99) zF35 rfl) (fr_K_X11_hurries_145 F15 F35 R36 a0 r19 r24 y14 1)))))))))))
theorem fr_K_X11_hurries_85 (a0 : Int32) (x8 : Int32) (y122 : Int32) (F133 : Nat → Int32) (R134 : Nat → Nat → Int32) (y132 : Int32) : kf2 md_X11_hurries mr_X11_hurries F133 R134 (K_X11_hurries_85 a0 x8 y122 F133 R134 y132) := by
  unfold K_X11_hurries_85
  exact (kf2_lt (fun x135 _ => (kf2_tr (g_fr_rf _) (g_fr_rf _) (fr_K_X11_hurries_106 a0 x8 F133 R134 x135))))
theorem fr_K_X11_hurries_57 (a0 : Int32) (x8 : Int32) (F123 : Nat → Int32) (R124 : Nat → Nat → Int32) (y122 : Int32) : kf2 md_X11_hurries mr_X11_hurries F123 R124 (K_X11_hurries_57 a0 x8 F123 R124 y122) := by
  unfold K_X11_hurries_57
  exact (kf2_lt (fun x125 _ => (kf2_lt (fun r127 _ => (kf2_ite (kf2_tr (g_fr_rf _) (g_fr_rf _) (fr_K_X11_hurries_85 a0 x8 y122 F123 R124 0)) (kf2_lt3 (fun r142 F146 R147 zF146 => (kf2_tr (kf3_F (g_fr_rf _) (fr_sp_X11_byLaw F123 R124 106 0 40) zF146 rfl) (kf3_R (g_fr_rf _) (fr_sp_X11_byLaw F123 R124 106 0 40) zF146 rfl) (fr_K_X11_hurries_85 a0 x8 y122 F146 R147 r142)))))))))
theorem fr_sp_X11_hurries (F : Nat → Int32) (R : Nat → Nat → Int32) (a0 : Int32) : kf2 md_X11_hurries mr_X11_hurries F R (sp_X11_hurries F R a0) := by
  unfold sp_X11_hurries
  exact (kf2_lt2 (fun F5 R6 zF5 => (kf2_lt (fun x8 _ => (kf2_lt (fun r10 _ => (kf2_ite (kf2_lt3 (fun r105 F109 R110 zF109 => (kf2_lt (fun x112 _ => (kf2_lt (fun r114 _ => (kf2_tr (kf3_F (kf2_F (g_fr_rf _) (fr_sp_X11_feels F R a0) zF5 rfl) (fr_sp_X11_byLaw F5 R6 115 1 40) zF109 rfl) (kf3_R (kf2_R (g_fr_rf _) (fr_sp_X11_feels F R a0) zF5 rfl) (fr_sp_X11_byLaw F5 R6 115 1 40) zF109 rfl) (fr_K_X11_hurries_106 a0 x8 F109 R110 r114)))))))) (kf2_ite (kf2_lt3 (fun r151 F155 R156 zF155 => (kf2_lt (fun x158 _ => (kf2_lt (fun r160 _ => (kf2_tr (kf3_F (kf2_F (g_fr_rf _) (fr_sp_X11_feels F R a0) zF5 rfl) (fr_sp_X11_byLaw F5 R6 97 0 40) zF155 rfl) (kf3_R (kf2_R (g_fr_rf _) (fr_sp_X11_feels F R a0) zF5 rfl) (fr_sp_X11_byLaw F5 R6 97 0 40) zF155 rfl) (fr_K_X11_hurries_57 a0 x8 F155 R156 r160)))))))) (kf2_lt (fun x168 _ => (kf2_tr (kf2_F (g_fr_rf _) (fr_sp_X11_feels F R a0) zF5 rfl) (kf2_R (g_fr_rf _) (fr_sp_X11_feels F R a0) zF5 rfl) (fr_K_X11_hurries_57 a0 x8 F5 R6 x168))))))))))))
theorem fr_K_X11_goes_35 (F : Nat → Int32) (R11 : Nat → Nat → Int32) : kf2 md_X11_goes mr_X11_goes F R11 (K_X11_goes_35 F R11) := by
  unfold K_X11_goes_35
  exact ⟨(g_fr_rf _), (g_fr_rf _)⟩
theorem fr_sp_X11_goes (F : Nat → Int32) (R : Nat → Nat → Int32) (a0 : Int32) : kf2 md_X11_goes mr_X11_goes F R (sp_X11_goes F R a0) := by
  unfold sp_X11_goes
  exact (kf2_lt (fun x1 _ => (kf2_lt (fun x3 _ => (kf2_lt (fun x5 _ => (kf2_lt (fun R7 zR7 => (kf2_lt (fun x9 _ => (kf2_ite (kf2_tr (g_fr_rf _) (kf_r (g_fr_rf _) rfl zR7) (fr_K_X11_goes_35 F R7)) (kf2_lt (fun R17 zR17 => (kf2_tr (g_fr_rf _) (kf_r (kf_r (g_fr_rf _) rfl zR7) rfl zR17) (fr_K_X11_goes_35 F R17)))))))))))))))
theorem fr_K_X11_counts_98 (F : Nat → Int32) (R17 : Nat → Nat → Int32) : kf2 md_X11_counts mr_X11_counts F R17 (K_X11_counts_98 F R17) := by
  unfold K_X11_counts_98
  exact ⟨(g_fr_rf _), (g_fr_rf _)⟩
theorem fr_sp_X11_counts (F : Nat → Int32) (R : Nat → Nat → Int32) (a0 : Int32) : kf2 md_X11_counts mr_X11_counts F R (sp_X11_counts F R a0) := by
  unfold sp_X11_counts
  exact (kf2_lt (fun x1 _ => (kf2_lt (fun x3 _ => (kf2_lt (fun x5 _ => (kf2_lt (fun x7 _ => (kf2_lt (fun x9 _ => (kf2_lt (fun R11 zR11 => (kf2_lt (fun r13 _ => (kf2_ite (kf2_lt (fun r21 _ => (kf2_ite (kf2_lt (fun x28 _ => (kf2_lt (fun x30 _ => (kf2_lt (fun R32 zR32 => (kf2_tr (g_fr_rf _) (kf_r (kf_r (g_fr_rf _) rfl zR11) rfl zR32) (fr_K_X11_counts_98 F R32)))))))) (kf2_lt (fun x37 _ => (kf2_lt (fun x39 _ => (kf2_lt (fun R41 zR41 => (kf2_tr (g_fr_rf _) (kf_r (kf_r (g_fr_rf _) rfl zR11) rfl zR41) (fr_K_X11_counts_98 F R41))))))))))) (kf2_lt (fun x46 _ => (kf2_lt (fun x48 _ => (kf2_lt (fun R50 zR50 => (kf2_tr (g_fr_rf _) (kf_r (kf_r (g_fr_rf _) rfl zR11) rfl zR50) (fr_K_X11_counts_98 F R50)))))))))))))))))))))))
theorem fr_K_X11_meet_48 (F : Nat → Int32) (R : Nat → Nat → Int32) : kf2 md_X11_meet mr_X11_meet F R (K_X11_meet_48 F R) := by
  unfold K_X11_meet_48
  exact ⟨(g_fr_rf _), (g_fr_rf _)⟩
theorem fr_sp_X11_meet (F : Nat → Int32) (R : Nat → Nat → Int32) (a0 : Int32) (a1 : Int32) : kf2 md_X11_meet mr_X11_meet F R (sp_X11_meet F R a0 a1) := by
  unfold sp_X11_meet
  exact (kf2_lt (fun x1 _ => (kf2_lt (fun x4 _ => (kf2_lt (fun x7 _ => (kf2_lt (fun x9 _ => (kf2_lt (fun x11 _ => (kf2_lt (fun x13 _ => (kf2_lt (fun x15 _ => (kf2_ite (kf2_tr (g_fr_rf _) (g_fr_rf _) (fr_K_X11_meet_48 F R)) (kf2_lt (fun x22 _ => (kf2_lt (fun x24 _ => (kf2_ite (kf2_lt (fun x30 _ => (kf2_lt (fun x32 _ => (kf2_lt (fun x35 _ => (kf2_lt (fun x37 _ => (kf2_lt (fun x39 _ => (kf2_lt (fun x42 _ => (kf2_lt (fun x44 _ => (kf2_lt (fun x46 _ => (kf2_lt (fun x49 _ => (kf2_lt (fun x52 _ => (kf2_lt (fun x54 _ => (kf2_lt (fun R56 zR56 => (kf2_lt (fun R58 zR58 => (kf2_lt (fun x60 _ => (kf2_lt (fun x62 _ => (kf2_lt (fun x64 _ => (kf2_lt (fun r66 _ => (kf2_lt (fun R71 zR71 => (kf2_lt (fun x73 _ => (kf2_lt (fun x75 _ => (kf2_lt (fun x77 _ => (kf2_lt (fun x79 _ => (kf2_lt (fun F81 zF81 => ⟨(kf_u (g_fr_rf _) rfl zF81), (kf_r (kf_r (kf_r (g_fr_rf _) rfl zR56) rfl zR58) rfl zR71)⟩)))))))))))))))))))))))))))))))))))))))))))))) (kf2_tr (g_fr_rf _) (g_fr_rf _) (fr_K_X11_meet_48 F R))))))))))))))))))))))
theorem fr_K_X11_ticks_236 (y69 : Int32) (F93 : Nat → Int32) (R94 : Nat → Nat → Int32) (b217 : (Nat → Int32) → (Nat → Nat → Int32) → (Int32) → (Nat → Int32) × (Nat → Nat → Int32)) (hb217 : ∀ (F70 : Nat → Int32) (R71 : Nat → Nat → Int32) (y69 : Int32), kf2 md_X11_ticks mr_X11_ticks F70 R71 (b217 F70 R71 y69)) : kf2 md_X11_ticks mr_X11_ticks F93 R94 (K_X11_ticks_236 b217 y69 F93 R94) := by
  unfold K_X11_ticks_236
  exact (kf2_lt (fun x95 _ => (kf2_tr (g_fr_rf _) (g_fr_rf _) (hb217 F93 R94 x95))))
theorem fr_KB_X11_ticks_217 (y35 : Int32) (F70 : Nat → Int32) (R71 : Nat → Nat → Int32) (y69 : Int32) (b217 : (Nat → Int32) → (Nat → Nat → Int32) → (Int32) → (Nat → Int32) × (Nat → Nat → Int32)) (hb217 : ∀ (F70 : Nat → Int32) (R71 : Nat → Nat → Int32) (y69 : Int32), kf2 md_X11_ticks mr_X11_ticks F70 R71 (b217 F70 R71 y69)) : kf2 md_X11_ticks mr_X11_ticks F70 R71 (KB_X11_ticks_217 b217 y35 F70 R71 y69) := by
  unfold KB_X11_ticks_217
  exact (kf2_ite (kf2_lt (fun x75 _ => (kf2_lt (fun F77 zF77 => (kf2_lt (fun x79 _ => (kf2_lt (fun F81 zF81 => (kf2_lt (fun x83 _ => (kf2_lt (fun F85 zF85 => ⟨(kf_u (kf_u (kf_u (g_fr_rf _) rfl zF77) rfl zF81) rfl zF85), (g_fr_rf _)⟩)))))))))))) (kf2_lt (fun r89 _ => (kf2_ite (kf2_tr (g_fr_rf _) (g_fr_rf _) (fr_K_X11_ticks_236 y69 F70 R71 b217 hb217)) (kf2_lt2 (fun F107 R108 zF107 => (kf2_tr (kf2_F (g_fr_rf _) (fr_sp_X11_counts F70 R71 y69) zF107 rfl) (kf2_R (g_fr_rf _) (fr_sp_X11_counts F70 R71 y69) zF107 rfl) (fr_K_X11_ticks_236 y69 F107 R108 b217 hb217))))))))
theorem fr_K_X11_ticks_217 (y35 : Int32) : ∀ (n : Nat) (F70 : Nat → Int32) (R71 : Nat → Nat → Int32) (y69 : Int32), kf2 md_X11_ticks mr_X11_ticks F70 R71 (K_X11_ticks_217 y35 n F70 R71 y69)
  | 0, F70, R71, y69 => ⟨g_fr_rf _, g_fr_rf _⟩
  | n + 1, F70, R71, y69 => fr_KB_X11_ticks_217 y35 F70 R71 y69 (K_X11_ticks_217 y35 n) (fr_K_X11_ticks_217 y35 n)
theorem fr_KB_X11_ticks_184 (r54 : Int32) (y35 : Int32) (F63 : Nat → Int32) (R64 : Nat → Nat → Int32) (y62 : Int32) (b184 : (Nat → Int32) → (Nat → Nat → Int32) → (Int32) → (Nat → Int32) × (Nat → Nat → Int32)) (hb184 : ∀ (F63 : Nat → Int32) (R64 : Nat → Nat → Int32) (y62 : Int32), kf2 md_X11_ticks mr_X11_ticks F63 R64 (b184 F63 R64 y62)) : kf2 md_X11_ticks mr_X11_ticks F63 R64 (KB_X11_ticks_184 b184 r54 y35 F63 R64 y62) := by
  unfold KB_X11_ticks_184
  exact (kf2_lt (fun x65 _ => (kf2_ite (kf2_tr (g_fr_rf _) (g_fr_rf _) (fr_K_X11_ticks_217 y35 8589934592 F63 R64 0)) (kf2_lt (fun x114 _ => (kf2_lt (fun x117 _ => (kf2_lt (fun x119 _ => (kf2_lt2 (fun F126 R127 zF126 => (kf2_lt (fun x129 _ => (kf2_tr (kf2_F (g_fr_rf _) (fr_sp_X11_meet F63 R64 x114 x119) zF126 rfl) (kf2_R (g_fr_rf _) (fr_sp_X11_meet F63 R64 x114 x119) zF126 rfl) (hb184 F126 R127 x129)))))))))))))))
theorem fr_K_X11_ticks_184 (r54 : Int32) (y35 : Int32) : ∀ (n : Nat) (F63 : Nat → Int32) (R64 : Nat → Nat → Int32) (y62 : Int32), kf2 md_X11_ticks mr_X11_ticks F63 R64 (K_X11_ticks_184 r54 y35 n F63 R64 y62)
  | 0, F63, R64, y62 => ⟨g_fr_rf _, g_fr_rf _⟩
  | n + 1, F63, R64, y62 => fr_KB_X11_ticks_184 r54 y35 F63 R64 y62 (K_X11_ticks_184 r54 y35 n) (fr_K_X11_ticks_184 r54 y35 n)
theorem fr_K_X11_ticks_171 (y48 : Int32) (F137 : Nat → Int32) (R138 : Nat → Nat → Int32) (b143 : (Nat → Int32) → (Nat → Nat → Int32) → (Int32) → (Nat → Int32) × (Nat → Nat → Int32)) (hb143 : ∀ (F49 : Nat → Int32) (R50 : Nat → Nat → Int32) (y48 : Int32), kf2 md_X11_ticks mr_X11_ticks F49 R50 (b143 F49 R50 y48)) : kf2 md_X11_ticks mr_X11_ticks F137 R138 (K_X11_ticks_171 b143 y48 F137 R138) := by
  unfold K_X11_ticks_171
  exact (kf2_lt (fun x139 _ => (kf2_tr (g_fr_rf _) (g_fr_rf _) (hb143 F137 R138 x139))))
theorem fr_KB_X11_ticks_143 (y35 : Int32) (F49 : Nat → Int32) (R50 : Nat → Nat → Int32) (y48 : Int32) (b143 : (Nat → Int32) → (Nat → Nat → Int32) → (Int32) → (Nat → Int32) × (Nat → Nat → Int32)) (hb143 : ∀ (F49 : Nat → Int32) (R50 : Nat → Nat → Int32) (y48 : Int32), kf2 md_X11_ticks mr_X11_ticks F49 R50 (b143 F49 R50 y48)) : kf2 md_X11_ticks mr_X11_ticks F49 R50 (KB_X11_ticks_143 b143 y35 F49 R50 y48) := by
  unfold KB_X11_ticks_143
  exact (kf2_ite (kf2_lt3 (fun r54 F59 R60 zF59 => (kf2_tr (kf3_F (g_fr_rf _) (fr_sp_X11_laysOrder F49 R50) zF59 rfl) (kf3_R (g_fr_rf _) (fr_sp_X11_laysOrder F49 R50) zF59 rfl) (fr_K_X11_ticks_184 r54 y35 8589934592 F59 R60 0)))) (kf2_lt (fun r133 _ => (kf2_ite (kf2_tr (g_fr_rf _) (g_fr_rf _) (fr_K_X11_ticks_171 y48 F49 R50 b143 hb143)) (kf2_lt (fun x147 _ => (kf2_ite (kf2_lt2 (fun F157 R158 zF157 => (kf2_tr (kf2_F (g_fr_rf _) (fr_sp_X11_goes F49 R50 y48) zF157 rfl) (kf2_R (g_fr_rf _) (fr_sp_X11_goes F49 R50 y48) zF157 rfl) (fr_K_X11_ticks_171 y48 F157 R158 b143 hb143)))) (kf2_tr (g_fr_rf _) (g_fr_rf _) (fr_K_X11_ticks_171 y48 F49 R50 b143 hb143)))))))))
theorem fr_K_X11_ticks_143 (y35 : Int32) : ∀ (n : Nat) (F49 : Nat → Int32) (R50 : Nat → Nat → Int32) (y48 : Int32), kf2 md_X11_ticks mr_X11_ticks F49 R50 (K_X11_ticks_143 y35 n F49 R50 y48)
  | 0, F49, R50, y48 => ⟨g_fr_rf _, g_fr_rf _⟩
  | n + 1, F49, R50, y48 => fr_KB_X11_ticks_143 y35 F49 R50 y48 (K_X11_ticks_143 y35 n) (fr_K_X11_ticks_143 y35 n)
theorem fr_K_X11_ticks_135 (y42 : Int32) (F166 : Nat → Int32) (R167 : Nat → Nat → Int32) (b116 : (Nat → Int32) → (Nat → Nat → Int32) → (Int32) → (Nat → Int32) × (Nat → Nat → Int32)) (hb116 : ∀ (F43 : Nat → Int32) (R44 : Nat → Nat → Int32) (y42 : Int32), kf2 md_X11_ticks mr_X11_ticks F43 R44 (b116 F43 R44 y42)) : kf2 md_X11_ticks mr_X11_ticks F166 R167 (K_X11_ticks_135 b116 y42 F166 R167) := by
  unfold K_X11_ticks_135
  exact (kf2_lt (fun x168 _ => (kf2_tr (g_fr_rf _) (g_fr_rf _) (hb116 F166 R167 x168))))
theorem fr_KB_X11_ticks_116 (y35 : Int32) (F43 : Nat → Int32) (R44 : Nat → Nat → Int32) (y42 : Int32) (b116 : (Nat → Int32) → (Nat → Nat → Int32) → (Int32) → (Nat → Int32) × (Nat → Nat → Int32)) (hb116 : ∀ (F43 : Nat → Int32) (R44 : Nat → Nat → Int32) (y42 : Int32), kf2 md_X11_ticks mr_X11_ticks F43 R44 (b116 F43 R44 y42)) : kf2 md_X11_ticks mr_X11_ticks F43 R44 (KB_X11_ticks_116 b116 y35 F43 R44 y42) := by
  unfold KB_X11_ticks_116
  exact (kf2_ite (kf2_tr (g_fr_rf _) (g_fr_rf _) (fr_K_X11_ticks_143 y35 8589934592 F43 R44 0)) (kf2_lt (fun r162 _ => (kf2_ite (kf2_tr (g_fr_rf _) (g_fr_rf _) (fr_K_X11_ticks_135 y42 F43 R44 b116 hb116)) (kf2_lt2 (fun F180 R181 zF180 => (kf2_tr (kf2_F (g_fr_rf _) (fr_sp_X11_hurries F43 R44 y42) zF180 rfl) (kf2_R (g_fr_rf _) (fr_sp_X11_hurries F43 R44 y42) zF180 rfl) (fr_K_X11_ticks_135 y42 F180 R181 b116 hb116))))))))
theorem fr_K_X11_ticks_116 (y35 : Int32) : ∀ (n : Nat) (F43 : Nat → Int32) (R44 : Nat → Nat → Int32) (y42 : Int32), kf2 md_X11_ticks mr_X11_ticks F43 R44 (K_X11_ticks_116 y35 n F43 R44 y42)
  | 0, F43, R44, y42 => ⟨g_fr_rf _, g_fr_rf _⟩
  | n + 1, F43, R44, y42 => fr_KB_X11_ticks_116 y35 F43 R44 y42 (K_X11_ticks_116 y35 n) (fr_K_X11_ticks_116 y35 n)
theorem fr_K_X11_ticks_108 (y36 : Int32) (F192 : Nat → Int32) (R193 : Nat → Nat → Int32) (y191 : Int32) (b48 : (Nat → Int32) → (Nat → Nat → Int32) → (Int32) → (Int32) → (Nat → Int32) × (Nat → Nat → Int32)) (hb48 : ∀ (F37 : Nat → Int32) (R38 : Nat → Nat → Int32) (y35 : Int32) (y36 : Int32), kf2 md_X11_ticks mr_X11_ticks F37 R38 (b48 F37 R38 y35 y36)) : kf2 md_X11_ticks mr_X11_ticks F192 R193 (K_X11_ticks_108 b48 y36 F192 R193 y191) := by
  unfold K_X11_ticks_108
  exact (kf2_lt (fun x194 _ => (kf2_tr (g_fr_rf _) (g_fr_rf _) (hb48 F192 R193 y191 x194))))
theorem fr_KB_X11_ticks_48 (F37 : Nat → Int32) (R38 : Nat → Nat → Int32) (y35 : Int32) (y36 : Int32) (b48 : (Nat → Int32) → (Nat → Nat → Int32) → (Int32) → (Int32) → (Nat → Int32) × (Nat → Nat → Int32)) (hb48 : ∀ (F37 : Nat → Int32) (R38 : Nat → Nat → Int32) (y35 : Int32) (y36 : Int32), kf2 md_X11_ticks mr_X11_ticks F37 R38 (b48 F37 R38 y35 y36)) : kf2 md_X11_ticks mr_X11_ticks F37 R38 (KB_X11_ticks_48 b48 F37 R38 y35 y36) := by
  unfold KB_X11_ticks_48
  exact (kf2_ite (kf2_tr (g_fr_rf _) (g_fr_rf _) (fr_K_X11_ticks_116 y35 8589934592 F37 R38 0)) (kf2_lt (fun r185 _ => (kf2_ite (kf2_tr (g_fr_rf _) (g_fr_rf _) (fr_K_X11_ticks_108 y36 F37 R38 y35 b48 hb48)) (kf2_lt (fun x199 _ => (kf2_lt (fun x201 _ => (kf2_lt (fun x203 _ => (kf2_lt (fun R205 zR205 => (kf2_lt (fun x207 _ => (kf2_ite (kf2_tr (g_fr_rf _) (kf_r (g_fr_rf _) rfl zR205) (fr_K_X11_ticks_108 y36 F37 R205 x201 b48 hb48)) (kf2_lt (fun x214 _ => (kf2_lt (fun x216 _ => (kf2_lt (fun F218 zF218 => (kf2_tr (kf_u (g_fr_rf _) rfl zF218) (kf_r (g_fr_rf _) rfl zR205) (fr_K_X11_ticks_108 y36 F218 R205 x201 b48 hb48)))))))))))))))))))))))
theorem fr_K_X11_ticks_48  : ∀ (n : Nat) (F37 : Nat → Int32) (R38 : Nat → Nat → Int32) (y35 : Int32) (y36 : Int32), kf2 md_X11_ticks mr_X11_ticks F37 R38 (K_X11_ticks_48  n F37 R38 y35 y36)
  | 0, F37, R38, y35, y36 => ⟨g_fr_rf _, g_fr_rf _⟩
  | n + 1, F37, R38, y35, y36 => fr_KB_X11_ticks_48 F37 R38 y35 y36 (K_X11_ticks_48  n) (fr_K_X11_ticks_48  n)
theorem fr_sp_X11_ticks (F : Nat → Int32) (R : Nat → Nat → Int32) : kf2 md_X11_ticks mr_X11_ticks F R (sp_X11_ticks F R) := by
  unfold sp_X11_ticks
  exact (kf2_lt (fun r1 _ => (kf2_lt3 (fun r6 F10 R11 zF10 => (kf2_lt (fun x13 _ => (kf2_lt (fun r15 _ => (kf2_lt (fun F20 zF20 => (kf2_lt (fun x22 _ => (kf2_lt (fun r24 _ => (kf2_lt (fun F29 zF29 => (kf2_lt (fun F31 zF31 => (kf2_lt (fun F33 zF33 => (kf2_tr (kf_u (kf_u (kf_u (kf_u (kf3_F (g_fr_rf _) (fr_sp_X11_slipsNow F R) zF10 rfl) rfl zF20) rfl zF29) rfl zF31) rfl zF33) (kf3_R (g_fr_rf _) (fr_sp_X11_slipsNow F R) zF10 rfl) (fr_K_X11_ticks_48 8589934592 F33 R11 0 0))))))))))))))))))))))
theorem fr_KB_X11_begins_35 (F11 : Nat → Int32) (R14 : Nat → Nat → Int32) (y13 : Int32) (b35 : (Nat → Nat → Int32) → (Int32) → (Nat → Int32) × (Nat → Nat → Int32)) (hb35 : ∀ (R14 : Nat → Nat → Int32) (y13 : Int32), kf2 md_X11_begins mr_X11_begins F11 R14 (b35 R14 y13)) : kf2 md_X11_begins mr_X11_begins F11 R14 (KB_X11_begins_35 b35 F11 R14 y13) := by
  unfold KB_X11_begins_35
  exact (kf2_ite ⟨(g_fr_rf _), (g_fr_rf _)⟩ (kf2_lt (fun R20 zR20 => (kf2_lt (fun R22 zR22 => (kf2_lt (fun x24 _ => (kf2_lt (fun R26 zR26 => (kf2_lt (fun x28 _ => (kf2_lt (fun R30 zR30 => (kf2_lt (fun R32 zR32 => (kf2_lt (fun R34 zR34 => (kf2_lt (fun R36 zR36 => (kf2_lt (fun R38 zR38 => (kf2_lt (fun x40 _ => (kf2_tr (g_fr_rf _) (kf_r (kf_r (kf_r (kf_r (kf_r (kf_r (kf_r (kf_r (g_fr_rf _) rfl zR20) rfl zR22) rfl zR26) rfl zR30) rfl zR32) rfl zR34) rfl zR36) rfl zR38) (hb35 R38 x40)))))))))))))))))))))))))
theorem fr_K_X11_begins_35 (F11 : Nat → Int32) : ∀ (n : Nat) (R14 : Nat → Nat → Int32) (y13 : Int32), kf2 md_X11_begins mr_X11_begins F11 R14 (K_X11_begins_35 F11 n R14 y13)
  | 0, R14, y13 => ⟨g_fr_rf _, g_fr_rf _⟩
  | n + 1, R14, y13 => fr_KB_X11_begins_35 F11 R14 y13 (K_X11_begins_35 F11 n) (fr_K_X11_begins_35 F11 n)
theorem fr_sp_X11_begins (F : Nat → Int32) (R : Nat → Nat → Int32) : kf2 md_X11_begins mr_X11_begins F R (sp_X11_begins F R) := by
  unfold sp_X11_begins
  exact (kf2_lt (fun F1 zF1 => (kf2_lt (fun F3 zF3 => (kf2_lt (fun F5 zF5 => (kf2_lt (fun F7 zF7 => (kf2_lt (fun F9 zF9 => (kf2_lt (fun F11 zF11 => (kf2_tr (kf_u (kf_u (kf_u (kf_u (kf_u (kf_u (g_fr_rf _) rfl zF1) rfl zF3) rfl zF5) rfl zF7) rfl zF9) rfl zF11) (g_fr_rf _) (fr_K_X11_begins_35 F11 8589934592 R 0))))))))))))))
theorem fr_K_X11_runs_39 (F8 : Nat → Int32) (R9 : Nat → Nat → Int32) : kf2 md_X11_runs mr_X11_runs F8 R9 (K_X11_runs_39 F8 R9) := by
  unfold K_X11_runs_39
  exact ⟨(g_fr_rf _), (g_fr_rf _)⟩
theorem fr_K_X11_runs_32 (F8 : Nat → Int32) (R9 : Nat → Nat → Int32) (b4 : (Nat → Int32) → (Nat → Nat → Int32) → (Nat → Int32) × (Nat → Nat → Int32)) (hb4 : ∀ (F8 : Nat → Int32) (R9 : Nat → Nat → Int32), kf2 md_X11_runs mr_X11_runs F8 R9 (b4 F8 R9)) : kf2 md_X11_runs mr_X11_runs F8 R9 (K_X11_runs_32 b4 F8 R9) := by
  unfold K_X11_runs_32
  exact (kf2_lt2 (fun F20 R21 zF20 => (kf2_tr (kf2_F (g_fr_rf _) (fr_sp_X11_ticks F8 R9) zF20 rfl) (kf2_R (g_fr_rf _) (fr_sp_X11_ticks F8 R9) zF20 rfl) (hb4 F20 R21))))
theorem fr_KB_X11_runs_4 (F : Nat → Int32) (F8 : Nat → Int32) (R9 : Nat → Nat → Int32) (b4 : (Nat → Int32) → (Nat → Nat → Int32) → (Nat → Int32) × (Nat → Nat → Int32)) (hb4 : ∀ (F8 : Nat → Int32) (R9 : Nat → Nat → Int32), kf2 md_X11_runs mr_X11_runs F8 R9 (b4 F8 R9)) : kf2 md_X11_runs mr_X11_runs F8 R9 (KB_X11_runs_4 b4 F F8 R9) := by
  unfold KB_X11_runs_4
  exact (kf2_ite (kf2_tr (g_fr_rf _) (g_fr_rf _) (fr_K_X11_runs_39 F8 R9)) (kf2_ite (kf2_tr (g_fr_rf _) (g_fr_rf _) (fr_K_X11_runs_32 F8 R9 b4 hb4)) (kf2_lt (fun r28 _ => (kf2_ite (kf2_tr (g_fr_rf _) (g_fr_rf _) (fr_K_X11_runs_39 F8 R9)) (kf2_tr (g_fr_rf _) (g_fr_rf _) (fr_K_X11_runs_32 F8 R9 b4 hb4)))))))
theorem fr_K_X11_runs_4 (F : Nat → Int32) : ∀ (n : Nat) (F8 : Nat → Int32) (R9 : Nat → Nat → Int32), kf2 md_X11_runs mr_X11_runs F8 R9 (K_X11_runs_4 F n F8 R9)
  | 0, F8, R9 => ⟨g_fr_rf _, g_fr_rf _⟩
  | n + 1, F8, R9 => fr_KB_X11_runs_4 F F8 R9 (K_X11_runs_4 F n) (fr_K_X11_runs_4 F n)
theorem fr_sp_X11_runs (F : Nat → Int32) (R : Nat → Nat → Int32) : kf2 md_X11_runs mr_X11_runs F R (sp_X11_runs F R) := by
  unfold sp_X11_runs
  exact (kf2_lt2 (fun F5 R6 zF5 => (kf2_tr (kf2_F (g_fr_rf _) (fr_sp_X11_begins F R) zF5 rfl) (kf2_R (g_fr_rf _) (fr_sp_X11_begins F R) zF5 rfl) (fr_K_X11_runs_4 F 8589934592 F5 R6))))
theorem fr_KB_X11_laysPull_10 (F : Nat → Int32) (F1 : Nat → Int32) (R4 : Nat → Nat → Int32) (y3 : Int32) (b10 : (Nat → Nat → Int32) → (Int32) → (Nat → Int32) × (Nat → Nat → Int32)) (hb10 : ∀ (R4 : Nat → Nat → Int32) (y3 : Int32), kf2 md_X11_laysPull mr_X11_laysPull F1 R4 (b10 R4 y3)) : kf2 md_X11_laysPull mr_X11_laysPull F1 R4 (KB_X11_laysPull_10 b10 F F1 R4 y3) := by
  unfold KB_X11_laysPull_10
  exact (kf2_ite ⟨(g_fr_rf _), (g_fr_rf _)⟩ (kf2_lt (fun x10 _ => (kf2_lt (fun R12 zR12 => (kf2_lt (fun x14 _ => (kf2_tr (g_fr_rf _) (kf_r (g_fr_rf _) rfl zR12) (hb10 R12 x14)))))))))
theorem fr_K_X11_laysPull_10 (F : Nat → Int32) (F1 : Nat → Int32) : ∀ (n : Nat) (R4 : Nat → Nat → Int32) (y3 : Int32), kf2 md_X11_laysPull mr_X11_laysPull F1 R4 (K_X11_laysPull_10 F F1 n R4 y3)
  | 0, R4, y3 => ⟨g_fr_rf _, g_fr_rf _⟩
  | n + 1, R4, y3 => fr_KB_X11_laysPull_10 F F1 R4 y3 (K_X11_laysPull_10 F F1 n) (fr_K_X11_laysPull_10 F F1 n)
theorem fr_sp_X11_laysPull (F : Nat → Int32) (R : Nat → Nat → Int32) : kf2 md_X11_laysPull mr_X11_laysPull F R (sp_X11_laysPull F R) := by
  unfold sp_X11_laysPull
  exact (kf2_lt (fun F1 zF1 => (kf2_tr (kf_u (g_fr_rf _) rfl zF1) (g_fr_rf _) (fr_K_X11_laysPull_10 F F1 8589934592 R 0))))
theorem fr_KB_X11_laysThings_28 (F7 : Nat → Int32) (R10 : Nat → Nat → Int32) (y9 : Int32) (b28 : (Nat → Nat → Int32) → (Int32) → (Nat → Int32) × (Nat → Nat → Int32)) (hb28 : ∀ (R10 : Nat → Nat → Int32) (y9 : Int32), kf2 md_X11_laysThings mr_X11_laysThings F7 R10 (b28 R10 y9)) : kf2 md_X11_laysThings mr_X11_laysThings F7 R10 (KB_X11_laysThings_28 b28 F7 R10 y9) := by
  unfold KB_X11_laysThings_28
  exact (kf2_ite ⟨(g_fr_rf _), (g_fr_rf _)⟩ (kf2_lt (fun x16 _ => (kf2_lt (fun R18 zR18 => (kf2_lt (fun x20 _ => (kf2_lt (fun R22 zR22 => (kf2_lt (fun x24 _ => (kf2_tr (g_fr_rf _) (kf_r (kf_r (g_fr_rf _) rfl zR18) rfl zR22) (hb28 R22 x24)))))))))))))
theorem fr_K_X11_laysThings_28 (F7 : Nat → Int32) : ∀ (n : Nat) (R10 : Nat → Nat → Int32) (y9 : Int32), kf2 md_X11_laysThings mr_X11_laysThings F7 R10 (K_X11_laysThings_28 F7 n R10 y9)
  | 0, R10, y9 => ⟨g_fr_rf _, g_fr_rf _⟩
  | n + 1, R10, y9 => fr_KB_X11_laysThings_28 F7 R10 y9 (K_X11_laysThings_28 F7 n) (fr_K_X11_laysThings_28 F7 n)
theorem fr_sp_X11_laysThings (F : Nat → Int32) (R : Nat → Nat → Int32) : kf2 md_X11_laysThings mr_X11_laysThings F R (sp_X11_laysThings F R) := by
  unfold sp_X11_laysThings
  exact (kf2_lt (fun F1 zF1 => (kf2_lt (fun F3 zF3 => (kf2_lt (fun F5 zF5 => (kf2_lt (fun F7 zF7 => (kf2_tr (kf_u (kf_u (kf_u (kf_u (g_fr_rf _) rfl zF1) rfl zF3) rfl zF5) rfl zF7) (g_fr_rf _) (fr_K_X11_laysThings_28 F7 8589934592 R 0))))))))))
theorem fr_sp_X11_runsDrawn (F : Nat → Int32) (R : Nat → Nat → Int32) : kf2 md_X11_runsDrawn mr_X11_runsDrawn F R (sp_X11_runsDrawn F R) := by
  unfold sp_X11_runsDrawn
  exact (kf2_lt2 (fun F5 R6 zF5 => (kf2_lt2 (fun F13 R14 zF13 => (kf2_lt (fun F16 zF16 => (kf2_lt2 (fun F22 R23 zF22 => ⟨(kf2_F (kf_u (kf2_F (kf2_F (g_fr_rf _) (fr_sp_X11_laysPull F R) zF5 rfl) (fr_sp_X11_laysThings F5 R6) zF13 rfl) rfl zF16) (fr_sp_X11_runs F16 R14) zF22 rfl), (kf2_R (kf2_R (kf2_R (g_fr_rf _) (fr_sp_X11_laysPull F R) zF5 rfl) (fr_sp_X11_laysThings F5 R6) zF13 rfl) (fr_sp_X11_runs F16 R14) zF22 rfl)⟩))))))))
theorem fr_sp_X11_tried (F : Nat → Int32) (R : Nat → Nat → Int32) (a0 : Int32) : kf3 md_X11_tried mr_X11_tried F R (sp_X11_tried F R a0) := by
  unfold sp_X11_tried
  exact (kf3_lt (fun r1 _ => (kf3_ite ⟨(g_fr_rf _), (g_fr_rf _)⟩ (kf3_lt2 (fun F15 R16 zF15 => (kf3_lt (fun F18 zF18 => (kf3_lt (fun r20 _ => ⟨(kf_u (kf2_F (g_fr_rf _) (fr_sp_X11_runsDrawn F R) zF15 rfl) rfl zF18), (kf2_R (g_fr_rf _) (fr_sp_X11_runsDrawn F R) zF15 rfl)⟩)))))))))
theorem fr_sp_X11_runsStill (F : Nat → Int32) (R : Nat → Nat → Int32) : kf2 md_X11_runsStill mr_X11_runsStill F R (sp_X11_runsStill F R) := by
  unfold sp_X11_runsStill
  exact (kf2_lt2 (fun F5 R6 zF5 => (kf2_lt2 (fun F13 R14 zF13 => (kf2_lt2 (fun F20 R21 zF20 => ⟨(kf2_F (kf2_F (kf2_F (g_fr_rf _) (fr_sp_X11_laysPull F R) zF5 rfl) (fr_sp_X11_laysThings F5 R6) zF13 rfl) (fr_sp_X11_runs F13 R14) zF20 rfl), (kf2_R (kf2_R (kf2_R (g_fr_rf _) (fr_sp_X11_laysPull F R) zF5 rfl) (fr_sp_X11_laysThings F5 R6) zF13 rfl) (fr_sp_X11_runs F13 R14) zF20 rfl)⟩))))))
theorem fr_sp_X11_still (F : Nat → Int32) (R : Nat → Nat → Int32) (a0 : Int32) : kf3 md_X11_still mr_X11_still F R (sp_X11_still F R a0) := by
  unfold sp_X11_still
  exact (kf3_lt (fun r1 _ => (kf3_ite ⟨(g_fr_rf _), (g_fr_rf _)⟩ (kf3_lt2 (fun F15 R16 zF15 => (kf3_lt (fun r18 _ => ⟨(kf2_F (g_fr_rf _) (fr_sp_X11_runsStill F R) zF15 rfl), (kf2_R (g_fr_rf _) (fr_sp_X11_runsStill F R) zF15 rfl)⟩)))))))
theorem fr_K_X11_done_93 (F8 : Nat → Int32) (y22 : Int32) (R46 : Nat → Nat → Int32) (b23 : (Nat → Nat → Int32) → (Int32) → Int32 × (Nat → Int32) × (Nat → Nat → Int32)) (hb23 : ∀ (R23 : Nat → Nat → Int32) (y22 : Int32), kf3 md_X11_done mr_X11_done F8 R23 (b23 R23 y22)) : kf3 md_X11_done mr_X11_done F8 R46 (K_X11_done_93 b23 y22 R46) := by
  unfold K_X11_done_93
  exact (kf3_lt (fun x47 _ => (kf3_tr (g_fr_rf _) (g_fr_rf _) (hb23 R46 x47))))
theorem fr_K_X11_done_92 (F8 : Nat → Int32) (R59 : Nat → Nat → Int32) (y22 : Int32) (y63 : Int32) (b23 : (Nat → Nat → Int32) → (Int32) → Int32 × (Nat → Int32) × (Nat → Nat → Int32)) (hb23 : ∀ (R23 : Nat → Nat → Int32) (y22 : Int32), kf3 md_X11_done mr_X11_done F8 R23 (b23 R23 y22)) : kf3 md_X11_done mr_X11_done F8 R59 (K_X11_done_92 b23 R59 y22 y63) := by
  unfold K_X11_done_92
  exact (kf3_lt (fun R64 zR64 => (kf3_tr (g_fr_rf _) (kf_r (g_fr_rf _) rfl zR64) (fr_K_X11_done_93 F8 y22 R64 b23 hb23))))
theorem fr_KB_X11_done_23 (F : Nat → Int32) (F8 : Nat → Int32) (r16 : Int32) (R23 : Nat → Nat → Int32) (y22 : Int32) (b23 : (Nat → Nat → Int32) → (Int32) → Int32 × (Nat → Int32) × (Nat → Nat → Int32)) (hb23 : ∀ (R23 : Nat → Nat → Int32) (y22 : Int32), kf3 md_X11_done mr_X11_done F8 R23 (b23 R23 y22)) : kf3 md_X11_done mr_X11_done F8 R23 (KB_X11_done_23 b23 F F8 r16 R23 y22) := by
  unfold KB_X11_done_23
  exact (kf3_ite (kf3_lt (fun r27 _ => (kf3_lt (fun x32 _ => (kf3_lt (fun x34 _ => (kf3_lt (fun F36 zF36 => (kf3_lt (fun F38 zF38 => ⟨(kf_u (kf_u (g_fr_rf _) rfl zF36) rfl zF38), (g_fr_rf _)⟩)))))))))) (kf3_lt (fun r42 _ => (kf3_ite (kf3_tr (g_fr_rf _) (g_fr_rf _) (fr_K_X11_done_93 F8 y22 R23 b23 hb23)) (kf3_lt (fun x53 _ => (kf3_lt (fun R55 zR55 => (kf3_lt (fun x57 _ => (kf3_lt (fun R59 zR59 => (kf3_lt (fun x61 _ => (kf3_ite (kf3_tr (g_fr_rf _) (kf_r (kf_r (g_fr_rf _) rfl zR55) rfl zR59) (fr_K_X11_done_92 F8 R59 y22 1 b23 hb23)) (kf3_lt (fun x68 _ => (kf3_tr (g_fr_rf _) (kf_r (kf_r (g_fr_rf _) rfl zR55) rfl zR59) (fr_K_X11_done_92 F8 R59 y22 x68 b23 hb23)))))))))))))))))))
theorem fr_K_X11_done_23 (F : Nat → Int32) (F8 : Nat → Int32) (r16 : Int32) : ∀ (n : Nat) (R23 : Nat → Nat → Int32) (y22 : Int32), kf3 md_X11_done mr_X11_done F8 R23 (K_X11_done_23 F F8 r16 n R23 y22)
  | 0, R23, y22 => ⟨g_fr_rf _, g_fr_rf _⟩
  | n + 1, R23, y22 => fr_KB_X11_done_23 F F8 r16 R23 y22 (K_X11_done_23 F F8 r16 n) (fr_K_X11_done_23 F F8 r16 n)
theorem fr_sp_X11_done (F : Nat → Int32) (R : Nat → Nat → Int32) : kf3 md_X11_done mr_X11_done F R (sp_X11_done F R) := by
  unfold sp_X11_done
  exact (kf3_ite ⟨(g_fr_rf _), (g_fr_rf _)⟩ (kf3_lt2 (fun F8 R9 zF8 => (kf3_lt (fun r11 _ => (kf3_lt (fun r16 _ => (kf3_tr (kf2_F (g_fr_rf _) (fr_sp_X11_runsDrawn F R) zF8 rfl) (kf2_R (g_fr_rf _) (fr_sp_X11_runsDrawn F R) zF8 rfl) (fr_K_X11_done_23 F F8 r16 8589934592 R9 0)))))))))
theorem fr_K_X11_laysPaces_42 (F2 : Nat → Int32) (R3 : Nat → Nat → Int32) : kf2 md_X11_laysPaces mr_X11_laysPaces F2 R3 (K_X11_laysPaces_42 F2 R3) := by
  unfold K_X11_laysPaces_42
  exact ⟨(g_fr_rf _), (g_fr_rf _)⟩
theorem fr_KB_X11_laysPaces_2 (a0 : Int32) (F2 : Nat → Int32) (R3 : Nat → Nat → Int32) (y1 : Int32) (b2 : (Nat → Int32) → (Nat → Nat → Int32) → (Int32) → (Nat → Int32) × (Nat → Nat → Int32)) (hb2 : ∀ (F2 : Nat → Int32) (R3 : Nat → Nat → Int32) (y1 : Int32), kf2 md_X11_laysPaces mr_X11_laysPaces F2 R3 (b2 F2 R3 y1)) : kf2 md_X11_laysPaces mr_X11_laysPaces F2 R3 (KB_X11_laysPaces_2 b2 a0 F2 R3 y1) := by
  unfold KB_X11_laysPaces_2
  exact (kf2_ite (kf2_tr (g_fr_rf _) (g_fr_rf _) (fr_K_X11_laysPaces_42 F2 R3)) (kf2_ite (kf2_tr (g_fr_rf _) (g_fr_rf _) (fr_K_X11_laysPaces_42 F2 R3)) (kf2_lt (fun R14 zR14 => (kf2_lt (fun x16 _ => (kf2_lt (fun F18 zF18 => (kf2_lt (fun x20 _ => (kf2_tr (kf_u (g_fr_rf _) rfl zF18) (kf_r (g_fr_rf _) rfl zR14) (hb2 F18 R14 x20))))))))))))
theorem fr_K_X11_laysPaces_2 (a0 : Int32) : ∀ (n : Nat) (F2 : Nat → Int32) (R3 : Nat → Nat → Int32) (y1 : Int32), kf2 md_X11_laysPaces mr_X11_laysPaces F2 R3 (K_X11_laysPaces_2 a0 n F2 R3 y1)
  | 0, F2, R3, y1 => ⟨g_fr_rf _, g_fr_rf _⟩
  | n + 1, F2, R3, y1 => fr_KB_X11_laysPaces_2 a0 F2 R3 y1 (K_X11_laysPaces_2 a0 n) (fr_K_X11_laysPaces_2 a0 n)
theorem fr_sp_X11_laysPaces (F : Nat → Int32) (R : Nat → Nat → Int32) (a0 : Int32) (a1 : Int32) : kf2 md_X11_laysPaces mr_X11_laysPaces F R (sp_X11_laysPaces F R a0 a1) := by
  unfold sp_X11_laysPaces
  exact (kf2_tr (g_fr_rf _) (g_fr_rf _) (fr_K_X11_laysPaces_2 a0 8589934592 F R a1))
theorem fr_sp_X11_runsEven (F : Nat → Int32) (R : Nat → Nat → Int32) (a0 : Int32) : kf2 md_X11_runsEven mr_X11_runsEven F R (sp_X11_runsEven F R a0) := by
  unfold sp_X11_runsEven
  exact (kf2_lt (fun F1 zF1 => (kf2_lt2 (fun F7 R8 zF7 => (kf2_lt2 (fun F14 R15 zF14 => ⟨(kf2_F (kf2_F (kf_u (g_fr_rf _) rfl zF1) (fr_sp_X11_laysPaces F1 R a0 (F 1)) zF7 rfl) (fr_sp_X11_runs F7 R8) zF14 rfl), (kf2_R (kf2_R (g_fr_rf _) (fr_sp_X11_laysPaces F1 R a0 (F 1)) zF7 rfl) (fr_sp_X11_runs F7 R8) zF14 rfl)⟩))))))
theorem fr_KB_X11_pace_2 (F : Nat → Int32) (F2 : Nat → Int32) (R3 : Nat → Nat → Int32) (y1 : Int32) (b2 : (Nat → Int32) → (Nat → Nat → Int32) → (Int32) → Int32 × (Nat → Int32) × (Nat → Nat → Int32)) (hb2 : ∀ (F2 : Nat → Int32) (R3 : Nat → Nat → Int32) (y1 : Int32), kf3 md_X11_pace mr_X11_pace F2 R3 (b2 F2 R3 y1)) : kf3 md_X11_pace mr_X11_pace F2 R3 (KB_X11_pace_2 b2 F F2 R3 y1) := by
  unfold KB_X11_pace_2
  exact (kf3_ite ⟨(g_fr_rf _), (g_fr_rf _)⟩ (kf3_lt2 (fun F14 R15 zF14 => (kf3_lt2 (fun F21 R22 zF21 => (kf3_lt (fun r24 _ => (kf3_ite ⟨(kf2_F (kf2_F (g_fr_rf _) (fr_sp_X11_laysThings F2 R3) zF14 rfl) (fr_sp_X11_runsEven F14 R15 y1) zF21 rfl), (kf2_R (kf2_R (g_fr_rf _) (fr_sp_X11_laysThings F2 R3) zF14 rfl) (fr_sp_X11_runsEven F14 R15 y1) zF21 rfl)⟩ (kf3_lt (fun x31 _ => (kf3_tr (kf2_F (kf2_F (g_fr_rf _) (fr_sp_X11_laysThings F2 R3) zF14 rfl) (fr_sp_X11_runsEven F14 R15 y1) zF21 rfl) (kf2_R (kf2_R (g_fr_rf _) (fr_sp_X11_laysThings F2 R3) zF14 rfl) (fr_sp_X11_runsEven F14 R15 y1) zF21 rfl) (hb2 F21 R22 x31))))))))))))
theorem fr_K_X11_pace_2 (F : Nat → Int32) : ∀ (n : Nat) (F2 : Nat → Int32) (R3 : Nat → Nat → Int32) (y1 : Int32), kf3 md_X11_pace mr_X11_pace F2 R3 (K_X11_pace_2 F n F2 R3 y1)
  | 0, F2, R3, y1 => ⟨g_fr_rf _, g_fr_rf _⟩
  | n + 1, F2, R3, y1 => fr_KB_X11_pace_2 F F2 R3 y1 (K_X11_pace_2 F n) (fr_K_X11_pace_2 F n)
theorem fr_sp_X11_pace (F : Nat → Int32) (R : Nat → Nat → Int32) : kf3 md_X11_pace mr_X11_pace F R (sp_X11_pace F R) := by
  unfold sp_X11_pace
  exact (kf3_tr (g_fr_rf _) (g_fr_rf _) (fr_K_X11_pace_2 F 8589934592 F R 1))
theorem fr_sp_X11_forgetsBest (F : Nat → Int32) (R : Nat → Nat → Int32) : kf2 md_X11_forgetsBest mr_X11_forgetsBest F R (sp_X11_forgetsBest F R) := by
  unfold sp_X11_forgetsBest
  exact (kf2_lt (fun F1 zF1 => (kf2_lt (fun F3 zF3 => (kf2_lt (fun F5 zF5 => ⟨(kf_u (kf_u (kf_u (g_fr_rf _) rfl zF1) rfl zF3) rfl zF5), (g_fr_rf _)⟩))))))
theorem fr_sp_X11_better (F : Nat → Int32) (R : Nat → Nat → Int32) (a0 : Int32) : kf2 md_X11_better mr_X11_better F R (sp_X11_better F R a0) := by
  unfold sp_X11_better
  exact (kf2_lt (fun r1 _ => (kf2_lt (fun r6 _ => (kf2_lt (fun r12 _ => (kf2_ite ⟨(g_fr_rf _), (g_fr_rf _)⟩ (kf2_ite (kf2_ite (kf2_lt (fun F36 zF36 => (kf2_lt (fun F38 zF38 => (kf2_lt (fun F40 zF40 => ⟨(kf_u (kf_u (kf_u (g_fr_rf _) rfl zF36) rfl zF38) rfl zF40), (g_fr_rf _)⟩)))))) ⟨(g_fr_rf _), (g_fr_rf _)⟩) (kf2_lt (fun F24 zF24 => (kf2_lt (fun F26 zF26 => (kf2_lt (fun F28 zF28 => ⟨(kf_u (kf_u (kf_u (g_fr_rf _) rfl zF24) rfl zF26) rfl zF28), (g_fr_rf _)⟩))))))))))))))
theorem fr_KB_X11_best_47 (F : Nat → Int32) (x54 : Int32) (x58 : Int32) (y17 : Int32) (F63 : Nat → Int32) (R64 : Nat → Nat → Int32) (y62 : Int32) (b47 : (Nat → Int32) → (Nat → Nat → Int32) → (Int32) → Int32 × (Nat → Int32) × (Nat → Nat → Int32)) (hb47 : ∀ (F63 : Nat → Int32) (R64 : Nat → Nat → Int32) (y62 : Int32), kf3 md_X11_best mr_X11_best F63 R64 (b47 F63 R64 y62)) (b17 : (Nat → Int32) → (Nat → Nat → Int32) → (Int32) → Int32 × (Nat → Int32) × (Nat → Nat → Int32)) (hb17 : ∀ (F18 : Nat → Int32) (R19 : Nat → Nat → Int32) (y17 : Int32), kf3 md_X11_best mr_X11_best F18 R19 (b17 F18 R19 y17)) : kf3 md_X11_best mr_X11_best F63 R64 (KB_X11_best_47 b47 b17 F x54 x58 y17 F63 R64 y62) := by
  unfold KB_X11_best_47
  exact (kf3_ite (kf3_lt (fun x69 _ => (kf3_lt (fun x71 _ => (kf3_lt (fun x73 _ => (kf3_lt (fun x75 _ => (kf3_lt (fun x77 _ => (kf3_lt2 (fun F83 R84 zF83 => (kf3_lt2 (fun F91 R92 zF91 => (kf3_lt2 (fun F98 R99 zF98 => (kf3_lt2 (fun F107 R108 zF107 => (kf3_lt (fun x110 _ => (kf3_tr (kf2_F (kf2_F (kf2_F (kf2_F (g_fr_rf _) (fr_sp_X11_laysPaces F63 R64 x73 x77) zF83 rfl) (fr_sp_X11_laysThings F83 R84) zF91 rfl) (fr_sp_X11_runs F91 R92) zF98 rfl) (fr_sp_X11_better F98 R99 y17) zF107 rfl) (kf2_R (kf2_R (kf2_R (kf2_R (g_fr_rf _) (fr_sp_X11_laysPaces F63 R64 x73 x77) zF83 rfl) (fr_sp_X11_laysThings F83 R84) zF91 rfl) (fr_sp_X11_runs F91 R92) zF98 rfl) (fr_sp_X11_better F98 R99 y17) zF107 rfl) (hb17 F107 R108 x110)))))))))))))))))))))) (kf3_lt (fun R114 zR114 => (kf3_lt (fun x116 _ => (kf3_lt (fun F118 zF118 => (kf3_lt (fun x120 _ => (kf3_tr (kf_u (g_fr_rf _) rfl zF118) (kf_r (g_fr_rf _) rfl zR114) (hb47 F118 R114 x120)))))))))))
theorem fr_K_X11_best_47 (F : Nat → Int32) (x54 : Int32) (x58 : Int32) (y17 : Int32) (b17 : (Nat → Int32) → (Nat → Nat → Int32) → (Int32) → Int32 × (Nat → Int32) × (Nat → Nat → Int32)) (hb17 : ∀ (F18 : Nat → Int32) (R19 : Nat → Nat → Int32) (y17 : Int32), kf3 md_X11_best mr_X11_best F18 R19 (b17 F18 R19 y17)) : ∀ (n : Nat) (F63 : Nat → Int32) (R64 : Nat → Nat → Int32) (y62 : Int32), kf3 md_X11_best mr_X11_best F63 R64 (K_X11_best_47 b17 F x54 x58 y17 n F63 R64 y62)
  | 0, F63, R64, y62 => ⟨g_fr_rf _, g_fr_rf _⟩
  | n + 1, F63, R64, y62 => fr_KB_X11_best_47 F x54 x58 y17 F63 R64 y62 (K_X11_best_47 b17 F x54 x58 y17 n) (fr_K_X11_best_47 F x54 x58 y17 b17 hb17 n) b17 hb17
theorem fr_KB_X11_best_17 (F : Nat → Int32) (a0 : Int32) (F18 : Nat → Int32) (R19 : Nat → Nat → Int32) (y17 : Int32) (b17 : (Nat → Int32) → (Nat → Nat → Int32) → (Int32) → Int32 × (Nat → Int32) × (Nat → Nat → Int32)) (hb17 : ∀ (F18 : Nat → Int32) (R19 : Nat → Nat → Int32) (y17 : Int32), kf3 md_X11_best mr_X11_best F18 R19 (b17 F18 R19 y17)) : kf3 md_X11_best mr_X11_best F18 R19 (KB_X11_best_17 b17 F a0 F18 R19 y17) := by
  unfold KB_X11_best_17
  exact (kf3_ite (kf3_lt (fun zy23 _ => (kf3_ite (kf3_lt (fun x28 _ => (kf3_lt (fun x30 _ => ⟨(g_fr_rf _), (g_fr_rf _)⟩)))) (kf3_ite (kf3_lt (fun x34 _ => (kf3_lt (fun x36 _ => (kf3_lt (fun x38 _ => ⟨(g_fr_rf _), (g_fr_rf _)⟩)))))) (kf3_ite (kf3_lt (fun x42 _ => (kf3_lt (fun x44 _ => ⟨(g_fr_rf _), (g_fr_rf _)⟩)))) (kf3_ite ⟨(g_fr_rf _), (g_fr_rf _)⟩ ⟨(g_fr_rf _), (g_fr_rf _)⟩)))))) (kf3_lt (fun x52 _ => (kf3_lt (fun x54 _ => (kf3_lt (fun x56 _ => (kf3_lt (fun x58 _ => (kf3_lt (fun F60 zF60 => (kf3_tr (kf_u (g_fr_rf _) rfl zF60) (g_fr_rf _) (fr_K_X11_best_47 F x54 x58 y17 b17 hb17 8589934592 F60 R19 0)))))))))))))
theorem fr_K_X11_best_17 (F : Nat → Int32) (a0 : Int32) : ∀ (n : Nat) (F18 : Nat → Int32) (R19 : Nat → Nat → Int32) (y17 : Int32), kf3 md_X11_best mr_X11_best F18 R19 (K_X11_best_17 F a0 n F18 R19 y17)
  | 0, F18, R19, y17 => ⟨g_fr_rf _, g_fr_rf _⟩
  | n + 1, F18, R19, y17 => fr_KB_X11_best_17 F a0 F18 R19 y17 (K_X11_best_17 F a0 n) (fr_K_X11_best_17 F a0 n)
theorem fr_sp_X11_best (F : Nat → Int32) (R : Nat → Nat → Int32) (a0 : Int32) : kf3 md_X11_best mr_X11_best F R (sp_X11_best F R a0) := by
  unfold sp_X11_best
  exact (kf3_lt (fun r1 _ => (kf3_ite ⟨(g_fr_rf _), (g_fr_rf _)⟩ (kf3_lt2 (fun F14 R15 zF14 => (kf3_tr (kf2_F (g_fr_rf _) (fr_sp_X11_forgetsBest F R) zF14 rfl) (kf2_R (g_fr_rf _) (fr_sp_X11_forgetsBest F R) zF14 rfl) (fr_K_X11_best_17 F a0 8589934592 F14 R15 0)))))))
theorem fr_K_X11_most_92 (F11 : Nat → Int32) (R12 : Nat → Nat → Int32) (y16 : Int32) : kf3 md_X11_most mr_X11_most F11 R12 (K_X11_most_92 F11 R12 y16) := by
  unfold K_X11_most_92
  exact ⟨(g_fr_rf _), (g_fr_rf _)⟩
theorem fr_K_X11_most_74 (y10 : Int32) (F35 : Nat → Int32) (R36 : Nat → Nat → Int32) (y34 : Int32) (b15 : (Nat → Int32) → (Nat → Nat → Int32) → (Int32) → (Int32) → Int32 × (Nat → Int32) × (Nat → Nat → Int32)) (hb15 : ∀ (F11 : Nat → Int32) (R12 : Nat → Nat → Int32) (y9 : Int32) (y10 : Int32), kf3 md_X11_most mr_X11_most F11 R12 (b15 F11 R12 y9 y10)) : kf3 md_X11_most mr_X11_most F35 R36 (K_X11_most_74 b15 y10 F35 R36 y34) := by
  unfold K_X11_most_74
  exact (kf3_lt (fun x37 _ => (kf3_tr (g_fr_rf _) (g_fr_rf _) (hb15 F35 R36 y34 x37))))
theorem fr_KB_X11_most_15 (F : Nat → Int32) (a0 : Int32) (F11 : Nat → Int32) (R12 : Nat → Nat → Int32) (y9 : Int32) (y10 : Int32) (b15 : (Nat → Int32) → (Nat → Nat → Int32) → (Int32) → (Int32) → Int32 × (Nat → Int32) × (Nat → Nat → Int32)) (hb15 : ∀ (F11 : Nat → Int32) (R12 : Nat → Nat → Int32) (y9 : Int32) (y10 : Int32), kf3 md_X11_most mr_X11_most F11 R12 (b15 F11 R12 y9 y10)) : kf3 md_X11_most mr_X11_most F11 R12 (KB_X11_most_15 b15 F a0 F11 R12 y9 y10) := by
  unfold KB_X11_most_15
  exact (kf3_ite (kf3_ite (kf3_lt (fun r22 _ => (kf3_tr (g_fr_rf _) (g_fr_rf _) (fr_K_X11_most_92 F11 R12 r22)))) (kf3_tr (g_fr_rf _) (g_fr_rf _) (fr_K_X11_most_92 F11 R12 y9))) (kf3_lt (fun x30 _ => (kf3_lt (fun x32 _ => (kf3_ite (kf3_lt (fun r44 _ => (kf3_lt (fun r50 _ => (kf3_ite (kf3_lt2 (fun F64 R65 zF64 => (kf3_lt2 (fun F72 R73 zF72 => (kf3_lt (fun F75 zF75 => (kf3_lt2 (fun F81 R82 zF81 => (kf3_lt (fun r84 _ => (kf3_ite (kf3_tr (kf2_F (kf_u (kf2_F (kf2_F (g_fr_rf _) (fr_sp_X11_laysPull F11 R12) zF64 rfl) (fr_sp_X11_laysThings F64 R65) zF72 rfl) rfl zF75) (fr_sp_X11_runs F75 R73) zF81 rfl) (kf2_R (kf2_R (kf2_R (g_fr_rf _) (fr_sp_X11_laysPull F11 R12) zF64 rfl) (fr_sp_X11_laysThings F64 R65) zF72 rfl) (fr_sp_X11_runs F75 R73) zF81 rfl) (fr_K_X11_most_74 y10 F81 R82 y10 b15 hb15)) (kf3_tr (kf2_F (kf_u (kf2_F (kf2_F (g_fr_rf _) (fr_sp_X11_laysPull F11 R12) zF64 rfl) (fr_sp_X11_laysThings F64 R65) zF72 rfl) rfl zF75) (fr_sp_X11_runs F75 R73) zF81 rfl) (kf2_R (kf2_R (kf2_R (g_fr_rf _) (fr_sp_X11_laysPull F11 R12) zF64 rfl) (fr_sp_X11_laysThings F64 R65) zF72 rfl) (fr_sp_X11_runs F75 R73) zF81 rfl) (fr_K_X11_most_74 y10 F81 R82 y9 b15 hb15))))))))))))) (kf3_tr (g_fr_rf _) (g_fr_rf _) (fr_K_X11_most_74 y10 F11 R12 y9 b15 hb15))))))) (kf3_tr (g_fr_rf _) (g_fr_rf _) (fr_K_X11_most_74 y10 F11 R12 y9 b15 hb15))))))))
theorem fr_K_X11_most_15 (F : Nat → Int32) (a0 : Int32) : ∀ (n : Nat) (F11 : Nat → Int32) (R12 : Nat → Nat → Int32) (y9 : Int32) (y10 : Int32), kf3 md_X11_most mr_X11_most F11 R12 (K_X11_most_15 F a0 n F11 R12 y9 y10)
  | 0, F11, R12, y9, y10 => ⟨g_fr_rf _, g_fr_rf _⟩
  | n + 1, F11, R12, y9, y10 => fr_KB_X11_most_15 F a0 F11 R12 y9 y10 (K_X11_most_15 F a0 n) (fr_K_X11_most_15 F a0 n)
theorem fr_sp_X11_most (F : Nat → Int32) (R : Nat → Nat → Int32) (a0 : Int32) : kf3 md_X11_most mr_X11_most F R (sp_X11_most F R a0) := by
  unfold sp_X11_most
  exact (kf3_lt (fun r1 _ => (kf3_ite ⟨(g_fr_rf _), (g_fr_rf _)⟩ (kf3_tr (g_fr_rf _) (g_fr_rf _) (fr_K_X11_most_15 F a0 8589934592 F R 0 1)))))
theorem fr_K_X11_worth_68 (F : Nat → Int32) (R : Nat → Nat → Int32) : kf3 md_X11_worth mr_X11_worth F R (K_X11_worth_68 F R) := by
  unfold K_X11_worth_68
  exact ⟨(g_fr_rf _), (g_fr_rf _)⟩
theorem fr_K_X11_worth_157 (F78 : Nat → Int32) (R79 : Nat → Nat → Int32) (y77 : Int32) : kf3 md_X11_worth mr_X11_worth F78 R79 (K_X11_worth_157 F78 R79 y77) := by
  unfold K_X11_worth_157
  exact ⟨(g_fr_rf _), (g_fr_rf _)⟩
theorem fr_K_X11_worth_68a (F : Nat → Int32) (R : Nat → Nat → Int32) : kf3 md_X11_worth mr_X11_worth F R (K_X11_worth_68a F R) := by
  unfold K_X11_worth_68a
  exact ⟨(g_fr_rf _), (g_fr_rf _)⟩
theorem fr_K_X11_worth_68b (F : Nat → Int32) (R : Nat → Nat → Int32) : kf3 md_X11_worth mr_X11_worth F R (K_X11_worth_68b F R) := by
  unfold K_X11_worth_68b
  exact ⟨(g_fr_rf _), (g_fr_rf _)⟩
theorem fr_K_X11_worth_157a (F183 : Nat → Int32) (R184 : Nat → Nat → Int32) (y182 : Int32) : kf3 md_X11_worth mr_X11_worth F183 R184 (K_X11_worth_157a F183 R184 y182) := by
  unfold K_X11_worth_157a
  exact ⟨(g_fr_rf _), (g_fr_rf _)⟩
theorem fr_K_X11_worth_68c (F : Nat → Int32) (R : Nat → Nat → Int32) : kf3 md_X11_worth mr_X11_worth F R (K_X11_worth_68c F R) := by
  unfold K_X11_worth_68c
  exact ⟨(g_fr_rf _), (g_fr_rf _)⟩
theorem fr_sp_X11_worth (F : Nat → Int32) (R : Nat → Nat → Int32) (a0 : Int32) (a1 : Int32) : kf3 md_X11_worth mr_X11_worth F R (sp_X11_worth F R a0 a1) := by
  unfold sp_X11_worth
  exact (kf3_lt (fun r1 _ => (kf3_ite ⟨(g_fr_rf _), (g_fr_rf _)⟩ (kf3_ite (kf3_lt (fun r12 _ => (kf3_ite (kf3_tr (g_fr_rf _) (g_fr_rf _) (fr_K_X11_worth_68 F R)) (kf3_lt (fun x24 _ => (kf3_ite (kf3_tr (g_fr_rf _) (g_fr_rf _) (fr_K_X11_worth_68a F R)) (kf3_lt2 (fun F32 R33 zF32 => (kf3_lt (fun r35 _ => (kf3_lt (fun r40 _ => (kf3_lt (fun r46 _ => (kf3_lt2 (fun F55 R56 zF55 => (kf3_lt2 (fun F63 R64 zF63 => (kf3_lt (fun R66 zR66 => (kf3_lt2 (fun F72 R73 zF72 => (kf3_lt (fun x75 _ => (kf3_ite (kf3_lt (fun r92 _ => (kf3_lt (fun r97 _ => (kf3_lt (fun x103 _ => (kf3_tr (kf2_F (kf2_F (kf2_F (kf2_F (g_fr_rf _) (fr_sp_X11_runsStill F R) zF32 rfl) (fr_sp_X11_laysPull F32 R33) zF55 rfl) (fr_sp_X11_laysThings F55 R56) zF63 rfl) (fr_sp_X11_runs F63 R66) zF72 rfl) (kf2_R (kf_r (kf2_R (kf2_R (kf2_R (g_fr_rf _) (fr_sp_X11_runsStill F R) zF32 rfl) (fr_sp_X11_laysPull F32 R33) zF55 rfl) (fr_sp_X11_laysThings F55 R56) zF63 rfl) rfl zR66) (fr_sp_X11_runs F63 R66) zF72 rfl) (fr_K_X11_worth_157 F72 R73 x103)))))))) (kf3_lt (fun r83 _ => (kf3_lt (fun x88 _ => (kf3_tr (kf2_F (kf2_F (kf2_F (kf2_F (g_fr_rf _) (fr_sp_X11_runsStill F R) zF32 rfl) (fr_sp_X11_laysPull F32 R33) zF55 rfl) (fr_sp_X11_laysThings F55 R56) zF63 rfl) (fr_sp_X11_runs F63 R66) zF72 rfl) (kf2_R (kf_r (kf2_R (kf2_R (kf2_R (g_fr_rf _) (fr_sp_X11_runsStill F R) zF32 rfl) (fr_sp_X11_laysPull F32 R33) zF55 rfl) (fr_sp_X11_laysThings F55 R56) zF63 rfl) rfl zR66) (fr_sp_X11_runs F63 R66) zF72 rfl) (fr_K_X11_worth_157 F72 R73 x88))))))))))))))))))))))))))))))) (kf3_lt (fun r109 _ => (kf3_ite (kf3_tr (g_fr_rf _) (g_fr_rf _) (fr_K_X11_worth_68b F R)) (kf3_lt (fun r119 _ => (kf3_ite (kf3_tr (g_fr_rf _) (g_fr_rf _) (fr_K_X11_worth_68c F R)) (kf3_lt2 (fun F131 R132 zF131 => (kf3_lt (fun r134 _ => (kf3_lt (fun r139 _ => (kf3_lt (fun r145 _ => (kf3_lt2 (fun F154 R155 zF154 => (kf3_lt2 (fun F162 R163 zF162 => (kf3_lt (fun x165 _ => (kf3_lt (fun x167 _ => (kf3_lt (fun x169 _ => (kf3_lt (fun F171 zF171 => (kf3_lt2 (fun F177 R178 zF177 => (kf3_lt (fun x180 _ => (kf3_ite (kf3_lt (fun r197 _ => (kf3_lt (fun r202 _ => (kf3_lt (fun x208 _ => (kf3_tr (kf2_F (kf_u (kf2_F (kf2_F (kf2_F (g_fr_rf _) (fr_sp_X11_runsStill F R) zF131 rfl) (fr_sp_X11_laysPull F131 R132) zF154 rfl) (fr_sp_X11_laysThings F154 R155) zF162 rfl) rfl zF171) (fr_sp_X11_runs F171 R163) zF177 rfl) (kf2_R (kf2_R (kf2_R (kf2_R (g_fr_rf _) (fr_sp_X11_runsStill F R) zF131 rfl) (fr_sp_X11_laysPull F131 R132) zF154 rfl) (fr_sp_X11_laysThings F154 R155) zF162 rfl) (fr_sp_X11_runs F171 R163) zF177 rfl) (fr_K_X11_worth_157a F177 R178 x208)))))))) (kf3_lt (fun r188 _ => (kf3_lt (fun x193 _ => (kf3_tr (kf2_F (kf_u (kf2_F (kf2_F (kf2_F (g_fr_rf _) (fr_sp_X11_runsStill F R) zF131 rfl) (fr_sp_X11_laysPull F131 R132) zF154 rfl) (fr_sp_X11_laysThings F154 R155) zF162 rfl) rfl zF171) (fr_sp_X11_runs F171 R163) zF177 rfl) (kf2_R (kf2_R (kf2_R (kf2_R (g_fr_rf _) (fr_sp_X11_runsStill F R) zF131 rfl) (fr_sp_X11_laysPull F131 R132) zF154 rfl) (fr_sp_X11_laysThings F154 R155) zF162 rfl) (fr_sp_X11_runs F171 R163) zF177 rfl) (fr_K_X11_worth_157a F177 R178 x193)))))))))))))))))))))))))))))))))))))))))
theorem fr_K_X11_takesPlaces_21 (F : Nat → Int32) (R : Nat → Nat → Int32) : kf3 md_X11_takesPlaces mr_X11_takesPlaces F R (K_X11_takesPlaces_21 F R) := by
  unfold K_X11_takesPlaces_21
  exact ⟨(g_fr_rf _), (g_fr_rf _)⟩
theorem fr_K_X11_takesPlaces_72 (F13 : Nat → Int32) (y16 : Int32) (R29 : Nat → Nat → Int32) (y28 : Int32) (b32 : (Nat → Nat → Int32) → (Int32) → (Int32) → Int32 × (Nat → Int32) × (Nat → Nat → Int32)) (hb32 : ∀ (R17 : Nat → Nat → Int32) (y15 : Int32) (y16 : Int32), kf3 md_X11_takesPlaces mr_X11_takesPlaces F13 R17 (b32 R17 y15 y16)) : kf3 md_X11_takesPlaces mr_X11_takesPlaces F13 R29 (K_X11_takesPlaces_72 b32 y16 R29 y28) := by
  unfold K_X11_takesPlaces_72
  exact (kf3_lt (fun x31 _ => (kf3_tr (g_fr_rf _) (g_fr_rf _) (hb32 R29 y28 x31))))
theorem fr_KB_X11_takesPlaces_32 (F : Nat → Int32) (F13 : Nat → Int32) (R17 : Nat → Nat → Int32) (y15 : Int32) (y16 : Int32) (b32 : (Nat → Nat → Int32) → (Int32) → (Int32) → Int32 × (Nat → Int32) × (Nat → Nat → Int32)) (hb32 : ∀ (R17 : Nat → Nat → Int32) (y15 : Int32) (y16 : Int32), kf3 md_X11_takesPlaces mr_X11_takesPlaces F13 R17 (b32 R17 y15 y16)) : kf3 md_X11_takesPlaces mr_X11_takesPlaces F13 R17 (KB_X11_takesPlaces_32 b32 F F13 R17 y15 y16) := by
  unfold KB_X11_takesPlaces_32
  exact (kf3_ite ⟨(g_fr_rf _), (g_fr_rf _)⟩ (kf3_lt (fun r24 _ => (kf3_ite (kf3_tr (g_fr_rf _) (g_fr_rf _) (fr_K_X11_takesPlaces_72 F13 y16 R17 y15 b32 hb32)) (kf3_lt (fun x37 _ => (kf3_lt (fun x39 _ => (kf3_lt (fun R41 zR41 => (kf3_lt (fun x43 _ => (kf3_tr (g_fr_rf _) (kf_r (g_fr_rf _) rfl zR41) (fr_K_X11_takesPlaces_72 F13 y16 R41 x43 b32 hb32))))))))))))))
theorem fr_K_X11_takesPlaces_32 (F : Nat → Int32) (F13 : Nat → Int32) : ∀ (n : Nat) (R17 : Nat → Nat → Int32) (y15 : Int32) (y16 : Int32), kf3 md_X11_takesPlaces mr_X11_takesPlaces F13 R17 (K_X11_takesPlaces_32 F F13 n R17 y15 y16)
  | 0, R17, y15, y16 => ⟨g_fr_rf _, g_fr_rf _⟩
  | n + 1, R17, y15, y16 => fr_KB_X11_takesPlaces_32 F F13 R17 y15 y16 (K_X11_takesPlaces_32 F F13 n) (fr_K_X11_takesPlaces_32 F F13 n)
theorem fr_sp_X11_takesPlaces (F : Nat → Int32) (R : Nat → Nat → Int32) : kf3 md_X11_takesPlaces mr_X11_takesPlaces F R (sp_X11_takesPlaces F R) := by
  unfold sp_X11_takesPlaces
  exact (kf3_ite (kf3_tr (g_fr_rf _) (g_fr_rf _) (fr_K_X11_takesPlaces_21 F R)) (kf3_lt (fun r5 _ => (kf3_ite (kf3_lt (fun F13 zF13 => (kf3_tr (kf_u (g_fr_rf _) rfl zF13) (g_fr_rf _) (fr_K_X11_takesPlaces_32 F F13 8589934592 R 0 0)))) (kf3_tr (g_fr_rf _) (g_fr_rf _) (fr_K_X11_takesPlaces_21 F R))))))
theorem fr_K_X11_wasWet_16 (F5 : Nat → Int32) (R6 : Nat → Nat → Int32) : kf3 md_X11_wasWet mr_X11_wasWet F5 R6 (K_X11_wasWet_16 F5 R6) := by
  unfold K_X11_wasWet_16
  exact ⟨(g_fr_rf _), (g_fr_rf _)⟩
theorem fr_K_X11_wasWet_159 (F26 : Nat → Int32) (R27 : Nat → Nat → Int32) (y31 : Int32) : kf3 md_X11_wasWet mr_X11_wasWet F26 R27 (K_X11_wasWet_159 F26 R27 y31) := by
  unfold K_X11_wasWet_159
  exact ⟨(g_fr_rf _), (g_fr_rf _)⟩
theorem fr_K_X11_wasWet_119 (y25 : Int32) (F61 : Nat → Int32) (R62 : Nat → Nat → Int32) (y59 : Int32) (y60 : Int32) (b25 : (Nat → Int32) → (Nat → Nat → Int32) → (Int32) → (Int32) → (Int32) → Int32 × (Nat → Int32) × (Nat → Nat → Int32)) (hb25 : ∀ (F26 : Nat → Int32) (R27 : Nat → Nat → Int32) (y23 : Int32) (y24 : Int32) (y25 : Int32), kf3 md_X11_wasWet mr_X11_wasWet F26 R27 (b25 F26 R27 y23 y24 y25)) : kf3 md_X11_wasWet mr_X11_wasWet F61 R62 (K_X11_wasWet_119 b25 y25 F61 R62 y59 y60) := by
  unfold K_X11_wasWet_119
  exact (kf3_lt (fun x63 _ => (kf3_tr (g_fr_rf _) (g_fr_rf _) (hb25 F61 R62 y59 y60 x63))))
theorem fr_K_X11_wasWet_114 (F100 : Nat → Int32) (R101 : Nat → Nat → Int32) (y23 : Int32) (y25 : Int32) (y111 : Int32) (b25 : (Nat → Int32) → (Nat → Nat → Int32) → (Int32) → (Int32) → (Int32) → Int32 × (Nat → Int32) × (Nat → Nat → Int32)) (hb25 : ∀ (F26 : Nat → Int32) (R27 : Nat → Nat → Int32) (y23 : Int32) (y24 : Int32) (y25 : Int32), kf3 md_X11_wasWet mr_X11_wasWet F26 R27 (b25 F26 R27 y23 y24 y25)) : kf3 md_X11_wasWet mr_X11_wasWet F100 R101 (K_X11_wasWet_114 b25 F100 R101 y23 y25 y111) := by
  unfold K_X11_wasWet_114
  exact (kf3_lt (fun x112 _ => (kf3_tr (g_fr_rf _) (g_fr_rf _) (fr_K_X11_wasWet_119 y25 F100 R101 x112 y111 b25 hb25))))
theorem fr_KB_X11_wasWet_25 (F : Nat → Int32) (a0 : Int32) (F26 : Nat → Int32) (R27 : Nat → Nat → Int32) (y23 : Int32) (y24 : Int32) (y25 : Int32) (b25 : (Nat → Int32) → (Nat → Nat → Int32) → (Int32) → (Int32) → (Int32) → Int32 × (Nat → Int32) × (Nat → Nat → Int32)) (hb25 : ∀ (F26 : Nat → Int32) (R27 : Nat → Nat → Int32) (y23 : Int32) (y24 : Int32) (y25 : Int32), kf3 md_X11_wasWet mr_X11_wasWet F26 R27 (b25 F26 R27 y23 y24 y25)) : kf3 md_X11_wasWet mr_X11_wasWet F26 R27 (KB_X11_wasWet_25 b25 F a0 F26 R27 y23 y24 y25) := by
  unfold KB_X11_wasWet_25
  exact (kf3_ite (kf3_ite (kf3_tr (g_fr_rf _) (g_fr_rf _) (fr_K_X11_wasWet_159 F26 R27 y23)) (kf3_ite (kf3_tr (g_fr_rf _) (g_fr_rf _) (fr_K_X11_wasWet_159 F26 R27 (-2))) (kf3_ite (kf3_lt (fun x45 _ => (kf3_tr (g_fr_rf _) (g_fr_rf _) (fr_K_X11_wasWet_159 F26 R27 x45)))) (kf3_lt (fun x41 _ => (kf3_tr (g_fr_rf _) (g_fr_rf _) (fr_K_X11_wasWet_159 F26 R27 x41))))))) (kf3_lt (fun x53 _ => (kf3_lt (fun r55 _ => (kf3_ite (kf3_tr (g_fr_rf _) (g_fr_rf _) (fr_K_X11_wasWet_119 y25 F26 R27 y23 y24 b25 hb25)) (kf3_lt (fun x71 _ => (kf3_lt (fun x73 _ => (kf3_ite (kf3_tr (g_fr_rf _) (g_fr_rf _) (fr_K_X11_wasWet_119 y25 F26 R27 y23 y24 b25 hb25)) (kf3_lt2 (fun F81 R82 zF81 => (kf3_lt2 (fun F89 R90 zF89 => (kf3_lt (fun x92 _ => (kf3_lt (fun R94 zR94 => (kf3_lt2 (fun F100 R101 zF100 => (kf3_lt (fun r103 _ => (kf3_ite (kf3_tr (kf2_F (kf2_F (kf2_F (g_fr_rf _) (fr_sp_X11_laysPull F26 R27) zF81 rfl) (fr_sp_X11_laysThings F81 R82) zF89 rfl) (fr_sp_X11_runs F89 R94) zF100 rfl) (kf2_R (kf_r (kf2_R (kf2_R (g_fr_rf _) (fr_sp_X11_laysPull F26 R27) zF81 rfl) (fr_sp_X11_laysThings F81 R82) zF89 rfl) rfl zR94) (fr_sp_X11_runs F89 R94) zF100 rfl) (fr_K_X11_wasWet_119 y25 F100 R101 y23 y24 b25 hb25)) (kf3_ite (kf3_tr (kf2_F (kf2_F (kf2_F (g_fr_rf _) (fr_sp_X11_laysPull F26 R27) zF81 rfl) (fr_sp_X11_laysThings F81 R82) zF89 rfl) (fr_sp_X11_runs F89 R94) zF100 rfl) (kf2_R (kf_r (kf2_R (kf2_R (g_fr_rf _) (fr_sp_X11_laysPull F26 R27) zF81 rfl) (fr_sp_X11_laysThings F81 R82) zF89 rfl) rfl zR94) (fr_sp_X11_runs F89 R94) zF100 rfl) (fr_K_X11_wasWet_114 F100 R101 y23 y25 y25 b25 hb25)) (kf3_tr (kf2_F (kf2_F (kf2_F (g_fr_rf _) (fr_sp_X11_laysPull F26 R27) zF81 rfl) (fr_sp_X11_laysThings F81 R82) zF89 rfl) (fr_sp_X11_runs F89 R94) zF100 rfl) (kf2_R (kf_r (kf2_R (kf2_R (g_fr_rf _) (fr_sp_X11_laysPull F26 R27) zF81 rfl) (fr_sp_X11_laysThings F81 R82) zF89 rfl) rfl zR94) (fr_sp_X11_runs F89 R94) zF100 rfl) (fr_K_X11_wasWet_114 F100 R101 y23 y25 y24 b25 hb25)))))))))))))))))))))))))))
theorem fr_K_X11_wasWet_25 (F : Nat → Int32) (a0 : Int32) : ∀ (n : Nat) (F26 : Nat → Int32) (R27 : Nat → Nat → Int32) (y23 : Int32) (y24 : Int32) (y25 : Int32), kf3 md_X11_wasWet mr_X11_wasWet F26 R27 (K_X11_wasWet_25 F a0 n F26 R27 y23 y24 y25)
  | 0, F26, R27, y23, y24, y25 => ⟨g_fr_rf _, g_fr_rf _⟩
  | n + 1, F26, R27, y23, y24, y25 => fr_KB_X11_wasWet_25 F a0 F26 R27 y23 y24 y25 (K_X11_wasWet_25 F a0 n) (fr_K_X11_wasWet_25 F a0 n)
theorem fr_sp_X11_wasWet (F : Nat → Int32) (R : Nat → Nat → Int32) (a0 : Int32) : kf3 md_X11_wasWet mr_X11_wasWet F R (sp_X11_wasWet F R a0) := by
  unfold sp_X11_wasWet
  exact (kf3_lt (fun r1 _ => (kf3_ite (kf3_tr (g_fr_rf _) (g_fr_rf _) (fr_K_X11_wasWet_16 F R)) (kf3_lt3 (fun r13 F17 R18 zF17 => (kf3_ite (kf3_tr (kf3_F (g_fr_rf _) (fr_sp_X11_takesPlaces F R) zF17 rfl) (kf3_R (g_fr_rf _) (fr_sp_X11_takesPlaces F R) zF17 rfl) (fr_K_X11_wasWet_16 F17 R18)) (kf3_tr (kf3_F (g_fr_rf _) (fr_sp_X11_takesPlaces F R) zF17 rfl) (kf3_R (g_fr_rf _) (fr_sp_X11_takesPlaces F R) zF17 rfl) (fr_K_X11_wasWet_25 F a0 8589934592 F17 R18 0 (-1) 0))))))))
theorem fr_K_X11_howQuick_16 (F5 : Nat → Int32) (R6 : Nat → Nat → Int32) : kf3 md_X11_howQuick mr_X11_howQuick F5 R6 (K_X11_howQuick_16 F5 R6) := by
  unfold K_X11_howQuick_16
  exact ⟨(g_fr_rf _), (g_fr_rf _)⟩
theorem fr_K_X11_howQuick_83 (F26 : Nat → Int32) (R27 : Nat → Nat → Int32) (y31 : Int32) : kf3 md_X11_howQuick mr_X11_howQuick F26 R27 (K_X11_howQuick_83 F26 R27 y31) := by
  unfold K_X11_howQuick_83
  exact ⟨(g_fr_rf _), (g_fr_rf _)⟩
theorem fr_K_X11_howQuick_68 (F51 : Nat → Int32) (R52 : Nat → Nat → Int32) (y25 : Int32) (y59 : Int32) (y60 : Int32) (b26 : (Nat → Int32) → (Nat → Nat → Int32) → (Int32) → (Int32) → (Int32) → Int32 × (Nat → Int32) × (Nat → Nat → Int32)) (hb26 : ∀ (F26 : Nat → Int32) (R27 : Nat → Nat → Int32) (y23 : Int32) (y24 : Int32) (y25 : Int32), kf3 md_X11_howQuick mr_X11_howQuick F26 R27 (b26 F26 R27 y23 y24 y25)) : kf3 md_X11_howQuick mr_X11_howQuick F51 R52 (K_X11_howQuick_68 b26 F51 R52 y25 y59 y60) := by
  unfold K_X11_howQuick_68
  exact (kf3_lt (fun x61 _ => (kf3_tr (g_fr_rf _) (g_fr_rf _) (hb26 F51 R52 y59 y60 x61))))
theorem fr_K_X11_howQuick_63 (F51 : Nat → Int32) (R52 : Nat → Nat → Int32) (y23 : Int32) (y25 : Int32) (y66 : Int32) (b26 : (Nat → Int32) → (Nat → Nat → Int32) → (Int32) → (Int32) → (Int32) → Int32 × (Nat → Int32) × (Nat → Nat → Int32)) (hb26 : ∀ (F26 : Nat → Int32) (R27 : Nat → Nat → Int32) (y23 : Int32) (y24 : Int32) (y25 : Int32), kf3 md_X11_howQuick mr_X11_howQuick F26 R27 (b26 F26 R27 y23 y24 y25)) : kf3 md_X11_howQuick mr_X11_howQuick F51 R52 (K_X11_howQuick_63 b26 F51 R52 y23 y25 y66) := by
  unfold K_X11_howQuick_63
  exact (kf3_lt (fun x67 _ => (kf3_tr (g_fr_rf _) (g_fr_rf _) (fr_K_X11_howQuick_68 F51 R52 y25 x67 y66 b26 hb26))))
theorem fr_KB_X11_howQuick_26 (a0 : Int32) (F26 : Nat → Int32) (R27 : Nat → Nat → Int32) (y23 : Int32) (y24 : Int32) (y25 : Int32) (b26 : (Nat → Int32) → (Nat → Nat → Int32) → (Int32) → (Int32) → (Int32) → Int32 × (Nat → Int32) × (Nat → Nat → Int32)) (hb26 : ∀ (F26 : Nat → Int32) (R27 : Nat → Nat → Int32) (y23 : Int32) (y24 : Int32) (y25 : Int32), kf3 md_X11_howQuick mr_X11_howQuick F26 R27 (b26 F26 R27 y23 y24 y25)) : kf3 md_X11_howQuick mr_X11_howQuick F26 R27 (KB_X11_howQuick_26 b26 a0 F26 R27 y23 y24 y25) := by
  unfold KB_X11_howQuick_26
  exact (kf3_ite (kf3_ite (kf3_tr (g_fr_rf _) (g_fr_rf _) (fr_K_X11_howQuick_83 F26 R27 y23)) (kf3_tr (g_fr_rf _) (g_fr_rf _) (fr_K_X11_howQuick_83 F26 R27 y24))) (kf3_lt2 (fun F44 R45 zF44 => (kf3_lt2 (fun F51 R52 zF51 => (kf3_lt (fun r54 _ => (kf3_ite (kf3_tr (kf2_F (kf2_F (g_fr_rf _) (fr_sp_X11_laysThings F26 R27) zF44 rfl) (fr_sp_X11_runsEven F44 R45 y25) zF51 rfl) (kf2_R (kf2_R (g_fr_rf _) (fr_sp_X11_laysThings F26 R27) zF44 rfl) (fr_sp_X11_runsEven F44 R45 y25) zF51 rfl) (fr_K_X11_howQuick_68 F51 R52 y25 y23 y24 b26 hb26)) (kf3_ite (kf3_tr (kf2_F (kf2_F (g_fr_rf _) (fr_sp_X11_laysThings F26 R27) zF44 rfl) (fr_sp_X11_runsEven F44 R45 y25) zF51 rfl) (kf2_R (kf2_R (g_fr_rf _) (fr_sp_X11_laysThings F26 R27) zF44 rfl) (fr_sp_X11_runsEven F44 R45 y25) zF51 rfl) (fr_K_X11_howQuick_63 F51 R52 y23 y25 y25 b26 hb26)) (kf3_tr (kf2_F (kf2_F (g_fr_rf _) (fr_sp_X11_laysThings F26 R27) zF44 rfl) (fr_sp_X11_runsEven F44 R45 y25) zF51 rfl) (kf2_R (kf2_R (g_fr_rf _) (fr_sp_X11_laysThings F26 R27) zF44 rfl) (fr_sp_X11_runsEven F44 R45 y25) zF51 rfl) (fr_K_X11_howQuick_63 F51 R52 y23 y25 y24 b26 hb26)))))))))))
theorem fr_K_X11_howQuick_26 (a0 : Int32) : ∀ (n : Nat) (F26 : Nat → Int32) (R27 : Nat → Nat → Int32) (y23 : Int32) (y24 : Int32) (y25 : Int32), kf3 md_X11_howQuick mr_X11_howQuick F26 R27 (K_X11_howQuick_26 a0 n F26 R27 y23 y24 y25)
  | 0, F26, R27, y23, y24, y25 => ⟨g_fr_rf _, g_fr_rf _⟩
  | n + 1, F26, R27, y23, y24, y25 => fr_KB_X11_howQuick_26 a0 F26 R27 y23 y24 y25 (K_X11_howQuick_26 a0 n) (fr_K_X11_howQuick_26 a0 n)
theorem fr_sp_X11_howQuick (F : Nat → Int32) (R : Nat → Nat → Int32) (a0 : Int32) : kf3 md_X11_howQuick mr_X11_howQuick F R (sp_X11_howQuick F R a0) := by
  unfold sp_X11_howQuick
  exact (kf3_lt (fun r1 _ => (kf3_ite (kf3_tr (g_fr_rf _) (g_fr_rf _) (fr_K_X11_howQuick_16 F R)) (kf3_lt3 (fun r13 F17 R18 zF17 => (kf3_ite (kf3_tr (kf3_F (g_fr_rf _) (fr_sp_X11_takesPlaces F R) zF17 rfl) (kf3_R (g_fr_rf _) (fr_sp_X11_takesPlaces F R) zF17 rfl) (fr_K_X11_howQuick_16 F17 R18)) (kf3_tr (kf3_F (g_fr_rf _) (fr_sp_X11_takesPlaces F R) zF17 rfl) (kf3_R (g_fr_rf _) (fr_sp_X11_takesPlaces F R) zF17 rfl) (fr_K_X11_howQuick_26 a0 8589934592 F17 R18 0 (-2) 1))))))))
theorem fr_sp_X11_runsBy (F : Nat → Int32) (R : Nat → Nat → Int32) (a0 : Int32) (a1 : Int32) : kf2 md_X11_runsBy mr_X11_runsBy F R (sp_X11_runsBy F R a0 a1) := by
  unfold sp_X11_runsBy
  exact (kf2_lt2 (fun F5 R6 zF5 => (kf2_lt2 (fun F13 R14 zF13 => (kf2_lt (fun F16 zF16 => (kf2_lt (fun F18 zF18 => (kf2_lt2 (fun F24 R25 zF24 => ⟨(kf2_F (kf_u (kf_u (kf2_F (kf2_F (g_fr_rf _) (fr_sp_X11_laysPull F R) zF5 rfl) (fr_sp_X11_laysThings F5 R6) zF13 rfl) rfl zF16) rfl zF18) (fr_sp_X11_runs F18 R14) zF24 rfl), (kf2_R (kf2_R (kf2_R (g_fr_rf _) (fr_sp_X11_laysPull F R) zF5 rfl) (fr_sp_X11_laysThings F5 R6) zF13 rfl) (fr_sp_X11_runs F18 R14) zF24 rfl)⟩))))))))))
theorem fr_K_X11_odds_35 (F : Nat → Int32) (R : Nat → Nat → Int32) : kf3 md_X11_odds mr_X11_odds F R (K_X11_odds_35 F R) := by
  unfold K_X11_odds_35
  exact ⟨(g_fr_rf _), (g_fr_rf _)⟩
theorem fr_K_X11_odds_119 (F36 : Nat → Int32) (R37 : Nat → Nat → Int32) (y57 : Int32) : kf3 md_X11_odds mr_X11_odds F36 R37 (K_X11_odds_119 F36 R37 y57) := by
  unfold K_X11_odds_119
  exact ⟨(g_fr_rf _), (g_fr_rf _)⟩
theorem fr_K_X11_odds_78 (F78 : Nat → Int32) (R79 : Nat → Nat → Int32) (y34 : Int32) (y35 : Int32) (y92 : Int32) (b43 : (Nat → Int32) → (Nat → Nat → Int32) → (Int32) → (Int32) → Int32 × (Nat → Int32) × (Nat → Nat → Int32)) (hb43 : ∀ (F36 : Nat → Int32) (R37 : Nat → Nat → Int32) (y34 : Int32) (y35 : Int32), kf3 md_X11_odds mr_X11_odds F36 R37 (b43 F36 R37 y34 y35)) : kf3 md_X11_odds mr_X11_odds F78 R79 (K_X11_odds_78 b43 F78 R79 y34 y35 y92) := by
  unfold K_X11_odds_78
  exact (kf3_lt (fun x93 _ => (kf3_lt (fun x95 _ => (kf3_tr (g_fr_rf _) (g_fr_rf _) (hb43 F78 R79 x93 x95))))))
theorem fr_KB_X11_odds_43 (a0 : Int32) (a1 : Int32) (a2 : Int32) (F36 : Nat → Int32) (R37 : Nat → Nat → Int32) (y34 : Int32) (y35 : Int32) (b43 : (Nat → Int32) → (Nat → Nat → Int32) → (Int32) → (Int32) → Int32 × (Nat → Int32) × (Nat → Nat → Int32)) (hb43 : ∀ (F36 : Nat → Int32) (R37 : Nat → Nat → Int32) (y34 : Int32) (y35 : Int32), kf3 md_X11_odds mr_X11_odds F36 R37 (b43 F36 R37 y34 y35)) : kf3 md_X11_odds mr_X11_odds F36 R37 (KB_X11_odds_43 b43 a0 a1 a2 F36 R37 y34 y35) := by
  unfold KB_X11_odds_43
  exact (kf3_lt (fun r39 _ => (kf3_ite (kf3_lt (fun r47 _ => (kf3_lt (fun r52 _ => (kf3_ite (kf3_lt (fun x70 _ => (kf3_tr (g_fr_rf _) (g_fr_rf _) (fr_K_X11_odds_119 F36 R37 x70)))) (kf3_lt (fun r61 _ => (kf3_lt (fun x66 _ => (kf3_tr (g_fr_rf _) (g_fr_rf _) (fr_K_X11_odds_119 F36 R37 x66))))))))))) (kf3_lt2 (fun F78 R79 zF78 => (kf3_lt (fun r81 _ => (kf3_lt (fun r86 _ => (kf3_ite (kf3_tr (kf2_F (g_fr_rf _) (fr_sp_X11_runsBy F36 R37 a0 y35) zF78 rfl) (kf2_R (g_fr_rf _) (fr_sp_X11_runsBy F36 R37 a0 y35) zF78 rfl) (fr_K_X11_odds_78 F78 R79 y34 y35 0 b43 hb43)) (kf3_tr (kf2_F (g_fr_rf _) (fr_sp_X11_runsBy F36 R37 a0 y35) zF78 rfl) (kf2_R (g_fr_rf _) (fr_sp_X11_runsBy F36 R37 a0 y35) zF78 rfl) (fr_K_X11_odds_78 F78 R79 y34 y35 1 b43 hb43))))))))))))
theorem fr_K_X11_odds_43 (a0 : Int32) (a1 : Int32) (a2 : Int32) : ∀ (n : Nat) (F36 : Nat → Int32) (R37 : Nat → Nat → Int32) (y34 : Int32) (y35 : Int32), kf3 md_X11_odds mr_X11_odds F36 R37 (K_X11_odds_43 a0 a1 a2 n F36 R37 y34 y35)
  | 0, F36, R37, y34, y35 => ⟨g_fr_rf _, g_fr_rf _⟩
  | n + 1, F36, R37, y34, y35 => fr_KB_X11_odds_43 a0 a1 a2 F36 R37 y34 y35 (K_X11_odds_43 a0 a1 a2 n) (fr_K_X11_odds_43 a0 a1 a2 n)
theorem fr_sp_X11_odds (F : Nat → Int32) (R : Nat → Nat → Int32) (a0 : Int32) (a1 : Int32) (a2 : Int32) : kf3 md_X11_odds mr_X11_odds F R (sp_X11_odds F R a0 a1 a2) := by
  unfold sp_X11_odds
  exact (kf3_lt (fun r1 _ => (kf3_ite (kf3_tr (g_fr_rf _) (g_fr_rf _) (fr_K_X11_odds_35 F R)) (kf3_lt (fun r11 _ => (kf3_ite (kf3_tr (g_fr_rf _) (g_fr_rf _) (fr_K_X11_odds_35 F R)) (kf3_lt (fun r21 _ => (kf3_ite (kf3_tr (g_fr_rf _) (g_fr_rf _) (fr_K_X11_odds_35 F R)) (kf3_ite (kf3_tr (g_fr_rf _) (g_fr_rf _) (fr_K_X11_odds_35 F R)) (kf3_tr (g_fr_rf _) (g_fr_rf _) (fr_K_X11_odds_43 a0 a1 a2 8589934592 F R 0 0))))))))))))
theorem fr_K_X11_should_27 (F : Nat → Int32) (R : Nat → Nat → Int32) : kf3 md_X11_should mr_X11_should F R (K_X11_should_27 F R) := by
  unfold K_X11_should_27
  exact ⟨(g_fr_rf _), (g_fr_rf _)⟩
theorem fr_K_X11_should_114 (F42 : Nat → Int32) (R43 : Nat → Nat → Int32) (y52 : Int32) (y64 : Int32) (b75 : (Int32) → (Int32) → Int32 × (Nat → Int32) × (Nat → Nat → Int32)) (hb75 : ∀ (y51 : Int32) (y52 : Int32), kf3 md_X11_should mr_X11_should F42 R43 (b75 y51 y52)) : kf3 md_X11_should mr_X11_should F42 R43 (K_X11_should_114 b75 y52 y64) := by
  unfold K_X11_should_114
  exact (kf3_lt (fun x65 _ => (kf3_tr (g_fr_rf _) (g_fr_rf _) (hb75 y64 x65))))
theorem fr_KB_X11_should_75 (F : Nat → Int32) (F42 : Nat → Int32) (R43 : Nat → Nat → Int32) (r45 : Int32) (y25 : Int32) (y51 : Int32) (y52 : Int32) (b75 : (Int32) → (Int32) → Int32 × (Nat → Int32) × (Nat → Nat → Int32)) (hb75 : ∀ (y51 : Int32) (y52 : Int32), kf3 md_X11_should mr_X11_should F42 R43 (b75 y51 y52)) (b36 : (Nat → Int32) → (Nat → Nat → Int32) → (Int32) → (Int32) → Int32 × (Nat → Int32) × (Nat → Nat → Int32)) (hb36 : ∀ (F26 : Nat → Int32) (R27 : Nat → Nat → Int32) (y24 : Int32) (y25 : Int32), kf3 md_X11_should mr_X11_should F26 R27 (b36 F26 R27 y24 y25)) : kf3 md_X11_should mr_X11_should F42 R43 (KB_X11_should_75 b75 b36 F F42 R43 r45 y25 y51 y52) := by
  unfold KB_X11_should_75
  exact (kf3_ite (kf3_lt (fun x56 _ => (kf3_tr (g_fr_rf _) (g_fr_rf _) (hb36 F42 R43 y51 x56)))) (kf3_lt (fun r60 _ => (kf3_ite (kf3_tr (g_fr_rf _) (g_fr_rf _) (fr_K_X11_should_114 F42 R43 y52 y51 b75 hb75)) (kf3_lt (fun r73 _ => (kf3_ite (kf3_lt (fun x83 _ => (kf3_lt (fun x85 _ => (kf3_tr (g_fr_rf _) (g_fr_rf _) (fr_K_X11_should_114 F42 R43 y52 x85 b75 hb75)))))) (kf3_tr (g_fr_rf _) (g_fr_rf _) (fr_K_X11_should_114 F42 R43 y52 y51 b75 hb75)))))))))
theorem fr_K_X11_should_75 (F : Nat → Int32) (F42 : Nat → Int32) (R43 : Nat → Nat → Int32) (r45 : Int32) (y25 : Int32) (b36 : (Nat → Int32) → (Nat → Nat → Int32) → (Int32) → (Int32) → Int32 × (Nat → Int32) × (Nat → Nat → Int32)) (hb36 : ∀ (F26 : Nat → Int32) (R27 : Nat → Nat → Int32) (y24 : Int32) (y25 : Int32), kf3 md_X11_should mr_X11_should F26 R27 (b36 F26 R27 y24 y25)) : ∀ (n : Nat) (y51 : Int32) (y52 : Int32), kf3 md_X11_should mr_X11_should F42 R43 (K_X11_should_75 b36 F F42 R43 r45 y25 n y51 y52)
  | 0, y51, y52 => ⟨g_fr_rf _, g_fr_rf _⟩
  | n + 1, y51, y52 => fr_KB_X11_should_75 F F42 R43 r45 y25 y51 y52 (K_X11_should_75 b36 F F42 R43 r45 y25 n) (fr_K_X11_should_75 F F42 R43 r45 y25 b36 hb36 n) b36 hb36
theorem fr_K_X11_should_72 (F : Nat → Int32) (F42 : Nat → Int32) (R43 : Nat → Nat → Int32) (r45 : Int32) (y25 : Int32) (y50 : Int32) (b36 : (Nat → Int32) → (Nat → Nat → Int32) → (Int32) → (Int32) → Int32 × (Nat → Int32) × (Nat → Nat → Int32)) (hb36 : ∀ (F26 : Nat → Int32) (R27 : Nat → Nat → Int32) (y24 : Int32) (y25 : Int32), kf3 md_X11_should mr_X11_should F26 R27 (b36 F26 R27 y24 y25)) : kf3 md_X11_should mr_X11_should F42 R43 (K_X11_should_72 b36 F F42 R43 r45 y25 y50) := by
  unfold K_X11_should_72
  exact (kf3_tr (g_fr_rf _) (g_fr_rf _) (fr_K_X11_should_75 F F42 R43 r45 y25 b36 hb36 8589934592 y50 0))
theorem fr_KB_X11_should_36 (F : Nat → Int32) (a0 : Int32) (a1 : Int32) (F26 : Nat → Int32) (R27 : Nat → Nat → Int32) (y24 : Int32) (y25 : Int32) (b36 : (Nat → Int32) → (Nat → Nat → Int32) → (Int32) → (Int32) → Int32 × (Nat → Int32) × (Nat → Nat → Int32)) (hb36 : ∀ (F26 : Nat → Int32) (R27 : Nat → Nat → Int32) (y24 : Int32) (y25 : Int32), kf3 md_X11_should mr_X11_should F26 R27 (b36 F26 R27 y24 y25)) : kf3 md_X11_should mr_X11_should F26 R27 (KB_X11_should_36 b36 F a0 a1 F26 R27 y24 y25) := by
  unfold KB_X11_should_36
  exact (kf3_lt (fun r28 _ => (kf3_ite ⟨(g_fr_rf _), (g_fr_rf _)⟩ (kf3_lt2 (fun F42 R43 zF42 => (kf3_lt (fun r45 _ => (kf3_ite (kf3_lt (fun x90 _ => (kf3_tr (kf2_F (g_fr_rf _) (fr_sp_X11_runsBy F26 R27 a0 y25) zF42 rfl) (kf2_R (g_fr_rf _) (fr_sp_X11_runsBy F26 R27 a0 y25) zF42 rfl) (fr_K_X11_should_72 F F42 R43 r45 y25 x90 b36 hb36)))) (kf3_tr (kf2_F (g_fr_rf _) (fr_sp_X11_runsBy F26 R27 a0 y25) zF42 rfl) (kf2_R (g_fr_rf _) (fr_sp_X11_runsBy F26 R27 a0 y25) zF42 rfl) (fr_K_X11_should_72 F F42 R43 r45 y25 y24 b36 hb36))))))))))
theorem fr_K_X11_should_36 (F : Nat → Int32) (a0 : Int32) (a1 : Int32) : ∀ (n : Nat) (F26 : Nat → Int32) (R27 : Nat → Nat → Int32) (y24 : Int32) (y25 : Int32), kf3 md_X11_should mr_X11_should F26 R27 (K_X11_should_36 F a0 a1 n F26 R27 y24 y25)
  | 0, F26, R27, y24, y25 => ⟨g_fr_rf _, g_fr_rf _⟩
  | n + 1, F26, R27, y24, y25 => fr_KB_X11_should_36 F a0 a1 F26 R27 y24 y25 (K_X11_should_36 F a0 a1 n) (fr_K_X11_should_36 F a0 a1 n)
theorem fr_sp_X11_should (F : Nat → Int32) (R : Nat → Nat → Int32) (a0 : Int32) (a1 : Int32) : kf3 md_X11_should mr_X11_should F R (sp_X11_should F R a0 a1) := by
  unfold sp_X11_should
  exact (kf3_lt (fun r1 _ => (kf3_ite (kf3_tr (g_fr_rf _) (g_fr_rf _) (fr_K_X11_should_27 F R)) (kf3_lt (fun r11 _ => (kf3_ite (kf3_tr (g_fr_rf _) (g_fr_rf _) (fr_K_X11_should_27 F R)) (kf3_ite (kf3_tr (g_fr_rf _) (g_fr_rf _) (fr_K_X11_should_27 F R)) (kf3_tr (g_fr_rf _) (g_fr_rf _) (fr_K_X11_should_36 F a0 a1 8589934592 F R 0 0)))))))))
theorem fr_KB_X11_readsRow_12 (F : Nat → Int32) (R6 : Nat → Nat → Int32) (y3 : Int32) (y4 : Int32) (y5 : Int32) (b12 : (Nat → Nat → Int32) → (Int32) → (Int32) → (Int32) → Int32 × (Nat → Int32) × (Nat → Nat → Int32)) (hb12 : ∀ (R6 : Nat → Nat → Int32) (y3 : Int32) (y4 : Int32) (y5 : Int32), kf3 md_X11_readsRow mr_X11_readsRow F R6 (b12 R6 y3 y4 y5)) : kf3 md_X11_readsRow mr_X11_readsRow F R6 (KB_X11_readsRow_12 b12 F R6 y3 y4 y5) := by
  unfold KB_X11_readsRow_12
  exact (kf3_ite ⟨(g_fr_rf _), (g_fr_rf _)⟩ (kf3_lt (fun x12 _ => (kf3_lt (fun R14 zR14 => (kf3_lt (fun x16 _ => (kf3_lt (fun x18 _ => (kf3_lt (fun r21 _ => (kf3_ite (kf3_lt (fun x28 _ => (kf3_lt (fun x31 _ => (kf3_lt (fun x33 _ => (kf3_lt (fun x35 _ => (kf3_tr (g_fr_rf _) (kf_r (g_fr_rf _) rfl zR14) (hb12 R14 x16 x33 x35)))))))))) ⟨(g_fr_rf _), (kf_r (g_fr_rf _) rfl zR14)⟩))))))))))))
theorem fr_K_X11_readsRow_12 (F : Nat → Int32) : ∀ (n : Nat) (R6 : Nat → Nat → Int32) (y3 : Int32) (y4 : Int32) (y5 : Int32), kf3 md_X11_readsRow mr_X11_readsRow F R6 (K_X11_readsRow_12 F n R6 y3 y4 y5)
  | 0, R6, y3, y4, y5 => ⟨g_fr_rf _, g_fr_rf _⟩
  | n + 1, R6, y3, y4, y5 => fr_KB_X11_readsRow_12 F R6 y3 y4 y5 (K_X11_readsRow_12 F n) (fr_K_X11_readsRow_12 F n)
theorem fr_sp_X11_readsRow (F : Nat → Int32) (R : Nat → Nat → Int32) (a0 : Int32) : kf3 md_X11_readsRow mr_X11_readsRow F R (sp_X11_readsRow F R a0) := by
  unfold sp_X11_readsRow
  exact (kf3_lt (fun x1 _ => (kf3_tr (g_fr_rf _) (g_fr_rf _) (fr_K_X11_readsRow_12 F 8589934592 R a0 0 x1))))
theorem fr_K_X11_put_62 (F : Nat → Int32) (R : Nat → Nat → Int32) : kf3 md_X11_put mr_X11_put F R (K_X11_put_62 F R) := by
  unfold K_X11_put_62
  exact ⟨(g_fr_rf _), (g_fr_rf _)⟩
theorem fr_KB_X11_put_341 (F55 : Nat → Int32) (F70 : Nat → Int32) (R71 : Nat → Nat → Int32) (a1 : Int32) (y75 : Int32) (b341 : (Int32) → Int32 × (Nat → Int32) × (Nat → Nat → Int32)) (hb341 : ∀ (y75 : Int32), kf3 md_X11_put mr_X11_put F70 R71 (b341 y75)) : kf3 md_X11_put mr_X11_put F70 R71 (KB_X11_put_341 b341 F55 F70 R71 a1 y75) := by
  unfold KB_X11_put_341
  exact (kf3_ite ⟨(g_fr_rf _), (g_fr_rf _)⟩ (kf3_lt (fun x82 _ => (kf3_ite (kf3_lt (fun x91 _ => (kf3_lt (fun x94 _ => ⟨(g_fr_rf _), (g_fr_rf _)⟩)))) (kf3_lt (fun x87 _ => (kf3_tr (g_fr_rf _) (g_fr_rf _) (hb341 x87))))))))
theorem fr_K_X11_put_341 (F55 : Nat → Int32) (F70 : Nat → Int32) (R71 : Nat → Nat → Int32) (a1 : Int32) : ∀ (n : Nat) (y75 : Int32), kf3 md_X11_put mr_X11_put F70 R71 (K_X11_put_341 F55 F70 R71 a1 n y75)
  | 0, y75 => ⟨g_fr_rf _, g_fr_rf _⟩
  | n + 1, y75 => fr_KB_X11_put_341 F55 F70 R71 a1 y75 (K_X11_put_341 F55 F70 R71 a1 n) (fr_K_X11_put_341 F55 F70 R71 a1 n)
theorem fr_KB_X11_put_289 (F55 : Nat → Int32) (F104 : Nat → Int32) (R108 : Nat → Nat → Int32) (y107 : Int32) (b289 : (Nat → Nat → Int32) → (Int32) → Int32 × (Nat → Int32) × (Nat → Nat → Int32)) (hb289 : ∀ (R108 : Nat → Nat → Int32) (y107 : Int32), kf3 md_X11_put mr_X11_put F104 R108 (b289 R108 y107)) : kf3 md_X11_put mr_X11_put F104 R108 (KB_X11_put_289 b289 F55 F104 R108 y107) := by
  unfold KB_X11_put_289
  exact (kf3_ite ⟨(g_fr_rf _), (g_fr_rf _)⟩ (kf3_lt (fun x115 _ => (kf3_lt (fun x118 _ => (kf3_lt (fun x121 _ => (kf3_lt (fun x124 _ => (kf3_lt (fun R126 zR126 => (kf3_lt (fun x128 _ => (kf3_tr (g_fr_rf _) (kf_r (g_fr_rf _) rfl zR126) (hb289 R126 x128)))))))))))))))
theorem fr_K_X11_put_289 (F55 : Nat → Int32) (F104 : Nat → Int32) : ∀ (n : Nat) (R108 : Nat → Nat → Int32) (y107 : Int32), kf3 md_X11_put mr_X11_put F104 R108 (K_X11_put_289 F55 F104 n R108 y107)
  | 0, R108, y107 => ⟨g_fr_rf _, g_fr_rf _⟩
  | n + 1, R108, y107 => fr_KB_X11_put_289 F55 F104 R108 y107 (K_X11_put_289 F55 F104 n) (fr_K_X11_put_289 F55 F104 n)
theorem fr_K_X11_put_239 (y54 : Int32) (F144 : Nat → Int32) (R145 : Nat → Nat → Int32) (b155 : (Nat → Int32) → (Nat → Nat → Int32) → (Int32) → Int32 × (Nat → Int32) × (Nat → Nat → Int32)) (hb155 : ∀ (F55 : Nat → Int32) (R56 : Nat → Nat → Int32) (y54 : Int32), kf3 md_X11_put mr_X11_put F55 R56 (b155 F55 R56 y54)) : kf3 md_X11_put mr_X11_put F144 R145 (K_X11_put_239 b155 y54 F144 R145) := by
  unfold K_X11_put_239
  exact (kf3_lt (fun x147 _ => (kf3_tr (g_fr_rf _) (g_fr_rf _) (hb155 F144 R145 x147))))
theorem fr_KB_X11_put_185 (F55 : Nat → Int32) (F164 : Nat → Int32) (y54 : Int32) (R168 : Nat → Nat → Int32) (y167 : Int32) (b185 : (Nat → Nat → Int32) → (Int32) → Int32 × (Nat → Int32) × (Nat → Nat → Int32)) (hb185 : ∀ (R168 : Nat → Nat → Int32) (y167 : Int32), kf3 md_X11_put mr_X11_put F164 R168 (b185 R168 y167)) (b155 : (Nat → Int32) → (Nat → Nat → Int32) → (Int32) → Int32 × (Nat → Int32) × (Nat → Nat → Int32)) (hb155 : ∀ (F55 : Nat → Int32) (R56 : Nat → Nat → Int32) (y54 : Int32), kf3 md_X11_put mr_X11_put F55 R56 (b155 F55 R56 y54)) : kf3 md_X11_put mr_X11_put F164 R168 (KB_X11_put_185 b185 b155 F55 F164 y54 R168 y167) := by
  unfold KB_X11_put_185
  exact (kf3_ite (kf3_lt2 (fun F177 R178 zF177 => (kf3_lt2 (fun F186 R187 zF186 => (kf3_tr (kf2_F (kf2_F (g_fr_rf _) (fr_sp_X11_runs F164 R168) zF177 rfl) (fr_sp_X11_better F177 R178 y54) zF186 rfl) (kf2_R (kf2_R (g_fr_rf _) (fr_sp_X11_runs F164 R168) zF177 rfl) (fr_sp_X11_better F177 R178 y54) zF186 rfl) (fr_K_X11_put_239 y54 F186 R187 b155 hb155)))))) (kf3_lt (fun x191 _ => (kf3_lt (fun x194 _ => (kf3_lt (fun x197 _ => (kf3_lt (fun x200 _ => (kf3_lt (fun R202 zR202 => (kf3_lt (fun x204 _ => (kf3_tr (g_fr_rf _) (kf_r (g_fr_rf _) rfl zR202) (hb185 R202 x204)))))))))))))))
theorem fr_K_X11_put_185 (F55 : Nat → Int32) (F164 : Nat → Int32) (y54 : Int32) (b155 : (Nat → Int32) → (Nat → Nat → Int32) → (Int32) → Int32 × (Nat → Int32) × (Nat → Nat → Int32)) (hb155 : ∀ (F55 : Nat → Int32) (R56 : Nat → Nat → Int32) (y54 : Int32), kf3 md_X11_put mr_X11_put F55 R56 (b155 F55 R56 y54)) : ∀ (n : Nat) (R168 : Nat → Nat → Int32) (y167 : Int32), kf3 md_X11_put mr_X11_put F164 R168 (K_X11_put_185 b155 F55 F164 y54 n R168 y167)
  | 0, R168, y167 => ⟨g_fr_rf _, g_fr_rf _⟩
  | n + 1, R168, y167 => fr_KB_X11_put_185 F55 F164 y54 R168 y167 (K_X11_put_185 b155 F55 F164 y54 n) (fr_K_X11_put_185 F55 F164 y54 b155 hb155 n) b155 hb155
theorem fr_KB_X11_put_155 (a1 : Int32) (y41 : Int32) (F55 : Nat → Int32) (R56 : Nat → Nat → Int32) (y54 : Int32) (b155 : (Nat → Int32) → (Nat → Nat → Int32) → (Int32) → Int32 × (Nat → Int32) × (Nat → Nat → Int32)) (hb155 : ∀ (F55 : Nat → Int32) (R56 : Nat → Nat → Int32) (y54 : Int32), kf3 md_X11_put mr_X11_put F55 R56 (b155 F55 R56 y54)) : kf3 md_X11_put mr_X11_put F55 R56 (KB_X11_put_155 b155 a1 y41 F55 R56 y54) := by
  unfold KB_X11_put_155
  exact (kf3_ite (kf3_ite ⟨(g_fr_rf _), (g_fr_rf _)⟩ (kf3_ite ⟨(g_fr_rf _), (g_fr_rf _)⟩ (kf3_lt3 (fun r65 F70 R71 zF70 => (kf3_ite (kf3_lt2 (fun F104 R105 zF104 => (kf3_tr (kf2_F (kf3_F (g_fr_rf _) (fr_sp_X11_readsRow F55 R56 (F55 72)) zF70 rfl) (fr_sp_X11_laysThings F70 R71) zF104 rfl) (kf2_R (kf3_R (g_fr_rf _) (fr_sp_X11_readsRow F55 R56 (F55 72)) zF70 rfl) (fr_sp_X11_laysThings F70 R71) zF104 rfl) (fr_K_X11_put_289 F55 F104 8589934592 R105 0)))) (kf3_tr (kf3_F (g_fr_rf _) (fr_sp_X11_readsRow F55 R56 (F55 72)) zF70 rfl) (kf3_R (g_fr_rf _) (fr_sp_X11_readsRow F55 R56 (F55 72)) zF70 rfl) (fr_K_X11_put_341 F55 F70 R71 a1 8589934592 0))))))) (kf3_lt3 (fun r136 F141 R142 zF141 => (kf3_ite (kf3_tr (kf3_F (g_fr_rf _) (fr_sp_X11_readsRow F55 R56 y54) zF141 rfl) (kf3_R (g_fr_rf _) (fr_sp_X11_readsRow F55 R56 y54) zF141 rfl) (fr_K_X11_put_239 y54 F141 R142 b155 hb155)) (kf3_lt2 (fun F156 R157 zF156 => (kf3_lt2 (fun F164 R165 zF164 => (kf3_tr (kf2_F (kf2_F (kf3_F (g_fr_rf _) (fr_sp_X11_readsRow F55 R56 y54) zF141 rfl) (fr_sp_X11_laysPull F141 R142) zF156 rfl) (fr_sp_X11_laysThings F156 R157) zF164 rfl) (kf2_R (kf2_R (kf3_R (g_fr_rf _) (fr_sp_X11_readsRow F55 R56 y54) zF141 rfl) (fr_sp_X11_laysPull F141 R142) zF156 rfl) (fr_sp_X11_laysThings F156 R157) zF164 rfl) (fr_K_X11_put_185 F55 F164 y54 b155 hb155 8589934592 R165 0))))))))))
theorem fr_K_X11_put_155 (a1 : Int32) (y41 : Int32) : ∀ (n : Nat) (F55 : Nat → Int32) (R56 : Nat → Nat → Int32) (y54 : Int32), kf3 md_X11_put mr_X11_put F55 R56 (K_X11_put_155 a1 y41 n F55 R56 y54)
  | 0, F55, R56, y54 => ⟨g_fr_rf _, g_fr_rf _⟩
  | n + 1, F55, R56, y54 => fr_KB_X11_put_155 a1 y41 F55 R56 y54 (K_X11_put_155 a1 y41 n) (fr_K_X11_put_155 a1 y41 n)
theorem fr_KB_X11_put_124 (F36 : Nat → Int32) (R37 : Nat → Nat → Int32) (a1 : Int32) (y41 : Int32) (y42 : Int32) (b124 : (Int32) → (Int32) → Int32 × (Nat → Int32) × (Nat → Nat → Int32)) (hb124 : ∀ (y41 : Int32) (y42 : Int32), kf3 md_X11_put mr_X11_put F36 R37 (b124 y41 y42)) : kf3 md_X11_put mr_X11_put F36 R37 (KB_X11_put_124 b124 F36 R37 a1 y41 y42) := by
  unfold KB_X11_put_124
  exact (kf3_ite (kf3_lt2 (fun F51 R52 zF51 => (kf3_tr (kf2_F (g_fr_rf _) (fr_sp_X11_forgetsBest F36 R37) zF51 rfl) (kf2_R (g_fr_rf _) (fr_sp_X11_forgetsBest F36 R37) zF51 rfl) (fr_K_X11_put_155 a1 y41 8589934592 F51 R52 0)))) (kf3_lt (fun x211 _ => (kf3_lt (fun x213 _ => (kf3_tr (g_fr_rf _) (g_fr_rf _) (hb124 x211 x213)))))))
theorem fr_K_X11_put_124 (F36 : Nat → Int32) (R37 : Nat → Nat → Int32) (a1 : Int32) : ∀ (n : Nat) (y41 : Int32) (y42 : Int32), kf3 md_X11_put mr_X11_put F36 R37 (K_X11_put_124 F36 R37 a1 n y41 y42)
  | 0, y41, y42 => ⟨g_fr_rf _, g_fr_rf _⟩
  | n + 1, y41, y42 => fr_KB_X11_put_124 F36 R37 a1 y41 y42 (K_X11_put_124 F36 R37 a1 n) (fr_K_X11_put_124 F36 R37 a1 n)
theorem fr_K_X11_put_112 (y35 : Int32) (F221 : Nat → Int32) (R222 : Nat → Nat → Int32) (b72 : (Nat → Int32) → (Nat → Nat → Int32) → (Int32) → Int32 × (Nat → Int32) × (Nat → Nat → Int32)) (hb72 : ∀ (F36 : Nat → Int32) (R37 : Nat → Nat → Int32) (y35 : Int32), kf3 md_X11_put mr_X11_put F36 R37 (b72 F36 R37 y35)) : kf3 md_X11_put mr_X11_put F221 R222 (K_X11_put_112 b72 y35 F221 R222) := by
  unfold K_X11_put_112
  exact (kf3_lt (fun x223 _ => (kf3_tr (g_fr_rf _) (g_fr_rf _) (hb72 F221 R222 x223))))
theorem fr_KB_X11_put_72 (a0 : Int32) (a1 : Int32) (F36 : Nat → Int32) (R37 : Nat → Nat → Int32) (y35 : Int32) (b72 : (Nat → Int32) → (Nat → Nat → Int32) → (Int32) → Int32 × (Nat → Int32) × (Nat → Nat → Int32)) (hb72 : ∀ (F36 : Nat → Int32) (R37 : Nat → Nat → Int32) (y35 : Int32), kf3 md_X11_put mr_X11_put F36 R37 (b72 F36 R37 y35)) : kf3 md_X11_put mr_X11_put F36 R37 (KB_X11_put_72 b72 a0 a1 F36 R37 y35) := by
  unfold KB_X11_put_72
  exact (kf3_ite (kf3_tr (g_fr_rf _) (g_fr_rf _) (fr_K_X11_put_124 F36 R37 a1 8589934592 1 0)) (kf3_lt (fun r217 _ => (kf3_ite (kf3_tr (g_fr_rf _) (g_fr_rf _) (fr_K_X11_put_112 y35 F36 R37 b72 hb72)) (kf3_lt (fun R231 zR231 => (kf3_lt (fun x233 _ => (kf3_lt (fun F235 zF235 => (kf3_tr (kf_u (g_fr_rf _) rfl zF235) (kf_r (g_fr_rf _) rfl zR231) (fr_K_X11_put_112 y35 F235 R231 b72 hb72))))))))))))
theorem fr_K_X11_put_72 (a0 : Int32) (a1 : Int32) : ∀ (n : Nat) (F36 : Nat → Int32) (R37 : Nat → Nat → Int32) (y35 : Int32), kf3 md_X11_put mr_X11_put F36 R37 (K_X11_put_72 a0 a1 n F36 R37 y35)
  | 0, F36, R37, y35 => ⟨g_fr_rf _, g_fr_rf _⟩
  | n + 1, F36, R37, y35 => fr_KB_X11_put_72 a0 a1 F36 R37 y35 (K_X11_put_72 a0 a1 n) (fr_K_X11_put_72 a0 a1 n)
theorem fr_K_X11_put_34 (F : Nat → Int32) (R : Nat → Nat → Int32) (a0 : Int32) (a1 : Int32) (y5 : Int32) : kf3 md_X11_put mr_X11_put F R (K_X11_put_34 F R a0 a1 y5) := by
  unfold K_X11_put_34
  exact (kf3_lt (fun x6 _ => (kf3_lt (fun x8 _ => (kf3_ite (kf3_lt (fun r14 _ => (kf3_lt (fun r20 _ => (kf3_ite (kf3_tr (g_fr_rf _) (g_fr_rf _) (fr_K_X11_put_62 F R)) (kf3_ite (kf3_tr (g_fr_rf _) (g_fr_rf _) (fr_K_X11_put_62 F R)) (kf3_lt (fun F33 zF33 => (kf3_tr (kf_u (g_fr_rf _) rfl zF33) (g_fr_rf _) (fr_K_X11_put_72 a0 a1 8589934592 F33 R 0)))))))))) (kf3_tr (g_fr_rf _) (g_fr_rf _) (fr_K_X11_put_62 F R)))))))
theorem fr_K_X11_put_29 (F : Nat → Int32) (R : Nat → Nat → Int32) (a0 : Int32) (a1 : Int32) : kf3 md_X11_put mr_X11_put F R (K_X11_put_29 F R a0 a1) := by
  unfold K_X11_put_29
  exact (kf3_tr (g_fr_rf _) (g_fr_rf _) (fr_K_X11_put_34 F R a0 a1 1))
theorem fr_K_X11_put_33 (F : Nat → Int32) (R : Nat → Nat → Int32) (a0 : Int32) (a1 : Int32) : kf3 md_X11_put mr_X11_put F R (K_X11_put_33 F R a0 a1) := by
  unfold K_X11_put_33
  exact (kf3_tr (g_fr_rf _) (g_fr_rf _) (fr_K_X11_put_34 F R a0 a1 0))
theorem fr_sp_X11_put (F : Nat → Int32) (R : Nat → Nat → Int32) (a0 : Int32) (a1 : Int32) : kf3 md_X11_put mr_X11_put F R (sp_X11_put F R a0 a1) := by
  unfold sp_X11_put
  exact (kf3_lt (fun r1 _ => (kf3_ite (kf3_lt (fun r248 _ => (kf3_ite (kf3_tr (g_fr_rf _) (g_fr_rf _) (fr_K_X11_put_33 F R a0 a1)) (kf3_lt (fun r258 _ => (kf3_ite (kf3_tr (g_fr_rf _) (g_fr_rf _) (fr_K_X11_put_33 F R a0 a1)) (kf3_tr (g_fr_rf _) (g_fr_rf _) (fr_K_X11_put_29 F R a0 a1)))))))) (kf3_tr (g_fr_rf _) (g_fr_rf _) (fr_K_X11_put_29 F R a0 a1)))))
theorem fr_sp_X11_wrongAt (F : Nat → Int32) (R : Nat → Nat → Int32) (a0 : Int32) (a1 : Int32) : kf3 md_X11_wrongAt mr_X11_wrongAt F R (sp_X11_wrongAt F R a0 a1) := by
  unfold sp_X11_wrongAt
  exact (kf3_lt (fun x1 _ => (kf3_lt (fun x3 _ => (kf3_lt (fun F5 zF5 => ⟨(kf_u (g_fr_rf _) rfl zF5), (g_fr_rf _)⟩))))))
theorem fr_K_X11_readsPace_82 (F12 : Nat → Int32) (R13 : Nat → Nat → Int32) (y11 : Int32) : kf3 md_X11_readsPace mr_X11_readsPace F12 R13 (K_X11_readsPace_82 F12 R13 y11) := by
  unfold K_X11_readsPace_82
  exact ⟨(g_fr_rf _), (g_fr_rf _)⟩
theorem fr_K_X11_readsPace_59 (F : Nat → Int32) (F3 : Nat → Int32) (R : Nat → Nat → Int32) : kf3 md_X11_readsPace mr_X11_readsPace F3 R (K_X11_readsPace_59 F F3 R) := by
  unfold K_X11_readsPace_59
  exact (kf3_ite (kf3_tr (g_fr_rf _) (g_fr_rf _) (fr_K_X11_readsPace_82 F3 R 1)) (kf3_lt3 (fun r19 F23 R24 zF23 => (kf3_tr (kf3_F (g_fr_rf _) (fr_sp_X11_wrongAt F3 R 3 (F 15)) zF23 rfl) (kf3_R (g_fr_rf _) (fr_sp_X11_wrongAt F3 R 3 (F 15)) zF23 rfl) (fr_K_X11_readsPace_82 F23 R24 0)))))
theorem fr_KB_X11_readsPace_10 (F : Nat → Int32) (R : Nat → Nat → Int32) (F3 : Nat → Int32) (b10 : (Nat → Int32) → Int32 × (Nat → Int32) × (Nat → Nat → Int32)) (hb10 : ∀ (F3 : Nat → Int32), kf3 md_X11_readsPace mr_X11_readsPace F3 R (b10 F3)) : kf3 md_X11_readsPace mr_X11_readsPace F3 R (KB_X11_readsPace_10 b10 F R F3) := by
  unfold KB_X11_readsPace_10
  exact (kf3_lt (fun r4 _ => (kf3_ite (kf3_tr (g_fr_rf _) (g_fr_rf _) (fr_K_X11_readsPace_59 F F3 R)) (kf3_lt (fun x32 _ => (kf3_ite (kf3_tr (g_fr_rf _) (g_fr_rf _) (fr_K_X11_readsPace_59 F F3 R)) (kf3_lt (fun x40 _ => (kf3_lt (fun r42 _ => (kf3_lt (fun x48 _ => (kf3_lt (fun x50 _ => (kf3_lt (fun F52 zF52 => (kf3_lt (fun x54 _ => (kf3_lt (fun F56 zF56 => (kf3_tr (kf_u (kf_u (g_fr_rf _) rfl zF52) rfl zF56) (g_fr_rf _) (hb10 F56))))))))))))))))))))))
theorem fr_K_X11_readsPace_10 (F : Nat → Int32) (R : Nat → Nat → Int32) : ∀ (n : Nat) (F3 : Nat → Int32), kf3 md_X11_readsPace mr_X11_readsPace F3 R (K_X11_readsPace_10 F R n F3)
  | 0, F3 => ⟨g_fr_rf _, g_fr_rf _⟩
  | n + 1, F3 => fr_KB_X11_readsPace_10 F R F3 (K_X11_readsPace_10 F R n) (fr_K_X11_readsPace_10 F R n)
theorem fr_sp_X11_readsPace (F : Nat → Int32) (R : Nat → Nat → Int32) : kf3 md_X11_readsPace mr_X11_readsPace F R (sp_X11_readsPace F R) := by
  unfold sp_X11_readsPace
  exact (kf3_lt (fun F1 zF1 => (kf3_tr (kf_u (g_fr_rf _) rfl zF1) (g_fr_rf _) (fr_K_X11_readsPace_10 F R 8589934592 F1))))
theorem fr_KB_X11_readsStep_136 (F32 : Nat → Int32) (y31 : Int32) (R41 : Nat → Nat → Int32) (y40 : Int32) (b136 : (Nat → Nat → Int32) → (Int32) → Int32 × (Nat → Int32) × (Nat → Nat → Int32)) (hb136 : ∀ (R41 : Nat → Nat → Int32) (y40 : Int32), kf3 md_X11_readsStep mr_X11_readsStep F32 R41 (b136 R41 y40)) : kf3 md_X11_readsStep mr_X11_readsStep F32 R41 (KB_X11_readsStep_136 b136 F32 y31 R41 y40) := by
  unfold KB_X11_readsStep_136
  exact (kf3_ite (kf3_lt (fun x46 _ => (kf3_lt (fun F48 zF48 => (kf3_lt (fun x50 _ => (kf3_lt (fun F52 zF52 => ⟨(kf_u (kf_u (g_fr_rf _) rfl zF48) rfl zF52), (g_fr_rf _)⟩)))))))) (kf3_lt (fun x56 _ => (kf3_lt (fun R58 zR58 => (kf3_lt (fun x60 _ => (kf3_tr (g_fr_rf _) (kf_r (g_fr_rf _) rfl zR58) (hb136 R58 x60)))))))))
theorem fr_K_X11_readsStep_136 (F32 : Nat → Int32) (y31 : Int32) : ∀ (n : Nat) (R41 : Nat → Nat → Int32) (y40 : Int32), kf3 md_X11_readsStep mr_X11_readsStep F32 R41 (K_X11_readsStep_136 F32 y31 n R41 y40)
  | 0, R41, y40 => ⟨g_fr_rf _, g_fr_rf _⟩
  | n + 1, R41, y40 => fr_KB_X11_readsStep_136 F32 y31 R41 y40 (K_X11_readsStep_136 F32 y31 n) (fr_K_X11_readsStep_136 F32 y31 n)
theorem fr_K_X11_readsStep_115 (F : Nat → Int32) (R20 : Nat → Nat → Int32) (F32 : Nat → Int32) (y31 : Int32) : kf3 md_X11_readsStep mr_X11_readsStep F32 R20 (K_X11_readsStep_115 F R20 F32 y31) := by
  unfold K_X11_readsStep_115
  exact (kf3_lt (fun x35 _ => (kf3_ite (kf3_tr (g_fr_rf _) (g_fr_rf _) (fr_K_X11_readsStep_136 F32 y31 8589934592 R20 0)) (kf3_lt3 (fun r64 F68 R69 zF68 => ⟨(kf3_F (g_fr_rf _) (fr_sp_X11_wrongAt F32 R20 6 (F 15)) zF68 rfl), (kf3_R (g_fr_rf _) (fr_sp_X11_wrongAt F32 R20 6 (F 15)) zF68 rfl)⟩)))))
theorem fr_K_X11_readsStep_87 (F77 : Nat → Int32) (R20 : Nat → Nat → Int32) (x75 : Int32) : kf3 md_X11_readsStep mr_X11_readsStep F77 R20 (K_X11_readsStep_87 F77 R20 x75) := by
  unfold K_X11_readsStep_87
  exact (kf3_lt3 (fun r86 F90 R91 zF90 => ⟨(kf3_F (g_fr_rf _) (fr_sp_X11_wrongAt F77 R20 1 x75) zF90 rfl), (kf3_R (g_fr_rf _) (fr_sp_X11_wrongAt F77 R20 1 x75) zF90 rfl)⟩))
theorem fr_sp_X11_readsStep (F : Nat → Int32) (R : Nat → Nat → Int32) : kf3 md_X11_readsStep mr_X11_readsStep F R (sp_X11_readsStep F R) := by
  unfold sp_X11_readsStep
  exact (kf3_lt (fun r1 _ => (kf3_ite (kf3_lt3 (fun r134 F138 R139 zF138 => ⟨(kf3_F (g_fr_rf _) (fr_sp_X11_wrongAt F R 1 (F 15)) zF138 rfl), (kf3_R (g_fr_rf _) (fr_sp_X11_wrongAt F R 1 (F 15)) zF138 rfl)⟩)) (kf3_ite (kf3_lt3 (fun r125 F129 R130 zF129 => ⟨(kf3_F (g_fr_rf _) (fr_sp_X11_wrongAt F R 4 (F 15)) zF129 rfl), (kf3_R (g_fr_rf _) (fr_sp_X11_wrongAt F R 4 (F 15)) zF129 rfl)⟩)) (kf3_lt3 (fun r14 F19 R20 zF19 => (kf3_ite ⟨(kf3_F (g_fr_rf _) (fr_sp_X11_readsPace F R) zF19 rfl), (kf3_R (g_fr_rf _) (fr_sp_X11_readsPace F R) zF19 rfl)⟩ (kf3_lt (fun r25 _ => (kf3_ite (kf3_lt (fun x75 _ => (kf3_lt (fun F77 zF77 => (kf3_lt (fun r79 _ => (kf3_ite (kf3_tr (kf_u (kf3_F (g_fr_rf _) (fr_sp_X11_readsPace F R) zF19 rfl) rfl zF77) (kf3_R (g_fr_rf _) (fr_sp_X11_readsPace F R) zF19 rfl) (fr_K_X11_readsStep_87 F77 R20 x75)) (kf3_lt (fun r98 _ => (kf3_ite (kf3_lt (fun r107 _ => (kf3_lt (fun x113 _ => (kf3_lt (fun x115 _ => (kf3_lt (fun F117 zF117 => (kf3_tr (kf_u (kf_u (kf3_F (g_fr_rf _) (fr_sp_X11_readsPace F R) zF19 rfl) rfl zF77) rfl zF117) (kf3_R (g_fr_rf _) (fr_sp_X11_readsPace F R) zF19 rfl) (fr_K_X11_readsStep_115 F R20 F117 x113)))))))))) (kf3_tr (kf_u (kf3_F (g_fr_rf _) (fr_sp_X11_readsPace F R) zF19 rfl) rfl zF77) (kf3_R (g_fr_rf _) (fr_sp_X11_readsPace F R) zF19 rfl) (fr_K_X11_readsStep_87 F77 R20 x75)))))))))))) (kf3_tr (kf3_F (g_fr_rf _) (fr_sp_X11_readsPace F R) zF19 rfl) (kf3_R (g_fr_rf _) (fr_sp_X11_readsPace F R) zF19 rfl) (fr_K_X11_readsStep_115 F R20 F19 1))))))))))))
theorem fr_sp_X11_takes (F : Nat → Int32) (R : Nat → Nat → Int32) (a0 : Int32) : kf3 md_X11_takes mr_X11_takes F R (sp_X11_takes F R a0) := by
  unfold sp_X11_takes
  exact (kf3_lt (fun r1 _ => (kf3_ite (kf3_lt (fun x10 _ => (kf3_lt (fun F12 zF12 => ⟨(kf_u (g_fr_rf _) rfl zF12), (g_fr_rf _)⟩)))) (kf3_lt3 (fun r15 F19 R20 zF19 => ⟨(kf3_F (g_fr_rf _) (fr_sp_X11_wrongAt F R 1 (F 15)) zF19 rfl), (kf3_R (g_fr_rf _) (fr_sp_X11_wrongAt F R 1 (F 15)) zF19 rfl)⟩)))))
theorem fr_K_X11_pull_18 (F : Nat → Int32) (R : Nat → Nat → Int32) : kf3 md_X11_pull mr_X11_pull F R (K_X11_pull_18 F R) := by
  unfold K_X11_pull_18
  exact ⟨(g_fr_rf _), (g_fr_rf _)⟩
theorem fr_KB_X11_pull_109 (F31 : Nat → Int32) (F38 : Nat → Int32) (R41 : Nat → Nat → Int32) (y40 : Int32) (b109 : (Nat → Nat → Int32) → (Int32) → Int32 × (Nat → Int32) × (Nat → Nat → Int32)) (hb109 : ∀ (R41 : Nat → Nat → Int32) (y40 : Int32), kf3 md_X11_pull mr_X11_pull F38 R41 (b109 R41 y40)) : kf3 md_X11_pull mr_X11_pull F38 R41 (KB_X11_pull_109 b109 F31 F38 R41 y40) := by
  unfold KB_X11_pull_109
  exact (kf3_ite ⟨(g_fr_rf _), (g_fr_rf _)⟩ (kf3_lt (fun x47 _ => (kf3_lt (fun R49 zR49 => (kf3_lt (fun x51 _ => (kf3_tr (g_fr_rf _) (kf_r (g_fr_rf _) rfl zR49) (hb109 R49 x51)))))))))
theorem fr_K_X11_pull_109 (F31 : Nat → Int32) (F38 : Nat → Int32) : ∀ (n : Nat) (R41 : Nat → Nat → Int32) (y40 : Int32), kf3 md_X11_pull mr_X11_pull F38 R41 (K_X11_pull_109 F31 F38 n R41 y40)
  | 0, R41, y40 => ⟨g_fr_rf _, g_fr_rf _⟩
  | n + 1, R41, y40 => fr_KB_X11_pull_109 F31 F38 R41 y40 (K_X11_pull_109 F31 F38 n) (fr_K_X11_pull_109 F31 F38 n)
theorem fr_K_X11_pull_85 (F31 : Nat → Int32) (R32 : Nat → Nat → Int32) (y30 : Int32) : kf3 md_X11_pull mr_X11_pull F31 R32 (K_X11_pull_85 F31 R32 y30) := by
  unfold K_X11_pull_85
  exact (kf3_lt (fun F33 zF33 => (kf3_ite ⟨(kf_u (g_fr_rf _) rfl zF33), (g_fr_rf _)⟩ (kf3_lt (fun F38 zF38 => (kf3_tr (kf_u (kf_u (g_fr_rf _) rfl zF33) rfl zF38) (g_fr_rf _) (fr_K_X11_pull_109 F31 F38 8589934592 R32 0)))))))
theorem fr_K_X11_pull_81 (F75 : Nat → Int32) (R76 : Nat → Nat → Int32) (y74 : Int32) (b45 : (Nat → Int32) → (Nat → Nat → Int32) → (Int32) → Int32 × (Nat → Int32) × (Nat → Nat → Int32)) (hb45 : ∀ (F31 : Nat → Int32) (R32 : Nat → Nat → Int32) (y30 : Int32), kf3 md_X11_pull mr_X11_pull F31 R32 (b45 F31 R32 y30)) : kf3 md_X11_pull mr_X11_pull F75 R76 (K_X11_pull_81 b45 F75 R76 y74) := by
  unfold K_X11_pull_81
  exact (kf3_tr (g_fr_rf _) (g_fr_rf _) (hb45 F75 R76 y74))
theorem fr_K_X11_pull_80 (F77 : Nat → Int32) (R78 : Nat → Nat → Int32) (b45 : (Nat → Int32) → (Nat → Nat → Int32) → (Int32) → Int32 × (Nat → Int32) × (Nat → Nat → Int32)) (hb45 : ∀ (F31 : Nat → Int32) (R32 : Nat → Nat → Int32) (y30 : Int32), kf3 md_X11_pull mr_X11_pull F31 R32 (b45 F31 R32 y30)) : kf3 md_X11_pull mr_X11_pull F77 R78 (K_X11_pull_80 b45 F77 R78) := by
  unfold K_X11_pull_80
  exact (kf3_tr (g_fr_rf _) (g_fr_rf _) (fr_K_X11_pull_81 F77 R78 0 b45 hb45))
theorem fr_KB_X11_pull_45 (F31 : Nat → Int32) (R32 : Nat → Nat → Int32) (y30 : Int32) (b45 : (Nat → Int32) → (Nat → Nat → Int32) → (Int32) → Int32 × (Nat → Int32) × (Nat → Nat → Int32)) (hb45 : ∀ (F31 : Nat → Int32) (R32 : Nat → Nat → Int32) (y30 : Int32), kf3 md_X11_pull mr_X11_pull F31 R32 (b45 F31 R32 y30)) : kf3 md_X11_pull mr_X11_pull F31 R32 (KB_X11_pull_45 b45 F31 R32 y30) := by
  unfold KB_X11_pull_45
  exact (kf3_ite (kf3_tr (g_fr_rf _) (g_fr_rf _) (fr_K_X11_pull_85 F31 R32 y30)) (kf3_ite (kf3_tr (g_fr_rf _) (g_fr_rf _) (fr_K_X11_pull_85 F31 R32 y30)) (kf3_lt3 (fun r65 F71 R72 zF71 => (kf3_ite (kf3_tr (kf3_F (g_fr_rf _) (fr_sp_X11_takes F31 R32 44) zF71 rfl) (kf3_R (g_fr_rf _) (fr_sp_X11_takes F31 R32 44) zF71 rfl) (fr_K_X11_pull_80 F71 R72 b45 hb45)) (kf3_lt3 (fun r84 F89 R90 zF89 => (kf3_ite (kf3_tr (kf3_F (kf3_F (g_fr_rf _) (fr_sp_X11_takes F31 R32 44) zF71 rfl) (fr_sp_X11_readsStep F71 R72) zF89 rfl) (kf3_R (kf3_R (g_fr_rf _) (fr_sp_X11_takes F31 R32 44) zF71 rfl) (fr_sp_X11_readsStep F71 R72) zF89 rfl) (fr_K_X11_pull_80 F89 R90 b45 hb45)) (kf3_tr (kf3_F (kf3_F (g_fr_rf _) (fr_sp_X11_takes F31 R32 44) zF71 rfl) (fr_sp_X11_readsStep F71 R72) zF89 rfl) (kf3_R (kf3_R (g_fr_rf _) (fr_sp_X11_takes F31 R32 44) zF71 rfl) (fr_sp_X11_readsStep F71 R72) zF89 rfl) (fr_K_X11_pull_81 F89 R90 1 b45 hb45))))))))))
theorem fr_K_X11_pull_45  : ∀ (n : Nat) (F31 : Nat → Int32) (R32 : Nat → Nat → Int32) (y30 : Int32), kf3 md_X11_pull mr_X11_pull F31 R32 (K_X11_pull_45  n F31 R32 y30)
  | 0, F31, R32, y30 => ⟨g_fr_rf _, g_fr_rf _⟩
  | n + 1, F31, R32, y30 => fr_KB_X11_pull_45 F31 R32 y30 (K_X11_pull_45  n) (fr_K_X11_pull_45  n)
theorem fr_sp_X11_pull (F : Nat → Int32) (R : Nat → Nat → Int32) (a0 : Int32) : kf3 md_X11_pull mr_X11_pull F R (sp_X11_pull F R a0) := by
  unfold sp_X11_pull
  exact (kf3_lt (fun r1 _ => (kf3_ite (kf3_tr (g_fr_rf _) (g_fr_rf _) (fr_K_X11_pull_18 F R)) (kf3_ite (kf3_lt (fun F14 zF14 => (kf3_lt (fun F16 zF16 => (kf3_lt (fun F18 zF18 => (kf3_lt (fun F20 zF20 => (kf3_lt3 (fun r22 F27 R28 zF27 => (kf3_tr (kf3_F (kf_u (kf_u (kf_u (kf_u (g_fr_rf _) rfl zF14) rfl zF16) rfl zF18) rfl zF20) (fr_sp_X11_readsStep F20 R) zF27 rfl) (kf3_R (g_fr_rf _) (fr_sp_X11_readsStep F20 R) zF27 rfl) (fr_K_X11_pull_45 8589934592 F27 R28 r22)))))))))))) (kf3_tr (g_fr_rf _) (g_fr_rf _) (fr_K_X11_pull_18 F R))))))
theorem fr_sp_X11_notes (F : Nat → Int32) (R : Nat → Nat → Int32) (a0 : Int32) (a1 : Int32) : kf2 md_X11_notes mr_X11_notes F R (sp_X11_notes F R a0 a1) := by
  unfold sp_X11_notes
  exact (kf2_lt (fun x1 _ => (kf2_lt (fun x3 _ => (kf2_lt (fun R5 zR5 => (kf2_lt (fun x7 _ => (kf2_lt (fun F9 zF9 => ⟨(kf_u (g_fr_rf _) rfl zF9), (kf_r (g_fr_rf _) rfl zR5)⟩))))))))))
theorem fr_K_X11_closesSums_37 (F1 : Nat → Int32) (R2 : Nat → Nat → Int32) (b0 : (Nat → Int32) → (Nat → Nat → Int32) → (Nat → Int32) × (Nat → Nat → Int32)) (hb0 : ∀ (F1 : Nat → Int32) (R2 : Nat → Nat → Int32), kf2 md_X11_closesSums mr_X11_closesSums F1 R2 (b0 F1 R2)) : kf2 md_X11_closesSums mr_X11_closesSums F1 R2 (K_X11_closesSums_37 b0 F1 R2) := by
  unfold K_X11_closesSums_37
  exact (kf2_lt (fun r9 _ => (kf2_lt2 (fun F21 R22 zF21 => (kf2_lt (fun x24 _ => (kf2_lt (fun F26 zF26 => (kf2_tr (kf_u (kf2_F (g_fr_rf _) (fr_sp_X11_notes F1 R2 r9 0) zF21 rfl) rfl zF26) (kf2_R (g_fr_rf _) (fr_sp_X11_notes F1 R2 r9 0) zF21 rfl) (hb0 F26 R22))))))))))
theorem fr_KB_X11_closesSums_0 (a0 : Int32) (F1 : Nat → Int32) (R2 : Nat → Nat → Int32) (b0 : (Nat → Int32) → (Nat → Nat → Int32) → (Nat → Int32) × (Nat → Nat → Int32)) (hb0 : ∀ (F1 : Nat → Int32) (R2 : Nat → Nat → Int32), kf2 md_X11_closesSums mr_X11_closesSums F1 R2 (b0 F1 R2)) : kf2 md_X11_closesSums mr_X11_closesSums F1 R2 (KB_X11_closesSums_0 b0 a0 F1 R2) := by
  unfold KB_X11_closesSums_0
  exact (kf2_lt (fun r3 _ => (kf2_ite (kf2_ite ⟨(g_fr_rf _), (g_fr_rf _)⟩ (kf2_lt (fun r36 _ => (kf2_ite (kf2_tr (g_fr_rf _) (g_fr_rf _) (fr_K_X11_closesSums_37 F1 R2 b0 hb0)) (kf2_lt (fun r46 _ => (kf2_ite (kf2_tr (g_fr_rf _) (g_fr_rf _) (fr_K_X11_closesSums_37 F1 R2 b0 hb0)) ⟨(g_fr_rf _), (g_fr_rf _)⟩))))))) (kf2_lt (fun r58 _ => (kf2_ite (kf2_tr (g_fr_rf _) (g_fr_rf _) (fr_K_X11_closesSums_37 F1 R2 b0 hb0)) (kf2_ite ⟨(g_fr_rf _), (g_fr_rf _)⟩ (kf2_lt (fun r74 _ => (kf2_ite (kf2_tr (g_fr_rf _) (g_fr_rf _) (fr_K_X11_closesSums_37 F1 R2 b0 hb0)) (kf2_lt (fun r84 _ => (kf2_ite (kf2_tr (g_fr_rf _) (g_fr_rf _) (fr_K_X11_closesSums_37 F1 R2 b0 hb0)) ⟨(g_fr_rf _), (g_fr_rf _)⟩)))))))))))))
theorem fr_K_X11_closesSums_0 (a0 : Int32) : ∀ (n : Nat) (F1 : Nat → Int32) (R2 : Nat → Nat → Int32), kf2 md_X11_closesSums mr_X11_closesSums F1 R2 (K_X11_closesSums_0 a0 n F1 R2)
  | 0, F1, R2 => ⟨g_fr_rf _, g_fr_rf _⟩
  | n + 1, F1, R2 => fr_KB_X11_closesSums_0 a0 F1 R2 (K_X11_closesSums_0 a0 n) (fr_K_X11_closesSums_0 a0 n)
theorem fr_sp_X11_closesSums (F : Nat → Int32) (R : Nat → Nat → Int32) (a0 : Int32) : kf2 md_X11_closesSums mr_X11_closesSums F R (sp_X11_closesSums F R a0) := by
  unfold sp_X11_closesSums
  exact (kf2_tr (g_fr_rf _) (g_fr_rf _) (fr_K_X11_closesSums_0 a0 8589934592 F R))
theorem fr_sp_X11_opens (F : Nat → Int32) (R : Nat → Nat → Int32) (a0 : Int32) : kf3 md_X11_opens mr_X11_opens F R (sp_X11_opens F R a0) := by
  unfold sp_X11_opens
  exact (kf3_ite (kf3_lt3 (fun r21 F25 R26 zF25 => ⟨(kf3_F (g_fr_rf _) (fr_sp_X11_wrongAt F R 5 (F 15)) zF25 rfl), (kf3_R (g_fr_rf _) (fr_sp_X11_wrongAt F R 5 (F 15)) zF25 rfl)⟩)) (kf3_lt (fun x3 _ => (kf3_lt (fun F5 zF5 => (kf3_lt (fun x7 _ => (kf3_lt (fun R9 zR9 => (kf3_lt (fun x11 _ => (kf3_lt (fun F13 zF13 => (kf3_lt (fun x15 _ => (kf3_lt (fun F17 zF17 => ⟨(kf_u (kf_u (kf_u (g_fr_rf _) rfl zF5) rfl zF13) rfl zF17), (kf_r (g_fr_rf _) rfl zR9)⟩)))))))))))))))))
theorem fr_KB_X11_readsNumber_10 (F : Nat → Int32) (R : Nat → Nat → Int32) (F3 : Nat → Int32) (b10 : (Nat → Int32) → Int32 × (Nat → Int32) × (Nat → Nat → Int32)) (hb10 : ∀ (F3 : Nat → Int32), kf3 md_X11_readsNumber mr_X11_readsNumber F3 R (b10 F3)) : kf3 md_X11_readsNumber mr_X11_readsNumber F3 R (KB_X11_readsNumber_10 b10 F R F3) := by
  unfold KB_X11_readsNumber_10
  exact (kf3_lt (fun r5 _ => (kf3_ite ⟨(g_fr_rf _), (g_fr_rf _)⟩ (kf3_lt (fun x17 _ => (kf3_ite (kf3_lt3 (fun r43 F47 R48 zF47 => ⟨(kf3_F (g_fr_rf _) (fr_sp_X11_wrongAt F3 R 2 (F3 15)) zF47 rfl), (kf3_R (g_fr_rf _) (fr_sp_X11_wrongAt F3 R 2 (F3 15)) zF47 rfl)⟩)) (kf3_lt (fun x21 _ => (kf3_lt (fun r23 _ => (kf3_lt (fun x29 _ => (kf3_lt (fun x31 _ => (kf3_lt (fun F33 zF33 => (kf3_lt (fun x35 _ => (kf3_lt (fun F37 zF37 => (kf3_tr (kf_u (kf_u (g_fr_rf _) rfl zF33) rfl zF37) (g_fr_rf _) (hb10 F37))))))))))))))))))))))
theorem fr_K_X11_readsNumber_10 (F : Nat → Int32) (R : Nat → Nat → Int32) : ∀ (n : Nat) (F3 : Nat → Int32), kf3 md_X11_readsNumber mr_X11_readsNumber F3 R (K_X11_readsNumber_10 F R n F3)
  | 0, F3 => ⟨g_fr_rf _, g_fr_rf _⟩
  | n + 1, F3 => fr_KB_X11_readsNumber_10 F R F3 (K_X11_readsNumber_10 F R n) (fr_K_X11_readsNumber_10 F R n)
theorem fr_sp_X11_readsNumber (F : Nat → Int32) (R : Nat → Nat → Int32) : kf3 md_X11_readsNumber mr_X11_readsNumber F R (sp_X11_readsNumber F R) := by
  unfold sp_X11_readsNumber
  exact (kf3_lt (fun F1 zF1 => (kf3_tr (kf_u (g_fr_rf _) rfl zF1) (g_fr_rf _) (fr_K_X11_readsNumber_10 F R 8589934592 F1))))
theorem fr_KB_X11_readsFactor_0 (F1 : Nat → Int32) (R2 : Nat → Nat → Int32) (b0 : (Nat → Int32) → (Nat → Nat → Int32) → Int32 × (Nat → Int32) × (Nat → Nat → Int32)) (hb0 : ∀ (F1 : Nat → Int32) (R2 : Nat → Nat → Int32), kf3 md_X11_readsFactor mr_X11_readsFactor F1 R2 (b0 F1 R2)) : kf3 md_X11_readsFactor mr_X11_readsFactor F1 R2 (KB_X11_readsFactor_0 b0 F1 R2) := by
  unfold KB_X11_readsFactor_0
  exact (kf3_lt (fun r3 _ => (kf3_ite (kf3_lt3 (fun r84 F89 R90 zF89 => (kf3_ite ⟨(kf3_F (g_fr_rf _) (fr_sp_X11_opens F1 R2 14) zF89 rfl), (kf3_R (g_fr_rf _) (fr_sp_X11_opens F1 R2 14) zF89 rfl)⟩ (kf3_tr (kf3_F (g_fr_rf _) (fr_sp_X11_opens F1 R2 14) zF89 rfl) (kf3_R (g_fr_rf _) (fr_sp_X11_opens F1 R2 14) zF89 rfl) (hb0 F89 R90))))) (kf3_lt (fun r11 _ => (kf3_ite (kf3_lt (fun r21 _ => (kf3_lt (fun r27 _ => (kf3_ite (kf3_lt3 (fun r51 F55 R56 zF55 => ⟨(kf3_F (g_fr_rf _) (fr_sp_X11_wrongAt F1 R2 1 (F1 15)) zF55 rfl), (kf3_R (g_fr_rf _) (fr_sp_X11_wrongAt F1 R2 1 (F1 15)) zF55 rfl)⟩)) (kf3_lt2 (fun F42 R43 zF42 => (kf3_lt (fun x45 _ => (kf3_lt (fun F47 zF47 => ⟨(kf_u (kf2_F (g_fr_rf _) (fr_sp_X11_notes F1 R2 1 r27) zF42 rfl) rfl zF47), (kf2_R (g_fr_rf _) (fr_sp_X11_notes F1 R2 1 r27) zF42 rfl)⟩))))))))))) (kf3_lt3 (fun r60 F65 R66 zF65 => (kf3_ite ⟨(kf3_F (g_fr_rf _) (fr_sp_X11_readsNumber F1 R2) zF65 rfl), (kf3_R (g_fr_rf _) (fr_sp_X11_readsNumber F1 R2) zF65 rfl)⟩ (kf3_lt2 (fun F77 R78 zF77 => ⟨(kf2_F (kf3_F (g_fr_rf _) (fr_sp_X11_readsNumber F1 R2) zF65 rfl) (fr_sp_X11_notes F65 R66 0 (F65 18)) zF77 rfl), (kf2_R (kf3_R (g_fr_rf _) (fr_sp_X11_readsNumber F1 R2) zF65 rfl) (fr_sp_X11_notes F65 R66 0 (F65 18)) zF77 rfl)⟩)))))))))))
theorem fr_K_X11_readsFactor_0  : ∀ (n : Nat) (F1 : Nat → Int32) (R2 : Nat → Nat → Int32), kf3 md_X11_readsFactor mr_X11_readsFactor F1 R2 (K_X11_readsFactor_0  n F1 R2)
  | 0, F1, R2 => ⟨g_fr_rf _, g_fr_rf _⟩
  | n + 1, F1, R2 => fr_KB_X11_readsFactor_0 F1 R2 (K_X11_readsFactor_0  n) (fr_K_X11_readsFactor_0  n)
theorem fr_sp_X11_readsFactor (F : Nat → Int32) (R : Nat → Nat → Int32) : kf3 md_X11_readsFactor mr_X11_readsFactor F R (sp_X11_readsFactor F R) := by
  unfold sp_X11_readsFactor
  exact (kf3_tr (g_fr_rf _) (g_fr_rf _) (fr_K_X11_readsFactor_0 8589934592 F R))
theorem fr_K_X11_readsSum_38 (F9 : Nat → Int32) (R10 : Nat → Nat → Int32) (r17 : Int32) (y127 : Int32) (b14 : (Nat → Int32) → (Nat → Nat → Int32) → Int32 × (Nat → Int32) × (Nat → Nat → Int32)) (hb14 : ∀ (F9 : Nat → Int32) (R10 : Nat → Nat → Int32), kf3 md_X11_readsSum mr_X11_readsSum F9 R10 (b14 F9 R10)) : kf3 md_X11_readsSum mr_X11_readsSum F9 R10 (K_X11_readsSum_38 b14 F9 R10 r17 y127) := by
  unfold K_X11_readsSum_38
  exact (kf3_lt2 (fun F133 R134 zF133 => (kf3_lt (fun x137 _ => (kf3_lt (fun R139 zR139 => (kf3_lt (fun x141 _ => (kf3_lt (fun F143 zF143 => (kf3_lt (fun x145 _ => (kf3_lt (fun F147 zF147 => (kf3_lt3 (fun r150 F155 R156 zF155 => (kf3_ite ⟨(kf3_F (kf_u (kf_u (kf2_F (g_fr_rf _) (fr_sp_X11_closesSums F9 R10 y127) zF133 rfl) rfl zF143) rfl zF147) (fr_sp_X11_readsFactor F147 R139) zF155 rfl), (kf3_R (kf_r (kf2_R (g_fr_rf _) (fr_sp_X11_closesSums F9 R10 y127) zF133 rfl) rfl zR139) (fr_sp_X11_readsFactor F147 R139) zF155 rfl)⟩ (kf3_tr (kf3_F (kf_u (kf_u (kf2_F (g_fr_rf _) (fr_sp_X11_closesSums F9 R10 y127) zF133 rfl) rfl zF143) rfl zF147) (fr_sp_X11_readsFactor F147 R139) zF155 rfl) (kf3_R (kf_r (kf2_R (g_fr_rf _) (fr_sp_X11_closesSums F9 R10 y127) zF133 rfl) rfl zR139) (fr_sp_X11_readsFactor F147 R139) zF155 rfl) (hb14 F155 R156)))))))))))))))))))
theorem fr_KB_X11_readsSum_14 (F : Nat → Int32) (F9 : Nat → Int32) (R10 : Nat → Nat → Int32) (b14 : (Nat → Int32) → (Nat → Nat → Int32) → Int32 × (Nat → Int32) × (Nat → Nat → Int32)) (hb14 : ∀ (F9 : Nat → Int32) (R10 : Nat → Nat → Int32), kf3 md_X11_readsSum mr_X11_readsSum F9 R10 (b14 F9 R10)) : kf3 md_X11_readsSum mr_X11_readsSum F9 R10 (KB_X11_readsSum_14 b14 F F9 R10) := by
  unfold KB_X11_readsSum_14
  exact (kf3_lt (fun r11 _ => (kf3_lt (fun r17 _ => (kf3_ite (kf3_lt (fun r26 _ => (kf3_ite (kf3_lt (fun r64 _ => (kf3_ite (kf3_lt (fun r74 _ => (kf3_ite (kf3_lt2 (fun F89 R90 zF89 => ⟨(kf2_F (g_fr_rf _) (fr_sp_X11_closesSums F9 R10 1) zF89 rfl), (kf2_R (g_fr_rf _) (fr_sp_X11_closesSums F9 R10 1) zF89 rfl)⟩)) (kf3_lt3 (fun r95 F99 R100 zF99 => ⟨(kf3_F (g_fr_rf _) (fr_sp_X11_wrongAt F9 R10 1 (F9 15)) zF99 rfl), (kf3_R (g_fr_rf _) (fr_sp_X11_wrongAt F9 R10 1 (F9 15)) zF99 rfl)⟩))))) (kf3_lt2 (fun F109 R110 zF109 => (kf3_lt (fun x113 _ => (kf3_lt (fun F115 zF115 => (kf3_lt (fun x117 _ => (kf3_lt (fun F119 zF119 => (kf3_lt (fun x121 _ => (kf3_lt (fun F123 zF123 => (kf3_tr (kf_u (kf_u (kf_u (kf2_F (g_fr_rf _) (fr_sp_X11_closesSums F9 R10 1) zF109 rfl) rfl zF115) rfl zF119) rfl zF123) (kf2_R (g_fr_rf _) (fr_sp_X11_closesSums F9 R10 1) zF109 rfl) (hb14 F123 R110))))))))))))))))))) (kf3_lt (fun r34 _ => (kf3_ite (kf3_lt2 (fun F49 R50 zF49 => ⟨(kf2_F (g_fr_rf _) (fr_sp_X11_closesSums F9 R10 1) zF49 rfl), (kf2_R (g_fr_rf _) (fr_sp_X11_closesSums F9 R10 1) zF49 rfl)⟩)) (kf3_lt3 (fun r55 F59 R60 zF59 => ⟨(kf3_F (g_fr_rf _) (fr_sp_X11_wrongAt F9 R10 1 (F9 15)) zF59 rfl), (kf3_R (g_fr_rf _) (fr_sp_X11_wrongAt F9 R10 1 (F9 15)) zF59 rfl)⟩)))))))) (kf3_ite (kf3_tr (g_fr_rf _) (g_fr_rf _) (fr_K_X11_readsSum_38 F9 R10 r17 0 b14 hb14)) (kf3_tr (g_fr_rf _) (g_fr_rf _) (fr_K_X11_readsSum_38 F9 R10 r17 1 b14 hb14))))))))
theorem fr_K_X11_readsSum_14 (F : Nat → Int32) : ∀ (n : Nat) (F9 : Nat → Int32) (R10 : Nat → Nat → Int32), kf3 md_X11_readsSum mr_X11_readsSum F9 R10 (K_X11_readsSum_14 F n F9 R10)
  | 0, F9, R10 => ⟨g_fr_rf _, g_fr_rf _⟩
  | n + 1, F9, R10 => fr_KB_X11_readsSum_14 F F9 R10 (K_X11_readsSum_14 F n) (fr_K_X11_readsSum_14 F n)
theorem fr_sp_X11_readsSum (F : Nat → Int32) (R : Nat → Nat → Int32) : kf3 md_X11_readsSum mr_X11_readsSum F R (sp_X11_readsSum F R) := by
  unfold sp_X11_readsSum
  exact (kf3_lt3 (fun r1 F6 R7 zF6 => (kf3_ite ⟨(kf3_F (g_fr_rf _) (fr_sp_X11_readsFactor F R) zF6 rfl), (kf3_R (g_fr_rf _) (fr_sp_X11_readsFactor F R) zF6 rfl)⟩ (kf3_tr (kf3_F (g_fr_rf _) (fr_sp_X11_readsFactor F R) zF6 rfl) (kf3_R (g_fr_rf _) (fr_sp_X11_readsFactor F R) zF6 rfl) (fr_K_X11_readsSum_14 F 8589934592 F6 R7)))))
theorem fr_KB_X11_endsPiece_0 (F1 : Nat → Int32) (R2 : Nat → Nat → Int32) (b0 : (Nat → Int32) → (Nat → Nat → Int32) → (Nat → Int32) × (Nat → Nat → Int32)) (hb0 : ∀ (F1 : Nat → Int32) (R2 : Nat → Nat → Int32), kf2 md_X11_endsPiece mr_X11_endsPiece F1 R2 (b0 F1 R2)) : kf2 md_X11_endsPiece mr_X11_endsPiece F1 R2 (KB_X11_endsPiece_0 b0 F1 R2) := by
  unfold KB_X11_endsPiece_0
  exact (kf2_lt (fun r3 _ => (kf2_ite (kf2_lt2 (fun F19 R20 zF19 => (kf2_lt (fun x22 _ => (kf2_lt (fun F24 zF24 => (kf2_lt (fun x26 _ => (kf2_lt (fun F28 zF28 => (kf2_tr (kf_u (kf_u (kf2_F (g_fr_rf _) (fr_sp_X11_notes F1 R2 10 0) zF19 rfl) rfl zF24) rfl zF28) (kf2_R (g_fr_rf _) (fr_sp_X11_notes F1 R2 10 0) zF19 rfl) (hb0 F28 R20)))))))))))) ⟨(g_fr_rf _), (g_fr_rf _)⟩)))
theorem fr_K_X11_endsPiece_0  : ∀ (n : Nat) (F1 : Nat → Int32) (R2 : Nat → Nat → Int32), kf2 md_X11_endsPiece mr_X11_endsPiece F1 R2 (K_X11_endsPiece_0  n F1 R2)
  | 0, F1, R2 => ⟨g_fr_rf _, g_fr_rf _⟩
  | n + 1, F1, R2 => fr_KB_X11_endsPiece_0 F1 R2 (K_X11_endsPiece_0  n) (fr_K_X11_endsPiece_0  n)
theorem fr_sp_X11_endsPiece (F : Nat → Int32) (R : Nat → Nat → Int32) : kf2 md_X11_endsPiece mr_X11_endsPiece F R (sp_X11_endsPiece F R) := by
  unfold sp_X11_endsPiece
  exact (kf2_tr (g_fr_rf _) (g_fr_rf _) (fr_K_X11_endsPiece_0 8589934592 F R))
theorem fr_KB_X11_lands_0 (F : Nat → Int32) (a0 : Int32) (F1 : Nat → Int32) (R2 : Nat → Nat → Int32) (b0 : (Nat → Int32) → (Nat → Nat → Int32) → (Nat → Int32) × (Nat → Nat → Int32)) (hb0 : ∀ (F1 : Nat → Int32) (R2 : Nat → Nat → Int32), kf2 md_X11_lands mr_X11_lands F1 R2 (b0 F1 R2)) : kf2 md_X11_lands mr_X11_lands F1 R2 (KB_X11_lands_0 b0 F a0 F1 R2) := by
  unfold KB_X11_lands_0
  exact (kf2_lt (fun r3 _ => (kf2_ite (kf2_lt (fun x12 _ => (kf2_lt (fun x15 _ => (kf2_lt (fun x18 _ => (kf2_lt (fun x21 _ => (kf2_lt (fun x24 _ => (kf2_lt (fun x26 _ => (kf2_lt (fun x28 _ => (kf2_lt (fun R30 zR30 => (kf2_lt (fun x32 _ => (kf2_lt (fun F34 zF34 => (kf2_tr (kf_u (g_fr_rf _) rfl zF34) (kf_r (g_fr_rf _) rfl zR30) (hb0 F34 R30)))))))))))))))))))))) (kf2_ite ⟨(g_fr_rf _), (g_fr_rf _)⟩ (kf2_lt (fun r42 _ => (kf2_ite (kf2_lt (fun x52 _ => (kf2_lt (fun x55 _ => (kf2_lt (fun x58 _ => (kf2_lt (fun x61 _ => (kf2_lt (fun x64 _ => (kf2_lt (fun x66 _ => (kf2_lt (fun x68 _ => (kf2_lt (fun R70 zR70 => (kf2_lt (fun x72 _ => (kf2_lt (fun F74 zF74 => (kf2_tr (kf_u (g_fr_rf _) rfl zF74) (kf_r (g_fr_rf _) rfl zR70) (hb0 F74 R70)))))))))))))))))))))) ⟨(g_fr_rf _), (g_fr_rf _)⟩)))))))
theorem fr_K_X11_lands_0 (F : Nat → Int32) (a0 : Int32) : ∀ (n : Nat) (F1 : Nat → Int32) (R2 : Nat → Nat → Int32), kf2 md_X11_lands mr_X11_lands F1 R2 (K_X11_lands_0 F a0 n F1 R2)
  | 0, F1, R2 => ⟨g_fr_rf _, g_fr_rf _⟩
  | n + 1, F1, R2 => fr_KB_X11_lands_0 F a0 F1 R2 (K_X11_lands_0 F a0 n) (fr_K_X11_lands_0 F a0 n)
theorem fr_sp_X11_lands (F : Nat → Int32) (R : Nat → Nat → Int32) (a0 : Int32) : kf2 md_X11_lands mr_X11_lands F R (sp_X11_lands F R a0) := by
  unfold sp_X11_lands
  exact (kf2_tr (g_fr_rf _) (g_fr_rf _) (fr_K_X11_lands_0 F a0 8589934592 F R))
theorem fr_sp_X11_jumps (F : Nat → Int32) (R : Nat → Nat → Int32) (a0 : Int32) : kf2 md_X11_jumps mr_X11_jumps F R (sp_X11_jumps F R a0) := by
  unfold sp_X11_jumps
  exact (kf2_lt (fun x1 _ => (kf2_lt (fun x3 _ => (kf2_lt (fun R5 zR5 => (kf2_lt (fun x7 _ => (kf2_lt (fun F9 zF9 => (kf2_lt2 (fun F17 R18 zF17 => (kf2_lt (fun x20 _ => (kf2_lt (fun F22 zF22 => ⟨(kf_u (kf2_F (kf_u (g_fr_rf _) rfl zF9) (fr_sp_X11_notes F9 R5 a0 0) zF17 rfl) rfl zF22), (kf2_R (kf_r (g_fr_rf _) rfl zR5) (fr_sp_X11_notes F9 R5 a0 0) zF17 rfl)⟩))))))))))))))))
theorem fr_K_X11_readsCompared_52 (F6 : Nat → Int32) (R7 : Nat → Nat → Int32) (y19 : Int32) : kf3 md_X11_readsCompared mr_X11_readsCompared F6 R7 (K_X11_readsCompared_52 F6 R7 y19) := by
  unfold K_X11_readsCompared_52
  exact (kf3_ite (kf3_lt3 (fun r61 F65 R66 zF65 => ⟨(kf3_F (g_fr_rf _) (fr_sp_X11_wrongAt F6 R7 1 (F6 15)) zF65 rfl), (kf3_R (g_fr_rf _) (fr_sp_X11_wrongAt F6 R7 1 (F6 15)) zF65 rfl)⟩)) (kf3_lt (fun x23 _ => (kf3_lt (fun F25 zF25 => (kf3_lt3 (fun r27 F32 R33 zF32 => (kf3_ite ⟨(kf3_F (kf_u (g_fr_rf _) rfl zF25) (fr_sp_X11_readsSum F25 R7) zF32 rfl), (kf3_R (g_fr_rf _) (fr_sp_X11_readsSum F25 R7) zF32 rfl)⟩ (kf3_lt2 (fun F45 R46 zF45 => (kf3_lt2 (fun F53 R54 zF53 => ⟨(kf2_F (kf2_F (kf3_F (kf_u (g_fr_rf _) rfl zF25) (fr_sp_X11_readsSum F25 R7) zF32 rfl) (fr_sp_X11_notes F32 R33 y19 0) zF45 rfl) (fr_sp_X11_endsPiece F45 R46) zF53 rfl), (kf2_R (kf2_R (kf3_R (g_fr_rf _) (fr_sp_X11_readsSum F25 R7) zF32 rfl) (fr_sp_X11_notes F32 R33 y19 0) zF45 rfl) (fr_sp_X11_endsPiece F45 R46) zF53 rfl)⟩))))))))))))
theorem fr_sp_X11_readsCompared (F : Nat → Int32) (R : Nat → Nat → Int32) : kf3 md_X11_readsCompared mr_X11_readsCompared F R (sp_X11_readsCompared F R) := by
  unfold sp_X11_readsCompared
  exact (kf3_lt3 (fun r1 F6 R7 zF6 => (kf3_ite ⟨(kf3_F (g_fr_rf _) (fr_sp_X11_readsSum F R) zF6 rfl), (kf3_R (g_fr_rf _) (fr_sp_X11_readsSum F R) zF6 rfl)⟩ (kf3_lt (fun r13 _ => (kf3_ite (kf3_tr (kf3_F (g_fr_rf _) (fr_sp_X11_readsSum F R) zF6 rfl) (kf3_R (g_fr_rf _) (fr_sp_X11_readsSum F R) zF6 rfl) (fr_K_X11_readsCompared_52 F6 R7 7)) (kf3_lt (fun r70 _ => (kf3_ite (kf3_tr (kf3_F (g_fr_rf _) (fr_sp_X11_readsSum F R) zF6 rfl) (kf3_R (g_fr_rf _) (fr_sp_X11_readsSum F R) zF6 rfl) (fr_K_X11_readsCompared_52 F6 R7 8)) (kf3_lt (fun r78 _ => (kf3_ite (kf3_tr (kf3_F (g_fr_rf _) (fr_sp_X11_readsSum F R) zF6 rfl) (kf3_R (g_fr_rf _) (fr_sp_X11_readsSum F R) zF6 rfl) (fr_K_X11_readsCompared_52 F6 R7 9)) (kf3_tr (kf3_F (g_fr_rf _) (fr_sp_X11_readsSum F R) zF6 rfl) (kf3_R (g_fr_rf _) (fr_sp_X11_readsSum F R) zF6 rfl) (fr_K_X11_readsCompared_52 F6 R7 (-1)))))))))))))))
theorem fr_K_X11_readsCondition_75 (F22 : Nat → Int32) (R23 : Nat → Nat → Int32) (y37 : Int32) (b40 : (Nat → Int32) → (Nat → Nat → Int32) → Int32 × (Nat → Int32) × (Nat → Nat → Int32)) (hb40 : ∀ (F22 : Nat → Int32) (R23 : Nat → Nat → Int32), kf3 md_X11_readsCondition mr_X11_readsCondition F22 R23 (b40 F22 R23)) : kf3 md_X11_readsCondition mr_X11_readsCondition F22 R23 (K_X11_readsCondition_75 b40 F22 R23 y37) := by
  unfold K_X11_readsCondition_75
  exact (kf3_lt3 (fun r38 F43 R44 zF43 => (kf3_ite ⟨(kf3_F (g_fr_rf _) (fr_sp_X11_opens F22 R23 y37) zF43 rfl), (kf3_R (g_fr_rf _) (fr_sp_X11_opens F22 R23 y37) zF43 rfl)⟩ (kf3_tr (kf3_F (g_fr_rf _) (fr_sp_X11_opens F22 R23 y37) zF43 rfl) (kf3_R (g_fr_rf _) (fr_sp_X11_opens F22 R23 y37) zF43 rfl) (hb40 F43 R44)))))
theorem fr_K_X11_readsCondition_58 (F22 : Nat → Int32) (R23 : Nat → Nat → Int32) (b40 : (Nat → Int32) → (Nat → Nat → Int32) → Int32 × (Nat → Int32) × (Nat → Nat → Int32)) (hb40 : ∀ (F22 : Nat → Int32) (R23 : Nat → Nat → Int32), kf3 md_X11_readsCondition mr_X11_readsCondition F22 R23 (b40 F22 R23)) : kf3 md_X11_readsCondition mr_X11_readsCondition F22 R23 (K_X11_readsCondition_58 b40 F22 R23) := by
  unfold K_X11_readsCondition_58
  exact (kf3_lt (fun r31 _ => (kf3_ite (kf3_tr (g_fr_rf _) (g_fr_rf _) (fr_K_X11_readsCondition_75 F22 R23 10 b40 hb40)) (kf3_tr (g_fr_rf _) (g_fr_rf _) (fr_K_X11_readsCondition_75 F22 R23 13 b40 hb40)))))
theorem fr_K_X11_readsCondition_215 (F103 : Nat → Int32) (R104 : Nat → Nat → Int32) (y113 : Int32) (b40 : (Nat → Int32) → (Nat → Nat → Int32) → Int32 × (Nat → Int32) × (Nat → Nat → Int32)) (hb40 : ∀ (F22 : Nat → Int32) (R23 : Nat → Nat → Int32), kf3 md_X11_readsCondition mr_X11_readsCondition F22 R23 (b40 F22 R23)) : kf3 md_X11_readsCondition mr_X11_readsCondition F103 R104 (K_X11_readsCondition_215 b40 F103 R104 y113) := by
  unfold K_X11_readsCondition_215
  exact (kf3_lt2 (fun F119 R120 zF119 => (kf3_tr (kf2_F (g_fr_rf _) (fr_sp_X11_jumps F103 R104 y113) zF119 rfl) (kf2_R (g_fr_rf _) (fr_sp_X11_jumps F103 R104 y113) zF119 rfl) (hb40 F119 R120))))
theorem fr_K_X11_readsCondition_195 (F75 : Nat → Int32) (R76 : Nat → Nat → Int32) (y97 : Int32) (b40 : (Nat → Int32) → (Nat → Nat → Int32) → Int32 × (Nat → Int32) × (Nat → Nat → Int32)) (hb40 : ∀ (F22 : Nat → Int32) (R23 : Nat → Nat → Int32), kf3 md_X11_readsCondition mr_X11_readsCondition F22 R23 (b40 F22 R23)) : kf3 md_X11_readsCondition mr_X11_readsCondition F75 R76 (K_X11_readsCondition_195 b40 F75 R76 y97) := by
  unfold K_X11_readsCondition_195
  exact (kf3_lt2 (fun F103 R104 zF103 => (kf3_lt (fun r107 _ => (kf3_ite (kf3_tr (kf2_F (g_fr_rf _) (fr_sp_X11_lands F75 R76 y97) zF103 rfl) (kf2_R (g_fr_rf _) (fr_sp_X11_lands F75 R76 y97) zF103 rfl) (fr_K_X11_readsCondition_215 F103 R104 11 b40 hb40)) (kf3_tr (kf2_F (g_fr_rf _) (fr_sp_X11_lands F75 R76 y97) zF103 rfl) (kf2_R (g_fr_rf _) (fr_sp_X11_lands F75 R76 y97) zF103 rfl) (fr_K_X11_readsCondition_215 F103 R104 12 b40 hb40)))))))
theorem fr_K_X11_readsCondition_180 (F75 : Nat → Int32) (R76 : Nat → Nat → Int32) (b40 : (Nat → Int32) → (Nat → Nat → Int32) → Int32 × (Nat → Int32) × (Nat → Nat → Int32)) (hb40 : ∀ (F22 : Nat → Int32) (R23 : Nat → Nat → Int32), kf3 md_X11_readsCondition mr_X11_readsCondition F22 R23 (b40 F22 R23)) : kf3 md_X11_readsCondition mr_X11_readsCondition F75 R76 (K_X11_readsCondition_180 b40 F75 R76) := by
  unfold K_X11_readsCondition_180
  exact (kf3_lt (fun r91 _ => (kf3_ite (kf3_tr (g_fr_rf _) (g_fr_rf _) (fr_K_X11_readsCondition_195 F75 R76 1 b40 hb40)) (kf3_tr (g_fr_rf _) (g_fr_rf _) (fr_K_X11_readsCondition_195 F75 R76 0 b40 hb40)))))
theorem fr_KB_X11_readsCondition_92 (F75 : Nat → Int32) (R76 : Nat → Nat → Int32) (b92 : (Nat → Int32) → (Nat → Nat → Int32) → Int32 × (Nat → Int32) × (Nat → Nat → Int32)) (hb92 : ∀ (F75 : Nat → Int32) (R76 : Nat → Nat → Int32), kf3 md_X11_readsCondition mr_X11_readsCondition F75 R76 (b92 F75 R76)) (b40 : (Nat → Int32) → (Nat → Nat → Int32) → Int32 × (Nat → Int32) × (Nat → Nat → Int32)) (hb40 : ∀ (F22 : Nat → Int32) (R23 : Nat → Nat → Int32), kf3 md_X11_readsCondition mr_X11_readsCondition F22 R23 (b40 F22 R23)) : kf3 md_X11_readsCondition mr_X11_readsCondition F75 R76 (KB_X11_readsCondition_92 b92 b40 F75 R76) := by
  unfold KB_X11_readsCondition_92
  exact (kf3_lt (fun r77 _ => (kf3_ite (kf3_lt2 (fun F159 R160 zF159 => (kf3_lt (fun x163 _ => (kf3_lt (fun F165 zF165 => (kf3_lt (fun x167 _ => (kf3_lt (fun F169 zF169 => (kf3_lt (fun x171 _ => (kf3_lt (fun F173 zF173 => (kf3_ite ⟨(kf_u (kf_u (kf_u (kf2_F (g_fr_rf _) (fr_sp_X11_lands F75 R76 1) zF159 rfl) rfl zF165) rfl zF169) rfl zF173), (kf2_R (g_fr_rf _) (fr_sp_X11_lands F75 R76 1) zF159 rfl)⟩ (kf3_lt2 (fun F182 R183 zF182 => (kf3_tr (kf2_F (kf_u (kf_u (kf_u (kf2_F (g_fr_rf _) (fr_sp_X11_lands F75 R76 1) zF159 rfl) rfl zF165) rfl zF169) rfl zF173) (fr_sp_X11_endsPiece F173 R160) zF182 rfl) (kf2_R (kf2_R (g_fr_rf _) (fr_sp_X11_lands F75 R76 1) zF159 rfl) (fr_sp_X11_endsPiece F173 R160) zF182 rfl) (hb92 F182 R183))))))))))))))))))) (kf3_lt (fun r85 _ => (kf3_ite (kf3_tr (g_fr_rf _) (g_fr_rf _) (fr_K_X11_readsCondition_180 F75 R76 b40 hb40)) (kf3_lt (fun r135 _ => (kf3_ite (kf3_tr (g_fr_rf _) (g_fr_rf _) (fr_K_X11_readsCondition_180 F75 R76 b40 hb40)) (kf3_lt3 (fun r145 F149 R150 zF149 => ⟨(kf3_F (g_fr_rf _) (fr_sp_X11_wrongAt F75 R76 1 (F75 15)) zF149 rfl), (kf3_R (g_fr_rf _) (fr_sp_X11_wrongAt F75 R76 1 (F75 15)) zF149 rfl)⟩)))))))))))
theorem fr_K_X11_readsCondition_92 (b40 : (Nat → Int32) → (Nat → Nat → Int32) → Int32 × (Nat → Int32) × (Nat → Nat → Int32)) (hb40 : ∀ (F22 : Nat → Int32) (R23 : Nat → Nat → Int32), kf3 md_X11_readsCondition mr_X11_readsCondition F22 R23 (b40 F22 R23)) : ∀ (n : Nat) (F75 : Nat → Int32) (R76 : Nat → Nat → Int32), kf3 md_X11_readsCondition mr_X11_readsCondition F75 R76 (K_X11_readsCondition_92 b40 n F75 R76)
  | 0, F75, R76 => ⟨g_fr_rf _, g_fr_rf _⟩
  | n + 1, F75, R76 => fr_KB_X11_readsCondition_92 F75 R76 (K_X11_readsCondition_92 b40 n) (fr_K_X11_readsCondition_92 b40 hb40 n) b40 hb40
theorem fr_KB_X11_readsCondition_40 (F22 : Nat → Int32) (R23 : Nat → Nat → Int32) (b40 : (Nat → Int32) → (Nat → Nat → Int32) → Int32 × (Nat → Int32) × (Nat → Nat → Int32)) (hb40 : ∀ (F22 : Nat → Int32) (R23 : Nat → Nat → Int32), kf3 md_X11_readsCondition mr_X11_readsCondition F22 R23 (b40 F22 R23)) : kf3 md_X11_readsCondition mr_X11_readsCondition F22 R23 (KB_X11_readsCondition_40 b40 F22 R23) := by
  unfold KB_X11_readsCondition_40
  exact (kf3_lt (fun r25 _ => (kf3_ite (kf3_tr (g_fr_rf _) (g_fr_rf _) (fr_K_X11_readsCondition_58 F22 R23 b40 hb40)) (kf3_lt (fun r59 _ => (kf3_ite (kf3_tr (g_fr_rf _) (g_fr_rf _) (fr_K_X11_readsCondition_58 F22 R23 b40 hb40)) (kf3_lt3 (fun r67 F72 R73 zF72 => (kf3_ite ⟨(kf3_F (g_fr_rf _) (fr_sp_X11_readsCompared F22 R23) zF72 rfl), (kf3_R (g_fr_rf _) (fr_sp_X11_readsCompared F22 R23) zF72 rfl)⟩ (kf3_tr (kf3_F (g_fr_rf _) (fr_sp_X11_readsCompared F22 R23) zF72 rfl) (kf3_R (g_fr_rf _) (fr_sp_X11_readsCompared F22 R23) zF72 rfl) (fr_K_X11_readsCondition_92 b40 hb40 8589934592 F72 R73)))))))))))
theorem fr_K_X11_readsCondition_40  : ∀ (n : Nat) (F22 : Nat → Int32) (R23 : Nat → Nat → Int32), kf3 md_X11_readsCondition mr_X11_readsCondition F22 R23 (K_X11_readsCondition_40  n F22 R23)
  | 0, F22, R23 => ⟨g_fr_rf _, g_fr_rf _⟩
  | n + 1, F22, R23 => fr_KB_X11_readsCondition_40 F22 R23 (K_X11_readsCondition_40  n) (fr_K_X11_readsCondition_40  n)
theorem fr_sp_X11_readsCondition (F : Nat → Int32) (R : Nat → Nat → Int32) : kf3 md_X11_readsCondition mr_X11_readsCondition F R (sp_X11_readsCondition F R) := by
  unfold sp_X11_readsCondition
  exact (kf3_lt (fun r1 _ => (kf3_ite (kf3_lt (fun F10 zF10 => (kf3_lt (fun F12 zF12 => (kf3_lt3 (fun r14 F19 R20 zF19 => (kf3_ite ⟨(kf3_F (kf_u (kf_u (g_fr_rf _) rfl zF10) rfl zF12) (fr_sp_X11_opens F12 R 13) zF19 rfl), (kf3_R (g_fr_rf _) (fr_sp_X11_opens F12 R 13) zF19 rfl)⟩ (kf3_tr (kf3_F (kf_u (kf_u (g_fr_rf _) rfl zF10) rfl zF12) (fr_sp_X11_opens F12 R 13) zF19 rfl) (kf3_R (g_fr_rf _) (fr_sp_X11_opens F12 R 13) zF19 rfl) (fr_K_X11_readsCondition_40 8589934592 F19 R20))))))))) (kf3_lt3 (fun r203 F207 R208 zF207 => ⟨(kf3_F (g_fr_rf _) (fr_sp_X11_wrongAt F R 1 (F 15)) zF207 rfl), (kf3_R (g_fr_rf _) (fr_sp_X11_wrongAt F R 1 (F 15)) zF207 rfl)⟩)))))
theorem fr_sp_X11_readsClause (F : Nat → Int32) (R : Nat → Nat → Int32) : kf3 md_X11_readsClause mr_X11_readsClause F R (sp_X11_readsClause F R) := by
  unfold sp_X11_readsClause
  exact (kf3_lt (fun r1 _ => (kf3_lt (fun r7 _ => (kf3_ite (kf3_lt3 (fun r78 F82 R83 zF82 => ⟨(kf3_F (g_fr_rf _) (fr_sp_X11_wrongAt F R 1 (F 15)) zF82 rfl), (kf3_R (g_fr_rf _) (fr_sp_X11_wrongAt F R 1 (F 15)) zF82 rfl)⟩)) (kf3_ite (kf3_lt3 (fun r69 F73 R74 zF73 => ⟨(kf3_F (g_fr_rf _) (fr_sp_X11_wrongAt F R 4 (F 15)) zF73 rfl), (kf3_R (g_fr_rf _) (fr_sp_X11_wrongAt F R 4 (F 15)) zF73 rfl)⟩)) (kf3_lt (fun R19 zR19 => (kf3_lt (fun x21 _ => (kf3_lt (fun F23 zF23 => (kf3_lt (fun R25 zR25 => (kf3_lt (fun F27 zF27 => (kf3_lt (fun F29 zF29 => (kf3_lt3 (fun r31 F36 R37 zF36 => (kf3_ite ⟨(kf3_F (kf_u (kf_u (kf_u (g_fr_rf _) rfl zF23) rfl zF27) rfl zF29) (fr_sp_X11_readsSum F29 R25) zF36 rfl), (kf3_R (kf_r (kf_r (g_fr_rf _) rfl zR19) rfl zR25) (fr_sp_X11_readsSum F29 R25) zF36 rfl)⟩ (kf3_lt (fun R43 zR43 => (kf3_lt3 (fun r45 F50 R51 zF50 => (kf3_ite ⟨(kf3_F (kf3_F (kf_u (kf_u (kf_u (g_fr_rf _) rfl zF23) rfl zF27) rfl zF29) (fr_sp_X11_readsSum F29 R25) zF36 rfl) (fr_sp_X11_readsCondition F36 R43) zF50 rfl), (kf3_R (kf_r (kf3_R (kf_r (kf_r (g_fr_rf _) rfl zR19) rfl zR25) (fr_sp_X11_readsSum F29 R25) zF36 rfl) rfl zR43) (fr_sp_X11_readsCondition F36 R43) zF50 rfl)⟩ (kf3_lt (fun R57 zR57 => (kf3_lt (fun x59 _ => (kf3_lt (fun F61 zF61 => ⟨(kf_u (kf3_F (kf3_F (kf_u (kf_u (kf_u (g_fr_rf _) rfl zF23) rfl zF27) rfl zF29) (fr_sp_X11_readsSum F29 R25) zF36 rfl) (fr_sp_X11_readsCondition F36 R43) zF50 rfl) rfl zF61), (kf_r (kf3_R (kf_r (kf3_R (kf_r (kf_r (g_fr_rf _) rfl zR19) rfl zR25) (fr_sp_X11_readsSum F29 R25) zF36 rfl) rfl zR43) (fr_sp_X11_readsCondition F36 R43) zF50 rfl) rfl zR57)⟩))))))))))))))))))))))))))))))))
theorem fr_K_X11_law_19 (F : Nat → Int32) (R : Nat → Nat → Int32) : kf3 md_X11_law mr_X11_law F R (K_X11_law_19 F R) := by
  unfold K_X11_law_19
  exact ⟨(g_fr_rf _), (g_fr_rf _)⟩
theorem fr_KB_X11_law_138 (F31 : Nat → Int32) (F38 : Nat → Int32) (R45 : Nat → Nat → Int32) (y44 : Int32) (b138 : (Nat → Nat → Int32) → (Int32) → Int32 × (Nat → Int32) × (Nat → Nat → Int32)) (hb138 : ∀ (R45 : Nat → Nat → Int32) (y44 : Int32), kf3 md_X11_law mr_X11_law F38 R45 (b138 R45 y44)) : kf3 md_X11_law mr_X11_law F38 R45 (KB_X11_law_138 b138 F31 F38 R45 y44) := by
  unfold KB_X11_law_138
  exact (kf3_ite ⟨(g_fr_rf _), (g_fr_rf _)⟩ (kf3_lt (fun x51 _ => (kf3_lt (fun R53 zR53 => (kf3_lt (fun x55 _ => (kf3_lt (fun R57 zR57 => (kf3_lt (fun x59 _ => (kf3_lt (fun R61 zR61 => (kf3_lt (fun x63 _ => (kf3_lt (fun R65 zR65 => (kf3_lt (fun x67 _ => (kf3_tr (g_fr_rf _) (kf_r (kf_r (kf_r (kf_r (g_fr_rf _) rfl zR53) rfl zR57) rfl zR61) rfl zR65) (hb138 R65 x67)))))))))))))))))))))
theorem fr_K_X11_law_138 (F31 : Nat → Int32) (F38 : Nat → Int32) : ∀ (n : Nat) (R45 : Nat → Nat → Int32) (y44 : Int32), kf3 md_X11_law mr_X11_law F38 R45 (K_X11_law_138 F31 F38 n R45 y44)
  | 0, R45, y44 => ⟨g_fr_rf _, g_fr_rf _⟩
  | n + 1, R45, y44 => fr_KB_X11_law_138 F31 F38 R45 y44 (K_X11_law_138 F31 F38 n) (fr_K_X11_law_138 F31 F38 n)
theorem fr_KB_X11_law_110 (F31 : Nat → Int32) (F38 : Nat → Int32) (R41 : Nat → Nat → Int32) (y40 : Int32) (b110 : (Nat → Nat → Int32) → (Int32) → Int32 × (Nat → Int32) × (Nat → Nat → Int32)) (hb110 : ∀ (R41 : Nat → Nat → Int32) (y40 : Int32), kf3 md_X11_law mr_X11_law F38 R41 (b110 R41 y40)) : kf3 md_X11_law mr_X11_law F38 R41 (KB_X11_law_110 b110 F31 F38 R41 y40) := by
  unfold KB_X11_law_110
  exact (kf3_ite (kf3_tr (g_fr_rf _) (g_fr_rf _) (fr_K_X11_law_138 F31 F38 8589934592 R41 0)) (kf3_lt (fun x72 _ => (kf3_lt (fun R75 zR75 => (kf3_lt (fun x77 _ => (kf3_tr (g_fr_rf _) (kf_r (g_fr_rf _) rfl zR75) (hb110 R75 x77)))))))))
theorem fr_K_X11_law_110 (F31 : Nat → Int32) (F38 : Nat → Int32) : ∀ (n : Nat) (R41 : Nat → Nat → Int32) (y40 : Int32), kf3 md_X11_law mr_X11_law F38 R41 (K_X11_law_110 F31 F38 n R41 y40)
  | 0, R41, y40 => ⟨g_fr_rf _, g_fr_rf _⟩
  | n + 1, R41, y40 => fr_KB_X11_law_110 F31 F38 R41 y40 (K_X11_law_110 F31 F38 n) (fr_K_X11_law_110 F31 F38 n)
theorem fr_K_X11_law_86 (F31 : Nat → Int32) (R32 : Nat → Nat → Int32) (y30 : Int32) : kf3 md_X11_law mr_X11_law F31 R32 (K_X11_law_86 F31 R32 y30) := by
  unfold K_X11_law_86
  exact (kf3_lt (fun F33 zF33 => (kf3_ite ⟨(kf_u (g_fr_rf _) rfl zF33), (g_fr_rf _)⟩ (kf3_lt (fun F38 zF38 => (kf3_tr (kf_u (kf_u (g_fr_rf _) rfl zF33) rfl zF38) (g_fr_rf _) (fr_K_X11_law_110 F31 F38 8589934592 R32 0)))))))
theorem fr_K_X11_law_82 (F101 : Nat → Int32) (R102 : Nat → Nat → Int32) (y100 : Int32) (b46 : (Nat → Int32) → (Nat → Nat → Int32) → (Int32) → Int32 × (Nat → Int32) × (Nat → Nat → Int32)) (hb46 : ∀ (F31 : Nat → Int32) (R32 : Nat → Nat → Int32) (y30 : Int32), kf3 md_X11_law mr_X11_law F31 R32 (b46 F31 R32 y30)) : kf3 md_X11_law mr_X11_law F101 R102 (K_X11_law_82 b46 F101 R102 y100) := by
  unfold K_X11_law_82
  exact (kf3_tr (g_fr_rf _) (g_fr_rf _) (hb46 F101 R102 y100))
theorem fr_KB_X11_law_46 (F31 : Nat → Int32) (R32 : Nat → Nat → Int32) (y30 : Int32) (b46 : (Nat → Int32) → (Nat → Nat → Int32) → (Int32) → Int32 × (Nat → Int32) × (Nat → Nat → Int32)) (hb46 : ∀ (F31 : Nat → Int32) (R32 : Nat → Nat → Int32) (y30 : Int32), kf3 md_X11_law mr_X11_law F31 R32 (b46 F31 R32 y30)) : kf3 md_X11_law mr_X11_law F31 R32 (KB_X11_law_46 b46 F31 R32 y30) := by
  unfold KB_X11_law_46
  exact (kf3_ite (kf3_tr (g_fr_rf _) (g_fr_rf _) (fr_K_X11_law_86 F31 R32 y30)) (kf3_ite (kf3_tr (g_fr_rf _) (g_fr_rf _) (fr_K_X11_law_86 F31 R32 y30)) (kf3_lt3 (fun r91 F97 R98 zF97 => (kf3_ite (kf3_tr (kf3_F (g_fr_rf _) (fr_sp_X11_takes F31 R32 59) zF97 rfl) (kf3_R (g_fr_rf _) (fr_sp_X11_takes F31 R32 59) zF97 rfl) (fr_K_X11_law_82 F97 R98 0 b46 hb46)) (kf3_lt3 (fun r108 F113 R114 zF113 => (kf3_ite (kf3_tr (kf3_F (kf3_F (g_fr_rf _) (fr_sp_X11_takes F31 R32 59) zF97 rfl) (fr_sp_X11_readsClause F97 R98) zF113 rfl) (kf3_R (kf3_R (g_fr_rf _) (fr_sp_X11_takes F31 R32 59) zF97 rfl) (fr_sp_X11_readsClause F97 R98) zF113 rfl) (fr_K_X11_law_82 F113 R114 0 b46 hb46)) (kf3_tr (kf3_F (kf3_F (g_fr_rf _) (fr_sp_X11_takes F31 R32 59) zF97 rfl) (fr_sp_X11_readsClause F97 R98) zF113 rfl) (kf3_R (kf3_R (g_fr_rf _) (fr_sp_X11_takes F31 R32 59) zF97 rfl) (fr_sp_X11_readsClause F97 R98) zF113 rfl) (fr_K_X11_law_82 F113 R114 1 b46 hb46))))))))))
theorem fr_K_X11_law_46  : ∀ (n : Nat) (F31 : Nat → Int32) (R32 : Nat → Nat → Int32) (y30 : Int32), kf3 md_X11_law mr_X11_law F31 R32 (K_X11_law_46  n F31 R32 y30)
  | 0, F31, R32, y30 => ⟨g_fr_rf _, g_fr_rf _⟩
  | n + 1, F31, R32, y30 => fr_KB_X11_law_46 F31 R32 y30 (K_X11_law_46  n) (fr_K_X11_law_46  n)
theorem fr_sp_X11_law (F : Nat → Int32) (R : Nat → Nat → Int32) (a0 : Int32) : kf3 md_X11_law mr_X11_law F R (sp_X11_law F R a0) := by
  unfold sp_X11_law
  exact (kf3_lt (fun r1 _ => (kf3_ite (kf3_tr (g_fr_rf _) (g_fr_rf _) (fr_K_X11_law_19 F R)) (kf3_ite (kf3_lt (fun F14 zF14 => (kf3_lt (fun F16 zF16 => (kf3_lt (fun F18 zF18 => (kf3_lt (fun F20 zF20 => (kf3_lt3 (fun r22 F27 R28 zF27 => (kf3_tr (kf3_F (kf_u (kf_u (kf_u (kf_u (g_fr_rf _) rfl zF14) rfl zF16) rfl zF18) rfl zF20) (fr_sp_X11_readsClause F20 R) zF27 rfl) (kf3_R (g_fr_rf _) (fr_sp_X11_readsClause F20 R) zF27 rfl) (fr_K_X11_law_46 8589934592 F27 R28 r22)))))))))))) (kf3_tr (g_fr_rf _) (g_fr_rf _) (fr_K_X11_law_19 F R))))))
