/-! ===== a clause is read ===== -/
def clT3 (y6 a2 p2 : Int32) (F49 : Nat → Int32) (R50 : Nat → Nat → Int32) : (Nat → Int32) × (Nat → Nat → Int32) := k_lt3 (sp_X2_emit_25 F49 R50 0 0) (fun r52 F56 R57 => k_lt2 (sp_X2_addClause_25 F56 R57 y6 a2 p2) (fun F63 R64 => (F63, R64)))
def clT1 (y6 a2 : Int32) (F21 : Nat → Int32) (R22 : Nat → Nat → Int32) : (Nat → Int32) × (Nat → Nat → Int32) := k_lt3 (sp_X2_emit_25 F21 R22 0 0) (fun r24 F28 R29 => k_lt2 (sp_X3_pass F28 R29 40) (fun F35 R36 => k_lt2 (sp_X3_parts_c1 F35 R36) (fun F42 R43 => k_lt2 (sp_X3_pass F42 R43 41) (fun F49 R50 => clT3 y6 a2 (F28 402) F49 R50))))
theorem cl_e (F : Nat → Int32) (R : Nat → Nat → Int32) (y6 : Int32) : K_X3_clause_22 F R y6 = if 0 ≤ y6 then if (F 406) < 14 then k_lt ((F 531) + 1) (fun x13 => k_lt (upd F 531 x13) (fun F15 => k_lt2 (sp_X3_sum_c0 F15 R) (fun F21 R22 => clT1 y6 (F 402) F21 R22))) else k_lt2 (sp_X3_fail F R 4) (fun F72 R73 => (F72, R73)) else k_lt2 (sp_X3_fail F R 1) (fun F81 R82 => (F81, R82)) := rfl
/-- faults of a clause -/
def ClF (u : Nat → Nat) (Ps : PsT) (Pf : PfT) (i q : Nat) (f : Int32) : Prop :=
  (lc (u i) = 6 ∧ f = ft 1 i) ∨ (lc (u i) < 6 ∧ q = 14 ∧ f = ft 4 i) ∨ (lc (u i) < 6 ∧ q < 14 ∧ Pf 4 0 (i + 1) f) ∨
  (∃ j a L, lc (u i) < 6 ∧ q < 14 ∧ Ps 4 0 (i + 1) j a L ∧ nop (u j) ∧ ((u j ≠ 40 ∧ f = ft 1 j) ∨ (u j = 40 ∧ Pf 8 1 (j + 1) f) ∨ (u j = 40 ∧ ∃ j2 a2 L2, Ps 8 1 (j + 1) j2 a2 L2 ∧ u j2 ≠ 38 ∧ u j2 ≠ 124 ∧ u j2 ≠ 41 ∧ f = ft 1 j2)))
/-- a clause from i to j -/
def ClS (u : Nat → Nat) (Ps : PsT) (i q j : Nat) (L L2 : List Cd) : Prop := ∃ j1 j2 a a2, lc (u i) < 6 ∧ q < 14 ∧ Ps 4 0 (i + 1) j1 a L ∧ nop (u j1) ∧ u j1 = 40 ∧ Ps 8 1 (j1 + 1) j2 a2 L2 ∧ u j2 ≠ 38 ∧ u j2 ≠ 124 ∧ u j2 = 41 ∧ j = j2 + 1 ∧ i + 1 + L.length ≤ j1 ∧ j1 + 1 + L2.length ≤ j2
section RCL
variable {u : Nat → Nat} {N : Nat} {Ps : PsT} {Pf : PfT}
theorem fk_chp {sub : MM} {L : Nat → ML2} {sgn op : Int32} (hsg : ¬ (-1 : Int32) = sgn) (fk : FKp sub) (hL : ∀ n F R y z, L (n + 1) F R y z = chB sub sgn op (L n) F R y z) {M : MM} (hM : M = fun F R => k_lt2 (sub F R) (fun F5 R6 => L 8589934592 F5 R6 (-1) 0)) : FKp M := by
  rw [hM]
  exact fk_ch hsg fk hL
theorem fk_parts (hu : HU u N) (hR : Rules u Ps Pf) : FKp sp_X3_parts_c1 := by
  have h1 : FKp sp_X3_comparison_c1 := by
    rw [mB_1]
    exact fk_cmp (fs_1 hu hR)
  have h2 : FKp sp_X3_piece_c1 := by
    rw [iB_1]
    exact fk_pie h1
  have h3 : FKp sp_X3_pieces_c1 := fk_chp (sub := sp_X3_piece_c1) (L := K_X3_pieces_c1_9) (sgn := 38) (op := 4) (by decide) h2 (fun _ _ _ _ _ => rfl) rfl
  exact fk_chp (sub := sp_X3_pieces_c1) (L := K_X3_parts_c1_9) (sgn := 124) (op := 5) (by decide) h3 (fun _ _ _ _ _ => rfl) rfl
theorem fk_T3 {F : Nat → Int32} {R : Nat → Nat → Int32} (y a p : Int32) : (clT3 y a p F R).1 532 = F 532 := by
  unfold clT3
  rw [k_e3, k_e2]
  have e := (fr_sp_X2_addClause_25 (sp_X2_emit_25 F R 0 0).2.1 (sp_X2_emit_25 F R 0 0).2.2 y a p).1 532 rfl
  exact e.trans (c_emit_f 0 0 532 (by decide))
theorem c_passx (hu : HU u N) {F : Nat → Int32} {R : Nat → Nat → Int32} {i p : Nat} (h : CSt u N F R i p) (x : Int32) (c : Nat) (hx : x = nI c) (hc : c < 256) : (u i = c → sp_X3_pass F R x = (upd F 531 (F 531 + 1), R)) ∧ (u i ≠ c → (sp_X3_pass F R x).1 532 = ft 1 i) := by
  subst hx
  exact c_pass hu h c hc
theorem c_pass_kx {F : Nat → Int32} {R : Nat → Nat → Int32} (h : ¬ F 532 = 0) (x : Int32) (c : Nat) (hx : x = nI c) (hc : c < 256) : (sp_X3_pass F R x).1 532 = F 532 := by
  subst hx
  exact c_pass_k h c hc
theorem pair_ex {α β : Type} (x : α × β) : ∃ a b, x = (a, b) := ⟨x.1, x.2, rfl⟩
theorem fk_T1 (hu : HU u N) (hR : Rules u Ps Pf) {F : Nat → Int32} {R : Nat → Nat → Int32} (y a : Int32) (h : ¬ F 532 = 0) : (clT1 y a F R).1 532 = F 532 := by
  unfold clT1
  simp only [k_e2, k_e3]
  have e1 : (sp_X2_emit_25 F R 0 0).2.1 532 = F 532 := c_emit_f 0 0 532 (by decide)
  generalize (sp_X2_emit_25 F R 0 0).2.2 = R1 at *
  generalize (sp_X2_emit_25 F R 0 0).2.1 = F1 at *
  have h1 : ¬ F1 532 = 0 := by rw [e1]; exact h
  have e2 := c_pass_kx (R := R1) h1 40 40 rfl (by omega)
  generalize sp_X3_pass F1 R1 40 = Z2 at *
  have h2 : ¬ Z2.1 532 = 0 := by rw [e2]; exact h1
  have e3 := fk_parts hu hR Z2.1 Z2.2 h2
  generalize sp_X3_parts_c1 Z2.1 Z2.2 = Z3 at *
  rw [fk_T3]
  have h3 : ¬ Z3.1 532 = 0 := by rw [e3]; exact h2
  have e4 := c_pass_kx (R := Z3.2) h3 41 41 rfl (by omega)
  exact e4.trans (e3.trans (e2.trans e1))
/-- what the class holds behind a clause -/
def ClC (u : Nat → Nat) (N : Nat) (F : Nat → Int32) (R : Nat → Nat → Int32) (i p q j : Nat) (L L2 : List Cd) (Z : (Nat → Int32) × (Nat → Nat → Int32)) : Prop :=
  CSt u N Z.1 Z.2 j (p + L.length + 1 + L2.length + 1) ∧ Z.1 406 = nI (q + 1) ∧ Z.2 28 q = nI (lc (u i)) ∧ Z.2 29 q = nI p ∧ Z.2 30 q = nI (p + L.length + 1) ∧ CodeC (Z.2 26) (Z.2 27) p L ∧ Z.2 26 (p + L.length) = 0 ∧ CodeC (Z.2 26) (Z.2 27) (p + L.length + 1) L2 ∧ Z.2 26 (p + L.length + 1 + L2.length) = 0 ∧ (∀ k, k < p → Z.2 26 k = R 26 k ∧ Z.2 27 k = R 27 k) ∧ (∀ k, k ≠ q → Z.2 28 k = R 28 k ∧ Z.2 29 k = R 29 k ∧ Z.2 30 k = R 30 k)
theorem c_clause (hu : HU u N) (hR : Rules u Ps Pf) {F : Nat → Int32} {R : Nat → Nat → Int32} {i p q : Nat} (h : CSt u N F R i p) (h6 : F 406 = nI q) (hq : q ≤ 14) : (∃ f, ¬ f = 0 ∧ ClF u Ps Pf i q f ∧ (sp_X3_clause F R).1 532 = f) ∨ (∃ j L L2, ClS u Ps i q j L L2 ∧ ClC u N F R i p q j L L2 (sp_X3_clause F R)) := by
  have hle := HU_le hu i
  have hiN := h.2.2.2.2.1
  have hpi := h.2.2.2.1
  have hN := hu.1
  have e0 : sp_X3_clause F R = K_X3_clause_22 F R (if lc (u i) < 6 then nI (lc (u i)) else -1) := by
    unfold sp_X3_clause
    simp only [k_e]
    rw [c_sign hu h]
    by_cases z : u i = 256
    · rw [z, sg_256, if_pos rfl]
      rfl
    · have hx : ¬ sg (u i) = -1 := fun y => z ((sg_m1 hle).mp y)
      rw [if_neg hx, sg_n (by omega), lc_C (u i) (by omega)]
  rw [e0, cl_e]
  by_cases hl : lc (u i) < 6
  · rw [if_pos hl, if_pos (nI_pos' (by omega)), h6]
    have hi2 : u i ≠ 256 := by
      intro z
      rw [z] at hl
      exact absurd hl (by decide)
    by_cases hq2 : q < 14
    · rw [if_pos (show nI q < 14 from nI_lt (a := q) (b := 14) hq2 (by omega))]
      simp only [k_e, k_e2]
      have C0 := c_adv hu h hi2
      have FR1 := fr_sp_X3_sum_c0 (upd F 531 (F 531 + 1)) R
      have HS := cs_0 hu hR (upd F 531 (F 531 + 1)) R (i + 1) p C0
      obtain ⟨F1, R1, eZ⟩ := pair_ex (sp_X3_sum_c0 (upd F 531 (F 531 + 1)) R)
      rw [eZ] at FR1 HS
      rw [eZ]
      dsimp only at FR1 HS ⊢
      rcases HS with ⟨f, f1, f2, f3⟩ | ⟨j, a, L, g1, g2, g3, g4, g5, g6⟩
      · refine Or.inl ⟨f, f1, Or.inr (Or.inr (Or.inl ⟨hl, hq2, f2⟩)), ?_⟩
        rw [fk_T1 hu hR _ _ (by dsimp only at f3; rw [f3]; exact f1)]
        exact f3
      · dsimp only at g4 g5 g6
        have hjN := g4.2.2.2.2.1
        have A1 := c_raw (x := 0) (y := 0) hu g4 (by omega)
        have FE1 := fun k hk => c_emit_f (F := F1) (R := R1) 0 0 k hk
        have FRE := fr_sp_X2_emit_25 F1 R1 0 0
        have e402 : (sp_X2_emit_25 F1 R1 0 0).2.1 402 = nI (p + L.length + 1) := A1.1.2.2.1
        obtain ⟨F2, R2, eE⟩ : ∃ F2 R2, sp_X2_emit_25 F1 R1 0 0 = (nI (p + L.length), F2, R2) := ⟨_, _, c_emit g4.2.2.1 (by omega)⟩
        rw [eE] at A1 FE1 e402 FRE
        have hT1 : clT1 (nI (lc (u i))) (F 402) F1 R1 = k_lt2 (sp_X3_pass F2 R2 40) (fun F35 R36 => k_lt2 (sp_X3_parts_c1 F35 R36) (fun F42 R43 => k_lt2 (sp_X3_pass F42 R43 41) (fun F49 R50 => clT3 (nI (lc (u i))) (F 402) (F2 402) F49 R50))) := by
          unfold clT1
          rw [eE, k_t3]
        rw [hT1]
        dsimp only at A1 FE1 e402 FRE
        obtain ⟨B1, ⟨B2, B3⟩, B4⟩ := A1
        have PS := c_passx hu B1 40 40 rfl (by omega)
        by_cases q40 : u j = 40
        · have PS1 : sp_X3_pass F2 R2 40 = (upd F2 531 (F2 531 + 1), R2) := PS.1 q40
          rw [PS1, k_t2]
          have D0 := c_adv hu B1 (by omega)
          have FR2 := fr_sp_X3_parts_c1 (upd F2 531 (F2 531 + 1)) R2
          have HA := ca_1 hu hR (upd F2 531 (F2 531 + 1)) R2 (j + 1) (p + L.length + 1) D0
          obtain ⟨F3, R3, eA⟩ := pair_ex (sp_X3_parts_c1 (upd F2 531 (F2 531 + 1)) R2)
          rw [eA] at FR2 HA
          rw [eA, k_t2]
          try dsimp only at FR2 HA
          rcases HA with ⟨f, f1, f2, f3⟩ | ⟨j2, a2, L2, l1, l2, l3, l4, l5, l6⟩
          · refine Or.inl ⟨f, f1, Or.inr (Or.inr (Or.inr ⟨j, a, L, hl, hq2, g1, g2, Or.inr (Or.inl ⟨q40, f2⟩)⟩)), ?_⟩
            dsimp only at f3
            rw [k_e2, fk_T3]
            have := c_pass_kx (R := R3) (F := F3) (by rw [f3]; exact f1) 41 41 rfl (by omega)
            exact this.trans f3
          · dsimp only at l4 l5 l6
            have hj2N := l4.2.2.2.2.1
            have PP := c_passx hu l4 41 41 rfl (by omega)
            by_cases q41 : u j2 = 41
            · have PP1 : sp_X3_pass F3 R3 41 = (upd F3 531 (F3 531 + 1), R3) := PP.1 q41
              rw [PP1, k_t2]
              have E0 := c_adv hu l4 (by omega)
              have A2 := c_raw (x := 0) (y := 0) hu E0 (by omega)
              have eE2 := c_emit (R := R3) (x := 0) (y := 0) E0.2.2.1 (by omega)
              have FRE2 := fr_sp_X2_emit_25 (upd F3 531 (F3 531 + 1)) R3 0 0
              obtain ⟨F4, R4, eE3⟩ : ∃ F4 R4, sp_X2_emit_25 (upd F3 531 (F3 531 + 1)) R3 0 0 = (nI (p + L.length + 1 + L2.length), F4, R4) := ⟨_, _, eE2⟩
              rw [eE3] at A2 FRE2
              dsimp only at A2 FRE2
              obtain ⟨K1, ⟨K2, K3⟩, K4⟩ := A2
              have n406 : F4 406 = nI q := by
                have x1 : F4 406 = upd F3 531 (F3 531 + 1) 406 := FRE2.1 406 rfl
                have x2 : F3 406 = upd F2 531 (F2 531 + 1) 406 := FR2.1 406 rfl
                have x3 : F2 406 = F1 406 := FE1 406 (by decide)
                have x4 : F1 406 = upd F 531 (F 531 + 1) 406 := FR1.1 406 rfl
                rw [x1, uu, if_neg (by decide), x2, uu, if_neg (by decide), x3, x4, uu, if_neg (by decide)]
                exact h6
              have rows : ∀ c, 28 ≤ c → c ≤ 30 → R4 c = R c := by
                intro c c1 c2
                have x1 : R4 c = R3 c := FRE2.2 c (by simp [mr_X2_emit_25]; omega)
                have x2 : R3 c = R2 c := FR2.2 c (by simp [mr_X3_parts_c1]; omega)
                have x3 : R2 c = R1 c := FRE.2 c (by simp [mr_X2_emit_25]; omega)
                have x4 : R1 c = R c := FR1.2 c (by simp [mr_X3_sum_c0]; omega)
                exact x1.trans (x2.trans (x3.trans x4))
              have hT3 : clT3 (nI (lc (u i))) (F 402) (F2 402) (upd F3 531 (F3 531 + 1)) R3 = (upd F4 406 (nI (q + 1)), g_u (g_u (g_u R4 28 (upd (R4 28) q (nI (lc (u i))))) 29 (upd (R4 29) q (F 402))) 30 (upd (R4 30) q (F2 402))) := by
                unfold clT3
                rw [eE3, k_t3]
                unfold sp_X2_addClause_25 K_X2_addClause_25_49
                have n14 : ¬ (14 : Int32) ≤ nI q := nI_ge (a := q) (b := 14) hq2 (by omega)
                simp only [k_e]
                rw [n406, if_neg n14, nI_clamp (by omega), nI_1, k_t2]
                have x1 : g_u R4 28 (upd (R4 28) q (nI (lc (u i)))) 29 = R4 29 := by rw [ug, if_neg (by decide)]
                have x2 : g_u (g_u R4 28 (upd (R4 28) q (nI (lc (u i))))) 29 (upd (R4 29) q (F 402)) 30 = R4 30 := by rw [ug, if_neg (by decide), ug, if_neg (by decide)]
                rw [x1, x2]
              rw [hT3]
              have r26 : g_u (g_u (g_u R4 28 (upd (R4 28) q (nI (lc (u i))))) 29 (upd (R4 29) q (F 402))) 30 (upd (R4 30) q (F2 402)) 26 = R4 26 := by simp (decide := true) only [ug, if_false]
              have r27 : g_u (g_u (g_u R4 28 (upd (R4 28) q (nI (lc (u i))))) 29 (upd (R4 29) q (F 402))) 30 (upd (R4 30) q (F2 402)) 27 = R4 27 := by simp (decide := true) only [ug, if_false]
              have r28 : g_u (g_u (g_u R4 28 (upd (R4 28) q (nI (lc (u i))))) 29 (upd (R4 29) q (F 402))) 30 (upd (R4 30) q (F2 402)) 28 = upd (R4 28) q (nI (lc (u i))) := by simp (decide := true) only [ug, if_true, if_false]
              have r29 : g_u (g_u (g_u R4 28 (upd (R4 28) q (nI (lc (u i))))) 29 (upd (R4 29) q (F 402))) 30 (upd (R4 30) q (F2 402)) 29 = upd (R4 29) q (F 402) := by simp (decide := true) only [ug, if_true, if_false]
              have r30 : g_u (g_u (g_u R4 28 (upd (R4 28) q (nI (lc (u i))))) 29 (upd (R4 29) q (F 402))) 30 (upd (R4 30) q (F2 402)) 30 = upd (R4 30) q (F2 402) := by simp (decide := true) only [ug, if_true, if_false]
              have r34 : g_u (g_u (g_u R4 28 (upd (R4 28) q (nI (lc (u i))))) 29 (upd (R4 29) q (F 402))) 30 (upd (R4 30) q (F2 402)) 34 = R4 34 := by simp (decide := true) only [ug, if_false]
              refine Or.inr ⟨j2 + 1, L, L2, ⟨j, j2, a, a2, hl, hq2, g1, g2, q40, l1, l2.1, l2.2, q41, rfl, g3, l3⟩, ?_⟩
              unfold ClC
              dsimp only
              rw [r26, r27, r28, r29, r30]
              refine ⟨?_, by rw [uu, if_pos rfl], by rw [uu, if_pos rfl], by rw [uu, if_pos rfl]; exact h.2.2.1, by rw [uu, if_pos rfl]; exact e402, ?_, ?_, ?_, K2, fun k hk => ?_, fun k hk => ?_⟩
              · obtain ⟨t1, t2, t3, t4, t5, t6, t7⟩ := K1
                refine ⟨?_, ?_, ?_, t4, t5, ?_, ?_⟩
                · rw [uu, if_neg (by decide)]; exact t1
                · rw [uu, if_neg (by decide)]; exact t2
                · rw [uu, if_neg (by decide)]; exact t3
                · rw [uu, if_neg (by decide)]; exact t6
                · rw [r34]
                  exact t7
              · refine CodeC_eq L p (fun k k1 k2 => ?_) g5
                have x1 := K4 k (by omega)
                have x2 := l6 k (by omega)
                have x3 := B4 k (by omega)
                exact ⟨x1.1.trans (x2.1.trans x3.1), x1.2.trans (x2.2.trans x3.2)⟩
              · rw [(K4 _ (by omega)).1, (l6 _ (by omega)).1]
                exact B2
              · exact CodeC_eq L2 _ (fun k k1 k2 => K4 k (by omega)) l5
              · have x1 := K4 k (by omega)
                have x2 := l6 k (by omega)
                have x3 := B4 k (by omega)
                have x4 := g6 k hk
                exact ⟨x1.1.trans (x2.1.trans (x3.1.trans x4.1)), x1.2.trans (x2.2.trans (x3.2.trans x4.2))⟩
              · rw [uu, uu, uu, if_neg hk, if_neg hk, if_neg hk, rows 28 (by omega) (by omega), rows 29 (by omega) (by omega), rows 30 (by omega) (by omega)]
                exact ⟨rfl, rfl, rfl⟩
            · refine Or.inl ⟨ft 1 j2, ft_1 (by omega), Or.inr (Or.inr (Or.inr ⟨j, a, L, hl, hq2, g1, g2, Or.inr (Or.inr ⟨q40, j2, a2, L2, l1, l2.1, l2.2, q41, rfl⟩)⟩)), ?_⟩
              rw [k_e2, fk_T3]
              exact PP.2 q41
        · refine Or.inl ⟨ft 1 j, ft_1 (by omega), Or.inr (Or.inr (Or.inr ⟨j, a, L, hl, hq2, g1, g2, Or.inl ⟨q40, rfl⟩⟩)), ?_⟩
          have hf : (sp_X3_pass F2 R2 40).1 532 = ft 1 j := PS.2 q40
          have hnz : ¬ (sp_X3_pass F2 R2 40).1 532 = 0 := by rw [hf]; exact ft_1 (by omega)
          simp only [k_e2]
          rw [fk_T3]
          generalize sp_X3_pass F2 R2 40 = Z2 at *
          have e3 := fk_parts hu hR Z2.1 Z2.2 hnz
          generalize sp_X3_parts_c1 Z2.1 Z2.2 = Z3 at *
          have hnz2 : ¬ Z3.1 532 = 0 := by rw [e3]; exact hnz
          have e4 := c_pass_kx (R := Z3.2) hnz2 41 41 rfl (by omega)
          exact e4.trans (e3.trans hf)
    · rw [if_neg (show ¬ nI q < 14 from nI_nlt (a := q) (b := 14) (by omega) (by omega))]
      refine Or.inl ⟨ft 4 i, ft_4 (by omega), Or.inr (Or.inl ⟨hl, by omega, rfl⟩), ?_⟩
      rw [k_e2]
      exact c_fail h
  · rw [if_neg hl, if_neg (by decide)]
    refine Or.inl ⟨ft 1 i, ft_1 (by omega), Or.inl ⟨?_, rfl⟩, ?_⟩
    · have : lc (u i) ≤ 6 := by
        unfold lc
        repeat' split
        all_goals omega
      omega
    · rw [k_e2]
      exact c_fail h
end RCL
