/-! ===== the class's reader: its seven copies (laid by wip/xg/link67.py) ===== -/
section RC6
variable {u : Nat → Nat} {N : Nat} {Ps : PsT} {Pf : PfT}
theorem CC_w {k o : Nat} {E E' : Nat → Prop} {M : MM} (w : ∀ v, E v → E' v) (h : CC u N Ps Pf k o E M) : CC u N Ps Pf k o E' M := by
  intro F R i p hs
  rcases h F R i p hs with z | ⟨j, a, L, l1, l2, l3⟩
  · exact Or.inl z
  · exact Or.inr ⟨j, a, L, l1, w _ l2, l3⟩
theorem fk_seq {fac : MM} {L : Nat → ML} (h : FKp fac) (hL : ∀ n F R y, ¬ F 532 = 0 → (L n F R y).1 532 = F 532) : FKp (fun F R => k_lt2 (fac F R) (fun F5 R6 => L 8589934592 F5 R6 0)) := by
  intro F R z
  have e := h F R z
  dsimp only
  rw [k_e2, hL _ _ _ _ (by rw [e]; exact z)]
  exact e
theorem fB_6 : sp_X3_factor_c6 = facB6 := rfl
theorem cf_6 (hu : HU u N) (hR : Rules u Ps Pf) : CC u N Ps Pf 0 6 (fun _ => True) sp_X3_factor_c6 := by
  rw [fB_6]
  exact c_fac6 hu hR
theorem ff_6 : FKp sp_X3_factor_c6 := by
  rw [fB_6]
  exact fk_facB6
theorem cpp_6 (hu : HU u N) (hR : Rules u Ps Pf) : (∀ n F R y, ¬ F 532 = 0 → (K_X3_product_c6_7 n F R y).1 532 = F 532) ∧ CC u N Ps Pf 2 6 (fun v => ¬ mul v) sp_X3_product_c6 := c_prod (fac := sp_X3_factor_c6) (L := K_X3_product_c6_7) hu hR (cf_6 hu hR) (fun _ _ _ _ => rfl) (fun _ _ _ => rfl)
theorem fp_6 (hu : HU u N) (hR : Rules u Ps Pf) : FKp sp_X3_product_c6 := fk_seq (L := K_X3_product_c6_7) ff_6 (cpp_6 hu hR).1
theorem css_6 (hu : HU u N) (hR : Rules u Ps Pf) : (∀ n F R y, ¬ F 532 = 0 → (K_X3_sum_c6_7 n F R y).1 532 = F 532) ∧ CC u N Ps Pf 4 6 nop sp_X3_sum_c6 := c_sum (fac := sp_X3_product_c6) (L := K_X3_sum_c6_7) hu hR (cpp_6 hu hR).2 (fun _ _ _ _ => rfl) (fun _ _ _ => rfl)
theorem cs_6 (hu : HU u N) (hR : Rules u Ps Pf) : CC u N Ps Pf 4 6 nop sp_X3_sum_c6 := (css_6 hu hR).2
theorem fs_6 (hu : HU u N) (hR : Rules u Ps Pf) : FKp sp_X3_sum_c6 := fk_seq (L := K_X3_sum_c6_7) (fp_6 hu hR) (css_6 hu hR).1
theorem fB_5 : sp_X3_factor_c5 = facB sp_X3_sum_c6 := rfl
theorem cf_5 (hu : HU u N) (hR : Rules u Ps Pf) : CC u N Ps Pf 0 5 (fun _ => True) sp_X3_factor_c5 := by
  rw [fB_5]
  exact c_fac hu hR (by omega) (cs_6 hu hR)
theorem ff_5 : FKp sp_X3_factor_c5 := by
  rw [fB_5]
  exact fk_facB
theorem cpp_5 (hu : HU u N) (hR : Rules u Ps Pf) : (∀ n F R y, ¬ F 532 = 0 → (K_X3_product_c5_7 n F R y).1 532 = F 532) ∧ CC u N Ps Pf 2 5 (fun v => ¬ mul v) sp_X3_product_c5 := c_prod (fac := sp_X3_factor_c5) (L := K_X3_product_c5_7) hu hR (cf_5 hu hR) (fun _ _ _ _ => rfl) (fun _ _ _ => rfl)
theorem fp_5 (hu : HU u N) (hR : Rules u Ps Pf) : FKp sp_X3_product_c5 := fk_seq (L := K_X3_product_c5_7) ff_5 (cpp_5 hu hR).1
theorem css_5 (hu : HU u N) (hR : Rules u Ps Pf) : (∀ n F R y, ¬ F 532 = 0 → (K_X3_sum_c5_7 n F R y).1 532 = F 532) ∧ CC u N Ps Pf 4 5 nop sp_X3_sum_c5 := c_sum (fac := sp_X3_product_c5) (L := K_X3_sum_c5_7) hu hR (cpp_5 hu hR).2 (fun _ _ _ _ => rfl) (fun _ _ _ => rfl)
theorem cs_5 (hu : HU u N) (hR : Rules u Ps Pf) : CC u N Ps Pf 4 5 nop sp_X3_sum_c5 := (css_5 hu hR).2
theorem fs_5 (hu : HU u N) (hR : Rules u Ps Pf) : FKp sp_X3_sum_c5 := fk_seq (L := K_X3_sum_c5_7) (fp_5 hu hR) (css_5 hu hR).1
theorem fB_4 : sp_X3_factor_c4 = facB sp_X3_sum_c5 := rfl
theorem cf_4 (hu : HU u N) (hR : Rules u Ps Pf) : CC u N Ps Pf 0 4 (fun _ => True) sp_X3_factor_c4 := by
  rw [fB_4]
  exact c_fac hu hR (by omega) (cs_5 hu hR)
theorem ff_4 : FKp sp_X3_factor_c4 := by
  rw [fB_4]
  exact fk_facB
theorem cpp_4 (hu : HU u N) (hR : Rules u Ps Pf) : (∀ n F R y, ¬ F 532 = 0 → (K_X3_product_c4_7 n F R y).1 532 = F 532) ∧ CC u N Ps Pf 2 4 (fun v => ¬ mul v) sp_X3_product_c4 := c_prod (fac := sp_X3_factor_c4) (L := K_X3_product_c4_7) hu hR (cf_4 hu hR) (fun _ _ _ _ => rfl) (fun _ _ _ => rfl)
theorem fp_4 (hu : HU u N) (hR : Rules u Ps Pf) : FKp sp_X3_product_c4 := fk_seq (L := K_X3_product_c4_7) ff_4 (cpp_4 hu hR).1
theorem css_4 (hu : HU u N) (hR : Rules u Ps Pf) : (∀ n F R y, ¬ F 532 = 0 → (K_X3_sum_c4_7 n F R y).1 532 = F 532) ∧ CC u N Ps Pf 4 4 nop sp_X3_sum_c4 := c_sum (fac := sp_X3_product_c4) (L := K_X3_sum_c4_7) hu hR (cpp_4 hu hR).2 (fun _ _ _ _ => rfl) (fun _ _ _ => rfl)
theorem cs_4 (hu : HU u N) (hR : Rules u Ps Pf) : CC u N Ps Pf 4 4 nop sp_X3_sum_c4 := (css_4 hu hR).2
theorem fs_4 (hu : HU u N) (hR : Rules u Ps Pf) : FKp sp_X3_sum_c4 := fk_seq (L := K_X3_sum_c4_7) (fp_4 hu hR) (css_4 hu hR).1
theorem fB_3 : sp_X3_factor_c3 = facB sp_X3_sum_c4 := rfl
theorem cf_3 (hu : HU u N) (hR : Rules u Ps Pf) : CC u N Ps Pf 0 3 (fun _ => True) sp_X3_factor_c3 := by
  rw [fB_3]
  exact c_fac hu hR (by omega) (cs_4 hu hR)
theorem ff_3 : FKp sp_X3_factor_c3 := by
  rw [fB_3]
  exact fk_facB
theorem cpp_3 (hu : HU u N) (hR : Rules u Ps Pf) : (∀ n F R y, ¬ F 532 = 0 → (K_X3_product_c3_7 n F R y).1 532 = F 532) ∧ CC u N Ps Pf 2 3 (fun v => ¬ mul v) sp_X3_product_c3 := c_prod (fac := sp_X3_factor_c3) (L := K_X3_product_c3_7) hu hR (cf_3 hu hR) (fun _ _ _ _ => rfl) (fun _ _ _ => rfl)
theorem fp_3 (hu : HU u N) (hR : Rules u Ps Pf) : FKp sp_X3_product_c3 := fk_seq (L := K_X3_product_c3_7) ff_3 (cpp_3 hu hR).1
theorem css_3 (hu : HU u N) (hR : Rules u Ps Pf) : (∀ n F R y, ¬ F 532 = 0 → (K_X3_sum_c3_7 n F R y).1 532 = F 532) ∧ CC u N Ps Pf 4 3 nop sp_X3_sum_c3 := c_sum (fac := sp_X3_product_c3) (L := K_X3_sum_c3_7) hu hR (cpp_3 hu hR).2 (fun _ _ _ _ => rfl) (fun _ _ _ => rfl)
theorem cs_3 (hu : HU u N) (hR : Rules u Ps Pf) : CC u N Ps Pf 4 3 nop sp_X3_sum_c3 := (css_3 hu hR).2
theorem fs_3 (hu : HU u N) (hR : Rules u Ps Pf) : FKp sp_X3_sum_c3 := fk_seq (L := K_X3_sum_c3_7) (fp_3 hu hR) (css_3 hu hR).1
theorem fB_2 : sp_X3_factor_c2 = facB sp_X3_sum_c3 := rfl
theorem cf_2 (hu : HU u N) (hR : Rules u Ps Pf) : CC u N Ps Pf 0 2 (fun _ => True) sp_X3_factor_c2 := by
  rw [fB_2]
  exact c_fac hu hR (by omega) (cs_3 hu hR)
theorem ff_2 : FKp sp_X3_factor_c2 := by
  rw [fB_2]
  exact fk_facB
theorem cpp_2 (hu : HU u N) (hR : Rules u Ps Pf) : (∀ n F R y, ¬ F 532 = 0 → (K_X3_product_c2_7 n F R y).1 532 = F 532) ∧ CC u N Ps Pf 2 2 (fun v => ¬ mul v) sp_X3_product_c2 := c_prod (fac := sp_X3_factor_c2) (L := K_X3_product_c2_7) hu hR (cf_2 hu hR) (fun _ _ _ _ => rfl) (fun _ _ _ => rfl)
theorem fp_2 (hu : HU u N) (hR : Rules u Ps Pf) : FKp sp_X3_product_c2 := fk_seq (L := K_X3_product_c2_7) ff_2 (cpp_2 hu hR).1
theorem css_2 (hu : HU u N) (hR : Rules u Ps Pf) : (∀ n F R y, ¬ F 532 = 0 → (K_X3_sum_c2_7 n F R y).1 532 = F 532) ∧ CC u N Ps Pf 4 2 nop sp_X3_sum_c2 := c_sum (fac := sp_X3_product_c2) (L := K_X3_sum_c2_7) hu hR (cpp_2 hu hR).2 (fun _ _ _ _ => rfl) (fun _ _ _ => rfl)
theorem cs_2 (hu : HU u N) (hR : Rules u Ps Pf) : CC u N Ps Pf 4 2 nop sp_X3_sum_c2 := (css_2 hu hR).2
theorem fs_2 (hu : HU u N) (hR : Rules u Ps Pf) : FKp sp_X3_sum_c2 := fk_seq (L := K_X3_sum_c2_7) (fp_2 hu hR) (css_2 hu hR).1
theorem fB_1 : sp_X3_factor_c1 = facB sp_X3_sum_c2 := rfl
theorem cf_1 (hu : HU u N) (hR : Rules u Ps Pf) : CC u N Ps Pf 0 1 (fun _ => True) sp_X3_factor_c1 := by
  rw [fB_1]
  exact c_fac hu hR (by omega) (cs_2 hu hR)
theorem ff_1 : FKp sp_X3_factor_c1 := by
  rw [fB_1]
  exact fk_facB
theorem cpp_1 (hu : HU u N) (hR : Rules u Ps Pf) : (∀ n F R y, ¬ F 532 = 0 → (K_X3_product_c1_7 n F R y).1 532 = F 532) ∧ CC u N Ps Pf 2 1 (fun v => ¬ mul v) sp_X3_product_c1 := c_prod (fac := sp_X3_factor_c1) (L := K_X3_product_c1_7) hu hR (cf_1 hu hR) (fun _ _ _ _ => rfl) (fun _ _ _ => rfl)
theorem fp_1 (hu : HU u N) (hR : Rules u Ps Pf) : FKp sp_X3_product_c1 := fk_seq (L := K_X3_product_c1_7) ff_1 (cpp_1 hu hR).1
theorem css_1 (hu : HU u N) (hR : Rules u Ps Pf) : (∀ n F R y, ¬ F 532 = 0 → (K_X3_sum_c1_7 n F R y).1 532 = F 532) ∧ CC u N Ps Pf 4 1 nop sp_X3_sum_c1 := c_sum (fac := sp_X3_product_c1) (L := K_X3_sum_c1_7) hu hR (cpp_1 hu hR).2 (fun _ _ _ _ => rfl) (fun _ _ _ => rfl)
theorem cs_1 (hu : HU u N) (hR : Rules u Ps Pf) : CC u N Ps Pf 4 1 nop sp_X3_sum_c1 := (css_1 hu hR).2
theorem fs_1 (hu : HU u N) (hR : Rules u Ps Pf) : FKp sp_X3_sum_c1 := fk_seq (L := K_X3_sum_c1_7) (fp_1 hu hR) (css_1 hu hR).1
theorem fB_0 : sp_X3_factor_c0 = facB sp_X3_sum_c1 := rfl
theorem cf_0 (hu : HU u N) (hR : Rules u Ps Pf) : CC u N Ps Pf 0 0 (fun _ => True) sp_X3_factor_c0 := by
  rw [fB_0]
  exact c_fac hu hR (by omega) (cs_1 hu hR)
theorem ff_0 : FKp sp_X3_factor_c0 := by
  rw [fB_0]
  exact fk_facB
theorem cpp_0 (hu : HU u N) (hR : Rules u Ps Pf) : (∀ n F R y, ¬ F 532 = 0 → (K_X3_product_c0_7 n F R y).1 532 = F 532) ∧ CC u N Ps Pf 2 0 (fun v => ¬ mul v) sp_X3_product_c0 := c_prod (fac := sp_X3_factor_c0) (L := K_X3_product_c0_7) hu hR (cf_0 hu hR) (fun _ _ _ _ => rfl) (fun _ _ _ => rfl)
theorem fp_0 (hu : HU u N) (hR : Rules u Ps Pf) : FKp sp_X3_product_c0 := fk_seq (L := K_X3_product_c0_7) ff_0 (cpp_0 hu hR).1
theorem css_0 (hu : HU u N) (hR : Rules u Ps Pf) : (∀ n F R y, ¬ F 532 = 0 → (K_X3_sum_c0_7 n F R y).1 532 = F 532) ∧ CC u N Ps Pf 4 0 nop sp_X3_sum_c0 := c_sum (fac := sp_X3_product_c0) (L := K_X3_sum_c0_7) hu hR (cpp_0 hu hR).2 (fun _ _ _ _ => rfl) (fun _ _ _ => rfl)
theorem cs_0 (hu : HU u N) (hR : Rules u Ps Pf) : CC u N Ps Pf 4 0 nop sp_X3_sum_c0 := (css_0 hu hR).2
theorem fs_0 (hu : HU u N) (hR : Rules u Ps Pf) : FKp sp_X3_sum_c0 := fk_seq (L := K_X3_sum_c0_7) (fp_0 hu hR) (css_0 hu hR).1
theorem mB_6 : sp_X3_comparison_c6 = cmpB sp_X3_sum_c6 := rfl
theorem cm_6 (hu : HU u N) (hR : Rules u Ps Pf) : CC u N Ps Pf 5 6 (fun _ => True) sp_X3_comparison_c6 := by
  rw [mB_6]
  exact c_cmp hu hR (cs_6 hu hR) (fs_6 hu hR)
theorem iB_6 : sp_X3_piece_c6 = pieB6 sp_X3_comparison_c6 := rfl
theorem ci_6 (hu : HU u N) (hR : Rules u Ps Pf) : CC u N Ps Pf 6 6 (fun _ => True) sp_X3_piece_c6 := by
  rw [iB_6]
  exact c_pie6 hu hR (cm_6 hu hR)
theorem ce_6 (hu : HU u N) (hR : Rules u Ps Pf) : CC u N Ps Pf 7 6 (fun v => True ∧ v ≠ 38) sp_X3_pieces_c6 := c_both (k := 6) (k' := 7) (E := fun _ => True) (sub := sp_X3_piece_c6) (L := K_X3_pieces_c6_9) (c := 38) (oc := 11) (sgn := 38) (op := 4) hu rfl (by omega) rfl (by omega) (ci_6 hu hR) (fun _ _ _ _ _ => rfl) (fun _ _ _ _ => rfl) (fun i j a L h1 _ h3 => ru_ps0 hR 6 i j L h1 h3) (fun i f h1 => ru_psF hR 6 i f h1) (fun i j j2 a a2 L L2 h1 _ h3 h4 => ru_ps1 hR 6 i j j2 a2 L L2 h1 h3 h4) (fun i j a L f h1 _ h3 h4 => ru_psG hR 6 i j L f h1 h3 h4)
theorem ca_6 (hu : HU u N) (hR : Rules u Ps Pf) : CC u N Ps Pf 8 6 (fun v => v ≠ 38 ∧ v ≠ 124) sp_X3_parts_c6 := CC_w (E := fun v => (True ∧ v ≠ 38) ∧ v ≠ 124) (fun v h => ⟨h.1.2, h.2⟩) (c_both (k := 7) (k' := 8) (E := fun v => True ∧ v ≠ 38) (sub := sp_X3_pieces_c6) (L := K_X3_parts_c6_9) (c := 124) (oc := 12) (sgn := 124) (op := 5) hu rfl (by omega) rfl (by omega) (ce_6 hu hR) (fun _ _ _ _ _ => rfl) (fun _ _ _ _ => rfl) (fun i j a L h1 h2 h3 => ru_pt0 hR 6 i j a L h1 h2.2 h3) (fun i f h1 => ru_ptF hR 6 i f h1) (fun i j j2 a a2 L L2 h1 h2 h3 h4 => ru_pt1 hR 6 i j j2 a a2 L L2 h1 h2.2 h3 h4) (fun i j a L f h1 h2 h3 h4 => ru_ptG hR 6 i j a L f h1 h2.2 h3 h4))
theorem mB_5 : sp_X3_comparison_c5 = cmpB sp_X3_sum_c5 := rfl
theorem cm_5 (hu : HU u N) (hR : Rules u Ps Pf) : CC u N Ps Pf 5 5 (fun _ => True) sp_X3_comparison_c5 := by
  rw [mB_5]
  exact c_cmp hu hR (cs_5 hu hR) (fs_5 hu hR)
theorem iB_5 : sp_X3_piece_c5 = pieB sp_X3_piece_c6 sp_X3_parts_c6 sp_X3_comparison_c5 := rfl
theorem ci_5 (hu : HU u N) (hR : Rules u Ps Pf) : CC u N Ps Pf 6 5 (fun _ => True) sp_X3_piece_c5 := by
  rw [iB_5]
  exact c_pie hu hR (by omega) (ci_6 hu hR) (ca_6 hu hR) (cm_5 hu hR)
theorem ce_5 (hu : HU u N) (hR : Rules u Ps Pf) : CC u N Ps Pf 7 5 (fun v => True ∧ v ≠ 38) sp_X3_pieces_c5 := c_both (k := 6) (k' := 7) (E := fun _ => True) (sub := sp_X3_piece_c5) (L := K_X3_pieces_c5_9) (c := 38) (oc := 11) (sgn := 38) (op := 4) hu rfl (by omega) rfl (by omega) (ci_5 hu hR) (fun _ _ _ _ _ => rfl) (fun _ _ _ _ => rfl) (fun i j a L h1 _ h3 => ru_ps0 hR 5 i j L h1 h3) (fun i f h1 => ru_psF hR 5 i f h1) (fun i j j2 a a2 L L2 h1 _ h3 h4 => ru_ps1 hR 5 i j j2 a2 L L2 h1 h3 h4) (fun i j a L f h1 _ h3 h4 => ru_psG hR 5 i j L f h1 h3 h4)
theorem ca_5 (hu : HU u N) (hR : Rules u Ps Pf) : CC u N Ps Pf 8 5 (fun v => v ≠ 38 ∧ v ≠ 124) sp_X3_parts_c5 := CC_w (E := fun v => (True ∧ v ≠ 38) ∧ v ≠ 124) (fun v h => ⟨h.1.2, h.2⟩) (c_both (k := 7) (k' := 8) (E := fun v => True ∧ v ≠ 38) (sub := sp_X3_pieces_c5) (L := K_X3_parts_c5_9) (c := 124) (oc := 12) (sgn := 124) (op := 5) hu rfl (by omega) rfl (by omega) (ce_5 hu hR) (fun _ _ _ _ _ => rfl) (fun _ _ _ _ => rfl) (fun i j a L h1 h2 h3 => ru_pt0 hR 5 i j a L h1 h2.2 h3) (fun i f h1 => ru_ptF hR 5 i f h1) (fun i j j2 a a2 L L2 h1 h2 h3 h4 => ru_pt1 hR 5 i j j2 a a2 L L2 h1 h2.2 h3 h4) (fun i j a L f h1 h2 h3 h4 => ru_ptG hR 5 i j a L f h1 h2.2 h3 h4))
theorem mB_4 : sp_X3_comparison_c4 = cmpB sp_X3_sum_c4 := rfl
theorem cm_4 (hu : HU u N) (hR : Rules u Ps Pf) : CC u N Ps Pf 5 4 (fun _ => True) sp_X3_comparison_c4 := by
  rw [mB_4]
  exact c_cmp hu hR (cs_4 hu hR) (fs_4 hu hR)
theorem iB_4 : sp_X3_piece_c4 = pieB sp_X3_piece_c5 sp_X3_parts_c5 sp_X3_comparison_c4 := rfl
theorem ci_4 (hu : HU u N) (hR : Rules u Ps Pf) : CC u N Ps Pf 6 4 (fun _ => True) sp_X3_piece_c4 := by
  rw [iB_4]
  exact c_pie hu hR (by omega) (ci_5 hu hR) (ca_5 hu hR) (cm_4 hu hR)
theorem ce_4 (hu : HU u N) (hR : Rules u Ps Pf) : CC u N Ps Pf 7 4 (fun v => True ∧ v ≠ 38) sp_X3_pieces_c4 := c_both (k := 6) (k' := 7) (E := fun _ => True) (sub := sp_X3_piece_c4) (L := K_X3_pieces_c4_9) (c := 38) (oc := 11) (sgn := 38) (op := 4) hu rfl (by omega) rfl (by omega) (ci_4 hu hR) (fun _ _ _ _ _ => rfl) (fun _ _ _ _ => rfl) (fun i j a L h1 _ h3 => ru_ps0 hR 4 i j L h1 h3) (fun i f h1 => ru_psF hR 4 i f h1) (fun i j j2 a a2 L L2 h1 _ h3 h4 => ru_ps1 hR 4 i j j2 a2 L L2 h1 h3 h4) (fun i j a L f h1 _ h3 h4 => ru_psG hR 4 i j L f h1 h3 h4)
theorem ca_4 (hu : HU u N) (hR : Rules u Ps Pf) : CC u N Ps Pf 8 4 (fun v => v ≠ 38 ∧ v ≠ 124) sp_X3_parts_c4 := CC_w (E := fun v => (True ∧ v ≠ 38) ∧ v ≠ 124) (fun v h => ⟨h.1.2, h.2⟩) (c_both (k := 7) (k' := 8) (E := fun v => True ∧ v ≠ 38) (sub := sp_X3_pieces_c4) (L := K_X3_parts_c4_9) (c := 124) (oc := 12) (sgn := 124) (op := 5) hu rfl (by omega) rfl (by omega) (ce_4 hu hR) (fun _ _ _ _ _ => rfl) (fun _ _ _ _ => rfl) (fun i j a L h1 h2 h3 => ru_pt0 hR 4 i j a L h1 h2.2 h3) (fun i f h1 => ru_ptF hR 4 i f h1) (fun i j j2 a a2 L L2 h1 h2 h3 h4 => ru_pt1 hR 4 i j j2 a a2 L L2 h1 h2.2 h3 h4) (fun i j a L f h1 h2 h3 h4 => ru_ptG hR 4 i j a L f h1 h2.2 h3 h4))
theorem mB_3 : sp_X3_comparison_c3 = cmpB sp_X3_sum_c3 := rfl
theorem cm_3 (hu : HU u N) (hR : Rules u Ps Pf) : CC u N Ps Pf 5 3 (fun _ => True) sp_X3_comparison_c3 := by
  rw [mB_3]
  exact c_cmp hu hR (cs_3 hu hR) (fs_3 hu hR)
theorem iB_3 : sp_X3_piece_c3 = pieB sp_X3_piece_c4 sp_X3_parts_c4 sp_X3_comparison_c3 := rfl
theorem ci_3 (hu : HU u N) (hR : Rules u Ps Pf) : CC u N Ps Pf 6 3 (fun _ => True) sp_X3_piece_c3 := by
  rw [iB_3]
  exact c_pie hu hR (by omega) (ci_4 hu hR) (ca_4 hu hR) (cm_3 hu hR)
theorem ce_3 (hu : HU u N) (hR : Rules u Ps Pf) : CC u N Ps Pf 7 3 (fun v => True ∧ v ≠ 38) sp_X3_pieces_c3 := c_both (k := 6) (k' := 7) (E := fun _ => True) (sub := sp_X3_piece_c3) (L := K_X3_pieces_c3_9) (c := 38) (oc := 11) (sgn := 38) (op := 4) hu rfl (by omega) rfl (by omega) (ci_3 hu hR) (fun _ _ _ _ _ => rfl) (fun _ _ _ _ => rfl) (fun i j a L h1 _ h3 => ru_ps0 hR 3 i j L h1 h3) (fun i f h1 => ru_psF hR 3 i f h1) (fun i j j2 a a2 L L2 h1 _ h3 h4 => ru_ps1 hR 3 i j j2 a2 L L2 h1 h3 h4) (fun i j a L f h1 _ h3 h4 => ru_psG hR 3 i j L f h1 h3 h4)
theorem ca_3 (hu : HU u N) (hR : Rules u Ps Pf) : CC u N Ps Pf 8 3 (fun v => v ≠ 38 ∧ v ≠ 124) sp_X3_parts_c3 := CC_w (E := fun v => (True ∧ v ≠ 38) ∧ v ≠ 124) (fun v h => ⟨h.1.2, h.2⟩) (c_both (k := 7) (k' := 8) (E := fun v => True ∧ v ≠ 38) (sub := sp_X3_pieces_c3) (L := K_X3_parts_c3_9) (c := 124) (oc := 12) (sgn := 124) (op := 5) hu rfl (by omega) rfl (by omega) (ce_3 hu hR) (fun _ _ _ _ _ => rfl) (fun _ _ _ _ => rfl) (fun i j a L h1 h2 h3 => ru_pt0 hR 3 i j a L h1 h2.2 h3) (fun i f h1 => ru_ptF hR 3 i f h1) (fun i j j2 a a2 L L2 h1 h2 h3 h4 => ru_pt1 hR 3 i j j2 a a2 L L2 h1 h2.2 h3 h4) (fun i j a L f h1 h2 h3 h4 => ru_ptG hR 3 i j a L f h1 h2.2 h3 h4))
theorem mB_2 : sp_X3_comparison_c2 = cmpB sp_X3_sum_c2 := rfl
theorem cm_2 (hu : HU u N) (hR : Rules u Ps Pf) : CC u N Ps Pf 5 2 (fun _ => True) sp_X3_comparison_c2 := by
  rw [mB_2]
  exact c_cmp hu hR (cs_2 hu hR) (fs_2 hu hR)
theorem iB_2 : sp_X3_piece_c2 = pieB sp_X3_piece_c3 sp_X3_parts_c3 sp_X3_comparison_c2 := rfl
theorem ci_2 (hu : HU u N) (hR : Rules u Ps Pf) : CC u N Ps Pf 6 2 (fun _ => True) sp_X3_piece_c2 := by
  rw [iB_2]
  exact c_pie hu hR (by omega) (ci_3 hu hR) (ca_3 hu hR) (cm_2 hu hR)
theorem ce_2 (hu : HU u N) (hR : Rules u Ps Pf) : CC u N Ps Pf 7 2 (fun v => True ∧ v ≠ 38) sp_X3_pieces_c2 := c_both (k := 6) (k' := 7) (E := fun _ => True) (sub := sp_X3_piece_c2) (L := K_X3_pieces_c2_9) (c := 38) (oc := 11) (sgn := 38) (op := 4) hu rfl (by omega) rfl (by omega) (ci_2 hu hR) (fun _ _ _ _ _ => rfl) (fun _ _ _ _ => rfl) (fun i j a L h1 _ h3 => ru_ps0 hR 2 i j L h1 h3) (fun i f h1 => ru_psF hR 2 i f h1) (fun i j j2 a a2 L L2 h1 _ h3 h4 => ru_ps1 hR 2 i j j2 a2 L L2 h1 h3 h4) (fun i j a L f h1 _ h3 h4 => ru_psG hR 2 i j L f h1 h3 h4)
theorem ca_2 (hu : HU u N) (hR : Rules u Ps Pf) : CC u N Ps Pf 8 2 (fun v => v ≠ 38 ∧ v ≠ 124) sp_X3_parts_c2 := CC_w (E := fun v => (True ∧ v ≠ 38) ∧ v ≠ 124) (fun v h => ⟨h.1.2, h.2⟩) (c_both (k := 7) (k' := 8) (E := fun v => True ∧ v ≠ 38) (sub := sp_X3_pieces_c2) (L := K_X3_parts_c2_9) (c := 124) (oc := 12) (sgn := 124) (op := 5) hu rfl (by omega) rfl (by omega) (ce_2 hu hR) (fun _ _ _ _ _ => rfl) (fun _ _ _ _ => rfl) (fun i j a L h1 h2 h3 => ru_pt0 hR 2 i j a L h1 h2.2 h3) (fun i f h1 => ru_ptF hR 2 i f h1) (fun i j j2 a a2 L L2 h1 h2 h3 h4 => ru_pt1 hR 2 i j j2 a a2 L L2 h1 h2.2 h3 h4) (fun i j a L f h1 h2 h3 h4 => ru_ptG hR 2 i j a L f h1 h2.2 h3 h4))
theorem mB_1 : sp_X3_comparison_c1 = cmpB sp_X3_sum_c1 := rfl
theorem cm_1 (hu : HU u N) (hR : Rules u Ps Pf) : CC u N Ps Pf 5 1 (fun _ => True) sp_X3_comparison_c1 := by
  rw [mB_1]
  exact c_cmp hu hR (cs_1 hu hR) (fs_1 hu hR)
theorem iB_1 : sp_X3_piece_c1 = pieB sp_X3_piece_c2 sp_X3_parts_c2 sp_X3_comparison_c1 := rfl
theorem ci_1 (hu : HU u N) (hR : Rules u Ps Pf) : CC u N Ps Pf 6 1 (fun _ => True) sp_X3_piece_c1 := by
  rw [iB_1]
  exact c_pie hu hR (by omega) (ci_2 hu hR) (ca_2 hu hR) (cm_1 hu hR)
theorem ce_1 (hu : HU u N) (hR : Rules u Ps Pf) : CC u N Ps Pf 7 1 (fun v => True ∧ v ≠ 38) sp_X3_pieces_c1 := c_both (k := 6) (k' := 7) (E := fun _ => True) (sub := sp_X3_piece_c1) (L := K_X3_pieces_c1_9) (c := 38) (oc := 11) (sgn := 38) (op := 4) hu rfl (by omega) rfl (by omega) (ci_1 hu hR) (fun _ _ _ _ _ => rfl) (fun _ _ _ _ => rfl) (fun i j a L h1 _ h3 => ru_ps0 hR 1 i j L h1 h3) (fun i f h1 => ru_psF hR 1 i f h1) (fun i j j2 a a2 L L2 h1 _ h3 h4 => ru_ps1 hR 1 i j j2 a2 L L2 h1 h3 h4) (fun i j a L f h1 _ h3 h4 => ru_psG hR 1 i j L f h1 h3 h4)
theorem ca_1 (hu : HU u N) (hR : Rules u Ps Pf) : CC u N Ps Pf 8 1 (fun v => v ≠ 38 ∧ v ≠ 124) sp_X3_parts_c1 := CC_w (E := fun v => (True ∧ v ≠ 38) ∧ v ≠ 124) (fun v h => ⟨h.1.2, h.2⟩) (c_both (k := 7) (k' := 8) (E := fun v => True ∧ v ≠ 38) (sub := sp_X3_pieces_c1) (L := K_X3_parts_c1_9) (c := 124) (oc := 12) (sgn := 124) (op := 5) hu rfl (by omega) rfl (by omega) (ce_1 hu hR) (fun _ _ _ _ _ => rfl) (fun _ _ _ _ => rfl) (fun i j a L h1 h2 h3 => ru_pt0 hR 1 i j a L h1 h2.2 h3) (fun i f h1 => ru_ptF hR 1 i f h1) (fun i j j2 a a2 L L2 h1 h2 h3 h4 => ru_pt1 hR 1 i j j2 a a2 L L2 h1 h2.2 h3 h4) (fun i j a L f h1 h2 h3 h4 => ru_ptG hR 1 i j a L f h1 h2.2 h3 h4))
end RC6
