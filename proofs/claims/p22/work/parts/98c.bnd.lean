/-! ===== how long the table is, and how far the cloth lies: within their bounds ===== -/
def UBd (F : Nat → Int32) : Prop := jv 10 200 (F 16) ∧ jv 0 200 (F 17) ∧ (¬ F 11 = 0 → jv 10 200 (F 48) ∧ jv 0 200 (F 49))
theorem UBd_e {F F' : Nat → Int32} (h : UBd F) (f : ∀ k, k = 11 ∨ k = 16 ∨ k = 17 ∨ k = 48 ∨ k = 49 → F' k = F k) : UBd F' := by
  unfold UBd
  rw [f 11 (by omega), f 16 (by omega), f 17 (by omega), f 48 (by omega), f 49 (by omega)]
  exact h
theorem b168 (r : Int32) : ∀ (n : Nat) (F : Nat → Int32) (R : Nat → Nat → Int32) (y : Int32), (K_X0_tick_168 r n F R y).1 698 = F 698 := by
  intro n
  induction n with
  | zero => intro F R y; rfl
  | succ n ih =>
    intro F R y
    rw [ks_X0_tick_168]
    unfold KB_X0_tick_168 K_X0_tick_187
    simp only [k_e, k_e2]
    split
    · show (upd F 695 (F 695 ||| F 606)) 698 = F 698
      rw [uu, if_neg (by decide)]
    · split
      · exact ih _ _ _
      · exact (ih _ _ _).trans ((fr_sp_X0_lead F R y).1 698 rfl)
theorem b158 (F : Nat → Int32) (R : Nat → Nat → Int32) : (K_X0_tick_158 F R).1 698 = F 698 := by
  unfold K_X0_tick_158
  rw [k_e]
  exact b168 _ _ _ _ _
theorem b116 : ∀ (n : Nat) (F : Nat → Int32) (R : Nat → Nat → Int32) (y : Int32), (K_X0_tick_116 n F R y).1 698 = F 698 := by
  intro n
  induction n with
  | zero => intro F R y; rfl
  | succ n ih =>
    intro F R y
    rw [ks_X0_tick_116]
    unfold KB_X0_tick_116
    simp only [k_e, k_e2]
    split
    · exact b158 _ _
    · split
      · exact b158 _ _
      · exact (ih _ _ _).trans ((fr_sp_X0_touch F R _ _).1 698 rfl)
theorem b85 (r : Int32) : ∀ (n : Nat) (F : Nat → Int32) (R : Nat → Nat → Int32) (y : Int32), (K_X0_tick_85 r n F R y).1 698 = F 698 := by
  intro n
  induction n with
  | zero => intro F R y; rfl
  | succ n ih =>
    intro F R y
    rw [ks_X0_tick_85]
    unfold KB_X0_tick_85 K_X0_tick_104
    simp only [k_e, k_e2]
    split
    · exact (b116 _ _ _ _).trans ((fr_sp_X0_lineUp F R).1 698 rfl)
    · split
      · exact ih _ _ _
      · exact (ih _ _ _).trans ((fr_sp_X0_slide F R y).1 698 rfl)
theorem b25 (r : Int32) : ∀ (n : Nat) (F : Nat → Int32) (R : Nat → Nat → Int32) (y : Int32), (K_X0_tick_25 r n F R y).1 698 = F 698 := by
  intro n
  induction n with
  | zero => intro F R y; rfl
  | succ n ih =>
    intro F R y
    rw [ks_X0_tick_25]
    unfold KB_X0_tick_25 K_X0_tick_69
    simp only [k_e, k_e2]
    split
    · exact b85 _ _ _ _ _
    · split
      · exact ih _ _ _
      · exact (ih _ _ _).trans (((fr_sp_X0_shake _ _ y _).1 698 rfl).trans ((fr_sp_X0_feelCloth F R y).1 698 rfl))
theorem b98 {F : Nat → Int32} (h : jv 0 200 (F 698)) (r y : Int32) (R : Nat → Nat → Int32) : jv 0 200 ((K_X0_pullCloth_98 r F R y).1 698) := by
  unfold K_X0_pullCloth_98
  simp only [k_e]
  show jv 0 200 ((upd _ 698 _) 698)
  rw [uu, if_pos rfl]
  have z0 : (0 : Int32).toInt = 0 := by decide
  generalize hq : (if 0 < r - y then r - y else 0) = q
  have hq0 : 0 ≤ q.toInt := by
    rw [← hq]
    split
    · rename_i z
      have := gc_lt z
      omega
    · omega
  have hqb : q.toInt ≤ 2147483647 := Int32.toInt_le q
  have s := jv_sub (x := F 698) (y := q) (z := F 698 - q) (-2147483647) 200 rfl h (c := 0) (d := 2147483647) ⟨hq0, hqb⟩ (by decide)
  split
  · rename_i z
    have := gc_lt z
    exact ⟨by omega, s.2.2⟩
  · exact ⟨by decide, by decide⟩
theorem b32 {F : Nat → Int32} (h : jv 0 200 (F 698)) (a r y : Int32) (R : Nat → Nat → Int32) : jv 0 200 ((K_X0_pullCloth_32 a r F R y).1 698) := by
  have e1 : (sp_X2_forget_17 F R).1 698 = F 698 := (fr_sp_X2_forget_17 F R).1 698 rfl
  unfold K_X0_pullCloth_32
  simp only [k_e, k_e2, k_e3]
  split
  · exact b98 (by rw [e1]; exact h) _ _ _
  · exact b98 (by rw [(fr_sp_X2_ask_17 _ _ 2).1 698 rfl, e1]; exact h) _ _ _
theorem b_pull {F : Nat → Int32} (h : jv 0 200 (F 698)) (a : Int32) (R : Nat → Nat → Int32) : jv 0 200 ((sp_X0_pullCloth F R a).1 698) := by
  unfold sp_X0_pullCloth
  simp only [k_e, k_e3]
  split
  · exact b32 h _ _ _ _
  · exact b32 (by rw [(fr_sp_X1_draw F R a).1 698 rfl]; exact h) _ _ _ _
theorem b_tick {F : Nat → Int32} (h : jv 0 200 (F 698)) (a : Int32) (R : Nat → Nat → Int32) : jv 0 200 ((sp_X0_tick F R a).1 698) := by
  unfold sp_X0_tick
  simp only [k_e, k_e2]
  rw [b25, uu, if_neg (by decide), uu, if_neg (by decide)]
  exact b_pull h a R
theorem b_run6 (F0 : Nat → Int32) : ∀ (n : Nat) (F : Nat → Int32) (R : Nat → Nat → Int32) (x : Int32), jv 0 200 (F 698) → jv 0 200 ((K_X0_run_6 F0 n F R x).1 698) := by
  intro n
  induction n with
  | zero => intro F R x h; exact h
  | succ n ih =>
    intro F R x h
    have step : jv 0 200 ((K_X0_run_31 (K_X0_run_6 F0 n) F R x).1 698) := by
      unfold K_X0_run_31
      simp only [k_e, k_e2]
      refine ih _ _ _ ?_
      rw [uu, if_neg (by decide)]
      exact b_tick h x R
    rw [ks_X0_run_6]
    unfold KB_X0_run_6 K_X0_run_52
    simp only [k_e]
    split
    · exact h
    · split
      · exact step
      · split
        · exact h
        · exact step
theorem b_run {F : Nat → Int32} {R : Nat → Nat → Int32} (h : jv 0 200 (F 81)) : jv 0 200 ((sp_X0_run F R).1 698) := by
  obtain ⟨n, F', R', e, b1, b2, b3, b4, b5, b6, b7, b8, b9, b10, b11⟩ := ux_begin F R
  unfold sp_X0_run
  rw [e, k_t2]
  exact b_run6 _ _ _ _ _ (by rw [b10]; exact h)
section UBS
variable {F : Nat → Int32} {R : Nat → Nat → Int32}
theorem bd_table (h : UBd F) (a b : Int32) : UBd (sp_X10_table F R a b).2.1 := by
  unfold sp_X10_table K_X10_table_22
  simp only [k_e]
  by_cases q : g_in a 10 200 = 0
  · rw [if_pos q]; exact h
  rw [if_neg q]
  by_cases q2 : g_in b 0 63 = 0
  · rw [if_pos q2]; exact h
  rw [if_neg q2]
  have j := gin_jv (lo := 10) (hi := 200) (by omega) (by omega) q
  obtain ⟨h1, h2, h3⟩ := h
  unfold UBd
  simp (decide := true) only [uu, if_true, if_false]
  exact ⟨j, ⟨by have := j.1; omega, j.2⟩, h3⟩
theorem bd_cloth (h : UBd F) (a : Int32) : UBd (sp_X10_cloth F R a).2.1 := by
  unfold sp_X10_cloth
  simp only [k_e]
  by_cases q : g_in a 0 (F 16) = 0
  · rw [if_pos q]; exact h
  rw [if_neg q]
  obtain ⟨h1, h2, h3⟩ := h
  have j : jv 0 200 a := by
    have e : g_in a 0 (F 16) = 1 := (g_in_01 a _ _).resolve_left q
    unfold g_in at e
    by_cases z : 0 ≤ a ∧ a ≤ F 16
    · have y1 := gc_le z.1
      have y2 := gc_le z.2
      have z0 : (0 : Int32).toInt = 0 := by decide
      exact ⟨by omega, by have := h1.2; omega⟩
    · rw [if_neg z] at e
      exact absurd e (by decide)
  unfold UBd
  simp (decide := true) only [uu, if_true, if_false]
  exact ⟨h1, j, h3⟩
theorem bd_keep (h : UBd F) : UBd (sp_X10_keep F R).2.1 := by
  unfold sp_X10_keep sp_X8_copy_3_r1
  simp only [k_e, k_t2]
  obtain ⟨h1, h2, h3⟩ := h
  unfold UBd
  simp (decide := true) only [uu, if_true, if_false]
  exact ⟨h1, h2, fun _ => ⟨h1, h2⟩⟩
theorem bd_undo (h : UBd F) : UBd (sp_X10_undo F R).2.1 := by
  unfold sp_X10_undo sp_X8_copy_1_r3
  simp only [k_e, k_t2]
  by_cases q : F 11 = 0
  · rw [if_pos q]; exact h
  rw [if_neg q]
  obtain ⟨h1, h2, h3⟩ := h
  unfold UBd
  simp (decide := true) only [uu, if_true, if_false]
  exact ⟨(h3 q).1, (h3 q).2, h3⟩
theorem bd_done (h : UBd F) (hj : jv 0 1023 (F 19)) : UBd (sp_X10_done F R).2.1 := by
  unfold sp_X10_done
  simp only [k_e, k_e2]
  split
  · exact h
  · have eT : sp_X10_tryDrawn F R = sp_X0_run (sp_X1_drawFrom (sp_X7_lay_r1_r11 F R).1 (sp_X7_lay_r1_r11 F R).2 (F 20)).1 (sp_X1_drawFrom (sp_X7_lay_r1_r11 F R).1 (sp_X7_lay_r1_r11 F R).2 (F 20)).2 := by
      unfold sp_X10_tryDrawn
      rw [k_e2, k_e2, k_id2]
    have h81 : (sp_X1_drawFrom (sp_X7_lay_r1_r11 F R).1 (sp_X7_lay_r1_r11 F R).2 (F 20)).1 81 = F 17 := by
      rw [(fr_sp_X1_drawFrom _ _ (F 20)).1 81 rfl]
      obtain ⟨F', R', c0, c80, c81, c82⟩ := c_lay F R
      rw [c0]
      exact c81
    have h698 : jv 0 200 ((sp_X10_tryDrawn F R).1 698) := by
      rw [eT]
      exact b_run (by rw [h81]; exact h.2.1)
    have fr := fr_sp_X10_tryDrawn F R
    generalize sp_X10_tryDrawn F R = P at *
    obtain ⟨FP, RP⟩ := P
    dsimp only at h698 ⊢
    obtain ⟨F', R', a1, a2, a3, a4⟩ := c_leave (F := FP) 10 0 (by omega) 8589934592 FP RP (by omega) (fun _ _ => rfl) (by rw [show FP 19 = F 19 from fr.1 19 rfl]; exact hj)
    have a1' : sp_X4_leave_r1 FP RP = (F', R') := a1
    rw [a1']
    show UBd (upd F' 20 (FP 673))
    obtain ⟨h1, h2, h3⟩ := h
    have f : ∀ k, k = 11 ∨ k = 16 ∨ k = 48 ∨ k = 49 → F' k = F k := fun k hk => (a3 k (by omega) (by omega)).trans (fr.1 k (by simp [md_X10_tryDrawn] <;> omega))
    unfold UBd
    rw [uu, if_neg (by decide), uu, if_neg (by decide), uu, if_neg (by decide), uu, if_neg (by decide), uu, if_neg (by decide), f 11 (by omega), f 16 (by omega), f 48 (by omega), f 49 (by omega), a2]
    exact ⟨h1, h698, h3⟩
theorem bd_thing (h : UBd F) (a0 a1 a2 a3 a4 a5 : Int32) : UBd (sp_X10_thing F R a0 a1 a2 a3 a4 a5).2.1 := UBd_e h (fun k hk => (fr_sp_X10_thing F R a0 a1 a2 a3 a4 a5).1 k (by simp [md_X10_thing] <;> omega))
theorem bd_more (h : UBd F) (a0 a1 a2 a3 : Int32) : UBd (sp_X10_more F R a0 a1 a2 a3).2.1 := UBd_e h (fun k hk => (fr_sp_X10_more F R a0 a1 a2 a3).1 k (by simp [md_X10_more] <;> omega))
theorem bd_away (h : UBd F) (a0 : Int32) : UBd (sp_X10_away F R a0).2.1 := UBd_e h (fun k hk => (fr_sp_X10_away F R a0).1 k (by simp [md_X10_away] <;> omega))
theorem bd_feed (h : UBd F) (a0 a1 a2 a3 a4 : Int32) : UBd (sp_X10_feed F R a0 a1 a2 a3 a4).2.1 := UBd_e h (fun k hk => (fr_sp_X10_feed F R a0 a1 a2 a3 a4).1 k (by simp [md_X10_feed] <;> omega))
theorem bd_pull (h : UBd F) (a0 : Int32) : UBd (sp_X10_pull F R a0).2.1 := UBd_e h (fun k hk => (fr_sp_X10_pull F R a0).1 k (by simp [md_X10_pull] <;> omega))
theorem bd_law (h : UBd F) (a0 : Int32) : UBd (sp_X10_law F R a0).2.1 := UBd_e h (fun k hk => (fr_sp_X10_law F R a0).1 k (by simp [md_X10_law] <;> omega))
theorem bd_tried (h : UBd F) (a0 : Int32) : UBd (sp_X10_tried F R a0).2.1 := UBd_e h (fun k hk => (fr_sp_X10_tried F R a0).1 k (by simp [md_X10_tried] <;> omega))
theorem bd_still (h : UBd F) (a0 : Int32) : UBd (sp_X10_still F R a0).2.1 := UBd_e h (fun k hk => (fr_sp_X10_still F R a0).1 k (by simp [md_X10_still] <;> omega))
theorem bd_pace (h : UBd F) : UBd (sp_X10_pace F R).2.1 := UBd_e h (fun k hk => (fr_sp_X10_pace F R).1 k (by simp [md_X10_pace] <;> omega))
theorem bd_best (h : UBd F) (a0 : Int32) : UBd (sp_X10_best F R a0).2.1 := UBd_e h (fun k hk => (fr_sp_X10_best F R a0).1 k (by simp [md_X10_best] <;> omega))
theorem bd_put (h : UBd F) (a0 a1 : Int32) : UBd (sp_X10_put F R a0 a1).2.1 := UBd_e h (fun k hk => (fr_sp_X10_put F R a0 a1).1 k (by simp [md_X10_put] <;> omega))
theorem bd_most (h : UBd F) (a0 : Int32) : UBd (sp_X10_most F R a0).2.1 := UBd_e h (fun k hk => (fr_sp_X10_most F R a0).1 k (by simp [md_X10_most] <;> omega))
theorem bd_worth (h : UBd F) (a0 a1 : Int32) : UBd (sp_X10_worth F R a0 a1).2.1 := UBd_e h (fun k hk => (fr_sp_X10_worth F R a0 a1).1 k (by simp [md_X10_worth] <;> omega))
theorem bd_wasWet (h : UBd F) (a0 : Int32) : UBd (sp_X10_wasWet F R a0).2.1 := UBd_e h (fun k hk => (fr_sp_X10_wasWet F R a0).1 k (by simp [md_X10_wasWet] <;> omega))
theorem bd_howQuick (h : UBd F) (a0 : Int32) : UBd (sp_X10_howQuick F R a0).2.1 := UBd_e h (fun k hk => (fr_sp_X10_howQuick F R a0).1 k (by simp [md_X10_howQuick] <;> omega))
theorem bd_odds (h : UBd F) (a0 a1 a2 : Int32) : UBd (sp_X10_odds F R a0 a1 a2).2.1 := UBd_e h (fun k hk => (fr_sp_X10_odds F R a0 a1 a2).1 k (by simp [md_X10_odds] <;> omega))
theorem bd_should (h : UBd F) (a0 a1 : Int32) : UBd (sp_X10_should F R a0 a1).2.1 := UBd_e h (fun k hk => (fr_sp_X10_should F R a0 a1).1 k (by simp [md_X10_should] <;> omega))
theorem bd_seed (h : UBd F) (a0 : Int32) : UBd (sp_X10_seed F R a0).2.1 := UBd_e h (fun k hk => (fr_sp_X10_seed F R a0).1 k (by simp [md_X10_seed] <;> omega))
theorem bd_check (h : UBd F) (a0 : Int32) : UBd (sp_X10_check F R a0).2.1 := UBd_e h (fun k hk => (fr_sp_X10_check F R a0).1 k (by simp [md_X10_check] <;> omega))
end UBS
/-- the whole relation, with the bounds -/
def URel2 (F : Nat → Int32) (R : Nat → Nat → Int32) (G : Nat → Int32) (S : Nat → Nat → Int32) : Prop := URel F R G S ∧ UBd F
theorem an2_table {F G : Nat → Int32} {R S : Nat → Nat → Int32} (h : URel2 F R G S) (a0 a1 : Int32) : UAns URel2 (sp_X10_table F R a0 a1) (sp_X11_table G S a0 a1) := ⟨(ans_table h.1 a0 a1).1, (ans_table h.1 a0 a1).2, bd_table h.2 a0 a1⟩
theorem an2_cloth {F G : Nat → Int32} {R S : Nat → Nat → Int32} (h : URel2 F R G S) (a0 : Int32) : UAns URel2 (sp_X10_cloth F R a0) (sp_X11_cloth G S a0) := ⟨(ans_cloth h.1 a0).1, (ans_cloth h.1 a0).2, bd_cloth h.2 a0⟩
theorem an2_thing {F G : Nat → Int32} {R S : Nat → Nat → Int32} (h : URel2 F R G S) (a0 a1 a2 a3 a4 a5 : Int32) : UAns URel2 (sp_X10_thing F R a0 a1 a2 a3 a4 a5) (sp_X11_thing G S a0 a1 a2 a3 a4 a5) := ⟨(ans_thing h.1 a0 a1 a2 a3 a4 a5).1, (ans_thing h.1 a0 a1 a2 a3 a4 a5).2, bd_thing h.2 a0 a1 a2 a3 a4 a5⟩
theorem an2_more {F G : Nat → Int32} {R S : Nat → Nat → Int32} (h : URel2 F R G S) (a0 a1 a2 a3 : Int32) : UAns URel2 (sp_X10_more F R a0 a1 a2 a3) (sp_X11_more G S a0 a1 a2 a3) := ⟨(ans_more h.1 a0 a1 a2 a3).1, (ans_more h.1 a0 a1 a2 a3).2, bd_more h.2 a0 a1 a2 a3⟩
theorem an2_away {F G : Nat → Int32} {R S : Nat → Nat → Int32} (h : URel2 F R G S) (a0 : Int32) : UAns URel2 (sp_X10_away F R a0) (sp_X11_away G S a0) := ⟨(ans_away h.1 a0).1, (ans_away h.1 a0).2, bd_away h.2 a0⟩
theorem an2_feed {F G : Nat → Int32} {R S : Nat → Nat → Int32} (h : URel2 F R G S) (a0 a1 a2 a3 a4 : Int32) : UAns URel2 (sp_X10_feed F R a0 a1 a2 a3 a4) (sp_X11_feed G S a0 a1 a2 a3 a4) := ⟨(ans_feed h.1 a0 a1 a2 a3 a4).1, (ans_feed h.1 a0 a1 a2 a3 a4).2, bd_feed h.2 a0 a1 a2 a3 a4⟩
theorem an2_pull {F G : Nat → Int32} {R S : Nat → Nat → Int32} (h : URel2 F R G S) (a0 : Int32) : UAns URel2 (sp_X10_pull F R a0) (sp_X11_pull G S a0) := ⟨(ans_pull h.1 a0).1, (ans_pull h.1 a0).2, bd_pull h.2 a0⟩
theorem an2_law {F G : Nat → Int32} {R S : Nat → Nat → Int32} (h : URel2 F R G S) (a0 : Int32) : UAns URel2 (sp_X10_law F R a0) (sp_X11_law G S a0) := ⟨(ans_law h.1 a0).1, (ans_law h.1 a0).2, bd_law h.2 a0⟩
theorem an2_tried {F G : Nat → Int32} {R S : Nat → Nat → Int32} (h : URel2 F R G S) (a0 : Int32) : UAns URel2 (sp_X10_tried F R a0) (sp_X11_tried G S a0) := ⟨(ans_tried h.1 a0).1, (ans_tried h.1 a0).2, bd_tried h.2 a0⟩
theorem an2_still {F G : Nat → Int32} {R S : Nat → Nat → Int32} (h : URel2 F R G S) (a0 : Int32) : UAns URel2 (sp_X10_still F R a0) (sp_X11_still G S a0) := ⟨(ans_still h.1 a0).1, (ans_still h.1 a0).2, bd_still h.2 a0⟩
theorem an2_done {F G : Nat → Int32} {R S : Nat → Nat → Int32} (h : URel2 F R G S) : UAns URel2 (sp_X10_done F R) (sp_X11_done G S) := ⟨(ans_done h.1).1, (ans_done h.1).2, bd_done h.2 h.1.1.2.2.2.2.2.1⟩
theorem an2_put {F G : Nat → Int32} {R S : Nat → Nat → Int32} (h : URel2 F R G S) (a0 a1 : Int32) : UAns URel2 (sp_X10_put F R a0 a1) (sp_X11_put G S a0 a1) := ⟨(ans_put h.1 a0 a1).1, (ans_put h.1 a0 a1).2, bd_put h.2 a0 a1⟩
theorem an2_seed {F G : Nat → Int32} {R S : Nat → Nat → Int32} (h : URel2 F R G S) (a0 : Int32) : UAns URel2 (sp_X10_seed F R a0) (sp_X11_seed G S a0) := ⟨(ans_seed h.1 a0).1, (ans_seed h.1 a0).2, bd_seed h.2 a0⟩
theorem an2_keep {F G : Nat → Int32} {R S : Nat → Nat → Int32} (h : URel2 F R G S) : UAns URel2 (sp_X10_keep F R) (sp_X11_keep G S) := ⟨(ans_keep h.1).1, (ans_keep h.1).2, bd_keep h.2⟩
theorem an2_undo {F G : Nat → Int32} {R S : Nat → Nat → Int32} (h : URel2 F R G S) : UAns URel2 (sp_X10_undo F R) (sp_X11_undo G S) := ⟨(ans_undo h.1).1, (ans_undo h.1).2, bd_undo h.2⟩
theorem an2_check {F G : Nat → Int32} {R S : Nat → Nat → Int32} (h : URel2 F R G S) (a0 : Int32) : UAns URel2 (sp_X10_check F R a0) (sp_X11_check G S a0) := ⟨(ans_check h.1 a0).1, (ans_check h.1 a0).2, bd_check h.2 a0⟩
theorem f22_pace {F G : Nat → Int32} {R S : Nat → Nat → Int32} (h : URel2 F R G S) : URel2 (sp_X10_pace F R).2.1 (sp_X10_pace F R).2.2 (sp_X11_pace G S).2.1 (sp_X11_pace G S).2.2 := ⟨fr2_pace h.1, bd_pace h.2⟩
theorem f22_best {F G : Nat → Int32} {R S : Nat → Nat → Int32} (h : URel2 F R G S) (a0 : Int32) : URel2 (sp_X10_best F R a0).2.1 (sp_X10_best F R a0).2.2 (sp_X11_best G S a0).2.1 (sp_X11_best G S a0).2.2 := ⟨fr2_best h.1 a0, bd_best h.2 a0⟩
theorem f22_most {F G : Nat → Int32} {R S : Nat → Nat → Int32} (h : URel2 F R G S) (a0 : Int32) : URel2 (sp_X10_most F R a0).2.1 (sp_X10_most F R a0).2.2 (sp_X11_most G S a0).2.1 (sp_X11_most G S a0).2.2 := ⟨fr2_most h.1 a0, bd_most h.2 a0⟩
theorem f22_worth {F G : Nat → Int32} {R S : Nat → Nat → Int32} (h : URel2 F R G S) (a0 a1 : Int32) : URel2 (sp_X10_worth F R a0 a1).2.1 (sp_X10_worth F R a0 a1).2.2 (sp_X11_worth G S a0 a1).2.1 (sp_X11_worth G S a0 a1).2.2 := ⟨fr2_worth h.1 a0 a1, bd_worth h.2 a0 a1⟩
theorem f22_wasWet {F G : Nat → Int32} {R S : Nat → Nat → Int32} (h : URel2 F R G S) (a0 : Int32) : URel2 (sp_X10_wasWet F R a0).2.1 (sp_X10_wasWet F R a0).2.2 (sp_X11_wasWet G S a0).2.1 (sp_X11_wasWet G S a0).2.2 := ⟨fr2_wasWet h.1 a0, bd_wasWet h.2 a0⟩
theorem f22_howQuick {F G : Nat → Int32} {R S : Nat → Nat → Int32} (h : URel2 F R G S) (a0 : Int32) : URel2 (sp_X10_howQuick F R a0).2.1 (sp_X10_howQuick F R a0).2.2 (sp_X11_howQuick G S a0).2.1 (sp_X11_howQuick G S a0).2.2 := ⟨fr2_howQuick h.1 a0, bd_howQuick h.2 a0⟩
theorem f22_odds {F G : Nat → Int32} {R S : Nat → Nat → Int32} (h : URel2 F R G S) (a0 a1 a2 : Int32) : URel2 (sp_X10_odds F R a0 a1 a2).2.1 (sp_X10_odds F R a0 a1 a2).2.2 (sp_X11_odds G S a0 a1 a2).2.1 (sp_X11_odds G S a0 a1 a2).2.2 := ⟨fr2_odds h.1 a0 a1 a2, bd_odds h.2 a0 a1 a2⟩
theorem f22_should {F G : Nat → Int32} {R S : Nat → Nat → Int32} (h : URel2 F R G S) (a0 a1 : Int32) : URel2 (sp_X10_should F R a0 a1).2.1 (sp_X10_should F R a0 a1).2.2 (sp_X11_should G S a0 a1).2.1 (sp_X11_should G S a0 a1).2.2 := ⟨fr2_should h.1 a0 a1, bd_should h.2 a0 a1⟩
theorem an2_thingIs {F G : Nat → Int32} {R S : Nat → Nat → Int32} (h : URel2 F R G S) (a0 a1 : Int32) : sp_X10_thingIs F R a0 a1 = sp_X11_thingIs G S a0 a1 := ans_thingIs h.1 a0 a1
theorem an2_count {F G : Nat → Int32} {R S : Nat → Nat → Int32} (h : URel2 F R G S) (a0 : Int32) : sp_X10_count F R a0 = sp_X11_count G S a0 := ans_count h.1 a0
