/-! ===== the table's calls keep the whole relation ===== -/
theorem gin_jv {a : Int32} {lo hi : Nat} (hl : lo < 2 ^ 31) (hh : hi < 2 ^ 31) (h : ¬ g_in a (nI lo) (nI hi) = 0) : jv lo hi a := by
  obtain ⟨n, h1, h2, rfl⟩ := gin_n hl hh h
  exact ⟨by rw [nI_toInt (by omega)]; omega, by rw [nI_toInt (by omega)]; omega⟩
section URG
variable {G : Nat → Int32} {S : Nat → Nat → Int32}
theorem rng_table (h : URng G S) (a b : Int32) : URng (sp_X11_table G S a b).2.1 (sp_X11_table G S a b).2.2 := by
  unfold sp_X11_table K_X11_table_22
  simp only [k_e]
  split
  · exact h
  · split
    · exact h
    · obtain ⟨h1, h2, h3, h4⟩ := h
      unfold URng
      simp (decide := true) only [uu, if_true, if_false]
      exact ⟨h1, h2, fun j hj ht => absurd ht (hb_0 hj), h4⟩
theorem rng_cloth (h : URng G S) (a : Int32) : URng (sp_X11_cloth G S a).2.1 (sp_X11_cloth G S a).2.2 := by
  unfold sp_X11_cloth
  simp only [k_e]
  split
  · exact h
  · obtain ⟨h1, h2, h3, h4⟩ := h
    unfold URng
    simp (decide := true) only [uu, if_true, if_false]
    exact ⟨h1, h2, h3, h4⟩
theorem rng_seed (h : URng G S) (a : Int32) : URng (sp_X11_seed G S a).2.1 (sp_X11_seed G S a).2.2 := by
  unfold sp_X11_seed
  simp only [k_e]
  by_cases q : g_in a 0 65535 = 0
  · rw [if_pos q]
    exact h
  · rw [if_neg q]
    obtain ⟨h1, h2, h3, h4⟩ := h
    unfold URng
    simp (decide := true) only [uu, if_true, if_false]
    exact ⟨gin_jv (lo := 0) (hi := 65535) (by omega) (by omega) q, h2, h3, h4⟩
theorem rng_away (h : URng G S) (a : Int32) : URng (sp_X11_away G S a).2.1 (sp_X11_away G S a).2.2 := by
  unfold sp_X11_away
  simp only [k_e]
  split
  · exact h
  · obtain ⟨h1, h2, h3, h4⟩ := h
    unfold URng
    simp (decide := true) only [uu, if_true, if_false]
    exact ⟨h1, h2, fun j hj ht => h3 j hj ((ub_and hj).mp ht).1, h4⟩
theorem rng_thing (h : URng G S) (a0 a1 a2 a3 a4 a5 : Int32) : URng (sp_X11_thing G S a0 a1 a2 a3 a4 a5).2.1 (sp_X11_thing G S a0 a1 a2 a3 a4 a5).2.2 := by
  unfold sp_X11_thing K_X11_thing_66
  simp only [k_e]
  by_cases q0 : g_in a0 0 9 = 0
  · rw [if_pos q0]; exact h
  rw [if_neg q0]
  by_cases q1 : g_in a1 0 3 = 0
  · rw [if_pos q1]; exact h
  rw [if_neg q1]
  by_cases q2 : g_in a2 0 (G 0 - 1) = 0
  · rw [if_pos q2]; exact h
  rw [if_neg q2]
  by_cases q3 : g_in a3 1 40 = 0
  · rw [if_pos q3]; exact h
  rw [if_neg q3]
  by_cases q4 : g_in a4 1 60 = 0
  · rw [if_pos q4]; exact h
  rw [if_neg q4]
  by_cases q5 : g_in a5 1 99 = 0
  · rw [if_pos q5]; exact h
  rw [if_neg q5]
  obtain ⟨i, _, hi, rfl⟩ := gin_n (lo := 0) (hi := 9) (by omega) (by omega) q0
  have hi9 : i < 10 := by omega
  have j3 := gin_jv (lo := 1) (hi := 40) (by omega) (by omega) q3
  have j5 := gin_jv (lo := 1) (hi := 99) (by omega) (by omega) q5
  obtain ⟨h1, h2, h3, h4⟩ := h
  unfold URng
  simp (decide := true) only [uu, ug, if_true, if_false, nI_clamp (show i < 2 ^ 31 by omega)]
  refine ⟨h1, h2, fun j hj ht => ?_, h4⟩
  rw [ub_or hj, ub_bit hi9 hj] at ht
  by_cases q : j = i
  · simp only [if_pos q]
    exact ⟨j3, j5, by decide⟩
  · simp only [if_neg q]
    exact h3 j hj (ht.resolve_right q)
theorem rng_more (h : URng G S) (a a1 a2 a3 : Int32) : URng (sp_X11_more G S a a1 a2 a3).2.1 (sp_X11_more G S a a1 a2 a3).2.2 := by
  unfold sp_X11_more K_X11_more_40
  simp only [k_e]
  by_cases q0 : sp_X11_isTold G S a = 0
  · rw [if_pos q0]; exact h
  rw [if_neg q0]
  by_cases q1 : g_in a1 0 9 = 0
  · rw [if_pos q1]; exact h
  rw [if_neg q1]
  by_cases q2 : g_in a2 0 9 = 0
  · rw [if_pos q2]; exact h
  rw [if_neg q2]
  by_cases q3 : g_in a3 0 999 = 0
  · rw [if_pos q3]; exact h
  rw [if_neg q3]
  have j2 := gin_jv (lo := 0) (hi := 9) (by omega) (by omega) q2
  obtain ⟨h1, h2, h3, h4⟩ := h
  unfold URng
  simp (decide := true) only [uu, ug, if_true, if_false]
  refine ⟨h1, h2, fun j hj ht => ?_, h4⟩
  obtain ⟨x1, x2, x3⟩ := h3 j hj ht
  refine ⟨x1, x2, ?_⟩
  split
  · exact j2.1
  · exact x3
theorem rng_keep (h : URng G S) : URng (sp_X11_keep G S).2.1 (sp_X11_keep G S).2.2 := by
  have fr := fr_sp_X11_keep G S
  unfold sp_X11_keep at fr ⊢
  simp only [k_e] at fr ⊢
  generalize hG : upd (upd (upd (upd (upd (upd G 77 1) 78 (G 0)) 79 (G 1)) 80 (G 2)) 81 (G 3)) 82 (G 4) = G1 at fr ⊢
  obtain ⟨S1, e1, a1, b1⟩ := cp_1_41 G1 S
  rw [e1, k_t2]
  obtain ⟨S2, e2, a2, b2⟩ := cp_2_42 G1 S1
  rw [e2, k_t2]
  obtain ⟨S3, e3, a3, b3⟩ := cp_3_43 G1 S2
  rw [e3, k_t2]
  obtain ⟨S4, e4, a4, b4⟩ := cp_4_44 G1 S3
  rw [e4, k_t2]
  obtain ⟨S5, e5, a5, b5⟩ := cp_5_45 G1 S4
  rw [e5, k_t2]
  obtain ⟨S6, e6, a6, b6⟩ := cp_6_46 G1 S5
  rw [e6, k_t2]
  obtain ⟨S7, e7, a7, b7⟩ := cp_7_47 G1 S6
  rw [e7, k_t2]
  obtain ⟨S8, e8, a8, b8⟩ := cp_8_48 G1 S7
  rw [e8, k_t2]
  subst hG
  obtain ⟨h1, h2, h3, h4⟩ := h
  have low : ∀ c, c < 41 → S8 c = S c := fun c hc => (a8 c (by omega)).trans ((a7 c (by omega)).trans ((a6 c (by omega)).trans ((a5 c (by omega)).trans ((a4 c (by omega)).trans ((a3 c (by omega)).trans ((a2 c (by omega)).trans (a1 c (by omega))))))))
  unfold URng
  simp (decide := true) only [uu, if_true, if_false]
  refine ⟨h1, fun _ => h1, fun j hj ht => ?_, fun _ j hj ht => ?_⟩
  · rw [low 3 (by omega), low 5 (by omega), low 7 (by omega)]
    exact h3 j hj ht
  · rw [show S8 43 j = S 3 j by rw [a8 43 (by omega), a7 43 (by omega), a6 43 (by omega), a5 43 (by omega), a4 43 (by omega), b3 j hj, a2 3 (by omega), a1 3 (by omega)], show S8 45 j = S 5 j by rw [a8 45 (by omega), a7 45 (by omega), a6 45 (by omega), b5 j hj, a4 5 (by omega), a3 5 (by omega), a2 5 (by omega), a1 5 (by omega)], show S8 47 j = S 7 j by rw [a8 47 (by omega), b7 j hj, a6 7 (by omega), a5 7 (by omega), a4 7 (by omega), a3 7 (by omega), a2 7 (by omega), a1 7 (by omega)]]
    exact h3 j hj ht
theorem rng_undo (h : URng G S) : URng (sp_X11_undo G S).2.1 (sp_X11_undo G S).2.2 := by
  unfold sp_X11_undo
  simp only [k_e]
  by_cases q : G 77 = 0
  · rw [if_pos q]; exact h
  rw [if_neg q]
  generalize hG : upd (upd (upd (upd (upd G 0 (G 78)) 1 (G 79)) 2 (G 80)) 3 (G 81)) 4 (G 82) = G1
  obtain ⟨S1, e1, a1, b1⟩ := cp_41_1 G1 S
  rw [e1, k_t2]
  obtain ⟨S2, e2, a2, b2⟩ := cp_42_2 G1 S1
  rw [e2, k_t2]
  obtain ⟨S3, e3, a3, b3⟩ := cp_43_3 G1 S2
  rw [e3, k_t2]
  obtain ⟨S4, e4, a4, b4⟩ := cp_44_4 G1 S3
  rw [e4, k_t2]
  obtain ⟨S5, e5, a5, b5⟩ := cp_45_5 G1 S4
  rw [e5, k_t2]
  obtain ⟨S6, e6, a6, b6⟩ := cp_46_6 G1 S5
  rw [e6, k_t2]
  obtain ⟨S7, e7, a7, b7⟩ := cp_47_7 G1 S6
  rw [e7, k_t2]
  obtain ⟨S8, e8, a8, b8⟩ := cp_48_8 G1 S7
  rw [e8, k_t2]
  subst hG
  obtain ⟨h1, h2, h3, h4⟩ := h
  have high : ∀ c, 9 ≤ c → S8 c = S c := fun c hc => (a8 c (by omega)).trans ((a7 c (by omega)).trans ((a6 c (by omega)).trans ((a5 c (by omega)).trans ((a4 c (by omega)).trans ((a3 c (by omega)).trans ((a2 c (by omega)).trans (a1 c (by omega))))))))
  unfold URng
  simp (decide := true) only [uu, if_true, if_false]
  rw [high 43 (by omega), high 45 (by omega), high 47 (by omega)]
  refine ⟨h2 q, h2, fun j hj ht => ?_, h4⟩
  rw [show S8 3 j = S 43 j by rw [a8 3 (by omega), a7 3 (by omega), a6 3 (by omega), a5 3 (by omega), a4 3 (by omega), b3 j hj, a2 43 (by omega), a1 43 (by omega)], show S8 5 j = S 45 j by rw [a8 5 (by omega), a7 5 (by omega), a6 5 (by omega), b5 j hj, a4 45 (by omega), a3 45 (by omega), a2 45 (by omega), a1 45 (by omega)], show S8 7 j = S 47 j by rw [a8 7 (by omega), b7 j hj, a6 47 (by omega), a5 47 (by omega), a4 47 (by omega), a3 47 (by omega), a2 47 (by omega), a1 47 (by omega)]]
  exact h4 q j hj ht
end URG
theorem urel_tab {F F' G G' : Nat → Int32} {R R' S S' : Nat → Nat → Int32} (h : URel F R G S) (u : UTab F' R' G' S') (g : URng G' S') (f : ∀ k, k = 145 ∨ k = 274 ∨ k = 278 ∨ k = 177 → F' k = F k) (fg : ∀ k, k = 14 ∨ k = 28 ∨ k = 19 → G' k = G k) (r : ∀ c, c = 10 ∨ c = 12 ∨ 18 ≤ c ∧ c ≤ 22 → R' c = R c) (s : ∀ c, c = 9 ∨ c = 10 ∨ 18 ≤ c ∧ c ≤ 22 → S' c = S c) : URel F' R' G' S' := by
  obtain ⟨h1, h2, h3, h4, h5⟩ := h
  exact ⟨u, UTape_e h2 (f 145 (by omega)) (fg 14 (by omega)) (r 10 (by omega)) (s 9 (by omega)), ULaw_e h3 (f 274 (by omega)) (f 278 (by omega)) (fg 28 (by omega)) (fun c c1 c2 => r c (by omega)) (fun c c1 c2 => s c (by omega)), UPull_e h4 (f 177 (by omega)) (fg 19 (by omega)) (r 12 (by omega)) (s 10 (by omega)), g⟩
