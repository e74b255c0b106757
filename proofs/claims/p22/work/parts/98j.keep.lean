/-! ===== the best pull is kept while the table and the laws are the same ===== -/
/-- what is kept is what would be reckoned -/
def UBest (F : Nat → Int32) (R : Nat → Nat → Int32) : Prop := F 571 = F 12 → ∃ (Fo Fk : Nat → Int32) (Rk : Nat → Nat → Int32), ULt Fk Rk ∧ jv 0 200 (Fk 17) ∧ Fo 81 = Fk 81 ∧ Fk 564 = -1 ∧ Fk 80 = F 112 ∧ Fk 81 = F 113 ∧ Fk 82 = F 114 ∧ Fk 83 = F 115 ∧ (∀ k, k < 80 → Rk 6 k = R 8 k) ∧ Fk 274 = F 274 ∧ Fk 278 = F 278 ∧ (∀ c, 18 ≤ c → c ≤ 22 → Rk c = R c) ∧ ∀ w, w ≤ 4 → R 36 w = (K_X7_bestPull_46 Fo 8589934592 Fk Rk 1).2 36 w
theorem UBest_e {F F' : Nat → Int32} {R R' : Nat → Nat → Int32} (h : UBest F R) (f : ∀ k, k = 12 ∨ k = 571 ∨ 112 ≤ k ∧ k ≤ 115 ∨ k = 274 ∨ k = 278 → F' k = F k) (r : ∀ c, c = 8 ∨ c = 36 ∨ 18 ≤ c ∧ c ≤ 22 → R' c = R c) : UBest F' R' := by
  unfold UBest
  rw [f 571 (by omega), f 12 (by omega), f 112 (by omega), f 113 (by omega), f 114 (by omega), f 115 (by omega), f 274 (by omega), f 278 (by omega), r 8 (by omega), r 36 (by omega)]
  intro e
  obtain ⟨Fo, Fk, Rk, h1, h2, h3, h4, h5, h6, h7, h8, h9, h10, h11, h12, h13⟩ := h e
  exact ⟨Fo, Fk, Rk, h1, h2, h3, h4, h5, h6, h7, h8, h9, h10, h11, fun c c1 c2 => by rw [r c (by omega)]; exact h12 c c1 c2, h13⟩
theorem isas_t {F : Nat → Int32} {R : Nat → Nat → Int32} (h : ¬ sp_X8_isAs_5_r7 F R = 0) : F 80 = F 112 ∧ F 81 = F 113 ∧ F 82 = F 114 ∧ F 83 = F 115 ∧ ∀ k, k < 80 → R 6 k = R 8 k := by
  have loop : ∀ d i, i + d = 80 → ∀ n, d < n → ¬ K_X8_isAs_5_r7_52 R n (nI i) = 0 → ∀ k, i ≤ k → k < 80 → R 6 k = R 8 k := by
    intro d
    induction d with
    | zero => intro i hi n hn _ k k1 k2; omega
    | succ d ih =>
      intro i hi n hn h k k1 k2
      obtain ⟨n, rfl⟩ : ∃ n', n = n' + 1 := ⟨n - 1, by omega⟩
      rw [ks_X8_isAs_5_r7_52] at h
      unfold KB_X8_isAs_5_r7_52 at h
      rw [if_neg (show ¬ (80 : Int32) ≤ nI i from nI_ge (b := 80) (by omega) (by omega))] at h
      simp only [k_e] at h
      rw [nI_clamp (by omega), nI_1] at h
      by_cases q : R 6 i = R 8 i
      · rw [if_pos q] at h
        by_cases z : k = i
        · rw [z]; exact q
        · exact ih (i + 1) (by omega) n (by omega) h k (by omega) k2
      · rw [if_neg q] at h
        exact absurd rfl h
  unfold sp_X8_isAs_5_r7 K_X8_isAs_5_r7_48 at h
  by_cases q0 : F 80 = F 112
  · rw [if_pos q0] at h
    by_cases q1 : F 81 = F 113
    · rw [if_pos q1] at h
      by_cases q2 : F 82 = F 114
      · rw [if_pos q2] at h
        by_cases q3 : F 83 = F 115
        · rw [if_pos q3] at h
          exact ⟨q0, q1, q2, q3, fun k hk => loop 80 0 (by omega) 8589934592 (by omega) h k (Nat.zero_le _) hk⟩
        · rw [if_neg q3] at h; exact absurd rfl h
      · rw [if_neg q2] at h; exact absurd rfl h
    · rw [if_neg q1] at h; exact absurd rfl h
  · rw [if_neg q0] at h; exact absurd rfl h
/-- the whole relation, with the bounds, the best pull kept, and how many laws were read -/
def URel3 (z : Int32) (F : Nat → Int32) (R : Nat → Nat → Int32) (G : Nat → Int32) (S : Nat → Nat → Int32) : Prop := URel2 F R G S ∧ UBest F R ∧ 0 ≤ (F 12).toInt ∧ (F 12).toInt ≤ z.toInt ∧ (F 571).toInt ≤ (F 12).toInt
theorem up7 {z : Int32} (hz : jv 0 3584 z) : (z + 7).toInt = z.toInt + 7 := by
  have h := jv_add (x := z) (y := 7) (z := z + 7) 0 3591 rfl hz (jv_k (x := 7) 7 (by decide)) (by decide)
  have h1 := g_eq0 h.1
  have h7 : (7 : Int32).toInt = 7 := rfl
  omega
theorem URel3_n {z zn : Int32} {F G : Nat → Int32} {R S : Nat → Nat → Int32} (e : zn = z + 7) (h : URel3 (z + 7) F R G S) : URel3 zn F R G S := by rw [e]; exact h
theorem URel3_u {z zn : Int32} {F G : Nat → Int32} {R S : Nat → Nat → Int32} (hz : jv 0 3584 z) (e : zn = z + 7) (h : URel3 z F R G S) : URel3 zn F R G S := by
  obtain ⟨h1, h2, h3, h4, h5⟩ := h
  have := up7 hz
  exact ⟨h1, h2, h3, by rw [e]; omega, h5⟩
theorem URel3_f {z : Int32} {F F' G G' : Nat → Int32} {R R' S S' : Nat → Nat → Int32} (h : URel3 z F R G S) (hz : jv 0 3584 z) (h2 : URel2 F' R' G' S') (f : ∀ k, k = 12 ∨ k = 571 ∨ 112 ≤ k ∧ k ≤ 115 ∨ k = 274 ∨ k = 278 → F' k = F k) (r : ∀ c, c = 8 ∨ c = 36 ∨ 18 ≤ c ∧ c ≤ 22 → R' c = R c) : URel3 (z + 7) F' R' G' S' := by
  obtain ⟨_, b, h3, h4, h5⟩ := h
  have := up7 hz
  refine ⟨h2, UBest_e b f r, ?_, ?_, ?_⟩
  · rw [f 12 (by omega)]; exact h3
  · rw [f 12 (by omega)]; omega
  · rw [f 12 (by omega), f 571 (by omega)]; exact h5
section UBC
variable {F G : Nat → Int32} {R S : Nat → Nat → Int32} {z : Int32}
theorem law_keep (F : Nat → Int32) (R : Nat → Nat → Int32) (a : Int32) : (sp_X10_law F R a).2.1 12 = F 12 + 1 ∨ (sp_X10_law F R a).2.1 12 = F 12 ∧ (sp_X10_law F R a).2.1 274 = F 274 ∧ (sp_X10_law F R a).2.1 278 = F 278 ∧ ∀ c, 18 ≤ c → c ≤ 22 → (sp_X10_law F R a).2.2 c = R c := by
  have fr := fr_sp_X3_read F R a
  unfold sp_X10_law K_X10_law_22
  simp only [k_e, k_e2, k_e3]
  split
  · exact Or.inr ⟨rfl, rfl, rfl, fun _ _ _ => rfl⟩
  · split
    · split
      · refine Or.inl ?_
        dsimp only
        rw [uu, if_pos rfl]
      · refine Or.inr ⟨?_, ?_, ?_, fun c c1 c2 => ?_⟩
        · dsimp only
          rw [uu, if_neg (by decide)]
          exact fr.1 12 rfl
        · dsimp only
          rw [uu, if_neg (by decide)]
          exact fr.1 274 rfl
        · dsimp only
          rw [uu, if_neg (by decide)]
          exact fr.1 278 rfl
        · exact fr.2 c (by simp [mr_X3_read] <;> omega)
    · exact Or.inr ⟨rfl, rfl, rfl, fun _ _ _ => rfl⟩
theorem an3_law (h : URel3 z F R G S) (hz : jv 0 3584 z) (a : Int32) : UAns (URel3 (z + 7)) (sp_X10_law F R a) (sp_X11_law G S a) := by
  have u := an2_law h.1 a
  refine ⟨u.1, ?_⟩
  have c := fr_sp_X10_law F R a
  obtain ⟨_, b, h3, h4, h5⟩ := h
  have h7 := up7 hz
  rcases law_keep F R a with k | ⟨k1, k2, k3, k4⟩
  · have e : (F 12 + 1).toInt = (F 12).toInt + 1 := by
      have s := jv_add (x := F 12) (y := 1) (z := F 12 + 1) 0 3590 rfl (a := 0) (b := 3584) ⟨h3, by have := hz.2; omega⟩ (jv_k (x := 1) 1 (by decide)) (by decide)
      have s1 := g_eq0 s.1
      have h1 : (1 : Int32).toInt = 1 := rfl
      omega
    have f571 : (sp_X10_law F R a).2.1 571 = F 571 := c.1 571 (by simp [md_X10_law])
    refine ⟨u.2, fun q => ?_, by rw [k, e]; omega, by rw [k, e]; omega, by rw [k, e, f571]; omega⟩
    rw [k, f571] at q
    have := congrArg Int32.toInt q
    omega
  · have f : ∀ q, q = 12 ∨ q = 571 ∨ 112 ≤ q ∧ q ≤ 115 ∨ q = 274 ∨ q = 278 → (sp_X10_law F R a).2.1 q = F q := fun q hq => by
      by_cases q1 : q = 12
      · rw [q1]; exact k1
      · by_cases q2 : q = 274
        · rw [q2]; exact k2
        · by_cases q3 : q = 278
          · rw [q3]; exact k3
          · exact c.1 q (by simp [md_X10_law] <;> omega)
    refine URel3_f ⟨‹URel2 F R G S›, b, h3, h4, h5⟩ hz u.2 f (fun q hq => ?_)
    by_cases q1 : 18 ≤ q ∧ q ≤ 22
    · exact k4 q q1.1 q1.2
    · exact c.2 q (by simp [mr_X10_law] <;> omega)
theorem an3_best (h : URel3 z F R G S) (hz : jv 0 3584 z) (a : Int32) : UAns (URel3 (z + 7)) (sp_X10_best F R a) (sp_X11_best G S a) := by
  obtain ⟨h1, b, h3, h4, h5⟩ := id h
  have h7 := up7 hz
  have u2 : URel2 (sp_X10_best F R a).2.1 (sp_X10_best F R a).2.2 (sp_X11_best G S a).2.1 (sp_X11_best G S a).2.2 := f22_best h1 a
  by_cases q : g_in a 0 4 = 0
  · have eC : sp_X10_best F R a = (-1, F, R) := by
      unfold sp_X10_best
      rw [k_e, if_pos q]
    have eM : sp_X11_best G S a = (-1, G, S) := by
      unfold sp_X11_best
      rw [k_e, if_pos q]
    rw [eC, eM]
    exact uans (URel3_f h hz h1 (fun _ _ => rfl) (fun _ _ => rfl))
  obtain ⟨w, _, hw, rfl⟩ := gin_n (lo := 0) (hi := 4) (by omega) (by omega) q
  obtain ⟨F1, R1, v1, v2, v3, v4, v5, v6⟩ := lay_rel h1.1
  have f17 : F1 17 = F 17 := v5 17 (by omega)
  have hb1 : jv 0 200 (F1 17) := by rw [f17]; exact h1.2.2.1
  have e1 : G 1 = F1 17 := by rw [f17]; exact h1.1.1.2.1.symm
  have f12 : F1 12 = F 12 := v5 12 (by omega)
  have f571 : F1 571 = F 571 := v5 571 (by omega)
  -- the reference: always reckoned anew
  have eM : (sp_X11_best G S (nI w)).1 = (K_X11_best_17 G (nI w) 8589934592 (upd (upd (upd G 70 (-1)) 71 0) 72 (-1)) S 0).1 := by
    unfold sp_X11_best sp_X11_forgetsBest
    rw [k_e, if_neg q]
    simp only [k_e, k_t2]
  have hG : ∀ {F2 : Nat → Int32} {R2 : Nat → Nat → Int32}, UR0 False F2 R2 G S → UR0 False F2 R2 (upd (upd (upd G 70 (-1)) 71 0) 72 (-1)) S := fun hu => UR0_e hu (fun _ _ => rfl) (fun k hk => by rw [uu, if_neg (by unfold cG0 cG at hk; omega), uu, if_neg (by unfold cG0 cG at hk; omega), uu, if_neg (by unfold cG0 cG at hk; omega)]) (fun _ _ => rfl) (fun _ _ => rfl)
  have g70 : (upd (upd (upd G 70 (-1)) 71 0) 72 (-1)) 70 = -1 := by simp (decide := true) only [uu, if_true, if_false]
  have bis : ∀ (F2 : Nat → Int32) (R2 : Nat → Nat → Int32), sp_X7_bestIs F2 R2 (nI w) = R2 36 w := fun F2 R2 => by
    unfold sp_X7_bestIs K_X7_bestIs_25
    simp only [k_e]
    rw [if_neg q, nI_clamp (by omega)]
  have eC : ∀ (F2 : Nat → Int32) (R2 : Nat → Nat → Int32), sp_X7_bestPull F1 R1 (F1 12) = (F2, R2) → sp_X10_best F R (nI w) = (R2 36 w, F2, R2) := fun F2 R2 e => by
    unfold sp_X10_best
    rw [k_e, if_neg q, v1, k_t2, ← f12, e, k_t2, k_e, bis]
  -- reckoned anew by the class
  have anew : sp_X7_bestPull F1 R1 (F1 12) = K_X7_bestPull_23 F1 R1 (F1 12) → UAns (URel3 (z + 7)) (sp_X10_best F R (nI w)) (sp_X11_best G S (nI w)) := by
    intro e23
    have fk : ∀ k, k ≠ 564 → k ≠ 571 → ¬ (112 ≤ k ∧ k ≤ 116) → (upd (upd (upd (upd (upd (upd (upd F1 571 (F1 12)) 112 (F1 80)) 113 (F1 81)) 114 (F1 82)) 115 (F1 83)) 116 (F1 84)) 564 (-1)) k = F1 k := fun k k1 k2 k3 => by
      rw [uu, if_neg k1, uu, if_neg (by omega), uu, if_neg (by omega), uu, if_neg (by omega), uu, if_neg (by omega), uu, if_neg (by omega), uu, if_neg k2]
    have c564 : (upd (upd (upd (upd (upd (upd (upd F1 571 (F1 12)) 112 (F1 80)) 113 (F1 81)) 114 (F1 82)) 115 (F1 83)) 116 (F1 84)) 564 (-1)) 564 = -1 := by rw [uu, if_pos rfl]
    have c571 : (upd (upd (upd (upd (upd (upd (upd F1 571 (F1 12)) 112 (F1 80)) 113 (F1 81)) 114 (F1 82)) 115 (F1 83)) 116 (F1 84)) 564 (-1)) 571 = F1 12 := by simp (decide := true) only [uu, if_true, if_false]
    have c112 : (upd (upd (upd (upd (upd (upd (upd F1 571 (F1 12)) 112 (F1 80)) 113 (F1 81)) 114 (F1 82)) 115 (F1 83)) 116 (F1 84)) 564 (-1)) 112 = F1 80 := by simp (decide := true) only [uu, if_true, if_false]
    have c113 : (upd (upd (upd (upd (upd (upd (upd F1 571 (F1 12)) 112 (F1 80)) 113 (F1 81)) 114 (F1 82)) 115 (F1 83)) 116 (F1 84)) 564 (-1)) 113 = F1 81 := by simp (decide := true) only [uu, if_true, if_false]
    have c114 : (upd (upd (upd (upd (upd (upd (upd F1 571 (F1 12)) 112 (F1 80)) 113 (F1 81)) 114 (F1 82)) 115 (F1 83)) 116 (F1 84)) 564 (-1)) 114 = F1 82 := by simp (decide := true) only [uu, if_true, if_false]
    have c115 : (upd (upd (upd (upd (upd (upd (upd F1 571 (F1 12)) 112 (F1 80)) 113 (F1 81)) 114 (F1 82)) 115 (F1 83)) 116 (F1 84)) 564 (-1)) 115 = F1 83 := by simp (decide := true) only [uu, if_true, if_false]
    have eK : K_X7_bestPull_23 F1 R1 (F1 12) = K_X7_bestPull_46 F1 8589934592 (upd (upd (upd (upd (upd (upd (upd F1 571 (F1 12)) 112 (F1 80)) 113 (F1 81)) 114 (F1 82)) 115 (F1 83)) 116 (F1 84)) 564 (-1)) (g_u R1 8 (va_cpy (R1 6) (R1 8) 0 0 80)) 1 := by
      unfold K_X7_bestPull_23 sp_X8_copy_7_r5
      simp only [k_e, k_t2]
      simp (decide := true) only [uu, if_false]
    generalize hFk : upd (upd (upd (upd (upd (upd (upd F1 571 (F1 12)) 112 (F1 80)) 113 (F1 81)) 114 (F1 82)) 115 (F1 83)) 116 (F1 84)) 564 (-1) = Fk at *
    have rk : ∀ c, c ≠ 8 → (g_u R1 8 (va_cpy (R1 6) (R1 8) 0 0 80)) c = R1 c := fun c hc => by rw [ug, if_neg hc]
    have rk8 : ∀ k, k < 80 → (g_u R1 8 (va_cpy (R1 6) (R1 8) 0 0 80)) 8 k = R1 6 k := fun k hk => by rw [ug, if_pos rfl, cpy_k hk]
    generalize hRk : g_u R1 8 (va_cpy (R1 6) (R1 8) 0 0 80) = Rk at *
    have hUk : UR0 False Fk Rk G S := UR0_e (ur0_of v2) (fun k hk => fk k (by unfold cF0 cF at hk; omega) (by unfold cF0 cF at hk; omega) (by unfold cF0 cF at hk; omega)) (fun _ _ => rfl) (fun c hc => rk c (by unfold cR0 cR at hc; omega)) (fun _ _ => rfl)
    have hLk : ULt Fk Rk := by
      obtain ⟨z1, z2, z3, z4, z5, z6, z7⟩ := v3
      unfold ULt
      rw [fk 80 (by omega) (by omega) (by omega), fk 81 (by omega) (by omega) (by omega), fk 82 (by omega) (by omega) (by omega), fk 83 (by omega) (by omega) (by omega), fk 16 (by omega) (by omega) (by omega), fk 17 (by omega) (by omega) (by omega), fk 18 (by omega) (by omega) (by omega), fk 19 (by omega) (by omega) (by omega), fk 672 (by omega) (by omega) (by omega), fk 674 (by omega) (by omega) (by omega), rk 6 (by omega), rk 2 (by omega)]
      exact ⟨z1, z2, z3, z4, z5, z6, z7⟩
    have k17 : Fk 17 = F1 17 := fk 17 (by omega) (by omega) (by omega)
    have k81 : Fk 81 = F1 81 := fk 81 (by omega) (by omega) (by omega)
    obtain ⟨F2, R2, x1, x2, x3, x4⟩ := best_all (Fo := F1) (G0 := G) (hG hUk) hLk (by rw [k17]; exact hb1) k81.symm (by rw [k17]; exact e1) c564 g70 hw
    have eCC := eC F2 R2 (e23.trans (eK.trans x1))
    have f2 : ∀ k, cfF3 k → F2 k = Fk k := x3
    have f2_571 : F2 571 = F 12 := by rw [f2 571 (by unfold cfF3 cfF; omega), c571, f12]
    have f2_12 : F2 12 = F 12 := by rw [f2 12 (by unfold cfF3 cfF; omega), fk 12 (by omega) (by omega) (by omega), f12]
    rw [eCC] at u2 ⊢
    refine ⟨(eM.trans x2).symm, u2, fun _ => ⟨F1, Fk, Rk, hLk, by rw [k17]; exact hb1, k81.symm, c564, ?_, ?_, ?_, ?_, fun k hk => ?_, ?_, ?_, fun c c1 c2 => ?_, fun v hv => ?_⟩, ?_, ?_, ?_⟩
    · show Fk 80 = F2 112
      rw [f2 112 (by unfold cfF3 cfF; omega), c112, fk 80 (by omega) (by omega) (by omega)]
    · show Fk 81 = F2 113
      rw [f2 113 (by unfold cfF3 cfF; omega), c113, k81]
    · show Fk 82 = F2 114
      rw [f2 114 (by unfold cfF3 cfF; omega), c114, fk 82 (by omega) (by omega) (by omega)]
    · show Fk 83 = F2 115
      rw [f2 115 (by unfold cfF3 cfF; omega), c115, fk 83 (by omega) (by omega) (by omega)]
    · show Rk 6 k = R2 8 k
      rw [x4 8 (by unfold cfR3 cfR; omega), rk8 k hk, rk 6 (by omega)]
    · show Fk 274 = F2 274
      exact (f2 274 (by unfold cfF3 cfF; omega)).symm
    · show Fk 278 = F2 278
      exact (f2 278 (by unfold cfF3 cfF; omega)).symm
    · show Rk c = R2 c
      exact (x4 c (by unfold cfR3 cfR; omega)).symm
    · show R2 36 v = _
      rw [x1]
    · show 0 ≤ (F2 12).toInt
      rw [f2_12]; exact h3
    · show (F2 12).toInt ≤ _
      rw [f2_12]; omega
    · show (F2 571).toInt ≤ (F2 12).toInt
      rw [f2_12, f2_571]
      exact Int.le_refl _
  by_cases q1 : F1 12 = F1 571
  · by_cases q2 : sp_X8_isAs_5_r7 F1 R1 = 0
    · refine anew ?_
      unfold sp_X7_bestPull
      rw [if_pos q1, k_e, if_pos q2]
    · -- kept
      obtain ⟨s0, s1, s2, s3, s4⟩ := isas_t q2
      obtain ⟨Fo, Fk, Rk, k1, k2, k3, k4, k5, k6, k7, k8, k9, k10, k11, k12, k13⟩ := b (by rw [← f571, ← f12]; exact q1.symm)
      have l80 : ∀ k, 112 ≤ k ∧ k ≤ 115 → F k = F1 k := fun k hk => (v5 k (by omega)).symm
      obtain ⟨z1, z2, z3, z4, z5, z6, z7⟩ := v3
      obtain ⟨y1, y2, y3, y4, y5, y6, y7⟩ := id k1
      obtain ⟨⟨t1, t2, t3, _, t5, t6, t7, _⟩, i2, _, i4⟩ := ur0_of (b := False) v2
      have e16 : Fk 16 = F1 16 := by rw [← y1, k5, l80 112 (by omega), ← s0, z1]
      have e17 : Fk 17 = F1 17 := by rw [← y2, k6, l80 113 (by omega), ← s1, z2]
      have e18 : Fk 18 = F1 18 := by rw [← y3, k7, l80 114 (by omega), ← s2, z3]
      have e19 : Fk 19 = F1 19 := by rw [← y4, k8, l80 115 (by omega), ← s3, z4]
      have r2 : ∀ k, k < 80 → Rk 2 k = R1 2 k := fun k hk => by rw [← y7 k hk, k9 k hk, ← v6 8 (by omega) (by omega), ← s4 k hk, z7 k hk]
      have hUk : UR0 False Fk Rk G S := by
        refine ⟨⟨e16.trans t1, e17.trans t2, e18.trans t3, trivial, e19.trans t5, by rw [e19]; exact t6, fun j hj ht s hs => ?_, trivial, trivial⟩, ULaw_e i2 (by rw [k10, v5 274 (by omega)]) (by rw [k11, v5 278 (by omega)]) rfl (fun c c1 c2 => by rw [k12 c c1 c2, v6 c (by omega) (by omega)]) (fun _ _ _ => rfl), fun x => x.elim, i4⟩
        rw [e19] at ht
        rw [r2 _ (by omega)]
        exact t7 j hj ht s hs
      obtain ⟨F2, R2, x1, x2, x3, x4⟩ := best_all (Fo := Fo) (G0 := G) (hG hUk) k1 k2 k3 (by rw [e17]; exact e1) k4 g70 hw
      have eP : sp_X7_bestPull F1 R1 (F1 12) = (F1, R1) := by
        unfold sp_X7_bestPull
        rw [if_pos q1, k_e, if_neg q2]
      have eCC := eC F1 R1 eP
      rw [eCC] at u2 ⊢
      refine ⟨?_, URel3_f h hz u2 (fun k hk => v5 k (by omega)) (fun c hc => v6 c (by omega) (by omega))⟩
      show R1 36 w = (sp_X11_best G S (nI w)).1
      rw [eM, x2, v6 36 (by omega) (by omega), k13 w hw, x1]
  · refine anew ?_
    unfold sp_X7_bestPull
    rw [if_neg q1]
theorem an3_table (h : URel3 z F R G S) (hz : jv 0 3584 z) (a0 a1 : Int32) : UAns (URel3 (z + 7)) (sp_X10_table F R a0 a1) (sp_X11_table G S a0 a1) := ⟨(an2_table h.1 a0 a1).1, URel3_f h hz (an2_table h.1 a0 a1).2 (fun k hk => (fr_sp_X10_table F R a0 a1).1 k (by simp [md_X10_table] <;> omega)) (fun k hk => (fr_sp_X10_table F R a0 a1).2 k (by simp [mr_X10_table] <;> omega))⟩
theorem an3_cloth (h : URel3 z F R G S) (hz : jv 0 3584 z) (a0 : Int32) : UAns (URel3 (z + 7)) (sp_X10_cloth F R a0) (sp_X11_cloth G S a0) := ⟨(an2_cloth h.1 a0).1, URel3_f h hz (an2_cloth h.1 a0).2 (fun k hk => (fr_sp_X10_cloth F R a0).1 k (by simp [md_X10_cloth] <;> omega)) (fun k hk => (fr_sp_X10_cloth F R a0).2 k (by simp [mr_X10_cloth] <;> omega))⟩
theorem an3_thing (h : URel3 z F R G S) (hz : jv 0 3584 z) (a0 a1 a2 a3 a4 a5 : Int32) : UAns (URel3 (z + 7)) (sp_X10_thing F R a0 a1 a2 a3 a4 a5) (sp_X11_thing G S a0 a1 a2 a3 a4 a5) := ⟨(an2_thing h.1 a0 a1 a2 a3 a4 a5).1, URel3_f h hz (an2_thing h.1 a0 a1 a2 a3 a4 a5).2 (fun k hk => (fr_sp_X10_thing F R a0 a1 a2 a3 a4 a5).1 k (by simp [md_X10_thing] <;> omega)) (fun k hk => (fr_sp_X10_thing F R a0 a1 a2 a3 a4 a5).2 k (by simp [mr_X10_thing] <;> omega))⟩
theorem an3_more (h : URel3 z F R G S) (hz : jv 0 3584 z) (a0 a1 a2 a3 : Int32) : UAns (URel3 (z + 7)) (sp_X10_more F R a0 a1 a2 a3) (sp_X11_more G S a0 a1 a2 a3) := ⟨(an2_more h.1 a0 a1 a2 a3).1, URel3_f h hz (an2_more h.1 a0 a1 a2 a3).2 (fun k hk => (fr_sp_X10_more F R a0 a1 a2 a3).1 k (by simp [md_X10_more] <;> omega)) (fun k hk => (fr_sp_X10_more F R a0 a1 a2 a3).2 k (by simp [mr_X10_more] <;> omega))⟩
theorem an3_away (h : URel3 z F R G S) (hz : jv 0 3584 z) (a0 : Int32) : UAns (URel3 (z + 7)) (sp_X10_away F R a0) (sp_X11_away G S a0) := ⟨(an2_away h.1 a0).1, URel3_f h hz (an2_away h.1 a0).2 (fun k hk => (fr_sp_X10_away F R a0).1 k (by simp [md_X10_away] <;> omega)) (fun k hk => (fr_sp_X10_away F R a0).2 k (by simp [mr_X10_away] <;> omega))⟩
theorem an3_feed (h : URel3 z F R G S) (hz : jv 0 3584 z) (a0 a1 a2 a3 a4 : Int32) : UAns (URel3 (z + 7)) (sp_X10_feed F R a0 a1 a2 a3 a4) (sp_X11_feed G S a0 a1 a2 a3 a4) := ⟨(an2_feed h.1 a0 a1 a2 a3 a4).1, URel3_f h hz (an2_feed h.1 a0 a1 a2 a3 a4).2 (fun k hk => (fr_sp_X10_feed F R a0 a1 a2 a3 a4).1 k (by simp [md_X10_feed] <;> omega)) (fun k hk => (fr_sp_X10_feed F R a0 a1 a2 a3 a4).2 k (by simp [mr_X10_feed] <;> omega))⟩
theorem an3_pull (h : URel3 z F R G S) (hz : jv 0 3584 z) (a0 : Int32) : UAns (URel3 (z + 7)) (sp_X10_pull F R a0) (sp_X11_pull G S a0) := ⟨(an2_pull h.1 a0).1, URel3_f h hz (an2_pull h.1 a0).2 (fun k hk => (fr_sp_X10_pull F R a0).1 k (by simp [md_X10_pull] <;> omega)) (fun k hk => (fr_sp_X10_pull F R a0).2 k (by simp [mr_X10_pull] <;> omega))⟩
theorem an3_tried (h : URel3 z F R G S) (hz : jv 0 3584 z) (a0 : Int32) : UAns (URel3 (z + 7)) (sp_X10_tried F R a0) (sp_X11_tried G S a0) := ⟨(an2_tried h.1 a0).1, URel3_f h hz (an2_tried h.1 a0).2 (fun k hk => (fr_sp_X10_tried F R a0).1 k (by simp [md_X10_tried] <;> omega)) (fun k hk => (fr_sp_X10_tried F R a0).2 k (by simp [mr_X10_tried] <;> omega))⟩
theorem an3_still (h : URel3 z F R G S) (hz : jv 0 3584 z) (a0 : Int32) : UAns (URel3 (z + 7)) (sp_X10_still F R a0) (sp_X11_still G S a0) := ⟨(an2_still h.1 a0).1, URel3_f h hz (an2_still h.1 a0).2 (fun k hk => (fr_sp_X10_still F R a0).1 k (by simp [md_X10_still] <;> omega)) (fun k hk => (fr_sp_X10_still F R a0).2 k (by simp [mr_X10_still] <;> omega))⟩
theorem an3_done (h : URel3 z F R G S) (hz : jv 0 3584 z) : UAns (URel3 (z + 7)) (sp_X10_done F R) (sp_X11_done G S) := ⟨(an2_done h.1).1, URel3_f h hz (an2_done h.1).2 (fun k hk => (fr_sp_X10_done F R).1 k (by simp [md_X10_done] <;> omega)) (fun k hk => (fr_sp_X10_done F R).2 k (by simp [mr_X10_done] <;> omega))⟩
theorem an3_put (h : URel3 z F R G S) (hz : jv 0 3584 z) (a0 a1 : Int32) : UAns (URel3 (z + 7)) (sp_X10_put F R a0 a1) (sp_X11_put G S a0 a1) := ⟨(an2_put h.1 a0 a1).1, URel3_f h hz (an2_put h.1 a0 a1).2 (fun k hk => (fr_sp_X10_put F R a0 a1).1 k (by simp [md_X10_put] <;> omega)) (fun k hk => (fr_sp_X10_put F R a0 a1).2 k (by simp [mr_X10_put] <;> omega))⟩
theorem an3_seed (h : URel3 z F R G S) (hz : jv 0 3584 z) (a0 : Int32) : UAns (URel3 (z + 7)) (sp_X10_seed F R a0) (sp_X11_seed G S a0) := ⟨(an2_seed h.1 a0).1, URel3_f h hz (an2_seed h.1 a0).2 (fun k hk => (fr_sp_X10_seed F R a0).1 k (by simp [md_X10_seed] <;> omega)) (fun k hk => (fr_sp_X10_seed F R a0).2 k (by simp [mr_X10_seed] <;> omega))⟩
theorem an3_keep (h : URel3 z F R G S) (hz : jv 0 3584 z) : UAns (URel3 (z + 7)) (sp_X10_keep F R) (sp_X11_keep G S) := ⟨(an2_keep h.1).1, URel3_f h hz (an2_keep h.1).2 (fun k hk => (fr_sp_X10_keep F R).1 k (by simp [md_X10_keep] <;> omega)) (fun k hk => (fr_sp_X10_keep F R).2 k (by simp [mr_X10_keep] <;> omega))⟩
theorem an3_undo (h : URel3 z F R G S) (hz : jv 0 3584 z) : UAns (URel3 (z + 7)) (sp_X10_undo F R) (sp_X11_undo G S) := ⟨(an2_undo h.1).1, URel3_f h hz (an2_undo h.1).2 (fun k hk => (fr_sp_X10_undo F R).1 k (by simp [md_X10_undo] <;> omega)) (fun k hk => (fr_sp_X10_undo F R).2 k (by simp [mr_X10_undo] <;> omega))⟩
theorem an3_check (h : URel3 z F R G S) (hz : jv 0 3584 z) (a0 : Int32) : UAns (URel3 (z + 7)) (sp_X10_check F R a0) (sp_X11_check G S a0) := ⟨(an2_check h.1 a0).1, URel3_f h hz (an2_check h.1 a0).2 (fun k hk => (fr_sp_X10_check F R a0).1 k (by simp [md_X10_check] <;> omega)) (fun k hk => (fr_sp_X10_check F R a0).2 k (by simp [mr_X10_check] <;> omega))⟩
theorem an3_pace (h : URel3 z F R G S) (hz : jv 0 3584 z) : UAns (URel3 (z + 7)) (sp_X10_pace F R) (sp_X11_pace G S) := ⟨(an2_pace h.1).1, URel3_f h hz (an2_pace h.1).2 (fun k hk => (fr_sp_X10_pace F R).1 k (by simp [md_X10_pace] <;> omega)) (fun k hk => (fr_sp_X10_pace F R).2 k (by simp [mr_X10_pace] <;> omega))⟩
theorem an3_most (h : URel3 z F R G S) (hz : jv 0 3584 z) (a0 : Int32) : UAns (URel3 (z + 7)) (sp_X10_most F R a0) (sp_X11_most G S a0) := ⟨(an2_most h.1 a0).1, URel3_f h hz (an2_most h.1 a0).2 (fun k hk => (fr_sp_X10_most F R a0).1 k (by simp [md_X10_most] <;> omega)) (fun k hk => (fr_sp_X10_most F R a0).2 k (by simp [mr_X10_most] <;> omega))⟩
theorem an3_wasWet (h : URel3 z F R G S) (hz : jv 0 3584 z) (a0 : Int32) : UAns (URel3 (z + 7)) (sp_X10_wasWet F R a0) (sp_X11_wasWet G S a0) := ⟨(an2_wasWet h.1 a0).1, URel3_f h hz (an2_wasWet h.1 a0).2 (fun k hk => (fr_sp_X10_wasWet F R a0).1 k (by simp [md_X10_wasWet] <;> omega)) (fun k hk => (fr_sp_X10_wasWet F R a0).2 k (by simp [mr_X10_wasWet] <;> omega))⟩
theorem an3_howQuick (h : URel3 z F R G S) (hz : jv 0 3584 z) (a0 : Int32) : UAns (URel3 (z + 7)) (sp_X10_howQuick F R a0) (sp_X11_howQuick G S a0) := ⟨(an2_howQuick h.1 a0).1, URel3_f h hz (an2_howQuick h.1 a0).2 (fun k hk => (fr_sp_X10_howQuick F R a0).1 k (by simp [md_X10_howQuick] <;> omega)) (fun k hk => (fr_sp_X10_howQuick F R a0).2 k (by simp [mr_X10_howQuick] <;> omega))⟩
theorem an3_odds (h : URel3 z F R G S) (hz : jv 0 3584 z) (a0 a1 a2 : Int32) : UAns (URel3 (z + 7)) (sp_X10_odds F R a0 a1 a2) (sp_X11_odds G S a0 a1 a2) := ⟨(an2_odds h.1 a0 a1 a2).1, URel3_f h hz (an2_odds h.1 a0 a1 a2).2 (fun k hk => (fr_sp_X10_odds F R a0 a1 a2).1 k (by simp [md_X10_odds] <;> omega)) (fun k hk => (fr_sp_X10_odds F R a0 a1 a2).2 k (by simp [mr_X10_odds] <;> omega))⟩
theorem an3_should (h : URel3 z F R G S) (hz : jv 0 3584 z) (a0 a1 : Int32) : UAns (URel3 (z + 7)) (sp_X10_should F R a0 a1) (sp_X11_should G S a0 a1) := ⟨(an2_should h.1 a0 a1).1, URel3_f h hz (an2_should h.1 a0 a1).2 (fun k hk => (fr_sp_X10_should F R a0 a1).1 k (by simp [md_X10_should] <;> omega)) (fun k hk => (fr_sp_X10_should F R a0 a1).2 k (by simp [mr_X10_should] <;> omega))⟩
theorem f32_worth (h : URel3 z F R G S) (hz : jv 0 3584 z) (a0 a1 : Int32) : URel3 (z + 7) (sp_X10_worth F R a0 a1).2.1 (sp_X10_worth F R a0 a1).2.2 (sp_X11_worth G S a0 a1).2.1 (sp_X11_worth G S a0 a1).2.2 := URel3_f h hz (f22_worth h.1 a0 a1) (fun k hk => (fr_sp_X10_worth F R a0 a1).1 k (by simp [md_X10_worth] <;> omega)) (fun k hk => (fr_sp_X10_worth F R a0 a1).2 k (by simp [mr_X10_worth] <;> omega))
theorem an3_thingIs (h : URel3 z F R G S) (hz : jv 0 3584 z) (a0 a1 : Int32) : sp_X10_thingIs F R a0 a1 = sp_X11_thingIs G S a0 a1 := an2_thingIs h.1 a0 a1
theorem an3_count (h : URel3 z F R G S) (hz : jv 0 3584 z) (a0 : Int32) : sp_X10_count F R a0 = sp_X11_count G S a0 := an2_count h.1 a0
end UBC
