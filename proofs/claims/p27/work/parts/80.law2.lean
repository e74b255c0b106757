/-! ===== law: what both hold then ===== -/
theorem m_cp2 {F31 F38 : Nat → Int32} {q : Nat} (h27 : F31 27 = nI q) (hq : q ≤ 14) : ∀ d y, y + d = q → ∀ (n : Nat) (R : Nat → Nat → Int32), d < n → ∃ R', K_X11_law_138 F31 F38 n R (nI y) = (nI q, F38, R') ∧ (∀ c, c < 19 ∨ 22 < c → R' c = R c) ∧ (∀ k, k < y → R' 19 k = R 19 k ∧ R' 20 k = R 20 k ∧ R' 21 k = R 21 k ∧ R' 22 k = R 22 k) ∧ (∀ k, y ≤ k → k < q → R' 19 k = R 14 k ∧ R' 20 k = R 15 k ∧ R' 21 k = R 16 k ∧ R' 22 k = R 17 k) := by
  intro d
  induction d with
  | zero =>
    intro y hy n R hn
    obtain ⟨n, rfl⟩ : ∃ n', n = n' + 1 := ⟨n - 1, by omega⟩
    refine ⟨R, ?_, fun _ _ => rfl, fun _ _ => ⟨rfl, rfl, rfl, rfl⟩, fun k k1 k2 => by omega⟩
    rw [ks_X11_law_138]
    unfold KB_X11_law_138
    rw [h27, if_pos (nI_le (by omega) (by omega))]
  | succ d ih =>
    intro y hy n R hn
    obtain ⟨n, rfl⟩ : ∃ n', n = n' + 1 := ⟨n - 1, by omega⟩
    obtain ⟨R', a1, a2, a3, a4⟩ := ih (y + 1) (by omega) n (g_u (g_u (g_u (g_u R 19 (upd (R 19) y (R 14 y))) 20 (upd (R 20) y (R 15 y))) 21 (upd (R 21) y (R 16 y))) 22 (upd (R 22) y (R 17 y))) (by omega)
    refine ⟨R', ?_, fun c hc => ?_, fun k hk => ?_, fun k k1 k2 => ?_⟩
    · rw [ks_X11_law_138]
      unfold KB_X11_law_138
      rw [h27, if_neg (nI_ge (by omega) (by omega))]
      simp only [k_e]
      rw [nI_clamp (by omega), nI_1]
      have x1 : ∀ f : Nat → Int32, g_u R 19 f 15 = R 15 := fun f => by rw [ug, if_neg (by decide)]
      have x2 : ∀ f : Nat → Int32, g_u R 19 f 20 = R 20 := fun f => by rw [ug, if_neg (by decide)]
      have x3 : ∀ f g : Nat → Int32, g_u (g_u R 19 f) 20 g 16 = R 16 := fun f g => by rw [ug, if_neg (by decide), ug, if_neg (by decide)]
      have x4 : ∀ f g : Nat → Int32, g_u (g_u R 19 f) 20 g 21 = R 21 := fun f g => by rw [ug, if_neg (by decide), ug, if_neg (by decide)]
      have x5 : ∀ f g h : Nat → Int32, g_u (g_u (g_u R 19 f) 20 g) 21 h 17 = R 17 := fun f g h => by rw [ug, if_neg (by decide), ug, if_neg (by decide), ug, if_neg (by decide)]
      have x6 : ∀ f g h : Nat → Int32, g_u (g_u (g_u R 19 f) 20 g) 21 h 22 = R 22 := fun f g h => by rw [ug, if_neg (by decide), ug, if_neg (by decide), ug, if_neg (by decide)]
      rw [x1, x2, x3, x4, x5, x6]
      exact a1
    · rw [a2 c hc, ug, if_neg (by omega), ug, if_neg (by omega), ug, if_neg (by omega), ug, if_neg (by omega)]
    · obtain ⟨b1, b2, b3, b4⟩ := a3 k (by omega)
      rw [b1, b2, b3, b4]
      simp (decide := true) only [ug, if_true, if_false]
      rw [uu, uu, uu, uu, if_neg (by omega), if_neg (by omega), if_neg (by omega), if_neg (by omega)]
      exact ⟨rfl, rfl, rfl, rfl⟩
    · by_cases z : k = y
      · obtain ⟨b1, b2, b3, b4⟩ := a3 k (by omega)
        rw [b1, b2, b3, b4]
        simp (decide := true) only [ug, if_true, if_false]
        rw [uu, uu, uu, uu, if_pos z, if_pos z, if_pos z, if_pos z, z]
        exact ⟨rfl, rfl, rfl, rfl⟩
      · obtain ⟨b1, b2, b3, b4⟩ := a4 k (by omega) k2
        rw [b1, b2, b3, b4]
        simp (decide := true) only [ug, if_true, if_false]
        try exact ⟨rfl, rfl, rfl, rfl⟩
theorem m_cp1 {F31 F38 : Nat → Int32} {c : Nat} (h25 : F31 25 = nI c) (hc : c ≤ 220) : ∀ d y, y + d = c → ∀ (n : Nat) (R : Nat → Nat → Int32), d < n → ∃ R', K_X11_law_110 F31 F38 n R (nI y) = K_X11_law_138 F31 F38 8589934592 R' 0 ∧ (∀ z, z ≠ 18 → R' z = R z) ∧ (∀ k, k < y → R' 18 k = R 18 k) ∧ (∀ k, y ≤ k → k < c → R' 18 k = R 12 k) := by
  intro d
  induction d with
  | zero =>
    intro y hy n R hn
    obtain ⟨n, rfl⟩ : ∃ n', n = n' + 1 := ⟨n - 1, by omega⟩
    refine ⟨R, ?_, fun _ _ => rfl, fun _ _ => rfl, fun k k1 k2 => by omega⟩
    rw [ks_X11_law_110]
    unfold KB_X11_law_110
    rw [h25, if_pos (nI_le (by omega) (by omega))]
  | succ d ih =>
    intro y hy n R hn
    obtain ⟨n, rfl⟩ : ∃ n', n = n' + 1 := ⟨n - 1, by omega⟩
    obtain ⟨R', a1, a2, a3, a4⟩ := ih (y + 1) (by omega) n (g_u R 18 (upd (R 18) y (R 12 y))) (by omega)
    refine ⟨R', ?_, fun z hz => by rw [a2 z hz, ug, if_neg hz], fun k hk => ?_, fun k k1 k2 => ?_⟩
    · rw [ks_X11_law_110]
      unfold KB_X11_law_110
      rw [h25, if_neg (nI_ge (by omega) (by omega))]
      simp only [k_e]
      rw [nI_clamp (by omega), nI_1]
      exact a1
    · rw [a3 k (by omega), ug, if_pos rfl, uu, if_neg (by omega)]
    · by_cases z : k = y
      · rw [a3 k (by omega), ug, if_pos rfl, uu, if_pos z, z]
      · rw [a4 k (by omega) k2, ug, if_neg (by decide)]
theorem m_cp {F31 : Nat → Int32} {R : Nat → Nat → Int32} {q c : Nat} (h27 : F31 27 = nI q) (hq : q ≤ 14) (h25 : F31 25 = nI c) (hc : c ≤ 220) : ∃ R', K_X11_law_86 F31 R 1 = (nI q, upd (upd F31 14 0) 28 (nI q), R') ∧ (∀ z, z < 18 ∨ 22 < z → R' z = R z) ∧ (∀ k, k < c → R' 18 k = R 12 k) ∧ (∀ k, k < q → R' 19 k = R 14 k ∧ R' 20 k = R 15 k ∧ R' 21 k = R 16 k ∧ R' 22 k = R 17 k) := by
  obtain ⟨R1, a1, a2, a3, a4⟩ := m_cp1 (F38 := upd (upd F31 14 0) 28 (nI q)) h25 hc c 0 (by omega) 8589934592 R (by omega)
  obtain ⟨R2, b1, b2, b3, b4⟩ := m_cp2 (F38 := upd (upd F31 14 0) 28 (nI q)) h27 hq q 0 (by omega) 8589934592 R1 (by omega)
  refine ⟨R2, ?_, fun z hz => ?_, fun k hk => ?_, fun k hk => ?_⟩
  · unfold K_X11_law_86
    have n1 : ¬ (1 : Int32) = 0 := by decide
    rw [k_e, if_neg n1, k_e, h27]
    exact a1.trans b1
  · rw [b2 z (by omega), a2 z (by omega)]
  · rw [b2 18 (by omega), a4 k (by omega) hk]
  · obtain ⟨c1, c2, c3, c4⟩ := b4 k (by omega) hk
    rw [c1, c2, c3, c4, a2 14 (by omega), a2 15 (by omega), a2 16 (by omega), a2 17 (by omega)]
    exact ⟨rfl, rfl, rfl, rfl⟩
theorem cpy_k {f g : Nat → Int32} {n k : Nat} (hk : k < n) : va_cpy f g 0 0 n k = f k := by
  unfold va_cpy
  rw [if_pos ⟨by omega, by omega⟩, Nat.sub_zero, Nat.zero_add]
theorem cp25_r (F : Nat → Int32) (R : Nat → Nat → Int32) : (∀ k, k < 256 → (sp_X2_copy_17_r25 F R).2 18 k = R 26 k ∧ (sp_X2_copy_17_r25 F R).2 19 k = R 27 k) ∧ (∀ k, k < 14 → (sp_X2_copy_17_r25 F R).2 20 k = R 28 k ∧ (sp_X2_copy_17_r25 F R).2 21 k = R 29 k ∧ (sp_X2_copy_17_r25 F R).2 22 k = R 30 k) := by
  unfold sp_X2_copy_17_r25
  simp only [k_e]
  constructor
  · intro k hk
    simp (decide := true) only [ug, if_true, if_false]
    exact ⟨cpy_k hk, cpy_k hk⟩
  · intro k hk
    simp (decide := true) only [ug, if_true, if_false]
    exact ⟨cpy_k hk, cpy_k hk, cpy_k hk⟩
theorem law_rel {F G : Nat → Int32} {R S : Nat → Nat → Int32} (h : UTape F R G S) (hl : ULaw F R G S) (a : Int32) : (sp_X10_law F R a).1 = (sp_X11_law G S a).1 ∧ UTape (sp_X10_law F R a).2.1 (sp_X10_law F R a).2.2 (sp_X11_law G S a).2.1 (sp_X11_law G S a).2.2 ∧ ULaw (sp_X10_law F R a).2.1 (sp_X10_law F R a).2.2 (sp_X11_law G S a).2.1 (sp_X11_law G S a).2.2 := by
  have h' := h
  obtain ⟨t1, T, t2, t3, t4⟩ := h
  by_cases hin : g_in a 1 200 = 0
  · have e1 : sp_X10_law F R a = (-1, F, R) := by
      unfold sp_X10_law K_X10_law_22
      rw [k_e, if_pos hin]
    have e2 : sp_X11_law G S a = (-1, G, S) := by
      unfold sp_X11_law K_X11_law_19
      rw [k_e, if_pos hin]
    rw [e1, e2]
    exact ⟨rfl, h', hl⟩
  · obtain ⟨n, n1, n2, rfl⟩ := gin_n (a := a) (lo := 1) (hi := 200) (by omega) (by omega) hin
    by_cases hT : T < n
    · have e1 : sp_X10_law F R (nI n) = (-1, F, R) := by
        unfold sp_X10_law K_X10_law_22
        rw [k_e, if_neg hin, t3, if_neg (nI_ge hT (by omega))]
      have e2 : sp_X11_law G S (nI n) = (-1, G, S) := by
        unfold sp_X11_law K_X11_law_19
        rw [k_e, if_neg hin, ← t1, t3, if_neg (nI_ge hT (by omega))]
      rw [e1, e2]
      exact ⟨rfl, h', hl⟩
    · -- the text
      obtain ⟨u, hu0⟩ : ∃ u : Nat → Nat, u = fun k => if k < n then (R 10 k).toNatClampNeg else 256 := ⟨_, rfl⟩
      have hub : ∀ k, k < n → u k < 256 ∧ R 10 k = nI (u k) ∧ S 9 k &&& 255 = nI (u k) := by
        intro k hk
        obtain ⟨b, b1, b2, b3⟩ := t4 k (by omega)
        have e : u k = b := by
          rw [hu0]
          show (if k < n then (R 10 k).toNatClampNeg else 256) = b
          rw [if_pos hk, b2, nI_clamp (by omega)]
        rw [e]
        exact ⟨b1, b2, b3⟩
      have hu : HU u n := ⟨n2, fun k hk => (hub k hk).1, fun k hk => by rw [hu0]; show (if k < n then (R 10 k).toNatClampNeg else 256) = 256; rw [if_neg (by omega)]⟩
      -- both ahead of the first clause
      obtain ⟨F1, R1, a1, a2, a3, a4, a5, a6⟩ := c_text n2 n 0 (by omega) 8589934592 (upd F 530 0) R (by omega) (by rw [uu, if_pos rfl]; rfl)
      have er : sp_X3_read F R (nI n) = K_X3_read_50 F1 R1 := by
        unfold sp_X3_read
        rw [k_e]
        exact a1
      have e50 : K_X3_read_50 F1 R1 = K_X3_read_73 8589934592 (sp_X3_clause (upd (upd (upd (upd F1 531 0) 532 0) 402 0) 406 0) R1).1 (sp_X3_clause (upd (upd (upd (upd F1 531 0) 532 0) 402 0) 406 0) R1).2 0 := by
        unfold K_X3_read_50 sp_X2_clear_25
        simp only [k_e, k_e2]
      have hL : LSt u n (upd (upd (upd (upd F1 531 0) 532 0) 402 0) 406 0) R1 (upd (upd (upd (upd G 15 0) 16 (nI n)) 25 0) 27 0) S 0 0 0 0 := by
        refine ⟨⟨?_, ?_, ?_, Nat.le_refl _, Nat.zero_le _, ?_, fun k hk => ?_⟩, ?_, by omega, ⟨?_, ?_, ?_, fun k hk => (hub k hk).2.2, Nat.zero_le _, Nat.le_refl _⟩, ?_, fun k hk => absurd hk (by omega)⟩
        · simp (decide := true) only [uu, if_true, if_false]
        · simp (decide := true) only [uu, if_true, if_false]
        · simp (decide := true) only [uu, if_true, if_false]
        · simp (decide := true) only [uu, if_false]; exact a2
        · rw [a6 k (by omega) hk]; exact (hub k hk).2.1
        · rw [uu, if_pos rfl]; rfl
        · simp (decide := true) only [uu, if_true, if_false]
        · simp (decide := true) only [uu, if_true, if_false]
        · simp (decide := true) only [uu, if_true, if_false]
        · rw [uu, if_pos rfl]; rfl
      have eM : sp_X11_law G S (nI n) = k_lt3 (sp_X11_readsClause (upd (upd (upd (upd G 15 0) 16 (nI n)) 25 0) 27 0) S) (fun r22 F27 R28 => K_X11_law_46 8589934592 F27 R28 r22) := by
        unfold sp_X11_law
        rw [k_e, if_neg hin, ← t1, t3, if_pos (nI_le (by omega) (by omega))]
        simp only [k_e]
      have hfr : ∀ r G' S', sp_X11_readsClause (upd (upd (upd (upd G 15 0) 16 (nI n)) 25 0) 27 0) S = (r, G', S') → FrM G S G' S' := by
        intro r G' S' e
        have fr := fr_sp_X11_readsClause (upd (upd (upd (upd G 15 0) 16 (nI n)) 25 0) 27 0) S
        rw [e] at fr
        refine ⟨?_, fun c c1 c2 => ?_⟩
        · have x1 : G' 28 = upd (upd (upd (upd G 15 0) 16 (nI n)) 25 0) 27 0 28 := fr.1 28 rfl
          rw [x1]
          simp (decide := true) only [uu, if_false]
        · exact fr.2 c (by simp [mr_X11_readsClause]; omega)
      have hEnd : LEnd G S (sp_X3_read F R (nI n)) (sp_X11_law G S (nI n)) := by
        rw [er, e50, eM]
        rcases cl_rel hu hL with ⟨f, G', S', f1, f2, f3, f4⟩ | ⟨j, p', c', G', S', g1, g2, g3⟩
        · rw [f3, k_t3]
          exact l_fault (n := 8589934591) (m := 8589934591) (y := 0) f1 f2 f4 (hfr _ _ _ f3)
        · rw [g1, k_t3]
          exact l_loop hu 200 j (by omega) 8589934591 8589934591 p' c' (0 + 1) 0 _ _ _ _ (by omega) (by omega) (by omega) g3 (hfr _ _ _ g1)
      -- what is left of the class
      have frr := fr_sp_X3_read F R (nI n)
      obtain ⟨rr, Z⟩ := pair_ex (sp_X3_read F R (nI n))
      obtain ⟨FZ, eZ⟩ := Z
      obtain ⟨Fz, Rz, eP⟩ := pair_ex FZ
      rw [eP] at eZ
      rw [eZ] at hEnd frr
      have eX : sp_X10_law F R (nI n) = if rr = 0 then k_lt2 (sp_X2_copy_17_r25 (upd Fz 145 0) Rz) (fun F30 R31 => k_lt ((F 12) + 1) (fun x33 => k_lt (upd F30 12 x33) (fun F35 => (F30 278, F35, R31)))) else (rr, upd Fz 145 0, Rz) := by
        unfold sp_X10_law
        rw [k_e, if_neg hin, t3, if_pos (nI_le (by omega) (by omega)), eZ, k_t3, k_e]
      rcases hEnd with ⟨f, G', S', f1, f2, f3, f4, f5⟩ | ⟨q, p, c, G', S', f1, f2, f3, f4, f5, f6, f7, f8, f9, f10⟩
      · have f2 : rr = f := f2
        have e1 : sp_X10_law F R (nI n) = (f, upd Fz 145 0, Rz) := by
          rw [eX, f2, if_neg f1]
        have e2 : sp_X11_law G S (nI n) = (f, upd G' 14 0, S') := by
          rw [f3]
          unfold K_X11_law_86
          rw [k_e, if_pos rfl, f4]
        rw [e1, e2]
        dsimp only
        refine ⟨rfl, UTape_0 (by rw [uu, if_pos rfl]) (by rw [uu, if_pos rfl]), ULaw_e hl ?_ ?_ ?_ ?_ f5.2⟩
        · rw [uu, if_neg (by decide)]
          exact frr.1 274 rfl
        · rw [uu, if_neg (by decide)]
          exact frr.1 278 rfl
        · rw [uu, if_neg (by decide)]
          exact f5.1
        · intro c c1 c2
          exact frr.2 c (by simp [mr_X3_read]; omega)
      · have f1 : rr = 0 := f1
        dsimp only at f6 f7 f10
        obtain ⟨R', m1, m2, m3, m4⟩ := m_cp (R := S') f9 f3 f8 (by omega)
        have e2 : sp_X11_law G S (nI n) = (nI q, upd (upd G' 14 0) 28 (nI q), R') := f2.trans m1
        have y402 : upd Fz 145 0 402 = nI p := by rw [uu, if_neg (by decide)]; exact f6
        have y406 : upd Fz 145 0 406 = nI q := by rw [uu, if_neg (by decide)]; exact f7
        obtain ⟨F3, R3, eC⟩ := pair_ex (sp_X2_copy_17_r25 (upd Fz 145 0) Rz)
        have hF3 : F3 = upd (upd (upd Fz 145 0) 274 (nI p)) 278 (nI q) := by
          have : (sp_X2_copy_17_r25 (upd Fz 145 0) Rz).1 = upd (upd (upd Fz 145 0) 274 (nI p)) 278 (nI q) := by
            unfold sp_X2_copy_17_r25
            simp only [k_e]
            rw [y402, y406]
          rw [eC] at this
          exact this
        have hR3 := cp25_r (upd Fz 145 0) Rz
        rw [eC] at hR3
        dsimp only at hR3
        obtain ⟨hA, hB⟩ := hR3
        have e1 : sp_X10_law F R (nI n) = (nI q, upd F3 12 (F 12 + 1), R3) := by
          rw [eX, if_pos f1, eC, k_t2, k_e, k_e, hF3, uu, if_pos rfl]
        rw [e1, e2]
        dsimp only
        refine ⟨rfl, UTape_0 ?_ ?_, ?_⟩
        · show upd F3 12 _ 145 = 0
          rw [hF3]
          simp (decide := true) only [uu, if_true, if_false]
        · show upd (upd G' 14 0) 28 (nI q) 14 = 0
          simp (decide := true) only [uu, if_true, if_false]
        · have x274 : upd F3 12 (F 12 + 1) 274 = nI p := by
            rw [hF3]
            simp (decide := true) only [uu, if_true, if_false]
          have x278 : upd F3 12 (F 12 + 1) 278 = nI q := by
            rw [hF3]
            simp (decide := true) only [uu, if_true, if_false]
          unfold ULaw
          rw [x274, x278]
          refine ⟨by rw [uu, if_pos rfl], q, f3, rfl, fun k hk => ?_⟩
          obtain ⟨l, p1, p2, a0, L1, L2, c1, c2, c3, c4, c5, c6, c7, c8, d1, d2, d3, d4, d5, d6, d7, d8, d9, d10, d11⟩ := f10 k hk
          obtain ⟨k1, k2, k3, k4⟩ := m4 k hk
          have w1 := d10.1 0 (by omega)
          have w2 := o6_bok L1 false d10.2
          refine ⟨l, p1, p2, a0, L1.length, L2.length, c1, ?_, ?_, ?_, ?_, ?_, ?_, ?_, useg_of (L := L1) w1.1 w1.2 w2.1 (w2.2 rfl) ?_ ?_ (by omega) (by omega) ?_ ?_, useg_of (L := L2) d11.1 d11.2.1 d11.2.2.1 d11.2.2.2 ?_ ?_ (by omega) (by omega) ?_ ?_⟩
          · rw [(hB k (by omega)).1]; exact c2
          · rw [k1]; exact c3
          · rw [(hB k (by omega)).2.1]; exact c4
          · rw [(hB k (by omega)).2.2]; exact c5
          · rw [k2]; exact c6
          · rw [k3]; exact c7
          · rw [k4]; exact c8
          · exact CodeC_eq L1 p1 (fun z z1 z2 => hA z (by omega)) d4
          · exact CodeM_eq L1 a0 (fun z z1 z2 => m3 z (by omega)) d8
          · exact nI_ge d1 (by omega)
          · rw [(hA _ (by omega)).1]; exact d5
          · exact CodeC_eq L2 p2 (fun z z1 z2 => hA z (by omega)) d6
          · exact CodeM_eq L2 _ (fun z z1 z2 => m3 z (by omega)) d9
          · exact nI_ge d2 (by omega)
          · rw [(hA _ (by omega)).1]; exact d7
