/-! ===== the best of two paces ===== -/
section UBP
variable {F G : Nat → Int32} {R S : Nat → Nat → Int32}
theorem fill_rel {b17 : (Nat → Int32) → (Nat → Nat → Int32) → Int32 → Int32 × (Nat → Int32) × (Nat → Nat → Int32)} {G0 : Nat → Int32} {c p k q : Nat} (hp : p ≤ 40) (hk : k ≤ 60) (hc : c < 100000) (hq : q = c / 6 % 12 + 1) : ∀ d y, y + d = k → ∀ (n l : Nat) (F : Nat → Int32) (R : Nat → Nat → Int32) (G : Nat → Int32) (S : Nat → Nat → Int32), d < n → d < l → UPl F R G S y → ∃ F' R' G' S', K_X5_add_15_2 (nI p) (nI k) n F R (nI y) = (F', R') ∧ K_X11_best_47 b17 G0 (nI p) (nI k) (nI c) l G S (nI y) = k_lt2 (sp_X11_laysPaces G' S' (nI q) (G0 1 - nI (p * k))) (fun F83 R84 => k_lt2 (sp_X11_laysThings F83 R84) (fun F91 R92 => k_lt2 (sp_X11_runs F91 R92) (fun F98 R99 => k_lt2 (sp_X11_better F98 R99 (nI c)) (fun F107 R108 => b17 F107 R108 (nI (c + 1)))))) ∧ UPl F' R' G' S' k ∧ (∀ k, k ≠ 241 → F' k = F k) ∧ (∀ c, c ≠ 16 → R' c = R c) ∧ (∀ k, k ≠ 44 → G' k = G k) ∧ (∀ c, c ≠ 25 → S' c = S c) := by
  intro d
  induction d with
  | zero =>
    intro y hy n l F R G S hn hl hu
    obtain ⟨n, rfl⟩ : ∃ n', n = n' + 1 := ⟨n - 1, by omega⟩
    obtain ⟨l, rfl⟩ : ∃ n', l = n' + 1 := ⟨l - 1, by omega⟩
    obtain rfl : y = k := hy
    refine ⟨F, R, G, S, ?_, ?_, hu, fun _ _ => rfl, fun _ _ => rfl, fun _ _ => rfl, fun _ _ => rfl⟩
    · rw [ks_X5_add_15_2]
      unfold KB_X5_add_15_2 K_X5_add_15_42
      rw [if_pos (nI_le (Nat.le_refl _) (by omega))]
    · have e1 : nI c / 6 = nI (c / 6) := pk_div (a := c) (d := 6) (by omega) (by omega) (by omega)
      have e2 : nI (c / 6) - nI (c / 6) / 12 * 12 = nI (c / 6 % 12) := pk_rem (a := c / 6) (d := 12) (by omega) (by omega) (by omega)
      rw [ks_X11_best_47]
      unfold KB_X11_best_47
      rw [if_pos (nI_le (Nat.le_refl _) (by omega))]
      simp only [k_e]
      rw [e1, e2, nI_1, ← hq, pk_mul, nI_1]
  | succ d ih =>
    intro y hy n l F R G S hn hl hu
    obtain ⟨n, rfl⟩ : ∃ n', n = n' + 1 := ⟨n - 1, by omega⟩
    obtain ⟨l, rfl⟩ : ∃ n', l = n' + 1 := ⟨l - 1, by omega⟩
    obtain ⟨u1, u2, u3, u4⟩ := hu
    obtain ⟨F', R', G', S', a1, a2, a3, a4, a5, a6, a7⟩ := ih (y + 1) (by omega) n l (upd F 241 (nI (y + 1))) (g_u R 16 (upd (R 16) y (nI p))) (upd G 44 (nI (y + 1))) (g_u S 25 (upd (S 25) y (nI p))) (by omega) (by omega) ⟨by omega, by rw [uu, if_pos rfl], by rw [uu, if_pos rfl], fun i hi => by
      rw [g_uus, g_uus, uu, uu]
      by_cases z : i = y
      · rw [if_pos z, if_pos z]
        exact ⟨rfl, by rw [nI_toInt (by omega)]; omega, by rw [nI_toInt (by omega)]; omega⟩
      · rw [if_neg z, if_neg z]
        exact u4 i (by omega)⟩
    refine ⟨F', R', G', S', ?_, ?_, a3, fun k hk => by rw [a4 k hk, uu, if_neg hk], fun c hc => by rw [a5 c hc, ug, if_neg hc], fun k hk => by rw [a6 k hk, uu, if_neg hk], fun c hc => by rw [a7 c hc, ug, if_neg hc]⟩
    · rw [ks_X5_add_15_2]
      unfold KB_X5_add_15_2
      rw [if_neg (nI_ge (by omega) (by omega)), u2, if_neg (show ¬ (60 : Int32) ≤ nI y from nI_ge (b := 60) (by omega) (by omega))]
      simp only [k_e]
      rw [nI_clamp (by omega), nI_1]
      exact a1
    · rw [ks_X11_best_47]
      unfold KB_X11_best_47
      rw [if_neg (nI_ge (by omega) (by omega)), u3]
      simp only [k_e]
      rw [nI_clamp (by omega), nI_1]
      exact a2
/-- one pull of two paces -/
theorem best_step (h : UR0 False F R G S) (hl : ULt F R) (hb1 : jv 0 200 (F 17)) {b17 : (Nat → Int32) → (Nat → Nat → Int32) → Int32 → Int32 × (Nat → Int32) × (Nat → Nat → Int32)} {G0 : Nat → Int32} {P Q K : Nat} (hP : P < 12) (hQ : Q < 12) (hK : K < 6) (e81 : G0 1 = F 17) : ∃ Fa Ra Fb Rb F' R' G' S' r w, sp_X5_add_15 (upd F 241 0) R (nI (P + 1)) (nI (K + 1)) = (Fa, Ra) ∧ sp_X5_addTill_15 Fa Ra (nI (Q + 1)) (F 17 - nI ((P + 1) * (K + 1))) = (Fb, Rb) ∧ sp_X0_run Fb Rb = (F', R') ∧ K_X11_best_47 b17 G0 (nI (P + 1)) (nI (K + 1)) (nI (72 * P + 6 * Q + K)) 8589934592 (upd G 44 0) S 0 = k_lt2 (sp_X11_better G' S' (nI (72 * P + 6 * Q + K))) (fun F107 R108 => b17 F107 R108 (nI (72 * P + 6 * Q + K + 1))) ∧ UOut F' R' G' S' r w ∧ UR0 False F' R' G' S' ∧ ULt F' R' ∧ (∀ k, cfF k → F' k = F k) ∧ (∀ c, cfR c → R' c = R c) ∧ (∀ k, cfG k → G' k = G k) ∧ (∀ c, cfS c → S' c = S c) := by
  have hm : (P + 1) * (K + 1) ≤ 72 := by
    have : (P + 1) * (K + 1) ≤ 12 * 6 := Nat.mul_le_mul (by omega) (by omega)
    omega
  obtain ⟨Fa, Ra, Ga, Sa, a1, a2, a3, a4, a5, a6, a7⟩ := fill_rel (b17 := b17) (G0 := G0) (c := 72 * P + 6 * Q + K) (p := P + 1) (k := K + 1) (q := Q + 1) (by omega) (by omega) (by omega) (by omega) (K + 1) 0 (Nat.zero_add _) 8589934592 8589934592 (upd F 241 0) R (upd G 44 0) S (by omega) (by omega) ⟨Nat.zero_le _, by rw [uu, if_pos rfl]; rfl, by rw [uu, if_pos rfl]; rfl, fun k hk => absurd hk (Nat.not_lt_zero _)⟩
  have a1 : sp_X5_add_15 (upd F 241 0) R (nI (P + 1)) (nI (K + 1)) = (Fa, Ra) := a1
  have a2 : K_X11_best_47 b17 G0 (nI (P + 1)) (nI (K + 1)) (nI (72 * P + 6 * Q + K)) 8589934592 (upd G 44 0) S 0 = _ := a2
  have hw : (F 17 - nI ((P + 1) * (K + 1))).toInt ≤ 1000 := by
    have e : (nI ((P + 1) * (K + 1))).toInt = (((P + 1) * (K + 1) : Nat) : Int) := nI_toInt (by omega)
    have s := jv_sub (x := F 17) (y := nI ((P + 1) * (K + 1))) (z := F 17 - nI ((P + 1) * (K + 1))) (-100) 200 rfl hb1 (c := 0) (d := 100) ⟨by rw [e]; omega, by rw [e]; omega⟩ (by decide)
    have := s.2.2
    omega
  obtain ⟨Fb, Rb, Gb, Sb, T, b1, b2, b3, b4, b5, b6, b7⟩ := till_rel (P := Q + 1) (by omega) hw a3
  obtain ⟨Sc, c1, c2, c3⟩ := m_lt Gb Sb
  have gb : ∀ k, k ≠ 44 → Gb k = G k := fun k hk => by rw [b6 k hk, a6 k hk, uu, if_neg hk]
  have sb : ∀ c, c ≠ 25 → Sb c = S c := fun c hc => by rw [b7 c hc, a7 c hc]
  have gc : ∀ k, k ≠ 42 → k ≠ 43 → k ≠ 49 → k ≠ 51 → (upd (upd (upd (upd Gb 42 (Gb 4)) 43 (Gb 2)) 51 0) 49 0) k = Gb k := fun k k1 k2 k3 k4 => by
    rw [uu, if_neg k3, uu, if_neg k4, uu, if_neg k2, uu, if_neg k1]
  generalize hGc : upd (upd (upd (upd Gb 42 (Gb 4)) 43 (Gb 2)) 51 0) 49 0 = Gc at *
  have g42 : Gc 42 = Gb 4 := by rw [← hGc]; simp (decide := true) only [uu, if_true, if_false]
  have g43 : Gc 43 = Gb 2 := by rw [← hGc]; simp (decide := true) only [uu, if_true, if_false]
  have g51 : Gc 51 = 0 := by rw [← hGc]; simp (decide := true) only [uu, if_true, if_false]
  have g49 : Gc 49 = 0 := by rw [← hGc]; simp (decide := true) only [uu, if_true]
  obtain ⟨F', R', G', S', r, w, d1, d2, d3, d4, d5, d6, d7, d8, d9, d10⟩ := laid_step h hl (UPl_e (F' := Fb) (R' := Rb) (G' := Gc) (S' := Sc) b3 rfl (gc 44 (by omega) (by omega) (by omega) (by omega)) rfl (c3 25 (by omega) (by omega))) (fun k hk => by rw [b4 k hk, a4 k hk, uu, if_neg hk]) (fun c hc => by rw [b5 c hc, a5 c hc]) (fun k k1 k2 k3 k4 k5 => by rw [gc k k1 k2 k4 k5]; exact gb k k3) (fun c x1 x2 x3 => by rw [c3 c x2 x3]; exact sb c x1) (by rw [g42]; exact gb 4 (by omega)) (by rw [g43]; exact gb 2 (by omega)) g49 g51 (fun j hj => by rw [(c2 j hj).1, (c2 j hj).2, sb 2 (by omega), sb 6 (by omega)]; exact ⟨rfl, rfl⟩)
  refine ⟨Fa, Ra, Fb, Rb, F', R', G', S', r, w, a1, b1, d1, ?_, d3, d4, d5, d7, d8, d9, d10⟩
  rw [a2, e81, b2, k_t2, c1, k_t2, d2, k_t2]
/-- what is known of the best so far -/
def UBi (F : Nat → Int32) (R : Nat → Nat → Int32) (G : Nat → Int32) (b : Bool) : Prop := F 564 = G 70 ∧ (b = false ∧ G 70 = -1 ∨ ¬ G 70 = -1 ∧ F 565 = G 71 ∧ ∃ c, c < 864 ∧ G 72 = nI c ∧ R 36 0 = nI (c / 72 + 1) ∧ R 36 1 = nI (c / 6 % 12 + 1) ∧ R 36 2 = nI (c % 6 + 1))
def cfF3 (k : Nat) : Prop := cfF k ∧ k ≠ 564 ∧ k ≠ 565
def cfR3 (c : Nat) : Prop := cfR c ∧ c ≠ 36
/-- all that goes on from pull to pull -/
def UBj (F0 : Nat → Int32) (R0 : Nat → Nat → Int32) (F : Nat → Int32) (R : Nat → Nat → Int32) (G : Nat → Int32) (S : Nat → Nat → Int32) (b : Bool) : Prop := UR0 False F R G S ∧ ULt F R ∧ UBi F R G b ∧ (∀ k, cfF3 k → F k = F0 k) ∧ ∀ c, cfR3 c → R c = R0 c
theorem best_k {F0 G0 Fo : Nat → Int32} {R0 : Nat → Nat → Int32} {a0 : Int32} (hb0 : jv 0 200 (F0 17)) (eo : Fo 81 = F0 17) (eg : G0 1 = F0 17) {P Q : Nat} (hP : P < 12) (hQ : Q < 12) {b54 : (Nat → Int32) → (Nat → Nat → Int32) → Int32 → (Nat → Int32) × (Nat → Nat → Int32)} : ∀ d K, K + d = 6 → ∀ (n l : Nat) (F : Nat → Int32) (R : Nat → Nat → Int32) (G : Nat → Int32) (S : Nat → Nat → Int32) (b : Bool), d < n → UBj F0 R0 F R G S b → ∃ F' R' G' S' b', K_X7_bestPull_63 b54 Fo (nI (P + 1)) (nI (Q + 1)) n F R (nI (K + 1)) = b54 F' R' (nI (Q + 1 + 1)) ∧ K_X11_best_17 G0 a0 (l + d) G S (nI (72 * P + 6 * Q + K)) = K_X11_best_17 G0 a0 l G' S' (nI (72 * P + 6 * (Q + 1))) ∧ UBj F0 R0 F' R' G' S' b' ∧ (b = true → b' = true) ∧ (0 < d → b' = true) := by
  intro d
  induction d with
  | zero =>
    intro K hK n l F R G S b hn hj
    obtain ⟨n, rfl⟩ : ∃ n', n = n' + 1 := ⟨n - 1, by omega⟩
    obtain rfl : K = 6 := hK
    refine ⟨F, R, G, S, b, ?_, by rw [show 72 * P + 6 * (Q + 1) = 72 * P + 6 * Q + 6 by omega, Nat.add_zero], hj, id, fun z => absurd z (Nat.lt_irrefl _)⟩
    rw [ks_X7_bestPull_63]
    unfold KB_X7_bestPull_63
    rw [if_pos (show (6 : Int32) < nI (6 + 1) from nI_lt (a := 6) (by omega) (by omega)), k_e, nI_1]
  | succ d ih =>
    intro K hK n l F R G S b hn hj
    obtain ⟨n, rfl⟩ : ∃ n', n = n' + 1 := ⟨n - 1, by omega⟩
    obtain ⟨hU, hL, ⟨i1, i2⟩, fF, fR⟩ := hj
    have f17 : F 17 = F0 17 := fF 17 (by unfold cfF3 cfF; omega)
    obtain ⟨Fa, Ra, Fb, Rb, F', R', G', S', r, w, c1, c2, c3, c4, c5, c6, c7, c8, c9, c10, c11⟩ := best_step (b17 := K_X11_best_17 G0 a0 (l + d)) (G0 := G0) hU hL (by rw [f17]; exact hb0) hP hQ (show K < 6 by omega) (by rw [f17]; exact eg)
    obtain ⟨_, r10, st, iw, stM, iM, _⟩ := c5
    have f564 : F' 564 = F 564 := c8 564 (by unfold cfF; omega)
    have f565 : F' 565 = F 565 := c8 565 (by unfold cfF; omega)
    have g70 : G' 70 = G 70 := c10 70 (by unfold cfG; omega)
    have g71 : G' 71 = G 71 := c10 71 (by unfold cfG; omega)
    have g72 : G' 72 = G 72 := c10 72 (by unfold cfG; omega)
    have r36 : R' 36 = R 36 := c9 36 (by unfold cfR; omega)
    have eC : K_X7_bestPull_63 b54 Fo (nI (P + 1)) (nI (Q + 1)) (n + 1) F R (nI (K + 1)) = k_lt3 (sp_X7_improves F' R') (fun r71 F75 R76 => if r71 = 0 then K_X7_bestPull_144 (K_X7_bestPull_63 b54 Fo (nI (P + 1)) (nI (Q + 1)) n) F75 (nI (K + 1)) R76 else k_lt (g_u R76 36 (upd (R76 36) 0 (nI (P + 1)))) (fun R86 => k_lt (g_u R86 36 (upd (R86 36) 1 (nI (Q + 1)))) (fun R88 => k_lt (g_u R88 36 (upd (R88 36) 2 (nI (K + 1)))) (fun R90 => K_X7_bestPull_144 (K_X7_bestPull_63 b54 Fo (nI (P + 1)) (nI (Q + 1)) n) F75 (nI (K + 1)) R90)))) := by
      rw [ks_X7_bestPull_63]
      unfold KB_X7_bestPull_63
      rw [if_neg (show ¬ (6 : Int32) < nI (K + 1) from nI_nlt (a := 6) (b := K + 1) (by omega) (by omega)), k_e, c1, k_t2, k_e, k_e, pk_mul, eo, ← f17, c2, k_t2, c3, k_t2]
    have eM : K_X11_best_17 G0 a0 (l + (d + 1)) G S (nI (72 * P + 6 * Q + K)) = k_lt2 (sp_X11_better G' S' (nI (72 * P + 6 * Q + K))) (fun F107 R108 => K_X11_best_17 G0 a0 (l + d) F107 R108 (nI (72 * P + 6 * Q + K + 1))) := by
      have e1 : nI (72 * P + 6 * Q + K) / 72 = nI P := by
        rw [show (72 : Int32) = nI 72 from rfl, pk_div (by omega) (by omega) (by omega), show (72 * P + 6 * Q + K) / 72 = P by omega]
      have e2 : nI (72 * P + 6 * Q + K) - nI (72 * P + 6 * Q + K) / 6 * 6 = nI K := by
        rw [show (6 : Int32) = nI 6 from rfl, pk_rem (by omega) (by omega) (by omega), show (72 * P + 6 * Q + K) % 6 = K by omega]
      rw [show l + (d + 1) = l + d + 1 by omega, ks_X11_best_17]
      unfold KB_X11_best_17
      rw [if_neg (show ¬ (864 : Int32) ≤ nI (72 * P + 6 * Q + K) from nI_ge (b := 864) (by omega) (by omega))]
      simp only [k_e]
      rw [e1, e2, nI_1, nI_1]
      exact c4
    have hut : utake (nI r) w (F 564) (F 565) = utake (nI r) w (G 70) (G 71) := utake_eq r10 i1 (i2.elim (fun z => Or.inl z.2) (fun z => Or.inr z.2.1))
    rw [eC, eM, c_improves, m_better, st, iw, stM, iM, f564, f565, g70, g71, hut]
    have fF' : ∀ k, cfF3 k → F' k = F0 k := fun k hk => (c8 k hk.1).trans (fF k hk)
    have fR' : ∀ c, cfR3 c → R' c = R0 c := fun c hc => (c9 c hc.1).trans (fR c hc)
    by_cases tk : utake (nI r) w (G 70) (G 71) = true
    · rw [if_pos tk, if_pos tk, k_t3, if_neg (by decide), k_t2]
      simp only [k_e]
      unfold K_X7_bestPull_144
      rw [k_e, nI_1]
      obtain ⟨Rn, hRn⟩ : ∃ Rn, Rn = g_u (g_u (g_u R' 36 (upd (R' 36) 0 (nI (P + 1)))) 36 (upd ((g_u R' 36 (upd (R' 36) 0 (nI (P + 1)))) 36) 1 (nI (Q + 1)))) 36 (upd ((g_u (g_u R' 36 (upd (R' 36) 0 (nI (P + 1)))) 36 (upd ((g_u R' 36 (upd (R' 36) 0 (nI (P + 1)))) 36) 1 (nI (Q + 1)))) 36) 2 (nI (K + 1))) := ⟨_, rfl⟩
      rw [← hRn]
      have q0 : Rn 36 0 = nI (P + 1) := by rw [hRn]; simp (decide := true) only [g_uus, uu, if_true, if_false]
      have q1 : Rn 36 1 = nI (Q + 1) := by rw [hRn]; simp (decide := true) only [g_uus, uu, if_true, if_false]
      have q2 : Rn 36 2 = nI (K + 1) := by rw [hRn]; simp (decide := true) only [g_uus, uu, if_true]
      have qc : ∀ c, c ≠ 36 → Rn c = R' c := fun c hc => by rw [hRn, ug, if_neg hc, ug, if_neg hc, ug, if_neg hc]
      have hu2 : UR0 False (upd (upd F' 564 (nI r)) 565 w) Rn (upd (upd (upd G' 70 (nI r)) 71 w) 72 (nI (72 * P + 6 * Q + K))) S' := UR0_e c6 (fun k hk => by rw [uu, if_neg (by unfold cF0 cF at hk; omega), uu, if_neg (by unfold cF0 cF at hk; omega)]) (fun k hk => by rw [uu, if_neg (by unfold cG0 cG at hk; omega), uu, if_neg (by unfold cG0 cG at hk; omega), uu, if_neg (by unfold cG0 cG at hk; omega)]) (fun c hc => qc c (by unfold cR0 cR at hc; omega)) (fun _ _ => rfl)
      have hl2 : ULt (upd (upd F' 564 (nI r)) 565 w) Rn := by
        obtain ⟨z1, z2, z3, z4, z5, z6, z7⟩ := c7
        unfold ULt
        rw [qc 6 (by omega), qc 2 (by omega)]
        simp (decide := true) only [uu, if_false]
        exact ⟨z1, z2, z3, z4, z5, z6, z7⟩
      have n70 : ¬ nI r = -1 := n_m1 (by omega)
      have hbi : UBi (upd (upd F' 564 (nI r)) 565 w) Rn (upd (upd (upd G' 70 (nI r)) 71 w) 72 (nI (72 * P + 6 * Q + K))) true := by
        refine ⟨by rw [uu, if_neg (by decide), uu, if_pos rfl, uu, if_neg (by decide), uu, if_neg (by decide), uu, if_pos rfl], Or.inr ⟨by rw [uu, if_neg (by decide), uu, if_neg (by decide), uu, if_pos rfl]; exact n70, by rw [uu, if_pos rfl, uu, if_neg (by decide), uu, if_pos rfl], 72 * P + 6 * Q + K, by omega, by rw [uu, if_pos rfl], ?_, ?_, ?_⟩⟩
        · rw [q0, show (72 * P + 6 * Q + K) / 72 = P by omega]
        · rw [q1, show (72 * P + 6 * Q + K) / 6 % 12 = Q by omega]
        · rw [q2, show (72 * P + 6 * Q + K) % 6 = K by omega]
      obtain ⟨F2, R2, G2, S2, b2, x1, x2, x3, x4, x5⟩ := ih (K + 1) (by omega) n l _ _ _ _ true (by omega) ⟨hu2, hl2, hbi, fun k hk => by rw [uu, if_neg hk.2.2, uu, if_neg hk.2.1]; exact fF' k hk, fun c hc => by rw [qc c hc.2]; exact fR' c hc⟩
      exact ⟨F2, R2, G2, S2, b2, x1, x2, x3, fun _ => x4 rfl, fun _ => x4 rfl⟩
    · have n70 : ¬ G 70 = -1 := by
        intro z
        apply tk
        unfold utake
        rw [z]
        have h1 : ¬ nI r < -1 := by
          intro y
          have y := gc_lt y
          rw [nI_toInt (by omega)] at y
          have : (-1 : Int32).toInt = -1 := by decide
          omega
        have h2 : ¬ nI r = -1 := n_m1 (by omega)
        simp [h1, h2]
      have i2 := i2.resolve_left (fun z => n70 z.2)
      rw [if_neg tk, if_neg tk, k_t3, if_pos rfl, k_t2]
      unfold K_X7_bestPull_144
      rw [k_e, nI_1]
      obtain ⟨F2, R2, G2, S2, b2, x1, x2, x3, x4, x5⟩ := ih (K + 1) (by omega) n l F' R' G' S' true (by omega) ⟨c6, c7, ⟨by rw [f564, g70]; exact i1, Or.inr ⟨by rw [g70]; exact n70, by rw [f565, g71]; exact i2.2.1, by rw [g72, r36]; exact i2.2.2⟩⟩, fF', fR'⟩
      exact ⟨F2, R2, G2, S2, b2, x1, x2, x3, fun _ => x4 rfl, fun _ => x4 rfl⟩
theorem best_q {F0 G0 Fo : Nat → Int32} {R0 : Nat → Nat → Int32} {a0 : Int32} (hb0 : jv 0 200 (F0 17)) (eo : Fo 81 = F0 17) (eg : G0 1 = F0 17) {P : Nat} (hP : P < 12) {b46 : (Nat → Int32) → (Nat → Nat → Int32) → Int32 → (Nat → Int32) × (Nat → Nat → Int32)} : ∀ d Q, Q + d = 12 → ∀ (n l : Nat) (F : Nat → Int32) (R : Nat → Nat → Int32) (G : Nat → Int32) (S : Nat → Nat → Int32) (b : Bool), d < n → UBj F0 R0 F R G S b → ∃ F' R' G' S' b', K_X7_bestPull_54 b46 Fo (nI (P + 1)) n F R (nI (Q + 1)) = b46 F' R' (nI (P + 1 + 1)) ∧ K_X11_best_17 G0 a0 (l + 6 * d) G S (nI (72 * P + 6 * Q)) = K_X11_best_17 G0 a0 l G' S' (nI (72 * (P + 1))) ∧ UBj F0 R0 F' R' G' S' b' ∧ (b = true → b' = true) ∧ (0 < d → b' = true) := by
  intro d
  induction d with
  | zero =>
    intro Q hQ n l F R G S b hn hj
    obtain ⟨n, rfl⟩ : ∃ n', n = n' + 1 := ⟨n - 1, by omega⟩
    obtain rfl : Q = 12 := hQ
    refine ⟨F, R, G, S, b, ?_, by rw [show 72 * (P + 1) = 72 * P + 6 * 12 by omega, Nat.mul_zero, Nat.add_zero], hj, id, fun z => absurd z (Nat.lt_irrefl _)⟩
    rw [ks_X7_bestPull_54]
    unfold KB_X7_bestPull_54
    rw [if_pos (show (12 : Int32) < nI (12 + 1) from nI_lt (a := 12) (by omega) (by omega)), k_e, nI_1]
  | succ d ih =>
    intro Q hQ n l F R G S b hn hj
    obtain ⟨n, rfl⟩ : ∃ n', n = n' + 1 := ⟨n - 1, by omega⟩
    obtain ⟨F', R', G', S', b', x1, x2, x3, x4, x5⟩ := best_k (a0 := a0) hb0 eo eg hP (show Q < 12 by omega) (b54 := K_X7_bestPull_54 b46 Fo (nI (P + 1)) n) 6 0 (by omega) 8589934592 (l + 6 * d) F R G S b (by omega) hj
    have x1 : K_X7_bestPull_63 (K_X7_bestPull_54 b46 Fo (nI (P + 1)) n) Fo (nI (P + 1)) (nI (Q + 1)) 8589934592 F R 1 = K_X7_bestPull_54 b46 Fo (nI (P + 1)) n F' R' (nI (Q + 1 + 1)) := x1
    obtain ⟨F2, R2, G2, S2, b2, y1, y2, y3, y4, y5⟩ := ih (Q + 1) (by omega) n l F' R' G' S' b' (by omega) x3
    refine ⟨F2, R2, G2, S2, b2, ?_, ?_, y3, fun z => y4 (x4 z), fun _ => y4 (x5 (by omega))⟩
    · rw [ks_X7_bestPull_54]
      unfold KB_X7_bestPull_54
      rw [if_neg (show ¬ (12 : Int32) < nI (Q + 1) from nI_nlt (a := 12) (b := Q + 1) (by omega) (by omega)), x1]
      exact y1
    · rw [show 72 * P + 6 * Q + 0 = 72 * P + 6 * Q from rfl] at x2
      rw [show l + 6 * (d + 1) = l + 6 * d + 6 by omega, x2]
      exact y2
theorem best_p {F0 G0 Fo : Nat → Int32} {R0 : Nat → Nat → Int32} {w : Nat} (hw : w ≤ 4) (hb0 : jv 0 200 (F0 17)) (eo : Fo 81 = F0 17) (eg : G0 1 = F0 17) : ∀ d P, P + d = 12 → ∀ (n l : Nat) (F : Nat → Int32) (R : Nat → Nat → Int32) (G : Nat → Int32) (S : Nat → Nat → Int32) (b : Bool), d < n → UBj F0 R0 F R G S b → (d = 0 → b = true) → ∃ F' R', K_X7_bestPull_46 Fo n F R (nI (P + 1)) = (F', R') ∧ (K_X11_best_17 G0 (nI w) (l + 1 + 72 * d) G S (nI (72 * P))).1 = R' 36 w ∧ (∀ k, cfF3 k → F' k = F0 k) ∧ ∀ c, cfR3 c → R' c = R0 c := by
  intro d
  induction d with
  | zero =>
    intro P hP n l F R G S b hn hj hb1
    obtain ⟨n, rfl⟩ : ∃ n', n = n' + 1 := ⟨n - 1, by omega⟩
    obtain rfl : P = 12 := hP
    obtain ⟨hU, hL, ⟨i1, i2⟩, fF, fR⟩ := hj
    have i2 := i2.resolve_left (fun z => by have := hb1 rfl; rw [z.1] at this; cases this)
    obtain ⟨n70, i3, c, c1, c2, c3, c4, c5⟩ := i2
    refine ⟨F, g_u (g_u R 36 (upd (R 36) 3 (F 564))) 36 (upd ((g_u R 36 (upd (R 36) 3 (F 564))) 36) 4 (F 565)), ?_, ?_, fF, fun c hc => by rw [ug, if_neg hc.2, ug, if_neg hc.2]; exact fR c hc⟩
    · rw [ks_X7_bestPull_46]
      unfold KB_X7_bestPull_46
      rw [if_pos (show (12 : Int32) < nI (12 + 1) from nI_lt (a := 12) (by omega) (by omega))]
      simp only [k_e]
    · have e1 : nI c / 72 = nI (c / 72) := pk_div (a := c) (d := 72) (by omega) (by omega) (by omega)
      have e2 : nI c / 6 = nI (c / 6) := pk_div (a := c) (d := 6) (by omega) (by omega) (by omega)
      have e3 : nI (c / 6) - nI (c / 6) / 12 * 12 = nI (c / 6 % 12) := pk_rem (a := c / 6) (d := 12) (by omega) (by omega) (by omega)
      have e4 : nI c - nI (c / 6) * 6 = nI (c % 6) := by
        rw [← e2]
        exact pk_rem (a := c) (d := 6) (by omega) (by omega) (by omega)
      have ti : (nI w).toInt = (w : Int) := nI_toInt (by omega)
      rw [Nat.mul_zero, Nat.add_zero, ks_X11_best_17]
      unfold KB_X11_best_17
      rw [if_pos (show (864 : Int32) ≤ nI (72 * 12) from nI_le (a := 864) (by omega) (by omega))]
      simp only [k_e]
      rw [c2, e1, e2, e3, e4, nI_1, nI_1, nI_1]
      simp only [ti, g_uus, uu]
      have : w = 0 ∨ w = 1 ∨ w = 2 ∨ w = 3 ∨ w = 4 := by omega
      rcases this with rfl | rfl | rfl | rfl | rfl
      · simp (decide := true) only [if_true, if_false]; exact c3.symm
      · simp (decide := true) only [if_true, if_false]; exact c4.symm
      · simp (decide := true) only [if_true, if_false]; exact c5.symm
      · simp (decide := true) only [if_true, if_false]; exact i1.symm
      · simp (decide := true) only [if_true, if_false]; exact i3.symm
  | succ d ih =>
    intro P hP n l F R G S b hn hj hb1
    obtain ⟨n, rfl⟩ : ∃ n', n = n' + 1 := ⟨n - 1, by omega⟩
    obtain ⟨F', R', G', S', b', x1, x2, x3, x4, x5⟩ := best_q (a0 := nI w) hb0 eo eg (show P < 12 by omega) (b46 := K_X7_bestPull_46 Fo n) 12 0 (by omega) 8589934592 (l + 1 + 72 * d) F R G S b (by omega) hj
    have x1 : K_X7_bestPull_54 (K_X7_bestPull_46 Fo n) Fo (nI (P + 1)) 8589934592 F R 1 = K_X7_bestPull_46 Fo n F' R' (nI (P + 1 + 1)) := x1
    obtain ⟨F2, R2, y1, y2, y3⟩ := ih (P + 1) (by omega) n l F' R' G' S' b' (by omega) x3 (fun _ => x5 (by omega))
    refine ⟨F2, R2, ?_, ?_, y3⟩
    · rw [ks_X7_bestPull_46]
      unfold KB_X7_bestPull_46
      rw [if_neg (show ¬ (12 : Int32) < nI (P + 1) from nI_nlt (a := 12) (b := P + 1) (by omega) (by omega)), x1]
      exact y1
    · rw [show 72 * P + 6 * 0 = 72 * P by omega, show l + 1 + 72 * d + 6 * 12 = l + 1 + 72 * (d + 1) by omega] at x2
      rw [x2]
      exact y2
/-- the best pull, reckoned by the class and by the reference -/
theorem best_all (h : UR0 False F R G S) (hl : ULt F R) (hb1 : jv 0 200 (F 17)) {Fo G0 : Nat → Int32} (eo : Fo 81 = F 81) (eg : G0 1 = F 17) (f564 : F 564 = -1) (g70 : G 70 = -1) {w : Nat} (hw : w ≤ 4) : ∃ F' R', K_X7_bestPull_46 Fo 8589934592 F R 1 = (F', R') ∧ (K_X11_best_17 G0 (nI w) 8589934592 G S 0).1 = R' 36 w ∧ (∀ k, cfF3 k → F' k = F k) ∧ ∀ c, cfR3 c → R' c = R c := by
  obtain ⟨F', R', x1, x2, x3⟩ := best_p (F0 := F) (R0 := R) hw hb1 (eo.trans hl.2.1) eg 12 0 (by omega) 8589934592 8589933727 F R G S false (by omega) ⟨h, hl, ⟨f564.trans g70.symm, Or.inl ⟨rfl, g70⟩⟩, fun _ _ => rfl, fun _ _ => rfl⟩ (fun z => absurd z (by omega))
  have x1 : K_X7_bestPull_46 Fo 8589934592 F R 1 = (F', R') := x1
  have x2 : (K_X11_best_17 G0 (nI w) 8589934592 G S 0).1 = R' 36 w := x2
  exact ⟨F', R', x1, x2, x3⟩
end UBP
