/-! ===== any evening without the seed: both the same ===== -/
def UPl (F : Nat → Int32) (R : Nat → Nat → Int32) (G : Nat → Int32) (S : Nat → Nat → Int32) (T : Nat) : Prop := T ≤ 60 ∧ F 241 = nI T ∧ G 44 = nI T ∧ ∀ k, k < T → R 16 k = S 25 k ∧ jv 0 40 (S 25 k)
/-- the relation as far as evenings ask for it; the told pull, if b -/
def UTb (F : Nat → Int32) (R : Nat → Nat → Int32) (G : Nat → Int32) (S : Nat → Nat → Int32) : Prop := F 16 = G 0 ∧ F 17 = G 1 ∧ F 18 = G 2 ∧ True ∧ F 19 = G 4 ∧ jv 0 1023 (F 19) ∧ (∀ j, j < 10 → hb (F 19) (nI j) → ∀ s, s < 8 → R 2 (8 * j + s) = S (1 + s) j) ∧ True ∧ True
def URn (G : Nat → Int32) (S : Nat → Nat → Int32) : Prop := True ∧ True ∧ (∀ j, j < 10 → hb (G 4) (nI j) → jv 1 40 (S 3 j) ∧ jv 1 99 (S 5 j) ∧ 0 ≤ (S 7 j).toInt) ∧ True
def UR0 (b : Prop) (F : Nat → Int32) (R : Nat → Nat → Int32) (G : Nat → Int32) (S : Nat → Nat → Int32) : Prop := UTb F R G S ∧ ULaw F R G S ∧ (b → UPull F R G S) ∧ URn G S
def cF0 (k : Nat) : Prop := cF k ∧ k ≠ 145
def cG0 (k : Nat) : Prop := cG k ∧ k ≠ 14
def cR0 (c : Nat) : Prop := cR c ∧ c ≠ 10
def cS0 (c : Nat) : Prop := cS c ∧ c ≠ 9
theorem ur0_of {b : Prop} {F G : Nat → Int32} {R S : Nat → Nat → Int32} (h : URel F R G S) : UR0 b F R G S := ⟨⟨h.1.1, h.1.2.1, h.1.2.2.1, trivial, h.1.2.2.2.2.1, h.1.2.2.2.2.2.1, h.1.2.2.2.2.2.2.1, trivial, trivial⟩, h.2.2.1, fun _ => h.2.2.2.1, ⟨trivial, trivial, h.2.2.2.2.2.2.1, trivial⟩⟩
theorem UR0_e {b : Prop} {F F' G G' : Nat → Int32} {R R' S S' : Nat → Nat → Int32} (h : UR0 b F R G S) (f : ∀ k, cF0 k → F' k = F k) (g : ∀ k, cG0 k → G' k = G k) (r : ∀ c, cR0 c → R' c = R c) (s : ∀ c, cS0 c → S' c = S c) : UR0 b F' R' G' S' := by
  obtain ⟨⟨h1, h2, h3, _, h5, h6, h7, _⟩, i2, i3, ⟨_, _, i4, _⟩⟩ := h
  have f16 := f 16 (by unfold cF0 cF; omega)
  have f17 := f 17 (by unfold cF0 cF; omega)
  have f18 := f 18 (by unfold cF0 cF; omega)
  have f19 := f 19 (by unfold cF0 cF; omega)
  have g0 := g 0 (by unfold cG0 cG; omega)
  have g1 := g 1 (by unfold cG0 cG; omega)
  have g2 := g 2 (by unfold cG0 cG; omega)
  have g4 := g 4 (by unfold cG0 cG; omega)
  refine ⟨⟨by rw [f16, g0]; exact h1, by rw [f17, g1]; exact h2, by rw [f18, g2]; exact h3, trivial, by rw [f19, g4]; exact h5, by rw [f19]; exact h6, fun j hj ht q hq => ?_, trivial, trivial⟩, ULaw_e i2 (f 274 (by unfold cF0 cF; omega)) (f 278 (by unfold cF0 cF; omega)) (g 28 (by unfold cG0 cG; omega)) (fun c c1 c2 => r c (by unfold cR0 cR; omega)) (fun c c1 c2 => s c (by unfold cS0 cS; omega)), fun z => UPull_e (i3 z) (f 177 (by unfold cF0 cF; omega)) (g 19 (by unfold cG0 cG; omega)) (r 12 (by unfold cR0 cR; omega)) (s 10 (by unfold cS0 cS; omega)), ⟨trivial, trivial, fun j hj ht => ?_, trivial⟩⟩
  · rw [f19] at ht
    rw [r 2 (by unfold cR0 cR; omega), s (1 + q) (by unfold cS0 cS; omega)]
    exact h7 j hj ht q hq
  · rw [g4] at ht
    rw [s 3 (by unfold cS0 cS; omega), s 5 (by unfold cS0 cS; omega), s 7 (by unfold cS0 cS; omega)]
    exact i4 j hj ht
section UEW
variable {b : Prop} {F G GL : Nat → Int32} {R S SL : Nat → Nat → Int32}
theorem UPl_e {F' G' : Nat → Int32} {R' S' : Nat → Nat → Int32} {T : Nat} (h : UPl F R G S T) (f : F' 241 = F 241) (g : G' 44 = G 44) (r : R' 16 = R 16) (s : S' 25 = S 25) : UPl F' R' G' S' T := by
  unfold UPl
  rw [f, g, r, s]
  exact h
theorem ubeg_mk (h : UR0 b F R G S) (e83 : F 83 = GL 42) (j83 : jv 0 1023 (F 83)) (sub : ∀ j, j < 10 → hb (F 83) (nI j) → hb (F 19) (nI j)) (e80 : F 80 = F 16) (e81 : F 81 = F 17) (e82 : F 82 = GL 43) (g : ∀ k, cG0 k → k ≠ 3 → GL k = G k) {T : Nat} (hp : UPl F R GL SL T) (r6 : ∀ j s, j < 10 → s < 8 → s ≠ 1 → s ≠ 5 → R 6 (8 * j + s) = R 2 (8 * j + s)) (r61 : ∀ j, j < 10 → hb (F 83) (nI j) → R 6 (8 * j + 1) = SL 26 j ∧ R 6 (8 * j + 5) = SL 30 j) (s : ∀ c, cS0 c → SL c = S c) (hh : UHand F GL) : UBeg F R GL SL := by
  obtain ⟨h1, h3, h4, h5⟩ := h
  obtain ⟨t1, t2, t3, t4, t5, t6, t7, t8, t9⟩ := h1
  obtain ⟨q1, q2, q3, q4⟩ := h5
  obtain ⟨l1, l2, l3, l4⟩ := hp
  have k0 := g 0 (by unfold cG0 cG; omega) (by omega)
  have k1 := g 1 (by unfold cG0 cG; omega) (by omega)
  have k28 := g 28 (by unfold cG0 cG; omega) (by omega)
  refine ⟨e83, j83, by rw [e80, k0]; exact t1, by rw [e81, k1]; exact t2, e82, by rw [l2, l3], by rw [l2]; exact ⟨by rw [nI_toInt (by omega)]; omega, by rw [nI_toInt (by omega)]; omega⟩, fun k hk hk2 => ?_, fun j hj ht => ?_, ULaw_e h3 rfl rfl k28 (fun _ _ _ => rfl) (fun c c1 c2 => s c (by unfold cS0 cS; omega)), hh⟩
  · rw [l2] at hk2
    exact l4 k ((nI_ltI (by omega) (by omega)).mp hk2)
  · have hs := sub j hj ht
    have x := t7 j hj hs
    have y := q3 j hj (by rw [← t5]; exact hs)
    obtain ⟨z1, z2⟩ := r61 j hj ht
    have a0 := r6 j 0 hj (by omega) (by omega) (by omega)
    have a2 := r6 j 2 hj (by omega) (by omega) (by omega)
    have a3 := r6 j 3 hj (by omega) (by omega) (by omega)
    have a4 := r6 j 4 hj (by omega) (by omega) (by omega)
    have a6 := r6 j 6 hj (by omega) (by omega) (by omega)
    rw [s 1 (by unfold cS0 cS; omega), s 3 (by unfold cS0 cS; omega), s 4 (by unfold cS0 cS; omega), s 5 (by unfold cS0 cS; omega), s 7 (by unfold cS0 cS; omega)]
    exact ⟨a0.trans (x 0 (by omega)), z1, a2.trans (x 2 (by omega)), a3.trans (x 3 (by omega)), a4.trans (x 4 (by omega)), z2, a6.trans (x 6 (by omega)), y.1, y.2.1, y.2.2⟩
def UOut (F : Nat → Int32) (R : Nat → Nat → Int32) (G : Nat → Int32) (S : Nat → Nat → Int32) (r : Nat) (w : Int32) : Prop := (∃ e, UEnd e (F, R) (G, S)) ∧ r ≤ 10 ∧ sp_X4_standing F R = nI r ∧ sp_X4_inches F R = w ∧ (∀ G' S', sp_X11_bits G' S' (sp_X11_standing G S) = nI r) ∧ sp_X11_inchesAll G S = w ∧ sp_X4_standingSet F R = sp_X11_standing G S
theorem eve_rel (h : UR0 b F R G S) (hB : UBeg F R GL SL) (g : ∀ k, cG0 k → GL k = G k) (s : ∀ c, cS0 c → SL c = S c) (h51 : GL 51 = 0) : ∃ F' R' G' S' r w, sp_X0_run F R = (F', R') ∧ sp_X11_runs GL SL = (G', S') ∧ UOut F' R' G' S' r w ∧ UR0 b F' R' G' S' ∧ F' 691 = F 83 ∧ g_fr md_X0_run F F' ∧ g_fr mr_X0_run R R' ∧ g_fr md_X11_runs GL G' ∧ g_fr mr_X11_runs SL S' := by
  obtain ⟨e, r1, r2, r3⟩ := run_rel hB
  have frC := fr_sp_X0_run F R
  have frM := fr_sp_X11_runs GL SL
  have kt := kt_sp_X11_runs GL GL SL rfl h51
  have led := run_led F R
  have g3 : (sp_X11_runs GL SL).1 3 = G 3 := kt.1.trans (g 3 (by unfold cG0 cG; omega))
  generalize sp_X0_run F R = P at *
  generalize sp_X11_runs GL SL = Q at *
  obtain ⟨FP, RP⟩ := P
  obtain ⟨GQ, SQ⟩ := Q
  dsimp only at led g3 ⊢
  obtain ⟨u1, u2, u3, u4, u5, u6⟩ := id r2
  have e42 : FP 691 = GQ 42 := u1.1.1
  have hst := fun G' S' => stand_eq u1 FP RP G' S' rfl rfl rfl
  refine ⟨FP, RP, GQ, SQ, cbt (sp_X11_standing GQ SQ) 10, _, rfl, rfl, ⟨⟨e, r2⟩, cbt_le _ _, ?_, rfl, fun G' S' => by rw [um_bits, bits_cb], ?_, (set_eq u1).1⟩, UR0_e h (fun k hk => frC.1 k (by unfold cF0 cF at hk; simp [md_X0_run] <;> omega)) (fun k hk => ?_) (fun c hc => frC.2 c (by unfold cR0 cR at hc; simp [mr_X0_run] <;> omega)) (fun c hc => ?_), led.2, frC.1, frC.2, frM.1, frM.2⟩
  · rw [hst GQ SQ, um_bits, bits_cb]
  · exact (inch_eq FP e42 (by rw [led.2]; exact led.1) u6).symm
  · by_cases k3 : k = 3
    · rw [k3]; exact g3
    · have : GQ k = GL k := frM.1 k (by unfold cG0 cG at hk; simp [md_X11_runs] <;> omega)
      rw [this]
      exact g k hk
  · have : SQ c = SL c := frM.2 c (by unfold cS0 cS at hc; simp [mr_X11_runs] <;> omega)
    rw [this]
    exact s c hc
theorem all_eq {F' : Nat → Int32} {R' : Nat → Nat → Int32} {x : Int32} (h : sp_X4_standingSet F R = x) : sp_X4_allStand F R = if x = F 691 then 1 else 0 := by
  unfold sp_X4_allStand K_X4_allStand_16
  rw [k_e, h]
/-! even paces -/
theorem till_loop {P W M : Nat} (hP : 1 ≤ P ∧ P ≤ 40) (hM : M = (W + P - 1) / P) (hW : W ≤ 1000) : ∀ d y, y + d = M → ∀ (n l T : Nat) (F : Nat → Int32) (R : Nat → Nat → Int32) (G : Nat → Int32) (S : Nat → Nat → Int32) (x : Int32), d < n → d < l → x.toInt = (W : Int) - (y * P : Nat) → UPl F R G S T → ∃ F' R' G' S' T', K_X5_add_15_2 (nI P) (nI M) n F R (nI y) = (F', R') ∧ K_X11_laysPaces_2 (nI P) l G S x = (G', S') ∧ UPl F' R' G' S' T' ∧ (∀ k, k ≠ 241 → F' k = F k) ∧ (∀ c, c ≠ 16 → R' c = R c) ∧ (∀ k, k ≠ 44 → G' k = G k) ∧ (∀ c, c ≠ 25 → S' c = S c) := by
  have hMb : M ≤ 1000 := by
    have : (W + P - 1) / P ≤ (W + P - 1) / 1 := Nat.div_le_div_left hP.1 (by omega)
    rw [Nat.div_one] at this
    by_cases q : P = 1
    · subst q
      rw [Nat.div_one] at hM
      omega
    · have : (W + P - 1) / P ≤ (W + P - 1) / 2 := Nat.div_le_div_left (by omega) (by omega)
      omega
  have hlo : ∀ y, y < M → y * P < W := by
    intro y hy
    have h1 : (y + 1) * P ≤ W + P - 1 := by
      have h2 : (y + 1) * P ≤ M * P := Nat.mul_le_mul_right P hy
      have h3 : M * P ≤ W + P - 1 := by rw [hM]; exact Nat.div_mul_le_self _ _
      omega
    rw [Nat.add_mul, Nat.one_mul] at h1
    omega
  have hhi : W ≤ M * P := by
    have h1 := Nat.div_add_mod (W + P - 1) P
    have h2 := Nat.mod_lt (W + P - 1) (show P > 0 by omega)
    rw [← hM, Nat.mul_comm] at h1
    omega
  intro d
  induction d with
  | zero =>
    intro y hy n l T F R G S x hn hl hx hp
    obtain ⟨n, rfl⟩ : ∃ n', n = n' + 1 := ⟨n - 1, by omega⟩
    obtain ⟨l, rfl⟩ : ∃ n', l = n' + 1 := ⟨l - 1, by omega⟩
    obtain rfl : y = M := hy
    have hx0 : x ≤ 0 := by
      rw [Int32.le_iff_toInt_le, hx]
      have : (0 : Int32).toInt = 0 := by decide
      omega
    refine ⟨F, R, G, S, T, ?_, ?_, hp, fun _ _ => rfl, fun _ _ => rfl, fun _ _ => rfl, fun _ _ => rfl⟩
    · rw [ks_X5_add_15_2]
      unfold KB_X5_add_15_2 K_X5_add_15_42
      rw [if_pos (nI_le (Nat.le_refl _) (by omega))]
    · rw [ks_X11_laysPaces_2]
      unfold KB_X11_laysPaces_2 K_X11_laysPaces_42
      rw [if_pos hx0]
  | succ d ih =>
    intro y hy n l T F R G S x hn hl hx hp
    obtain ⟨n, rfl⟩ : ∃ n', n = n' + 1 := ⟨n - 1, by omega⟩
    obtain ⟨l, rfl⟩ : ∃ n', l = n' + 1 := ⟨l - 1, by omega⟩
    have hyM : y < M := by omega
    have hyw := hlo y hyM
    have hx0 : ¬ x ≤ 0 := by
      rw [Int32.le_iff_toInt_le, hx]
      have : (0 : Int32).toInt = 0 := by decide
      omega
    obtain ⟨p1, p2, p3, p4⟩ := hp
    rw [ks_X5_add_15_2, ks_X11_laysPaces_2]
    unfold KB_X5_add_15_2 K_X5_add_15_42 KB_X11_laysPaces_2 K_X11_laysPaces_42
    rw [if_neg (nI_ge hyM (by omega)), if_neg hx0, p2, p3]
    by_cases q : 60 ≤ T
    · rw [if_pos (show (60 : Int32) ≤ nI T from nI_le (a := 60) q (by omega)), if_pos (show (60 : Int32) ≤ nI T from nI_le (a := 60) q (by omega))]
      exact ⟨F, R, G, S, T, rfl, rfl, ⟨p1, p2, p3, p4⟩, fun _ _ => rfl, fun _ _ => rfl, fun _ _ => rfl, fun _ _ => rfl⟩
    · rw [if_neg (show ¬ (60 : Int32) ≤ nI T from nI_ge (b := 60) (by omega) (by omega)), if_neg (show ¬ (60 : Int32) ≤ nI T from nI_ge (b := 60) (by omega) (by omega))]
      simp only [k_e]
      rw [nI_clamp (by omega), nI_1, nI_1]
      have hx' : (x - nI P).toInt = (W : Int) - ((y + 1) * P : Nat) := by
        have e : (nI P).toInt = (P : Int) := nI_toInt (by omega)
        have s := jv_sub (x := x) (y := nI P) (z := x - nI P) (-100) 1000 rfl (a := 1) (b := 1000) ⟨by rw [hx]; omega, by rw [hx]; omega⟩ (c := 1) (d := 40) ⟨by rw [e]; omega, by rw [e]; omega⟩ (by decide)
        have s1 := g_eq0 s.1
        rw [s1, hx, e, Nat.add_mul, Nat.one_mul]
        omega
      obtain ⟨F', R', G', S', T', a1, a2, a3, a4, a5, a6, a7⟩ := ih (y + 1) (by omega) n l (T + 1) (upd F 241 (nI (T + 1))) (g_u R 16 (upd (R 16) T (nI P))) (upd G 44 (nI (T + 1))) (g_u S 25 (upd (S 25) T (nI P))) (x - nI P) (by omega) (by omega) hx' ⟨by omega, by rw [uu, if_pos rfl], by rw [uu, if_pos rfl], fun k hk => by
        rw [g_uus, g_uus, uu, uu]
        by_cases z : k = T
        · rw [if_pos z, if_pos z]
          exact ⟨rfl, by rw [nI_toInt (by omega)]; omega, by rw [nI_toInt (by omega)]; omega⟩
        · rw [if_neg z, if_neg z]
          exact p4 k (by omega)⟩
      exact ⟨F', R', G', S', T', a1, a2, a3, fun k hk => by rw [a4 k hk, uu, if_neg hk], fun c hc => by rw [a5 c hc, ug, if_neg hc], fun k hk => by rw [a6 k hk, uu, if_neg hk], fun c hc => by rw [a7 c hc, ug, if_neg hc]⟩
/-- so many ticks of a pace as the way needs, both -/
theorem till_rel {P T : Nat} (hP : 1 ≤ P ∧ P ≤ 40) {way : Int32} (hw : way.toInt ≤ 1000) (hp : UPl F R G S T) : ∃ F' R' G' S' T', sp_X5_addTill_15 F R (nI P) way = (F', R') ∧ sp_X11_laysPaces G S (nI P) way = (G', S') ∧ UPl F' R' G' S' T' ∧ (∀ k, k ≠ 241 → F' k = F k) ∧ (∀ c, c ≠ 16 → R' c = R c) ∧ (∀ k, k ≠ 44 → G' k = G k) ∧ (∀ c, c ≠ 25 → S' c = S c) := by
  have nP : ¬ nI P ≤ 0 := nI_nle (by omega) (by omega)
  have z0 : (0 : Int32).toInt = 0 := by decide
  by_cases q : way ≤ 0
  · refine ⟨F, R, G, S, T, ?_, ?_, hp, fun _ _ => rfl, fun _ _ => rfl, fun _ _ => rfl, fun _ _ => rfl⟩
    · unfold sp_X5_addTill_15 K_X5_addTill_15_20
      rw [if_neg nP, if_pos q]
    · unfold sp_X11_laysPaces
      rw [show (8589934592 : Nat) = 8589934591 + 1 from rfl, ks_X11_laysPaces_2]
      unfold KB_X11_laysPaces_2 K_X11_laysPaces_42
      rw [if_pos q]
  · have hq := gc_nle q
    rw [z0] at hq
    obtain ⟨W, hW1, hW2, hW3, hW4⟩ := jv_n (x := way) (a := 1) (b := 1000) ⟨by omega, hw⟩ (by omega)
    have hWb : W ≤ 1000 := by omega
    obtain ⟨F', R', G', S', T', a1, a2, a3⟩ := till_loop hP (M := (W + P - 1) / P) rfl hWb ((W + P - 1) / P) 0 (Nat.zero_add _) 8589934592 8589934592 T F R G S way (by
      have : (W + P - 1) / P ≤ W + P - 1 := Nat.div_le_self _ _
      omega) (by
      have : (W + P - 1) / P ≤ W + P - 1 := Nat.div_le_self _ _
      omega) (by rw [← hW2]; omega) hp
    refine ⟨F', R', G', S', T', ?_, a2, a3⟩
    have e1 : nI W + nI P - 1 = nI (W + P - 1) := by
      rw [nI_add, show (1 : Int32) = nI 1 from rfl, pk_sub (by omega)]
    have e2 : nI (W + P - 1) / nI P = nI ((W + P - 1) / P) := pk_div (by omega) (by omega) (by omega)
    have a1 : sp_X5_add_15 F R (nI P) (nI ((W + P - 1) / P)) = (F', R') := a1
    unfold sp_X5_addTill_15 K_X5_addTill_15_20
    rw [if_neg nP, if_neg q, hW1]
    simp only [k_e]
    rw [e1, e2, a1, k_t2]
end UEW
