/-! ===== the law's programs: class and reference come to the same ===== -/
def uo (o : Nat) : Nat := [1, 2, 6, 7, 8, 9, 10, 11, 12, 13, 3, 4, 5].getD o 0
/-- one code and its like; H: how high the stack is, B: its top is 0 or 1 -/
def UC (r18 r19 s18 : Nat → Int32) (H : Nat → Nat) (B : Nat → Bool) (p a L k : Nat) : Prop :=
  ∃ o v : Nat, o ≤ 12 ∧ v < 1048576 ∧ s18 (a + k) = nI (1048576 * o + v) ∧ r18 (p + k) = nI (uo o) ∧ (o ≤ 1 → r19 (p + k) = nI v ∧ H (k + 1) = H k + 1) ∧ (o = 1 → v < 12) ∧ (o = 10 → 1 ≤ H k ∧ H (k + 1) = H k) ∧ (2 ≤ o → o ≤ 9 → 2 ≤ H k ∧ H (k + 1) + 1 = H k) ∧
    (11 ≤ o → 1 ≤ H k ∧ H (k + 1) + 1 = H k ∧ ∃ T V : Nat, r19 (p + k) = nI (p + T) ∧ v = a + V ∧ k < V ∧ V ≤ T ∧ T ≤ L ∧ H T = H k ∧ H V = H k ∧ (V = T ∨ ∃ w : Nat, w < 1048576 ∧ s18 (a + V) = nI (1048576 * o + w) ∧ r18 (p + V) = nI (uo o) ∧ r19 (p + V) = nI (p + T))) ∧
    (10 ≤ o → B k = true) ∧ (B (k + 1) = true → 7 ≤ o ∧ o ≤ 10)
/-- a program of the class at p, the reference's from a to a + L; c: it comes to 0 or 1 -/
def USeg (r18 r19 : Nat → Int32) (sz : Int32) (s18 : Nat → Int32) (p a L : Nat) (c : Bool) : Prop :=
  ∃ (H : Nat → Nat) (B : Nat → Bool), H 0 = 0 ∧ H L = 1 ∧ B 0 = false ∧ B L = c ∧ (∀ k, k ≤ L → H k ≤ 30) ∧ p + L < 256 ∧ a + L ≤ 220 ∧ ¬ sz ≤ nI (p + L) ∧ r18 (p + L) = 0 ∧ ∀ k, k < L → UC r18 r19 s18 H B p a L k
section UEV
variable {F : Nat → Int32} {R : Nat → Nat → Int32} {n h p : Nat}
theorem rk_end (hp : p < 256) (hs : ¬ F 274 ≤ nI p) (ho : R 18 p = 0) : K_X2_reckon_17_4 F (n + 1) R (nI (h + 1)) (nI p) = (R 24 h, F, R) ∨ 30 < h := by
  by_cases hh : 30 < h
  · exact Or.inr hh
  left
  rw [ks_X2_reckon_17_4]
  unfold KB_X2_reckon_17_4
  simp only [k_e, nI_clamp (show p < 2 ^ 31 by omega)]
  rw [if_neg (nI_pos (by omega)), if_neg hs, if_pos ho]
  unfold K_X2_reckon_17_282 K_X2_reckon_17_298
  simp only [k_e]
  rw [if_neg (nI_nle (by omega) (by omega)), nI_pred, nI_clamp (by omega)]
theorem rk_num (hp : p < 256) (hh : h ≤ 30) (hs : ¬ F 274 ≤ nI p) (ho : R 18 p = nI (uo 0)) : K_X2_reckon_17_4 F (n + 1) R (nI h) (nI p) = K_X2_reckon_17_4 F n (g_u R 24 (upd (R 24) h (R 19 p))) (nI (h + 1)) (nI (p + 1)) := by
  have ho : R 18 p = 1 := ho
  rw [ks_X2_reckon_17_4]
  unfold KB_X2_reckon_17_4
  simp only [k_e, nI_clamp (show p < 2 ^ 31 by omega)]
  rw [if_neg (nI_pos (by omega)), if_neg hs, ho, if_neg (by decide), if_pos (by first | trivial | rfl)]
  unfold K_X2_reckon_17_60 K_X2_reckon_17_90 K_X2_reckon_17_276
  simp only [k_e]
  rw [if_pos (show nI h < 32 from nI_lt (a := h) (b := 32) (by omega) (by omega)), if_pos (by first | trivial | rfl), nI_clamp (by omega), nI_1, nI_1]
theorem rk_let {v : Nat} (hp : p < 256) (hh : h ≤ 30) (hs : ¬ F 274 ≤ nI p) (ho : R 18 p = nI (uo 1)) (hv : R 19 p = nI v) (hv2 : v < 12) : K_X2_reckon_17_4 F (n + 1) R (nI h) (nI p) = K_X2_reckon_17_4 F n (g_u R 24 (upd (R 24) h (R 23 v))) (nI (h + 1)) (nI (p + 1)) := by
  have ho : R 18 p = 2 := ho
  rw [ks_X2_reckon_17_4]
  unfold KB_X2_reckon_17_4
  simp only [k_e, nI_clamp (show p < 2 ^ 31 by omega)]
  rw [if_neg (nI_pos (by omega)), if_neg hs, ho, if_neg (by decide), if_neg (by decide), if_pos (by first | trivial | rfl)]
  unfold K_X2_reckon_17_60 K_X2_reckon_17_90 K_X2_reckon_17_276 sp_X2_toldOf_17 K_X2_toldOf_17_20
  simp only [k_e]
  rw [if_pos (show nI h < 32 from nI_lt (a := h) (b := 32) (by omega) (by omega)), if_neg (by decide), hv, if_neg (nI_pos (by omega)), if_neg (show ¬ (12 : Int32) ≤ nI v from nI_ge (a := v) (b := 12) hv2 (by omega)), nI_clamp (by omega), nI_clamp (by omega), nI_1, nI_1]
theorem rk_not (hp : p < 256) (hh : h ≤ 30) (hs : ¬ F 274 ≤ nI p) (ho : R 18 p = nI (uo 10)) : K_X2_reckon_17_4 F (n + 1) R (nI (h + 1)) (nI p) = K_X2_reckon_17_4 F n (g_u R 24 (upd (R 24) h (1 - R 24 h))) (nI (h + 1)) (nI (p + 1)) := by
  have ho : R 18 p = 3 := ho
  rw [ks_X2_reckon_17_4]
  unfold KB_X2_reckon_17_4
  simp only [k_e, nI_clamp (show p < 2 ^ 31 by omega)]
  rw [if_neg (nI_pos (by omega)), if_neg hs, ho, if_neg (by decide), if_neg (by decide), if_neg (by decide), if_pos (show (1 : Int32) ≤ nI (h + 1) from nI_le (a := 1) (b := h + 1) (by omega) (by omega)), if_pos (by first | trivial | rfl)]
  unfold K_X2_reckon_17_276
  simp only [k_e]
  rw [nI_pred, nI_clamp (by omega), nI_1]
/-- AND, OR: decided, or not -/
theorem rk_jmp {o T : Nat} (hp : p < 256) (hh : h ≤ 30) (hs : ¬ F 274 ≤ nI p) (h11 : o = 11 ∨ o = 12) (ho : R 18 p = nI (uo o)) (hT : R 19 p = nI T) (hT2 : p < T ∧ T ≤ 256) : K_X2_reckon_17_4 F (n + 1) R (nI (h + 1)) (nI p) = if (R 24 h = 0 ↔ o = 11) then K_X2_reckon_17_4 F n R (nI (h + 1)) (nI T) else K_X2_reckon_17_4 F n R (nI h) (nI (p + 1)) := by
  rw [ks_X2_reckon_17_4]
  have e1 : (if nI p < nI T - 1 then nI T - 1 else nI p) + 1 = nI T := by
    obtain ⟨t, rfl⟩ : ∃ t, T = t + 1 := ⟨T - 1, by omega⟩
    rw [nI_pred]
    by_cases q : p < t
    · rw [if_pos (nI_lt q (by omega)), nI_1]
    · rw [if_neg (nI_nlt (by omega) (by omega)), nI_1, show p = t from by omega]
  have hP1 : (1 : Int32) ≤ nI (h + 1) := nI_le (a := 1) (b := h + 1) (by omega) (by omega)
  unfold KB_X2_reckon_17_4
  simp only [k_e, nI_clamp (show p < 2 ^ 31 by omega)]
  rw [if_neg (nI_pos (by omega)), if_neg hs]
  rcases h11 with rfl | rfl
  · have ho : R 18 p = 4 := ho
    rw [ho, if_neg (by decide), if_neg (by decide), if_neg (by decide), if_pos hP1, if_neg (by decide), if_pos (by first | trivial | rfl)]
    unfold K_X2_reckon_17_143 K_X2_reckon_17_159 K_X2_reckon_17_170 K_X2_reckon_17_178 K_X2_reckon_17_197 K_X2_reckon_17_210 K_X2_reckon_17_276
    simp only [k_e, nI_pred, nI_clamp (show h < 2 ^ 31 by omega)]
    by_cases q : R 24 h = 0
    · rw [if_pos q, if_neg (by decide), if_pos (by first | trivial | rfl), if_neg (by decide), if_neg (by decide), hT, e1, if_pos (by simp [q])]
    · rw [if_neg q, if_neg (by decide), if_neg (by decide), if_pos (by first | trivial | rfl), if_pos (by first | trivial | rfl), nI_1, if_neg (by simp [q])]
  · have ho : R 18 p = 5 := ho
    rw [ho, if_neg (by decide), if_neg (by decide), if_neg (by decide), if_pos hP1, if_neg (by decide), if_neg (by decide), if_pos (by first | trivial | rfl)]
    unfold K_X2_reckon_17_143 K_X2_reckon_17_159 K_X2_reckon_17_170 K_X2_reckon_17_178 K_X2_reckon_17_197 K_X2_reckon_17_210 K_X2_reckon_17_276
    simp only [k_e, nI_pred, nI_clamp (show h < 2 ^ 31 by omega)]
    by_cases q : R 24 h = 0
    · rw [if_pos q, if_pos (by first | trivial | rfl), if_neg (by decide), if_pos (by first | trivial | rfl), if_pos (by first | trivial | rfl), nI_1, if_neg (by simp [q])]
    · rw [if_neg q, if_pos (by first | trivial | rfl), if_pos (by first | trivial | rfl), if_neg (by decide), if_neg (by decide), hT, e1, if_pos (by simp [q])]
/-- two numbers are joined, or it is refused -/
theorem rk_bin {o : Nat} (hp : p < 256) (hh : h ≤ 30) (hs : ¬ F 274 ≤ nI p) (h2 : 2 ≤ o ∧ o ≤ 9) (ho : R 18 p = nI (uo o)) : K_X2_reckon_17_4 F (n + 1) R (nI (h + 2)) (nI p) = if (o = 5 ∨ o = 6) ∧ R 24 (h + 1) = 0 then (0, F, R) else K_X2_reckon_17_4 F n (g_u R 24 (upd (R 24) h (sp_X2_join F R (nI (uo o)) (R 24 h) (R 24 (h + 1))))) (nI (h + 1)) (nI (p + 1)) := by
  rw [ks_X2_reckon_17_4]
  have hP1 : (1 : Int32) ≤ nI (h + 2) := nI_le (a := 1) (b := h + 2) (by omega) (by omega)
  have hP2 : ¬ nI (h + 2) < 2 := nI_nlt (a := h + 2) (b := 2) (by omega) (by omega)
  have e1 : nI (h + 2) - 1 = nI (h + 1) := nI_pred (h + 1)
  have e2 : nI (h + 2) + (-1) = nI (h + 1) := pk_m1 (h + 1)
  unfold KB_X2_reckon_17_4
  simp only [k_e, nI_clamp (show p < 2 ^ 31 by omega)]
  rw [if_neg (nI_pos (by omega)), if_neg hs, ho]
  unfold K_X2_reckon_17_246 K_X2_reckon_17_244 K_X2_reckon_17_276
  simp only [k_e, e1, e2, nI_pred, nI_clamp (show h < 2 ^ 31 by omega), nI_clamp (show h + 1 < 2 ^ 31 by omega), nI_1]
  obtain rfl | rfl | rfl | rfl | rfl | rfl | rfl | rfl : o = 2 ∨ o = 3 ∨ o = 4 ∨ o = 5 ∨ o = 6 ∨ o = 7 ∨ o = 8 ∨ o = 9 := by omega
  all_goals
    rw [if_neg (by decide), if_neg (by decide), if_neg (by decide), if_pos hP1, if_neg (by decide), if_neg (by decide), if_neg (by decide), if_neg hP2]
    by_cases q : R 24 (h + 1) = 0
    · rw [if_pos q]
      first
        | (rw [if_neg (by decide), if_neg (by decide), if_neg (by simp)])
        | (rw [if_pos (by decide), if_pos (by simp [q])])
        | (rw [if_neg (by decide), if_pos (by decide), if_pos (by simp [q])])
    · rw [if_neg q, if_neg (by simp [q])]
end UEV
section UCT
variable {F : Nat → Int32} {R : Nat → Nat → Int32} {n h k b : Nat}
theorem uc_dec {o v : Nat} (ho : o ≤ 12) (hv : v < 1048576) : nI (1048576 * o + v) / 1048576 = nI o ∧ nI (1048576 * o + v) - nI o * 1048576 = nI v := by
  have e1 : nI (1048576 * o + v) / nI 1048576 = nI ((1048576 * o + v) / 1048576) := pk_div (by omega) (by omega) (by omega)
  have e3 : (1048576 * o + v) / 1048576 = o := by omega
  have e4 : nI (1048576 * o + v) - nI (o * 1048576) = nI (1048576 * o + v - o * 1048576) := pk_sub (by omega)
  have e5 : nI o * nI 1048576 = nI (o * 1048576) := pk_mul _ _
  have e6 : 1048576 * o + v - o * 1048576 = v := by omega
  rw [e3] at e1
  rw [e6] at e4
  exact ⟨e1, by rw [← e4, ← e5]; rfl⟩
theorem ct_end (hb1 : b ≤ 220) : K_X11_comesTo_16 F (nI b) 0 (n + 1) R (nI h) (nI b) = (R 23 0, F, R) := by
  rw [ks_X11_comesTo_16]
  unfold KB_X11_comesTo_16
  rw [if_pos (nI_le (Nat.le_refl _) (by omega))]
  rfl
theorem ct_num {v : Nat} (hk : k < b) (hb1 : b ≤ 220) (hh : h ≤ 30) (hv : v < 1048576) (ho : R 18 k = nI (1048576 * 0 + v)) : K_X11_comesTo_16 F (nI b) 0 (n + 1) R (nI h) (nI k) = K_X11_comesTo_16 F (nI b) 0 n (g_u R 23 (upd (R 23) h (nI v))) (nI (h + 1)) (nI (k + 1)) := by
  rw [ks_X11_comesTo_16]
  obtain ⟨d1, d2⟩ := uc_dec (o := 0) (v := v) (by omega) hv
  unfold KB_X11_comesTo_16
  simp only [k_e, nI_clamp (show k < 2 ^ 31 by omega)]
  rw [if_neg (nI_ge hk (by omega)), ho, d1, d2, if_pos (by decide)]
  unfold K_X11_comesTo_85 K_X11_comesTo_230
  simp only [k_e]
  rw [nI_clamp (by omega), nI_1, nI_1]
theorem ct_let {v : Nat} (hk : k < b) (hb1 : b ≤ 220) (hh : h ≤ 30) (hv : v < 12) (ho : R 18 k = nI (1048576 * 1 + v)) : K_X11_comesTo_16 F (nI b) 0 (n + 1) R (nI h) (nI k) = K_X11_comesTo_16 F (nI b) 0 n (g_u R 23 (upd (R 23) h (R 24 v))) (nI (h + 1)) (nI (k + 1)) := by
  rw [ks_X11_comesTo_16]
  obtain ⟨d1, d2⟩ := uc_dec (o := 1) (v := v) (by omega) (by omega)
  unfold KB_X11_comesTo_16
  simp only [k_e, nI_clamp (show k < 2 ^ 31 by omega)]
  rw [if_neg (nI_ge hk (by omega)), ho, d1, d2, if_neg (by decide), if_pos (by decide)]
  unfold K_X11_comesTo_85a K_X11_comesTo_230
  simp only [k_e]
  rw [nI_clamp (by omega), nI_clamp (by omega), nI_1, nI_1]
theorem ct_not {v : Nat} (hk : k < b) (hb1 : b ≤ 220) (hh : h ≤ 30) (hv : v < 1048576) (ho : R 18 k = nI (1048576 * 10 + v)) : K_X11_comesTo_16 F (nI b) 0 (n + 1) R (nI (h + 1)) (nI k) = K_X11_comesTo_16 F (nI b) 0 n (g_u R 23 (upd (R 23) h (1 - R 23 h))) (nI (h + 1)) (nI (k + 1)) := by
  rw [ks_X11_comesTo_16]
  obtain ⟨d1, d2⟩ := uc_dec (o := 10) (v := v) (by omega) hv
  unfold KB_X11_comesTo_16
  simp only [k_e, nI_clamp (show k < 2 ^ 31 by omega)]
  rw [if_neg (nI_ge hk (by omega)), ho, d1, d2, if_neg (by decide), if_neg (by decide), if_pos (by decide)]
  unfold K_X11_comesTo_230
  rw [nI_pred, nI_clamp (by omega), nI_1]
theorem ct_jmp {o v : Nat} (hk : k < b) (hb1 : b ≤ 220) (hh : h ≤ 30) (hv : v < 1048576) (h11 : o = 11 ∨ o = 12) (ho : R 18 k = nI (1048576 * o + v)) : K_X11_comesTo_16 F (nI b) 0 (n + 1) R (nI (h + 1)) (nI k) = if R 23 h = (if o = 11 then 0 else 1) then K_X11_comesTo_16 F (nI b) 0 n R (nI (h + 1)) (nI v) else K_X11_comesTo_16 F (nI b) 0 n R (nI h) (nI (k + 1)) := by
  rw [ks_X11_comesTo_16]
  obtain ⟨d1, d2⟩ := uc_dec (o := o) (v := v) (by omega) hv
  have e0 : (0 : Int32) + nI v = nI v := by
    have := nI_add 0 v
    rw [Nat.zero_add] at this
    exact this
  unfold KB_X11_comesTo_16
  simp only [k_e, nI_clamp (show k < 2 ^ 31 by omega)]
  rw [if_neg (nI_ge hk (by omega)), ho, d1, d2]
  rcases h11 with rfl | rfl
  · rw [if_neg (by decide), if_neg (by decide), if_neg (by decide), if_pos (by decide)]
    unfold K_X11_comesTo_155 K_X11_comesTo_230
    simp only [k_e]
    rw [nI_pred, nI_clamp (by omega), nI_1, e0]
    rfl
  · rw [if_neg (by decide), if_neg (by decide), if_neg (by decide), if_neg (by decide), if_pos (by decide)]
    unfold K_X11_comesTo_155a K_X11_comesTo_230
    simp only [k_e]
    rw [nI_pred, nI_clamp (by omega), nI_1, e0]
    rfl
theorem ct_bin {o v : Nat} (hk : k < b) (hb1 : b ≤ 220) (hh : h ≤ 30) (hv : v < 1048576) (h2 : 2 ≤ o ∧ o ≤ 9) (ho : R 18 k = nI (1048576 * o + v)) : K_X11_comesTo_16 F (nI b) 0 (n + 1) R (nI (h + 2)) (nI k) = if (o = 5 ∨ o = 6) ∧ R 23 (h + 1) = 0 then (0, F, R) else K_X11_comesTo_16 F (nI b) 0 n (g_u R 23 (upd (R 23) h (sp_X11_reckon F R (nI o) (R 23 h) (R 23 (h + 1))))) (nI (h + 1)) (nI (k + 1)) := by
  rw [ks_X11_comesTo_16]
  obtain ⟨d1, d2⟩ := uc_dec (o := o) (v := v) (by omega) hv
  have e1 : nI (h + 2) - 1 = nI (h + 1) := nI_pred (h + 1)
  unfold KB_X11_comesTo_16
  simp only [k_e, nI_clamp (show k < 2 ^ 31 by omega)]
  rw [if_neg (nI_ge hk (by omega)), ho, d1]
  unfold K_X11_comesTo_230
  simp only [e1, nI_pred, nI_clamp (show h < 2 ^ 31 by omega), nI_clamp (show h + 1 < 2 ^ 31 by omega), nI_1]
  obtain rfl | rfl | rfl | rfl | rfl | rfl | rfl | rfl : o = 2 ∨ o = 3 ∨ o = 4 ∨ o = 5 ∨ o = 6 ∨ o = 7 ∨ o = 8 ∨ o = 9 := by omega
  all_goals
    rw [if_neg (by decide), if_neg (by decide), if_neg (by decide), if_neg (by decide), if_neg (by decide)]
    first
      | (rw [if_neg (by decide), if_neg (by decide), if_neg (by omega)])
      | (rw [if_pos (by decide)]
         by_cases q : R 23 (h + 1) = 0
         · rw [if_pos q, if_pos ⟨by omega, q⟩]
         · rw [if_neg q, if_neg (fun z => q z.2)])
      | (rw [if_neg (by decide), if_pos (by decide)]
         by_cases q : R 23 (h + 1) = 0
         · rw [if_pos q, if_pos ⟨by omega, q⟩]
         · rw [if_neg q, if_neg (fun z => q z.2)])
end UCT
theorem u_joinX {F : Nat → Int32} {R : Nat → Nat → Int32} (x y : Int32) : ∀ o : Nat, 2 ≤ o → o ≤ 9 → ¬ ((o = 5 ∨ o = 6) ∧ y = 0) → sp_X2_join F R (nI (uo o)) x y = [x + y, x - y, x * y, x / y, x - x / y * y, if y ≤ x then 0 else 1, if x ≤ y then 0 else 1, if x = y then 1 else 0].getD (o - 2) 0 := by
  intro o h1 h2 hy
  unfold sp_X2_join K_X2_join_67 K_X2_join_79 K_X2_join_90 K_X2_join_101 K_X2_join_112
  rw [k_e]
  obtain rfl | rfl | rfl | rfl | rfl | rfl | rfl | rfl : o = 2 ∨ o = 3 ∨ o = 4 ∨ o = 5 ∨ o = 6 ∨ o = 7 ∨ o = 8 ∨ o = 9 := by omega
  · rw [if_pos (by decide), k_e]
    rfl
  · rw [if_neg (by decide), if_pos (by decide), k_e]
    rfl
  · rw [if_neg (by decide), if_neg (by decide), if_pos (by decide), k_e]
    rfl
  · rw [if_neg (by decide), if_neg (by decide), if_neg (by decide), if_pos (by decide), if_neg (fun e => hy ⟨by decide, e⟩), k_e]
    rfl
  · rw [if_neg (by decide), if_neg (by decide), if_neg (by decide), if_neg (by decide), if_pos (by decide), if_neg (fun e => hy ⟨by decide, e⟩), k_e]
    rfl
  · rw [if_neg (by decide), if_neg (by decide), if_neg (by decide), if_neg (by decide), if_neg (by decide), if_pos (by decide)]
    rfl
  · rw [if_neg (by decide), if_neg (by decide), if_neg (by decide), if_neg (by decide), if_neg (by decide), if_neg (by decide), if_pos (by decide)]
    rfl
  · rw [if_neg (by decide), if_neg (by decide), if_neg (by decide), if_neg (by decide), if_neg (by decide), if_neg (by decide), if_neg (by decide)]
    rfl
theorem u_joinM {G : Nat → Int32} {S : Nat → Nat → Int32} (x y : Int32) : ∀ o : Nat, 2 ≤ o → o ≤ 9 → sp_X11_reckon G S (nI o) x y = [x + y, x - y, x * y, x / y, x - x / y * y, if y ≤ x then 0 else 1, if x ≤ y then 0 else 1, if x = y then 1 else 0].getD (o - 2) 0 := by
  intro o h1 h2
  unfold sp_X11_reckon K_X11_reckon_74 K_X11_reckon_85 K_X11_reckon_96
  rw [k_e]
  obtain rfl | rfl | rfl | rfl | rfl | rfl | rfl | rfl : o = 2 ∨ o = 3 ∨ o = 4 ∨ o = 5 ∨ o = 6 ∨ o = 7 ∨ o = 8 ∨ o = 9 := by omega
  · rw [if_pos (by decide), k_e]
    rfl
  · rw [if_neg (by decide), if_pos (by decide), k_e]
    rfl
  · rw [if_neg (by decide), if_neg (by decide), if_pos (by decide), k_e]
    rfl
  · rw [if_neg (by decide), if_neg (by decide), if_neg (by decide), if_pos (by decide), k_e]
    rfl
  · rw [if_neg (by decide), if_neg (by decide), if_neg (by decide), if_neg (by decide), if_pos (by decide), k_e]
    rfl
  · rw [if_neg (by decide), if_neg (by decide), if_neg (by decide), if_neg (by decide), if_neg (by decide), if_pos (by decide)]
    rfl
  · rw [if_neg (by decide), if_neg (by decide), if_neg (by decide), if_neg (by decide), if_neg (by decide), if_neg (by decide), if_pos (by decide)]
    rfl
  · rw [if_neg (by decide), if_neg (by decide), if_neg (by decide), if_neg (by decide), if_neg (by decide), if_neg (by decide), if_neg (by decide)]
    rfl
theorem u_join {F G : Nat → Int32} {R S : Nat → Nat → Int32} {o : Nat} (h2 : 2 ≤ o ∧ o ≤ 9) (x y : Int32) (hy : ¬ ((o = 5 ∨ o = 6) ∧ y = 0)) : sp_X2_join F R (nI (uo o)) x y = sp_X11_reckon G S (nI o) x y := by
  rw [u_joinX x y o h2.1 h2.2 hy, u_joinM x y o h2.1 h2.2]
theorem u_cmp01 {G : Nat → Int32} {S : Nat → Nat → Int32} {o : Nat} (h2 : 7 ≤ o ∧ o ≤ 9) (x y : Int32) : sp_X11_reckon G S (nI o) x y = 0 ∨ sp_X11_reckon G S (nI o) x y = 1 := by
  rw [u_joinM x y o (by omega) h2.2]
  obtain rfl | rfl | rfl : o = 7 ∨ o = 8 ∨ o = 9 := by omega
  · show (if y ≤ x then (0 : Int32) else 1) = 0 ∨ (if y ≤ x then (0 : Int32) else 1) = 1
    split
    · exact Or.inl rfl
    · exact Or.inr rfl
  · show (if x ≤ y then (0 : Int32) else 1) = 0 ∨ (if x ≤ y then (0 : Int32) else 1) = 1
    split
    · exact Or.inl rfl
    · exact Or.inr rfl
  · show (if x = y then (1 : Int32) else 0) = 0 ∨ (if x = y then (1 : Int32) else 0) = 1
    split
    · exact Or.inr rfl
    · exact Or.inl rfl
/-- the two run side by side -/
theorem ev_run {F G : Nat → Int32} {r18 r19 s18 : Nat → Int32} {H : Nat → Nat} {B : Nat → Bool} {p a L : Nat} (hH : ∀ k, k ≤ L → H k ≤ 30) (h1 : H L = 1) (hp : p + L < 256) (ha : a + L ≤ 220) (hsz : ∀ k, k ≤ L → ¬ F 274 ≤ nI (p + k)) (hst : r18 (p + L) = 0) (hC : ∀ k, k < L → UC r18 r19 s18 H B p a L k) : ∀ d k, k + d = L → ∀ (n m : Nat) (R S : Nat → Nat → Int32), d < n → d < m → R 18 = r18 → R 19 = r19 → S 18 = s18 → (∀ j, j < 12 → R 23 j = S 24 j) → (∀ j, j < H k → R 24 j = S 23 j) → (B k = true → ∃ t, H k = t + 1 ∧ (S 23 t = 0 ∨ S 23 t = 1)) →
    (K_X2_reckon_17_4 F n R (nI (H k)) (nI (p + k))).1 = (K_X11_comesTo_16 G (nI (a + L)) 0 m S (nI (H k)) (nI (a + k))).1 ∧ (B L = true → (K_X2_reckon_17_4 F n R (nI (H k)) (nI (p + k))).1 = 0 ∨ (K_X2_reckon_17_4 F n R (nI (H k)) (nI (p + k))).1 = 1) := by
  intro d
  induction d using Nat.strongRecOn with
  | ind d ih =>
    intro k hk n m R S hn hm e18 e19 es et ek hB
    obtain ⟨n, rfl⟩ : ∃ n', n = n' + 1 := ⟨n - 1, by omega⟩
    obtain ⟨m, rfl⟩ : ∃ m', m = m' + 1 := ⟨m - 1, by omega⟩
    by_cases hL : k = L
    · subst hL
      rw [h1, ct_end (by omega)]
      rcases rk_end (F := F) (R := R) (n := n) (h := 0) (p := p + k) (by omega) (hsz k (Nat.le_refl _)) (by rw [e18]; exact hst) with q | q
      · rw [show (1 : Nat) = 0 + 1 from rfl, q]
        refine ⟨ek 0 (by omega), fun qB => ?_⟩
        obtain ⟨t, t1, t2⟩ := hB qB
        obtain rfl : t = 0 := by omega
        show R 24 0 = 0 ∨ R 24 0 = 1
        rw [ek 0 (by omega)]
        exact t2
      · omega
    · have hkL : k < L := by omega
      have hHk := hH k (by omega)
      have hs := hsz k (by omega)
      obtain ⟨o, v, ho, hv, c1, c2, c3, c4, c5, c6, c7, c8, c9⟩ := hC k hkL
      rw [← e18] at c2
      rw [← es] at c1
      have same : ∀ (t : Nat) (x y : Int32), x = y → (∀ j, j < t → R 24 j = S 23 j) → ∀ j, j < t + 1 → (upd (R 24) t x) j = (upd (S 23) t y) j := by
        intro t x y exy hq j hj
        by_cases q : t = j
        · subst q; rw [g_us, g_us, exy]
        · rw [g_un (by rw [bne_iff_ne]; exact q), g_un (by rw [bne_iff_ne]; exact q)]; exact hq j (by omega)
      rcases Nat.lt_or_ge o 2 with o2 | o2
      · have e1 := (c3 (by omega)).2
        have v1 := (c3 (by omega)).1
        rw [← e19] at v1
        obtain rfl | rfl : o = 0 ∨ o = 1 := by omega
        · rw [rk_num (by omega) hHk hs c2, ct_num (by omega) (by omega) hHk hv c1, ← e1]
          exact ih (d - 1) (by omega) (k + 1) (by omega) n m _ _ (by omega) (by omega) e18 e19 es et (by rw [e1]; exact same _ _ _ v1 ek) (fun q => absurd (c9 q) (by omega))
        · have hv2 := c4 rfl
          rw [rk_let (by omega) hHk hs c2 v1 hv2, ct_let (by omega) (by omega) hHk hv2 c1, ← e1]
          exact ih (d - 1) (by omega) (k + 1) (by omega) n m _ _ (by omega) (by omega) e18 e19 es et (by rw [e1]; exact same _ _ _ (et v hv2) ek) (fun q => absurd (c9 q) (by omega))
      · rcases Nat.lt_or_ge o 10 with o10 | o10
        · obtain ⟨q1, q2⟩ := c6 o2 (by omega)
          obtain ⟨t, ht⟩ : ∃ t, H k = t + 2 := ⟨H k - 2, by omega⟩
          have e1 : H (k + 1) = t + 1 := by omega
          have E1 := ek (t + 1) (by omega)
          have E0 := ek t (by omega)
          rw [ht, rk_bin (by omega) (by omega) hs ⟨o2, by omega⟩ c2, ct_bin (by omega) (by omega) (by omega) hv ⟨o2, by omega⟩ c1, E1, E0]
          by_cases qz : (o = 5 ∨ o = 6) ∧ S 23 (t + 1) = 0
          · rw [if_pos qz, if_pos qz]
            exact ⟨rfl, fun _ => Or.inl rfl⟩
          · rw [if_neg qz, if_neg qz, u_join (G := G) (S := S) ⟨o2, by omega⟩ _ _ qz, ← e1]
            exact ih (d - 1) (by omega) (k + 1) (by omega) n m _ _ (by omega) (by omega) e18 e19 es et (by rw [e1]; exact same t _ _ rfl (fun j hj => ek j (by omega))) (fun q => ⟨t, e1, by
              rw [g_uus, g_us]
              exact u_cmp01 (by have := c9 q; omega) _ _⟩)
        · rcases Nat.lt_or_ge o 11 with o11 | o11
          · obtain rfl : o = 10 := by omega
            obtain ⟨q1, q2⟩ := c5 rfl
            obtain ⟨t, ht⟩ : ∃ t, H k = t + 1 := ⟨H k - 1, by omega⟩
            have E0 := ek t (by omega)
            obtain ⟨t2, t3, t4⟩ := hB (c8 (by omega))
            obtain rfl : t2 = t := by omega
            rw [ht, rk_not (by omega) (by omega) hs c2, ct_not (by omega) (by omega) (by omega) hv c1, show t2 + 1 = H (k + 1) from by omega, E0]
            exact ih (d - 1) (by omega) (k + 1) (by omega) n m _ _ (by omega) (by omega) e18 e19 es et (by rw [q2, ht]; exact same t2 _ _ rfl (fun j hj => ek j (by omega))) (fun _ => ⟨t2, by omega, by
              rw [g_uus, g_us]
              rcases t4 with q | q <;> rw [q]
              · exact Or.inr rfl
              · exact Or.inl rfl⟩)
          · obtain ⟨q1, q2, T, V, j1, j2, j3, j4, j5, j6, j7, j8⟩ := c7 o11
            have h11 : o = 11 ∨ o = 12 := by omega
            obtain ⟨t, t3, t4⟩ := hB (c8 (by omega))
            have E0 := ek t (by omega)
            subst j2
            rw [t3, rk_jmp (T := p + T) (by omega) (by omega) hs h11 c2 (by rw [e19]; exact j1) ⟨by omega, by omega⟩, ct_jmp (by omega) (by omega) (by omega) hv h11 c1, E0]
            have hiff : (S 23 t = 0 ↔ o = 11) ↔ S 23 t = (if o = 11 then 0 else 1) := by
              rcases h11 with rfl | rfl <;> rcases t4 with q | q <;> rw [q] <;> decide
            by_cases qd : S 23 t = (if o = 11 then 0 else 1)
            · rw [if_pos (hiff.mpr qd), if_pos qd]
              rcases j8 with rfl | ⟨w, w1, w2, w3, w4⟩
              · rw [show t + 1 = H V from by omega]
                exact ih (L - V) (by omega) V (by omega) n m R S (by omega) (by omega) e18 e19 es et (by rw [j7]; exact ek) (fun _ => ⟨t, by omega, t4⟩)
              · have hV : V < L := by
                  by_cases q : V = L
                  · have z := c9
                    subst q
                    rw [hst] at w3
                    exact absurd w3 (by rcases h11 with rfl | rfl <;> decide)
                  · omega
                have I := ih (L - V) (by omega) V (by omega) (n + 1) m R S (by omega) (by omega) e18 e19 es et (by rw [j7]; exact ek) (fun _ => ⟨t, by omega, t4⟩)
                have hVT : V < T := by
                  by_cases q : V = T
                  · subst q
                    obtain ⟨o', v', a1, a2, a3, a4, a5, a6, a7, a8, a9, _⟩ := hC V hV
                    rw [w2] at a3
                    have e := (nI_eq (by omega) (by omega)).mp a3
                    obtain ⟨_, _, T', V', b1, b2, b3, b4, _⟩ := a9 (by omega)
                    rw [w4] at b1
                    have e2 := (nI_eq (by omega) (by omega)).mp b1
                    omega
                  · omega
                rw [show H V = t + 1 from by omega, rk_jmp (T := p + T) (by omega) (by omega) (hsz V (by omega)) h11 (by rw [e18]; exact w3) (by rw [e19]; exact w4) ⟨by omega, by omega⟩, E0, if_pos (hiff.mpr qd)] at I
                exact I
            · rw [if_neg (fun q => qd (hiff.mp q)), if_neg qd, show t = H (k + 1) from by omega]
              exact ih (d - 1) (by omega) (k + 1) (by omega) n m R S (by omega) (by omega) e18 e19 es et (fun j hj => ek j (by omega)) (fun q => absurd (c9 q) (by omega))
