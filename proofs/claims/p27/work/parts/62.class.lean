/-! ===== the class's reader of laws ===== -/
def HU (u : Nat → Nat) (N : Nat) : Prop := N ≤ 200 ∧ (∀ k, k < N → u k < 256) ∧ (∀ k, N ≤ k → u k = 256)
theorem HU_le {u : Nat → Nat} {N : Nat} (h : HU u N) (k : Nat) : u k ≤ 256 := by
  by_cases q : k < N
  · have := h.2.1 k q
    omega
  · have := h.2.2 k (by omega)
    omega
theorem HU_in {u : Nat → Nat} {N k : Nat} (h : HU u N) (q : u k ≠ 256) : k < N := by
  by_cases z : k < N
  · exact z
  · exact absurd (h.2.2 k (by omega)) q
def CSt (u : Nat → Nat) (N : Nat) (F : Nat → Int32) (R : Nat → Nat → Int32) (i p : Nat) : Prop := F 531 = nI i ∧ F 532 = 0 ∧ F 402 = nI p ∧ p ≤ i ∧ i ≤ N ∧ F 530 = nI N ∧ (∀ k, k < N → R 34 k = nI (u k))
section RC1
variable {u : Nat → Nat} {N : Nat} {F : Nat → Int32} {R : Nat → Nat → Int32} {i p : Nat}
theorem c_sign (hu : HU u N) (h : CSt u N F R i p) : sp_X3_sign F R = sg (u i) := by
  obtain ⟨h1, h2, h3, h4, h5, h6, h7⟩ := h
  obtain ⟨n1, n2, n3⟩ := hu
  unfold sp_X3_sign K_X3_sign_47 K_X3_sign_48
  rw [h1, h2, h6, if_pos rfl, if_neg (nI_pos (by omega))]
  by_cases q : i < N
  · rw [if_neg (nI_ge q (by omega)), if_neg (show ¬ (200 : Int32) ≤ nI i from nI_ge (a := i) (b := 200) (by omega) (by omega)), k_e, nI_clamp (by omega), h7 i q, sg_n (n2 i q)]
  · rw [if_pos (nI_le (by omega) (by omega)), n3 i (by omega)]
    rfl
theorem c_none (h : ¬ F 532 = 0) : sp_X3_sign F R = -1 := by
  unfold sp_X3_sign K_X3_sign_47 K_X3_sign_48
  rw [if_neg h]
theorem c_emit {x y : Int32} (h : F 402 = nI p) (hp : p < 256) : sp_X2_emit_25 F R x y = (nI p, upd F 402 (nI (p + 1)), g_u (g_u R 26 (upd (R 26) p x)) 27 (upd (R 27) p y)) := by
  unfold sp_X2_emit_25
  rw [h, if_pos (show nI p < 256 from nI_lt (a := p) (b := 256) hp (by omega)), nI_clamp (by omega)]
  simp only [k_e]
  rw [nI_1, nI_pred]
  have e : g_u R 26 (upd (R 26) p x) 27 = R 27 := by rw [ug, if_neg (by decide)]
  rw [e]
theorem c_emit_f (x y : Int32) (k : Nat) (hk : k ≠ 402) : (sp_X2_emit_25 F R x y).2.1 k = F k := by
  unfold sp_X2_emit_25
  split
  · simp only [k_e]
    rw [uu, if_neg hk]
  · rfl
theorem c_emit_st {x y : Int32} (h : CSt u N F R i p) (hp : p + 1 ≤ i) : CSt u N (upd F 402 (nI (p + 1))) (g_u (g_u R 26 (upd (R 26) p x)) 27 (upd (R 27) p y)) i (p + 1) := by
  obtain ⟨h1, h2, h3, h4, h5, h6, h7⟩ := h
  refine ⟨by rw [uu, if_neg (by decide)]; exact h1, by rw [uu, if_neg (by decide)]; exact h2, by rw [uu, if_pos rfl], hp, h5, by rw [uu, if_neg (by decide)]; exact h6, ?_⟩
  rw [ug, if_neg (by decide), ug, if_neg (by decide)]
  exact h7
theorem c_emit_r {x y : Int32} : (g_u (g_u R 26 (upd (R 26) p x)) 27 (upd (R 27) p y)) 26 = upd (R 26) p x ∧ (g_u (g_u R 26 (upd (R 26) p x)) 27 (upd (R 27) p y)) 27 = upd (R 27) p y := by
  rw [ug, if_neg (by decide), ug, if_pos rfl, ug, if_pos rfl]
  exact ⟨rfl, rfl⟩
theorem c_adv (hu : HU u N) (h : CSt u N F R i p) (q : u i ≠ 256) : CSt u N (upd F 531 (F 531 + 1)) R (i + 1) p := by
  have := HU_in hu q
  obtain ⟨h1, h2, h3, h4, h5, h6, h7⟩ := h
  refine ⟨by rw [uu, if_pos rfl, h1, nI_1], by rw [uu, if_neg (by decide)]; exact h2, by rw [uu, if_neg (by decide)]; exact h3, by omega, by omega, by rw [uu, if_neg (by decide)]; exact h6, h7⟩
theorem c_fail {k : Int32} (h : CSt u N F R i p) : (sp_X3_fail F R k).1 532 = ft k i := by
  obtain ⟨h1, h2, h3, h4, h5, h6, h7⟩ := h
  unfold sp_X3_fail K_X3_fail_21
  rw [if_pos h2]
  simp only [k_e]
  rw [uu, if_pos rfl, h1]
  rfl
theorem c_fail_k {k : Int32} (h : ¬ F 532 = 0) : sp_X3_fail F R k = (F, R) := by
  unfold sp_X3_fail K_X3_fail_21
  rw [if_neg h]
end RC1
/-- what a method of the reader answers: a fault, or codes -/
def CPost (u : Nat → Nat) (N : Nat) (Ps : PsT) (Pf : PfT) (k o i p : Nat) (E : Nat → Prop) (R : Nat → Nat → Int32) (Z : (Nat → Int32) × (Nat → Nat → Int32)) : Prop :=
  (∃ f, ¬ f = 0 ∧ Pf k o i f ∧ Z.1 532 = f) ∨ (∃ (j a : Nat) (L : List Cd), Ps k o i j a L ∧ E (u j) ∧ i + L.length ≤ j ∧ CSt u N Z.1 Z.2 j (p + L.length) ∧ CodeC (Z.2 26) (Z.2 27) p L ∧ (∀ q, q < p → Z.2 26 q = R 26 q ∧ Z.2 27 q = R 27 q))
def CC (u : Nat → Nat) (N : Nat) (Ps : PsT) (Pf : PfT) (k o : Nat) (E : Nat → Prop) (M : (Nat → Int32) → (Nat → Nat → Int32) → (Nat → Int32) × (Nat → Nat → Int32)) : Prop := ∀ F R i p, CSt u N F R i p → CPost u N Ps Pf k o i p E R (M F R)
def FKp (M : (Nat → Int32) → (Nat → Nat → Int32) → (Nat → Int32) × (Nat → Nat → Int32)) : Prop := ∀ F R, ¬ F 532 = 0 → (M F R).1 532 = F 532
/-- one code said -/
theorem c_one {u : Nat → Nat} {N : Nat} {F : Nat → Int32} {R : Nat → Nat → Int32} {i p : Nat} {c : Cd} {x y : Int32} (hu : HU u N) (h : CSt u N F R i p) (hp : p + 1 ≤ i) (hx : x = nI (uo c.1)) (hy : c.1 ≤ 1 ∨ 11 ≤ c.1 → y = cvC p c) : CSt u N (sp_X2_emit_25 F R x y).2.1 (sp_X2_emit_25 F R x y).2.2 i (p + 1) ∧ CodeC ((sp_X2_emit_25 F R x y).2.2 26) ((sp_X2_emit_25 F R x y).2.2 27) p [c] ∧ (∀ q, q ≠ p → (sp_X2_emit_25 F R x y).2.2 26 q = R 26 q ∧ (sp_X2_emit_25 F R x y).2.2 27 q = R 27 q) := by
  have hN := hu.1
  have hi : i ≤ N := h.2.2.2.2.1
  rw [c_emit h.2.2.1 (by omega)]
  refine ⟨c_emit_st h hp, ?_, ?_⟩
  · dsimp only
    rw [c_emit_r.1, c_emit_r.2]
    refine ⟨by rw [uu, if_pos rfl]; exact hx, fun q => by rw [uu, if_pos rfl]; exact hy q, trivial⟩
  · intro q hq
    dsimp only
    rw [c_emit_r.1, c_emit_r.2, uu, uu, if_neg hq, if_neg hq]
    exact ⟨rfl, rfl⟩
/-- a code behind codes, and codes behind it -/
theorem c_cat {r1 s1 r2 s2 r3 s3 : Nat → Int32} {L1 L2 : List Cd} {c : Cd} {p : Nat} (h1 : CodeC r1 s1 p L1) (f2 : ∀ q, q < p + L1.length → r2 q = r1 q ∧ s2 q = s1 q) (h2 : CodeC r2 s2 (p + L1.length) [c]) (f3 : ∀ q, q < p + L1.length + 1 → r3 q = r2 q ∧ s3 q = s2 q) (h3 : CodeC r3 s3 (p + L1.length + 1) L2) : CodeC r3 s3 p (L1 ++ c :: L2) := by
  rw [show L1 ++ c :: L2 = L1 ++ ([c] ++ L2) from rfl, CodeC_app, CodeC_app]
  refine ⟨CodeC_eq L1 p (fun k a b => ?_) h1, CodeC_eq [c] _ (fun k a b => f3 k ?_) h2, h3⟩
  · have e := f3 k (by omega)
    have e' := f2 k (by omega)
    exact ⟨e.1.trans e'.1, e.2.trans e'.2⟩
  · simp only [List.length_cons, List.length_nil] at b
    omega
