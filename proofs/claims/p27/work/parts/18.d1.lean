theorem g_ru1 {R S : Nat → Nat → Int32} {k : Nat} {f : Nat → Int32} (h : S = g_u R k f) : S k = f := by rw [h, g_uus]
theorem g_ru2 {R S : Nat → Nat → Int32} {k j : Nat} {f : Nat → Int32} (h : S = g_u R k f) (hk : (k != j) = true) : S j = R j := by rw [h, g_uun hk]
theorem gi_le {v a b x : Int32} (e : x = g_in v a b) (h : ¬ x = 0) : a.toInt ≤ v.toInt ∧ v.toInt ≤ b.toInt := by
  subst e
  unfold g_in at h
  split at h
  · rename_i q
    exact ⟨gc_le q.1, gc_le q.2⟩
  · exact absurd rfl h
theorem g_rlt {z x y : Int32} {c d : Int} (h : g_eqs z.toInt (x.toInt % y.toInt)) (hy : jv c d y) (hh : 1 ≤ c) : z.toInt < y.toInt := by
  unfold g_eqs at h
  unfold jv at hy
  rw [h]
  exact Int.emod_lt_of_pos _ (by omega)
/-! ===== the reference: what its state keeps to ===== -/
def hb (x k : Int32) : Prop := (x >>> (k &&& 31)) &&& 1 = 1
/-- told things have a foot and a weight, the kept ones too -/
def WT (F : Nat → Int32) (R : Nat → Nat → Int32) : Prop := (∀ j : Nat, j < 10 → hb (F 4) (nI j) → jv 1 40 (R 3 j) ∧ jv 1 99 (R 5 j)) ∧ (∀ j : Nat, j < 10 → hb (F 82) (nI j) → jv 1 40 (R 43 j) ∧ jv 1 99 (R 45 j))
/-- those of an evening do -/
def WN (F : Nat → Int32) (R : Nat → Nat → Int32) : Prop := ∀ j : Nat, j < 10 → hb (F 42) (nI j) → jv 1 40 (R 3 j) ∧ jv 1 99 (R 5 j)
theorem WT_u {F : Nat → Int32} {R : Nat → Nat → Int32} {k : Nat} {v : Int32} (h : WT F R) (hk : (k != 4 && k != 82) = true) : WT (upd F k v) R := by
  rw [Bool.and_eq_true] at hk
  unfold WT at *
  rw [g_un hk.1, g_un hk.2]
  exact h
theorem WT_r {F : Nat → Int32} {R : Nat → Nat → Int32} {k : Nat} {f : Nat → Int32} (h : WT F R) (hk : (k != 3 && k != 5 && k != 43 && k != 45) = true) : WT F (g_u R k f) := by
  rw [Bool.and_eq_true, Bool.and_eq_true, Bool.and_eq_true] at hk
  unfold WT at *
  rw [g_uun hk.1.1.1, g_uun hk.1.1.2, g_uun hk.1.2, g_uun hk.2]
  exact h
def g_op (x : Int32) : Int := x.toInt / 1048576
def g_arg (x : Int32) : Int := x.toInt % 1048576
/-- by how much a code lets the stack grow, where it goes straight on -/
def g_dl (x : Int32) : Int := if g_op x ≤ 1 then 1 else if g_op x = 10 then 0 else -1
def g_ht (f : Nat → Int32) (a : Nat) : Nat → Int
  | 0 => 0
  | n + 1 => g_ht f a n + g_dl (f (a + n))
/-- codes from a to b that need no more than they have, and jump ahead only, to places of like height -/
def g_wf (f : Nat → Int32) (a b : Nat) : Prop := ∀ k, a ≤ k → k < b → (g_op (f k) = 1 → g_arg (f k) ≤ 11) ∧ (2 ≤ g_op (f k) → 1 ≤ g_ht f a (k - a)) ∧ (2 ≤ g_op (f k) → g_op (f k) ≤ 9 → 2 ≤ g_ht f a (k - a)) ∧ (11 ≤ g_op (f k) → (k : Int) < g_arg (f k) ∧ g_arg (f k) ≤ b ∧ g_ht f a ((g_arg (f k)).toNat - a) = g_ht f a (k - a))
def WC (F : Nat → Int32) (R : Nat → Nat → Int32) : Prop := ∀ j : Nat, (j : Int) < (F 28).toInt → ∃ a b c : Nat, (R 20 j).toInt = a ∧ (R 21 j).toInt = b ∧ (R 22 j).toInt = c ∧ a ≤ b ∧ b ≤ c ∧ c ≤ 220 ∧ g_wf (R 18) a b ∧ g_wf (R 18) b c
theorem WC_u {F : Nat → Int32} {R : Nat → Nat → Int32} {k : Nat} {v : Int32} (h : WC F R) (hk : (k != 28) = true) : WC (upd F k v) R := by
  unfold WC at *
  rw [g_un hk]
  exact h
theorem WC_r {F : Nat → Int32} {R : Nat → Nat → Int32} {k : Nat} {f : Nat → Int32} (h : WC F R) (hk : (k != 18 && k != 20 && k != 21 && k != 22) = true) : WC F (g_u R k f) := by
  rw [Bool.and_eq_true, Bool.and_eq_true, Bool.and_eq_true] at hk
  unfold WC at *
  rw [g_uun hk.1.1.1, g_uun hk.1.1.2, g_uun hk.1.2, g_uun hk.2]
  exact h
theorem hb_tb {x : Int32} {j : Nat} (hj : j < 10) : hb x (nI j) ↔ x.toBitVec.getLsbD j = true := by
  unfold hb
  have h1 : ((x >>> (nI j &&& 31)) &&& 1 = 1) ↔ (((x >>> (nI j &&& 31)) &&& 1).toBitVec = 1#32) := ⟨fun h => by rw [h]; rfl, fun h => Int32.toBitVec_inj.mp h⟩
  rw [h1]
  have h2 : (x >>> (nI j &&& 31)).toBitVec = x.toBitVec.sshiftRight j := by
    have : ∀ j, j < 10 → ((nI j &&& 31).toBitVec.smod 32).toNat = j := by decide
    show x.toBitVec.sshiftRight' ((nI j &&& 31).toBitVec.smod 32) = _
    rw [BitVec.sshiftRight', this j hj]
  rw [Int32.toBitVec_and, h2]
  have h3 : (x.toBitVec.sshiftRight j &&& (1 : Int32).toBitVec = 1#32) ↔ (x.toBitVec.sshiftRight j).getLsbD 0 = true := by
    have e : (1 : Int32).toBitVec = 1#32 := rfl
    rw [e, BitVec.and_one_eq_setWidth_ofBool_getLsbD]
    cases (x.toBitVec.sshiftRight j).getLsbD 0 <;> decide
  rw [h3, BitVec.getLsbD_sshiftRight]
  have h4 : j + 0 < 32 := by omega
  simp [h4]
  omega
theorem hb_0 {j : Nat} (hj : j < 10) : ¬ hb 0 (nI j) := by
  rw [hb_tb hj]
  show ¬ (0#32).getLsbD j = true
  simp
theorem hb_and {x y : Int32} {j : Nat} (hj : j < 10) (h : hb (x &&& y) (nI j)) : hb x (nI j) := by
  rw [hb_tb hj] at h ⊢
  rw [Int32.toBitVec_and, BitVec.getLsbD_and] at h
  cases q : x.toBitVec.getLsbD j with
  | true => rfl
  | false => rw [q] at h; exact absurd h (by simp)
theorem hb_or {x y : Int32} {j : Nat} (hj : j < 10) (h : hb (x ||| y) (nI j)) : hb x (nI j) ∨ hb y (nI j) := by
  rw [hb_tb hj] at h ⊢
  rw [hb_tb hj]
  rw [Int32.toBitVec_or, BitVec.getLsbD_or, Bool.or_eq_true] at h
  exact h
theorem hb_shl : ∀ i j : Nat, i < 10 → j < 10 → hb (1 <<< (nI i &&& 31)) (nI j) → j = i := by
  have : ∀ i : Fin 10, ∀ j : Fin 10, ((1 <<< (nI i &&& 31) : Int32) >>> (nI j &&& 31)) &&& 1 = 1 → j = i := by decide
  intro i j hi hj h
  exact congrArg Fin.val (this ⟨i, hi⟩ ⟨j, hj⟩ h)
/-- a set without others holds no bit that they don't -/
theorem hb_sub {x y : Int32} {j : Nat} (hj : j < 10) (h : x &&& (y ^^^ (-1)) = 0) (hx : hb x (nI j)) : hb y (nI j) := by
  rw [hb_tb hj] at hx ⊢
  have h1 := congrArg (fun z : Int32 => z.toBitVec.getLsbD j) h
  simp only [Int32.toBitVec_and, Int32.toBitVec_xor, BitVec.getLsbD_and, BitVec.getLsbD_xor, hx, Bool.true_and] at h1
  have e : ∀ j, j < 10 → (-1 : Int32).toBitVec.getLsbD j = true := by decide
  have e0 : ∀ j, j < 10 → (0 : Int32).toBitVec.getLsbD j = false := by decide
  rw [e j hj, e0 j hj] at h1
  cases q : y.toBitVec.getLsbD j with
  | true => rfl
  | false => rw [q] at h1; cases h1
theorem jv_n {x : Int32} {a b : Int} (h : jv a b x) (ha : 0 ≤ a) : ∃ j : Nat, x = nI j ∧ (j : Int) = x.toInt ∧ j ≤ b.toNat ∧ x.toNatClampNeg = j := by
  unfold jv at h
  have h2 := Int32.toInt_lt x
  refine ⟨x.toInt.toNat, ?_, by omega, by omega, rfl⟩
  apply Int32.toInt_inj.mp
  rw [nI_toInt (by omega)]
  omega
/-- a thing is told: its foot and its weight are good -/
theorem WT_add {F : Nat → Int32} {R : Nat → Nat → Int32} (h : WT F R) : WT F R := h
def LK_wM : List (Nat × Int × Int) := [(14, 0, 220), (15, 0, 220), (16, 0, 200), (19, 0, 60), (20, 0, 60), (21, 0, 20), (24, (-2147483648), 2147483647), (25, 0, 220), (26, 0, 220), (27, 0, 14), (28, 0, 14), (44, 0, 60), (45, 0, 300), (51, 0, 1), (75, 0, 5), (77, 0, 1)]
def LA_wM : List (Nat × Nat × Int × Int) := [(12, 220, 0, 13631487), (13, 220, 0, 15728639), (18, 220, 0, 13631487), (37, 10, 0, 9), (38, 5, 0, 9), (39, 5, 0, 4), (3, 10, 0, 40), (5, 10, 0, 99), (43, 10, 0, 40), (45, 10, 0, 99)]
theorem g_has_e {r x k : Int32} (h : r = 0 ∧ ¬ hb x k ∨ r = 1 ∧ hb x k) : r = g_hasv x k := by
  unfold g_hasv
  rcases h with ⟨h, q⟩ | ⟨h, q⟩
  · have q2 : ¬ ((x >>> (k &&& 31)) &&& 1 = 1) := q
    rw [if_neg q2]
    exact h
  · have q2 : (x >>> (k &&& 31)) &&& 1 = 1 := q
    rw [if_pos q2]
    exact h
theorem g_hasy {r : Int32} {P : Prop} (h : r = 0 ∧ ¬ P ∨ r = 1 ∧ P) (c : ¬ r = 0) : P := by
  rcases h with h | h
  · exact absurd h.1 c
  · exact h.2
theorem e_X11_has_0 : g_dc cX11_has 0 (.iload_n 0) 1 1 := ⟨by decide +kernel, rfl⟩
theorem e_X11_has_1 : g_dc cX11_has 1 (.iload_n 1) 1 2 := ⟨by decide +kernel, rfl⟩
theorem e_X11_has_2 : g_dc cX11_has 2 (.ishr) 1 3 := ⟨by decide +kernel, rfl⟩
theorem e_X11_has_3 : g_dc cX11_has 3 (.iconst 1) 1 4 := ⟨by decide +kernel, rfl⟩
theorem e_X11_has_4 : g_dc cX11_has 4 (.iand) 1 5 := ⟨by decide +kernel, rfl⟩
theorem e_X11_has_5 : g_dc cX11_has 5 (.iconst 1) 1 6 := ⟨by decide +kernel, rfl⟩
theorem e_X11_has_6 : g_dc cX11_has 6 (.if_icmp .ne 7) 3 9 := ⟨by decide +kernel, rfl⟩
theorem e_X11_has_9 : g_dc cX11_has 9 (.iconst 1) 1 10 := ⟨by decide +kernel, rfl⟩
theorem e_X11_has_10 : g_dc cX11_has 10 (.goto 4) 3 13 := ⟨by decide +kernel, rfl⟩
theorem e_X11_has_13 : g_dc cX11_has 13 (.iconst 0) 1 14 := ⟨by decide +kernel, rfl⟩
theorem e_X11_has_14 : g_dc cX11_has 14 (.ireturn) 1 15 := ⟨by decide +kernel, rfl⟩
set_option maxHeartbeats 4000000 in
set_option maxRecDepth 100000 in
theorem c_X11_has (l : Launch) (X : gX) (ws : va_W) (a0 a1 : Int32) : g_Ci l X yX11_has cX11_has 2 (some .boolean) 1 0 0 [.int a0, .int a1] ws (fun r w => w = ws ∧ (r = 0 ∧ ¬ hb a0 a1 ∨ r = 1 ∧ hb a0 a1)) := by
  refine g_mi (by decide +kernel) (Nat.le_of_ble_eq_true rfl) (fun E cx hret => ?_)
  refine g_iload_n cx 0 rfl e_X11_has_0 ?_
  refine g_iload_n cx 1 rfl e_X11_has_1 ?_
  refine g_ishr cx e_X11_has_2 ?_
  refine g_iconst cx 1 (by decide) e_X11_has_3 ?_
  refine g_iand cx e_X11_has_4 ?_
  refine g_iconst cx 1 (by decide) e_X11_has_5 ?_
  refine g_icmp_ne cx 13 e_X11_has_6 (by decide) (fun zc6 => ?_) (fun zc6 => ?_)
  · refine g_iconst cx 0 (by decide) e_X11_has_13 ?_
    exact hret e_X11_has_14 (Nat.le_of_ble_eq_true rfl) (Nat.le_of_ble_eq_true rfl) rfl (⟨rfl, by first | exact Or.inl ⟨rfl, by assumption⟩ | exact Or.inr ⟨rfl, by assumption⟩⟩)
  · refine g_iconst cx 1 (by decide) e_X11_has_9 ?_
    refine g_goto cx 14 e_X11_has_10 (by decide) ?_
    exact hret e_X11_has_14 (Nat.le_of_ble_eq_true rfl) (Nat.le_of_ble_eq_true rfl) rfl (⟨rfl, by first | exact Or.inl ⟨rfl, by assumption⟩ | exact Or.inr ⟨rfl, by assumption⟩⟩)
theorem WT_0 {F : Nat → Int32} {R : Nat → Nat → Int32} (h : WT F R) : WT (upd F 4 0) R := by
  unfold WT at *
  rw [g_us, g_un (k := 4) (j := 82) rfl]
  exact ⟨fun j hj q => absurd q (hb_0 hj), h.2⟩
theorem WT_sub {F : Nat → Int32} {R : Nat → Nat → Int32} {x y : Int32} (h : WT F R) (e : x = F 4 &&& y) : WT (upd F 4 x) R := by
  unfold WT at *
  rw [g_us, g_un (k := 4) (j := 82) rfl]
  subst e
  exact ⟨fun j hj q => h.1 j hj (hb_and hj q), h.2⟩
theorem WT_thing {F F' : Nat → Int32} {R R' : Nat → Nat → Int32} {i foot weight : Int32} (h : WT F R) (hi : jv 0 9 i) (hf : jv 1 40 foot) (hw : jv 1 99 weight) (e4 : F' 4 = F 4 ||| (1 <<< (i &&& 31))) (e82 : F' 82 = F 82) (e3 : R' 3 = upd (R 3) i.toNatClampNeg foot) (e5 : R' 5 = upd (R 5) i.toNatClampNeg weight) (e43 : R' 43 = R 43) (e45 : R' 45 = R 45) : WT F' R' := by
  obtain ⟨n, rfl, h1, h2, h3⟩ := jv_n hi (by decide)
  have hn : n < 10 := by omega
  unfold WT at *
  rw [e4, e82, e3, e5, e43, e45, h3]
  refine ⟨fun j hj q => ?_, h.2⟩
  by_cases hjn : n = j
  · subst hjn
    rw [g_us, g_us]
    exact ⟨hf, hw⟩
  · rw [g_un (by simpa using hjn), g_un (by simpa using hjn)]
    rcases hb_or hj q with q | q
    · exact h.1 j hj q
    · exact absurd (hb_shl n j hn hj q).symm hjn
theorem WT_keep {F F' : Nat → Int32} {R R' : Nat → Nat → Int32} (h : WT F R) (e4 : F' 4 = F 4) (e82 : F' 82 = F 4) (e3 : R' 3 = R 3) (e5 : R' 5 = R 5) (c43 : ∀ j, j < 10 → R' 43 j = R 3 j) (c45 : ∀ j, j < 10 → R' 45 j = R 5 j) : WT F' R' := by
  unfold WT at *
  rw [e4, e82, e3, e5]
  exact ⟨h.1, fun j hj q => by rw [c43 j hj, c45 j hj]; exact h.1 j hj q⟩
theorem WT_undo {F F' : Nat → Int32} {R R' : Nat → Nat → Int32} (h : WT F R) (e4 : F' 4 = F 82) (e82 : F' 82 = F 82) (e43 : R' 43 = R 43) (e45 : R' 45 = R 45) (c3 : ∀ j, j < 10 → R' 3 j = R 43 j) (c5 : ∀ j, j < 10 → R' 5 j = R 45 j) : WT F' R' := by
  unfold WT at *
  rw [e4, e82, e43, e45]
  exact ⟨fun j hj q => by rw [c3 j hj, c5 j hj]; exact h.2 j hj q, h.2⟩
/-- one more row's place is like the other's -/
theorem g_cp1 {f g f' : Nat → Int32} {k : Int32} {b : Int} (h : ∀ j : Nat, (j : Int) < k.toInt → f j = g j) (hk : jv 0 b k) (e : f' = upd f k.toNatClampNeg (g k.toNatClampNeg)) {k' : Int32} (ek : k'.toInt = k.toInt + 1) : ∀ j : Nat, (j : Int) < k'.toInt → f' j = g j := by
  obtain ⟨n, rfl, h1, h2, h3⟩ := jv_n hk (by decide)
  intro j hj
  rw [e, h3]
  by_cases q : n = j
  · subst q
    rw [g_us]
  · rw [g_un (by simpa using q)]
    exact h j (by omega)
theorem WT_e {F F' : Nat → Int32} {R R' : Nat → Nat → Int32} (h : WT F R) (e4 : F' 4 = F 4) (e82 : F' 82 = F 82) (e3 : R' 3 = R 3) (e5 : R' 5 = R 5) (e43 : R' 43 = R 43) (e45 : R' 45 = R 45) : WT F' R' := by
  unfold WT at *
  rw [e4, e82, e3, e5, e43, e45]
  exact h
theorem WC_e {F F' : Nat → Int32} {R R' : Nat → Nat → Int32} (h : WC F R) (e28 : F' 28 = F 28) (e18 : R' 18 = R 18) (e20 : R' 20 = R 20) (e21 : R' 21 = R 21) (e22 : R' 22 = R 22) : WC F' R' := by
  unfold WC at *
  rw [e28, e18, e20, e21, e22]
  exact h

/-! ===== rows of places ===== -/
def g_spec (n c : Int) : Prop := n = 2 ∧ c = 1 ∨ n = 3 ∧ c = 5 ∨ n = 4 ∧ c = 27 ∨ n = 5 ∧ c = 194
theorem g_spec_c (n c : Int32) : (n = 2 ∧ c = 1) ∨ (n = 3 ∧ c = 5) ∨ (n = 4 ∧ c = 27) ∨ (n = 5 ∧ c = 194) ∨ ¬ g_spec n.toInt c.toInt := by
  by_cases h : g_spec n.toInt c.toInt
  · have e : ∀ (x : Int32) (k : Int32), x.toInt = k.toInt → x = k := fun x k q => Int32.toInt_inj.mp q
    rcases h with ⟨a, b⟩ | ⟨a, b⟩ | ⟨a, b⟩ | ⟨a, b⟩
    · exact Or.inl ⟨e n 2 a, e c 1 b⟩
    · exact Or.inr (Or.inl ⟨e n 3 a, e c 5 b⟩)
    · exact Or.inr (Or.inr (Or.inl ⟨e n 4 a, e c 27 b⟩))
    · exact Or.inr (Or.inr (Or.inr (Or.inl ⟨e n 5 a, e c 194 b⟩)))
  · exact Or.inr (Or.inr (Or.inr (Or.inr h)))
theorem g_specn {n c : Int} (h : ¬ g_spec n c) : ¬ (n = 2 ∧ c = 1) ∧ ¬ (n = 3 ∧ c = 5) ∧ ¬ (n = 4 ∧ c = 27) ∧ ¬ (n = 5 ∧ c = 194) := by
  unfold g_spec at h
  omega
/-- how many of a set's first bits are set -/
def g_bits (x : Int32) : Nat → Int
  | 0 => 0
  | n + 1 => g_bits x n + ((x >>> (nI n &&& 31)) &&& 1).toInt
theorem g_bit01 (x : Int32) : jv 0 1 (x &&& 1) := jv_and 0 1 rfl (jv_k (x := 1) 1 (by decide)) (by decide)
theorem g_bits_m (x : Int32) : ∀ {a b : Nat}, a ≤ b → g_bits x a ≤ g_bits x b := by
  intro a b h
  induction h with
  | refl => exact Int.le_refl _
  | step _ ih =>
    rename_i m _
    have := (g_bit01 (x >>> (nI m &&& 31))).1
    rw [g_bits]
    omega
theorem g_bits_s {x k k' v : Int32} (hk : jv 0 9 k) (ek : k'.toInt = k.toInt + 1) (ev : v = (x >>> (k &&& 31)) &&& 1) : g_bits x k'.toInt.toNat = g_bits x k.toInt.toNat + v.toInt := by
  obtain ⟨n, rfl, h1, h2, h3⟩ := jv_n hk (by decide)
  have e1 : (nI n).toInt.toNat = n := by omega
  have e2 : k'.toInt.toNat = n + 1 := by omega
  rw [e1, e2, g_bits, ev]
theorem g_bits_y {x k : Int32} (hk : jv 0 9 k) (h : hb x k) : g_bits x (k.toInt.toNat + 1) = g_bits x k.toInt.toNat + 1 := by
  obtain ⟨n, rfl, h1, h2, h3⟩ := jv_n hk (by decide)
  have e1 : (nI n).toInt.toNat = n := by omega
  rw [e1, g_bits, show (x >>> (nI n &&& 31)) &&& 1 = 1 from h]
  rfl
theorem g_bits_n {x k : Int32} (hk : jv 0 9 k) (h : ¬ hb x k) : g_bits x (k.toInt.toNat + 1) = g_bits x k.toInt.toNat := by
  obtain ⟨n, rfl, h1, h2, h3⟩ := jv_n hk (by decide)
  have e1 : (nI n).toInt.toNat = n := by omega
  have h4 := g_bit01 (x >>> (nI n &&& 31))
  have h5 : ((x >>> (nI n &&& 31)) &&& 1).toInt = 0 := by
    rcases (show ((x >>> (nI n &&& 31)) &&& 1).toInt = 0 ∨ ((x >>> (nI n &&& 31)) &&& 1).toInt = 1 from by unfold jv at h4; omega) with q | q
    · exact q
    · exact absurd (Int32.toInt_inj.mp (q.trans (show (1 : Int) = (1 : Int32).toInt from rfl))) h
  rw [e1, g_bits, h5]
  omega
theorem g_hasn {r : Int32} {P : Prop} (h : r = 0 ∧ ¬ P ∨ r = 1 ∧ P) (c : r = 0) : ¬ P := by
  rcases h with h | h
  · exact h.2
  · exact absurd (h.1.symm.trans c) (by decide)
def g_pw (n : Int) : Nat → Int
  | 0 => 1
  | k + 1 => g_pw n k * n
theorem g_pw_b {n : Int} (h : 2 ≤ n ∧ n ≤ 5) (k : Nat) (hk : (k : Int) ≤ n) : 1 ≤ g_pw n k ∧ g_pw n k ≤ 3125 := by
  have hn : n = 2 ∨ n = 3 ∨ n = 4 ∨ n = 5 := by omega
  have hk2 : k = 0 ∨ k = 1 ∨ k = 2 ∨ k = 3 ∨ k = 4 ∨ k = 5 := by omega
  rcases hn with rfl | rfl | rfl | rfl <;> rcases hk2 with rfl | rfl | rfl | rfl | rfl | rfl <;> first | (simp [g_pw]; done) | omega
theorem g_pw_e {n r : Int} (h : 2 ≤ n ∧ n ≤ 5) (e : r = g_pw n n.toNat) : n = 2 ∧ r = 4 ∨ n = 3 ∧ r = 27 ∨ n = 4 ∧ r = 256 ∨ n = 5 ∧ r = 3125 := by
  have hn : n = 2 ∨ n = 3 ∨ n = 4 ∨ n = 5 := by omega
  rcases hn with rfl | rfl | rfl | rfl <;> simp [g_pw] at e <;> omega
theorem g_pw_s {n a : Int} {k k' : Int32} {b : Int} (hk : jv 0 b k) (ek : k'.toInt = k.toInt + 1) (e : a = g_pw n k.toInt.toNat) : a * n = g_pw n k'.toInt.toNat := by
  have h := hk.1
  rw [show k'.toInt.toNat = k.toInt.toNat + 1 from by omega, g_pw, e]

def K_X11_table_22 (F : Nat → Int32) (R : Nat → Nat → Int32)  : Int32 × (Nat → Int32) × (Nat → Nat → Int32) :=
  (0, F, R)
def sp_X11_table (F : Nat → Int32) (R : Nat → Nat → Int32) (a0 : Int32) (a1 : Int32) : Int32 × (Nat → Int32) × (Nat → Nat → Int32) :=
  k_lt (g_in a0 10 200) (fun r1 => if r1 = 0 then K_X11_table_22 F R else k_lt (g_in a1 0 63) (fun r11 => if r11 = 0 then K_X11_table_22 F R else k_lt (upd F 0 a0) (fun F19 => k_lt (upd F19 1 a0) (fun F21 => k_lt (upd F21 2 a1) (fun F23 => k_lt (upd F23 4 0) (fun F25 => (1, F25, R)))))))
theorem e_X11_table_0 : g_dc cX11_table 0 (.iload_n 1) 1 1 := ⟨by decide +kernel, rfl⟩
theorem e_X11_table_1 : g_dc cX11_table 1 (.bipush 10) 2 3 := ⟨by decide +kernel, rfl⟩
theorem e_X11_table_3 : g_dc cX11_table 3 (.sipush 200) 3 6 := ⟨by decide +kernel, rfl⟩
theorem e_X11_table_6 : g_dc cX11_table 6 (.invokestatic 165) 3 9 := ⟨by decide +kernel, rfl⟩
theorem e_X11_table_9 : g_dc cX11_table 9 (.ifCond .eq 13) 3 12 := ⟨by decide +kernel, rfl⟩
theorem e_X11_table_12 : g_dc cX11_table 12 (.iload_n 2) 1 13 := ⟨by decide +kernel, rfl⟩
theorem e_X11_table_13 : g_dc cX11_table 13 (.iconst 0) 1 14 := ⟨by decide +kernel, rfl⟩
theorem e_X11_table_14 : g_dc cX11_table 14 (.bipush 63) 2 16 := ⟨by decide +kernel, rfl⟩
theorem e_X11_table_16 : g_dc cX11_table 16 (.invokestatic 165) 3 19 := ⟨by decide +kernel, rfl⟩
theorem e_X11_table_19 : g_dc cX11_table 19 (.ifCond .ne 5) 3 22 := ⟨by decide +kernel, rfl⟩
theorem e_X11_table_22 : g_dc cX11_table 22 (.iconst 0) 1 23 := ⟨by decide +kernel, rfl⟩
theorem e_X11_table_23 : g_dc cX11_table 23 (.ireturn) 1 24 := ⟨by decide +kernel, rfl⟩
theorem e_X11_table_24 : g_dc cX11_table 24 (.aload_n 0) 1 25 := ⟨by decide +kernel, rfl⟩
theorem e_X11_table_25 : g_dc cX11_table 25 (.iload_n 1) 1 26 := ⟨by decide +kernel, rfl⟩
theorem e_X11_table_26 : g_dc cX11_table 26 (.putfield 155) 3 29 := ⟨by decide +kernel, rfl⟩
theorem e_X11_table_29 : g_dc cX11_table 29 (.aload_n 0) 1 30 := ⟨by decide +kernel, rfl⟩
theorem e_X11_table_30 : g_dc cX11_table 30 (.iload_n 1) 1 31 := ⟨by decide +kernel, rfl⟩
theorem e_X11_table_31 : g_dc cX11_table 31 (.putfield 159) 3 34 := ⟨by decide +kernel, rfl⟩
theorem e_X11_table_34 : g_dc cX11_table 34 (.aload_n 0) 1 35 := ⟨by decide +kernel, rfl⟩
theorem e_X11_table_35 : g_dc cX11_table 35 (.iload_n 2) 1 36 := ⟨by decide +kernel, rfl⟩
theorem e_X11_table_36 : g_dc cX11_table 36 (.putfield 169) 3 39 := ⟨by decide +kernel, rfl⟩
theorem e_X11_table_39 : g_dc cX11_table 39 (.aload_n 0) 1 40 := ⟨by decide +kernel, rfl⟩
theorem e_X11_table_40 : g_dc cX11_table 40 (.iconst 0) 1 41 := ⟨by decide +kernel, rfl⟩
theorem e_X11_table_41 : g_dc cX11_table 41 (.putfield 172) 3 44 := ⟨by decide +kernel, rfl⟩
theorem e_X11_table_44 : g_dc cX11_table 44 (.iconst 1) 1 45 := ⟨by decide +kernel, rfl⟩
theorem e_X11_table_45 : g_dc cX11_table 45 (.ireturn) 1 46 := ⟨by decide +kernel, rfl⟩
def md_X11_table : List Nat := [0, 1, 2, 4]
def mr_X11_table : List Nat := []
set_option maxHeartbeats 4000000 in
set_option maxRecDepth 100000 in
theorem w_X11_table (l : Launch) (X : gX) (ad : Nat → Nat) (F : Nat → Int32) (R : Nat → Nat → Int32) (hI : g_ok LK_wM F) (hA : g_okR LA_wM R) (hWT : WT F R) (hWC : WC F R) (a0 : Int32) (a1 : Int32) : g_Ci l X yX11_table cX11_table 3 (some .boolean) 2 0 0 [.ref (ad 0), .int a0, .int a1] (wM X ad F R) (fun r w => ∃ (F' : Nat → Int32) (R' : Nat → Nat → Int32), w = wM X ad F' R' ∧ g_ok LK_wM F' ∧ g_okR LA_wM R' ∧ WT F' R' ∧ WC F' R' ∧ g_fr md_X11_table F F' ∧ g_fr mr_X11_table R R' ∧ jv 0 1 r ∧ (r, F', R') = sp_X11_table F R a0 a1) := by
  refine g_mi (by decide +kernel) (Nat.le_of_ble_eq_true rfl) (fun E cx hret => ?_)
  obtain ⟨SP, hSP⟩ : ∃ z, z = sp_X11_table F R a0 a1 := ⟨_, rfl⟩
  have hk0 := hSP
  unfold sp_X11_table at hk0
  refine g_iload_n cx 1 rfl e_X11_table_0 ?_
  refine g_bipush cx 10 (by decide) e_X11_table_1 ?_
  refine g_sipush cx 200 (by decide) e_X11_table_3 ?_
  refine g_cSiW cx [.int a0, .int 10, .int 200] [] (c_X11_in l X (wM X ad F R) a0 10 200) ml_X11_165 yS_X11_in rfl e_X11_table_6 (by unfold g_rr; decide) (by decide) rfl (Nat.le_of_ble_eq_true rfl) (fun r1 w2 h3 => ?_)
  obtain ⟨rfl, hr1⟩ := h3
  have pr1 : jv 0 1 r1 := by rw [hr1]; exact gi_01 _ _ _
  have hk4 := k_ls hk0 hr1
  have J22 : (SP = K_X11_table_22 F R) → G X E 3 0 0 (wM X ad F R) [] 22 [] := by
    intro   hkJ22
    unfold K_X11_table_22 at hkJ22
    refine g_iconst cx 0 (by decide) e_X11_table_22 ?_
    exact hret e_X11_table_23 (Nat.le_of_ble_eq_true rfl) (Nat.le_of_ble_eq_true rfl) rfl ⟨F, R, rfl, hI, hA, hWT, hWC, (g_fr_rf F), (g_fr_rf R), (jv_w (jv_k (x := 0) 0 (by decide)) (by decide)), (hkJ22.symm.trans hSP)⟩
  refine g_if_eq cx 22 e_X11_table_9 (by decide) (fun zc5 => ?_) (fun zc5 => ?_)
  · have p6 := gn_eq 0 0 (gc_eq zc5) pr1 (jv_k (x := 0) 0 (by decide)) (by decide)
    have hk7 := hk4.trans (if_pos zc5)
    refine g_lsub [] [] rfl ?_
    exact J22  hk7
  · have p8 := gn_neL 1 1 (gc_ne zc5) pr1 (jv_k (x := 0) 0 (by decide)) (by decide)
    have p9 := jv_i 10 200 (jv_t a0) (gi_in (A := 10) (B := 200) hr1 zc5 (by decide) (by decide)) (by decide)
    have hk10 := hk4.trans (if_neg zc5)
    refine g_iload_n cx 2 rfl e_X11_table_12 ?_
    refine g_iconst cx 0 (by decide) e_X11_table_13 ?_
    refine g_bipush cx 63 (by decide) e_X11_table_14 ?_
    refine g_cSiW cx [.int a1, .int 0, .int 63] [] (c_X11_in l X (wM X ad F R) a1 0 63) ml_X11_165 yS_X11_in rfl e_X11_table_16 (by unfold g_rr; decide) (by decide) rfl (Nat.le_of_ble_eq_true rfl) (fun r11 w12 h13 => ?_)
    obtain ⟨rfl, hr11⟩ := h13
    have pr11 : jv 0 1 r11 := by rw [hr11]; exact gi_01 _ _ _
    have hk14 := k_ls hk10 hr11
    refine g_if_ne cx 24 e_X11_table_19 (by decide) (fun zc15 => ?_) (fun zc15 => ?_)
    · have p16 := gn_neL 1 1 (gc_ne zc15) pr11 (jv_k (x := 0) 0 (by decide)) (by decide)
      have p17 := jv_i 0 63 (jv_t a1) (gi_in (A := 0) (B := 63) hr11 zc15 (by decide) (by decide)) (by decide)
      have hk18 := hk14.trans (if_neg zc15)
      refine g_aload_n cx 0 rfl e_X11_table_24 ?_
      refine g_iload_n cx 1 rfl e_X11_table_25 ?_
      refine g_put cx cl_X11 fl_X11_155 0 (wM X ad (upd F 0 a0) R) e_X11_table_26 rfl rfl rfl rfl (Nat.le_of_ble_eq_true rfl) rfl ?_
      obtain ⟨F19, hF19⟩ : ∃ z, z = upd F 0 a0 := ⟨_, rfl⟩
      rw [← hF19]
      have hk20 := k_ls hk18 hF19
      have oF19 : g_ok LK_wM F19 := by rw [hF19]; exact g_ok_u hI rfl
      have fF19 : g_fr md_X11_table F F19 := by rw [hF19]; exact g_fr_u (g_fr_rf F) rfl
      have wTF19 : WT F19 R := by rw [hF19]; exact WT_u hWT rfl
      have wCF19 : WC F19 R := by rw [hF19]; exact WC_u hWC rfl
      refine g_aload_n cx 0 rfl e_X11_table_29 ?_
      refine g_iload_n cx 1 rfl e_X11_table_30 ?_
      refine g_put cx cl_X11 fl_X11_159 0 (wM X ad (upd F19 1 a0) R) e_X11_table_31 rfl rfl rfl rfl (Nat.le_of_ble_eq_true rfl) rfl ?_
      obtain ⟨F21, hF21⟩ : ∃ z, z = upd F19 1 a0 := ⟨_, rfl⟩
      rw [← hF21]
      have hk22 := k_ls hk20 hF21
      have oF21 : g_ok LK_wM F21 := by rw [hF21]; exact g_ok_u oF19 rfl
      have fF21 : g_fr md_X11_table F F21 := by rw [hF21]; exact g_fr_u fF19 rfl
      have wTF21 : WT F21 R := by rw [hF21]; exact WT_u wTF19 rfl
      have wCF21 : WC F21 R := by rw [hF21]; exact WC_u wCF19 rfl
      refine g_aload_n cx 0 rfl e_X11_table_34 ?_
      refine g_iload_n cx 2 rfl e_X11_table_35 ?_
      refine g_put cx cl_X11 fl_X11_169 0 (wM X ad (upd F21 2 a1) R) e_X11_table_36 rfl rfl rfl rfl (Nat.le_of_ble_eq_true rfl) rfl ?_
      obtain ⟨F23, hF23⟩ : ∃ z, z = upd F21 2 a1 := ⟨_, rfl⟩
      rw [← hF23]
      have hk24 := k_ls hk22 hF23
      have oF23 : g_ok LK_wM F23 := by rw [hF23]; exact g_ok_u oF21 rfl
      have fF23 : g_fr md_X11_table F F23 := by rw [hF23]; exact g_fr_u fF21 rfl
      have wTF23 : WT F23 R := by rw [hF23]; exact WT_u wTF21 rfl
      have wCF23 : WC F23 R := by rw [hF23]; exact WC_u wCF21 rfl
      refine g_aload_n cx 0 rfl e_X11_table_39 ?_
      refine g_iconst cx 0 (by decide) e_X11_table_40 ?_
      refine g_put cx cl_X11 fl_X11_172 0 (wM X ad (upd F23 4 0) R) e_X11_table_41 rfl rfl rfl rfl (Nat.le_of_ble_eq_true rfl) rfl ?_
      obtain ⟨F25, hF25⟩ : ∃ z, z = upd F23 4 0 := ⟨_, rfl⟩
      rw [← hF25]
      have hk26 := k_ls hk24 hF25
      have oF25 : g_ok LK_wM F25 := by rw [hF25]; exact g_ok_u oF23 rfl
      have fF25 : g_fr md_X11_table F F25 := by rw [hF25]; exact g_fr_u fF23 rfl
      have wTF25 : WT F25 R := by rw [hF25]; exact WT_0 wTF23
      have wCF25 : WC F25 R := by rw [hF25]; exact WC_u wCF23 rfl
      refine g_iconst cx 1 (by decide) e_X11_table_44 ?_
      exact hret e_X11_table_45 (Nat.le_of_ble_eq_true rfl) (Nat.le_of_ble_eq_true rfl) rfl ⟨F25, R, rfl, oF25, hA, wTF25, wCF25, fF25, (g_fr_rf R), (jv_w (jv_k (x := 1) 1 (by decide)) (by decide)), (hk26.symm.trans hSP)⟩
    · have p27 := gn_eq 0 0 (gc_eq zc15) pr11 (jv_k (x := 0) 0 (by decide)) (by decide)
      have hk28 := hk14.trans (if_pos zc15)
      refine g_lsub [] [] rfl ?_
      exact J22  hk28
def sp_X11_cloth (F : Nat → Int32) (R : Nat → Nat → Int32) (a0 : Int32) : Int32 × (Nat → Int32) × (Nat → Nat → Int32) :=
  k_lt (g_in a0 0 (F 0)) (fun r1 => if r1 = 0 then (0, F, R) else k_lt (upd F 1 a0) (fun F10 => (1, F10, R)))
theorem e_X11_cloth_0 : g_dc cX11_cloth 0 (.iload_n 1) 1 1 := ⟨by decide +kernel, rfl⟩
theorem e_X11_cloth_1 : g_dc cX11_cloth 1 (.iconst 0) 1 2 := ⟨by decide +kernel, rfl⟩
theorem e_X11_cloth_2 : g_dc cX11_cloth 2 (.aload_n 0) 1 3 := ⟨by decide +kernel, rfl⟩
theorem e_X11_cloth_3 : g_dc cX11_cloth 3 (.getfield 155) 3 6 := ⟨by decide +kernel, rfl⟩
theorem e_X11_cloth_6 : g_dc cX11_cloth 6 (.invokestatic 165) 3 9 := ⟨by decide +kernel, rfl⟩
theorem e_X11_cloth_9 : g_dc cX11_cloth 9 (.ifCond .ne 5) 3 12 := ⟨by decide +kernel, rfl⟩
theorem e_X11_cloth_12 : g_dc cX11_cloth 12 (.iconst 0) 1 13 := ⟨by decide +kernel, rfl⟩
theorem e_X11_cloth_13 : g_dc cX11_cloth 13 (.ireturn) 1 14 := ⟨by decide +kernel, rfl⟩
theorem e_X11_cloth_14 : g_dc cX11_cloth 14 (.aload_n 0) 1 15 := ⟨by decide +kernel, rfl⟩
theorem e_X11_cloth_15 : g_dc cX11_cloth 15 (.iload_n 1) 1 16 := ⟨by decide +kernel, rfl⟩
theorem e_X11_cloth_16 : g_dc cX11_cloth 16 (.putfield 159) 3 19 := ⟨by decide +kernel, rfl⟩
theorem e_X11_cloth_19 : g_dc cX11_cloth 19 (.iconst 1) 1 20 := ⟨by decide +kernel, rfl⟩
theorem e_X11_cloth_20 : g_dc cX11_cloth 20 (.ireturn) 1 21 := ⟨by decide +kernel, rfl⟩
def md_X11_cloth : List Nat := [1]
def mr_X11_cloth : List Nat := []
set_option maxHeartbeats 4000000 in
set_option maxRecDepth 100000 in
theorem w_X11_cloth (l : Launch) (X : gX) (ad : Nat → Nat) (F : Nat → Int32) (R : Nat → Nat → Int32) (hI : g_ok LK_wM F) (hA : g_okR LA_wM R) (hWT : WT F R) (hWC : WC F R) (a0 : Int32) : g_Ci l X yX11_cloth cX11_cloth 2 (some .boolean) 2 0 0 [.ref (ad 0), .int a0] (wM X ad F R) (fun r w => ∃ (F' : Nat → Int32) (R' : Nat → Nat → Int32), w = wM X ad F' R' ∧ g_ok LK_wM F' ∧ g_okR LA_wM R' ∧ WT F' R' ∧ WC F' R' ∧ g_fr md_X11_cloth F F' ∧ g_fr mr_X11_cloth R R' ∧ jv 0 1 r ∧ (r, F', R') = sp_X11_cloth F R a0) := by
  refine g_mi (by decide +kernel) (Nat.le_of_ble_eq_true rfl) (fun E cx hret => ?_)
  obtain ⟨SP, hSP⟩ : ∃ z, z = sp_X11_cloth F R a0 := ⟨_, rfl⟩
  have hk0 := hSP
  unfold sp_X11_cloth at hk0
  refine g_iload_n cx 1 rfl e_X11_cloth_0 ?_
  refine g_iconst cx 0 (by decide) e_X11_cloth_1 ?_
  refine g_aload_n cx 0 rfl e_X11_cloth_2 ?_
  refine g_get cx cl_X11 fl_X11_155 0 (.int (F 0)) e_X11_cloth_3 rfl rfl ?_
  refine g_cSiW cx [.int a0, .int 0, .int (F 0)] [] (c_X11_in l X (wM X ad F R) a0 0 (F 0)) ml_X11_165 yS_X11_in rfl e_X11_cloth_6 (by unfold g_rr; decide) (by decide) rfl (Nat.le_of_ble_eq_true rfl) (fun r1 w2 h3 => ?_)
  obtain ⟨rfl, hr1⟩ := h3
  have pr1 : jv 0 1 r1 := by rw [hr1]; exact gi_01 _ _ _
  have hk4 := k_ls hk0 hr1
  refine g_if_ne cx 14 e_X11_cloth_9 (by decide) (fun zc5 => ?_) (fun zc5 => ?_)
  · have p6 := gn_neL 1 1 (gc_ne zc5) pr1 (jv_k (x := 0) 0 (by decide)) (by decide)
    have p7 := gn_ge 0 2147483647 (gi_le hr1 zc5).1 (jv_t a0) (jv_k (x := 0) 0 (by decide)) (by decide)
    have p8 := gn_ge 0 2147483647 (gi_le hr1 zc5).2 (jv_t (F 0)) p7 (by decide)
    have hk9 := hk4.trans (if_neg zc5)
    refine g_aload_n cx 0 rfl e_X11_cloth_14 ?_
    refine g_iload_n cx 1 rfl e_X11_cloth_15 ?_
    refine g_put cx cl_X11 fl_X11_159 0 (wM X ad (upd F 1 a0) R) e_X11_cloth_16 rfl rfl rfl rfl (Nat.le_of_ble_eq_true rfl) rfl ?_
    obtain ⟨F10, hF10⟩ : ∃ z, z = upd F 1 a0 := ⟨_, rfl⟩
    rw [← hF10]
    have hk11 := k_ls hk9 hF10
    have oF10 : g_ok LK_wM F10 := by rw [hF10]; exact g_ok_u hI rfl
    have fF10 : g_fr md_X11_cloth F F10 := by rw [hF10]; exact g_fr_u (g_fr_rf F) rfl
    have wTF10 : WT F10 R := by rw [hF10]; exact WT_u hWT rfl
    have wCF10 : WC F10 R := by rw [hF10]; exact WC_u hWC rfl
    refine g_iconst cx 1 (by decide) e_X11_cloth_19 ?_
    exact hret e_X11_cloth_20 (Nat.le_of_ble_eq_true rfl) (Nat.le_of_ble_eq_true rfl) rfl ⟨F10, R, rfl, oF10, hA, wTF10, wCF10, fF10, (g_fr_rf R), (jv_w (jv_k (x := 1) 1 (by decide)) (by decide)), (hk11.symm.trans hSP)⟩
  · have p12 := gn_eq 0 0 (gc_eq zc5) pr1 (jv_k (x := 0) 0 (by decide)) (by decide)
    have hk13 := hk4.trans (if_pos zc5)
    refine g_iconst cx 0 (by decide) e_X11_cloth_12 ?_
    exact hret e_X11_cloth_13 (Nat.le_of_ble_eq_true rfl) (Nat.le_of_ble_eq_true rfl) rfl ⟨F, R, rfl, hI, hA, hWT, hWC, (g_fr_rf F), (g_fr_rf R), (jv_w (jv_k (x := 0) 0 (by decide)) (by decide)), (hk13.symm.trans hSP)⟩
def K_X11_thing_66 (F : Nat → Int32) (R : Nat → Nat → Int32)  : Int32 × (Nat → Int32) × (Nat → Nat → Int32) :=
  (0, F, R)
def sp_X11_thing (F : Nat → Int32) (R : Nat → Nat → Int32) (a0 : Int32) (a1 : Int32) (a2 : Int32) (a3 : Int32) (a4 : Int32) (a5 : Int32) : Int32 × (Nat → Int32) × (Nat → Nat → Int32) :=
  k_lt (g_in a0 0 9) (fun r1 => if r1 = 0 then K_X11_thing_66 F R else k_lt (g_in a1 0 3) (fun r11 => if r11 = 0 then K_X11_thing_66 F R else k_lt ((F 0) - 1) (fun x21 => k_lt (g_in a2 0 x21) (fun r23 => if r23 = 0 then K_X11_thing_66 F R else k_lt (g_in a3 1 40) (fun r34 => if r34 = 0 then K_X11_thing_66 F R else k_lt (g_in a4 1 60) (fun r44 => if r44 = 0 then K_X11_thing_66 F R else k_lt (g_in a5 1 99) (fun r54 => if r54 = 0 then K_X11_thing_66 F R else k_lt (1 <<< (a0 &&& 31)) (fun x62 => k_lt ((F 4) ||| x62) (fun x64 => k_lt (upd F 4 x64) (fun F66 => k_lt (g_u R 1 (upd (R 1) (Int32.toNatClampNeg a0) a1)) (fun R68 => k_lt (g_u R68 2 (upd (R68 2) (Int32.toNatClampNeg a0) a2)) (fun R70 => k_lt (g_u R70 3 (upd (R70 3) (Int32.toNatClampNeg a0) a3)) (fun R72 => k_lt (g_u R72 4 (upd (R72 4) (Int32.toNatClampNeg a0) a4)) (fun R74 => k_lt (g_u R74 5 (upd (R74 5) (Int32.toNatClampNeg a0) a5)) (fun R76 => k_lt (g_u R76 6 (upd (R76 6) (Int32.toNatClampNeg a0) 0)) (fun R78 => k_lt (g_u R78 7 (upd (R78 7) (Int32.toNatClampNeg a0) 0)) (fun R80 => k_lt (g_u R80 8 (upd (R80 8) (Int32.toNatClampNeg a0) 0)) (fun R82 => (1, F66, R82)))))))))))))))))))
theorem e_X11_thing_0 : g_dc cX11_thing 0 (.iload_n 1) 1 1 := ⟨by decide +kernel, rfl⟩
theorem e_X11_thing_1 : g_dc cX11_thing 1 (.iconst 0) 1 2 := ⟨by decide +kernel, rfl⟩
theorem e_X11_thing_2 : g_dc cX11_thing 2 (.bipush 9) 2 4 := ⟨by decide +kernel, rfl⟩
theorem e_X11_thing_4 : g_dc cX11_thing 4 (.invokestatic 165) 3 7 := ⟨by decide +kernel, rfl⟩
theorem e_X11_thing_7 : g_dc cX11_thing 7 (.ifCond .eq 59) 3 10 := ⟨by decide +kernel, rfl⟩
theorem e_X11_thing_10 : g_dc cX11_thing 10 (.iload_n 2) 1 11 := ⟨by decide +kernel, rfl⟩
theorem e_X11_thing_11 : g_dc cX11_thing 11 (.iconst 0) 1 12 := ⟨by decide +kernel, rfl⟩
theorem e_X11_thing_12 : g_dc cX11_thing 12 (.iconst 3) 1 13 := ⟨by decide +kernel, rfl⟩
theorem e_X11_thing_13 : g_dc cX11_thing 13 (.invokestatic 165) 3 16 := ⟨by decide +kernel, rfl⟩
theorem e_X11_thing_16 : g_dc cX11_thing 16 (.ifCond .eq 50) 3 19 := ⟨by decide +kernel, rfl⟩
theorem e_X11_thing_19 : g_dc cX11_thing 19 (.iload_n 3) 1 20 := ⟨by decide +kernel, rfl⟩
theorem e_X11_thing_20 : g_dc cX11_thing 20 (.iconst 0) 1 21 := ⟨by decide +kernel, rfl⟩
theorem e_X11_thing_21 : g_dc cX11_thing 21 (.aload_n 0) 1 22 := ⟨by decide +kernel, rfl⟩
theorem e_X11_thing_22 : g_dc cX11_thing 22 (.getfield 155) 3 25 := ⟨by decide +kernel, rfl⟩
theorem e_X11_thing_25 : g_dc cX11_thing 25 (.iconst 1) 1 26 := ⟨by decide +kernel, rfl⟩
theorem e_X11_thing_26 : g_dc cX11_thing 26 (.isub) 1 27 := ⟨by decide +kernel, rfl⟩
theorem e_X11_thing_27 : g_dc cX11_thing 27 (.invokestatic 165) 3 30 := ⟨by decide +kernel, rfl⟩
theorem e_X11_thing_30 : g_dc cX11_thing 30 (.ifCond .eq 36) 3 33 := ⟨by decide +kernel, rfl⟩
theorem e_X11_thing_33 : g_dc cX11_thing 33 (.iload 4) 2 35 := ⟨by decide +kernel, rfl⟩
theorem e_X11_thing_35 : g_dc cX11_thing 35 (.iconst 1) 1 36 := ⟨by decide +kernel, rfl⟩
theorem e_X11_thing_36 : g_dc cX11_thing 36 (.bipush 40) 2 38 := ⟨by decide +kernel, rfl⟩
theorem e_X11_thing_38 : g_dc cX11_thing 38 (.invokestatic 165) 3 41 := ⟨by decide +kernel, rfl⟩
theorem e_X11_thing_41 : g_dc cX11_thing 41 (.ifCond .eq 25) 3 44 := ⟨by decide +kernel, rfl⟩
theorem e_X11_thing_44 : g_dc cX11_thing 44 (.iload 5) 2 46 := ⟨by decide +kernel, rfl⟩
theorem e_X11_thing_46 : g_dc cX11_thing 46 (.iconst 1) 1 47 := ⟨by decide +kernel, rfl⟩
theorem e_X11_thing_47 : g_dc cX11_thing 47 (.bipush 60) 2 49 := ⟨by decide +kernel, rfl⟩
theorem e_X11_thing_49 : g_dc cX11_thing 49 (.invokestatic 165) 3 52 := ⟨by decide +kernel, rfl⟩
theorem e_X11_thing_52 : g_dc cX11_thing 52 (.ifCond .eq 14) 3 55 := ⟨by decide +kernel, rfl⟩
theorem e_X11_thing_55 : g_dc cX11_thing 55 (.iload 6) 2 57 := ⟨by decide +kernel, rfl⟩
theorem e_X11_thing_57 : g_dc cX11_thing 57 (.iconst 1) 1 58 := ⟨by decide +kernel, rfl⟩
theorem e_X11_thing_58 : g_dc cX11_thing 58 (.bipush 99) 2 60 := ⟨by decide +kernel, rfl⟩
theorem e_X11_thing_60 : g_dc cX11_thing 60 (.invokestatic 165) 3 63 := ⟨by decide +kernel, rfl⟩
theorem e_X11_thing_63 : g_dc cX11_thing 63 (.ifCond .ne 5) 3 66 := ⟨by decide +kernel, rfl⟩
theorem e_X11_thing_66 : g_dc cX11_thing 66 (.iconst 0) 1 67 := ⟨by decide +kernel, rfl⟩
theorem e_X11_thing_67 : g_dc cX11_thing 67 (.ireturn) 1 68 := ⟨by decide +kernel, rfl⟩
theorem e_X11_thing_68 : g_dc cX11_thing 68 (.aload_n 0) 1 69 := ⟨by decide +kernel, rfl⟩
theorem e_X11_thing_69 : g_dc cX11_thing 69 (.aload_n 0) 1 70 := ⟨by decide +kernel, rfl⟩
theorem e_X11_thing_70 : g_dc cX11_thing 70 (.getfield 172) 3 73 := ⟨by decide +kernel, rfl⟩
theorem e_X11_thing_73 : g_dc cX11_thing 73 (.iconst 1) 1 74 := ⟨by decide +kernel, rfl⟩
theorem e_X11_thing_74 : g_dc cX11_thing 74 (.iload_n 1) 1 75 := ⟨by decide +kernel, rfl⟩
theorem e_X11_thing_75 : g_dc cX11_thing 75 (.ishl) 1 76 := ⟨by decide +kernel, rfl⟩
theorem e_X11_thing_76 : g_dc cX11_thing 76 (.ior) 1 77 := ⟨by decide +kernel, rfl⟩
theorem e_X11_thing_77 : g_dc cX11_thing 77 (.putfield 172) 3 80 := ⟨by decide +kernel, rfl⟩
theorem e_X11_thing_80 : g_dc cX11_thing 80 (.aload_n 0) 1 81 := ⟨by decide +kernel, rfl⟩
theorem e_X11_thing_81 : g_dc cX11_thing 81 (.getfield 7) 3 84 := ⟨by decide +kernel, rfl⟩
theorem e_X11_thing_84 : g_dc cX11_thing 84 (.iload_n 1) 1 85 := ⟨by decide +kernel, rfl⟩
theorem e_X11_thing_85 : g_dc cX11_thing 85 (.iload_n 2) 1 86 := ⟨by decide +kernel, rfl⟩
theorem e_X11_thing_86 : g_dc cX11_thing 86 (.iastore) 1 87 := ⟨by decide +kernel, rfl⟩
theorem e_X11_thing_87 : g_dc cX11_thing 87 (.aload_n 0) 1 88 := ⟨by decide +kernel, rfl⟩
theorem e_X11_thing_88 : g_dc cX11_thing 88 (.getfield 13) 3 91 := ⟨by decide +kernel, rfl⟩
theorem e_X11_thing_91 : g_dc cX11_thing 91 (.iload_n 1) 1 92 := ⟨by decide +kernel, rfl⟩
theorem e_X11_thing_92 : g_dc cX11_thing 92 (.iload_n 3) 1 93 := ⟨by decide +kernel, rfl⟩
theorem e_X11_thing_93 : g_dc cX11_thing 93 (.iastore) 1 94 := ⟨by decide +kernel, rfl⟩
theorem e_X11_thing_94 : g_dc cX11_thing 94 (.aload_n 0) 1 95 := ⟨by decide +kernel, rfl⟩
theorem e_X11_thing_95 : g_dc cX11_thing 95 (.getfield 16) 3 98 := ⟨by decide +kernel, rfl⟩
theorem e_X11_thing_98 : g_dc cX11_thing 98 (.iload_n 1) 1 99 := ⟨by decide +kernel, rfl⟩
theorem e_X11_thing_99 : g_dc cX11_thing 99 (.iload 4) 2 101 := ⟨by decide +kernel, rfl⟩
theorem e_X11_thing_101 : g_dc cX11_thing 101 (.iastore) 1 102 := ⟨by decide +kernel, rfl⟩
theorem e_X11_thing_102 : g_dc cX11_thing 102 (.aload_n 0) 1 103 := ⟨by decide +kernel, rfl⟩
theorem e_X11_thing_103 : g_dc cX11_thing 103 (.getfield 19) 3 106 := ⟨by decide +kernel, rfl⟩
theorem e_X11_thing_106 : g_dc cX11_thing 106 (.iload_n 1) 1 107 := ⟨by decide +kernel, rfl⟩
theorem e_X11_thing_107 : g_dc cX11_thing 107 (.iload 5) 2 109 := ⟨by decide +kernel, rfl⟩
theorem e_X11_thing_109 : g_dc cX11_thing 109 (.iastore) 1 110 := ⟨by decide +kernel, rfl⟩
theorem e_X11_thing_110 : g_dc cX11_thing 110 (.aload_n 0) 1 111 := ⟨by decide +kernel, rfl⟩
theorem e_X11_thing_111 : g_dc cX11_thing 111 (.getfield 22) 3 114 := ⟨by decide +kernel, rfl⟩
theorem e_X11_thing_114 : g_dc cX11_thing 114 (.iload_n 1) 1 115 := ⟨by decide +kernel, rfl⟩
theorem e_X11_thing_115 : g_dc cX11_thing 115 (.iload 6) 2 117 := ⟨by decide +kernel, rfl⟩
theorem e_X11_thing_117 : g_dc cX11_thing 117 (.iastore) 1 118 := ⟨by decide +kernel, rfl⟩
theorem e_X11_thing_118 : g_dc cX11_thing 118 (.aload_n 0) 1 119 := ⟨by decide +kernel, rfl⟩
theorem e_X11_thing_119 : g_dc cX11_thing 119 (.getfield 25) 3 122 := ⟨by decide +kernel, rfl⟩
theorem e_X11_thing_122 : g_dc cX11_thing 122 (.iload_n 1) 1 123 := ⟨by decide +kernel, rfl⟩
theorem e_X11_thing_123 : g_dc cX11_thing 123 (.iconst 0) 1 124 := ⟨by decide +kernel, rfl⟩
theorem e_X11_thing_124 : g_dc cX11_thing 124 (.iastore) 1 125 := ⟨by decide +kernel, rfl⟩
theorem e_X11_thing_125 : g_dc cX11_thing 125 (.aload_n 0) 1 126 := ⟨by decide +kernel, rfl⟩
theorem e_X11_thing_126 : g_dc cX11_thing 126 (.getfield 28) 3 129 := ⟨by decide +kernel, rfl⟩
theorem e_X11_thing_129 : g_dc cX11_thing 129 (.iload_n 1) 1 130 := ⟨by decide +kernel, rfl⟩
theorem e_X11_thing_130 : g_dc cX11_thing 130 (.iconst 0) 1 131 := ⟨by decide +kernel, rfl⟩
theorem e_X11_thing_131 : g_dc cX11_thing 131 (.iastore) 1 132 := ⟨by decide +kernel, rfl⟩
theorem e_X11_thing_132 : g_dc cX11_thing 132 (.aload_n 0) 1 133 := ⟨by decide +kernel, rfl⟩
theorem e_X11_thing_133 : g_dc cX11_thing 133 (.getfield 31) 3 136 := ⟨by decide +kernel, rfl⟩
theorem e_X11_thing_136 : g_dc cX11_thing 136 (.iload_n 1) 1 137 := ⟨by decide +kernel, rfl⟩
theorem e_X11_thing_137 : g_dc cX11_thing 137 (.iconst 0) 1 138 := ⟨by decide +kernel, rfl⟩
theorem e_X11_thing_138 : g_dc cX11_thing 138 (.iastore) 1 139 := ⟨by decide +kernel, rfl⟩
theorem e_X11_thing_139 : g_dc cX11_thing 139 (.iconst 1) 1 140 := ⟨by decide +kernel, rfl⟩
theorem e_X11_thing_140 : g_dc cX11_thing 140 (.ireturn) 1 141 := ⟨by decide +kernel, rfl⟩
def md_X11_thing : List Nat := [4]
def mr_X11_thing : List Nat := [1, 2, 3, 4, 5, 6, 7, 8]
set_option maxHeartbeats 4000000 in
set_option maxRecDepth 100000 in
theorem w_X11_thing (l : Launch) (X : gX) (ad : Nat → Nat) (F : Nat → Int32) (R : Nat → Nat → Int32) (hI : g_ok LK_wM F) (hA : g_okR LA_wM R) (hWT : WT F R) (hWC : WC F R) (a0 : Int32) (a1 : Int32) (a2 : Int32) (a3 : Int32) (a4 : Int32) (a5 : Int32) : g_Ci l X yX11_thing cX11_thing 7 (some .boolean) 2 0 0 [.ref (ad 0), .int a0, .int a1, .int a2, .int a3, .int a4, .int a5] (wM X ad F R) (fun r w => ∃ (F' : Nat → Int32) (R' : Nat → Nat → Int32), w = wM X ad F' R' ∧ g_ok LK_wM F' ∧ g_okR LA_wM R' ∧ WT F' R' ∧ WC F' R' ∧ g_fr md_X11_thing F F' ∧ g_fr mr_X11_thing R R' ∧ jv 0 1 r ∧ (r, F', R') = sp_X11_thing F R a0 a1 a2 a3 a4 a5) := by
  refine g_mi (by decide +kernel) (Nat.le_of_ble_eq_true rfl) (fun E cx hret => ?_)
  obtain ⟨SP, hSP⟩ : ∃ z, z = sp_X11_thing F R a0 a1 a2 a3 a4 a5 := ⟨_, rfl⟩
  have hk0 := hSP
  unfold sp_X11_thing at hk0
  refine g_iload_n cx 1 rfl e_X11_thing_0 ?_
  refine g_iconst cx 0 (by decide) e_X11_thing_1 ?_
  refine g_bipush cx 9 (by decide) e_X11_thing_2 ?_
  refine g_cSiW cx [.int a0, .int 0, .int 9] [] (c_X11_in l X (wM X ad F R) a0 0 9) ml_X11_165 yS_X11_in rfl e_X11_thing_4 (by unfold g_rr; decide) (by decide) rfl (Nat.le_of_ble_eq_true rfl) (fun r1 w2 h3 => ?_)
  obtain ⟨rfl, hr1⟩ := h3
  have pr1 : jv 0 1 r1 := by rw [hr1]; exact gi_01 _ _ _
  have hk4 := k_ls hk0 hr1
  have J66 : (SP = K_X11_thing_66 F R) → G X E 7 0 0 (wM X ad F R) [] 66 [] := by
    intro   hkJ66
    unfold K_X11_thing_66 at hkJ66
    refine g_iconst cx 0 (by decide) e_X11_thing_66 ?_
    exact hret e_X11_thing_67 (Nat.le_of_ble_eq_true rfl) (Nat.le_of_ble_eq_true rfl) rfl ⟨F, R, rfl, hI, hA, hWT, hWC, (g_fr_rf F), (g_fr_rf R), (jv_w (jv_k (x := 0) 0 (by decide)) (by decide)), (hkJ66.symm.trans hSP)⟩
  refine g_if_eq cx 66 e_X11_thing_7 (by decide) (fun zc5 => ?_) (fun zc5 => ?_)
  · have p6 := gn_eq 0 0 (gc_eq zc5) pr1 (jv_k (x := 0) 0 (by decide)) (by decide)
    have hk7 := hk4.trans (if_pos zc5)
    refine g_lsub [] [] rfl ?_
    exact J66  hk7
  · have p8 := gn_neL 1 1 (gc_ne zc5) pr1 (jv_k (x := 0) 0 (by decide)) (by decide)
    have p9 := jv_i 0 9 (jv_t a0) (gi_in (A := 0) (B := 9) hr1 zc5 (by decide) (by decide)) (by decide)
    have hk10 := hk4.trans (if_neg zc5)
    refine g_iload_n cx 2 rfl e_X11_thing_10 ?_
    refine g_iconst cx 0 (by decide) e_X11_thing_11 ?_
    refine g_iconst cx 3 (by decide) e_X11_thing_12 ?_
    refine g_cSiW cx [.int a1, .int 0, .int 3] [] (c_X11_in l X (wM X ad F R) a1 0 3) ml_X11_165 yS_X11_in rfl e_X11_thing_13 (by unfold g_rr; decide) (by decide) rfl (Nat.le_of_ble_eq_true rfl) (fun r11 w12 h13 => ?_)
    obtain ⟨rfl, hr11⟩ := h13
    have pr11 : jv 0 1 r11 := by rw [hr11]; exact gi_01 _ _ _
    have hk14 := k_ls hk10 hr11
    refine g_if_eq cx 66 e_X11_thing_16 (by decide) (fun zc15 => ?_) (fun zc15 => ?_)
    · have p16 := gn_eq 0 0 (gc_eq zc15) pr11 (jv_k (x := 0) 0 (by decide)) (by decide)
      have hk17 := hk14.trans (if_pos zc15)
      refine g_lsub [] [] rfl ?_
      exact J66  hk17
    · have p18 := gn_neL 1 1 (gc_ne zc15) pr11 (jv_k (x := 0) 0 (by decide)) (by decide)
      have p19 := jv_i 0 3 (jv_t a1) (gi_in (A := 0) (B := 3) hr11 zc15 (by decide) (by decide)) (by decide)
      have hk20 := hk14.trans (if_neg zc15)
      refine g_iload_n cx 3 rfl e_X11_thing_19 ?_
      refine g_iconst cx 0 (by decide) e_X11_thing_20 ?_
      refine g_aload_n cx 0 rfl e_X11_thing_21 ?_
      refine g_get cx cl_X11 fl_X11_155 0 (.int (F 0)) e_X11_thing_22 rfl rfl ?_
      refine g_iconst cx 1 (by decide) e_X11_thing_25 ?_
      refine g_isub cx e_X11_thing_26 ?_
      refine g_topi (fun x21 ex21 => ?_)
      have hk22 := k_ls hk20 ex21
      refine g_cSiW cx [.int a2, .int 0, .int x21] [] (c_X11_in l X (wM X ad F R) a2 0 x21) ml_X11_165 yS_X11_in rfl e_X11_thing_27 (by unfold g_rr; decide) (by decide) rfl (Nat.le_of_ble_eq_true rfl) (fun r23 w24 h25 => ?_)
      obtain ⟨rfl, hr23⟩ := h25
      have pr23 : jv 0 1 r23 := by rw [hr23]; exact gi_01 _ _ _
      have hk26 := k_ls hk22 hr23
      refine g_if_eq cx 66 e_X11_thing_30 (by decide) (fun zc27 => ?_) (fun zc27 => ?_)
      · have p28 := gn_eq 0 0 (gc_eq zc27) pr23 (jv_k (x := 0) 0 (by decide)) (by decide)
        have hk29 := hk26.trans (if_pos zc27)
        refine g_lsub [] [] rfl ?_
        exact J66  hk29
      · have p30 := gn_neL 1 1 (gc_ne zc27) pr23 (jv_k (x := 0) 0 (by decide)) (by decide)
        have p31 := gn_ge 0 2147483647 (gi_le hr23 zc27).1 (jv_t a2) (jv_k (x := 0) 0 (by decide)) (by decide)
        have p32 := gn_ge 0 2147483647 (gi_le hr23 zc27).2 (jv_t x21) p31 (by decide)
        have hk33 := hk26.trans (if_neg zc27)
        refine g_iload cx 4 rfl e_X11_thing_33 ?_
        refine g_iconst cx 1 (by decide) e_X11_thing_35 ?_
        refine g_bipush cx 40 (by decide) e_X11_thing_36 ?_
        refine g_cSiW cx [.int a3, .int 1, .int 40] [] (c_X11_in l X (wM X ad F R) a3 1 40) ml_X11_165 yS_X11_in rfl e_X11_thing_38 (by unfold g_rr; decide) (by decide) rfl (Nat.le_of_ble_eq_true rfl) (fun r34 w35 h36 => ?_)
        obtain ⟨rfl, hr34⟩ := h36
        have pr34 : jv 0 1 r34 := by rw [hr34]; exact gi_01 _ _ _
        have hk37 := k_ls hk33 hr34
        refine g_if_eq cx 66 e_X11_thing_41 (by decide) (fun zc38 => ?_) (fun zc38 => ?_)
        · have p39 := gn_eq 0 0 (gc_eq zc38) pr34 (jv_k (x := 0) 0 (by decide)) (by decide)
          have hk40 := hk37.trans (if_pos zc38)
          refine g_lsub [] [] rfl ?_
          exact J66  hk40
        · have p41 := gn_neL 1 1 (gc_ne zc38) pr34 (jv_k (x := 0) 0 (by decide)) (by decide)
          have p42 := jv_i 1 40 (jv_t a3) (gi_in (A := 1) (B := 40) hr34 zc38 (by decide) (by decide)) (by decide)
          have hk43 := hk37.trans (if_neg zc38)
          refine g_iload cx 5 rfl e_X11_thing_44 ?_
          refine g_iconst cx 1 (by decide) e_X11_thing_46 ?_
          refine g_bipush cx 60 (by decide) e_X11_thing_47 ?_
          refine g_cSiW cx [.int a4, .int 1, .int 60] [] (c_X11_in l X (wM X ad F R) a4 1 60) ml_X11_165 yS_X11_in rfl e_X11_thing_49 (by unfold g_rr; decide) (by decide) rfl (Nat.le_of_ble_eq_true rfl) (fun r44 w45 h46 => ?_)
          obtain ⟨rfl, hr44⟩ := h46
          have pr44 : jv 0 1 r44 := by rw [hr44]; exact gi_01 _ _ _
          have hk47 := k_ls hk43 hr44
          refine g_if_eq cx 66 e_X11_thing_52 (by decide) (fun zc48 => ?_) (fun zc48 => ?_)
          · have p49 := gn_eq 0 0 (gc_eq zc48) pr44 (jv_k (x := 0) 0 (by decide)) (by decide)
            have hk50 := hk47.trans (if_pos zc48)
            refine g_lsub [] [] rfl ?_
            exact J66  hk50
          · have p51 := gn_neL 1 1 (gc_ne zc48) pr44 (jv_k (x := 0) 0 (by decide)) (by decide)
            have p52 := jv_i 1 60 (jv_t a4) (gi_in (A := 1) (B := 60) hr44 zc48 (by decide) (by decide)) (by decide)
            have hk53 := hk47.trans (if_neg zc48)
            refine g_iload cx 6 rfl e_X11_thing_55 ?_
            refine g_iconst cx 1 (by decide) e_X11_thing_57 ?_
            refine g_bipush cx 99 (by decide) e_X11_thing_58 ?_
            refine g_cSiW cx [.int a5, .int 1, .int 99] [] (c_X11_in l X (wM X ad F R) a5 1 99) ml_X11_165 yS_X11_in rfl e_X11_thing_60 (by unfold g_rr; decide) (by decide) rfl (Nat.le_of_ble_eq_true rfl) (fun r54 w55 h56 => ?_)
            obtain ⟨rfl, hr54⟩ := h56
            have pr54 : jv 0 1 r54 := by rw [hr54]; exact gi_01 _ _ _
            have hk57 := k_ls hk53 hr54
            refine g_if_ne cx 68 e_X11_thing_63 (by decide) (fun zc58 => ?_) (fun zc58 => ?_)
            · have p59 := gn_neL 1 1 (gc_ne zc58) pr54 (jv_k (x := 0) 0 (by decide)) (by decide)
              have p60 := jv_i 1 99 (jv_t a5) (gi_in (A := 1) (B := 99) hr54 zc58 (by decide) (by decide)) (by decide)
              have hk61 := hk57.trans (if_neg zc58)
              refine g_aload_n cx 0 rfl e_X11_thing_68 ?_
              refine g_aload_n cx 0 rfl e_X11_thing_69 ?_
              refine g_get cx cl_X11 fl_X11_172 0 (.int (F 4)) e_X11_thing_70 rfl rfl ?_
              refine g_iconst cx 1 (by decide) e_X11_thing_73 ?_
              refine g_iload_n cx 1 rfl e_X11_thing_74 ?_
              refine g_ishl cx e_X11_thing_75 ?_
              refine g_topi (fun x62 ex62 => ?_)
              have hk63 := k_ls hk61 ex62
              refine g_ior cx e_X11_thing_76 ?_
              refine g_topi (fun x64 ex64 => ?_)
              have hk65 := k_ls hk63 ex64
              refine g_put cx cl_X11 fl_X11_172 0 (wM X ad (upd F 4 x64) R) e_X11_thing_77 rfl rfl rfl rfl (Nat.le_of_ble_eq_true rfl) rfl ?_
              obtain ⟨F66, hF66⟩ : ∃ z, z = upd F 4 x64 := ⟨_, rfl⟩
              rw [← hF66]
              have hk67 := k_ls hk65 hF66
              have oF66 : g_ok LK_wM F66 := by rw [hF66]; exact g_ok_u hI rfl
              have fF66 : g_fr md_X11_thing F F66 := by rw [hF66]; exact g_fr_u (g_fr_rf F) rfl
              have wCF66 : WC F66 R := by rw [hF66]; exact WC_u hWC rfl
              refine g_aload_n cx 0 rfl e_X11_thing_80 ?_
              refine g_get cx cl_X11 fl_X11_7 0 (.ref (ad 1)) e_X11_thing_81 rfl rfl ?_
              refine g_iload_n cx 1 rfl e_X11_thing_84 ?_
              refine g_iload_n cx 2 rfl e_X11_thing_85 ?_
              refine g_iast cx 1 (wM X ad F66 (g_u R 1 (upd (R 1) (Int32.toNatClampNeg a0) a1))) e_X11_thing_86 rfl (jv_ix 10 p9 (by decide)) rfl ?_
              obtain ⟨R68, hR68⟩ : ∃ z, z = g_u R 1 (upd (R 1) (Int32.toNatClampNeg a0) a1) := ⟨_, rfl⟩
              rw [← hR68]
              have hk69 := k_ls hk67 hR68
              have oR68 : g_okR LA_wM R68 := by rw [hR68]; exact g_okR_u hA rfl
              have fR68 : g_fr mr_X11_thing R R68 := by rw [hR68]; exact g_fr_r (g_fr_rf R) rfl
              have wCR68 : WC F66 R68 := by rw [hR68]; exact WC_r wCF66 rfl
              refine g_aload_n cx 0 rfl e_X11_thing_87 ?_
              refine g_get cx cl_X11 fl_X11_13 0 (.ref (ad 2)) e_X11_thing_88 rfl rfl ?_
              refine g_iload_n cx 1 rfl e_X11_thing_91 ?_
              refine g_iload_n cx 3 rfl e_X11_thing_92 ?_
              refine g_iast cx 2 (wM X ad F66 (g_u R68 2 (upd (R68 2) (Int32.toNatClampNeg a0) a2))) e_X11_thing_93 rfl (jv_ix 10 p9 (by decide)) rfl ?_
              obtain ⟨R70, hR70⟩ : ∃ z, z = g_u R68 2 (upd (R68 2) (Int32.toNatClampNeg a0) a2) := ⟨_, rfl⟩
              rw [← hR70]
              have hk71 := k_ls hk69 hR70
              have oR70 : g_okR LA_wM R70 := by rw [hR70]; exact g_okR_u oR68 rfl
              have fR70 : g_fr mr_X11_thing R R70 := by rw [hR70]; exact g_fr_r fR68 rfl
              have wCR70 : WC F66 R70 := by rw [hR70]; exact WC_r wCR68 rfl
              refine g_aload_n cx 0 rfl e_X11_thing_94 ?_
              refine g_get cx cl_X11 fl_X11_16 0 (.ref (ad 3)) e_X11_thing_95 rfl rfl ?_
              refine g_iload_n cx 1 rfl e_X11_thing_98 ?_
              refine g_iload cx 4 rfl e_X11_thing_99 ?_
              refine g_iast cx 3 (wM X ad F66 (g_u R70 3 (upd (R70 3) (Int32.toNatClampNeg a0) a3))) e_X11_thing_101 rfl (jv_ix 10 p9 (by decide)) rfl ?_
              obtain ⟨R72, hR72⟩ : ∃ z, z = g_u R70 3 (upd (R70 3) (Int32.toNatClampNeg a0) a3) := ⟨_, rfl⟩
              rw [← hR72]
              have hk73 := k_ls hk71 hR72
              have oR72 : g_okR LA_wM R72 := by rw [hR72]; exact g_okR_p oR70 p42 rfl
              have fR72 : g_fr mr_X11_thing R R72 := by rw [hR72]; exact g_fr_r fR70 rfl
              have wCR72 : WC F66 R72 := by rw [hR72]; exact WC_r wCR70 rfl
              refine g_aload_n cx 0 rfl e_X11_thing_102 ?_
              refine g_get cx cl_X11 fl_X11_19 0 (.ref (ad 4)) e_X11_thing_103 rfl rfl ?_
              refine g_iload_n cx 1 rfl e_X11_thing_106 ?_
              refine g_iload cx 5 rfl e_X11_thing_107 ?_
              refine g_iast cx 4 (wM X ad F66 (g_u R72 4 (upd (R72 4) (Int32.toNatClampNeg a0) a4))) e_X11_thing_109 rfl (jv_ix 10 p9 (by decide)) rfl ?_
              obtain ⟨R74, hR74⟩ : ∃ z, z = g_u R72 4 (upd (R72 4) (Int32.toNatClampNeg a0) a4) := ⟨_, rfl⟩
              rw [← hR74]
              have hk75 := k_ls hk73 hR74
              have oR74 : g_okR LA_wM R74 := by rw [hR74]; exact g_okR_u oR72 rfl
              have fR74 : g_fr mr_X11_thing R R74 := by rw [hR74]; exact g_fr_r fR72 rfl
              have wCR74 : WC F66 R74 := by rw [hR74]; exact WC_r wCR72 rfl
              refine g_aload_n cx 0 rfl e_X11_thing_110 ?_
              refine g_get cx cl_X11 fl_X11_22 0 (.ref (ad 5)) e_X11_thing_111 rfl rfl ?_
              refine g_iload_n cx 1 rfl e_X11_thing_114 ?_
              refine g_iload cx 6 rfl e_X11_thing_115 ?_
              refine g_iast cx 5 (wM X ad F66 (g_u R74 5 (upd (R74 5) (Int32.toNatClampNeg a0) a5))) e_X11_thing_117 rfl (jv_ix 10 p9 (by decide)) rfl ?_
              obtain ⟨R76, hR76⟩ : ∃ z, z = g_u R74 5 (upd (R74 5) (Int32.toNatClampNeg a0) a5) := ⟨_, rfl⟩
              rw [← hR76]
              have hk77 := k_ls hk75 hR76
              have oR76 : g_okR LA_wM R76 := by rw [hR76]; exact g_okR_p oR74 p60 rfl
              have fR76 : g_fr mr_X11_thing R R76 := by rw [hR76]; exact g_fr_r fR74 rfl
              have wCR76 : WC F66 R76 := by rw [hR76]; exact WC_r wCR74 rfl
              refine g_aload_n cx 0 rfl e_X11_thing_118 ?_
              refine g_get cx cl_X11 fl_X11_25 0 (.ref (ad 6)) e_X11_thing_119 rfl rfl ?_
              refine g_iload_n cx 1 rfl e_X11_thing_122 ?_
              refine g_iconst cx 0 (by decide) e_X11_thing_123 ?_
              refine g_iast cx 6 (wM X ad F66 (g_u R76 6 (upd (R76 6) (Int32.toNatClampNeg a0) 0))) e_X11_thing_124 rfl (jv_ix 10 p9 (by decide)) rfl ?_
              obtain ⟨R78, hR78⟩ : ∃ z, z = g_u R76 6 (upd (R76 6) (Int32.toNatClampNeg a0) 0) := ⟨_, rfl⟩
              rw [← hR78]
              have hk79 := k_ls hk77 hR78
              have oR78 : g_okR LA_wM R78 := by rw [hR78]; exact g_okR_u oR76 rfl
              have fR78 : g_fr mr_X11_thing R R78 := by rw [hR78]; exact g_fr_r fR76 rfl
              have wCR78 : WC F66 R78 := by rw [hR78]; exact WC_r wCR76 rfl
              refine g_aload_n cx 0 rfl e_X11_thing_125 ?_
              refine g_get cx cl_X11 fl_X11_28 0 (.ref (ad 7)) e_X11_thing_126 rfl rfl ?_
              refine g_iload_n cx 1 rfl e_X11_thing_129 ?_
              refine g_iconst cx 0 (by decide) e_X11_thing_130 ?_
              refine g_iast cx 7 (wM X ad F66 (g_u R78 7 (upd (R78 7) (Int32.toNatClampNeg a0) 0))) e_X11_thing_131 rfl (jv_ix 10 p9 (by decide)) rfl ?_
              obtain ⟨R80, hR80⟩ : ∃ z, z = g_u R78 7 (upd (R78 7) (Int32.toNatClampNeg a0) 0) := ⟨_, rfl⟩
              rw [← hR80]
              have hk81 := k_ls hk79 hR80
              have oR80 : g_okR LA_wM R80 := by rw [hR80]; exact g_okR_u oR78 rfl
              have fR80 : g_fr mr_X11_thing R R80 := by rw [hR80]; exact g_fr_r fR78 rfl
              have wCR80 : WC F66 R80 := by rw [hR80]; exact WC_r wCR78 rfl
              refine g_aload_n cx 0 rfl e_X11_thing_132 ?_
              refine g_get cx cl_X11 fl_X11_31 0 (.ref (ad 8)) e_X11_thing_133 rfl rfl ?_
              refine g_iload_n cx 1 rfl e_X11_thing_136 ?_
              refine g_iconst cx 0 (by decide) e_X11_thing_137 ?_
              refine g_iast cx 8 (wM X ad F66 (g_u R80 8 (upd (R80 8) (Int32.toNatClampNeg a0) 0))) e_X11_thing_138 rfl (jv_ix 10 p9 (by decide)) rfl ?_
              obtain ⟨R82, hR82⟩ : ∃ z, z = g_u R80 8 (upd (R80 8) (Int32.toNatClampNeg a0) 0) := ⟨_, rfl⟩
              rw [← hR82]
              have hk83 := k_ls hk81 hR82
              have oR82 : g_okR LA_wM R82 := by rw [hR82]; exact g_okR_u oR80 rfl
              have fR82 : g_fr mr_X11_thing R R82 := by rw [hR82]; exact g_fr_r fR80 rfl
              have wCR82 : WC F66 R82 := by rw [hR82]; exact WC_r wCR80 rfl
              refine g_iconst cx 1 (by decide) e_X11_thing_139 ?_
              exact hret e_X11_thing_140 (Nat.le_of_ble_eq_true rfl) (Nat.le_of_ble_eq_true rfl) rfl ⟨F66, R82, rfl, oF66, oR82, (WT_thing hWT p9 p42 p60 ((g_pu1 hF66).trans (ex64.trans (by rw [ex62]))) (g_pu2 hF66 rfl) (((((((g_ru2 hR82 rfl).trans (g_ru2 hR80 rfl)).trans (g_ru2 hR78 rfl)).trans (g_ru2 hR76 rfl)).trans (g_ru2 hR74 rfl)).trans (g_ru1 hR72)).trans (by rw [show R70 3 = R 3 from ((g_ru2 hR70 rfl).trans (g_ru2 hR68 rfl))])) (((((g_ru2 hR82 rfl).trans (g_ru2 hR80 rfl)).trans (g_ru2 hR78 rfl)).trans (g_ru1 hR76)).trans (by rw [show R74 5 = R 5 from ((((g_ru2 hR74 rfl).trans (g_ru2 hR72 rfl)).trans (g_ru2 hR70 rfl)).trans (g_ru2 hR68 rfl))])) ((((((((g_ru2 hR82 rfl).trans (g_ru2 hR80 rfl)).trans (g_ru2 hR78 rfl)).trans (g_ru2 hR76 rfl)).trans (g_ru2 hR74 rfl)).trans (g_ru2 hR72 rfl)).trans (g_ru2 hR70 rfl)).trans (g_ru2 hR68 rfl)) ((((((((g_ru2 hR82 rfl).trans (g_ru2 hR80 rfl)).trans (g_ru2 hR78 rfl)).trans (g_ru2 hR76 rfl)).trans (g_ru2 hR74 rfl)).trans (g_ru2 hR72 rfl)).trans (g_ru2 hR70 rfl)).trans (g_ru2 hR68 rfl))), wCR82, fF66, fR82, (jv_w (jv_k (x := 1) 1 (by decide)) (by decide)), (hk83.symm.trans hSP)⟩
            · have p84 := gn_eq 0 0 (gc_eq zc58) pr54 (jv_k (x := 0) 0 (by decide)) (by decide)
              have hk85 := hk57.trans (if_pos zc58)
              refine g_lsub [] [] rfl ?_
              exact J66  hk85
def sp_X11_isTold (F : Nat → Int32) (R : Nat → Nat → Int32) (a0 : Int32) : Int32 :=
  if a0 < 0 then 0 else if 10 ≤ a0 then 0 else k_lt (g_hasv (F 4) a0) (fun r11 => if r11 = 0 then 0 else 1)
theorem e_X11_isTold_0 : g_dc cX11_isTold 0 (.iload_n 1) 1 1 := ⟨by decide +kernel, rfl⟩
theorem e_X11_isTold_1 : g_dc cX11_isTold 1 (.ifCond .lt 24) 3 4 := ⟨by decide +kernel, rfl⟩
theorem e_X11_isTold_4 : g_dc cX11_isTold 4 (.iload_n 1) 1 5 := ⟨by decide +kernel, rfl⟩
theorem e_X11_isTold_5 : g_dc cX11_isTold 5 (.bipush 10) 2 7 := ⟨by decide +kernel, rfl⟩
theorem e_X11_isTold_7 : g_dc cX11_isTold 7 (.if_icmp .ge 18) 3 10 := ⟨by decide +kernel, rfl⟩
theorem e_X11_isTold_10 : g_dc cX11_isTold 10 (.aload_n 0) 1 11 := ⟨by decide +kernel, rfl⟩
theorem e_X11_isTold_11 : g_dc cX11_isTold 11 (.getfield 172) 3 14 := ⟨by decide +kernel, rfl⟩
theorem e_X11_isTold_14 : g_dc cX11_isTold 14 (.iload_n 1) 1 15 := ⟨by decide +kernel, rfl⟩
theorem e_X11_isTold_15 : g_dc cX11_isTold 15 (.invokestatic 175) 3 18 := ⟨by decide +kernel, rfl⟩
theorem e_X11_isTold_18 : g_dc cX11_isTold 18 (.ifCond .eq 7) 3 21 := ⟨by decide +kernel, rfl⟩
theorem e_X11_isTold_21 : g_dc cX11_isTold 21 (.iconst 1) 1 22 := ⟨by decide +kernel, rfl⟩
theorem e_X11_isTold_22 : g_dc cX11_isTold 22 (.goto 4) 3 25 := ⟨by decide +kernel, rfl⟩
theorem e_X11_isTold_25 : g_dc cX11_isTold 25 (.iconst 0) 1 26 := ⟨by decide +kernel, rfl⟩
theorem e_X11_isTold_26 : g_dc cX11_isTold 26 (.ireturn) 1 27 := ⟨by decide +kernel, rfl⟩
set_option maxHeartbeats 4000000 in
set_option maxRecDepth 100000 in
theorem w_X11_isTold (l : Launch) (X : gX) (ad : Nat → Nat) (F : Nat → Int32) (R : Nat → Nat → Int32) (hI : g_ok LK_wM F) (hA : g_okR LA_wM R) (hWT : WT F R) (hWC : WC F R) (a0 : Int32) : g_Ci l X yX11_isTold cX11_isTold 2 (some .boolean) 2 0 0 [.ref (ad 0), .int a0] (wM X ad F R) (fun r w => w = wM X ad F R ∧ jv 0 1 r ∧ (¬ r = 0 → jv 0 9 a0 ∧ hb (F 4) a0) ∧ r = sp_X11_isTold F R a0) := by
  refine g_mi (by decide +kernel) (Nat.le_of_ble_eq_true rfl) (fun E cx hret => ?_)
  obtain ⟨SP, hSP⟩ : ∃ z, z = sp_X11_isTold F R a0 := ⟨_, rfl⟩
  have hk0 := hSP
  unfold sp_X11_isTold at hk0
  refine g_iload_n cx 1 rfl e_X11_isTold_0 ?_
  refine g_if_lt cx 25 e_X11_isTold_1 (by decide) (fun zc1 => ?_) (fun zc1 => ?_)
  · have p2 := gn_lt (-2147483648) (-1) (gc_lt zc1) (jv_t a0) (jv_k (x := 0) 0 (by decide)) (by decide)
    have hk3 := hk0.trans (if_pos zc1)
    refine g_iconst cx 0 (by decide) e_X11_isTold_25 ?_
    exact hret e_X11_isTold_26 (Nat.le_of_ble_eq_true rfl) (Nat.le_of_ble_eq_true rfl) rfl ⟨rfl, (jv_w (jv_k (x := 0) 0 (by decide)) (by decide)), (fun h => absurd rfl h), (hk3.symm.trans hSP)⟩
  · have p4 := gn_ge 0 2147483647 (gc_nlt zc1) (jv_t a0) (jv_k (x := 0) 0 (by decide)) (by decide)
    have hk5 := hk0.trans (if_neg zc1)
    refine g_iload_n cx 1 rfl e_X11_isTold_4 ?_
    refine g_bipush cx 10 (by decide) e_X11_isTold_5 ?_
    refine g_icmp_ge cx 25 e_X11_isTold_7 (by decide) (fun zc6 => ?_) (fun zc6 => ?_)
    · have p7 := gn_ge 10 2147483647 (gc_le zc6) p4 (jv_k (x := 10) 10 (by decide)) (by decide)
      have hk8 := hk5.trans (if_pos zc6)
      refine g_iconst cx 0 (by decide) e_X11_isTold_25 ?_
      exact hret e_X11_isTold_26 (Nat.le_of_ble_eq_true rfl) (Nat.le_of_ble_eq_true rfl) rfl ⟨rfl, (jv_w (jv_k (x := 0) 0 (by decide)) (by decide)), (fun h => absurd rfl h), (hk8.symm.trans hSP)⟩
    · have p9 := gn_lt 0 9 (gc_nle zc6) p4 (jv_k (x := 10) 10 (by decide)) (by decide)
      have hk10 := hk5.trans (if_neg zc6)
      refine g_aload_n cx 0 rfl e_X11_isTold_10 ?_
      refine g_get cx cl_X11 fl_X11_172 0 (.int (F 4)) e_X11_isTold_11 rfl rfl ?_
      refine g_iload_n cx 1 rfl e_X11_isTold_14 ?_
      refine g_cSiW cx [.int (F 4), .int a0] [] (c_X11_has l X (wM X ad F R) (F 4) a0) ml_X11_175 yS_X11_has rfl e_X11_isTold_15 (by unfold g_rr; decide) (by decide) rfl (Nat.le_of_ble_eq_true rfl) (fun r11 w12 h13 => ?_)
      obtain ⟨rfl, hr11⟩ := h13
      have pr11 : jv 0 1 r11 := by rcases hr11 with q | q <;> rw [q.1] <;> exact ⟨by decide, by decide⟩
      have hk14 := k_ls hk10 (g_has_e hr11)
      refine g_if_eq cx 25 e_X11_isTold_18 (by decide) (fun zc15 => ?_) (fun zc15 => ?_)
      · have p16 := gn_eq 0 0 (gc_eq zc15) pr11 (jv_k (x := 0) 0 (by decide)) (by decide)
        have hk17 := hk14.trans (if_pos zc15)
        refine g_iconst cx 0 (by decide) e_X11_isTold_25 ?_
        exact hret e_X11_isTold_26 (Nat.le_of_ble_eq_true rfl) (Nat.le_of_ble_eq_true rfl) rfl ⟨rfl, (jv_w (jv_k (x := 0) 0 (by decide)) (by decide)), (fun h => absurd rfl h), (hk17.symm.trans hSP)⟩
      · have p18 := gn_neL 1 1 (gc_ne zc15) pr11 (jv_k (x := 0) 0 (by decide)) (by decide)
        have zb19 : hb (F 4) a0 := g_hasy hr11 zc15
        have hk20 := hk14.trans (if_neg zc15)
        refine g_iconst cx 1 (by decide) e_X11_isTold_21 ?_
        refine g_goto cx 26 e_X11_isTold_22 (by decide) ?_
        exact hret e_X11_isTold_26 (Nat.le_of_ble_eq_true rfl) (Nat.le_of_ble_eq_true rfl) rfl ⟨rfl, (jv_w (jv_k (x := 1) 1 (by decide)) (by decide)), (fun _ => ⟨p9, zb19⟩), (hk20.symm.trans hSP)⟩
def K_X11_more_40 (F : Nat → Int32) (R : Nat → Nat → Int32)  : Int32 × (Nat → Int32) × (Nat → Nat → Int32) :=
  (0, F, R)
def sp_X11_more (F : Nat → Int32) (R : Nat → Nat → Int32) (a0 : Int32) (a1 : Int32) (a2 : Int32) (a3 : Int32) : Int32 × (Nat → Int32) × (Nat → Nat → Int32) :=
  k_lt (sp_X11_isTold F R a0) (fun r1 => if r1 = 0 then K_X11_more_40 F R else k_lt (g_in a1 0 9) (fun r13 => if r13 = 0 then K_X11_more_40 F R else k_lt (g_in a2 0 9) (fun r23 => if r23 = 0 then K_X11_more_40 F R else k_lt (g_in a3 0 999) (fun r33 => if r33 = 0 then K_X11_more_40 F R else k_lt (g_u R 6 (upd (R 6) (Int32.toNatClampNeg a0) a1)) (fun R41 => k_lt (g_u R41 7 (upd (R41 7) (Int32.toNatClampNeg a0) a2)) (fun R43 => k_lt (g_u R43 8 (upd (R43 8) (Int32.toNatClampNeg a0) a3)) (fun R45 => (1, F, R45))))))))
theorem e_X11_more_0 : g_dc cX11_more 0 (.aload_n 0) 1 1 := ⟨by decide +kernel, rfl⟩
theorem e_X11_more_1 : g_dc cX11_more 1 (.iload_n 1) 1 2 := ⟨by decide +kernel, rfl⟩
theorem e_X11_more_2 : g_dc cX11_more 2 (.invokevirtual 179) 3 5 := ⟨by decide +kernel, rfl⟩
theorem e_X11_more_5 : g_dc cX11_more 5 (.ifCond .eq 35) 3 8 := ⟨by decide +kernel, rfl⟩
theorem e_X11_more_8 : g_dc cX11_more 8 (.iload_n 2) 1 9 := ⟨by decide +kernel, rfl⟩
theorem e_X11_more_9 : g_dc cX11_more 9 (.iconst 0) 1 10 := ⟨by decide +kernel, rfl⟩
theorem e_X11_more_10 : g_dc cX11_more 10 (.bipush 9) 2 12 := ⟨by decide +kernel, rfl⟩
theorem e_X11_more_12 : g_dc cX11_more 12 (.invokestatic 165) 3 15 := ⟨by decide +kernel, rfl⟩
theorem e_X11_more_15 : g_dc cX11_more 15 (.ifCond .eq 25) 3 18 := ⟨by decide +kernel, rfl⟩
theorem e_X11_more_18 : g_dc cX11_more 18 (.iload_n 3) 1 19 := ⟨by decide +kernel, rfl⟩
theorem e_X11_more_19 : g_dc cX11_more 19 (.iconst 0) 1 20 := ⟨by decide +kernel, rfl⟩
theorem e_X11_more_20 : g_dc cX11_more 20 (.bipush 9) 2 22 := ⟨by decide +kernel, rfl⟩
theorem e_X11_more_22 : g_dc cX11_more 22 (.invokestatic 165) 3 25 := ⟨by decide +kernel, rfl⟩
theorem e_X11_more_25 : g_dc cX11_more 25 (.ifCond .eq 15) 3 28 := ⟨by decide +kernel, rfl⟩
theorem e_X11_more_28 : g_dc cX11_more 28 (.iload 4) 2 30 := ⟨by decide +kernel, rfl⟩
theorem e_X11_more_30 : g_dc cX11_more 30 (.iconst 0) 1 31 := ⟨by decide +kernel, rfl⟩
theorem e_X11_more_31 : g_dc cX11_more 31 (.sipush 999) 3 34 := ⟨by decide +kernel, rfl⟩
theorem e_X11_more_34 : g_dc cX11_more 34 (.invokestatic 165) 3 37 := ⟨by decide +kernel, rfl⟩
theorem e_X11_more_37 : g_dc cX11_more 37 (.ifCond .ne 5) 3 40 := ⟨by decide +kernel, rfl⟩
theorem e_X11_more_40 : g_dc cX11_more 40 (.iconst 0) 1 41 := ⟨by decide +kernel, rfl⟩
theorem e_X11_more_41 : g_dc cX11_more 41 (.ireturn) 1 42 := ⟨by decide +kernel, rfl⟩
theorem e_X11_more_42 : g_dc cX11_more 42 (.aload_n 0) 1 43 := ⟨by decide +kernel, rfl⟩
theorem e_X11_more_43 : g_dc cX11_more 43 (.getfield 25) 3 46 := ⟨by decide +kernel, rfl⟩
theorem e_X11_more_46 : g_dc cX11_more 46 (.iload_n 1) 1 47 := ⟨by decide +kernel, rfl⟩
theorem e_X11_more_47 : g_dc cX11_more 47 (.iload_n 2) 1 48 := ⟨by decide +kernel, rfl⟩
theorem e_X11_more_48 : g_dc cX11_more 48 (.iastore) 1 49 := ⟨by decide +kernel, rfl⟩
theorem e_X11_more_49 : g_dc cX11_more 49 (.aload_n 0) 1 50 := ⟨by decide +kernel, rfl⟩
theorem e_X11_more_50 : g_dc cX11_more 50 (.getfield 28) 3 53 := ⟨by decide +kernel, rfl⟩
theorem e_X11_more_53 : g_dc cX11_more 53 (.iload_n 1) 1 54 := ⟨by decide +kernel, rfl⟩
theorem e_X11_more_54 : g_dc cX11_more 54 (.iload_n 3) 1 55 := ⟨by decide +kernel, rfl⟩
theorem e_X11_more_55 : g_dc cX11_more 55 (.iastore) 1 56 := ⟨by decide +kernel, rfl⟩
theorem e_X11_more_56 : g_dc cX11_more 56 (.aload_n 0) 1 57 := ⟨by decide +kernel, rfl⟩
theorem e_X11_more_57 : g_dc cX11_more 57 (.getfield 31) 3 60 := ⟨by decide +kernel, rfl⟩
theorem e_X11_more_60 : g_dc cX11_more 60 (.iload_n 1) 1 61 := ⟨by decide +kernel, rfl⟩
theorem e_X11_more_61 : g_dc cX11_more 61 (.iload 4) 2 63 := ⟨by decide +kernel, rfl⟩
theorem e_X11_more_63 : g_dc cX11_more 63 (.iastore) 1 64 := ⟨by decide +kernel, rfl⟩
theorem e_X11_more_64 : g_dc cX11_more 64 (.iconst 1) 1 65 := ⟨by decide +kernel, rfl⟩
theorem e_X11_more_65 : g_dc cX11_more 65 (.ireturn) 1 66 := ⟨by decide +kernel, rfl⟩
def md_X11_more : List Nat := []
def mr_X11_more : List Nat := [6, 7, 8]
set_option maxHeartbeats 4000000 in
set_option maxRecDepth 100000 in
theorem w_X11_more (l : Launch) (X : gX) (ad : Nat → Nat) (F : Nat → Int32) (R : Nat → Nat → Int32) (hI : g_ok LK_wM F) (hA : g_okR LA_wM R) (hWT : WT F R) (hWC : WC F R) (a0 : Int32) (a1 : Int32) (a2 : Int32) (a3 : Int32) : g_Ci l X yX11_more cX11_more 5 (some .boolean) 3 0 0 [.ref (ad 0), .int a0, .int a1, .int a2, .int a3] (wM X ad F R) (fun r w => ∃ (F' : Nat → Int32) (R' : Nat → Nat → Int32), w = wM X ad F' R' ∧ g_ok LK_wM F' ∧ g_okR LA_wM R' ∧ WT F' R' ∧ WC F' R' ∧ g_fr md_X11_more F F' ∧ g_fr mr_X11_more R R' ∧ jv 0 1 r ∧ (r, F', R') = sp_X11_more F R a0 a1 a2 a3) := by
  refine g_mi (by decide +kernel) (Nat.le_of_ble_eq_true rfl) (fun E cx hret => ?_)
  obtain ⟨SP, hSP⟩ : ∃ z, z = sp_X11_more F R a0 a1 a2 a3 := ⟨_, rfl⟩
  have hk0 := hSP
  unfold sp_X11_more at hk0
  refine g_aload_n cx 0 rfl e_X11_more_0 ?_
  refine g_iload_n cx 1 rfl e_X11_more_1 ?_
  refine g_cViW cx [.int a0] [] (w_X11_isTold l X ad F R hI hA hWT hWC a0) ml_X11_179 yV_X11_isTold e_X11_more_2 (by unfold g_rr; decide) (by decide) 0 rfl rfl rfl (Nat.le_of_ble_eq_true rfl) (fun r1 w2 h3 => ?_)
  obtain ⟨rfl, pr1, zx4, hx5⟩ := h3
  have hk6 := k_ls hk0 hx5
  have J40 : (SP = K_X11_more_40 F R) → G X E 5 0 0 (wM X ad F R) [] 40 [] := by
    intro   hkJ40
    unfold K_X11_more_40 at hkJ40
    refine g_iconst cx 0 (by decide) e_X11_more_40 ?_
    exact hret e_X11_more_41 (Nat.le_of_ble_eq_true rfl) (Nat.le_of_ble_eq_true rfl) rfl ⟨F, R, rfl, hI, hA, hWT, hWC, (g_fr_rf F), (g_fr_rf R), (jv_w (jv_k (x := 0) 0 (by decide)) (by decide)), (hkJ40.symm.trans hSP)⟩
  refine g_if_eq cx 40 e_X11_more_5 (by decide) (fun zc7 => ?_) (fun zc7 => ?_)
  · have p8 := gn_eq 0 0 (gc_eq zc7) pr1 (jv_k (x := 0) 0 (by decide)) (by decide)
    have hk9 := hk6.trans (if_pos zc7)
    refine g_lsub [] [] rfl ?_
    exact J40  hk9
  · have p10 := gn_neL 1 1 (gc_ne zc7) pr1 (jv_k (x := 0) 0 (by decide)) (by decide)
    have p11 := jv_i 0 9 (jv_t a0) (zx4 zc7).1 (by decide)
    have hk12 := hk6.trans (if_neg zc7)
    refine g_iload_n cx 2 rfl e_X11_more_8 ?_
    refine g_iconst cx 0 (by decide) e_X11_more_9 ?_
    refine g_bipush cx 9 (by decide) e_X11_more_10 ?_
    refine g_cSiW cx [.int a1, .int 0, .int 9] [] (c_X11_in l X (wM X ad F R) a1 0 9) ml_X11_165 yS_X11_in rfl e_X11_more_12 (by unfold g_rr; decide) (by decide) rfl (Nat.le_of_ble_eq_true rfl) (fun r13 w14 h15 => ?_)
    obtain ⟨rfl, hr13⟩ := h15
    have pr13 : jv 0 1 r13 := by rw [hr13]; exact gi_01 _ _ _
    have hk16 := k_ls hk12 hr13
    refine g_if_eq cx 40 e_X11_more_15 (by decide) (fun zc17 => ?_) (fun zc17 => ?_)
    · have p18 := gn_eq 0 0 (gc_eq zc17) pr13 (jv_k (x := 0) 0 (by decide)) (by decide)
      have hk19 := hk16.trans (if_pos zc17)
      refine g_lsub [] [] rfl ?_
      exact J40  hk19
    · have p20 := gn_neL 1 1 (gc_ne zc17) pr13 (jv_k (x := 0) 0 (by decide)) (by decide)
      have p21 := jv_i 0 9 (jv_t a1) (gi_in (A := 0) (B := 9) hr13 zc17 (by decide) (by decide)) (by decide)
      have hk22 := hk16.trans (if_neg zc17)
      refine g_iload_n cx 3 rfl e_X11_more_18 ?_
      refine g_iconst cx 0 (by decide) e_X11_more_19 ?_
      refine g_bipush cx 9 (by decide) e_X11_more_20 ?_
      refine g_cSiW cx [.int a2, .int 0, .int 9] [] (c_X11_in l X (wM X ad F R) a2 0 9) ml_X11_165 yS_X11_in rfl e_X11_more_22 (by unfold g_rr; decide) (by decide) rfl (Nat.le_of_ble_eq_true rfl) (fun r23 w24 h25 => ?_)
      obtain ⟨rfl, hr23⟩ := h25
      have pr23 : jv 0 1 r23 := by rw [hr23]; exact gi_01 _ _ _
      have hk26 := k_ls hk22 hr23
      refine g_if_eq cx 40 e_X11_more_25 (by decide) (fun zc27 => ?_) (fun zc27 => ?_)
      · have p28 := gn_eq 0 0 (gc_eq zc27) pr23 (jv_k (x := 0) 0 (by decide)) (by decide)
        have hk29 := hk26.trans (if_pos zc27)
        refine g_lsub [] [] rfl ?_
        exact J40  hk29
      · have p30 := gn_neL 1 1 (gc_ne zc27) pr23 (jv_k (x := 0) 0 (by decide)) (by decide)
        have p31 := jv_i 0 9 (jv_t a2) (gi_in (A := 0) (B := 9) hr23 zc27 (by decide) (by decide)) (by decide)
        have hk32 := hk26.trans (if_neg zc27)
        refine g_iload cx 4 rfl e_X11_more_28 ?_
        refine g_iconst cx 0 (by decide) e_X11_more_30 ?_
        refine g_sipush cx 999 (by decide) e_X11_more_31 ?_
        refine g_cSiW cx [.int a3, .int 0, .int 999] [] (c_X11_in l X (wM X ad F R) a3 0 999) ml_X11_165 yS_X11_in rfl e_X11_more_34 (by unfold g_rr; decide) (by decide) rfl (Nat.le_of_ble_eq_true rfl) (fun r33 w34 h35 => ?_)
        obtain ⟨rfl, hr33⟩ := h35
        have pr33 : jv 0 1 r33 := by rw [hr33]; exact gi_01 _ _ _
        have hk36 := k_ls hk32 hr33
        refine g_if_ne cx 42 e_X11_more_37 (by decide) (fun zc37 => ?_) (fun zc37 => ?_)
        · have p38 := gn_neL 1 1 (gc_ne zc37) pr33 (jv_k (x := 0) 0 (by decide)) (by decide)
          have p39 := jv_i 0 999 (jv_t a3) (gi_in (A := 0) (B := 999) hr33 zc37 (by decide) (by decide)) (by decide)
          have hk40 := hk36.trans (if_neg zc37)
          refine g_aload_n cx 0 rfl e_X11_more_42 ?_
          refine g_get cx cl_X11 fl_X11_25 0 (.ref (ad 6)) e_X11_more_43 rfl rfl ?_
          refine g_iload_n cx 1 rfl e_X11_more_46 ?_
          refine g_iload_n cx 2 rfl e_X11_more_47 ?_
          refine g_iast cx 6 (wM X ad F (g_u R 6 (upd (R 6) (Int32.toNatClampNeg a0) a1))) e_X11_more_48 rfl (jv_ix 10 p11 (by decide)) rfl ?_
          obtain ⟨R41, hR41⟩ : ∃ z, z = g_u R 6 (upd (R 6) (Int32.toNatClampNeg a0) a1) := ⟨_, rfl⟩
          rw [← hR41]
          have hk42 := k_ls hk40 hR41
          have oR41 : g_okR LA_wM R41 := by rw [hR41]; exact g_okR_u hA rfl
          have fR41 : g_fr mr_X11_more R R41 := by rw [hR41]; exact g_fr_r (g_fr_rf R) rfl
          have wTR41 : WT F R41 := by rw [hR41]; exact WT_r hWT rfl
          have wCR41 : WC F R41 := by rw [hR41]; exact WC_r hWC rfl
          refine g_aload_n cx 0 rfl e_X11_more_49 ?_
          refine g_get cx cl_X11 fl_X11_28 0 (.ref (ad 7)) e_X11_more_50 rfl rfl ?_
          refine g_iload_n cx 1 rfl e_X11_more_53 ?_
          refine g_iload_n cx 3 rfl e_X11_more_54 ?_
          refine g_iast cx 7 (wM X ad F (g_u R41 7 (upd (R41 7) (Int32.toNatClampNeg a0) a2))) e_X11_more_55 rfl (jv_ix 10 p11 (by decide)) rfl ?_
          obtain ⟨R43, hR43⟩ : ∃ z, z = g_u R41 7 (upd (R41 7) (Int32.toNatClampNeg a0) a2) := ⟨_, rfl⟩
          rw [← hR43]
          have hk44 := k_ls hk42 hR43
          have oR43 : g_okR LA_wM R43 := by rw [hR43]; exact g_okR_u oR41 rfl
          have fR43 : g_fr mr_X11_more R R43 := by rw [hR43]; exact g_fr_r fR41 rfl
          have wTR43 : WT F R43 := by rw [hR43]; exact WT_r wTR41 rfl
          have wCR43 : WC F R43 := by rw [hR43]; exact WC_r wCR41 rfl
          refine g_aload_n cx 0 rfl e_X11_more_56 ?_
          refine g_get cx cl_X11 fl_X11_31 0 (.ref (ad 8)) e_X11_more_57 rfl rfl ?_
          refine g_iload_n cx 1 rfl e_X11_more_60 ?_
          refine g_iload cx 4 rfl e_X11_more_61 ?_
          refine g_iast cx 8 (wM X ad F (g_u R43 8 (upd (R43 8) (Int32.toNatClampNeg a0) a3))) e_X11_more_63 rfl (jv_ix 10 p11 (by decide)) rfl ?_
          obtain ⟨R45, hR45⟩ : ∃ z, z = g_u R43 8 (upd (R43 8) (Int32.toNatClampNeg a0) a3) := ⟨_, rfl⟩
          rw [← hR45]
          have hk46 := k_ls hk44 hR45
          have oR45 : g_okR LA_wM R45 := by rw [hR45]; exact g_okR_u oR43 rfl
          have fR45 : g_fr mr_X11_more R R45 := by rw [hR45]; exact g_fr_r fR43 rfl
          have wTR45 : WT F R45 := by rw [hR45]; exact WT_r wTR43 rfl
          have wCR45 : WC F R45 := by rw [hR45]; exact WC_r wCR43 rfl
          refine g_iconst cx 1 (by decide) e_X11_more_64 ?_
          exact hret e_X11_more_65 (Nat.le_of_ble_eq_true rfl) (Nat.le_of_ble_eq_true rfl) rfl ⟨F, R45, rfl, hI, oR45, wTR45, wCR45, (g_fr_rf F), fR45, (jv_w (jv_k (x := 1) 1 (by decide)) (by decide)), (hk46.symm.trans hSP)⟩
        · have p47 := gn_eq 0 0 (gc_eq zc37) pr33 (jv_k (x := 0) 0 (by decide)) (by decide)
          have hk48 := hk36.trans (if_pos zc37)
          refine g_lsub [] [] rfl ?_
          exact J40  hk48
def sp_X11_away (F : Nat → Int32) (R : Nat → Nat → Int32) (a0 : Int32) : Int32 × (Nat → Int32) × (Nat → Nat → Int32) :=
  k_lt (sp_X11_isTold F R a0) (fun r1 => if r1 = 0 then (0, F, R) else k_lt (1 <<< (a0 &&& 31)) (fun x11 => k_lt (x11 ^^^ (-1)) (fun x13 => k_lt ((F 4) &&& x13) (fun x15 => k_lt (upd F 4 x15) (fun F17 => (1, F17, R))))))
theorem e_X11_away_0 : g_dc cX11_away 0 (.aload_n 0) 1 1 := ⟨by decide +kernel, rfl⟩
theorem e_X11_away_1 : g_dc cX11_away 1 (.iload_n 1) 1 2 := ⟨by decide +kernel, rfl⟩
theorem e_X11_away_2 : g_dc cX11_away 2 (.invokevirtual 179) 3 5 := ⟨by decide +kernel, rfl⟩
theorem e_X11_away_5 : g_dc cX11_away 5 (.ifCond .ne 5) 3 8 := ⟨by decide +kernel, rfl⟩
theorem e_X11_away_8 : g_dc cX11_away 8 (.iconst 0) 1 9 := ⟨by decide +kernel, rfl⟩
theorem e_X11_away_9 : g_dc cX11_away 9 (.ireturn) 1 10 := ⟨by decide +kernel, rfl⟩
theorem e_X11_away_10 : g_dc cX11_away 10 (.aload_n 0) 1 11 := ⟨by decide +kernel, rfl⟩
theorem e_X11_away_11 : g_dc cX11_away 11 (.aload_n 0) 1 12 := ⟨by decide +kernel, rfl⟩
theorem e_X11_away_12 : g_dc cX11_away 12 (.getfield 172) 3 15 := ⟨by decide +kernel, rfl⟩
theorem e_X11_away_15 : g_dc cX11_away 15 (.iconst 1) 1 16 := ⟨by decide +kernel, rfl⟩
theorem e_X11_away_16 : g_dc cX11_away 16 (.iload_n 1) 1 17 := ⟨by decide +kernel, rfl⟩
theorem e_X11_away_17 : g_dc cX11_away 17 (.ishl) 1 18 := ⟨by decide +kernel, rfl⟩
theorem e_X11_away_18 : g_dc cX11_away 18 (.iconst (-1)) 1 19 := ⟨by decide +kernel, rfl⟩
theorem e_X11_away_19 : g_dc cX11_away 19 (.ixor) 1 20 := ⟨by decide +kernel, rfl⟩
theorem e_X11_away_20 : g_dc cX11_away 20 (.iand) 1 21 := ⟨by decide +kernel, rfl⟩
theorem e_X11_away_21 : g_dc cX11_away 21 (.putfield 172) 3 24 := ⟨by decide +kernel, rfl⟩
theorem e_X11_away_24 : g_dc cX11_away 24 (.iconst 1) 1 25 := ⟨by decide +kernel, rfl⟩
theorem e_X11_away_25 : g_dc cX11_away 25 (.ireturn) 1 26 := ⟨by decide +kernel, rfl⟩
def md_X11_away : List Nat := [4]
def mr_X11_away : List Nat := []
set_option maxHeartbeats 4000000 in
set_option maxRecDepth 100000 in
theorem w_X11_away (l : Launch) (X : gX) (ad : Nat → Nat) (F : Nat → Int32) (R : Nat → Nat → Int32) (hI : g_ok LK_wM F) (hA : g_okR LA_wM R) (hWT : WT F R) (hWC : WC F R) (a0 : Int32) : g_Ci l X yX11_away cX11_away 2 (some .boolean) 3 0 0 [.ref (ad 0), .int a0] (wM X ad F R) (fun r w => ∃ (F' : Nat → Int32) (R' : Nat → Nat → Int32), w = wM X ad F' R' ∧ g_ok LK_wM F' ∧ g_okR LA_wM R' ∧ WT F' R' ∧ WC F' R' ∧ g_fr md_X11_away F F' ∧ g_fr mr_X11_away R R' ∧ jv 0 1 r ∧ (r, F', R') = sp_X11_away F R a0) := by
  refine g_mi (by decide +kernel) (Nat.le_of_ble_eq_true rfl) (fun E cx hret => ?_)
  obtain ⟨SP, hSP⟩ : ∃ z, z = sp_X11_away F R a0 := ⟨_, rfl⟩
  have hk0 := hSP
  unfold sp_X11_away at hk0
  refine g_aload_n cx 0 rfl e_X11_away_0 ?_
  refine g_iload_n cx 1 rfl e_X11_away_1 ?_
  refine g_cViW cx [.int a0] [] (w_X11_isTold l X ad F R hI hA hWT hWC a0) ml_X11_179 yV_X11_isTold e_X11_away_2 (by unfold g_rr; decide) (by decide) 0 rfl rfl rfl (Nat.le_of_ble_eq_true rfl) (fun r1 w2 h3 => ?_)
  obtain ⟨rfl, pr1, zx4, hx5⟩ := h3
  have hk6 := k_ls hk0 hx5
  refine g_if_ne cx 10 e_X11_away_5 (by decide) (fun zc7 => ?_) (fun zc7 => ?_)
  · have p8 := gn_neL 1 1 (gc_ne zc7) pr1 (jv_k (x := 0) 0 (by decide)) (by decide)
    have p9 := jv_i 0 9 (jv_t a0) (zx4 zc7).1 (by decide)
    have hk10 := hk6.trans (if_neg zc7)
    refine g_aload_n cx 0 rfl e_X11_away_10 ?_
    refine g_aload_n cx 0 rfl e_X11_away_11 ?_
    refine g_get cx cl_X11 fl_X11_172 0 (.int (F 4)) e_X11_away_12 rfl rfl ?_
    refine g_iconst cx 1 (by decide) e_X11_away_15 ?_
    refine g_iload_n cx 1 rfl e_X11_away_16 ?_
    refine g_ishl cx e_X11_away_17 ?_
    refine g_topi (fun x11 ex11 => ?_)
    have hk12 := k_ls hk10 ex11
    refine g_iconst cx (-1) (by decide) e_X11_away_18 ?_
    refine g_ixor cx e_X11_away_19 ?_
    refine g_topi (fun x13 ex13 => ?_)
    have hk14 := k_ls hk12 ex13
    refine g_iand cx e_X11_away_20 ?_
    refine g_topi (fun x15 ex15 => ?_)
    have hk16 := k_ls hk14 ex15
    refine g_put cx cl_X11 fl_X11_172 0 (wM X ad (upd F 4 x15) R) e_X11_away_21 rfl rfl rfl rfl (Nat.le_of_ble_eq_true rfl) rfl ?_
    obtain ⟨F17, hF17⟩ : ∃ z, z = upd F 4 x15 := ⟨_, rfl⟩
    rw [← hF17]
    have hk18 := k_ls hk16 hF17
    have oF17 : g_ok LK_wM F17 := by rw [hF17]; exact g_ok_u hI rfl
    have fF17 : g_fr md_X11_away F F17 := by rw [hF17]; exact g_fr_u (g_fr_rf F) rfl
    have wTF17 : WT F17 R := by rw [hF17]; exact WT_sub hWT ex15
    have wCF17 : WC F17 R := by rw [hF17]; exact WC_u hWC rfl
    refine g_iconst cx 1 (by decide) e_X11_away_24 ?_
    exact hret e_X11_away_25 (Nat.le_of_ble_eq_true rfl) (Nat.le_of_ble_eq_true rfl) rfl ⟨F17, R, rfl, oF17, hA, wTF17, wCF17, fF17, (g_fr_rf R), (jv_w (jv_k (x := 1) 1 (by decide)) (by decide)), (hk18.symm.trans hSP)⟩
  · have p19 := gn_eq 0 0 (gc_eq zc7) pr1 (jv_k (x := 0) 0 (by decide)) (by decide)
    have hk20 := hk6.trans (if_pos zc7)
    refine g_iconst cx 0 (by decide) e_X11_away_8 ?_
    exact hret e_X11_away_9 (Nat.le_of_ble_eq_true rfl) (Nat.le_of_ble_eq_true rfl) rfl ⟨F, R, rfl, hI, hA, hWT, hWC, (g_fr_rf F), (g_fr_rf R), (jv_w (jv_k (x := 0) 0 (by decide)) (by decide)), (hk20.symm.trans hSP)⟩
def KB_X11_types_2 (b2 : (Nat → Int32) → (Nat → Nat → Int32) → (Int32) → (Nat → Int32) × (Nat → Nat → Int32)) (a0 : Int32) (F2 : Nat → Int32) (R3 : Nat → Nat → Int32) (y1 : Int32) : (Nat → Int32) × (Nat → Nat → Int32) :=
  if y1 < 0 then (F2, R3) else k_lt (8 * y1) (fun x10 => k_lt (a0 >>> (x10 &&& 31)) (fun x12 => k_lt (x12.toInt8.toInt32) (fun x14 => k_lt (g_u R3 9 (upd (R3 9) (Int32.toNatClampNeg (F2 14)) (vp_nar .byte x14))) (fun R16 => k_lt ((F2 14) + 1) (fun x18 => k_lt (upd F2 14 x18) (fun F20 => k_lt (y1 + (-1)) (fun x22 => b2 F20 R16 x22)))))))
def K_X11_types_2 (a0 : Int32) : Nat → (Nat → Int32) → (Nat → Nat → Int32) → (Int32) → (Nat → Int32) × (Nat → Nat → Int32)
  | 0 => fun F2 R3 _ => (F2, R3)
  | n + 1 => KB_X11_types_2 (K_X11_types_2 a0 n) a0
def sp_X11_types (F : Nat → Int32) (R : Nat → Nat → Int32) (a0 : Int32) : (Nat → Int32) × (Nat → Nat → Int32) :=
  K_X11_types_2 a0 8589934592 F R 3
theorem e_X11_types_0 : g_dc cX11_types 0 (.iconst 3) 1 1 := ⟨by decide +kernel, rfl⟩
theorem e_X11_types_1 : g_dc cX11_types 1 (.istore_n 2) 1 2 := ⟨by decide +kernel, rfl⟩
theorem e_X11_types_2 : g_dc cX11_types 2 (.iload_n 2) 1 3 := ⟨by decide +kernel, rfl⟩
theorem e_X11_types_3 : g_dc cX11_types 3 (.ifCond .lt 35) 3 6 := ⟨by decide +kernel, rfl⟩
theorem e_X11_types_6 : g_dc cX11_types 6 (.aload_n 0) 1 7 := ⟨by decide +kernel, rfl⟩
theorem e_X11_types_7 : g_dc cX11_types 7 (.getfield 34) 3 10 := ⟨by decide +kernel, rfl⟩
theorem e_X11_types_10 : g_dc cX11_types 10 (.aload_n 0) 1 11 := ⟨by decide +kernel, rfl⟩
theorem e_X11_types_11 : g_dc cX11_types 11 (.getfield 183) 3 14 := ⟨by decide +kernel, rfl⟩
theorem e_X11_types_14 : g_dc cX11_types 14 (.iload_n 1) 1 15 := ⟨by decide +kernel, rfl⟩
theorem e_X11_types_15 : g_dc cX11_types 15 (.bipush 8) 2 17 := ⟨by decide +kernel, rfl⟩
theorem e_X11_types_17 : g_dc cX11_types 17 (.iload_n 2) 1 18 := ⟨by decide +kernel, rfl⟩
theorem e_X11_types_18 : g_dc cX11_types 18 (.imul) 1 19 := ⟨by decide +kernel, rfl⟩
theorem e_X11_types_19 : g_dc cX11_types 19 (.ishr) 1 20 := ⟨by decide +kernel, rfl⟩
theorem e_X11_types_20 : g_dc cX11_types 20 (.i2b) 1 21 := ⟨by decide +kernel, rfl⟩
theorem e_X11_types_21 : g_dc cX11_types 21 (.bastore) 1 22 := ⟨by decide +kernel, rfl⟩
theorem e_X11_types_22 : g_dc cX11_types 22 (.aload_n 0) 1 23 := ⟨by decide +kernel, rfl⟩
theorem e_X11_types_23 : g_dc cX11_types 23 (.aload_n 0) 1 24 := ⟨by decide +kernel, rfl⟩
theorem e_X11_types_24 : g_dc cX11_types 24 (.getfield 183) 3 27 := ⟨by decide +kernel, rfl⟩
theorem e_X11_types_27 : g_dc cX11_types 27 (.iconst 1) 1 28 := ⟨by decide +kernel, rfl⟩
theorem e_X11_types_28 : g_dc cX11_types 28 (.iadd) 1 29 := ⟨by decide +kernel, rfl⟩
theorem e_X11_types_29 : g_dc cX11_types 29 (.putfield 183) 3 32 := ⟨by decide +kernel, rfl⟩
theorem e_X11_types_32 : g_dc cX11_types 32 (.iinc 2 (-1)) 3 35 := ⟨by decide +kernel, rfl⟩
theorem e_X11_types_35 : g_dc cX11_types 35 (.goto (-33)) 3 38 := ⟨by decide +kernel, rfl⟩
theorem e_X11_types_38 : g_dc cX11_types 38 (.return_) 1 39 := ⟨by decide +kernel, rfl⟩
def md_X11_types : List Nat := [14]
def mr_X11_types : List Nat := [9]
set_option maxHeartbeats 4000000 in
set_option maxRecDepth 100000 in
theorem w_X11_types (l : Launch) (X : gX) (ad : Nat → Nat) (F : Nat → Int32) (R : Nat → Nat → Int32) (hI : g_ok LK_wM F) (hA : g_okR LA_wM R) (hWT : WT F R) (hWC : WC F R) (a0 : Int32) (hp0 : (F 14).toInt ≤ 216) : g_Cv l X yX11_types cX11_types 3 1 0 0 [.ref (ad 0), .int a0] (wM X ad F R) (fun w => ∃ (F' : Nat → Int32) (R' : Nat → Nat → Int32), w = wM X ad F' R' ∧ g_ok LK_wM F' ∧ g_okR LA_wM R' ∧ WT F' R' ∧ WC F' R' ∧ g_fr md_X11_types F F' ∧ g_fr mr_X11_types R R' ∧ (F' 14).toInt = (F 14).toInt + 4 ∧ (F', R') = sp_X11_types F R a0) := by
  refine g_mv (by decide +kernel) (Nat.le_of_ble_eq_true rfl) (fun E cx hret => ?_)
  obtain ⟨SP, hSP⟩ : ∃ z, z = sp_X11_types F R a0 := ⟨_, rfl⟩
  have hk0 := hSP
  unfold sp_X11_types at hk0
  refine g_iconst cx 3 (by decide) e_X11_types_0 ?_
  refine g_istore_n cx [(2, .int 3), (0, .ref (ad 0)), (1, .int a0)] e_X11_types_1 (by decide) rfl ?_
  have J2 : ∀ (N : Nat) (F2 : Nat → Int32) (R3 : Nat → Nat → Int32) (y1 : Int32), (g_ok LK_wM F2) → (g_fr md_X11_types F F2) → (g_okR LA_wM R3) → (g_fr mr_X11_types R R3) → (WT F2 R3) → (WC F2 R3) → (jv (-1) 3 y1) → ((F2 14).toInt + y1.toInt = (F 14).toInt + 3 ∧ -1 ≤ y1.toInt) → (SP = K_X11_types_2 a0 N F2 R3 y1) → (y1.toInt + 2147483648).toNat < N → G X E 3 0 0 (wM X ad F2 R3) [(0, .ref (ad 0)), (1, .int a0), (2, .int y1)] 2 [] := by
    intro N
    induction N with
    | zero => intro F2 R3 y1 oF2 fF2 oR3 fR3 wTF2R3 wCF2R3 py1 zi2_0 hkJ2 hm; exact absurd hm (Nat.not_lt_zero _)
    | succ N ih2 =>
      intro F2 R3 y1 oF2 fF2 oR3 fR3 wTF2R3 wCF2R3 py1 zi2_0 hkJ2 hm2
      have hkK2 : SP = KB_X11_types_2 (K_X11_types_2 a0 N) a0 F2 R3 y1 := hkJ2
      obtain ⟨b2, hb2⟩ : ∃ z, z = K_X11_types_2 a0 N := ⟨_, rfl⟩
      rw [← hb2] at hkK2
      unfold KB_X11_types_2 at hkK2
      have p4 : jv (-1) 3 y1 := ⟨by have q0 := (g_ok_g hI 0 rfl).1; have q1 := (g_ok_g hI 0 rfl).2; have q2 := (g_ok_g oF2 0 rfl).1; have q3 := (g_ok_g oF2 0 rfl).2; have q4 := py1.1; have q5 := py1.2; have q6 := hp0; have q7 := zi2_0; omega, by have q0 := (g_ok_g hI 0 rfl).1; have q1 := (g_ok_g hI 0 rfl).2; have q2 := (g_ok_g oF2 0 rfl).1; have q3 := (g_ok_g oF2 0 rfl).2; have q4 := py1.1; have q5 := py1.2; have q6 := hp0; have q7 := zi2_0; omega⟩
      refine g_iload_n cx 2 rfl e_X11_types_2 ?_
      refine g_if_lt cx 38 e_X11_types_3 (by decide) (fun zc5 => ?_) (fun zc5 => ?_)
      · have p6 := gn_lt (-1) (-1) (gc_lt zc5) p4 (jv_k (x := 0) 0 (by decide)) (by decide)
        have hk7 := hkK2.trans (if_pos zc5)
        exact hret e_X11_types_38 (Nat.le_of_ble_eq_true rfl) (Nat.le_of_ble_eq_true rfl) ⟨F2, R3, rfl, oF2, oR3, wTF2R3, wCF2R3, fF2, fR3, (by have q0 := (jv_k (x := 0) 0 (by decide)).1; have q1 := (jv_k (x := 0) 0 (by decide)).2; have q2 := (g_ok_g hI 0 rfl).1; have q3 := (g_ok_g hI 0 rfl).2; have q4 := (g_ok_g oF2 0 rfl).1; have q5 := (g_ok_g oF2 0 rfl).2; have q6 := p6.1; have q7 := p6.2; have q8 := hp0; have q9 := zi2_0; have q10 := (gc_lt zc5); omega), (hk7.symm.trans hSP)⟩
      · have p8 := gn_ge 0 3 (gc_nlt zc5) p4 (jv_k (x := 0) 0 (by decide)) (by decide)
        have hk9 := hkK2.trans (if_neg zc5)
        refine g_aload_n cx 0 rfl e_X11_types_6 ?_
        refine g_get cx cl_X11 fl_X11_34 0 (.ref (ad 9)) e_X11_types_7 rfl rfl ?_
        refine g_aload_n cx 0 rfl e_X11_types_10 ?_
        refine g_get cx cl_X11 fl_X11_183 0 (.int (F2 14)) e_X11_types_11 rfl rfl ?_
        refine g_iload_n cx 1 rfl e_X11_types_14 ?_
        refine g_bipush cx 8 (by decide) e_X11_types_15 ?_
        refine g_iload_n cx 2 rfl e_X11_types_17 ?_
        refine g_imul cx e_X11_types_18 ?_
        refine g_topi (fun x10 ex10 => ?_)
        have hk11 := k_ls hk9 ex10
        have zx10 := jv_mul 0 24 ex10 (jv_k (x := 8) 8 (by decide)) p8 (by decide)
        refine g_ishr cx e_X11_types_19 ?_
        refine g_topi (fun x12 ex12 => ?_)
        have hk13 := k_ls hk11 ex12
        refine g_i2b cx e_X11_types_20 ?_
        refine g_topi (fun x14 ex14 => ?_)
        have hk15 := k_ls hk13 ex14
        refine g_bast cx 9 (wM X ad F2 (g_u R3 9 (upd (R3 9) (Int32.toNatClampNeg (F2 14)) (vp_nar .byte x14)))) e_X11_types_21 rfl (vp_in_iff.mpr ⟨by have q0 := (jv_k (x := 0) 0 (by decide)).1; have q1 := (jv_k (x := 0) 0 (by decide)).2; have q2 := (g_ok_g hI 0 rfl).1; have q3 := (g_ok_g hI 0 rfl).2; have q4 := (g_ok_g oF2 0 rfl).1; have q5 := (g_ok_g oF2 0 rfl).2; have q6 := zx10.2.1; have q7 := zx10.2.2; have q8 := p8.1; have q9 := p8.2; have q10 := hp0; have q11 := zi2_0; have q12 := (gc_nlt zc5); have q13 := (g_em2 zx10.1 (by decide : Int32.toInt 8 = 8)); omega, by have q0 := (jv_k (x := 0) 0 (by decide)).1; have q1 := (jv_k (x := 0) 0 (by decide)).2; have q2 := (g_ok_g hI 0 rfl).1; have q3 := (g_ok_g hI 0 rfl).2; have q4 := (g_ok_g oF2 0 rfl).1; have q5 := (g_ok_g oF2 0 rfl).2; have q6 := zx10.2.1; have q7 := zx10.2.2; have q8 := p8.1; have q9 := p8.2; have q10 := hp0; have q11 := zi2_0; have q12 := (gc_nlt zc5); have q13 := (g_em2 zx10.1 (by decide : Int32.toInt 8 = 8)); omega⟩) rfl ?_
        obtain ⟨R16, hR16⟩ : ∃ z, z = g_u R3 9 (upd (R3 9) (Int32.toNatClampNeg (F2 14)) (vp_nar .byte x14)) := ⟨_, rfl⟩
        rw [← hR16]
        have hk17 := k_ls hk15 hR16
        have oR16 : g_okR LA_wM R16 := by rw [hR16]; exact g_okR_u oR3 rfl
        have fR16 : g_fr mr_X11_types R R16 := by rw [hR16]; exact g_fr_r fR3 rfl
        have wTR16 : WT F2 R16 := by rw [hR16]; exact WT_r wTF2R3 rfl
        have wCR16 : WC F2 R16 := by rw [hR16]; exact WC_r wCF2R3 rfl
        refine g_aload_n cx 0 rfl e_X11_types_22 ?_
        refine g_aload_n cx 0 rfl e_X11_types_23 ?_
        refine g_get cx cl_X11 fl_X11_183 0 (.int (F2 14)) e_X11_types_24 rfl rfl ?_
        refine g_iconst cx 1 (by decide) e_X11_types_27 ?_
        refine g_iadd cx e_X11_types_28 ?_
        refine g_topi (fun x18 ex18 => ?_)
        have hk19 := k_ls hk17 ex18
        have zx18 := jv_add 1 221 ex18 (g_ok_g oF2 0 rfl) (jv_k (x := 1) 1 (by decide)) (by decide)
        refine g_put cx cl_X11 fl_X11_183 0 (wM X ad (upd F2 14 x18) R16) e_X11_types_29 rfl rfl rfl rfl (Nat.le_of_ble_eq_true rfl) rfl ?_
        obtain ⟨F20, hF20⟩ : ∃ z, z = upd F2 14 x18 := ⟨_, rfl⟩
        rw [← hF20]
        have hk21 := k_ls hk19 hF20
        have oF20 : g_ok LK_wM F20 := by rw [hF20]; exact g_ok_p oF2 (show jv 0 220 _ from ⟨by have q0 := (jv_k (x := 0) 0 (by decide)).1; have q1 := (jv_k (x := 0) 0 (by decide)).2; have q2 := (jv_k (x := 1) 1 (by decide)).1; have q3 := (jv_k (x := 1) 1 (by decide)).2; have q4 := (g_ok_g hI 0 rfl).1; have q5 := (g_ok_g hI 0 rfl).2; have q6 := (g_ok_g oF2 0 rfl).1; have q7 := (g_ok_g oF2 0 rfl).2; have q8 := zx10.2.1; have q9 := zx10.2.2; have q10 := zx18.2.1; have q11 := zx18.2.2; have q12 := p8.1; have q13 := p8.2; have q14 := hp0; have q15 := zi2_0; have q16 := (gc_nlt zc5); have q17 := (g_em2 zx10.1 (by decide : Int32.toInt 8 = 8)); have q18 := (g_eq0 zx18.1); omega, by have q0 := (jv_k (x := 0) 0 (by decide)).1; have q1 := (jv_k (x := 0) 0 (by decide)).2; have q2 := (jv_k (x := 1) 1 (by decide)).1; have q3 := (jv_k (x := 1) 1 (by decide)).2; have q4 := (g_ok_g hI 0 rfl).1; have q5 := (g_ok_g hI 0 rfl).2; have q6 := (g_ok_g oF2 0 rfl).1; have q7 := (g_ok_g oF2 0 rfl).2; have q8 := zx10.2.1; have q9 := zx10.2.2; have q10 := zx18.2.1; have q11 := zx18.2.2; have q12 := p8.1; have q13 := p8.2; have q14 := hp0; have q15 := zi2_0; have q16 := (gc_nlt zc5); have q17 := (g_em2 zx10.1 (by decide : Int32.toInt 8 = 8)); have q18 := (g_eq0 zx18.1); omega⟩) rfl
        have fF20 : g_fr md_X11_types F F20 := by rw [hF20]; exact g_fr_u fF2 rfl
        have wTF20 : WT F20 R16 := by rw [hF20]; exact WT_u wTR16 rfl
        have wCF20 : WC F20 R16 := by rw [hF20]; exact WC_u wCR16 rfl
        obtain ⟨x22, ex22⟩ : ∃ z : Int32, z = y1 + Int32.ofInt (-1) := ⟨_, rfl⟩
        have hk23 := k_ls hk21 (show x22 = y1 + (-1) from ex22)
        refine g_iinc cx x22 [(2, .int x22), (0, .ref (ad 0)), (1, .int a0)] 2 e_X11_types_32 rfl ex22.symm (by decide) rfl ?_
        have zx22 := jv_add (-1) 2 (show x22 = y1 + (-1) from ex22) p8 (jv_k (x := (-1)) (-1) (by decide)) (by decide)
        refine g_goto cx 2 e_X11_types_35 (by decide) ?_
        refine g_lsub [1, 2, 0] [(0, .ref (ad 0)), (1, .int a0), (2, .int x22)] rfl ?_
        exact ih2 F20 R16 x22 oF20 fF20 oR16 fR16 wTF20 wCF20 (jv_w zx22.2 (by decide)) (by have q0 := (jv_k (x := (-1)) (-1) (by decide)).1; have q1 := (jv_k (x := (-1)) (-1) (by decide)).2; have q2 := (jv_k (x := 0) 0 (by decide)).1; have q3 := (jv_k (x := 0) 0 (by decide)).2; have q4 := (jv_k (x := 1) 1 (by decide)).1; have q5 := (jv_k (x := 1) 1 (by decide)).2; have q6 := (g_ok_g hI 0 rfl).1; have q7 := (g_ok_g hI 0 rfl).2; have q8 := (g_ok_g oF2 0 rfl).1; have q9 := (g_ok_g oF2 0 rfl).2; have q10 := (g_ok_g oF20 0 rfl).1; have q11 := (g_ok_g oF20 0 rfl).2; have q12 := zx10.2.1; have q13 := zx10.2.2; have q14 := zx18.2.1; have q15 := zx18.2.2; have q16 := zx22.2.1; have q17 := zx22.2.2; have q18 := p8.1; have q19 := p8.2; have q20 := hp0; have q21 := zi2_0; have q22 := (gc_nlt zc5); have q23 := (g_em2 zx10.1 (by decide : Int32.toInt 8 = 8)); have q24 := (g_eq0 zx18.1); have q25 := (g_eq0 zx22.1); have q26 := (congrArg Int32.toInt (show F20 14 = x18 from (g_pu1 hF20))); have q27 := (congrArg Int32.toInt (show F20 14 = x18 from (g_pu1 hF20))); omega) (hk23.trans (by rw [hb2])) (Nat.lt_of_lt_of_le (show (x22.toInt + 2147483648).toNat < (y1.toInt + 2147483648).toNat from by have q0 := (jv_k (x := (-1)) (-1) (by decide)).1; have q1 := (jv_k (x := (-1)) (-1) (by decide)).2; have q2 := (jv_k (x := 0) 0 (by decide)).1; have q3 := (jv_k (x := 0) 0 (by decide)).2; have q4 := (jv_k (x := 1) 1 (by decide)).1; have q5 := (jv_k (x := 1) 1 (by decide)).2; have q6 := (g_ok_g hI 0 rfl).1; have q7 := (g_ok_g hI 0 rfl).2; have q8 := (g_ok_g oF2 0 rfl).1; have q9 := (g_ok_g oF2 0 rfl).2; have q10 := (g_ok_g oF20 0 rfl).1; have q11 := (g_ok_g oF20 0 rfl).2; have q12 := zx10.2.1; have q13 := zx10.2.2; have q14 := zx18.2.1; have q15 := zx18.2.2; have q16 := zx22.2.1; have q17 := zx22.2.2; have q18 := p8.1; have q19 := p8.2; have q20 := hp0; have q21 := zi2_0; have q22 := (gc_nlt zc5); have q23 := (g_em2 zx10.1 (by decide : Int32.toInt 8 = 8)); have q24 := (g_eq0 zx18.1); have q25 := (g_eq0 zx22.1); have q26 := (congrArg Int32.toInt (show F20 14 = x18 from (g_pu1 hF20))); have q27 := (congrArg Int32.toInt (show F20 14 = x18 from (g_pu1 hF20))); omega) (Nat.le_of_lt_succ hm2))
  refine g_lsub [1, 2, 0] [(0, .ref (ad 0)), (1, .int a0), (2, .int 3)] rfl ?_
  exact J2 8589934592 F R 3 hI (g_fr_rf F) hA (g_fr_rf R) hWT hWC (jv_w (jv_k (x := 3) 3 (by decide)) (by decide)) (by have q0 := (jv_k (x := 3) 3 (by decide)).1; have q1 := (jv_k (x := 3) 3 (by decide)).2; have q2 := (g_ok_g hI 0 rfl).1; have q3 := (g_ok_g hI 0 rfl).2; have q4 := hp0; omega) hk0 (show ((3 : Int32).toInt + 2147483648).toNat < 8589934592 from by have q0 := (jv_k (x := 3) 3 (by decide)).1; have q1 := (jv_k (x := 3) 3 (by decide)).2; omega)
def sp_X11_feed (F : Nat → Int32) (R : Nat → Nat → Int32) (a0 : Int32) (a1 : Int32) (a2 : Int32) (a3 : Int32) (a4 : Int32) : Int32 × (Nat → Int32) × (Nat → Nat → Int32) :=
  k_lt ((F 14) + 20) (fun x1 => if x1 ≤ 220 then k_lt2 (sp_X11_types F R a0) (fun F12 R13 => k_lt2 (sp_X11_types F12 R13 a1) (fun F20 R21 => k_lt2 (sp_X11_types F20 R21 a2) (fun F28 R29 => k_lt2 (sp_X11_types F28 R29 a3) (fun F36 R37 => k_lt2 (sp_X11_types F36 R37 a4) (fun F44 R45 => (F44 14, F44, R45)))))) else ((-1), F, R))
theorem e_X11_feed_0 : g_dc cX11_feed 0 (.aload_n 0) 1 1 := ⟨by decide +kernel, rfl⟩
theorem e_X11_feed_1 : g_dc cX11_feed 1 (.getfield 183) 3 4 := ⟨by decide +kernel, rfl⟩
theorem e_X11_feed_4 : g_dc cX11_feed 4 (.bipush 20) 2 6 := ⟨by decide +kernel, rfl⟩
theorem e_X11_feed_6 : g_dc cX11_feed 6 (.iadd) 1 7 := ⟨by decide +kernel, rfl⟩
theorem e_X11_feed_7 : g_dc cX11_feed 7 (.sipush 220) 3 10 := ⟨by decide +kernel, rfl⟩
theorem e_X11_feed_10 : g_dc cX11_feed 10 (.if_icmp .le 5) 3 13 := ⟨by decide +kernel, rfl⟩
theorem e_X11_feed_13 : g_dc cX11_feed 13 (.iconst (-1)) 1 14 := ⟨by decide +kernel, rfl⟩
theorem e_X11_feed_14 : g_dc cX11_feed 14 (.ireturn) 1 15 := ⟨by decide +kernel, rfl⟩
theorem e_X11_feed_15 : g_dc cX11_feed 15 (.aload_n 0) 1 16 := ⟨by decide +kernel, rfl⟩
theorem e_X11_feed_16 : g_dc cX11_feed 16 (.iload_n 1) 1 17 := ⟨by decide +kernel, rfl⟩
theorem e_X11_feed_17 : g_dc cX11_feed 17 (.invokevirtual 186) 3 20 := ⟨by decide +kernel, rfl⟩
theorem e_X11_feed_20 : g_dc cX11_feed 20 (.aload_n 0) 1 21 := ⟨by decide +kernel, rfl⟩
theorem e_X11_feed_21 : g_dc cX11_feed 21 (.iload_n 2) 1 22 := ⟨by decide +kernel, rfl⟩
theorem e_X11_feed_22 : g_dc cX11_feed 22 (.invokevirtual 186) 3 25 := ⟨by decide +kernel, rfl⟩
theorem e_X11_feed_25 : g_dc cX11_feed 25 (.aload_n 0) 1 26 := ⟨by decide +kernel, rfl⟩
theorem e_X11_feed_26 : g_dc cX11_feed 26 (.iload_n 3) 1 27 := ⟨by decide +kernel, rfl⟩
theorem e_X11_feed_27 : g_dc cX11_feed 27 (.invokevirtual 186) 3 30 := ⟨by decide +kernel, rfl⟩
theorem e_X11_feed_30 : g_dc cX11_feed 30 (.aload_n 0) 1 31 := ⟨by decide +kernel, rfl⟩
theorem e_X11_feed_31 : g_dc cX11_feed 31 (.iload 4) 2 33 := ⟨by decide +kernel, rfl⟩
theorem e_X11_feed_33 : g_dc cX11_feed 33 (.invokevirtual 186) 3 36 := ⟨by decide +kernel, rfl⟩
theorem e_X11_feed_36 : g_dc cX11_feed 36 (.aload_n 0) 1 37 := ⟨by decide +kernel, rfl⟩
theorem e_X11_feed_37 : g_dc cX11_feed 37 (.iload 5) 2 39 := ⟨by decide +kernel, rfl⟩
theorem e_X11_feed_39 : g_dc cX11_feed 39 (.invokevirtual 186) 3 42 := ⟨by decide +kernel, rfl⟩
theorem e_X11_feed_42 : g_dc cX11_feed 42 (.aload_n 0) 1 43 := ⟨by decide +kernel, rfl⟩
theorem e_X11_feed_43 : g_dc cX11_feed 43 (.getfield 183) 3 46 := ⟨by decide +kernel, rfl⟩
theorem e_X11_feed_46 : g_dc cX11_feed 46 (.ireturn) 1 47 := ⟨by decide +kernel, rfl⟩
def md_X11_feed : List Nat := [14]
def mr_X11_feed : List Nat := [9]
set_option maxHeartbeats 4000000 in
set_option maxRecDepth 100000 in
theorem w_X11_feed (l : Launch) (X : gX) (ad : Nat → Nat) (F : Nat → Int32) (R : Nat → Nat → Int32) (hI : g_ok LK_wM F) (hA : g_okR LA_wM R) (hWT : WT F R) (hWC : WC F R) (a0 : Int32) (a1 : Int32) (a2 : Int32) (a3 : Int32) (a4 : Int32) : g_Ci l X yX11_feed cX11_feed 6 (some .int) 2 0 0 [.ref (ad 0), .int a0, .int a1, .int a2, .int a3, .int a4] (wM X ad F R) (fun r w => ∃ (F' : Nat → Int32) (R' : Nat → Nat → Int32), w = wM X ad F' R' ∧ g_ok LK_wM F' ∧ g_okR LA_wM R' ∧ WT F' R' ∧ WC F' R' ∧ g_fr md_X11_feed F F' ∧ g_fr mr_X11_feed R R' ∧ jv (-1) 220 r ∧ (r, F', R') = sp_X11_feed F R a0 a1 a2 a3 a4) := by
  refine g_mi (by decide +kernel) (Nat.le_of_ble_eq_true rfl) (fun E cx hret => ?_)
  obtain ⟨SP, hSP⟩ : ∃ z, z = sp_X11_feed F R a0 a1 a2 a3 a4 := ⟨_, rfl⟩
  have hk0 := hSP
  unfold sp_X11_feed at hk0
  refine g_aload_n cx 0 rfl e_X11_feed_0 ?_
  refine g_get cx cl_X11 fl_X11_183 0 (.int (F 14)) e_X11_feed_1 rfl rfl ?_
  refine g_bipush cx 20 (by decide) e_X11_feed_4 ?_
  refine g_iadd cx e_X11_feed_6 ?_
  refine g_topi (fun x1 ex1 => ?_)
  have hk2 := k_ls hk0 ex1
  have zx1 := jv_add 20 240 ex1 (g_ok_g hI 0 rfl) (jv_k (x := 20) 20 (by decide)) (by decide)
  refine g_sipush cx 220 (by decide) e_X11_feed_7 ?_
  refine g_icmp_le cx 15 e_X11_feed_10 (by decide) (fun zc3 => ?_) (fun zc3 => ?_)
  · have p4 := gn_le 20 220 (gc_le zc3) zx1.2 (jv_k (x := 220) 220 (by decide)) (by decide)
    have p5 : jv 0 200 (F 14) := ⟨by have q0 := (jv_k (x := 20) 20 (by decide)).1; have q1 := (jv_k (x := 20) 20 (by decide)).2; have q2 := (jv_k (x := 220) 220 (by decide)).1; have q3 := (jv_k (x := 220) 220 (by decide)).2; have q4 := (g_ok_g hI 0 rfl).1; have q5 := (g_ok_g hI 0 rfl).2; have q6 := p4.1; have q7 := p4.2; have q8 := (g_eq0 zx1.1); have q9 := (gc_le zc3); omega, by have q0 := (jv_k (x := 20) 20 (by decide)).1; have q1 := (jv_k (x := 20) 20 (by decide)).2; have q2 := (jv_k (x := 220) 220 (by decide)).1; have q3 := (jv_k (x := 220) 220 (by decide)).2; have q4 := (g_ok_g hI 0 rfl).1; have q5 := (g_ok_g hI 0 rfl).2; have q6 := p4.1; have q7 := p4.2; have q8 := (g_eq0 zx1.1); have q9 := (gc_le zc3); omega⟩
    have hk6 := hk2.trans (if_pos zc3)
    refine g_aload_n cx 0 rfl e_X11_feed_15 ?_
    refine g_iload_n cx 1 rfl e_X11_feed_16 ?_
    refine g_cVvW cx [.int a0] [] (w_X11_types l X ad F R hI hA hWT hWC a0 (by have q0 := (jv_k (x := 20) 20 (by decide)).1; have q1 := (jv_k (x := 20) 20 (by decide)).2; have q2 := (jv_k (x := 220) 220 (by decide)).1; have q3 := (jv_k (x := 220) 220 (by decide)).2; have q4 := p5.1; have q5 := p5.2; have q6 := p4.1; have q7 := p4.2; have q8 := (g_eq0 zx1.1); have q9 := (gc_le zc3); omega)) ml_X11_186 yV_X11_types e_X11_feed_17 (by unfold g_rr; decide) (by decide) 0 rfl rfl rfl (Nat.le_of_ble_eq_true rfl) (fun w8 h9 => ?_)
    obtain ⟨F12, R13, rfl, oF12, oR13, wTF12, wCF12, cF12, cR13, zx10, hx11⟩ := h9
    have hk14 := k_ls2 hk6 hx11
    have fF12 : g_fr md_X11_feed F F12 := g_fr_c (g_fr_rf F) cF12 rfl
    have fR13 : g_fr mr_X11_feed R R13 := g_fr_c (g_fr_rf R) cR13 rfl
    refine g_aload_n cx 0 rfl e_X11_feed_20 ?_
    refine g_iload_n cx 2 rfl e_X11_feed_21 ?_
    refine g_cVvW cx [.int a1] [] (w_X11_types l X ad F12 R13 oF12 oR13 wTF12 wCF12 a1 (by have q0 := (jv_k (x := 20) 20 (by decide)).1; have q1 := (jv_k (x := 20) 20 (by decide)).2; have q2 := (jv_k (x := 220) 220 (by decide)).1; have q3 := (jv_k (x := 220) 220 (by decide)).2; have q4 := p5.1; have q5 := p5.2; have q6 := (g_ok_g oF12 0 rfl).1; have q7 := (g_ok_g oF12 0 rfl).2; have q8 := p4.1; have q9 := p4.2; have q10 := (g_eq0 zx1.1); have q11 := (gc_le zc3); have q12 := zx10; omega)) ml_X11_186 yV_X11_types e_X11_feed_22 (by unfold g_rr; decide) (by decide) 0 rfl rfl rfl (Nat.le_of_ble_eq_true rfl) (fun w16 h17 => ?_)
    obtain ⟨F20, R21, rfl, oF20, oR21, wTF20, wCF20, cF20, cR21, zx18, hx19⟩ := h17
    have hk22 := k_ls2 hk14 hx19
    have fF20 : g_fr md_X11_feed F F20 := g_fr_c fF12 cF20 rfl
    have fR21 : g_fr mr_X11_feed R R21 := g_fr_c fR13 cR21 rfl
    refine g_aload_n cx 0 rfl e_X11_feed_25 ?_
    refine g_iload_n cx 3 rfl e_X11_feed_26 ?_
    refine g_cVvW cx [.int a2] [] (w_X11_types l X ad F20 R21 oF20 oR21 wTF20 wCF20 a2 (by have q0 := (jv_k (x := 20) 20 (by decide)).1; have q1 := (jv_k (x := 20) 20 (by decide)).2; have q2 := (jv_k (x := 220) 220 (by decide)).1; have q3 := (jv_k (x := 220) 220 (by decide)).2; have q4 := p5.1; have q5 := p5.2; have q6 := (g_ok_g oF12 0 rfl).1; have q7 := (g_ok_g oF12 0 rfl).2; have q8 := (g_ok_g oF20 0 rfl).1; have q9 := (g_ok_g oF20 0 rfl).2; have q10 := p4.1; have q11 := p4.2; have q12 := (g_eq0 zx1.1); have q13 := (gc_le zc3); have q14 := zx10; have q15 := zx18; omega)) ml_X11_186 yV_X11_types e_X11_feed_27 (by unfold g_rr; decide) (by decide) 0 rfl rfl rfl (Nat.le_of_ble_eq_true rfl) (fun w24 h25 => ?_)
    obtain ⟨F28, R29, rfl, oF28, oR29, wTF28, wCF28, cF28, cR29, zx26, hx27⟩ := h25
    have hk30 := k_ls2 hk22 hx27
    have fF28 : g_fr md_X11_feed F F28 := g_fr_c fF20 cF28 rfl
    have fR29 : g_fr mr_X11_feed R R29 := g_fr_c fR21 cR29 rfl
    refine g_aload_n cx 0 rfl e_X11_feed_30 ?_
    refine g_iload cx 4 rfl e_X11_feed_31 ?_
    refine g_cVvW cx [.int a3] [] (w_X11_types l X ad F28 R29 oF28 oR29 wTF28 wCF28 a3 (by have q0 := (jv_k (x := 20) 20 (by decide)).1; have q1 := (jv_k (x := 20) 20 (by decide)).2; have q2 := (jv_k (x := 220) 220 (by decide)).1; have q3 := (jv_k (x := 220) 220 (by decide)).2; have q4 := p5.1; have q5 := p5.2; have q6 := (g_ok_g oF12 0 rfl).1; have q7 := (g_ok_g oF12 0 rfl).2; have q8 := (g_ok_g oF20 0 rfl).1; have q9 := (g_ok_g oF20 0 rfl).2; have q10 := (g_ok_g oF28 0 rfl).1; have q11 := (g_ok_g oF28 0 rfl).2; have q12 := p4.1; have q13 := p4.2; have q14 := (g_eq0 zx1.1); have q15 := (gc_le zc3); have q16 := zx10; have q17 := zx18; have q18 := zx26; omega)) ml_X11_186 yV_X11_types e_X11_feed_33 (by unfold g_rr; decide) (by decide) 0 rfl rfl rfl (Nat.le_of_ble_eq_true rfl) (fun w32 h33 => ?_)
    obtain ⟨F36, R37, rfl, oF36, oR37, wTF36, wCF36, cF36, cR37, zx34, hx35⟩ := h33
    have hk38 := k_ls2 hk30 hx35
    have fF36 : g_fr md_X11_feed F F36 := g_fr_c fF28 cF36 rfl
    have fR37 : g_fr mr_X11_feed R R37 := g_fr_c fR29 cR37 rfl
    refine g_aload_n cx 0 rfl e_X11_feed_36 ?_
    refine g_iload cx 5 rfl e_X11_feed_37 ?_
    refine g_cVvW cx [.int a4] [] (w_X11_types l X ad F36 R37 oF36 oR37 wTF36 wCF36 a4 (by have q0 := (jv_k (x := 20) 20 (by decide)).1; have q1 := (jv_k (x := 20) 20 (by decide)).2; have q2 := (jv_k (x := 220) 220 (by decide)).1; have q3 := (jv_k (x := 220) 220 (by decide)).2; have q4 := p5.1; have q5 := p5.2; have q6 := (g_ok_g oF12 0 rfl).1; have q7 := (g_ok_g oF12 0 rfl).2; have q8 := (g_ok_g oF20 0 rfl).1; have q9 := (g_ok_g oF20 0 rfl).2; have q10 := (g_ok_g oF28 0 rfl).1; have q11 := (g_ok_g oF28 0 rfl).2; have q12 := (g_ok_g oF36 0 rfl).1; have q13 := (g_ok_g oF36 0 rfl).2; have q14 := p4.1; have q15 := p4.2; have q16 := (g_eq0 zx1.1); have q17 := (gc_le zc3); have q18 := zx10; have q19 := zx18; have q20 := zx26; have q21 := zx34; omega)) ml_X11_186 yV_X11_types e_X11_feed_39 (by unfold g_rr; decide) (by decide) 0 rfl rfl rfl (Nat.le_of_ble_eq_true rfl) (fun w40 h41 => ?_)
    obtain ⟨F44, R45, rfl, oF44, oR45, wTF44, wCF44, cF44, cR45, zx42, hx43⟩ := h41
    have hk46 := k_ls2 hk38 hx43
    have fF44 : g_fr md_X11_feed F F44 := g_fr_c fF36 cF44 rfl
    have fR45 : g_fr mr_X11_feed R R45 := g_fr_c fR37 cR45 rfl
    refine g_aload_n cx 0 rfl e_X11_feed_42 ?_
    refine g_get cx cl_X11 fl_X11_183 0 (.int (F44 14)) e_X11_feed_43 rfl rfl ?_
    exact hret e_X11_feed_46 (Nat.le_of_ble_eq_true rfl) (Nat.le_of_ble_eq_true rfl) rfl ⟨F44, R45, rfl, oF44, oR45, wTF44, wCF44, fF44, fR45, (jv_w (g_ok_g oF44 0 rfl) (by decide)), (hk46.symm.trans hSP)⟩
  · have p47 := gn_gt 221 240 (gc_nle zc3) zx1.2 (jv_k (x := 220) 220 (by decide)) (by decide)
    have p48 : jv 201 220 (F 14) := ⟨by have q0 := (jv_k (x := 20) 20 (by decide)).1; have q1 := (jv_k (x := 20) 20 (by decide)).2; have q2 := (jv_k (x := 220) 220 (by decide)).1; have q3 := (jv_k (x := 220) 220 (by decide)).2; have q4 := (g_ok_g hI 0 rfl).1; have q5 := (g_ok_g hI 0 rfl).2; have q6 := p47.1; have q7 := p47.2; have q8 := (g_eq0 zx1.1); have q9 := (gc_nle zc3); omega, by have q0 := (jv_k (x := 20) 20 (by decide)).1; have q1 := (jv_k (x := 20) 20 (by decide)).2; have q2 := (jv_k (x := 220) 220 (by decide)).1; have q3 := (jv_k (x := 220) 220 (by decide)).2; have q4 := (g_ok_g hI 0 rfl).1; have q5 := (g_ok_g hI 0 rfl).2; have q6 := p47.1; have q7 := p47.2; have q8 := (g_eq0 zx1.1); have q9 := (gc_nle zc3); omega⟩
    have hk49 := hk2.trans (if_neg zc3)
    refine g_iconst cx (-1) (by decide) e_X11_feed_13 ?_
    exact hret e_X11_feed_14 (Nat.le_of_ble_eq_true rfl) (Nat.le_of_ble_eq_true rfl) rfl ⟨F, R, rfl, hI, hA, hWT, hWC, (g_fr_rf F), (g_fr_rf R), (jv_w (jv_k (x := (-1)) (-1) (by decide)) (by decide)), (hk49.symm.trans hSP)⟩
def sp_X11_thingIs (F : Nat → Int32) (R : Nat → Nat → Int32) (a0 : Int32) (a1 : Int32) : Int32 :=
  k_lt (sp_X11_isTold F R a0) (fun r1 => if r1 = 0 then (-1) else k_lt (a1) (fun zy11 => if zy11.toInt = 0 then k_lt (R 1 (Int32.toNatClampNeg a0)) (fun x16 => x16) else if zy11.toInt = 1 then k_lt (R 2 (Int32.toNatClampNeg a0)) (fun x20 => x20) else if zy11.toInt = 2 then k_lt (R 3 (Int32.toNatClampNeg a0)) (fun x24 => x24) else if zy11.toInt = 3 then k_lt (R 4 (Int32.toNatClampNeg a0)) (fun x29 => x29) else if zy11.toInt = 4 then k_lt (R 5 (Int32.toNatClampNeg a0)) (fun x33 => x33) else if zy11.toInt = 5 then k_lt (R 6 (Int32.toNatClampNeg a0)) (fun x38 => x38) else if zy11.toInt = 6 then k_lt (R 7 (Int32.toNatClampNeg a0)) (fun x42 => x42) else if zy11.toInt = 7 then k_lt (R 8 (Int32.toNatClampNeg a0)) (fun x46 => x46) else (-1)))
theorem e_X11_thingIs_0 : g_dc cX11_thingIs 0 (.aload_n 0) 1 1 := ⟨by decide +kernel, rfl⟩
theorem e_X11_thingIs_1 : g_dc cX11_thingIs 1 (.iload_n 1) 1 2 := ⟨by decide +kernel, rfl⟩
theorem e_X11_thingIs_2 : g_dc cX11_thingIs 2 (.invokevirtual 179) 3 5 := ⟨by decide +kernel, rfl⟩
theorem e_X11_thingIs_5 : g_dc cX11_thingIs 5 (.ifCond .ne 5) 3 8 := ⟨by decide +kernel, rfl⟩
theorem e_X11_thingIs_8 : g_dc cX11_thingIs 8 (.iconst (-1)) 1 9 := ⟨by decide +kernel, rfl⟩
theorem e_X11_thingIs_9 : g_dc cX11_thingIs 9 (.ireturn) 1 10 := ⟨by decide +kernel, rfl⟩
theorem e_X11_thingIs_10 : g_dc cX11_thingIs 10 (.iload_n 2) 1 11 := ⟨by decide +kernel, rfl⟩
theorem e_X11_thingIs_11 : g_dc cX11_thingIs 11 (.tableswitch 101 0 7 #[45, 52, 59, 66, 73, 80, 87, 94]) 45 56 := ⟨by decide +kernel, rfl⟩
theorem e_X11_thingIs_56 : g_dc cX11_thingIs 56 (.aload_n 0) 1 57 := ⟨by decide +kernel, rfl⟩
theorem e_X11_thingIs_57 : g_dc cX11_thingIs 57 (.getfield 7) 3 60 := ⟨by decide +kernel, rfl⟩
theorem e_X11_thingIs_60 : g_dc cX11_thingIs 60 (.iload_n 1) 1 61 := ⟨by decide +kernel, rfl⟩
theorem e_X11_thingIs_61 : g_dc cX11_thingIs 61 (.iaload) 1 62 := ⟨by decide +kernel, rfl⟩
theorem e_X11_thingIs_62 : g_dc cX11_thingIs 62 (.ireturn) 1 63 := ⟨by decide +kernel, rfl⟩
theorem e_X11_thingIs_63 : g_dc cX11_thingIs 63 (.aload_n 0) 1 64 := ⟨by decide +kernel, rfl⟩
theorem e_X11_thingIs_64 : g_dc cX11_thingIs 64 (.getfield 13) 3 67 := ⟨by decide +kernel, rfl⟩
theorem e_X11_thingIs_67 : g_dc cX11_thingIs 67 (.iload_n 1) 1 68 := ⟨by decide +kernel, rfl⟩
theorem e_X11_thingIs_68 : g_dc cX11_thingIs 68 (.iaload) 1 69 := ⟨by decide +kernel, rfl⟩
theorem e_X11_thingIs_69 : g_dc cX11_thingIs 69 (.ireturn) 1 70 := ⟨by decide +kernel, rfl⟩
theorem e_X11_thingIs_70 : g_dc cX11_thingIs 70 (.aload_n 0) 1 71 := ⟨by decide +kernel, rfl⟩
theorem e_X11_thingIs_71 : g_dc cX11_thingIs 71 (.getfield 16) 3 74 := ⟨by decide +kernel, rfl⟩
theorem e_X11_thingIs_74 : g_dc cX11_thingIs 74 (.iload_n 1) 1 75 := ⟨by decide +kernel, rfl⟩
theorem e_X11_thingIs_75 : g_dc cX11_thingIs 75 (.iaload) 1 76 := ⟨by decide +kernel, rfl⟩
theorem e_X11_thingIs_76 : g_dc cX11_thingIs 76 (.ireturn) 1 77 := ⟨by decide +kernel, rfl⟩
theorem e_X11_thingIs_77 : g_dc cX11_thingIs 77 (.aload_n 0) 1 78 := ⟨by decide +kernel, rfl⟩
theorem e_X11_thingIs_78 : g_dc cX11_thingIs 78 (.getfield 19) 3 81 := ⟨by decide +kernel, rfl⟩
theorem e_X11_thingIs_81 : g_dc cX11_thingIs 81 (.iload_n 1) 1 82 := ⟨by decide +kernel, rfl⟩
theorem e_X11_thingIs_82 : g_dc cX11_thingIs 82 (.iaload) 1 83 := ⟨by decide +kernel, rfl⟩
theorem e_X11_thingIs_83 : g_dc cX11_thingIs 83 (.ireturn) 1 84 := ⟨by decide +kernel, rfl⟩
theorem e_X11_thingIs_84 : g_dc cX11_thingIs 84 (.aload_n 0) 1 85 := ⟨by decide +kernel, rfl⟩
theorem e_X11_thingIs_85 : g_dc cX11_thingIs 85 (.getfield 22) 3 88 := ⟨by decide +kernel, rfl⟩
theorem e_X11_thingIs_88 : g_dc cX11_thingIs 88 (.iload_n 1) 1 89 := ⟨by decide +kernel, rfl⟩
theorem e_X11_thingIs_89 : g_dc cX11_thingIs 89 (.iaload) 1 90 := ⟨by decide +kernel, rfl⟩
theorem e_X11_thingIs_90 : g_dc cX11_thingIs 90 (.ireturn) 1 91 := ⟨by decide +kernel, rfl⟩
theorem e_X11_thingIs_91 : g_dc cX11_thingIs 91 (.aload_n 0) 1 92 := ⟨by decide +kernel, rfl⟩
theorem e_X11_thingIs_92 : g_dc cX11_thingIs 92 (.getfield 25) 3 95 := ⟨by decide +kernel, rfl⟩
theorem e_X11_thingIs_95 : g_dc cX11_thingIs 95 (.iload_n 1) 1 96 := ⟨by decide +kernel, rfl⟩
theorem e_X11_thingIs_96 : g_dc cX11_thingIs 96 (.iaload) 1 97 := ⟨by decide +kernel, rfl⟩
theorem e_X11_thingIs_97 : g_dc cX11_thingIs 97 (.ireturn) 1 98 := ⟨by decide +kernel, rfl⟩
theorem e_X11_thingIs_98 : g_dc cX11_thingIs 98 (.aload_n 0) 1 99 := ⟨by decide +kernel, rfl⟩
theorem e_X11_thingIs_99 : g_dc cX11_thingIs 99 (.getfield 28) 3 102 := ⟨by decide +kernel, rfl⟩
theorem e_X11_thingIs_102 : g_dc cX11_thingIs 102 (.iload_n 1) 1 103 := ⟨by decide +kernel, rfl⟩
theorem e_X11_thingIs_103 : g_dc cX11_thingIs 103 (.iaload) 1 104 := ⟨by decide +kernel, rfl⟩
theorem e_X11_thingIs_104 : g_dc cX11_thingIs 104 (.ireturn) 1 105 := ⟨by decide +kernel, rfl⟩
theorem e_X11_thingIs_105 : g_dc cX11_thingIs 105 (.aload_n 0) 1 106 := ⟨by decide +kernel, rfl⟩
theorem e_X11_thingIs_106 : g_dc cX11_thingIs 106 (.getfield 31) 3 109 := ⟨by decide +kernel, rfl⟩
theorem e_X11_thingIs_109 : g_dc cX11_thingIs 109 (.iload_n 1) 1 110 := ⟨by decide +kernel, rfl⟩
theorem e_X11_thingIs_110 : g_dc cX11_thingIs 110 (.iaload) 1 111 := ⟨by decide +kernel, rfl⟩
theorem e_X11_thingIs_111 : g_dc cX11_thingIs 111 (.ireturn) 1 112 := ⟨by decide +kernel, rfl⟩
theorem e_X11_thingIs_112 : g_dc cX11_thingIs 112 (.iconst (-1)) 1 113 := ⟨by decide +kernel, rfl⟩
theorem e_X11_thingIs_113 : g_dc cX11_thingIs 113 (.ireturn) 1 114 := ⟨by decide +kernel, rfl⟩
set_option maxHeartbeats 4000000 in
set_option maxRecDepth 100000 in
theorem w_X11_thingIs (l : Launch) (X : gX) (ad : Nat → Nat) (F : Nat → Int32) (R : Nat → Nat → Int32) (hI : g_ok LK_wM F) (hA : g_okR LA_wM R) (hWT : WT F R) (hWC : WC F R) (a0 : Int32) (a1 : Int32) : g_Ci l X yX11_thingIs cX11_thingIs 3 (some .int) 3 0 0 [.ref (ad 0), .int a0, .int a1] (wM X ad F R) (fun r w => w = wM X ad F R ∧ jv (-2147483648) 2147483647 r ∧ r = sp_X11_thingIs F R a0 a1) := by
  refine g_mi (by decide +kernel) (Nat.le_of_ble_eq_true rfl) (fun E cx hret => ?_)
  obtain ⟨SP, hSP⟩ : ∃ z, z = sp_X11_thingIs F R a0 a1 := ⟨_, rfl⟩
  have hk0 := hSP
  unfold sp_X11_thingIs at hk0
  refine g_aload_n cx 0 rfl e_X11_thingIs_0 ?_
  refine g_iload_n cx 1 rfl e_X11_thingIs_1 ?_
  refine g_cViW cx [.int a0] [] (w_X11_isTold l X ad F R hI hA hWT hWC a0) ml_X11_179 yV_X11_isTold e_X11_thingIs_2 (by unfold g_rr; decide) (by decide) 0 rfl rfl rfl (Nat.le_of_ble_eq_true rfl) (fun r1 w2 h3 => ?_)
  obtain ⟨rfl, pr1, zx4, hx5⟩ := h3
  have hk6 := k_ls hk0 hx5
  refine g_if_ne cx 10 e_X11_thingIs_5 (by decide) (fun zc7 => ?_) (fun zc7 => ?_)
  · have p8 := gn_neL 1 1 (gc_ne zc7) pr1 (jv_k (x := 0) 0 (by decide)) (by decide)
    have p9 := jv_i 0 9 (jv_t a0) (zx4 zc7).1 (by decide)
    have hk10 := hk6.trans (if_neg zc7)
    refine g_iload_n cx 2 rfl e_X11_thingIs_10 ?_
    refine g_topi (fun zy11 ezy11 => ?_)
    have hk12 := k_ls hk10 ezy11
    rcases g_sw 0 7 zy11 with ⟨zw13n, zw13h, zw13e⟩ | zw13
    · have zw13d : zw13n = 0 ∨ zw13n = 1 ∨ zw13n = 2 ∨ zw13n = 3 ∨ zw13n = 4 ∨ zw13n = 5 ∨ zw13n = 6 ∨ zw13n = 7 := by omega
      rcases zw13d with rfl | rfl | rfl | rfl | rfl | rfl | rfl | rfl
      · refine g_tableIn cx 56 e_X11_thingIs_11 (by rw [zw13e]; decide) (by rw [zw13e]; decide) (by rw [zw13e]; rfl) (by decide) ?_
        have p14 : jv 0 0 a1 := by rw [← ezy11]; exact jv_k 0 (by rw [zw13e]; rfl)
        have hk15 := (hk12.trans (if_pos (by rw [zw13e]; decide)))
        refine g_aload_n cx 0 rfl e_X11_thingIs_56 ?_
        refine g_get cx cl_X11 fl_X11_7 0 (.ref (ad 1)) e_X11_thingIs_57 rfl rfl ?_
        refine g_iload_n cx 1 rfl e_X11_thingIs_60 ?_
        refine g_iald cx 1 e_X11_thingIs_61 rfl (jv_ix 10 p9 (by decide)) ?_
        refine g_topi (fun x16 ex16 => ?_)
        have hk17 := k_ls hk15 ex16
        exact hret e_X11_thingIs_62 (Nat.le_of_ble_eq_true rfl) (Nat.le_of_ble_eq_true rfl) rfl ⟨rfl, (jv_t x16), (hk17.symm.trans hSP)⟩
      · refine g_tableIn cx 63 e_X11_thingIs_11 (by rw [zw13e]; decide) (by rw [zw13e]; decide) (by rw [zw13e]; rfl) (by decide) ?_
        have p18 : jv 1 1 a1 := by rw [← ezy11]; exact jv_k 1 (by rw [zw13e]; rfl)
        have hk19 := ((hk12.trans (if_neg (by rw [zw13e]; decide))).trans (if_pos (by rw [zw13e]; decide)))
        refine g_aload_n cx 0 rfl e_X11_thingIs_63 ?_
        refine g_get cx cl_X11 fl_X11_13 0 (.ref (ad 2)) e_X11_thingIs_64 rfl rfl ?_
        refine g_iload_n cx 1 rfl e_X11_thingIs_67 ?_
        refine g_iald cx 2 e_X11_thingIs_68 rfl (jv_ix 10 p9 (by decide)) ?_
        refine g_topi (fun x20 ex20 => ?_)
        have hk21 := k_ls hk19 ex20
        exact hret e_X11_thingIs_69 (Nat.le_of_ble_eq_true rfl) (Nat.le_of_ble_eq_true rfl) rfl ⟨rfl, (jv_t x20), (hk21.symm.trans hSP)⟩
      · refine g_tableIn cx 70 e_X11_thingIs_11 (by rw [zw13e]; decide) (by rw [zw13e]; decide) (by rw [zw13e]; rfl) (by decide) ?_
        have p22 : jv 2 2 a1 := by rw [← ezy11]; exact jv_k 2 (by rw [zw13e]; rfl)
        have hk23 := (((hk12.trans (if_neg (by rw [zw13e]; decide))).trans (if_neg (by rw [zw13e]; decide))).trans (if_pos (by rw [zw13e]; decide)))
        refine g_aload_n cx 0 rfl e_X11_thingIs_70 ?_
        refine g_get cx cl_X11 fl_X11_16 0 (.ref (ad 3)) e_X11_thingIs_71 rfl rfl ?_
        refine g_iload_n cx 1 rfl e_X11_thingIs_74 ?_
        refine g_iald cx 3 e_X11_thingIs_75 rfl (jv_ix 10 p9 (by decide)) ?_
        refine g_topi (fun x24 ex24 => ?_)
        have hk25 := k_ls hk23 ex24
        have p26 : jv 0 40 x24 := by rw [ex24]; exact g_okR_g hA 6 rfl (jv_cl 10 p9 (by decide))
        exact hret e_X11_thingIs_76 (Nat.le_of_ble_eq_true rfl) (Nat.le_of_ble_eq_true rfl) rfl ⟨rfl, (jv_w p26 (by decide)), (hk25.symm.trans hSP)⟩
      · refine g_tableIn cx 77 e_X11_thingIs_11 (by rw [zw13e]; decide) (by rw [zw13e]; decide) (by rw [zw13e]; rfl) (by decide) ?_
        have p27 : jv 3 3 a1 := by rw [← ezy11]; exact jv_k 3 (by rw [zw13e]; rfl)
        have hk28 := ((((hk12.trans (if_neg (by rw [zw13e]; decide))).trans (if_neg (by rw [zw13e]; decide))).trans (if_neg (by rw [zw13e]; decide))).trans (if_pos (by rw [zw13e]; decide)))
        refine g_aload_n cx 0 rfl e_X11_thingIs_77 ?_
        refine g_get cx cl_X11 fl_X11_19 0 (.ref (ad 4)) e_X11_thingIs_78 rfl rfl ?_
        refine g_iload_n cx 1 rfl e_X11_thingIs_81 ?_
        refine g_iald cx 4 e_X11_thingIs_82 rfl (jv_ix 10 p9 (by decide)) ?_
        refine g_topi (fun x29 ex29 => ?_)
        have hk30 := k_ls hk28 ex29
        exact hret e_X11_thingIs_83 (Nat.le_of_ble_eq_true rfl) (Nat.le_of_ble_eq_true rfl) rfl ⟨rfl, (jv_t x29), (hk30.symm.trans hSP)⟩
      · refine g_tableIn cx 84 e_X11_thingIs_11 (by rw [zw13e]; decide) (by rw [zw13e]; decide) (by rw [zw13e]; rfl) (by decide) ?_
        have p31 : jv 4 4 a1 := by rw [← ezy11]; exact jv_k 4 (by rw [zw13e]; rfl)
        have hk32 := (((((hk12.trans (if_neg (by rw [zw13e]; decide))).trans (if_neg (by rw [zw13e]; decide))).trans (if_neg (by rw [zw13e]; decide))).trans (if_neg (by rw [zw13e]; decide))).trans (if_pos (by rw [zw13e]; decide)))
        refine g_aload_n cx 0 rfl e_X11_thingIs_84 ?_
        refine g_get cx cl_X11 fl_X11_22 0 (.ref (ad 5)) e_X11_thingIs_85 rfl rfl ?_
        refine g_iload_n cx 1 rfl e_X11_thingIs_88 ?_
        refine g_iald cx 5 e_X11_thingIs_89 rfl (jv_ix 10 p9 (by decide)) ?_
        refine g_topi (fun x33 ex33 => ?_)
        have hk34 := k_ls hk32 ex33
        have p35 : jv 0 99 x33 := by rw [ex33]; exact g_okR_g hA 7 rfl (jv_cl 10 p9 (by decide))
        exact hret e_X11_thingIs_90 (Nat.le_of_ble_eq_true rfl) (Nat.le_of_ble_eq_true rfl) rfl ⟨rfl, (jv_w p35 (by decide)), (hk34.symm.trans hSP)⟩
      · refine g_tableIn cx 91 e_X11_thingIs_11 (by rw [zw13e]; decide) (by rw [zw13e]; decide) (by rw [zw13e]; rfl) (by decide) ?_
        have p36 : jv 5 5 a1 := by rw [← ezy11]; exact jv_k 5 (by rw [zw13e]; rfl)
        have hk37 := ((((((hk12.trans (if_neg (by rw [zw13e]; decide))).trans (if_neg (by rw [zw13e]; decide))).trans (if_neg (by rw [zw13e]; decide))).trans (if_neg (by rw [zw13e]; decide))).trans (if_neg (by rw [zw13e]; decide))).trans (if_pos (by rw [zw13e]; decide)))
        refine g_aload_n cx 0 rfl e_X11_thingIs_91 ?_
        refine g_get cx cl_X11 fl_X11_25 0 (.ref (ad 6)) e_X11_thingIs_92 rfl rfl ?_
        refine g_iload_n cx 1 rfl e_X11_thingIs_95 ?_
        refine g_iald cx 6 e_X11_thingIs_96 rfl (jv_ix 10 p9 (by decide)) ?_
        refine g_topi (fun x38 ex38 => ?_)
        have hk39 := k_ls hk37 ex38
        exact hret e_X11_thingIs_97 (Nat.le_of_ble_eq_true rfl) (Nat.le_of_ble_eq_true rfl) rfl ⟨rfl, (jv_t x38), (hk39.symm.trans hSP)⟩
      · refine g_tableIn cx 98 e_X11_thingIs_11 (by rw [zw13e]; decide) (by rw [zw13e]; decide) (by rw [zw13e]; rfl) (by decide) ?_
        have p40 : jv 6 6 a1 := by rw [← ezy11]; exact jv_k 6 (by rw [zw13e]; rfl)
        have hk41 := (((((((hk12.trans (if_neg (by rw [zw13e]; decide))).trans (if_neg (by rw [zw13e]; decide))).trans (if_neg (by rw [zw13e]; decide))).trans (if_neg (by rw [zw13e]; decide))).trans (if_neg (by rw [zw13e]; decide))).trans (if_neg (by rw [zw13e]; decide))).trans (if_pos (by rw [zw13e]; decide)))
        refine g_aload_n cx 0 rfl e_X11_thingIs_98 ?_
        refine g_get cx cl_X11 fl_X11_28 0 (.ref (ad 7)) e_X11_thingIs_99 rfl rfl ?_
        refine g_iload_n cx 1 rfl e_X11_thingIs_102 ?_
        refine g_iald cx 7 e_X11_thingIs_103 rfl (jv_ix 10 p9 (by decide)) ?_
        refine g_topi (fun x42 ex42 => ?_)
        have hk43 := k_ls hk41 ex42
        exact hret e_X11_thingIs_104 (Nat.le_of_ble_eq_true rfl) (Nat.le_of_ble_eq_true rfl) rfl ⟨rfl, (jv_t x42), (hk43.symm.trans hSP)⟩
      · refine g_tableIn cx 105 e_X11_thingIs_11 (by rw [zw13e]; decide) (by rw [zw13e]; decide) (by rw [zw13e]; rfl) (by decide) ?_
        have p44 : jv 7 7 a1 := by rw [← ezy11]; exact jv_k 7 (by rw [zw13e]; rfl)
        have hk45 := ((((((((hk12.trans (if_neg (by rw [zw13e]; decide))).trans (if_neg (by rw [zw13e]; decide))).trans (if_neg (by rw [zw13e]; decide))).trans (if_neg (by rw [zw13e]; decide))).trans (if_neg (by rw [zw13e]; decide))).trans (if_neg (by rw [zw13e]; decide))).trans (if_neg (by rw [zw13e]; decide))).trans (if_pos (by rw [zw13e]; decide)))
        refine g_aload_n cx 0 rfl e_X11_thingIs_105 ?_
        refine g_get cx cl_X11 fl_X11_31 0 (.ref (ad 8)) e_X11_thingIs_106 rfl rfl ?_
        refine g_iload_n cx 1 rfl e_X11_thingIs_109 ?_
        refine g_iald cx 8 e_X11_thingIs_110 rfl (jv_ix 10 p9 (by decide)) ?_
        refine g_topi (fun x46 ex46 => ?_)
        have hk47 := k_ls hk45 ex46
        exact hret e_X11_thingIs_111 (Nat.le_of_ble_eq_true rfl) (Nat.le_of_ble_eq_true rfl) rfl ⟨rfl, (jv_t x46), (hk47.symm.trans hSP)⟩
    · refine g_tableOut cx 112 e_X11_thingIs_11 zw13 (by decide) ?_
      have hk48 := ((((((((hk12.trans (if_neg (by omega))).trans (if_neg (by omega))).trans (if_neg (by omega))).trans (if_neg (by omega))).trans (if_neg (by omega))).trans (if_neg (by omega))).trans (if_neg (by omega))).trans (if_neg (by omega)))
      refine g_iconst cx (-1) (by decide) e_X11_thingIs_112 ?_
      exact hret e_X11_thingIs_113 (Nat.le_of_ble_eq_true rfl) (Nat.le_of_ble_eq_true rfl) rfl ⟨rfl, (jv_w (jv_k (x := (-1)) (-1) (by decide)) (by decide)), (hk48.symm.trans hSP)⟩
  · have p49 := gn_eq 0 0 (gc_eq zc7) pr1 (jv_k (x := 0) 0 (by decide)) (by decide)
    have hk50 := hk6.trans (if_pos zc7)
    refine g_iconst cx (-1) (by decide) e_X11_thingIs_8 ?_
    exact hret e_X11_thingIs_9 (Nat.le_of_ble_eq_true rfl) (Nat.le_of_ble_eq_true rfl) rfl ⟨rfl, (jv_w (jv_k (x := (-1)) (-1) (by decide)) (by decide)), (hk50.symm.trans hSP)⟩
def sp_X11_seed (F : Nat → Int32) (R : Nat → Nat → Int32) (a0 : Int32) : Int32 × (Nat → Int32) × (Nat → Nat → Int32) :=
  k_lt (g_in a0 0 65535) (fun r1 => if r1 = 0 then (0, F, R) else k_lt (upd F 3 a0) (fun F9 => (1, F9, R)))
theorem e_X11_seed_0 : g_dc cX11_seed 0 (.iload_n 1) 1 1 := ⟨by decide +kernel, rfl⟩
theorem e_X11_seed_1 : g_dc cX11_seed 1 (.iconst 0) 1 2 := ⟨by decide +kernel, rfl⟩
theorem e_X11_seed_2 : g_dc cX11_seed 2 (.ldc_w 490) 3 5 := ⟨by decide +kernel, rfl⟩
theorem e_X11_seed_5 : g_dc cX11_seed 5 (.invokestatic 165) 3 8 := ⟨by decide +kernel, rfl⟩
theorem e_X11_seed_8 : g_dc cX11_seed 8 (.ifCond .ne 5) 3 11 := ⟨by decide +kernel, rfl⟩
theorem e_X11_seed_11 : g_dc cX11_seed 11 (.iconst 0) 1 12 := ⟨by decide +kernel, rfl⟩
theorem e_X11_seed_12 : g_dc cX11_seed 12 (.ireturn) 1 13 := ⟨by decide +kernel, rfl⟩
theorem e_X11_seed_13 : g_dc cX11_seed 13 (.aload_n 0) 1 14 := ⟨by decide +kernel, rfl⟩
theorem e_X11_seed_14 : g_dc cX11_seed 14 (.iload_n 1) 1 15 := ⟨by decide +kernel, rfl⟩
theorem e_X11_seed_15 : g_dc cX11_seed 15 (.putfield 162) 3 18 := ⟨by decide +kernel, rfl⟩
theorem e_X11_seed_18 : g_dc cX11_seed 18 (.iconst 1) 1 19 := ⟨by decide +kernel, rfl⟩
theorem e_X11_seed_19 : g_dc cX11_seed 19 (.ireturn) 1 20 := ⟨by decide +kernel, rfl⟩
def md_X11_seed : List Nat := [3]
def mr_X11_seed : List Nat := []
set_option maxHeartbeats 4000000 in
set_option maxRecDepth 100000 in
theorem w_X11_seed (l : Launch) (X : gX) (ad : Nat → Nat) (F : Nat → Int32) (R : Nat → Nat → Int32) (hI : g_ok LK_wM F) (hA : g_okR LA_wM R) (hWT : WT F R) (hWC : WC F R) (a0 : Int32) : g_Ci l X yX11_seed cX11_seed 2 (some .boolean) 2 0 0 [.ref (ad 0), .int a0] (wM X ad F R) (fun r w => ∃ (F' : Nat → Int32) (R' : Nat → Nat → Int32), w = wM X ad F' R' ∧ g_ok LK_wM F' ∧ g_okR LA_wM R' ∧ WT F' R' ∧ WC F' R' ∧ g_fr md_X11_seed F F' ∧ g_fr mr_X11_seed R R' ∧ jv 0 1 r ∧ (r, F', R') = sp_X11_seed F R a0) := by
  refine g_mi (by decide +kernel) (Nat.le_of_ble_eq_true rfl) (fun E cx hret => ?_)
  obtain ⟨SP, hSP⟩ : ∃ z, z = sp_X11_seed F R a0 := ⟨_, rfl⟩
  have hk0 := hSP
  unfold sp_X11_seed at hk0
  refine g_iload_n cx 1 rfl e_X11_seed_0 ?_
  refine g_iconst cx 0 (by decide) e_X11_seed_1 ?_
  refine g_ldcw cx 65535 kc_X11_490 e_X11_seed_2 ?_
  refine g_cSiW cx [.int a0, .int 0, .int 65535] [] (c_X11_in l X (wM X ad F R) a0 0 65535) ml_X11_165 yS_X11_in rfl e_X11_seed_5 (by unfold g_rr; decide) (by decide) rfl (Nat.le_of_ble_eq_true rfl) (fun r1 w2 h3 => ?_)
  obtain ⟨rfl, hr1⟩ := h3
  have pr1 : jv 0 1 r1 := by rw [hr1]; exact gi_01 _ _ _
  have hk4 := k_ls hk0 hr1
  refine g_if_ne cx 13 e_X11_seed_8 (by decide) (fun zc5 => ?_) (fun zc5 => ?_)
  · have p6 := gn_neL 1 1 (gc_ne zc5) pr1 (jv_k (x := 0) 0 (by decide)) (by decide)
    have p7 := jv_i 0 65535 (jv_t a0) (gi_in (A := 0) (B := 65535) hr1 zc5 (by decide) (by decide)) (by decide)
    have hk8 := hk4.trans (if_neg zc5)
    refine g_aload_n cx 0 rfl e_X11_seed_13 ?_
    refine g_iload_n cx 1 rfl e_X11_seed_14 ?_
    refine g_put cx cl_X11 fl_X11_162 0 (wM X ad (upd F 3 a0) R) e_X11_seed_15 rfl rfl rfl rfl (Nat.le_of_ble_eq_true rfl) rfl ?_
    obtain ⟨F9, hF9⟩ : ∃ z, z = upd F 3 a0 := ⟨_, rfl⟩
    rw [← hF9]
    have hk10 := k_ls hk8 hF9
    have oF9 : g_ok LK_wM F9 := by rw [hF9]; exact g_ok_u hI rfl
    have fF9 : g_fr md_X11_seed F F9 := by rw [hF9]; exact g_fr_u (g_fr_rf F) rfl
    have wTF9 : WT F9 R := by rw [hF9]; exact WT_u hWT rfl
    have wCF9 : WC F9 R := by rw [hF9]; exact WC_u hWC rfl
    refine g_iconst cx 1 (by decide) e_X11_seed_18 ?_
    exact hret e_X11_seed_19 (Nat.le_of_ble_eq_true rfl) (Nat.le_of_ble_eq_true rfl) rfl ⟨F9, R, rfl, oF9, hA, wTF9, wCF9, fF9, (g_fr_rf R), (jv_w (jv_k (x := 1) 1 (by decide)) (by decide)), (hk10.symm.trans hSP)⟩
  · have p11 := gn_eq 0 0 (gc_eq zc5) pr1 (jv_k (x := 0) 0 (by decide)) (by decide)
    have hk12 := hk4.trans (if_pos zc5)
    refine g_iconst cx 0 (by decide) e_X11_seed_11 ?_
    exact hret e_X11_seed_12 (Nat.le_of_ble_eq_true rfl) (Nat.le_of_ble_eq_true rfl) rfl ⟨F, R, rfl, hI, hA, hWT, hWC, (g_fr_rf F), (g_fr_rf R), (jv_w (jv_k (x := 0) 0 (by decide)) (by decide)), (hk12.symm.trans hSP)⟩
def KB_X11_copies_r1_r41_2 (b2 : (Nat → Nat → Int32) → (Int32) → (Nat → Int32) × (Nat → Nat → Int32)) (F : Nat → Int32) (R2 : Nat → Nat → Int32) (y1 : Int32) : (Nat → Int32) × (Nat → Nat → Int32) :=
  if 10 ≤ y1 then (F, R2) else k_lt (R2 1 (Int32.toNatClampNeg y1)) (fun x8 => k_lt (g_u R2 41 (upd (R2 41) (Int32.toNatClampNeg y1) x8)) (fun R10 => k_lt (y1 + 1) (fun x12 => b2 R10 x12)))
def K_X11_copies_r1_r41_2 (F : Nat → Int32) : Nat → (Nat → Nat → Int32) → (Int32) → (Nat → Int32) × (Nat → Nat → Int32)
  | 0 => fun R2 _ => (F, R2)
  | n + 1 => KB_X11_copies_r1_r41_2 (K_X11_copies_r1_r41_2 F n) F
def sp_X11_copies_r1_r41 (F : Nat → Int32) (R : Nat → Nat → Int32) : (Nat → Int32) × (Nat → Nat → Int32) :=
  K_X11_copies_r1_r41_2 F 8589934592 R 0
theorem e_X11_copies_0 : g_dc cX11_copies 0 (.iconst 0) 1 1 := ⟨by decide +kernel, rfl⟩
theorem e_X11_copies_1 : g_dc cX11_copies 1 (.istore_n 2) 1 2 := ⟨by decide +kernel, rfl⟩
theorem e_X11_copies_2 : g_dc cX11_copies 2 (.iload_n 2) 1 3 := ⟨by decide +kernel, rfl⟩
theorem e_X11_copies_3 : g_dc cX11_copies 3 (.bipush 10) 2 5 := ⟨by decide +kernel, rfl⟩
theorem e_X11_copies_5 : g_dc cX11_copies 5 (.if_icmp .ge 15) 3 8 := ⟨by decide +kernel, rfl⟩
theorem e_X11_copies_8 : g_dc cX11_copies 8 (.aload_n 1) 1 9 := ⟨by decide +kernel, rfl⟩
theorem e_X11_copies_9 : g_dc cX11_copies 9 (.iload_n 2) 1 10 := ⟨by decide +kernel, rfl⟩
theorem e_X11_copies_10 : g_dc cX11_copies 10 (.aload_n 0) 1 11 := ⟨by decide +kernel, rfl⟩
theorem e_X11_copies_11 : g_dc cX11_copies 11 (.iload_n 2) 1 12 := ⟨by decide +kernel, rfl⟩
theorem e_X11_copies_12 : g_dc cX11_copies 12 (.iaload) 1 13 := ⟨by decide +kernel, rfl⟩
theorem e_X11_copies_13 : g_dc cX11_copies 13 (.iastore) 1 14 := ⟨by decide +kernel, rfl⟩
theorem e_X11_copies_14 : g_dc cX11_copies 14 (.iinc 2 1) 3 17 := ⟨by decide +kernel, rfl⟩
theorem e_X11_copies_17 : g_dc cX11_copies 17 (.goto (-15)) 3 20 := ⟨by decide +kernel, rfl⟩
theorem e_X11_copies_20 : g_dc cX11_copies 20 (.return_) 1 21 := ⟨by decide +kernel, rfl⟩
def md_X11_copies_r1_r41 : List Nat := []
def mr_X11_copies_r1_r41 : List Nat := [41]
set_option maxHeartbeats 4000000 in
set_option maxRecDepth 100000 in
theorem w_X11_copies_r1_r41 (l : Launch) (X : gX) (ad : Nat → Nat) (F : Nat → Int32) (R : Nat → Nat → Int32) (hI : g_ok LK_wM F) (hA : g_okR LA_wM R) (hWC : WC F R) : g_Cv l X yX11_copies cX11_copies 3 1 0 0 [.ref (ad 1), .ref (ad 41)] (wM X ad F R) (fun w => ∃ (F' : Nat → Int32) (R' : Nat → Nat → Int32), w = wM X ad F' R' ∧ g_ok LK_wM F' ∧ g_okR LA_wM R' ∧ WC F' R' ∧ g_fr md_X11_copies_r1_r41 F F' ∧ g_fr mr_X11_copies_r1_r41 R R' ∧ (∀ j : Nat, j < 10 → R' 41 j = R 1 j) ∧ (F', R') = sp_X11_copies_r1_r41 F R) := by
  refine g_mv (by decide +kernel) (Nat.le_of_ble_eq_true rfl) (fun E cx hret => ?_)
  obtain ⟨SP, hSP⟩ : ∃ z, z = sp_X11_copies_r1_r41 F R := ⟨_, rfl⟩
  have hk0 := hSP
  unfold sp_X11_copies_r1_r41 at hk0
  refine g_iconst cx 0 (by decide) e_X11_copies_0 ?_
  refine g_istore_n cx [(2, .int 0), (0, .ref (ad 1)), (1, .ref (ad 41))] e_X11_copies_1 (by decide) rfl ?_
  have J2 : ∀ (N : Nat) (R2 : Nat → Nat → Int32) (y1 : Int32), (g_okR LA_wM R2) → (g_fr mr_X11_copies_r1_r41 R R2) → (WC F R2) → (jv 0 10 y1) → (∀ j : Nat, (j : Int) < y1.toInt → R2 41 j = R 1 j) → (SP = K_X11_copies_r1_r41_2 F N R2 y1) → (2147483647 - y1.toInt).toNat < N → G X E 3 0 0 (wM X ad F R2) [(0, .ref (ad 1)), (1, .ref (ad 41)), (2, .int y1)] 2 [] := by
    intro N
    induction N with
    | zero => intro R2 y1 oR2 fR2 wCR2 py1 zq2_0 hkJ2 hm; exact absurd hm (Nat.not_lt_zero _)
    | succ N ih2 =>
      intro R2 y1 oR2 fR2 wCR2 py1 zq2_0 hkJ2 hm2
      have hkK2 : SP = KB_X11_copies_r1_r41_2 (K_X11_copies_r1_r41_2 F N) F R2 y1 := hkJ2
      obtain ⟨b2, hb2⟩ : ∃ z, z = K_X11_copies_r1_r41_2 F N := ⟨_, rfl⟩
      rw [← hb2] at hkK2
      unfold KB_X11_copies_r1_r41_2 at hkK2
      refine g_iload_n cx 2 rfl e_X11_copies_2 ?_
      refine g_bipush cx 10 (by decide) e_X11_copies_3 ?_
      refine g_icmp_ge cx 20 e_X11_copies_5 (by decide) (fun zc3 => ?_) (fun zc3 => ?_)
      · have p4 := gn_ge 10 10 (gc_le zc3) py1 (jv_k (x := 10) 10 (by decide)) (by decide)
        have hk5 := hkK2.trans (if_pos zc3)
        exact hret e_X11_copies_20 (Nat.le_of_ble_eq_true rfl) (Nat.le_of_ble_eq_true rfl) ⟨F, R2, rfl, hI, oR2, wCR2, (g_fr_rf F), fR2, (fun j hj => zq2_0 j (by have q := p4; unfold jv at q; omega)), (hk5.symm.trans hSP)⟩
      · have p6 := gn_lt 0 9 (gc_nle zc3) py1 (jv_k (x := 10) 10 (by decide)) (by decide)
        have hk7 := hkK2.trans (if_neg zc3)
        refine g_aload_n cx 1 rfl e_X11_copies_8 ?_
        refine g_iload_n cx 2 rfl e_X11_copies_9 ?_
        refine g_aload_n cx 0 rfl e_X11_copies_10 ?_
        refine g_iload_n cx 2 rfl e_X11_copies_11 ?_
        refine g_iald cx 1 e_X11_copies_12 rfl (jv_ix 10 p6 (by decide)) ?_
        refine g_topi (fun x8 ex8 => ?_)
        have hk9 := k_ls hk7 ex8
        refine g_iast cx 41 (wM X ad F (g_u R2 41 (upd (R2 41) (Int32.toNatClampNeg y1) x8))) e_X11_copies_13 rfl (jv_ix 10 p6 (by decide)) rfl ?_
        obtain ⟨R10, hR10⟩ : ∃ z, z = g_u R2 41 (upd (R2 41) (Int32.toNatClampNeg y1) x8) := ⟨_, rfl⟩
        rw [← hR10]
        have hk11 := k_ls hk9 hR10
        have oR10 : g_okR LA_wM R10 := by rw [hR10]; exact g_okR_u oR2 rfl
        have fR10 : g_fr mr_X11_copies_r1_r41 R R10 := by rw [hR10]; exact g_fr_r fR2 rfl
        have wCR10 : WC F R10 := by rw [hR10]; exact WC_r wCR2 rfl
        obtain ⟨x12, ex12⟩ : ∃ z : Int32, z = y1 + Int32.ofInt 1 := ⟨_, rfl⟩
        have hk13 := k_ls hk11 (show x12 = y1 + 1 from ex12)
        refine g_iinc cx x12 [(2, .int x12), (0, .ref (ad 1)), (1, .ref (ad 41))] 2 e_X11_copies_14 rfl ex12.symm (by decide) rfl ?_
        have zx12 := jv_add 1 10 (show x12 = y1 + 1 from ex12) p6 (jv_k (x := 1) 1 (by decide)) (by decide)
        refine g_goto cx 2 e_X11_copies_17 (by decide) ?_
        refine g_lsub [1, 2, 0] [(0, .ref (ad 1)), (1, .ref (ad 41)), (2, .int x12)] rfl ?_
        exact ih2 R10 x12 oR10 fR10 wCR10 (jv_w zx12.2 (by decide)) (g_cp1 (g := R 1) zq2_0 p6 ((g_ru1 hR10).trans (by rw [ex8, show R2 1 = R 1 from (fR2 1 rfl)])) (g_eq0 zx12.1)) (hk13.trans (by rw [hb2])) (Nat.lt_of_lt_of_le (show (2147483647 - x12.toInt).toNat < (2147483647 - y1.toInt).toNat from by have q0 := (jv_k (x := 1) 1 (by decide)).1; have q1 := (jv_k (x := 1) 1 (by decide)).2; have q2 := (jv_k (x := 10) 10 (by decide)).1; have q3 := (jv_k (x := 10) 10 (by decide)).2; have q4 := zx12.2.1; have q5 := zx12.2.2; have q6 := p6.1; have q7 := p6.2; have q8 := (gc_nle zc3); have q9 := (g_eq0 zx12.1); omega) (Nat.le_of_lt_succ hm2))
  refine g_lsub [1, 2, 0] [(0, .ref (ad 1)), (1, .ref (ad 41)), (2, .int 0)] rfl ?_
  exact J2 8589934592 R 0 hA (g_fr_rf R) hWC (jv_w (jv_k (x := 0) 0 (by decide)) (by decide)) (fun j hj => absurd hj (by have := Int.natCast_nonneg j; have e : (0 : Int32).toInt = 0 := rfl; omega)) hk0 (show (2147483647 - (0 : Int32).toInt).toNat < 8589934592 from by have q0 := (jv_k (x := 0) 0 (by decide)).1; have q1 := (jv_k (x := 0) 0 (by decide)).2; omega)
def KB_X11_copies_r2_r42_2 (b2 : (Nat → Nat → Int32) → (Int32) → (Nat → Int32) × (Nat → Nat → Int32)) (F : Nat → Int32) (R2 : Nat → Nat → Int32) (y1 : Int32) : (Nat → Int32) × (Nat → Nat → Int32) :=
  if 10 ≤ y1 then (F, R2) else k_lt (R2 2 (Int32.toNatClampNeg y1)) (fun x8 => k_lt (g_u R2 42 (upd (R2 42) (Int32.toNatClampNeg y1) x8)) (fun R10 => k_lt (y1 + 1) (fun x12 => b2 R10 x12)))
def K_X11_copies_r2_r42_2 (F : Nat → Int32) : Nat → (Nat → Nat → Int32) → (Int32) → (Nat → Int32) × (Nat → Nat → Int32)
  | 0 => fun R2 _ => (F, R2)
  | n + 1 => KB_X11_copies_r2_r42_2 (K_X11_copies_r2_r42_2 F n) F
def sp_X11_copies_r2_r42 (F : Nat → Int32) (R : Nat → Nat → Int32) : (Nat → Int32) × (Nat → Nat → Int32) :=
  K_X11_copies_r2_r42_2 F 8589934592 R 0
def md_X11_copies_r2_r42 : List Nat := []
def mr_X11_copies_r2_r42 : List Nat := [42]
set_option maxHeartbeats 4000000 in
set_option maxRecDepth 100000 in
theorem w_X11_copies_r2_r42 (l : Launch) (X : gX) (ad : Nat → Nat) (F : Nat → Int32) (R : Nat → Nat → Int32) (hI : g_ok LK_wM F) (hA : g_okR LA_wM R) (hWC : WC F R) : g_Cv l X yX11_copies cX11_copies 3 1 0 0 [.ref (ad 2), .ref (ad 42)] (wM X ad F R) (fun w => ∃ (F' : Nat → Int32) (R' : Nat → Nat → Int32), w = wM X ad F' R' ∧ g_ok LK_wM F' ∧ g_okR LA_wM R' ∧ WC F' R' ∧ g_fr md_X11_copies_r2_r42 F F' ∧ g_fr mr_X11_copies_r2_r42 R R' ∧ (∀ j : Nat, j < 10 → R' 42 j = R 2 j) ∧ (F', R') = sp_X11_copies_r2_r42 F R) := by
  refine g_mv (by decide +kernel) (Nat.le_of_ble_eq_true rfl) (fun E cx hret => ?_)
  obtain ⟨SP, hSP⟩ : ∃ z, z = sp_X11_copies_r2_r42 F R := ⟨_, rfl⟩
  have hk0 := hSP
  unfold sp_X11_copies_r2_r42 at hk0
  refine g_iconst cx 0 (by decide) e_X11_copies_0 ?_
  refine g_istore_n cx [(2, .int 0), (0, .ref (ad 2)), (1, .ref (ad 42))] e_X11_copies_1 (by decide) rfl ?_
  have J2 : ∀ (N : Nat) (R2 : Nat → Nat → Int32) (y1 : Int32), (g_okR LA_wM R2) → (g_fr mr_X11_copies_r2_r42 R R2) → (WC F R2) → (jv 0 10 y1) → (∀ j : Nat, (j : Int) < y1.toInt → R2 42 j = R 2 j) → (SP = K_X11_copies_r2_r42_2 F N R2 y1) → (2147483647 - y1.toInt).toNat < N → G X E 3 0 0 (wM X ad F R2) [(0, .ref (ad 2)), (1, .ref (ad 42)), (2, .int y1)] 2 [] := by
    intro N
    induction N with
    | zero => intro R2 y1 oR2 fR2 wCR2 py1 zq2_0 hkJ2 hm; exact absurd hm (Nat.not_lt_zero _)
    | succ N ih2 =>
      intro R2 y1 oR2 fR2 wCR2 py1 zq2_0 hkJ2 hm2
      have hkK2 : SP = KB_X11_copies_r2_r42_2 (K_X11_copies_r2_r42_2 F N) F R2 y1 := hkJ2
      obtain ⟨b2, hb2⟩ : ∃ z, z = K_X11_copies_r2_r42_2 F N := ⟨_, rfl⟩
      rw [← hb2] at hkK2
      unfold KB_X11_copies_r2_r42_2 at hkK2
      refine g_iload_n cx 2 rfl e_X11_copies_2 ?_
      refine g_bipush cx 10 (by decide) e_X11_copies_3 ?_
      refine g_icmp_ge cx 20 e_X11_copies_5 (by decide) (fun zc3 => ?_) (fun zc3 => ?_)
      · have p4 := gn_ge 10 10 (gc_le zc3) py1 (jv_k (x := 10) 10 (by decide)) (by decide)
        have hk5 := hkK2.trans (if_pos zc3)
        exact hret e_X11_copies_20 (Nat.le_of_ble_eq_true rfl) (Nat.le_of_ble_eq_true rfl) ⟨F, R2, rfl, hI, oR2, wCR2, (g_fr_rf F), fR2, (fun j hj => zq2_0 j (by have q := p4; unfold jv at q; omega)), (hk5.symm.trans hSP)⟩
      · have p6 := gn_lt 0 9 (gc_nle zc3) py1 (jv_k (x := 10) 10 (by decide)) (by decide)
        have hk7 := hkK2.trans (if_neg zc3)
        refine g_aload_n cx 1 rfl e_X11_copies_8 ?_
        refine g_iload_n cx 2 rfl e_X11_copies_9 ?_
        refine g_aload_n cx 0 rfl e_X11_copies_10 ?_
        refine g_iload_n cx 2 rfl e_X11_copies_11 ?_
        refine g_iald cx 2 e_X11_copies_12 rfl (jv_ix 10 p6 (by decide)) ?_
        refine g_topi (fun x8 ex8 => ?_)
        have hk9 := k_ls hk7 ex8
        refine g_iast cx 42 (wM X ad F (g_u R2 42 (upd (R2 42) (Int32.toNatClampNeg y1) x8))) e_X11_copies_13 rfl (jv_ix 10 p6 (by decide)) rfl ?_
        obtain ⟨R10, hR10⟩ : ∃ z, z = g_u R2 42 (upd (R2 42) (Int32.toNatClampNeg y1) x8) := ⟨_, rfl⟩
        rw [← hR10]
        have hk11 := k_ls hk9 hR10
        have oR10 : g_okR LA_wM R10 := by rw [hR10]; exact g_okR_u oR2 rfl
        have fR10 : g_fr mr_X11_copies_r2_r42 R R10 := by rw [hR10]; exact g_fr_r fR2 rfl
        have wCR10 : WC F R10 := by rw [hR10]; exact WC_r wCR2 rfl
        obtain ⟨x12, ex12⟩ : ∃ z : Int32, z = y1 + Int32.ofInt 1 := ⟨_, rfl⟩
        have hk13 := k_ls hk11 (show x12 = y1 + 1 from ex12)
        refine g_iinc cx x12 [(2, .int x12), (0, .ref (ad 2)), (1, .ref (ad 42))] 2 e_X11_copies_14 rfl ex12.symm (by decide) rfl ?_
        have zx12 := jv_add 1 10 (show x12 = y1 + 1 from ex12) p6 (jv_k (x := 1) 1 (by decide)) (by decide)
        refine g_goto cx 2 e_X11_copies_17 (by decide) ?_
        refine g_lsub [1, 2, 0] [(0, .ref (ad 2)), (1, .ref (ad 42)), (2, .int x12)] rfl ?_
        exact ih2 R10 x12 oR10 fR10 wCR10 (jv_w zx12.2 (by decide)) (g_cp1 (g := R 2) zq2_0 p6 ((g_ru1 hR10).trans (by rw [ex8, show R2 2 = R 2 from (fR2 2 rfl)])) (g_eq0 zx12.1)) (hk13.trans (by rw [hb2])) (Nat.lt_of_lt_of_le (show (2147483647 - x12.toInt).toNat < (2147483647 - y1.toInt).toNat from by have q0 := (jv_k (x := 1) 1 (by decide)).1; have q1 := (jv_k (x := 1) 1 (by decide)).2; have q2 := (jv_k (x := 10) 10 (by decide)).1; have q3 := (jv_k (x := 10) 10 (by decide)).2; have q4 := zx12.2.1; have q5 := zx12.2.2; have q6 := p6.1; have q7 := p6.2; have q8 := (gc_nle zc3); have q9 := (g_eq0 zx12.1); omega) (Nat.le_of_lt_succ hm2))
  refine g_lsub [1, 2, 0] [(0, .ref (ad 2)), (1, .ref (ad 42)), (2, .int 0)] rfl ?_
  exact J2 8589934592 R 0 hA (g_fr_rf R) hWC (jv_w (jv_k (x := 0) 0 (by decide)) (by decide)) (fun j hj => absurd hj (by have := Int.natCast_nonneg j; have e : (0 : Int32).toInt = 0 := rfl; omega)) hk0 (show (2147483647 - (0 : Int32).toInt).toNat < 8589934592 from by have q0 := (jv_k (x := 0) 0 (by decide)).1; have q1 := (jv_k (x := 0) 0 (by decide)).2; omega)
def KB_X11_copies_r3_r43_2 (b2 : (Nat → Nat → Int32) → (Int32) → (Nat → Int32) × (Nat → Nat → Int32)) (F : Nat → Int32) (R2 : Nat → Nat → Int32) (y1 : Int32) : (Nat → Int32) × (Nat → Nat → Int32) :=
  if 10 ≤ y1 then (F, R2) else k_lt (R2 3 (Int32.toNatClampNeg y1)) (fun x8 => k_lt (g_u R2 43 (upd (R2 43) (Int32.toNatClampNeg y1) x8)) (fun R11 => k_lt (y1 + 1) (fun x13 => b2 R11 x13)))
def K_X11_copies_r3_r43_2 (F : Nat → Int32) : Nat → (Nat → Nat → Int32) → (Int32) → (Nat → Int32) × (Nat → Nat → Int32)
  | 0 => fun R2 _ => (F, R2)
  | n + 1 => KB_X11_copies_r3_r43_2 (K_X11_copies_r3_r43_2 F n) F
def sp_X11_copies_r3_r43 (F : Nat → Int32) (R : Nat → Nat → Int32) : (Nat → Int32) × (Nat → Nat → Int32) :=
  K_X11_copies_r3_r43_2 F 8589934592 R 0
def md_X11_copies_r3_r43 : List Nat := []
def mr_X11_copies_r3_r43 : List Nat := [43]
set_option maxHeartbeats 4000000 in
set_option maxRecDepth 100000 in
theorem w_X11_copies_r3_r43 (l : Launch) (X : gX) (ad : Nat → Nat) (F : Nat → Int32) (R : Nat → Nat → Int32) (hI : g_ok LK_wM F) (hA : g_okR LA_wM R) (hWC : WC F R) : g_Cv l X yX11_copies cX11_copies 3 1 0 0 [.ref (ad 3), .ref (ad 43)] (wM X ad F R) (fun w => ∃ (F' : Nat → Int32) (R' : Nat → Nat → Int32), w = wM X ad F' R' ∧ g_ok LK_wM F' ∧ g_okR LA_wM R' ∧ WC F' R' ∧ g_fr md_X11_copies_r3_r43 F F' ∧ g_fr mr_X11_copies_r3_r43 R R' ∧ (∀ j : Nat, j < 10 → R' 43 j = R 3 j) ∧ (F', R') = sp_X11_copies_r3_r43 F R) := by
  refine g_mv (by decide +kernel) (Nat.le_of_ble_eq_true rfl) (fun E cx hret => ?_)
  obtain ⟨SP, hSP⟩ : ∃ z, z = sp_X11_copies_r3_r43 F R := ⟨_, rfl⟩
  have hk0 := hSP
  unfold sp_X11_copies_r3_r43 at hk0
  refine g_iconst cx 0 (by decide) e_X11_copies_0 ?_
  refine g_istore_n cx [(2, .int 0), (0, .ref (ad 3)), (1, .ref (ad 43))] e_X11_copies_1 (by decide) rfl ?_
  have J2 : ∀ (N : Nat) (R2 : Nat → Nat → Int32) (y1 : Int32), (g_okR LA_wM R2) → (g_fr mr_X11_copies_r3_r43 R R2) → (WC F R2) → (jv 0 10 y1) → (∀ j : Nat, (j : Int) < y1.toInt → R2 43 j = R 3 j) → (SP = K_X11_copies_r3_r43_2 F N R2 y1) → (2147483647 - y1.toInt).toNat < N → G X E 3 0 0 (wM X ad F R2) [(0, .ref (ad 3)), (1, .ref (ad 43)), (2, .int y1)] 2 [] := by
    intro N
    induction N with
    | zero => intro R2 y1 oR2 fR2 wCR2 py1 zq2_0 hkJ2 hm; exact absurd hm (Nat.not_lt_zero _)
    | succ N ih2 =>
      intro R2 y1 oR2 fR2 wCR2 py1 zq2_0 hkJ2 hm2
      have hkK2 : SP = KB_X11_copies_r3_r43_2 (K_X11_copies_r3_r43_2 F N) F R2 y1 := hkJ2
      obtain ⟨b2, hb2⟩ : ∃ z, z = K_X11_copies_r3_r43_2 F N := ⟨_, rfl⟩
      rw [← hb2] at hkK2
      unfold KB_X11_copies_r3_r43_2 at hkK2
      refine g_iload_n cx 2 rfl e_X11_copies_2 ?_
      refine g_bipush cx 10 (by decide) e_X11_copies_3 ?_
      refine g_icmp_ge cx 20 e_X11_copies_5 (by decide) (fun zc3 => ?_) (fun zc3 => ?_)
      · have p4 := gn_ge 10 10 (gc_le zc3) py1 (jv_k (x := 10) 10 (by decide)) (by decide)
        have hk5 := hkK2.trans (if_pos zc3)
        exact hret e_X11_copies_20 (Nat.le_of_ble_eq_true rfl) (Nat.le_of_ble_eq_true rfl) ⟨F, R2, rfl, hI, oR2, wCR2, (g_fr_rf F), fR2, (fun j hj => zq2_0 j (by have q := p4; unfold jv at q; omega)), (hk5.symm.trans hSP)⟩
      · have p6 := gn_lt 0 9 (gc_nle zc3) py1 (jv_k (x := 10) 10 (by decide)) (by decide)
        have hk7 := hkK2.trans (if_neg zc3)
        refine g_aload_n cx 1 rfl e_X11_copies_8 ?_
        refine g_iload_n cx 2 rfl e_X11_copies_9 ?_
        refine g_aload_n cx 0 rfl e_X11_copies_10 ?_
        refine g_iload_n cx 2 rfl e_X11_copies_11 ?_
        refine g_iald cx 3 e_X11_copies_12 rfl (jv_ix 10 p6 (by decide)) ?_
        refine g_topi (fun x8 ex8 => ?_)
        have hk9 := k_ls hk7 ex8
        have p10 : jv 0 40 x8 := by rw [ex8]; exact g_okR_g oR2 6 rfl (jv_cl 10 p6 (by decide))
        refine g_iast cx 43 (wM X ad F (g_u R2 43 (upd (R2 43) (Int32.toNatClampNeg y1) x8))) e_X11_copies_13 rfl (jv_ix 10 p6 (by decide)) rfl ?_
        obtain ⟨R11, hR11⟩ : ∃ z, z = g_u R2 43 (upd (R2 43) (Int32.toNatClampNeg y1) x8) := ⟨_, rfl⟩
        rw [← hR11]
        have hk12 := k_ls hk9 hR11
        have oR11 : g_okR LA_wM R11 := by rw [hR11]; exact g_okR_p oR2 p10 rfl
        have fR11 : g_fr mr_X11_copies_r3_r43 R R11 := by rw [hR11]; exact g_fr_r fR2 rfl
        have wCR11 : WC F R11 := by rw [hR11]; exact WC_r wCR2 rfl
        obtain ⟨x13, ex13⟩ : ∃ z : Int32, z = y1 + Int32.ofInt 1 := ⟨_, rfl⟩
        have hk14 := k_ls hk12 (show x13 = y1 + 1 from ex13)
        refine g_iinc cx x13 [(2, .int x13), (0, .ref (ad 3)), (1, .ref (ad 43))] 2 e_X11_copies_14 rfl ex13.symm (by decide) rfl ?_
        have zx13 := jv_add 1 10 (show x13 = y1 + 1 from ex13) p6 (jv_k (x := 1) 1 (by decide)) (by decide)
        refine g_goto cx 2 e_X11_copies_17 (by decide) ?_
        refine g_lsub [1, 2, 0] [(0, .ref (ad 3)), (1, .ref (ad 43)), (2, .int x13)] rfl ?_
        exact ih2 R11 x13 oR11 fR11 wCR11 (jv_w zx13.2 (by decide)) (g_cp1 (g := R 3) zq2_0 p6 ((g_ru1 hR11).trans (by rw [ex8, show R2 3 = R 3 from (fR2 3 rfl)])) (g_eq0 zx13.1)) (hk14.trans (by rw [hb2])) (Nat.lt_of_lt_of_le (show (2147483647 - x13.toInt).toNat < (2147483647 - y1.toInt).toNat from by have q0 := (jv_k (x := 1) 1 (by decide)).1; have q1 := (jv_k (x := 1) 1 (by decide)).2; have q2 := (jv_k (x := 10) 10 (by decide)).1; have q3 := (jv_k (x := 10) 10 (by decide)).2; have q4 := zx13.2.1; have q5 := zx13.2.2; have q6 := p6.1; have q7 := p6.2; have q8 := (gc_nle zc3); have q9 := (g_eq0 zx13.1); omega) (Nat.le_of_lt_succ hm2))
  refine g_lsub [1, 2, 0] [(0, .ref (ad 3)), (1, .ref (ad 43)), (2, .int 0)] rfl ?_
  exact J2 8589934592 R 0 hA (g_fr_rf R) hWC (jv_w (jv_k (x := 0) 0 (by decide)) (by decide)) (fun j hj => absurd hj (by have := Int.natCast_nonneg j; have e : (0 : Int32).toInt = 0 := rfl; omega)) hk0 (show (2147483647 - (0 : Int32).toInt).toNat < 8589934592 from by have q0 := (jv_k (x := 0) 0 (by decide)).1; have q1 := (jv_k (x := 0) 0 (by decide)).2; omega)
def KB_X11_copies_r4_r44_2 (b2 : (Nat → Nat → Int32) → (Int32) → (Nat → Int32) × (Nat → Nat → Int32)) (F : Nat → Int32) (R2 : Nat → Nat → Int32) (y1 : Int32) : (Nat → Int32) × (Nat → Nat → Int32) :=
  if 10 ≤ y1 then (F, R2) else k_lt (R2 4 (Int32.toNatClampNeg y1)) (fun x8 => k_lt (g_u R2 44 (upd (R2 44) (Int32.toNatClampNeg y1) x8)) (fun R10 => k_lt (y1 + 1) (fun x12 => b2 R10 x12)))
def K_X11_copies_r4_r44_2 (F : Nat → Int32) : Nat → (Nat → Nat → Int32) → (Int32) → (Nat → Int32) × (Nat → Nat → Int32)
  | 0 => fun R2 _ => (F, R2)
  | n + 1 => KB_X11_copies_r4_r44_2 (K_X11_copies_r4_r44_2 F n) F
def sp_X11_copies_r4_r44 (F : Nat → Int32) (R : Nat → Nat → Int32) : (Nat → Int32) × (Nat → Nat → Int32) :=
  K_X11_copies_r4_r44_2 F 8589934592 R 0
def md_X11_copies_r4_r44 : List Nat := []
def mr_X11_copies_r4_r44 : List Nat := [44]
set_option maxHeartbeats 4000000 in
set_option maxRecDepth 100000 in
theorem w_X11_copies_r4_r44 (l : Launch) (X : gX) (ad : Nat → Nat) (F : Nat → Int32) (R : Nat → Nat → Int32) (hI : g_ok LK_wM F) (hA : g_okR LA_wM R) (hWC : WC F R) : g_Cv l X yX11_copies cX11_copies 3 1 0 0 [.ref (ad 4), .ref (ad 44)] (wM X ad F R) (fun w => ∃ (F' : Nat → Int32) (R' : Nat → Nat → Int32), w = wM X ad F' R' ∧ g_ok LK_wM F' ∧ g_okR LA_wM R' ∧ WC F' R' ∧ g_fr md_X11_copies_r4_r44 F F' ∧ g_fr mr_X11_copies_r4_r44 R R' ∧ (∀ j : Nat, j < 10 → R' 44 j = R 4 j) ∧ (F', R') = sp_X11_copies_r4_r44 F R) := by
  refine g_mv (by decide +kernel) (Nat.le_of_ble_eq_true rfl) (fun E cx hret => ?_)
  obtain ⟨SP, hSP⟩ : ∃ z, z = sp_X11_copies_r4_r44 F R := ⟨_, rfl⟩
  have hk0 := hSP
  unfold sp_X11_copies_r4_r44 at hk0
  refine g_iconst cx 0 (by decide) e_X11_copies_0 ?_
  refine g_istore_n cx [(2, .int 0), (0, .ref (ad 4)), (1, .ref (ad 44))] e_X11_copies_1 (by decide) rfl ?_
  have J2 : ∀ (N : Nat) (R2 : Nat → Nat → Int32) (y1 : Int32), (g_okR LA_wM R2) → (g_fr mr_X11_copies_r4_r44 R R2) → (WC F R2) → (jv 0 10 y1) → (∀ j : Nat, (j : Int) < y1.toInt → R2 44 j = R 4 j) → (SP = K_X11_copies_r4_r44_2 F N R2 y1) → (2147483647 - y1.toInt).toNat < N → G X E 3 0 0 (wM X ad F R2) [(0, .ref (ad 4)), (1, .ref (ad 44)), (2, .int y1)] 2 [] := by
    intro N
    induction N with
    | zero => intro R2 y1 oR2 fR2 wCR2 py1 zq2_0 hkJ2 hm; exact absurd hm (Nat.not_lt_zero _)
    | succ N ih2 =>
      intro R2 y1 oR2 fR2 wCR2 py1 zq2_0 hkJ2 hm2
      have hkK2 : SP = KB_X11_copies_r4_r44_2 (K_X11_copies_r4_r44_2 F N) F R2 y1 := hkJ2
      obtain ⟨b2, hb2⟩ : ∃ z, z = K_X11_copies_r4_r44_2 F N := ⟨_, rfl⟩
      rw [← hb2] at hkK2
      unfold KB_X11_copies_r4_r44_2 at hkK2
      refine g_iload_n cx 2 rfl e_X11_copies_2 ?_
      refine g_bipush cx 10 (by decide) e_X11_copies_3 ?_
      refine g_icmp_ge cx 20 e_X11_copies_5 (by decide) (fun zc3 => ?_) (fun zc3 => ?_)
      · have p4 := gn_ge 10 10 (gc_le zc3) py1 (jv_k (x := 10) 10 (by decide)) (by decide)
        have hk5 := hkK2.trans (if_pos zc3)
        exact hret e_X11_copies_20 (Nat.le_of_ble_eq_true rfl) (Nat.le_of_ble_eq_true rfl) ⟨F, R2, rfl, hI, oR2, wCR2, (g_fr_rf F), fR2, (fun j hj => zq2_0 j (by have q := p4; unfold jv at q; omega)), (hk5.symm.trans hSP)⟩
      · have p6 := gn_lt 0 9 (gc_nle zc3) py1 (jv_k (x := 10) 10 (by decide)) (by decide)
        have hk7 := hkK2.trans (if_neg zc3)
        refine g_aload_n cx 1 rfl e_X11_copies_8 ?_
        refine g_iload_n cx 2 rfl e_X11_copies_9 ?_
        refine g_aload_n cx 0 rfl e_X11_copies_10 ?_
        refine g_iload_n cx 2 rfl e_X11_copies_11 ?_
        refine g_iald cx 4 e_X11_copies_12 rfl (jv_ix 10 p6 (by decide)) ?_
        refine g_topi (fun x8 ex8 => ?_)
        have hk9 := k_ls hk7 ex8
        refine g_iast cx 44 (wM X ad F (g_u R2 44 (upd (R2 44) (Int32.toNatClampNeg y1) x8))) e_X11_copies_13 rfl (jv_ix 10 p6 (by decide)) rfl ?_
        obtain ⟨R10, hR10⟩ : ∃ z, z = g_u R2 44 (upd (R2 44) (Int32.toNatClampNeg y1) x8) := ⟨_, rfl⟩
        rw [← hR10]
        have hk11 := k_ls hk9 hR10
        have oR10 : g_okR LA_wM R10 := by rw [hR10]; exact g_okR_u oR2 rfl
        have fR10 : g_fr mr_X11_copies_r4_r44 R R10 := by rw [hR10]; exact g_fr_r fR2 rfl
        have wCR10 : WC F R10 := by rw [hR10]; exact WC_r wCR2 rfl
        obtain ⟨x12, ex12⟩ : ∃ z : Int32, z = y1 + Int32.ofInt 1 := ⟨_, rfl⟩
        have hk13 := k_ls hk11 (show x12 = y1 + 1 from ex12)
        refine g_iinc cx x12 [(2, .int x12), (0, .ref (ad 4)), (1, .ref (ad 44))] 2 e_X11_copies_14 rfl ex12.symm (by decide) rfl ?_
        have zx12 := jv_add 1 10 (show x12 = y1 + 1 from ex12) p6 (jv_k (x := 1) 1 (by decide)) (by decide)
        refine g_goto cx 2 e_X11_copies_17 (by decide) ?_
        refine g_lsub [1, 2, 0] [(0, .ref (ad 4)), (1, .ref (ad 44)), (2, .int x12)] rfl ?_
        exact ih2 R10 x12 oR10 fR10 wCR10 (jv_w zx12.2 (by decide)) (g_cp1 (g := R 4) zq2_0 p6 ((g_ru1 hR10).trans (by rw [ex8, show R2 4 = R 4 from (fR2 4 rfl)])) (g_eq0 zx12.1)) (hk13.trans (by rw [hb2])) (Nat.lt_of_lt_of_le (show (2147483647 - x12.toInt).toNat < (2147483647 - y1.toInt).toNat from by have q0 := (jv_k (x := 1) 1 (by decide)).1; have q1 := (jv_k (x := 1) 1 (by decide)).2; have q2 := (jv_k (x := 10) 10 (by decide)).1; have q3 := (jv_k (x := 10) 10 (by decide)).2; have q4 := zx12.2.1; have q5 := zx12.2.2; have q6 := p6.1; have q7 := p6.2; have q8 := (gc_nle zc3); have q9 := (g_eq0 zx12.1); omega) (Nat.le_of_lt_succ hm2))
  refine g_lsub [1, 2, 0] [(0, .ref (ad 4)), (1, .ref (ad 44)), (2, .int 0)] rfl ?_
  exact J2 8589934592 R 0 hA (g_fr_rf R) hWC (jv_w (jv_k (x := 0) 0 (by decide)) (by decide)) (fun j hj => absurd hj (by have := Int.natCast_nonneg j; have e : (0 : Int32).toInt = 0 := rfl; omega)) hk0 (show (2147483647 - (0 : Int32).toInt).toNat < 8589934592 from by have q0 := (jv_k (x := 0) 0 (by decide)).1; have q1 := (jv_k (x := 0) 0 (by decide)).2; omega)
def KB_X11_copies_r5_r45_2 (b2 : (Nat → Nat → Int32) → (Int32) → (Nat → Int32) × (Nat → Nat → Int32)) (F : Nat → Int32) (R2 : Nat → Nat → Int32) (y1 : Int32) : (Nat → Int32) × (Nat → Nat → Int32) :=
  if 10 ≤ y1 then (F, R2) else k_lt (R2 5 (Int32.toNatClampNeg y1)) (fun x8 => k_lt (g_u R2 45 (upd (R2 45) (Int32.toNatClampNeg y1) x8)) (fun R11 => k_lt (y1 + 1) (fun x13 => b2 R11 x13)))
def K_X11_copies_r5_r45_2 (F : Nat → Int32) : Nat → (Nat → Nat → Int32) → (Int32) → (Nat → Int32) × (Nat → Nat → Int32)
  | 0 => fun R2 _ => (F, R2)
  | n + 1 => KB_X11_copies_r5_r45_2 (K_X11_copies_r5_r45_2 F n) F
def sp_X11_copies_r5_r45 (F : Nat → Int32) (R : Nat → Nat → Int32) : (Nat → Int32) × (Nat → Nat → Int32) :=
  K_X11_copies_r5_r45_2 F 8589934592 R 0
def md_X11_copies_r5_r45 : List Nat := []
def mr_X11_copies_r5_r45 : List Nat := [45]
set_option maxHeartbeats 4000000 in
set_option maxRecDepth 100000 in
theorem w_X11_copies_r5_r45 (l : Launch) (X : gX) (ad : Nat → Nat) (F : Nat → Int32) (R : Nat → Nat → Int32) (hI : g_ok LK_wM F) (hA : g_okR LA_wM R) (hWC : WC F R) : g_Cv l X yX11_copies cX11_copies 3 1 0 0 [.ref (ad 5), .ref (ad 45)] (wM X ad F R) (fun w => ∃ (F' : Nat → Int32) (R' : Nat → Nat → Int32), w = wM X ad F' R' ∧ g_ok LK_wM F' ∧ g_okR LA_wM R' ∧ WC F' R' ∧ g_fr md_X11_copies_r5_r45 F F' ∧ g_fr mr_X11_copies_r5_r45 R R' ∧ (∀ j : Nat, j < 10 → R' 45 j = R 5 j) ∧ (F', R') = sp_X11_copies_r5_r45 F R) := by
  refine g_mv (by decide +kernel) (Nat.le_of_ble_eq_true rfl) (fun E cx hret => ?_)
  obtain ⟨SP, hSP⟩ : ∃ z, z = sp_X11_copies_r5_r45 F R := ⟨_, rfl⟩
  have hk0 := hSP
  unfold sp_X11_copies_r5_r45 at hk0
  refine g_iconst cx 0 (by decide) e_X11_copies_0 ?_
  refine g_istore_n cx [(2, .int 0), (0, .ref (ad 5)), (1, .ref (ad 45))] e_X11_copies_1 (by decide) rfl ?_
  have J2 : ∀ (N : Nat) (R2 : Nat → Nat → Int32) (y1 : Int32), (g_okR LA_wM R2) → (g_fr mr_X11_copies_r5_r45 R R2) → (WC F R2) → (jv 0 10 y1) → (∀ j : Nat, (j : Int) < y1.toInt → R2 45 j = R 5 j) → (SP = K_X11_copies_r5_r45_2 F N R2 y1) → (2147483647 - y1.toInt).toNat < N → G X E 3 0 0 (wM X ad F R2) [(0, .ref (ad 5)), (1, .ref (ad 45)), (2, .int y1)] 2 [] := by
    intro N
    induction N with
    | zero => intro R2 y1 oR2 fR2 wCR2 py1 zq2_0 hkJ2 hm; exact absurd hm (Nat.not_lt_zero _)
    | succ N ih2 =>
      intro R2 y1 oR2 fR2 wCR2 py1 zq2_0 hkJ2 hm2
      have hkK2 : SP = KB_X11_copies_r5_r45_2 (K_X11_copies_r5_r45_2 F N) F R2 y1 := hkJ2
      obtain ⟨b2, hb2⟩ : ∃ z, z = K_X11_copies_r5_r45_2 F N := ⟨_, rfl⟩
      rw [← hb2] at hkK2
      unfold KB_X11_copies_r5_r45_2 at hkK2
      refine g_iload_n cx 2 rfl e_X11_copies_2 ?_
      refine g_bipush cx 10 (by decide) e_X11_copies_3 ?_
      refine g_icmp_ge cx 20 e_X11_copies_5 (by decide) (fun zc3 => ?_) (fun zc3 => ?_)
      · have p4 := gn_ge 10 10 (gc_le zc3) py1 (jv_k (x := 10) 10 (by decide)) (by decide)
        have hk5 := hkK2.trans (if_pos zc3)
        exact hret e_X11_copies_20 (Nat.le_of_ble_eq_true rfl) (Nat.le_of_ble_eq_true rfl) ⟨F, R2, rfl, hI, oR2, wCR2, (g_fr_rf F), fR2, (fun j hj => zq2_0 j (by have q := p4; unfold jv at q; omega)), (hk5.symm.trans hSP)⟩
      · have p6 := gn_lt 0 9 (gc_nle zc3) py1 (jv_k (x := 10) 10 (by decide)) (by decide)
        have hk7 := hkK2.trans (if_neg zc3)
        refine g_aload_n cx 1 rfl e_X11_copies_8 ?_
        refine g_iload_n cx 2 rfl e_X11_copies_9 ?_
        refine g_aload_n cx 0 rfl e_X11_copies_10 ?_
        refine g_iload_n cx 2 rfl e_X11_copies_11 ?_
        refine g_iald cx 5 e_X11_copies_12 rfl (jv_ix 10 p6 (by decide)) ?_
        refine g_topi (fun x8 ex8 => ?_)
        have hk9 := k_ls hk7 ex8
        have p10 : jv 0 99 x8 := by rw [ex8]; exact g_okR_g oR2 7 rfl (jv_cl 10 p6 (by decide))
        refine g_iast cx 45 (wM X ad F (g_u R2 45 (upd (R2 45) (Int32.toNatClampNeg y1) x8))) e_X11_copies_13 rfl (jv_ix 10 p6 (by decide)) rfl ?_
        obtain ⟨R11, hR11⟩ : ∃ z, z = g_u R2 45 (upd (R2 45) (Int32.toNatClampNeg y1) x8) := ⟨_, rfl⟩
        rw [← hR11]
        have hk12 := k_ls hk9 hR11
        have oR11 : g_okR LA_wM R11 := by rw [hR11]; exact g_okR_p oR2 p10 rfl
        have fR11 : g_fr mr_X11_copies_r5_r45 R R11 := by rw [hR11]; exact g_fr_r fR2 rfl
        have wCR11 : WC F R11 := by rw [hR11]; exact WC_r wCR2 rfl
        obtain ⟨x13, ex13⟩ : ∃ z : Int32, z = y1 + Int32.ofInt 1 := ⟨_, rfl⟩
        have hk14 := k_ls hk12 (show x13 = y1 + 1 from ex13)
        refine g_iinc cx x13 [(2, .int x13), (0, .ref (ad 5)), (1, .ref (ad 45))] 2 e_X11_copies_14 rfl ex13.symm (by decide) rfl ?_
        have zx13 := jv_add 1 10 (show x13 = y1 + 1 from ex13) p6 (jv_k (x := 1) 1 (by decide)) (by decide)
        refine g_goto cx 2 e_X11_copies_17 (by decide) ?_
        refine g_lsub [1, 2, 0] [(0, .ref (ad 5)), (1, .ref (ad 45)), (2, .int x13)] rfl ?_
        exact ih2 R11 x13 oR11 fR11 wCR11 (jv_w zx13.2 (by decide)) (g_cp1 (g := R 5) zq2_0 p6 ((g_ru1 hR11).trans (by rw [ex8, show R2 5 = R 5 from (fR2 5 rfl)])) (g_eq0 zx13.1)) (hk14.trans (by rw [hb2])) (Nat.lt_of_lt_of_le (show (2147483647 - x13.toInt).toNat < (2147483647 - y1.toInt).toNat from by have q0 := (jv_k (x := 1) 1 (by decide)).1; have q1 := (jv_k (x := 1) 1 (by decide)).2; have q2 := (jv_k (x := 10) 10 (by decide)).1; have q3 := (jv_k (x := 10) 10 (by decide)).2; have q4 := zx13.2.1; have q5 := zx13.2.2; have q6 := p6.1; have q7 := p6.2; have q8 := (gc_nle zc3); have q9 := (g_eq0 zx13.1); omega) (Nat.le_of_lt_succ hm2))
  refine g_lsub [1, 2, 0] [(0, .ref (ad 5)), (1, .ref (ad 45)), (2, .int 0)] rfl ?_
  exact J2 8589934592 R 0 hA (g_fr_rf R) hWC (jv_w (jv_k (x := 0) 0 (by decide)) (by decide)) (fun j hj => absurd hj (by have := Int.natCast_nonneg j; have e : (0 : Int32).toInt = 0 := rfl; omega)) hk0 (show (2147483647 - (0 : Int32).toInt).toNat < 8589934592 from by have q0 := (jv_k (x := 0) 0 (by decide)).1; have q1 := (jv_k (x := 0) 0 (by decide)).2; omega)
def KB_X11_copies_r6_r46_2 (b2 : (Nat → Nat → Int32) → (Int32) → (Nat → Int32) × (Nat → Nat → Int32)) (F : Nat → Int32) (R2 : Nat → Nat → Int32) (y1 : Int32) : (Nat → Int32) × (Nat → Nat → Int32) :=
  if 10 ≤ y1 then (F, R2) else k_lt (R2 6 (Int32.toNatClampNeg y1)) (fun x8 => k_lt (g_u R2 46 (upd (R2 46) (Int32.toNatClampNeg y1) x8)) (fun R10 => k_lt (y1 + 1) (fun x12 => b2 R10 x12)))
def K_X11_copies_r6_r46_2 (F : Nat → Int32) : Nat → (Nat → Nat → Int32) → (Int32) → (Nat → Int32) × (Nat → Nat → Int32)
  | 0 => fun R2 _ => (F, R2)
  | n + 1 => KB_X11_copies_r6_r46_2 (K_X11_copies_r6_r46_2 F n) F
def sp_X11_copies_r6_r46 (F : Nat → Int32) (R : Nat → Nat → Int32) : (Nat → Int32) × (Nat → Nat → Int32) :=
  K_X11_copies_r6_r46_2 F 8589934592 R 0
def md_X11_copies_r6_r46 : List Nat := []
def mr_X11_copies_r6_r46 : List Nat := [46]
set_option maxHeartbeats 4000000 in
set_option maxRecDepth 100000 in
theorem w_X11_copies_r6_r46 (l : Launch) (X : gX) (ad : Nat → Nat) (F : Nat → Int32) (R : Nat → Nat → Int32) (hI : g_ok LK_wM F) (hA : g_okR LA_wM R) (hWC : WC F R) : g_Cv l X yX11_copies cX11_copies 3 1 0 0 [.ref (ad 6), .ref (ad 46)] (wM X ad F R) (fun w => ∃ (F' : Nat → Int32) (R' : Nat → Nat → Int32), w = wM X ad F' R' ∧ g_ok LK_wM F' ∧ g_okR LA_wM R' ∧ WC F' R' ∧ g_fr md_X11_copies_r6_r46 F F' ∧ g_fr mr_X11_copies_r6_r46 R R' ∧ (∀ j : Nat, j < 10 → R' 46 j = R 6 j) ∧ (F', R') = sp_X11_copies_r6_r46 F R) := by
  refine g_mv (by decide +kernel) (Nat.le_of_ble_eq_true rfl) (fun E cx hret => ?_)
  obtain ⟨SP, hSP⟩ : ∃ z, z = sp_X11_copies_r6_r46 F R := ⟨_, rfl⟩
  have hk0 := hSP
  unfold sp_X11_copies_r6_r46 at hk0
  refine g_iconst cx 0 (by decide) e_X11_copies_0 ?_
  refine g_istore_n cx [(2, .int 0), (0, .ref (ad 6)), (1, .ref (ad 46))] e_X11_copies_1 (by decide) rfl ?_
  have J2 : ∀ (N : Nat) (R2 : Nat → Nat → Int32) (y1 : Int32), (g_okR LA_wM R2) → (g_fr mr_X11_copies_r6_r46 R R2) → (WC F R2) → (jv 0 10 y1) → (∀ j : Nat, (j : Int) < y1.toInt → R2 46 j = R 6 j) → (SP = K_X11_copies_r6_r46_2 F N R2 y1) → (2147483647 - y1.toInt).toNat < N → G X E 3 0 0 (wM X ad F R2) [(0, .ref (ad 6)), (1, .ref (ad 46)), (2, .int y1)] 2 [] := by
    intro N
    induction N with
    | zero => intro R2 y1 oR2 fR2 wCR2 py1 zq2_0 hkJ2 hm; exact absurd hm (Nat.not_lt_zero _)
    | succ N ih2 =>
      intro R2 y1 oR2 fR2 wCR2 py1 zq2_0 hkJ2 hm2
      have hkK2 : SP = KB_X11_copies_r6_r46_2 (K_X11_copies_r6_r46_2 F N) F R2 y1 := hkJ2
      obtain ⟨b2, hb2⟩ : ∃ z, z = K_X11_copies_r6_r46_2 F N := ⟨_, rfl⟩
      rw [← hb2] at hkK2
      unfold KB_X11_copies_r6_r46_2 at hkK2
      refine g_iload_n cx 2 rfl e_X11_copies_2 ?_
      refine g_bipush cx 10 (by decide) e_X11_copies_3 ?_
      refine g_icmp_ge cx 20 e_X11_copies_5 (by decide) (fun zc3 => ?_) (fun zc3 => ?_)
      · have p4 := gn_ge 10 10 (gc_le zc3) py1 (jv_k (x := 10) 10 (by decide)) (by decide)
        have hk5 := hkK2.trans (if_pos zc3)
        exact hret e_X11_copies_20 (Nat.le_of_ble_eq_true rfl) (Nat.le_of_ble_eq_true rfl) ⟨F, R2, rfl, hI, oR2, wCR2, (g_fr_rf F), fR2, (fun j hj => zq2_0 j (by have q := p4; unfold jv at q; omega)), (hk5.symm.trans hSP)⟩
      · have p6 := gn_lt 0 9 (gc_nle zc3) py1 (jv_k (x := 10) 10 (by decide)) (by decide)
        have hk7 := hkK2.trans (if_neg zc3)
        refine g_aload_n cx 1 rfl e_X11_copies_8 ?_
        refine g_iload_n cx 2 rfl e_X11_copies_9 ?_
        refine g_aload_n cx 0 rfl e_X11_copies_10 ?_
        refine g_iload_n cx 2 rfl e_X11_copies_11 ?_
        refine g_iald cx 6 e_X11_copies_12 rfl (jv_ix 10 p6 (by decide)) ?_
        refine g_topi (fun x8 ex8 => ?_)
        have hk9 := k_ls hk7 ex8
        refine g_iast cx 46 (wM X ad F (g_u R2 46 (upd (R2 46) (Int32.toNatClampNeg y1) x8))) e_X11_copies_13 rfl (jv_ix 10 p6 (by decide)) rfl ?_
        obtain ⟨R10, hR10⟩ : ∃ z, z = g_u R2 46 (upd (R2 46) (Int32.toNatClampNeg y1) x8) := ⟨_, rfl⟩
        rw [← hR10]
        have hk11 := k_ls hk9 hR10
        have oR10 : g_okR LA_wM R10 := by rw [hR10]; exact g_okR_u oR2 rfl
        have fR10 : g_fr mr_X11_copies_r6_r46 R R10 := by rw [hR10]; exact g_fr_r fR2 rfl
        have wCR10 : WC F R10 := by rw [hR10]; exact WC_r wCR2 rfl
        obtain ⟨x12, ex12⟩ : ∃ z : Int32, z = y1 + Int32.ofInt 1 := ⟨_, rfl⟩
        have hk13 := k_ls hk11 (show x12 = y1 + 1 from ex12)
        refine g_iinc cx x12 [(2, .int x12), (0, .ref (ad 6)), (1, .ref (ad 46))] 2 e_X11_copies_14 rfl ex12.symm (by decide) rfl ?_
        have zx12 := jv_add 1 10 (show x12 = y1 + 1 from ex12) p6 (jv_k (x := 1) 1 (by decide)) (by decide)
        refine g_goto cx 2 e_X11_copies_17 (by decide) ?_
        refine g_lsub [1, 2, 0] [(0, .ref (ad 6)), (1, .ref (ad 46)), (2, .int x12)] rfl ?_
        exact ih2 R10 x12 oR10 fR10 wCR10 (jv_w zx12.2 (by decide)) (g_cp1 (g := R 6) zq2_0 p6 ((g_ru1 hR10).trans (by rw [ex8, show R2 6 = R 6 from (fR2 6 rfl)])) (g_eq0 zx12.1)) (hk13.trans (by rw [hb2])) (Nat.lt_of_lt_of_le (show (2147483647 - x12.toInt).toNat < (2147483647 - y1.toInt).toNat from by have q0 := (jv_k (x := 1) 1 (by decide)).1; have q1 := (jv_k (x := 1) 1 (by decide)).2; have q2 := (jv_k (x := 10) 10 (by decide)).1; have q3 := (jv_k (x := 10) 10 (by decide)).2; have q4 := zx12.2.1; have q5 := zx12.2.2; have q6 := p6.1; have q7 := p6.2; have q8 := (gc_nle zc3); have q9 := (g_eq0 zx12.1); omega) (Nat.le_of_lt_succ hm2))
  refine g_lsub [1, 2, 0] [(0, .ref (ad 6)), (1, .ref (ad 46)), (2, .int 0)] rfl ?_
  exact J2 8589934592 R 0 hA (g_fr_rf R) hWC (jv_w (jv_k (x := 0) 0 (by decide)) (by decide)) (fun j hj => absurd hj (by have := Int.natCast_nonneg j; have e : (0 : Int32).toInt = 0 := rfl; omega)) hk0 (show (2147483647 - (0 : Int32).toInt).toNat < 8589934592 from by have q0 := (jv_k (x := 0) 0 (by decide)).1; have q1 := (jv_k (x := 0) 0 (by decide)).2; omega)
def KB_X11_copies_r7_r47_2 (b2 : (Nat → Nat → Int32) → (Int32) → (Nat → Int32) × (Nat → Nat → Int32)) (F : Nat → Int32) (R2 : Nat → Nat → Int32) (y1 : Int32) : (Nat → Int32) × (Nat → Nat → Int32) :=
  if 10 ≤ y1 then (F, R2) else k_lt (R2 7 (Int32.toNatClampNeg y1)) (fun x8 => k_lt (g_u R2 47 (upd (R2 47) (Int32.toNatClampNeg y1) x8)) (fun R10 => k_lt (y1 + 1) (fun x12 => b2 R10 x12)))
def K_X11_copies_r7_r47_2 (F : Nat → Int32) : Nat → (Nat → Nat → Int32) → (Int32) → (Nat → Int32) × (Nat → Nat → Int32)
  | 0 => fun R2 _ => (F, R2)
  | n + 1 => KB_X11_copies_r7_r47_2 (K_X11_copies_r7_r47_2 F n) F
def sp_X11_copies_r7_r47 (F : Nat → Int32) (R : Nat → Nat → Int32) : (Nat → Int32) × (Nat → Nat → Int32) :=
  K_X11_copies_r7_r47_2 F 8589934592 R 0
def md_X11_copies_r7_r47 : List Nat := []
def mr_X11_copies_r7_r47 : List Nat := [47]
set_option maxHeartbeats 4000000 in
set_option maxRecDepth 100000 in
theorem w_X11_copies_r7_r47 (l : Launch) (X : gX) (ad : Nat → Nat) (F : Nat → Int32) (R : Nat → Nat → Int32) (hI : g_ok LK_wM F) (hA : g_okR LA_wM R) (hWC : WC F R) : g_Cv l X yX11_copies cX11_copies 3 1 0 0 [.ref (ad 7), .ref (ad 47)] (wM X ad F R) (fun w => ∃ (F' : Nat → Int32) (R' : Nat → Nat → Int32), w = wM X ad F' R' ∧ g_ok LK_wM F' ∧ g_okR LA_wM R' ∧ WC F' R' ∧ g_fr md_X11_copies_r7_r47 F F' ∧ g_fr mr_X11_copies_r7_r47 R R' ∧ (∀ j : Nat, j < 10 → R' 47 j = R 7 j) ∧ (F', R') = sp_X11_copies_r7_r47 F R) := by
  refine g_mv (by decide +kernel) (Nat.le_of_ble_eq_true rfl) (fun E cx hret => ?_)
  obtain ⟨SP, hSP⟩ : ∃ z, z = sp_X11_copies_r7_r47 F R := ⟨_, rfl⟩
  have hk0 := hSP
  unfold sp_X11_copies_r7_r47 at hk0
  refine g_iconst cx 0 (by decide) e_X11_copies_0 ?_
  refine g_istore_n cx [(2, .int 0), (0, .ref (ad 7)), (1, .ref (ad 47))] e_X11_copies_1 (by decide) rfl ?_
  have J2 : ∀ (N : Nat) (R2 : Nat → Nat → Int32) (y1 : Int32), (g_okR LA_wM R2) → (g_fr mr_X11_copies_r7_r47 R R2) → (WC F R2) → (jv 0 10 y1) → (∀ j : Nat, (j : Int) < y1.toInt → R2 47 j = R 7 j) → (SP = K_X11_copies_r7_r47_2 F N R2 y1) → (2147483647 - y1.toInt).toNat < N → G X E 3 0 0 (wM X ad F R2) [(0, .ref (ad 7)), (1, .ref (ad 47)), (2, .int y1)] 2 [] := by
    intro N
    induction N with
    | zero => intro R2 y1 oR2 fR2 wCR2 py1 zq2_0 hkJ2 hm; exact absurd hm (Nat.not_lt_zero _)
    | succ N ih2 =>
      intro R2 y1 oR2 fR2 wCR2 py1 zq2_0 hkJ2 hm2
      have hkK2 : SP = KB_X11_copies_r7_r47_2 (K_X11_copies_r7_r47_2 F N) F R2 y1 := hkJ2
      obtain ⟨b2, hb2⟩ : ∃ z, z = K_X11_copies_r7_r47_2 F N := ⟨_, rfl⟩
      rw [← hb2] at hkK2
      unfold KB_X11_copies_r7_r47_2 at hkK2
      refine g_iload_n cx 2 rfl e_X11_copies_2 ?_
      refine g_bipush cx 10 (by decide) e_X11_copies_3 ?_
      refine g_icmp_ge cx 20 e_X11_copies_5 (by decide) (fun zc3 => ?_) (fun zc3 => ?_)
      · have p4 := gn_ge 10 10 (gc_le zc3) py1 (jv_k (x := 10) 10 (by decide)) (by decide)
        have hk5 := hkK2.trans (if_pos zc3)
        exact hret e_X11_copies_20 (Nat.le_of_ble_eq_true rfl) (Nat.le_of_ble_eq_true rfl) ⟨F, R2, rfl, hI, oR2, wCR2, (g_fr_rf F), fR2, (fun j hj => zq2_0 j (by have q := p4; unfold jv at q; omega)), (hk5.symm.trans hSP)⟩
      · have p6 := gn_lt 0 9 (gc_nle zc3) py1 (jv_k (x := 10) 10 (by decide)) (by decide)
        have hk7 := hkK2.trans (if_neg zc3)
        refine g_aload_n cx 1 rfl e_X11_copies_8 ?_
        refine g_iload_n cx 2 rfl e_X11_copies_9 ?_
        refine g_aload_n cx 0 rfl e_X11_copies_10 ?_
        refine g_iload_n cx 2 rfl e_X11_copies_11 ?_
        refine g_iald cx 7 e_X11_copies_12 rfl (jv_ix 10 p6 (by decide)) ?_
        refine g_topi (fun x8 ex8 => ?_)
        have hk9 := k_ls hk7 ex8
        refine g_iast cx 47 (wM X ad F (g_u R2 47 (upd (R2 47) (Int32.toNatClampNeg y1) x8))) e_X11_copies_13 rfl (jv_ix 10 p6 (by decide)) rfl ?_
        obtain ⟨R10, hR10⟩ : ∃ z, z = g_u R2 47 (upd (R2 47) (Int32.toNatClampNeg y1) x8) := ⟨_, rfl⟩
        rw [← hR10]
        have hk11 := k_ls hk9 hR10
        have oR10 : g_okR LA_wM R10 := by rw [hR10]; exact g_okR_u oR2 rfl
        have fR10 : g_fr mr_X11_copies_r7_r47 R R10 := by rw [hR10]; exact g_fr_r fR2 rfl
        have wCR10 : WC F R10 := by rw [hR10]; exact WC_r wCR2 rfl
        obtain ⟨x12, ex12⟩ : ∃ z : Int32, z = y1 + Int32.ofInt 1 := ⟨_, rfl⟩
        have hk13 := k_ls hk11 (show x12 = y1 + 1 from ex12)
        refine g_iinc cx x12 [(2, .int x12), (0, .ref (ad 7)), (1, .ref (ad 47))] 2 e_X11_copies_14 rfl ex12.symm (by decide) rfl ?_
        have zx12 := jv_add 1 10 (show x12 = y1 + 1 from ex12) p6 (jv_k (x := 1) 1 (by decide)) (by decide)
        refine g_goto cx 2 e_X11_copies_17 (by decide) ?_
        refine g_lsub [1, 2, 0] [(0, .ref (ad 7)), (1, .ref (ad 47)), (2, .int x12)] rfl ?_
        exact ih2 R10 x12 oR10 fR10 wCR10 (jv_w zx12.2 (by decide)) (g_cp1 (g := R 7) zq2_0 p6 ((g_ru1 hR10).trans (by rw [ex8, show R2 7 = R 7 from (fR2 7 rfl)])) (g_eq0 zx12.1)) (hk13.trans (by rw [hb2])) (Nat.lt_of_lt_of_le (show (2147483647 - x12.toInt).toNat < (2147483647 - y1.toInt).toNat from by have q0 := (jv_k (x := 1) 1 (by decide)).1; have q1 := (jv_k (x := 1) 1 (by decide)).2; have q2 := (jv_k (x := 10) 10 (by decide)).1; have q3 := (jv_k (x := 10) 10 (by decide)).2; have q4 := zx12.2.1; have q5 := zx12.2.2; have q6 := p6.1; have q7 := p6.2; have q8 := (gc_nle zc3); have q9 := (g_eq0 zx12.1); omega) (Nat.le_of_lt_succ hm2))
  refine g_lsub [1, 2, 0] [(0, .ref (ad 7)), (1, .ref (ad 47)), (2, .int 0)] rfl ?_
  exact J2 8589934592 R 0 hA (g_fr_rf R) hWC (jv_w (jv_k (x := 0) 0 (by decide)) (by decide)) (fun j hj => absurd hj (by have := Int.natCast_nonneg j; have e : (0 : Int32).toInt = 0 := rfl; omega)) hk0 (show (2147483647 - (0 : Int32).toInt).toNat < 8589934592 from by have q0 := (jv_k (x := 0) 0 (by decide)).1; have q1 := (jv_k (x := 0) 0 (by decide)).2; omega)
def KB_X11_copies_r8_r48_2 (b2 : (Nat → Nat → Int32) → (Int32) → (Nat → Int32) × (Nat → Nat → Int32)) (F : Nat → Int32) (R2 : Nat → Nat → Int32) (y1 : Int32) : (Nat → Int32) × (Nat → Nat → Int32) :=
  if 10 ≤ y1 then (F, R2) else k_lt (R2 8 (Int32.toNatClampNeg y1)) (fun x8 => k_lt (g_u R2 48 (upd (R2 48) (Int32.toNatClampNeg y1) x8)) (fun R10 => k_lt (y1 + 1) (fun x12 => b2 R10 x12)))
def K_X11_copies_r8_r48_2 (F : Nat → Int32) : Nat → (Nat → Nat → Int32) → (Int32) → (Nat → Int32) × (Nat → Nat → Int32)
  | 0 => fun R2 _ => (F, R2)
  | n + 1 => KB_X11_copies_r8_r48_2 (K_X11_copies_r8_r48_2 F n) F
def sp_X11_copies_r8_r48 (F : Nat → Int32) (R : Nat → Nat → Int32) : (Nat → Int32) × (Nat → Nat → Int32) :=
  K_X11_copies_r8_r48_2 F 8589934592 R 0
def md_X11_copies_r8_r48 : List Nat := []
def mr_X11_copies_r8_r48 : List Nat := [48]
set_option maxHeartbeats 4000000 in
set_option maxRecDepth 100000 in
theorem w_X11_copies_r8_r48 (l : Launch) (X : gX) (ad : Nat → Nat) (F : Nat → Int32) (R : Nat → Nat → Int32) (hI : g_ok LK_wM F) (hA : g_okR LA_wM R) (hWC : WC F R) : g_Cv l X yX11_copies cX11_copies 3 1 0 0 [.ref (ad 8), .ref (ad 48)] (wM X ad F R) (fun w => ∃ (F' : Nat → Int32) (R' : Nat → Nat → Int32), w = wM X ad F' R' ∧ g_ok LK_wM F' ∧ g_okR LA_wM R' ∧ WC F' R' ∧ g_fr md_X11_copies_r8_r48 F F' ∧ g_fr mr_X11_copies_r8_r48 R R' ∧ (∀ j : Nat, j < 10 → R' 48 j = R 8 j) ∧ (F', R') = sp_X11_copies_r8_r48 F R) := by
  refine g_mv (by decide +kernel) (Nat.le_of_ble_eq_true rfl) (fun E cx hret => ?_)
  obtain ⟨SP, hSP⟩ : ∃ z, z = sp_X11_copies_r8_r48 F R := ⟨_, rfl⟩
  have hk0 := hSP
  unfold sp_X11_copies_r8_r48 at hk0
  refine g_iconst cx 0 (by decide) e_X11_copies_0 ?_
  refine g_istore_n cx [(2, .int 0), (0, .ref (ad 8)), (1, .ref (ad 48))] e_X11_copies_1 (by decide) rfl ?_
  have J2 : ∀ (N : Nat) (R2 : Nat → Nat → Int32) (y1 : Int32), (g_okR LA_wM R2) → (g_fr mr_X11_copies_r8_r48 R R2) → (WC F R2) → (jv 0 10 y1) → (∀ j : Nat, (j : Int) < y1.toInt → R2 48 j = R 8 j) → (SP = K_X11_copies_r8_r48_2 F N R2 y1) → (2147483647 - y1.toInt).toNat < N → G X E 3 0 0 (wM X ad F R2) [(0, .ref (ad 8)), (1, .ref (ad 48)), (2, .int y1)] 2 [] := by
    intro N
    induction N with
    | zero => intro R2 y1 oR2 fR2 wCR2 py1 zq2_0 hkJ2 hm; exact absurd hm (Nat.not_lt_zero _)
    | succ N ih2 =>
      intro R2 y1 oR2 fR2 wCR2 py1 zq2_0 hkJ2 hm2
      have hkK2 : SP = KB_X11_copies_r8_r48_2 (K_X11_copies_r8_r48_2 F N) F R2 y1 := hkJ2
      obtain ⟨b2, hb2⟩ : ∃ z, z = K_X11_copies_r8_r48_2 F N := ⟨_, rfl⟩
      rw [← hb2] at hkK2
      unfold KB_X11_copies_r8_r48_2 at hkK2
      refine g_iload_n cx 2 rfl e_X11_copies_2 ?_
      refine g_bipush cx 10 (by decide) e_X11_copies_3 ?_
      refine g_icmp_ge cx 20 e_X11_copies_5 (by decide) (fun zc3 => ?_) (fun zc3 => ?_)
      · have p4 := gn_ge 10 10 (gc_le zc3) py1 (jv_k (x := 10) 10 (by decide)) (by decide)
        have hk5 := hkK2.trans (if_pos zc3)
        exact hret e_X11_copies_20 (Nat.le_of_ble_eq_true rfl) (Nat.le_of_ble_eq_true rfl) ⟨F, R2, rfl, hI, oR2, wCR2, (g_fr_rf F), fR2, (fun j hj => zq2_0 j (by have q := p4; unfold jv at q; omega)), (hk5.symm.trans hSP)⟩
      · have p6 := gn_lt 0 9 (gc_nle zc3) py1 (jv_k (x := 10) 10 (by decide)) (by decide)
        have hk7 := hkK2.trans (if_neg zc3)
        refine g_aload_n cx 1 rfl e_X11_copies_8 ?_
        refine g_iload_n cx 2 rfl e_X11_copies_9 ?_
        refine g_aload_n cx 0 rfl e_X11_copies_10 ?_
        refine g_iload_n cx 2 rfl e_X11_copies_11 ?_
        refine g_iald cx 8 e_X11_copies_12 rfl (jv_ix 10 p6 (by decide)) ?_
        refine g_topi (fun x8 ex8 => ?_)
        have hk9 := k_ls hk7 ex8
        refine g_iast cx 48 (wM X ad F (g_u R2 48 (upd (R2 48) (Int32.toNatClampNeg y1) x8))) e_X11_copies_13 rfl (jv_ix 10 p6 (by decide)) rfl ?_
        obtain ⟨R10, hR10⟩ : ∃ z, z = g_u R2 48 (upd (R2 48) (Int32.toNatClampNeg y1) x8) := ⟨_, rfl⟩
        rw [← hR10]
        have hk11 := k_ls hk9 hR10
        have oR10 : g_okR LA_wM R10 := by rw [hR10]; exact g_okR_u oR2 rfl
        have fR10 : g_fr mr_X11_copies_r8_r48 R R10 := by rw [hR10]; exact g_fr_r fR2 rfl
        have wCR10 : WC F R10 := by rw [hR10]; exact WC_r wCR2 rfl
        obtain ⟨x12, ex12⟩ : ∃ z : Int32, z = y1 + Int32.ofInt 1 := ⟨_, rfl⟩
        have hk13 := k_ls hk11 (show x12 = y1 + 1 from ex12)
        refine g_iinc cx x12 [(2, .int x12), (0, .ref (ad 8)), (1, .ref (ad 48))] 2 e_X11_copies_14 rfl ex12.symm (by decide) rfl ?_
        have zx12 := jv_add 1 10 (show x12 = y1 + 1 from ex12) p6 (jv_k (x := 1) 1 (by decide)) (by decide)
        refine g_goto cx 2 e_X11_copies_17 (by decide) ?_
        refine g_lsub [1, 2, 0] [(0, .ref (ad 8)), (1, .ref (ad 48)), (2, .int x12)] rfl ?_
        exact ih2 R10 x12 oR10 fR10 wCR10 (jv_w zx12.2 (by decide)) (g_cp1 (g := R 8) zq2_0 p6 ((g_ru1 hR10).trans (by rw [ex8, show R2 8 = R 8 from (fR2 8 rfl)])) (g_eq0 zx12.1)) (hk13.trans (by rw [hb2])) (Nat.lt_of_lt_of_le (show (2147483647 - x12.toInt).toNat < (2147483647 - y1.toInt).toNat from by have q0 := (jv_k (x := 1) 1 (by decide)).1; have q1 := (jv_k (x := 1) 1 (by decide)).2; have q2 := (jv_k (x := 10) 10 (by decide)).1; have q3 := (jv_k (x := 10) 10 (by decide)).2; have q4 := zx12.2.1; have q5 := zx12.2.2; have q6 := p6.1; have q7 := p6.2; have q8 := (gc_nle zc3); have q9 := (g_eq0 zx12.1); omega) (Nat.le_of_lt_succ hm2))
  refine g_lsub [1, 2, 0] [(0, .ref (ad 8)), (1, .ref (ad 48)), (2, .int 0)] rfl ?_
  exact J2 8589934592 R 0 hA (g_fr_rf R) hWC (jv_w (jv_k (x := 0) 0 (by decide)) (by decide)) (fun j hj => absurd hj (by have := Int.natCast_nonneg j; have e : (0 : Int32).toInt = 0 := rfl; omega)) hk0 (show (2147483647 - (0 : Int32).toInt).toNat < 8589934592 from by have q0 := (jv_k (x := 0) 0 (by decide)).1; have q1 := (jv_k (x := 0) 0 (by decide)).2; omega)
def KB_X11_bits_4 (b4 : (Int32) → (Int32) → Int32) (a0 : Int32) (y1 : Int32) (y2 : Int32) : Int32 :=
  if 10 ≤ y2 then y1 else k_lt (a0 >>> (y2 &&& 31)) (fun x9 => k_lt (x9 &&& 1) (fun x11 => k_lt (y1 + x11) (fun x13 => k_lt (y2 + 1) (fun x15 => b4 x13 x15))))
def K_X11_bits_4 (a0 : Int32) : Nat → (Int32) → (Int32) → Int32
  | 0 => fun _ _ => 0
  | n + 1 => KB_X11_bits_4 (K_X11_bits_4 a0 n) a0
def sp_X11_bits (F : Nat → Int32) (R : Nat → Nat → Int32) (a0 : Int32) : Int32 :=
  K_X11_bits_4 a0 8589934592 0 0
theorem e_X11_bits_0 : g_dc cX11_bits 0 (.iconst 0) 1 1 := ⟨by decide +kernel, rfl⟩
theorem e_X11_bits_1 : g_dc cX11_bits 1 (.istore_n 1) 1 2 := ⟨by decide +kernel, rfl⟩
theorem e_X11_bits_2 : g_dc cX11_bits 2 (.iconst 0) 1 3 := ⟨by decide +kernel, rfl⟩
theorem e_X11_bits_3 : g_dc cX11_bits 3 (.istore_n 2) 1 4 := ⟨by decide +kernel, rfl⟩
theorem e_X11_bits_4 : g_dc cX11_bits 4 (.iload_n 2) 1 5 := ⟨by decide +kernel, rfl⟩
theorem e_X11_bits_5 : g_dc cX11_bits 5 (.bipush 10) 2 7 := ⟨by decide +kernel, rfl⟩
theorem e_X11_bits_7 : g_dc cX11_bits 7 (.if_icmp .ge 17) 3 10 := ⟨by decide +kernel, rfl⟩
theorem e_X11_bits_10 : g_dc cX11_bits 10 (.iload_n 1) 1 11 := ⟨by decide +kernel, rfl⟩
theorem e_X11_bits_11 : g_dc cX11_bits 11 (.iload_n 0) 1 12 := ⟨by decide +kernel, rfl⟩
theorem e_X11_bits_12 : g_dc cX11_bits 12 (.iload_n 2) 1 13 := ⟨by decide +kernel, rfl⟩
theorem e_X11_bits_13 : g_dc cX11_bits 13 (.ishr) 1 14 := ⟨by decide +kernel, rfl⟩
theorem e_X11_bits_14 : g_dc cX11_bits 14 (.iconst 1) 1 15 := ⟨by decide +kernel, rfl⟩
theorem e_X11_bits_15 : g_dc cX11_bits 15 (.iand) 1 16 := ⟨by decide +kernel, rfl⟩
theorem e_X11_bits_16 : g_dc cX11_bits 16 (.iadd) 1 17 := ⟨by decide +kernel, rfl⟩
theorem e_X11_bits_17 : g_dc cX11_bits 17 (.istore_n 1) 1 18 := ⟨by decide +kernel, rfl⟩
theorem e_X11_bits_18 : g_dc cX11_bits 18 (.iinc 2 1) 3 21 := ⟨by decide +kernel, rfl⟩
theorem e_X11_bits_21 : g_dc cX11_bits 21 (.goto (-17)) 3 24 := ⟨by decide +kernel, rfl⟩
theorem e_X11_bits_24 : g_dc cX11_bits 24 (.iload_n 1) 1 25 := ⟨by decide +kernel, rfl⟩
theorem e_X11_bits_25 : g_dc cX11_bits 25 (.ireturn) 1 26 := ⟨by decide +kernel, rfl⟩
set_option maxHeartbeats 4000000 in
set_option maxRecDepth 100000 in
theorem w_X11_bits (l : Launch) (X : gX) (ad : Nat → Nat) (F : Nat → Int32) (R : Nat → Nat → Int32) (hI : g_ok LK_wM F) (hA : g_okR LA_wM R) (a0 : Int32) : g_Ci l X yX11_bits cX11_bits 3 (some .int) 1 0 0 [.int a0] (wM X ad F R) (fun r w => w = wM X ad F R ∧ jv 0 10 r ∧ r.toInt = g_bits a0 10 ∧ r = sp_X11_bits F R a0) := by
  refine g_mi (by decide +kernel) (Nat.le_of_ble_eq_true rfl) (fun E cx hret => ?_)
  obtain ⟨SP, hSP⟩ : ∃ z, z = sp_X11_bits F R a0 := ⟨_, rfl⟩
  have hk0 := hSP
  unfold sp_X11_bits at hk0
  refine g_iconst cx 0 (by decide) e_X11_bits_0 ?_
  refine g_istore_n cx [(1, .int 0), (0, .int a0)] e_X11_bits_1 (by decide) rfl ?_
  refine g_iconst cx 0 (by decide) e_X11_bits_2 ?_
  refine g_istore_n cx [(2, .int 0), (1, .int 0), (0, .int a0)] e_X11_bits_3 (by decide) rfl ?_
  have J4 : ∀ (N : Nat) (y1 : Int32) (y2 : Int32), (jv 0 11 y1) → (jv 0 10 y2) → (0 ≤ y1.toInt ∧ y1.toInt ≤ y2.toInt) → (y1.toInt = g_bits a0 y2.toInt.toNat) → (SP = K_X11_bits_4 a0 N y1 y2) → (2147483647 - y2.toInt).toNat < N → G X E 3 0 0 (wM X ad F R) [(0, .int a0), (1, .int y1), (2, .int y2)] 4 [] := by
    intro N
    induction N with
    | zero => intro y1 y2 py1 py2 zi4_0 zq4_0 hkJ4 hm; exact absurd hm (Nat.not_lt_zero _)
    | succ N ih4 =>
      intro y1 y2 py1 py2 zi4_0 zq4_0 hkJ4 hm4
      have hkK4 : SP = KB_X11_bits_4 (K_X11_bits_4 a0 N) a0 y1 y2 := hkJ4
      obtain ⟨b4, hb4⟩ : ∃ z, z = K_X11_bits_4 a0 N := ⟨_, rfl⟩
      rw [← hb4] at hkK4
      unfold KB_X11_bits_4 at hkK4
      have p3 : jv 0 10 y1 := ⟨by have q0 := py1.1; have q1 := py1.2; have q2 := py2.1; have q3 := py2.2; have q4 := zi4_0; omega, by have q0 := py1.1; have q1 := py1.2; have q2 := py2.1; have q3 := py2.2; have q4 := zi4_0; omega⟩
      refine g_iload_n cx 2 rfl e_X11_bits_4 ?_
      refine g_bipush cx 10 (by decide) e_X11_bits_5 ?_
      refine g_icmp_ge cx 24 e_X11_bits_7 (by decide) (fun zc4 => ?_) (fun zc4 => ?_)
      · have p5 := gn_ge 10 10 (gc_le zc4) py2 (jv_k (x := 10) 10 (by decide)) (by decide)
        have hk6 := hkK4.trans (if_pos zc4)
        refine g_iload_n cx 1 rfl e_X11_bits_24 ?_
        exact hret e_X11_bits_25 (Nat.le_of_ble_eq_true rfl) (Nat.le_of_ble_eq_true rfl) rfl ⟨rfl, p3, (by have q := zq4_0; have q2 := p5; rw [show y2.toInt.toNat = 10 from by unfold jv at q2; omega] at q; exact q), (hk6.symm.trans hSP)⟩
      · have p7 := gn_lt 0 9 (gc_nle zc4) py2 (jv_k (x := 10) 10 (by decide)) (by decide)
        have hk8 := hkK4.trans (if_neg zc4)
        refine g_iload_n cx 1 rfl e_X11_bits_10 ?_
        refine g_iload_n cx 0 rfl e_X11_bits_11 ?_
        refine g_iload_n cx 2 rfl e_X11_bits_12 ?_
        refine g_ishr cx e_X11_bits_13 ?_
        refine g_topi (fun x9 ex9 => ?_)
        have hk10 := k_ls hk8 ex9
        refine g_iconst cx 1 (by decide) e_X11_bits_14 ?_
        refine g_iand cx e_X11_bits_15 ?_
        refine g_topi (fun x11 ex11 => ?_)
        have hk12 := k_ls hk10 ex11
        have px11 := jv_and 0 1 ex11 (jv_k (x := 1) 1 (by decide)) (by decide)
        refine g_iadd cx e_X11_bits_16 ?_
        refine g_topi (fun x13 ex13 => ?_)
        have hk14 := k_ls hk12 ex13
        have zx13 := jv_add 0 11 ex13 p3 px11 (by decide)
        refine g_istore_n cx [(1, .int x13), (0, .int a0), (2, .int y2)] e_X11_bits_17 (by decide) rfl ?_
        obtain ⟨x15, ex15⟩ : ∃ z : Int32, z = y2 + Int32.ofInt 1 := ⟨_, rfl⟩
        have hk16 := k_ls hk14 (show x15 = y2 + 1 from ex15)
        refine g_iinc cx x15 [(2, .int x15), (1, .int x13), (0, .int a0)] 2 e_X11_bits_18 rfl ex15.symm (by decide) rfl ?_
        have zx15 := jv_add 1 10 (show x15 = y2 + 1 from ex15) p7 (jv_k (x := 1) 1 (by decide)) (by decide)
        refine g_goto cx 4 e_X11_bits_21 (by decide) ?_
        refine g_lsub [2, 1, 0] [(0, .int a0), (1, .int x13), (2, .int x15)] rfl ?_
        exact ih4 x13 x15 zx13.2 (jv_w zx15.2 (by decide)) (by have q0 := (jv_k (x := 1) 1 (by decide)).1; have q1 := (jv_k (x := 1) 1 (by decide)).2; have q2 := (jv_k (x := 10) 10 (by decide)).1; have q3 := (jv_k (x := 10) 10 (by decide)).2; have q4 := px11.1; have q5 := px11.2; have q6 := zx13.2.1; have q7 := zx13.2.2; have q8 := zx15.2.1; have q9 := zx15.2.2; have q10 := p3.1; have q11 := p3.2; have q12 := p7.1; have q13 := p7.2; have q14 := zi4_0; have q15 := (gc_nle zc4); have q16 := (g_eq0 zx13.1); have q17 := (g_eq0 zx15.1); omega) ((by have q := g_bits_s (x := a0) p7 (g_eq0 zx15.1) (ex11.trans (by rw [ex9])); have q2 := (g_eq0 zx13.1); have q3 := zq4_0; rw [q]; omega)) (hk16.trans (by rw [hb4])) (Nat.lt_of_lt_of_le (show (2147483647 - x15.toInt).toNat < (2147483647 - y2.toInt).toNat from by have q0 := (jv_k (x := 1) 1 (by decide)).1; have q1 := (jv_k (x := 1) 1 (by decide)).2; have q2 := (jv_k (x := 10) 10 (by decide)).1; have q3 := (jv_k (x := 10) 10 (by decide)).2; have q4 := px11.1; have q5 := px11.2; have q6 := zx13.2.1; have q7 := zx13.2.2; have q8 := zx15.2.1; have q9 := zx15.2.2; have q10 := p3.1; have q11 := p3.2; have q12 := p7.1; have q13 := p7.2; have q14 := zi4_0; have q15 := (gc_nle zc4); have q16 := (g_eq0 zx13.1); have q17 := (g_eq0 zx15.1); omega) (Nat.le_of_lt_succ hm4))
  refine g_lsub [2, 1, 0] [(0, .int a0), (1, .int 0), (2, .int 0)] rfl ?_
  exact J4 8589934592 0 0 (jv_w (jv_k (x := 0) 0 (by decide)) (by decide)) (jv_w (jv_k (x := 0) 0 (by decide)) (by decide)) (by have q0 := (jv_k (x := 0) 0 (by decide)).1; have q1 := (jv_k (x := 0) 0 (by decide)).2; omega) (rfl) hk0 (show (2147483647 - (0 : Int32).toInt).toNat < 8589934592 from by have q0 := (jv_k (x := 0) 0 (by decide)).1; have q1 := (jv_k (x := 0) 0 (by decide)).2; omega)
def sp_X11_keep (F : Nat → Int32) (R : Nat → Nat → Int32) : Int32 × (Nat → Int32) × (Nat → Nat → Int32) :=
  k_lt (upd F 77 1) (fun F1 => k_lt (upd F1 78 (F 0)) (fun F3 => k_lt (upd F3 79 (F 1)) (fun F5 => k_lt (upd F5 80 (F 2)) (fun F7 => k_lt (upd F7 81 (F 3)) (fun F9 => k_lt (upd F9 82 (F 4)) (fun F11 => k_lt2 (sp_X11_copies_r1_r41 F11 R) (fun F18 R19 => k_lt2 (sp_X11_copies_r2_r42 F18 R19) (fun F26 R27 => k_lt2 (sp_X11_copies_r3_r43 F26 R27) (fun F34 R35 => k_lt2 (sp_X11_copies_r4_r44 F34 R35) (fun F42 R43 => k_lt2 (sp_X11_copies_r5_r45 F42 R43) (fun F50 R51 => k_lt2 (sp_X11_copies_r6_r46 F50 R51) (fun F58 R59 => k_lt2 (sp_X11_copies_r7_r47 F58 R59) (fun F66 R67 => k_lt2 (sp_X11_copies_r8_r48 F66 R67) (fun F74 R75 => k_lt (sp_X11_bits F74 R75 (F 4)) (fun r77 => (r77, F74, R75))))))))))))))))
theorem e_X11_keep_0 : g_dc cX11_keep 0 (.aload_n 0) 1 1 := ⟨by decide +kernel, rfl⟩
theorem e_X11_keep_1 : g_dc cX11_keep 1 (.iconst 1) 1 2 := ⟨by decide +kernel, rfl⟩
theorem e_X11_keep_2 : g_dc cX11_keep 2 (.putfield 491) 3 5 := ⟨by decide +kernel, rfl⟩
theorem e_X11_keep_5 : g_dc cX11_keep 5 (.aload_n 0) 1 6 := ⟨by decide +kernel, rfl⟩
theorem e_X11_keep_6 : g_dc cX11_keep 6 (.aload_n 0) 1 7 := ⟨by decide +kernel, rfl⟩
theorem e_X11_keep_7 : g_dc cX11_keep 7 (.getfield 155) 3 10 := ⟨by decide +kernel, rfl⟩
theorem e_X11_keep_10 : g_dc cX11_keep 10 (.putfield 494) 3 13 := ⟨by decide +kernel, rfl⟩
theorem e_X11_keep_13 : g_dc cX11_keep 13 (.aload_n 0) 1 14 := ⟨by decide +kernel, rfl⟩
theorem e_X11_keep_14 : g_dc cX11_keep 14 (.aload_n 0) 1 15 := ⟨by decide +kernel, rfl⟩
theorem e_X11_keep_15 : g_dc cX11_keep 15 (.getfield 159) 3 18 := ⟨by decide +kernel, rfl⟩
theorem e_X11_keep_18 : g_dc cX11_keep 18 (.putfield 497) 3 21 := ⟨by decide +kernel, rfl⟩
theorem e_X11_keep_21 : g_dc cX11_keep 21 (.aload_n 0) 1 22 := ⟨by decide +kernel, rfl⟩
theorem e_X11_keep_22 : g_dc cX11_keep 22 (.aload_n 0) 1 23 := ⟨by decide +kernel, rfl⟩
theorem e_X11_keep_23 : g_dc cX11_keep 23 (.getfield 169) 3 26 := ⟨by decide +kernel, rfl⟩
theorem e_X11_keep_26 : g_dc cX11_keep 26 (.putfield 500) 3 29 := ⟨by decide +kernel, rfl⟩
theorem e_X11_keep_29 : g_dc cX11_keep 29 (.aload_n 0) 1 30 := ⟨by decide +kernel, rfl⟩
theorem e_X11_keep_30 : g_dc cX11_keep 30 (.aload_n 0) 1 31 := ⟨by decide +kernel, rfl⟩
theorem e_X11_keep_31 : g_dc cX11_keep 31 (.getfield 162) 3 34 := ⟨by decide +kernel, rfl⟩
theorem e_X11_keep_34 : g_dc cX11_keep 34 (.putfield 503) 3 37 := ⟨by decide +kernel, rfl⟩
theorem e_X11_keep_37 : g_dc cX11_keep 37 (.aload_n 0) 1 38 := ⟨by decide +kernel, rfl⟩
theorem e_X11_keep_38 : g_dc cX11_keep 38 (.aload_n 0) 1 39 := ⟨by decide +kernel, rfl⟩
theorem e_X11_keep_39 : g_dc cX11_keep 39 (.getfield 172) 3 42 := ⟨by decide +kernel, rfl⟩
theorem e_X11_keep_42 : g_dc cX11_keep 42 (.putfield 506) 3 45 := ⟨by decide +kernel, rfl⟩
theorem e_X11_keep_45 : g_dc cX11_keep 45 (.aload_n 0) 1 46 := ⟨by decide +kernel, rfl⟩
theorem e_X11_keep_46 : g_dc cX11_keep 46 (.getfield 7) 3 49 := ⟨by decide +kernel, rfl⟩
theorem e_X11_keep_49 : g_dc cX11_keep 49 (.aload_n 0) 1 50 := ⟨by decide +kernel, rfl⟩
theorem e_X11_keep_50 : g_dc cX11_keep 50 (.getfield 131) 3 53 := ⟨by decide +kernel, rfl⟩
theorem e_X11_keep_53 : g_dc cX11_keep 53 (.invokestatic 509) 3 56 := ⟨by decide +kernel, rfl⟩
theorem e_X11_keep_56 : g_dc cX11_keep 56 (.aload_n 0) 1 57 := ⟨by decide +kernel, rfl⟩
theorem e_X11_keep_57 : g_dc cX11_keep 57 (.getfield 13) 3 60 := ⟨by decide +kernel, rfl⟩
theorem e_X11_keep_60 : g_dc cX11_keep 60 (.aload_n 0) 1 61 := ⟨by decide +kernel, rfl⟩
theorem e_X11_keep_61 : g_dc cX11_keep 61 (.getfield 134) 3 64 := ⟨by decide +kernel, rfl⟩
theorem e_X11_keep_64 : g_dc cX11_keep 64 (.invokestatic 509) 3 67 := ⟨by decide +kernel, rfl⟩
theorem e_X11_keep_67 : g_dc cX11_keep 67 (.aload_n 0) 1 68 := ⟨by decide +kernel, rfl⟩
theorem e_X11_keep_68 : g_dc cX11_keep 68 (.getfield 16) 3 71 := ⟨by decide +kernel, rfl⟩
theorem e_X11_keep_71 : g_dc cX11_keep 71 (.aload_n 0) 1 72 := ⟨by decide +kernel, rfl⟩
theorem e_X11_keep_72 : g_dc cX11_keep 72 (.getfield 137) 3 75 := ⟨by decide +kernel, rfl⟩
theorem e_X11_keep_75 : g_dc cX11_keep 75 (.invokestatic 509) 3 78 := ⟨by decide +kernel, rfl⟩
theorem e_X11_keep_78 : g_dc cX11_keep 78 (.aload_n 0) 1 79 := ⟨by decide +kernel, rfl⟩
theorem e_X11_keep_79 : g_dc cX11_keep 79 (.getfield 19) 3 82 := ⟨by decide +kernel, rfl⟩
theorem e_X11_keep_82 : g_dc cX11_keep 82 (.aload_n 0) 1 83 := ⟨by decide +kernel, rfl⟩
theorem e_X11_keep_83 : g_dc cX11_keep 83 (.getfield 140) 3 86 := ⟨by decide +kernel, rfl⟩
theorem e_X11_keep_86 : g_dc cX11_keep 86 (.invokestatic 509) 3 89 := ⟨by decide +kernel, rfl⟩
theorem e_X11_keep_89 : g_dc cX11_keep 89 (.aload_n 0) 1 90 := ⟨by decide +kernel, rfl⟩
theorem e_X11_keep_90 : g_dc cX11_keep 90 (.getfield 22) 3 93 := ⟨by decide +kernel, rfl⟩
theorem e_X11_keep_93 : g_dc cX11_keep 93 (.aload_n 0) 1 94 := ⟨by decide +kernel, rfl⟩
theorem e_X11_keep_94 : g_dc cX11_keep 94 (.getfield 143) 3 97 := ⟨by decide +kernel, rfl⟩
theorem e_X11_keep_97 : g_dc cX11_keep 97 (.invokestatic 509) 3 100 := ⟨by decide +kernel, rfl⟩
theorem e_X11_keep_100 : g_dc cX11_keep 100 (.aload_n 0) 1 101 := ⟨by decide +kernel, rfl⟩
theorem e_X11_keep_101 : g_dc cX11_keep 101 (.getfield 25) 3 104 := ⟨by decide +kernel, rfl⟩
theorem e_X11_keep_104 : g_dc cX11_keep 104 (.aload_n 0) 1 105 := ⟨by decide +kernel, rfl⟩
theorem e_X11_keep_105 : g_dc cX11_keep 105 (.getfield 146) 3 108 := ⟨by decide +kernel, rfl⟩
theorem e_X11_keep_108 : g_dc cX11_keep 108 (.invokestatic 509) 3 111 := ⟨by decide +kernel, rfl⟩
theorem e_X11_keep_111 : g_dc cX11_keep 111 (.aload_n 0) 1 112 := ⟨by decide +kernel, rfl⟩
theorem e_X11_keep_112 : g_dc cX11_keep 112 (.getfield 28) 3 115 := ⟨by decide +kernel, rfl⟩
theorem e_X11_keep_115 : g_dc cX11_keep 115 (.aload_n 0) 1 116 := ⟨by decide +kernel, rfl⟩
theorem e_X11_keep_116 : g_dc cX11_keep 116 (.getfield 149) 3 119 := ⟨by decide +kernel, rfl⟩
theorem e_X11_keep_119 : g_dc cX11_keep 119 (.invokestatic 509) 3 122 := ⟨by decide +kernel, rfl⟩
theorem e_X11_keep_122 : g_dc cX11_keep 122 (.aload_n 0) 1 123 := ⟨by decide +kernel, rfl⟩
theorem e_X11_keep_123 : g_dc cX11_keep 123 (.getfield 31) 3 126 := ⟨by decide +kernel, rfl⟩
theorem e_X11_keep_126 : g_dc cX11_keep 126 (.aload_n 0) 1 127 := ⟨by decide +kernel, rfl⟩
theorem e_X11_keep_127 : g_dc cX11_keep 127 (.getfield 152) 3 130 := ⟨by decide +kernel, rfl⟩
theorem e_X11_keep_130 : g_dc cX11_keep 130 (.invokestatic 509) 3 133 := ⟨by decide +kernel, rfl⟩
theorem e_X11_keep_133 : g_dc cX11_keep 133 (.aload_n 0) 1 134 := ⟨by decide +kernel, rfl⟩
theorem e_X11_keep_134 : g_dc cX11_keep 134 (.getfield 172) 3 137 := ⟨by decide +kernel, rfl⟩
theorem e_X11_keep_137 : g_dc cX11_keep 137 (.invokestatic 410) 3 140 := ⟨by decide +kernel, rfl⟩
theorem e_X11_keep_140 : g_dc cX11_keep 140 (.ireturn) 1 141 := ⟨by decide +kernel, rfl⟩
def md_X11_keep : List Nat := [77, 78, 79, 80, 81, 82]
def mr_X11_keep : List Nat := [41, 42, 43, 44, 45, 46, 47, 48]
set_option maxHeartbeats 4000000 in
set_option maxRecDepth 100000 in
theorem w_X11_keep (l : Launch) (X : gX) (ad : Nat → Nat) (F : Nat → Int32) (R : Nat → Nat → Int32) (hI : g_ok LK_wM F) (hA : g_okR LA_wM R) (hWT : WT F R) (hWC : WC F R) : g_Ci l X yX11_keep cX11_keep 1 (some .int) 2 0 0 [.ref (ad 0)] (wM X ad F R) (fun r w => ∃ (F' : Nat → Int32) (R' : Nat → Nat → Int32), w = wM X ad F' R' ∧ g_ok LK_wM F' ∧ g_okR LA_wM R' ∧ WT F' R' ∧ WC F' R' ∧ g_fr md_X11_keep F F' ∧ g_fr mr_X11_keep R R' ∧ jv 0 10 r ∧ (r, F', R') = sp_X11_keep F R) := by
  refine g_mi (by decide +kernel) (Nat.le_of_ble_eq_true rfl) (fun E cx hret => ?_)
  obtain ⟨SP, hSP⟩ : ∃ z, z = sp_X11_keep F R := ⟨_, rfl⟩
  have hk0 := hSP
  unfold sp_X11_keep at hk0
  refine g_aload_n cx 0 rfl e_X11_keep_0 ?_
  refine g_iconst cx 1 (by decide) e_X11_keep_1 ?_
  refine g_put cx cl_X11 fl_X11_491 0 (wM X ad (upd F 77 1) R) e_X11_keep_2 rfl rfl rfl rfl (Nat.le_of_ble_eq_true rfl) rfl ?_
  obtain ⟨F1, hF1⟩ : ∃ z, z = upd F 77 1 := ⟨_, rfl⟩
  rw [← hF1]
  have hk2 := k_ls hk0 hF1
  have oF1 : g_ok LK_wM F1 := by rw [hF1]; exact g_ok_p hI (jv_k (x := 1) 1 (by decide)) rfl
  have fF1 : g_fr md_X11_keep F F1 := by rw [hF1]; exact g_fr_u (g_fr_rf F) rfl
  have wTF1 : WT F1 R := by rw [hF1]; exact WT_u hWT rfl
  have wCF1 : WC F1 R := by rw [hF1]; exact WC_u hWC rfl
  refine g_aload_n cx 0 rfl e_X11_keep_5 ?_
  refine g_aload_n cx 0 rfl e_X11_keep_6 ?_
  refine g_get cx cl_X11 fl_X11_155 0 (.int (F1 0)) e_X11_keep_7 rfl rfl ?_
  refine g_toi (F 0) (g_pu2 hF1 rfl) ?_
  refine g_put cx cl_X11 fl_X11_494 0 (wM X ad (upd F1 78 (F 0)) R) e_X11_keep_10 rfl rfl rfl rfl (Nat.le_of_ble_eq_true rfl) rfl ?_
  obtain ⟨F3, hF3⟩ : ∃ z, z = upd F1 78 (F 0) := ⟨_, rfl⟩
  rw [← hF3]
  have hk4 := k_ls hk2 hF3
  have oF3 : g_ok LK_wM F3 := by rw [hF3]; exact g_ok_u oF1 rfl
  have fF3 : g_fr md_X11_keep F F3 := by rw [hF3]; exact g_fr_u fF1 rfl
  have wTF3 : WT F3 R := by rw [hF3]; exact WT_u wTF1 rfl
  have wCF3 : WC F3 R := by rw [hF3]; exact WC_u wCF1 rfl
  refine g_aload_n cx 0 rfl e_X11_keep_13 ?_
  refine g_aload_n cx 0 rfl e_X11_keep_14 ?_
  refine g_get cx cl_X11 fl_X11_159 0 (.int (F3 1)) e_X11_keep_15 rfl rfl ?_
  refine g_toi (F 1) ((g_pu2 hF3 rfl).trans (g_pu2 hF1 rfl)) ?_
  refine g_put cx cl_X11 fl_X11_497 0 (wM X ad (upd F3 79 (F 1)) R) e_X11_keep_18 rfl rfl rfl rfl (Nat.le_of_ble_eq_true rfl) rfl ?_
  obtain ⟨F5, hF5⟩ : ∃ z, z = upd F3 79 (F 1) := ⟨_, rfl⟩
  rw [← hF5]
  have hk6 := k_ls hk4 hF5
  have oF5 : g_ok LK_wM F5 := by rw [hF5]; exact g_ok_u oF3 rfl
  have fF5 : g_fr md_X11_keep F F5 := by rw [hF5]; exact g_fr_u fF3 rfl
  have wTF5 : WT F5 R := by rw [hF5]; exact WT_u wTF3 rfl
  have wCF5 : WC F5 R := by rw [hF5]; exact WC_u wCF3 rfl
  refine g_aload_n cx 0 rfl e_X11_keep_21 ?_
  refine g_aload_n cx 0 rfl e_X11_keep_22 ?_
  refine g_get cx cl_X11 fl_X11_169 0 (.int (F5 2)) e_X11_keep_23 rfl rfl ?_
  refine g_toi (F 2) (((g_pu2 hF5 rfl).trans (g_pu2 hF3 rfl)).trans (g_pu2 hF1 rfl)) ?_
  refine g_put cx cl_X11 fl_X11_500 0 (wM X ad (upd F5 80 (F 2)) R) e_X11_keep_26 rfl rfl rfl rfl (Nat.le_of_ble_eq_true rfl) rfl ?_
  obtain ⟨F7, hF7⟩ : ∃ z, z = upd F5 80 (F 2) := ⟨_, rfl⟩
  rw [← hF7]
  have hk8 := k_ls hk6 hF7
  have oF7 : g_ok LK_wM F7 := by rw [hF7]; exact g_ok_u oF5 rfl
  have fF7 : g_fr md_X11_keep F F7 := by rw [hF7]; exact g_fr_u fF5 rfl
  have wTF7 : WT F7 R := by rw [hF7]; exact WT_u wTF5 rfl
  have wCF7 : WC F7 R := by rw [hF7]; exact WC_u wCF5 rfl
  refine g_aload_n cx 0 rfl e_X11_keep_29 ?_
  refine g_aload_n cx 0 rfl e_X11_keep_30 ?_
  refine g_get cx cl_X11 fl_X11_162 0 (.int (F7 3)) e_X11_keep_31 rfl rfl ?_
  refine g_toi (F 3) ((((g_pu2 hF7 rfl).trans (g_pu2 hF5 rfl)).trans (g_pu2 hF3 rfl)).trans (g_pu2 hF1 rfl)) ?_
  refine g_put cx cl_X11 fl_X11_503 0 (wM X ad (upd F7 81 (F 3)) R) e_X11_keep_34 rfl rfl rfl rfl (Nat.le_of_ble_eq_true rfl) rfl ?_
  obtain ⟨F9, hF9⟩ : ∃ z, z = upd F7 81 (F 3) := ⟨_, rfl⟩
  rw [← hF9]
  have hk10 := k_ls hk8 hF9
  have oF9 : g_ok LK_wM F9 := by rw [hF9]; exact g_ok_u oF7 rfl
  have fF9 : g_fr md_X11_keep F F9 := by rw [hF9]; exact g_fr_u fF7 rfl
  have wTF9 : WT F9 R := by rw [hF9]; exact WT_u wTF7 rfl
  have wCF9 : WC F9 R := by rw [hF9]; exact WC_u wCF7 rfl
  refine g_aload_n cx 0 rfl e_X11_keep_37 ?_
  refine g_aload_n cx 0 rfl e_X11_keep_38 ?_
  refine g_get cx cl_X11 fl_X11_172 0 (.int (F9 4)) e_X11_keep_39 rfl rfl ?_
  refine g_toi (F 4) (((((g_pu2 hF9 rfl).trans (g_pu2 hF7 rfl)).trans (g_pu2 hF5 rfl)).trans (g_pu2 hF3 rfl)).trans (g_pu2 hF1 rfl)) ?_
  refine g_put cx cl_X11 fl_X11_506 0 (wM X ad (upd F9 82 (F 4)) R) e_X11_keep_42 rfl rfl rfl rfl (Nat.le_of_ble_eq_true rfl) rfl ?_
  obtain ⟨F11, hF11⟩ : ∃ z, z = upd F9 82 (F 4) := ⟨_, rfl⟩
  rw [← hF11]
  have hk12 := k_ls hk10 hF11
  have oF11 : g_ok LK_wM F11 := by rw [hF11]; exact g_ok_u oF9 rfl
  have fF11 : g_fr md_X11_keep F F11 := by rw [hF11]; exact g_fr_u fF9 rfl
  have wCF11 : WC F11 R := by rw [hF11]; exact WC_u wCF9 rfl
  refine g_aload_n cx 0 rfl e_X11_keep_45 ?_
  refine g_get cx cl_X11 fl_X11_7 0 (.ref (ad 1)) e_X11_keep_46 rfl rfl ?_
  refine g_aload_n cx 0 rfl e_X11_keep_49 ?_
  refine g_get cx cl_X11 fl_X11_131 0 (.ref (ad 41)) e_X11_keep_50 rfl rfl ?_
  refine g_cSvW cx [.ref (ad 1), .ref (ad 41)] [] (w_X11_copies_r1_r41 l X ad F11 R oF11 hA wCF11) ml_X11_509 yS_X11_copies rfl e_X11_keep_53 (by unfold g_rr; decide) (by decide) rfl (Nat.le_of_ble_eq_true rfl) (fun w14 h15 => ?_)
  obtain ⟨F18, R19, rfl, oF18, oR19, wCF18, cF18, cR19, zx16, hx17⟩ := h15
  have hk20 := k_ls2 hk12 hx17
  have fF18 : g_fr md_X11_keep F F18 := g_fr_c fF11 cF18 rfl
  have fR19 : g_fr mr_X11_keep R R19 := g_fr_c (g_fr_rf R) cR19 rfl
  refine g_aload_n cx 0 rfl e_X11_keep_56 ?_
  refine g_get cx cl_X11 fl_X11_13 0 (.ref (ad 2)) e_X11_keep_57 rfl rfl ?_
  refine g_aload_n cx 0 rfl e_X11_keep_60 ?_
  refine g_get cx cl_X11 fl_X11_134 0 (.ref (ad 42)) e_X11_keep_61 rfl rfl ?_
  refine g_cSvW cx [.ref (ad 2), .ref (ad 42)] [] (w_X11_copies_r2_r42 l X ad F18 R19 oF18 oR19 wCF18) ml_X11_509 yS_X11_copies rfl e_X11_keep_64 (by unfold g_rr; decide) (by decide) rfl (Nat.le_of_ble_eq_true rfl) (fun w22 h23 => ?_)
  obtain ⟨F26, R27, rfl, oF26, oR27, wCF26, cF26, cR27, zx24, hx25⟩ := h23
  have hk28 := k_ls2 hk20 hx25
  have fF26 : g_fr md_X11_keep F F26 := g_fr_c fF18 cF26 rfl
  have fR27 : g_fr mr_X11_keep R R27 := g_fr_c fR19 cR27 rfl
  refine g_aload_n cx 0 rfl e_X11_keep_67 ?_
  refine g_get cx cl_X11 fl_X11_16 0 (.ref (ad 3)) e_X11_keep_68 rfl rfl ?_
  refine g_aload_n cx 0 rfl e_X11_keep_71 ?_
  refine g_get cx cl_X11 fl_X11_137 0 (.ref (ad 43)) e_X11_keep_72 rfl rfl ?_
  refine g_cSvW cx [.ref (ad 3), .ref (ad 43)] [] (w_X11_copies_r3_r43 l X ad F26 R27 oF26 oR27 wCF26) ml_X11_509 yS_X11_copies rfl e_X11_keep_75 (by unfold g_rr; decide) (by decide) rfl (Nat.le_of_ble_eq_true rfl) (fun w30 h31 => ?_)
  obtain ⟨F34, R35, rfl, oF34, oR35, wCF34, cF34, cR35, zx32, hx33⟩ := h31
  have hk36 := k_ls2 hk28 hx33
  have fF34 : g_fr md_X11_keep F F34 := g_fr_c fF26 cF34 rfl
  have fR35 : g_fr mr_X11_keep R R35 := g_fr_c fR27 cR35 rfl
  refine g_aload_n cx 0 rfl e_X11_keep_78 ?_
  refine g_get cx cl_X11 fl_X11_19 0 (.ref (ad 4)) e_X11_keep_79 rfl rfl ?_
  refine g_aload_n cx 0 rfl e_X11_keep_82 ?_
  refine g_get cx cl_X11 fl_X11_140 0 (.ref (ad 44)) e_X11_keep_83 rfl rfl ?_
  refine g_cSvW cx [.ref (ad 4), .ref (ad 44)] [] (w_X11_copies_r4_r44 l X ad F34 R35 oF34 oR35 wCF34) ml_X11_509 yS_X11_copies rfl e_X11_keep_86 (by unfold g_rr; decide) (by decide) rfl (Nat.le_of_ble_eq_true rfl) (fun w38 h39 => ?_)
  obtain ⟨F42, R43, rfl, oF42, oR43, wCF42, cF42, cR43, zx40, hx41⟩ := h39
  have hk44 := k_ls2 hk36 hx41
  have fF42 : g_fr md_X11_keep F F42 := g_fr_c fF34 cF42 rfl
  have fR43 : g_fr mr_X11_keep R R43 := g_fr_c fR35 cR43 rfl
  refine g_aload_n cx 0 rfl e_X11_keep_89 ?_
  refine g_get cx cl_X11 fl_X11_22 0 (.ref (ad 5)) e_X11_keep_90 rfl rfl ?_
  refine g_aload_n cx 0 rfl e_X11_keep_93 ?_
  refine g_get cx cl_X11 fl_X11_143 0 (.ref (ad 45)) e_X11_keep_94 rfl rfl ?_
  refine g_cSvW cx [.ref (ad 5), .ref (ad 45)] [] (w_X11_copies_r5_r45 l X ad F42 R43 oF42 oR43 wCF42) ml_X11_509 yS_X11_copies rfl e_X11_keep_97 (by unfold g_rr; decide) (by decide) rfl (Nat.le_of_ble_eq_true rfl) (fun w46 h47 => ?_)
  obtain ⟨F50, R51, rfl, oF50, oR51, wCF50, cF50, cR51, zx48, hx49⟩ := h47
  have hk52 := k_ls2 hk44 hx49
  have fF50 : g_fr md_X11_keep F F50 := g_fr_c fF42 cF50 rfl
  have fR51 : g_fr mr_X11_keep R R51 := g_fr_c fR43 cR51 rfl
  refine g_aload_n cx 0 rfl e_X11_keep_100 ?_
  refine g_get cx cl_X11 fl_X11_25 0 (.ref (ad 6)) e_X11_keep_101 rfl rfl ?_
  refine g_aload_n cx 0 rfl e_X11_keep_104 ?_
  refine g_get cx cl_X11 fl_X11_146 0 (.ref (ad 46)) e_X11_keep_105 rfl rfl ?_
  refine g_cSvW cx [.ref (ad 6), .ref (ad 46)] [] (w_X11_copies_r6_r46 l X ad F50 R51 oF50 oR51 wCF50) ml_X11_509 yS_X11_copies rfl e_X11_keep_108 (by unfold g_rr; decide) (by decide) rfl (Nat.le_of_ble_eq_true rfl) (fun w54 h55 => ?_)
  obtain ⟨F58, R59, rfl, oF58, oR59, wCF58, cF58, cR59, zx56, hx57⟩ := h55
  have hk60 := k_ls2 hk52 hx57
  have fF58 : g_fr md_X11_keep F F58 := g_fr_c fF50 cF58 rfl
  have fR59 : g_fr mr_X11_keep R R59 := g_fr_c fR51 cR59 rfl
  refine g_aload_n cx 0 rfl e_X11_keep_111 ?_
  refine g_get cx cl_X11 fl_X11_28 0 (.ref (ad 7)) e_X11_keep_112 rfl rfl ?_
  refine g_aload_n cx 0 rfl e_X11_keep_115 ?_
  refine g_get cx cl_X11 fl_X11_149 0 (.ref (ad 47)) e_X11_keep_116 rfl rfl ?_
  refine g_cSvW cx [.ref (ad 7), .ref (ad 47)] [] (w_X11_copies_r7_r47 l X ad F58 R59 oF58 oR59 wCF58) ml_X11_509 yS_X11_copies rfl e_X11_keep_119 (by unfold g_rr; decide) (by decide) rfl (Nat.le_of_ble_eq_true rfl) (fun w62 h63 => ?_)
  obtain ⟨F66, R67, rfl, oF66, oR67, wCF66, cF66, cR67, zx64, hx65⟩ := h63
  have hk68 := k_ls2 hk60 hx65
  have fF66 : g_fr md_X11_keep F F66 := g_fr_c fF58 cF66 rfl
  have fR67 : g_fr mr_X11_keep R R67 := g_fr_c fR59 cR67 rfl
  refine g_aload_n cx 0 rfl e_X11_keep_122 ?_
  refine g_get cx cl_X11 fl_X11_31 0 (.ref (ad 8)) e_X11_keep_123 rfl rfl ?_
  refine g_aload_n cx 0 rfl e_X11_keep_126 ?_
  refine g_get cx cl_X11 fl_X11_152 0 (.ref (ad 48)) e_X11_keep_127 rfl rfl ?_
  refine g_cSvW cx [.ref (ad 8), .ref (ad 48)] [] (w_X11_copies_r8_r48 l X ad F66 R67 oF66 oR67 wCF66) ml_X11_509 yS_X11_copies rfl e_X11_keep_130 (by unfold g_rr; decide) (by decide) rfl (Nat.le_of_ble_eq_true rfl) (fun w70 h71 => ?_)
  obtain ⟨F74, R75, rfl, oF74, oR75, wCF74, cF74, cR75, zx72, hx73⟩ := h71
  have hk76 := k_ls2 hk68 hx73
  have fF74 : g_fr md_X11_keep F F74 := g_fr_c fF66 cF74 rfl
  have fR75 : g_fr mr_X11_keep R R75 := g_fr_c fR67 cR75 rfl
  refine g_aload_n cx 0 rfl e_X11_keep_133 ?_
  refine g_get cx cl_X11 fl_X11_172 0 (.int (F74 4)) e_X11_keep_134 rfl rfl ?_
  refine g_toi (F 4) ((((((((((((((cF74 4 rfl).trans (cF66 4 rfl)).trans (cF58 4 rfl)).trans (cF50 4 rfl)).trans (cF42 4 rfl)).trans (cF34 4 rfl)).trans (cF26 4 rfl)).trans (cF18 4 rfl)).trans (g_pu2 hF11 rfl)).trans (g_pu2 hF9 rfl)).trans (g_pu2 hF7 rfl)).trans (g_pu2 hF5 rfl)).trans (g_pu2 hF3 rfl)).trans (g_pu2 hF1 rfl)) ?_
  refine g_cSiW cx [.int (F 4)] [] (w_X11_bits l X ad F74 R75 oF74 oR75 (F 4)) ml_X11_410 yS_X11_bits rfl e_X11_keep_137 (by unfold g_rr; decide) (by decide) rfl (Nat.le_of_ble_eq_true rfl) (fun r77 w78 h79 => ?_)
  obtain ⟨rfl, pr77, zx80, hx81⟩ := h79
  have hk82 := k_ls hk76 hx81
  exact hret e_X11_keep_140 (Nat.le_of_ble_eq_true rfl) (Nat.le_of_ble_eq_true rfl) rfl ⟨F74, R75, rfl, oF74, oR75, (WT_keep hWT ((((((((((((((cF74 4 rfl).trans (cF66 4 rfl)).trans (cF58 4 rfl)).trans (cF50 4 rfl)).trans (cF42 4 rfl)).trans (cF34 4 rfl)).trans (cF26 4 rfl)).trans (cF18 4 rfl)).trans (g_pu2 hF11 rfl)).trans (g_pu2 hF9 rfl)).trans (g_pu2 hF7 rfl)).trans (g_pu2 hF5 rfl)).trans (g_pu2 hF3 rfl)).trans (g_pu2 hF1 rfl)) (((((((((cF74 82 rfl).trans (cF66 82 rfl)).trans (cF58 82 rfl)).trans (cF50 82 rfl)).trans (cF42 82 rfl)).trans (cF34 82 rfl)).trans (cF26 82 rfl)).trans (cF18 82 rfl)).trans (g_pu1 hF11)) ((((((((cR75 3 rfl).trans (cR67 3 rfl)).trans (cR59 3 rfl)).trans (cR51 3 rfl)).trans (cR43 3 rfl)).trans (cR35 3 rfl)).trans (cR27 3 rfl)).trans (cR19 3 rfl)) ((((((((cR75 5 rfl).trans (cR67 5 rfl)).trans (cR59 5 rfl)).trans (cR51 5 rfl)).trans (cR43 5 rfl)).trans (cR35 5 rfl)).trans (cR27 5 rfl)).trans (cR19 5 rfl)) (fun j hj => (congrFun (((((cR75 43 rfl).trans (cR67 43 rfl)).trans (cR59 43 rfl)).trans (cR51 43 rfl)).trans (cR43 43 rfl)) j).trans ((zx32 j hj).trans (congrFun ((cR27 3 rfl).trans (cR19 3 rfl)) j))) (fun j hj => (congrFun (((cR75 45 rfl).trans (cR67 45 rfl)).trans (cR59 45 rfl)) j).trans ((zx48 j hj).trans (congrFun ((((cR43 5 rfl).trans (cR35 5 rfl)).trans (cR27 5 rfl)).trans (cR19 5 rfl)) j)))), wCF74, fF74, fR75, pr77, (hk82.symm.trans hSP)⟩
def KB_X11_copies_r41_r1_2 (b2 : (Nat → Nat → Int32) → (Int32) → (Nat → Int32) × (Nat → Nat → Int32)) (F : Nat → Int32) (R2 : Nat → Nat → Int32) (y1 : Int32) : (Nat → Int32) × (Nat → Nat → Int32) :=
  if 10 ≤ y1 then (F, R2) else k_lt (R2 41 (Int32.toNatClampNeg y1)) (fun x8 => k_lt (g_u R2 1 (upd (R2 1) (Int32.toNatClampNeg y1) x8)) (fun R10 => k_lt (y1 + 1) (fun x12 => b2 R10 x12)))
def K_X11_copies_r41_r1_2 (F : Nat → Int32) : Nat → (Nat → Nat → Int32) → (Int32) → (Nat → Int32) × (Nat → Nat → Int32)
  | 0 => fun R2 _ => (F, R2)
  | n + 1 => KB_X11_copies_r41_r1_2 (K_X11_copies_r41_r1_2 F n) F
def sp_X11_copies_r41_r1 (F : Nat → Int32) (R : Nat → Nat → Int32) : (Nat → Int32) × (Nat → Nat → Int32) :=
  K_X11_copies_r41_r1_2 F 8589934592 R 0
def md_X11_copies_r41_r1 : List Nat := []
def mr_X11_copies_r41_r1 : List Nat := [1]
set_option maxHeartbeats 4000000 in
set_option maxRecDepth 100000 in
theorem w_X11_copies_r41_r1 (l : Launch) (X : gX) (ad : Nat → Nat) (F : Nat → Int32) (R : Nat → Nat → Int32) (hI : g_ok LK_wM F) (hA : g_okR LA_wM R) (hWC : WC F R) : g_Cv l X yX11_copies cX11_copies 3 1 0 0 [.ref (ad 41), .ref (ad 1)] (wM X ad F R) (fun w => ∃ (F' : Nat → Int32) (R' : Nat → Nat → Int32), w = wM X ad F' R' ∧ g_ok LK_wM F' ∧ g_okR LA_wM R' ∧ WC F' R' ∧ g_fr md_X11_copies_r41_r1 F F' ∧ g_fr mr_X11_copies_r41_r1 R R' ∧ (∀ j : Nat, j < 10 → R' 1 j = R 41 j) ∧ (F', R') = sp_X11_copies_r41_r1 F R) := by
  refine g_mv (by decide +kernel) (Nat.le_of_ble_eq_true rfl) (fun E cx hret => ?_)
  obtain ⟨SP, hSP⟩ : ∃ z, z = sp_X11_copies_r41_r1 F R := ⟨_, rfl⟩
  have hk0 := hSP
  unfold sp_X11_copies_r41_r1 at hk0
  refine g_iconst cx 0 (by decide) e_X11_copies_0 ?_
  refine g_istore_n cx [(2, .int 0), (0, .ref (ad 41)), (1, .ref (ad 1))] e_X11_copies_1 (by decide) rfl ?_
  have J2 : ∀ (N : Nat) (R2 : Nat → Nat → Int32) (y1 : Int32), (g_okR LA_wM R2) → (g_fr mr_X11_copies_r41_r1 R R2) → (WC F R2) → (jv 0 10 y1) → (∀ j : Nat, (j : Int) < y1.toInt → R2 1 j = R 41 j) → (SP = K_X11_copies_r41_r1_2 F N R2 y1) → (2147483647 - y1.toInt).toNat < N → G X E 3 0 0 (wM X ad F R2) [(0, .ref (ad 41)), (1, .ref (ad 1)), (2, .int y1)] 2 [] := by
    intro N
    induction N with
    | zero => intro R2 y1 oR2 fR2 wCR2 py1 zq2_0 hkJ2 hm; exact absurd hm (Nat.not_lt_zero _)
    | succ N ih2 =>
      intro R2 y1 oR2 fR2 wCR2 py1 zq2_0 hkJ2 hm2
      have hkK2 : SP = KB_X11_copies_r41_r1_2 (K_X11_copies_r41_r1_2 F N) F R2 y1 := hkJ2
      obtain ⟨b2, hb2⟩ : ∃ z, z = K_X11_copies_r41_r1_2 F N := ⟨_, rfl⟩
      rw [← hb2] at hkK2
      unfold KB_X11_copies_r41_r1_2 at hkK2
      refine g_iload_n cx 2 rfl e_X11_copies_2 ?_
      refine g_bipush cx 10 (by decide) e_X11_copies_3 ?_
      refine g_icmp_ge cx 20 e_X11_copies_5 (by decide) (fun zc3 => ?_) (fun zc3 => ?_)
      · have p4 := gn_ge 10 10 (gc_le zc3) py1 (jv_k (x := 10) 10 (by decide)) (by decide)
        have hk5 := hkK2.trans (if_pos zc3)
        exact hret e_X11_copies_20 (Nat.le_of_ble_eq_true rfl) (Nat.le_of_ble_eq_true rfl) ⟨F, R2, rfl, hI, oR2, wCR2, (g_fr_rf F), fR2, (fun j hj => zq2_0 j (by have q := p4; unfold jv at q; omega)), (hk5.symm.trans hSP)⟩
      · have p6 := gn_lt 0 9 (gc_nle zc3) py1 (jv_k (x := 10) 10 (by decide)) (by decide)
        have hk7 := hkK2.trans (if_neg zc3)
        refine g_aload_n cx 1 rfl e_X11_copies_8 ?_
        refine g_iload_n cx 2 rfl e_X11_copies_9 ?_
        refine g_aload_n cx 0 rfl e_X11_copies_10 ?_
        refine g_iload_n cx 2 rfl e_X11_copies_11 ?_
        refine g_iald cx 41 e_X11_copies_12 rfl (jv_ix 10 p6 (by decide)) ?_
        refine g_topi (fun x8 ex8 => ?_)
        have hk9 := k_ls hk7 ex8
        refine g_iast cx 1 (wM X ad F (g_u R2 1 (upd (R2 1) (Int32.toNatClampNeg y1) x8))) e_X11_copies_13 rfl (jv_ix 10 p6 (by decide)) rfl ?_
        obtain ⟨R10, hR10⟩ : ∃ z, z = g_u R2 1 (upd (R2 1) (Int32.toNatClampNeg y1) x8) := ⟨_, rfl⟩
        rw [← hR10]
        have hk11 := k_ls hk9 hR10
        have oR10 : g_okR LA_wM R10 := by rw [hR10]; exact g_okR_u oR2 rfl
        have fR10 : g_fr mr_X11_copies_r41_r1 R R10 := by rw [hR10]; exact g_fr_r fR2 rfl
        have wCR10 : WC F R10 := by rw [hR10]; exact WC_r wCR2 rfl
        obtain ⟨x12, ex12⟩ : ∃ z : Int32, z = y1 + Int32.ofInt 1 := ⟨_, rfl⟩
        have hk13 := k_ls hk11 (show x12 = y1 + 1 from ex12)
        refine g_iinc cx x12 [(2, .int x12), (0, .ref (ad 41)), (1, .ref (ad 1))] 2 e_X11_copies_14 rfl ex12.symm (by decide) rfl ?_
        have zx12 := jv_add 1 10 (show x12 = y1 + 1 from ex12) p6 (jv_k (x := 1) 1 (by decide)) (by decide)
        refine g_goto cx 2 e_X11_copies_17 (by decide) ?_
        refine g_lsub [1, 2, 0] [(0, .ref (ad 41)), (1, .ref (ad 1)), (2, .int x12)] rfl ?_
        exact ih2 R10 x12 oR10 fR10 wCR10 (jv_w zx12.2 (by decide)) (g_cp1 (g := R 41) zq2_0 p6 ((g_ru1 hR10).trans (by rw [ex8, show R2 41 = R 41 from (fR2 41 rfl)])) (g_eq0 zx12.1)) (hk13.trans (by rw [hb2])) (Nat.lt_of_lt_of_le (show (2147483647 - x12.toInt).toNat < (2147483647 - y1.toInt).toNat from by have q0 := (jv_k (x := 1) 1 (by decide)).1; have q1 := (jv_k (x := 1) 1 (by decide)).2; have q2 := (jv_k (x := 10) 10 (by decide)).1; have q3 := (jv_k (x := 10) 10 (by decide)).2; have q4 := zx12.2.1; have q5 := zx12.2.2; have q6 := p6.1; have q7 := p6.2; have q8 := (gc_nle zc3); have q9 := (g_eq0 zx12.1); omega) (Nat.le_of_lt_succ hm2))
  refine g_lsub [1, 2, 0] [(0, .ref (ad 41)), (1, .ref (ad 1)), (2, .int 0)] rfl ?_
  exact J2 8589934592 R 0 hA (g_fr_rf R) hWC (jv_w (jv_k (x := 0) 0 (by decide)) (by decide)) (fun j hj => absurd hj (by have := Int.natCast_nonneg j; have e : (0 : Int32).toInt = 0 := rfl; omega)) hk0 (show (2147483647 - (0 : Int32).toInt).toNat < 8589934592 from by have q0 := (jv_k (x := 0) 0 (by decide)).1; have q1 := (jv_k (x := 0) 0 (by decide)).2; omega)
def KB_X11_copies_r42_r2_2 (b2 : (Nat → Nat → Int32) → (Int32) → (Nat → Int32) × (Nat → Nat → Int32)) (F : Nat → Int32) (R2 : Nat → Nat → Int32) (y1 : Int32) : (Nat → Int32) × (Nat → Nat → Int32) :=
  if 10 ≤ y1 then (F, R2) else k_lt (R2 42 (Int32.toNatClampNeg y1)) (fun x8 => k_lt (g_u R2 2 (upd (R2 2) (Int32.toNatClampNeg y1) x8)) (fun R10 => k_lt (y1 + 1) (fun x12 => b2 R10 x12)))
def K_X11_copies_r42_r2_2 (F : Nat → Int32) : Nat → (Nat → Nat → Int32) → (Int32) → (Nat → Int32) × (Nat → Nat → Int32)
  | 0 => fun R2 _ => (F, R2)
  | n + 1 => KB_X11_copies_r42_r2_2 (K_X11_copies_r42_r2_2 F n) F
def sp_X11_copies_r42_r2 (F : Nat → Int32) (R : Nat → Nat → Int32) : (Nat → Int32) × (Nat → Nat → Int32) :=
  K_X11_copies_r42_r2_2 F 8589934592 R 0
def md_X11_copies_r42_r2 : List Nat := []
def mr_X11_copies_r42_r2 : List Nat := [2]
set_option maxHeartbeats 4000000 in
set_option maxRecDepth 100000 in
theorem w_X11_copies_r42_r2 (l : Launch) (X : gX) (ad : Nat → Nat) (F : Nat → Int32) (R : Nat → Nat → Int32) (hI : g_ok LK_wM F) (hA : g_okR LA_wM R) (hWC : WC F R) : g_Cv l X yX11_copies cX11_copies 3 1 0 0 [.ref (ad 42), .ref (ad 2)] (wM X ad F R) (fun w => ∃ (F' : Nat → Int32) (R' : Nat → Nat → Int32), w = wM X ad F' R' ∧ g_ok LK_wM F' ∧ g_okR LA_wM R' ∧ WC F' R' ∧ g_fr md_X11_copies_r42_r2 F F' ∧ g_fr mr_X11_copies_r42_r2 R R' ∧ (∀ j : Nat, j < 10 → R' 2 j = R 42 j) ∧ (F', R') = sp_X11_copies_r42_r2 F R) := by
  refine g_mv (by decide +kernel) (Nat.le_of_ble_eq_true rfl) (fun E cx hret => ?_)
  obtain ⟨SP, hSP⟩ : ∃ z, z = sp_X11_copies_r42_r2 F R := ⟨_, rfl⟩
  have hk0 := hSP
  unfold sp_X11_copies_r42_r2 at hk0
  refine g_iconst cx 0 (by decide) e_X11_copies_0 ?_
  refine g_istore_n cx [(2, .int 0), (0, .ref (ad 42)), (1, .ref (ad 2))] e_X11_copies_1 (by decide) rfl ?_
  have J2 : ∀ (N : Nat) (R2 : Nat → Nat → Int32) (y1 : Int32), (g_okR LA_wM R2) → (g_fr mr_X11_copies_r42_r2 R R2) → (WC F R2) → (jv 0 10 y1) → (∀ j : Nat, (j : Int) < y1.toInt → R2 2 j = R 42 j) → (SP = K_X11_copies_r42_r2_2 F N R2 y1) → (2147483647 - y1.toInt).toNat < N → G X E 3 0 0 (wM X ad F R2) [(0, .ref (ad 42)), (1, .ref (ad 2)), (2, .int y1)] 2 [] := by
    intro N
    induction N with
    | zero => intro R2 y1 oR2 fR2 wCR2 py1 zq2_0 hkJ2 hm; exact absurd hm (Nat.not_lt_zero _)
    | succ N ih2 =>
      intro R2 y1 oR2 fR2 wCR2 py1 zq2_0 hkJ2 hm2
      have hkK2 : SP = KB_X11_copies_r42_r2_2 (K_X11_copies_r42_r2_2 F N) F R2 y1 := hkJ2
      obtain ⟨b2, hb2⟩ : ∃ z, z = K_X11_copies_r42_r2_2 F N := ⟨_, rfl⟩
      rw [← hb2] at hkK2
      unfold KB_X11_copies_r42_r2_2 at hkK2
      refine g_iload_n cx 2 rfl e_X11_copies_2 ?_
      refine g_bipush cx 10 (by decide) e_X11_copies_3 ?_
      refine g_icmp_ge cx 20 e_X11_copies_5 (by decide) (fun zc3 => ?_) (fun zc3 => ?_)
      · have p4 := gn_ge 10 10 (gc_le zc3) py1 (jv_k (x := 10) 10 (by decide)) (by decide)
        have hk5 := hkK2.trans (if_pos zc3)
        exact hret e_X11_copies_20 (Nat.le_of_ble_eq_true rfl) (Nat.le_of_ble_eq_true rfl) ⟨F, R2, rfl, hI, oR2, wCR2, (g_fr_rf F), fR2, (fun j hj => zq2_0 j (by have q := p4; unfold jv at q; omega)), (hk5.symm.trans hSP)⟩
      · have p6 := gn_lt 0 9 (gc_nle zc3) py1 (jv_k (x := 10) 10 (by decide)) (by decide)
        have hk7 := hkK2.trans (if_neg zc3)
        refine g_aload_n cx 1 rfl e_X11_copies_8 ?_
        refine g_iload_n cx 2 rfl e_X11_copies_9 ?_
        refine g_aload_n cx 0 rfl e_X11_copies_10 ?_
        refine g_iload_n cx 2 rfl e_X11_copies_11 ?_
        refine g_iald cx 42 e_X11_copies_12 rfl (jv_ix 10 p6 (by decide)) ?_
        refine g_topi (fun x8 ex8 => ?_)
        have hk9 := k_ls hk7 ex8
        refine g_iast cx 2 (wM X ad F (g_u R2 2 (upd (R2 2) (Int32.toNatClampNeg y1) x8))) e_X11_copies_13 rfl (jv_ix 10 p6 (by decide)) rfl ?_
        obtain ⟨R10, hR10⟩ : ∃ z, z = g_u R2 2 (upd (R2 2) (Int32.toNatClampNeg y1) x8) := ⟨_, rfl⟩
        rw [← hR10]
        have hk11 := k_ls hk9 hR10
        have oR10 : g_okR LA_wM R10 := by rw [hR10]; exact g_okR_u oR2 rfl
        have fR10 : g_fr mr_X11_copies_r42_r2 R R10 := by rw [hR10]; exact g_fr_r fR2 rfl
        have wCR10 : WC F R10 := by rw [hR10]; exact WC_r wCR2 rfl
        obtain ⟨x12, ex12⟩ : ∃ z : Int32, z = y1 + Int32.ofInt 1 := ⟨_, rfl⟩
        have hk13 := k_ls hk11 (show x12 = y1 + 1 from ex12)
        refine g_iinc cx x12 [(2, .int x12), (0, .ref (ad 42)), (1, .ref (ad 2))] 2 e_X11_copies_14 rfl ex12.symm (by decide) rfl ?_
        have zx12 := jv_add 1 10 (show x12 = y1 + 1 from ex12) p6 (jv_k (x := 1) 1 (by decide)) (by decide)
        refine g_goto cx 2 e_X11_copies_17 (by decide) ?_
        refine g_lsub [1, 2, 0] [(0, .ref (ad 42)), (1, .ref (ad 2)), (2, .int x12)] rfl ?_
        exact ih2 R10 x12 oR10 fR10 wCR10 (jv_w zx12.2 (by decide)) (g_cp1 (g := R 42) zq2_0 p6 ((g_ru1 hR10).trans (by rw [ex8, show R2 42 = R 42 from (fR2 42 rfl)])) (g_eq0 zx12.1)) (hk13.trans (by rw [hb2])) (Nat.lt_of_lt_of_le (show (2147483647 - x12.toInt).toNat < (2147483647 - y1.toInt).toNat from by have q0 := (jv_k (x := 1) 1 (by decide)).1; have q1 := (jv_k (x := 1) 1 (by decide)).2; have q2 := (jv_k (x := 10) 10 (by decide)).1; have q3 := (jv_k (x := 10) 10 (by decide)).2; have q4 := zx12.2.1; have q5 := zx12.2.2; have q6 := p6.1; have q7 := p6.2; have q8 := (gc_nle zc3); have q9 := (g_eq0 zx12.1); omega) (Nat.le_of_lt_succ hm2))
  refine g_lsub [1, 2, 0] [(0, .ref (ad 42)), (1, .ref (ad 2)), (2, .int 0)] rfl ?_
  exact J2 8589934592 R 0 hA (g_fr_rf R) hWC (jv_w (jv_k (x := 0) 0 (by decide)) (by decide)) (fun j hj => absurd hj (by have := Int.natCast_nonneg j; have e : (0 : Int32).toInt = 0 := rfl; omega)) hk0 (show (2147483647 - (0 : Int32).toInt).toNat < 8589934592 from by have q0 := (jv_k (x := 0) 0 (by decide)).1; have q1 := (jv_k (x := 0) 0 (by decide)).2; omega)
def KB_X11_copies_r43_r3_2 (b2 : (Nat → Nat → Int32) → (Int32) → (Nat → Int32) × (Nat → Nat → Int32)) (F : Nat → Int32) (R2 : Nat → Nat → Int32) (y1 : Int32) : (Nat → Int32) × (Nat → Nat → Int32) :=
  if 10 ≤ y1 then (F, R2) else k_lt (R2 43 (Int32.toNatClampNeg y1)) (fun x8 => k_lt (g_u R2 3 (upd (R2 3) (Int32.toNatClampNeg y1) x8)) (fun R11 => k_lt (y1 + 1) (fun x13 => b2 R11 x13)))
def K_X11_copies_r43_r3_2 (F : Nat → Int32) : Nat → (Nat → Nat → Int32) → (Int32) → (Nat → Int32) × (Nat → Nat → Int32)
  | 0 => fun R2 _ => (F, R2)
  | n + 1 => KB_X11_copies_r43_r3_2 (K_X11_copies_r43_r3_2 F n) F
def sp_X11_copies_r43_r3 (F : Nat → Int32) (R : Nat → Nat → Int32) : (Nat → Int32) × (Nat → Nat → Int32) :=
  K_X11_copies_r43_r3_2 F 8589934592 R 0
def md_X11_copies_r43_r3 : List Nat := []
def mr_X11_copies_r43_r3 : List Nat := [3]
set_option maxHeartbeats 4000000 in
set_option maxRecDepth 100000 in
theorem w_X11_copies_r43_r3 (l : Launch) (X : gX) (ad : Nat → Nat) (F : Nat → Int32) (R : Nat → Nat → Int32) (hI : g_ok LK_wM F) (hA : g_okR LA_wM R) (hWC : WC F R) : g_Cv l X yX11_copies cX11_copies 3 1 0 0 [.ref (ad 43), .ref (ad 3)] (wM X ad F R) (fun w => ∃ (F' : Nat → Int32) (R' : Nat → Nat → Int32), w = wM X ad F' R' ∧ g_ok LK_wM F' ∧ g_okR LA_wM R' ∧ WC F' R' ∧ g_fr md_X11_copies_r43_r3 F F' ∧ g_fr mr_X11_copies_r43_r3 R R' ∧ (∀ j : Nat, j < 10 → R' 3 j = R 43 j) ∧ (F', R') = sp_X11_copies_r43_r3 F R) := by
  refine g_mv (by decide +kernel) (Nat.le_of_ble_eq_true rfl) (fun E cx hret => ?_)
  obtain ⟨SP, hSP⟩ : ∃ z, z = sp_X11_copies_r43_r3 F R := ⟨_, rfl⟩
  have hk0 := hSP
  unfold sp_X11_copies_r43_r3 at hk0
  refine g_iconst cx 0 (by decide) e_X11_copies_0 ?_
  refine g_istore_n cx [(2, .int 0), (0, .ref (ad 43)), (1, .ref (ad 3))] e_X11_copies_1 (by decide) rfl ?_
  have J2 : ∀ (N : Nat) (R2 : Nat → Nat → Int32) (y1 : Int32), (g_okR LA_wM R2) → (g_fr mr_X11_copies_r43_r3 R R2) → (WC F R2) → (jv 0 10 y1) → (∀ j : Nat, (j : Int) < y1.toInt → R2 3 j = R 43 j) → (SP = K_X11_copies_r43_r3_2 F N R2 y1) → (2147483647 - y1.toInt).toNat < N → G X E 3 0 0 (wM X ad F R2) [(0, .ref (ad 43)), (1, .ref (ad 3)), (2, .int y1)] 2 [] := by
    intro N
    induction N with
    | zero => intro R2 y1 oR2 fR2 wCR2 py1 zq2_0 hkJ2 hm; exact absurd hm (Nat.not_lt_zero _)
    | succ N ih2 =>
      intro R2 y1 oR2 fR2 wCR2 py1 zq2_0 hkJ2 hm2
      have hkK2 : SP = KB_X11_copies_r43_r3_2 (K_X11_copies_r43_r3_2 F N) F R2 y1 := hkJ2
      obtain ⟨b2, hb2⟩ : ∃ z, z = K_X11_copies_r43_r3_2 F N := ⟨_, rfl⟩
      rw [← hb2] at hkK2
      unfold KB_X11_copies_r43_r3_2 at hkK2
      refine g_iload_n cx 2 rfl e_X11_copies_2 ?_
      refine g_bipush cx 10 (by decide) e_X11_copies_3 ?_
      refine g_icmp_ge cx 20 e_X11_copies_5 (by decide) (fun zc3 => ?_) (fun zc3 => ?_)
      · have p4 := gn_ge 10 10 (gc_le zc3) py1 (jv_k (x := 10) 10 (by decide)) (by decide)
        have hk5 := hkK2.trans (if_pos zc3)
        exact hret e_X11_copies_20 (Nat.le_of_ble_eq_true rfl) (Nat.le_of_ble_eq_true rfl) ⟨F, R2, rfl, hI, oR2, wCR2, (g_fr_rf F), fR2, (fun j hj => zq2_0 j (by have q := p4; unfold jv at q; omega)), (hk5.symm.trans hSP)⟩
      · have p6 := gn_lt 0 9 (gc_nle zc3) py1 (jv_k (x := 10) 10 (by decide)) (by decide)
        have hk7 := hkK2.trans (if_neg zc3)
        refine g_aload_n cx 1 rfl e_X11_copies_8 ?_
        refine g_iload_n cx 2 rfl e_X11_copies_9 ?_
        refine g_aload_n cx 0 rfl e_X11_copies_10 ?_
        refine g_iload_n cx 2 rfl e_X11_copies_11 ?_
        refine g_iald cx 43 e_X11_copies_12 rfl (jv_ix 10 p6 (by decide)) ?_
        refine g_topi (fun x8 ex8 => ?_)
        have hk9 := k_ls hk7 ex8
        have p10 : jv 0 40 x8 := by rw [ex8]; exact g_okR_g oR2 8 rfl (jv_cl 10 p6 (by decide))
        refine g_iast cx 3 (wM X ad F (g_u R2 3 (upd (R2 3) (Int32.toNatClampNeg y1) x8))) e_X11_copies_13 rfl (jv_ix 10 p6 (by decide)) rfl ?_
        obtain ⟨R11, hR11⟩ : ∃ z, z = g_u R2 3 (upd (R2 3) (Int32.toNatClampNeg y1) x8) := ⟨_, rfl⟩
        rw [← hR11]
        have hk12 := k_ls hk9 hR11
        have oR11 : g_okR LA_wM R11 := by rw [hR11]; exact g_okR_p oR2 p10 rfl
        have fR11 : g_fr mr_X11_copies_r43_r3 R R11 := by rw [hR11]; exact g_fr_r fR2 rfl
        have wCR11 : WC F R11 := by rw [hR11]; exact WC_r wCR2 rfl
        obtain ⟨x13, ex13⟩ : ∃ z : Int32, z = y1 + Int32.ofInt 1 := ⟨_, rfl⟩
        have hk14 := k_ls hk12 (show x13 = y1 + 1 from ex13)
        refine g_iinc cx x13 [(2, .int x13), (0, .ref (ad 43)), (1, .ref (ad 3))] 2 e_X11_copies_14 rfl ex13.symm (by decide) rfl ?_
        have zx13 := jv_add 1 10 (show x13 = y1 + 1 from ex13) p6 (jv_k (x := 1) 1 (by decide)) (by decide)
        refine g_goto cx 2 e_X11_copies_17 (by decide) ?_
        refine g_lsub [1, 2, 0] [(0, .ref (ad 43)), (1, .ref (ad 3)), (2, .int x13)] rfl ?_
        exact ih2 R11 x13 oR11 fR11 wCR11 (jv_w zx13.2 (by decide)) (g_cp1 (g := R 43) zq2_0 p6 ((g_ru1 hR11).trans (by rw [ex8, show R2 43 = R 43 from (fR2 43 rfl)])) (g_eq0 zx13.1)) (hk14.trans (by rw [hb2])) (Nat.lt_of_lt_of_le (show (2147483647 - x13.toInt).toNat < (2147483647 - y1.toInt).toNat from by have q0 := (jv_k (x := 1) 1 (by decide)).1; have q1 := (jv_k (x := 1) 1 (by decide)).2; have q2 := (jv_k (x := 10) 10 (by decide)).1; have q3 := (jv_k (x := 10) 10 (by decide)).2; have q4 := zx13.2.1; have q5 := zx13.2.2; have q6 := p6.1; have q7 := p6.2; have q8 := (gc_nle zc3); have q9 := (g_eq0 zx13.1); omega) (Nat.le_of_lt_succ hm2))
  refine g_lsub [1, 2, 0] [(0, .ref (ad 43)), (1, .ref (ad 3)), (2, .int 0)] rfl ?_
  exact J2 8589934592 R 0 hA (g_fr_rf R) hWC (jv_w (jv_k (x := 0) 0 (by decide)) (by decide)) (fun j hj => absurd hj (by have := Int.natCast_nonneg j; have e : (0 : Int32).toInt = 0 := rfl; omega)) hk0 (show (2147483647 - (0 : Int32).toInt).toNat < 8589934592 from by have q0 := (jv_k (x := 0) 0 (by decide)).1; have q1 := (jv_k (x := 0) 0 (by decide)).2; omega)
def KB_X11_copies_r44_r4_2 (b2 : (Nat → Nat → Int32) → (Int32) → (Nat → Int32) × (Nat → Nat → Int32)) (F : Nat → Int32) (R2 : Nat → Nat → Int32) (y1 : Int32) : (Nat → Int32) × (Nat → Nat → Int32) :=
  if 10 ≤ y1 then (F, R2) else k_lt (R2 44 (Int32.toNatClampNeg y1)) (fun x8 => k_lt (g_u R2 4 (upd (R2 4) (Int32.toNatClampNeg y1) x8)) (fun R10 => k_lt (y1 + 1) (fun x12 => b2 R10 x12)))
def K_X11_copies_r44_r4_2 (F : Nat → Int32) : Nat → (Nat → Nat → Int32) → (Int32) → (Nat → Int32) × (Nat → Nat → Int32)
  | 0 => fun R2 _ => (F, R2)
  | n + 1 => KB_X11_copies_r44_r4_2 (K_X11_copies_r44_r4_2 F n) F
def sp_X11_copies_r44_r4 (F : Nat → Int32) (R : Nat → Nat → Int32) : (Nat → Int32) × (Nat → Nat → Int32) :=
  K_X11_copies_r44_r4_2 F 8589934592 R 0
def md_X11_copies_r44_r4 : List Nat := []
def mr_X11_copies_r44_r4 : List Nat := [4]
set_option maxHeartbeats 4000000 in
set_option maxRecDepth 100000 in
theorem w_X11_copies_r44_r4 (l : Launch) (X : gX) (ad : Nat → Nat) (F : Nat → Int32) (R : Nat → Nat → Int32) (hI : g_ok LK_wM F) (hA : g_okR LA_wM R) (hWC : WC F R) : g_Cv l X yX11_copies cX11_copies 3 1 0 0 [.ref (ad 44), .ref (ad 4)] (wM X ad F R) (fun w => ∃ (F' : Nat → Int32) (R' : Nat → Nat → Int32), w = wM X ad F' R' ∧ g_ok LK_wM F' ∧ g_okR LA_wM R' ∧ WC F' R' ∧ g_fr md_X11_copies_r44_r4 F F' ∧ g_fr mr_X11_copies_r44_r4 R R' ∧ (∀ j : Nat, j < 10 → R' 4 j = R 44 j) ∧ (F', R') = sp_X11_copies_r44_r4 F R) := by
  refine g_mv (by decide +kernel) (Nat.le_of_ble_eq_true rfl) (fun E cx hret => ?_)
  obtain ⟨SP, hSP⟩ : ∃ z, z = sp_X11_copies_r44_r4 F R := ⟨_, rfl⟩
  have hk0 := hSP
  unfold sp_X11_copies_r44_r4 at hk0
  refine g_iconst cx 0 (by decide) e_X11_copies_0 ?_
  refine g_istore_n cx [(2, .int 0), (0, .ref (ad 44)), (1, .ref (ad 4))] e_X11_copies_1 (by decide) rfl ?_
  have J2 : ∀ (N : Nat) (R2 : Nat → Nat → Int32) (y1 : Int32), (g_okR LA_wM R2) → (g_fr mr_X11_copies_r44_r4 R R2) → (WC F R2) → (jv 0 10 y1) → (∀ j : Nat, (j : Int) < y1.toInt → R2 4 j = R 44 j) → (SP = K_X11_copies_r44_r4_2 F N R2 y1) → (2147483647 - y1.toInt).toNat < N → G X E 3 0 0 (wM X ad F R2) [(0, .ref (ad 44)), (1, .ref (ad 4)), (2, .int y1)] 2 [] := by
    intro N
    induction N with
    | zero => intro R2 y1 oR2 fR2 wCR2 py1 zq2_0 hkJ2 hm; exact absurd hm (Nat.not_lt_zero _)
    | succ N ih2 =>
      intro R2 y1 oR2 fR2 wCR2 py1 zq2_0 hkJ2 hm2
      have hkK2 : SP = KB_X11_copies_r44_r4_2 (K_X11_copies_r44_r4_2 F N) F R2 y1 := hkJ2
      obtain ⟨b2, hb2⟩ : ∃ z, z = K_X11_copies_r44_r4_2 F N := ⟨_, rfl⟩
      rw [← hb2] at hkK2
      unfold KB_X11_copies_r44_r4_2 at hkK2
      refine g_iload_n cx 2 rfl e_X11_copies_2 ?_
      refine g_bipush cx 10 (by decide) e_X11_copies_3 ?_
      refine g_icmp_ge cx 20 e_X11_copies_5 (by decide) (fun zc3 => ?_) (fun zc3 => ?_)
      · have p4 := gn_ge 10 10 (gc_le zc3) py1 (jv_k (x := 10) 10 (by decide)) (by decide)
        have hk5 := hkK2.trans (if_pos zc3)
        exact hret e_X11_copies_20 (Nat.le_of_ble_eq_true rfl) (Nat.le_of_ble_eq_true rfl) ⟨F, R2, rfl, hI, oR2, wCR2, (g_fr_rf F), fR2, (fun j hj => zq2_0 j (by have q := p4; unfold jv at q; omega)), (hk5.symm.trans hSP)⟩
      · have p6 := gn_lt 0 9 (gc_nle zc3) py1 (jv_k (x := 10) 10 (by decide)) (by decide)
        have hk7 := hkK2.trans (if_neg zc3)
        refine g_aload_n cx 1 rfl e_X11_copies_8 ?_
        refine g_iload_n cx 2 rfl e_X11_copies_9 ?_
        refine g_aload_n cx 0 rfl e_X11_copies_10 ?_
        refine g_iload_n cx 2 rfl e_X11_copies_11 ?_
        refine g_iald cx 44 e_X11_copies_12 rfl (jv_ix 10 p6 (by decide)) ?_
        refine g_topi (fun x8 ex8 => ?_)
        have hk9 := k_ls hk7 ex8
        refine g_iast cx 4 (wM X ad F (g_u R2 4 (upd (R2 4) (Int32.toNatClampNeg y1) x8))) e_X11_copies_13 rfl (jv_ix 10 p6 (by decide)) rfl ?_
        obtain ⟨R10, hR10⟩ : ∃ z, z = g_u R2 4 (upd (R2 4) (Int32.toNatClampNeg y1) x8) := ⟨_, rfl⟩
        rw [← hR10]
        have hk11 := k_ls hk9 hR10
        have oR10 : g_okR LA_wM R10 := by rw [hR10]; exact g_okR_u oR2 rfl
        have fR10 : g_fr mr_X11_copies_r44_r4 R R10 := by rw [hR10]; exact g_fr_r fR2 rfl
        have wCR10 : WC F R10 := by rw [hR10]; exact WC_r wCR2 rfl
        obtain ⟨x12, ex12⟩ : ∃ z : Int32, z = y1 + Int32.ofInt 1 := ⟨_, rfl⟩
        have hk13 := k_ls hk11 (show x12 = y1 + 1 from ex12)
        refine g_iinc cx x12 [(2, .int x12), (0, .ref (ad 44)), (1, .ref (ad 4))] 2 e_X11_copies_14 rfl ex12.symm (by decide) rfl ?_
        have zx12 := jv_add 1 10 (show x12 = y1 + 1 from ex12) p6 (jv_k (x := 1) 1 (by decide)) (by decide)
        refine g_goto cx 2 e_X11_copies_17 (by decide) ?_
        refine g_lsub [1, 2, 0] [(0, .ref (ad 44)), (1, .ref (ad 4)), (2, .int x12)] rfl ?_
        exact ih2 R10 x12 oR10 fR10 wCR10 (jv_w zx12.2 (by decide)) (g_cp1 (g := R 44) zq2_0 p6 ((g_ru1 hR10).trans (by rw [ex8, show R2 44 = R 44 from (fR2 44 rfl)])) (g_eq0 zx12.1)) (hk13.trans (by rw [hb2])) (Nat.lt_of_lt_of_le (show (2147483647 - x12.toInt).toNat < (2147483647 - y1.toInt).toNat from by have q0 := (jv_k (x := 1) 1 (by decide)).1; have q1 := (jv_k (x := 1) 1 (by decide)).2; have q2 := (jv_k (x := 10) 10 (by decide)).1; have q3 := (jv_k (x := 10) 10 (by decide)).2; have q4 := zx12.2.1; have q5 := zx12.2.2; have q6 := p6.1; have q7 := p6.2; have q8 := (gc_nle zc3); have q9 := (g_eq0 zx12.1); omega) (Nat.le_of_lt_succ hm2))
  refine g_lsub [1, 2, 0] [(0, .ref (ad 44)), (1, .ref (ad 4)), (2, .int 0)] rfl ?_
  exact J2 8589934592 R 0 hA (g_fr_rf R) hWC (jv_w (jv_k (x := 0) 0 (by decide)) (by decide)) (fun j hj => absurd hj (by have := Int.natCast_nonneg j; have e : (0 : Int32).toInt = 0 := rfl; omega)) hk0 (show (2147483647 - (0 : Int32).toInt).toNat < 8589934592 from by have q0 := (jv_k (x := 0) 0 (by decide)).1; have q1 := (jv_k (x := 0) 0 (by decide)).2; omega)
def KB_X11_copies_r45_r5_2 (b2 : (Nat → Nat → Int32) → (Int32) → (Nat → Int32) × (Nat → Nat → Int32)) (F : Nat → Int32) (R2 : Nat → Nat → Int32) (y1 : Int32) : (Nat → Int32) × (Nat → Nat → Int32) :=
  if 10 ≤ y1 then (F, R2) else k_lt (R2 45 (Int32.toNatClampNeg y1)) (fun x8 => k_lt (g_u R2 5 (upd (R2 5) (Int32.toNatClampNeg y1) x8)) (fun R11 => k_lt (y1 + 1) (fun x13 => b2 R11 x13)))
def K_X11_copies_r45_r5_2 (F : Nat → Int32) : Nat → (Nat → Nat → Int32) → (Int32) → (Nat → Int32) × (Nat → Nat → Int32)
  | 0 => fun R2 _ => (F, R2)
  | n + 1 => KB_X11_copies_r45_r5_2 (K_X11_copies_r45_r5_2 F n) F
def sp_X11_copies_r45_r5 (F : Nat → Int32) (R : Nat → Nat → Int32) : (Nat → Int32) × (Nat → Nat → Int32) :=
  K_X11_copies_r45_r5_2 F 8589934592 R 0
def md_X11_copies_r45_r5 : List Nat := []
def mr_X11_copies_r45_r5 : List Nat := [5]
set_option maxHeartbeats 4000000 in
set_option maxRecDepth 100000 in
theorem w_X11_copies_r45_r5 (l : Launch) (X : gX) (ad : Nat → Nat) (F : Nat → Int32) (R : Nat → Nat → Int32) (hI : g_ok LK_wM F) (hA : g_okR LA_wM R) (hWC : WC F R) : g_Cv l X yX11_copies cX11_copies 3 1 0 0 [.ref (ad 45), .ref (ad 5)] (wM X ad F R) (fun w => ∃ (F' : Nat → Int32) (R' : Nat → Nat → Int32), w = wM X ad F' R' ∧ g_ok LK_wM F' ∧ g_okR LA_wM R' ∧ WC F' R' ∧ g_fr md_X11_copies_r45_r5 F F' ∧ g_fr mr_X11_copies_r45_r5 R R' ∧ (∀ j : Nat, j < 10 → R' 5 j = R 45 j) ∧ (F', R') = sp_X11_copies_r45_r5 F R) := by
  refine g_mv (by decide +kernel) (Nat.le_of_ble_eq_true rfl) (fun E cx hret => ?_)
  obtain ⟨SP, hSP⟩ : ∃ z, z = sp_X11_copies_r45_r5 F R := ⟨_, rfl⟩
  have hk0 := hSP
  unfold sp_X11_copies_r45_r5 at hk0
  refine g_iconst cx 0 (by decide) e_X11_copies_0 ?_
  refine g_istore_n cx [(2, .int 0), (0, .ref (ad 45)), (1, .ref (ad 5))] e_X11_copies_1 (by decide) rfl ?_
  have J2 : ∀ (N : Nat) (R2 : Nat → Nat → Int32) (y1 : Int32), (g_okR LA_wM R2) → (g_fr mr_X11_copies_r45_r5 R R2) → (WC F R2) → (jv 0 10 y1) → (∀ j : Nat, (j : Int) < y1.toInt → R2 5 j = R 45 j) → (SP = K_X11_copies_r45_r5_2 F N R2 y1) → (2147483647 - y1.toInt).toNat < N → G X E 3 0 0 (wM X ad F R2) [(0, .ref (ad 45)), (1, .ref (ad 5)), (2, .int y1)] 2 [] := by
    intro N
    induction N with
    | zero => intro R2 y1 oR2 fR2 wCR2 py1 zq2_0 hkJ2 hm; exact absurd hm (Nat.not_lt_zero _)
    | succ N ih2 =>
      intro R2 y1 oR2 fR2 wCR2 py1 zq2_0 hkJ2 hm2
      have hkK2 : SP = KB_X11_copies_r45_r5_2 (K_X11_copies_r45_r5_2 F N) F R2 y1 := hkJ2
      obtain ⟨b2, hb2⟩ : ∃ z, z = K_X11_copies_r45_r5_2 F N := ⟨_, rfl⟩
      rw [← hb2] at hkK2
      unfold KB_X11_copies_r45_r5_2 at hkK2
      refine g_iload_n cx 2 rfl e_X11_copies_2 ?_
      refine g_bipush cx 10 (by decide) e_X11_copies_3 ?_
      refine g_icmp_ge cx 20 e_X11_copies_5 (by decide) (fun zc3 => ?_) (fun zc3 => ?_)
      · have p4 := gn_ge 10 10 (gc_le zc3) py1 (jv_k (x := 10) 10 (by decide)) (by decide)
        have hk5 := hkK2.trans (if_pos zc3)
        exact hret e_X11_copies_20 (Nat.le_of_ble_eq_true rfl) (Nat.le_of_ble_eq_true rfl) ⟨F, R2, rfl, hI, oR2, wCR2, (g_fr_rf F), fR2, (fun j hj => zq2_0 j (by have q := p4; unfold jv at q; omega)), (hk5.symm.trans hSP)⟩
      · have p6 := gn_lt 0 9 (gc_nle zc3) py1 (jv_k (x := 10) 10 (by decide)) (by decide)
        have hk7 := hkK2.trans (if_neg zc3)
        refine g_aload_n cx 1 rfl e_X11_copies_8 ?_
        refine g_iload_n cx 2 rfl e_X11_copies_9 ?_
        refine g_aload_n cx 0 rfl e_X11_copies_10 ?_
        refine g_iload_n cx 2 rfl e_X11_copies_11 ?_
        refine g_iald cx 45 e_X11_copies_12 rfl (jv_ix 10 p6 (by decide)) ?_
        refine g_topi (fun x8 ex8 => ?_)
        have hk9 := k_ls hk7 ex8
        have p10 : jv 0 99 x8 := by rw [ex8]; exact g_okR_g oR2 9 rfl (jv_cl 10 p6 (by decide))
        refine g_iast cx 5 (wM X ad F (g_u R2 5 (upd (R2 5) (Int32.toNatClampNeg y1) x8))) e_X11_copies_13 rfl (jv_ix 10 p6 (by decide)) rfl ?_
        obtain ⟨R11, hR11⟩ : ∃ z, z = g_u R2 5 (upd (R2 5) (Int32.toNatClampNeg y1) x8) := ⟨_, rfl⟩
        rw [← hR11]
        have hk12 := k_ls hk9 hR11
        have oR11 : g_okR LA_wM R11 := by rw [hR11]; exact g_okR_p oR2 p10 rfl
        have fR11 : g_fr mr_X11_copies_r45_r5 R R11 := by rw [hR11]; exact g_fr_r fR2 rfl
        have wCR11 : WC F R11 := by rw [hR11]; exact WC_r wCR2 rfl
        obtain ⟨x13, ex13⟩ : ∃ z : Int32, z = y1 + Int32.ofInt 1 := ⟨_, rfl⟩
        have hk14 := k_ls hk12 (show x13 = y1 + 1 from ex13)
        refine g_iinc cx x13 [(2, .int x13), (0, .ref (ad 45)), (1, .ref (ad 5))] 2 e_X11_copies_14 rfl ex13.symm (by decide) rfl ?_
        have zx13 := jv_add 1 10 (show x13 = y1 + 1 from ex13) p6 (jv_k (x := 1) 1 (by decide)) (by decide)
        refine g_goto cx 2 e_X11_copies_17 (by decide) ?_
        refine g_lsub [1, 2, 0] [(0, .ref (ad 45)), (1, .ref (ad 5)), (2, .int x13)] rfl ?_
        exact ih2 R11 x13 oR11 fR11 wCR11 (jv_w zx13.2 (by decide)) (g_cp1 (g := R 45) zq2_0 p6 ((g_ru1 hR11).trans (by rw [ex8, show R2 45 = R 45 from (fR2 45 rfl)])) (g_eq0 zx13.1)) (hk14.trans (by rw [hb2])) (Nat.lt_of_lt_of_le (show (2147483647 - x13.toInt).toNat < (2147483647 - y1.toInt).toNat from by have q0 := (jv_k (x := 1) 1 (by decide)).1; have q1 := (jv_k (x := 1) 1 (by decide)).2; have q2 := (jv_k (x := 10) 10 (by decide)).1; have q3 := (jv_k (x := 10) 10 (by decide)).2; have q4 := zx13.2.1; have q5 := zx13.2.2; have q6 := p6.1; have q7 := p6.2; have q8 := (gc_nle zc3); have q9 := (g_eq0 zx13.1); omega) (Nat.le_of_lt_succ hm2))
  refine g_lsub [1, 2, 0] [(0, .ref (ad 45)), (1, .ref (ad 5)), (2, .int 0)] rfl ?_
  exact J2 8589934592 R 0 hA (g_fr_rf R) hWC (jv_w (jv_k (x := 0) 0 (by decide)) (by decide)) (fun j hj => absurd hj (by have := Int.natCast_nonneg j; have e : (0 : Int32).toInt = 0 := rfl; omega)) hk0 (show (2147483647 - (0 : Int32).toInt).toNat < 8589934592 from by have q0 := (jv_k (x := 0) 0 (by decide)).1; have q1 := (jv_k (x := 0) 0 (by decide)).2; omega)
def KB_X11_copies_r46_r6_2 (b2 : (Nat → Nat → Int32) → (Int32) → (Nat → Int32) × (Nat → Nat → Int32)) (F : Nat → Int32) (R2 : Nat → Nat → Int32) (y1 : Int32) : (Nat → Int32) × (Nat → Nat → Int32) :=
  if 10 ≤ y1 then (F, R2) else k_lt (R2 46 (Int32.toNatClampNeg y1)) (fun x8 => k_lt (g_u R2 6 (upd (R2 6) (Int32.toNatClampNeg y1) x8)) (fun R10 => k_lt (y1 + 1) (fun x12 => b2 R10 x12)))
def K_X11_copies_r46_r6_2 (F : Nat → Int32) : Nat → (Nat → Nat → Int32) → (Int32) → (Nat → Int32) × (Nat → Nat → Int32)
  | 0 => fun R2 _ => (F, R2)
  | n + 1 => KB_X11_copies_r46_r6_2 (K_X11_copies_r46_r6_2 F n) F
def sp_X11_copies_r46_r6 (F : Nat → Int32) (R : Nat → Nat → Int32) : (Nat → Int32) × (Nat → Nat → Int32) :=
  K_X11_copies_r46_r6_2 F 8589934592 R 0
def md_X11_copies_r46_r6 : List Nat := []
def mr_X11_copies_r46_r6 : List Nat := [6]
set_option maxHeartbeats 4000000 in
set_option maxRecDepth 100000 in
theorem w_X11_copies_r46_r6 (l : Launch) (X : gX) (ad : Nat → Nat) (F : Nat → Int32) (R : Nat → Nat → Int32) (hI : g_ok LK_wM F) (hA : g_okR LA_wM R) (hWC : WC F R) : g_Cv l X yX11_copies cX11_copies 3 1 0 0 [.ref (ad 46), .ref (ad 6)] (wM X ad F R) (fun w => ∃ (F' : Nat → Int32) (R' : Nat → Nat → Int32), w = wM X ad F' R' ∧ g_ok LK_wM F' ∧ g_okR LA_wM R' ∧ WC F' R' ∧ g_fr md_X11_copies_r46_r6 F F' ∧ g_fr mr_X11_copies_r46_r6 R R' ∧ (∀ j : Nat, j < 10 → R' 6 j = R 46 j) ∧ (F', R') = sp_X11_copies_r46_r6 F R) := by
  refine g_mv (by decide +kernel) (Nat.le_of_ble_eq_true rfl) (fun E cx hret => ?_)
  obtain ⟨SP, hSP⟩ : ∃ z, z = sp_X11_copies_r46_r6 F R := ⟨_, rfl⟩
  have hk0 := hSP
  unfold sp_X11_copies_r46_r6 at hk0
  refine g_iconst cx 0 (by decide) e_X11_copies_0 ?_
  refine g_istore_n cx [(2, .int 0), (0, .ref (ad 46)), (1, .ref (ad 6))] e_X11_copies_1 (by decide) rfl ?_
  have J2 : ∀ (N : Nat) (R2 : Nat → Nat → Int32) (y1 : Int32), (g_okR LA_wM R2) → (g_fr mr_X11_copies_r46_r6 R R2) → (WC F R2) → (jv 0 10 y1) → (∀ j : Nat, (j : Int) < y1.toInt → R2 6 j = R 46 j) → (SP = K_X11_copies_r46_r6_2 F N R2 y1) → (2147483647 - y1.toInt).toNat < N → G X E 3 0 0 (wM X ad F R2) [(0, .ref (ad 46)), (1, .ref (ad 6)), (2, .int y1)] 2 [] := by
    intro N
    induction N with
    | zero => intro R2 y1 oR2 fR2 wCR2 py1 zq2_0 hkJ2 hm; exact absurd hm (Nat.not_lt_zero _)
    | succ N ih2 =>
      intro R2 y1 oR2 fR2 wCR2 py1 zq2_0 hkJ2 hm2
      have hkK2 : SP = KB_X11_copies_r46_r6_2 (K_X11_copies_r46_r6_2 F N) F R2 y1 := hkJ2
      obtain ⟨b2, hb2⟩ : ∃ z, z = K_X11_copies_r46_r6_2 F N := ⟨_, rfl⟩
      rw [← hb2] at hkK2
      unfold KB_X11_copies_r46_r6_2 at hkK2
      refine g_iload_n cx 2 rfl e_X11_copies_2 ?_
      refine g_bipush cx 10 (by decide) e_X11_copies_3 ?_
      refine g_icmp_ge cx 20 e_X11_copies_5 (by decide) (fun zc3 => ?_) (fun zc3 => ?_)
      · have p4 := gn_ge 10 10 (gc_le zc3) py1 (jv_k (x := 10) 10 (by decide)) (by decide)
        have hk5 := hkK2.trans (if_pos zc3)
        exact hret e_X11_copies_20 (Nat.le_of_ble_eq_true rfl) (Nat.le_of_ble_eq_true rfl) ⟨F, R2, rfl, hI, oR2, wCR2, (g_fr_rf F), fR2, (fun j hj => zq2_0 j (by have q := p4; unfold jv at q; omega)), (hk5.symm.trans hSP)⟩
      · have p6 := gn_lt 0 9 (gc_nle zc3) py1 (jv_k (x := 10) 10 (by decide)) (by decide)
        have hk7 := hkK2.trans (if_neg zc3)
        refine g_aload_n cx 1 rfl e_X11_copies_8 ?_
        refine g_iload_n cx 2 rfl e_X11_copies_9 ?_
        refine g_aload_n cx 0 rfl e_X11_copies_10 ?_
        refine g_iload_n cx 2 rfl e_X11_copies_11 ?_
        refine g_iald cx 46 e_X11_copies_12 rfl (jv_ix 10 p6 (by decide)) ?_
        refine g_topi (fun x8 ex8 => ?_)
        have hk9 := k_ls hk7 ex8
        refine g_iast cx 6 (wM X ad F (g_u R2 6 (upd (R2 6) (Int32.toNatClampNeg y1) x8))) e_X11_copies_13 rfl (jv_ix 10 p6 (by decide)) rfl ?_
        obtain ⟨R10, hR10⟩ : ∃ z, z = g_u R2 6 (upd (R2 6) (Int32.toNatClampNeg y1) x8) := ⟨_, rfl⟩
        rw [← hR10]
        have hk11 := k_ls hk9 hR10
        have oR10 : g_okR LA_wM R10 := by rw [hR10]; exact g_okR_u oR2 rfl
        have fR10 : g_fr mr_X11_copies_r46_r6 R R10 := by rw [hR10]; exact g_fr_r fR2 rfl
        have wCR10 : WC F R10 := by rw [hR10]; exact WC_r wCR2 rfl
        obtain ⟨x12, ex12⟩ : ∃ z : Int32, z = y1 + Int32.ofInt 1 := ⟨_, rfl⟩
        have hk13 := k_ls hk11 (show x12 = y1 + 1 from ex12)
        refine g_iinc cx x12 [(2, .int x12), (0, .ref (ad 46)), (1, .ref (ad 6))] 2 e_X11_copies_14 rfl ex12.symm (by decide) rfl ?_
        have zx12 := jv_add 1 10 (show x12 = y1 + 1 from ex12) p6 (jv_k (x := 1) 1 (by decide)) (by decide)
        refine g_goto cx 2 e_X11_copies_17 (by decide) ?_
        refine g_lsub [1, 2, 0] [(0, .ref (ad 46)), (1, .ref (ad 6)), (2, .int x12)] rfl ?_
        exact ih2 R10 x12 oR10 fR10 wCR10 (jv_w zx12.2 (by decide)) (g_cp1 (g := R 46) zq2_0 p6 ((g_ru1 hR10).trans (by rw [ex8, show R2 46 = R 46 from (fR2 46 rfl)])) (g_eq0 zx12.1)) (hk13.trans (by rw [hb2])) (Nat.lt_of_lt_of_le (show (2147483647 - x12.toInt).toNat < (2147483647 - y1.toInt).toNat from by have q0 := (jv_k (x := 1) 1 (by decide)).1; have q1 := (jv_k (x := 1) 1 (by decide)).2; have q2 := (jv_k (x := 10) 10 (by decide)).1; have q3 := (jv_k (x := 10) 10 (by decide)).2; have q4 := zx12.2.1; have q5 := zx12.2.2; have q6 := p6.1; have q7 := p6.2; have q8 := (gc_nle zc3); have q9 := (g_eq0 zx12.1); omega) (Nat.le_of_lt_succ hm2))
  refine g_lsub [1, 2, 0] [(0, .ref (ad 46)), (1, .ref (ad 6)), (2, .int 0)] rfl ?_
  exact J2 8589934592 R 0 hA (g_fr_rf R) hWC (jv_w (jv_k (x := 0) 0 (by decide)) (by decide)) (fun j hj => absurd hj (by have := Int.natCast_nonneg j; have e : (0 : Int32).toInt = 0 := rfl; omega)) hk0 (show (2147483647 - (0 : Int32).toInt).toNat < 8589934592 from by have q0 := (jv_k (x := 0) 0 (by decide)).1; have q1 := (jv_k (x := 0) 0 (by decide)).2; omega)
def KB_X11_copies_r47_r7_2 (b2 : (Nat → Nat → Int32) → (Int32) → (Nat → Int32) × (Nat → Nat → Int32)) (F : Nat → Int32) (R2 : Nat → Nat → Int32) (y1 : Int32) : (Nat → Int32) × (Nat → Nat → Int32) :=
  if 10 ≤ y1 then (F, R2) else k_lt (R2 47 (Int32.toNatClampNeg y1)) (fun x8 => k_lt (g_u R2 7 (upd (R2 7) (Int32.toNatClampNeg y1) x8)) (fun R10 => k_lt (y1 + 1) (fun x12 => b2 R10 x12)))
def K_X11_copies_r47_r7_2 (F : Nat → Int32) : Nat → (Nat → Nat → Int32) → (Int32) → (Nat → Int32) × (Nat → Nat → Int32)
  | 0 => fun R2 _ => (F, R2)
  | n + 1 => KB_X11_copies_r47_r7_2 (K_X11_copies_r47_r7_2 F n) F
def sp_X11_copies_r47_r7 (F : Nat → Int32) (R : Nat → Nat → Int32) : (Nat → Int32) × (Nat → Nat → Int32) :=
  K_X11_copies_r47_r7_2 F 8589934592 R 0
def md_X11_copies_r47_r7 : List Nat := []
def mr_X11_copies_r47_r7 : List Nat := [7]
set_option maxHeartbeats 4000000 in
set_option maxRecDepth 100000 in
theorem w_X11_copies_r47_r7 (l : Launch) (X : gX) (ad : Nat → Nat) (F : Nat → Int32) (R : Nat → Nat → Int32) (hI : g_ok LK_wM F) (hA : g_okR LA_wM R) (hWC : WC F R) : g_Cv l X yX11_copies cX11_copies 3 1 0 0 [.ref (ad 47), .ref (ad 7)] (wM X ad F R) (fun w => ∃ (F' : Nat → Int32) (R' : Nat → Nat → Int32), w = wM X ad F' R' ∧ g_ok LK_wM F' ∧ g_okR LA_wM R' ∧ WC F' R' ∧ g_fr md_X11_copies_r47_r7 F F' ∧ g_fr mr_X11_copies_r47_r7 R R' ∧ (∀ j : Nat, j < 10 → R' 7 j = R 47 j) ∧ (F', R') = sp_X11_copies_r47_r7 F R) := by
  refine g_mv (by decide +kernel) (Nat.le_of_ble_eq_true rfl) (fun E cx hret => ?_)
  obtain ⟨SP, hSP⟩ : ∃ z, z = sp_X11_copies_r47_r7 F R := ⟨_, rfl⟩
  have hk0 := hSP
  unfold sp_X11_copies_r47_r7 at hk0
  refine g_iconst cx 0 (by decide) e_X11_copies_0 ?_
  refine g_istore_n cx [(2, .int 0), (0, .ref (ad 47)), (1, .ref (ad 7))] e_X11_copies_1 (by decide) rfl ?_
  have J2 : ∀ (N : Nat) (R2 : Nat → Nat → Int32) (y1 : Int32), (g_okR LA_wM R2) → (g_fr mr_X11_copies_r47_r7 R R2) → (WC F R2) → (jv 0 10 y1) → (∀ j : Nat, (j : Int) < y1.toInt → R2 7 j = R 47 j) → (SP = K_X11_copies_r47_r7_2 F N R2 y1) → (2147483647 - y1.toInt).toNat < N → G X E 3 0 0 (wM X ad F R2) [(0, .ref (ad 47)), (1, .ref (ad 7)), (2, .int y1)] 2 [] := by
    intro N
    induction N with
    | zero => intro R2 y1 oR2 fR2 wCR2 py1 zq2_0 hkJ2 hm; exact absurd hm (Nat.not_lt_zero _)
    | succ N ih2 =>
      intro R2 y1 oR2 fR2 wCR2 py1 zq2_0 hkJ2 hm2
      have hkK2 : SP = KB_X11_copies_r47_r7_2 (K_X11_copies_r47_r7_2 F N) F R2 y1 := hkJ2
      obtain ⟨b2, hb2⟩ : ∃ z, z = K_X11_copies_r47_r7_2 F N := ⟨_, rfl⟩
      rw [← hb2] at hkK2
      unfold KB_X11_copies_r47_r7_2 at hkK2
      refine g_iload_n cx 2 rfl e_X11_copies_2 ?_
      refine g_bipush cx 10 (by decide) e_X11_copies_3 ?_
      refine g_icmp_ge cx 20 e_X11_copies_5 (by decide) (fun zc3 => ?_) (fun zc3 => ?_)
      · have p4 := gn_ge 10 10 (gc_le zc3) py1 (jv_k (x := 10) 10 (by decide)) (by decide)
        have hk5 := hkK2.trans (if_pos zc3)
        exact hret e_X11_copies_20 (Nat.le_of_ble_eq_true rfl) (Nat.le_of_ble_eq_true rfl) ⟨F, R2, rfl, hI, oR2, wCR2, (g_fr_rf F), fR2, (fun j hj => zq2_0 j (by have q := p4; unfold jv at q; omega)), (hk5.symm.trans hSP)⟩
      · have p6 := gn_lt 0 9 (gc_nle zc3) py1 (jv_k (x := 10) 10 (by decide)) (by decide)
        have hk7 := hkK2.trans (if_neg zc3)
        refine g_aload_n cx 1 rfl e_X11_copies_8 ?_
        refine g_iload_n cx 2 rfl e_X11_copies_9 ?_
        refine g_aload_n cx 0 rfl e_X11_copies_10 ?_
        refine g_iload_n cx 2 rfl e_X11_copies_11 ?_
        refine g_iald cx 47 e_X11_copies_12 rfl (jv_ix 10 p6 (by decide)) ?_
        refine g_topi (fun x8 ex8 => ?_)
        have hk9 := k_ls hk7 ex8
        refine g_iast cx 7 (wM X ad F (g_u R2 7 (upd (R2 7) (Int32.toNatClampNeg y1) x8))) e_X11_copies_13 rfl (jv_ix 10 p6 (by decide)) rfl ?_
        obtain ⟨R10, hR10⟩ : ∃ z, z = g_u R2 7 (upd (R2 7) (Int32.toNatClampNeg y1) x8) := ⟨_, rfl⟩
        rw [← hR10]
        have hk11 := k_ls hk9 hR10
        have oR10 : g_okR LA_wM R10 := by rw [hR10]; exact g_okR_u oR2 rfl
        have fR10 : g_fr mr_X11_copies_r47_r7 R R10 := by rw [hR10]; exact g_fr_r fR2 rfl
        have wCR10 : WC F R10 := by rw [hR10]; exact WC_r wCR2 rfl
        obtain ⟨x12, ex12⟩ : ∃ z : Int32, z = y1 + Int32.ofInt 1 := ⟨_, rfl⟩
        have hk13 := k_ls hk11 (show x12 = y1 + 1 from ex12)
        refine g_iinc cx x12 [(2, .int x12), (0, .ref (ad 47)), (1, .ref (ad 7))] 2 e_X11_copies_14 rfl ex12.symm (by decide) rfl ?_
        have zx12 := jv_add 1 10 (show x12 = y1 + 1 from ex12) p6 (jv_k (x := 1) 1 (by decide)) (by decide)
        refine g_goto cx 2 e_X11_copies_17 (by decide) ?_
        refine g_lsub [1, 2, 0] [(0, .ref (ad 47)), (1, .ref (ad 7)), (2, .int x12)] rfl ?_
        exact ih2 R10 x12 oR10 fR10 wCR10 (jv_w zx12.2 (by decide)) (g_cp1 (g := R 47) zq2_0 p6 ((g_ru1 hR10).trans (by rw [ex8, show R2 47 = R 47 from (fR2 47 rfl)])) (g_eq0 zx12.1)) (hk13.trans (by rw [hb2])) (Nat.lt_of_lt_of_le (show (2147483647 - x12.toInt).toNat < (2147483647 - y1.toInt).toNat from by have q0 := (jv_k (x := 1) 1 (by decide)).1; have q1 := (jv_k (x := 1) 1 (by decide)).2; have q2 := (jv_k (x := 10) 10 (by decide)).1; have q3 := (jv_k (x := 10) 10 (by decide)).2; have q4 := zx12.2.1; have q5 := zx12.2.2; have q6 := p6.1; have q7 := p6.2; have q8 := (gc_nle zc3); have q9 := (g_eq0 zx12.1); omega) (Nat.le_of_lt_succ hm2))
  refine g_lsub [1, 2, 0] [(0, .ref (ad 47)), (1, .ref (ad 7)), (2, .int 0)] rfl ?_
  exact J2 8589934592 R 0 hA (g_fr_rf R) hWC (jv_w (jv_k (x := 0) 0 (by decide)) (by decide)) (fun j hj => absurd hj (by have := Int.natCast_nonneg j; have e : (0 : Int32).toInt = 0 := rfl; omega)) hk0 (show (2147483647 - (0 : Int32).toInt).toNat < 8589934592 from by have q0 := (jv_k (x := 0) 0 (by decide)).1; have q1 := (jv_k (x := 0) 0 (by decide)).2; omega)
def KB_X11_copies_r48_r8_2 (b2 : (Nat → Nat → Int32) → (Int32) → (Nat → Int32) × (Nat → Nat → Int32)) (F : Nat → Int32) (R2 : Nat → Nat → Int32) (y1 : Int32) : (Nat → Int32) × (Nat → Nat → Int32) :=
  if 10 ≤ y1 then (F, R2) else k_lt (R2 48 (Int32.toNatClampNeg y1)) (fun x8 => k_lt (g_u R2 8 (upd (R2 8) (Int32.toNatClampNeg y1) x8)) (fun R10 => k_lt (y1 + 1) (fun x12 => b2 R10 x12)))
def K_X11_copies_r48_r8_2 (F : Nat → Int32) : Nat → (Nat → Nat → Int32) → (Int32) → (Nat → Int32) × (Nat → Nat → Int32)
  | 0 => fun R2 _ => (F, R2)
  | n + 1 => KB_X11_copies_r48_r8_2 (K_X11_copies_r48_r8_2 F n) F
def sp_X11_copies_r48_r8 (F : Nat → Int32) (R : Nat → Nat → Int32) : (Nat → Int32) × (Nat → Nat → Int32) :=
  K_X11_copies_r48_r8_2 F 8589934592 R 0
def md_X11_copies_r48_r8 : List Nat := []
def mr_X11_copies_r48_r8 : List Nat := [8]
set_option maxHeartbeats 4000000 in
set_option maxRecDepth 100000 in
theorem w_X11_copies_r48_r8 (l : Launch) (X : gX) (ad : Nat → Nat) (F : Nat → Int32) (R : Nat → Nat → Int32) (hI : g_ok LK_wM F) (hA : g_okR LA_wM R) (hWC : WC F R) : g_Cv l X yX11_copies cX11_copies 3 1 0 0 [.ref (ad 48), .ref (ad 8)] (wM X ad F R) (fun w => ∃ (F' : Nat → Int32) (R' : Nat → Nat → Int32), w = wM X ad F' R' ∧ g_ok LK_wM F' ∧ g_okR LA_wM R' ∧ WC F' R' ∧ g_fr md_X11_copies_r48_r8 F F' ∧ g_fr mr_X11_copies_r48_r8 R R' ∧ (∀ j : Nat, j < 10 → R' 8 j = R 48 j) ∧ (F', R') = sp_X11_copies_r48_r8 F R) := by
  refine g_mv (by decide +kernel) (Nat.le_of_ble_eq_true rfl) (fun E cx hret => ?_)
  obtain ⟨SP, hSP⟩ : ∃ z, z = sp_X11_copies_r48_r8 F R := ⟨_, rfl⟩
  have hk0 := hSP
  unfold sp_X11_copies_r48_r8 at hk0
  refine g_iconst cx 0 (by decide) e_X11_copies_0 ?_
  refine g_istore_n cx [(2, .int 0), (0, .ref (ad 48)), (1, .ref (ad 8))] e_X11_copies_1 (by decide) rfl ?_
  have J2 : ∀ (N : Nat) (R2 : Nat → Nat → Int32) (y1 : Int32), (g_okR LA_wM R2) → (g_fr mr_X11_copies_r48_r8 R R2) → (WC F R2) → (jv 0 10 y1) → (∀ j : Nat, (j : Int) < y1.toInt → R2 8 j = R 48 j) → (SP = K_X11_copies_r48_r8_2 F N R2 y1) → (2147483647 - y1.toInt).toNat < N → G X E 3 0 0 (wM X ad F R2) [(0, .ref (ad 48)), (1, .ref (ad 8)), (2, .int y1)] 2 [] := by
    intro N
    induction N with
    | zero => intro R2 y1 oR2 fR2 wCR2 py1 zq2_0 hkJ2 hm; exact absurd hm (Nat.not_lt_zero _)
    | succ N ih2 =>
      intro R2 y1 oR2 fR2 wCR2 py1 zq2_0 hkJ2 hm2
      have hkK2 : SP = KB_X11_copies_r48_r8_2 (K_X11_copies_r48_r8_2 F N) F R2 y1 := hkJ2
      obtain ⟨b2, hb2⟩ : ∃ z, z = K_X11_copies_r48_r8_2 F N := ⟨_, rfl⟩
      rw [← hb2] at hkK2
      unfold KB_X11_copies_r48_r8_2 at hkK2
      refine g_iload_n cx 2 rfl e_X11_copies_2 ?_
      refine g_bipush cx 10 (by decide) e_X11_copies_3 ?_
      refine g_icmp_ge cx 20 e_X11_copies_5 (by decide) (fun zc3 => ?_) (fun zc3 => ?_)
      · have p4 := gn_ge 10 10 (gc_le zc3) py1 (jv_k (x := 10) 10 (by decide)) (by decide)
        have hk5 := hkK2.trans (if_pos zc3)
        exact hret e_X11_copies_20 (Nat.le_of_ble_eq_true rfl) (Nat.le_of_ble_eq_true rfl) ⟨F, R2, rfl, hI, oR2, wCR2, (g_fr_rf F), fR2, (fun j hj => zq2_0 j (by have q := p4; unfold jv at q; omega)), (hk5.symm.trans hSP)⟩
      · have p6 := gn_lt 0 9 (gc_nle zc3) py1 (jv_k (x := 10) 10 (by decide)) (by decide)
        have hk7 := hkK2.trans (if_neg zc3)
        refine g_aload_n cx 1 rfl e_X11_copies_8 ?_
        refine g_iload_n cx 2 rfl e_X11_copies_9 ?_
        refine g_aload_n cx 0 rfl e_X11_copies_10 ?_
        refine g_iload_n cx 2 rfl e_X11_copies_11 ?_
        refine g_iald cx 48 e_X11_copies_12 rfl (jv_ix 10 p6 (by decide)) ?_
        refine g_topi (fun x8 ex8 => ?_)
        have hk9 := k_ls hk7 ex8
        refine g_iast cx 8 (wM X ad F (g_u R2 8 (upd (R2 8) (Int32.toNatClampNeg y1) x8))) e_X11_copies_13 rfl (jv_ix 10 p6 (by decide)) rfl ?_
        obtain ⟨R10, hR10⟩ : ∃ z, z = g_u R2 8 (upd (R2 8) (Int32.toNatClampNeg y1) x8) := ⟨_, rfl⟩
        rw [← hR10]
        have hk11 := k_ls hk9 hR10
        have oR10 : g_okR LA_wM R10 := by rw [hR10]; exact g_okR_u oR2 rfl
        have fR10 : g_fr mr_X11_copies_r48_r8 R R10 := by rw [hR10]; exact g_fr_r fR2 rfl
        have wCR10 : WC F R10 := by rw [hR10]; exact WC_r wCR2 rfl
        obtain ⟨x12, ex12⟩ : ∃ z : Int32, z = y1 + Int32.ofInt 1 := ⟨_, rfl⟩
        have hk13 := k_ls hk11 (show x12 = y1 + 1 from ex12)
        refine g_iinc cx x12 [(2, .int x12), (0, .ref (ad 48)), (1, .ref (ad 8))] 2 e_X11_copies_14 rfl ex12.symm (by decide) rfl ?_
        have zx12 := jv_add 1 10 (show x12 = y1 + 1 from ex12) p6 (jv_k (x := 1) 1 (by decide)) (by decide)
        refine g_goto cx 2 e_X11_copies_17 (by decide) ?_
        refine g_lsub [1, 2, 0] [(0, .ref (ad 48)), (1, .ref (ad 8)), (2, .int x12)] rfl ?_
        exact ih2 R10 x12 oR10 fR10 wCR10 (jv_w zx12.2 (by decide)) (g_cp1 (g := R 48) zq2_0 p6 ((g_ru1 hR10).trans (by rw [ex8, show R2 48 = R 48 from (fR2 48 rfl)])) (g_eq0 zx12.1)) (hk13.trans (by rw [hb2])) (Nat.lt_of_lt_of_le (show (2147483647 - x12.toInt).toNat < (2147483647 - y1.toInt).toNat from by have q0 := (jv_k (x := 1) 1 (by decide)).1; have q1 := (jv_k (x := 1) 1 (by decide)).2; have q2 := (jv_k (x := 10) 10 (by decide)).1; have q3 := (jv_k (x := 10) 10 (by decide)).2; have q4 := zx12.2.1; have q5 := zx12.2.2; have q6 := p6.1; have q7 := p6.2; have q8 := (gc_nle zc3); have q9 := (g_eq0 zx12.1); omega) (Nat.le_of_lt_succ hm2))
  refine g_lsub [1, 2, 0] [(0, .ref (ad 48)), (1, .ref (ad 8)), (2, .int 0)] rfl ?_
  exact J2 8589934592 R 0 hA (g_fr_rf R) hWC (jv_w (jv_k (x := 0) 0 (by decide)) (by decide)) (fun j hj => absurd hj (by have := Int.natCast_nonneg j; have e : (0 : Int32).toInt = 0 := rfl; omega)) hk0 (show (2147483647 - (0 : Int32).toInt).toNat < 8589934592 from by have q0 := (jv_k (x := 0) 0 (by decide)).1; have q1 := (jv_k (x := 0) 0 (by decide)).2; omega)
def sp_X11_undo (F : Nat → Int32) (R : Nat → Nat → Int32) : Int32 × (Nat → Int32) × (Nat → Nat → Int32) :=
  if (F 77) = 0 then (0, F, R) else k_lt (upd F 0 (F 78)) (fun F4 => k_lt (upd F4 1 (F 79)) (fun F6 => k_lt (upd F6 2 (F 80)) (fun F8 => k_lt (upd F8 3 (F 81)) (fun F10 => k_lt (upd F10 4 (F 82)) (fun F12 => k_lt2 (sp_X11_copies_r41_r1 F12 R) (fun F19 R20 => k_lt2 (sp_X11_copies_r42_r2 F19 R20) (fun F27 R28 => k_lt2 (sp_X11_copies_r43_r3 F27 R28) (fun F35 R36 => k_lt2 (sp_X11_copies_r44_r4 F35 R36) (fun F43 R44 => k_lt2 (sp_X11_copies_r45_r5 F43 R44) (fun F51 R52 => k_lt2 (sp_X11_copies_r46_r6 F51 R52) (fun F59 R60 => k_lt2 (sp_X11_copies_r47_r7 F59 R60) (fun F67 R68 => k_lt2 (sp_X11_copies_r48_r8 F67 R68) (fun F75 R76 => (1, F75, R76))))))))))))))
theorem e_X11_undo_0 : g_dc cX11_undo 0 (.aload_n 0) 1 1 := ⟨by decide +kernel, rfl⟩
theorem e_X11_undo_1 : g_dc cX11_undo 1 (.getfield 491) 3 4 := ⟨by decide +kernel, rfl⟩
theorem e_X11_undo_4 : g_dc cX11_undo 4 (.ifCond .ne 5) 3 7 := ⟨by decide +kernel, rfl⟩
theorem e_X11_undo_7 : g_dc cX11_undo 7 (.iconst 0) 1 8 := ⟨by decide +kernel, rfl⟩
theorem e_X11_undo_8 : g_dc cX11_undo 8 (.ireturn) 1 9 := ⟨by decide +kernel, rfl⟩
theorem e_X11_undo_9 : g_dc cX11_undo 9 (.aload_n 0) 1 10 := ⟨by decide +kernel, rfl⟩
theorem e_X11_undo_10 : g_dc cX11_undo 10 (.aload_n 0) 1 11 := ⟨by decide +kernel, rfl⟩
theorem e_X11_undo_11 : g_dc cX11_undo 11 (.getfield 494) 3 14 := ⟨by decide +kernel, rfl⟩
theorem e_X11_undo_14 : g_dc cX11_undo 14 (.putfield 155) 3 17 := ⟨by decide +kernel, rfl⟩
theorem e_X11_undo_17 : g_dc cX11_undo 17 (.aload_n 0) 1 18 := ⟨by decide +kernel, rfl⟩
theorem e_X11_undo_18 : g_dc cX11_undo 18 (.aload_n 0) 1 19 := ⟨by decide +kernel, rfl⟩
theorem e_X11_undo_19 : g_dc cX11_undo 19 (.getfield 497) 3 22 := ⟨by decide +kernel, rfl⟩
theorem e_X11_undo_22 : g_dc cX11_undo 22 (.putfield 159) 3 25 := ⟨by decide +kernel, rfl⟩
theorem e_X11_undo_25 : g_dc cX11_undo 25 (.aload_n 0) 1 26 := ⟨by decide +kernel, rfl⟩
theorem e_X11_undo_26 : g_dc cX11_undo 26 (.aload_n 0) 1 27 := ⟨by decide +kernel, rfl⟩
theorem e_X11_undo_27 : g_dc cX11_undo 27 (.getfield 500) 3 30 := ⟨by decide +kernel, rfl⟩
theorem e_X11_undo_30 : g_dc cX11_undo 30 (.putfield 169) 3 33 := ⟨by decide +kernel, rfl⟩
theorem e_X11_undo_33 : g_dc cX11_undo 33 (.aload_n 0) 1 34 := ⟨by decide +kernel, rfl⟩
theorem e_X11_undo_34 : g_dc cX11_undo 34 (.aload_n 0) 1 35 := ⟨by decide +kernel, rfl⟩
theorem e_X11_undo_35 : g_dc cX11_undo 35 (.getfield 503) 3 38 := ⟨by decide +kernel, rfl⟩
theorem e_X11_undo_38 : g_dc cX11_undo 38 (.putfield 162) 3 41 := ⟨by decide +kernel, rfl⟩
theorem e_X11_undo_41 : g_dc cX11_undo 41 (.aload_n 0) 1 42 := ⟨by decide +kernel, rfl⟩
theorem e_X11_undo_42 : g_dc cX11_undo 42 (.aload_n 0) 1 43 := ⟨by decide +kernel, rfl⟩
theorem e_X11_undo_43 : g_dc cX11_undo 43 (.getfield 506) 3 46 := ⟨by decide +kernel, rfl⟩
theorem e_X11_undo_46 : g_dc cX11_undo 46 (.putfield 172) 3 49 := ⟨by decide +kernel, rfl⟩
theorem e_X11_undo_49 : g_dc cX11_undo 49 (.aload_n 0) 1 50 := ⟨by decide +kernel, rfl⟩
theorem e_X11_undo_50 : g_dc cX11_undo 50 (.getfield 131) 3 53 := ⟨by decide +kernel, rfl⟩
theorem e_X11_undo_53 : g_dc cX11_undo 53 (.aload_n 0) 1 54 := ⟨by decide +kernel, rfl⟩
theorem e_X11_undo_54 : g_dc cX11_undo 54 (.getfield 7) 3 57 := ⟨by decide +kernel, rfl⟩
theorem e_X11_undo_57 : g_dc cX11_undo 57 (.invokestatic 509) 3 60 := ⟨by decide +kernel, rfl⟩
theorem e_X11_undo_60 : g_dc cX11_undo 60 (.aload_n 0) 1 61 := ⟨by decide +kernel, rfl⟩
theorem e_X11_undo_61 : g_dc cX11_undo 61 (.getfield 134) 3 64 := ⟨by decide +kernel, rfl⟩
theorem e_X11_undo_64 : g_dc cX11_undo 64 (.aload_n 0) 1 65 := ⟨by decide +kernel, rfl⟩
theorem e_X11_undo_65 : g_dc cX11_undo 65 (.getfield 13) 3 68 := ⟨by decide +kernel, rfl⟩
theorem e_X11_undo_68 : g_dc cX11_undo 68 (.invokestatic 509) 3 71 := ⟨by decide +kernel, rfl⟩
theorem e_X11_undo_71 : g_dc cX11_undo 71 (.aload_n 0) 1 72 := ⟨by decide +kernel, rfl⟩
theorem e_X11_undo_72 : g_dc cX11_undo 72 (.getfield 137) 3 75 := ⟨by decide +kernel, rfl⟩
theorem e_X11_undo_75 : g_dc cX11_undo 75 (.aload_n 0) 1 76 := ⟨by decide +kernel, rfl⟩
theorem e_X11_undo_76 : g_dc cX11_undo 76 (.getfield 16) 3 79 := ⟨by decide +kernel, rfl⟩
theorem e_X11_undo_79 : g_dc cX11_undo 79 (.invokestatic 509) 3 82 := ⟨by decide +kernel, rfl⟩
theorem e_X11_undo_82 : g_dc cX11_undo 82 (.aload_n 0) 1 83 := ⟨by decide +kernel, rfl⟩
theorem e_X11_undo_83 : g_dc cX11_undo 83 (.getfield 140) 3 86 := ⟨by decide +kernel, rfl⟩
theorem e_X11_undo_86 : g_dc cX11_undo 86 (.aload_n 0) 1 87 := ⟨by decide +kernel, rfl⟩
theorem e_X11_undo_87 : g_dc cX11_undo 87 (.getfield 19) 3 90 := ⟨by decide +kernel, rfl⟩
theorem e_X11_undo_90 : g_dc cX11_undo 90 (.invokestatic 509) 3 93 := ⟨by decide +kernel, rfl⟩
theorem e_X11_undo_93 : g_dc cX11_undo 93 (.aload_n 0) 1 94 := ⟨by decide +kernel, rfl⟩
theorem e_X11_undo_94 : g_dc cX11_undo 94 (.getfield 143) 3 97 := ⟨by decide +kernel, rfl⟩
theorem e_X11_undo_97 : g_dc cX11_undo 97 (.aload_n 0) 1 98 := ⟨by decide +kernel, rfl⟩
theorem e_X11_undo_98 : g_dc cX11_undo 98 (.getfield 22) 3 101 := ⟨by decide +kernel, rfl⟩
theorem e_X11_undo_101 : g_dc cX11_undo 101 (.invokestatic 509) 3 104 := ⟨by decide +kernel, rfl⟩
theorem e_X11_undo_104 : g_dc cX11_undo 104 (.aload_n 0) 1 105 := ⟨by decide +kernel, rfl⟩
theorem e_X11_undo_105 : g_dc cX11_undo 105 (.getfield 146) 3 108 := ⟨by decide +kernel, rfl⟩
theorem e_X11_undo_108 : g_dc cX11_undo 108 (.aload_n 0) 1 109 := ⟨by decide +kernel, rfl⟩
theorem e_X11_undo_109 : g_dc cX11_undo 109 (.getfield 25) 3 112 := ⟨by decide +kernel, rfl⟩
theorem e_X11_undo_112 : g_dc cX11_undo 112 (.invokestatic 509) 3 115 := ⟨by decide +kernel, rfl⟩
theorem e_X11_undo_115 : g_dc cX11_undo 115 (.aload_n 0) 1 116 := ⟨by decide +kernel, rfl⟩
theorem e_X11_undo_116 : g_dc cX11_undo 116 (.getfield 149) 3 119 := ⟨by decide +kernel, rfl⟩
theorem e_X11_undo_119 : g_dc cX11_undo 119 (.aload_n 0) 1 120 := ⟨by decide +kernel, rfl⟩
theorem e_X11_undo_120 : g_dc cX11_undo 120 (.getfield 28) 3 123 := ⟨by decide +kernel, rfl⟩
theorem e_X11_undo_123 : g_dc cX11_undo 123 (.invokestatic 509) 3 126 := ⟨by decide +kernel, rfl⟩
theorem e_X11_undo_126 : g_dc cX11_undo 126 (.aload_n 0) 1 127 := ⟨by decide +kernel, rfl⟩
theorem e_X11_undo_127 : g_dc cX11_undo 127 (.getfield 152) 3 130 := ⟨by decide +kernel, rfl⟩
theorem e_X11_undo_130 : g_dc cX11_undo 130 (.aload_n 0) 1 131 := ⟨by decide +kernel, rfl⟩
theorem e_X11_undo_131 : g_dc cX11_undo 131 (.getfield 31) 3 134 := ⟨by decide +kernel, rfl⟩
theorem e_X11_undo_134 : g_dc cX11_undo 134 (.invokestatic 509) 3 137 := ⟨by decide +kernel, rfl⟩
theorem e_X11_undo_137 : g_dc cX11_undo 137 (.iconst 1) 1 138 := ⟨by decide +kernel, rfl⟩
theorem e_X11_undo_138 : g_dc cX11_undo 138 (.ireturn) 1 139 := ⟨by decide +kernel, rfl⟩
def md_X11_undo : List Nat := [0, 1, 2, 3, 4]
def mr_X11_undo : List Nat := [1, 2, 3, 4, 5, 6, 7, 8]
set_option maxHeartbeats 4000000 in
set_option maxRecDepth 100000 in
theorem w_X11_undo (l : Launch) (X : gX) (ad : Nat → Nat) (F : Nat → Int32) (R : Nat → Nat → Int32) (hI : g_ok LK_wM F) (hA : g_okR LA_wM R) (hWT : WT F R) (hWC : WC F R) : g_Ci l X yX11_undo cX11_undo 1 (some .boolean) 2 0 0 [.ref (ad 0)] (wM X ad F R) (fun r w => ∃ (F' : Nat → Int32) (R' : Nat → Nat → Int32), w = wM X ad F' R' ∧ g_ok LK_wM F' ∧ g_okR LA_wM R' ∧ WT F' R' ∧ WC F' R' ∧ g_fr md_X11_undo F F' ∧ g_fr mr_X11_undo R R' ∧ jv 0 1 r ∧ (r, F', R') = sp_X11_undo F R) := by
  refine g_mi (by decide +kernel) (Nat.le_of_ble_eq_true rfl) (fun E cx hret => ?_)
  obtain ⟨SP, hSP⟩ : ∃ z, z = sp_X11_undo F R := ⟨_, rfl⟩
  have hk0 := hSP
  unfold sp_X11_undo at hk0
  refine g_aload_n cx 0 rfl e_X11_undo_0 ?_
  refine g_get cx cl_X11 fl_X11_491 0 (.int (F 77)) e_X11_undo_1 rfl rfl ?_
  refine g_if_ne cx 9 e_X11_undo_4 (by decide) (fun zc1 => ?_) (fun zc1 => ?_)
  · have p2 := gn_neL 1 1 (gc_ne zc1) (g_ok_g hI 15 rfl) (jv_k (x := 0) 0 (by decide)) (by decide)
    have hk3 := hk0.trans (if_neg zc1)
    refine g_aload_n cx 0 rfl e_X11_undo_9 ?_
    refine g_aload_n cx 0 rfl e_X11_undo_10 ?_
    refine g_get cx cl_X11 fl_X11_494 0 (.int (F 78)) e_X11_undo_11 rfl rfl ?_
    refine g_put cx cl_X11 fl_X11_155 0 (wM X ad (upd F 0 (F 78)) R) e_X11_undo_14 rfl rfl rfl rfl (Nat.le_of_ble_eq_true rfl) rfl ?_
    obtain ⟨F4, hF4⟩ : ∃ z, z = upd F 0 (F 78) := ⟨_, rfl⟩
    rw [← hF4]
    have hk5 := k_ls hk3 hF4
    have oF4 : g_ok LK_wM F4 := by rw [hF4]; exact g_ok_u hI rfl
    have fF4 : g_fr md_X11_undo F F4 := by rw [hF4]; exact g_fr_u (g_fr_rf F) rfl
    have wTF4 : WT F4 R := by rw [hF4]; exact WT_u hWT rfl
    have wCF4 : WC F4 R := by rw [hF4]; exact WC_u hWC rfl
    refine g_aload_n cx 0 rfl e_X11_undo_17 ?_
    refine g_aload_n cx 0 rfl e_X11_undo_18 ?_
    refine g_get cx cl_X11 fl_X11_497 0 (.int (F4 79)) e_X11_undo_19 rfl rfl ?_
    refine g_toi (F 79) (g_pu2 hF4 rfl) ?_
    refine g_put cx cl_X11 fl_X11_159 0 (wM X ad (upd F4 1 (F 79)) R) e_X11_undo_22 rfl rfl rfl rfl (Nat.le_of_ble_eq_true rfl) rfl ?_
    obtain ⟨F6, hF6⟩ : ∃ z, z = upd F4 1 (F 79) := ⟨_, rfl⟩
    rw [← hF6]
    have hk7 := k_ls hk5 hF6
    have oF6 : g_ok LK_wM F6 := by rw [hF6]; exact g_ok_u oF4 rfl
    have fF6 : g_fr md_X11_undo F F6 := by rw [hF6]; exact g_fr_u fF4 rfl
    have wTF6 : WT F6 R := by rw [hF6]; exact WT_u wTF4 rfl
    have wCF6 : WC F6 R := by rw [hF6]; exact WC_u wCF4 rfl
    refine g_aload_n cx 0 rfl e_X11_undo_25 ?_
    refine g_aload_n cx 0 rfl e_X11_undo_26 ?_
    refine g_get cx cl_X11 fl_X11_500 0 (.int (F6 80)) e_X11_undo_27 rfl rfl ?_
    refine g_toi (F 80) ((g_pu2 hF6 rfl).trans (g_pu2 hF4 rfl)) ?_
    refine g_put cx cl_X11 fl_X11_169 0 (wM X ad (upd F6 2 (F 80)) R) e_X11_undo_30 rfl rfl rfl rfl (Nat.le_of_ble_eq_true rfl) rfl ?_
    obtain ⟨F8, hF8⟩ : ∃ z, z = upd F6 2 (F 80) := ⟨_, rfl⟩
    rw [← hF8]
    have hk9 := k_ls hk7 hF8
    have oF8 : g_ok LK_wM F8 := by rw [hF8]; exact g_ok_u oF6 rfl
    have fF8 : g_fr md_X11_undo F F8 := by rw [hF8]; exact g_fr_u fF6 rfl
    have wTF8 : WT F8 R := by rw [hF8]; exact WT_u wTF6 rfl
    have wCF8 : WC F8 R := by rw [hF8]; exact WC_u wCF6 rfl
    refine g_aload_n cx 0 rfl e_X11_undo_33 ?_
    refine g_aload_n cx 0 rfl e_X11_undo_34 ?_
    refine g_get cx cl_X11 fl_X11_503 0 (.int (F8 81)) e_X11_undo_35 rfl rfl ?_
    refine g_toi (F 81) (((g_pu2 hF8 rfl).trans (g_pu2 hF6 rfl)).trans (g_pu2 hF4 rfl)) ?_
    refine g_put cx cl_X11 fl_X11_162 0 (wM X ad (upd F8 3 (F 81)) R) e_X11_undo_38 rfl rfl rfl rfl (Nat.le_of_ble_eq_true rfl) rfl ?_
    obtain ⟨F10, hF10⟩ : ∃ z, z = upd F8 3 (F 81) := ⟨_, rfl⟩
    rw [← hF10]
    have hk11 := k_ls hk9 hF10
    have oF10 : g_ok LK_wM F10 := by rw [hF10]; exact g_ok_u oF8 rfl
    have fF10 : g_fr md_X11_undo F F10 := by rw [hF10]; exact g_fr_u fF8 rfl
    have wTF10 : WT F10 R := by rw [hF10]; exact WT_u wTF8 rfl
    have wCF10 : WC F10 R := by rw [hF10]; exact WC_u wCF8 rfl
    refine g_aload_n cx 0 rfl e_X11_undo_41 ?_
    refine g_aload_n cx 0 rfl e_X11_undo_42 ?_
    refine g_get cx cl_X11 fl_X11_506 0 (.int (F10 82)) e_X11_undo_43 rfl rfl ?_
    refine g_toi (F 82) ((((g_pu2 hF10 rfl).trans (g_pu2 hF8 rfl)).trans (g_pu2 hF6 rfl)).trans (g_pu2 hF4 rfl)) ?_
    refine g_put cx cl_X11 fl_X11_172 0 (wM X ad (upd F10 4 (F 82)) R) e_X11_undo_46 rfl rfl rfl rfl (Nat.le_of_ble_eq_true rfl) rfl ?_
    obtain ⟨F12, hF12⟩ : ∃ z, z = upd F10 4 (F 82) := ⟨_, rfl⟩
    rw [← hF12]
    have hk13 := k_ls hk11 hF12
    have oF12 : g_ok LK_wM F12 := by rw [hF12]; exact g_ok_u oF10 rfl
    have fF12 : g_fr md_X11_undo F F12 := by rw [hF12]; exact g_fr_u fF10 rfl
    have wCF12 : WC F12 R := by rw [hF12]; exact WC_u wCF10 rfl
    refine g_aload_n cx 0 rfl e_X11_undo_49 ?_
    refine g_get cx cl_X11 fl_X11_131 0 (.ref (ad 41)) e_X11_undo_50 rfl rfl ?_
    refine g_aload_n cx 0 rfl e_X11_undo_53 ?_
    refine g_get cx cl_X11 fl_X11_7 0 (.ref (ad 1)) e_X11_undo_54 rfl rfl ?_
    refine g_cSvW cx [.ref (ad 41), .ref (ad 1)] [] (w_X11_copies_r41_r1 l X ad F12 R oF12 hA wCF12) ml_X11_509 yS_X11_copies rfl e_X11_undo_57 (by unfold g_rr; decide) (by decide) rfl (Nat.le_of_ble_eq_true rfl) (fun w15 h16 => ?_)
    obtain ⟨F19, R20, rfl, oF19, oR20, wCF19, cF19, cR20, zx17, hx18⟩ := h16
    have hk21 := k_ls2 hk13 hx18
    have fF19 : g_fr md_X11_undo F F19 := g_fr_c fF12 cF19 rfl
    have fR20 : g_fr mr_X11_undo R R20 := g_fr_c (g_fr_rf R) cR20 rfl
    refine g_aload_n cx 0 rfl e_X11_undo_60 ?_
    refine g_get cx cl_X11 fl_X11_134 0 (.ref (ad 42)) e_X11_undo_61 rfl rfl ?_
    refine g_aload_n cx 0 rfl e_X11_undo_64 ?_
    refine g_get cx cl_X11 fl_X11_13 0 (.ref (ad 2)) e_X11_undo_65 rfl rfl ?_
    refine g_cSvW cx [.ref (ad 42), .ref (ad 2)] [] (w_X11_copies_r42_r2 l X ad F19 R20 oF19 oR20 wCF19) ml_X11_509 yS_X11_copies rfl e_X11_undo_68 (by unfold g_rr; decide) (by decide) rfl (Nat.le_of_ble_eq_true rfl) (fun w23 h24 => ?_)
    obtain ⟨F27, R28, rfl, oF27, oR28, wCF27, cF27, cR28, zx25, hx26⟩ := h24
    have hk29 := k_ls2 hk21 hx26
    have fF27 : g_fr md_X11_undo F F27 := g_fr_c fF19 cF27 rfl
    have fR28 : g_fr mr_X11_undo R R28 := g_fr_c fR20 cR28 rfl
    refine g_aload_n cx 0 rfl e_X11_undo_71 ?_
    refine g_get cx cl_X11 fl_X11_137 0 (.ref (ad 43)) e_X11_undo_72 rfl rfl ?_
    refine g_aload_n cx 0 rfl e_X11_undo_75 ?_
    refine g_get cx cl_X11 fl_X11_16 0 (.ref (ad 3)) e_X11_undo_76 rfl rfl ?_
    refine g_cSvW cx [.ref (ad 43), .ref (ad 3)] [] (w_X11_copies_r43_r3 l X ad F27 R28 oF27 oR28 wCF27) ml_X11_509 yS_X11_copies rfl e_X11_undo_79 (by unfold g_rr; decide) (by decide) rfl (Nat.le_of_ble_eq_true rfl) (fun w31 h32 => ?_)
    obtain ⟨F35, R36, rfl, oF35, oR36, wCF35, cF35, cR36, zx33, hx34⟩ := h32
    have hk37 := k_ls2 hk29 hx34
    have fF35 : g_fr md_X11_undo F F35 := g_fr_c fF27 cF35 rfl
    have fR36 : g_fr mr_X11_undo R R36 := g_fr_c fR28 cR36 rfl
    refine g_aload_n cx 0 rfl e_X11_undo_82 ?_
    refine g_get cx cl_X11 fl_X11_140 0 (.ref (ad 44)) e_X11_undo_83 rfl rfl ?_
    refine g_aload_n cx 0 rfl e_X11_undo_86 ?_
    refine g_get cx cl_X11 fl_X11_19 0 (.ref (ad 4)) e_X11_undo_87 rfl rfl ?_
    refine g_cSvW cx [.ref (ad 44), .ref (ad 4)] [] (w_X11_copies_r44_r4 l X ad F35 R36 oF35 oR36 wCF35) ml_X11_509 yS_X11_copies rfl e_X11_undo_90 (by unfold g_rr; decide) (by decide) rfl (Nat.le_of_ble_eq_true rfl) (fun w39 h40 => ?_)
    obtain ⟨F43, R44, rfl, oF43, oR44, wCF43, cF43, cR44, zx41, hx42⟩ := h40
    have hk45 := k_ls2 hk37 hx42
    have fF43 : g_fr md_X11_undo F F43 := g_fr_c fF35 cF43 rfl
    have fR44 : g_fr mr_X11_undo R R44 := g_fr_c fR36 cR44 rfl
    refine g_aload_n cx 0 rfl e_X11_undo_93 ?_
    refine g_get cx cl_X11 fl_X11_143 0 (.ref (ad 45)) e_X11_undo_94 rfl rfl ?_
    refine g_aload_n cx 0 rfl e_X11_undo_97 ?_
    refine g_get cx cl_X11 fl_X11_22 0 (.ref (ad 5)) e_X11_undo_98 rfl rfl ?_
    refine g_cSvW cx [.ref (ad 45), .ref (ad 5)] [] (w_X11_copies_r45_r5 l X ad F43 R44 oF43 oR44 wCF43) ml_X11_509 yS_X11_copies rfl e_X11_undo_101 (by unfold g_rr; decide) (by decide) rfl (Nat.le_of_ble_eq_true rfl) (fun w47 h48 => ?_)
    obtain ⟨F51, R52, rfl, oF51, oR52, wCF51, cF51, cR52, zx49, hx50⟩ := h48
    have hk53 := k_ls2 hk45 hx50
    have fF51 : g_fr md_X11_undo F F51 := g_fr_c fF43 cF51 rfl
    have fR52 : g_fr mr_X11_undo R R52 := g_fr_c fR44 cR52 rfl
    refine g_aload_n cx 0 rfl e_X11_undo_104 ?_
    refine g_get cx cl_X11 fl_X11_146 0 (.ref (ad 46)) e_X11_undo_105 rfl rfl ?_
    refine g_aload_n cx 0 rfl e_X11_undo_108 ?_
    refine g_get cx cl_X11 fl_X11_25 0 (.ref (ad 6)) e_X11_undo_109 rfl rfl ?_
    refine g_cSvW cx [.ref (ad 46), .ref (ad 6)] [] (w_X11_copies_r46_r6 l X ad F51 R52 oF51 oR52 wCF51) ml_X11_509 yS_X11_copies rfl e_X11_undo_112 (by unfold g_rr; decide) (by decide) rfl (Nat.le_of_ble_eq_true rfl) (fun w55 h56 => ?_)
    obtain ⟨F59, R60, rfl, oF59, oR60, wCF59, cF59, cR60, zx57, hx58⟩ := h56
    have hk61 := k_ls2 hk53 hx58
    have fF59 : g_fr md_X11_undo F F59 := g_fr_c fF51 cF59 rfl
    have fR60 : g_fr mr_X11_undo R R60 := g_fr_c fR52 cR60 rfl
    refine g_aload_n cx 0 rfl e_X11_undo_115 ?_
    refine g_get cx cl_X11 fl_X11_149 0 (.ref (ad 47)) e_X11_undo_116 rfl rfl ?_
    refine g_aload_n cx 0 rfl e_X11_undo_119 ?_
    refine g_get cx cl_X11 fl_X11_28 0 (.ref (ad 7)) e_X11_undo_120 rfl rfl ?_
    refine g_cSvW cx [.ref (ad 47), .ref (ad 7)] [] (w_X11_copies_r47_r7 l X ad F59 R60 oF59 oR60 wCF59) ml_X11_509 yS_X11_copies rfl e_X11_undo_123 (by unfold g_rr; decide) (by decide) rfl (Nat.le_of_ble_eq_true rfl) (fun w63 h64 => ?_)
    obtain ⟨F67, R68, rfl, oF67, oR68, wCF67, cF67, cR68, zx65, hx66⟩ := h64
    have hk69 := k_ls2 hk61 hx66
    have fF67 : g_fr md_X11_undo F F67 := g_fr_c fF59 cF67 rfl
    have fR68 : g_fr mr_X11_undo R R68 := g_fr_c fR60 cR68 rfl
    refine g_aload_n cx 0 rfl e_X11_undo_126 ?_
    refine g_get cx cl_X11 fl_X11_152 0 (.ref (ad 48)) e_X11_undo_127 rfl rfl ?_
    refine g_aload_n cx 0 rfl e_X11_undo_130 ?_
    refine g_get cx cl_X11 fl_X11_31 0 (.ref (ad 8)) e_X11_undo_131 rfl rfl ?_
    refine g_cSvW cx [.ref (ad 48), .ref (ad 8)] [] (w_X11_copies_r48_r8 l X ad F67 R68 oF67 oR68 wCF67) ml_X11_509 yS_X11_copies rfl e_X11_undo_134 (by unfold g_rr; decide) (by decide) rfl (Nat.le_of_ble_eq_true rfl) (fun w71 h72 => ?_)
    obtain ⟨F75, R76, rfl, oF75, oR76, wCF75, cF75, cR76, zx73, hx74⟩ := h72
    have hk77 := k_ls2 hk69 hx74
    have fF75 : g_fr md_X11_undo F F75 := g_fr_c fF67 cF75 rfl
    have fR76 : g_fr mr_X11_undo R R76 := g_fr_c fR68 cR76 rfl
    refine g_iconst cx 1 (by decide) e_X11_undo_137 ?_
    exact hret e_X11_undo_138 (Nat.le_of_ble_eq_true rfl) (Nat.le_of_ble_eq_true rfl) rfl ⟨F75, R76, rfl, oF75, oR76, (WT_undo hWT (((((((((cF75 4 rfl).trans (cF67 4 rfl)).trans (cF59 4 rfl)).trans (cF51 4 rfl)).trans (cF43 4 rfl)).trans (cF35 4 rfl)).trans (cF27 4 rfl)).trans (cF19 4 rfl)).trans (g_pu1 hF12)) (((((((((((((cF75 82 rfl).trans (cF67 82 rfl)).trans (cF59 82 rfl)).trans (cF51 82 rfl)).trans (cF43 82 rfl)).trans (cF35 82 rfl)).trans (cF27 82 rfl)).trans (cF19 82 rfl)).trans (g_pu2 hF12 rfl)).trans (g_pu2 hF10 rfl)).trans (g_pu2 hF8 rfl)).trans (g_pu2 hF6 rfl)).trans (g_pu2 hF4 rfl)) ((((((((cR76 43 rfl).trans (cR68 43 rfl)).trans (cR60 43 rfl)).trans (cR52 43 rfl)).trans (cR44 43 rfl)).trans (cR36 43 rfl)).trans (cR28 43 rfl)).trans (cR20 43 rfl)) ((((((((cR76 45 rfl).trans (cR68 45 rfl)).trans (cR60 45 rfl)).trans (cR52 45 rfl)).trans (cR44 45 rfl)).trans (cR36 45 rfl)).trans (cR28 45 rfl)).trans (cR20 45 rfl)) (fun j hj => (congrFun (((((cR76 3 rfl).trans (cR68 3 rfl)).trans (cR60 3 rfl)).trans (cR52 3 rfl)).trans (cR44 3 rfl)) j).trans ((zx33 j hj).trans (congrFun ((cR28 43 rfl).trans (cR20 43 rfl)) j))) (fun j hj => (congrFun (((cR76 5 rfl).trans (cR68 5 rfl)).trans (cR60 5 rfl)) j).trans ((zx49 j hj).trans (congrFun ((((cR44 45 rfl).trans (cR36 45 rfl)).trans (cR28 45 rfl)).trans (cR20 45 rfl)) j)))), wCF75, fF75, fR76, (jv_w (jv_k (x := 1) 1 (by decide)) (by decide)), (hk77.symm.trans hSP)⟩
  · have p78 := gn_eq 0 0 (gc_eq zc1) (g_ok_g hI 15 rfl) (jv_k (x := 0) 0 (by decide)) (by decide)
    have hk79 := hk0.trans (if_pos zc1)
    refine g_iconst cx 0 (by decide) e_X11_undo_7 ?_
    exact hret e_X11_undo_8 (Nat.le_of_ble_eq_true rfl) (Nat.le_of_ble_eq_true rfl) rfl ⟨F, R, rfl, hI, hA, hWT, hWC, (g_fr_rf F), (g_fr_rf R), (jv_w (jv_k (x := 0) 0 (by decide)) (by decide)), (hk79.symm.trans hSP)⟩
def KB_X11_tapeNumber_6 (b6 : (Int32) → (Int32) → Int32) (R : Nat → Nat → Int32) (a0 : Int32) (y3 : Int32) (y4 : Int32) : Int32 :=
  k_lt (4 * a0) (fun x5 => k_lt (x5 + 4) (fun x7 => if x7 ≤ y4 then y3 else k_lt (y3 <<< (8 &&& 31)) (fun x14 => k_lt (R 9 (Int32.toNatClampNeg y4)) (fun x16 => k_lt (x16 &&& 255) (fun x18 => k_lt (x14 ||| x18) (fun x20 => k_lt (y4 + 1) (fun x22 => b6 x20 x22)))))))
def K_X11_tapeNumber_6 (R : Nat → Nat → Int32) (a0 : Int32) : Nat → (Int32) → (Int32) → Int32
  | 0 => fun _ _ => 0
  | n + 1 => KB_X11_tapeNumber_6 (K_X11_tapeNumber_6 R a0 n) R a0
def sp_X11_tapeNumber (F : Nat → Int32) (R : Nat → Nat → Int32) (a0 : Int32) : Int32 :=
  k_lt (4 * a0) (fun x1 => K_X11_tapeNumber_6 R a0 8589934592 0 x1)
theorem e_X11_tapeNumber_0 : g_dc cX11_tapeNumber 0 (.iconst 0) 1 1 := ⟨by decide +kernel, rfl⟩
theorem e_X11_tapeNumber_1 : g_dc cX11_tapeNumber 1 (.istore_n 2) 1 2 := ⟨by decide +kernel, rfl⟩
theorem e_X11_tapeNumber_2 : g_dc cX11_tapeNumber 2 (.iconst 4) 1 3 := ⟨by decide +kernel, rfl⟩
theorem e_X11_tapeNumber_3 : g_dc cX11_tapeNumber 3 (.iload_n 1) 1 4 := ⟨by decide +kernel, rfl⟩
theorem e_X11_tapeNumber_4 : g_dc cX11_tapeNumber 4 (.imul) 1 5 := ⟨by decide +kernel, rfl⟩
theorem e_X11_tapeNumber_5 : g_dc cX11_tapeNumber 5 (.istore_n 3) 1 6 := ⟨by decide +kernel, rfl⟩
theorem e_X11_tapeNumber_6 : g_dc cX11_tapeNumber 6 (.iload_n 3) 1 7 := ⟨by decide +kernel, rfl⟩
theorem e_X11_tapeNumber_7 : g_dc cX11_tapeNumber 7 (.iconst 4) 1 8 := ⟨by decide +kernel, rfl⟩
theorem e_X11_tapeNumber_8 : g_dc cX11_tapeNumber 8 (.iload_n 1) 1 9 := ⟨by decide +kernel, rfl⟩
theorem e_X11_tapeNumber_9 : g_dc cX11_tapeNumber 9 (.imul) 1 10 := ⟨by decide +kernel, rfl⟩
theorem e_X11_tapeNumber_10 : g_dc cX11_tapeNumber 10 (.iconst 4) 1 11 := ⟨by decide +kernel, rfl⟩
theorem e_X11_tapeNumber_11 : g_dc cX11_tapeNumber 11 (.iadd) 1 12 := ⟨by decide +kernel, rfl⟩
theorem e_X11_tapeNumber_12 : g_dc cX11_tapeNumber 12 (.if_icmp .ge 25) 3 15 := ⟨by decide +kernel, rfl⟩
theorem e_X11_tapeNumber_15 : g_dc cX11_tapeNumber 15 (.iload_n 2) 1 16 := ⟨by decide +kernel, rfl⟩
theorem e_X11_tapeNumber_16 : g_dc cX11_tapeNumber 16 (.bipush 8) 2 18 := ⟨by decide +kernel, rfl⟩
theorem e_X11_tapeNumber_18 : g_dc cX11_tapeNumber 18 (.ishl) 1 19 := ⟨by decide +kernel, rfl⟩
theorem e_X11_tapeNumber_19 : g_dc cX11_tapeNumber 19 (.aload_n 0) 1 20 := ⟨by decide +kernel, rfl⟩
theorem e_X11_tapeNumber_20 : g_dc cX11_tapeNumber 20 (.getfield 34) 3 23 := ⟨by decide +kernel, rfl⟩
theorem e_X11_tapeNumber_23 : g_dc cX11_tapeNumber 23 (.iload_n 3) 1 24 := ⟨by decide +kernel, rfl⟩
theorem e_X11_tapeNumber_24 : g_dc cX11_tapeNumber 24 (.baload) 1 25 := ⟨by decide +kernel, rfl⟩
theorem e_X11_tapeNumber_25 : g_dc cX11_tapeNumber 25 (.sipush 255) 3 28 := ⟨by decide +kernel, rfl⟩
theorem e_X11_tapeNumber_28 : g_dc cX11_tapeNumber 28 (.iand) 1 29 := ⟨by decide +kernel, rfl⟩
theorem e_X11_tapeNumber_29 : g_dc cX11_tapeNumber 29 (.ior) 1 30 := ⟨by decide +kernel, rfl⟩
theorem e_X11_tapeNumber_30 : g_dc cX11_tapeNumber 30 (.istore_n 2) 1 31 := ⟨by decide +kernel, rfl⟩
theorem e_X11_tapeNumber_31 : g_dc cX11_tapeNumber 31 (.iinc 3 1) 3 34 := ⟨by decide +kernel, rfl⟩
theorem e_X11_tapeNumber_34 : g_dc cX11_tapeNumber 34 (.goto (-28)) 3 37 := ⟨by decide +kernel, rfl⟩
theorem e_X11_tapeNumber_37 : g_dc cX11_tapeNumber 37 (.iload_n 2) 1 38 := ⟨by decide +kernel, rfl⟩
theorem e_X11_tapeNumber_38 : g_dc cX11_tapeNumber 38 (.ireturn) 1 39 := ⟨by decide +kernel, rfl⟩
set_option maxHeartbeats 4000000 in
set_option maxRecDepth 100000 in
theorem w_X11_tapeNumber (l : Launch) (X : gX) (ad : Nat → Nat) (F : Nat → Int32) (R : Nat → Nat → Int32) (hI : g_ok LK_wM F) (hA : g_okR LA_wM R) (hWT : WT F R) (hWC : WC F R) (a0 : Int32) (pa0 : jv 0 9 a0) : g_Ci l X yX11_tapeNumber cX11_tapeNumber 4 (some .int) 1 0 0 [.ref (ad 0), .int a0] (wM X ad F R) (fun r w => w = wM X ad F R ∧ jv (-2147483648) 2147483647 r ∧ r = sp_X11_tapeNumber F R a0) := by
  refine g_mi (by decide +kernel) (Nat.le_of_ble_eq_true rfl) (fun E cx hret => ?_)
  obtain ⟨SP, hSP⟩ : ∃ z, z = sp_X11_tapeNumber F R a0 := ⟨_, rfl⟩
  have hk0 := hSP
  unfold sp_X11_tapeNumber at hk0
  refine g_iconst cx 0 (by decide) e_X11_tapeNumber_0 ?_
  refine g_istore_n cx [(2, .int 0), (0, .ref (ad 0)), (1, .int a0)] e_X11_tapeNumber_1 (by decide) rfl ?_
  refine g_iconst cx 4 (by decide) e_X11_tapeNumber_2 ?_
  refine g_iload_n cx 2 rfl e_X11_tapeNumber_3 ?_
  refine g_imul cx e_X11_tapeNumber_4 ?_
  refine g_topi (fun x1 ex1 => ?_)
  have hk2 := k_ls hk0 ex1
  have zx1 := jv_mul 0 36 ex1 (jv_k (x := 4) 4 (by decide)) pa0 (by decide)
  refine g_istore_n cx [(3, .int x1), (2, .int 0), (0, .ref (ad 0)), (1, .int a0)] e_X11_tapeNumber_5 (by decide) rfl ?_
  have J6 : ∀ (N : Nat) (y3 : Int32) (y4 : Int32), (jv (-2147483648) 2147483647 y3) → (jv 0 40 y4) → (SP = K_X11_tapeNumber_6 R a0 N y3 y4) → (2147483647 - y4.toInt).toNat < N → G X E 4 0 0 (wM X ad F R) [(0, .ref (ad 0)), (1, .int a0), (2, .int y3), (3, .int y4)] 6 [] := by
    intro N
    induction N with
    | zero => intro y3 y4 py3 py4 hkJ6 hm; exact absurd hm (Nat.not_lt_zero _)
    | succ N ih6 =>
      intro y3 y4 py3 py4 hkJ6 hm6
      have hkK6 : SP = KB_X11_tapeNumber_6 (K_X11_tapeNumber_6 R a0 N) R a0 y3 y4 := hkJ6
      obtain ⟨b6, hb6⟩ : ∃ z, z = K_X11_tapeNumber_6 R a0 N := ⟨_, rfl⟩
      rw [← hb6] at hkK6
      unfold KB_X11_tapeNumber_6 at hkK6
      refine g_iload_n cx 3 rfl e_X11_tapeNumber_6 ?_
      refine g_iconst cx 4 (by decide) e_X11_tapeNumber_7 ?_
      refine g_iload_n cx 1 rfl e_X11_tapeNumber_8 ?_
      refine g_imul cx e_X11_tapeNumber_9 ?_
      refine g_topi (fun x5 ex5 => ?_)
      have hk6 := k_ls hkK6 ex5
      have zx5 := jv_mul 0 36 ex5 (jv_k (x := 4) 4 (by decide)) pa0 (by decide)
      refine g_iconst cx 4 (by decide) e_X11_tapeNumber_10 ?_
      refine g_iadd cx e_X11_tapeNumber_11 ?_
      refine g_topi (fun x7 ex7 => ?_)
      have hk8 := k_ls hk6 ex7
      have zx7 := jv_add 4 40 ex7 zx5.2 (jv_k (x := 4) 4 (by decide)) (by decide)
      refine g_icmp_ge cx 37 e_X11_tapeNumber_12 (by decide) (fun zc9 => ?_) (fun zc9 => ?_)
      · have p10 := gn_ge 4 40 (gc_le zc9) py4 zx7.2 (by decide)
        have hk11 := hk8.trans (if_pos zc9)
        refine g_iload_n cx 2 rfl e_X11_tapeNumber_37 ?_
        exact hret e_X11_tapeNumber_38 (Nat.le_of_ble_eq_true rfl) (Nat.le_of_ble_eq_true rfl) rfl ⟨rfl, py3, (hk11.symm.trans hSP)⟩
      · have p12 := gn_lt 0 39 (gc_nle zc9) py4 zx7.2 (by decide)
        have hk13 := hk8.trans (if_neg zc9)
        refine g_iload_n cx 2 rfl e_X11_tapeNumber_15 ?_
        refine g_bipush cx 8 (by decide) e_X11_tapeNumber_16 ?_
        refine g_ishl cx e_X11_tapeNumber_18 ?_
        refine g_topi (fun x14 ex14 => ?_)
        have hk15 := k_ls hk13 ex14
        refine g_aload_n cx 0 rfl e_X11_tapeNumber_19 ?_
        refine g_get cx cl_X11 fl_X11_34 0 (.ref (ad 9)) e_X11_tapeNumber_20 rfl rfl ?_
        refine g_iload_n cx 3 rfl e_X11_tapeNumber_23 ?_
        refine g_bald cx 9 e_X11_tapeNumber_24 rfl (jv_ix 220 p12 (by decide)) ?_
        refine g_topi (fun x16 ex16 => ?_)
        have hk17 := k_ls hk15 ex16
        refine g_sipush cx 255 (by decide) e_X11_tapeNumber_25 ?_
        refine g_iand cx e_X11_tapeNumber_28 ?_
        refine g_topi (fun x18 ex18 => ?_)
        have hk19 := k_ls hk17 ex18
        have px18 := jv_and 0 255 ex18 (jv_k (x := 255) 255 (by decide)) (by decide)
        refine g_ior cx e_X11_tapeNumber_29 ?_
        refine g_topi (fun x20 ex20 => ?_)
        have hk21 := k_ls hk19 ex20
        refine g_istore_n cx [(2, .int x20), (0, .ref (ad 0)), (1, .int a0), (3, .int y4)] e_X11_tapeNumber_30 (by decide) rfl ?_
        obtain ⟨x22, ex22⟩ : ∃ z : Int32, z = y4 + Int32.ofInt 1 := ⟨_, rfl⟩
        have hk23 := k_ls hk21 (show x22 = y4 + 1 from ex22)
        refine g_iinc cx x22 [(3, .int x22), (2, .int x20), (0, .ref (ad 0)), (1, .int a0)] 3 e_X11_tapeNumber_31 rfl ex22.symm (by decide) rfl ?_
        have zx22 := jv_add 1 40 (show x22 = y4 + 1 from ex22) p12 (jv_k (x := 1) 1 (by decide)) (by decide)
        refine g_goto cx 6 e_X11_tapeNumber_34 (by decide) ?_
        refine g_lsub [2, 3, 1, 0] [(0, .ref (ad 0)), (1, .int a0), (2, .int x20), (3, .int x22)] rfl ?_
        exact ih6 x20 x22 (jv_t x20) (jv_w zx22.2 (by decide)) (hk23.trans (by rw [hb6])) (Nat.lt_of_lt_of_le (show (2147483647 - x22.toInt).toNat < (2147483647 - y4.toInt).toNat from by have q0 := (jv_k (x := 1) 1 (by decide)).1; have q1 := (jv_k (x := 1) 1 (by decide)).2; have q2 := (jv_k (x := 4) 4 (by decide)).1; have q3 := (jv_k (x := 4) 4 (by decide)).2; have q4 := pa0.1; have q5 := pa0.2; have q6 := zx1.2.1; have q7 := zx1.2.2; have q8 := zx22.2.1; have q9 := zx22.2.2; have q10 := zx5.2.1; have q11 := zx5.2.2; have q12 := zx7.2.1; have q13 := zx7.2.2; have q14 := p12.1; have q15 := p12.2; have q16 := (g_em2 zx1.1 (by decide : Int32.toInt 4 = 4)); have q17 := (g_em2 zx5.1 (by decide : Int32.toInt 4 = 4)); have q18 := (g_eq0 zx7.1); have q19 := (gc_nle zc9); have q20 := (g_eq0 zx22.1); omega) (Nat.le_of_lt_succ hm6))
  refine g_lsub [2, 3, 1, 0] [(0, .ref (ad 0)), (1, .int a0), (2, .int 0), (3, .int x1)] rfl ?_
  exact J6 8589934592 0 x1 (jv_w (jv_k (x := 0) 0 (by decide)) (by decide)) (jv_w zx1.2 (by decide)) hk2 (show (2147483647 - x1.toInt).toNat < 8589934592 from by have q0 := zx1.2.1; have q1 := zx1.2.2; omega)
def K_X11_check_20 (F : Nat → Int32) (R : Nat → Nat → Int32)  : Int32 × (Nat → Int32) × (Nat → Nat → Int32) :=
  ((-2), F, R)
def K_X11_check_61 (b30 : (Int32) → Int32 × (Nat → Int32) × (Nat → Nat → Int32)) (F15 : Nat → Int32) (R : Nat → Nat → Int32) (r23 : Int32) (y17 : Int32) (y32 : Int32) : Int32 × (Nat → Int32) × (Nat → Nat → Int32) :=
  if r23 = y32 then k_lt (y17 + 1) (fun x35 => b30 x35) else (y17, F15, R)
def KB_X11_check_30 (b30 : (Int32) → Int32 × (Nat → Int32) × (Nat → Nat → Int32)) (F : Nat → Int32) (F15 : Nat → Int32) (R : Nat → Nat → Int32) (a0 : Int32) (y17 : Int32) : Int32 × (Nat → Int32) × (Nat → Nat → Int32) :=
  if a0 ≤ y17 then ((-1), F15, R) else k_lt (sp_X11_tapeNumber F15 R y17) (fun r23 => k_lt (g_hasv (F 4) y17) (fun r28 => if r28 = 0 then K_X11_check_61 b30 F15 R r23 y17 0 else k_lt (R 2 (Int32.toNatClampNeg y17)) (fun x44 => K_X11_check_61 b30 F15 R r23 y17 x44)))
def K_X11_check_30 (F : Nat → Int32) (F15 : Nat → Int32) (R : Nat → Nat → Int32) (a0 : Int32) : Nat → (Int32) → Int32 × (Nat → Int32) × (Nat → Nat → Int32)
  | 0 => fun _ => (0, F15, R)
  | n + 1 => KB_X11_check_30 (K_X11_check_30 F F15 R a0 n) F F15 R a0
def sp_X11_check (F : Nat → Int32) (R : Nat → Nat → Int32) (a0 : Int32) : Int32 × (Nat → Int32) × (Nat → Nat → Int32) :=
  k_lt (g_in a0 0 10) (fun r1 => if r1 = 0 then K_X11_check_20 F R else k_lt ((F 14) / 4) (fun x11 => if a0 ≤ x11 then k_lt (upd F 14 0) (fun F15 => K_X11_check_30 F F15 R a0 8589934592 0) else K_X11_check_20 F R))
theorem e_X11_check_0 : g_dc cX11_check 0 (.iload_n 1) 1 1 := ⟨by decide +kernel, rfl⟩
theorem e_X11_check_1 : g_dc cX11_check 1 (.iconst 0) 1 2 := ⟨by decide +kernel, rfl⟩
theorem e_X11_check_2 : g_dc cX11_check 2 (.bipush 10) 2 4 := ⟨by decide +kernel, rfl⟩
theorem e_X11_check_4 : g_dc cX11_check 4 (.invokestatic 165) 3 7 := ⟨by decide +kernel, rfl⟩
theorem e_X11_check_7 : g_dc cX11_check 7 (.ifCond .eq 13) 3 10 := ⟨by decide +kernel, rfl⟩
theorem e_X11_check_10 : g_dc cX11_check 10 (.iload_n 1) 1 11 := ⟨by decide +kernel, rfl⟩
theorem e_X11_check_11 : g_dc cX11_check 11 (.aload_n 0) 1 12 := ⟨by decide +kernel, rfl⟩
theorem e_X11_check_12 : g_dc cX11_check 12 (.getfield 183) 3 15 := ⟨by decide +kernel, rfl⟩
theorem e_X11_check_15 : g_dc cX11_check 15 (.iconst 4) 1 16 := ⟨by decide +kernel, rfl⟩
theorem e_X11_check_16 : g_dc cX11_check 16 (.idiv) 1 17 := ⟨by decide +kernel, rfl⟩
theorem e_X11_check_17 : g_dc cX11_check 17 (.if_icmp .le 6) 3 20 := ⟨by decide +kernel, rfl⟩
theorem e_X11_check_20 : g_dc cX11_check 20 (.bipush (-2)) 2 22 := ⟨by decide +kernel, rfl⟩
theorem e_X11_check_22 : g_dc cX11_check 22 (.ireturn) 1 23 := ⟨by decide +kernel, rfl⟩
theorem e_X11_check_23 : g_dc cX11_check 23 (.aload_n 0) 1 24 := ⟨by decide +kernel, rfl⟩
theorem e_X11_check_24 : g_dc cX11_check 24 (.iconst 0) 1 25 := ⟨by decide +kernel, rfl⟩
theorem e_X11_check_25 : g_dc cX11_check 25 (.putfield 183) 3 28 := ⟨by decide +kernel, rfl⟩
theorem e_X11_check_28 : g_dc cX11_check 28 (.iconst 0) 1 29 := ⟨by decide +kernel, rfl⟩
theorem e_X11_check_29 : g_dc cX11_check 29 (.istore_n 2) 1 30 := ⟨by decide +kernel, rfl⟩
theorem e_X11_check_30 : g_dc cX11_check 30 (.iload_n 2) 1 31 := ⟨by decide +kernel, rfl⟩
theorem e_X11_check_31 : g_dc cX11_check 31 (.iload_n 1) 1 32 := ⟨by decide +kernel, rfl⟩
theorem e_X11_check_32 : g_dc cX11_check 32 (.if_icmp .ge 40) 3 35 := ⟨by decide +kernel, rfl⟩
theorem e_X11_check_35 : g_dc cX11_check 35 (.aload_n 0) 1 36 := ⟨by decide +kernel, rfl⟩
theorem e_X11_check_36 : g_dc cX11_check 36 (.iload_n 2) 1 37 := ⟨by decide +kernel, rfl⟩
theorem e_X11_check_37 : g_dc cX11_check 37 (.invokevirtual 513) 3 40 := ⟨by decide +kernel, rfl⟩
theorem e_X11_check_40 : g_dc cX11_check 40 (.aload_n 0) 1 41 := ⟨by decide +kernel, rfl⟩
theorem e_X11_check_41 : g_dc cX11_check 41 (.getfield 172) 3 44 := ⟨by decide +kernel, rfl⟩
theorem e_X11_check_44 : g_dc cX11_check 44 (.iload_n 2) 1 45 := ⟨by decide +kernel, rfl⟩
theorem e_X11_check_45 : g_dc cX11_check 45 (.invokestatic 175) 3 48 := ⟨by decide +kernel, rfl⟩
theorem e_X11_check_48 : g_dc cX11_check 48 (.ifCond .eq 12) 3 51 := ⟨by decide +kernel, rfl⟩
theorem e_X11_check_51 : g_dc cX11_check 51 (.aload_n 0) 1 52 := ⟨by decide +kernel, rfl⟩
theorem e_X11_check_52 : g_dc cX11_check 52 (.getfield 13) 3 55 := ⟨by decide +kernel, rfl⟩
theorem e_X11_check_55 : g_dc cX11_check 55 (.iload_n 2) 1 56 := ⟨by decide +kernel, rfl⟩
theorem e_X11_check_56 : g_dc cX11_check 56 (.iaload) 1 57 := ⟨by decide +kernel, rfl⟩
theorem e_X11_check_57 : g_dc cX11_check 57 (.goto 4) 3 60 := ⟨by decide +kernel, rfl⟩
theorem e_X11_check_60 : g_dc cX11_check 60 (.iconst 0) 1 61 := ⟨by decide +kernel, rfl⟩
theorem e_X11_check_61 : g_dc cX11_check 61 (.if_icmp .eq 5) 3 64 := ⟨by decide +kernel, rfl⟩
theorem e_X11_check_64 : g_dc cX11_check 64 (.iload_n 2) 1 65 := ⟨by decide +kernel, rfl⟩
theorem e_X11_check_65 : g_dc cX11_check 65 (.ireturn) 1 66 := ⟨by decide +kernel, rfl⟩
theorem e_X11_check_66 : g_dc cX11_check 66 (.iinc 2 1) 3 69 := ⟨by decide +kernel, rfl⟩
theorem e_X11_check_69 : g_dc cX11_check 69 (.goto (-39)) 3 72 := ⟨by decide +kernel, rfl⟩
theorem e_X11_check_72 : g_dc cX11_check 72 (.iconst (-1)) 1 73 := ⟨by decide +kernel, rfl⟩
theorem e_X11_check_73 : g_dc cX11_check 73 (.ireturn) 1 74 := ⟨by decide +kernel, rfl⟩
def md_X11_check : List Nat := [14]
def mr_X11_check : List Nat := []
set_option maxHeartbeats 4000000 in
set_option maxRecDepth 100000 in
theorem w_X11_check (l : Launch) (X : gX) (ad : Nat → Nat) (F : Nat → Int32) (R : Nat → Nat → Int32) (hI : g_ok LK_wM F) (hA : g_okR LA_wM R) (hWT : WT F R) (hWC : WC F R) (a0 : Int32) : g_Ci l X yX11_check cX11_check 3 (some .int) 2 0 0 [.ref (ad 0), .int a0] (wM X ad F R) (fun r w => ∃ (F' : Nat → Int32) (R' : Nat → Nat → Int32), w = wM X ad F' R' ∧ g_ok LK_wM F' ∧ g_okR LA_wM R' ∧ WT F' R' ∧ WC F' R' ∧ g_fr md_X11_check F F' ∧ g_fr mr_X11_check R R' ∧ jv (-2) 9 r ∧ (r, F', R') = sp_X11_check F R a0) := by
  refine g_mi (by decide +kernel) (Nat.le_of_ble_eq_true rfl) (fun E cx hret => ?_)
  obtain ⟨SP, hSP⟩ : ∃ z, z = sp_X11_check F R a0 := ⟨_, rfl⟩
  have hk0 := hSP
  unfold sp_X11_check at hk0
  refine g_iload_n cx 1 rfl e_X11_check_0 ?_
  refine g_iconst cx 0 (by decide) e_X11_check_1 ?_
  refine g_bipush cx 10 (by decide) e_X11_check_2 ?_
  refine g_cSiW cx [.int a0, .int 0, .int 10] [] (c_X11_in l X (wM X ad F R) a0 0 10) ml_X11_165 yS_X11_in rfl e_X11_check_4 (by unfold g_rr; decide) (by decide) rfl (Nat.le_of_ble_eq_true rfl) (fun r1 w2 h3 => ?_)
  obtain ⟨rfl, hr1⟩ := h3
  have pr1 : jv 0 1 r1 := by rw [hr1]; exact gi_01 _ _ _
  have hk4 := k_ls hk0 hr1
  have J20 : (SP = K_X11_check_20 F R) → G X E 3 0 0 (wM X ad F R) [] 20 [] := by
    intro   hkJ20
    unfold K_X11_check_20 at hkJ20
    refine g_bipush cx (-2) (by decide) e_X11_check_20 ?_
    exact hret e_X11_check_22 (Nat.le_of_ble_eq_true rfl) (Nat.le_of_ble_eq_true rfl) rfl ⟨F, R, rfl, hI, hA, hWT, hWC, (g_fr_rf F), (g_fr_rf R), (jv_w (jv_k (x := (-2)) (-2) (by decide)) (by decide)), (hkJ20.symm.trans hSP)⟩
  refine g_if_eq cx 20 e_X11_check_7 (by decide) (fun zc5 => ?_) (fun zc5 => ?_)
  · have p6 := gn_eq 0 0 (gc_eq zc5) pr1 (jv_k (x := 0) 0 (by decide)) (by decide)
    have hk7 := hk4.trans (if_pos zc5)
    refine g_lsub [] [] rfl ?_
    exact J20  hk7
  · have p8 := gn_neL 1 1 (gc_ne zc5) pr1 (jv_k (x := 0) 0 (by decide)) (by decide)
    have p9 := jv_i 0 10 (jv_t a0) (gi_in (A := 0) (B := 10) hr1 zc5 (by decide) (by decide)) (by decide)
    have hk10 := hk4.trans (if_neg zc5)
    refine g_iload_n cx 1 rfl e_X11_check_10 ?_
    refine g_aload_n cx 0 rfl e_X11_check_11 ?_
    refine g_get cx cl_X11 fl_X11_183 0 (.int (F 14)) e_X11_check_12 rfl rfl ?_
    refine g_iconst cx 4 (by decide) e_X11_check_15 ?_
    refine g_idiv cx (by decide) e_X11_check_16 ?_
    refine g_topi (fun x11 ex11 => ?_)
    have hk12 := k_ls hk10 ex11
    have zx11 := jv_div 0 55 ex11 (g_ok_g hI 0 rfl) (jv_k (x := 4) 4 (by decide)) (by decide)
    refine g_icmp_le cx 23 e_X11_check_17 (by decide) (fun zc13 => ?_) (fun zc13 => ?_)
    · have hk14 := hk12.trans (if_pos zc13)
      refine g_aload_n cx 0 rfl e_X11_check_23 ?_
      refine g_iconst cx 0 (by decide) e_X11_check_24 ?_
      refine g_put cx cl_X11 fl_X11_183 0 (wM X ad (upd F 14 0) R) e_X11_check_25 rfl rfl rfl rfl (Nat.le_of_ble_eq_true rfl) rfl ?_
      obtain ⟨F15, hF15⟩ : ∃ z, z = upd F 14 0 := ⟨_, rfl⟩
      rw [← hF15]
      have hk16 := k_ls hk14 hF15
      have oF15 : g_ok LK_wM F15 := by rw [hF15]; exact g_ok_p hI (jv_k (x := 0) 0 (by decide)) rfl
      have fF15 : g_fr md_X11_check F F15 := by rw [hF15]; exact g_fr_u (g_fr_rf F) rfl
      have wTF15 : WT F15 R := by rw [hF15]; exact WT_u hWT rfl
      have wCF15 : WC F15 R := by rw [hF15]; exact WC_u hWC rfl
      refine g_iconst cx 0 (by decide) e_X11_check_28 ?_
      refine g_istore_n cx [(2, .int 0), (0, .ref (ad 0)), (1, .int a0)] e_X11_check_29 (by decide) rfl ?_
      have J30 : ∀ (N : Nat) (y17 : Int32), (jv 0 10 y17) → (SP = K_X11_check_30 F F15 R a0 N y17) → (2147483647 - y17.toInt).toNat < N → G X E 3 0 0 (wM X ad F15 R) [(0, .ref (ad 0)), (1, .int a0), (2, .int y17)] 30 [] := by
        intro N
        induction N with
        | zero => intro y17 py17 hkJ30 hm; exact absurd hm (Nat.not_lt_zero _)
        | succ N ih30 =>
          intro y17 py17 hkJ30 hm30
          have hkK30 : SP = KB_X11_check_30 (K_X11_check_30 F F15 R a0 N) F F15 R a0 y17 := hkJ30
          obtain ⟨b30, hb30⟩ : ∃ z, z = K_X11_check_30 F F15 R a0 N := ⟨_, rfl⟩
          rw [← hb30] at hkK30
          unfold KB_X11_check_30 at hkK30
          refine g_iload_n cx 2 rfl e_X11_check_30 ?_
          refine g_iload_n cx 1 rfl e_X11_check_31 ?_
          refine g_icmp_ge cx 72 e_X11_check_32 (by decide) (fun zc18 => ?_) (fun zc18 => ?_)
          · have hk19 := hkK30.trans (if_pos zc18)
            refine g_iconst cx (-1) (by decide) e_X11_check_72 ?_
            exact hret e_X11_check_73 (Nat.le_of_ble_eq_true rfl) (Nat.le_of_ble_eq_true rfl) rfl ⟨F15, R, rfl, oF15, hA, wTF15, wCF15, fF15, (g_fr_rf R), (jv_w (jv_k (x := (-1)) (-1) (by decide)) (by decide)), (hk19.symm.trans hSP)⟩
          · have p20 := gn_lt 0 9 (gc_nle zc18) py17 p9 (by decide)
            have p21 := gn_gt 1 10 (gc_nle zc18) p9 py17 (by decide)
            have hk22 := hkK30.trans (if_neg zc18)
            refine g_aload_n cx 0 rfl e_X11_check_35 ?_
            refine g_iload_n cx 2 rfl e_X11_check_36 ?_
            refine g_cViW cx [.int y17] [] (w_X11_tapeNumber l X ad F15 R oF15 hA wTF15 wCF15 y17 p20) ml_X11_513 yV_X11_tapeNumber e_X11_check_37 (by unfold g_rr; decide) (by decide) 0 rfl rfl rfl (Nat.le_of_ble_eq_true rfl) (fun r23 w24 h25 => ?_)
            obtain ⟨rfl, pr23, hx26⟩ := h25
            have hk27 := k_ls hk22 hx26
            refine g_aload_n cx 0 rfl e_X11_check_40 ?_
            refine g_get cx cl_X11 fl_X11_172 0 (.int (F15 4)) e_X11_check_41 rfl rfl ?_
            refine g_toi (F 4) (g_pu2 hF15 rfl) ?_
            refine g_iload_n cx 2 rfl e_X11_check_44 ?_
            refine g_cSiW cx [.int (F 4), .int y17] [.int r23] (c_X11_has l X (wM X ad F15 R) (F 4) y17) ml_X11_175 yS_X11_has rfl e_X11_check_45 (by unfold g_rr; decide) (by decide) rfl (Nat.le_of_ble_eq_true rfl) (fun r28 w29 h30 => ?_)
            obtain ⟨rfl, hr28⟩ := h30
            have pr28 : jv 0 1 r28 := by rcases hr28 with q | q <;> rw [q.1] <;> exact ⟨by decide, by decide⟩
            have hk31 := k_ls hk27 (g_has_e hr28)
            have J61 : ∀ (y32 : Int32), (jv (-2147483648) 2147483647 y32) → (SP = K_X11_check_61 b30 F15 R r23 y17 y32) → G X E 3 0 0 (wM X ad F15 R) [(0, .ref (ad 0)), (1, .int a0), (2, .int y17)] 61 [.int y32, .int r23] := by
              intro y32 py32 hkJ61
              unfold K_X11_check_61 at hkJ61
              refine g_icmp_eq cx 66 e_X11_check_61 (by decide) (fun zc33 => ?_) (fun zc33 => ?_)
              · have hk34 := hkJ61.trans (if_pos zc33)
                obtain ⟨x35, ex35⟩ : ∃ z : Int32, z = y17 + Int32.ofInt 1 := ⟨_, rfl⟩
                have hk36 := k_ls hk34 (show x35 = y17 + 1 from ex35)
                refine g_iinc cx x35 [(2, .int x35), (0, .ref (ad 0)), (1, .int a0)] 2 e_X11_check_66 rfl ex35.symm (by decide) rfl ?_
                have zx35 := jv_add 1 10 (show x35 = y17 + 1 from ex35) p20 (jv_k (x := 1) 1 (by decide)) (by decide)
                refine g_goto cx 30 e_X11_check_69 (by decide) ?_
                refine g_lsub [1, 2, 0] [(0, .ref (ad 0)), (1, .int a0), (2, .int x35)] rfl ?_
                exact ih30 x35 (jv_w zx35.2 (by decide)) (hk36.trans (by rw [hb30])) (Nat.lt_of_lt_of_le (show (2147483647 - x35.toInt).toNat < (2147483647 - y17.toInt).toNat from by have q0 := (jv_k (x := 1) 1 (by decide)).1; have q1 := (jv_k (x := 1) 1 (by decide)).2; have q2 := (g_ok_g hI 0 rfl).1; have q3 := (g_ok_g hI 0 rfl).2; have q4 := p21.1; have q5 := p21.2; have q6 := zx11.2.1; have q7 := zx11.2.2; have q8 := zx35.2.1; have q9 := zx35.2.2; have q10 := p20.1; have q11 := p20.2; have q12 := (g_ed zx11.1 (by decide : Int32.toInt 4 = 4)); have q13 := (gc_le zc13); have q14 := (gc_nle zc18); have q15 := (g_eq0 zx35.1); omega) (Nat.le_of_lt_succ hm30))
              · have hk37 := hkJ61.trans (if_neg zc33)
                refine g_iload_n cx 2 rfl e_X11_check_64 ?_
                exact hret e_X11_check_65 (Nat.le_of_ble_eq_true rfl) (Nat.le_of_ble_eq_true rfl) rfl ⟨F15, R, rfl, oF15, hA, wTF15, wCF15, fF15, (g_fr_rf R), (jv_w p20 (by decide)), (hk37.symm.trans hSP)⟩
            refine g_if_eq cx 60 e_X11_check_48 (by decide) (fun zc38 => ?_) (fun zc38 => ?_)
            · have p39 := gn_eq 0 0 (gc_eq zc38) pr28 (jv_k (x := 0) 0 (by decide)) (by decide)
              have hk40 := hk31.trans (if_pos zc38)
              refine g_iconst cx 0 (by decide) e_X11_check_60 ?_
              exact J61 0 (jv_w (jv_k (x := 0) 0 (by decide)) (by decide)) hk40
            · have p41 := gn_neL 1 1 (gc_ne zc38) pr28 (jv_k (x := 0) 0 (by decide)) (by decide)
              have zb42 : hb (F 4) y17 := g_hasy hr28 zc38
              have hk43 := hk31.trans (if_neg zc38)
              refine g_aload_n cx 0 rfl e_X11_check_51 ?_
              refine g_get cx cl_X11 fl_X11_13 0 (.ref (ad 2)) e_X11_check_52 rfl rfl ?_
              refine g_iload_n cx 2 rfl e_X11_check_55 ?_
              refine g_iald cx 2 e_X11_check_56 rfl (jv_ix 10 p20 (by decide)) ?_
              refine g_topi (fun x44 ex44 => ?_)
              have hk45 := k_ls hk43 ex44
              refine g_goto cx 61 e_X11_check_57 (by decide) ?_
              exact J61 x44 (jv_t x44) hk45
      refine g_lsub [1, 2, 0] [(0, .ref (ad 0)), (1, .int a0), (2, .int 0)] rfl ?_
      exact J30 8589934592 0 (jv_w (jv_k (x := 0) 0 (by decide)) (by decide)) hk16 (show (2147483647 - (0 : Int32).toInt).toNat < 8589934592 from by have q0 := (jv_k (x := 0) 0 (by decide)).1; have q1 := (jv_k (x := 0) 0 (by decide)).2; omega)
    · have p46 := gn_lt 0 9 (gc_nle zc13) zx11.2 p9 (by decide)
      have p47 := gn_gt 1 10 (gc_nle zc13) p9 zx11.2 (by decide)
      have hk48 := hk12.trans (if_neg zc13)
      refine g_lsub [] [] rfl ?_
      exact J20  hk48
def K_X11_count_117  (y27 : Int32) : Int32 :=
  y27
def sp_X11_count (F : Nat → Int32) (R : Nat → Nat → Int32) (a0 : Int32) : Int32 :=
  k_lt (a0) (fun zy1 => if zy1.toInt = 0 then (F 0) else if zy1.toInt = 1 then (F 1) else if zy1.toInt = 2 then (F 2) else if zy1.toInt = 3 then (F 4) else if zy1.toInt = 4 then (F 19) else if zy1.toInt = 5 then (F 28) else if zy1.toInt = 6 then (F 14) else if zy1.toInt = 7 then (F 3) else k_lt (99 + (F 19)) (fun x21 => k_lt (g_in a0 100 x21) (fun r23 => if r23 = 0 then K_X11_count_117 (-1) else k_lt (a0 - 100) (fun x37 => k_lt (R 10 (Int32.toNatClampNeg x37)) (fun x39 => K_X11_count_117 x39)))))
theorem e_X11_count_0 : g_dc cX11_count 0 (.iload_n 1) 1 1 := ⟨by decide +kernel, rfl⟩
theorem e_X11_count_1 : g_dc cX11_count 1 (.tableswitch 87 0 7 #[47, 52, 57, 62, 67, 72, 77, 82]) 47 48 := ⟨by decide +kernel, rfl⟩
theorem e_X11_count_48 : g_dc cX11_count 48 (.aload_n 0) 1 49 := ⟨by decide +kernel, rfl⟩
theorem e_X11_count_49 : g_dc cX11_count 49 (.getfield 155) 3 52 := ⟨by decide +kernel, rfl⟩
theorem e_X11_count_52 : g_dc cX11_count 52 (.ireturn) 1 53 := ⟨by decide +kernel, rfl⟩
theorem e_X11_count_53 : g_dc cX11_count 53 (.aload_n 0) 1 54 := ⟨by decide +kernel, rfl⟩
theorem e_X11_count_54 : g_dc cX11_count 54 (.getfield 159) 3 57 := ⟨by decide +kernel, rfl⟩
theorem e_X11_count_57 : g_dc cX11_count 57 (.ireturn) 1 58 := ⟨by decide +kernel, rfl⟩
theorem e_X11_count_58 : g_dc cX11_count 58 (.aload_n 0) 1 59 := ⟨by decide +kernel, rfl⟩
theorem e_X11_count_59 : g_dc cX11_count 59 (.getfield 169) 3 62 := ⟨by decide +kernel, rfl⟩
theorem e_X11_count_62 : g_dc cX11_count 62 (.ireturn) 1 63 := ⟨by decide +kernel, rfl⟩
theorem e_X11_count_63 : g_dc cX11_count 63 (.aload_n 0) 1 64 := ⟨by decide +kernel, rfl⟩
theorem e_X11_count_64 : g_dc cX11_count 64 (.getfield 172) 3 67 := ⟨by decide +kernel, rfl⟩
theorem e_X11_count_67 : g_dc cX11_count 67 (.ireturn) 1 68 := ⟨by decide +kernel, rfl⟩
theorem e_X11_count_68 : g_dc cX11_count 68 (.aload_n 0) 1 69 := ⟨by decide +kernel, rfl⟩
theorem e_X11_count_69 : g_dc cX11_count 69 (.getfield 228) 3 72 := ⟨by decide +kernel, rfl⟩
theorem e_X11_count_72 : g_dc cX11_count 72 (.ireturn) 1 73 := ⟨by decide +kernel, rfl⟩
theorem e_X11_count_73 : g_dc cX11_count 73 (.aload_n 0) 1 74 := ⟨by decide +kernel, rfl⟩
theorem e_X11_count_74 : g_dc cX11_count 74 (.getfield 298) 3 77 := ⟨by decide +kernel, rfl⟩
theorem e_X11_count_77 : g_dc cX11_count 77 (.ireturn) 1 78 := ⟨by decide +kernel, rfl⟩
theorem e_X11_count_78 : g_dc cX11_count 78 (.aload_n 0) 1 79 := ⟨by decide +kernel, rfl⟩
theorem e_X11_count_79 : g_dc cX11_count 79 (.getfield 183) 3 82 := ⟨by decide +kernel, rfl⟩
theorem e_X11_count_82 : g_dc cX11_count 82 (.ireturn) 1 83 := ⟨by decide +kernel, rfl⟩
theorem e_X11_count_83 : g_dc cX11_count 83 (.aload_n 0) 1 84 := ⟨by decide +kernel, rfl⟩
theorem e_X11_count_84 : g_dc cX11_count 84 (.getfield 162) 3 87 := ⟨by decide +kernel, rfl⟩
theorem e_X11_count_87 : g_dc cX11_count 87 (.ireturn) 1 88 := ⟨by decide +kernel, rfl⟩
theorem e_X11_count_88 : g_dc cX11_count 88 (.iload_n 1) 1 89 := ⟨by decide +kernel, rfl⟩
theorem e_X11_count_89 : g_dc cX11_count 89 (.bipush 100) 2 91 := ⟨by decide +kernel, rfl⟩
theorem e_X11_count_91 : g_dc cX11_count 91 (.bipush 99) 2 93 := ⟨by decide +kernel, rfl⟩
theorem e_X11_count_93 : g_dc cX11_count 93 (.aload_n 0) 1 94 := ⟨by decide +kernel, rfl⟩
theorem e_X11_count_94 : g_dc cX11_count 94 (.getfield 228) 3 97 := ⟨by decide +kernel, rfl⟩
theorem e_X11_count_97 : g_dc cX11_count 97 (.iadd) 1 98 := ⟨by decide +kernel, rfl⟩
theorem e_X11_count_98 : g_dc cX11_count 98 (.invokestatic 165) 3 101 := ⟨by decide +kernel, rfl⟩
theorem e_X11_count_101 : g_dc cX11_count 101 (.ifCond .eq 15) 3 104 := ⟨by decide +kernel, rfl⟩
theorem e_X11_count_104 : g_dc cX11_count 104 (.aload_n 0) 1 105 := ⟨by decide +kernel, rfl⟩
theorem e_X11_count_105 : g_dc cX11_count 105 (.getfield 38) 3 108 := ⟨by decide +kernel, rfl⟩
theorem e_X11_count_108 : g_dc cX11_count 108 (.iload_n 1) 1 109 := ⟨by decide +kernel, rfl⟩
theorem e_X11_count_109 : g_dc cX11_count 109 (.bipush 100) 2 111 := ⟨by decide +kernel, rfl⟩
theorem e_X11_count_111 : g_dc cX11_count 111 (.isub) 1 112 := ⟨by decide +kernel, rfl⟩
theorem e_X11_count_112 : g_dc cX11_count 112 (.iaload) 1 113 := ⟨by decide +kernel, rfl⟩
theorem e_X11_count_113 : g_dc cX11_count 113 (.goto 4) 3 116 := ⟨by decide +kernel, rfl⟩
theorem e_X11_count_116 : g_dc cX11_count 116 (.iconst (-1)) 1 117 := ⟨by decide +kernel, rfl⟩
theorem e_X11_count_117 : g_dc cX11_count 117 (.ireturn) 1 118 := ⟨by decide +kernel, rfl⟩
set_option maxHeartbeats 4000000 in
set_option maxRecDepth 100000 in
theorem w_X11_count (l : Launch) (X : gX) (ad : Nat → Nat) (F : Nat → Int32) (R : Nat → Nat → Int32) (hI : g_ok LK_wM F) (hA : g_okR LA_wM R) (hWT : WT F R) (hWC : WC F R) (a0 : Int32) : g_Ci l X yX11_count cX11_count 2 (some .int) 2 0 0 [.ref (ad 0), .int a0] (wM X ad F R) (fun r w => w = wM X ad F R ∧ jv (-2147483648) 2147483647 r ∧ r = sp_X11_count F R a0) := by
  refine g_mi (by decide +kernel) (Nat.le_of_ble_eq_true rfl) (fun E cx hret => ?_)
  obtain ⟨SP, hSP⟩ : ∃ z, z = sp_X11_count F R a0 := ⟨_, rfl⟩
  have hk0 := hSP
  unfold sp_X11_count at hk0
  refine g_iload_n cx 1 rfl e_X11_count_0 ?_
  refine g_topi (fun zy1 ezy1 => ?_)
  have hk2 := k_ls hk0 ezy1
  rcases g_sw 0 7 zy1 with ⟨zw3n, zw3h, zw3e⟩ | zw3
  · have zw3d : zw3n = 0 ∨ zw3n = 1 ∨ zw3n = 2 ∨ zw3n = 3 ∨ zw3n = 4 ∨ zw3n = 5 ∨ zw3n = 6 ∨ zw3n = 7 := by omega
    rcases zw3d with rfl | rfl | rfl | rfl | rfl | rfl | rfl | rfl
    · refine g_tableIn cx 48 e_X11_count_1 (by rw [zw3e]; decide) (by rw [zw3e]; decide) (by rw [zw3e]; rfl) (by decide) ?_
      have p4 : jv 0 0 a0 := by rw [← ezy1]; exact jv_k 0 (by rw [zw3e]; rfl)
      have hk5 := (hk2.trans (if_pos (by rw [zw3e]; decide)))
      refine g_aload_n cx 0 rfl e_X11_count_48 ?_
      refine g_get cx cl_X11 fl_X11_155 0 (.int (F 0)) e_X11_count_49 rfl rfl ?_
      exact hret e_X11_count_52 (Nat.le_of_ble_eq_true rfl) (Nat.le_of_ble_eq_true rfl) rfl ⟨rfl, (jv_t (F 0)), (hk5.symm.trans hSP)⟩
    · refine g_tableIn cx 53 e_X11_count_1 (by rw [zw3e]; decide) (by rw [zw3e]; decide) (by rw [zw3e]; rfl) (by decide) ?_
      have p6 : jv 1 1 a0 := by rw [← ezy1]; exact jv_k 1 (by rw [zw3e]; rfl)
      have hk7 := ((hk2.trans (if_neg (by rw [zw3e]; decide))).trans (if_pos (by rw [zw3e]; decide)))
      refine g_aload_n cx 0 rfl e_X11_count_53 ?_
      refine g_get cx cl_X11 fl_X11_159 0 (.int (F 1)) e_X11_count_54 rfl rfl ?_
      exact hret e_X11_count_57 (Nat.le_of_ble_eq_true rfl) (Nat.le_of_ble_eq_true rfl) rfl ⟨rfl, (jv_t (F 1)), (hk7.symm.trans hSP)⟩
    · refine g_tableIn cx 58 e_X11_count_1 (by rw [zw3e]; decide) (by rw [zw3e]; decide) (by rw [zw3e]; rfl) (by decide) ?_
      have p8 : jv 2 2 a0 := by rw [← ezy1]; exact jv_k 2 (by rw [zw3e]; rfl)
      have hk9 := (((hk2.trans (if_neg (by rw [zw3e]; decide))).trans (if_neg (by rw [zw3e]; decide))).trans (if_pos (by rw [zw3e]; decide)))
      refine g_aload_n cx 0 rfl e_X11_count_58 ?_
      refine g_get cx cl_X11 fl_X11_169 0 (.int (F 2)) e_X11_count_59 rfl rfl ?_
      exact hret e_X11_count_62 (Nat.le_of_ble_eq_true rfl) (Nat.le_of_ble_eq_true rfl) rfl ⟨rfl, (jv_t (F 2)), (hk9.symm.trans hSP)⟩
    · refine g_tableIn cx 63 e_X11_count_1 (by rw [zw3e]; decide) (by rw [zw3e]; decide) (by rw [zw3e]; rfl) (by decide) ?_
      have p10 : jv 3 3 a0 := by rw [← ezy1]; exact jv_k 3 (by rw [zw3e]; rfl)
      have hk11 := ((((hk2.trans (if_neg (by rw [zw3e]; decide))).trans (if_neg (by rw [zw3e]; decide))).trans (if_neg (by rw [zw3e]; decide))).trans (if_pos (by rw [zw3e]; decide)))
      refine g_aload_n cx 0 rfl e_X11_count_63 ?_
      refine g_get cx cl_X11 fl_X11_172 0 (.int (F 4)) e_X11_count_64 rfl rfl ?_
      exact hret e_X11_count_67 (Nat.le_of_ble_eq_true rfl) (Nat.le_of_ble_eq_true rfl) rfl ⟨rfl, (jv_t (F 4)), (hk11.symm.trans hSP)⟩
    · refine g_tableIn cx 68 e_X11_count_1 (by rw [zw3e]; decide) (by rw [zw3e]; decide) (by rw [zw3e]; rfl) (by decide) ?_
      have p12 : jv 4 4 a0 := by rw [← ezy1]; exact jv_k 4 (by rw [zw3e]; rfl)
      have hk13 := (((((hk2.trans (if_neg (by rw [zw3e]; decide))).trans (if_neg (by rw [zw3e]; decide))).trans (if_neg (by rw [zw3e]; decide))).trans (if_neg (by rw [zw3e]; decide))).trans (if_pos (by rw [zw3e]; decide)))
      refine g_aload_n cx 0 rfl e_X11_count_68 ?_
      refine g_get cx cl_X11 fl_X11_228 0 (.int (F 19)) e_X11_count_69 rfl rfl ?_
      exact hret e_X11_count_72 (Nat.le_of_ble_eq_true rfl) (Nat.le_of_ble_eq_true rfl) rfl ⟨rfl, (jv_w (g_ok_g hI 3 rfl) (by decide)), (hk13.symm.trans hSP)⟩
    · refine g_tableIn cx 73 e_X11_count_1 (by rw [zw3e]; decide) (by rw [zw3e]; decide) (by rw [zw3e]; rfl) (by decide) ?_
      have p14 : jv 5 5 a0 := by rw [← ezy1]; exact jv_k 5 (by rw [zw3e]; rfl)
      have hk15 := ((((((hk2.trans (if_neg (by rw [zw3e]; decide))).trans (if_neg (by rw [zw3e]; decide))).trans (if_neg (by rw [zw3e]; decide))).trans (if_neg (by rw [zw3e]; decide))).trans (if_neg (by rw [zw3e]; decide))).trans (if_pos (by rw [zw3e]; decide)))
      refine g_aload_n cx 0 rfl e_X11_count_73 ?_
      refine g_get cx cl_X11 fl_X11_298 0 (.int (F 28)) e_X11_count_74 rfl rfl ?_
      exact hret e_X11_count_77 (Nat.le_of_ble_eq_true rfl) (Nat.le_of_ble_eq_true rfl) rfl ⟨rfl, (jv_w (g_ok_g hI 10 rfl) (by decide)), (hk15.symm.trans hSP)⟩
    · refine g_tableIn cx 78 e_X11_count_1 (by rw [zw3e]; decide) (by rw [zw3e]; decide) (by rw [zw3e]; rfl) (by decide) ?_
      have p16 : jv 6 6 a0 := by rw [← ezy1]; exact jv_k 6 (by rw [zw3e]; rfl)
      have hk17 := (((((((hk2.trans (if_neg (by rw [zw3e]; decide))).trans (if_neg (by rw [zw3e]; decide))).trans (if_neg (by rw [zw3e]; decide))).trans (if_neg (by rw [zw3e]; decide))).trans (if_neg (by rw [zw3e]; decide))).trans (if_neg (by rw [zw3e]; decide))).trans (if_pos (by rw [zw3e]; decide)))
      refine g_aload_n cx 0 rfl e_X11_count_78 ?_
      refine g_get cx cl_X11 fl_X11_183 0 (.int (F 14)) e_X11_count_79 rfl rfl ?_
      exact hret e_X11_count_82 (Nat.le_of_ble_eq_true rfl) (Nat.le_of_ble_eq_true rfl) rfl ⟨rfl, (jv_w (g_ok_g hI 0 rfl) (by decide)), (hk17.symm.trans hSP)⟩
    · refine g_tableIn cx 83 e_X11_count_1 (by rw [zw3e]; decide) (by rw [zw3e]; decide) (by rw [zw3e]; rfl) (by decide) ?_
      have p18 : jv 7 7 a0 := by rw [← ezy1]; exact jv_k 7 (by rw [zw3e]; rfl)
      have hk19 := ((((((((hk2.trans (if_neg (by rw [zw3e]; decide))).trans (if_neg (by rw [zw3e]; decide))).trans (if_neg (by rw [zw3e]; decide))).trans (if_neg (by rw [zw3e]; decide))).trans (if_neg (by rw [zw3e]; decide))).trans (if_neg (by rw [zw3e]; decide))).trans (if_neg (by rw [zw3e]; decide))).trans (if_pos (by rw [zw3e]; decide)))
      refine g_aload_n cx 0 rfl e_X11_count_83 ?_
      refine g_get cx cl_X11 fl_X11_162 0 (.int (F 3)) e_X11_count_84 rfl rfl ?_
      exact hret e_X11_count_87 (Nat.le_of_ble_eq_true rfl) (Nat.le_of_ble_eq_true rfl) rfl ⟨rfl, (jv_t (F 3)), (hk19.symm.trans hSP)⟩
  · refine g_tableOut cx 88 e_X11_count_1 zw3 (by decide) ?_
    have hk20 := ((((((((hk2.trans (if_neg (by omega))).trans (if_neg (by omega))).trans (if_neg (by omega))).trans (if_neg (by omega))).trans (if_neg (by omega))).trans (if_neg (by omega))).trans (if_neg (by omega))).trans (if_neg (by omega)))
    refine g_iload_n cx 1 rfl e_X11_count_88 ?_
    refine g_bipush cx 100 (by decide) e_X11_count_89 ?_
    refine g_bipush cx 99 (by decide) e_X11_count_91 ?_
    refine g_aload_n cx 0 rfl e_X11_count_93 ?_
    refine g_get cx cl_X11 fl_X11_228 0 (.int (F 19)) e_X11_count_94 rfl rfl ?_
    refine g_iadd cx e_X11_count_97 ?_
    refine g_topi (fun x21 ex21 => ?_)
    have hk22 := k_ls hk20 ex21
    have zx21 := jv_add 99 159 ex21 (jv_k (x := 99) 99 (by decide)) (g_ok_g hI 3 rfl) (by decide)
    refine g_cSiW cx [.int a0, .int 100, .int x21] [] (c_X11_in l X (wM X ad F R) a0 100 x21) ml_X11_165 yS_X11_in rfl e_X11_count_98 (by unfold g_rr; decide) (by decide) rfl (Nat.le_of_ble_eq_true rfl) (fun r23 w24 h25 => ?_)
    obtain ⟨rfl, hr23⟩ := h25
    have pr23 : jv 0 1 r23 := by rw [hr23]; exact gi_01 _ _ _
    have hk26 := k_ls hk22 hr23
    have J117 : ∀ (y27 : Int32), (jv (-2147483648) 2147483647 y27) → (SP = K_X11_count_117 y27) → G X E 2 0 0 (wM X ad F R) [] 117 [.int y27] := by
      intro y27 py27 hkJ117
      unfold K_X11_count_117 at hkJ117
      exact hret e_X11_count_117 (Nat.le_of_ble_eq_true rfl) (Nat.le_of_ble_eq_true rfl) rfl ⟨rfl, py27, (hkJ117.symm.trans hSP)⟩
    refine g_if_eq cx 116 e_X11_count_101 (by decide) (fun zc28 => ?_) (fun zc28 => ?_)
    · have p29 := gn_eq 0 0 (gc_eq zc28) pr23 (jv_k (x := 0) 0 (by decide)) (by decide)
      have hk30 := hk26.trans (if_pos zc28)
      refine g_iconst cx (-1) (by decide) e_X11_count_116 ?_
      refine g_lsub [] [] rfl ?_
      exact J117 (-1) (jv_w (jv_k (x := (-1)) (-1) (by decide)) (by decide)) hk30
    · have p31 := gn_neL 1 1 (gc_ne zc28) pr23 (jv_k (x := 0) 0 (by decide)) (by decide)
      have p32 := gn_ge 100 2147483647 (gi_le hr23 zc28).1 (jv_t a0) (jv_k (x := 100) 100 (by decide)) (by decide)
      have p33 := gn_le 100 159 (gi_le hr23 zc28).2 p32 zx21.2 (by decide)
      have p34 := gn_ge 100 159 (gi_le hr23 zc28).2 zx21.2 p32 (by decide)
      have p35 : jv 1 60 (F 19) := ⟨by have q0 := (jv_k (x := 99) 99 (by decide)).1; have q1 := (jv_k (x := 99) 99 (by decide)).2; have q2 := (g_ok_g hI 3 rfl).1; have q3 := (g_ok_g hI 3 rfl).2; have q4 := p33.1; have q5 := p33.2; have q6 := p34.1; have q7 := p34.2; have q8 := (g_eq0 zx21.1); have q9 := (gi_le hr23 zc28).2; omega, by have q0 := (jv_k (x := 99) 99 (by decide)).1; have q1 := (jv_k (x := 99) 99 (by decide)).2; have q2 := (g_ok_g hI 3 rfl).1; have q3 := (g_ok_g hI 3 rfl).2; have q4 := p33.1; have q5 := p33.2; have q6 := p34.1; have q7 := p34.2; have q8 := (g_eq0 zx21.1); have q9 := (gi_le hr23 zc28).2; omega⟩
      have hk36 := hk26.trans (if_neg zc28)
      refine g_aload_n cx 0 rfl e_X11_count_104 ?_
      refine g_get cx cl_X11 fl_X11_38 0 (.ref (ad 10)) e_X11_count_105 rfl rfl ?_
      refine g_iload_n cx 1 rfl e_X11_count_108 ?_
      refine g_bipush cx 100 (by decide) e_X11_count_109 ?_
      refine g_isub cx e_X11_count_111 ?_
      refine g_topi (fun x37 ex37 => ?_)
      have hk38 := k_ls hk36 ex37
      have zx37 := jv_sub 0 59 ex37 p33 (jv_k (x := 100) 100 (by decide)) (by decide)
      refine g_iald cx 10 e_X11_count_112 rfl (jv_ix 60 zx37.2 (by decide)) ?_
      refine g_topi (fun x39 ex39 => ?_)
      have hk40 := k_ls hk38 ex39
      refine g_goto cx 117 e_X11_count_113 (by decide) ?_
      refine g_lsub [] [] rfl ?_
      exact J117 x39 (jv_t x39) hk40
def KB_X11_gcd_4 (b4 : (Int32) → (Int32) → Int32)  (y1 : Int32) (y2 : Int32) : Int32 :=
  if y2 = 0 then y1 else k_lt (y1 - y1 / y2 * y2) (fun x9 => b4 y2 x9)
def K_X11_gcd_4  : Nat → (Int32) → (Int32) → Int32
  | 0 => fun _ _ => 0
  | n + 1 => KB_X11_gcd_4 (K_X11_gcd_4 n)
def sp_X11_gcd (F : Nat → Int32) (R : Nat → Nat → Int32) (a0 : Int32) (a1 : Int32) : Int32 :=
  K_X11_gcd_4 8589934592 a0 a1
theorem e_X11_gcd_0 : g_dc cX11_gcd 0 (.iload_n 0) 1 1 := ⟨by decide +kernel, rfl⟩
theorem e_X11_gcd_1 : g_dc cX11_gcd 1 (.istore_n 2) 1 2 := ⟨by decide +kernel, rfl⟩
theorem e_X11_gcd_2 : g_dc cX11_gcd 2 (.iload_n 1) 1 3 := ⟨by decide +kernel, rfl⟩
theorem e_X11_gcd_3 : g_dc cX11_gcd 3 (.istore_n 3) 1 4 := ⟨by decide +kernel, rfl⟩
theorem e_X11_gcd_4 : g_dc cX11_gcd 4 (.iload_n 3) 1 5 := ⟨by decide +kernel, rfl⟩
theorem e_X11_gcd_5 : g_dc cX11_gcd 5 (.ifCond .eq 16) 3 8 := ⟨by decide +kernel, rfl⟩
theorem e_X11_gcd_8 : g_dc cX11_gcd 8 (.iload_n 2) 1 9 := ⟨by decide +kernel, rfl⟩
theorem e_X11_gcd_9 : g_dc cX11_gcd 9 (.iload_n 3) 1 10 := ⟨by decide +kernel, rfl⟩
theorem e_X11_gcd_10 : g_dc cX11_gcd 10 (.irem) 1 11 := ⟨by decide +kernel, rfl⟩
theorem e_X11_gcd_11 : g_dc cX11_gcd 11 (.istore 4) 2 13 := ⟨by decide +kernel, rfl⟩
theorem e_X11_gcd_13 : g_dc cX11_gcd 13 (.iload_n 3) 1 14 := ⟨by decide +kernel, rfl⟩
theorem e_X11_gcd_14 : g_dc cX11_gcd 14 (.istore_n 2) 1 15 := ⟨by decide +kernel, rfl⟩
theorem e_X11_gcd_15 : g_dc cX11_gcd 15 (.iload 4) 2 17 := ⟨by decide +kernel, rfl⟩
theorem e_X11_gcd_17 : g_dc cX11_gcd 17 (.istore_n 3) 1 18 := ⟨by decide +kernel, rfl⟩
theorem e_X11_gcd_18 : g_dc cX11_gcd 18 (.goto (-14)) 3 21 := ⟨by decide +kernel, rfl⟩
theorem e_X11_gcd_21 : g_dc cX11_gcd 21 (.iload_n 2) 1 22 := ⟨by decide +kernel, rfl⟩
theorem e_X11_gcd_22 : g_dc cX11_gcd 22 (.ireturn) 1 23 := ⟨by decide +kernel, rfl⟩
set_option maxHeartbeats 4000000 in
set_option maxRecDepth 100000 in
theorem w_X11_gcd (l : Launch) (X : gX) (ad : Nat → Nat) (F : Nat → Int32) (R : Nat → Nat → Int32) (hI : g_ok LK_wM F) (hA : g_okR LA_wM R) (a0 : Int32) (a1 : Int32) (pa0 : jv 0 1000 a0) (pa1 : jv 1 1000 a1) : g_Ci l X yX11_gcd cX11_gcd 5 (some .int) 1 0 0 [.int a0, .int a1] (wM X ad F R) (fun r w => w = wM X ad F R ∧ jv 1 1000 r ∧ r = sp_X11_gcd F R a0 a1) := by
  refine g_mi (by decide +kernel) (Nat.le_of_ble_eq_true rfl) (fun E cx hret => ?_)
  obtain ⟨SP, hSP⟩ : ∃ z, z = sp_X11_gcd F R a0 a1 := ⟨_, rfl⟩
  have hk0 := hSP
  unfold sp_X11_gcd at hk0
  refine g_iload_n cx 0 rfl e_X11_gcd_0 ?_
  refine g_istore_n cx [(2, .int a0), (0, .int a0), (1, .int a1)] e_X11_gcd_1 (by decide) rfl ?_
  refine g_iload_n cx 2 rfl e_X11_gcd_2 ?_
  refine g_istore_n cx [(3, .int a1), (2, .int a0), (0, .int a0), (1, .int a1)] e_X11_gcd_3 (by decide) rfl ?_
  have J4 : ∀ (N : Nat) (y1 : Int32) (y2 : Int32), (jv 0 1000 y1) → (jv 0 1000 y2) → (1 ≤ y1.toInt + y2.toInt) → (SP = K_X11_gcd_4 N y1 y2) → y2.toInt.toNat < N → G X E 5 0 0 (wM X ad F R) [(2, .int y1), (3, .int y2)] 4 [] := by
    intro N
    induction N with
    | zero => intro y1 y2 py1 py2 zi4_0 hkJ4 hm; exact absurd hm (Nat.not_lt_zero _)
    | succ N ih4 =>
      intro y1 y2 py1 py2 zi4_0 hkJ4 hm4
      have hkK4 : SP = KB_X11_gcd_4 (K_X11_gcd_4 N) y1 y2 := hkJ4
      obtain ⟨b4, hb4⟩ : ∃ z, z = K_X11_gcd_4 N := ⟨_, rfl⟩
      rw [← hb4] at hkK4
      unfold KB_X11_gcd_4 at hkK4
      refine g_iload_n cx 1 rfl e_X11_gcd_4 ?_
      refine g_if_eq cx 21 e_X11_gcd_5 (by decide) (fun zc3 => ?_) (fun zc3 => ?_)
      · have p4 := gn_eq 0 0 (gc_eq zc3) py2 (jv_k (x := 0) 0 (by decide)) (by decide)
        have p5 : jv 1 1000 y1 := ⟨by have q0 := (jv_k (x := 0) 0 (by decide)).1; have q1 := (jv_k (x := 0) 0 (by decide)).2; have q2 := py1.1; have q3 := py1.2; have q4 := p4.1; have q5 := p4.2; have q6 := zi4_0; have q7 := (gc_eq zc3); omega, by have q0 := (jv_k (x := 0) 0 (by decide)).1; have q1 := (jv_k (x := 0) 0 (by decide)).2; have q2 := py1.1; have q3 := py1.2; have q4 := p4.1; have q5 := p4.2; have q6 := zi4_0; have q7 := (gc_eq zc3); omega⟩
        have hk6 := hkK4.trans (if_pos zc3)
        refine g_iload_n cx 0 rfl e_X11_gcd_21 ?_
        exact hret e_X11_gcd_22 (Nat.le_of_ble_eq_true rfl) (Nat.le_of_ble_eq_true rfl) rfl ⟨rfl, p5, (hk6.symm.trans hSP)⟩
      · have p7 := gn_neL 1 1000 (gc_ne zc3) py2 (jv_k (x := 0) 0 (by decide)) (by decide)
        have hk8 := hkK4.trans (if_neg zc3)
        refine g_iload_n cx 0 rfl e_X11_gcd_8 ?_
        refine g_iload_n cx 1 rfl e_X11_gcd_9 ?_
        refine g_irem cx zc3 e_X11_gcd_10 ?_
        refine g_topi (fun x9 ex9 => ?_)
        have hk10 := k_ls hk8 ex9
        have zx9 := jv_rem 0 999 ex9 py1 p7 (by decide)
        refine g_istore cx [(4, .int x9), (2, .int y1), (3, .int y2)] e_X11_gcd_11 (by decide) rfl ?_
        refine g_iload_n cx 2 rfl e_X11_gcd_13 ?_
        refine g_istore_n cx [(2, .int y2), (4, .int x9), (3, .int y2)] e_X11_gcd_14 (by decide) rfl ?_
        refine g_iload cx 1 rfl e_X11_gcd_15 ?_
        refine g_istore_n cx [(3, .int x9), (2, .int y2), (4, .int x9)] e_X11_gcd_17 (by decide) rfl ?_
        refine g_goto cx 4 e_X11_gcd_18 (by decide) ?_
        refine g_lsub [1, 0] [(2, .int y2), (3, .int x9)] rfl ?_
        exact ih4 y2 x9 (jv_w p7 (by decide)) (jv_w zx9.2 (by decide)) (by have q0 := (jv_k (x := 0) 0 (by decide)).1; have q1 := (jv_k (x := 0) 0 (by decide)).2; have q2 := zx9.2.1; have q3 := zx9.2.2; have q4 := py1.1; have q5 := py1.2; have q6 := p7.1; have q7 := p7.2; have q8 := zi4_0; have q9 := (gc_ne zc3); have q10 := (g_rlt zx9.1 p7 (by decide)); omega) (hk10.trans (by rw [hb4])) (Nat.lt_of_lt_of_le (show x9.toInt.toNat < y2.toInt.toNat from by have q0 := (jv_k (x := 0) 0 (by decide)).1; have q1 := (jv_k (x := 0) 0 (by decide)).2; have q2 := zx9.2.1; have q3 := zx9.2.2; have q4 := py1.1; have q5 := py1.2; have q6 := p7.1; have q7 := p7.2; have q8 := zi4_0; have q9 := (gc_ne zc3); have q10 := (g_rlt zx9.1 p7 (by decide)); omega) (Nat.le_of_lt_succ hm4))
  refine g_lsub [1, 0] [(2, .int a0), (3, .int a1)] rfl ?_
  exact J4 8589934592 a0 a1 pa0 (jv_w pa1 (by decide)) (by have q0 := pa0.1; have q1 := pa0.2; have q2 := pa1.1; have q3 := pa1.2; omega) hk0 (show a1.toInt.toNat < 8589934592 from by have q0 := pa1.1; have q1 := pa1.2; omega)
