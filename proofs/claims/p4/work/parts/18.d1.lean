theorem g_ru1 {R S : Nat → Nat → Int32} {k : Nat} {f : Nat → Int32} (h : S = g_u R k f) : S k = f := by rw [h, g_uus]
theorem g_ru2 {R S : Nat → Nat → Int32} {k j : Nat} {f : Nat → Int32} (h : S = g_u R k f) (hk : (k != j) = true) : S j = R j := by rw [h, g_uun hk]
theorem gi_le {v a b x : Int32} (e : x = g_in v a b) (h : ¬ x = 0) : a.toInt ≤ v.toInt ∧ v.toInt ≤ b.toInt := by
  subst e
  unfold g_in at h
  split at h
  · rename_i q
    exact ⟨gc_le q.1, gc_le q.2⟩
  · exact absurd rfl h
theorem g_rlt {z x y : Int32} {c d : Int} (h : g_eqs z.toInt (x.toInt % y.toInt)) (hy : jv c d y) (hh : 1 ≤ c) : z.toInt < y.toInt := by
  unfold g_eqs at h
  unfold jv at hy
  rw [h]
  exact Int.emod_lt_of_pos _ (by omega)
/-! ===== the reference: what its state keeps to ===== -/
def hb (x k : Int32) : Prop := (x >>> (k &&& 31)) &&& 1 = 1
/-- told things have a foot and a weight, the kept ones too -/
def WT (F : Nat → Int32) (R : Nat → Nat → Int32) : Prop := (∀ j : Nat, j < 10 → hb (F 4) (nI j) → jv 1 40 (R 3 j) ∧ jv 1 99 (R 5 j)) ∧ (∀ j : Nat, j < 10 → hb (F 82) (nI j) → jv 1 40 (R 43 j) ∧ jv 1 99 (R 45 j))
/-- those of an evening do -/
def WN (F : Nat → Int32) (R : Nat → Nat → Int32) : Prop := ∀ j : Nat, j < 10 → hb (F 42) (nI j) → jv 1 40 (R 3 j) ∧ jv 1 99 (R 5 j)
theorem WT_u {F : Nat → Int32} {R : Nat → Nat → Int32} {k : Nat} {v : Int32} (h : WT F R) (hk : (k != 4 && k != 82) = true) : WT (upd F k v) R := by
  rw [Bool.and_eq_true] at hk
  unfold WT at *
  rw [g_un hk.1, g_un hk.2]
  exact h
theorem WT_r {F : Nat → Int32} {R : Nat → Nat → Int32} {k : Nat} {f : Nat → Int32} (h : WT F R) (hk : (k != 3 && k != 5 && k != 43 && k != 45) = true) : WT F (g_u R k f) := by
  rw [Bool.and_eq_true, Bool.and_eq_true, Bool.and_eq_true] at hk
  unfold WT at *
  rw [g_uun hk.1.1.1, g_uun hk.1.1.2, g_uun hk.1.2, g_uun hk.2]
  exact h
def g_op (x : Int32) : Int := x.toInt / 1048576
def g_arg (x : Int32) : Int := x.toInt % 1048576
/-- by how much a code lets the stack grow, where it goes straight on -/
def g_dl (x : Int32) : Int := if g_op x ≤ 1 then 1 else if g_op x = 10 then 0 else -1
def g_ht (f : Nat → Int32) (a : Nat) : Nat → Int
  | 0 => 0
  | n + 1 => g_ht f a n + g_dl (f (a + n))
/-- codes from a to b that need no more than they have, and jump ahead only, to places of like height -/
def g_wf (f : Nat → Int32) (a b : Nat) : Prop := ∀ k, a ≤ k → k < b → (g_op (f k) = 1 → g_arg (f k) ≤ 11) ∧ (2 ≤ g_op (f k) → 1 ≤ g_ht f a (k - a)) ∧ (2 ≤ g_op (f k) → g_op (f k) ≤ 9 → 2 ≤ g_ht f a (k - a)) ∧ (11 ≤ g_op (f k) → (k : Int) < g_arg (f k) ∧ g_arg (f k) ≤ b ∧ g_ht f a ((g_arg (f k)).toNat - a) = g_ht f a (k - a))
def WC (F : Nat → Int32) (R : Nat → Nat → Int32) : Prop := ∀ j : Nat, (j : Int) < (F 28).toInt → ∃ a b c : Nat, (R 20 j).toInt = a ∧ (R 21 j).toInt = b ∧ (R 22 j).toInt = c ∧ a ≤ b ∧ b ≤ c ∧ c ≤ 220 ∧ g_wf (R 18) a b ∧ g_wf (R 18) b c
theorem WC_u {F : Nat → Int32} {R : Nat → Nat → Int32} {k : Nat} {v : Int32} (h : WC F R) (hk : (k != 28) = true) : WC (upd F k v) R := by
  unfold WC at *
  rw [g_un hk]
  exact h
theorem WC_r {F : Nat → Int32} {R : Nat → Nat → Int32} {k : Nat} {f : Nat → Int32} (h : WC F R) (hk : (k != 18 && k != 20 && k != 21 && k != 22) = true) : WC F (g_u R k f) := by
  rw [Bool.and_eq_true, Bool.and_eq_true, Bool.and_eq_true] at hk
  unfold WC at *
  rw [g_uun hk.1.1.1, g_uun hk.1.1.2, g_uun hk.1.2, g_uun hk.2]
  exact h
theorem hb_tb {x : Int32} {j : Nat} (hj : j < 10) : hb x (nI j) ↔ x.toBitVec.getLsbD j = true := by
  unfold hb
  have h1 : ((x >>> (nI j &&& 31)) &&& 1 = 1) ↔ (((x >>> (nI j &&& 31)) &&& 1).toBitVec = 1#32) := ⟨fun h => by rw [h]; rfl, fun h => Int32.toBitVec_inj.mp h⟩
  rw [h1]
  have h2 : (x >>> (nI j &&& 31)).toBitVec = x.toBitVec.sshiftRight j := by
    have : ∀ j, j < 10 → ((nI j &&& 31).toBitVec.smod 32).toNat = j := by decide
    show x.toBitVec.sshiftRight' ((nI j &&& 31).toBitVec.smod 32) = _
    rw [BitVec.sshiftRight', this j hj]
  rw [Int32.toBitVec_and, h2]
  have h3 : (x.toBitVec.sshiftRight j &&& (1 : Int32).toBitVec = 1#32) ↔ (x.toBitVec.sshiftRight j).getLsbD 0 = true := by
    have e : (1 : Int32).toBitVec = 1#32 := rfl
    rw [e, BitVec.and_one_eq_setWidth_ofBool_getLsbD]
    cases (x.toBitVec.sshiftRight j).getLsbD 0 <;> decide
  rw [h3, BitVec.getLsbD_sshiftRight]
  have h4 : j + 0 < 32 := by omega
  simp [h4]
  omega
theorem hb_0 {j : Nat} (hj : j < 10) : ¬ hb 0 (nI j) := by
  rw [hb_tb hj]
  show ¬ (0#32).getLsbD j = true
  simp
theorem hb_and {x y : Int32} {j : Nat} (hj : j < 10) (h : hb (x &&& y) (nI j)) : hb x (nI j) := by
  rw [hb_tb hj] at h ⊢
  rw [Int32.toBitVec_and, BitVec.getLsbD_and] at h
  cases q : x.toBitVec.getLsbD j with
  | true => rfl
  | false => rw [q] at h; exact absurd h (by simp)
theorem hb_or {x y : Int32} {j : Nat} (hj : j < 10) (h : hb (x ||| y) (nI j)) : hb x (nI j) ∨ hb y (nI j) := by
  rw [hb_tb hj] at h ⊢
  rw [hb_tb hj]
  rw [Int32.toBitVec_or, BitVec.getLsbD_or, Bool.or_eq_true] at h
  exact h
theorem hb_shl : ∀ i j : Nat, i < 10 → j < 10 → hb (1 <<< (nI i &&& 31)) (nI j) → j = i := by
  have : ∀ i : Fin 10, ∀ j : Fin 10, ((1 <<< (nI i &&& 31) : Int32) >>> (nI j &&& 31)) &&& 1 = 1 → j = i := by decide
  intro i j hi hj h
  exact congrArg Fin.val (this ⟨i, hi⟩ ⟨j, hj⟩ h)
/-- a set without others holds no bit that they don't -/
theorem hb_sub {x y : Int32} {j : Nat} (hj : j < 10) (h : x &&& (y ^^^ (-1)) = 0) (hx : hb x (nI j)) : hb y (nI j) := by
  rw [hb_tb hj] at hx ⊢
  have h1 := congrArg (fun z : Int32 => z.toBitVec.getLsbD j) h
  simp only [Int32.toBitVec_and, Int32.toBitVec_xor, BitVec.getLsbD_and, BitVec.getLsbD_xor, hx, Bool.true_and] at h1
  have e : ∀ j, j < 10 → (-1 : Int32).toBitVec.getLsbD j = true := by decide
  have e0 : ∀ j, j < 10 → (0 : Int32).toBitVec.getLsbD j = false := by decide
  rw [e j hj, e0 j hj] at h1
  cases q : y.toBitVec.getLsbD j with
  | true => rfl
  | false => rw [q] at h1; cases h1
theorem jv_n {x : Int32} {a b : Int} (h : jv a b x) (ha : 0 ≤ a) : ∃ j : Nat, x = nI j ∧ (j : Int) = x.toInt ∧ j ≤ b.toNat ∧ x.toNatClampNeg = j := by
  unfold jv at h
  have h2 := Int32.toInt_lt x
  refine ⟨x.toInt.toNat, ?_, by omega, by omega, rfl⟩
  apply Int32.toInt_inj.mp
  rw [nI_toInt (by omega)]
  omega
/-- a thing is told: its foot and its weight are good -/
theorem WT_add {F : Nat → Int32} {R : Nat → Nat → Int32} (h : WT F R) : WT F R := h
def LK_wM : List (Nat × Int × Int) := [(14, 0, 220), (15, 0, 220), (16, 0, 200), (19, 0, 60), (20, 0, 60), (21, 0, 20), (24, (-2147483648), 2147483647), (25, 0, 220), (26, 0, 220), (27, 0, 14), (28, 0, 14), (44, 0, 60), (45, 0, 300), (51, 0, 1), (75, 0, 5), (77, 0, 1)]
def LA_wM : List (Nat × Nat × Int × Int) := [(12, 220, 0, 13631487), (13, 220, 0, 15728639), (18, 220, 0, 13631487), (37, 10, 0, 9), (38, 5, 0, 9), (39, 5, 0, 4), (3, 10, 0, 40), (5, 10, 0, 99), (43, 10, 0, 40), (45, 10, 0, 99)]
theorem g_hasy {r : Int32} {P : Prop} (h : r = 0 ∧ ¬ P ∨ r = 1 ∧ P) (c : ¬ r = 0) : P := by
  rcases h with h | h
  · exact absurd h.1 c
  · exact h.2
theorem e_X11_has_0 : g_dc cX11_has 0 (.iload_n 0) 1 1 := ⟨by decide +kernel, rfl⟩
theorem e_X11_has_1 : g_dc cX11_has 1 (.iload_n 1) 1 2 := ⟨by decide +kernel, rfl⟩
theorem e_X11_has_2 : g_dc cX11_has 2 (.ishr) 1 3 := ⟨by decide +kernel, rfl⟩
theorem e_X11_has_3 : g_dc cX11_has 3 (.iconst 1) 1 4 := ⟨by decide +kernel, rfl⟩
theorem e_X11_has_4 : g_dc cX11_has 4 (.iand) 1 5 := ⟨by decide +kernel, rfl⟩
theorem e_X11_has_5 : g_dc cX11_has 5 (.iconst 1) 1 6 := ⟨by decide +kernel, rfl⟩
theorem e_X11_has_6 : g_dc cX11_has 6 (.if_icmp .ne 7) 3 9 := ⟨by decide +kernel, rfl⟩
theorem e_X11_has_9 : g_dc cX11_has 9 (.iconst 1) 1 10 := ⟨by decide +kernel, rfl⟩
theorem e_X11_has_10 : g_dc cX11_has 10 (.goto 4) 3 13 := ⟨by decide +kernel, rfl⟩
theorem e_X11_has_13 : g_dc cX11_has 13 (.iconst 0) 1 14 := ⟨by decide +kernel, rfl⟩
theorem e_X11_has_14 : g_dc cX11_has 14 (.ireturn) 1 15 := ⟨by decide +kernel, rfl⟩
set_option maxHeartbeats 4000000 in
set_option maxRecDepth 100000 in
theorem c_X11_has (l : Launch) (X : gX) (ws : va_W) (a0 a1 : Int32) : g_Ci l X yX11_has cX11_has 2 (some .boolean) 1 0 0 [.int a0, .int a1] ws (fun r w => w = ws ∧ (r = 0 ∧ ¬ hb a0 a1 ∨ r = 1 ∧ hb a0 a1)) := by
  refine g_mi (by decide +kernel) (Nat.le_of_ble_eq_true rfl) (fun E cx hret => ?_)
  refine g_iload_n cx 0 rfl e_X11_has_0 ?_
  refine g_iload_n cx 1 rfl e_X11_has_1 ?_
  refine g_ishr cx e_X11_has_2 ?_
  refine g_iconst cx 1 (by decide) e_X11_has_3 ?_
  refine g_iand cx e_X11_has_4 ?_
  refine g_iconst cx 1 (by decide) e_X11_has_5 ?_
  refine g_icmp_ne cx 13 e_X11_has_6 (by decide) (fun zc6 => ?_) (fun zc6 => ?_)
  · refine g_iconst cx 0 (by decide) e_X11_has_13 ?_
    exact hret e_X11_has_14 (Nat.le_of_ble_eq_true rfl) (Nat.le_of_ble_eq_true rfl) rfl (⟨rfl, by first | exact Or.inl ⟨rfl, by assumption⟩ | exact Or.inr ⟨rfl, by assumption⟩⟩)
  · refine g_iconst cx 1 (by decide) e_X11_has_9 ?_
    refine g_goto cx 14 e_X11_has_10 (by decide) ?_
    exact hret e_X11_has_14 (Nat.le_of_ble_eq_true rfl) (Nat.le_of_ble_eq_true rfl) rfl (⟨rfl, by first | exact Or.inl ⟨rfl, by assumption⟩ | exact Or.inr ⟨rfl, by assumption⟩⟩)
theorem WT_0 {F : Nat → Int32} {R : Nat → Nat → Int32} (h : WT F R) : WT (upd F 4 0) R := by
  unfold WT at *
  rw [g_us, g_un (k := 4) (j := 82) rfl]
  exact ⟨fun j hj q => absurd q (hb_0 hj), h.2⟩
theorem WT_sub {F : Nat → Int32} {R : Nat → Nat → Int32} {x y : Int32} (h : WT F R) (e : x = F 4 &&& y) : WT (upd F 4 x) R := by
  unfold WT at *
  rw [g_us, g_un (k := 4) (j := 82) rfl]
  subst e
  exact ⟨fun j hj q => h.1 j hj (hb_and hj q), h.2⟩
theorem WT_thing {F F' : Nat → Int32} {R R' : Nat → Nat → Int32} {i foot weight : Int32} (h : WT F R) (hi : jv 0 9 i) (hf : jv 1 40 foot) (hw : jv 1 99 weight) (e4 : F' 4 = F 4 ||| (1 <<< (i &&& 31))) (e82 : F' 82 = F 82) (e3 : R' 3 = upd (R 3) i.toNatClampNeg foot) (e5 : R' 5 = upd (R 5) i.toNatClampNeg weight) (e43 : R' 43 = R 43) (e45 : R' 45 = R 45) : WT F' R' := by
  obtain ⟨n, rfl, h1, h2, h3⟩ := jv_n hi (by decide)
  have hn : n < 10 := by omega
  unfold WT at *
  rw [e4, e82, e3, e5, e43, e45, h3]
  refine ⟨fun j hj q => ?_, h.2⟩
  by_cases hjn : n = j
  · subst hjn
    rw [g_us, g_us]
    exact ⟨hf, hw⟩
  · rw [g_un (by simpa using hjn), g_un (by simpa using hjn)]
    rcases hb_or hj q with q | q
    · exact h.1 j hj q
    · exact absurd (hb_shl n j hn hj q).symm hjn
theorem WT_keep {F F' : Nat → Int32} {R R' : Nat → Nat → Int32} (h : WT F R) (e4 : F' 4 = F 4) (e82 : F' 82 = F 4) (e3 : R' 3 = R 3) (e5 : R' 5 = R 5) (c43 : ∀ j, j < 10 → R' 43 j = R 3 j) (c45 : ∀ j, j < 10 → R' 45 j = R 5 j) : WT F' R' := by
  unfold WT at *
  rw [e4, e82, e3, e5]
  exact ⟨h.1, fun j hj q => by rw [c43 j hj, c45 j hj]; exact h.1 j hj q⟩
theorem WT_undo {F F' : Nat → Int32} {R R' : Nat → Nat → Int32} (h : WT F R) (e4 : F' 4 = F 82) (e82 : F' 82 = F 82) (e43 : R' 43 = R 43) (e45 : R' 45 = R 45) (c3 : ∀ j, j < 10 → R' 3 j = R 43 j) (c5 : ∀ j, j < 10 → R' 5 j = R 45 j) : WT F' R' := by
  unfold WT at *
  rw [e4, e82, e43, e45]
  exact ⟨fun j hj q => by rw [c3 j hj, c5 j hj]; exact h.2 j hj q, h.2⟩
/-- one more row's place is like the other's -/
theorem g_cp1 {f g f' : Nat → Int32} {k : Int32} {b : Int} (h : ∀ j : Nat, (j : Int) < k.toInt → f j = g j) (hk : jv 0 b k) (e : f' = upd f k.toNatClampNeg (g k.toNatClampNeg)) {k' : Int32} (ek : k'.toInt = k.toInt + 1) : ∀ j : Nat, (j : Int) < k'.toInt → f' j = g j := by
  obtain ⟨n, rfl, h1, h2, h3⟩ := jv_n hk (by decide)
  intro j hj
  rw [e, h3]
  by_cases q : n = j
  · subst q
    rw [g_us]
  · rw [g_un (by simpa using q)]
    exact h j (by omega)
theorem WT_e {F F' : Nat → Int32} {R R' : Nat → Nat → Int32} (h : WT F R) (e4 : F' 4 = F 4) (e82 : F' 82 = F 82) (e3 : R' 3 = R 3) (e5 : R' 5 = R 5) (e43 : R' 43 = R 43) (e45 : R' 45 = R 45) : WT F' R' := by
  unfold WT at *
  rw [e4, e82, e3, e5, e43, e45]
  exact h
theorem WC_e {F F' : Nat → Int32} {R R' : Nat → Nat → Int32} (h : WC F R) (e28 : F' 28 = F 28) (e18 : R' 18 = R 18) (e20 : R' 20 = R 20) (e21 : R' 21 = R 21) (e22 : R' 22 = R 22) : WC F' R' := by
  unfold WC at *
  rw [e28, e18, e20, e21, e22]
  exact h

theorem e_X11_table_0 : g_dc cX11_table 0 (.iload_n 1) 1 1 := ⟨by decide +kernel, rfl⟩
theorem e_X11_table_1 : g_dc cX11_table 1 (.bipush 10) 2 3 := ⟨by decide +kernel, rfl⟩
theorem e_X11_table_3 : g_dc cX11_table 3 (.sipush 200) 3 6 := ⟨by decide +kernel, rfl⟩
theorem e_X11_table_6 : g_dc cX11_table 6 (.invokestatic 165) 3 9 := ⟨by decide +kernel, rfl⟩
theorem e_X11_table_9 : g_dc cX11_table 9 (.ifCond .eq 13) 3 12 := ⟨by decide +kernel, rfl⟩
theorem e_X11_table_12 : g_dc cX11_table 12 (.iload_n 2) 1 13 := ⟨by decide +kernel, rfl⟩
theorem e_X11_table_13 : g_dc cX11_table 13 (.iconst 0) 1 14 := ⟨by decide +kernel, rfl⟩
theorem e_X11_table_14 : g_dc cX11_table 14 (.bipush 63) 2 16 := ⟨by decide +kernel, rfl⟩
theorem e_X11_table_16 : g_dc cX11_table 16 (.invokestatic 165) 3 19 := ⟨by decide +kernel, rfl⟩
theorem e_X11_table_19 : g_dc cX11_table 19 (.ifCond .ne 5) 3 22 := ⟨by decide +kernel, rfl⟩
theorem e_X11_table_22 : g_dc cX11_table 22 (.iconst 0) 1 23 := ⟨by decide +kernel, rfl⟩
theorem e_X11_table_23 : g_dc cX11_table 23 (.ireturn) 1 24 := ⟨by decide +kernel, rfl⟩
theorem e_X11_table_24 : g_dc cX11_table 24 (.aload_n 0) 1 25 := ⟨by decide +kernel, rfl⟩
theorem e_X11_table_25 : g_dc cX11_table 25 (.iload_n 1) 1 26 := ⟨by decide +kernel, rfl⟩
theorem e_X11_table_26 : g_dc cX11_table 26 (.putfield 155) 3 29 := ⟨by decide +kernel, rfl⟩
theorem e_X11_table_29 : g_dc cX11_table 29 (.aload_n 0) 1 30 := ⟨by decide +kernel, rfl⟩
theorem e_X11_table_30 : g_dc cX11_table 30 (.iload_n 1) 1 31 := ⟨by decide +kernel, rfl⟩
theorem e_X11_table_31 : g_dc cX11_table 31 (.putfield 159) 3 34 := ⟨by decide +kernel, rfl⟩
theorem e_X11_table_34 : g_dc cX11_table 34 (.aload_n 0) 1 35 := ⟨by decide +kernel, rfl⟩
theorem e_X11_table_35 : g_dc cX11_table 35 (.iload_n 2) 1 36 := ⟨by decide +kernel, rfl⟩
theorem e_X11_table_36 : g_dc cX11_table 36 (.putfield 169) 3 39 := ⟨by decide +kernel, rfl⟩
theorem e_X11_table_39 : g_dc cX11_table 39 (.aload_n 0) 1 40 := ⟨by decide +kernel, rfl⟩
theorem e_X11_table_40 : g_dc cX11_table 40 (.iconst 0) 1 41 := ⟨by decide +kernel, rfl⟩
theorem e_X11_table_41 : g_dc cX11_table 41 (.putfield 172) 3 44 := ⟨by decide +kernel, rfl⟩
theorem e_X11_table_44 : g_dc cX11_table 44 (.iconst 1) 1 45 := ⟨by decide +kernel, rfl⟩
theorem e_X11_table_45 : g_dc cX11_table 45 (.ireturn) 1 46 := ⟨by decide +kernel, rfl⟩
def md_X11_table : List Nat := [0, 1, 2, 4]
def mr_X11_table : List Nat := []
set_option maxHeartbeats 4000000 in
set_option maxRecDepth 100000 in
theorem w_X11_table (l : Launch) (X : gX) (ad : Nat → Nat) (F : Nat → Int32) (R : Nat → Nat → Int32) (hI : g_ok LK_wM F) (hA : g_okR LA_wM R) (hWT : WT F R) (hWC : WC F R) (a0 : Int32) (a1 : Int32) : g_Ci l X yX11_table cX11_table 3 (some .boolean) 2 0 0 [.ref (ad 0), .int a0, .int a1] (wM X ad F R) (fun r w => ∃ (F' : Nat → Int32) (R' : Nat → Nat → Int32), w = wM X ad F' R' ∧ g_ok LK_wM F' ∧ g_okR LA_wM R' ∧ WT F' R' ∧ WC F' R' ∧ g_fr md_X11_table F F' ∧ g_fr mr_X11_table R R' ∧ jv 0 1 r) := by
  refine g_mi (by decide +kernel) (Nat.le_of_ble_eq_true rfl) (fun E cx hret => ?_)
  refine g_iload_n cx 1 rfl e_X11_table_0 ?_
  refine g_bipush cx 10 (by decide) e_X11_table_1 ?_
  refine g_sipush cx 200 (by decide) e_X11_table_3 ?_
  refine g_cSiW cx [.int a0, .int 10, .int 200] [] (c_X11_in l X (wM X ad F R) a0 10 200) ml_X11_165 yS_X11_in rfl e_X11_table_6 (by unfold g_rr; decide) (by decide) rfl (Nat.le_of_ble_eq_true rfl) (fun r1 w2 h3 => ?_)
  obtain ⟨rfl, hr1⟩ := h3
  have pr1 : jv 0 1 r1 := by rw [hr1]; exact gi_01 _ _ _
  have J22 : G X E 3 0 0 (wM X ad F R) [] 22 [] := by
    refine g_iconst cx 0 (by decide) e_X11_table_22 ?_
    exact hret e_X11_table_23 (Nat.le_of_ble_eq_true rfl) (Nat.le_of_ble_eq_true rfl) rfl ⟨F, R, rfl, hI, hA, hWT, hWC, (g_fr_rf F), (g_fr_rf R), (jv_w (jv_k (x := 0) 0 (by decide)) (by decide))⟩
  refine g_if_eq cx 22 e_X11_table_9 (by decide) (fun zc4 => ?_) (fun zc4 => ?_)
  · have p5 := gn_eq 0 0 (gc_eq zc4) pr1 (jv_k (x := 0) 0 (by decide)) (by decide)
    refine g_lsub [] [] rfl ?_
    exact J22  
  · have p6 := gn_neL 1 1 (gc_ne zc4) pr1 (jv_k (x := 0) 0 (by decide)) (by decide)
    have p7 := jv_i 10 200 (jv_t a0) (gi_in (A := 10) (B := 200) hr1 zc4 (by decide) (by decide)) (by decide)
    refine g_iload_n cx 2 rfl e_X11_table_12 ?_
    refine g_iconst cx 0 (by decide) e_X11_table_13 ?_
    refine g_bipush cx 63 (by decide) e_X11_table_14 ?_
    refine g_cSiW cx [.int a1, .int 0, .int 63] [] (c_X11_in l X (wM X ad F R) a1 0 63) ml_X11_165 yS_X11_in rfl e_X11_table_16 (by unfold g_rr; decide) (by decide) rfl (Nat.le_of_ble_eq_true rfl) (fun r8 w9 h10 => ?_)
    obtain ⟨rfl, hr8⟩ := h10
    have pr8 : jv 0 1 r8 := by rw [hr8]; exact gi_01 _ _ _
    refine g_if_ne cx 24 e_X11_table_19 (by decide) (fun zc11 => ?_) (fun zc11 => ?_)
    · have p12 := gn_neL 1 1 (gc_ne zc11) pr8 (jv_k (x := 0) 0 (by decide)) (by decide)
      have p13 := jv_i 0 63 (jv_t a1) (gi_in (A := 0) (B := 63) hr8 zc11 (by decide) (by decide)) (by decide)
      refine g_aload_n cx 0 rfl e_X11_table_24 ?_
      refine g_iload_n cx 1 rfl e_X11_table_25 ?_
      refine g_put cx cl_X11 fl_X11_155 0 (wM X ad (upd F 0 a0) R) e_X11_table_26 rfl rfl rfl rfl (Nat.le_of_ble_eq_true rfl) rfl ?_
      obtain ⟨F14, hF14⟩ : ∃ z, z = upd F 0 a0 := ⟨_, rfl⟩
      rw [← hF14]
      have oF14 : g_ok LK_wM F14 := by rw [hF14]; exact g_ok_u hI rfl
      have fF14 : g_fr md_X11_table F F14 := by rw [hF14]; exact g_fr_u (g_fr_rf F) rfl
      have wTF14 : WT F14 R := by rw [hF14]; exact WT_u hWT rfl
      have wCF14 : WC F14 R := by rw [hF14]; exact WC_u hWC rfl
      refine g_aload_n cx 0 rfl e_X11_table_29 ?_
      refine g_iload_n cx 1 rfl e_X11_table_30 ?_
      refine g_put cx cl_X11 fl_X11_159 0 (wM X ad (upd F14 1 a0) R) e_X11_table_31 rfl rfl rfl rfl (Nat.le_of_ble_eq_true rfl) rfl ?_
      obtain ⟨F15, hF15⟩ : ∃ z, z = upd F14 1 a0 := ⟨_, rfl⟩
      rw [← hF15]
      have oF15 : g_ok LK_wM F15 := by rw [hF15]; exact g_ok_u oF14 rfl
      have fF15 : g_fr md_X11_table F F15 := by rw [hF15]; exact g_fr_u fF14 rfl
      have wTF15 : WT F15 R := by rw [hF15]; exact WT_u wTF14 rfl
      have wCF15 : WC F15 R := by rw [hF15]; exact WC_u wCF14 rfl
      refine g_aload_n cx 0 rfl e_X11_table_34 ?_
      refine g_iload_n cx 2 rfl e_X11_table_35 ?_
      refine g_put cx cl_X11 fl_X11_169 0 (wM X ad (upd F15 2 a1) R) e_X11_table_36 rfl rfl rfl rfl (Nat.le_of_ble_eq_true rfl) rfl ?_
      obtain ⟨F16, hF16⟩ : ∃ z, z = upd F15 2 a1 := ⟨_, rfl⟩
      rw [← hF16]
      have oF16 : g_ok LK_wM F16 := by rw [hF16]; exact g_ok_u oF15 rfl
      have fF16 : g_fr md_X11_table F F16 := by rw [hF16]; exact g_fr_u fF15 rfl
      have wTF16 : WT F16 R := by rw [hF16]; exact WT_u wTF15 rfl
      have wCF16 : WC F16 R := by rw [hF16]; exact WC_u wCF15 rfl
      refine g_aload_n cx 0 rfl e_X11_table_39 ?_
      refine g_iconst cx 0 (by decide) e_X11_table_40 ?_
      refine g_put cx cl_X11 fl_X11_172 0 (wM X ad (upd F16 4 0) R) e_X11_table_41 rfl rfl rfl rfl (Nat.le_of_ble_eq_true rfl) rfl ?_
      obtain ⟨F17, hF17⟩ : ∃ z, z = upd F16 4 0 := ⟨_, rfl⟩
      rw [← hF17]
      have oF17 : g_ok LK_wM F17 := by rw [hF17]; exact g_ok_u oF16 rfl
      have fF17 : g_fr md_X11_table F F17 := by rw [hF17]; exact g_fr_u fF16 rfl
      have wTF17 : WT F17 R := by rw [hF17]; exact WT_0 wTF16
      have wCF17 : WC F17 R := by rw [hF17]; exact WC_u wCF16 rfl
      refine g_iconst cx 1 (by decide) e_X11_table_44 ?_
      exact hret e_X11_table_45 (Nat.le_of_ble_eq_true rfl) (Nat.le_of_ble_eq_true rfl) rfl ⟨F17, R, rfl, oF17, hA, wTF17, wCF17, fF17, (g_fr_rf R), (jv_w (jv_k (x := 1) 1 (by decide)) (by decide))⟩
    · have p18 := gn_eq 0 0 (gc_eq zc11) pr8 (jv_k (x := 0) 0 (by decide)) (by decide)
      refine g_lsub [] [] rfl ?_
      exact J22  
theorem e_X11_cloth_0 : g_dc cX11_cloth 0 (.iload_n 1) 1 1 := ⟨by decide +kernel, rfl⟩
theorem e_X11_cloth_1 : g_dc cX11_cloth 1 (.iconst 0) 1 2 := ⟨by decide +kernel, rfl⟩
theorem e_X11_cloth_2 : g_dc cX11_cloth 2 (.aload_n 0) 1 3 := ⟨by decide +kernel, rfl⟩
theorem e_X11_cloth_3 : g_dc cX11_cloth 3 (.getfield 155) 3 6 := ⟨by decide +kernel, rfl⟩
theorem e_X11_cloth_6 : g_dc cX11_cloth 6 (.invokestatic 165) 3 9 := ⟨by decide +kernel, rfl⟩
theorem e_X11_cloth_9 : g_dc cX11_cloth 9 (.ifCond .ne 5) 3 12 := ⟨by decide +kernel, rfl⟩
theorem e_X11_cloth_12 : g_dc cX11_cloth 12 (.iconst 0) 1 13 := ⟨by decide +kernel, rfl⟩
theorem e_X11_cloth_13 : g_dc cX11_cloth 13 (.ireturn) 1 14 := ⟨by decide +kernel, rfl⟩
theorem e_X11_cloth_14 : g_dc cX11_cloth 14 (.aload_n 0) 1 15 := ⟨by decide +kernel, rfl⟩
theorem e_X11_cloth_15 : g_dc cX11_cloth 15 (.iload_n 1) 1 16 := ⟨by decide +kernel, rfl⟩
theorem e_X11_cloth_16 : g_dc cX11_cloth 16 (.putfield 159) 3 19 := ⟨by decide +kernel, rfl⟩
theorem e_X11_cloth_19 : g_dc cX11_cloth 19 (.iconst 1) 1 20 := ⟨by decide +kernel, rfl⟩
theorem e_X11_cloth_20 : g_dc cX11_cloth 20 (.ireturn) 1 21 := ⟨by decide +kernel, rfl⟩
def md_X11_cloth : List Nat := [1]
def mr_X11_cloth : List Nat := []
set_option maxHeartbeats 4000000 in
set_option maxRecDepth 100000 in
theorem w_X11_cloth (l : Launch) (X : gX) (ad : Nat → Nat) (F : Nat → Int32) (R : Nat → Nat → Int32) (hI : g_ok LK_wM F) (hA : g_okR LA_wM R) (hWT : WT F R) (hWC : WC F R) (a0 : Int32) : g_Ci l X yX11_cloth cX11_cloth 2 (some .boolean) 2 0 0 [.ref (ad 0), .int a0] (wM X ad F R) (fun r w => ∃ (F' : Nat → Int32) (R' : Nat → Nat → Int32), w = wM X ad F' R' ∧ g_ok LK_wM F' ∧ g_okR LA_wM R' ∧ WT F' R' ∧ WC F' R' ∧ g_fr md_X11_cloth F F' ∧ g_fr mr_X11_cloth R R' ∧ jv 0 1 r) := by
  refine g_mi (by decide +kernel) (Nat.le_of_ble_eq_true rfl) (fun E cx hret => ?_)
  refine g_iload_n cx 1 rfl e_X11_cloth_0 ?_
  refine g_iconst cx 0 (by decide) e_X11_cloth_1 ?_
  refine g_aload_n cx 0 rfl e_X11_cloth_2 ?_
  refine g_get cx cl_X11 fl_X11_155 0 (.int (F 0)) e_X11_cloth_3 rfl rfl ?_
  refine g_cSiW cx [.int a0, .int 0, .int (F 0)] [] (c_X11_in l X (wM X ad F R) a0 0 (F 0)) ml_X11_165 yS_X11_in rfl e_X11_cloth_6 (by unfold g_rr; decide) (by decide) rfl (Nat.le_of_ble_eq_true rfl) (fun r1 w2 h3 => ?_)
  obtain ⟨rfl, hr1⟩ := h3
  have pr1 : jv 0 1 r1 := by rw [hr1]; exact gi_01 _ _ _
  refine g_if_ne cx 14 e_X11_cloth_9 (by decide) (fun zc4 => ?_) (fun zc4 => ?_)
  · have p5 := gn_neL 1 1 (gc_ne zc4) pr1 (jv_k (x := 0) 0 (by decide)) (by decide)
    have p6 := gn_ge 0 2147483647 (gi_le hr1 zc4).1 (jv_t a0) (jv_k (x := 0) 0 (by decide)) (by decide)
    have p7 := gn_ge 0 2147483647 (gi_le hr1 zc4).2 (jv_t (F 0)) p6 (by decide)
    refine g_aload_n cx 0 rfl e_X11_cloth_14 ?_
    refine g_iload_n cx 1 rfl e_X11_cloth_15 ?_
    refine g_put cx cl_X11 fl_X11_159 0 (wM X ad (upd F 1 a0) R) e_X11_cloth_16 rfl rfl rfl rfl (Nat.le_of_ble_eq_true rfl) rfl ?_
    obtain ⟨F8, hF8⟩ : ∃ z, z = upd F 1 a0 := ⟨_, rfl⟩
    rw [← hF8]
    have oF8 : g_ok LK_wM F8 := by rw [hF8]; exact g_ok_u hI rfl
    have fF8 : g_fr md_X11_cloth F F8 := by rw [hF8]; exact g_fr_u (g_fr_rf F) rfl
    have wTF8 : WT F8 R := by rw [hF8]; exact WT_u hWT rfl
    have wCF8 : WC F8 R := by rw [hF8]; exact WC_u hWC rfl
    refine g_iconst cx 1 (by decide) e_X11_cloth_19 ?_
    exact hret e_X11_cloth_20 (Nat.le_of_ble_eq_true rfl) (Nat.le_of_ble_eq_true rfl) rfl ⟨F8, R, rfl, oF8, hA, wTF8, wCF8, fF8, (g_fr_rf R), (jv_w (jv_k (x := 1) 1 (by decide)) (by decide))⟩
  · have p9 := gn_eq 0 0 (gc_eq zc4) pr1 (jv_k (x := 0) 0 (by decide)) (by decide)
    refine g_iconst cx 0 (by decide) e_X11_cloth_12 ?_
    exact hret e_X11_cloth_13 (Nat.le_of_ble_eq_true rfl) (Nat.le_of_ble_eq_true rfl) rfl ⟨F, R, rfl, hI, hA, hWT, hWC, (g_fr_rf F), (g_fr_rf R), (jv_w (jv_k (x := 0) 0 (by decide)) (by decide))⟩
theorem e_X11_thing_0 : g_dc cX11_thing 0 (.iload_n 1) 1 1 := ⟨by decide +kernel, rfl⟩
theorem e_X11_thing_1 : g_dc cX11_thing 1 (.iconst 0) 1 2 := ⟨by decide +kernel, rfl⟩
theorem e_X11_thing_2 : g_dc cX11_thing 2 (.bipush 9) 2 4 := ⟨by decide +kernel, rfl⟩
theorem e_X11_thing_4 : g_dc cX11_thing 4 (.invokestatic 165) 3 7 := ⟨by decide +kernel, rfl⟩
theorem e_X11_thing_7 : g_dc cX11_thing 7 (.ifCond .eq 59) 3 10 := ⟨by decide +kernel, rfl⟩
theorem e_X11_thing_10 : g_dc cX11_thing 10 (.iload_n 2) 1 11 := ⟨by decide +kernel, rfl⟩
theorem e_X11_thing_11 : g_dc cX11_thing 11 (.iconst 0) 1 12 := ⟨by decide +kernel, rfl⟩
theorem e_X11_thing_12 : g_dc cX11_thing 12 (.iconst 3) 1 13 := ⟨by decide +kernel, rfl⟩
theorem e_X11_thing_13 : g_dc cX11_thing 13 (.invokestatic 165) 3 16 := ⟨by decide +kernel, rfl⟩
theorem e_X11_thing_16 : g_dc cX11_thing 16 (.ifCond .eq 50) 3 19 := ⟨by decide +kernel, rfl⟩
theorem e_X11_thing_19 : g_dc cX11_thing 19 (.iload_n 3) 1 20 := ⟨by decide +kernel, rfl⟩
theorem e_X11_thing_20 : g_dc cX11_thing 20 (.iconst 0) 1 21 := ⟨by decide +kernel, rfl⟩
theorem e_X11_thing_21 : g_dc cX11_thing 21 (.aload_n 0) 1 22 := ⟨by decide +kernel, rfl⟩
theorem e_X11_thing_22 : g_dc cX11_thing 22 (.getfield 155) 3 25 := ⟨by decide +kernel, rfl⟩
theorem e_X11_thing_25 : g_dc cX11_thing 25 (.iconst 1) 1 26 := ⟨by decide +kernel, rfl⟩
theorem e_X11_thing_26 : g_dc cX11_thing 26 (.isub) 1 27 := ⟨by decide +kernel, rfl⟩
theorem e_X11_thing_27 : g_dc cX11_thing 27 (.invokestatic 165) 3 30 := ⟨by decide +kernel, rfl⟩
theorem e_X11_thing_30 : g_dc cX11_thing 30 (.ifCond .eq 36) 3 33 := ⟨by decide +kernel, rfl⟩
theorem e_X11_thing_33 : g_dc cX11_thing 33 (.iload 4) 2 35 := ⟨by decide +kernel, rfl⟩
theorem e_X11_thing_35 : g_dc cX11_thing 35 (.iconst 1) 1 36 := ⟨by decide +kernel, rfl⟩
theorem e_X11_thing_36 : g_dc cX11_thing 36 (.bipush 40) 2 38 := ⟨by decide +kernel, rfl⟩
theorem e_X11_thing_38 : g_dc cX11_thing 38 (.invokestatic 165) 3 41 := ⟨by decide +kernel, rfl⟩
theorem e_X11_thing_41 : g_dc cX11_thing 41 (.ifCond .eq 25) 3 44 := ⟨by decide +kernel, rfl⟩
theorem e_X11_thing_44 : g_dc cX11_thing 44 (.iload 5) 2 46 := ⟨by decide +kernel, rfl⟩
theorem e_X11_thing_46 : g_dc cX11_thing 46 (.iconst 1) 1 47 := ⟨by decide +kernel, rfl⟩
theorem e_X11_thing_47 : g_dc cX11_thing 47 (.bipush 60) 2 49 := ⟨by decide +kernel, rfl⟩
theorem e_X11_thing_49 : g_dc cX11_thing 49 (.invokestatic 165) 3 52 := ⟨by decide +kernel, rfl⟩
theorem e_X11_thing_52 : g_dc cX11_thing 52 (.ifCond .eq 14) 3 55 := ⟨by decide +kernel, rfl⟩
theorem e_X11_thing_55 : g_dc cX11_thing 55 (.iload 6) 2 57 := ⟨by decide +kernel, rfl⟩
theorem e_X11_thing_57 : g_dc cX11_thing 57 (.iconst 1) 1 58 := ⟨by decide +kernel, rfl⟩
theorem e_X11_thing_58 : g_dc cX11_thing 58 (.bipush 99) 2 60 := ⟨by decide +kernel, rfl⟩
theorem e_X11_thing_60 : g_dc cX11_thing 60 (.invokestatic 165) 3 63 := ⟨by decide +kernel, rfl⟩
theorem e_X11_thing_63 : g_dc cX11_thing 63 (.ifCond .ne 5) 3 66 := ⟨by decide +kernel, rfl⟩
theorem e_X11_thing_66 : g_dc cX11_thing 66 (.iconst 0) 1 67 := ⟨by decide +kernel, rfl⟩
theorem e_X11_thing_67 : g_dc cX11_thing 67 (.ireturn) 1 68 := ⟨by decide +kernel, rfl⟩
theorem e_X11_thing_68 : g_dc cX11_thing 68 (.aload_n 0) 1 69 := ⟨by decide +kernel, rfl⟩
theorem e_X11_thing_69 : g_dc cX11_thing 69 (.aload_n 0) 1 70 := ⟨by decide +kernel, rfl⟩
theorem e_X11_thing_70 : g_dc cX11_thing 70 (.getfield 172) 3 73 := ⟨by decide +kernel, rfl⟩
theorem e_X11_thing_73 : g_dc cX11_thing 73 (.iconst 1) 1 74 := ⟨by decide +kernel, rfl⟩
theorem e_X11_thing_74 : g_dc cX11_thing 74 (.iload_n 1) 1 75 := ⟨by decide +kernel, rfl⟩
theorem e_X11_thing_75 : g_dc cX11_thing 75 (.ishl) 1 76 := ⟨by decide +kernel, rfl⟩
theorem e_X11_thing_76 : g_dc cX11_thing 76 (.ior) 1 77 := ⟨by decide +kernel, rfl⟩
theorem e_X11_thing_77 : g_dc cX11_thing 77 (.putfield 172) 3 80 := ⟨by decide +kernel, rfl⟩
theorem e_X11_thing_80 : g_dc cX11_thing 80 (.aload_n 0) 1 81 := ⟨by decide +kernel, rfl⟩
theorem e_X11_thing_81 : g_dc cX11_thing 81 (.getfield 7) 3 84 := ⟨by decide +kernel, rfl⟩
theorem e_X11_thing_84 : g_dc cX11_thing 84 (.iload_n 1) 1 85 := ⟨by decide +kernel, rfl⟩
theorem e_X11_thing_85 : g_dc cX11_thing 85 (.iload_n 2) 1 86 := ⟨by decide +kernel, rfl⟩
theorem e_X11_thing_86 : g_dc cX11_thing 86 (.iastore) 1 87 := ⟨by decide +kernel, rfl⟩
theorem e_X11_thing_87 : g_dc cX11_thing 87 (.aload_n 0) 1 88 := ⟨by decide +kernel, rfl⟩
theorem e_X11_thing_88 : g_dc cX11_thing 88 (.getfield 13) 3 91 := ⟨by decide +kernel, rfl⟩
theorem e_X11_thing_91 : g_dc cX11_thing 91 (.iload_n 1) 1 92 := ⟨by decide +kernel, rfl⟩
theorem e_X11_thing_92 : g_dc cX11_thing 92 (.iload_n 3) 1 93 := ⟨by decide +kernel, rfl⟩
theorem e_X11_thing_93 : g_dc cX11_thing 93 (.iastore) 1 94 := ⟨by decide +kernel, rfl⟩
theorem e_X11_thing_94 : g_dc cX11_thing 94 (.aload_n 0) 1 95 := ⟨by decide +kernel, rfl⟩
theorem e_X11_thing_95 : g_dc cX11_thing 95 (.getfield 16) 3 98 := ⟨by decide +kernel, rfl⟩
theorem e_X11_thing_98 : g_dc cX11_thing 98 (.iload_n 1) 1 99 := ⟨by decide +kernel, rfl⟩
theorem e_X11_thing_99 : g_dc cX11_thing 99 (.iload 4) 2 101 := ⟨by decide +kernel, rfl⟩
theorem e_X11_thing_101 : g_dc cX11_thing 101 (.iastore) 1 102 := ⟨by decide +kernel, rfl⟩
theorem e_X11_thing_102 : g_dc cX11_thing 102 (.aload_n 0) 1 103 := ⟨by decide +kernel, rfl⟩
theorem e_X11_thing_103 : g_dc cX11_thing 103 (.getfield 19) 3 106 := ⟨by decide +kernel, rfl⟩
theorem e_X11_thing_106 : g_dc cX11_thing 106 (.iload_n 1) 1 107 := ⟨by decide +kernel, rfl⟩
theorem e_X11_thing_107 : g_dc cX11_thing 107 (.iload 5) 2 109 := ⟨by decide +kernel, rfl⟩
theorem e_X11_thing_109 : g_dc cX11_thing 109 (.iastore) 1 110 := ⟨by decide +kernel, rfl⟩
theorem e_X11_thing_110 : g_dc cX11_thing 110 (.aload_n 0) 1 111 := ⟨by decide +kernel, rfl⟩
theorem e_X11_thing_111 : g_dc cX11_thing 111 (.getfield 22) 3 114 := ⟨by decide +kernel, rfl⟩
theorem e_X11_thing_114 : g_dc cX11_thing 114 (.iload_n 1) 1 115 := ⟨by decide +kernel, rfl⟩
theorem e_X11_thing_115 : g_dc cX11_thing 115 (.iload 6) 2 117 := ⟨by decide +kernel, rfl⟩
theorem e_X11_thing_117 : g_dc cX11_thing 117 (.iastore) 1 118 := ⟨by decide +kernel, rfl⟩
theorem e_X11_thing_118 : g_dc cX11_thing 118 (.aload_n 0) 1 119 := ⟨by decide +kernel, rfl⟩
theorem e_X11_thing_119 : g_dc cX11_thing 119 (.getfield 25) 3 122 := ⟨by decide +kernel, rfl⟩
theorem e_X11_thing_122 : g_dc cX11_thing 122 (.iload_n 1) 1 123 := ⟨by decide +kernel, rfl⟩
theorem e_X11_thing_123 : g_dc cX11_thing 123 (.iconst 0) 1 124 := ⟨by decide +kernel, rfl⟩
theorem e_X11_thing_124 : g_dc cX11_thing 124 (.iastore) 1 125 := ⟨by decide +kernel, rfl⟩
theorem e_X11_thing_125 : g_dc cX11_thing 125 (.aload_n 0) 1 126 := ⟨by decide +kernel, rfl⟩
theorem e_X11_thing_126 : g_dc cX11_thing 126 (.getfield 28) 3 129 := ⟨by decide +kernel, rfl⟩
theorem e_X11_thing_129 : g_dc cX11_thing 129 (.iload_n 1) 1 130 := ⟨by decide +kernel, rfl⟩
theorem e_X11_thing_130 : g_dc cX11_thing 130 (.iconst 0) 1 131 := ⟨by decide +kernel, rfl⟩
theorem e_X11_thing_131 : g_dc cX11_thing 131 (.iastore) 1 132 := ⟨by decide +kernel, rfl⟩
theorem e_X11_thing_132 : g_dc cX11_thing 132 (.aload_n 0) 1 133 := ⟨by decide +kernel, rfl⟩
theorem e_X11_thing_133 : g_dc cX11_thing 133 (.getfield 31) 3 136 := ⟨by decide +kernel, rfl⟩
theorem e_X11_thing_136 : g_dc cX11_thing 136 (.iload_n 1) 1 137 := ⟨by decide +kernel, rfl⟩
theorem e_X11_thing_137 : g_dc cX11_thing 137 (.iconst 0) 1 138 := ⟨by decide +kernel, rfl⟩
theorem e_X11_thing_138 : g_dc cX11_thing 138 (.iastore) 1 139 := ⟨by decide +kernel, rfl⟩
theorem e_X11_thing_139 : g_dc cX11_thing 139 (.iconst 1) 1 140 := ⟨by decide +kernel, rfl⟩
theorem e_X11_thing_140 : g_dc cX11_thing 140 (.ireturn) 1 141 := ⟨by decide +kernel, rfl⟩
def md_X11_thing : List Nat := [4]
def mr_X11_thing : List Nat := [1, 2, 3, 4, 5, 6, 7, 8]
set_option maxHeartbeats 4000000 in
set_option maxRecDepth 100000 in
theorem w_X11_thing (l : Launch) (X : gX) (ad : Nat → Nat) (F : Nat → Int32) (R : Nat → Nat → Int32) (hI : g_ok LK_wM F) (hA : g_okR LA_wM R) (hWT : WT F R) (hWC : WC F R) (a0 : Int32) (a1 : Int32) (a2 : Int32) (a3 : Int32) (a4 : Int32) (a5 : Int32) : g_Ci l X yX11_thing cX11_thing 7 (some .boolean) 2 0 0 [.ref (ad 0), .int a0, .int a1, .int a2, .int a3, .int a4, .int a5] (wM X ad F R) (fun r w => ∃ (F' : Nat → Int32) (R' : Nat → Nat → Int32), w = wM X ad F' R' ∧ g_ok LK_wM F' ∧ g_okR LA_wM R' ∧ WT F' R' ∧ WC F' R' ∧ g_fr md_X11_thing F F' ∧ g_fr mr_X11_thing R R' ∧ jv 0 1 r) := by
  refine g_mi (by decide +kernel) (Nat.le_of_ble_eq_true rfl) (fun E cx hret => ?_)
  refine g_iload_n cx 1 rfl e_X11_thing_0 ?_
  refine g_iconst cx 0 (by decide) e_X11_thing_1 ?_
  refine g_bipush cx 9 (by decide) e_X11_thing_2 ?_
  refine g_cSiW cx [.int a0, .int 0, .int 9] [] (c_X11_in l X (wM X ad F R) a0 0 9) ml_X11_165 yS_X11_in rfl e_X11_thing_4 (by unfold g_rr; decide) (by decide) rfl (Nat.le_of_ble_eq_true rfl) (fun r1 w2 h3 => ?_)
  obtain ⟨rfl, hr1⟩ := h3
  have pr1 : jv 0 1 r1 := by rw [hr1]; exact gi_01 _ _ _
  have J66 : G X E 7 0 0 (wM X ad F R) [] 66 [] := by
    refine g_iconst cx 0 (by decide) e_X11_thing_66 ?_
    exact hret e_X11_thing_67 (Nat.le_of_ble_eq_true rfl) (Nat.le_of_ble_eq_true rfl) rfl ⟨F, R, rfl, hI, hA, hWT, hWC, (g_fr_rf F), (g_fr_rf R), (jv_w (jv_k (x := 0) 0 (by decide)) (by decide))⟩
  refine g_if_eq cx 66 e_X11_thing_7 (by decide) (fun zc4 => ?_) (fun zc4 => ?_)
  · have p5 := gn_eq 0 0 (gc_eq zc4) pr1 (jv_k (x := 0) 0 (by decide)) (by decide)
    refine g_lsub [] [] rfl ?_
    exact J66  
  · have p6 := gn_neL 1 1 (gc_ne zc4) pr1 (jv_k (x := 0) 0 (by decide)) (by decide)
    have p7 := jv_i 0 9 (jv_t a0) (gi_in (A := 0) (B := 9) hr1 zc4 (by decide) (by decide)) (by decide)
    refine g_iload_n cx 2 rfl e_X11_thing_10 ?_
    refine g_iconst cx 0 (by decide) e_X11_thing_11 ?_
    refine g_iconst cx 3 (by decide) e_X11_thing_12 ?_
    refine g_cSiW cx [.int a1, .int 0, .int 3] [] (c_X11_in l X (wM X ad F R) a1 0 3) ml_X11_165 yS_X11_in rfl e_X11_thing_13 (by unfold g_rr; decide) (by decide) rfl (Nat.le_of_ble_eq_true rfl) (fun r8 w9 h10 => ?_)
    obtain ⟨rfl, hr8⟩ := h10
    have pr8 : jv 0 1 r8 := by rw [hr8]; exact gi_01 _ _ _
    refine g_if_eq cx 66 e_X11_thing_16 (by decide) (fun zc11 => ?_) (fun zc11 => ?_)
    · have p12 := gn_eq 0 0 (gc_eq zc11) pr8 (jv_k (x := 0) 0 (by decide)) (by decide)
      refine g_lsub [] [] rfl ?_
      exact J66  
    · have p13 := gn_neL 1 1 (gc_ne zc11) pr8 (jv_k (x := 0) 0 (by decide)) (by decide)
      have p14 := jv_i 0 3 (jv_t a1) (gi_in (A := 0) (B := 3) hr8 zc11 (by decide) (by decide)) (by decide)
      refine g_iload_n cx 3 rfl e_X11_thing_19 ?_
      refine g_iconst cx 0 (by decide) e_X11_thing_20 ?_
      refine g_aload_n cx 0 rfl e_X11_thing_21 ?_
      refine g_get cx cl_X11 fl_X11_155 0 (.int (F 0)) e_X11_thing_22 rfl rfl ?_
      refine g_iconst cx 1 (by decide) e_X11_thing_25 ?_
      refine g_isub cx e_X11_thing_26 ?_
      refine g_topi (fun x15 ex15 => ?_)
      refine g_cSiW cx [.int a2, .int 0, .int x15] [] (c_X11_in l X (wM X ad F R) a2 0 x15) ml_X11_165 yS_X11_in rfl e_X11_thing_27 (by unfold g_rr; decide) (by decide) rfl (Nat.le_of_ble_eq_true rfl) (fun r16 w17 h18 => ?_)
      obtain ⟨rfl, hr16⟩ := h18
      have pr16 : jv 0 1 r16 := by rw [hr16]; exact gi_01 _ _ _
      refine g_if_eq cx 66 e_X11_thing_30 (by decide) (fun zc19 => ?_) (fun zc19 => ?_)
      · have p20 := gn_eq 0 0 (gc_eq zc19) pr16 (jv_k (x := 0) 0 (by decide)) (by decide)
        refine g_lsub [] [] rfl ?_
        exact J66  
      · have p21 := gn_neL 1 1 (gc_ne zc19) pr16 (jv_k (x := 0) 0 (by decide)) (by decide)
        have p22 := gn_ge 0 2147483647 (gi_le hr16 zc19).1 (jv_t a2) (jv_k (x := 0) 0 (by decide)) (by decide)
        have p23 := gn_ge 0 2147483647 (gi_le hr16 zc19).2 (jv_t x15) p22 (by decide)
        refine g_iload cx 4 rfl e_X11_thing_33 ?_
        refine g_iconst cx 1 (by decide) e_X11_thing_35 ?_
        refine g_bipush cx 40 (by decide) e_X11_thing_36 ?_
        refine g_cSiW cx [.int a3, .int 1, .int 40] [] (c_X11_in l X (wM X ad F R) a3 1 40) ml_X11_165 yS_X11_in rfl e_X11_thing_38 (by unfold g_rr; decide) (by decide) rfl (Nat.le_of_ble_eq_true rfl) (fun r24 w25 h26 => ?_)
        obtain ⟨rfl, hr24⟩ := h26
        have pr24 : jv 0 1 r24 := by rw [hr24]; exact gi_01 _ _ _
        refine g_if_eq cx 66 e_X11_thing_41 (by decide) (fun zc27 => ?_) (fun zc27 => ?_)
        · have p28 := gn_eq 0 0 (gc_eq zc27) pr24 (jv_k (x := 0) 0 (by decide)) (by decide)
          refine g_lsub [] [] rfl ?_
          exact J66  
        · have p29 := gn_neL 1 1 (gc_ne zc27) pr24 (jv_k (x := 0) 0 (by decide)) (by decide)
          have p30 := jv_i 1 40 (jv_t a3) (gi_in (A := 1) (B := 40) hr24 zc27 (by decide) (by decide)) (by decide)
          refine g_iload cx 5 rfl e_X11_thing_44 ?_
          refine g_iconst cx 1 (by decide) e_X11_thing_46 ?_
          refine g_bipush cx 60 (by decide) e_X11_thing_47 ?_
          refine g_cSiW cx [.int a4, .int 1, .int 60] [] (c_X11_in l X (wM X ad F R) a4 1 60) ml_X11_165 yS_X11_in rfl e_X11_thing_49 (by unfold g_rr; decide) (by decide) rfl (Nat.le_of_ble_eq_true rfl) (fun r31 w32 h33 => ?_)
          obtain ⟨rfl, hr31⟩ := h33
          have pr31 : jv 0 1 r31 := by rw [hr31]; exact gi_01 _ _ _
          refine g_if_eq cx 66 e_X11_thing_52 (by decide) (fun zc34 => ?_) (fun zc34 => ?_)
          · have p35 := gn_eq 0 0 (gc_eq zc34) pr31 (jv_k (x := 0) 0 (by decide)) (by decide)
            refine g_lsub [] [] rfl ?_
            exact J66  
          · have p36 := gn_neL 1 1 (gc_ne zc34) pr31 (jv_k (x := 0) 0 (by decide)) (by decide)
            have p37 := jv_i 1 60 (jv_t a4) (gi_in (A := 1) (B := 60) hr31 zc34 (by decide) (by decide)) (by decide)
            refine g_iload cx 6 rfl e_X11_thing_55 ?_
            refine g_iconst cx 1 (by decide) e_X11_thing_57 ?_
            refine g_bipush cx 99 (by decide) e_X11_thing_58 ?_
            refine g_cSiW cx [.int a5, .int 1, .int 99] [] (c_X11_in l X (wM X ad F R) a5 1 99) ml_X11_165 yS_X11_in rfl e_X11_thing_60 (by unfold g_rr; decide) (by decide) rfl (Nat.le_of_ble_eq_true rfl) (fun r38 w39 h40 => ?_)
            obtain ⟨rfl, hr38⟩ := h40
            have pr38 : jv 0 1 r38 := by rw [hr38]; exact gi_01 _ _ _
            refine g_if_ne cx 68 e_X11_thing_63 (by decide) (fun zc41 => ?_) (fun zc41 => ?_)
            · have p42 := gn_neL 1 1 (gc_ne zc41) pr38 (jv_k (x := 0) 0 (by decide)) (by decide)
              have p43 := jv_i 1 99 (jv_t a5) (gi_in (A := 1) (B := 99) hr38 zc41 (by decide) (by decide)) (by decide)
              refine g_aload_n cx 0 rfl e_X11_thing_68 ?_
              refine g_aload_n cx 0 rfl e_X11_thing_69 ?_
              refine g_get cx cl_X11 fl_X11_172 0 (.int (F 4)) e_X11_thing_70 rfl rfl ?_
              refine g_iconst cx 1 (by decide) e_X11_thing_73 ?_
              refine g_iload_n cx 1 rfl e_X11_thing_74 ?_
              refine g_ishl cx e_X11_thing_75 ?_
              refine g_topi (fun x44 ex44 => ?_)
              refine g_ior cx e_X11_thing_76 ?_
              refine g_topi (fun x45 ex45 => ?_)
              refine g_put cx cl_X11 fl_X11_172 0 (wM X ad (upd F 4 x45) R) e_X11_thing_77 rfl rfl rfl rfl (Nat.le_of_ble_eq_true rfl) rfl ?_
              obtain ⟨F46, hF46⟩ : ∃ z, z = upd F 4 x45 := ⟨_, rfl⟩
              rw [← hF46]
              have oF46 : g_ok LK_wM F46 := by rw [hF46]; exact g_ok_u hI rfl
              have fF46 : g_fr md_X11_thing F F46 := by rw [hF46]; exact g_fr_u (g_fr_rf F) rfl
              have wCF46 : WC F46 R := by rw [hF46]; exact WC_u hWC rfl
              refine g_aload_n cx 0 rfl e_X11_thing_80 ?_
              refine g_get cx cl_X11 fl_X11_7 0 (.ref (ad 1)) e_X11_thing_81 rfl rfl ?_
              refine g_iload_n cx 1 rfl e_X11_thing_84 ?_
              refine g_iload_n cx 2 rfl e_X11_thing_85 ?_
              refine g_iast cx 1 (wM X ad F46 (g_u R 1 (upd (R 1) (Int32.toNatClampNeg a0) a1))) e_X11_thing_86 rfl (jv_ix 10 p7 (by decide)) rfl ?_
              obtain ⟨R47, hR47⟩ : ∃ z, z = g_u R 1 (upd (R 1) (Int32.toNatClampNeg a0) a1) := ⟨_, rfl⟩
              rw [← hR47]
              have oR47 : g_okR LA_wM R47 := by rw [hR47]; exact g_okR_u hA rfl
              have fR47 : g_fr mr_X11_thing R R47 := by rw [hR47]; exact g_fr_r (g_fr_rf R) rfl
              have wCR47 : WC F46 R47 := by rw [hR47]; exact WC_r wCF46 rfl
              refine g_aload_n cx 0 rfl e_X11_thing_87 ?_
              refine g_get cx cl_X11 fl_X11_13 0 (.ref (ad 2)) e_X11_thing_88 rfl rfl ?_
              refine g_iload_n cx 1 rfl e_X11_thing_91 ?_
              refine g_iload_n cx 3 rfl e_X11_thing_92 ?_
              refine g_iast cx 2 (wM X ad F46 (g_u R47 2 (upd (R47 2) (Int32.toNatClampNeg a0) a2))) e_X11_thing_93 rfl (jv_ix 10 p7 (by decide)) rfl ?_
              obtain ⟨R48, hR48⟩ : ∃ z, z = g_u R47 2 (upd (R47 2) (Int32.toNatClampNeg a0) a2) := ⟨_, rfl⟩
              rw [← hR48]
              have oR48 : g_okR LA_wM R48 := by rw [hR48]; exact g_okR_u oR47 rfl
              have fR48 : g_fr mr_X11_thing R R48 := by rw [hR48]; exact g_fr_r fR47 rfl
              have wCR48 : WC F46 R48 := by rw [hR48]; exact WC_r wCR47 rfl
              refine g_aload_n cx 0 rfl e_X11_thing_94 ?_
              refine g_get cx cl_X11 fl_X11_16 0 (.ref (ad 3)) e_X11_thing_95 rfl rfl ?_
              refine g_iload_n cx 1 rfl e_X11_thing_98 ?_
              refine g_iload cx 4 rfl e_X11_thing_99 ?_
              refine g_iast cx 3 (wM X ad F46 (g_u R48 3 (upd (R48 3) (Int32.toNatClampNeg a0) a3))) e_X11_thing_101 rfl (jv_ix 10 p7 (by decide)) rfl ?_
              obtain ⟨R49, hR49⟩ : ∃ z, z = g_u R48 3 (upd (R48 3) (Int32.toNatClampNeg a0) a3) := ⟨_, rfl⟩
              rw [← hR49]
              have oR49 : g_okR LA_wM R49 := by rw [hR49]; exact g_okR_p oR48 p30 rfl
              have fR49 : g_fr mr_X11_thing R R49 := by rw [hR49]; exact g_fr_r fR48 rfl
              have wCR49 : WC F46 R49 := by rw [hR49]; exact WC_r wCR48 rfl
              refine g_aload_n cx 0 rfl e_X11_thing_102 ?_
              refine g_get cx cl_X11 fl_X11_19 0 (.ref (ad 4)) e_X11_thing_103 rfl rfl ?_
              refine g_iload_n cx 1 rfl e_X11_thing_106 ?_
              refine g_iload cx 5 rfl e_X11_thing_107 ?_
              refine g_iast cx 4 (wM X ad F46 (g_u R49 4 (upd (R49 4) (Int32.toNatClampNeg a0) a4))) e_X11_thing_109 rfl (jv_ix 10 p7 (by decide)) rfl ?_
              obtain ⟨R50, hR50⟩ : ∃ z, z = g_u R49 4 (upd (R49 4) (Int32.toNatClampNeg a0) a4) := ⟨_, rfl⟩
              rw [← hR50]
              have oR50 : g_okR LA_wM R50 := by rw [hR50]; exact g_okR_u oR49 rfl
              have fR50 : g_fr mr_X11_thing R R50 := by rw [hR50]; exact g_fr_r fR49 rfl
              have wCR50 : WC F46 R50 := by rw [hR50]; exact WC_r wCR49 rfl
              refine g_aload_n cx 0 rfl e_X11_thing_110 ?_
              refine g_get cx cl_X11 fl_X11_22 0 (.ref (ad 5)) e_X11_thing_111 rfl rfl ?_
              refine g_iload_n cx 1 rfl e_X11_thing_114 ?_
              refine g_iload cx 6 rfl e_X11_thing_115 ?_
              refine g_iast cx 5 (wM X ad F46 (g_u R50 5 (upd (R50 5) (Int32.toNatClampNeg a0) a5))) e_X11_thing_117 rfl (jv_ix 10 p7 (by decide)) rfl ?_
              obtain ⟨R51, hR51⟩ : ∃ z, z = g_u R50 5 (upd (R50 5) (Int32.toNatClampNeg a0) a5) := ⟨_, rfl⟩
              rw [← hR51]
              have oR51 : g_okR LA_wM R51 := by rw [hR51]; exact g_okR_p oR50 p43 rfl
              have fR51 : g_fr mr_X11_thing R R51 := by rw [hR51]; exact g_fr_r fR50 rfl
              have wCR51 : WC F46 R51 := by rw [hR51]; exact WC_r wCR50 rfl
              refine g_aload_n cx 0 rfl e_X11_thing_118 ?_
              refine g_get cx cl_X11 fl_X11_25 0 (.ref (ad 6)) e_X11_thing_119 rfl rfl ?_
              refine g_iload_n cx 1 rfl e_X11_thing_122 ?_
              refine g_iconst cx 0 (by decide) e_X11_thing_123 ?_
              refine g_iast cx 6 (wM X ad F46 (g_u R51 6 (upd (R51 6) (Int32.toNatClampNeg a0) 0))) e_X11_thing_124 rfl (jv_ix 10 p7 (by decide)) rfl ?_
              obtain ⟨R52, hR52⟩ : ∃ z, z = g_u R51 6 (upd (R51 6) (Int32.toNatClampNeg a0) 0) := ⟨_, rfl⟩
              rw [← hR52]
              have oR52 : g_okR LA_wM R52 := by rw [hR52]; exact g_okR_u oR51 rfl
              have fR52 : g_fr mr_X11_thing R R52 := by rw [hR52]; exact g_fr_r fR51 rfl
              have wCR52 : WC F46 R52 := by rw [hR52]; exact WC_r wCR51 rfl
              refine g_aload_n cx 0 rfl e_X11_thing_125 ?_
              refine g_get cx cl_X11 fl_X11_28 0 (.ref (ad 7)) e_X11_thing_126 rfl rfl ?_
              refine g_iload_n cx 1 rfl e_X11_thing_129 ?_
              refine g_iconst cx 0 (by decide) e_X11_thing_130 ?_
              refine g_iast cx 7 (wM X ad F46 (g_u R52 7 (upd (R52 7) (Int32.toNatClampNeg a0) 0))) e_X11_thing_131 rfl (jv_ix 10 p7 (by decide)) rfl ?_
              obtain ⟨R53, hR53⟩ : ∃ z, z = g_u R52 7 (upd (R52 7) (Int32.toNatClampNeg a0) 0) := ⟨_, rfl⟩
              rw [← hR53]
              have oR53 : g_okR LA_wM R53 := by rw [hR53]; exact g_okR_u oR52 rfl
              have fR53 : g_fr mr_X11_thing R R53 := by rw [hR53]; exact g_fr_r fR52 rfl
              have wCR53 : WC F46 R53 := by rw [hR53]; exact WC_r wCR52 rfl
              refine g_aload_n cx 0 rfl e_X11_thing_132 ?_
              refine g_get cx cl_X11 fl_X11_31 0 (.ref (ad 8)) e_X11_thing_133 rfl rfl ?_
              refine g_iload_n cx 1 rfl e_X11_thing_136 ?_
              refine g_iconst cx 0 (by decide) e_X11_thing_137 ?_
              refine g_iast cx 8 (wM X ad F46 (g_u R53 8 (upd (R53 8) (Int32.toNatClampNeg a0) 0))) e_X11_thing_138 rfl (jv_ix 10 p7 (by decide)) rfl ?_
              obtain ⟨R54, hR54⟩ : ∃ z, z = g_u R53 8 (upd (R53 8) (Int32.toNatClampNeg a0) 0) := ⟨_, rfl⟩
              rw [← hR54]
              have oR54 : g_okR LA_wM R54 := by rw [hR54]; exact g_okR_u oR53 rfl
              have fR54 : g_fr mr_X11_thing R R54 := by rw [hR54]; exact g_fr_r fR53 rfl
              have wCR54 : WC F46 R54 := by rw [hR54]; exact WC_r wCR53 rfl
              refine g_iconst cx 1 (by decide) e_X11_thing_139 ?_
              exact hret e_X11_thing_140 (Nat.le_of_ble_eq_true rfl) (Nat.le_of_ble_eq_true rfl) rfl ⟨F46, R54, rfl, oF46, oR54, (WT_thing hWT p7 p30 p43 ((g_pu1 hF46).trans (ex45.trans (by rw [ex44]))) (g_pu2 hF46 rfl) (((((((g_ru2 hR54 rfl).trans (g_ru2 hR53 rfl)).trans (g_ru2 hR52 rfl)).trans (g_ru2 hR51 rfl)).trans (g_ru2 hR50 rfl)).trans (g_ru1 hR49)).trans (by rw [show R48 3 = R 3 from ((g_ru2 hR48 rfl).trans (g_ru2 hR47 rfl))])) (((((g_ru2 hR54 rfl).trans (g_ru2 hR53 rfl)).trans (g_ru2 hR52 rfl)).trans (g_ru1 hR51)).trans (by rw [show R50 5 = R 5 from ((((g_ru2 hR50 rfl).trans (g_ru2 hR49 rfl)).trans (g_ru2 hR48 rfl)).trans (g_ru2 hR47 rfl))])) ((((((((g_ru2 hR54 rfl).trans (g_ru2 hR53 rfl)).trans (g_ru2 hR52 rfl)).trans (g_ru2 hR51 rfl)).trans (g_ru2 hR50 rfl)).trans (g_ru2 hR49 rfl)).trans (g_ru2 hR48 rfl)).trans (g_ru2 hR47 rfl)) ((((((((g_ru2 hR54 rfl).trans (g_ru2 hR53 rfl)).trans (g_ru2 hR52 rfl)).trans (g_ru2 hR51 rfl)).trans (g_ru2 hR50 rfl)).trans (g_ru2 hR49 rfl)).trans (g_ru2 hR48 rfl)).trans (g_ru2 hR47 rfl))), wCR54, fF46, fR54, (jv_w (jv_k (x := 1) 1 (by decide)) (by decide))⟩
            · have p55 := gn_eq 0 0 (gc_eq zc41) pr38 (jv_k (x := 0) 0 (by decide)) (by decide)
              refine g_lsub [] [] rfl ?_
              exact J66  
theorem e_X11_isTold_0 : g_dc cX11_isTold 0 (.iload_n 1) 1 1 := ⟨by decide +kernel, rfl⟩
theorem e_X11_isTold_1 : g_dc cX11_isTold 1 (.ifCond .lt 24) 3 4 := ⟨by decide +kernel, rfl⟩
theorem e_X11_isTold_4 : g_dc cX11_isTold 4 (.iload_n 1) 1 5 := ⟨by decide +kernel, rfl⟩
theorem e_X11_isTold_5 : g_dc cX11_isTold 5 (.bipush 10) 2 7 := ⟨by decide +kernel, rfl⟩
theorem e_X11_isTold_7 : g_dc cX11_isTold 7 (.if_icmp .ge 18) 3 10 := ⟨by decide +kernel, rfl⟩
theorem e_X11_isTold_10 : g_dc cX11_isTold 10 (.aload_n 0) 1 11 := ⟨by decide +kernel, rfl⟩
theorem e_X11_isTold_11 : g_dc cX11_isTold 11 (.getfield 172) 3 14 := ⟨by decide +kernel, rfl⟩
theorem e_X11_isTold_14 : g_dc cX11_isTold 14 (.iload_n 1) 1 15 := ⟨by decide +kernel, rfl⟩
theorem e_X11_isTold_15 : g_dc cX11_isTold 15 (.invokestatic 175) 3 18 := ⟨by decide +kernel, rfl⟩
theorem e_X11_isTold_18 : g_dc cX11_isTold 18 (.ifCond .eq 7) 3 21 := ⟨by decide +kernel, rfl⟩
theorem e_X11_isTold_21 : g_dc cX11_isTold 21 (.iconst 1) 1 22 := ⟨by decide +kernel, rfl⟩
theorem e_X11_isTold_22 : g_dc cX11_isTold 22 (.goto 4) 3 25 := ⟨by decide +kernel, rfl⟩
theorem e_X11_isTold_25 : g_dc cX11_isTold 25 (.iconst 0) 1 26 := ⟨by decide +kernel, rfl⟩
theorem e_X11_isTold_26 : g_dc cX11_isTold 26 (.ireturn) 1 27 := ⟨by decide +kernel, rfl⟩
set_option maxHeartbeats 4000000 in
set_option maxRecDepth 100000 in
theorem w_X11_isTold (l : Launch) (X : gX) (ad : Nat → Nat) (F : Nat → Int32) (R : Nat → Nat → Int32) (hI : g_ok LK_wM F) (hA : g_okR LA_wM R) (hWT : WT F R) (hWC : WC F R) (a0 : Int32) : g_Ci l X yX11_isTold cX11_isTold 2 (some .boolean) 2 0 0 [.ref (ad 0), .int a0] (wM X ad F R) (fun r w => w = wM X ad F R ∧ jv 0 1 r ∧ (¬ r = 0 → jv 0 9 a0 ∧ hb (F 4) a0)) := by
  refine g_mi (by decide +kernel) (Nat.le_of_ble_eq_true rfl) (fun E cx hret => ?_)
  refine g_iload_n cx 1 rfl e_X11_isTold_0 ?_
  refine g_if_lt cx 25 e_X11_isTold_1 (by decide) (fun zc1 => ?_) (fun zc1 => ?_)
  · have p2 := gn_lt (-2147483648) (-1) (gc_lt zc1) (jv_t a0) (jv_k (x := 0) 0 (by decide)) (by decide)
    refine g_iconst cx 0 (by decide) e_X11_isTold_25 ?_
    exact hret e_X11_isTold_26 (Nat.le_of_ble_eq_true rfl) (Nat.le_of_ble_eq_true rfl) rfl ⟨rfl, (jv_w (jv_k (x := 0) 0 (by decide)) (by decide)), (fun h => absurd rfl h)⟩
  · have p3 := gn_ge 0 2147483647 (gc_nlt zc1) (jv_t a0) (jv_k (x := 0) 0 (by decide)) (by decide)
    refine g_iload_n cx 1 rfl e_X11_isTold_4 ?_
    refine g_bipush cx 10 (by decide) e_X11_isTold_5 ?_
    refine g_icmp_ge cx 25 e_X11_isTold_7 (by decide) (fun zc4 => ?_) (fun zc4 => ?_)
    · have p5 := gn_ge 10 2147483647 (gc_le zc4) p3 (jv_k (x := 10) 10 (by decide)) (by decide)
      refine g_iconst cx 0 (by decide) e_X11_isTold_25 ?_
      exact hret e_X11_isTold_26 (Nat.le_of_ble_eq_true rfl) (Nat.le_of_ble_eq_true rfl) rfl ⟨rfl, (jv_w (jv_k (x := 0) 0 (by decide)) (by decide)), (fun h => absurd rfl h)⟩
    · have p6 := gn_lt 0 9 (gc_nle zc4) p3 (jv_k (x := 10) 10 (by decide)) (by decide)
      refine g_aload_n cx 0 rfl e_X11_isTold_10 ?_
      refine g_get cx cl_X11 fl_X11_172 0 (.int (F 4)) e_X11_isTold_11 rfl rfl ?_
      refine g_iload_n cx 1 rfl e_X11_isTold_14 ?_
      refine g_cSiW cx [.int (F 4), .int a0] [] (c_X11_has l X (wM X ad F R) (F 4) a0) ml_X11_175 yS_X11_has rfl e_X11_isTold_15 (by unfold g_rr; decide) (by decide) rfl (Nat.le_of_ble_eq_true rfl) (fun r7 w8 h9 => ?_)
      obtain ⟨rfl, hr7⟩ := h9
      have pr7 : jv 0 1 r7 := by rcases hr7 with q | q <;> rw [q.1] <;> exact ⟨by decide, by decide⟩
      refine g_if_eq cx 25 e_X11_isTold_18 (by decide) (fun zc10 => ?_) (fun zc10 => ?_)
      · have p11 := gn_eq 0 0 (gc_eq zc10) pr7 (jv_k (x := 0) 0 (by decide)) (by decide)
        refine g_iconst cx 0 (by decide) e_X11_isTold_25 ?_
        exact hret e_X11_isTold_26 (Nat.le_of_ble_eq_true rfl) (Nat.le_of_ble_eq_true rfl) rfl ⟨rfl, (jv_w (jv_k (x := 0) 0 (by decide)) (by decide)), (fun h => absurd rfl h)⟩
      · have p12 := gn_neL 1 1 (gc_ne zc10) pr7 (jv_k (x := 0) 0 (by decide)) (by decide)
        have zb13 : hb (F 4) a0 := g_hasy hr7 zc10
        refine g_iconst cx 1 (by decide) e_X11_isTold_21 ?_
        refine g_goto cx 26 e_X11_isTold_22 (by decide) ?_
        exact hret e_X11_isTold_26 (Nat.le_of_ble_eq_true rfl) (Nat.le_of_ble_eq_true rfl) rfl ⟨rfl, (jv_w (jv_k (x := 1) 1 (by decide)) (by decide)), (fun _ => ⟨p6, zb13⟩)⟩
theorem e_X11_more_0 : g_dc cX11_more 0 (.aload_n 0) 1 1 := ⟨by decide +kernel, rfl⟩
theorem e_X11_more_1 : g_dc cX11_more 1 (.iload_n 1) 1 2 := ⟨by decide +kernel, rfl⟩
theorem e_X11_more_2 : g_dc cX11_more 2 (.invokevirtual 179) 3 5 := ⟨by decide +kernel, rfl⟩
theorem e_X11_more_5 : g_dc cX11_more 5 (.ifCond .eq 35) 3 8 := ⟨by decide +kernel, rfl⟩
theorem e_X11_more_8 : g_dc cX11_more 8 (.iload_n 2) 1 9 := ⟨by decide +kernel, rfl⟩
theorem e_X11_more_9 : g_dc cX11_more 9 (.iconst 0) 1 10 := ⟨by decide +kernel, rfl⟩
theorem e_X11_more_10 : g_dc cX11_more 10 (.bipush 9) 2 12 := ⟨by decide +kernel, rfl⟩
theorem e_X11_more_12 : g_dc cX11_more 12 (.invokestatic 165) 3 15 := ⟨by decide +kernel, rfl⟩
theorem e_X11_more_15 : g_dc cX11_more 15 (.ifCond .eq 25) 3 18 := ⟨by decide +kernel, rfl⟩
theorem e_X11_more_18 : g_dc cX11_more 18 (.iload_n 3) 1 19 := ⟨by decide +kernel, rfl⟩
theorem e_X11_more_19 : g_dc cX11_more 19 (.iconst 0) 1 20 := ⟨by decide +kernel, rfl⟩
theorem e_X11_more_20 : g_dc cX11_more 20 (.bipush 9) 2 22 := ⟨by decide +kernel, rfl⟩
theorem e_X11_more_22 : g_dc cX11_more 22 (.invokestatic 165) 3 25 := ⟨by decide +kernel, rfl⟩
theorem e_X11_more_25 : g_dc cX11_more 25 (.ifCond .eq 15) 3 28 := ⟨by decide +kernel, rfl⟩
theorem e_X11_more_28 : g_dc cX11_more 28 (.iload 4) 2 30 := ⟨by decide +kernel, rfl⟩
theorem e_X11_more_30 : g_dc cX11_more 30 (.iconst 0) 1 31 := ⟨by decide +kernel, rfl⟩
theorem e_X11_more_31 : g_dc cX11_more 31 (.sipush 999) 3 34 := ⟨by decide +kernel, rfl⟩
theorem e_X11_more_34 : g_dc cX11_more 34 (.invokestatic 165) 3 37 := ⟨by decide +kernel, rfl⟩
theorem e_X11_more_37 : g_dc cX11_more 37 (.ifCond .ne 5) 3 40 := ⟨by decide +kernel, rfl⟩
theorem e_X11_more_40 : g_dc cX11_more 40 (.iconst 0) 1 41 := ⟨by decide +kernel, rfl⟩
theorem e_X11_more_41 : g_dc cX11_more 41 (.ireturn) 1 42 := ⟨by decide +kernel, rfl⟩
theorem e_X11_more_42 : g_dc cX11_more 42 (.aload_n 0) 1 43 := ⟨by decide +kernel, rfl⟩
theorem e_X11_more_43 : g_dc cX11_more 43 (.getfield 25) 3 46 := ⟨by decide +kernel, rfl⟩
theorem e_X11_more_46 : g_dc cX11_more 46 (.iload_n 1) 1 47 := ⟨by decide +kernel, rfl⟩
theorem e_X11_more_47 : g_dc cX11_more 47 (.iload_n 2) 1 48 := ⟨by decide +kernel, rfl⟩
theorem e_X11_more_48 : g_dc cX11_more 48 (.iastore) 1 49 := ⟨by decide +kernel, rfl⟩
theorem e_X11_more_49 : g_dc cX11_more 49 (.aload_n 0) 1 50 := ⟨by decide +kernel, rfl⟩
theorem e_X11_more_50 : g_dc cX11_more 50 (.getfield 28) 3 53 := ⟨by decide +kernel, rfl⟩
theorem e_X11_more_53 : g_dc cX11_more 53 (.iload_n 1) 1 54 := ⟨by decide +kernel, rfl⟩
theorem e_X11_more_54 : g_dc cX11_more 54 (.iload_n 3) 1 55 := ⟨by decide +kernel, rfl⟩
theorem e_X11_more_55 : g_dc cX11_more 55 (.iastore) 1 56 := ⟨by decide +kernel, rfl⟩
theorem e_X11_more_56 : g_dc cX11_more 56 (.aload_n 0) 1 57 := ⟨by decide +kernel, rfl⟩
theorem e_X11_more_57 : g_dc cX11_more 57 (.getfield 31) 3 60 := ⟨by decide +kernel, rfl⟩
theorem e_X11_more_60 : g_dc cX11_more 60 (.iload_n 1) 1 61 := ⟨by decide +kernel, rfl⟩
theorem e_X11_more_61 : g_dc cX11_more 61 (.iload 4) 2 63 := ⟨by decide +kernel, rfl⟩
theorem e_X11_more_63 : g_dc cX11_more 63 (.iastore) 1 64 := ⟨by decide +kernel, rfl⟩
theorem e_X11_more_64 : g_dc cX11_more 64 (.iconst 1) 1 65 := ⟨by decide +kernel, rfl⟩
theorem e_X11_more_65 : g_dc cX11_more 65 (.ireturn) 1 66 := ⟨by decide +kernel, rfl⟩
def md_X11_more : List Nat := []
def mr_X11_more : List Nat := [6, 7, 8]
set_option maxHeartbeats 4000000 in
set_option maxRecDepth 100000 in
theorem w_X11_more (l : Launch) (X : gX) (ad : Nat → Nat) (F : Nat → Int32) (R : Nat → Nat → Int32) (hI : g_ok LK_wM F) (hA : g_okR LA_wM R) (hWT : WT F R) (hWC : WC F R) (a0 : Int32) (a1 : Int32) (a2 : Int32) (a3 : Int32) : g_Ci l X yX11_more cX11_more 5 (some .boolean) 3 0 0 [.ref (ad 0), .int a0, .int a1, .int a2, .int a3] (wM X ad F R) (fun r w => ∃ (F' : Nat → Int32) (R' : Nat → Nat → Int32), w = wM X ad F' R' ∧ g_ok LK_wM F' ∧ g_okR LA_wM R' ∧ WT F' R' ∧ WC F' R' ∧ g_fr md_X11_more F F' ∧ g_fr mr_X11_more R R' ∧ jv 0 1 r) := by
  refine g_mi (by decide +kernel) (Nat.le_of_ble_eq_true rfl) (fun E cx hret => ?_)
  refine g_aload_n cx 0 rfl e_X11_more_0 ?_
  refine g_iload_n cx 1 rfl e_X11_more_1 ?_
  refine g_cViW cx [.int a0] [] (w_X11_isTold l X ad F R hI hA hWT hWC a0) ml_X11_179 yV_X11_isTold e_X11_more_2 (by unfold g_rr; decide) (by decide) 0 rfl rfl rfl (Nat.le_of_ble_eq_true rfl) (fun r1 w2 h3 => ?_)
  obtain ⟨rfl, pr1, zx4⟩ := h3
  have J40 : G X E 5 0 0 (wM X ad F R) [] 40 [] := by
    refine g_iconst cx 0 (by decide) e_X11_more_40 ?_
    exact hret e_X11_more_41 (Nat.le_of_ble_eq_true rfl) (Nat.le_of_ble_eq_true rfl) rfl ⟨F, R, rfl, hI, hA, hWT, hWC, (g_fr_rf F), (g_fr_rf R), (jv_w (jv_k (x := 0) 0 (by decide)) (by decide))⟩
  refine g_if_eq cx 40 e_X11_more_5 (by decide) (fun zc5 => ?_) (fun zc5 => ?_)
  · have p6 := gn_eq 0 0 (gc_eq zc5) pr1 (jv_k (x := 0) 0 (by decide)) (by decide)
    refine g_lsub [] [] rfl ?_
    exact J40  
  · have p7 := gn_neL 1 1 (gc_ne zc5) pr1 (jv_k (x := 0) 0 (by decide)) (by decide)
    have p8 := jv_i 0 9 (jv_t a0) (zx4 zc5).1 (by decide)
    refine g_iload_n cx 2 rfl e_X11_more_8 ?_
    refine g_iconst cx 0 (by decide) e_X11_more_9 ?_
    refine g_bipush cx 9 (by decide) e_X11_more_10 ?_
    refine g_cSiW cx [.int a1, .int 0, .int 9] [] (c_X11_in l X (wM X ad F R) a1 0 9) ml_X11_165 yS_X11_in rfl e_X11_more_12 (by unfold g_rr; decide) (by decide) rfl (Nat.le_of_ble_eq_true rfl) (fun r9 w10 h11 => ?_)
    obtain ⟨rfl, hr9⟩ := h11
    have pr9 : jv 0 1 r9 := by rw [hr9]; exact gi_01 _ _ _
    refine g_if_eq cx 40 e_X11_more_15 (by decide) (fun zc12 => ?_) (fun zc12 => ?_)
    · have p13 := gn_eq 0 0 (gc_eq zc12) pr9 (jv_k (x := 0) 0 (by decide)) (by decide)
      refine g_lsub [] [] rfl ?_
      exact J40  
    · have p14 := gn_neL 1 1 (gc_ne zc12) pr9 (jv_k (x := 0) 0 (by decide)) (by decide)
      have p15 := jv_i 0 9 (jv_t a1) (gi_in (A := 0) (B := 9) hr9 zc12 (by decide) (by decide)) (by decide)
      refine g_iload_n cx 3 rfl e_X11_more_18 ?_
      refine g_iconst cx 0 (by decide) e_X11_more_19 ?_
      refine g_bipush cx 9 (by decide) e_X11_more_20 ?_
      refine g_cSiW cx [.int a2, .int 0, .int 9] [] (c_X11_in l X (wM X ad F R) a2 0 9) ml_X11_165 yS_X11_in rfl e_X11_more_22 (by unfold g_rr; decide) (by decide) rfl (Nat.le_of_ble_eq_true rfl) (fun r16 w17 h18 => ?_)
      obtain ⟨rfl, hr16⟩ := h18
      have pr16 : jv 0 1 r16 := by rw [hr16]; exact gi_01 _ _ _
      refine g_if_eq cx 40 e_X11_more_25 (by decide) (fun zc19 => ?_) (fun zc19 => ?_)
      · have p20 := gn_eq 0 0 (gc_eq zc19) pr16 (jv_k (x := 0) 0 (by decide)) (by decide)
        refine g_lsub [] [] rfl ?_
        exact J40  
      · have p21 := gn_neL 1 1 (gc_ne zc19) pr16 (jv_k (x := 0) 0 (by decide)) (by decide)
        have p22 := jv_i 0 9 (jv_t a2) (gi_in (A := 0) (B := 9) hr16 zc19 (by decide) (by decide)) (by decide)
        refine g_iload cx 4 rfl e_X11_more_28 ?_
        refine g_iconst cx 0 (by decide) e_X11_more_30 ?_
        refine g_sipush cx 999 (by decide) e_X11_more_31 ?_
        refine g_cSiW cx [.int a3, .int 0, .int 999] [] (c_X11_in l X (wM X ad F R) a3 0 999) ml_X11_165 yS_X11_in rfl e_X11_more_34 (by unfold g_rr; decide) (by decide) rfl (Nat.le_of_ble_eq_true rfl) (fun r23 w24 h25 => ?_)
        obtain ⟨rfl, hr23⟩ := h25
        have pr23 : jv 0 1 r23 := by rw [hr23]; exact gi_01 _ _ _
        refine g_if_ne cx 42 e_X11_more_37 (by decide) (fun zc26 => ?_) (fun zc26 => ?_)
        · have p27 := gn_neL 1 1 (gc_ne zc26) pr23 (jv_k (x := 0) 0 (by decide)) (by decide)
          have p28 := jv_i 0 999 (jv_t a3) (gi_in (A := 0) (B := 999) hr23 zc26 (by decide) (by decide)) (by decide)
          refine g_aload_n cx 0 rfl e_X11_more_42 ?_
          refine g_get cx cl_X11 fl_X11_25 0 (.ref (ad 6)) e_X11_more_43 rfl rfl ?_
          refine g_iload_n cx 1 rfl e_X11_more_46 ?_
          refine g_iload_n cx 2 rfl e_X11_more_47 ?_
          refine g_iast cx 6 (wM X ad F (g_u R 6 (upd (R 6) (Int32.toNatClampNeg a0) a1))) e_X11_more_48 rfl (jv_ix 10 p8 (by decide)) rfl ?_
          obtain ⟨R29, hR29⟩ : ∃ z, z = g_u R 6 (upd (R 6) (Int32.toNatClampNeg a0) a1) := ⟨_, rfl⟩
          rw [← hR29]
          have oR29 : g_okR LA_wM R29 := by rw [hR29]; exact g_okR_u hA rfl
          have fR29 : g_fr mr_X11_more R R29 := by rw [hR29]; exact g_fr_r (g_fr_rf R) rfl
          have wTR29 : WT F R29 := by rw [hR29]; exact WT_r hWT rfl
          have wCR29 : WC F R29 := by rw [hR29]; exact WC_r hWC rfl
          refine g_aload_n cx 0 rfl e_X11_more_49 ?_
          refine g_get cx cl_X11 fl_X11_28 0 (.ref (ad 7)) e_X11_more_50 rfl rfl ?_
          refine g_iload_n cx 1 rfl e_X11_more_53 ?_
          refine g_iload_n cx 3 rfl e_X11_more_54 ?_
          refine g_iast cx 7 (wM X ad F (g_u R29 7 (upd (R29 7) (Int32.toNatClampNeg a0) a2))) e_X11_more_55 rfl (jv_ix 10 p8 (by decide)) rfl ?_
          obtain ⟨R30, hR30⟩ : ∃ z, z = g_u R29 7 (upd (R29 7) (Int32.toNatClampNeg a0) a2) := ⟨_, rfl⟩
          rw [← hR30]
          have oR30 : g_okR LA_wM R30 := by rw [hR30]; exact g_okR_u oR29 rfl
          have fR30 : g_fr mr_X11_more R R30 := by rw [hR30]; exact g_fr_r fR29 rfl
          have wTR30 : WT F R30 := by rw [hR30]; exact WT_r wTR29 rfl
          have wCR30 : WC F R30 := by rw [hR30]; exact WC_r wCR29 rfl
          refine g_aload_n cx 0 rfl e_X11_more_56 ?_
          refine g_get cx cl_X11 fl_X11_31 0 (.ref (ad 8)) e_X11_more_57 rfl rfl ?_
          refine g_iload_n cx 1 rfl e_X11_more_60 ?_
          refine g_iload cx 4 rfl e_X11_more_61 ?_
          refine g_iast cx 8 (wM X ad F (g_u R30 8 (upd (R30 8) (Int32.toNatClampNeg a0) a3))) e_X11_more_63 rfl (jv_ix 10 p8 (by decide)) rfl ?_
          obtain ⟨R31, hR31⟩ : ∃ z, z = g_u R30 8 (upd (R30 8) (Int32.toNatClampNeg a0) a3) := ⟨_, rfl⟩
          rw [← hR31]
          have oR31 : g_okR LA_wM R31 := by rw [hR31]; exact g_okR_u oR30 rfl
          have fR31 : g_fr mr_X11_more R R31 := by rw [hR31]; exact g_fr_r fR30 rfl
          have wTR31 : WT F R31 := by rw [hR31]; exact WT_r wTR30 rfl
          have wCR31 : WC F R31 := by rw [hR31]; exact WC_r wCR30 rfl
          refine g_iconst cx 1 (by decide) e_X11_more_64 ?_
          exact hret e_X11_more_65 (Nat.le_of_ble_eq_true rfl) (Nat.le_of_ble_eq_true rfl) rfl ⟨F, R31, rfl, hI, oR31, wTR31, wCR31, (g_fr_rf F), fR31, (jv_w (jv_k (x := 1) 1 (by decide)) (by decide))⟩
        · have p32 := gn_eq 0 0 (gc_eq zc26) pr23 (jv_k (x := 0) 0 (by decide)) (by decide)
          refine g_lsub [] [] rfl ?_
          exact J40  
theorem e_X11_away_0 : g_dc cX11_away 0 (.aload_n 0) 1 1 := ⟨by decide +kernel, rfl⟩
theorem e_X11_away_1 : g_dc cX11_away 1 (.iload_n 1) 1 2 := ⟨by decide +kernel, rfl⟩
theorem e_X11_away_2 : g_dc cX11_away 2 (.invokevirtual 179) 3 5 := ⟨by decide +kernel, rfl⟩
theorem e_X11_away_5 : g_dc cX11_away 5 (.ifCond .ne 5) 3 8 := ⟨by decide +kernel, rfl⟩
theorem e_X11_away_8 : g_dc cX11_away 8 (.iconst 0) 1 9 := ⟨by decide +kernel, rfl⟩
theorem e_X11_away_9 : g_dc cX11_away 9 (.ireturn) 1 10 := ⟨by decide +kernel, rfl⟩
theorem e_X11_away_10 : g_dc cX11_away 10 (.aload_n 0) 1 11 := ⟨by decide +kernel, rfl⟩
theorem e_X11_away_11 : g_dc cX11_away 11 (.aload_n 0) 1 12 := ⟨by decide +kernel, rfl⟩
theorem e_X11_away_12 : g_dc cX11_away 12 (.getfield 172) 3 15 := ⟨by decide +kernel, rfl⟩
theorem e_X11_away_15 : g_dc cX11_away 15 (.iconst 1) 1 16 := ⟨by decide +kernel, rfl⟩
theorem e_X11_away_16 : g_dc cX11_away 16 (.iload_n 1) 1 17 := ⟨by decide +kernel, rfl⟩
theorem e_X11_away_17 : g_dc cX11_away 17 (.ishl) 1 18 := ⟨by decide +kernel, rfl⟩
theorem e_X11_away_18 : g_dc cX11_away 18 (.iconst (-1)) 1 19 := ⟨by decide +kernel, rfl⟩
theorem e_X11_away_19 : g_dc cX11_away 19 (.ixor) 1 20 := ⟨by decide +kernel, rfl⟩
theorem e_X11_away_20 : g_dc cX11_away 20 (.iand) 1 21 := ⟨by decide +kernel, rfl⟩
theorem e_X11_away_21 : g_dc cX11_away 21 (.putfield 172) 3 24 := ⟨by decide +kernel, rfl⟩
theorem e_X11_away_24 : g_dc cX11_away 24 (.iconst 1) 1 25 := ⟨by decide +kernel, rfl⟩
theorem e_X11_away_25 : g_dc cX11_away 25 (.ireturn) 1 26 := ⟨by decide +kernel, rfl⟩
def md_X11_away : List Nat := [4]
def mr_X11_away : List Nat := []
set_option maxHeartbeats 4000000 in
set_option maxRecDepth 100000 in
theorem w_X11_away (l : Launch) (X : gX) (ad : Nat → Nat) (F : Nat → Int32) (R : Nat → Nat → Int32) (hI : g_ok LK_wM F) (hA : g_okR LA_wM R) (hWT : WT F R) (hWC : WC F R) (a0 : Int32) : g_Ci l X yX11_away cX11_away 2 (some .boolean) 3 0 0 [.ref (ad 0), .int a0] (wM X ad F R) (fun r w => ∃ (F' : Nat → Int32) (R' : Nat → Nat → Int32), w = wM X ad F' R' ∧ g_ok LK_wM F' ∧ g_okR LA_wM R' ∧ WT F' R' ∧ WC F' R' ∧ g_fr md_X11_away F F' ∧ g_fr mr_X11_away R R' ∧ jv 0 1 r) := by
  refine g_mi (by decide +kernel) (Nat.le_of_ble_eq_true rfl) (fun E cx hret => ?_)
  refine g_aload_n cx 0 rfl e_X11_away_0 ?_
  refine g_iload_n cx 1 rfl e_X11_away_1 ?_
  refine g_cViW cx [.int a0] [] (w_X11_isTold l X ad F R hI hA hWT hWC a0) ml_X11_179 yV_X11_isTold e_X11_away_2 (by unfold g_rr; decide) (by decide) 0 rfl rfl rfl (Nat.le_of_ble_eq_true rfl) (fun r1 w2 h3 => ?_)
  obtain ⟨rfl, pr1, zx4⟩ := h3
  refine g_if_ne cx 10 e_X11_away_5 (by decide) (fun zc5 => ?_) (fun zc5 => ?_)
  · have p6 := gn_neL 1 1 (gc_ne zc5) pr1 (jv_k (x := 0) 0 (by decide)) (by decide)
    have p7 := jv_i 0 9 (jv_t a0) (zx4 zc5).1 (by decide)
    refine g_aload_n cx 0 rfl e_X11_away_10 ?_
    refine g_aload_n cx 0 rfl e_X11_away_11 ?_
    refine g_get cx cl_X11 fl_X11_172 0 (.int (F 4)) e_X11_away_12 rfl rfl ?_
    refine g_iconst cx 1 (by decide) e_X11_away_15 ?_
    refine g_iload_n cx 1 rfl e_X11_away_16 ?_
    refine g_ishl cx e_X11_away_17 ?_
    refine g_topi (fun x8 ex8 => ?_)
    refine g_iconst cx (-1) (by decide) e_X11_away_18 ?_
    refine g_ixor cx e_X11_away_19 ?_
    refine g_topi (fun x9 ex9 => ?_)
    refine g_iand cx e_X11_away_20 ?_
    refine g_topi (fun x10 ex10 => ?_)
    refine g_put cx cl_X11 fl_X11_172 0 (wM X ad (upd F 4 x10) R) e_X11_away_21 rfl rfl rfl rfl (Nat.le_of_ble_eq_true rfl) rfl ?_
    obtain ⟨F11, hF11⟩ : ∃ z, z = upd F 4 x10 := ⟨_, rfl⟩
    rw [← hF11]
    have oF11 : g_ok LK_wM F11 := by rw [hF11]; exact g_ok_u hI rfl
    have fF11 : g_fr md_X11_away F F11 := by rw [hF11]; exact g_fr_u (g_fr_rf F) rfl
    have wTF11 : WT F11 R := by rw [hF11]; exact WT_sub hWT ex10
    have wCF11 : WC F11 R := by rw [hF11]; exact WC_u hWC rfl
    refine g_iconst cx 1 (by decide) e_X11_away_24 ?_
    exact hret e_X11_away_25 (Nat.le_of_ble_eq_true rfl) (Nat.le_of_ble_eq_true rfl) rfl ⟨F11, R, rfl, oF11, hA, wTF11, wCF11, fF11, (g_fr_rf R), (jv_w (jv_k (x := 1) 1 (by decide)) (by decide))⟩
  · have p12 := gn_eq 0 0 (gc_eq zc5) pr1 (jv_k (x := 0) 0 (by decide)) (by decide)
    refine g_iconst cx 0 (by decide) e_X11_away_8 ?_
    exact hret e_X11_away_9 (Nat.le_of_ble_eq_true rfl) (Nat.le_of_ble_eq_true rfl) rfl ⟨F, R, rfl, hI, hA, hWT, hWC, (g_fr_rf F), (g_fr_rf R), (jv_w (jv_k (x := 0) 0 (by decide)) (by decide))⟩
theorem e_X11_types_0 : g_dc cX11_types 0 (.iconst 3) 1 1 := ⟨by decide +kernel, rfl⟩
theorem e_X11_types_1 : g_dc cX11_types 1 (.istore_n 2) 1 2 := ⟨by decide +kernel, rfl⟩
theorem e_X11_types_2 : g_dc cX11_types 2 (.iload_n 2) 1 3 := ⟨by decide +kernel, rfl⟩
theorem e_X11_types_3 : g_dc cX11_types 3 (.ifCond .lt 35) 3 6 := ⟨by decide +kernel, rfl⟩
theorem e_X11_types_6 : g_dc cX11_types 6 (.aload_n 0) 1 7 := ⟨by decide +kernel, rfl⟩
theorem e_X11_types_7 : g_dc cX11_types 7 (.getfield 34) 3 10 := ⟨by decide +kernel, rfl⟩
theorem e_X11_types_10 : g_dc cX11_types 10 (.aload_n 0) 1 11 := ⟨by decide +kernel, rfl⟩
theorem e_X11_types_11 : g_dc cX11_types 11 (.getfield 183) 3 14 := ⟨by decide +kernel, rfl⟩
theorem e_X11_types_14 : g_dc cX11_types 14 (.iload_n 1) 1 15 := ⟨by decide +kernel, rfl⟩
theorem e_X11_types_15 : g_dc cX11_types 15 (.bipush 8) 2 17 := ⟨by decide +kernel, rfl⟩
theorem e_X11_types_17 : g_dc cX11_types 17 (.iload_n 2) 1 18 := ⟨by decide +kernel, rfl⟩
theorem e_X11_types_18 : g_dc cX11_types 18 (.imul) 1 19 := ⟨by decide +kernel, rfl⟩
theorem e_X11_types_19 : g_dc cX11_types 19 (.ishr) 1 20 := ⟨by decide +kernel, rfl⟩
theorem e_X11_types_20 : g_dc cX11_types 20 (.i2b) 1 21 := ⟨by decide +kernel, rfl⟩
theorem e_X11_types_21 : g_dc cX11_types 21 (.bastore) 1 22 := ⟨by decide +kernel, rfl⟩
theorem e_X11_types_22 : g_dc cX11_types 22 (.aload_n 0) 1 23 := ⟨by decide +kernel, rfl⟩
theorem e_X11_types_23 : g_dc cX11_types 23 (.aload_n 0) 1 24 := ⟨by decide +kernel, rfl⟩
theorem e_X11_types_24 : g_dc cX11_types 24 (.getfield 183) 3 27 := ⟨by decide +kernel, rfl⟩
theorem e_X11_types_27 : g_dc cX11_types 27 (.iconst 1) 1 28 := ⟨by decide +kernel, rfl⟩
theorem e_X11_types_28 : g_dc cX11_types 28 (.iadd) 1 29 := ⟨by decide +kernel, rfl⟩
theorem e_X11_types_29 : g_dc cX11_types 29 (.putfield 183) 3 32 := ⟨by decide +kernel, rfl⟩
theorem e_X11_types_32 : g_dc cX11_types 32 (.iinc 2 (-1)) 3 35 := ⟨by decide +kernel, rfl⟩
theorem e_X11_types_35 : g_dc cX11_types 35 (.goto (-33)) 3 38 := ⟨by decide +kernel, rfl⟩
theorem e_X11_types_38 : g_dc cX11_types 38 (.return_) 1 39 := ⟨by decide +kernel, rfl⟩
def md_X11_types : List Nat := [14]
def mr_X11_types : List Nat := [9]
set_option maxHeartbeats 4000000 in
set_option maxRecDepth 100000 in
theorem w_X11_types (l : Launch) (X : gX) (ad : Nat → Nat) (F : Nat → Int32) (R : Nat → Nat → Int32) (hI : g_ok LK_wM F) (hA : g_okR LA_wM R) (hWT : WT F R) (hWC : WC F R) (a0 : Int32) (hp0 : (F 14).toInt ≤ 216) : g_Cv l X yX11_types cX11_types 3 1 0 0 [.ref (ad 0), .int a0] (wM X ad F R) (fun w => ∃ (F' : Nat → Int32) (R' : Nat → Nat → Int32), w = wM X ad F' R' ∧ g_ok LK_wM F' ∧ g_okR LA_wM R' ∧ WT F' R' ∧ WC F' R' ∧ g_fr md_X11_types F F' ∧ g_fr mr_X11_types R R' ∧ (F' 14).toInt = (F 14).toInt + 4) := by
  refine g_mv (by decide +kernel) (Nat.le_of_ble_eq_true rfl) (fun E cx hret => ?_)
  refine g_iconst cx 3 (by decide) e_X11_types_0 ?_
  refine g_istore_n cx [(2, .int 3), (0, .ref (ad 0)), (1, .int a0)] e_X11_types_1 (by decide) rfl ?_
  have J2 : ∀ (N : Nat) (F2 : Nat → Int32) (R3 : Nat → Nat → Int32) (y1 : Int32), (g_ok LK_wM F2) → (g_fr md_X11_types F F2) → (g_okR LA_wM R3) → (g_fr mr_X11_types R R3) → (WT F2 R3) → (WC F2 R3) → (jv (-1) 3 y1) → ((F2 14).toInt + y1.toInt = (F 14).toInt + 3 ∧ -1 ≤ y1.toInt) → (y1.toInt + 2147483648).toNat < N → G X E 3 0 0 (wM X ad F2 R3) [(0, .ref (ad 0)), (1, .int a0), (2, .int y1)] 2 [] := by
    intro N
    induction N with
    | zero => intro F2 R3 y1 oF2 fF2 oR3 fR3 wTF2R3 wCF2R3 py1 zi2_0 hm; exact absurd hm (Nat.not_lt_zero _)
    | succ N ih2 =>
      intro F2 R3 y1 oF2 fF2 oR3 fR3 wTF2R3 wCF2R3 py1 zi2_0 hm2
      have p4 : jv (-1) 3 y1 := ⟨by have q0 := (g_ok_g hI 0 rfl).1; have q1 := (g_ok_g hI 0 rfl).2; have q2 := (g_ok_g oF2 0 rfl).1; have q3 := (g_ok_g oF2 0 rfl).2; have q4 := py1.1; have q5 := py1.2; have q6 := hp0; have q7 := zi2_0; omega, by have q0 := (g_ok_g hI 0 rfl).1; have q1 := (g_ok_g hI 0 rfl).2; have q2 := (g_ok_g oF2 0 rfl).1; have q3 := (g_ok_g oF2 0 rfl).2; have q4 := py1.1; have q5 := py1.2; have q6 := hp0; have q7 := zi2_0; omega⟩
      refine g_iload_n cx 2 rfl e_X11_types_2 ?_
      refine g_if_lt cx 38 e_X11_types_3 (by decide) (fun zc5 => ?_) (fun zc5 => ?_)
      · have p6 := gn_lt (-1) (-1) (gc_lt zc5) p4 (jv_k (x := 0) 0 (by decide)) (by decide)
        exact hret e_X11_types_38 (Nat.le_of_ble_eq_true rfl) (Nat.le_of_ble_eq_true rfl) ⟨F2, R3, rfl, oF2, oR3, wTF2R3, wCF2R3, fF2, fR3, (by have q0 := (jv_k (x := 0) 0 (by decide)).1; have q1 := (jv_k (x := 0) 0 (by decide)).2; have q2 := (g_ok_g hI 0 rfl).1; have q3 := (g_ok_g hI 0 rfl).2; have q4 := (g_ok_g oF2 0 rfl).1; have q5 := (g_ok_g oF2 0 rfl).2; have q6 := p6.1; have q7 := p6.2; have q8 := hp0; have q9 := zi2_0; have q10 := (gc_lt zc5); omega)⟩
      · have p7 := gn_ge 0 3 (gc_nlt zc5) p4 (jv_k (x := 0) 0 (by decide)) (by decide)
        refine g_aload_n cx 0 rfl e_X11_types_6 ?_
        refine g_get cx cl_X11 fl_X11_34 0 (.ref (ad 9)) e_X11_types_7 rfl rfl ?_
        refine g_aload_n cx 0 rfl e_X11_types_10 ?_
        refine g_get cx cl_X11 fl_X11_183 0 (.int (F2 14)) e_X11_types_11 rfl rfl ?_
        refine g_iload_n cx 1 rfl e_X11_types_14 ?_
        refine g_bipush cx 8 (by decide) e_X11_types_15 ?_
        refine g_iload_n cx 2 rfl e_X11_types_17 ?_
        refine g_imul cx e_X11_types_18 ?_
        refine g_topi (fun x8 ex8 => ?_)
        have zx8 := jv_mul 0 24 ex8 (jv_k (x := 8) 8 (by decide)) p7 (by decide)
        refine g_ishr cx e_X11_types_19 ?_
        refine g_topi (fun x9 ex9 => ?_)
        refine g_i2b cx e_X11_types_20 ?_
        refine g_topi (fun x10 ex10 => ?_)
        refine g_bast cx 9 (wM X ad F2 (g_u R3 9 (upd (R3 9) (Int32.toNatClampNeg (F2 14)) (vp_nar .byte x10)))) e_X11_types_21 rfl (vp_in_iff.mpr ⟨by have q0 := (jv_k (x := 0) 0 (by decide)).1; have q1 := (jv_k (x := 0) 0 (by decide)).2; have q2 := (g_ok_g hI 0 rfl).1; have q3 := (g_ok_g hI 0 rfl).2; have q4 := (g_ok_g oF2 0 rfl).1; have q5 := (g_ok_g oF2 0 rfl).2; have q6 := zx8.2.1; have q7 := zx8.2.2; have q8 := p7.1; have q9 := p7.2; have q10 := hp0; have q11 := zi2_0; have q12 := (gc_nlt zc5); have q13 := (g_em2 zx8.1 (by decide : Int32.toInt 8 = 8)); omega, by have q0 := (jv_k (x := 0) 0 (by decide)).1; have q1 := (jv_k (x := 0) 0 (by decide)).2; have q2 := (g_ok_g hI 0 rfl).1; have q3 := (g_ok_g hI 0 rfl).2; have q4 := (g_ok_g oF2 0 rfl).1; have q5 := (g_ok_g oF2 0 rfl).2; have q6 := zx8.2.1; have q7 := zx8.2.2; have q8 := p7.1; have q9 := p7.2; have q10 := hp0; have q11 := zi2_0; have q12 := (gc_nlt zc5); have q13 := (g_em2 zx8.1 (by decide : Int32.toInt 8 = 8)); omega⟩) rfl ?_
        obtain ⟨R11, hR11⟩ : ∃ z, z = g_u R3 9 (upd (R3 9) (Int32.toNatClampNeg (F2 14)) (vp_nar .byte x10)) := ⟨_, rfl⟩
        rw [← hR11]
        have oR11 : g_okR LA_wM R11 := by rw [hR11]; exact g_okR_u oR3 rfl
        have fR11 : g_fr mr_X11_types R R11 := by rw [hR11]; exact g_fr_r fR3 rfl
        have wTR11 : WT F2 R11 := by rw [hR11]; exact WT_r wTF2R3 rfl
        have wCR11 : WC F2 R11 := by rw [hR11]; exact WC_r wCF2R3 rfl
        refine g_aload_n cx 0 rfl e_X11_types_22 ?_
        refine g_aload_n cx 0 rfl e_X11_types_23 ?_
        refine g_get cx cl_X11 fl_X11_183 0 (.int (F2 14)) e_X11_types_24 rfl rfl ?_
        refine g_iconst cx 1 (by decide) e_X11_types_27 ?_
        refine g_iadd cx e_X11_types_28 ?_
        refine g_topi (fun x12 ex12 => ?_)
        have zx12 := jv_add 1 221 ex12 (g_ok_g oF2 0 rfl) (jv_k (x := 1) 1 (by decide)) (by decide)
        refine g_put cx cl_X11 fl_X11_183 0 (wM X ad (upd F2 14 x12) R11) e_X11_types_29 rfl rfl rfl rfl (Nat.le_of_ble_eq_true rfl) rfl ?_
        obtain ⟨F13, hF13⟩ : ∃ z, z = upd F2 14 x12 := ⟨_, rfl⟩
        rw [← hF13]
        have oF13 : g_ok LK_wM F13 := by rw [hF13]; exact g_ok_p oF2 (show jv 0 220 _ from ⟨by have q0 := (jv_k (x := 0) 0 (by decide)).1; have q1 := (jv_k (x := 0) 0 (by decide)).2; have q2 := (jv_k (x := 1) 1 (by decide)).1; have q3 := (jv_k (x := 1) 1 (by decide)).2; have q4 := (g_ok_g hI 0 rfl).1; have q5 := (g_ok_g hI 0 rfl).2; have q6 := (g_ok_g oF2 0 rfl).1; have q7 := (g_ok_g oF2 0 rfl).2; have q8 := zx12.2.1; have q9 := zx12.2.2; have q10 := zx8.2.1; have q11 := zx8.2.2; have q12 := p7.1; have q13 := p7.2; have q14 := hp0; have q15 := zi2_0; have q16 := (gc_nlt zc5); have q17 := (g_em2 zx8.1 (by decide : Int32.toInt 8 = 8)); have q18 := (g_eq0 zx12.1); omega, by have q0 := (jv_k (x := 0) 0 (by decide)).1; have q1 := (jv_k (x := 0) 0 (by decide)).2; have q2 := (jv_k (x := 1) 1 (by decide)).1; have q3 := (jv_k (x := 1) 1 (by decide)).2; have q4 := (g_ok_g hI 0 rfl).1; have q5 := (g_ok_g hI 0 rfl).2; have q6 := (g_ok_g oF2 0 rfl).1; have q7 := (g_ok_g oF2 0 rfl).2; have q8 := zx12.2.1; have q9 := zx12.2.2; have q10 := zx8.2.1; have q11 := zx8.2.2; have q12 := p7.1; have q13 := p7.2; have q14 := hp0; have q15 := zi2_0; have q16 := (gc_nlt zc5); have q17 := (g_em2 zx8.1 (by decide : Int32.toInt 8 = 8)); have q18 := (g_eq0 zx12.1); omega⟩) rfl
        have fF13 : g_fr md_X11_types F F13 := by rw [hF13]; exact g_fr_u fF2 rfl
        have wTF13 : WT F13 R11 := by rw [hF13]; exact WT_u wTR11 rfl
        have wCF13 : WC F13 R11 := by rw [hF13]; exact WC_u wCR11 rfl
        obtain ⟨x14, ex14⟩ : ∃ z : Int32, z = y1 + Int32.ofInt (-1) := ⟨_, rfl⟩
        refine g_iinc cx x14 [(2, .int x14), (0, .ref (ad 0)), (1, .int a0)] 2 e_X11_types_32 rfl ex14.symm (by decide) rfl ?_
        have zx14 := jv_add (-1) 2 (show x14 = y1 + (-1) from ex14) p7 (jv_k (x := (-1)) (-1) (by decide)) (by decide)
        refine g_goto cx 2 e_X11_types_35 (by decide) ?_
        refine g_lsub [1, 2, 0] [(0, .ref (ad 0)), (1, .int a0), (2, .int x14)] rfl ?_
        exact ih2 F13 R11 x14 oF13 fF13 oR11 fR11 wTF13 wCF13 (jv_w zx14.2 (by decide)) (by have q0 := (jv_k (x := (-1)) (-1) (by decide)).1; have q1 := (jv_k (x := (-1)) (-1) (by decide)).2; have q2 := (jv_k (x := 0) 0 (by decide)).1; have q3 := (jv_k (x := 0) 0 (by decide)).2; have q4 := (jv_k (x := 1) 1 (by decide)).1; have q5 := (jv_k (x := 1) 1 (by decide)).2; have q6 := (g_ok_g hI 0 rfl).1; have q7 := (g_ok_g hI 0 rfl).2; have q8 := (g_ok_g oF13 0 rfl).1; have q9 := (g_ok_g oF13 0 rfl).2; have q10 := (g_ok_g oF2 0 rfl).1; have q11 := (g_ok_g oF2 0 rfl).2; have q12 := zx12.2.1; have q13 := zx12.2.2; have q14 := zx14.2.1; have q15 := zx14.2.2; have q16 := zx8.2.1; have q17 := zx8.2.2; have q18 := p7.1; have q19 := p7.2; have q20 := hp0; have q21 := zi2_0; have q22 := (gc_nlt zc5); have q23 := (g_em2 zx8.1 (by decide : Int32.toInt 8 = 8)); have q24 := (g_eq0 zx12.1); have q25 := (g_eq0 zx14.1); have q26 := (congrArg Int32.toInt (show F13 14 = x12 from (g_pu1 hF13))); have q27 := (congrArg Int32.toInt (show F13 14 = x12 from (g_pu1 hF13))); omega) (Nat.lt_of_lt_of_le (show (x14.toInt + 2147483648).toNat < (y1.toInt + 2147483648).toNat from by have q0 := (jv_k (x := (-1)) (-1) (by decide)).1; have q1 := (jv_k (x := (-1)) (-1) (by decide)).2; have q2 := (jv_k (x := 0) 0 (by decide)).1; have q3 := (jv_k (x := 0) 0 (by decide)).2; have q4 := (jv_k (x := 1) 1 (by decide)).1; have q5 := (jv_k (x := 1) 1 (by decide)).2; have q6 := (g_ok_g hI 0 rfl).1; have q7 := (g_ok_g hI 0 rfl).2; have q8 := (g_ok_g oF13 0 rfl).1; have q9 := (g_ok_g oF13 0 rfl).2; have q10 := (g_ok_g oF2 0 rfl).1; have q11 := (g_ok_g oF2 0 rfl).2; have q12 := zx12.2.1; have q13 := zx12.2.2; have q14 := zx14.2.1; have q15 := zx14.2.2; have q16 := zx8.2.1; have q17 := zx8.2.2; have q18 := p7.1; have q19 := p7.2; have q20 := hp0; have q21 := zi2_0; have q22 := (gc_nlt zc5); have q23 := (g_em2 zx8.1 (by decide : Int32.toInt 8 = 8)); have q24 := (g_eq0 zx12.1); have q25 := (g_eq0 zx14.1); have q26 := (congrArg Int32.toInt (show F13 14 = x12 from (g_pu1 hF13))); have q27 := (congrArg Int32.toInt (show F13 14 = x12 from (g_pu1 hF13))); omega) (Nat.le_of_lt_succ hm2))
  refine g_lsub [1, 2, 0] [(0, .ref (ad 0)), (1, .int a0), (2, .int 3)] rfl ?_
  exact J2 _ F R 3 hI (g_fr_rf F) hA (g_fr_rf R) hWT hWC (jv_w (jv_k (x := 3) 3 (by decide)) (by decide)) (by have q0 := (jv_k (x := 3) 3 (by decide)).1; have q1 := (jv_k (x := 3) 3 (by decide)).2; have q2 := (g_ok_g hI 0 rfl).1; have q3 := (g_ok_g hI 0 rfl).2; have q4 := hp0; omega) (Nat.lt_succ_self _)
theorem e_X11_feed_0 : g_dc cX11_feed 0 (.aload_n 0) 1 1 := ⟨by decide +kernel, rfl⟩
theorem e_X11_feed_1 : g_dc cX11_feed 1 (.getfield 183) 3 4 := ⟨by decide +kernel, rfl⟩
theorem e_X11_feed_4 : g_dc cX11_feed 4 (.bipush 20) 2 6 := ⟨by decide +kernel, rfl⟩
theorem e_X11_feed_6 : g_dc cX11_feed 6 (.iadd) 1 7 := ⟨by decide +kernel, rfl⟩
theorem e_X11_feed_7 : g_dc cX11_feed 7 (.sipush 220) 3 10 := ⟨by decide +kernel, rfl⟩
theorem e_X11_feed_10 : g_dc cX11_feed 10 (.if_icmp .le 5) 3 13 := ⟨by decide +kernel, rfl⟩
theorem e_X11_feed_13 : g_dc cX11_feed 13 (.iconst (-1)) 1 14 := ⟨by decide +kernel, rfl⟩
theorem e_X11_feed_14 : g_dc cX11_feed 14 (.ireturn) 1 15 := ⟨by decide +kernel, rfl⟩
theorem e_X11_feed_15 : g_dc cX11_feed 15 (.aload_n 0) 1 16 := ⟨by decide +kernel, rfl⟩
theorem e_X11_feed_16 : g_dc cX11_feed 16 (.iload_n 1) 1 17 := ⟨by decide +kernel, rfl⟩
theorem e_X11_feed_17 : g_dc cX11_feed 17 (.invokevirtual 186) 3 20 := ⟨by decide +kernel, rfl⟩
theorem e_X11_feed_20 : g_dc cX11_feed 20 (.aload_n 0) 1 21 := ⟨by decide +kernel, rfl⟩
theorem e_X11_feed_21 : g_dc cX11_feed 21 (.iload_n 2) 1 22 := ⟨by decide +kernel, rfl⟩
theorem e_X11_feed_22 : g_dc cX11_feed 22 (.invokevirtual 186) 3 25 := ⟨by decide +kernel, rfl⟩
theorem e_X11_feed_25 : g_dc cX11_feed 25 (.aload_n 0) 1 26 := ⟨by decide +kernel, rfl⟩
theorem e_X11_feed_26 : g_dc cX11_feed 26 (.iload_n 3) 1 27 := ⟨by decide +kernel, rfl⟩
theorem e_X11_feed_27 : g_dc cX11_feed 27 (.invokevirtual 186) 3 30 := ⟨by decide +kernel, rfl⟩
theorem e_X11_feed_30 : g_dc cX11_feed 30 (.aload_n 0) 1 31 := ⟨by decide +kernel, rfl⟩
theorem e_X11_feed_31 : g_dc cX11_feed 31 (.iload 4) 2 33 := ⟨by decide +kernel, rfl⟩
theorem e_X11_feed_33 : g_dc cX11_feed 33 (.invokevirtual 186) 3 36 := ⟨by decide +kernel, rfl⟩
theorem e_X11_feed_36 : g_dc cX11_feed 36 (.aload_n 0) 1 37 := ⟨by decide +kernel, rfl⟩
theorem e_X11_feed_37 : g_dc cX11_feed 37 (.iload 5) 2 39 := ⟨by decide +kernel, rfl⟩
theorem e_X11_feed_39 : g_dc cX11_feed 39 (.invokevirtual 186) 3 42 := ⟨by decide +kernel, rfl⟩
theorem e_X11_feed_42 : g_dc cX11_feed 42 (.aload_n 0) 1 43 := ⟨by decide +kernel, rfl⟩
theorem e_X11_feed_43 : g_dc cX11_feed 43 (.getfield 183) 3 46 := ⟨by decide +kernel, rfl⟩
theorem e_X11_feed_46 : g_dc cX11_feed 46 (.ireturn) 1 47 := ⟨by decide +kernel, rfl⟩
def md_X11_feed : List Nat := [14]
def mr_X11_feed : List Nat := [9]
set_option maxHeartbeats 4000000 in
set_option maxRecDepth 100000 in
theorem w_X11_feed (l : Launch) (X : gX) (ad : Nat → Nat) (F : Nat → Int32) (R : Nat → Nat → Int32) (hI : g_ok LK_wM F) (hA : g_okR LA_wM R) (hWT : WT F R) (hWC : WC F R) (a0 : Int32) (a1 : Int32) (a2 : Int32) (a3 : Int32) (a4 : Int32) : g_Ci l X yX11_feed cX11_feed 6 (some .int) 2 0 0 [.ref (ad 0), .int a0, .int a1, .int a2, .int a3, .int a4] (wM X ad F R) (fun r w => ∃ (F' : Nat → Int32) (R' : Nat → Nat → Int32), w = wM X ad F' R' ∧ g_ok LK_wM F' ∧ g_okR LA_wM R' ∧ WT F' R' ∧ WC F' R' ∧ g_fr md_X11_feed F F' ∧ g_fr mr_X11_feed R R' ∧ jv (-1) 220 r) := by
  refine g_mi (by decide +kernel) (Nat.le_of_ble_eq_true rfl) (fun E cx hret => ?_)
  refine g_aload_n cx 0 rfl e_X11_feed_0 ?_
  refine g_get cx cl_X11 fl_X11_183 0 (.int (F 14)) e_X11_feed_1 rfl rfl ?_
  refine g_bipush cx 20 (by decide) e_X11_feed_4 ?_
  refine g_iadd cx e_X11_feed_6 ?_
  refine g_topi (fun x1 ex1 => ?_)
  have zx1 := jv_add 20 240 ex1 (g_ok_g hI 0 rfl) (jv_k (x := 20) 20 (by decide)) (by decide)
  refine g_sipush cx 220 (by decide) e_X11_feed_7 ?_
  refine g_icmp_le cx 15 e_X11_feed_10 (by decide) (fun zc2 => ?_) (fun zc2 => ?_)
  · have p3 := gn_le 20 220 (gc_le zc2) zx1.2 (jv_k (x := 220) 220 (by decide)) (by decide)
    have p4 : jv 0 200 (F 14) := ⟨by have q0 := (jv_k (x := 20) 20 (by decide)).1; have q1 := (jv_k (x := 20) 20 (by decide)).2; have q2 := (jv_k (x := 220) 220 (by decide)).1; have q3 := (jv_k (x := 220) 220 (by decide)).2; have q4 := (g_ok_g hI 0 rfl).1; have q5 := (g_ok_g hI 0 rfl).2; have q6 := p3.1; have q7 := p3.2; have q8 := (g_eq0 zx1.1); have q9 := (gc_le zc2); omega, by have q0 := (jv_k (x := 20) 20 (by decide)).1; have q1 := (jv_k (x := 20) 20 (by decide)).2; have q2 := (jv_k (x := 220) 220 (by decide)).1; have q3 := (jv_k (x := 220) 220 (by decide)).2; have q4 := (g_ok_g hI 0 rfl).1; have q5 := (g_ok_g hI 0 rfl).2; have q6 := p3.1; have q7 := p3.2; have q8 := (g_eq0 zx1.1); have q9 := (gc_le zc2); omega⟩
    refine g_aload_n cx 0 rfl e_X11_feed_15 ?_
    refine g_iload_n cx 1 rfl e_X11_feed_16 ?_
    refine g_cVvW cx [.int a0] [] (w_X11_types l X ad F R hI hA hWT hWC a0 (by have q0 := (jv_k (x := 20) 20 (by decide)).1; have q1 := (jv_k (x := 20) 20 (by decide)).2; have q2 := (jv_k (x := 220) 220 (by decide)).1; have q3 := (jv_k (x := 220) 220 (by decide)).2; have q4 := p4.1; have q5 := p4.2; have q6 := p3.1; have q7 := p3.2; have q8 := (g_eq0 zx1.1); have q9 := (gc_le zc2); omega)) ml_X11_186 yV_X11_types e_X11_feed_17 (by unfold g_rr; decide) (by decide) 0 rfl rfl rfl (Nat.le_of_ble_eq_true rfl) (fun w6 h7 => ?_)
    obtain ⟨F9, R10, rfl, oF9, oR10, wTF9, wCF9, cF9, cR10, zx8⟩ := h7
    have fF9 : g_fr md_X11_feed F F9 := g_fr_c (g_fr_rf F) cF9 rfl
    have fR10 : g_fr mr_X11_feed R R10 := g_fr_c (g_fr_rf R) cR10 rfl
    refine g_aload_n cx 0 rfl e_X11_feed_20 ?_
    refine g_iload_n cx 2 rfl e_X11_feed_21 ?_
    refine g_cVvW cx [.int a1] [] (w_X11_types l X ad F9 R10 oF9 oR10 wTF9 wCF9 a1 (by have q0 := (jv_k (x := 20) 20 (by decide)).1; have q1 := (jv_k (x := 20) 20 (by decide)).2; have q2 := (jv_k (x := 220) 220 (by decide)).1; have q3 := (jv_k (x := 220) 220 (by decide)).2; have q4 := p4.1; have q5 := p4.2; have q6 := (g_ok_g oF9 0 rfl).1; have q7 := (g_ok_g oF9 0 rfl).2; have q8 := p3.1; have q9 := p3.2; have q10 := (g_eq0 zx1.1); have q11 := (gc_le zc2); have q12 := zx8; omega)) ml_X11_186 yV_X11_types e_X11_feed_22 (by unfold g_rr; decide) (by decide) 0 rfl rfl rfl (Nat.le_of_ble_eq_true rfl) (fun w12 h13 => ?_)
    obtain ⟨F15, R16, rfl, oF15, oR16, wTF15, wCF15, cF15, cR16, zx14⟩ := h13
    have fF15 : g_fr md_X11_feed F F15 := g_fr_c fF9 cF15 rfl
    have fR16 : g_fr mr_X11_feed R R16 := g_fr_c fR10 cR16 rfl
    refine g_aload_n cx 0 rfl e_X11_feed_25 ?_
    refine g_iload_n cx 3 rfl e_X11_feed_26 ?_
    refine g_cVvW cx [.int a2] [] (w_X11_types l X ad F15 R16 oF15 oR16 wTF15 wCF15 a2 (by have q0 := (jv_k (x := 20) 20 (by decide)).1; have q1 := (jv_k (x := 20) 20 (by decide)).2; have q2 := (jv_k (x := 220) 220 (by decide)).1; have q3 := (jv_k (x := 220) 220 (by decide)).2; have q4 := p4.1; have q5 := p4.2; have q6 := (g_ok_g oF15 0 rfl).1; have q7 := (g_ok_g oF15 0 rfl).2; have q8 := (g_ok_g oF9 0 rfl).1; have q9 := (g_ok_g oF9 0 rfl).2; have q10 := p3.1; have q11 := p3.2; have q12 := (g_eq0 zx1.1); have q13 := (gc_le zc2); have q14 := zx8; have q15 := zx14; omega)) ml_X11_186 yV_X11_types e_X11_feed_27 (by unfold g_rr; decide) (by decide) 0 rfl rfl rfl (Nat.le_of_ble_eq_true rfl) (fun w18 h19 => ?_)
    obtain ⟨F21, R22, rfl, oF21, oR22, wTF21, wCF21, cF21, cR22, zx20⟩ := h19
    have fF21 : g_fr md_X11_feed F F21 := g_fr_c fF15 cF21 rfl
    have fR22 : g_fr mr_X11_feed R R22 := g_fr_c fR16 cR22 rfl
    refine g_aload_n cx 0 rfl e_X11_feed_30 ?_
    refine g_iload cx 4 rfl e_X11_feed_31 ?_
    refine g_cVvW cx [.int a3] [] (w_X11_types l X ad F21 R22 oF21 oR22 wTF21 wCF21 a3 (by have q0 := (jv_k (x := 20) 20 (by decide)).1; have q1 := (jv_k (x := 20) 20 (by decide)).2; have q2 := (jv_k (x := 220) 220 (by decide)).1; have q3 := (jv_k (x := 220) 220 (by decide)).2; have q4 := p4.1; have q5 := p4.2; have q6 := (g_ok_g oF15 0 rfl).1; have q7 := (g_ok_g oF15 0 rfl).2; have q8 := (g_ok_g oF21 0 rfl).1; have q9 := (g_ok_g oF21 0 rfl).2; have q10 := (g_ok_g oF9 0 rfl).1; have q11 := (g_ok_g oF9 0 rfl).2; have q12 := p3.1; have q13 := p3.2; have q14 := (g_eq0 zx1.1); have q15 := (gc_le zc2); have q16 := zx8; have q17 := zx14; have q18 := zx20; omega)) ml_X11_186 yV_X11_types e_X11_feed_33 (by unfold g_rr; decide) (by decide) 0 rfl rfl rfl (Nat.le_of_ble_eq_true rfl) (fun w24 h25 => ?_)
    obtain ⟨F27, R28, rfl, oF27, oR28, wTF27, wCF27, cF27, cR28, zx26⟩ := h25
    have fF27 : g_fr md_X11_feed F F27 := g_fr_c fF21 cF27 rfl
    have fR28 : g_fr mr_X11_feed R R28 := g_fr_c fR22 cR28 rfl
    refine g_aload_n cx 0 rfl e_X11_feed_36 ?_
    refine g_iload cx 5 rfl e_X11_feed_37 ?_
    refine g_cVvW cx [.int a4] [] (w_X11_types l X ad F27 R28 oF27 oR28 wTF27 wCF27 a4 (by have q0 := (jv_k (x := 20) 20 (by decide)).1; have q1 := (jv_k (x := 20) 20 (by decide)).2; have q2 := (jv_k (x := 220) 220 (by decide)).1; have q3 := (jv_k (x := 220) 220 (by decide)).2; have q4 := p4.1; have q5 := p4.2; have q6 := (g_ok_g oF15 0 rfl).1; have q7 := (g_ok_g oF15 0 rfl).2; have q8 := (g_ok_g oF21 0 rfl).1; have q9 := (g_ok_g oF21 0 rfl).2; have q10 := (g_ok_g oF27 0 rfl).1; have q11 := (g_ok_g oF27 0 rfl).2; have q12 := (g_ok_g oF9 0 rfl).1; have q13 := (g_ok_g oF9 0 rfl).2; have q14 := p3.1; have q15 := p3.2; have q16 := (g_eq0 zx1.1); have q17 := (gc_le zc2); have q18 := zx8; have q19 := zx14; have q20 := zx20; have q21 := zx26; omega)) ml_X11_186 yV_X11_types e_X11_feed_39 (by unfold g_rr; decide) (by decide) 0 rfl rfl rfl (Nat.le_of_ble_eq_true rfl) (fun w30 h31 => ?_)
    obtain ⟨F33, R34, rfl, oF33, oR34, wTF33, wCF33, cF33, cR34, zx32⟩ := h31
    have fF33 : g_fr md_X11_feed F F33 := g_fr_c fF27 cF33 rfl
    have fR34 : g_fr mr_X11_feed R R34 := g_fr_c fR28 cR34 rfl
    refine g_aload_n cx 0 rfl e_X11_feed_42 ?_
    refine g_get cx cl_X11 fl_X11_183 0 (.int (F33 14)) e_X11_feed_43 rfl rfl ?_
    exact hret e_X11_feed_46 (Nat.le_of_ble_eq_true rfl) (Nat.le_of_ble_eq_true rfl) rfl ⟨F33, R34, rfl, oF33, oR34, wTF33, wCF33, fF33, fR34, (jv_w (g_ok_g oF33 0 rfl) (by decide))⟩
  · have p35 := gn_gt 221 240 (gc_nle zc2) zx1.2 (jv_k (x := 220) 220 (by decide)) (by decide)
    have p36 : jv 201 220 (F 14) := ⟨by have q0 := (jv_k (x := 20) 20 (by decide)).1; have q1 := (jv_k (x := 20) 20 (by decide)).2; have q2 := (jv_k (x := 220) 220 (by decide)).1; have q3 := (jv_k (x := 220) 220 (by decide)).2; have q4 := (g_ok_g hI 0 rfl).1; have q5 := (g_ok_g hI 0 rfl).2; have q6 := p35.1; have q7 := p35.2; have q8 := (g_eq0 zx1.1); have q9 := (gc_nle zc2); omega, by have q0 := (jv_k (x := 20) 20 (by decide)).1; have q1 := (jv_k (x := 20) 20 (by decide)).2; have q2 := (jv_k (x := 220) 220 (by decide)).1; have q3 := (jv_k (x := 220) 220 (by decide)).2; have q4 := (g_ok_g hI 0 rfl).1; have q5 := (g_ok_g hI 0 rfl).2; have q6 := p35.1; have q7 := p35.2; have q8 := (g_eq0 zx1.1); have q9 := (gc_nle zc2); omega⟩
    refine g_iconst cx (-1) (by decide) e_X11_feed_13 ?_
    exact hret e_X11_feed_14 (Nat.le_of_ble_eq_true rfl) (Nat.le_of_ble_eq_true rfl) rfl ⟨F, R, rfl, hI, hA, hWT, hWC, (g_fr_rf F), (g_fr_rf R), (jv_w (jv_k (x := (-1)) (-1) (by decide)) (by decide))⟩
theorem e_X11_thingIs_0 : g_dc cX11_thingIs 0 (.aload_n 0) 1 1 := ⟨by decide +kernel, rfl⟩
theorem e_X11_thingIs_1 : g_dc cX11_thingIs 1 (.iload_n 1) 1 2 := ⟨by decide +kernel, rfl⟩
theorem e_X11_thingIs_2 : g_dc cX11_thingIs 2 (.invokevirtual 179) 3 5 := ⟨by decide +kernel, rfl⟩
theorem e_X11_thingIs_5 : g_dc cX11_thingIs 5 (.ifCond .ne 5) 3 8 := ⟨by decide +kernel, rfl⟩
theorem e_X11_thingIs_8 : g_dc cX11_thingIs 8 (.iconst (-1)) 1 9 := ⟨by decide +kernel, rfl⟩
theorem e_X11_thingIs_9 : g_dc cX11_thingIs 9 (.ireturn) 1 10 := ⟨by decide +kernel, rfl⟩
theorem e_X11_thingIs_10 : g_dc cX11_thingIs 10 (.iload_n 2) 1 11 := ⟨by decide +kernel, rfl⟩
theorem e_X11_thingIs_11 : g_dc cX11_thingIs 11 (.tableswitch 101 0 7 #[45, 52, 59, 66, 73, 80, 87, 94]) 45 56 := ⟨by decide +kernel, rfl⟩
theorem e_X11_thingIs_56 : g_dc cX11_thingIs 56 (.aload_n 0) 1 57 := ⟨by decide +kernel, rfl⟩
theorem e_X11_thingIs_57 : g_dc cX11_thingIs 57 (.getfield 7) 3 60 := ⟨by decide +kernel, rfl⟩
theorem e_X11_thingIs_60 : g_dc cX11_thingIs 60 (.iload_n 1) 1 61 := ⟨by decide +kernel, rfl⟩
theorem e_X11_thingIs_61 : g_dc cX11_thingIs 61 (.iaload) 1 62 := ⟨by decide +kernel, rfl⟩
theorem e_X11_thingIs_62 : g_dc cX11_thingIs 62 (.ireturn) 1 63 := ⟨by decide +kernel, rfl⟩
theorem e_X11_thingIs_63 : g_dc cX11_thingIs 63 (.aload_n 0) 1 64 := ⟨by decide +kernel, rfl⟩
theorem e_X11_thingIs_64 : g_dc cX11_thingIs 64 (.getfield 13) 3 67 := ⟨by decide +kernel, rfl⟩
theorem e_X11_thingIs_67 : g_dc cX11_thingIs 67 (.iload_n 1) 1 68 := ⟨by decide +kernel, rfl⟩
theorem e_X11_thingIs_68 : g_dc cX11_thingIs 68 (.iaload) 1 69 := ⟨by decide +kernel, rfl⟩
theorem e_X11_thingIs_69 : g_dc cX11_thingIs 69 (.ireturn) 1 70 := ⟨by decide +kernel, rfl⟩
theorem e_X11_thingIs_70 : g_dc cX11_thingIs 70 (.aload_n 0) 1 71 := ⟨by decide +kernel, rfl⟩
theorem e_X11_thingIs_71 : g_dc cX11_thingIs 71 (.getfield 16) 3 74 := ⟨by decide +kernel, rfl⟩
theorem e_X11_thingIs_74 : g_dc cX11_thingIs 74 (.iload_n 1) 1 75 := ⟨by decide +kernel, rfl⟩
theorem e_X11_thingIs_75 : g_dc cX11_thingIs 75 (.iaload) 1 76 := ⟨by decide +kernel, rfl⟩
theorem e_X11_thingIs_76 : g_dc cX11_thingIs 76 (.ireturn) 1 77 := ⟨by decide +kernel, rfl⟩
theorem e_X11_thingIs_77 : g_dc cX11_thingIs 77 (.aload_n 0) 1 78 := ⟨by decide +kernel, rfl⟩
theorem e_X11_thingIs_78 : g_dc cX11_thingIs 78 (.getfield 19) 3 81 := ⟨by decide +kernel, rfl⟩
theorem e_X11_thingIs_81 : g_dc cX11_thingIs 81 (.iload_n 1) 1 82 := ⟨by decide +kernel, rfl⟩
theorem e_X11_thingIs_82 : g_dc cX11_thingIs 82 (.iaload) 1 83 := ⟨by decide +kernel, rfl⟩
theorem e_X11_thingIs_83 : g_dc cX11_thingIs 83 (.ireturn) 1 84 := ⟨by decide +kernel, rfl⟩
theorem e_X11_thingIs_84 : g_dc cX11_thingIs 84 (.aload_n 0) 1 85 := ⟨by decide +kernel, rfl⟩
theorem e_X11_thingIs_85 : g_dc cX11_thingIs 85 (.getfield 22) 3 88 := ⟨by decide +kernel, rfl⟩
theorem e_X11_thingIs_88 : g_dc cX11_thingIs 88 (.iload_n 1) 1 89 := ⟨by decide +kernel, rfl⟩
theorem e_X11_thingIs_89 : g_dc cX11_thingIs 89 (.iaload) 1 90 := ⟨by decide +kernel, rfl⟩
theorem e_X11_thingIs_90 : g_dc cX11_thingIs 90 (.ireturn) 1 91 := ⟨by decide +kernel, rfl⟩
theorem e_X11_thingIs_91 : g_dc cX11_thingIs 91 (.aload_n 0) 1 92 := ⟨by decide +kernel, rfl⟩
theorem e_X11_thingIs_92 : g_dc cX11_thingIs 92 (.getfield 25) 3 95 := ⟨by decide +kernel, rfl⟩
theorem e_X11_thingIs_95 : g_dc cX11_thingIs 95 (.iload_n 1) 1 96 := ⟨by decide +kernel, rfl⟩
theorem e_X11_thingIs_96 : g_dc cX11_thingIs 96 (.iaload) 1 97 := ⟨by decide +kernel, rfl⟩
theorem e_X11_thingIs_97 : g_dc cX11_thingIs 97 (.ireturn) 1 98 := ⟨by decide +kernel, rfl⟩
theorem e_X11_thingIs_98 : g_dc cX11_thingIs 98 (.aload_n 0) 1 99 := ⟨by decide +kernel, rfl⟩
theorem e_X11_thingIs_99 : g_dc cX11_thingIs 99 (.getfield 28) 3 102 := ⟨by decide +kernel, rfl⟩
theorem e_X11_thingIs_102 : g_dc cX11_thingIs 102 (.iload_n 1) 1 103 := ⟨by decide +kernel, rfl⟩
theorem e_X11_thingIs_103 : g_dc cX11_thingIs 103 (.iaload) 1 104 := ⟨by decide +kernel, rfl⟩
theorem e_X11_thingIs_104 : g_dc cX11_thingIs 104 (.ireturn) 1 105 := ⟨by decide +kernel, rfl⟩
theorem e_X11_thingIs_105 : g_dc cX11_thingIs 105 (.aload_n 0) 1 106 := ⟨by decide +kernel, rfl⟩
theorem e_X11_thingIs_106 : g_dc cX11_thingIs 106 (.getfield 31) 3 109 := ⟨by decide +kernel, rfl⟩
theorem e_X11_thingIs_109 : g_dc cX11_thingIs 109 (.iload_n 1) 1 110 := ⟨by decide +kernel, rfl⟩
theorem e_X11_thingIs_110 : g_dc cX11_thingIs 110 (.iaload) 1 111 := ⟨by decide +kernel, rfl⟩
theorem e_X11_thingIs_111 : g_dc cX11_thingIs 111 (.ireturn) 1 112 := ⟨by decide +kernel, rfl⟩
theorem e_X11_thingIs_112 : g_dc cX11_thingIs 112 (.iconst (-1)) 1 113 := ⟨by decide +kernel, rfl⟩
theorem e_X11_thingIs_113 : g_dc cX11_thingIs 113 (.ireturn) 1 114 := ⟨by decide +kernel, rfl⟩
set_option maxHeartbeats 4000000 in
set_option maxRecDepth 100000 in
theorem w_X11_thingIs (l : Launch) (X : gX) (ad : Nat → Nat) (F : Nat → Int32) (R : Nat → Nat → Int32) (hI : g_ok LK_wM F) (hA : g_okR LA_wM R) (hWT : WT F R) (hWC : WC F R) (a0 : Int32) (a1 : Int32) : g_Ci l X yX11_thingIs cX11_thingIs 3 (some .int) 3 0 0 [.ref (ad 0), .int a0, .int a1] (wM X ad F R) (fun r w => w = wM X ad F R ∧ jv (-2147483648) 2147483647 r) := by
  refine g_mi (by decide +kernel) (Nat.le_of_ble_eq_true rfl) (fun E cx hret => ?_)
  refine g_aload_n cx 0 rfl e_X11_thingIs_0 ?_
  refine g_iload_n cx 1 rfl e_X11_thingIs_1 ?_
  refine g_cViW cx [.int a0] [] (w_X11_isTold l X ad F R hI hA hWT hWC a0) ml_X11_179 yV_X11_isTold e_X11_thingIs_2 (by unfold g_rr; decide) (by decide) 0 rfl rfl rfl (Nat.le_of_ble_eq_true rfl) (fun r1 w2 h3 => ?_)
  obtain ⟨rfl, pr1, zx4⟩ := h3
  refine g_if_ne cx 10 e_X11_thingIs_5 (by decide) (fun zc5 => ?_) (fun zc5 => ?_)
  · have p6 := gn_neL 1 1 (gc_ne zc5) pr1 (jv_k (x := 0) 0 (by decide)) (by decide)
    have p7 := jv_i 0 9 (jv_t a0) (zx4 zc5).1 (by decide)
    refine g_iload_n cx 2 rfl e_X11_thingIs_10 ?_
    refine g_topi (fun zy8 ezy8 => ?_)
    rcases g_sw 0 7 zy8 with ⟨zw9n, zw9h, zw9e⟩ | zw9
    · have zw9d : zw9n = 0 ∨ zw9n = 1 ∨ zw9n = 2 ∨ zw9n = 3 ∨ zw9n = 4 ∨ zw9n = 5 ∨ zw9n = 6 ∨ zw9n = 7 := by omega
      rcases zw9d with rfl | rfl | rfl | rfl | rfl | rfl | rfl | rfl
      · refine g_tableIn cx 56 e_X11_thingIs_11 (by rw [zw9e]; decide) (by rw [zw9e]; decide) (by rw [zw9e]; rfl) (by decide) ?_
        have p10 : jv 0 0 a1 := by rw [← ezy8]; exact jv_k 0 (by rw [zw9e]; rfl)
        refine g_aload_n cx 0 rfl e_X11_thingIs_56 ?_
        refine g_get cx cl_X11 fl_X11_7 0 (.ref (ad 1)) e_X11_thingIs_57 rfl rfl ?_
        refine g_iload_n cx 1 rfl e_X11_thingIs_60 ?_
        refine g_iald cx 1 e_X11_thingIs_61 rfl (jv_ix 10 p7 (by decide)) ?_
        refine g_topi (fun x11 ex11 => ?_)
        exact hret e_X11_thingIs_62 (Nat.le_of_ble_eq_true rfl) (Nat.le_of_ble_eq_true rfl) rfl ⟨rfl, (jv_t x11)⟩
      · refine g_tableIn cx 63 e_X11_thingIs_11 (by rw [zw9e]; decide) (by rw [zw9e]; decide) (by rw [zw9e]; rfl) (by decide) ?_
        have p12 : jv 1 1 a1 := by rw [← ezy8]; exact jv_k 1 (by rw [zw9e]; rfl)
        refine g_aload_n cx 0 rfl e_X11_thingIs_63 ?_
        refine g_get cx cl_X11 fl_X11_13 0 (.ref (ad 2)) e_X11_thingIs_64 rfl rfl ?_
        refine g_iload_n cx 1 rfl e_X11_thingIs_67 ?_
        refine g_iald cx 2 e_X11_thingIs_68 rfl (jv_ix 10 p7 (by decide)) ?_
        refine g_topi (fun x13 ex13 => ?_)
        exact hret e_X11_thingIs_69 (Nat.le_of_ble_eq_true rfl) (Nat.le_of_ble_eq_true rfl) rfl ⟨rfl, (jv_t x13)⟩
      · refine g_tableIn cx 70 e_X11_thingIs_11 (by rw [zw9e]; decide) (by rw [zw9e]; decide) (by rw [zw9e]; rfl) (by decide) ?_
        have p14 : jv 2 2 a1 := by rw [← ezy8]; exact jv_k 2 (by rw [zw9e]; rfl)
        refine g_aload_n cx 0 rfl e_X11_thingIs_70 ?_
        refine g_get cx cl_X11 fl_X11_16 0 (.ref (ad 3)) e_X11_thingIs_71 rfl rfl ?_
        refine g_iload_n cx 1 rfl e_X11_thingIs_74 ?_
        refine g_iald cx 3 e_X11_thingIs_75 rfl (jv_ix 10 p7 (by decide)) ?_
        refine g_topi (fun x15 ex15 => ?_)
        have p16 : jv 0 40 x15 := by rw [ex15]; exact g_okR_g hA 6 rfl (jv_cl 10 p7 (by decide))
        exact hret e_X11_thingIs_76 (Nat.le_of_ble_eq_true rfl) (Nat.le_of_ble_eq_true rfl) rfl ⟨rfl, (jv_w p16 (by decide))⟩
      · refine g_tableIn cx 77 e_X11_thingIs_11 (by rw [zw9e]; decide) (by rw [zw9e]; decide) (by rw [zw9e]; rfl) (by decide) ?_
        have p17 : jv 3 3 a1 := by rw [← ezy8]; exact jv_k 3 (by rw [zw9e]; rfl)
        refine g_aload_n cx 0 rfl e_X11_thingIs_77 ?_
        refine g_get cx cl_X11 fl_X11_19 0 (.ref (ad 4)) e_X11_thingIs_78 rfl rfl ?_
        refine g_iload_n cx 1 rfl e_X11_thingIs_81 ?_
        refine g_iald cx 4 e_X11_thingIs_82 rfl (jv_ix 10 p7 (by decide)) ?_
        refine g_topi (fun x18 ex18 => ?_)
        exact hret e_X11_thingIs_83 (Nat.le_of_ble_eq_true rfl) (Nat.le_of_ble_eq_true rfl) rfl ⟨rfl, (jv_t x18)⟩
      · refine g_tableIn cx 84 e_X11_thingIs_11 (by rw [zw9e]; decide) (by rw [zw9e]; decide) (by rw [zw9e]; rfl) (by decide) ?_
        have p19 : jv 4 4 a1 := by rw [← ezy8]; exact jv_k 4 (by rw [zw9e]; rfl)
        refine g_aload_n cx 0 rfl e_X11_thingIs_84 ?_
        refine g_get cx cl_X11 fl_X11_22 0 (.ref (ad 5)) e_X11_thingIs_85 rfl rfl ?_
        refine g_iload_n cx 1 rfl e_X11_thingIs_88 ?_
        refine g_iald cx 5 e_X11_thingIs_89 rfl (jv_ix 10 p7 (by decide)) ?_
        refine g_topi (fun x20 ex20 => ?_)
        have p21 : jv 0 99 x20 := by rw [ex20]; exact g_okR_g hA 7 rfl (jv_cl 10 p7 (by decide))
        exact hret e_X11_thingIs_90 (Nat.le_of_ble_eq_true rfl) (Nat.le_of_ble_eq_true rfl) rfl ⟨rfl, (jv_w p21 (by decide))⟩
      · refine g_tableIn cx 91 e_X11_thingIs_11 (by rw [zw9e]; decide) (by rw [zw9e]; decide) (by rw [zw9e]; rfl) (by decide) ?_
        have p22 : jv 5 5 a1 := by rw [← ezy8]; exact jv_k 5 (by rw [zw9e]; rfl)
        refine g_aload_n cx 0 rfl e_X11_thingIs_91 ?_
        refine g_get cx cl_X11 fl_X11_25 0 (.ref (ad 6)) e_X11_thingIs_92 rfl rfl ?_
        refine g_iload_n cx 1 rfl e_X11_thingIs_95 ?_
        refine g_iald cx 6 e_X11_thingIs_96 rfl (jv_ix 10 p7 (by decide)) ?_
        refine g_topi (fun x23 ex23 => ?_)
        exact hret e_X11_thingIs_97 (Nat.le_of_ble_eq_true rfl) (Nat.le_of_ble_eq_true rfl) rfl ⟨rfl, (jv_t x23)⟩
      · refine g_tableIn cx 98 e_X11_thingIs_11 (by rw [zw9e]; decide) (by rw [zw9e]; decide) (by rw [zw9e]; rfl) (by decide) ?_
        have p24 : jv 6 6 a1 := by rw [← ezy8]; exact jv_k 6 (by rw [zw9e]; rfl)
        refine g_aload_n cx 0 rfl e_X11_thingIs_98 ?_
        refine g_get cx cl_X11 fl_X11_28 0 (.ref (ad 7)) e_X11_thingIs_99 rfl rfl ?_
        refine g_iload_n cx 1 rfl e_X11_thingIs_102 ?_
        refine g_iald cx 7 e_X11_thingIs_103 rfl (jv_ix 10 p7 (by decide)) ?_
        refine g_topi (fun x25 ex25 => ?_)
        exact hret e_X11_thingIs_104 (Nat.le_of_ble_eq_true rfl) (Nat.le_of_ble_eq_true rfl) rfl ⟨rfl, (jv_t x25)⟩
      · refine g_tableIn cx 105 e_X11_thingIs_11 (by rw [zw9e]; decide) (by rw [zw9e]; decide) (by rw [zw9e]; rfl) (by decide) ?_
        have p26 : jv 7 7 a1 := by rw [← ezy8]; exact jv_k 7 (by rw [zw9e]; rfl)
        refine g_aload_n cx 0 rfl e_X11_thingIs_105 ?_
        refine g_get cx cl_X11 fl_X11_31 0 (.ref (ad 8)) e_X11_thingIs_106 rfl rfl ?_
        refine g_iload_n cx 1 rfl e_X11_thingIs_109 ?_
        refine g_iald cx 8 e_X11_thingIs_110 rfl (jv_ix 10 p7 (by decide)) ?_
        refine g_topi (fun x27 ex27 => ?_)
        exact hret e_X11_thingIs_111 (Nat.le_of_ble_eq_true rfl) (Nat.le_of_ble_eq_true rfl) rfl ⟨rfl, (jv_t x27)⟩
    · refine g_tableOut cx 112 e_X11_thingIs_11 zw9 (by decide) ?_
      refine g_iconst cx (-1) (by decide) e_X11_thingIs_112 ?_
      exact hret e_X11_thingIs_113 (Nat.le_of_ble_eq_true rfl) (Nat.le_of_ble_eq_true rfl) rfl ⟨rfl, (jv_w (jv_k (x := (-1)) (-1) (by decide)) (by decide))⟩
  · have p28 := gn_eq 0 0 (gc_eq zc5) pr1 (jv_k (x := 0) 0 (by decide)) (by decide)
    refine g_iconst cx (-1) (by decide) e_X11_thingIs_8 ?_
    exact hret e_X11_thingIs_9 (Nat.le_of_ble_eq_true rfl) (Nat.le_of_ble_eq_true rfl) rfl ⟨rfl, (jv_w (jv_k (x := (-1)) (-1) (by decide)) (by decide))⟩
theorem e_X11_seed_0 : g_dc cX11_seed 0 (.iload_n 1) 1 1 := ⟨by decide +kernel, rfl⟩
theorem e_X11_seed_1 : g_dc cX11_seed 1 (.iconst 0) 1 2 := ⟨by decide +kernel, rfl⟩
theorem e_X11_seed_2 : g_dc cX11_seed 2 (.ldc_w 490) 3 5 := ⟨by decide +kernel, rfl⟩
theorem e_X11_seed_5 : g_dc cX11_seed 5 (.invokestatic 165) 3 8 := ⟨by decide +kernel, rfl⟩
theorem e_X11_seed_8 : g_dc cX11_seed 8 (.ifCond .ne 5) 3 11 := ⟨by decide +kernel, rfl⟩
theorem e_X11_seed_11 : g_dc cX11_seed 11 (.iconst 0) 1 12 := ⟨by decide +kernel, rfl⟩
theorem e_X11_seed_12 : g_dc cX11_seed 12 (.ireturn) 1 13 := ⟨by decide +kernel, rfl⟩
theorem e_X11_seed_13 : g_dc cX11_seed 13 (.aload_n 0) 1 14 := ⟨by decide +kernel, rfl⟩
theorem e_X11_seed_14 : g_dc cX11_seed 14 (.iload_n 1) 1 15 := ⟨by decide +kernel, rfl⟩
theorem e_X11_seed_15 : g_dc cX11_seed 15 (.putfield 162) 3 18 := ⟨by decide +kernel, rfl⟩
theorem e_X11_seed_18 : g_dc cX11_seed 18 (.iconst 1) 1 19 := ⟨by decide +kernel, rfl⟩
theorem e_X11_seed_19 : g_dc cX11_seed 19 (.ireturn) 1 20 := ⟨by decide +kernel, rfl⟩
def md_X11_seed : List Nat := [3]
def mr_X11_seed : List Nat := []
set_option maxHeartbeats 4000000 in
set_option maxRecDepth 100000 in
theorem w_X11_seed (l : Launch) (X : gX) (ad : Nat → Nat) (F : Nat → Int32) (R : Nat → Nat → Int32) (hI : g_ok LK_wM F) (hA : g_okR LA_wM R) (hWT : WT F R) (hWC : WC F R) (a0 : Int32) : g_Ci l X yX11_seed cX11_seed 2 (some .boolean) 2 0 0 [.ref (ad 0), .int a0] (wM X ad F R) (fun r w => ∃ (F' : Nat → Int32) (R' : Nat → Nat → Int32), w = wM X ad F' R' ∧ g_ok LK_wM F' ∧ g_okR LA_wM R' ∧ WT F' R' ∧ WC F' R' ∧ g_fr md_X11_seed F F' ∧ g_fr mr_X11_seed R R' ∧ jv 0 1 r) := by
  refine g_mi (by decide +kernel) (Nat.le_of_ble_eq_true rfl) (fun E cx hret => ?_)
  refine g_iload_n cx 1 rfl e_X11_seed_0 ?_
  refine g_iconst cx 0 (by decide) e_X11_seed_1 ?_
  refine g_ldcw cx 65535 kc_X11_490 e_X11_seed_2 ?_
  refine g_cSiW cx [.int a0, .int 0, .int 65535] [] (c_X11_in l X (wM X ad F R) a0 0 65535) ml_X11_165 yS_X11_in rfl e_X11_seed_5 (by unfold g_rr; decide) (by decide) rfl (Nat.le_of_ble_eq_true rfl) (fun r1 w2 h3 => ?_)
  obtain ⟨rfl, hr1⟩ := h3
  have pr1 : jv 0 1 r1 := by rw [hr1]; exact gi_01 _ _ _
  refine g_if_ne cx 13 e_X11_seed_8 (by decide) (fun zc4 => ?_) (fun zc4 => ?_)
  · have p5 := gn_neL 1 1 (gc_ne zc4) pr1 (jv_k (x := 0) 0 (by decide)) (by decide)
    have p6 := jv_i 0 65535 (jv_t a0) (gi_in (A := 0) (B := 65535) hr1 zc4 (by decide) (by decide)) (by decide)
    refine g_aload_n cx 0 rfl e_X11_seed_13 ?_
    refine g_iload_n cx 1 rfl e_X11_seed_14 ?_
    refine g_put cx cl_X11 fl_X11_162 0 (wM X ad (upd F 3 a0) R) e_X11_seed_15 rfl rfl rfl rfl (Nat.le_of_ble_eq_true rfl) rfl ?_
    obtain ⟨F7, hF7⟩ : ∃ z, z = upd F 3 a0 := ⟨_, rfl⟩
    rw [← hF7]
    have oF7 : g_ok LK_wM F7 := by rw [hF7]; exact g_ok_u hI rfl
    have fF7 : g_fr md_X11_seed F F7 := by rw [hF7]; exact g_fr_u (g_fr_rf F) rfl
    have wTF7 : WT F7 R := by rw [hF7]; exact WT_u hWT rfl
    have wCF7 : WC F7 R := by rw [hF7]; exact WC_u hWC rfl
    refine g_iconst cx 1 (by decide) e_X11_seed_18 ?_
    exact hret e_X11_seed_19 (Nat.le_of_ble_eq_true rfl) (Nat.le_of_ble_eq_true rfl) rfl ⟨F7, R, rfl, oF7, hA, wTF7, wCF7, fF7, (g_fr_rf R), (jv_w (jv_k (x := 1) 1 (by decide)) (by decide))⟩
  · have p8 := gn_eq 0 0 (gc_eq zc4) pr1 (jv_k (x := 0) 0 (by decide)) (by decide)
    refine g_iconst cx 0 (by decide) e_X11_seed_11 ?_
    exact hret e_X11_seed_12 (Nat.le_of_ble_eq_true rfl) (Nat.le_of_ble_eq_true rfl) rfl ⟨F, R, rfl, hI, hA, hWT, hWC, (g_fr_rf F), (g_fr_rf R), (jv_w (jv_k (x := 0) 0 (by decide)) (by decide))⟩
theorem e_X11_copies_0 : g_dc cX11_copies 0 (.iconst 0) 1 1 := ⟨by decide +kernel, rfl⟩
theorem e_X11_copies_1 : g_dc cX11_copies 1 (.istore_n 2) 1 2 := ⟨by decide +kernel, rfl⟩
theorem e_X11_copies_2 : g_dc cX11_copies 2 (.iload_n 2) 1 3 := ⟨by decide +kernel, rfl⟩
theorem e_X11_copies_3 : g_dc cX11_copies 3 (.bipush 10) 2 5 := ⟨by decide +kernel, rfl⟩
theorem e_X11_copies_5 : g_dc cX11_copies 5 (.if_icmp .ge 15) 3 8 := ⟨by decide +kernel, rfl⟩
theorem e_X11_copies_8 : g_dc cX11_copies 8 (.aload_n 1) 1 9 := ⟨by decide +kernel, rfl⟩
theorem e_X11_copies_9 : g_dc cX11_copies 9 (.iload_n 2) 1 10 := ⟨by decide +kernel, rfl⟩
theorem e_X11_copies_10 : g_dc cX11_copies 10 (.aload_n 0) 1 11 := ⟨by decide +kernel, rfl⟩
theorem e_X11_copies_11 : g_dc cX11_copies 11 (.iload_n 2) 1 12 := ⟨by decide +kernel, rfl⟩
theorem e_X11_copies_12 : g_dc cX11_copies 12 (.iaload) 1 13 := ⟨by decide +kernel, rfl⟩
theorem e_X11_copies_13 : g_dc cX11_copies 13 (.iastore) 1 14 := ⟨by decide +kernel, rfl⟩
theorem e_X11_copies_14 : g_dc cX11_copies 14 (.iinc 2 1) 3 17 := ⟨by decide +kernel, rfl⟩
theorem e_X11_copies_17 : g_dc cX11_copies 17 (.goto (-15)) 3 20 := ⟨by decide +kernel, rfl⟩
theorem e_X11_copies_20 : g_dc cX11_copies 20 (.return_) 1 21 := ⟨by decide +kernel, rfl⟩
def md_X11_copies_r1_r41 : List Nat := []
def mr_X11_copies_r1_r41 : List Nat := [41]
set_option maxHeartbeats 4000000 in
set_option maxRecDepth 100000 in
theorem w_X11_copies_r1_r41 (l : Launch) (X : gX) (ad : Nat → Nat) (F : Nat → Int32) (R : Nat → Nat → Int32) (hI : g_ok LK_wM F) (hA : g_okR LA_wM R) (hWC : WC F R) : g_Cv l X yX11_copies cX11_copies 3 1 0 0 [.ref (ad 1), .ref (ad 41)] (wM X ad F R) (fun w => ∃ (F' : Nat → Int32) (R' : Nat → Nat → Int32), w = wM X ad F' R' ∧ g_ok LK_wM F' ∧ g_okR LA_wM R' ∧ WC F' R' ∧ g_fr md_X11_copies_r1_r41 F F' ∧ g_fr mr_X11_copies_r1_r41 R R' ∧ (∀ j : Nat, j < 10 → R' 41 j = R 1 j)) := by
  refine g_mv (by decide +kernel) (Nat.le_of_ble_eq_true rfl) (fun E cx hret => ?_)
  refine g_iconst cx 0 (by decide) e_X11_copies_0 ?_
  refine g_istore_n cx [(2, .int 0), (0, .ref (ad 1)), (1, .ref (ad 41))] e_X11_copies_1 (by decide) rfl ?_
  have J2 : ∀ (N : Nat) (R2 : Nat → Nat → Int32) (y1 : Int32), (g_okR LA_wM R2) → (g_fr mr_X11_copies_r1_r41 R R2) → (WC F R2) → (jv 0 10 y1) → (∀ j : Nat, (j : Int) < y1.toInt → R2 41 j = R 1 j) → (2147483647 - y1.toInt).toNat < N → G X E 3 0 0 (wM X ad F R2) [(0, .ref (ad 1)), (1, .ref (ad 41)), (2, .int y1)] 2 [] := by
    intro N
    induction N with
    | zero => intro R2 y1 oR2 fR2 wCR2 py1 zq2_0 hm; exact absurd hm (Nat.not_lt_zero _)
    | succ N ih2 =>
      intro R2 y1 oR2 fR2 wCR2 py1 zq2_0 hm2
      refine g_iload_n cx 2 rfl e_X11_copies_2 ?_
      refine g_bipush cx 10 (by decide) e_X11_copies_3 ?_
      refine g_icmp_ge cx 20 e_X11_copies_5 (by decide) (fun zc3 => ?_) (fun zc3 => ?_)
      · have p4 := gn_ge 10 10 (gc_le zc3) py1 (jv_k (x := 10) 10 (by decide)) (by decide)
        exact hret e_X11_copies_20 (Nat.le_of_ble_eq_true rfl) (Nat.le_of_ble_eq_true rfl) ⟨F, R2, rfl, hI, oR2, wCR2, (g_fr_rf F), fR2, (fun j hj => zq2_0 j (by have q := p4; unfold jv at q; omega))⟩
      · have p5 := gn_lt 0 9 (gc_nle zc3) py1 (jv_k (x := 10) 10 (by decide)) (by decide)
        refine g_aload_n cx 1 rfl e_X11_copies_8 ?_
        refine g_iload_n cx 2 rfl e_X11_copies_9 ?_
        refine g_aload_n cx 0 rfl e_X11_copies_10 ?_
        refine g_iload_n cx 2 rfl e_X11_copies_11 ?_
        refine g_iald cx 1 e_X11_copies_12 rfl (jv_ix 10 p5 (by decide)) ?_
        refine g_topi (fun x6 ex6 => ?_)
        refine g_iast cx 41 (wM X ad F (g_u R2 41 (upd (R2 41) (Int32.toNatClampNeg y1) x6))) e_X11_copies_13 rfl (jv_ix 10 p5 (by decide)) rfl ?_
        obtain ⟨R7, hR7⟩ : ∃ z, z = g_u R2 41 (upd (R2 41) (Int32.toNatClampNeg y1) x6) := ⟨_, rfl⟩
        rw [← hR7]
        have oR7 : g_okR LA_wM R7 := by rw [hR7]; exact g_okR_u oR2 rfl
        have fR7 : g_fr mr_X11_copies_r1_r41 R R7 := by rw [hR7]; exact g_fr_r fR2 rfl
        have wCR7 : WC F R7 := by rw [hR7]; exact WC_r wCR2 rfl
        obtain ⟨x8, ex8⟩ : ∃ z : Int32, z = y1 + Int32.ofInt 1 := ⟨_, rfl⟩
        refine g_iinc cx x8 [(2, .int x8), (0, .ref (ad 1)), (1, .ref (ad 41))] 2 e_X11_copies_14 rfl ex8.symm (by decide) rfl ?_
        have zx8 := jv_add 1 10 (show x8 = y1 + 1 from ex8) p5 (jv_k (x := 1) 1 (by decide)) (by decide)
        refine g_goto cx 2 e_X11_copies_17 (by decide) ?_
        refine g_lsub [1, 2, 0] [(0, .ref (ad 1)), (1, .ref (ad 41)), (2, .int x8)] rfl ?_
        exact ih2 R7 x8 oR7 fR7 wCR7 (jv_w zx8.2 (by decide)) (g_cp1 (g := R 1) zq2_0 p5 ((g_ru1 hR7).trans (by rw [ex6, show R2 1 = R 1 from (fR2 1 rfl)])) (g_eq0 zx8.1)) (Nat.lt_of_lt_of_le (show (2147483647 - x8.toInt).toNat < (2147483647 - y1.toInt).toNat from by have q0 := (jv_k (x := 1) 1 (by decide)).1; have q1 := (jv_k (x := 1) 1 (by decide)).2; have q2 := (jv_k (x := 10) 10 (by decide)).1; have q3 := (jv_k (x := 10) 10 (by decide)).2; have q4 := zx8.2.1; have q5 := zx8.2.2; have q6 := p5.1; have q7 := p5.2; have q8 := (gc_nle zc3); have q9 := (g_eq0 zx8.1); omega) (Nat.le_of_lt_succ hm2))
  refine g_lsub [1, 2, 0] [(0, .ref (ad 1)), (1, .ref (ad 41)), (2, .int 0)] rfl ?_
  exact J2 _ R 0 hA (g_fr_rf R) hWC (jv_w (jv_k (x := 0) 0 (by decide)) (by decide)) (fun j hj => absurd hj (by have := Int.natCast_nonneg j; have e : (0 : Int32).toInt = 0 := rfl; omega)) (Nat.lt_succ_self _)
def md_X11_copies_r2_r42 : List Nat := []
def mr_X11_copies_r2_r42 : List Nat := [42]
set_option maxHeartbeats 4000000 in
set_option maxRecDepth 100000 in
theorem w_X11_copies_r2_r42 (l : Launch) (X : gX) (ad : Nat → Nat) (F : Nat → Int32) (R : Nat → Nat → Int32) (hI : g_ok LK_wM F) (hA : g_okR LA_wM R) (hWC : WC F R) : g_Cv l X yX11_copies cX11_copies 3 1 0 0 [.ref (ad 2), .ref (ad 42)] (wM X ad F R) (fun w => ∃ (F' : Nat → Int32) (R' : Nat → Nat → Int32), w = wM X ad F' R' ∧ g_ok LK_wM F' ∧ g_okR LA_wM R' ∧ WC F' R' ∧ g_fr md_X11_copies_r2_r42 F F' ∧ g_fr mr_X11_copies_r2_r42 R R' ∧ (∀ j : Nat, j < 10 → R' 42 j = R 2 j)) := by
  refine g_mv (by decide +kernel) (Nat.le_of_ble_eq_true rfl) (fun E cx hret => ?_)
  refine g_iconst cx 0 (by decide) e_X11_copies_0 ?_
  refine g_istore_n cx [(2, .int 0), (0, .ref (ad 2)), (1, .ref (ad 42))] e_X11_copies_1 (by decide) rfl ?_
  have J2 : ∀ (N : Nat) (R2 : Nat → Nat → Int32) (y1 : Int32), (g_okR LA_wM R2) → (g_fr mr_X11_copies_r2_r42 R R2) → (WC F R2) → (jv 0 10 y1) → (∀ j : Nat, (j : Int) < y1.toInt → R2 42 j = R 2 j) → (2147483647 - y1.toInt).toNat < N → G X E 3 0 0 (wM X ad F R2) [(0, .ref (ad 2)), (1, .ref (ad 42)), (2, .int y1)] 2 [] := by
    intro N
    induction N with
    | zero => intro R2 y1 oR2 fR2 wCR2 py1 zq2_0 hm; exact absurd hm (Nat.not_lt_zero _)
    | succ N ih2 =>
      intro R2 y1 oR2 fR2 wCR2 py1 zq2_0 hm2
      refine g_iload_n cx 2 rfl e_X11_copies_2 ?_
      refine g_bipush cx 10 (by decide) e_X11_copies_3 ?_
      refine g_icmp_ge cx 20 e_X11_copies_5 (by decide) (fun zc3 => ?_) (fun zc3 => ?_)
      · have p4 := gn_ge 10 10 (gc_le zc3) py1 (jv_k (x := 10) 10 (by decide)) (by decide)
        exact hret e_X11_copies_20 (Nat.le_of_ble_eq_true rfl) (Nat.le_of_ble_eq_true rfl) ⟨F, R2, rfl, hI, oR2, wCR2, (g_fr_rf F), fR2, (fun j hj => zq2_0 j (by have q := p4; unfold jv at q; omega))⟩
      · have p5 := gn_lt 0 9 (gc_nle zc3) py1 (jv_k (x := 10) 10 (by decide)) (by decide)
        refine g_aload_n cx 1 rfl e_X11_copies_8 ?_
        refine g_iload_n cx 2 rfl e_X11_copies_9 ?_
        refine g_aload_n cx 0 rfl e_X11_copies_10 ?_
        refine g_iload_n cx 2 rfl e_X11_copies_11 ?_
        refine g_iald cx 2 e_X11_copies_12 rfl (jv_ix 10 p5 (by decide)) ?_
        refine g_topi (fun x6 ex6 => ?_)
        refine g_iast cx 42 (wM X ad F (g_u R2 42 (upd (R2 42) (Int32.toNatClampNeg y1) x6))) e_X11_copies_13 rfl (jv_ix 10 p5 (by decide)) rfl ?_
        obtain ⟨R7, hR7⟩ : ∃ z, z = g_u R2 42 (upd (R2 42) (Int32.toNatClampNeg y1) x6) := ⟨_, rfl⟩
        rw [← hR7]
        have oR7 : g_okR LA_wM R7 := by rw [hR7]; exact g_okR_u oR2 rfl
        have fR7 : g_fr mr_X11_copies_r2_r42 R R7 := by rw [hR7]; exact g_fr_r fR2 rfl
        have wCR7 : WC F R7 := by rw [hR7]; exact WC_r wCR2 rfl
        obtain ⟨x8, ex8⟩ : ∃ z : Int32, z = y1 + Int32.ofInt 1 := ⟨_, rfl⟩
        refine g_iinc cx x8 [(2, .int x8), (0, .ref (ad 2)), (1, .ref (ad 42))] 2 e_X11_copies_14 rfl ex8.symm (by decide) rfl ?_
        have zx8 := jv_add 1 10 (show x8 = y1 + 1 from ex8) p5 (jv_k (x := 1) 1 (by decide)) (by decide)
        refine g_goto cx 2 e_X11_copies_17 (by decide) ?_
        refine g_lsub [1, 2, 0] [(0, .ref (ad 2)), (1, .ref (ad 42)), (2, .int x8)] rfl ?_
        exact ih2 R7 x8 oR7 fR7 wCR7 (jv_w zx8.2 (by decide)) (g_cp1 (g := R 2) zq2_0 p5 ((g_ru1 hR7).trans (by rw [ex6, show R2 2 = R 2 from (fR2 2 rfl)])) (g_eq0 zx8.1)) (Nat.lt_of_lt_of_le (show (2147483647 - x8.toInt).toNat < (2147483647 - y1.toInt).toNat from by have q0 := (jv_k (x := 1) 1 (by decide)).1; have q1 := (jv_k (x := 1) 1 (by decide)).2; have q2 := (jv_k (x := 10) 10 (by decide)).1; have q3 := (jv_k (x := 10) 10 (by decide)).2; have q4 := zx8.2.1; have q5 := zx8.2.2; have q6 := p5.1; have q7 := p5.2; have q8 := (gc_nle zc3); have q9 := (g_eq0 zx8.1); omega) (Nat.le_of_lt_succ hm2))
  refine g_lsub [1, 2, 0] [(0, .ref (ad 2)), (1, .ref (ad 42)), (2, .int 0)] rfl ?_
  exact J2 _ R 0 hA (g_fr_rf R) hWC (jv_w (jv_k (x := 0) 0 (by decide)) (by decide)) (fun j hj => absurd hj (by have := Int.natCast_nonneg j; have e : (0 : Int32).toInt = 0 := rfl; omega)) (Nat.lt_succ_self _)
def md_X11_copies_r3_r43 : List Nat := []
def mr_X11_copies_r3_r43 : List Nat := [43]
set_option maxHeartbeats 4000000 in
set_option maxRecDepth 100000 in
theorem w_X11_copies_r3_r43 (l : Launch) (X : gX) (ad : Nat → Nat) (F : Nat → Int32) (R : Nat → Nat → Int32) (hI : g_ok LK_wM F) (hA : g_okR LA_wM R) (hWC : WC F R) : g_Cv l X yX11_copies cX11_copies 3 1 0 0 [.ref (ad 3), .ref (ad 43)] (wM X ad F R) (fun w => ∃ (F' : Nat → Int32) (R' : Nat → Nat → Int32), w = wM X ad F' R' ∧ g_ok LK_wM F' ∧ g_okR LA_wM R' ∧ WC F' R' ∧ g_fr md_X11_copies_r3_r43 F F' ∧ g_fr mr_X11_copies_r3_r43 R R' ∧ (∀ j : Nat, j < 10 → R' 43 j = R 3 j)) := by
  refine g_mv (by decide +kernel) (Nat.le_of_ble_eq_true rfl) (fun E cx hret => ?_)
  refine g_iconst cx 0 (by decide) e_X11_copies_0 ?_
  refine g_istore_n cx [(2, .int 0), (0, .ref (ad 3)), (1, .ref (ad 43))] e_X11_copies_1 (by decide) rfl ?_
  have J2 : ∀ (N : Nat) (R2 : Nat → Nat → Int32) (y1 : Int32), (g_okR LA_wM R2) → (g_fr mr_X11_copies_r3_r43 R R2) → (WC F R2) → (jv 0 10 y1) → (∀ j : Nat, (j : Int) < y1.toInt → R2 43 j = R 3 j) → (2147483647 - y1.toInt).toNat < N → G X E 3 0 0 (wM X ad F R2) [(0, .ref (ad 3)), (1, .ref (ad 43)), (2, .int y1)] 2 [] := by
    intro N
    induction N with
    | zero => intro R2 y1 oR2 fR2 wCR2 py1 zq2_0 hm; exact absurd hm (Nat.not_lt_zero _)
    | succ N ih2 =>
      intro R2 y1 oR2 fR2 wCR2 py1 zq2_0 hm2
      refine g_iload_n cx 2 rfl e_X11_copies_2 ?_
      refine g_bipush cx 10 (by decide) e_X11_copies_3 ?_
      refine g_icmp_ge cx 20 e_X11_copies_5 (by decide) (fun zc3 => ?_) (fun zc3 => ?_)
      · have p4 := gn_ge 10 10 (gc_le zc3) py1 (jv_k (x := 10) 10 (by decide)) (by decide)
        exact hret e_X11_copies_20 (Nat.le_of_ble_eq_true rfl) (Nat.le_of_ble_eq_true rfl) ⟨F, R2, rfl, hI, oR2, wCR2, (g_fr_rf F), fR2, (fun j hj => zq2_0 j (by have q := p4; unfold jv at q; omega))⟩
      · have p5 := gn_lt 0 9 (gc_nle zc3) py1 (jv_k (x := 10) 10 (by decide)) (by decide)
        refine g_aload_n cx 1 rfl e_X11_copies_8 ?_
        refine g_iload_n cx 2 rfl e_X11_copies_9 ?_
        refine g_aload_n cx 0 rfl e_X11_copies_10 ?_
        refine g_iload_n cx 2 rfl e_X11_copies_11 ?_
        refine g_iald cx 3 e_X11_copies_12 rfl (jv_ix 10 p5 (by decide)) ?_
        refine g_topi (fun x6 ex6 => ?_)
        have p7 : jv 0 40 x6 := by rw [ex6]; exact g_okR_g oR2 6 rfl (jv_cl 10 p5 (by decide))
        refine g_iast cx 43 (wM X ad F (g_u R2 43 (upd (R2 43) (Int32.toNatClampNeg y1) x6))) e_X11_copies_13 rfl (jv_ix 10 p5 (by decide)) rfl ?_
        obtain ⟨R8, hR8⟩ : ∃ z, z = g_u R2 43 (upd (R2 43) (Int32.toNatClampNeg y1) x6) := ⟨_, rfl⟩
        rw [← hR8]
        have oR8 : g_okR LA_wM R8 := by rw [hR8]; exact g_okR_p oR2 p7 rfl
        have fR8 : g_fr mr_X11_copies_r3_r43 R R8 := by rw [hR8]; exact g_fr_r fR2 rfl
        have wCR8 : WC F R8 := by rw [hR8]; exact WC_r wCR2 rfl
        obtain ⟨x9, ex9⟩ : ∃ z : Int32, z = y1 + Int32.ofInt 1 := ⟨_, rfl⟩
        refine g_iinc cx x9 [(2, .int x9), (0, .ref (ad 3)), (1, .ref (ad 43))] 2 e_X11_copies_14 rfl ex9.symm (by decide) rfl ?_
        have zx9 := jv_add 1 10 (show x9 = y1 + 1 from ex9) p5 (jv_k (x := 1) 1 (by decide)) (by decide)
        refine g_goto cx 2 e_X11_copies_17 (by decide) ?_
        refine g_lsub [1, 2, 0] [(0, .ref (ad 3)), (1, .ref (ad 43)), (2, .int x9)] rfl ?_
        exact ih2 R8 x9 oR8 fR8 wCR8 (jv_w zx9.2 (by decide)) (g_cp1 (g := R 3) zq2_0 p5 ((g_ru1 hR8).trans (by rw [ex6, show R2 3 = R 3 from (fR2 3 rfl)])) (g_eq0 zx9.1)) (Nat.lt_of_lt_of_le (show (2147483647 - x9.toInt).toNat < (2147483647 - y1.toInt).toNat from by have q0 := (jv_k (x := 1) 1 (by decide)).1; have q1 := (jv_k (x := 1) 1 (by decide)).2; have q2 := (jv_k (x := 10) 10 (by decide)).1; have q3 := (jv_k (x := 10) 10 (by decide)).2; have q4 := zx9.2.1; have q5 := zx9.2.2; have q6 := p5.1; have q7 := p5.2; have q8 := (gc_nle zc3); have q9 := (g_eq0 zx9.1); omega) (Nat.le_of_lt_succ hm2))
  refine g_lsub [1, 2, 0] [(0, .ref (ad 3)), (1, .ref (ad 43)), (2, .int 0)] rfl ?_
  exact J2 _ R 0 hA (g_fr_rf R) hWC (jv_w (jv_k (x := 0) 0 (by decide)) (by decide)) (fun j hj => absurd hj (by have := Int.natCast_nonneg j; have e : (0 : Int32).toInt = 0 := rfl; omega)) (Nat.lt_succ_self _)
def md_X11_copies_r4_r44 : List Nat := []
def mr_X11_copies_r4_r44 : List Nat := [44]
set_option maxHeartbeats 4000000 in
set_option maxRecDepth 100000 in
theorem w_X11_copies_r4_r44 (l : Launch) (X : gX) (ad : Nat → Nat) (F : Nat → Int32) (R : Nat → Nat → Int32) (hI : g_ok LK_wM F) (hA : g_okR LA_wM R) (hWC : WC F R) : g_Cv l X yX11_copies cX11_copies 3 1 0 0 [.ref (ad 4), .ref (ad 44)] (wM X ad F R) (fun w => ∃ (F' : Nat → Int32) (R' : Nat → Nat → Int32), w = wM X ad F' R' ∧ g_ok LK_wM F' ∧ g_okR LA_wM R' ∧ WC F' R' ∧ g_fr md_X11_copies_r4_r44 F F' ∧ g_fr mr_X11_copies_r4_r44 R R' ∧ (∀ j : Nat, j < 10 → R' 44 j = R 4 j)) := by
  refine g_mv (by decide +kernel) (Nat.le_of_ble_eq_true rfl) (fun E cx hret => ?_)
  refine g_iconst cx 0 (by decide) e_X11_copies_0 ?_
  refine g_istore_n cx [(2, .int 0), (0, .ref (ad 4)), (1, .ref (ad 44))] e_X11_copies_1 (by decide) rfl ?_
  have J2 : ∀ (N : Nat) (R2 : Nat → Nat → Int32) (y1 : Int32), (g_okR LA_wM R2) → (g_fr mr_X11_copies_r4_r44 R R2) → (WC F R2) → (jv 0 10 y1) → (∀ j : Nat, (j : Int) < y1.toInt → R2 44 j = R 4 j) → (2147483647 - y1.toInt).toNat < N → G X E 3 0 0 (wM X ad F R2) [(0, .ref (ad 4)), (1, .ref (ad 44)), (2, .int y1)] 2 [] := by
    intro N
    induction N with
    | zero => intro R2 y1 oR2 fR2 wCR2 py1 zq2_0 hm; exact absurd hm (Nat.not_lt_zero _)
    | succ N ih2 =>
      intro R2 y1 oR2 fR2 wCR2 py1 zq2_0 hm2
      refine g_iload_n cx 2 rfl e_X11_copies_2 ?_
      refine g_bipush cx 10 (by decide) e_X11_copies_3 ?_
      refine g_icmp_ge cx 20 e_X11_copies_5 (by decide) (fun zc3 => ?_) (fun zc3 => ?_)
      · have p4 := gn_ge 10 10 (gc_le zc3) py1 (jv_k (x := 10) 10 (by decide)) (by decide)
        exact hret e_X11_copies_20 (Nat.le_of_ble_eq_true rfl) (Nat.le_of_ble_eq_true rfl) ⟨F, R2, rfl, hI, oR2, wCR2, (g_fr_rf F), fR2, (fun j hj => zq2_0 j (by have q := p4; unfold jv at q; omega))⟩
      · have p5 := gn_lt 0 9 (gc_nle zc3) py1 (jv_k (x := 10) 10 (by decide)) (by decide)
        refine g_aload_n cx 1 rfl e_X11_copies_8 ?_
        refine g_iload_n cx 2 rfl e_X11_copies_9 ?_
        refine g_aload_n cx 0 rfl e_X11_copies_10 ?_
        refine g_iload_n cx 2 rfl e_X11_copies_11 ?_
        refine g_iald cx 4 e_X11_copies_12 rfl (jv_ix 10 p5 (by decide)) ?_
        refine g_topi (fun x6 ex6 => ?_)
        refine g_iast cx 44 (wM X ad F (g_u R2 44 (upd (R2 44) (Int32.toNatClampNeg y1) x6))) e_X11_copies_13 rfl (jv_ix 10 p5 (by decide)) rfl ?_
        obtain ⟨R7, hR7⟩ : ∃ z, z = g_u R2 44 (upd (R2 44) (Int32.toNatClampNeg y1) x6) := ⟨_, rfl⟩
        rw [← hR7]
        have oR7 : g_okR LA_wM R7 := by rw [hR7]; exact g_okR_u oR2 rfl
        have fR7 : g_fr mr_X11_copies_r4_r44 R R7 := by rw [hR7]; exact g_fr_r fR2 rfl
        have wCR7 : WC F R7 := by rw [hR7]; exact WC_r wCR2 rfl
        obtain ⟨x8, ex8⟩ : ∃ z : Int32, z = y1 + Int32.ofInt 1 := ⟨_, rfl⟩
        refine g_iinc cx x8 [(2, .int x8), (0, .ref (ad 4)), (1, .ref (ad 44))] 2 e_X11_copies_14 rfl ex8.symm (by decide) rfl ?_
        have zx8 := jv_add 1 10 (show x8 = y1 + 1 from ex8) p5 (jv_k (x := 1) 1 (by decide)) (by decide)
        refine g_goto cx 2 e_X11_copies_17 (by decide) ?_
        refine g_lsub [1, 2, 0] [(0, .ref (ad 4)), (1, .ref (ad 44)), (2, .int x8)] rfl ?_
        exact ih2 R7 x8 oR7 fR7 wCR7 (jv_w zx8.2 (by decide)) (g_cp1 (g := R 4) zq2_0 p5 ((g_ru1 hR7).trans (by rw [ex6, show R2 4 = R 4 from (fR2 4 rfl)])) (g_eq0 zx8.1)) (Nat.lt_of_lt_of_le (show (2147483647 - x8.toInt).toNat < (2147483647 - y1.toInt).toNat from by have q0 := (jv_k (x := 1) 1 (by decide)).1; have q1 := (jv_k (x := 1) 1 (by decide)).2; have q2 := (jv_k (x := 10) 10 (by decide)).1; have q3 := (jv_k (x := 10) 10 (by decide)).2; have q4 := zx8.2.1; have q5 := zx8.2.2; have q6 := p5.1; have q7 := p5.2; have q8 := (gc_nle zc3); have q9 := (g_eq0 zx8.1); omega) (Nat.le_of_lt_succ hm2))
  refine g_lsub [1, 2, 0] [(0, .ref (ad 4)), (1, .ref (ad 44)), (2, .int 0)] rfl ?_
  exact J2 _ R 0 hA (g_fr_rf R) hWC (jv_w (jv_k (x := 0) 0 (by decide)) (by decide)) (fun j hj => absurd hj (by have := Int.natCast_nonneg j; have e : (0 : Int32).toInt = 0 := rfl; omega)) (Nat.lt_succ_self _)
def md_X11_copies_r5_r45 : List Nat := []
def mr_X11_copies_r5_r45 : List Nat := [45]
set_option maxHeartbeats 4000000 in
set_option maxRecDepth 100000 in
theorem w_X11_copies_r5_r45 (l : Launch) (X : gX) (ad : Nat → Nat) (F : Nat → Int32) (R : Nat → Nat → Int32) (hI : g_ok LK_wM F) (hA : g_okR LA_wM R) (hWC : WC F R) : g_Cv l X yX11_copies cX11_copies 3 1 0 0 [.ref (ad 5), .ref (ad 45)] (wM X ad F R) (fun w => ∃ (F' : Nat → Int32) (R' : Nat → Nat → Int32), w = wM X ad F' R' ∧ g_ok LK_wM F' ∧ g_okR LA_wM R' ∧ WC F' R' ∧ g_fr md_X11_copies_r5_r45 F F' ∧ g_fr mr_X11_copies_r5_r45 R R' ∧ (∀ j : Nat, j < 10 → R' 45 j = R 5 j)) := by
  refine g_mv (by decide +kernel) (Nat.le_of_ble_eq_true rfl) (fun E cx hret => ?_)
  refine g_iconst cx 0 (by decide) e_X11_copies_0 ?_
  refine g_istore_n cx [(2, .int 0), (0, .ref (ad 5)), (1, .ref (ad 45))] e_X11_copies_1 (by decide) rfl ?_
  have J2 : ∀ (N : Nat) (R2 : Nat → Nat → Int32) (y1 : Int32), (g_okR LA_wM R2) → (g_fr mr_X11_copies_r5_r45 R R2) → (WC F R2) → (jv 0 10 y1) → (∀ j : Nat, (j : Int) < y1.toInt → R2 45 j = R 5 j) → (2147483647 - y1.toInt).toNat < N → G X E 3 0 0 (wM X ad F R2) [(0, .ref (ad 5)), (1, .ref (ad 45)), (2, .int y1)] 2 [] := by
    intro N
    induction N with
    | zero => intro R2 y1 oR2 fR2 wCR2 py1 zq2_0 hm; exact absurd hm (Nat.not_lt_zero _)
    | succ N ih2 =>
      intro R2 y1 oR2 fR2 wCR2 py1 zq2_0 hm2
      refine g_iload_n cx 2 rfl e_X11_copies_2 ?_
      refine g_bipush cx 10 (by decide) e_X11_copies_3 ?_
      refine g_icmp_ge cx 20 e_X11_copies_5 (by decide) (fun zc3 => ?_) (fun zc3 => ?_)
      · have p4 := gn_ge 10 10 (gc_le zc3) py1 (jv_k (x := 10) 10 (by decide)) (by decide)
        exact hret e_X11_copies_20 (Nat.le_of_ble_eq_true rfl) (Nat.le_of_ble_eq_true rfl) ⟨F, R2, rfl, hI, oR2, wCR2, (g_fr_rf F), fR2, (fun j hj => zq2_0 j (by have q := p4; unfold jv at q; omega))⟩
      · have p5 := gn_lt 0 9 (gc_nle zc3) py1 (jv_k (x := 10) 10 (by decide)) (by decide)
        refine g_aload_n cx 1 rfl e_X11_copies_8 ?_
        refine g_iload_n cx 2 rfl e_X11_copies_9 ?_
        refine g_aload_n cx 0 rfl e_X11_copies_10 ?_
        refine g_iload_n cx 2 rfl e_X11_copies_11 ?_
        refine g_iald cx 5 e_X11_copies_12 rfl (jv_ix 10 p5 (by decide)) ?_
        refine g_topi (fun x6 ex6 => ?_)
        have p7 : jv 0 99 x6 := by rw [ex6]; exact g_okR_g oR2 7 rfl (jv_cl 10 p5 (by decide))
        refine g_iast cx 45 (wM X ad F (g_u R2 45 (upd (R2 45) (Int32.toNatClampNeg y1) x6))) e_X11_copies_13 rfl (jv_ix 10 p5 (by decide)) rfl ?_
        obtain ⟨R8, hR8⟩ : ∃ z, z = g_u R2 45 (upd (R2 45) (Int32.toNatClampNeg y1) x6) := ⟨_, rfl⟩
        rw [← hR8]
        have oR8 : g_okR LA_wM R8 := by rw [hR8]; exact g_okR_p oR2 p7 rfl
        have fR8 : g_fr mr_X11_copies_r5_r45 R R8 := by rw [hR8]; exact g_fr_r fR2 rfl
        have wCR8 : WC F R8 := by rw [hR8]; exact WC_r wCR2 rfl
        obtain ⟨x9, ex9⟩ : ∃ z : Int32, z = y1 + Int32.ofInt 1 := ⟨_, rfl⟩
        refine g_iinc cx x9 [(2, .int x9), (0, .ref (ad 5)), (1, .ref (ad 45))] 2 e_X11_copies_14 rfl ex9.symm (by decide) rfl ?_
        have zx9 := jv_add 1 10 (show x9 = y1 + 1 from ex9) p5 (jv_k (x := 1) 1 (by decide)) (by decide)
        refine g_goto cx 2 e_X11_copies_17 (by decide) ?_
        refine g_lsub [1, 2, 0] [(0, .ref (ad 5)), (1, .ref (ad 45)), (2, .int x9)] rfl ?_
        exact ih2 R8 x9 oR8 fR8 wCR8 (jv_w zx9.2 (by decide)) (g_cp1 (g := R 5) zq2_0 p5 ((g_ru1 hR8).trans (by rw [ex6, show R2 5 = R 5 from (fR2 5 rfl)])) (g_eq0 zx9.1)) (Nat.lt_of_lt_of_le (show (2147483647 - x9.toInt).toNat < (2147483647 - y1.toInt).toNat from by have q0 := (jv_k (x := 1) 1 (by decide)).1; have q1 := (jv_k (x := 1) 1 (by decide)).2; have q2 := (jv_k (x := 10) 10 (by decide)).1; have q3 := (jv_k (x := 10) 10 (by decide)).2; have q4 := zx9.2.1; have q5 := zx9.2.2; have q6 := p5.1; have q7 := p5.2; have q8 := (gc_nle zc3); have q9 := (g_eq0 zx9.1); omega) (Nat.le_of_lt_succ hm2))
  refine g_lsub [1, 2, 0] [(0, .ref (ad 5)), (1, .ref (ad 45)), (2, .int 0)] rfl ?_
  exact J2 _ R 0 hA (g_fr_rf R) hWC (jv_w (jv_k (x := 0) 0 (by decide)) (by decide)) (fun j hj => absurd hj (by have := Int.natCast_nonneg j; have e : (0 : Int32).toInt = 0 := rfl; omega)) (Nat.lt_succ_self _)
def md_X11_copies_r6_r46 : List Nat := []
def mr_X11_copies_r6_r46 : List Nat := [46]
set_option maxHeartbeats 4000000 in
set_option maxRecDepth 100000 in
theorem w_X11_copies_r6_r46 (l : Launch) (X : gX) (ad : Nat → Nat) (F : Nat → Int32) (R : Nat → Nat → Int32) (hI : g_ok LK_wM F) (hA : g_okR LA_wM R) (hWC : WC F R) : g_Cv l X yX11_copies cX11_copies 3 1 0 0 [.ref (ad 6), .ref (ad 46)] (wM X ad F R) (fun w => ∃ (F' : Nat → Int32) (R' : Nat → Nat → Int32), w = wM X ad F' R' ∧ g_ok LK_wM F' ∧ g_okR LA_wM R' ∧ WC F' R' ∧ g_fr md_X11_copies_r6_r46 F F' ∧ g_fr mr_X11_copies_r6_r46 R R' ∧ (∀ j : Nat, j < 10 → R' 46 j = R 6 j)) := by
  refine g_mv (by decide +kernel) (Nat.le_of_ble_eq_true rfl) (fun E cx hret => ?_)
  refine g_iconst cx 0 (by decide) e_X11_copies_0 ?_
  refine g_istore_n cx [(2, .int 0), (0, .ref (ad 6)), (1, .ref (ad 46))] e_X11_copies_1 (by decide) rfl ?_
  have J2 : ∀ (N : Nat) (R2 : Nat → Nat → Int32) (y1 : Int32), (g_okR LA_wM R2) → (g_fr mr_X11_copies_r6_r46 R R2) → (WC F R2) → (jv 0 10 y1) → (∀ j : Nat, (j : Int) < y1.toInt → R2 46 j = R 6 j) → (2147483647 - y1.toInt).toNat < N → G X E 3 0 0 (wM X ad F R2) [(0, .ref (ad 6)), (1, .ref (ad 46)), (2, .int y1)] 2 [] := by
    intro N
    induction N with
    | zero => intro R2 y1 oR2 fR2 wCR2 py1 zq2_0 hm; exact absurd hm (Nat.not_lt_zero _)
    | succ N ih2 =>
      intro R2 y1 oR2 fR2 wCR2 py1 zq2_0 hm2
      refine g_iload_n cx 2 rfl e_X11_copies_2 ?_
      refine g_bipush cx 10 (by decide) e_X11_copies_3 ?_
      refine g_icmp_ge cx 20 e_X11_copies_5 (by decide) (fun zc3 => ?_) (fun zc3 => ?_)
      · have p4 := gn_ge 10 10 (gc_le zc3) py1 (jv_k (x := 10) 10 (by decide)) (by decide)
        exact hret e_X11_copies_20 (Nat.le_of_ble_eq_true rfl) (Nat.le_of_ble_eq_true rfl) ⟨F, R2, rfl, hI, oR2, wCR2, (g_fr_rf F), fR2, (fun j hj => zq2_0 j (by have q := p4; unfold jv at q; omega))⟩
      · have p5 := gn_lt 0 9 (gc_nle zc3) py1 (jv_k (x := 10) 10 (by decide)) (by decide)
        refine g_aload_n cx 1 rfl e_X11_copies_8 ?_
        refine g_iload_n cx 2 rfl e_X11_copies_9 ?_
        refine g_aload_n cx 0 rfl e_X11_copies_10 ?_
        refine g_iload_n cx 2 rfl e_X11_copies_11 ?_
        refine g_iald cx 6 e_X11_copies_12 rfl (jv_ix 10 p5 (by decide)) ?_
        refine g_topi (fun x6 ex6 => ?_)
        refine g_iast cx 46 (wM X ad F (g_u R2 46 (upd (R2 46) (Int32.toNatClampNeg y1) x6))) e_X11_copies_13 rfl (jv_ix 10 p5 (by decide)) rfl ?_
        obtain ⟨R7, hR7⟩ : ∃ z, z = g_u R2 46 (upd (R2 46) (Int32.toNatClampNeg y1) x6) := ⟨_, rfl⟩
        rw [← hR7]
        have oR7 : g_okR LA_wM R7 := by rw [hR7]; exact g_okR_u oR2 rfl
        have fR7 : g_fr mr_X11_copies_r6_r46 R R7 := by rw [hR7]; exact g_fr_r fR2 rfl
        have wCR7 : WC F R7 := by rw [hR7]; exact WC_r wCR2 rfl
        obtain ⟨x8, ex8⟩ : ∃ z : Int32, z = y1 + Int32.ofInt 1 := ⟨_, rfl⟩
        refine g_iinc cx x8 [(2, .int x8), (0, .ref (ad 6)), (1, .ref (ad 46))] 2 e_X11_copies_14 rfl ex8.symm (by decide) rfl ?_
        have zx8 := jv_add 1 10 (show x8 = y1 + 1 from ex8) p5 (jv_k (x := 1) 1 (by decide)) (by decide)
        refine g_goto cx 2 e_X11_copies_17 (by decide) ?_
        refine g_lsub [1, 2, 0] [(0, .ref (ad 6)), (1, .ref (ad 46)), (2, .int x8)] rfl ?_
        exact ih2 R7 x8 oR7 fR7 wCR7 (jv_w zx8.2 (by decide)) (g_cp1 (g := R 6) zq2_0 p5 ((g_ru1 hR7).trans (by rw [ex6, show R2 6 = R 6 from (fR2 6 rfl)])) (g_eq0 zx8.1)) (Nat.lt_of_lt_of_le (show (2147483647 - x8.toInt).toNat < (2147483647 - y1.toInt).toNat from by have q0 := (jv_k (x := 1) 1 (by decide)).1; have q1 := (jv_k (x := 1) 1 (by decide)).2; have q2 := (jv_k (x := 10) 10 (by decide)).1; have q3 := (jv_k (x := 10) 10 (by decide)).2; have q4 := zx8.2.1; have q5 := zx8.2.2; have q6 := p5.1; have q7 := p5.2; have q8 := (gc_nle zc3); have q9 := (g_eq0 zx8.1); omega) (Nat.le_of_lt_succ hm2))
  refine g_lsub [1, 2, 0] [(0, .ref (ad 6)), (1, .ref (ad 46)), (2, .int 0)] rfl ?_
  exact J2 _ R 0 hA (g_fr_rf R) hWC (jv_w (jv_k (x := 0) 0 (by decide)) (by decide)) (fun j hj => absurd hj (by have := Int.natCast_nonneg j; have e : (0 : Int32).toInt = 0 := rfl; omega)) (Nat.lt_succ_self _)
def md_X11_copies_r7_r47 : List Nat := []
def mr_X11_copies_r7_r47 : List Nat := [47]
set_option maxHeartbeats 4000000 in
set_option maxRecDepth 100000 in
theorem w_X11_copies_r7_r47 (l : Launch) (X : gX) (ad : Nat → Nat) (F : Nat → Int32) (R : Nat → Nat → Int32) (hI : g_ok LK_wM F) (hA : g_okR LA_wM R) (hWC : WC F R) : g_Cv l X yX11_copies cX11_copies 3 1 0 0 [.ref (ad 7), .ref (ad 47)] (wM X ad F R) (fun w => ∃ (F' : Nat → Int32) (R' : Nat → Nat → Int32), w = wM X ad F' R' ∧ g_ok LK_wM F' ∧ g_okR LA_wM R' ∧ WC F' R' ∧ g_fr md_X11_copies_r7_r47 F F' ∧ g_fr mr_X11_copies_r7_r47 R R' ∧ (∀ j : Nat, j < 10 → R' 47 j = R 7 j)) := by
  refine g_mv (by decide +kernel) (Nat.le_of_ble_eq_true rfl) (fun E cx hret => ?_)
  refine g_iconst cx 0 (by decide) e_X11_copies_0 ?_
  refine g_istore_n cx [(2, .int 0), (0, .ref (ad 7)), (1, .ref (ad 47))] e_X11_copies_1 (by decide) rfl ?_
  have J2 : ∀ (N : Nat) (R2 : Nat → Nat → Int32) (y1 : Int32), (g_okR LA_wM R2) → (g_fr mr_X11_copies_r7_r47 R R2) → (WC F R2) → (jv 0 10 y1) → (∀ j : Nat, (j : Int) < y1.toInt → R2 47 j = R 7 j) → (2147483647 - y1.toInt).toNat < N → G X E 3 0 0 (wM X ad F R2) [(0, .ref (ad 7)), (1, .ref (ad 47)), (2, .int y1)] 2 [] := by
    intro N
    induction N with
    | zero => intro R2 y1 oR2 fR2 wCR2 py1 zq2_0 hm; exact absurd hm (Nat.not_lt_zero _)
    | succ N ih2 =>
      intro R2 y1 oR2 fR2 wCR2 py1 zq2_0 hm2
      refine g_iload_n cx 2 rfl e_X11_copies_2 ?_
      refine g_bipush cx 10 (by decide) e_X11_copies_3 ?_
      refine g_icmp_ge cx 20 e_X11_copies_5 (by decide) (fun zc3 => ?_) (fun zc3 => ?_)
      · have p4 := gn_ge 10 10 (gc_le zc3) py1 (jv_k (x := 10) 10 (by decide)) (by decide)
        exact hret e_X11_copies_20 (Nat.le_of_ble_eq_true rfl) (Nat.le_of_ble_eq_true rfl) ⟨F, R2, rfl, hI, oR2, wCR2, (g_fr_rf F), fR2, (fun j hj => zq2_0 j (by have q := p4; unfold jv at q; omega))⟩
      · have p5 := gn_lt 0 9 (gc_nle zc3) py1 (jv_k (x := 10) 10 (by decide)) (by decide)
        refine g_aload_n cx 1 rfl e_X11_copies_8 ?_
        refine g_iload_n cx 2 rfl e_X11_copies_9 ?_
        refine g_aload_n cx 0 rfl e_X11_copies_10 ?_
        refine g_iload_n cx 2 rfl e_X11_copies_11 ?_
        refine g_iald cx 7 e_X11_copies_12 rfl (jv_ix 10 p5 (by decide)) ?_
        refine g_topi (fun x6 ex6 => ?_)
        refine g_iast cx 47 (wM X ad F (g_u R2 47 (upd (R2 47) (Int32.toNatClampNeg y1) x6))) e_X11_copies_13 rfl (jv_ix 10 p5 (by decide)) rfl ?_
        obtain ⟨R7, hR7⟩ : ∃ z, z = g_u R2 47 (upd (R2 47) (Int32.toNatClampNeg y1) x6) := ⟨_, rfl⟩
        rw [← hR7]
        have oR7 : g_okR LA_wM R7 := by rw [hR7]; exact g_okR_u oR2 rfl
        have fR7 : g_fr mr_X11_copies_r7_r47 R R7 := by rw [hR7]; exact g_fr_r fR2 rfl
        have wCR7 : WC F R7 := by rw [hR7]; exact WC_r wCR2 rfl
        obtain ⟨x8, ex8⟩ : ∃ z : Int32, z = y1 + Int32.ofInt 1 := ⟨_, rfl⟩
        refine g_iinc cx x8 [(2, .int x8), (0, .ref (ad 7)), (1, .ref (ad 47))] 2 e_X11_copies_14 rfl ex8.symm (by decide) rfl ?_
        have zx8 := jv_add 1 10 (show x8 = y1 + 1 from ex8) p5 (jv_k (x := 1) 1 (by decide)) (by decide)
        refine g_goto cx 2 e_X11_copies_17 (by decide) ?_
        refine g_lsub [1, 2, 0] [(0, .ref (ad 7)), (1, .ref (ad 47)), (2, .int x8)] rfl ?_
        exact ih2 R7 x8 oR7 fR7 wCR7 (jv_w zx8.2 (by decide)) (g_cp1 (g := R 7) zq2_0 p5 ((g_ru1 hR7).trans (by rw [ex6, show R2 7 = R 7 from (fR2 7 rfl)])) (g_eq0 zx8.1)) (Nat.lt_of_lt_of_le (show (2147483647 - x8.toInt).toNat < (2147483647 - y1.toInt).toNat from by have q0 := (jv_k (x := 1) 1 (by decide)).1; have q1 := (jv_k (x := 1) 1 (by decide)).2; have q2 := (jv_k (x := 10) 10 (by decide)).1; have q3 := (jv_k (x := 10) 10 (by decide)).2; have q4 := zx8.2.1; have q5 := zx8.2.2; have q6 := p5.1; have q7 := p5.2; have q8 := (gc_nle zc3); have q9 := (g_eq0 zx8.1); omega) (Nat.le_of_lt_succ hm2))
  refine g_lsub [1, 2, 0] [(0, .ref (ad 7)), (1, .ref (ad 47)), (2, .int 0)] rfl ?_
  exact J2 _ R 0 hA (g_fr_rf R) hWC (jv_w (jv_k (x := 0) 0 (by decide)) (by decide)) (fun j hj => absurd hj (by have := Int.natCast_nonneg j; have e : (0 : Int32).toInt = 0 := rfl; omega)) (Nat.lt_succ_self _)
def md_X11_copies_r8_r48 : List Nat := []
def mr_X11_copies_r8_r48 : List Nat := [48]
set_option maxHeartbeats 4000000 in
set_option maxRecDepth 100000 in
theorem w_X11_copies_r8_r48 (l : Launch) (X : gX) (ad : Nat → Nat) (F : Nat → Int32) (R : Nat → Nat → Int32) (hI : g_ok LK_wM F) (hA : g_okR LA_wM R) (hWC : WC F R) : g_Cv l X yX11_copies cX11_copies 3 1 0 0 [.ref (ad 8), .ref (ad 48)] (wM X ad F R) (fun w => ∃ (F' : Nat → Int32) (R' : Nat → Nat → Int32), w = wM X ad F' R' ∧ g_ok LK_wM F' ∧ g_okR LA_wM R' ∧ WC F' R' ∧ g_fr md_X11_copies_r8_r48 F F' ∧ g_fr mr_X11_copies_r8_r48 R R' ∧ (∀ j : Nat, j < 10 → R' 48 j = R 8 j)) := by
  refine g_mv (by decide +kernel) (Nat.le_of_ble_eq_true rfl) (fun E cx hret => ?_)
  refine g_iconst cx 0 (by decide) e_X11_copies_0 ?_
  refine g_istore_n cx [(2, .int 0), (0, .ref (ad 8)), (1, .ref (ad 48))] e_X11_copies_1 (by decide) rfl ?_
  have J2 : ∀ (N : Nat) (R2 : Nat → Nat → Int32) (y1 : Int32), (g_okR LA_wM R2) → (g_fr mr_X11_copies_r8_r48 R R2) → (WC F R2) → (jv 0 10 y1) → (∀ j : Nat, (j : Int) < y1.toInt → R2 48 j = R 8 j) → (2147483647 - y1.toInt).toNat < N → G X E 3 0 0 (wM X ad F R2) [(0, .ref (ad 8)), (1, .ref (ad 48)), (2, .int y1)] 2 [] := by
    intro N
    induction N with
    | zero => intro R2 y1 oR2 fR2 wCR2 py1 zq2_0 hm; exact absurd hm (Nat.not_lt_zero _)
    | succ N ih2 =>
      intro R2 y1 oR2 fR2 wCR2 py1 zq2_0 hm2
      refine g_iload_n cx 2 rfl e_X11_copies_2 ?_
      refine g_bipush cx 10 (by decide) e_X11_copies_3 ?_
      refine g_icmp_ge cx 20 e_X11_copies_5 (by decide) (fun zc3 => ?_) (fun zc3 => ?_)
      · have p4 := gn_ge 10 10 (gc_le zc3) py1 (jv_k (x := 10) 10 (by decide)) (by decide)
        exact hret e_X11_copies_20 (Nat.le_of_ble_eq_true rfl) (Nat.le_of_ble_eq_true rfl) ⟨F, R2, rfl, hI, oR2, wCR2, (g_fr_rf F), fR2, (fun j hj => zq2_0 j (by have q := p4; unfold jv at q; omega))⟩
      · have p5 := gn_lt 0 9 (gc_nle zc3) py1 (jv_k (x := 10) 10 (by decide)) (by decide)
        refine g_aload_n cx 1 rfl e_X11_copies_8 ?_
        refine g_iload_n cx 2 rfl e_X11_copies_9 ?_
        refine g_aload_n cx 0 rfl e_X11_copies_10 ?_
        refine g_iload_n cx 2 rfl e_X11_copies_11 ?_
        refine g_iald cx 8 e_X11_copies_12 rfl (jv_ix 10 p5 (by decide)) ?_
        refine g_topi (fun x6 ex6 => ?_)
        refine g_iast cx 48 (wM X ad F (g_u R2 48 (upd (R2 48) (Int32.toNatClampNeg y1) x6))) e_X11_copies_13 rfl (jv_ix 10 p5 (by decide)) rfl ?_
        obtain ⟨R7, hR7⟩ : ∃ z, z = g_u R2 48 (upd (R2 48) (Int32.toNatClampNeg y1) x6) := ⟨_, rfl⟩
        rw [← hR7]
        have oR7 : g_okR LA_wM R7 := by rw [hR7]; exact g_okR_u oR2 rfl
        have fR7 : g_fr mr_X11_copies_r8_r48 R R7 := by rw [hR7]; exact g_fr_r fR2 rfl
        have wCR7 : WC F R7 := by rw [hR7]; exact WC_r wCR2 rfl
        obtain ⟨x8, ex8⟩ : ∃ z : Int32, z = y1 + Int32.ofInt 1 := ⟨_, rfl⟩
        refine g_iinc cx x8 [(2, .int x8), (0, .ref (ad 8)), (1, .ref (ad 48))] 2 e_X11_copies_14 rfl ex8.symm (by decide) rfl ?_
        have zx8 := jv_add 1 10 (show x8 = y1 + 1 from ex8) p5 (jv_k (x := 1) 1 (by decide)) (by decide)
        refine g_goto cx 2 e_X11_copies_17 (by decide) ?_
        refine g_lsub [1, 2, 0] [(0, .ref (ad 8)), (1, .ref (ad 48)), (2, .int x8)] rfl ?_
        exact ih2 R7 x8 oR7 fR7 wCR7 (jv_w zx8.2 (by decide)) (g_cp1 (g := R 8) zq2_0 p5 ((g_ru1 hR7).trans (by rw [ex6, show R2 8 = R 8 from (fR2 8 rfl)])) (g_eq0 zx8.1)) (Nat.lt_of_lt_of_le (show (2147483647 - x8.toInt).toNat < (2147483647 - y1.toInt).toNat from by have q0 := (jv_k (x := 1) 1 (by decide)).1; have q1 := (jv_k (x := 1) 1 (by decide)).2; have q2 := (jv_k (x := 10) 10 (by decide)).1; have q3 := (jv_k (x := 10) 10 (by decide)).2; have q4 := zx8.2.1; have q5 := zx8.2.2; have q6 := p5.1; have q7 := p5.2; have q8 := (gc_nle zc3); have q9 := (g_eq0 zx8.1); omega) (Nat.le_of_lt_succ hm2))
  refine g_lsub [1, 2, 0] [(0, .ref (ad 8)), (1, .ref (ad 48)), (2, .int 0)] rfl ?_
  exact J2 _ R 0 hA (g_fr_rf R) hWC (jv_w (jv_k (x := 0) 0 (by decide)) (by decide)) (fun j hj => absurd hj (by have := Int.natCast_nonneg j; have e : (0 : Int32).toInt = 0 := rfl; omega)) (Nat.lt_succ_self _)
theorem e_X11_bits_0 : g_dc cX11_bits 0 (.iconst 0) 1 1 := ⟨by decide +kernel, rfl⟩
theorem e_X11_bits_1 : g_dc cX11_bits 1 (.istore_n 1) 1 2 := ⟨by decide +kernel, rfl⟩
theorem e_X11_bits_2 : g_dc cX11_bits 2 (.iconst 0) 1 3 := ⟨by decide +kernel, rfl⟩
theorem e_X11_bits_3 : g_dc cX11_bits 3 (.istore_n 2) 1 4 := ⟨by decide +kernel, rfl⟩
theorem e_X11_bits_4 : g_dc cX11_bits 4 (.iload_n 2) 1 5 := ⟨by decide +kernel, rfl⟩
theorem e_X11_bits_5 : g_dc cX11_bits 5 (.bipush 10) 2 7 := ⟨by decide +kernel, rfl⟩
theorem e_X11_bits_7 : g_dc cX11_bits 7 (.if_icmp .ge 17) 3 10 := ⟨by decide +kernel, rfl⟩
theorem e_X11_bits_10 : g_dc cX11_bits 10 (.iload_n 1) 1 11 := ⟨by decide +kernel, rfl⟩
theorem e_X11_bits_11 : g_dc cX11_bits 11 (.iload_n 0) 1 12 := ⟨by decide +kernel, rfl⟩
theorem e_X11_bits_12 : g_dc cX11_bits 12 (.iload_n 2) 1 13 := ⟨by decide +kernel, rfl⟩
theorem e_X11_bits_13 : g_dc cX11_bits 13 (.ishr) 1 14 := ⟨by decide +kernel, rfl⟩
theorem e_X11_bits_14 : g_dc cX11_bits 14 (.iconst 1) 1 15 := ⟨by decide +kernel, rfl⟩
theorem e_X11_bits_15 : g_dc cX11_bits 15 (.iand) 1 16 := ⟨by decide +kernel, rfl⟩
theorem e_X11_bits_16 : g_dc cX11_bits 16 (.iadd) 1 17 := ⟨by decide +kernel, rfl⟩
theorem e_X11_bits_17 : g_dc cX11_bits 17 (.istore_n 1) 1 18 := ⟨by decide +kernel, rfl⟩
theorem e_X11_bits_18 : g_dc cX11_bits 18 (.iinc 2 1) 3 21 := ⟨by decide +kernel, rfl⟩
theorem e_X11_bits_21 : g_dc cX11_bits 21 (.goto (-17)) 3 24 := ⟨by decide +kernel, rfl⟩
theorem e_X11_bits_24 : g_dc cX11_bits 24 (.iload_n 1) 1 25 := ⟨by decide +kernel, rfl⟩
theorem e_X11_bits_25 : g_dc cX11_bits 25 (.ireturn) 1 26 := ⟨by decide +kernel, rfl⟩
set_option maxHeartbeats 4000000 in
set_option maxRecDepth 100000 in
theorem w_X11_bits (l : Launch) (X : gX) (ad : Nat → Nat) (F : Nat → Int32) (R : Nat → Nat → Int32) (hI : g_ok LK_wM F) (hA : g_okR LA_wM R) (a0 : Int32) : g_Ci l X yX11_bits cX11_bits 3 (some .int) 1 0 0 [.int a0] (wM X ad F R) (fun r w => w = wM X ad F R ∧ jv 0 10 r) := by
  refine g_mi (by decide +kernel) (Nat.le_of_ble_eq_true rfl) (fun E cx hret => ?_)
  refine g_iconst cx 0 (by decide) e_X11_bits_0 ?_
  refine g_istore_n cx [(1, .int 0), (0, .int a0)] e_X11_bits_1 (by decide) rfl ?_
  refine g_iconst cx 0 (by decide) e_X11_bits_2 ?_
  refine g_istore_n cx [(2, .int 0), (1, .int 0), (0, .int a0)] e_X11_bits_3 (by decide) rfl ?_
  have J4 : ∀ (N : Nat) (y1 : Int32) (y2 : Int32), (jv 0 11 y1) → (jv 0 10 y2) → (0 ≤ y1.toInt ∧ y1.toInt ≤ y2.toInt) → (2147483647 - y2.toInt).toNat < N → G X E 3 0 0 (wM X ad F R) [(0, .int a0), (1, .int y1), (2, .int y2)] 4 [] := by
    intro N
    induction N with
    | zero => intro y1 y2 py1 py2 zi4_0 hm; exact absurd hm (Nat.not_lt_zero _)
    | succ N ih4 =>
      intro y1 y2 py1 py2 zi4_0 hm4
      have p3 : jv 0 10 y1 := ⟨by have q0 := py1.1; have q1 := py1.2; have q2 := py2.1; have q3 := py2.2; have q4 := zi4_0; omega, by have q0 := py1.1; have q1 := py1.2; have q2 := py2.1; have q3 := py2.2; have q4 := zi4_0; omega⟩
      refine g_iload_n cx 2 rfl e_X11_bits_4 ?_
      refine g_bipush cx 10 (by decide) e_X11_bits_5 ?_
      refine g_icmp_ge cx 24 e_X11_bits_7 (by decide) (fun zc4 => ?_) (fun zc4 => ?_)
      · have p5 := gn_ge 10 10 (gc_le zc4) py2 (jv_k (x := 10) 10 (by decide)) (by decide)
        refine g_iload_n cx 1 rfl e_X11_bits_24 ?_
        exact hret e_X11_bits_25 (Nat.le_of_ble_eq_true rfl) (Nat.le_of_ble_eq_true rfl) rfl ⟨rfl, p3⟩
      · have p6 := gn_lt 0 9 (gc_nle zc4) py2 (jv_k (x := 10) 10 (by decide)) (by decide)
        refine g_iload_n cx 1 rfl e_X11_bits_10 ?_
        refine g_iload_n cx 0 rfl e_X11_bits_11 ?_
        refine g_iload_n cx 2 rfl e_X11_bits_12 ?_
        refine g_ishr cx e_X11_bits_13 ?_
        refine g_topi (fun x7 ex7 => ?_)
        refine g_iconst cx 1 (by decide) e_X11_bits_14 ?_
        refine g_iand cx e_X11_bits_15 ?_
        refine g_topi (fun x8 ex8 => ?_)
        have px8 := jv_and 0 1 ex8 (jv_k (x := 1) 1 (by decide)) (by decide)
        refine g_iadd cx e_X11_bits_16 ?_
        refine g_topi (fun x9 ex9 => ?_)
        have zx9 := jv_add 0 11 ex9 p3 px8 (by decide)
        refine g_istore_n cx [(1, .int x9), (0, .int a0), (2, .int y2)] e_X11_bits_17 (by decide) rfl ?_
        obtain ⟨x10, ex10⟩ : ∃ z : Int32, z = y2 + Int32.ofInt 1 := ⟨_, rfl⟩
        refine g_iinc cx x10 [(2, .int x10), (1, .int x9), (0, .int a0)] 2 e_X11_bits_18 rfl ex10.symm (by decide) rfl ?_
        have zx10 := jv_add 1 10 (show x10 = y2 + 1 from ex10) p6 (jv_k (x := 1) 1 (by decide)) (by decide)
        refine g_goto cx 4 e_X11_bits_21 (by decide) ?_
        refine g_lsub [2, 1, 0] [(0, .int a0), (1, .int x9), (2, .int x10)] rfl ?_
        exact ih4 x9 x10 zx9.2 (jv_w zx10.2 (by decide)) (by have q0 := (jv_k (x := 1) 1 (by decide)).1; have q1 := (jv_k (x := 1) 1 (by decide)).2; have q2 := (jv_k (x := 10) 10 (by decide)).1; have q3 := (jv_k (x := 10) 10 (by decide)).2; have q4 := zx10.2.1; have q5 := zx10.2.2; have q6 := px8.1; have q7 := px8.2; have q8 := zx9.2.1; have q9 := zx9.2.2; have q10 := p3.1; have q11 := p3.2; have q12 := p6.1; have q13 := p6.2; have q14 := zi4_0; have q15 := (gc_nle zc4); have q16 := (g_eq0 zx9.1); have q17 := (g_eq0 zx10.1); omega) (Nat.lt_of_lt_of_le (show (2147483647 - x10.toInt).toNat < (2147483647 - y2.toInt).toNat from by have q0 := (jv_k (x := 1) 1 (by decide)).1; have q1 := (jv_k (x := 1) 1 (by decide)).2; have q2 := (jv_k (x := 10) 10 (by decide)).1; have q3 := (jv_k (x := 10) 10 (by decide)).2; have q4 := zx10.2.1; have q5 := zx10.2.2; have q6 := px8.1; have q7 := px8.2; have q8 := zx9.2.1; have q9 := zx9.2.2; have q10 := p3.1; have q11 := p3.2; have q12 := p6.1; have q13 := p6.2; have q14 := zi4_0; have q15 := (gc_nle zc4); have q16 := (g_eq0 zx9.1); have q17 := (g_eq0 zx10.1); omega) (Nat.le_of_lt_succ hm4))
  refine g_lsub [2, 1, 0] [(0, .int a0), (1, .int 0), (2, .int 0)] rfl ?_
  exact J4 _ 0 0 (jv_w (jv_k (x := 0) 0 (by decide)) (by decide)) (jv_w (jv_k (x := 0) 0 (by decide)) (by decide)) (by have q0 := (jv_k (x := 0) 0 (by decide)).1; have q1 := (jv_k (x := 0) 0 (by decide)).2; omega) (Nat.lt_succ_self _)
theorem e_X11_keep_0 : g_dc cX11_keep 0 (.aload_n 0) 1 1 := ⟨by decide +kernel, rfl⟩
theorem e_X11_keep_1 : g_dc cX11_keep 1 (.iconst 1) 1 2 := ⟨by decide +kernel, rfl⟩
theorem e_X11_keep_2 : g_dc cX11_keep 2 (.putfield 491) 3 5 := ⟨by decide +kernel, rfl⟩
theorem e_X11_keep_5 : g_dc cX11_keep 5 (.aload_n 0) 1 6 := ⟨by decide +kernel, rfl⟩
theorem e_X11_keep_6 : g_dc cX11_keep 6 (.aload_n 0) 1 7 := ⟨by decide +kernel, rfl⟩
theorem e_X11_keep_7 : g_dc cX11_keep 7 (.getfield 155) 3 10 := ⟨by decide +kernel, rfl⟩
theorem e_X11_keep_10 : g_dc cX11_keep 10 (.putfield 494) 3 13 := ⟨by decide +kernel, rfl⟩
theorem e_X11_keep_13 : g_dc cX11_keep 13 (.aload_n 0) 1 14 := ⟨by decide +kernel, rfl⟩
theorem e_X11_keep_14 : g_dc cX11_keep 14 (.aload_n 0) 1 15 := ⟨by decide +kernel, rfl⟩
theorem e_X11_keep_15 : g_dc cX11_keep 15 (.getfield 159) 3 18 := ⟨by decide +kernel, rfl⟩
theorem e_X11_keep_18 : g_dc cX11_keep 18 (.putfield 497) 3 21 := ⟨by decide +kernel, rfl⟩
theorem e_X11_keep_21 : g_dc cX11_keep 21 (.aload_n 0) 1 22 := ⟨by decide +kernel, rfl⟩
theorem e_X11_keep_22 : g_dc cX11_keep 22 (.aload_n 0) 1 23 := ⟨by decide +kernel, rfl⟩
theorem e_X11_keep_23 : g_dc cX11_keep 23 (.getfield 169) 3 26 := ⟨by decide +kernel, rfl⟩
theorem e_X11_keep_26 : g_dc cX11_keep 26 (.putfield 500) 3 29 := ⟨by decide +kernel, rfl⟩
theorem e_X11_keep_29 : g_dc cX11_keep 29 (.aload_n 0) 1 30 := ⟨by decide +kernel, rfl⟩
theorem e_X11_keep_30 : g_dc cX11_keep 30 (.aload_n 0) 1 31 := ⟨by decide +kernel, rfl⟩
theorem e_X11_keep_31 : g_dc cX11_keep 31 (.getfield 162) 3 34 := ⟨by decide +kernel, rfl⟩
theorem e_X11_keep_34 : g_dc cX11_keep 34 (.putfield 503) 3 37 := ⟨by decide +kernel, rfl⟩
theorem e_X11_keep_37 : g_dc cX11_keep 37 (.aload_n 0) 1 38 := ⟨by decide +kernel, rfl⟩
theorem e_X11_keep_38 : g_dc cX11_keep 38 (.aload_n 0) 1 39 := ⟨by decide +kernel, rfl⟩
theorem e_X11_keep_39 : g_dc cX11_keep 39 (.getfield 172) 3 42 := ⟨by decide +kernel, rfl⟩
theorem e_X11_keep_42 : g_dc cX11_keep 42 (.putfield 506) 3 45 := ⟨by decide +kernel, rfl⟩
theorem e_X11_keep_45 : g_dc cX11_keep 45 (.aload_n 0) 1 46 := ⟨by decide +kernel, rfl⟩
theorem e_X11_keep_46 : g_dc cX11_keep 46 (.getfield 7) 3 49 := ⟨by decide +kernel, rfl⟩
theorem e_X11_keep_49 : g_dc cX11_keep 49 (.aload_n 0) 1 50 := ⟨by decide +kernel, rfl⟩
theorem e_X11_keep_50 : g_dc cX11_keep 50 (.getfield 131) 3 53 := ⟨by decide +kernel, rfl⟩
theorem e_X11_keep_53 : g_dc cX11_keep 53 (.invokestatic 509) 3 56 := ⟨by decide +kernel, rfl⟩
theorem e_X11_keep_56 : g_dc cX11_keep 56 (.aload_n 0) 1 57 := ⟨by decide +kernel, rfl⟩
theorem e_X11_keep_57 : g_dc cX11_keep 57 (.getfield 13) 3 60 := ⟨by decide +kernel, rfl⟩
theorem e_X11_keep_60 : g_dc cX11_keep 60 (.aload_n 0) 1 61 := ⟨by decide +kernel, rfl⟩
theorem e_X11_keep_61 : g_dc cX11_keep 61 (.getfield 134) 3 64 := ⟨by decide +kernel, rfl⟩
theorem e_X11_keep_64 : g_dc cX11_keep 64 (.invokestatic 509) 3 67 := ⟨by decide +kernel, rfl⟩
theorem e_X11_keep_67 : g_dc cX11_keep 67 (.aload_n 0) 1 68 := ⟨by decide +kernel, rfl⟩
theorem e_X11_keep_68 : g_dc cX11_keep 68 (.getfield 16) 3 71 := ⟨by decide +kernel, rfl⟩
theorem e_X11_keep_71 : g_dc cX11_keep 71 (.aload_n 0) 1 72 := ⟨by decide +kernel, rfl⟩
theorem e_X11_keep_72 : g_dc cX11_keep 72 (.getfield 137) 3 75 := ⟨by decide +kernel, rfl⟩
theorem e_X11_keep_75 : g_dc cX11_keep 75 (.invokestatic 509) 3 78 := ⟨by decide +kernel, rfl⟩
theorem e_X11_keep_78 : g_dc cX11_keep 78 (.aload_n 0) 1 79 := ⟨by decide +kernel, rfl⟩
theorem e_X11_keep_79 : g_dc cX11_keep 79 (.getfield 19) 3 82 := ⟨by decide +kernel, rfl⟩
theorem e_X11_keep_82 : g_dc cX11_keep 82 (.aload_n 0) 1 83 := ⟨by decide +kernel, rfl⟩
theorem e_X11_keep_83 : g_dc cX11_keep 83 (.getfield 140) 3 86 := ⟨by decide +kernel, rfl⟩
theorem e_X11_keep_86 : g_dc cX11_keep 86 (.invokestatic 509) 3 89 := ⟨by decide +kernel, rfl⟩
theorem e_X11_keep_89 : g_dc cX11_keep 89 (.aload_n 0) 1 90 := ⟨by decide +kernel, rfl⟩
theorem e_X11_keep_90 : g_dc cX11_keep 90 (.getfield 22) 3 93 := ⟨by decide +kernel, rfl⟩
theorem e_X11_keep_93 : g_dc cX11_keep 93 (.aload_n 0) 1 94 := ⟨by decide +kernel, rfl⟩
theorem e_X11_keep_94 : g_dc cX11_keep 94 (.getfield 143) 3 97 := ⟨by decide +kernel, rfl⟩
theorem e_X11_keep_97 : g_dc cX11_keep 97 (.invokestatic 509) 3 100 := ⟨by decide +kernel, rfl⟩
theorem e_X11_keep_100 : g_dc cX11_keep 100 (.aload_n 0) 1 101 := ⟨by decide +kernel, rfl⟩
theorem e_X11_keep_101 : g_dc cX11_keep 101 (.getfield 25) 3 104 := ⟨by decide +kernel, rfl⟩
theorem e_X11_keep_104 : g_dc cX11_keep 104 (.aload_n 0) 1 105 := ⟨by decide +kernel, rfl⟩
theorem e_X11_keep_105 : g_dc cX11_keep 105 (.getfield 146) 3 108 := ⟨by decide +kernel, rfl⟩
theorem e_X11_keep_108 : g_dc cX11_keep 108 (.invokestatic 509) 3 111 := ⟨by decide +kernel, rfl⟩
theorem e_X11_keep_111 : g_dc cX11_keep 111 (.aload_n 0) 1 112 := ⟨by decide +kernel, rfl⟩
theorem e_X11_keep_112 : g_dc cX11_keep 112 (.getfield 28) 3 115 := ⟨by decide +kernel, rfl⟩
theorem e_X11_keep_115 : g_dc cX11_keep 115 (.aload_n 0) 1 116 := ⟨by decide +kernel, rfl⟩
theorem e_X11_keep_116 : g_dc cX11_keep 116 (.getfield 149) 3 119 := ⟨by decide +kernel, rfl⟩
theorem e_X11_keep_119 : g_dc cX11_keep 119 (.invokestatic 509) 3 122 := ⟨by decide +kernel, rfl⟩
theorem e_X11_keep_122 : g_dc cX11_keep 122 (.aload_n 0) 1 123 := ⟨by decide +kernel, rfl⟩
theorem e_X11_keep_123 : g_dc cX11_keep 123 (.getfield 31) 3 126 := ⟨by decide +kernel, rfl⟩
theorem e_X11_keep_126 : g_dc cX11_keep 126 (.aload_n 0) 1 127 := ⟨by decide +kernel, rfl⟩
theorem e_X11_keep_127 : g_dc cX11_keep 127 (.getfield 152) 3 130 := ⟨by decide +kernel, rfl⟩
theorem e_X11_keep_130 : g_dc cX11_keep 130 (.invokestatic 509) 3 133 := ⟨by decide +kernel, rfl⟩
theorem e_X11_keep_133 : g_dc cX11_keep 133 (.aload_n 0) 1 134 := ⟨by decide +kernel, rfl⟩
theorem e_X11_keep_134 : g_dc cX11_keep 134 (.getfield 172) 3 137 := ⟨by decide +kernel, rfl⟩
theorem e_X11_keep_137 : g_dc cX11_keep 137 (.invokestatic 410) 3 140 := ⟨by decide +kernel, rfl⟩
theorem e_X11_keep_140 : g_dc cX11_keep 140 (.ireturn) 1 141 := ⟨by decide +kernel, rfl⟩
def md_X11_keep : List Nat := [77, 78, 79, 80, 81, 82]
def mr_X11_keep : List Nat := [41, 42, 43, 44, 45, 46, 47, 48]
set_option maxHeartbeats 4000000 in
set_option maxRecDepth 100000 in
theorem w_X11_keep (l : Launch) (X : gX) (ad : Nat → Nat) (F : Nat → Int32) (R : Nat → Nat → Int32) (hI : g_ok LK_wM F) (hA : g_okR LA_wM R) (hWT : WT F R) (hWC : WC F R) : g_Ci l X yX11_keep cX11_keep 1 (some .int) 2 0 0 [.ref (ad 0)] (wM X ad F R) (fun r w => ∃ (F' : Nat → Int32) (R' : Nat → Nat → Int32), w = wM X ad F' R' ∧ g_ok LK_wM F' ∧ g_okR LA_wM R' ∧ WT F' R' ∧ WC F' R' ∧ g_fr md_X11_keep F F' ∧ g_fr mr_X11_keep R R' ∧ jv 0 10 r) := by
  refine g_mi (by decide +kernel) (Nat.le_of_ble_eq_true rfl) (fun E cx hret => ?_)
  refine g_aload_n cx 0 rfl e_X11_keep_0 ?_
  refine g_iconst cx 1 (by decide) e_X11_keep_1 ?_
  refine g_put cx cl_X11 fl_X11_491 0 (wM X ad (upd F 77 1) R) e_X11_keep_2 rfl rfl rfl rfl (Nat.le_of_ble_eq_true rfl) rfl ?_
  obtain ⟨F1, hF1⟩ : ∃ z, z = upd F 77 1 := ⟨_, rfl⟩
  rw [← hF1]
  have oF1 : g_ok LK_wM F1 := by rw [hF1]; exact g_ok_p hI (jv_k (x := 1) 1 (by decide)) rfl
  have fF1 : g_fr md_X11_keep F F1 := by rw [hF1]; exact g_fr_u (g_fr_rf F) rfl
  have wTF1 : WT F1 R := by rw [hF1]; exact WT_u hWT rfl
  have wCF1 : WC F1 R := by rw [hF1]; exact WC_u hWC rfl
  refine g_aload_n cx 0 rfl e_X11_keep_5 ?_
  refine g_aload_n cx 0 rfl e_X11_keep_6 ?_
  refine g_get cx cl_X11 fl_X11_155 0 (.int (F1 0)) e_X11_keep_7 rfl rfl ?_
  refine g_toi (F 0) (g_pu2 hF1 rfl) ?_
  refine g_put cx cl_X11 fl_X11_494 0 (wM X ad (upd F1 78 (F 0)) R) e_X11_keep_10 rfl rfl rfl rfl (Nat.le_of_ble_eq_true rfl) rfl ?_
  obtain ⟨F2, hF2⟩ : ∃ z, z = upd F1 78 (F 0) := ⟨_, rfl⟩
  rw [← hF2]
  have oF2 : g_ok LK_wM F2 := by rw [hF2]; exact g_ok_u oF1 rfl
  have fF2 : g_fr md_X11_keep F F2 := by rw [hF2]; exact g_fr_u fF1 rfl
  have wTF2 : WT F2 R := by rw [hF2]; exact WT_u wTF1 rfl
  have wCF2 : WC F2 R := by rw [hF2]; exact WC_u wCF1 rfl
  refine g_aload_n cx 0 rfl e_X11_keep_13 ?_
  refine g_aload_n cx 0 rfl e_X11_keep_14 ?_
  refine g_get cx cl_X11 fl_X11_159 0 (.int (F2 1)) e_X11_keep_15 rfl rfl ?_
  refine g_toi (F 1) ((g_pu2 hF2 rfl).trans (g_pu2 hF1 rfl)) ?_
  refine g_put cx cl_X11 fl_X11_497 0 (wM X ad (upd F2 79 (F 1)) R) e_X11_keep_18 rfl rfl rfl rfl (Nat.le_of_ble_eq_true rfl) rfl ?_
  obtain ⟨F3, hF3⟩ : ∃ z, z = upd F2 79 (F 1) := ⟨_, rfl⟩
  rw [← hF3]
  have oF3 : g_ok LK_wM F3 := by rw [hF3]; exact g_ok_u oF2 rfl
  have fF3 : g_fr md_X11_keep F F3 := by rw [hF3]; exact g_fr_u fF2 rfl
  have wTF3 : WT F3 R := by rw [hF3]; exact WT_u wTF2 rfl
  have wCF3 : WC F3 R := by rw [hF3]; exact WC_u wCF2 rfl
  refine g_aload_n cx 0 rfl e_X11_keep_21 ?_
  refine g_aload_n cx 0 rfl e_X11_keep_22 ?_
  refine g_get cx cl_X11 fl_X11_169 0 (.int (F3 2)) e_X11_keep_23 rfl rfl ?_
  refine g_toi (F 2) (((g_pu2 hF3 rfl).trans (g_pu2 hF2 rfl)).trans (g_pu2 hF1 rfl)) ?_
  refine g_put cx cl_X11 fl_X11_500 0 (wM X ad (upd F3 80 (F 2)) R) e_X11_keep_26 rfl rfl rfl rfl (Nat.le_of_ble_eq_true rfl) rfl ?_
  obtain ⟨F4, hF4⟩ : ∃ z, z = upd F3 80 (F 2) := ⟨_, rfl⟩
  rw [← hF4]
  have oF4 : g_ok LK_wM F4 := by rw [hF4]; exact g_ok_u oF3 rfl
  have fF4 : g_fr md_X11_keep F F4 := by rw [hF4]; exact g_fr_u fF3 rfl
  have wTF4 : WT F4 R := by rw [hF4]; exact WT_u wTF3 rfl
  have wCF4 : WC F4 R := by rw [hF4]; exact WC_u wCF3 rfl
  refine g_aload_n cx 0 rfl e_X11_keep_29 ?_
  refine g_aload_n cx 0 rfl e_X11_keep_30 ?_
  refine g_get cx cl_X11 fl_X11_162 0 (.int (F4 3)) e_X11_keep_31 rfl rfl ?_
  refine g_toi (F 3) ((((g_pu2 hF4 rfl).trans (g_pu2 hF3 rfl)).trans (g_pu2 hF2 rfl)).trans (g_pu2 hF1 rfl)) ?_
  refine g_put cx cl_X11 fl_X11_503 0 (wM X ad (upd F4 81 (F 3)) R) e_X11_keep_34 rfl rfl rfl rfl (Nat.le_of_ble_eq_true rfl) rfl ?_
  obtain ⟨F5, hF5⟩ : ∃ z, z = upd F4 81 (F 3) := ⟨_, rfl⟩
  rw [← hF5]
  have oF5 : g_ok LK_wM F5 := by rw [hF5]; exact g_ok_u oF4 rfl
  have fF5 : g_fr md_X11_keep F F5 := by rw [hF5]; exact g_fr_u fF4 rfl
  have wTF5 : WT F5 R := by rw [hF5]; exact WT_u wTF4 rfl
  have wCF5 : WC F5 R := by rw [hF5]; exact WC_u wCF4 rfl
  refine g_aload_n cx 0 rfl e_X11_keep_37 ?_
  refine g_aload_n cx 0 rfl e_X11_keep_38 ?_
  refine g_get cx cl_X11 fl_X11_172 0 (.int (F5 4)) e_X11_keep_39 rfl rfl ?_
  refine g_toi (F 4) (((((g_pu2 hF5 rfl).trans (g_pu2 hF4 rfl)).trans (g_pu2 hF3 rfl)).trans (g_pu2 hF2 rfl)).trans (g_pu2 hF1 rfl)) ?_
  refine g_put cx cl_X11 fl_X11_506 0 (wM X ad (upd F5 82 (F 4)) R) e_X11_keep_42 rfl rfl rfl rfl (Nat.le_of_ble_eq_true rfl) rfl ?_
  obtain ⟨F6, hF6⟩ : ∃ z, z = upd F5 82 (F 4) := ⟨_, rfl⟩
  rw [← hF6]
  have oF6 : g_ok LK_wM F6 := by rw [hF6]; exact g_ok_u oF5 rfl
  have fF6 : g_fr md_X11_keep F F6 := by rw [hF6]; exact g_fr_u fF5 rfl
  have wCF6 : WC F6 R := by rw [hF6]; exact WC_u wCF5 rfl
  refine g_aload_n cx 0 rfl e_X11_keep_45 ?_
  refine g_get cx cl_X11 fl_X11_7 0 (.ref (ad 1)) e_X11_keep_46 rfl rfl ?_
  refine g_aload_n cx 0 rfl e_X11_keep_49 ?_
  refine g_get cx cl_X11 fl_X11_131 0 (.ref (ad 41)) e_X11_keep_50 rfl rfl ?_
  refine g_cSvW cx [.ref (ad 1), .ref (ad 41)] [] (w_X11_copies_r1_r41 l X ad F6 R oF6 hA wCF6) ml_X11_509 yS_X11_copies rfl e_X11_keep_53 (by unfold g_rr; decide) (by decide) rfl (Nat.le_of_ble_eq_true rfl) (fun w8 h9 => ?_)
  obtain ⟨F11, R12, rfl, oF11, oR12, wCF11, cF11, cR12, zx10⟩ := h9
  have fF11 : g_fr md_X11_keep F F11 := g_fr_c fF6 cF11 rfl
  have fR12 : g_fr mr_X11_keep R R12 := g_fr_c (g_fr_rf R) cR12 rfl
  refine g_aload_n cx 0 rfl e_X11_keep_56 ?_
  refine g_get cx cl_X11 fl_X11_13 0 (.ref (ad 2)) e_X11_keep_57 rfl rfl ?_
  refine g_aload_n cx 0 rfl e_X11_keep_60 ?_
  refine g_get cx cl_X11 fl_X11_134 0 (.ref (ad 42)) e_X11_keep_61 rfl rfl ?_
  refine g_cSvW cx [.ref (ad 2), .ref (ad 42)] [] (w_X11_copies_r2_r42 l X ad F11 R12 oF11 oR12 wCF11) ml_X11_509 yS_X11_copies rfl e_X11_keep_64 (by unfold g_rr; decide) (by decide) rfl (Nat.le_of_ble_eq_true rfl) (fun w14 h15 => ?_)
  obtain ⟨F17, R18, rfl, oF17, oR18, wCF17, cF17, cR18, zx16⟩ := h15
  have fF17 : g_fr md_X11_keep F F17 := g_fr_c fF11 cF17 rfl
  have fR18 : g_fr mr_X11_keep R R18 := g_fr_c fR12 cR18 rfl
  refine g_aload_n cx 0 rfl e_X11_keep_67 ?_
  refine g_get cx cl_X11 fl_X11_16 0 (.ref (ad 3)) e_X11_keep_68 rfl rfl ?_
  refine g_aload_n cx 0 rfl e_X11_keep_71 ?_
  refine g_get cx cl_X11 fl_X11_137 0 (.ref (ad 43)) e_X11_keep_72 rfl rfl ?_
  refine g_cSvW cx [.ref (ad 3), .ref (ad 43)] [] (w_X11_copies_r3_r43 l X ad F17 R18 oF17 oR18 wCF17) ml_X11_509 yS_X11_copies rfl e_X11_keep_75 (by unfold g_rr; decide) (by decide) rfl (Nat.le_of_ble_eq_true rfl) (fun w20 h21 => ?_)
  obtain ⟨F23, R24, rfl, oF23, oR24, wCF23, cF23, cR24, zx22⟩ := h21
  have fF23 : g_fr md_X11_keep F F23 := g_fr_c fF17 cF23 rfl
  have fR24 : g_fr mr_X11_keep R R24 := g_fr_c fR18 cR24 rfl
  refine g_aload_n cx 0 rfl e_X11_keep_78 ?_
  refine g_get cx cl_X11 fl_X11_19 0 (.ref (ad 4)) e_X11_keep_79 rfl rfl ?_
  refine g_aload_n cx 0 rfl e_X11_keep_82 ?_
  refine g_get cx cl_X11 fl_X11_140 0 (.ref (ad 44)) e_X11_keep_83 rfl rfl ?_
  refine g_cSvW cx [.ref (ad 4), .ref (ad 44)] [] (w_X11_copies_r4_r44 l X ad F23 R24 oF23 oR24 wCF23) ml_X11_509 yS_X11_copies rfl e_X11_keep_86 (by unfold g_rr; decide) (by decide) rfl (Nat.le_of_ble_eq_true rfl) (fun w26 h27 => ?_)
  obtain ⟨F29, R30, rfl, oF29, oR30, wCF29, cF29, cR30, zx28⟩ := h27
  have fF29 : g_fr md_X11_keep F F29 := g_fr_c fF23 cF29 rfl
  have fR30 : g_fr mr_X11_keep R R30 := g_fr_c fR24 cR30 rfl
  refine g_aload_n cx 0 rfl e_X11_keep_89 ?_
  refine g_get cx cl_X11 fl_X11_22 0 (.ref (ad 5)) e_X11_keep_90 rfl rfl ?_
  refine g_aload_n cx 0 rfl e_X11_keep_93 ?_
  refine g_get cx cl_X11 fl_X11_143 0 (.ref (ad 45)) e_X11_keep_94 rfl rfl ?_
  refine g_cSvW cx [.ref (ad 5), .ref (ad 45)] [] (w_X11_copies_r5_r45 l X ad F29 R30 oF29 oR30 wCF29) ml_X11_509 yS_X11_copies rfl e_X11_keep_97 (by unfold g_rr; decide) (by decide) rfl (Nat.le_of_ble_eq_true rfl) (fun w32 h33 => ?_)
  obtain ⟨F35, R36, rfl, oF35, oR36, wCF35, cF35, cR36, zx34⟩ := h33
  have fF35 : g_fr md_X11_keep F F35 := g_fr_c fF29 cF35 rfl
  have fR36 : g_fr mr_X11_keep R R36 := g_fr_c fR30 cR36 rfl
  refine g_aload_n cx 0 rfl e_X11_keep_100 ?_
  refine g_get cx cl_X11 fl_X11_25 0 (.ref (ad 6)) e_X11_keep_101 rfl rfl ?_
  refine g_aload_n cx 0 rfl e_X11_keep_104 ?_
  refine g_get cx cl_X11 fl_X11_146 0 (.ref (ad 46)) e_X11_keep_105 rfl rfl ?_
  refine g_cSvW cx [.ref (ad 6), .ref (ad 46)] [] (w_X11_copies_r6_r46 l X ad F35 R36 oF35 oR36 wCF35) ml_X11_509 yS_X11_copies rfl e_X11_keep_108 (by unfold g_rr; decide) (by decide) rfl (Nat.le_of_ble_eq_true rfl) (fun w38 h39 => ?_)
  obtain ⟨F41, R42, rfl, oF41, oR42, wCF41, cF41, cR42, zx40⟩ := h39
  have fF41 : g_fr md_X11_keep F F41 := g_fr_c fF35 cF41 rfl
  have fR42 : g_fr mr_X11_keep R R42 := g_fr_c fR36 cR42 rfl
  refine g_aload_n cx 0 rfl e_X11_keep_111 ?_
  refine g_get cx cl_X11 fl_X11_28 0 (.ref (ad 7)) e_X11_keep_112 rfl rfl ?_
  refine g_aload_n cx 0 rfl e_X11_keep_115 ?_
  refine g_get cx cl_X11 fl_X11_149 0 (.ref (ad 47)) e_X11_keep_116 rfl rfl ?_
  refine g_cSvW cx [.ref (ad 7), .ref (ad 47)] [] (w_X11_copies_r7_r47 l X ad F41 R42 oF41 oR42 wCF41) ml_X11_509 yS_X11_copies rfl e_X11_keep_119 (by unfold g_rr; decide) (by decide) rfl (Nat.le_of_ble_eq_true rfl) (fun w44 h45 => ?_)
  obtain ⟨F47, R48, rfl, oF47, oR48, wCF47, cF47, cR48, zx46⟩ := h45
  have fF47 : g_fr md_X11_keep F F47 := g_fr_c fF41 cF47 rfl
  have fR48 : g_fr mr_X11_keep R R48 := g_fr_c fR42 cR48 rfl
  refine g_aload_n cx 0 rfl e_X11_keep_122 ?_
  refine g_get cx cl_X11 fl_X11_31 0 (.ref (ad 8)) e_X11_keep_123 rfl rfl ?_
  refine g_aload_n cx 0 rfl e_X11_keep_126 ?_
  refine g_get cx cl_X11 fl_X11_152 0 (.ref (ad 48)) e_X11_keep_127 rfl rfl ?_
  refine g_cSvW cx [.ref (ad 8), .ref (ad 48)] [] (w_X11_copies_r8_r48 l X ad F47 R48 oF47 oR48 wCF47) ml_X11_509 yS_X11_copies rfl e_X11_keep_130 (by unfold g_rr; decide) (by decide) rfl (Nat.le_of_ble_eq_true rfl) (fun w50 h51 => ?_)
  obtain ⟨F53, R54, rfl, oF53, oR54, wCF53, cF53, cR54, zx52⟩ := h51
  have fF53 : g_fr md_X11_keep F F53 := g_fr_c fF47 cF53 rfl
  have fR54 : g_fr mr_X11_keep R R54 := g_fr_c fR48 cR54 rfl
  refine g_aload_n cx 0 rfl e_X11_keep_133 ?_
  refine g_get cx cl_X11 fl_X11_172 0 (.int (F53 4)) e_X11_keep_134 rfl rfl ?_
  refine g_toi (F 4) ((((((((((((((cF53 4 rfl).trans (cF47 4 rfl)).trans (cF41 4 rfl)).trans (cF35 4 rfl)).trans (cF29 4 rfl)).trans (cF23 4 rfl)).trans (cF17 4 rfl)).trans (cF11 4 rfl)).trans (g_pu2 hF6 rfl)).trans (g_pu2 hF5 rfl)).trans (g_pu2 hF4 rfl)).trans (g_pu2 hF3 rfl)).trans (g_pu2 hF2 rfl)).trans (g_pu2 hF1 rfl)) ?_
  refine g_cSiW cx [.int (F 4)] [] (w_X11_bits l X ad F53 R54 oF53 oR54 (F 4)) ml_X11_410 yS_X11_bits rfl e_X11_keep_137 (by unfold g_rr; decide) (by decide) rfl (Nat.le_of_ble_eq_true rfl) (fun r55 w56 h57 => ?_)
  obtain ⟨rfl, pr55⟩ := h57
  exact hret e_X11_keep_140 (Nat.le_of_ble_eq_true rfl) (Nat.le_of_ble_eq_true rfl) rfl ⟨F53, R54, rfl, oF53, oR54, (WT_keep hWT ((((((((((((((cF53 4 rfl).trans (cF47 4 rfl)).trans (cF41 4 rfl)).trans (cF35 4 rfl)).trans (cF29 4 rfl)).trans (cF23 4 rfl)).trans (cF17 4 rfl)).trans (cF11 4 rfl)).trans (g_pu2 hF6 rfl)).trans (g_pu2 hF5 rfl)).trans (g_pu2 hF4 rfl)).trans (g_pu2 hF3 rfl)).trans (g_pu2 hF2 rfl)).trans (g_pu2 hF1 rfl)) (((((((((cF53 82 rfl).trans (cF47 82 rfl)).trans (cF41 82 rfl)).trans (cF35 82 rfl)).trans (cF29 82 rfl)).trans (cF23 82 rfl)).trans (cF17 82 rfl)).trans (cF11 82 rfl)).trans (g_pu1 hF6)) ((((((((cR54 3 rfl).trans (cR48 3 rfl)).trans (cR42 3 rfl)).trans (cR36 3 rfl)).trans (cR30 3 rfl)).trans (cR24 3 rfl)).trans (cR18 3 rfl)).trans (cR12 3 rfl)) ((((((((cR54 5 rfl).trans (cR48 5 rfl)).trans (cR42 5 rfl)).trans (cR36 5 rfl)).trans (cR30 5 rfl)).trans (cR24 5 rfl)).trans (cR18 5 rfl)).trans (cR12 5 rfl)) (fun j hj => (congrFun (((((cR54 43 rfl).trans (cR48 43 rfl)).trans (cR42 43 rfl)).trans (cR36 43 rfl)).trans (cR30 43 rfl)) j).trans ((zx22 j hj).trans (congrFun ((cR18 3 rfl).trans (cR12 3 rfl)) j))) (fun j hj => (congrFun (((cR54 45 rfl).trans (cR48 45 rfl)).trans (cR42 45 rfl)) j).trans ((zx34 j hj).trans (congrFun ((((cR30 5 rfl).trans (cR24 5 rfl)).trans (cR18 5 rfl)).trans (cR12 5 rfl)) j)))), wCF53, fF53, fR54, pr55⟩
def md_X11_copies_r41_r1 : List Nat := []
def mr_X11_copies_r41_r1 : List Nat := [1]
set_option maxHeartbeats 4000000 in
set_option maxRecDepth 100000 in
theorem w_X11_copies_r41_r1 (l : Launch) (X : gX) (ad : Nat → Nat) (F : Nat → Int32) (R : Nat → Nat → Int32) (hI : g_ok LK_wM F) (hA : g_okR LA_wM R) (hWC : WC F R) : g_Cv l X yX11_copies cX11_copies 3 1 0 0 [.ref (ad 41), .ref (ad 1)] (wM X ad F R) (fun w => ∃ (F' : Nat → Int32) (R' : Nat → Nat → Int32), w = wM X ad F' R' ∧ g_ok LK_wM F' ∧ g_okR LA_wM R' ∧ WC F' R' ∧ g_fr md_X11_copies_r41_r1 F F' ∧ g_fr mr_X11_copies_r41_r1 R R' ∧ (∀ j : Nat, j < 10 → R' 1 j = R 41 j)) := by
  refine g_mv (by decide +kernel) (Nat.le_of_ble_eq_true rfl) (fun E cx hret => ?_)
  refine g_iconst cx 0 (by decide) e_X11_copies_0 ?_
  refine g_istore_n cx [(2, .int 0), (0, .ref (ad 41)), (1, .ref (ad 1))] e_X11_copies_1 (by decide) rfl ?_
  have J2 : ∀ (N : Nat) (R2 : Nat → Nat → Int32) (y1 : Int32), (g_okR LA_wM R2) → (g_fr mr_X11_copies_r41_r1 R R2) → (WC F R2) → (jv 0 10 y1) → (∀ j : Nat, (j : Int) < y1.toInt → R2 1 j = R 41 j) → (2147483647 - y1.toInt).toNat < N → G X E 3 0 0 (wM X ad F R2) [(0, .ref (ad 41)), (1, .ref (ad 1)), (2, .int y1)] 2 [] := by
    intro N
    induction N with
    | zero => intro R2 y1 oR2 fR2 wCR2 py1 zq2_0 hm; exact absurd hm (Nat.not_lt_zero _)
    | succ N ih2 =>
      intro R2 y1 oR2 fR2 wCR2 py1 zq2_0 hm2
      refine g_iload_n cx 2 rfl e_X11_copies_2 ?_
      refine g_bipush cx 10 (by decide) e_X11_copies_3 ?_
      refine g_icmp_ge cx 20 e_X11_copies_5 (by decide) (fun zc3 => ?_) (fun zc3 => ?_)
      · have p4 := gn_ge 10 10 (gc_le zc3) py1 (jv_k (x := 10) 10 (by decide)) (by decide)
        exact hret e_X11_copies_20 (Nat.le_of_ble_eq_true rfl) (Nat.le_of_ble_eq_true rfl) ⟨F, R2, rfl, hI, oR2, wCR2, (g_fr_rf F), fR2, (fun j hj => zq2_0 j (by have q := p4; unfold jv at q; omega))⟩
      · have p5 := gn_lt 0 9 (gc_nle zc3) py1 (jv_k (x := 10) 10 (by decide)) (by decide)
        refine g_aload_n cx 1 rfl e_X11_copies_8 ?_
        refine g_iload_n cx 2 rfl e_X11_copies_9 ?_
        refine g_aload_n cx 0 rfl e_X11_copies_10 ?_
        refine g_iload_n cx 2 rfl e_X11_copies_11 ?_
        refine g_iald cx 41 e_X11_copies_12 rfl (jv_ix 10 p5 (by decide)) ?_
        refine g_topi (fun x6 ex6 => ?_)
        refine g_iast cx 1 (wM X ad F (g_u R2 1 (upd (R2 1) (Int32.toNatClampNeg y1) x6))) e_X11_copies_13 rfl (jv_ix 10 p5 (by decide)) rfl ?_
        obtain ⟨R7, hR7⟩ : ∃ z, z = g_u R2 1 (upd (R2 1) (Int32.toNatClampNeg y1) x6) := ⟨_, rfl⟩
        rw [← hR7]
        have oR7 : g_okR LA_wM R7 := by rw [hR7]; exact g_okR_u oR2 rfl
        have fR7 : g_fr mr_X11_copies_r41_r1 R R7 := by rw [hR7]; exact g_fr_r fR2 rfl
        have wCR7 : WC F R7 := by rw [hR7]; exact WC_r wCR2 rfl
        obtain ⟨x8, ex8⟩ : ∃ z : Int32, z = y1 + Int32.ofInt 1 := ⟨_, rfl⟩
        refine g_iinc cx x8 [(2, .int x8), (0, .ref (ad 41)), (1, .ref (ad 1))] 2 e_X11_copies_14 rfl ex8.symm (by decide) rfl ?_
        have zx8 := jv_add 1 10 (show x8 = y1 + 1 from ex8) p5 (jv_k (x := 1) 1 (by decide)) (by decide)
        refine g_goto cx 2 e_X11_copies_17 (by decide) ?_
        refine g_lsub [1, 2, 0] [(0, .ref (ad 41)), (1, .ref (ad 1)), (2, .int x8)] rfl ?_
        exact ih2 R7 x8 oR7 fR7 wCR7 (jv_w zx8.2 (by decide)) (g_cp1 (g := R 41) zq2_0 p5 ((g_ru1 hR7).trans (by rw [ex6, show R2 41 = R 41 from (fR2 41 rfl)])) (g_eq0 zx8.1)) (Nat.lt_of_lt_of_le (show (2147483647 - x8.toInt).toNat < (2147483647 - y1.toInt).toNat from by have q0 := (jv_k (x := 1) 1 (by decide)).1; have q1 := (jv_k (x := 1) 1 (by decide)).2; have q2 := (jv_k (x := 10) 10 (by decide)).1; have q3 := (jv_k (x := 10) 10 (by decide)).2; have q4 := zx8.2.1; have q5 := zx8.2.2; have q6 := p5.1; have q7 := p5.2; have q8 := (gc_nle zc3); have q9 := (g_eq0 zx8.1); omega) (Nat.le_of_lt_succ hm2))
  refine g_lsub [1, 2, 0] [(0, .ref (ad 41)), (1, .ref (ad 1)), (2, .int 0)] rfl ?_
  exact J2 _ R 0 hA (g_fr_rf R) hWC (jv_w (jv_k (x := 0) 0 (by decide)) (by decide)) (fun j hj => absurd hj (by have := Int.natCast_nonneg j; have e : (0 : Int32).toInt = 0 := rfl; omega)) (Nat.lt_succ_self _)
def md_X11_copies_r42_r2 : List Nat := []
def mr_X11_copies_r42_r2 : List Nat := [2]
set_option maxHeartbeats 4000000 in
set_option maxRecDepth 100000 in
theorem w_X11_copies_r42_r2 (l : Launch) (X : gX) (ad : Nat → Nat) (F : Nat → Int32) (R : Nat → Nat → Int32) (hI : g_ok LK_wM F) (hA : g_okR LA_wM R) (hWC : WC F R) : g_Cv l X yX11_copies cX11_copies 3 1 0 0 [.ref (ad 42), .ref (ad 2)] (wM X ad F R) (fun w => ∃ (F' : Nat → Int32) (R' : Nat → Nat → Int32), w = wM X ad F' R' ∧ g_ok LK_wM F' ∧ g_okR LA_wM R' ∧ WC F' R' ∧ g_fr md_X11_copies_r42_r2 F F' ∧ g_fr mr_X11_copies_r42_r2 R R' ∧ (∀ j : Nat, j < 10 → R' 2 j = R 42 j)) := by
  refine g_mv (by decide +kernel) (Nat.le_of_ble_eq_true rfl) (fun E cx hret => ?_)
  refine g_iconst cx 0 (by decide) e_X11_copies_0 ?_
  refine g_istore_n cx [(2, .int 0), (0, .ref (ad 42)), (1, .ref (ad 2))] e_X11_copies_1 (by decide) rfl ?_
  have J2 : ∀ (N : Nat) (R2 : Nat → Nat → Int32) (y1 : Int32), (g_okR LA_wM R2) → (g_fr mr_X11_copies_r42_r2 R R2) → (WC F R2) → (jv 0 10 y1) → (∀ j : Nat, (j : Int) < y1.toInt → R2 2 j = R 42 j) → (2147483647 - y1.toInt).toNat < N → G X E 3 0 0 (wM X ad F R2) [(0, .ref (ad 42)), (1, .ref (ad 2)), (2, .int y1)] 2 [] := by
    intro N
    induction N with
    | zero => intro R2 y1 oR2 fR2 wCR2 py1 zq2_0 hm; exact absurd hm (Nat.not_lt_zero _)
    | succ N ih2 =>
      intro R2 y1 oR2 fR2 wCR2 py1 zq2_0 hm2
      refine g_iload_n cx 2 rfl e_X11_copies_2 ?_
      refine g_bipush cx 10 (by decide) e_X11_copies_3 ?_
      refine g_icmp_ge cx 20 e_X11_copies_5 (by decide) (fun zc3 => ?_) (fun zc3 => ?_)
      · have p4 := gn_ge 10 10 (gc_le zc3) py1 (jv_k (x := 10) 10 (by decide)) (by decide)
        exact hret e_X11_copies_20 (Nat.le_of_ble_eq_true rfl) (Nat.le_of_ble_eq_true rfl) ⟨F, R2, rfl, hI, oR2, wCR2, (g_fr_rf F), fR2, (fun j hj => zq2_0 j (by have q := p4; unfold jv at q; omega))⟩
      · have p5 := gn_lt 0 9 (gc_nle zc3) py1 (jv_k (x := 10) 10 (by decide)) (by decide)
        refine g_aload_n cx 1 rfl e_X11_copies_8 ?_
        refine g_iload_n cx 2 rfl e_X11_copies_9 ?_
        refine g_aload_n cx 0 rfl e_X11_copies_10 ?_
        refine g_iload_n cx 2 rfl e_X11_copies_11 ?_
        refine g_iald cx 42 e_X11_copies_12 rfl (jv_ix 10 p5 (by decide)) ?_
        refine g_topi (fun x6 ex6 => ?_)
        refine g_iast cx 2 (wM X ad F (g_u R2 2 (upd (R2 2) (Int32.toNatClampNeg y1) x6))) e_X11_copies_13 rfl (jv_ix 10 p5 (by decide)) rfl ?_
        obtain ⟨R7, hR7⟩ : ∃ z, z = g_u R2 2 (upd (R2 2) (Int32.toNatClampNeg y1) x6) := ⟨_, rfl⟩
        rw [← hR7]
        have oR7 : g_okR LA_wM R7 := by rw [hR7]; exact g_okR_u oR2 rfl
        have fR7 : g_fr mr_X11_copies_r42_r2 R R7 := by rw [hR7]; exact g_fr_r fR2 rfl
        have wCR7 : WC F R7 := by rw [hR7]; exact WC_r wCR2 rfl
        obtain ⟨x8, ex8⟩ : ∃ z : Int32, z = y1 + Int32.ofInt 1 := ⟨_, rfl⟩
        refine g_iinc cx x8 [(2, .int x8), (0, .ref (ad 42)), (1, .ref (ad 2))] 2 e_X11_copies_14 rfl ex8.symm (by decide) rfl ?_
        have zx8 := jv_add 1 10 (show x8 = y1 + 1 from ex8) p5 (jv_k (x := 1) 1 (by decide)) (by decide)
        refine g_goto cx 2 e_X11_copies_17 (by decide) ?_
        refine g_lsub [1, 2, 0] [(0, .ref (ad 42)), (1, .ref (ad 2)), (2, .int x8)] rfl ?_
        exact ih2 R7 x8 oR7 fR7 wCR7 (jv_w zx8.2 (by decide)) (g_cp1 (g := R 42) zq2_0 p5 ((g_ru1 hR7).trans (by rw [ex6, show R2 42 = R 42 from (fR2 42 rfl)])) (g_eq0 zx8.1)) (Nat.lt_of_lt_of_le (show (2147483647 - x8.toInt).toNat < (2147483647 - y1.toInt).toNat from by have q0 := (jv_k (x := 1) 1 (by decide)).1; have q1 := (jv_k (x := 1) 1 (by decide)).2; have q2 := (jv_k (x := 10) 10 (by decide)).1; have q3 := (jv_k (x := 10) 10 (by decide)).2; have q4 := zx8.2.1; have q5 := zx8.2.2; have q6 := p5.1; have q7 := p5.2; have q8 := (gc_nle zc3); have q9 := (g_eq0 zx8.1); omega) (Nat.le_of_lt_succ hm2))
  refine g_lsub [1, 2, 0] [(0, .ref (ad 42)), (1, .ref (ad 2)), (2, .int 0)] rfl ?_
  exact J2 _ R 0 hA (g_fr_rf R) hWC (jv_w (jv_k (x := 0) 0 (by decide)) (by decide)) (fun j hj => absurd hj (by have := Int.natCast_nonneg j; have e : (0 : Int32).toInt = 0 := rfl; omega)) (Nat.lt_succ_self _)
def md_X11_copies_r43_r3 : List Nat := []
def mr_X11_copies_r43_r3 : List Nat := [3]
set_option maxHeartbeats 4000000 in
set_option maxRecDepth 100000 in
theorem w_X11_copies_r43_r3 (l : Launch) (X : gX) (ad : Nat → Nat) (F : Nat → Int32) (R : Nat → Nat → Int32) (hI : g_ok LK_wM F) (hA : g_okR LA_wM R) (hWC : WC F R) : g_Cv l X yX11_copies cX11_copies 3 1 0 0 [.ref (ad 43), .ref (ad 3)] (wM X ad F R) (fun w => ∃ (F' : Nat → Int32) (R' : Nat → Nat → Int32), w = wM X ad F' R' ∧ g_ok LK_wM F' ∧ g_okR LA_wM R' ∧ WC F' R' ∧ g_fr md_X11_copies_r43_r3 F F' ∧ g_fr mr_X11_copies_r43_r3 R R' ∧ (∀ j : Nat, j < 10 → R' 3 j = R 43 j)) := by
  refine g_mv (by decide +kernel) (Nat.le_of_ble_eq_true rfl) (fun E cx hret => ?_)
  refine g_iconst cx 0 (by decide) e_X11_copies_0 ?_
  refine g_istore_n cx [(2, .int 0), (0, .ref (ad 43)), (1, .ref (ad 3))] e_X11_copies_1 (by decide) rfl ?_
  have J2 : ∀ (N : Nat) (R2 : Nat → Nat → Int32) (y1 : Int32), (g_okR LA_wM R2) → (g_fr mr_X11_copies_r43_r3 R R2) → (WC F R2) → (jv 0 10 y1) → (∀ j : Nat, (j : Int) < y1.toInt → R2 3 j = R 43 j) → (2147483647 - y1.toInt).toNat < N → G X E 3 0 0 (wM X ad F R2) [(0, .ref (ad 43)), (1, .ref (ad 3)), (2, .int y1)] 2 [] := by
    intro N
    induction N with
    | zero => intro R2 y1 oR2 fR2 wCR2 py1 zq2_0 hm; exact absurd hm (Nat.not_lt_zero _)
    | succ N ih2 =>
      intro R2 y1 oR2 fR2 wCR2 py1 zq2_0 hm2
      refine g_iload_n cx 2 rfl e_X11_copies_2 ?_
      refine g_bipush cx 10 (by decide) e_X11_copies_3 ?_
      refine g_icmp_ge cx 20 e_X11_copies_5 (by decide) (fun zc3 => ?_) (fun zc3 => ?_)
      · have p4 := gn_ge 10 10 (gc_le zc3) py1 (jv_k (x := 10) 10 (by decide)) (by decide)
        exact hret e_X11_copies_20 (Nat.le_of_ble_eq_true rfl) (Nat.le_of_ble_eq_true rfl) ⟨F, R2, rfl, hI, oR2, wCR2, (g_fr_rf F), fR2, (fun j hj => zq2_0 j (by have q := p4; unfold jv at q; omega))⟩
      · have p5 := gn_lt 0 9 (gc_nle zc3) py1 (jv_k (x := 10) 10 (by decide)) (by decide)
        refine g_aload_n cx 1 rfl e_X11_copies_8 ?_
        refine g_iload_n cx 2 rfl e_X11_copies_9 ?_
        refine g_aload_n cx 0 rfl e_X11_copies_10 ?_
        refine g_iload_n cx 2 rfl e_X11_copies_11 ?_
        refine g_iald cx 43 e_X11_copies_12 rfl (jv_ix 10 p5 (by decide)) ?_
        refine g_topi (fun x6 ex6 => ?_)
        have p7 : jv 0 40 x6 := by rw [ex6]; exact g_okR_g oR2 8 rfl (jv_cl 10 p5 (by decide))
        refine g_iast cx 3 (wM X ad F (g_u R2 3 (upd (R2 3) (Int32.toNatClampNeg y1) x6))) e_X11_copies_13 rfl (jv_ix 10 p5 (by decide)) rfl ?_
        obtain ⟨R8, hR8⟩ : ∃ z, z = g_u R2 3 (upd (R2 3) (Int32.toNatClampNeg y1) x6) := ⟨_, rfl⟩
        rw [← hR8]
        have oR8 : g_okR LA_wM R8 := by rw [hR8]; exact g_okR_p oR2 p7 rfl
        have fR8 : g_fr mr_X11_copies_r43_r3 R R8 := by rw [hR8]; exact g_fr_r fR2 rfl
        have wCR8 : WC F R8 := by rw [hR8]; exact WC_r wCR2 rfl
        obtain ⟨x9, ex9⟩ : ∃ z : Int32, z = y1 + Int32.ofInt 1 := ⟨_, rfl⟩
        refine g_iinc cx x9 [(2, .int x9), (0, .ref (ad 43)), (1, .ref (ad 3))] 2 e_X11_copies_14 rfl ex9.symm (by decide) rfl ?_
        have zx9 := jv_add 1 10 (show x9 = y1 + 1 from ex9) p5 (jv_k (x := 1) 1 (by decide)) (by decide)
        refine g_goto cx 2 e_X11_copies_17 (by decide) ?_
        refine g_lsub [1, 2, 0] [(0, .ref (ad 43)), (1, .ref (ad 3)), (2, .int x9)] rfl ?_
        exact ih2 R8 x9 oR8 fR8 wCR8 (jv_w zx9.2 (by decide)) (g_cp1 (g := R 43) zq2_0 p5 ((g_ru1 hR8).trans (by rw [ex6, show R2 43 = R 43 from (fR2 43 rfl)])) (g_eq0 zx9.1)) (Nat.lt_of_lt_of_le (show (2147483647 - x9.toInt).toNat < (2147483647 - y1.toInt).toNat from by have q0 := (jv_k (x := 1) 1 (by decide)).1; have q1 := (jv_k (x := 1) 1 (by decide)).2; have q2 := (jv_k (x := 10) 10 (by decide)).1; have q3 := (jv_k (x := 10) 10 (by decide)).2; have q4 := zx9.2.1; have q5 := zx9.2.2; have q6 := p5.1; have q7 := p5.2; have q8 := (gc_nle zc3); have q9 := (g_eq0 zx9.1); omega) (Nat.le_of_lt_succ hm2))
  refine g_lsub [1, 2, 0] [(0, .ref (ad 43)), (1, .ref (ad 3)), (2, .int 0)] rfl ?_
  exact J2 _ R 0 hA (g_fr_rf R) hWC (jv_w (jv_k (x := 0) 0 (by decide)) (by decide)) (fun j hj => absurd hj (by have := Int.natCast_nonneg j; have e : (0 : Int32).toInt = 0 := rfl; omega)) (Nat.lt_succ_self _)
def md_X11_copies_r44_r4 : List Nat := []
def mr_X11_copies_r44_r4 : List Nat := [4]
set_option maxHeartbeats 4000000 in
set_option maxRecDepth 100000 in
theorem w_X11_copies_r44_r4 (l : Launch) (X : gX) (ad : Nat → Nat) (F : Nat → Int32) (R : Nat → Nat → Int32) (hI : g_ok LK_wM F) (hA : g_okR LA_wM R) (hWC : WC F R) : g_Cv l X yX11_copies cX11_copies 3 1 0 0 [.ref (ad 44), .ref (ad 4)] (wM X ad F R) (fun w => ∃ (F' : Nat → Int32) (R' : Nat → Nat → Int32), w = wM X ad F' R' ∧ g_ok LK_wM F' ∧ g_okR LA_wM R' ∧ WC F' R' ∧ g_fr md_X11_copies_r44_r4 F F' ∧ g_fr mr_X11_copies_r44_r4 R R' ∧ (∀ j : Nat, j < 10 → R' 4 j = R 44 j)) := by
  refine g_mv (by decide +kernel) (Nat.le_of_ble_eq_true rfl) (fun E cx hret => ?_)
  refine g_iconst cx 0 (by decide) e_X11_copies_0 ?_
  refine g_istore_n cx [(2, .int 0), (0, .ref (ad 44)), (1, .ref (ad 4))] e_X11_copies_1 (by decide) rfl ?_
  have J2 : ∀ (N : Nat) (R2 : Nat → Nat → Int32) (y1 : Int32), (g_okR LA_wM R2) → (g_fr mr_X11_copies_r44_r4 R R2) → (WC F R2) → (jv 0 10 y1) → (∀ j : Nat, (j : Int) < y1.toInt → R2 4 j = R 44 j) → (2147483647 - y1.toInt).toNat < N → G X E 3 0 0 (wM X ad F R2) [(0, .ref (ad 44)), (1, .ref (ad 4)), (2, .int y1)] 2 [] := by
    intro N
    induction N with
    | zero => intro R2 y1 oR2 fR2 wCR2 py1 zq2_0 hm; exact absurd hm (Nat.not_lt_zero _)
    | succ N ih2 =>
      intro R2 y1 oR2 fR2 wCR2 py1 zq2_0 hm2
      refine g_iload_n cx 2 rfl e_X11_copies_2 ?_
      refine g_bipush cx 10 (by decide) e_X11_copies_3 ?_
      refine g_icmp_ge cx 20 e_X11_copies_5 (by decide) (fun zc3 => ?_) (fun zc3 => ?_)
      · have p4 := gn_ge 10 10 (gc_le zc3) py1 (jv_k (x := 10) 10 (by decide)) (by decide)
        exact hret e_X11_copies_20 (Nat.le_of_ble_eq_true rfl) (Nat.le_of_ble_eq_true rfl) ⟨F, R2, rfl, hI, oR2, wCR2, (g_fr_rf F), fR2, (fun j hj => zq2_0 j (by have q := p4; unfold jv at q; omega))⟩
      · have p5 := gn_lt 0 9 (gc_nle zc3) py1 (jv_k (x := 10) 10 (by decide)) (by decide)
        refine g_aload_n cx 1 rfl e_X11_copies_8 ?_
        refine g_iload_n cx 2 rfl e_X11_copies_9 ?_
        refine g_aload_n cx 0 rfl e_X11_copies_10 ?_
        refine g_iload_n cx 2 rfl e_X11_copies_11 ?_
        refine g_iald cx 44 e_X11_copies_12 rfl (jv_ix 10 p5 (by decide)) ?_
        refine g_topi (fun x6 ex6 => ?_)
        refine g_iast cx 4 (wM X ad F (g_u R2 4 (upd (R2 4) (Int32.toNatClampNeg y1) x6))) e_X11_copies_13 rfl (jv_ix 10 p5 (by decide)) rfl ?_
        obtain ⟨R7, hR7⟩ : ∃ z, z = g_u R2 4 (upd (R2 4) (Int32.toNatClampNeg y1) x6) := ⟨_, rfl⟩
        rw [← hR7]
        have oR7 : g_okR LA_wM R7 := by rw [hR7]; exact g_okR_u oR2 rfl
        have fR7 : g_fr mr_X11_copies_r44_r4 R R7 := by rw [hR7]; exact g_fr_r fR2 rfl
        have wCR7 : WC F R7 := by rw [hR7]; exact WC_r wCR2 rfl
        obtain ⟨x8, ex8⟩ : ∃ z : Int32, z = y1 + Int32.ofInt 1 := ⟨_, rfl⟩
        refine g_iinc cx x8 [(2, .int x8), (0, .ref (ad 44)), (1, .ref (ad 4))] 2 e_X11_copies_14 rfl ex8.symm (by decide) rfl ?_
        have zx8 := jv_add 1 10 (show x8 = y1 + 1 from ex8) p5 (jv_k (x := 1) 1 (by decide)) (by decide)
        refine g_goto cx 2 e_X11_copies_17 (by decide) ?_
        refine g_lsub [1, 2, 0] [(0, .ref (ad 44)), (1, .ref (ad 4)), (2, .int x8)] rfl ?_
        exact ih2 R7 x8 oR7 fR7 wCR7 (jv_w zx8.2 (by decide)) (g_cp1 (g := R 44) zq2_0 p5 ((g_ru1 hR7).trans (by rw [ex6, show R2 44 = R 44 from (fR2 44 rfl)])) (g_eq0 zx8.1)) (Nat.lt_of_lt_of_le (show (2147483647 - x8.toInt).toNat < (2147483647 - y1.toInt).toNat from by have q0 := (jv_k (x := 1) 1 (by decide)).1; have q1 := (jv_k (x := 1) 1 (by decide)).2; have q2 := (jv_k (x := 10) 10 (by decide)).1; have q3 := (jv_k (x := 10) 10 (by decide)).2; have q4 := zx8.2.1; have q5 := zx8.2.2; have q6 := p5.1; have q7 := p5.2; have q8 := (gc_nle zc3); have q9 := (g_eq0 zx8.1); omega) (Nat.le_of_lt_succ hm2))
  refine g_lsub [1, 2, 0] [(0, .ref (ad 44)), (1, .ref (ad 4)), (2, .int 0)] rfl ?_
  exact J2 _ R 0 hA (g_fr_rf R) hWC (jv_w (jv_k (x := 0) 0 (by decide)) (by decide)) (fun j hj => absurd hj (by have := Int.natCast_nonneg j; have e : (0 : Int32).toInt = 0 := rfl; omega)) (Nat.lt_succ_self _)
def md_X11_copies_r45_r5 : List Nat := []
def mr_X11_copies_r45_r5 : List Nat := [5]
set_option maxHeartbeats 4000000 in
set_option maxRecDepth 100000 in
theorem w_X11_copies_r45_r5 (l : Launch) (X : gX) (ad : Nat → Nat) (F : Nat → Int32) (R : Nat → Nat → Int32) (hI : g_ok LK_wM F) (hA : g_okR LA_wM R) (hWC : WC F R) : g_Cv l X yX11_copies cX11_copies 3 1 0 0 [.ref (ad 45), .ref (ad 5)] (wM X ad F R) (fun w => ∃ (F' : Nat → Int32) (R' : Nat → Nat → Int32), w = wM X ad F' R' ∧ g_ok LK_wM F' ∧ g_okR LA_wM R' ∧ WC F' R' ∧ g_fr md_X11_copies_r45_r5 F F' ∧ g_fr mr_X11_copies_r45_r5 R R' ∧ (∀ j : Nat, j < 10 → R' 5 j = R 45 j)) := by
  refine g_mv (by decide +kernel) (Nat.le_of_ble_eq_true rfl) (fun E cx hret => ?_)
  refine g_iconst cx 0 (by decide) e_X11_copies_0 ?_
  refine g_istore_n cx [(2, .int 0), (0, .ref (ad 45)), (1, .ref (ad 5))] e_X11_copies_1 (by decide) rfl ?_
  have J2 : ∀ (N : Nat) (R2 : Nat → Nat → Int32) (y1 : Int32), (g_okR LA_wM R2) → (g_fr mr_X11_copies_r45_r5 R R2) → (WC F R2) → (jv 0 10 y1) → (∀ j : Nat, (j : Int) < y1.toInt → R2 5 j = R 45 j) → (2147483647 - y1.toInt).toNat < N → G X E 3 0 0 (wM X ad F R2) [(0, .ref (ad 45)), (1, .ref (ad 5)), (2, .int y1)] 2 [] := by
    intro N
    induction N with
    | zero => intro R2 y1 oR2 fR2 wCR2 py1 zq2_0 hm; exact absurd hm (Nat.not_lt_zero _)
    | succ N ih2 =>
      intro R2 y1 oR2 fR2 wCR2 py1 zq2_0 hm2
      refine g_iload_n cx 2 rfl e_X11_copies_2 ?_
      refine g_bipush cx 10 (by decide) e_X11_copies_3 ?_
      refine g_icmp_ge cx 20 e_X11_copies_5 (by decide) (fun zc3 => ?_) (fun zc3 => ?_)
      · have p4 := gn_ge 10 10 (gc_le zc3) py1 (jv_k (x := 10) 10 (by decide)) (by decide)
        exact hret e_X11_copies_20 (Nat.le_of_ble_eq_true rfl) (Nat.le_of_ble_eq_true rfl) ⟨F, R2, rfl, hI, oR2, wCR2, (g_fr_rf F), fR2, (fun j hj => zq2_0 j (by have q := p4; unfold jv at q; omega))⟩
      · have p5 := gn_lt 0 9 (gc_nle zc3) py1 (jv_k (x := 10) 10 (by decide)) (by decide)
        refine g_aload_n cx 1 rfl e_X11_copies_8 ?_
        refine g_iload_n cx 2 rfl e_X11_copies_9 ?_
        refine g_aload_n cx 0 rfl e_X11_copies_10 ?_
        refine g_iload_n cx 2 rfl e_X11_copies_11 ?_
        refine g_iald cx 45 e_X11_copies_12 rfl (jv_ix 10 p5 (by decide)) ?_
        refine g_topi (fun x6 ex6 => ?_)
        have p7 : jv 0 99 x6 := by rw [ex6]; exact g_okR_g oR2 9 rfl (jv_cl 10 p5 (by decide))
        refine g_iast cx 5 (wM X ad F (g_u R2 5 (upd (R2 5) (Int32.toNatClampNeg y1) x6))) e_X11_copies_13 rfl (jv_ix 10 p5 (by decide)) rfl ?_
        obtain ⟨R8, hR8⟩ : ∃ z, z = g_u R2 5 (upd (R2 5) (Int32.toNatClampNeg y1) x6) := ⟨_, rfl⟩
        rw [← hR8]
        have oR8 : g_okR LA_wM R8 := by rw [hR8]; exact g_okR_p oR2 p7 rfl
        have fR8 : g_fr mr_X11_copies_r45_r5 R R8 := by rw [hR8]; exact g_fr_r fR2 rfl
        have wCR8 : WC F R8 := by rw [hR8]; exact WC_r wCR2 rfl
        obtain ⟨x9, ex9⟩ : ∃ z : Int32, z = y1 + Int32.ofInt 1 := ⟨_, rfl⟩
        refine g_iinc cx x9 [(2, .int x9), (0, .ref (ad 45)), (1, .ref (ad 5))] 2 e_X11_copies_14 rfl ex9.symm (by decide) rfl ?_
        have zx9 := jv_add 1 10 (show x9 = y1 + 1 from ex9) p5 (jv_k (x := 1) 1 (by decide)) (by decide)
        refine g_goto cx 2 e_X11_copies_17 (by decide) ?_
        refine g_lsub [1, 2, 0] [(0, .ref (ad 45)), (1, .ref (ad 5)), (2, .int x9)] rfl ?_
        exact ih2 R8 x9 oR8 fR8 wCR8 (jv_w zx9.2 (by decide)) (g_cp1 (g := R 45) zq2_0 p5 ((g_ru1 hR8).trans (by rw [ex6, show R2 45 = R 45 from (fR2 45 rfl)])) (g_eq0 zx9.1)) (Nat.lt_of_lt_of_le (show (2147483647 - x9.toInt).toNat < (2147483647 - y1.toInt).toNat from by have q0 := (jv_k (x := 1) 1 (by decide)).1; have q1 := (jv_k (x := 1) 1 (by decide)).2; have q2 := (jv_k (x := 10) 10 (by decide)).1; have q3 := (jv_k (x := 10) 10 (by decide)).2; have q4 := zx9.2.1; have q5 := zx9.2.2; have q6 := p5.1; have q7 := p5.2; have q8 := (gc_nle zc3); have q9 := (g_eq0 zx9.1); omega) (Nat.le_of_lt_succ hm2))
  refine g_lsub [1, 2, 0] [(0, .ref (ad 45)), (1, .ref (ad 5)), (2, .int 0)] rfl ?_
  exact J2 _ R 0 hA (g_fr_rf R) hWC (jv_w (jv_k (x := 0) 0 (by decide)) (by decide)) (fun j hj => absurd hj (by have := Int.natCast_nonneg j; have e : (0 : Int32).toInt = 0 := rfl; omega)) (Nat.lt_succ_self _)
def md_X11_copies_r46_r6 : List Nat := []
def mr_X11_copies_r46_r6 : List Nat := [6]
set_option maxHeartbeats 4000000 in
set_option maxRecDepth 100000 in
theorem w_X11_copies_r46_r6 (l : Launch) (X : gX) (ad : Nat → Nat) (F : Nat → Int32) (R : Nat → Nat → Int32) (hI : g_ok LK_wM F) (hA : g_okR LA_wM R) (hWC : WC F R) : g_Cv l X yX11_copies cX11_copies 3 1 0 0 [.ref (ad 46), .ref (ad 6)] (wM X ad F R) (fun w => ∃ (F' : Nat → Int32) (R' : Nat → Nat → Int32), w = wM X ad F' R' ∧ g_ok LK_wM F' ∧ g_okR LA_wM R' ∧ WC F' R' ∧ g_fr md_X11_copies_r46_r6 F F' ∧ g_fr mr_X11_copies_r46_r6 R R' ∧ (∀ j : Nat, j < 10 → R' 6 j = R 46 j)) := by
  refine g_mv (by decide +kernel) (Nat.le_of_ble_eq_true rfl) (fun E cx hret => ?_)
  refine g_iconst cx 0 (by decide) e_X11_copies_0 ?_
  refine g_istore_n cx [(2, .int 0), (0, .ref (ad 46)), (1, .ref (ad 6))] e_X11_copies_1 (by decide) rfl ?_
  have J2 : ∀ (N : Nat) (R2 : Nat → Nat → Int32) (y1 : Int32), (g_okR LA_wM R2) → (g_fr mr_X11_copies_r46_r6 R R2) → (WC F R2) → (jv 0 10 y1) → (∀ j : Nat, (j : Int) < y1.toInt → R2 6 j = R 46 j) → (2147483647 - y1.toInt).toNat < N → G X E 3 0 0 (wM X ad F R2) [(0, .ref (ad 46)), (1, .ref (ad 6)), (2, .int y1)] 2 [] := by
    intro N
    induction N with
    | zero => intro R2 y1 oR2 fR2 wCR2 py1 zq2_0 hm; exact absurd hm (Nat.not_lt_zero _)
    | succ N ih2 =>
      intro R2 y1 oR2 fR2 wCR2 py1 zq2_0 hm2
      refine g_iload_n cx 2 rfl e_X11_copies_2 ?_
      refine g_bipush cx 10 (by decide) e_X11_copies_3 ?_
      refine g_icmp_ge cx 20 e_X11_copies_5 (by decide) (fun zc3 => ?_) (fun zc3 => ?_)
      · have p4 := gn_ge 10 10 (gc_le zc3) py1 (jv_k (x := 10) 10 (by decide)) (by decide)
        exact hret e_X11_copies_20 (Nat.le_of_ble_eq_true rfl) (Nat.le_of_ble_eq_true rfl) ⟨F, R2, rfl, hI, oR2, wCR2, (g_fr_rf F), fR2, (fun j hj => zq2_0 j (by have q := p4; unfold jv at q; omega))⟩
      · have p5 := gn_lt 0 9 (gc_nle zc3) py1 (jv_k (x := 10) 10 (by decide)) (by decide)
        refine g_aload_n cx 1 rfl e_X11_copies_8 ?_
        refine g_iload_n cx 2 rfl e_X11_copies_9 ?_
        refine g_aload_n cx 0 rfl e_X11_copies_10 ?_
        refine g_iload_n cx 2 rfl e_X11_copies_11 ?_
        refine g_iald cx 46 e_X11_copies_12 rfl (jv_ix 10 p5 (by decide)) ?_
        refine g_topi (fun x6 ex6 => ?_)
        refine g_iast cx 6 (wM X ad F (g_u R2 6 (upd (R2 6) (Int32.toNatClampNeg y1) x6))) e_X11_copies_13 rfl (jv_ix 10 p5 (by decide)) rfl ?_
        obtain ⟨R7, hR7⟩ : ∃ z, z = g_u R2 6 (upd (R2 6) (Int32.toNatClampNeg y1) x6) := ⟨_, rfl⟩
        rw [← hR7]
        have oR7 : g_okR LA_wM R7 := by rw [hR7]; exact g_okR_u oR2 rfl
        have fR7 : g_fr mr_X11_copies_r46_r6 R R7 := by rw [hR7]; exact g_fr_r fR2 rfl
        have wCR7 : WC F R7 := by rw [hR7]; exact WC_r wCR2 rfl
        obtain ⟨x8, ex8⟩ : ∃ z : Int32, z = y1 + Int32.ofInt 1 := ⟨_, rfl⟩
        refine g_iinc cx x8 [(2, .int x8), (0, .ref (ad 46)), (1, .ref (ad 6))] 2 e_X11_copies_14 rfl ex8.symm (by decide) rfl ?_
        have zx8 := jv_add 1 10 (show x8 = y1 + 1 from ex8) p5 (jv_k (x := 1) 1 (by decide)) (by decide)
        refine g_goto cx 2 e_X11_copies_17 (by decide) ?_
        refine g_lsub [1, 2, 0] [(0, .ref (ad 46)), (1, .ref (ad 6)), (2, .int x8)] rfl ?_
        exact ih2 R7 x8 oR7 fR7 wCR7 (jv_w zx8.2 (by decide)) (g_cp1 (g := R 46) zq2_0 p5 ((g_ru1 hR7).trans (by rw [ex6, show R2 46 = R 46 from (fR2 46 rfl)])) (g_eq0 zx8.1)) (Nat.lt_of_lt_of_le (show (2147483647 - x8.toInt).toNat < (2147483647 - y1.toInt).toNat from by have q0 := (jv_k (x := 1) 1 (by decide)).1; have q1 := (jv_k (x := 1) 1 (by decide)).2; have q2 := (jv_k (x := 10) 10 (by decide)).1; have q3 := (jv_k (x := 10) 10 (by decide)).2; have q4 := zx8.2.1; have q5 := zx8.2.2; have q6 := p5.1; have q7 := p5.2; have q8 := (gc_nle zc3); have q9 := (g_eq0 zx8.1); omega) (Nat.le_of_lt_succ hm2))
  refine g_lsub [1, 2, 0] [(0, .ref (ad 46)), (1, .ref (ad 6)), (2, .int 0)] rfl ?_
  exact J2 _ R 0 hA (g_fr_rf R) hWC (jv_w (jv_k (x := 0) 0 (by decide)) (by decide)) (fun j hj => absurd hj (by have := Int.natCast_nonneg j; have e : (0 : Int32).toInt = 0 := rfl; omega)) (Nat.lt_succ_self _)
def md_X11_copies_r47_r7 : List Nat := []
def mr_X11_copies_r47_r7 : List Nat := [7]
set_option maxHeartbeats 4000000 in
set_option maxRecDepth 100000 in
theorem w_X11_copies_r47_r7 (l : Launch) (X : gX) (ad : Nat → Nat) (F : Nat → Int32) (R : Nat → Nat → Int32) (hI : g_ok LK_wM F) (hA : g_okR LA_wM R) (hWC : WC F R) : g_Cv l X yX11_copies cX11_copies 3 1 0 0 [.ref (ad 47), .ref (ad 7)] (wM X ad F R) (fun w => ∃ (F' : Nat → Int32) (R' : Nat → Nat → Int32), w = wM X ad F' R' ∧ g_ok LK_wM F' ∧ g_okR LA_wM R' ∧ WC F' R' ∧ g_fr md_X11_copies_r47_r7 F F' ∧ g_fr mr_X11_copies_r47_r7 R R' ∧ (∀ j : Nat, j < 10 → R' 7 j = R 47 j)) := by
  refine g_mv (by decide +kernel) (Nat.le_of_ble_eq_true rfl) (fun E cx hret => ?_)
  refine g_iconst cx 0 (by decide) e_X11_copies_0 ?_
  refine g_istore_n cx [(2, .int 0), (0, .ref (ad 47)), (1, .ref (ad 7))] e_X11_copies_1 (by decide) rfl ?_
  have J2 : ∀ (N : Nat) (R2 : Nat → Nat → Int32) (y1 : Int32), (g_okR LA_wM R2) → (g_fr mr_X11_copies_r47_r7 R R2) → (WC F R2) → (jv 0 10 y1) → (∀ j : Nat, (j : Int) < y1.toInt → R2 7 j = R 47 j) → (2147483647 - y1.toInt).toNat < N → G X E 3 0 0 (wM X ad F R2) [(0, .ref (ad 47)), (1, .ref (ad 7)), (2, .int y1)] 2 [] := by
    intro N
    induction N with
    | zero => intro R2 y1 oR2 fR2 wCR2 py1 zq2_0 hm; exact absurd hm (Nat.not_lt_zero _)
    | succ N ih2 =>
      intro R2 y1 oR2 fR2 wCR2 py1 zq2_0 hm2
      refine g_iload_n cx 2 rfl e_X11_copies_2 ?_
      refine g_bipush cx 10 (by decide) e_X11_copies_3 ?_
      refine g_icmp_ge cx 20 e_X11_copies_5 (by decide) (fun zc3 => ?_) (fun zc3 => ?_)
      · have p4 := gn_ge 10 10 (gc_le zc3) py1 (jv_k (x := 10) 10 (by decide)) (by decide)
        exact hret e_X11_copies_20 (Nat.le_of_ble_eq_true rfl) (Nat.le_of_ble_eq_true rfl) ⟨F, R2, rfl, hI, oR2, wCR2, (g_fr_rf F), fR2, (fun j hj => zq2_0 j (by have q := p4; unfold jv at q; omega))⟩
      · have p5 := gn_lt 0 9 (gc_nle zc3) py1 (jv_k (x := 10) 10 (by decide)) (by decide)
        refine g_aload_n cx 1 rfl e_X11_copies_8 ?_
        refine g_iload_n cx 2 rfl e_X11_copies_9 ?_
        refine g_aload_n cx 0 rfl e_X11_copies_10 ?_
        refine g_iload_n cx 2 rfl e_X11_copies_11 ?_
        refine g_iald cx 47 e_X11_copies_12 rfl (jv_ix 10 p5 (by decide)) ?_
        refine g_topi (fun x6 ex6 => ?_)
        refine g_iast cx 7 (wM X ad F (g_u R2 7 (upd (R2 7) (Int32.toNatClampNeg y1) x6))) e_X11_copies_13 rfl (jv_ix 10 p5 (by decide)) rfl ?_
        obtain ⟨R7, hR7⟩ : ∃ z, z = g_u R2 7 (upd (R2 7) (Int32.toNatClampNeg y1) x6) := ⟨_, rfl⟩
        rw [← hR7]
        have oR7 : g_okR LA_wM R7 := by rw [hR7]; exact g_okR_u oR2 rfl
        have fR7 : g_fr mr_X11_copies_r47_r7 R R7 := by rw [hR7]; exact g_fr_r fR2 rfl
        have wCR7 : WC F R7 := by rw [hR7]; exact WC_r wCR2 rfl
        obtain ⟨x8, ex8⟩ : ∃ z : Int32, z = y1 + Int32.ofInt 1 := ⟨_, rfl⟩
        refine g_iinc cx x8 [(2, .int x8), (0, .ref (ad 47)), (1, .ref (ad 7))] 2 e_X11_copies_14 rfl ex8.symm (by decide) rfl ?_
        have zx8 := jv_add 1 10 (show x8 = y1 + 1 from ex8) p5 (jv_k (x := 1) 1 (by decide)) (by decide)
        refine g_goto cx 2 e_X11_copies_17 (by decide) ?_
        refine g_lsub [1, 2, 0] [(0, .ref (ad 47)), (1, .ref (ad 7)), (2, .int x8)] rfl ?_
        exact ih2 R7 x8 oR7 fR7 wCR7 (jv_w zx8.2 (by decide)) (g_cp1 (g := R 47) zq2_0 p5 ((g_ru1 hR7).trans (by rw [ex6, show R2 47 = R 47 from (fR2 47 rfl)])) (g_eq0 zx8.1)) (Nat.lt_of_lt_of_le (show (2147483647 - x8.toInt).toNat < (2147483647 - y1.toInt).toNat from by have q0 := (jv_k (x := 1) 1 (by decide)).1; have q1 := (jv_k (x := 1) 1 (by decide)).2; have q2 := (jv_k (x := 10) 10 (by decide)).1; have q3 := (jv_k (x := 10) 10 (by decide)).2; have q4 := zx8.2.1; have q5 := zx8.2.2; have q6 := p5.1; have q7 := p5.2; have q8 := (gc_nle zc3); have q9 := (g_eq0 zx8.1); omega) (Nat.le_of_lt_succ hm2))
  refine g_lsub [1, 2, 0] [(0, .ref (ad 47)), (1, .ref (ad 7)), (2, .int 0)] rfl ?_
  exact J2 _ R 0 hA (g_fr_rf R) hWC (jv_w (jv_k (x := 0) 0 (by decide)) (by decide)) (fun j hj => absurd hj (by have := Int.natCast_nonneg j; have e : (0 : Int32).toInt = 0 := rfl; omega)) (Nat.lt_succ_self _)
def md_X11_copies_r48_r8 : List Nat := []
def mr_X11_copies_r48_r8 : List Nat := [8]
set_option maxHeartbeats 4000000 in
set_option maxRecDepth 100000 in
theorem w_X11_copies_r48_r8 (l : Launch) (X : gX) (ad : Nat → Nat) (F : Nat → Int32) (R : Nat → Nat → Int32) (hI : g_ok LK_wM F) (hA : g_okR LA_wM R) (hWC : WC F R) : g_Cv l X yX11_copies cX11_copies 3 1 0 0 [.ref (ad 48), .ref (ad 8)] (wM X ad F R) (fun w => ∃ (F' : Nat → Int32) (R' : Nat → Nat → Int32), w = wM X ad F' R' ∧ g_ok LK_wM F' ∧ g_okR LA_wM R' ∧ WC F' R' ∧ g_fr md_X11_copies_r48_r8 F F' ∧ g_fr mr_X11_copies_r48_r8 R R' ∧ (∀ j : Nat, j < 10 → R' 8 j = R 48 j)) := by
  refine g_mv (by decide +kernel) (Nat.le_of_ble_eq_true rfl) (fun E cx hret => ?_)
  refine g_iconst cx 0 (by decide) e_X11_copies_0 ?_
  refine g_istore_n cx [(2, .int 0), (0, .ref (ad 48)), (1, .ref (ad 8))] e_X11_copies_1 (by decide) rfl ?_
  have J2 : ∀ (N : Nat) (R2 : Nat → Nat → Int32) (y1 : Int32), (g_okR LA_wM R2) → (g_fr mr_X11_copies_r48_r8 R R2) → (WC F R2) → (jv 0 10 y1) → (∀ j : Nat, (j : Int) < y1.toInt → R2 8 j = R 48 j) → (2147483647 - y1.toInt).toNat < N → G X E 3 0 0 (wM X ad F R2) [(0, .ref (ad 48)), (1, .ref (ad 8)), (2, .int y1)] 2 [] := by
    intro N
    induction N with
    | zero => intro R2 y1 oR2 fR2 wCR2 py1 zq2_0 hm; exact absurd hm (Nat.not_lt_zero _)
    | succ N ih2 =>
      intro R2 y1 oR2 fR2 wCR2 py1 zq2_0 hm2
      refine g_iload_n cx 2 rfl e_X11_copies_2 ?_
      refine g_bipush cx 10 (by decide) e_X11_copies_3 ?_
      refine g_icmp_ge cx 20 e_X11_copies_5 (by decide) (fun zc3 => ?_) (fun zc3 => ?_)
      · have p4 := gn_ge 10 10 (gc_le zc3) py1 (jv_k (x := 10) 10 (by decide)) (by decide)
        exact hret e_X11_copies_20 (Nat.le_of_ble_eq_true rfl) (Nat.le_of_ble_eq_true rfl) ⟨F, R2, rfl, hI, oR2, wCR2, (g_fr_rf F), fR2, (fun j hj => zq2_0 j (by have q := p4; unfold jv at q; omega))⟩
      · have p5 := gn_lt 0 9 (gc_nle zc3) py1 (jv_k (x := 10) 10 (by decide)) (by decide)
        refine g_aload_n cx 1 rfl e_X11_copies_8 ?_
        refine g_iload_n cx 2 rfl e_X11_copies_9 ?_
        refine g_aload_n cx 0 rfl e_X11_copies_10 ?_
        refine g_iload_n cx 2 rfl e_X11_copies_11 ?_
        refine g_iald cx 48 e_X11_copies_12 rfl (jv_ix 10 p5 (by decide)) ?_
        refine g_topi (fun x6 ex6 => ?_)
        refine g_iast cx 8 (wM X ad F (g_u R2 8 (upd (R2 8) (Int32.toNatClampNeg y1) x6))) e_X11_copies_13 rfl (jv_ix 10 p5 (by decide)) rfl ?_
        obtain ⟨R7, hR7⟩ : ∃ z, z = g_u R2 8 (upd (R2 8) (Int32.toNatClampNeg y1) x6) := ⟨_, rfl⟩
        rw [← hR7]
        have oR7 : g_okR LA_wM R7 := by rw [hR7]; exact g_okR_u oR2 rfl
        have fR7 : g_fr mr_X11_copies_r48_r8 R R7 := by rw [hR7]; exact g_fr_r fR2 rfl
        have wCR7 : WC F R7 := by rw [hR7]; exact WC_r wCR2 rfl
        obtain ⟨x8, ex8⟩ : ∃ z : Int32, z = y1 + Int32.ofInt 1 := ⟨_, rfl⟩
        refine g_iinc cx x8 [(2, .int x8), (0, .ref (ad 48)), (1, .ref (ad 8))] 2 e_X11_copies_14 rfl ex8.symm (by decide) rfl ?_
        have zx8 := jv_add 1 10 (show x8 = y1 + 1 from ex8) p5 (jv_k (x := 1) 1 (by decide)) (by decide)
        refine g_goto cx 2 e_X11_copies_17 (by decide) ?_
        refine g_lsub [1, 2, 0] [(0, .ref (ad 48)), (1, .ref (ad 8)), (2, .int x8)] rfl ?_
        exact ih2 R7 x8 oR7 fR7 wCR7 (jv_w zx8.2 (by decide)) (g_cp1 (g := R 48) zq2_0 p5 ((g_ru1 hR7).trans (by rw [ex6, show R2 48 = R 48 from (fR2 48 rfl)])) (g_eq0 zx8.1)) (Nat.lt_of_lt_of_le (show (2147483647 - x8.toInt).toNat < (2147483647 - y1.toInt).toNat from by have q0 := (jv_k (x := 1) 1 (by decide)).1; have q1 := (jv_k (x := 1) 1 (by decide)).2; have q2 := (jv_k (x := 10) 10 (by decide)).1; have q3 := (jv_k (x := 10) 10 (by decide)).2; have q4 := zx8.2.1; have q5 := zx8.2.2; have q6 := p5.1; have q7 := p5.2; have q8 := (gc_nle zc3); have q9 := (g_eq0 zx8.1); omega) (Nat.le_of_lt_succ hm2))
  refine g_lsub [1, 2, 0] [(0, .ref (ad 48)), (1, .ref (ad 8)), (2, .int 0)] rfl ?_
  exact J2 _ R 0 hA (g_fr_rf R) hWC (jv_w (jv_k (x := 0) 0 (by decide)) (by decide)) (fun j hj => absurd hj (by have := Int.natCast_nonneg j; have e : (0 : Int32).toInt = 0 := rfl; omega)) (Nat.lt_succ_self _)
theorem e_X11_undo_0 : g_dc cX11_undo 0 (.aload_n 0) 1 1 := ⟨by decide +kernel, rfl⟩
theorem e_X11_undo_1 : g_dc cX11_undo 1 (.getfield 491) 3 4 := ⟨by decide +kernel, rfl⟩
theorem e_X11_undo_4 : g_dc cX11_undo 4 (.ifCond .ne 5) 3 7 := ⟨by decide +kernel, rfl⟩
theorem e_X11_undo_7 : g_dc cX11_undo 7 (.iconst 0) 1 8 := ⟨by decide +kernel, rfl⟩
theorem e_X11_undo_8 : g_dc cX11_undo 8 (.ireturn) 1 9 := ⟨by decide +kernel, rfl⟩
theorem e_X11_undo_9 : g_dc cX11_undo 9 (.aload_n 0) 1 10 := ⟨by decide +kernel, rfl⟩
theorem e_X11_undo_10 : g_dc cX11_undo 10 (.aload_n 0) 1 11 := ⟨by decide +kernel, rfl⟩
theorem e_X11_undo_11 : g_dc cX11_undo 11 (.getfield 494) 3 14 := ⟨by decide +kernel, rfl⟩
theorem e_X11_undo_14 : g_dc cX11_undo 14 (.putfield 155) 3 17 := ⟨by decide +kernel, rfl⟩
theorem e_X11_undo_17 : g_dc cX11_undo 17 (.aload_n 0) 1 18 := ⟨by decide +kernel, rfl⟩
theorem e_X11_undo_18 : g_dc cX11_undo 18 (.aload_n 0) 1 19 := ⟨by decide +kernel, rfl⟩
theorem e_X11_undo_19 : g_dc cX11_undo 19 (.getfield 497) 3 22 := ⟨by decide +kernel, rfl⟩
theorem e_X11_undo_22 : g_dc cX11_undo 22 (.putfield 159) 3 25 := ⟨by decide +kernel, rfl⟩
theorem e_X11_undo_25 : g_dc cX11_undo 25 (.aload_n 0) 1 26 := ⟨by decide +kernel, rfl⟩
theorem e_X11_undo_26 : g_dc cX11_undo 26 (.aload_n 0) 1 27 := ⟨by decide +kernel, rfl⟩
theorem e_X11_undo_27 : g_dc cX11_undo 27 (.getfield 500) 3 30 := ⟨by decide +kernel, rfl⟩
theorem e_X11_undo_30 : g_dc cX11_undo 30 (.putfield 169) 3 33 := ⟨by decide +kernel, rfl⟩
theorem e_X11_undo_33 : g_dc cX11_undo 33 (.aload_n 0) 1 34 := ⟨by decide +kernel, rfl⟩
theorem e_X11_undo_34 : g_dc cX11_undo 34 (.aload_n 0) 1 35 := ⟨by decide +kernel, rfl⟩
theorem e_X11_undo_35 : g_dc cX11_undo 35 (.getfield 503) 3 38 := ⟨by decide +kernel, rfl⟩
theorem e_X11_undo_38 : g_dc cX11_undo 38 (.putfield 162) 3 41 := ⟨by decide +kernel, rfl⟩
theorem e_X11_undo_41 : g_dc cX11_undo 41 (.aload_n 0) 1 42 := ⟨by decide +kernel, rfl⟩
theorem e_X11_undo_42 : g_dc cX11_undo 42 (.aload_n 0) 1 43 := ⟨by decide +kernel, rfl⟩
theorem e_X11_undo_43 : g_dc cX11_undo 43 (.getfield 506) 3 46 := ⟨by decide +kernel, rfl⟩
theorem e_X11_undo_46 : g_dc cX11_undo 46 (.putfield 172) 3 49 := ⟨by decide +kernel, rfl⟩
theorem e_X11_undo_49 : g_dc cX11_undo 49 (.aload_n 0) 1 50 := ⟨by decide +kernel, rfl⟩
theorem e_X11_undo_50 : g_dc cX11_undo 50 (.getfield 131) 3 53 := ⟨by decide +kernel, rfl⟩
theorem e_X11_undo_53 : g_dc cX11_undo 53 (.aload_n 0) 1 54 := ⟨by decide +kernel, rfl⟩
theorem e_X11_undo_54 : g_dc cX11_undo 54 (.getfield 7) 3 57 := ⟨by decide +kernel, rfl⟩
theorem e_X11_undo_57 : g_dc cX11_undo 57 (.invokestatic 509) 3 60 := ⟨by decide +kernel, rfl⟩
theorem e_X11_undo_60 : g_dc cX11_undo 60 (.aload_n 0) 1 61 := ⟨by decide +kernel, rfl⟩
theorem e_X11_undo_61 : g_dc cX11_undo 61 (.getfield 134) 3 64 := ⟨by decide +kernel, rfl⟩
theorem e_X11_undo_64 : g_dc cX11_undo 64 (.aload_n 0) 1 65 := ⟨by decide +kernel, rfl⟩
theorem e_X11_undo_65 : g_dc cX11_undo 65 (.getfield 13) 3 68 := ⟨by decide +kernel, rfl⟩
theorem e_X11_undo_68 : g_dc cX11_undo 68 (.invokestatic 509) 3 71 := ⟨by decide +kernel, rfl⟩
theorem e_X11_undo_71 : g_dc cX11_undo 71 (.aload_n 0) 1 72 := ⟨by decide +kernel, rfl⟩
theorem e_X11_undo_72 : g_dc cX11_undo 72 (.getfield 137) 3 75 := ⟨by decide +kernel, rfl⟩
theorem e_X11_undo_75 : g_dc cX11_undo 75 (.aload_n 0) 1 76 := ⟨by decide +kernel, rfl⟩
theorem e_X11_undo_76 : g_dc cX11_undo 76 (.getfield 16) 3 79 := ⟨by decide +kernel, rfl⟩
theorem e_X11_undo_79 : g_dc cX11_undo 79 (.invokestatic 509) 3 82 := ⟨by decide +kernel, rfl⟩
theorem e_X11_undo_82 : g_dc cX11_undo 82 (.aload_n 0) 1 83 := ⟨by decide +kernel, rfl⟩
theorem e_X11_undo_83 : g_dc cX11_undo 83 (.getfield 140) 3 86 := ⟨by decide +kernel, rfl⟩
theorem e_X11_undo_86 : g_dc cX11_undo 86 (.aload_n 0) 1 87 := ⟨by decide +kernel, rfl⟩
theorem e_X11_undo_87 : g_dc cX11_undo 87 (.getfield 19) 3 90 := ⟨by decide +kernel, rfl⟩
theorem e_X11_undo_90 : g_dc cX11_undo 90 (.invokestatic 509) 3 93 := ⟨by decide +kernel, rfl⟩
theorem e_X11_undo_93 : g_dc cX11_undo 93 (.aload_n 0) 1 94 := ⟨by decide +kernel, rfl⟩
theorem e_X11_undo_94 : g_dc cX11_undo 94 (.getfield 143) 3 97 := ⟨by decide +kernel, rfl⟩
theorem e_X11_undo_97 : g_dc cX11_undo 97 (.aload_n 0) 1 98 := ⟨by decide +kernel, rfl⟩
theorem e_X11_undo_98 : g_dc cX11_undo 98 (.getfield 22) 3 101 := ⟨by decide +kernel, rfl⟩
theorem e_X11_undo_101 : g_dc cX11_undo 101 (.invokestatic 509) 3 104 := ⟨by decide +kernel, rfl⟩
theorem e_X11_undo_104 : g_dc cX11_undo 104 (.aload_n 0) 1 105 := ⟨by decide +kernel, rfl⟩
theorem e_X11_undo_105 : g_dc cX11_undo 105 (.getfield 146) 3 108 := ⟨by decide +kernel, rfl⟩
theorem e_X11_undo_108 : g_dc cX11_undo 108 (.aload_n 0) 1 109 := ⟨by decide +kernel, rfl⟩
theorem e_X11_undo_109 : g_dc cX11_undo 109 (.getfield 25) 3 112 := ⟨by decide +kernel, rfl⟩
theorem e_X11_undo_112 : g_dc cX11_undo 112 (.invokestatic 509) 3 115 := ⟨by decide +kernel, rfl⟩
theorem e_X11_undo_115 : g_dc cX11_undo 115 (.aload_n 0) 1 116 := ⟨by decide +kernel, rfl⟩
theorem e_X11_undo_116 : g_dc cX11_undo 116 (.getfield 149) 3 119 := ⟨by decide +kernel, rfl⟩
theorem e_X11_undo_119 : g_dc cX11_undo 119 (.aload_n 0) 1 120 := ⟨by decide +kernel, rfl⟩
theorem e_X11_undo_120 : g_dc cX11_undo 120 (.getfield 28) 3 123 := ⟨by decide +kernel, rfl⟩
theorem e_X11_undo_123 : g_dc cX11_undo 123 (.invokestatic 509) 3 126 := ⟨by decide +kernel, rfl⟩
theorem e_X11_undo_126 : g_dc cX11_undo 126 (.aload_n 0) 1 127 := ⟨by decide +kernel, rfl⟩
theorem e_X11_undo_127 : g_dc cX11_undo 127 (.getfield 152) 3 130 := ⟨by decide +kernel, rfl⟩
theorem e_X11_undo_130 : g_dc cX11_undo 130 (.aload_n 0) 1 131 := ⟨by decide +kernel, rfl⟩
theorem e_X11_undo_131 : g_dc cX11_undo 131 (.getfield 31) 3 134 := ⟨by decide +kernel, rfl⟩
theorem e_X11_undo_134 : g_dc cX11_undo 134 (.invokestatic 509) 3 137 := ⟨by decide +kernel, rfl⟩
theorem e_X11_undo_137 : g_dc cX11_undo 137 (.iconst 1) 1 138 := ⟨by decide +kernel, rfl⟩
theorem e_X11_undo_138 : g_dc cX11_undo 138 (.ireturn) 1 139 := ⟨by decide +kernel, rfl⟩
def md_X11_undo : List Nat := [0, 1, 2, 3, 4]
def mr_X11_undo : List Nat := [1, 2, 3, 4, 5, 6, 7, 8]
set_option maxHeartbeats 4000000 in
set_option maxRecDepth 100000 in
theorem w_X11_undo (l : Launch) (X : gX) (ad : Nat → Nat) (F : Nat → Int32) (R : Nat → Nat → Int32) (hI : g_ok LK_wM F) (hA : g_okR LA_wM R) (hWT : WT F R) (hWC : WC F R) : g_Ci l X yX11_undo cX11_undo 1 (some .boolean) 2 0 0 [.ref (ad 0)] (wM X ad F R) (fun r w => ∃ (F' : Nat → Int32) (R' : Nat → Nat → Int32), w = wM X ad F' R' ∧ g_ok LK_wM F' ∧ g_okR LA_wM R' ∧ WT F' R' ∧ WC F' R' ∧ g_fr md_X11_undo F F' ∧ g_fr mr_X11_undo R R' ∧ jv 0 1 r) := by
  refine g_mi (by decide +kernel) (Nat.le_of_ble_eq_true rfl) (fun E cx hret => ?_)
  refine g_aload_n cx 0 rfl e_X11_undo_0 ?_
  refine g_get cx cl_X11 fl_X11_491 0 (.int (F 77)) e_X11_undo_1 rfl rfl ?_
  refine g_if_ne cx 9 e_X11_undo_4 (by decide) (fun zc1 => ?_) (fun zc1 => ?_)
  · have p2 := gn_neL 1 1 (gc_ne zc1) (g_ok_g hI 15 rfl) (jv_k (x := 0) 0 (by decide)) (by decide)
    refine g_aload_n cx 0 rfl e_X11_undo_9 ?_
    refine g_aload_n cx 0 rfl e_X11_undo_10 ?_
    refine g_get cx cl_X11 fl_X11_494 0 (.int (F 78)) e_X11_undo_11 rfl rfl ?_
    refine g_put cx cl_X11 fl_X11_155 0 (wM X ad (upd F 0 (F 78)) R) e_X11_undo_14 rfl rfl rfl rfl (Nat.le_of_ble_eq_true rfl) rfl ?_
    obtain ⟨F3, hF3⟩ : ∃ z, z = upd F 0 (F 78) := ⟨_, rfl⟩
    rw [← hF3]
    have oF3 : g_ok LK_wM F3 := by rw [hF3]; exact g_ok_u hI rfl
    have fF3 : g_fr md_X11_undo F F3 := by rw [hF3]; exact g_fr_u (g_fr_rf F) rfl
    have wTF3 : WT F3 R := by rw [hF3]; exact WT_u hWT rfl
    have wCF3 : WC F3 R := by rw [hF3]; exact WC_u hWC rfl
    refine g_aload_n cx 0 rfl e_X11_undo_17 ?_
    refine g_aload_n cx 0 rfl e_X11_undo_18 ?_
    refine g_get cx cl_X11 fl_X11_497 0 (.int (F3 79)) e_X11_undo_19 rfl rfl ?_
    refine g_toi (F 79) (g_pu2 hF3 rfl) ?_
    refine g_put cx cl_X11 fl_X11_159 0 (wM X ad (upd F3 1 (F 79)) R) e_X11_undo_22 rfl rfl rfl rfl (Nat.le_of_ble_eq_true rfl) rfl ?_
    obtain ⟨F4, hF4⟩ : ∃ z, z = upd F3 1 (F 79) := ⟨_, rfl⟩
    rw [← hF4]
    have oF4 : g_ok LK_wM F4 := by rw [hF4]; exact g_ok_u oF3 rfl
    have fF4 : g_fr md_X11_undo F F4 := by rw [hF4]; exact g_fr_u fF3 rfl
    have wTF4 : WT F4 R := by rw [hF4]; exact WT_u wTF3 rfl
    have wCF4 : WC F4 R := by rw [hF4]; exact WC_u wCF3 rfl
    refine g_aload_n cx 0 rfl e_X11_undo_25 ?_
    refine g_aload_n cx 0 rfl e_X11_undo_26 ?_
    refine g_get cx cl_X11 fl_X11_500 0 (.int (F4 80)) e_X11_undo_27 rfl rfl ?_
    refine g_toi (F 80) ((g_pu2 hF4 rfl).trans (g_pu2 hF3 rfl)) ?_
    refine g_put cx cl_X11 fl_X11_169 0 (wM X ad (upd F4 2 (F 80)) R) e_X11_undo_30 rfl rfl rfl rfl (Nat.le_of_ble_eq_true rfl) rfl ?_
    obtain ⟨F5, hF5⟩ : ∃ z, z = upd F4 2 (F 80) := ⟨_, rfl⟩
    rw [← hF5]
    have oF5 : g_ok LK_wM F5 := by rw [hF5]; exact g_ok_u oF4 rfl
    have fF5 : g_fr md_X11_undo F F5 := by rw [hF5]; exact g_fr_u fF4 rfl
    have wTF5 : WT F5 R := by rw [hF5]; exact WT_u wTF4 rfl
    have wCF5 : WC F5 R := by rw [hF5]; exact WC_u wCF4 rfl
    refine g_aload_n cx 0 rfl e_X11_undo_33 ?_
    refine g_aload_n cx 0 rfl e_X11_undo_34 ?_
    refine g_get cx cl_X11 fl_X11_503 0 (.int (F5 81)) e_X11_undo_35 rfl rfl ?_
    refine g_toi (F 81) (((g_pu2 hF5 rfl).trans (g_pu2 hF4 rfl)).trans (g_pu2 hF3 rfl)) ?_
    refine g_put cx cl_X11 fl_X11_162 0 (wM X ad (upd F5 3 (F 81)) R) e_X11_undo_38 rfl rfl rfl rfl (Nat.le_of_ble_eq_true rfl) rfl ?_
    obtain ⟨F6, hF6⟩ : ∃ z, z = upd F5 3 (F 81) := ⟨_, rfl⟩
    rw [← hF6]
    have oF6 : g_ok LK_wM F6 := by rw [hF6]; exact g_ok_u oF5 rfl
    have fF6 : g_fr md_X11_undo F F6 := by rw [hF6]; exact g_fr_u fF5 rfl
    have wTF6 : WT F6 R := by rw [hF6]; exact WT_u wTF5 rfl
    have wCF6 : WC F6 R := by rw [hF6]; exact WC_u wCF5 rfl
    refine g_aload_n cx 0 rfl e_X11_undo_41 ?_
    refine g_aload_n cx 0 rfl e_X11_undo_42 ?_
    refine g_get cx cl_X11 fl_X11_506 0 (.int (F6 82)) e_X11_undo_43 rfl rfl ?_
    refine g_toi (F 82) ((((g_pu2 hF6 rfl).trans (g_pu2 hF5 rfl)).trans (g_pu2 hF4 rfl)).trans (g_pu2 hF3 rfl)) ?_
    refine g_put cx cl_X11 fl_X11_172 0 (wM X ad (upd F6 4 (F 82)) R) e_X11_undo_46 rfl rfl rfl rfl (Nat.le_of_ble_eq_true rfl) rfl ?_
    obtain ⟨F7, hF7⟩ : ∃ z, z = upd F6 4 (F 82) := ⟨_, rfl⟩
    rw [← hF7]
    have oF7 : g_ok LK_wM F7 := by rw [hF7]; exact g_ok_u oF6 rfl
    have fF7 : g_fr md_X11_undo F F7 := by rw [hF7]; exact g_fr_u fF6 rfl
    have wCF7 : WC F7 R := by rw [hF7]; exact WC_u wCF6 rfl
    refine g_aload_n cx 0 rfl e_X11_undo_49 ?_
    refine g_get cx cl_X11 fl_X11_131 0 (.ref (ad 41)) e_X11_undo_50 rfl rfl ?_
    refine g_aload_n cx 0 rfl e_X11_undo_53 ?_
    refine g_get cx cl_X11 fl_X11_7 0 (.ref (ad 1)) e_X11_undo_54 rfl rfl ?_
    refine g_cSvW cx [.ref (ad 41), .ref (ad 1)] [] (w_X11_copies_r41_r1 l X ad F7 R oF7 hA wCF7) ml_X11_509 yS_X11_copies rfl e_X11_undo_57 (by unfold g_rr; decide) (by decide) rfl (Nat.le_of_ble_eq_true rfl) (fun w9 h10 => ?_)
    obtain ⟨F12, R13, rfl, oF12, oR13, wCF12, cF12, cR13, zx11⟩ := h10
    have fF12 : g_fr md_X11_undo F F12 := g_fr_c fF7 cF12 rfl
    have fR13 : g_fr mr_X11_undo R R13 := g_fr_c (g_fr_rf R) cR13 rfl
    refine g_aload_n cx 0 rfl e_X11_undo_60 ?_
    refine g_get cx cl_X11 fl_X11_134 0 (.ref (ad 42)) e_X11_undo_61 rfl rfl ?_
    refine g_aload_n cx 0 rfl e_X11_undo_64 ?_
    refine g_get cx cl_X11 fl_X11_13 0 (.ref (ad 2)) e_X11_undo_65 rfl rfl ?_
    refine g_cSvW cx [.ref (ad 42), .ref (ad 2)] [] (w_X11_copies_r42_r2 l X ad F12 R13 oF12 oR13 wCF12) ml_X11_509 yS_X11_copies rfl e_X11_undo_68 (by unfold g_rr; decide) (by decide) rfl (Nat.le_of_ble_eq_true rfl) (fun w15 h16 => ?_)
    obtain ⟨F18, R19, rfl, oF18, oR19, wCF18, cF18, cR19, zx17⟩ := h16
    have fF18 : g_fr md_X11_undo F F18 := g_fr_c fF12 cF18 rfl
    have fR19 : g_fr mr_X11_undo R R19 := g_fr_c fR13 cR19 rfl
    refine g_aload_n cx 0 rfl e_X11_undo_71 ?_
    refine g_get cx cl_X11 fl_X11_137 0 (.ref (ad 43)) e_X11_undo_72 rfl rfl ?_
    refine g_aload_n cx 0 rfl e_X11_undo_75 ?_
    refine g_get cx cl_X11 fl_X11_16 0 (.ref (ad 3)) e_X11_undo_76 rfl rfl ?_
    refine g_cSvW cx [.ref (ad 43), .ref (ad 3)] [] (w_X11_copies_r43_r3 l X ad F18 R19 oF18 oR19 wCF18) ml_X11_509 yS_X11_copies rfl e_X11_undo_79 (by unfold g_rr; decide) (by decide) rfl (Nat.le_of_ble_eq_true rfl) (fun w21 h22 => ?_)
    obtain ⟨F24, R25, rfl, oF24, oR25, wCF24, cF24, cR25, zx23⟩ := h22
    have fF24 : g_fr md_X11_undo F F24 := g_fr_c fF18 cF24 rfl
    have fR25 : g_fr mr_X11_undo R R25 := g_fr_c fR19 cR25 rfl
    refine g_aload_n cx 0 rfl e_X11_undo_82 ?_
    refine g_get cx cl_X11 fl_X11_140 0 (.ref (ad 44)) e_X11_undo_83 rfl rfl ?_
    refine g_aload_n cx 0 rfl e_X11_undo_86 ?_
    refine g_get cx cl_X11 fl_X11_19 0 (.ref (ad 4)) e_X11_undo_87 rfl rfl ?_
    refine g_cSvW cx [.ref (ad 44), .ref (ad 4)] [] (w_X11_copies_r44_r4 l X ad F24 R25 oF24 oR25 wCF24) ml_X11_509 yS_X11_copies rfl e_X11_undo_90 (by unfold g_rr; decide) (by decide) rfl (Nat.le_of_ble_eq_true rfl) (fun w27 h28 => ?_)
    obtain ⟨F30, R31, rfl, oF30, oR31, wCF30, cF30, cR31, zx29⟩ := h28
    have fF30 : g_fr md_X11_undo F F30 := g_fr_c fF24 cF30 rfl
    have fR31 : g_fr mr_X11_undo R R31 := g_fr_c fR25 cR31 rfl
    refine g_aload_n cx 0 rfl e_X11_undo_93 ?_
    refine g_get cx cl_X11 fl_X11_143 0 (.ref (ad 45)) e_X11_undo_94 rfl rfl ?_
    refine g_aload_n cx 0 rfl e_X11_undo_97 ?_
    refine g_get cx cl_X11 fl_X11_22 0 (.ref (ad 5)) e_X11_undo_98 rfl rfl ?_
    refine g_cSvW cx [.ref (ad 45), .ref (ad 5)] [] (w_X11_copies_r45_r5 l X ad F30 R31 oF30 oR31 wCF30) ml_X11_509 yS_X11_copies rfl e_X11_undo_101 (by unfold g_rr; decide) (by decide) rfl (Nat.le_of_ble_eq_true rfl) (fun w33 h34 => ?_)
    obtain ⟨F36, R37, rfl, oF36, oR37, wCF36, cF36, cR37, zx35⟩ := h34
    have fF36 : g_fr md_X11_undo F F36 := g_fr_c fF30 cF36 rfl
    have fR37 : g_fr mr_X11_undo R R37 := g_fr_c fR31 cR37 rfl
    refine g_aload_n cx 0 rfl e_X11_undo_104 ?_
    refine g_get cx cl_X11 fl_X11_146 0 (.ref (ad 46)) e_X11_undo_105 rfl rfl ?_
    refine g_aload_n cx 0 rfl e_X11_undo_108 ?_
    refine g_get cx cl_X11 fl_X11_25 0 (.ref (ad 6)) e_X11_undo_109 rfl rfl ?_
    refine g_cSvW cx [.ref (ad 46), .ref (ad 6)] [] (w_X11_copies_r46_r6 l X ad F36 R37 oF36 oR37 wCF36) ml_X11_509 yS_X11_copies rfl e_X11_undo_112 (by unfold g_rr; decide) (by decide) rfl (Nat.le_of_ble_eq_true rfl) (fun w39 h40 => ?_)
    obtain ⟨F42, R43, rfl, oF42, oR43, wCF42, cF42, cR43, zx41⟩ := h40
    have fF42 : g_fr md_X11_undo F F42 := g_fr_c fF36 cF42 rfl
    have fR43 : g_fr mr_X11_undo R R43 := g_fr_c fR37 cR43 rfl
    refine g_aload_n cx 0 rfl e_X11_undo_115 ?_
    refine g_get cx cl_X11 fl_X11_149 0 (.ref (ad 47)) e_X11_undo_116 rfl rfl ?_
    refine g_aload_n cx 0 rfl e_X11_undo_119 ?_
    refine g_get cx cl_X11 fl_X11_28 0 (.ref (ad 7)) e_X11_undo_120 rfl rfl ?_
    refine g_cSvW cx [.ref (ad 47), .ref (ad 7)] [] (w_X11_copies_r47_r7 l X ad F42 R43 oF42 oR43 wCF42) ml_X11_509 yS_X11_copies rfl e_X11_undo_123 (by unfold g_rr; decide) (by decide) rfl (Nat.le_of_ble_eq_true rfl) (fun w45 h46 => ?_)
    obtain ⟨F48, R49, rfl, oF48, oR49, wCF48, cF48, cR49, zx47⟩ := h46
    have fF48 : g_fr md_X11_undo F F48 := g_fr_c fF42 cF48 rfl
    have fR49 : g_fr mr_X11_undo R R49 := g_fr_c fR43 cR49 rfl
    refine g_aload_n cx 0 rfl e_X11_undo_126 ?_
    refine g_get cx cl_X11 fl_X11_152 0 (.ref (ad 48)) e_X11_undo_127 rfl rfl ?_
    refine g_aload_n cx 0 rfl e_X11_undo_130 ?_
    refine g_get cx cl_X11 fl_X11_31 0 (.ref (ad 8)) e_X11_undo_131 rfl rfl ?_
    refine g_cSvW cx [.ref (ad 48), .ref (ad 8)] [] (w_X11_copies_r48_r8 l X ad F48 R49 oF48 oR49 wCF48) ml_X11_509 yS_X11_copies rfl e_X11_undo_134 (by unfold g_rr; decide) (by decide) rfl (Nat.le_of_ble_eq_true rfl) (fun w51 h52 => ?_)
    obtain ⟨F54, R55, rfl, oF54, oR55, wCF54, cF54, cR55, zx53⟩ := h52
    have fF54 : g_fr md_X11_undo F F54 := g_fr_c fF48 cF54 rfl
    have fR55 : g_fr mr_X11_undo R R55 := g_fr_c fR49 cR55 rfl
    refine g_iconst cx 1 (by decide) e_X11_undo_137 ?_
    exact hret e_X11_undo_138 (Nat.le_of_ble_eq_true rfl) (Nat.le_of_ble_eq_true rfl) rfl ⟨F54, R55, rfl, oF54, oR55, (WT_undo hWT (((((((((cF54 4 rfl).trans (cF48 4 rfl)).trans (cF42 4 rfl)).trans (cF36 4 rfl)).trans (cF30 4 rfl)).trans (cF24 4 rfl)).trans (cF18 4 rfl)).trans (cF12 4 rfl)).trans (g_pu1 hF7)) (((((((((((((cF54 82 rfl).trans (cF48 82 rfl)).trans (cF42 82 rfl)).trans (cF36 82 rfl)).trans (cF30 82 rfl)).trans (cF24 82 rfl)).trans (cF18 82 rfl)).trans (cF12 82 rfl)).trans (g_pu2 hF7 rfl)).trans (g_pu2 hF6 rfl)).trans (g_pu2 hF5 rfl)).trans (g_pu2 hF4 rfl)).trans (g_pu2 hF3 rfl)) ((((((((cR55 43 rfl).trans (cR49 43 rfl)).trans (cR43 43 rfl)).trans (cR37 43 rfl)).trans (cR31 43 rfl)).trans (cR25 43 rfl)).trans (cR19 43 rfl)).trans (cR13 43 rfl)) ((((((((cR55 45 rfl).trans (cR49 45 rfl)).trans (cR43 45 rfl)).trans (cR37 45 rfl)).trans (cR31 45 rfl)).trans (cR25 45 rfl)).trans (cR19 45 rfl)).trans (cR13 45 rfl)) (fun j hj => (congrFun (((((cR55 3 rfl).trans (cR49 3 rfl)).trans (cR43 3 rfl)).trans (cR37 3 rfl)).trans (cR31 3 rfl)) j).trans ((zx23 j hj).trans (congrFun ((cR19 43 rfl).trans (cR13 43 rfl)) j))) (fun j hj => (congrFun (((cR55 5 rfl).trans (cR49 5 rfl)).trans (cR43 5 rfl)) j).trans ((zx35 j hj).trans (congrFun ((((cR31 45 rfl).trans (cR25 45 rfl)).trans (cR19 45 rfl)).trans (cR13 45 rfl)) j)))), wCF54, fF54, fR55, (jv_w (jv_k (x := 1) 1 (by decide)) (by decide))⟩
  · have p56 := gn_eq 0 0 (gc_eq zc1) (g_ok_g hI 15 rfl) (jv_k (x := 0) 0 (by decide)) (by decide)
    refine g_iconst cx 0 (by decide) e_X11_undo_7 ?_
    exact hret e_X11_undo_8 (Nat.le_of_ble_eq_true rfl) (Nat.le_of_ble_eq_true rfl) rfl ⟨F, R, rfl, hI, hA, hWT, hWC, (g_fr_rf F), (g_fr_rf R), (jv_w (jv_k (x := 0) 0 (by decide)) (by decide))⟩
theorem e_X11_tapeNumber_0 : g_dc cX11_tapeNumber 0 (.iconst 0) 1 1 := ⟨by decide +kernel, rfl⟩
theorem e_X11_tapeNumber_1 : g_dc cX11_tapeNumber 1 (.istore_n 2) 1 2 := ⟨by decide +kernel, rfl⟩
theorem e_X11_tapeNumber_2 : g_dc cX11_tapeNumber 2 (.iconst 4) 1 3 := ⟨by decide +kernel, rfl⟩
theorem e_X11_tapeNumber_3 : g_dc cX11_tapeNumber 3 (.iload_n 1) 1 4 := ⟨by decide +kernel, rfl⟩
theorem e_X11_tapeNumber_4 : g_dc cX11_tapeNumber 4 (.imul) 1 5 := ⟨by decide +kernel, rfl⟩
theorem e_X11_tapeNumber_5 : g_dc cX11_tapeNumber 5 (.istore_n 3) 1 6 := ⟨by decide +kernel, rfl⟩
theorem e_X11_tapeNumber_6 : g_dc cX11_tapeNumber 6 (.iload_n 3) 1 7 := ⟨by decide +kernel, rfl⟩
theorem e_X11_tapeNumber_7 : g_dc cX11_tapeNumber 7 (.iconst 4) 1 8 := ⟨by decide +kernel, rfl⟩
theorem e_X11_tapeNumber_8 : g_dc cX11_tapeNumber 8 (.iload_n 1) 1 9 := ⟨by decide +kernel, rfl⟩
theorem e_X11_tapeNumber_9 : g_dc cX11_tapeNumber 9 (.imul) 1 10 := ⟨by decide +kernel, rfl⟩
theorem e_X11_tapeNumber_10 : g_dc cX11_tapeNumber 10 (.iconst 4) 1 11 := ⟨by decide +kernel, rfl⟩
theorem e_X11_tapeNumber_11 : g_dc cX11_tapeNumber 11 (.iadd) 1 12 := ⟨by decide +kernel, rfl⟩
theorem e_X11_tapeNumber_12 : g_dc cX11_tapeNumber 12 (.if_icmp .ge 25) 3 15 := ⟨by decide +kernel, rfl⟩
theorem e_X11_tapeNumber_15 : g_dc cX11_tapeNumber 15 (.iload_n 2) 1 16 := ⟨by decide +kernel, rfl⟩
theorem e_X11_tapeNumber_16 : g_dc cX11_tapeNumber 16 (.bipush 8) 2 18 := ⟨by decide +kernel, rfl⟩
theorem e_X11_tapeNumber_18 : g_dc cX11_tapeNumber 18 (.ishl) 1 19 := ⟨by decide +kernel, rfl⟩
theorem e_X11_tapeNumber_19 : g_dc cX11_tapeNumber 19 (.aload_n 0) 1 20 := ⟨by decide +kernel, rfl⟩
theorem e_X11_tapeNumber_20 : g_dc cX11_tapeNumber 20 (.getfield 34) 3 23 := ⟨by decide +kernel, rfl⟩
theorem e_X11_tapeNumber_23 : g_dc cX11_tapeNumber 23 (.iload_n 3) 1 24 := ⟨by decide +kernel, rfl⟩
theorem e_X11_tapeNumber_24 : g_dc cX11_tapeNumber 24 (.baload) 1 25 := ⟨by decide +kernel, rfl⟩
theorem e_X11_tapeNumber_25 : g_dc cX11_tapeNumber 25 (.sipush 255) 3 28 := ⟨by decide +kernel, rfl⟩
theorem e_X11_tapeNumber_28 : g_dc cX11_tapeNumber 28 (.iand) 1 29 := ⟨by decide +kernel, rfl⟩
theorem e_X11_tapeNumber_29 : g_dc cX11_tapeNumber 29 (.ior) 1 30 := ⟨by decide +kernel, rfl⟩
theorem e_X11_tapeNumber_30 : g_dc cX11_tapeNumber 30 (.istore_n 2) 1 31 := ⟨by decide +kernel, rfl⟩
theorem e_X11_tapeNumber_31 : g_dc cX11_tapeNumber 31 (.iinc 3 1) 3 34 := ⟨by decide +kernel, rfl⟩
theorem e_X11_tapeNumber_34 : g_dc cX11_tapeNumber 34 (.goto (-28)) 3 37 := ⟨by decide +kernel, rfl⟩
theorem e_X11_tapeNumber_37 : g_dc cX11_tapeNumber 37 (.iload_n 2) 1 38 := ⟨by decide +kernel, rfl⟩
theorem e_X11_tapeNumber_38 : g_dc cX11_tapeNumber 38 (.ireturn) 1 39 := ⟨by decide +kernel, rfl⟩
set_option maxHeartbeats 4000000 in
set_option maxRecDepth 100000 in
theorem w_X11_tapeNumber (l : Launch) (X : gX) (ad : Nat → Nat) (F : Nat → Int32) (R : Nat → Nat → Int32) (hI : g_ok LK_wM F) (hA : g_okR LA_wM R) (hWT : WT F R) (hWC : WC F R) (a0 : Int32) (pa0 : jv 0 9 a0) : g_Ci l X yX11_tapeNumber cX11_tapeNumber 4 (some .int) 1 0 0 [.ref (ad 0), .int a0] (wM X ad F R) (fun r w => w = wM X ad F R ∧ jv (-2147483648) 2147483647 r) := by
  refine g_mi (by decide +kernel) (Nat.le_of_ble_eq_true rfl) (fun E cx hret => ?_)
  refine g_iconst cx 0 (by decide) e_X11_tapeNumber_0 ?_
  refine g_istore_n cx [(2, .int 0), (0, .ref (ad 0)), (1, .int a0)] e_X11_tapeNumber_1 (by decide) rfl ?_
  refine g_iconst cx 4 (by decide) e_X11_tapeNumber_2 ?_
  refine g_iload_n cx 2 rfl e_X11_tapeNumber_3 ?_
  refine g_imul cx e_X11_tapeNumber_4 ?_
  refine g_topi (fun x1 ex1 => ?_)
  have zx1 := jv_mul 0 36 ex1 (jv_k (x := 4) 4 (by decide)) pa0 (by decide)
  refine g_istore_n cx [(3, .int x1), (2, .int 0), (0, .ref (ad 0)), (1, .int a0)] e_X11_tapeNumber_5 (by decide) rfl ?_
  have J6 : ∀ (N : Nat) (y2 : Int32) (y3 : Int32), (jv (-2147483648) 2147483647 y2) → (jv 0 40 y3) → (2147483647 - y3.toInt).toNat < N → G X E 4 0 0 (wM X ad F R) [(0, .ref (ad 0)), (1, .int a0), (2, .int y2), (3, .int y3)] 6 [] := by
    intro N
    induction N with
    | zero => intro y2 y3 py2 py3 hm; exact absurd hm (Nat.not_lt_zero _)
    | succ N ih6 =>
      intro y2 y3 py2 py3 hm6
      refine g_iload_n cx 3 rfl e_X11_tapeNumber_6 ?_
      refine g_iconst cx 4 (by decide) e_X11_tapeNumber_7 ?_
      refine g_iload_n cx 1 rfl e_X11_tapeNumber_8 ?_
      refine g_imul cx e_X11_tapeNumber_9 ?_
      refine g_topi (fun x4 ex4 => ?_)
      have zx4 := jv_mul 0 36 ex4 (jv_k (x := 4) 4 (by decide)) pa0 (by decide)
      refine g_iconst cx 4 (by decide) e_X11_tapeNumber_10 ?_
      refine g_iadd cx e_X11_tapeNumber_11 ?_
      refine g_topi (fun x5 ex5 => ?_)
      have zx5 := jv_add 4 40 ex5 zx4.2 (jv_k (x := 4) 4 (by decide)) (by decide)
      refine g_icmp_ge cx 37 e_X11_tapeNumber_12 (by decide) (fun zc6 => ?_) (fun zc6 => ?_)
      · have p7 := gn_ge 4 40 (gc_le zc6) py3 zx5.2 (by decide)
        refine g_iload_n cx 2 rfl e_X11_tapeNumber_37 ?_
        exact hret e_X11_tapeNumber_38 (Nat.le_of_ble_eq_true rfl) (Nat.le_of_ble_eq_true rfl) rfl ⟨rfl, py2⟩
      · have p8 := gn_lt 0 39 (gc_nle zc6) py3 zx5.2 (by decide)
        refine g_iload_n cx 2 rfl e_X11_tapeNumber_15 ?_
        refine g_bipush cx 8 (by decide) e_X11_tapeNumber_16 ?_
        refine g_ishl cx e_X11_tapeNumber_18 ?_
        refine g_topi (fun x9 ex9 => ?_)
        refine g_aload_n cx 0 rfl e_X11_tapeNumber_19 ?_
        refine g_get cx cl_X11 fl_X11_34 0 (.ref (ad 9)) e_X11_tapeNumber_20 rfl rfl ?_
        refine g_iload_n cx 3 rfl e_X11_tapeNumber_23 ?_
        refine g_bald cx 9 e_X11_tapeNumber_24 rfl (jv_ix 220 p8 (by decide)) ?_
        refine g_topi (fun x10 ex10 => ?_)
        refine g_sipush cx 255 (by decide) e_X11_tapeNumber_25 ?_
        refine g_iand cx e_X11_tapeNumber_28 ?_
        refine g_topi (fun x11 ex11 => ?_)
        have px11 := jv_and 0 255 ex11 (jv_k (x := 255) 255 (by decide)) (by decide)
        refine g_ior cx e_X11_tapeNumber_29 ?_
        refine g_topi (fun x12 ex12 => ?_)
        refine g_istore_n cx [(2, .int x12), (0, .ref (ad 0)), (1, .int a0), (3, .int y3)] e_X11_tapeNumber_30 (by decide) rfl ?_
        obtain ⟨x13, ex13⟩ : ∃ z : Int32, z = y3 + Int32.ofInt 1 := ⟨_, rfl⟩
        refine g_iinc cx x13 [(3, .int x13), (2, .int x12), (0, .ref (ad 0)), (1, .int a0)] 3 e_X11_tapeNumber_31 rfl ex13.symm (by decide) rfl ?_
        have zx13 := jv_add 1 40 (show x13 = y3 + 1 from ex13) p8 (jv_k (x := 1) 1 (by decide)) (by decide)
        refine g_goto cx 6 e_X11_tapeNumber_34 (by decide) ?_
        refine g_lsub [2, 3, 1, 0] [(0, .ref (ad 0)), (1, .int a0), (2, .int x12), (3, .int x13)] rfl ?_
        exact ih6 x12 x13 (jv_t x12) (jv_w zx13.2 (by decide)) (Nat.lt_of_lt_of_le (show (2147483647 - x13.toInt).toNat < (2147483647 - y3.toInt).toNat from by have q0 := (jv_k (x := 1) 1 (by decide)).1; have q1 := (jv_k (x := 1) 1 (by decide)).2; have q2 := (jv_k (x := 4) 4 (by decide)).1; have q3 := (jv_k (x := 4) 4 (by decide)).2; have q4 := pa0.1; have q5 := pa0.2; have q6 := zx1.2.1; have q7 := zx1.2.2; have q8 := zx13.2.1; have q9 := zx13.2.2; have q10 := zx4.2.1; have q11 := zx4.2.2; have q12 := zx5.2.1; have q13 := zx5.2.2; have q14 := p8.1; have q15 := p8.2; have q16 := (g_em2 zx1.1 (by decide : Int32.toInt 4 = 4)); have q17 := (g_em2 zx4.1 (by decide : Int32.toInt 4 = 4)); have q18 := (g_eq0 zx5.1); have q19 := (gc_nle zc6); have q20 := (g_eq0 zx13.1); omega) (Nat.le_of_lt_succ hm6))
  refine g_lsub [2, 3, 1, 0] [(0, .ref (ad 0)), (1, .int a0), (2, .int 0), (3, .int x1)] rfl ?_
  exact J6 _ 0 x1 (jv_w (jv_k (x := 0) 0 (by decide)) (by decide)) (jv_w zx1.2 (by decide)) (Nat.lt_succ_self _)
theorem e_X11_check_0 : g_dc cX11_check 0 (.iload_n 1) 1 1 := ⟨by decide +kernel, rfl⟩
theorem e_X11_check_1 : g_dc cX11_check 1 (.iconst 0) 1 2 := ⟨by decide +kernel, rfl⟩
theorem e_X11_check_2 : g_dc cX11_check 2 (.bipush 10) 2 4 := ⟨by decide +kernel, rfl⟩
theorem e_X11_check_4 : g_dc cX11_check 4 (.invokestatic 165) 3 7 := ⟨by decide +kernel, rfl⟩
theorem e_X11_check_7 : g_dc cX11_check 7 (.ifCond .eq 13) 3 10 := ⟨by decide +kernel, rfl⟩
theorem e_X11_check_10 : g_dc cX11_check 10 (.iload_n 1) 1 11 := ⟨by decide +kernel, rfl⟩
theorem e_X11_check_11 : g_dc cX11_check 11 (.aload_n 0) 1 12 := ⟨by decide +kernel, rfl⟩
theorem e_X11_check_12 : g_dc cX11_check 12 (.getfield 183) 3 15 := ⟨by decide +kernel, rfl⟩
theorem e_X11_check_15 : g_dc cX11_check 15 (.iconst 4) 1 16 := ⟨by decide +kernel, rfl⟩
theorem e_X11_check_16 : g_dc cX11_check 16 (.idiv) 1 17 := ⟨by decide +kernel, rfl⟩
theorem e_X11_check_17 : g_dc cX11_check 17 (.if_icmp .le 6) 3 20 := ⟨by decide +kernel, rfl⟩
theorem e_X11_check_20 : g_dc cX11_check 20 (.bipush (-2)) 2 22 := ⟨by decide +kernel, rfl⟩
theorem e_X11_check_22 : g_dc cX11_check 22 (.ireturn) 1 23 := ⟨by decide +kernel, rfl⟩
theorem e_X11_check_23 : g_dc cX11_check 23 (.aload_n 0) 1 24 := ⟨by decide +kernel, rfl⟩
theorem e_X11_check_24 : g_dc cX11_check 24 (.iconst 0) 1 25 := ⟨by decide +kernel, rfl⟩
theorem e_X11_check_25 : g_dc cX11_check 25 (.putfield 183) 3 28 := ⟨by decide +kernel, rfl⟩
theorem e_X11_check_28 : g_dc cX11_check 28 (.iconst 0) 1 29 := ⟨by decide +kernel, rfl⟩
theorem e_X11_check_29 : g_dc cX11_check 29 (.istore_n 2) 1 30 := ⟨by decide +kernel, rfl⟩
theorem e_X11_check_30 : g_dc cX11_check 30 (.iload_n 2) 1 31 := ⟨by decide +kernel, rfl⟩
theorem e_X11_check_31 : g_dc cX11_check 31 (.iload_n 1) 1 32 := ⟨by decide +kernel, rfl⟩
theorem e_X11_check_32 : g_dc cX11_check 32 (.if_icmp .ge 40) 3 35 := ⟨by decide +kernel, rfl⟩
theorem e_X11_check_35 : g_dc cX11_check 35 (.aload_n 0) 1 36 := ⟨by decide +kernel, rfl⟩
theorem e_X11_check_36 : g_dc cX11_check 36 (.iload_n 2) 1 37 := ⟨by decide +kernel, rfl⟩
theorem e_X11_check_37 : g_dc cX11_check 37 (.invokevirtual 513) 3 40 := ⟨by decide +kernel, rfl⟩
theorem e_X11_check_40 : g_dc cX11_check 40 (.aload_n 0) 1 41 := ⟨by decide +kernel, rfl⟩
theorem e_X11_check_41 : g_dc cX11_check 41 (.getfield 172) 3 44 := ⟨by decide +kernel, rfl⟩
theorem e_X11_check_44 : g_dc cX11_check 44 (.iload_n 2) 1 45 := ⟨by decide +kernel, rfl⟩
theorem e_X11_check_45 : g_dc cX11_check 45 (.invokestatic 175) 3 48 := ⟨by decide +kernel, rfl⟩
theorem e_X11_check_48 : g_dc cX11_check 48 (.ifCond .eq 12) 3 51 := ⟨by decide +kernel, rfl⟩
theorem e_X11_check_51 : g_dc cX11_check 51 (.aload_n 0) 1 52 := ⟨by decide +kernel, rfl⟩
theorem e_X11_check_52 : g_dc cX11_check 52 (.getfield 13) 3 55 := ⟨by decide +kernel, rfl⟩
theorem e_X11_check_55 : g_dc cX11_check 55 (.iload_n 2) 1 56 := ⟨by decide +kernel, rfl⟩
theorem e_X11_check_56 : g_dc cX11_check 56 (.iaload) 1 57 := ⟨by decide +kernel, rfl⟩
theorem e_X11_check_57 : g_dc cX11_check 57 (.goto 4) 3 60 := ⟨by decide +kernel, rfl⟩
theorem e_X11_check_60 : g_dc cX11_check 60 (.iconst 0) 1 61 := ⟨by decide +kernel, rfl⟩
theorem e_X11_check_61 : g_dc cX11_check 61 (.if_icmp .eq 5) 3 64 := ⟨by decide +kernel, rfl⟩
theorem e_X11_check_64 : g_dc cX11_check 64 (.iload_n 2) 1 65 := ⟨by decide +kernel, rfl⟩
theorem e_X11_check_65 : g_dc cX11_check 65 (.ireturn) 1 66 := ⟨by decide +kernel, rfl⟩
theorem e_X11_check_66 : g_dc cX11_check 66 (.iinc 2 1) 3 69 := ⟨by decide +kernel, rfl⟩
theorem e_X11_check_69 : g_dc cX11_check 69 (.goto (-39)) 3 72 := ⟨by decide +kernel, rfl⟩
theorem e_X11_check_72 : g_dc cX11_check 72 (.iconst (-1)) 1 73 := ⟨by decide +kernel, rfl⟩
theorem e_X11_check_73 : g_dc cX11_check 73 (.ireturn) 1 74 := ⟨by decide +kernel, rfl⟩
def md_X11_check : List Nat := [14]
def mr_X11_check : List Nat := []
set_option maxHeartbeats 4000000 in
set_option maxRecDepth 100000 in
theorem w_X11_check (l : Launch) (X : gX) (ad : Nat → Nat) (F : Nat → Int32) (R : Nat → Nat → Int32) (hI : g_ok LK_wM F) (hA : g_okR LA_wM R) (hWT : WT F R) (hWC : WC F R) (a0 : Int32) : g_Ci l X yX11_check cX11_check 3 (some .int) 2 0 0 [.ref (ad 0), .int a0] (wM X ad F R) (fun r w => ∃ (F' : Nat → Int32) (R' : Nat → Nat → Int32), w = wM X ad F' R' ∧ g_ok LK_wM F' ∧ g_okR LA_wM R' ∧ WT F' R' ∧ WC F' R' ∧ g_fr md_X11_check F F' ∧ g_fr mr_X11_check R R' ∧ jv (-2) 9 r) := by
  refine g_mi (by decide +kernel) (Nat.le_of_ble_eq_true rfl) (fun E cx hret => ?_)
  refine g_iload_n cx 1 rfl e_X11_check_0 ?_
  refine g_iconst cx 0 (by decide) e_X11_check_1 ?_
  refine g_bipush cx 10 (by decide) e_X11_check_2 ?_
  refine g_cSiW cx [.int a0, .int 0, .int 10] [] (c_X11_in l X (wM X ad F R) a0 0 10) ml_X11_165 yS_X11_in rfl e_X11_check_4 (by unfold g_rr; decide) (by decide) rfl (Nat.le_of_ble_eq_true rfl) (fun r1 w2 h3 => ?_)
  obtain ⟨rfl, hr1⟩ := h3
  have pr1 : jv 0 1 r1 := by rw [hr1]; exact gi_01 _ _ _
  have J20 : G X E 3 0 0 (wM X ad F R) [] 20 [] := by
    refine g_bipush cx (-2) (by decide) e_X11_check_20 ?_
    exact hret e_X11_check_22 (Nat.le_of_ble_eq_true rfl) (Nat.le_of_ble_eq_true rfl) rfl ⟨F, R, rfl, hI, hA, hWT, hWC, (g_fr_rf F), (g_fr_rf R), (jv_w (jv_k (x := (-2)) (-2) (by decide)) (by decide))⟩
  refine g_if_eq cx 20 e_X11_check_7 (by decide) (fun zc4 => ?_) (fun zc4 => ?_)
  · have p5 := gn_eq 0 0 (gc_eq zc4) pr1 (jv_k (x := 0) 0 (by decide)) (by decide)
    refine g_lsub [] [] rfl ?_
    exact J20  
  · have p6 := gn_neL 1 1 (gc_ne zc4) pr1 (jv_k (x := 0) 0 (by decide)) (by decide)
    have p7 := jv_i 0 10 (jv_t a0) (gi_in (A := 0) (B := 10) hr1 zc4 (by decide) (by decide)) (by decide)
    refine g_iload_n cx 1 rfl e_X11_check_10 ?_
    refine g_aload_n cx 0 rfl e_X11_check_11 ?_
    refine g_get cx cl_X11 fl_X11_183 0 (.int (F 14)) e_X11_check_12 rfl rfl ?_
    refine g_iconst cx 4 (by decide) e_X11_check_15 ?_
    refine g_idiv cx (by decide) e_X11_check_16 ?_
    refine g_topi (fun x8 ex8 => ?_)
    have zx8 := jv_div 0 55 ex8 (g_ok_g hI 0 rfl) (jv_k (x := 4) 4 (by decide)) (by decide)
    refine g_icmp_le cx 23 e_X11_check_17 (by decide) (fun zc9 => ?_) (fun zc9 => ?_)
    · refine g_aload_n cx 0 rfl e_X11_check_23 ?_
      refine g_iconst cx 0 (by decide) e_X11_check_24 ?_
      refine g_put cx cl_X11 fl_X11_183 0 (wM X ad (upd F 14 0) R) e_X11_check_25 rfl rfl rfl rfl (Nat.le_of_ble_eq_true rfl) rfl ?_
      obtain ⟨F10, hF10⟩ : ∃ z, z = upd F 14 0 := ⟨_, rfl⟩
      rw [← hF10]
      have oF10 : g_ok LK_wM F10 := by rw [hF10]; exact g_ok_p hI (jv_k (x := 0) 0 (by decide)) rfl
      have fF10 : g_fr md_X11_check F F10 := by rw [hF10]; exact g_fr_u (g_fr_rf F) rfl
      have wTF10 : WT F10 R := by rw [hF10]; exact WT_u hWT rfl
      have wCF10 : WC F10 R := by rw [hF10]; exact WC_u hWC rfl
      refine g_iconst cx 0 (by decide) e_X11_check_28 ?_
      refine g_istore_n cx [(2, .int 0), (0, .ref (ad 0)), (1, .int a0)] e_X11_check_29 (by decide) rfl ?_
      have J30 : ∀ (N : Nat) (y11 : Int32), (jv 0 10 y11) → (2147483647 - y11.toInt).toNat < N → G X E 3 0 0 (wM X ad F10 R) [(0, .ref (ad 0)), (1, .int a0), (2, .int y11)] 30 [] := by
        intro N
        induction N with
        | zero => intro y11 py11 hm; exact absurd hm (Nat.not_lt_zero _)
        | succ N ih30 =>
          intro y11 py11 hm30
          refine g_iload_n cx 2 rfl e_X11_check_30 ?_
          refine g_iload_n cx 1 rfl e_X11_check_31 ?_
          refine g_icmp_ge cx 72 e_X11_check_32 (by decide) (fun zc12 => ?_) (fun zc12 => ?_)
          · refine g_iconst cx (-1) (by decide) e_X11_check_72 ?_
            exact hret e_X11_check_73 (Nat.le_of_ble_eq_true rfl) (Nat.le_of_ble_eq_true rfl) rfl ⟨F10, R, rfl, oF10, hA, wTF10, wCF10, fF10, (g_fr_rf R), (jv_w (jv_k (x := (-1)) (-1) (by decide)) (by decide))⟩
          · have p13 := gn_lt 0 9 (gc_nle zc12) py11 p7 (by decide)
            have p14 := gn_gt 1 10 (gc_nle zc12) p7 py11 (by decide)
            refine g_aload_n cx 0 rfl e_X11_check_35 ?_
            refine g_iload_n cx 2 rfl e_X11_check_36 ?_
            refine g_cViW cx [.int y11] [] (w_X11_tapeNumber l X ad F10 R oF10 hA wTF10 wCF10 y11 p13) ml_X11_513 yV_X11_tapeNumber e_X11_check_37 (by unfold g_rr; decide) (by decide) 0 rfl rfl rfl (Nat.le_of_ble_eq_true rfl) (fun r15 w16 h17 => ?_)
            obtain ⟨rfl, pr15⟩ := h17
            refine g_aload_n cx 0 rfl e_X11_check_40 ?_
            refine g_get cx cl_X11 fl_X11_172 0 (.int (F10 4)) e_X11_check_41 rfl rfl ?_
            refine g_toi (F 4) (g_pu2 hF10 rfl) ?_
            refine g_iload_n cx 2 rfl e_X11_check_44 ?_
            refine g_cSiW cx [.int (F 4), .int y11] [.int r15] (c_X11_has l X (wM X ad F10 R) (F 4) y11) ml_X11_175 yS_X11_has rfl e_X11_check_45 (by unfold g_rr; decide) (by decide) rfl (Nat.le_of_ble_eq_true rfl) (fun r18 w19 h20 => ?_)
            obtain ⟨rfl, hr18⟩ := h20
            have pr18 : jv 0 1 r18 := by rcases hr18 with q | q <;> rw [q.1] <;> exact ⟨by decide, by decide⟩
            have J61 : ∀ (y21 : Int32), (jv (-2147483648) 2147483647 y21) → G X E 3 0 0 (wM X ad F10 R) [(0, .ref (ad 0)), (1, .int a0), (2, .int y11)] 61 [.int y21, .int r15] := by
              intro y21 py21
              refine g_icmp_eq cx 66 e_X11_check_61 (by decide) (fun zc22 => ?_) (fun zc22 => ?_)
              · obtain ⟨x23, ex23⟩ : ∃ z : Int32, z = y11 + Int32.ofInt 1 := ⟨_, rfl⟩
                refine g_iinc cx x23 [(2, .int x23), (0, .ref (ad 0)), (1, .int a0)] 2 e_X11_check_66 rfl ex23.symm (by decide) rfl ?_
                have zx23 := jv_add 1 10 (show x23 = y11 + 1 from ex23) p13 (jv_k (x := 1) 1 (by decide)) (by decide)
                refine g_goto cx 30 e_X11_check_69 (by decide) ?_
                refine g_lsub [1, 2, 0] [(0, .ref (ad 0)), (1, .int a0), (2, .int x23)] rfl ?_
                exact ih30 x23 (jv_w zx23.2 (by decide)) (Nat.lt_of_lt_of_le (show (2147483647 - x23.toInt).toNat < (2147483647 - y11.toInt).toNat from by have q0 := (jv_k (x := 1) 1 (by decide)).1; have q1 := (jv_k (x := 1) 1 (by decide)).2; have q2 := (g_ok_g hI 0 rfl).1; have q3 := (g_ok_g hI 0 rfl).2; have q4 := p14.1; have q5 := p14.2; have q6 := zx23.2.1; have q7 := zx23.2.2; have q8 := zx8.2.1; have q9 := zx8.2.2; have q10 := p13.1; have q11 := p13.2; have q12 := (g_ed zx8.1 (by decide : Int32.toInt 4 = 4)); have q13 := (gc_le zc9); have q14 := (gc_nle zc12); have q15 := (g_eq0 zx23.1); omega) (Nat.le_of_lt_succ hm30))
              · refine g_iload_n cx 2 rfl e_X11_check_64 ?_
                exact hret e_X11_check_65 (Nat.le_of_ble_eq_true rfl) (Nat.le_of_ble_eq_true rfl) rfl ⟨F10, R, rfl, oF10, hA, wTF10, wCF10, fF10, (g_fr_rf R), (jv_w p13 (by decide))⟩
            refine g_if_eq cx 60 e_X11_check_48 (by decide) (fun zc24 => ?_) (fun zc24 => ?_)
            · have p25 := gn_eq 0 0 (gc_eq zc24) pr18 (jv_k (x := 0) 0 (by decide)) (by decide)
              refine g_iconst cx 0 (by decide) e_X11_check_60 ?_
              exact J61 0 (jv_w (jv_k (x := 0) 0 (by decide)) (by decide))
            · have p26 := gn_neL 1 1 (gc_ne zc24) pr18 (jv_k (x := 0) 0 (by decide)) (by decide)
              have zb27 : hb (F 4) y11 := g_hasy hr18 zc24
              refine g_aload_n cx 0 rfl e_X11_check_51 ?_
              refine g_get cx cl_X11 fl_X11_13 0 (.ref (ad 2)) e_X11_check_52 rfl rfl ?_
              refine g_iload_n cx 2 rfl e_X11_check_55 ?_
              refine g_iald cx 2 e_X11_check_56 rfl (jv_ix 10 p13 (by decide)) ?_
              refine g_topi (fun x28 ex28 => ?_)
              refine g_goto cx 61 e_X11_check_57 (by decide) ?_
              exact J61 x28 (jv_t x28)
      refine g_lsub [1, 2, 0] [(0, .ref (ad 0)), (1, .int a0), (2, .int 0)] rfl ?_
      exact J30 _ 0 (jv_w (jv_k (x := 0) 0 (by decide)) (by decide)) (Nat.lt_succ_self _)
    · have p29 := gn_lt 0 9 (gc_nle zc9) zx8.2 p7 (by decide)
      have p30 := gn_gt 1 10 (gc_nle zc9) p7 zx8.2 (by decide)
      refine g_lsub [] [] rfl ?_
      exact J20  
theorem e_X11_count_0 : g_dc cX11_count 0 (.iload_n 1) 1 1 := ⟨by decide +kernel, rfl⟩
theorem e_X11_count_1 : g_dc cX11_count 1 (.tableswitch 87 0 7 #[47, 52, 57, 62, 67, 72, 77, 82]) 47 48 := ⟨by decide +kernel, rfl⟩
theorem e_X11_count_48 : g_dc cX11_count 48 (.aload_n 0) 1 49 := ⟨by decide +kernel, rfl⟩
theorem e_X11_count_49 : g_dc cX11_count 49 (.getfield 155) 3 52 := ⟨by decide +kernel, rfl⟩
theorem e_X11_count_52 : g_dc cX11_count 52 (.ireturn) 1 53 := ⟨by decide +kernel, rfl⟩
theorem e_X11_count_53 : g_dc cX11_count 53 (.aload_n 0) 1 54 := ⟨by decide +kernel, rfl⟩
theorem e_X11_count_54 : g_dc cX11_count 54 (.getfield 159) 3 57 := ⟨by decide +kernel, rfl⟩
theorem e_X11_count_57 : g_dc cX11_count 57 (.ireturn) 1 58 := ⟨by decide +kernel, rfl⟩
theorem e_X11_count_58 : g_dc cX11_count 58 (.aload_n 0) 1 59 := ⟨by decide +kernel, rfl⟩
theorem e_X11_count_59 : g_dc cX11_count 59 (.getfield 169) 3 62 := ⟨by decide +kernel, rfl⟩
theorem e_X11_count_62 : g_dc cX11_count 62 (.ireturn) 1 63 := ⟨by decide +kernel, rfl⟩
theorem e_X11_count_63 : g_dc cX11_count 63 (.aload_n 0) 1 64 := ⟨by decide +kernel, rfl⟩
theorem e_X11_count_64 : g_dc cX11_count 64 (.getfield 172) 3 67 := ⟨by decide +kernel, rfl⟩
theorem e_X11_count_67 : g_dc cX11_count 67 (.ireturn) 1 68 := ⟨by decide +kernel, rfl⟩
theorem e_X11_count_68 : g_dc cX11_count 68 (.aload_n 0) 1 69 := ⟨by decide +kernel, rfl⟩
theorem e_X11_count_69 : g_dc cX11_count 69 (.getfield 228) 3 72 := ⟨by decide +kernel, rfl⟩
theorem e_X11_count_72 : g_dc cX11_count 72 (.ireturn) 1 73 := ⟨by decide +kernel, rfl⟩
theorem e_X11_count_73 : g_dc cX11_count 73 (.aload_n 0) 1 74 := ⟨by decide +kernel, rfl⟩
theorem e_X11_count_74 : g_dc cX11_count 74 (.getfield 298) 3 77 := ⟨by decide +kernel, rfl⟩
theorem e_X11_count_77 : g_dc cX11_count 77 (.ireturn) 1 78 := ⟨by decide +kernel, rfl⟩
theorem e_X11_count_78 : g_dc cX11_count 78 (.aload_n 0) 1 79 := ⟨by decide +kernel, rfl⟩
theorem e_X11_count_79 : g_dc cX11_count 79 (.getfield 183) 3 82 := ⟨by decide +kernel, rfl⟩
theorem e_X11_count_82 : g_dc cX11_count 82 (.ireturn) 1 83 := ⟨by decide +kernel, rfl⟩
theorem e_X11_count_83 : g_dc cX11_count 83 (.aload_n 0) 1 84 := ⟨by decide +kernel, rfl⟩
theorem e_X11_count_84 : g_dc cX11_count 84 (.getfield 162) 3 87 := ⟨by decide +kernel, rfl⟩
theorem e_X11_count_87 : g_dc cX11_count 87 (.ireturn) 1 88 := ⟨by decide +kernel, rfl⟩
theorem e_X11_count_88 : g_dc cX11_count 88 (.iload_n 1) 1 89 := ⟨by decide +kernel, rfl⟩
theorem e_X11_count_89 : g_dc cX11_count 89 (.bipush 100) 2 91 := ⟨by decide +kernel, rfl⟩
theorem e_X11_count_91 : g_dc cX11_count 91 (.bipush 99) 2 93 := ⟨by decide +kernel, rfl⟩
theorem e_X11_count_93 : g_dc cX11_count 93 (.aload_n 0) 1 94 := ⟨by decide +kernel, rfl⟩
theorem e_X11_count_94 : g_dc cX11_count 94 (.getfield 228) 3 97 := ⟨by decide +kernel, rfl⟩
theorem e_X11_count_97 : g_dc cX11_count 97 (.iadd) 1 98 := ⟨by decide +kernel, rfl⟩
theorem e_X11_count_98 : g_dc cX11_count 98 (.invokestatic 165) 3 101 := ⟨by decide +kernel, rfl⟩
theorem e_X11_count_101 : g_dc cX11_count 101 (.ifCond .eq 15) 3 104 := ⟨by decide +kernel, rfl⟩
theorem e_X11_count_104 : g_dc cX11_count 104 (.aload_n 0) 1 105 := ⟨by decide +kernel, rfl⟩
theorem e_X11_count_105 : g_dc cX11_count 105 (.getfield 38) 3 108 := ⟨by decide +kernel, rfl⟩
theorem e_X11_count_108 : g_dc cX11_count 108 (.iload_n 1) 1 109 := ⟨by decide +kernel, rfl⟩
theorem e_X11_count_109 : g_dc cX11_count 109 (.bipush 100) 2 111 := ⟨by decide +kernel, rfl⟩
theorem e_X11_count_111 : g_dc cX11_count 111 (.isub) 1 112 := ⟨by decide +kernel, rfl⟩
theorem e_X11_count_112 : g_dc cX11_count 112 (.iaload) 1 113 := ⟨by decide +kernel, rfl⟩
theorem e_X11_count_113 : g_dc cX11_count 113 (.goto 4) 3 116 := ⟨by decide +kernel, rfl⟩
theorem e_X11_count_116 : g_dc cX11_count 116 (.iconst (-1)) 1 117 := ⟨by decide +kernel, rfl⟩
theorem e_X11_count_117 : g_dc cX11_count 117 (.ireturn) 1 118 := ⟨by decide +kernel, rfl⟩
set_option maxHeartbeats 4000000 in
set_option maxRecDepth 100000 in
theorem w_X11_count (l : Launch) (X : gX) (ad : Nat → Nat) (F : Nat → Int32) (R : Nat → Nat → Int32) (hI : g_ok LK_wM F) (hA : g_okR LA_wM R) (hWT : WT F R) (hWC : WC F R) (a0 : Int32) : g_Ci l X yX11_count cX11_count 2 (some .int) 2 0 0 [.ref (ad 0), .int a0] (wM X ad F R) (fun r w => w = wM X ad F R ∧ jv (-2147483648) 2147483647 r) := by
  refine g_mi (by decide +kernel) (Nat.le_of_ble_eq_true rfl) (fun E cx hret => ?_)
  refine g_iload_n cx 1 rfl e_X11_count_0 ?_
  refine g_topi (fun zy1 ezy1 => ?_)
  rcases g_sw 0 7 zy1 with ⟨zw2n, zw2h, zw2e⟩ | zw2
  · have zw2d : zw2n = 0 ∨ zw2n = 1 ∨ zw2n = 2 ∨ zw2n = 3 ∨ zw2n = 4 ∨ zw2n = 5 ∨ zw2n = 6 ∨ zw2n = 7 := by omega
    rcases zw2d with rfl | rfl | rfl | rfl | rfl | rfl | rfl | rfl
    · refine g_tableIn cx 48 e_X11_count_1 (by rw [zw2e]; decide) (by rw [zw2e]; decide) (by rw [zw2e]; rfl) (by decide) ?_
      have p3 : jv 0 0 a0 := by rw [← ezy1]; exact jv_k 0 (by rw [zw2e]; rfl)
      refine g_aload_n cx 0 rfl e_X11_count_48 ?_
      refine g_get cx cl_X11 fl_X11_155 0 (.int (F 0)) e_X11_count_49 rfl rfl ?_
      exact hret e_X11_count_52 (Nat.le_of_ble_eq_true rfl) (Nat.le_of_ble_eq_true rfl) rfl ⟨rfl, (jv_t (F 0))⟩
    · refine g_tableIn cx 53 e_X11_count_1 (by rw [zw2e]; decide) (by rw [zw2e]; decide) (by rw [zw2e]; rfl) (by decide) ?_
      have p4 : jv 1 1 a0 := by rw [← ezy1]; exact jv_k 1 (by rw [zw2e]; rfl)
      refine g_aload_n cx 0 rfl e_X11_count_53 ?_
      refine g_get cx cl_X11 fl_X11_159 0 (.int (F 1)) e_X11_count_54 rfl rfl ?_
      exact hret e_X11_count_57 (Nat.le_of_ble_eq_true rfl) (Nat.le_of_ble_eq_true rfl) rfl ⟨rfl, (jv_t (F 1))⟩
    · refine g_tableIn cx 58 e_X11_count_1 (by rw [zw2e]; decide) (by rw [zw2e]; decide) (by rw [zw2e]; rfl) (by decide) ?_
      have p5 : jv 2 2 a0 := by rw [← ezy1]; exact jv_k 2 (by rw [zw2e]; rfl)
      refine g_aload_n cx 0 rfl e_X11_count_58 ?_
      refine g_get cx cl_X11 fl_X11_169 0 (.int (F 2)) e_X11_count_59 rfl rfl ?_
      exact hret e_X11_count_62 (Nat.le_of_ble_eq_true rfl) (Nat.le_of_ble_eq_true rfl) rfl ⟨rfl, (jv_t (F 2))⟩
    · refine g_tableIn cx 63 e_X11_count_1 (by rw [zw2e]; decide) (by rw [zw2e]; decide) (by rw [zw2e]; rfl) (by decide) ?_
      have p6 : jv 3 3 a0 := by rw [← ezy1]; exact jv_k 3 (by rw [zw2e]; rfl)
      refine g_aload_n cx 0 rfl e_X11_count_63 ?_
      refine g_get cx cl_X11 fl_X11_172 0 (.int (F 4)) e_X11_count_64 rfl rfl ?_
      exact hret e_X11_count_67 (Nat.le_of_ble_eq_true rfl) (Nat.le_of_ble_eq_true rfl) rfl ⟨rfl, (jv_t (F 4))⟩
    · refine g_tableIn cx 68 e_X11_count_1 (by rw [zw2e]; decide) (by rw [zw2e]; decide) (by rw [zw2e]; rfl) (by decide) ?_
      have p7 : jv 4 4 a0 := by rw [← ezy1]; exact jv_k 4 (by rw [zw2e]; rfl)
      refine g_aload_n cx 0 rfl e_X11_count_68 ?_
      refine g_get cx cl_X11 fl_X11_228 0 (.int (F 19)) e_X11_count_69 rfl rfl ?_
      exact hret e_X11_count_72 (Nat.le_of_ble_eq_true rfl) (Nat.le_of_ble_eq_true rfl) rfl ⟨rfl, (jv_w (g_ok_g hI 3 rfl) (by decide))⟩
    · refine g_tableIn cx 73 e_X11_count_1 (by rw [zw2e]; decide) (by rw [zw2e]; decide) (by rw [zw2e]; rfl) (by decide) ?_
      have p8 : jv 5 5 a0 := by rw [← ezy1]; exact jv_k 5 (by rw [zw2e]; rfl)
      refine g_aload_n cx 0 rfl e_X11_count_73 ?_
      refine g_get cx cl_X11 fl_X11_298 0 (.int (F 28)) e_X11_count_74 rfl rfl ?_
      exact hret e_X11_count_77 (Nat.le_of_ble_eq_true rfl) (Nat.le_of_ble_eq_true rfl) rfl ⟨rfl, (jv_w (g_ok_g hI 10 rfl) (by decide))⟩
    · refine g_tableIn cx 78 e_X11_count_1 (by rw [zw2e]; decide) (by rw [zw2e]; decide) (by rw [zw2e]; rfl) (by decide) ?_
      have p9 : jv 6 6 a0 := by rw [← ezy1]; exact jv_k 6 (by rw [zw2e]; rfl)
      refine g_aload_n cx 0 rfl e_X11_count_78 ?_
      refine g_get cx cl_X11 fl_X11_183 0 (.int (F 14)) e_X11_count_79 rfl rfl ?_
      exact hret e_X11_count_82 (Nat.le_of_ble_eq_true rfl) (Nat.le_of_ble_eq_true rfl) rfl ⟨rfl, (jv_w (g_ok_g hI 0 rfl) (by decide))⟩
    · refine g_tableIn cx 83 e_X11_count_1 (by rw [zw2e]; decide) (by rw [zw2e]; decide) (by rw [zw2e]; rfl) (by decide) ?_
      have p10 : jv 7 7 a0 := by rw [← ezy1]; exact jv_k 7 (by rw [zw2e]; rfl)
      refine g_aload_n cx 0 rfl e_X11_count_83 ?_
      refine g_get cx cl_X11 fl_X11_162 0 (.int (F 3)) e_X11_count_84 rfl rfl ?_
      exact hret e_X11_count_87 (Nat.le_of_ble_eq_true rfl) (Nat.le_of_ble_eq_true rfl) rfl ⟨rfl, (jv_t (F 3))⟩
  · refine g_tableOut cx 88 e_X11_count_1 zw2 (by decide) ?_
    refine g_iload_n cx 1 rfl e_X11_count_88 ?_
    refine g_bipush cx 100 (by decide) e_X11_count_89 ?_
    refine g_bipush cx 99 (by decide) e_X11_count_91 ?_
    refine g_aload_n cx 0 rfl e_X11_count_93 ?_
    refine g_get cx cl_X11 fl_X11_228 0 (.int (F 19)) e_X11_count_94 rfl rfl ?_
    refine g_iadd cx e_X11_count_97 ?_
    refine g_topi (fun x11 ex11 => ?_)
    have zx11 := jv_add 99 159 ex11 (jv_k (x := 99) 99 (by decide)) (g_ok_g hI 3 rfl) (by decide)
    refine g_cSiW cx [.int a0, .int 100, .int x11] [] (c_X11_in l X (wM X ad F R) a0 100 x11) ml_X11_165 yS_X11_in rfl e_X11_count_98 (by unfold g_rr; decide) (by decide) rfl (Nat.le_of_ble_eq_true rfl) (fun r12 w13 h14 => ?_)
    obtain ⟨rfl, hr12⟩ := h14
    have pr12 : jv 0 1 r12 := by rw [hr12]; exact gi_01 _ _ _
    have J117 : ∀ (y15 : Int32), (jv (-2147483648) 2147483647 y15) → G X E 2 0 0 (wM X ad F R) [] 117 [.int y15] := by
      intro y15 py15
      exact hret e_X11_count_117 (Nat.le_of_ble_eq_true rfl) (Nat.le_of_ble_eq_true rfl) rfl ⟨rfl, py15⟩
    refine g_if_eq cx 116 e_X11_count_101 (by decide) (fun zc16 => ?_) (fun zc16 => ?_)
    · have p17 := gn_eq 0 0 (gc_eq zc16) pr12 (jv_k (x := 0) 0 (by decide)) (by decide)
      refine g_iconst cx (-1) (by decide) e_X11_count_116 ?_
      refine g_lsub [] [] rfl ?_
      exact J117 (-1) (jv_w (jv_k (x := (-1)) (-1) (by decide)) (by decide))
    · have p18 := gn_neL 1 1 (gc_ne zc16) pr12 (jv_k (x := 0) 0 (by decide)) (by decide)
      have p19 := gn_ge 100 2147483647 (gi_le hr12 zc16).1 (jv_t a0) (jv_k (x := 100) 100 (by decide)) (by decide)
      have p20 := gn_le 100 159 (gi_le hr12 zc16).2 p19 zx11.2 (by decide)
      have p21 := gn_ge 100 159 (gi_le hr12 zc16).2 zx11.2 p19 (by decide)
      have p22 : jv 1 60 (F 19) := ⟨by have q0 := (jv_k (x := 99) 99 (by decide)).1; have q1 := (jv_k (x := 99) 99 (by decide)).2; have q2 := (g_ok_g hI 3 rfl).1; have q3 := (g_ok_g hI 3 rfl).2; have q4 := p20.1; have q5 := p20.2; have q6 := p21.1; have q7 := p21.2; have q8 := (g_eq0 zx11.1); have q9 := (gi_le hr12 zc16).2; omega, by have q0 := (jv_k (x := 99) 99 (by decide)).1; have q1 := (jv_k (x := 99) 99 (by decide)).2; have q2 := (g_ok_g hI 3 rfl).1; have q3 := (g_ok_g hI 3 rfl).2; have q4 := p20.1; have q5 := p20.2; have q6 := p21.1; have q7 := p21.2; have q8 := (g_eq0 zx11.1); have q9 := (gi_le hr12 zc16).2; omega⟩
      refine g_aload_n cx 0 rfl e_X11_count_104 ?_
      refine g_get cx cl_X11 fl_X11_38 0 (.ref (ad 10)) e_X11_count_105 rfl rfl ?_
      refine g_iload_n cx 1 rfl e_X11_count_108 ?_
      refine g_bipush cx 100 (by decide) e_X11_count_109 ?_
      refine g_isub cx e_X11_count_111 ?_
      refine g_topi (fun x23 ex23 => ?_)
      have zx23 := jv_sub 0 59 ex23 p20 (jv_k (x := 100) 100 (by decide)) (by decide)
      refine g_iald cx 10 e_X11_count_112 rfl (jv_ix 60 zx23.2 (by decide)) ?_
      refine g_topi (fun x24 ex24 => ?_)
      refine g_goto cx 117 e_X11_count_113 (by decide) ?_
      refine g_lsub [] [] rfl ?_
      exact J117 x24 (jv_t x24)
theorem e_X11_gcd_0 : g_dc cX11_gcd 0 (.iload_n 0) 1 1 := ⟨by decide +kernel, rfl⟩
theorem e_X11_gcd_1 : g_dc cX11_gcd 1 (.istore_n 2) 1 2 := ⟨by decide +kernel, rfl⟩
theorem e_X11_gcd_2 : g_dc cX11_gcd 2 (.iload_n 1) 1 3 := ⟨by decide +kernel, rfl⟩
theorem e_X11_gcd_3 : g_dc cX11_gcd 3 (.istore_n 3) 1 4 := ⟨by decide +kernel, rfl⟩
theorem e_X11_gcd_4 : g_dc cX11_gcd 4 (.iload_n 3) 1 5 := ⟨by decide +kernel, rfl⟩
theorem e_X11_gcd_5 : g_dc cX11_gcd 5 (.ifCond .eq 16) 3 8 := ⟨by decide +kernel, rfl⟩
theorem e_X11_gcd_8 : g_dc cX11_gcd 8 (.iload_n 2) 1 9 := ⟨by decide +kernel, rfl⟩
theorem e_X11_gcd_9 : g_dc cX11_gcd 9 (.iload_n 3) 1 10 := ⟨by decide +kernel, rfl⟩
theorem e_X11_gcd_10 : g_dc cX11_gcd 10 (.irem) 1 11 := ⟨by decide +kernel, rfl⟩
theorem e_X11_gcd_11 : g_dc cX11_gcd 11 (.istore 4) 2 13 := ⟨by decide +kernel, rfl⟩
theorem e_X11_gcd_13 : g_dc cX11_gcd 13 (.iload_n 3) 1 14 := ⟨by decide +kernel, rfl⟩
theorem e_X11_gcd_14 : g_dc cX11_gcd 14 (.istore_n 2) 1 15 := ⟨by decide +kernel, rfl⟩
theorem e_X11_gcd_15 : g_dc cX11_gcd 15 (.iload 4) 2 17 := ⟨by decide +kernel, rfl⟩
theorem e_X11_gcd_17 : g_dc cX11_gcd 17 (.istore_n 3) 1 18 := ⟨by decide +kernel, rfl⟩
theorem e_X11_gcd_18 : g_dc cX11_gcd 18 (.goto (-14)) 3 21 := ⟨by decide +kernel, rfl⟩
theorem e_X11_gcd_21 : g_dc cX11_gcd 21 (.iload_n 2) 1 22 := ⟨by decide +kernel, rfl⟩
theorem e_X11_gcd_22 : g_dc cX11_gcd 22 (.ireturn) 1 23 := ⟨by decide +kernel, rfl⟩
set_option maxHeartbeats 4000000 in
set_option maxRecDepth 100000 in
theorem w_X11_gcd (l : Launch) (X : gX) (ad : Nat → Nat) (F : Nat → Int32) (R : Nat → Nat → Int32) (hI : g_ok LK_wM F) (hA : g_okR LA_wM R) (a0 : Int32) (a1 : Int32) (pa0 : jv 0 1000 a0) (pa1 : jv 1 1000 a1) : g_Ci l X yX11_gcd cX11_gcd 5 (some .int) 1 0 0 [.int a0, .int a1] (wM X ad F R) (fun r w => w = wM X ad F R ∧ jv 1 1000 r) := by
  refine g_mi (by decide +kernel) (Nat.le_of_ble_eq_true rfl) (fun E cx hret => ?_)
  refine g_iload_n cx 0 rfl e_X11_gcd_0 ?_
  refine g_istore_n cx [(2, .int a0), (0, .int a0), (1, .int a1)] e_X11_gcd_1 (by decide) rfl ?_
  refine g_iload_n cx 2 rfl e_X11_gcd_2 ?_
  refine g_istore_n cx [(3, .int a1), (2, .int a0), (0, .int a0), (1, .int a1)] e_X11_gcd_3 (by decide) rfl ?_
  have J4 : ∀ (N : Nat) (y1 : Int32) (y2 : Int32), (jv 0 1000 y1) → (jv 0 1000 y2) → (1 ≤ y1.toInt + y2.toInt) → y2.toInt.toNat < N → G X E 5 0 0 (wM X ad F R) [(2, .int y1), (3, .int y2)] 4 [] := by
    intro N
    induction N with
    | zero => intro y1 y2 py1 py2 zi4_0 hm; exact absurd hm (Nat.not_lt_zero _)
    | succ N ih4 =>
      intro y1 y2 py1 py2 zi4_0 hm4
      refine g_iload_n cx 1 rfl e_X11_gcd_4 ?_
      refine g_if_eq cx 21 e_X11_gcd_5 (by decide) (fun zc3 => ?_) (fun zc3 => ?_)
      · have p4 := gn_eq 0 0 (gc_eq zc3) py2 (jv_k (x := 0) 0 (by decide)) (by decide)
        have p5 : jv 1 1000 y1 := ⟨by have q0 := (jv_k (x := 0) 0 (by decide)).1; have q1 := (jv_k (x := 0) 0 (by decide)).2; have q2 := py1.1; have q3 := py1.2; have q4 := p4.1; have q5 := p4.2; have q6 := zi4_0; have q7 := (gc_eq zc3); omega, by have q0 := (jv_k (x := 0) 0 (by decide)).1; have q1 := (jv_k (x := 0) 0 (by decide)).2; have q2 := py1.1; have q3 := py1.2; have q4 := p4.1; have q5 := p4.2; have q6 := zi4_0; have q7 := (gc_eq zc3); omega⟩
        refine g_iload_n cx 0 rfl e_X11_gcd_21 ?_
        exact hret e_X11_gcd_22 (Nat.le_of_ble_eq_true rfl) (Nat.le_of_ble_eq_true rfl) rfl ⟨rfl, p5⟩
      · have p6 := gn_neL 1 1000 (gc_ne zc3) py2 (jv_k (x := 0) 0 (by decide)) (by decide)
        refine g_iload_n cx 0 rfl e_X11_gcd_8 ?_
        refine g_iload_n cx 1 rfl e_X11_gcd_9 ?_
        refine g_irem cx zc3 e_X11_gcd_10 ?_
        refine g_topi (fun x7 ex7 => ?_)
        have zx7 := jv_rem 0 999 ex7 py1 p6 (by decide)
        refine g_istore cx [(4, .int x7), (2, .int y1), (3, .int y2)] e_X11_gcd_11 (by decide) rfl ?_
        refine g_iload_n cx 2 rfl e_X11_gcd_13 ?_
        refine g_istore_n cx [(2, .int y2), (4, .int x7), (3, .int y2)] e_X11_gcd_14 (by decide) rfl ?_
        refine g_iload cx 1 rfl e_X11_gcd_15 ?_
        refine g_istore_n cx [(3, .int x7), (2, .int y2), (4, .int x7)] e_X11_gcd_17 (by decide) rfl ?_
        refine g_goto cx 4 e_X11_gcd_18 (by decide) ?_
        refine g_lsub [1, 0] [(2, .int y2), (3, .int x7)] rfl ?_
        exact ih4 y2 x7 (jv_w p6 (by decide)) (jv_w zx7.2 (by decide)) (by have q0 := (jv_k (x := 0) 0 (by decide)).1; have q1 := (jv_k (x := 0) 0 (by decide)).2; have q2 := zx7.2.1; have q3 := zx7.2.2; have q4 := py1.1; have q5 := py1.2; have q6 := p6.1; have q7 := p6.2; have q8 := zi4_0; have q9 := (gc_ne zc3); have q10 := (g_rlt zx7.1 p6 (by decide)); omega) (Nat.lt_of_lt_of_le (show x7.toInt.toNat < y2.toInt.toNat from by have q0 := (jv_k (x := 0) 0 (by decide)).1; have q1 := (jv_k (x := 0) 0 (by decide)).2; have q2 := zx7.2.1; have q3 := zx7.2.2; have q4 := py1.1; have q5 := py1.2; have q6 := p6.1; have q7 := p6.2; have q8 := zi4_0; have q9 := (gc_ne zc3); have q10 := (g_rlt zx7.1 p6 (by decide)); omega) (Nat.le_of_lt_succ hm4))
  refine g_lsub [1, 0] [(2, .int a0), (3, .int a1)] rfl ?_
  exact J4 _ a0 a1 pa0 (jv_w pa1 (by decide)) (by have q0 := pa0.1; have q1 := pa0.2; have q2 := pa1.1; have q3 := pa1.2; omega) (Nat.lt_succ_self _)
