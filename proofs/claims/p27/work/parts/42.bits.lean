/-! ===== sets of ten, as the two ask them ===== -/
theorem ub_self : ∀ i : Nat, i < 10 → hb (1 <<< (nI i &&& 31)) (nI i) := by
  have : ∀ i : Fin 10, ((1 <<< (nI i &&& 31) : Int32) >>> (nI i &&& 31)) &&& 1 = 1 := by decide
  intro i hi
  exact this ⟨i, hi⟩
theorem ub_bit {i j : Nat} (hi : i < 10) (hj : j < 10) : hb (1 <<< (nI i &&& 31)) (nI j) ↔ j = i :=
  ⟨hb_shl i j hi hj, fun e => by subst e; exact ub_self _ hi⟩
theorem ub_and {x y : Int32} {j : Nat} (hj : j < 10) : hb (x &&& y) (nI j) ↔ hb x (nI j) ∧ hb y (nI j) := by
  rw [hb_tb hj, hb_tb hj, hb_tb hj, Int32.toBitVec_and, BitVec.getLsbD_and, Bool.and_eq_true]
theorem ub_or {x y : Int32} {j : Nat} (hj : j < 10) : hb (x ||| y) (nI j) ↔ hb x (nI j) ∨ hb y (nI j) := by
  rw [hb_tb hj, hb_tb hj, hb_tb hj, Int32.toBitVec_or, BitVec.getLsbD_or, Bool.or_eq_true]
theorem ub_not {x : Int32} {j : Nat} (hj : j < 10) : hb (x ^^^ (-1)) (nI j) ↔ ¬ hb x (nI j) := by
  rw [hb_tb hj, hb_tb hj, Int32.toBitVec_xor, BitVec.getLsbD_xor]
  have e : ∀ j, j < 10 → (-1 : Int32).toBitVec.getLsbD j = true := by decide
  rw [e j hj]
  cases x.toBitVec.getLsbD j <;> simp
theorem ub_pow : ∀ i : Nat, i < 10 → (1 <<< (nI i &&& 31) : Int32).toBitVec = BitVec.twoPow 32 i := by
  have : ∀ i : Fin 10, (1 <<< (nI i &&& 31) : Int32).toBitVec = BitVec.twoPow 32 i := by decide
  intro i hi
  exact this ⟨i, hi⟩
theorem ub_test {x : Int32} {i : Nat} (hi : i < 10) : x &&& (1 <<< (nI i &&& 31)) = 0 ↔ ¬ hb x (nI i) := by
  constructor
  · intro h q
    have h1 : hb (x &&& (1 <<< (nI i &&& 31))) (nI i) := (ub_and hi).mpr ⟨q, ub_self i hi⟩
    rw [h] at h1
    exact hb_0 hi h1
  · intro h
    apply Int32.toBitVec_inj.mp
    rw [Int32.toBitVec_and, ub_pow i hi, BitVec.and_twoPow]
    rw [hb_tb hi] at h
    rw [if_neg h]
    rfl
theorem ub_ext {x y : Int32} (hx : jv 0 1023 x) (hy : jv 0 1023 y) (h : ∀ j, j < 10 → (hb x (nI j) ↔ hb y (nI j))) : x = y := by
  have hN : ∀ z : Int32, jv 0 1023 z → z.toBitVec.toNat < 2 ^ 10 := by
    intro z hz
    unfold jv at hz
    have h2 : z.toInt = z.toBitVec.toInt := rfl
    rw [h2, BitVec.toInt_eq_toNat_cond] at hz
    have := z.toBitVec.isLt
    split at hz <;> omega
  have hz : ∀ z : Int32, jv 0 1023 z → ∀ k, 10 ≤ k → z.toBitVec.getLsbD k = false := by
    intro z hq k hk
    rw [← BitVec.testBit_toNat]
    apply Nat.testBit_lt_two_pow
    exact Nat.lt_of_lt_of_le (hN z hq) (Nat.pow_le_pow_right (by decide) hk)
  apply Int32.toBitVec_inj.mp
  apply BitVec.eq_of_getLsbD_eq
  intro k _
  by_cases hk : k < 10
  · have h1 := h k hk
    rw [hb_tb hk, hb_tb hk] at h1
    exact Bool.eq_iff_iff.mpr h1
  · rw [hz x hx k (by omega), hz y hy k (by omega)]
theorem ub_hasv (x k : Int32) : (g_hasv x k = 0 ↔ ¬ hb x k) ∧ (g_hasv x k = 1 ↔ hb x k) := by
  unfold g_hasv hb
  split
  · rename_i h
    exact ⟨⟨fun q => absurd q (by decide), fun q => absurd h q⟩, ⟨fun _ => h, fun _ => rfl⟩⟩
  · rename_i h
    exact ⟨⟨fun _ => h, fun _ => rfl⟩, ⟨fun q => absurd q (by decide), fun q => absurd q h⟩⟩
theorem ub_hasv0 {x k : Int32} : g_hasv x k = 0 ↔ ¬ hb x k := (ub_hasv x k).1
theorem ub_or_rng {x : Int32} (hx : jv 0 1023 x) {i : Nat} (hi : i < 10) : jv 0 1023 (x ||| (1 <<< (nI i &&& 31))) := by
  have hx2 : x.toBitVec.toNat < 2 ^ 10 := by
    unfold jv at hx
    have h2 : x.toInt = x.toBitVec.toInt := rfl
    rw [h2, BitVec.toInt_eq_toNat_cond] at hx
    have := x.toBitVec.isLt
    split at hx <;> omega
  have h1 : (x ||| (1 <<< (nI i &&& 31))).toBitVec.toNat < 2 ^ 10 := by
    rw [Int32.toBitVec_or, BitVec.toNat_or, ub_pow i hi, BitVec.toNat_twoPow]
    apply Nat.or_lt_two_pow hx2
    rw [Nat.mod_eq_of_lt (Nat.pow_lt_pow_right (by decide) (by omega))]
    exact Nat.pow_lt_pow_right (by decide) hi
  have h2 : (x ||| (1 <<< (nI i &&& 31))).toInt = (x ||| (1 <<< (nI i &&& 31))).toBitVec.toInt := rfl
  unfold jv
  rw [h2, BitVec.toInt_eq_toNat_cond]
  split <;> omega
theorem ub_and_rng {x y : Int32} (hx : jv 0 1023 x) : jv 0 1023 (x &&& y) := jv_andL 0 1023 rfl hx (by decide)
theorem ub_0_rng : jv 0 1023 (0 : Int32) := ⟨by decide, by decide⟩
/-- a loop over ten: its number -/
theorem ub_10 {j : Nat} (h : j < 10) : ¬ (10 : Int32) ≤ nI j := nI_ge (a := j) (b := 10) h (by omega)
theorem ub_10e : (10 : Int32) ≤ nI 10 := nI_le (a := 10) (b := 10) (Nat.le_refl _) (by omega)
/-! ===== pure texts: what is named is put in (no definitional step: the kernel must not unfold numbers) ===== -/
theorem k_e {α β : Type} (e : α) (f : α → β) : k_lt e f = f e := by rw [k_lt]
theorem k_e2 {α β γ : Type} (e : α × β) (f : α → β → γ) : k_lt2 e f = f e.1 e.2 := by rw [k_lt2]
theorem k_e3 {α β δ γ : Type} (e : α × β × δ) (f : α → β → δ → γ) : k_lt3 e f = f e.1 e.2.1 e.2.2 := by rw [k_lt3]
theorem k_t2 {α β γ : Type} (a : α) (b : β) (f : α → β → γ) : k_lt2 (a, b) f = f a b := by rw [k_lt2]
theorem k_t3 {α β δ γ : Type} (a : α) (b : β) (c : δ) (f : α → β → δ → γ) : k_lt3 (a, b, c) f = f a b c := by rw [k_lt3]
theorem ug (R : Nat → Nat → Int32) (c : Nat) (f : Nat → Int32) (d : Nat) : g_u R c f d = if d = c then f else R d := by rw [g_u]
theorem uu (f : Nat → Int32) (k : Nat) (x : Int32) (m : Nat) : upd f k x m = if m = k then x else f m := by rw [upd]
def uhb (x k : Int32) : Bool := decide ((x >>> (k &&& 31)) &&& 1 = 1)
theorem uhb_t {x k : Int32} : uhb x k = true ↔ hb x k := by
  unfold uhb hb
  exact decide_eq_true_iff
theorem uhb_f {x k : Int32} : uhb x k = false ↔ ¬ hb x k := by
  unfold uhb hb
  exact decide_eq_false_iff_not
