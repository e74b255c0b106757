/-! ===== rows of places: codes whose digits differ, one behind the other ===== -/
def pdg (m c k : Nat) : Nat := c / m ^ (m - 1 - k) % m
def prr (m : Nat) : Nat → Nat → (Nat → Bool) → Bool
  | 0, _, _ => true
  | k + 1, left, seen => if seen (left % m) = true then false else prr m k (left / m) (fun j => j == left % m || seen j)
def pok (m c : Nat) : Bool := prr m m c (fun _ => false)
def pfp (m : Nat) : Nat → Nat → Nat
  | 0, c => c
  | f + 1, c => if pok m c = true then c else pfp m f (c + 1)
def psw (d : Nat → Nat) (i j : Nat) : Nat → Nat := fun k => if k = j then d i else if k = i then d j else d k
def prise (d : Nat → Nat) : Nat → Nat
  | 0 => 0
  | r + 1 => if d (r + 1) < d r then prise d r else r + 1
def plarg (d : Nat → Nat) (rise : Nat) : Nat → Nat
  | 0 => 0
  | l + 1 => if l + 1 ≤ rise + 1 then l + 1 else if d rise ≤ d (l + 1) then l + 1 else plarg d rise l
def prev : Nat → Nat → Nat → (Nat → Nat) → Nat → Nat
  | 0, _, _, d => d
  | f + 1, lo, hi, d => if hi ≤ lo then d else prev f (lo + 1) (hi - 1) (psw d lo hi)
def pnxt (m : Nat) (d : Nat → Nat) : Nat → Nat := prev m (prise d (m - 1)) (m - 1) (psw d (prise d (m - 1) - 1) (plarg d (prise d (m - 1) - 1) (m - 1)))
def pfac : Nat → Nat
  | 0 => 1
  | n + 1 => (n + 1) * pfac n
def prnk1 (m c k : Nat) : Nat → Nat
  | 0 => 0
  | l + 1 => (if pdg m c l < pdg m c k ∧ k < l then 1 else 0) + prnk1 m c k l
def prnk (m c : Nat) : Nat → Nat
  | 0 => 0
  | k + 1 => prnk1 m c k m * pfac (m - 1 - k) + prnk m c k
def pall (f : Nat → Bool) : Nat → Bool
  | 0 => true
  | n + 1 => if f n = true then pall f n else false
theorem pall_t {f : Nat → Bool} : ∀ {n : Nat}, pall f n = true → ∀ c, c < n → f c = true := by
  intro n
  induction n with
  | zero => intro _ c hc; omega
  | succ n ih =>
    intro h c hc
    have h : (if f n = true then pall f n else false) = true := h
    by_cases q : f n = true
    · rw [if_pos q] at h
      by_cases e : c = n
      · rw [e]; exact q
      · exact ih h c (by omega)
    · rw [if_neg q] at h
      cases h
def pchk1 (m c q : Nat) : Bool := if q = m ^ m then prise (pdg m c) (m - 1) == 0 else if prise (pdg m c) (m - 1) = 0 then false else if prnk m q m = prnk m c m + 1 then pall (fun k => pnxt m (pdg m c) k == pdg m q k) m else false
def pchk (m c : Nat) : Bool := if pok m c = true then (if prnk m c m < 120 then pchk1 m c (pfp m (m ^ m - (c + 1)) (c + 1)) else false) else true
theorem pchk2 : pall (pchk 2) (2 ^ 2) = true := by decide +kernel
theorem pchk3 : pall (pchk 3) (3 ^ 3) = true := by decide +kernel
theorem pchk4 : pall (pchk 4) (4 ^ 4) = true := by decide +kernel
theorem pchk5 : pall (pchk 5) (5 ^ 5) = true := by decide +kernel
theorem p_first : (prnk 2 (pfp 2 (2 ^ 2) 0) 2 = 0 ∧ pall (fun k => pdg 2 (pfp 2 (2 ^ 2) 0) k == k) 2 = true ∧ pfp 2 (2 ^ 2) 0 < 2 ^ 2) ∧ (prnk 3 (pfp 3 (3 ^ 3) 0) 3 = 0 ∧ pall (fun k => pdg 3 (pfp 3 (3 ^ 3) 0) k == k) 3 = true ∧ pfp 3 (3 ^ 3) 0 < 3 ^ 3) ∧ (prnk 4 (pfp 4 (4 ^ 4) 0) 4 = 0 ∧ pall (fun k => pdg 4 (pfp 4 (4 ^ 4) 0) k == k) 4 = true ∧ pfp 4 (4 ^ 4) 0 < 4 ^ 4) ∧ (prnk 5 (pfp 5 (5 ^ 5) 0) 5 = 0 ∧ pall (fun k => pdg 5 (pfp 5 (5 ^ 5) 0) k == k) 5 = true ∧ pfp 5 (5 ^ 5) 0 < 5 ^ 5) := by decide +kernel
theorem pm_cases {m : Nat} (hm : 2 ≤ m ∧ m ≤ 5) : m = 2 ∨ m = 3 ∨ m = 4 ∨ m = 5 := by omega
theorem pchk_m {m : Nat} (hm : 2 ≤ m ∧ m ≤ 5) {c : Nat} (hc : c < m ^ m) : pchk m c = true := by
  rcases pm_cases hm with rfl | rfl | rfl | rfl
  · exact pall_t pchk2 c hc
  · exact pall_t pchk3 c hc
  · exact pall_t pchk4 c hc
  · exact pall_t pchk5 c hc
theorem p_first_m {m : Nat} (hm : 2 ≤ m ∧ m ≤ 5) : prnk m (pfp m (m ^ m) 0) m = 0 ∧ (∀ k, k < m → pdg m (pfp m (m ^ m) 0) k = k) ∧ pfp m (m ^ m) 0 < m ^ m := by
  have h := p_first
  rcases pm_cases hm with rfl | rfl | rfl | rfl
  · exact ⟨h.1.1, fun k hk => eq_of_beq (pall_t h.1.2.1 k hk), h.1.2.2⟩
  · exact ⟨h.2.1.1, fun k hk => eq_of_beq (pall_t h.2.1.2.1 k hk), h.2.1.2.2⟩
  · exact ⟨h.2.2.1.1, fun k hk => eq_of_beq (pall_t h.2.2.1.2.1 k hk), h.2.2.1.2.2⟩
  · exact ⟨h.2.2.2.1, fun k hk => eq_of_beq (pall_t h.2.2.2.2.1 k hk), h.2.2.2.2.2⟩
theorem pm_pow {m : Nat} (hm : 2 ≤ m ∧ m ≤ 5) : m ^ m ≤ 3125 := by
  rcases pm_cases hm with rfl | rfl | rfl | rfl <;> decide
/-- behind a row: the next one, or none -/
theorem p_next {m c : Nat} (hm : 2 ≤ m ∧ m ≤ 5) (hc : c < m ^ m) (hp : pok m c = true) : prnk m c m < 120 ∧ (pfp m (m ^ m - (c + 1)) (c + 1) = m ^ m → prise (pdg m c) (m - 1) = 0) ∧ (pfp m (m ^ m - (c + 1)) (c + 1) ≠ m ^ m → ¬ prise (pdg m c) (m - 1) = 0 ∧ prnk m (pfp m (m ^ m - (c + 1)) (c + 1)) m = prnk m c m + 1 ∧ ∀ k, k < m → pnxt m (pdg m c) k = pdg m (pfp m (m ^ m - (c + 1)) (c + 1)) k) := by
  have h := pchk_m hm hc
  unfold pchk at h
  rw [if_pos hp] at h
  by_cases q : prnk m c m < 120
  · rw [if_pos q] at h
    refine ⟨q, fun e => ?_, fun e => ?_⟩
    · unfold pchk1 at h
      rw [if_pos e] at h
      exact eq_of_beq h
    · unfold pchk1 at h
      rw [if_neg e] at h
      by_cases q2 : prise (pdg m c) (m - 1) = 0
      · rw [if_pos q2] at h
        cases h
      · rw [if_neg q2] at h
        by_cases q3 : prnk m (pfp m (m ^ m - (c + 1)) (c + 1)) m = prnk m c m + 1
        · rw [if_pos q3] at h
          exact ⟨q2, q3, fun k hk => eq_of_beq (pall_t h k hk)⟩
        · rw [if_neg q3] at h
          cases h
  · rw [if_neg q] at h
    cases h
theorem pfp_le {m : Nat} : ∀ f c, c ≤ pfp m f c ∧ pfp m f c ≤ c + f := by
  intro f
  induction f with
  | zero => intro c; exact ⟨Nat.le_refl _, Nat.le_refl _⟩
  | succ f ih =>
    intro c
    show c ≤ (if pok m c = true then c else pfp m f (c + 1)) ∧ (if pok m c = true then c else pfp m f (c + 1)) ≤ c + (f + 1)
    have := ih (c + 1)
    split <;> omega
theorem pfp_no {m c : Nat} (hc : c < m ^ m) (h : ¬ pok m c = true) : pfp m (m ^ m - c) c = pfp m (m ^ m - (c + 1)) (c + 1) := by
  obtain ⟨f, hf⟩ : ∃ f, m ^ m - c = f + 1 := ⟨m ^ m - (c + 1), by omega⟩
  rw [show m ^ m - (c + 1) = f by omega, hf]
  show (if pok m c = true then c else pfp m f (c + 1)) = _
  rw [if_neg h]
theorem pfp_yes {m c : Nat} (hc : c < m ^ m) (h : pok m c = true) : pfp m (m ^ m - c) c = c := by
  obtain ⟨f, hf⟩ : ∃ f, m ^ m - c = f + 1 := ⟨m ^ m - (c + 1), by omega⟩
  rw [hf]
  show (if pok m c = true then c else pfp m f (c + 1)) = _
  rw [if_pos h]
theorem pfp_ok {m : Nat} : ∀ f c, pfp m f c < c + f → pok m (pfp m f c) = true := by
  intro f
  induction f with
  | zero => intro c h; exact absurd h (Nat.lt_irrefl _)
  | succ f ih =>
    intro c h
    have e : pfp m (f + 1) c = if pok m c = true then c else pfp m f (c + 1) := rfl
    rw [e] at h ⊢
    by_cases q : pok m c = true
    · rw [if_pos q]; exact q
    · rw [if_neg q] at h ⊢
      exact ih (c + 1) (by omega)
theorem pdg_lt {m : Nat} (hm : 2 ≤ m ∧ m ≤ 5) (c k : Nat) : pdg m c k < m := Nat.mod_lt _ (by omega)
/-! the reference reads a row -/
theorem rr_loop {m : Nat} (hm : 2 ≤ m ∧ m ≤ 5) {F : Nat → Int32} (hF : F 75 = nI m) : ∀ k, k ≤ m → ∀ (n left : Nat) (seen : Nat → Bool) (y4 : Int32) (R : Nat → Nat → Int32), k < n → left < 100000 → (∀ j, j < 10 → (hb y4 (nI j) ↔ seen j = true)) → ∃ R', K_X11_readsRow_12 F n R (nI left) y4 (nI k + (-1)) = ((if prr m k left seen = true then 1 else 0), F, R') ∧ (∀ c, c ≠ 39 → R' c = R c) ∧ (∀ j, k ≤ j → R' 39 j = R 39 j) ∧ (prr m k left seen = true → ∀ j, j < k → R' 39 j = nI (left / m ^ (k - 1 - j) % m)) := by
  intro k
  induction k with
  | zero =>
    intro _ n left seen y4 R hn hl hs
    obtain ⟨n, rfl⟩ : ∃ n', n = n' + 1 := ⟨n - 1, by omega⟩
    refine ⟨R, ?_, fun _ _ => rfl, fun _ _ => rfl, fun _ j hj => by omega⟩
    rw [ks_X11_readsRow_12]
    unfold KB_X11_readsRow_12
    rw [if_pos (show nI 0 + (-1) < 0 by decide)]
    rfl
  | succ k ih =>
    intro hk n left seen y4 R hn hl hs
    obtain ⟨n, rfl⟩ : ∃ n', n = n' + 1 := ⟨n - 1, by omega⟩
    have hlm : left % m < m := Nat.mod_lt _ (by omega)
    have es : g_u R 39 (upd (R 39) k (nI (left % m))) 39 k = nI (left % m) := by rw [g_uus, g_us]
    have e0 : K_X11_readsRow_12 F (n + 1) R (nI left) y4 (nI (k + 1) + (-1)) = if g_hasv y4 (nI (left % m)) = 0 then K_X11_readsRow_12 F n (g_u R 39 (upd (R 39) k (nI (left % m)))) (nI (left / m)) (y4 ||| (1 <<< (nI (left % m) &&& 31))) (nI k + (-1)) else (0, F, g_u R 39 (upd (R 39) k (nI (left % m)))) := by
      rw [ks_X11_readsRow_12]
      unfold KB_X11_readsRow_12
      rw [pk_m1, if_neg (nI_pos (show k < 2 ^ 31 by omega))]
      simp only [k_e]
      rw [hF, pk_rem (by omega) (by omega) (by omega), pk_div (by omega) (by omega) (by omega), nI_clamp (show k < 2 ^ 31 by omega), es]
    have ep : prr m (k + 1) left seen = if seen (left % m) = true then false else prr m k (left / m) (fun j => j == left % m || seen j) := rfl
    by_cases q : seen (left % m) = true
    · refine ⟨g_u R 39 (upd (R 39) k (nI (left % m))), ?_, fun c hc => by rw [ug, if_neg hc], fun j hj => by rw [g_uus, uu, if_neg (by omega)], fun z => ?_⟩
      · rw [e0, ep, if_pos q, if_neg (fun z => ub_hasv0.mp z ((hs _ (by omega)).mpr q))]
        rfl
      · rw [ep, if_pos q] at z
        cases z
    · have hd : left / m < 100000 := Nat.lt_of_le_of_lt (Nat.div_le_self _ _) hl
      obtain ⟨R', a1, a2, a3, a4⟩ := ih (by omega) n (left / m) (fun j => j == left % m || seen j) (y4 ||| (1 <<< (nI (left % m) &&& 31))) (g_u R 39 (upd (R 39) k (nI (left % m)))) (by omega) hd (fun j hj => by
        rw [ub_or hj, ub_bit (show left % m < 10 by omega) hj, hs j hj]
        simp only [Bool.or_eq_true, beq_iff_eq]
        exact Or.comm)
      rw [ep, if_neg q]
      refine ⟨R', ?_, fun c hc => by rw [a2 c hc, ug, if_neg hc], fun j hj => ?_, fun z j hj => ?_⟩
      · rw [e0, if_pos (ub_hasv0.mpr (fun z => q ((hs _ (by omega)).mp z))), a1]
      · rw [a3 j (by omega), g_uus, uu, if_neg (by omega)]
      · by_cases e : j = k
        · subst e
          rw [a3 j (Nat.le_refl _), es, show j + 1 - 1 - j = 0 by omega, Nat.pow_zero, Nat.div_one]
        · rw [a4 z j (by omega), Nat.div_div_eq_div_mul, ← Nat.pow_succ', show Nat.succ (k - 1 - j) = k + 1 - 1 - j by omega]
theorem rr_eq {m c : Nat} (hm : 2 ≤ m ∧ m ≤ 5) (hc : c < m ^ m) {F : Nat → Int32} (hF : F 75 = nI m) (R : Nat → Nat → Int32) : ∃ R', sp_X11_readsRow F R (nI c) = ((if pok m c = true then 1 else 0), F, R') ∧ (∀ c, c ≠ 39 → R' c = R c) ∧ (pok m c = true → ∀ k, k < m → R' 39 k = nI (pdg m c k)) := by
  have hp := pm_pow hm
  obtain ⟨R', a1, a2, a3, a4⟩ := rr_loop hm hF m (Nat.le_refl _) 8589934592 c (fun _ => false) 0 R (by omega) (by omega) (fun j hj => ⟨fun z => absurd z (hb_0 hj), fun z => by cases z⟩)
  refine ⟨R', ?_, a2, fun z k hk => a4 z k hk⟩
  unfold sp_X11_readsRow
  obtain ⟨m', rfl⟩ : ∃ m', m = m' + 1 := ⟨m - 1, by omega⟩
  rw [k_e, hF, nI_pred, ← pk_m1 m']
  exact a1
/-! the class's next row -/
theorem sw_eq {F : Nat → Int32} {R : Nat → Nat → Int32} {a b : Nat} (ha : a < 5) (hb1 : b < 5) : ∃ R', sp_X6_swap F R (nI a) (nI b) = (F, R') ∧ (∀ c, c ≠ 49 → R' c = R c) ∧ ∀ k, R' 49 k = if k = b then R 49 a else if k = a then R 49 b else R 49 k := by
  refine ⟨g_u R 49 (upd (upd (R 49) a (R 49 b)) b (R 49 a)), ?_, fun c hc => by rw [ug, if_neg hc], fun k => by rw [g_uus, uu, uu]⟩
  have e1 : g_in (nI a) 0 4 = 1 := ug_in (lo := 0) (hi := 4) (by omega) (by omega) (by omega)
  have e2 : g_in (nI b) 0 4 = 1 := ug_in (lo := 0) (hi := 4) (by omega) (by omega) (by omega)
  unfold sp_X6_swap K_X6_swap_44
  simp only [k_e]
  rw [e1, e2, if_neg (by decide), if_neg (by decide), nI_clamp (by omega), nI_clamp (by omega), g_uus, ug_uu]
section PNX
variable {m : Nat} {mem d : Nat → Nat} {F : Nat → Int32} {R : Nat → Nat → Int32}
theorem nx_101 (hm : 2 ≤ m ∧ m ≤ 5) : ∀ (f n lo hi : Nat) (d : Nat → Nat) (R : Nat → Nat → Int32), f < n → hi ≤ lo + f → hi < m → lo + f < 100 → (∀ k, k < m → R 49 k = nI (mem (d k))) → ∃ R', K_X6_next_101 n F R (nI lo) (nI hi) = (1, F, R') ∧ (∀ c, c ≠ 49 → R' c = R c) ∧ ∀ k, k < m → R' 49 k = nI (mem (prev f lo hi d k)) := by
  intro f
  induction f with
  | zero =>
    intro n lo hi d R hn h1 h2 h3 hR
    obtain ⟨n, rfl⟩ : ∃ n', n = n' + 1 := ⟨n - 1, by omega⟩
    refine ⟨R, ?_, fun _ _ => rfl, hR⟩
    rw [ks_X6_next_101]
    unfold KB_X6_next_101
    rw [if_pos (nI_le (by omega) (by omega))]
  | succ f ih =>
    intro n lo hi d R hn h1 h2 h3 hR
    obtain ⟨n, rfl⟩ : ∃ n', n = n' + 1 := ⟨n - 1, by omega⟩
    have ep : prev (f + 1) lo hi d = if hi ≤ lo then d else prev f (lo + 1) (hi - 1) (psw d lo hi) := rfl
    rw [ks_X6_next_101]
    unfold KB_X6_next_101
    by_cases q : hi ≤ lo
    · refine ⟨R, ?_, fun _ _ => rfl, ?_⟩
      · rw [if_pos (nI_le (by omega) (by omega))]
      · rw [ep, if_pos q]
        exact hR
    · obtain ⟨R1, b1, b2, b3⟩ := sw_eq (F := F) (R := R) (a := lo) (b := hi) (by omega) (by omega)
      obtain ⟨hi', rfl⟩ : ∃ h', hi = h' + 1 := ⟨hi - 1, by omega⟩
      rw [ep, if_neg q, if_neg (nI_ge (by omega) (by omega)), b1, k_t2]
      simp only [k_e]
      rw [pk_m1, nI_1]
      obtain ⟨R', a1, a2, a3⟩ := ih n (lo + 1) hi' (psw d lo (hi' + 1)) R1 (by omega) (by omega) (by omega) (by omega) (fun k hk => by
        rw [b3 k]
        unfold psw
        by_cases k1 : k = hi' + 1
        · rw [if_pos k1, if_pos k1, hR lo (by omega)]
        · rw [if_neg k1, if_neg k1]
          by_cases k2 : k = lo
          · rw [if_pos k2, if_pos k2, hR (hi' + 1) (by omega)]
          · rw [if_neg k2, if_neg k2, hR k hk])
      exact ⟨R', a1, fun c hc => by rw [a2 c hc, b2 c hc], a3⟩
theorem mem_le {m : Nat} {mem : Nat → Nat} (mono : ∀ a b, a < m → b < m → a < b → mem a < mem b) (hmem : ∀ k, k < m → mem k < 10) {a b : Nat} (ha : a < m) (hb1 : b < m) : nI (mem a) ≤ nI (mem b) ↔ a ≤ b := by
  have h1 := hmem a ha
  have h2 := hmem b hb1
  rw [nI_leI (by omega) (by omega)]
  constructor
  · intro z
    by_cases q : a ≤ b
    · exact q
    · have := mono b a hb1 ha (by omega)
      omega
  · intro z
    by_cases q : a = b
    · rw [q]; exact Nat.le_refl _
    · have := mono a b ha hb1 (by omega)
      omega
theorem plarg_le (d : Nat → Nat) (r : Nat) : ∀ l, plarg d r l ≤ l := by
  intro l
  induction l with
  | zero => exact Nat.le_refl _
  | succ l ih =>
    show (if l + 1 ≤ r + 1 then l + 1 else if d r ≤ d (l + 1) then l + 1 else plarg d r l) ≤ l + 1
    split
    · exact Nat.le_refl _
    · split
      · exact Nat.le_refl _
      · omega
theorem prise_le (d : Nat → Nat) : ∀ r, prise d r ≤ r := by
  intro r
  induction r with
  | zero => exact Nat.le_refl _
  | succ r ih =>
    show (if d (r + 1) < d r then prise d r else r + 1) ≤ r + 1
    split
    · omega
    · exact Nat.le_refl _
theorem nx_55 (hm : 2 ≤ m ∧ m ≤ 5) (hR : ∀ k, k < m → R 49 k = nI (mem (d k))) (hd : ∀ k, k < m → d k < m) (mono : ∀ a b, a < m → b < m → a < b → mem a < mem b) (hmem : ∀ k, k < m → mem k < 10) {r : Nat} (hr : r < m) : ∀ l, l < m → ∀ n, l < n → K_X6_next_55 F R (nI r) n (nI l) = K_X6_next_83 F R (nI r) (nI (plarg d r l)) := by
  intro l
  induction l with
  | zero =>
    intro hl n hn
    obtain ⟨n, rfl⟩ : ∃ n', n = n' + 1 := ⟨n - 1, by omega⟩
    rw [ks_X6_next_55]
    unfold KB_X6_next_55
    simp only [k_e]
    rw [nI_1, if_pos (nI_le (by omega) (by omega))]
    rfl
  | succ l ih =>
    intro hl n hn
    obtain ⟨n, rfl⟩ : ∃ n', n = n' + 1 := ⟨n - 1, by omega⟩
    have ep : plarg d r (l + 1) = if l + 1 ≤ r + 1 then l + 1 else if d r ≤ d (l + 1) then l + 1 else plarg d r l := rfl
    rw [ks_X6_next_55]
    unfold KB_X6_next_55
    simp only [k_e]
    rw [nI_1, ep]
    by_cases q : l + 1 ≤ r + 1
    · rw [if_pos (nI_le q (by omega)), if_pos q]
    · rw [if_neg (nI_ge (by omega) (by omega)), if_neg q, nI_clamp (by omega), nI_clamp (by omega), hR (l + 1) hl, hR r hr]
      by_cases q2 : d r ≤ d (l + 1)
      · rw [if_pos ((mem_le mono hmem (hd r hr) (hd _ hl)).mpr q2), if_pos q2]
      · rw [if_neg (fun z => q2 ((mem_le mono hmem (hd r hr) (hd _ hl)).mp z)), if_neg q2, pk_m1]
        exact ih (by omega) n (by omega)
theorem nx_11 (hm : 2 ≤ m ∧ m ≤ 5) (hR : ∀ k, k < m → R 49 k = nI (mem (d k))) (hd : ∀ k, k < m → d k < m) (mono : ∀ a b, a < m → b < m → a < b → mem a < mem b) (hmem : ∀ k, k < m → mem k < 10) : ∀ r, r < m → ∀ n, r < n → K_X6_next_11 F R n (nI r + (-1)) = if prise d r = 0 then (0, F, R) else K_X6_next_38 F R (nI (prise d r - 1)) := by
  intro r
  induction r with
  | zero =>
    intro hl n hn
    obtain ⟨n, rfl⟩ : ∃ n', n = n' + 1 := ⟨n - 1, by omega⟩
    rw [ks_X6_next_11]
    unfold KB_X6_next_11 K_X6_next_38
    rw [if_pos (show nI 0 + (-1) < 0 by decide), if_neg (show ¬ 0 ≤ nI 0 + (-1) by decide), if_pos (show prise d 0 = 0 from rfl)]
  | succ r ih =>
    intro hl n hn
    obtain ⟨n, rfl⟩ : ∃ n', n = n' + 1 := ⟨n - 1, by omega⟩
    have ep : prise d (r + 1) = if d (r + 1) < d r then prise d r else r + 1 := rfl
    rw [ks_X6_next_11]
    unfold KB_X6_next_11
    rw [pk_m1, if_neg (nI_pos (by omega))]
    simp only [k_e]
    rw [nI_1, nI_clamp (by omega), nI_clamp (by omega), hR (r + 1) hl, hR r (by omega), ep]
    by_cases q : d (r + 1) < d r
    · rw [if_neg (fun z => by
        have := (mem_le mono hmem (hd r (by omega)) (hd _ hl)).mp z
        omega), if_pos q]
      exact ih (by omega) n (by omega)
    · rw [if_pos ((mem_le mono hmem (hd r (by omega)) (hd _ hl)).mpr (by omega)), if_neg q, if_neg (by omega)]
      rfl
theorem next_eq (hm : 2 ≤ m ∧ m ≤ 5) (hF : F 755 = nI m) (hR : ∀ k, k < m → R 49 k = nI (mem (d k))) (hd : ∀ k, k < m → d k < m) (mono : ∀ a b, a < m → b < m → a < b → mem a < mem b) (hmem : ∀ k, k < m → mem k < 10) : ∃ R', sp_X6_next F R = ((if prise d (m - 1) = 0 then 0 else 1), F, R') ∧ (∀ c, c ≠ 49 → R' c = R c) ∧ (¬ prise d (m - 1) = 0 → ∀ k, k < m → R' 49 k = nI (mem (pnxt m d k))) := by
  have e0 : sp_X6_next F R = K_X6_next_11 F R 8589934592 (nI (m - 1) + (-1)) := by
    unfold sp_X6_next
    simp only [k_e]
    rw [hF, if_neg (show ¬ (5 : Int32) < nI m from nI_nlt (b := m) (a := 5) (by omega) (by omega))]
    obtain ⟨m', rfl⟩ : ∃ m', m = m' + 2 := ⟨m - 2, by omega⟩
    rw [show (2 : Int32) = nI 2 from rfl, pk_sub (by omega), show m' + 2 - 2 = m' by omega, show m' + 2 - 1 = m' + 1 by omega, pk_m1]
  rw [e0, nx_11 hm hR hd mono hmem (m - 1) (by omega) 8589934592 (by omega)]
  by_cases q : prise d (m - 1) = 0
  · rw [if_pos q, if_pos q]
    exact ⟨R, rfl, fun _ _ => rfl, fun z => absurd q z⟩
  · have hle := prise_le d (m - 1)
    obtain ⟨r, hr⟩ : ∃ r, prise d (m - 1) = r + 1 := ⟨prise d (m - 1) - 1, by omega⟩
    have hlg := plarg_le d r (m - 1)
    have e1 : K_X6_next_38 F R (nI r) = K_X6_next_83 F R (nI r) (nI (plarg d r (m - 1))) := by
      unfold K_X6_next_38
      simp only [k_e]
      rw [if_pos (nI_pos' (by omega)), hF, if_neg (show ¬ (5 : Int32) < nI m from nI_nlt (b := m) (a := 5) (by omega) (by omega))]
      rw [show nI m - 1 = nI (m - 1) from pk_sub (a := m) (b := 1) (by omega)]
      exact nx_55 hm hR hd mono hmem (by omega) (m - 1) (by omega) 8589934592 (by omega)
    obtain ⟨R1, b1, b2, b3⟩ := sw_eq (F := F) (R := R) (a := r) (b := plarg d r (m - 1)) (by omega) (by omega)
    obtain ⟨R', a1, a2, a3⟩ := nx_101 (F := F) (mem := mem) hm m 8589934592 (r + 1) (m - 1) (psw d r (plarg d r (m - 1))) R1 (by omega) (by omega) (by omega) (by omega) (fun k hk => by
      rw [b3 k]
      unfold psw
      by_cases k1 : k = plarg d r (m - 1)
      · rw [if_pos k1, if_pos k1, hR r (by omega)]
      · rw [if_neg k1, if_neg k1]
        by_cases k2 : k = r
        · rw [if_pos k2, if_pos k2, hR _ (by omega)]
        · rw [if_neg k2, if_neg k2, hR k hk])
    rw [if_neg q, if_neg q, hr, show r + 1 - 1 = r by omega, e1]
    refine ⟨R', ?_, fun c hc => by rw [a2 c hc, b2 c hc], fun _ => ?_⟩
    · unfold K_X6_next_83
      rw [b1, k_t2]
      simp only [k_e]
      rw [hF, nI_1, show nI m - 1 = nI (m - 1) from pk_sub (a := m) (b := 1) (by omega)]
      exact a1
    · unfold pnxt
      rw [hr, show r + 1 - 1 = r by omega]
      exact a3
end PNX
