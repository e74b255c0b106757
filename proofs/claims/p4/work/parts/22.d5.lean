/-! ===== rows of places ===== -/
def g_spec (n c : Int) : Prop := n = 2 ∧ c = 1 ∨ n = 3 ∧ c = 5 ∨ n = 4 ∧ c = 27 ∨ n = 5 ∧ c = 194
theorem g_spec_c (n c : Int32) : (n = 2 ∧ c = 1) ∨ (n = 3 ∧ c = 5) ∨ (n = 4 ∧ c = 27) ∨ (n = 5 ∧ c = 194) ∨ ¬ g_spec n.toInt c.toInt := by
  by_cases h : g_spec n.toInt c.toInt
  · have e : ∀ (x : Int32) (k : Int32), x.toInt = k.toInt → x = k := fun x k q => Int32.toInt_inj.mp q
    rcases h with ⟨a, b⟩ | ⟨a, b⟩ | ⟨a, b⟩ | ⟨a, b⟩
    · exact Or.inl ⟨e n 2 a, e c 1 b⟩
    · exact Or.inr (Or.inl ⟨e n 3 a, e c 5 b⟩)
    · exact Or.inr (Or.inr (Or.inl ⟨e n 4 a, e c 27 b⟩))
    · exact Or.inr (Or.inr (Or.inr (Or.inl ⟨e n 5 a, e c 194 b⟩)))
  · exact Or.inr (Or.inr (Or.inr (Or.inr h)))
theorem g_specn {n c : Int} (h : ¬ g_spec n c) : ¬ (n = 2 ∧ c = 1) ∧ ¬ (n = 3 ∧ c = 5) ∧ ¬ (n = 4 ∧ c = 27) ∧ ¬ (n = 5 ∧ c = 194) := by
  unfold g_spec at h
  omega
/-- how many of a set's first bits are set -/
def g_bits (x : Int32) : Nat → Int
  | 0 => 0
  | n + 1 => g_bits x n + ((x >>> (nI n &&& 31)) &&& 1).toInt
theorem g_bit01 (x : Int32) : jv 0 1 (x &&& 1) := jv_and 0 1 rfl (jv_k (x := 1) 1 (by decide)) (by decide)
theorem g_bits_m (x : Int32) : ∀ {a b : Nat}, a ≤ b → g_bits x a ≤ g_bits x b := by
  intro a b h
  induction h with
  | refl => exact Int.le_refl _
  | step _ ih =>
    rename_i m _
    have := (g_bit01 (x >>> (nI m &&& 31))).1
    rw [g_bits]
    omega
theorem g_bits_s {x k k' v : Int32} (hk : jv 0 9 k) (ek : k'.toInt = k.toInt + 1) (ev : v = (x >>> (k &&& 31)) &&& 1) : g_bits x k'.toInt.toNat = g_bits x k.toInt.toNat + v.toInt := by
  obtain ⟨n, rfl, h1, h2, h3⟩ := jv_n hk (by decide)
  have e1 : (nI n).toInt.toNat = n := by omega
  have e2 : k'.toInt.toNat = n + 1 := by omega
  rw [e1, e2, g_bits, ev]
theorem g_bits_y {x k : Int32} (hk : jv 0 9 k) (h : hb x k) : g_bits x (k.toInt.toNat + 1) = g_bits x k.toInt.toNat + 1 := by
  obtain ⟨n, rfl, h1, h2, h3⟩ := jv_n hk (by decide)
  have e1 : (nI n).toInt.toNat = n := by omega
  rw [e1, g_bits, show (x >>> (nI n &&& 31)) &&& 1 = 1 from h]
  rfl
theorem g_bits_n {x k : Int32} (hk : jv 0 9 k) (h : ¬ hb x k) : g_bits x (k.toInt.toNat + 1) = g_bits x k.toInt.toNat := by
  obtain ⟨n, rfl, h1, h2, h3⟩ := jv_n hk (by decide)
  have e1 : (nI n).toInt.toNat = n := by omega
  have h4 := g_bit01 (x >>> (nI n &&& 31))
  have h5 : ((x >>> (nI n &&& 31)) &&& 1).toInt = 0 := by
    rcases (show ((x >>> (nI n &&& 31)) &&& 1).toInt = 0 ∨ ((x >>> (nI n &&& 31)) &&& 1).toInt = 1 from by unfold jv at h4; omega) with q | q
    · exact q
    · exact absurd (Int32.toInt_inj.mp (q.trans (show (1 : Int) = (1 : Int32).toInt from rfl))) h
  rw [e1, g_bits, h5]
  omega
theorem g_hasn {r : Int32} {P : Prop} (h : r = 0 ∧ ¬ P ∨ r = 1 ∧ P) (c : r = 0) : ¬ P := by
  rcases h with h | h
  · exact h.2
  · exact absurd (h.1.symm.trans c) (by decide)
def g_pw (n : Int) : Nat → Int
  | 0 => 1
  | k + 1 => g_pw n k * n
theorem g_pw_b {n : Int} (h : 2 ≤ n ∧ n ≤ 5) (k : Nat) (hk : (k : Int) ≤ n) : 1 ≤ g_pw n k ∧ g_pw n k ≤ 3125 := by
  have hn : n = 2 ∨ n = 3 ∨ n = 4 ∨ n = 5 := by omega
  have hk2 : k = 0 ∨ k = 1 ∨ k = 2 ∨ k = 3 ∨ k = 4 ∨ k = 5 := by omega
  rcases hn with rfl | rfl | rfl | rfl <;> rcases hk2 with rfl | rfl | rfl | rfl | rfl | rfl <;> first | (simp [g_pw]; done) | omega
theorem g_pw_e {n r : Int} (h : 2 ≤ n ∧ n ≤ 5) (e : r = g_pw n n.toNat) : n = 2 ∧ r = 4 ∨ n = 3 ∧ r = 27 ∨ n = 4 ∧ r = 256 ∨ n = 5 ∧ r = 3125 := by
  have hn : n = 2 ∨ n = 3 ∨ n = 4 ∨ n = 5 := by omega
  rcases hn with rfl | rfl | rfl | rfl <;> simp [g_pw] at e <;> omega
theorem g_pw_s {n a : Int} {k k' : Int32} {b : Int} (hk : jv 0 b k) (ek : k'.toInt = k.toInt + 1) (e : a = g_pw n k.toInt.toNat) : a * n = g_pw n k'.toInt.toNat := by
  have h := hk.1
  rw [show k'.toInt.toNat = k.toInt.toNat + 1 from by omega, g_pw, e]

set_option maxHeartbeats 4000000 in
set_option maxRecDepth 100000 in
theorem w_X11_bits2 (l : Launch) (X : gX) (ad : Nat → Nat) (F : Nat → Int32) (R : Nat → Nat → Int32) (hI : g_ok LK_wM F) (hA : g_okR LA_wM R) (a0 : Int32) : g_Ci l X yX11_bits cX11_bits 3 (some .int) 1 0 0 [.int a0] (wM X ad F R) (fun r w => w = wM X ad F R ∧ jv 0 10 r ∧ r.toInt = g_bits a0 10) := by
  refine g_mi (by decide +kernel) (Nat.le_of_ble_eq_true rfl) (fun E cx hret => ?_)
  refine g_iconst cx 0 (by decide) e_X11_bits_0 ?_
  refine g_istore_n cx [(1, .int 0), (0, .int a0)] e_X11_bits_1 (by decide) rfl ?_
  refine g_iconst cx 0 (by decide) e_X11_bits_2 ?_
  refine g_istore_n cx [(2, .int 0), (1, .int 0), (0, .int a0)] e_X11_bits_3 (by decide) rfl ?_
  have J4 : ∀ (N : Nat) (y1 : Int32) (y2 : Int32), (jv 0 11 y1) → (jv 0 10 y2) → (0 ≤ y1.toInt ∧ y1.toInt ≤ y2.toInt) → ((y1 : Int32).toInt = g_bits a0 (y2 : Int32).toInt.toNat) → (2147483647 - y2.toInt).toNat < N → G X E 3 0 0 (wM X ad F R) [(0, .int a0), (1, .int y1), (2, .int y2)] 4 [] := by
    intro N
    induction N with
    | zero => intro y1 y2 py1 py2 zi4_0 zq4_0 hm; exact absurd hm (Nat.not_lt_zero _)
    | succ N ih4 =>
      intro y1 y2 py1 py2 zi4_0 zq4_0 hm4
      have p3 : jv 0 10 y1 := ⟨by have q0 := py1.1; have q1 := py1.2; have q2 := py2.1; have q3 := py2.2; have q4 := zi4_0; omega, by have q0 := py1.1; have q1 := py1.2; have q2 := py2.1; have q3 := py2.2; have q4 := zi4_0; omega⟩
      refine g_iload_n cx 2 rfl e_X11_bits_4 ?_
      refine g_bipush cx 10 (by decide) e_X11_bits_5 ?_
      refine g_icmp_ge cx 24 e_X11_bits_7 (by decide) (fun zc4 => ?_) (fun zc4 => ?_)
      · have p5 := gn_ge 10 10 (gc_le zc4) py2 (jv_k (x := 10) 10 (by decide)) (by decide)
        refine g_iload_n cx 1 rfl e_X11_bits_24 ?_
        exact hret e_X11_bits_25 (Nat.le_of_ble_eq_true rfl) (Nat.le_of_ble_eq_true rfl) rfl ⟨rfl, p3, (by have q := zq4_0; have q2 := p5; rw [show (y2 : Int32).toInt.toNat = 10 from by unfold jv at q2; omega] at q; exact q)⟩
      · have p6 := gn_lt 0 9 (gc_nle zc4) py2 (jv_k (x := 10) 10 (by decide)) (by decide)
        refine g_iload_n cx 1 rfl e_X11_bits_10 ?_
        refine g_iload_n cx 0 rfl e_X11_bits_11 ?_
        refine g_iload_n cx 2 rfl e_X11_bits_12 ?_
        refine g_ishr cx e_X11_bits_13 ?_
        refine g_topi (fun x7 ex7 => ?_)
        refine g_iconst cx 1 (by decide) e_X11_bits_14 ?_
        refine g_iand cx e_X11_bits_15 ?_
        refine g_topi (fun x8 ex8 => ?_)
        have px8 := jv_and 0 1 ex8 (jv_k (x := 1) 1 (by decide)) (by decide)
        refine g_iadd cx e_X11_bits_16 ?_
        refine g_topi (fun x9 ex9 => ?_)
        have zx9 := jv_add 0 11 ex9 p3 px8 (by decide)
        refine g_istore_n cx [(1, .int x9), (0, .int a0), (2, .int y2)] e_X11_bits_17 (by decide) rfl ?_
        obtain ⟨x10, ex10⟩ : ∃ z : Int32, z = y2 + Int32.ofInt 1 := ⟨_, rfl⟩
        refine g_iinc cx x10 [(2, .int x10), (1, .int x9), (0, .int a0)] 2 e_X11_bits_18 rfl ex10.symm (by decide) rfl ?_
        have zx10 := jv_add 1 10 (show x10 = y2 + 1 from ex10) p6 (jv_k (x := 1) 1 (by decide)) (by decide)
        refine g_goto cx 4 e_X11_bits_21 (by decide) ?_
        refine g_lsub [2, 1, 0] [(0, .int a0), (1, .int x9), (2, .int x10)] rfl ?_
        exact ih4 x9 x10 zx9.2 (jv_w zx10.2 (by decide)) (by have q0 := (jv_k (x := 1) 1 (by decide)).1; have q1 := (jv_k (x := 1) 1 (by decide)).2; have q2 := (jv_k (x := 10) 10 (by decide)).1; have q3 := (jv_k (x := 10) 10 (by decide)).2; have q4 := zx10.2.1; have q5 := zx10.2.2; have q6 := px8.1; have q7 := px8.2; have q8 := zx9.2.1; have q9 := zx9.2.2; have q10 := p3.1; have q11 := p3.2; have q12 := p6.1; have q13 := p6.2; have q14 := zi4_0; have q15 := (gc_nle zc4); have q16 := (g_eq0 zx9.1); have q17 := (g_eq0 zx10.1); omega) ((by have q := g_bits_s (x := a0) p6 (g_eq0 zx10.1) (ex8.trans (by rw [ex7])); have q2 := (g_eq0 zx9.1); have q3 := zq4_0; rw [q]; omega)) (Nat.lt_of_lt_of_le (show (2147483647 - x10.toInt).toNat < (2147483647 - y2.toInt).toNat from by have q0 := (jv_k (x := 1) 1 (by decide)).1; have q1 := (jv_k (x := 1) 1 (by decide)).2; have q2 := (jv_k (x := 10) 10 (by decide)).1; have q3 := (jv_k (x := 10) 10 (by decide)).2; have q4 := zx10.2.1; have q5 := zx10.2.2; have q6 := px8.1; have q7 := px8.2; have q8 := zx9.2.1; have q9 := zx9.2.2; have q10 := p3.1; have q11 := p3.2; have q12 := p6.1; have q13 := p6.2; have q14 := zi4_0; have q15 := (gc_nle zc4); have q16 := (g_eq0 zx9.1); have q17 := (g_eq0 zx10.1); omega) (Nat.le_of_lt_succ hm4))
  refine g_lsub [2, 1, 0] [(0, .int a0), (1, .int 0), (2, .int 0)] rfl ?_
  exact J4 _ 0 0 (jv_w (jv_k (x := 0) 0 (by decide)) (by decide)) (jv_w (jv_k (x := 0) 0 (by decide)) (by decide)) (by have q0 := (jv_k (x := 0) 0 (by decide)).1; have q1 := (jv_k (x := 0) 0 (by decide)).2; omega) (rfl) (Nat.lt_succ_self _)
def md_X11_forgetsBest2 : List Nat := [70, 71, 72]
def mr_X11_forgetsBest2 : List Nat := []
set_option maxHeartbeats 4000000 in
set_option maxRecDepth 100000 in
theorem w_X11_forgetsBest2 (l : Launch) (X : gX) (ad : Nat → Nat) (F : Nat → Int32) (R : Nat → Nat → Int32) (hI : g_ok LK_wM F) (hA : g_okR LA_wM R) (hWT : WT F R) (hWC : WC F R) : g_Cv l X yX11_forgetsBest cX11_forgetsBest 1 1 0 0 [.ref (ad 0)] (wM X ad F R) (fun w => ∃ (F' : Nat → Int32) (R' : Nat → Nat → Int32), w = wM X ad F' R' ∧ g_ok LK_wM F' ∧ g_okR LA_wM R' ∧ WT F' R' ∧ WC F' R' ∧ g_fr md_X11_forgetsBest2 F F' ∧ g_fr mr_X11_forgetsBest2 R R' ∧ (F' 70).toInt = -1) := by
  refine g_mv (by decide +kernel) (Nat.le_of_ble_eq_true rfl) (fun E cx hret => ?_)
  refine g_aload_n cx 0 rfl e_X11_forgetsBest_0 ?_
  refine g_iconst cx (-1) (by decide) e_X11_forgetsBest_1 ?_
  refine g_put cx cl_X11 fl_X11_449 0 (wM X ad (upd F 70 (-1)) R) e_X11_forgetsBest_2 rfl rfl rfl rfl (Nat.le_of_ble_eq_true rfl) rfl ?_
  obtain ⟨F1, hF1⟩ : ∃ z, z = upd F 70 (-1) := ⟨_, rfl⟩
  rw [← hF1]
  have oF1 : g_ok LK_wM F1 := by rw [hF1]; exact g_ok_u hI rfl
  have fF1 : g_fr md_X11_forgetsBest2 F F1 := by rw [hF1]; exact g_fr_u (g_fr_rf F) rfl
  have wTF1 : WT F1 R := by rw [hF1]; exact WT_u hWT rfl
  have wCF1 : WC F1 R := by rw [hF1]; exact WC_u hWC rfl
  refine g_aload_n cx 0 rfl e_X11_forgetsBest_5 ?_
  refine g_iconst cx 0 (by decide) e_X11_forgetsBest_6 ?_
  refine g_put cx cl_X11 fl_X11_452 0 (wM X ad (upd F1 71 0) R) e_X11_forgetsBest_7 rfl rfl rfl rfl (Nat.le_of_ble_eq_true rfl) rfl ?_
  obtain ⟨F2, hF2⟩ : ∃ z, z = upd F1 71 0 := ⟨_, rfl⟩
  rw [← hF2]
  have oF2 : g_ok LK_wM F2 := by rw [hF2]; exact g_ok_u oF1 rfl
  have fF2 : g_fr md_X11_forgetsBest2 F F2 := by rw [hF2]; exact g_fr_u fF1 rfl
  have wTF2 : WT F2 R := by rw [hF2]; exact WT_u wTF1 rfl
  have wCF2 : WC F2 R := by rw [hF2]; exact WC_u wCF1 rfl
  refine g_aload_n cx 0 rfl e_X11_forgetsBest_10 ?_
  refine g_iconst cx (-1) (by decide) e_X11_forgetsBest_11 ?_
  refine g_put cx cl_X11 fl_X11_455 0 (wM X ad (upd F2 72 (-1)) R) e_X11_forgetsBest_12 rfl rfl rfl rfl (Nat.le_of_ble_eq_true rfl) rfl ?_
  obtain ⟨F3, hF3⟩ : ∃ z, z = upd F2 72 (-1) := ⟨_, rfl⟩
  rw [← hF3]
  have oF3 : g_ok LK_wM F3 := by rw [hF3]; exact g_ok_u oF2 rfl
  have fF3 : g_fr md_X11_forgetsBest2 F F3 := by rw [hF3]; exact g_fr_u fF2 rfl
  have wTF3 : WT F3 R := by rw [hF3]; exact WT_u wTF2 rfl
  have wCF3 : WC F3 R := by rw [hF3]; exact WC_u wCF2 rfl
  exact hret e_X11_forgetsBest_15 (Nat.le_of_ble_eq_true rfl) (Nat.le_of_ble_eq_true rfl) ⟨F3, R, rfl, oF3, hA, wTF3, wCF3, fF3, (g_fr_rf R), (congrArg Int32.toInt (((g_pu2 hF3 rfl).trans (g_pu2 hF2 rfl)).trans (g_pu1 hF1)))⟩
def md_X11_better2 : List Nat := [70, 71, 72]
def mr_X11_better2 : List Nat := []
set_option maxHeartbeats 4000000 in
set_option maxRecDepth 100000 in
theorem w_X11_better2 (l : Launch) (X : gX) (ad : Nat → Nat) (F : Nat → Int32) (R : Nat → Nat → Int32) (hI : g_ok LK_wM F) (hA : g_okR LA_wM R) (hWT : WT F R) (hWC : WC F R) (a0 : Int32) : g_Cv l X yX11_better cX11_better 4 4 0 0 [.ref (ad 0), .int a0] (wM X ad F R) (fun w => ∃ (F' : Nat → Int32) (R' : Nat → Nat → Int32), w = wM X ad F' R' ∧ g_ok LK_wM F' ∧ g_okR LA_wM R' ∧ WT F' R' ∧ WC F' R' ∧ g_fr md_X11_better2 F F' ∧ g_fr mr_X11_better2 R R' ∧ ((F 70).toInt = -1 → (F' 72).toInt = a0.toInt) ∧ ((F' 72).toInt = (F 72).toInt ∧ (F' 70).toInt = (F 70).toInt ∨ (F' 72).toInt = a0.toInt)) := by
  refine g_mv (by decide +kernel) (Nat.le_of_ble_eq_true rfl) (fun E cx hret => ?_)
  refine g_aload_n cx 0 rfl e_X11_better_0 ?_
  refine g_cViW cx [] [] (w_X11_standing l X ad F R hI hA hWT hWC) ml_X11_407 yV_X11_standing e_X11_better_1 (by unfold g_rr; decide) (by decide) 0 rfl rfl rfl (Nat.le_of_ble_eq_true rfl) (fun r1 w2 h3 => ?_)
  obtain ⟨rfl, pr1⟩ := h3
  refine g_cSiW cx [.int r1] [] (w_X11_bits2 l X ad F R hI hA r1) ml_X11_410 yS_X11_bits rfl e_X11_better_4 (by unfold g_rr; decide) (by decide) rfl (Nat.le_of_ble_eq_true rfl) (fun r4 w5 h6 => ?_)
  obtain ⟨rfl, pr4, zx7⟩ := h6
  refine g_istore_n cx [(2, .int r4), (0, .ref (ad 0)), (1, .int a0)] e_X11_better_7 (by decide) rfl ?_
  refine g_aload_n cx 1 rfl e_X11_better_8 ?_
  refine g_cViW cx [] [] (w_X11_inchesAll l X ad F R hI hA hWT hWC) ml_X11_413 yV_X11_inchesAll e_X11_better_9 (by unfold g_rr; decide) (by decide) 0 rfl rfl rfl (Nat.le_of_ble_eq_true rfl) (fun r8 w9 h10 => ?_)
  obtain ⟨rfl, pr8⟩ := h10
  refine g_istore_n cx [(3, .int r8), (2, .int r4), (0, .ref (ad 0)), (1, .int a0)] e_X11_better_12 (by decide) rfl ?_
  refine g_iload_n cx 1 rfl e_X11_better_13 ?_
  refine g_aload_n cx 2 rfl e_X11_better_14 ?_
  refine g_get cx cl_X11 fl_X11_449 0 (.int (F 70)) e_X11_better_15 rfl rfl ?_
  refine g_icmp_lt cx 37 e_X11_better_18 (by decide) (fun zc11 => ?_) (fun zc11 => ?_)
  · have p12 := gn_gt 1 2147483647 (gc_lt zc11) (jv_t (F 70)) pr4 (by decide)
    exact hret e_X11_better_37 (Nat.le_of_ble_eq_true rfl) (Nat.le_of_ble_eq_true rfl) ⟨F, R, rfl, hI, hA, hWT, hWC, (g_fr_rf F), (g_fr_rf R), (fun q70 => by have q0 := p12.1; have q1 := p12.2; have q2 := (jv_t (F 72)).1; have q3 := (jv_t (F 72)).2; have q4 := (jv_t a0).1; have q5 := (jv_t a0).2; have q6 := pr4.1; have q7 := pr4.2; have q8 := zx7; have q9 := (gc_lt zc11); have q10 := q70; omega), (by have q0 := p12.1; have q1 := p12.2; have q2 := (jv_t (F 72)).1; have q3 := (jv_t (F 72)).2; have q4 := (jv_t a0).1; have q5 := (jv_t a0).2; have q6 := pr4.1; have q7 := pr4.2; have q8 := zx7; have q9 := (gc_lt zc11); omega)⟩
  · have p13 := gn_le (-2147483648) 10 (gc_nlt zc11) (jv_t (F 70)) pr4 (by decide)
    refine g_iload_n cx 1 rfl e_X11_better_21 ?_
    refine g_aload_n cx 2 rfl e_X11_better_22 ?_
    refine g_get cx cl_X11 fl_X11_449 0 (.int (F 70)) e_X11_better_23 rfl rfl ?_
    refine g_icmp_ne cx 38 e_X11_better_26 (by decide) (fun zc14 => ?_) (fun zc14 => ?_)
    · refine g_aload_n cx 2 rfl e_X11_better_38 ?_
      refine g_iload_n cx 1 rfl e_X11_better_39 ?_
      refine g_put cx cl_X11 fl_X11_449 0 (wM X ad (upd F 70 r4) R) e_X11_better_40 rfl rfl rfl rfl (Nat.le_of_ble_eq_true rfl) rfl ?_
      obtain ⟨F15, hF15⟩ : ∃ z, z = upd F 70 r4 := ⟨_, rfl⟩
      rw [← hF15]
      have oF15 : g_ok LK_wM F15 := by rw [hF15]; exact g_ok_u hI rfl
      have fF15 : g_fr md_X11_better2 F F15 := by rw [hF15]; exact g_fr_u (g_fr_rf F) rfl
      have wTF15 : WT F15 R := by rw [hF15]; exact WT_u hWT rfl
      have wCF15 : WC F15 R := by rw [hF15]; exact WC_u hWC rfl
      refine g_aload_n cx 2 rfl e_X11_better_43 ?_
      refine g_iload_n cx 0 rfl e_X11_better_44 ?_
      refine g_put cx cl_X11 fl_X11_452 0 (wM X ad (upd F15 71 r8) R) e_X11_better_45 rfl rfl rfl rfl (Nat.le_of_ble_eq_true rfl) rfl ?_
      obtain ⟨F16, hF16⟩ : ∃ z, z = upd F15 71 r8 := ⟨_, rfl⟩
      rw [← hF16]
      have oF16 : g_ok LK_wM F16 := by rw [hF16]; exact g_ok_u oF15 rfl
      have fF16 : g_fr md_X11_better2 F F16 := by rw [hF16]; exact g_fr_u fF15 rfl
      have wTF16 : WT F16 R := by rw [hF16]; exact WT_u wTF15 rfl
      have wCF16 : WC F16 R := by rw [hF16]; exact WC_u wCF15 rfl
      refine g_aload_n cx 2 rfl e_X11_better_48 ?_
      refine g_iload_n cx 3 rfl e_X11_better_49 ?_
      refine g_put cx cl_X11 fl_X11_455 0 (wM X ad (upd F16 72 a0) R) e_X11_better_50 rfl rfl rfl rfl (Nat.le_of_ble_eq_true rfl) rfl ?_
      obtain ⟨F17, hF17⟩ : ∃ z, z = upd F16 72 a0 := ⟨_, rfl⟩
      rw [← hF17]
      have oF17 : g_ok LK_wM F17 := by rw [hF17]; exact g_ok_u oF16 rfl
      have fF17 : g_fr md_X11_better2 F F17 := by rw [hF17]; exact g_fr_u fF16 rfl
      have wTF17 : WT F17 R := by rw [hF17]; exact WT_u wTF16 rfl
      have wCF17 : WC F17 R := by rw [hF17]; exact WC_u wCF16 rfl
      exact hret e_X11_better_53 (Nat.le_of_ble_eq_true rfl) (Nat.le_of_ble_eq_true rfl) ⟨F17, R, rfl, oF17, hA, wTF17, wCF17, fF17, (g_fr_rf R), (fun q70 => by have q0 := p13.1; have q1 := p13.2; have q2 := (jv_t (F 72)).1; have q3 := (jv_t (F 72)).2; have q4 := (jv_t (F17 70)).1; have q5 := (jv_t (F17 70)).2; have q6 := (jv_t (F17 72)).1; have q7 := (jv_t (F17 72)).2; have q8 := (jv_t a0).1; have q9 := (jv_t a0).2; have q10 := pr4.1; have q11 := pr4.2; have q12 := zx7; have q13 := (gc_nlt zc11); have q14 := (gc_ne zc14); have q15 := (congrArg Int32.toInt (show F17 72 = a0 from (g_pu1 hF17))); have q16 := (congrArg Int32.toInt (show F17 70 = r4 from (((g_pu2 hF17 rfl).trans (g_pu2 hF16 rfl)).trans (g_pu1 hF15)))); have q17 := q70; omega), (by have q0 := p13.1; have q1 := p13.2; have q2 := (jv_t (F 72)).1; have q3 := (jv_t (F 72)).2; have q4 := (jv_t (F17 70)).1; have q5 := (jv_t (F17 70)).2; have q6 := (jv_t (F17 72)).1; have q7 := (jv_t (F17 72)).2; have q8 := (jv_t a0).1; have q9 := (jv_t a0).2; have q10 := pr4.1; have q11 := pr4.2; have q12 := zx7; have q13 := (gc_nlt zc11); have q14 := (gc_ne zc14); have q15 := (congrArg Int32.toInt (show F17 72 = a0 from (g_pu1 hF17))); have q16 := (congrArg Int32.toInt (show F17 70 = r4 from (((g_pu2 hF17 rfl).trans (g_pu2 hF16 rfl)).trans (g_pu1 hF15)))); have q17 := (congrArg Int32.toInt (show F17 72 = a0 from (g_pu1 hF17))); have q18 := (congrArg Int32.toInt (show F17 70 = r4 from (((g_pu2 hF17 rfl).trans (g_pu2 hF16 rfl)).trans (g_pu1 hF15)))); omega)⟩
    · have p18 := gn_eq 0 10 (gc_eq zc14).symm p13 pr4 (by decide)
      refine g_iload_n cx 0 rfl e_X11_better_29 ?_
      refine g_aload_n cx 2 rfl e_X11_better_30 ?_
      refine g_get cx cl_X11 fl_X11_452 0 (.int (F 71)) e_X11_better_31 rfl rfl ?_
      refine g_icmp_lt cx 38 e_X11_better_34 (by decide) (fun zc19 => ?_) (fun zc19 => ?_)
      · have p20 := gn_lt (-2147483648) 2147483646 (gc_lt zc19) pr8 (jv_t (F 71)) (by decide)
        have p21 := gn_gt (-2147483647) 2147483647 (gc_lt zc19) (jv_t (F 71)) pr8 (by decide)
        refine g_aload_n cx 2 rfl e_X11_better_38 ?_
        refine g_iload_n cx 1 rfl e_X11_better_39 ?_
        refine g_put cx cl_X11 fl_X11_449 0 (wM X ad (upd F 70 r4) R) e_X11_better_40 rfl rfl rfl rfl (Nat.le_of_ble_eq_true rfl) rfl ?_
        obtain ⟨F22, hF22⟩ : ∃ z, z = upd F 70 r4 := ⟨_, rfl⟩
        rw [← hF22]
        have oF22 : g_ok LK_wM F22 := by rw [hF22]; exact g_ok_u hI rfl
        have fF22 : g_fr md_X11_better2 F F22 := by rw [hF22]; exact g_fr_u (g_fr_rf F) rfl
        have wTF22 : WT F22 R := by rw [hF22]; exact WT_u hWT rfl
        have wCF22 : WC F22 R := by rw [hF22]; exact WC_u hWC rfl
        refine g_aload_n cx 2 rfl e_X11_better_43 ?_
        refine g_iload_n cx 0 rfl e_X11_better_44 ?_
        refine g_put cx cl_X11 fl_X11_452 0 (wM X ad (upd F22 71 r8) R) e_X11_better_45 rfl rfl rfl rfl (Nat.le_of_ble_eq_true rfl) rfl ?_
        obtain ⟨F23, hF23⟩ : ∃ z, z = upd F22 71 r8 := ⟨_, rfl⟩
        rw [← hF23]
        have oF23 : g_ok LK_wM F23 := by rw [hF23]; exact g_ok_u oF22 rfl
        have fF23 : g_fr md_X11_better2 F F23 := by rw [hF23]; exact g_fr_u fF22 rfl
        have wTF23 : WT F23 R := by rw [hF23]; exact WT_u wTF22 rfl
        have wCF23 : WC F23 R := by rw [hF23]; exact WC_u wCF22 rfl
        refine g_aload_n cx 2 rfl e_X11_better_48 ?_
        refine g_iload_n cx 3 rfl e_X11_better_49 ?_
        refine g_put cx cl_X11 fl_X11_455 0 (wM X ad (upd F23 72 a0) R) e_X11_better_50 rfl rfl rfl rfl (Nat.le_of_ble_eq_true rfl) rfl ?_
        obtain ⟨F24, hF24⟩ : ∃ z, z = upd F23 72 a0 := ⟨_, rfl⟩
        rw [← hF24]
        have oF24 : g_ok LK_wM F24 := by rw [hF24]; exact g_ok_u oF23 rfl
        have fF24 : g_fr md_X11_better2 F F24 := by rw [hF24]; exact g_fr_u fF23 rfl
        have wTF24 : WT F24 R := by rw [hF24]; exact WT_u wTF23 rfl
        have wCF24 : WC F24 R := by rw [hF24]; exact WC_u wCF23 rfl
        exact hret e_X11_better_53 (Nat.le_of_ble_eq_true rfl) (Nat.le_of_ble_eq_true rfl) ⟨F24, R, rfl, oF24, hA, wTF24, wCF24, fF24, (g_fr_rf R), (fun q70 => by have q0 := p18.1; have q1 := p18.2; have q2 := (jv_t (F 72)).1; have q3 := (jv_t (F 72)).2; have q4 := (jv_t (F24 70)).1; have q5 := (jv_t (F24 70)).2; have q6 := (jv_t (F24 72)).1; have q7 := (jv_t (F24 72)).2; have q8 := (jv_t a0).1; have q9 := (jv_t a0).2; have q10 := pr4.1; have q11 := pr4.2; have q12 := zx7; have q13 := (gc_nlt zc11); have q14 := (gc_eq zc14); have q15 := (congrArg Int32.toInt (show F24 72 = a0 from (g_pu1 hF24))); have q16 := (congrArg Int32.toInt (show F24 70 = r4 from (((g_pu2 hF24 rfl).trans (g_pu2 hF23 rfl)).trans (g_pu1 hF22)))); have q17 := q70; omega), (by have q0 := p18.1; have q1 := p18.2; have q2 := (jv_t (F 72)).1; have q3 := (jv_t (F 72)).2; have q4 := (jv_t (F24 70)).1; have q5 := (jv_t (F24 70)).2; have q6 := (jv_t (F24 72)).1; have q7 := (jv_t (F24 72)).2; have q8 := (jv_t a0).1; have q9 := (jv_t a0).2; have q10 := pr4.1; have q11 := pr4.2; have q12 := zx7; have q13 := (gc_nlt zc11); have q14 := (gc_eq zc14); have q15 := (congrArg Int32.toInt (show F24 72 = a0 from (g_pu1 hF24))); have q16 := (congrArg Int32.toInt (show F24 70 = r4 from (((g_pu2 hF24 rfl).trans (g_pu2 hF23 rfl)).trans (g_pu1 hF22)))); have q17 := (congrArg Int32.toInt (show F24 72 = a0 from (g_pu1 hF24))); have q18 := (congrArg Int32.toInt (show F24 70 = r4 from (((g_pu2 hF24 rfl).trans (g_pu2 hF23 rfl)).trans (g_pu1 hF22)))); omega)⟩
      · exact hret e_X11_better_37 (Nat.le_of_ble_eq_true rfl) (Nat.le_of_ble_eq_true rfl) ⟨F, R, rfl, hI, hA, hWT, hWC, (g_fr_rf F), (g_fr_rf R), (fun q70 => by have q0 := p18.1; have q1 := p18.2; have q2 := (jv_t (F 72)).1; have q3 := (jv_t (F 72)).2; have q4 := (jv_t a0).1; have q5 := (jv_t a0).2; have q6 := pr4.1; have q7 := pr4.2; have q8 := zx7; have q9 := (gc_nlt zc11); have q10 := (gc_eq zc14); have q11 := q70; omega), (by have q0 := p18.1; have q1 := p18.2; have q2 := (jv_t (F 72)).1; have q3 := (jv_t (F 72)).2; have q4 := (jv_t a0).1; have q5 := (jv_t a0).2; have q6 := pr4.1; have q7 := pr4.2; have q8 := zx7; have q9 := (gc_nlt zc11); have q10 := (gc_eq zc14); omega)⟩
theorem e_X11_readsRow_0 : g_dc cX11_readsRow 0 (.iload_n 1) 1 1 := ⟨by decide +kernel, rfl⟩
theorem e_X11_readsRow_1 : g_dc cX11_readsRow 1 (.istore_n 2) 1 2 := ⟨by decide +kernel, rfl⟩
theorem e_X11_readsRow_2 : g_dc cX11_readsRow 2 (.iconst 0) 1 3 := ⟨by decide +kernel, rfl⟩
theorem e_X11_readsRow_3 : g_dc cX11_readsRow 3 (.istore_n 3) 1 4 := ⟨by decide +kernel, rfl⟩
theorem e_X11_readsRow_4 : g_dc cX11_readsRow 4 (.aload_n 0) 1 5 := ⟨by decide +kernel, rfl⟩
theorem e_X11_readsRow_5 : g_dc cX11_readsRow 5 (.getfield 464) 3 8 := ⟨by decide +kernel, rfl⟩
theorem e_X11_readsRow_8 : g_dc cX11_readsRow 8 (.iconst 1) 1 9 := ⟨by decide +kernel, rfl⟩
theorem e_X11_readsRow_9 : g_dc cX11_readsRow 9 (.isub) 1 10 := ⟨by decide +kernel, rfl⟩
theorem e_X11_readsRow_10 : g_dc cX11_readsRow 10 (.istore 4) 2 12 := ⟨by decide +kernel, rfl⟩
theorem e_X11_readsRow_12 : g_dc cX11_readsRow 12 (.iload 4) 2 14 := ⟨by decide +kernel, rfl⟩
theorem e_X11_readsRow_14 : g_dc cX11_readsRow 14 (.ifCond .lt 57) 3 17 := ⟨by decide +kernel, rfl⟩
theorem e_X11_readsRow_17 : g_dc cX11_readsRow 17 (.aload_n 0) 1 18 := ⟨by decide +kernel, rfl⟩
theorem e_X11_readsRow_18 : g_dc cX11_readsRow 18 (.getfield 125) 3 21 := ⟨by decide +kernel, rfl⟩
theorem e_X11_readsRow_21 : g_dc cX11_readsRow 21 (.iload 4) 2 23 := ⟨by decide +kernel, rfl⟩
theorem e_X11_readsRow_23 : g_dc cX11_readsRow 23 (.iload_n 2) 1 24 := ⟨by decide +kernel, rfl⟩
theorem e_X11_readsRow_24 : g_dc cX11_readsRow 24 (.aload_n 0) 1 25 := ⟨by decide +kernel, rfl⟩
theorem e_X11_readsRow_25 : g_dc cX11_readsRow 25 (.getfield 464) 3 28 := ⟨by decide +kernel, rfl⟩
theorem e_X11_readsRow_28 : g_dc cX11_readsRow 28 (.irem) 1 29 := ⟨by decide +kernel, rfl⟩
theorem e_X11_readsRow_29 : g_dc cX11_readsRow 29 (.iastore) 1 30 := ⟨by decide +kernel, rfl⟩
theorem e_X11_readsRow_30 : g_dc cX11_readsRow 30 (.iload_n 2) 1 31 := ⟨by decide +kernel, rfl⟩
theorem e_X11_readsRow_31 : g_dc cX11_readsRow 31 (.aload_n 0) 1 32 := ⟨by decide +kernel, rfl⟩
theorem e_X11_readsRow_32 : g_dc cX11_readsRow 32 (.getfield 464) 3 35 := ⟨by decide +kernel, rfl⟩
theorem e_X11_readsRow_35 : g_dc cX11_readsRow 35 (.idiv) 1 36 := ⟨by decide +kernel, rfl⟩
theorem e_X11_readsRow_36 : g_dc cX11_readsRow 36 (.istore_n 2) 1 37 := ⟨by decide +kernel, rfl⟩
theorem e_X11_readsRow_37 : g_dc cX11_readsRow 37 (.iload_n 3) 1 38 := ⟨by decide +kernel, rfl⟩
theorem e_X11_readsRow_38 : g_dc cX11_readsRow 38 (.aload_n 0) 1 39 := ⟨by decide +kernel, rfl⟩
theorem e_X11_readsRow_39 : g_dc cX11_readsRow 39 (.getfield 125) 3 42 := ⟨by decide +kernel, rfl⟩
theorem e_X11_readsRow_42 : g_dc cX11_readsRow 42 (.iload 4) 2 44 := ⟨by decide +kernel, rfl⟩
theorem e_X11_readsRow_44 : g_dc cX11_readsRow 44 (.iaload) 1 45 := ⟨by decide +kernel, rfl⟩
theorem e_X11_readsRow_45 : g_dc cX11_readsRow 45 (.invokestatic 175) 3 48 := ⟨by decide +kernel, rfl⟩
theorem e_X11_readsRow_48 : g_dc cX11_readsRow 48 (.ifCond .eq 5) 3 51 := ⟨by decide +kernel, rfl⟩
theorem e_X11_readsRow_51 : g_dc cX11_readsRow 51 (.iconst 0) 1 52 := ⟨by decide +kernel, rfl⟩
theorem e_X11_readsRow_52 : g_dc cX11_readsRow 52 (.ireturn) 1 53 := ⟨by decide +kernel, rfl⟩
theorem e_X11_readsRow_53 : g_dc cX11_readsRow 53 (.iload_n 3) 1 54 := ⟨by decide +kernel, rfl⟩
theorem e_X11_readsRow_54 : g_dc cX11_readsRow 54 (.iconst 1) 1 55 := ⟨by decide +kernel, rfl⟩
theorem e_X11_readsRow_55 : g_dc cX11_readsRow 55 (.aload_n 0) 1 56 := ⟨by decide +kernel, rfl⟩
theorem e_X11_readsRow_56 : g_dc cX11_readsRow 56 (.getfield 125) 3 59 := ⟨by decide +kernel, rfl⟩
theorem e_X11_readsRow_59 : g_dc cX11_readsRow 59 (.iload 4) 2 61 := ⟨by decide +kernel, rfl⟩
theorem e_X11_readsRow_61 : g_dc cX11_readsRow 61 (.iaload) 1 62 := ⟨by decide +kernel, rfl⟩
theorem e_X11_readsRow_62 : g_dc cX11_readsRow 62 (.ishl) 1 63 := ⟨by decide +kernel, rfl⟩
theorem e_X11_readsRow_63 : g_dc cX11_readsRow 63 (.ior) 1 64 := ⟨by decide +kernel, rfl⟩
theorem e_X11_readsRow_64 : g_dc cX11_readsRow 64 (.istore_n 3) 1 65 := ⟨by decide +kernel, rfl⟩
theorem e_X11_readsRow_65 : g_dc cX11_readsRow 65 (.iinc 4 (-1)) 3 68 := ⟨by decide +kernel, rfl⟩
theorem e_X11_readsRow_68 : g_dc cX11_readsRow 68 (.goto (-56)) 3 71 := ⟨by decide +kernel, rfl⟩
theorem e_X11_readsRow_71 : g_dc cX11_readsRow 71 (.iconst 1) 1 72 := ⟨by decide +kernel, rfl⟩
theorem e_X11_readsRow_72 : g_dc cX11_readsRow 72 (.ireturn) 1 73 := ⟨by decide +kernel, rfl⟩
def md_X11_readsRow : List Nat := []
def mr_X11_readsRow : List Nat := [39]
set_option maxHeartbeats 4000000 in
set_option maxRecDepth 100000 in
theorem w_X11_readsRow (l : Launch) (X : gX) (ad : Nat → Nat) (F : Nat → Int32) (R : Nat → Nat → Int32) (hI : g_ok LK_wM F) (hA : g_okR LA_wM R) (hWT : WT F R) (hWC : WC F R) (a0 : Int32) (pa0 : jv 0 3124 a0) (hp2 : jv 2 5 (F 75)) : g_Ci l X yX11_readsRow cX11_readsRow 5 (some .boolean) 2 0 0 [.ref (ad 0), .int a0] (wM X ad F R) (fun r w => ∃ (F' : Nat → Int32) (R' : Nat → Nat → Int32), w = wM X ad F' R' ∧ g_ok LK_wM F' ∧ g_okR LA_wM R' ∧ WT F' R' ∧ WC F' R' ∧ g_fr md_X11_readsRow F F' ∧ g_fr mr_X11_readsRow R R' ∧ jv 0 1 r ∧ (r = 0 → ¬ g_spec (F 75).toInt a0.toInt)) := by
  refine g_mi (by decide +kernel) (Nat.le_of_ble_eq_true rfl) (fun E cx hret => ?_)
  rcases g_spec_c (F 75) a0 with ⟨zn, rfl⟩ | ⟨zn, rfl⟩ | ⟨zn, rfl⟩ | ⟨zn, rfl⟩ | hns
  · refine g_iload_n cx 1 rfl e_X11_readsRow_0 ?_
    refine g_istore_n cx [(2, .int 1), (0, .ref (ad 0)), (1, .int 1)] e_X11_readsRow_1 (by decide) rfl ?_
    refine g_iconst cx 0 (by decide) e_X11_readsRow_2 ?_
    refine g_istore_n cx [(3, .int 0), (2, .int 1), (0, .ref (ad 0)), (1, .int 1)] e_X11_readsRow_3 (by decide) rfl ?_
    refine g_aload_n cx 2 rfl e_X11_readsRow_4 ?_
    refine g_get cx cl_X11 fl_X11_464 0 (.int (F 75)) e_X11_readsRow_5 rfl rfl ?_
    refine g_toi 2 zn ?_
    refine g_iconst cx 1 (by decide) e_X11_readsRow_8 ?_
    refine g_isub cx e_X11_readsRow_9 ?_
    refine g_toi 1 (by decide) ?_
    refine g_istore cx [(4, .int 1), (3, .int 0), (2, .int 1), (0, .ref (ad 0)), (1, .int 1)] e_X11_readsRow_10 (by decide) rfl ?_
    refine g_iload cx 0 rfl e_X11_readsRow_12 ?_
    refine g_if_lt_f cx 71 e_X11_readsRow_14 (by decide) (by decide) ?_
    refine g_aload_n cx 3 rfl e_X11_readsRow_17 ?_
    refine g_get cx cl_X11 fl_X11_125 0 (.ref (ad 39)) e_X11_readsRow_18 rfl rfl ?_
    refine g_iload cx 0 rfl e_X11_readsRow_21 ?_
    refine g_iload_n cx 2 rfl e_X11_readsRow_23 ?_
    refine g_aload_n cx 3 rfl e_X11_readsRow_24 ?_
    refine g_get cx cl_X11 fl_X11_464 0 (.int (F 75)) e_X11_readsRow_25 rfl rfl ?_
    refine g_toi 2 zn ?_
    refine g_irem cx (by decide) e_X11_readsRow_28 ?_
    refine g_toi 1 (by decide) ?_
    refine g_iast cx 39 (wM X ad F (g_u R 39 (upd (R 39) 1 1))) e_X11_readsRow_29 rfl (jv_ix 5 (jv_k (x := 1) 1 (by decide)) (by decide)) rfl ?_
    obtain ⟨R1, hR1⟩ : ∃ z, z = g_u R 39 (upd (R 39) 1 1) := ⟨_, rfl⟩
    rw [← hR1]
    have oR1 : g_okR LA_wM R1 := by rw [hR1]; exact g_okR_p hA (jv_k (x := 1) 1 (by decide)) rfl
    have fR1 : g_fr mr_X11_readsRow R R1 := by rw [hR1]; exact g_fr_r (g_fr_rf R) rfl
    have wTR1 : WT F R1 := by rw [hR1]; exact WT_r hWT rfl
    have wCR1 : WC F R1 := by rw [hR1]; exact WC_r hWC rfl
    refine g_iload_n cx 2 rfl e_X11_readsRow_30 ?_
    refine g_aload_n cx 3 rfl e_X11_readsRow_31 ?_
    refine g_get cx cl_X11 fl_X11_464 0 (.int (F 75)) e_X11_readsRow_32 rfl rfl ?_
    refine g_toi 2 zn ?_
    refine g_idiv cx (by decide) e_X11_readsRow_35 ?_
    refine g_toi 0 (by decide) ?_
    refine g_istore_n cx [(2, .int 0), (4, .int 1), (3, .int 0), (0, .ref (ad 0)), (1, .int 1)] e_X11_readsRow_36 (by decide) rfl ?_
    refine g_iload_n cx 2 rfl e_X11_readsRow_37 ?_
    refine g_aload_n cx 3 rfl e_X11_readsRow_38 ?_
    refine g_get cx cl_X11 fl_X11_125 0 (.ref (ad 39)) e_X11_readsRow_39 rfl rfl ?_
    refine g_iload cx 1 rfl e_X11_readsRow_42 ?_
    refine g_iald cx 39 e_X11_readsRow_44 rfl (jv_ix 5 (jv_k (x := 1) 1 (by decide)) (by decide)) ?_
    refine g_topi (fun x2 ex2 => ?_)
    have p3 : jv 0 4 x2 := by rw [ex2]; exact g_okR_g oR1 5 rfl (jv_cl 5 (jv_k (x := 1) 1 (by decide)) (by decide))
    refine g_toi 1 (by rw [ex2, (g_ru1 hR1)]; exact g_us) ?_
    refine g_cSiW cx [.int 0, .int 1] [] (c_X11_has l X (wM X ad F R1) 0 1) ml_X11_175 yS_X11_has rfl e_X11_readsRow_45 (by unfold g_rr; decide) (by decide) rfl (Nat.le_of_ble_eq_true rfl) (fun r4 w5 h6 => ?_)
    obtain ⟨rfl, hr4⟩ := h6
    refine g_toi 0 (by rcases hr4 with q | q; exact q.1; exact absurd q.2 (by unfold hb; decide)) ?_
    refine g_if_eq_t cx 53 e_X11_readsRow_48 (by decide) (by decide) ?_
    refine g_iload_n cx 2 rfl e_X11_readsRow_53 ?_
    refine g_iconst cx 1 (by decide) e_X11_readsRow_54 ?_
    refine g_aload_n cx 3 rfl e_X11_readsRow_55 ?_
    refine g_get cx cl_X11 fl_X11_125 0 (.ref (ad 39)) e_X11_readsRow_56 rfl rfl ?_
    refine g_iload cx 1 rfl e_X11_readsRow_59 ?_
    refine g_iald cx 39 e_X11_readsRow_61 rfl (jv_ix 5 (jv_k (x := 1) 1 (by decide)) (by decide)) ?_
    refine g_topi (fun x7 ex7 => ?_)
    have p8 : jv 0 4 x7 := by rw [ex7]; exact g_okR_g oR1 5 rfl (jv_cl 5 (jv_k (x := 1) 1 (by decide)) (by decide))
    refine g_toi 1 (by rw [ex7, (g_ru1 hR1)]; exact g_us) ?_
    refine g_ishl cx e_X11_readsRow_62 ?_
    refine g_toi 2 (by decide) ?_
    refine g_ior cx e_X11_readsRow_63 ?_
    refine g_toi 2 (by decide) ?_
    refine g_istore_n cx [(3, .int 2), (2, .int 0), (4, .int 1), (0, .ref (ad 0)), (1, .int 1)] e_X11_readsRow_64 (by decide) rfl ?_
    refine g_iinc cx 0 [(4, .int 0), (3, .int 2), (2, .int 0), (0, .ref (ad 0)), (1, .int 1)] 2 e_X11_readsRow_65 rfl (by decide) (by decide) rfl ?_
    refine g_goto cx 12 e_X11_readsRow_68 (by decide) ?_
    refine g_iload cx 0 rfl e_X11_readsRow_12 ?_
    refine g_if_lt_f cx 71 e_X11_readsRow_14 (by decide) (by decide) ?_
    refine g_aload_n cx 3 rfl e_X11_readsRow_17 ?_
    refine g_get cx cl_X11 fl_X11_125 0 (.ref (ad 39)) e_X11_readsRow_18 rfl rfl ?_
    refine g_iload cx 0 rfl e_X11_readsRow_21 ?_
    refine g_iload_n cx 2 rfl e_X11_readsRow_23 ?_
    refine g_aload_n cx 3 rfl e_X11_readsRow_24 ?_
    refine g_get cx cl_X11 fl_X11_464 0 (.int (F 75)) e_X11_readsRow_25 rfl rfl ?_
    refine g_toi 2 zn ?_
    refine g_irem cx (by decide) e_X11_readsRow_28 ?_
    refine g_toi 0 (by decide) ?_
    refine g_iast cx 39 (wM X ad F (g_u R1 39 (upd (R1 39) 0 0))) e_X11_readsRow_29 rfl (jv_ix 5 (jv_k (x := 0) 0 (by decide)) (by decide)) rfl ?_
    obtain ⟨R9, hR9⟩ : ∃ z, z = g_u R1 39 (upd (R1 39) 0 0) := ⟨_, rfl⟩
    rw [← hR9]
    have oR9 : g_okR LA_wM R9 := by rw [hR9]; exact g_okR_p oR1 (jv_k (x := 0) 0 (by decide)) rfl
    have fR9 : g_fr mr_X11_readsRow R R9 := by rw [hR9]; exact g_fr_r fR1 rfl
    have wTR9 : WT F R9 := by rw [hR9]; exact WT_r wTR1 rfl
    have wCR9 : WC F R9 := by rw [hR9]; exact WC_r wCR1 rfl
    refine g_iload_n cx 2 rfl e_X11_readsRow_30 ?_
    refine g_aload_n cx 3 rfl e_X11_readsRow_31 ?_
    refine g_get cx cl_X11 fl_X11_464 0 (.int (F 75)) e_X11_readsRow_32 rfl rfl ?_
    refine g_toi 2 zn ?_
    refine g_idiv cx (by decide) e_X11_readsRow_35 ?_
    refine g_toi 0 (by decide) ?_
    refine g_istore_n cx [(2, .int 0), (4, .int 0), (3, .int 2), (0, .ref (ad 0)), (1, .int 1)] e_X11_readsRow_36 (by decide) rfl ?_
    refine g_iload_n cx 2 rfl e_X11_readsRow_37 ?_
    refine g_aload_n cx 3 rfl e_X11_readsRow_38 ?_
    refine g_get cx cl_X11 fl_X11_125 0 (.ref (ad 39)) e_X11_readsRow_39 rfl rfl ?_
    refine g_iload cx 1 rfl e_X11_readsRow_42 ?_
    refine g_iald cx 39 e_X11_readsRow_44 rfl (jv_ix 5 (jv_k (x := 0) 0 (by decide)) (by decide)) ?_
    refine g_topi (fun x10 ex10 => ?_)
    have p11 : jv 0 4 x10 := by rw [ex10]; exact g_okR_g oR9 5 rfl (jv_cl 5 (jv_k (x := 0) 0 (by decide)) (by decide))
    refine g_toi 0 (by rw [ex10, (g_ru1 hR9)]; exact g_us) ?_
    refine g_cSiW cx [.int 2, .int 0] [] (c_X11_has l X (wM X ad F R9) 2 0) ml_X11_175 yS_X11_has rfl e_X11_readsRow_45 (by unfold g_rr; decide) (by decide) rfl (Nat.le_of_ble_eq_true rfl) (fun r12 w13 h14 => ?_)
    obtain ⟨rfl, hr12⟩ := h14
    refine g_toi 0 (by rcases hr12 with q | q; exact q.1; exact absurd q.2 (by unfold hb; decide)) ?_
    refine g_if_eq_t cx 53 e_X11_readsRow_48 (by decide) (by decide) ?_
    refine g_iload_n cx 2 rfl e_X11_readsRow_53 ?_
    refine g_iconst cx 1 (by decide) e_X11_readsRow_54 ?_
    refine g_aload_n cx 3 rfl e_X11_readsRow_55 ?_
    refine g_get cx cl_X11 fl_X11_125 0 (.ref (ad 39)) e_X11_readsRow_56 rfl rfl ?_
    refine g_iload cx 1 rfl e_X11_readsRow_59 ?_
    refine g_iald cx 39 e_X11_readsRow_61 rfl (jv_ix 5 (jv_k (x := 0) 0 (by decide)) (by decide)) ?_
    refine g_topi (fun x15 ex15 => ?_)
    have p16 : jv 0 4 x15 := by rw [ex15]; exact g_okR_g oR9 5 rfl (jv_cl 5 (jv_k (x := 0) 0 (by decide)) (by decide))
    refine g_toi 0 (by rw [ex15, (g_ru1 hR9)]; exact g_us) ?_
    refine g_ishl cx e_X11_readsRow_62 ?_
    refine g_toi 1 (by decide) ?_
    refine g_ior cx e_X11_readsRow_63 ?_
    refine g_toi 3 (by decide) ?_
    refine g_istore_n cx [(3, .int 3), (2, .int 0), (4, .int 0), (0, .ref (ad 0)), (1, .int 1)] e_X11_readsRow_64 (by decide) rfl ?_
    refine g_iinc cx (-1) [(4, .int (-1)), (3, .int 3), (2, .int 0), (0, .ref (ad 0)), (1, .int 1)] 2 e_X11_readsRow_65 rfl (by decide) (by decide) rfl ?_
    refine g_goto cx 12 e_X11_readsRow_68 (by decide) ?_
    refine g_iload cx 0 rfl e_X11_readsRow_12 ?_
    refine g_if_lt_t cx 71 e_X11_readsRow_14 (by decide) (by decide) ?_
    refine g_iconst cx 1 (by decide) e_X11_readsRow_71 ?_
    exact hret e_X11_readsRow_72 (Nat.le_of_ble_eq_true rfl) (Nat.le_of_ble_eq_true rfl) rfl ⟨F, R9, rfl, hI, oR9, wTR9, wCR9, (g_fr_rf F), fR9, (jv_w (jv_k (x := 1) 1 (by decide)) (by decide)), (fun h => absurd h (by decide))⟩
  · refine g_iload_n cx 1 rfl e_X11_readsRow_0 ?_
    refine g_istore_n cx [(2, .int 5), (0, .ref (ad 0)), (1, .int 5)] e_X11_readsRow_1 (by decide) rfl ?_
    refine g_iconst cx 0 (by decide) e_X11_readsRow_2 ?_
    refine g_istore_n cx [(3, .int 0), (2, .int 5), (0, .ref (ad 0)), (1, .int 5)] e_X11_readsRow_3 (by decide) rfl ?_
    refine g_aload_n cx 2 rfl e_X11_readsRow_4 ?_
    refine g_get cx cl_X11 fl_X11_464 0 (.int (F 75)) e_X11_readsRow_5 rfl rfl ?_
    refine g_toi 3 zn ?_
    refine g_iconst cx 1 (by decide) e_X11_readsRow_8 ?_
    refine g_isub cx e_X11_readsRow_9 ?_
    refine g_toi 2 (by decide) ?_
    refine g_istore cx [(4, .int 2), (3, .int 0), (2, .int 5), (0, .ref (ad 0)), (1, .int 5)] e_X11_readsRow_10 (by decide) rfl ?_
    refine g_iload cx 0 rfl e_X11_readsRow_12 ?_
    refine g_if_lt_f cx 71 e_X11_readsRow_14 (by decide) (by decide) ?_
    refine g_aload_n cx 3 rfl e_X11_readsRow_17 ?_
    refine g_get cx cl_X11 fl_X11_125 0 (.ref (ad 39)) e_X11_readsRow_18 rfl rfl ?_
    refine g_iload cx 0 rfl e_X11_readsRow_21 ?_
    refine g_iload_n cx 2 rfl e_X11_readsRow_23 ?_
    refine g_aload_n cx 3 rfl e_X11_readsRow_24 ?_
    refine g_get cx cl_X11 fl_X11_464 0 (.int (F 75)) e_X11_readsRow_25 rfl rfl ?_
    refine g_toi 3 zn ?_
    refine g_irem cx (by decide) e_X11_readsRow_28 ?_
    refine g_toi 2 (by decide) ?_
    refine g_iast cx 39 (wM X ad F (g_u R 39 (upd (R 39) 2 2))) e_X11_readsRow_29 rfl (jv_ix 5 (jv_k (x := 2) 2 (by decide)) (by decide)) rfl ?_
    obtain ⟨R17, hR17⟩ : ∃ z, z = g_u R 39 (upd (R 39) 2 2) := ⟨_, rfl⟩
    rw [← hR17]
    have oR17 : g_okR LA_wM R17 := by rw [hR17]; exact g_okR_p hA (jv_k (x := 2) 2 (by decide)) rfl
    have fR17 : g_fr mr_X11_readsRow R R17 := by rw [hR17]; exact g_fr_r (g_fr_rf R) rfl
    have wTR17 : WT F R17 := by rw [hR17]; exact WT_r hWT rfl
    have wCR17 : WC F R17 := by rw [hR17]; exact WC_r hWC rfl
    refine g_iload_n cx 2 rfl e_X11_readsRow_30 ?_
    refine g_aload_n cx 3 rfl e_X11_readsRow_31 ?_
    refine g_get cx cl_X11 fl_X11_464 0 (.int (F 75)) e_X11_readsRow_32 rfl rfl ?_
    refine g_toi 3 zn ?_
    refine g_idiv cx (by decide) e_X11_readsRow_35 ?_
    refine g_toi 1 (by decide) ?_
    refine g_istore_n cx [(2, .int 1), (4, .int 2), (3, .int 0), (0, .ref (ad 0)), (1, .int 5)] e_X11_readsRow_36 (by decide) rfl ?_
    refine g_iload_n cx 2 rfl e_X11_readsRow_37 ?_
    refine g_aload_n cx 3 rfl e_X11_readsRow_38 ?_
    refine g_get cx cl_X11 fl_X11_125 0 (.ref (ad 39)) e_X11_readsRow_39 rfl rfl ?_
    refine g_iload cx 1 rfl e_X11_readsRow_42 ?_
    refine g_iald cx 39 e_X11_readsRow_44 rfl (jv_ix 5 (jv_k (x := 2) 2 (by decide)) (by decide)) ?_
    refine g_topi (fun x18 ex18 => ?_)
    have p19 : jv 0 4 x18 := by rw [ex18]; exact g_okR_g oR17 5 rfl (jv_cl 5 (jv_k (x := 2) 2 (by decide)) (by decide))
    refine g_toi 2 (by rw [ex18, (g_ru1 hR17)]; exact g_us) ?_
    refine g_cSiW cx [.int 0, .int 2] [] (c_X11_has l X (wM X ad F R17) 0 2) ml_X11_175 yS_X11_has rfl e_X11_readsRow_45 (by unfold g_rr; decide) (by decide) rfl (Nat.le_of_ble_eq_true rfl) (fun r20 w21 h22 => ?_)
    obtain ⟨rfl, hr20⟩ := h22
    refine g_toi 0 (by rcases hr20 with q | q; exact q.1; exact absurd q.2 (by unfold hb; decide)) ?_
    refine g_if_eq_t cx 53 e_X11_readsRow_48 (by decide) (by decide) ?_
    refine g_iload_n cx 2 rfl e_X11_readsRow_53 ?_
    refine g_iconst cx 1 (by decide) e_X11_readsRow_54 ?_
    refine g_aload_n cx 3 rfl e_X11_readsRow_55 ?_
    refine g_get cx cl_X11 fl_X11_125 0 (.ref (ad 39)) e_X11_readsRow_56 rfl rfl ?_
    refine g_iload cx 1 rfl e_X11_readsRow_59 ?_
    refine g_iald cx 39 e_X11_readsRow_61 rfl (jv_ix 5 (jv_k (x := 2) 2 (by decide)) (by decide)) ?_
    refine g_topi (fun x23 ex23 => ?_)
    have p24 : jv 0 4 x23 := by rw [ex23]; exact g_okR_g oR17 5 rfl (jv_cl 5 (jv_k (x := 2) 2 (by decide)) (by decide))
    refine g_toi 2 (by rw [ex23, (g_ru1 hR17)]; exact g_us) ?_
    refine g_ishl cx e_X11_readsRow_62 ?_
    refine g_toi 4 (by decide) ?_
    refine g_ior cx e_X11_readsRow_63 ?_
    refine g_toi 4 (by decide) ?_
    refine g_istore_n cx [(3, .int 4), (2, .int 1), (4, .int 2), (0, .ref (ad 0)), (1, .int 5)] e_X11_readsRow_64 (by decide) rfl ?_
    refine g_iinc cx 1 [(4, .int 1), (3, .int 4), (2, .int 1), (0, .ref (ad 0)), (1, .int 5)] 2 e_X11_readsRow_65 rfl (by decide) (by decide) rfl ?_
    refine g_goto cx 12 e_X11_readsRow_68 (by decide) ?_
    refine g_iload cx 0 rfl e_X11_readsRow_12 ?_
    refine g_if_lt_f cx 71 e_X11_readsRow_14 (by decide) (by decide) ?_
    refine g_aload_n cx 3 rfl e_X11_readsRow_17 ?_
    refine g_get cx cl_X11 fl_X11_125 0 (.ref (ad 39)) e_X11_readsRow_18 rfl rfl ?_
    refine g_iload cx 0 rfl e_X11_readsRow_21 ?_
    refine g_iload_n cx 2 rfl e_X11_readsRow_23 ?_
    refine g_aload_n cx 3 rfl e_X11_readsRow_24 ?_
    refine g_get cx cl_X11 fl_X11_464 0 (.int (F 75)) e_X11_readsRow_25 rfl rfl ?_
    refine g_toi 3 zn ?_
    refine g_irem cx (by decide) e_X11_readsRow_28 ?_
    refine g_toi 1 (by decide) ?_
    refine g_iast cx 39 (wM X ad F (g_u R17 39 (upd (R17 39) 1 1))) e_X11_readsRow_29 rfl (jv_ix 5 (jv_k (x := 1) 1 (by decide)) (by decide)) rfl ?_
    obtain ⟨R25, hR25⟩ : ∃ z, z = g_u R17 39 (upd (R17 39) 1 1) := ⟨_, rfl⟩
    rw [← hR25]
    have oR25 : g_okR LA_wM R25 := by rw [hR25]; exact g_okR_p oR17 (jv_k (x := 1) 1 (by decide)) rfl
    have fR25 : g_fr mr_X11_readsRow R R25 := by rw [hR25]; exact g_fr_r fR17 rfl
    have wTR25 : WT F R25 := by rw [hR25]; exact WT_r wTR17 rfl
    have wCR25 : WC F R25 := by rw [hR25]; exact WC_r wCR17 rfl
    refine g_iload_n cx 2 rfl e_X11_readsRow_30 ?_
    refine g_aload_n cx 3 rfl e_X11_readsRow_31 ?_
    refine g_get cx cl_X11 fl_X11_464 0 (.int (F 75)) e_X11_readsRow_32 rfl rfl ?_
    refine g_toi 3 zn ?_
    refine g_idiv cx (by decide) e_X11_readsRow_35 ?_
    refine g_toi 0 (by decide) ?_
    refine g_istore_n cx [(2, .int 0), (4, .int 1), (3, .int 4), (0, .ref (ad 0)), (1, .int 5)] e_X11_readsRow_36 (by decide) rfl ?_
    refine g_iload_n cx 2 rfl e_X11_readsRow_37 ?_
    refine g_aload_n cx 3 rfl e_X11_readsRow_38 ?_
    refine g_get cx cl_X11 fl_X11_125 0 (.ref (ad 39)) e_X11_readsRow_39 rfl rfl ?_
    refine g_iload cx 1 rfl e_X11_readsRow_42 ?_
    refine g_iald cx 39 e_X11_readsRow_44 rfl (jv_ix 5 (jv_k (x := 1) 1 (by decide)) (by decide)) ?_
    refine g_topi (fun x26 ex26 => ?_)
    have p27 : jv 0 4 x26 := by rw [ex26]; exact g_okR_g oR25 5 rfl (jv_cl 5 (jv_k (x := 1) 1 (by decide)) (by decide))
    refine g_toi 1 (by rw [ex26, (g_ru1 hR25)]; exact g_us) ?_
    refine g_cSiW cx [.int 4, .int 1] [] (c_X11_has l X (wM X ad F R25) 4 1) ml_X11_175 yS_X11_has rfl e_X11_readsRow_45 (by unfold g_rr; decide) (by decide) rfl (Nat.le_of_ble_eq_true rfl) (fun r28 w29 h30 => ?_)
    obtain ⟨rfl, hr28⟩ := h30
    refine g_toi 0 (by rcases hr28 with q | q; exact q.1; exact absurd q.2 (by unfold hb; decide)) ?_
    refine g_if_eq_t cx 53 e_X11_readsRow_48 (by decide) (by decide) ?_
    refine g_iload_n cx 2 rfl e_X11_readsRow_53 ?_
    refine g_iconst cx 1 (by decide) e_X11_readsRow_54 ?_
    refine g_aload_n cx 3 rfl e_X11_readsRow_55 ?_
    refine g_get cx cl_X11 fl_X11_125 0 (.ref (ad 39)) e_X11_readsRow_56 rfl rfl ?_
    refine g_iload cx 1 rfl e_X11_readsRow_59 ?_
    refine g_iald cx 39 e_X11_readsRow_61 rfl (jv_ix 5 (jv_k (x := 1) 1 (by decide)) (by decide)) ?_
    refine g_topi (fun x31 ex31 => ?_)
    have p32 : jv 0 4 x31 := by rw [ex31]; exact g_okR_g oR25 5 rfl (jv_cl 5 (jv_k (x := 1) 1 (by decide)) (by decide))
    refine g_toi 1 (by rw [ex31, (g_ru1 hR25)]; exact g_us) ?_
    refine g_ishl cx e_X11_readsRow_62 ?_
    refine g_toi 2 (by decide) ?_
    refine g_ior cx e_X11_readsRow_63 ?_
    refine g_toi 6 (by decide) ?_
    refine g_istore_n cx [(3, .int 6), (2, .int 0), (4, .int 1), (0, .ref (ad 0)), (1, .int 5)] e_X11_readsRow_64 (by decide) rfl ?_
    refine g_iinc cx 0 [(4, .int 0), (3, .int 6), (2, .int 0), (0, .ref (ad 0)), (1, .int 5)] 2 e_X11_readsRow_65 rfl (by decide) (by decide) rfl ?_
    refine g_goto cx 12 e_X11_readsRow_68 (by decide) ?_
    refine g_iload cx 0 rfl e_X11_readsRow_12 ?_
    refine g_if_lt_f cx 71 e_X11_readsRow_14 (by decide) (by decide) ?_
    refine g_aload_n cx 3 rfl e_X11_readsRow_17 ?_
    refine g_get cx cl_X11 fl_X11_125 0 (.ref (ad 39)) e_X11_readsRow_18 rfl rfl ?_
    refine g_iload cx 0 rfl e_X11_readsRow_21 ?_
    refine g_iload_n cx 2 rfl e_X11_readsRow_23 ?_
    refine g_aload_n cx 3 rfl e_X11_readsRow_24 ?_
    refine g_get cx cl_X11 fl_X11_464 0 (.int (F 75)) e_X11_readsRow_25 rfl rfl ?_
    refine g_toi 3 zn ?_
    refine g_irem cx (by decide) e_X11_readsRow_28 ?_
    refine g_toi 0 (by decide) ?_
    refine g_iast cx 39 (wM X ad F (g_u R25 39 (upd (R25 39) 0 0))) e_X11_readsRow_29 rfl (jv_ix 5 (jv_k (x := 0) 0 (by decide)) (by decide)) rfl ?_
    obtain ⟨R33, hR33⟩ : ∃ z, z = g_u R25 39 (upd (R25 39) 0 0) := ⟨_, rfl⟩
    rw [← hR33]
    have oR33 : g_okR LA_wM R33 := by rw [hR33]; exact g_okR_p oR25 (jv_k (x := 0) 0 (by decide)) rfl
    have fR33 : g_fr mr_X11_readsRow R R33 := by rw [hR33]; exact g_fr_r fR25 rfl
    have wTR33 : WT F R33 := by rw [hR33]; exact WT_r wTR25 rfl
    have wCR33 : WC F R33 := by rw [hR33]; exact WC_r wCR25 rfl
    refine g_iload_n cx 2 rfl e_X11_readsRow_30 ?_
    refine g_aload_n cx 3 rfl e_X11_readsRow_31 ?_
    refine g_get cx cl_X11 fl_X11_464 0 (.int (F 75)) e_X11_readsRow_32 rfl rfl ?_
    refine g_toi 3 zn ?_
    refine g_idiv cx (by decide) e_X11_readsRow_35 ?_
    refine g_toi 0 (by decide) ?_
    refine g_istore_n cx [(2, .int 0), (4, .int 0), (3, .int 6), (0, .ref (ad 0)), (1, .int 5)] e_X11_readsRow_36 (by decide) rfl ?_
    refine g_iload_n cx 2 rfl e_X11_readsRow_37 ?_
    refine g_aload_n cx 3 rfl e_X11_readsRow_38 ?_
    refine g_get cx cl_X11 fl_X11_125 0 (.ref (ad 39)) e_X11_readsRow_39 rfl rfl ?_
    refine g_iload cx 1 rfl e_X11_readsRow_42 ?_
    refine g_iald cx 39 e_X11_readsRow_44 rfl (jv_ix 5 (jv_k (x := 0) 0 (by decide)) (by decide)) ?_
    refine g_topi (fun x34 ex34 => ?_)
    have p35 : jv 0 4 x34 := by rw [ex34]; exact g_okR_g oR33 5 rfl (jv_cl 5 (jv_k (x := 0) 0 (by decide)) (by decide))
    refine g_toi 0 (by rw [ex34, (g_ru1 hR33)]; exact g_us) ?_
    refine g_cSiW cx [.int 6, .int 0] [] (c_X11_has l X (wM X ad F R33) 6 0) ml_X11_175 yS_X11_has rfl e_X11_readsRow_45 (by unfold g_rr; decide) (by decide) rfl (Nat.le_of_ble_eq_true rfl) (fun r36 w37 h38 => ?_)
    obtain ⟨rfl, hr36⟩ := h38
    refine g_toi 0 (by rcases hr36 with q | q; exact q.1; exact absurd q.2 (by unfold hb; decide)) ?_
    refine g_if_eq_t cx 53 e_X11_readsRow_48 (by decide) (by decide) ?_
    refine g_iload_n cx 2 rfl e_X11_readsRow_53 ?_
    refine g_iconst cx 1 (by decide) e_X11_readsRow_54 ?_
    refine g_aload_n cx 3 rfl e_X11_readsRow_55 ?_
    refine g_get cx cl_X11 fl_X11_125 0 (.ref (ad 39)) e_X11_readsRow_56 rfl rfl ?_
    refine g_iload cx 1 rfl e_X11_readsRow_59 ?_
    refine g_iald cx 39 e_X11_readsRow_61 rfl (jv_ix 5 (jv_k (x := 0) 0 (by decide)) (by decide)) ?_
    refine g_topi (fun x39 ex39 => ?_)
    have p40 : jv 0 4 x39 := by rw [ex39]; exact g_okR_g oR33 5 rfl (jv_cl 5 (jv_k (x := 0) 0 (by decide)) (by decide))
    refine g_toi 0 (by rw [ex39, (g_ru1 hR33)]; exact g_us) ?_
    refine g_ishl cx e_X11_readsRow_62 ?_
    refine g_toi 1 (by decide) ?_
    refine g_ior cx e_X11_readsRow_63 ?_
    refine g_toi 7 (by decide) ?_
    refine g_istore_n cx [(3, .int 7), (2, .int 0), (4, .int 0), (0, .ref (ad 0)), (1, .int 5)] e_X11_readsRow_64 (by decide) rfl ?_
    refine g_iinc cx (-1) [(4, .int (-1)), (3, .int 7), (2, .int 0), (0, .ref (ad 0)), (1, .int 5)] 2 e_X11_readsRow_65 rfl (by decide) (by decide) rfl ?_
    refine g_goto cx 12 e_X11_readsRow_68 (by decide) ?_
    refine g_iload cx 0 rfl e_X11_readsRow_12 ?_
    refine g_if_lt_t cx 71 e_X11_readsRow_14 (by decide) (by decide) ?_
    refine g_iconst cx 1 (by decide) e_X11_readsRow_71 ?_
    exact hret e_X11_readsRow_72 (Nat.le_of_ble_eq_true rfl) (Nat.le_of_ble_eq_true rfl) rfl ⟨F, R33, rfl, hI, oR33, wTR33, wCR33, (g_fr_rf F), fR33, (jv_w (jv_k (x := 1) 1 (by decide)) (by decide)), (fun h => absurd h (by decide))⟩
  · refine g_iload_n cx 1 rfl e_X11_readsRow_0 ?_
    refine g_istore_n cx [(2, .int 27), (0, .ref (ad 0)), (1, .int 27)] e_X11_readsRow_1 (by decide) rfl ?_
    refine g_iconst cx 0 (by decide) e_X11_readsRow_2 ?_
    refine g_istore_n cx [(3, .int 0), (2, .int 27), (0, .ref (ad 0)), (1, .int 27)] e_X11_readsRow_3 (by decide) rfl ?_
    refine g_aload_n cx 2 rfl e_X11_readsRow_4 ?_
    refine g_get cx cl_X11 fl_X11_464 0 (.int (F 75)) e_X11_readsRow_5 rfl rfl ?_
    refine g_toi 4 zn ?_
    refine g_iconst cx 1 (by decide) e_X11_readsRow_8 ?_
    refine g_isub cx e_X11_readsRow_9 ?_
    refine g_toi 3 (by decide) ?_
    refine g_istore cx [(4, .int 3), (3, .int 0), (2, .int 27), (0, .ref (ad 0)), (1, .int 27)] e_X11_readsRow_10 (by decide) rfl ?_
    refine g_iload cx 0 rfl e_X11_readsRow_12 ?_
    refine g_if_lt_f cx 71 e_X11_readsRow_14 (by decide) (by decide) ?_
    refine g_aload_n cx 3 rfl e_X11_readsRow_17 ?_
    refine g_get cx cl_X11 fl_X11_125 0 (.ref (ad 39)) e_X11_readsRow_18 rfl rfl ?_
    refine g_iload cx 0 rfl e_X11_readsRow_21 ?_
    refine g_iload_n cx 2 rfl e_X11_readsRow_23 ?_
    refine g_aload_n cx 3 rfl e_X11_readsRow_24 ?_
    refine g_get cx cl_X11 fl_X11_464 0 (.int (F 75)) e_X11_readsRow_25 rfl rfl ?_
    refine g_toi 4 zn ?_
    refine g_irem cx (by decide) e_X11_readsRow_28 ?_
    refine g_toi 3 (by decide) ?_
    refine g_iast cx 39 (wM X ad F (g_u R 39 (upd (R 39) 3 3))) e_X11_readsRow_29 rfl (jv_ix 5 (jv_k (x := 3) 3 (by decide)) (by decide)) rfl ?_
    obtain ⟨R41, hR41⟩ : ∃ z, z = g_u R 39 (upd (R 39) 3 3) := ⟨_, rfl⟩
    rw [← hR41]
    have oR41 : g_okR LA_wM R41 := by rw [hR41]; exact g_okR_p hA (jv_k (x := 3) 3 (by decide)) rfl
    have fR41 : g_fr mr_X11_readsRow R R41 := by rw [hR41]; exact g_fr_r (g_fr_rf R) rfl
    have wTR41 : WT F R41 := by rw [hR41]; exact WT_r hWT rfl
    have wCR41 : WC F R41 := by rw [hR41]; exact WC_r hWC rfl
    refine g_iload_n cx 2 rfl e_X11_readsRow_30 ?_
    refine g_aload_n cx 3 rfl e_X11_readsRow_31 ?_
    refine g_get cx cl_X11 fl_X11_464 0 (.int (F 75)) e_X11_readsRow_32 rfl rfl ?_
    refine g_toi 4 zn ?_
    refine g_idiv cx (by decide) e_X11_readsRow_35 ?_
    refine g_toi 6 (by decide) ?_
    refine g_istore_n cx [(2, .int 6), (4, .int 3), (3, .int 0), (0, .ref (ad 0)), (1, .int 27)] e_X11_readsRow_36 (by decide) rfl ?_
    refine g_iload_n cx 2 rfl e_X11_readsRow_37 ?_
    refine g_aload_n cx 3 rfl e_X11_readsRow_38 ?_
    refine g_get cx cl_X11 fl_X11_125 0 (.ref (ad 39)) e_X11_readsRow_39 rfl rfl ?_
    refine g_iload cx 1 rfl e_X11_readsRow_42 ?_
    refine g_iald cx 39 e_X11_readsRow_44 rfl (jv_ix 5 (jv_k (x := 3) 3 (by decide)) (by decide)) ?_
    refine g_topi (fun x42 ex42 => ?_)
    have p43 : jv 0 4 x42 := by rw [ex42]; exact g_okR_g oR41 5 rfl (jv_cl 5 (jv_k (x := 3) 3 (by decide)) (by decide))
    refine g_toi 3 (by rw [ex42, (g_ru1 hR41)]; exact g_us) ?_
    refine g_cSiW cx [.int 0, .int 3] [] (c_X11_has l X (wM X ad F R41) 0 3) ml_X11_175 yS_X11_has rfl e_X11_readsRow_45 (by unfold g_rr; decide) (by decide) rfl (Nat.le_of_ble_eq_true rfl) (fun r44 w45 h46 => ?_)
    obtain ⟨rfl, hr44⟩ := h46
    refine g_toi 0 (by rcases hr44 with q | q; exact q.1; exact absurd q.2 (by unfold hb; decide)) ?_
    refine g_if_eq_t cx 53 e_X11_readsRow_48 (by decide) (by decide) ?_
    refine g_iload_n cx 2 rfl e_X11_readsRow_53 ?_
    refine g_iconst cx 1 (by decide) e_X11_readsRow_54 ?_
    refine g_aload_n cx 3 rfl e_X11_readsRow_55 ?_
    refine g_get cx cl_X11 fl_X11_125 0 (.ref (ad 39)) e_X11_readsRow_56 rfl rfl ?_
    refine g_iload cx 1 rfl e_X11_readsRow_59 ?_
    refine g_iald cx 39 e_X11_readsRow_61 rfl (jv_ix 5 (jv_k (x := 3) 3 (by decide)) (by decide)) ?_
    refine g_topi (fun x47 ex47 => ?_)
    have p48 : jv 0 4 x47 := by rw [ex47]; exact g_okR_g oR41 5 rfl (jv_cl 5 (jv_k (x := 3) 3 (by decide)) (by decide))
    refine g_toi 3 (by rw [ex47, (g_ru1 hR41)]; exact g_us) ?_
    refine g_ishl cx e_X11_readsRow_62 ?_
    refine g_toi 8 (by decide) ?_
    refine g_ior cx e_X11_readsRow_63 ?_
    refine g_toi 8 (by decide) ?_
    refine g_istore_n cx [(3, .int 8), (2, .int 6), (4, .int 3), (0, .ref (ad 0)), (1, .int 27)] e_X11_readsRow_64 (by decide) rfl ?_
    refine g_iinc cx 2 [(4, .int 2), (3, .int 8), (2, .int 6), (0, .ref (ad 0)), (1, .int 27)] 2 e_X11_readsRow_65 rfl (by decide) (by decide) rfl ?_
    refine g_goto cx 12 e_X11_readsRow_68 (by decide) ?_
    refine g_iload cx 0 rfl e_X11_readsRow_12 ?_
    refine g_if_lt_f cx 71 e_X11_readsRow_14 (by decide) (by decide) ?_
    refine g_aload_n cx 3 rfl e_X11_readsRow_17 ?_
    refine g_get cx cl_X11 fl_X11_125 0 (.ref (ad 39)) e_X11_readsRow_18 rfl rfl ?_
    refine g_iload cx 0 rfl e_X11_readsRow_21 ?_
    refine g_iload_n cx 2 rfl e_X11_readsRow_23 ?_
    refine g_aload_n cx 3 rfl e_X11_readsRow_24 ?_
    refine g_get cx cl_X11 fl_X11_464 0 (.int (F 75)) e_X11_readsRow_25 rfl rfl ?_
    refine g_toi 4 zn ?_
    refine g_irem cx (by decide) e_X11_readsRow_28 ?_
    refine g_toi 2 (by decide) ?_
    refine g_iast cx 39 (wM X ad F (g_u R41 39 (upd (R41 39) 2 2))) e_X11_readsRow_29 rfl (jv_ix 5 (jv_k (x := 2) 2 (by decide)) (by decide)) rfl ?_
    obtain ⟨R49, hR49⟩ : ∃ z, z = g_u R41 39 (upd (R41 39) 2 2) := ⟨_, rfl⟩
    rw [← hR49]
    have oR49 : g_okR LA_wM R49 := by rw [hR49]; exact g_okR_p oR41 (jv_k (x := 2) 2 (by decide)) rfl
    have fR49 : g_fr mr_X11_readsRow R R49 := by rw [hR49]; exact g_fr_r fR41 rfl
    have wTR49 : WT F R49 := by rw [hR49]; exact WT_r wTR41 rfl
    have wCR49 : WC F R49 := by rw [hR49]; exact WC_r wCR41 rfl
    refine g_iload_n cx 2 rfl e_X11_readsRow_30 ?_
    refine g_aload_n cx 3 rfl e_X11_readsRow_31 ?_
    refine g_get cx cl_X11 fl_X11_464 0 (.int (F 75)) e_X11_readsRow_32 rfl rfl ?_
    refine g_toi 4 zn ?_
    refine g_idiv cx (by decide) e_X11_readsRow_35 ?_
    refine g_toi 1 (by decide) ?_
    refine g_istore_n cx [(2, .int 1), (4, .int 2), (3, .int 8), (0, .ref (ad 0)), (1, .int 27)] e_X11_readsRow_36 (by decide) rfl ?_
    refine g_iload_n cx 2 rfl e_X11_readsRow_37 ?_
    refine g_aload_n cx 3 rfl e_X11_readsRow_38 ?_
    refine g_get cx cl_X11 fl_X11_125 0 (.ref (ad 39)) e_X11_readsRow_39 rfl rfl ?_
    refine g_iload cx 1 rfl e_X11_readsRow_42 ?_
    refine g_iald cx 39 e_X11_readsRow_44 rfl (jv_ix 5 (jv_k (x := 2) 2 (by decide)) (by decide)) ?_
    refine g_topi (fun x50 ex50 => ?_)
    have p51 : jv 0 4 x50 := by rw [ex50]; exact g_okR_g oR49 5 rfl (jv_cl 5 (jv_k (x := 2) 2 (by decide)) (by decide))
    refine g_toi 2 (by rw [ex50, (g_ru1 hR49)]; exact g_us) ?_
    refine g_cSiW cx [.int 8, .int 2] [] (c_X11_has l X (wM X ad F R49) 8 2) ml_X11_175 yS_X11_has rfl e_X11_readsRow_45 (by unfold g_rr; decide) (by decide) rfl (Nat.le_of_ble_eq_true rfl) (fun r52 w53 h54 => ?_)
    obtain ⟨rfl, hr52⟩ := h54
    refine g_toi 0 (by rcases hr52 with q | q; exact q.1; exact absurd q.2 (by unfold hb; decide)) ?_
    refine g_if_eq_t cx 53 e_X11_readsRow_48 (by decide) (by decide) ?_
    refine g_iload_n cx 2 rfl e_X11_readsRow_53 ?_
    refine g_iconst cx 1 (by decide) e_X11_readsRow_54 ?_
    refine g_aload_n cx 3 rfl e_X11_readsRow_55 ?_
    refine g_get cx cl_X11 fl_X11_125 0 (.ref (ad 39)) e_X11_readsRow_56 rfl rfl ?_
    refine g_iload cx 1 rfl e_X11_readsRow_59 ?_
    refine g_iald cx 39 e_X11_readsRow_61 rfl (jv_ix 5 (jv_k (x := 2) 2 (by decide)) (by decide)) ?_
    refine g_topi (fun x55 ex55 => ?_)
    have p56 : jv 0 4 x55 := by rw [ex55]; exact g_okR_g oR49 5 rfl (jv_cl 5 (jv_k (x := 2) 2 (by decide)) (by decide))
    refine g_toi 2 (by rw [ex55, (g_ru1 hR49)]; exact g_us) ?_
    refine g_ishl cx e_X11_readsRow_62 ?_
    refine g_toi 4 (by decide) ?_
    refine g_ior cx e_X11_readsRow_63 ?_
    refine g_toi 12 (by decide) ?_
    refine g_istore_n cx [(3, .int 12), (2, .int 1), (4, .int 2), (0, .ref (ad 0)), (1, .int 27)] e_X11_readsRow_64 (by decide) rfl ?_
    refine g_iinc cx 1 [(4, .int 1), (3, .int 12), (2, .int 1), (0, .ref (ad 0)), (1, .int 27)] 2 e_X11_readsRow_65 rfl (by decide) (by decide) rfl ?_
    refine g_goto cx 12 e_X11_readsRow_68 (by decide) ?_
    refine g_iload cx 0 rfl e_X11_readsRow_12 ?_
    refine g_if_lt_f cx 71 e_X11_readsRow_14 (by decide) (by decide) ?_
    refine g_aload_n cx 3 rfl e_X11_readsRow_17 ?_
    refine g_get cx cl_X11 fl_X11_125 0 (.ref (ad 39)) e_X11_readsRow_18 rfl rfl ?_
    refine g_iload cx 0 rfl e_X11_readsRow_21 ?_
    refine g_iload_n cx 2 rfl e_X11_readsRow_23 ?_
    refine g_aload_n cx 3 rfl e_X11_readsRow_24 ?_
    refine g_get cx cl_X11 fl_X11_464 0 (.int (F 75)) e_X11_readsRow_25 rfl rfl ?_
    refine g_toi 4 zn ?_
    refine g_irem cx (by decide) e_X11_readsRow_28 ?_
    refine g_toi 1 (by decide) ?_
    refine g_iast cx 39 (wM X ad F (g_u R49 39 (upd (R49 39) 1 1))) e_X11_readsRow_29 rfl (jv_ix 5 (jv_k (x := 1) 1 (by decide)) (by decide)) rfl ?_
    obtain ⟨R57, hR57⟩ : ∃ z, z = g_u R49 39 (upd (R49 39) 1 1) := ⟨_, rfl⟩
    rw [← hR57]
    have oR57 : g_okR LA_wM R57 := by rw [hR57]; exact g_okR_p oR49 (jv_k (x := 1) 1 (by decide)) rfl
    have fR57 : g_fr mr_X11_readsRow R R57 := by rw [hR57]; exact g_fr_r fR49 rfl
    have wTR57 : WT F R57 := by rw [hR57]; exact WT_r wTR49 rfl
    have wCR57 : WC F R57 := by rw [hR57]; exact WC_r wCR49 rfl
    refine g_iload_n cx 2 rfl e_X11_readsRow_30 ?_
    refine g_aload_n cx 3 rfl e_X11_readsRow_31 ?_
    refine g_get cx cl_X11 fl_X11_464 0 (.int (F 75)) e_X11_readsRow_32 rfl rfl ?_
    refine g_toi 4 zn ?_
    refine g_idiv cx (by decide) e_X11_readsRow_35 ?_
    refine g_toi 0 (by decide) ?_
    refine g_istore_n cx [(2, .int 0), (4, .int 1), (3, .int 12), (0, .ref (ad 0)), (1, .int 27)] e_X11_readsRow_36 (by decide) rfl ?_
    refine g_iload_n cx 2 rfl e_X11_readsRow_37 ?_
    refine g_aload_n cx 3 rfl e_X11_readsRow_38 ?_
    refine g_get cx cl_X11 fl_X11_125 0 (.ref (ad 39)) e_X11_readsRow_39 rfl rfl ?_
    refine g_iload cx 1 rfl e_X11_readsRow_42 ?_
    refine g_iald cx 39 e_X11_readsRow_44 rfl (jv_ix 5 (jv_k (x := 1) 1 (by decide)) (by decide)) ?_
    refine g_topi (fun x58 ex58 => ?_)
    have p59 : jv 0 4 x58 := by rw [ex58]; exact g_okR_g oR57 5 rfl (jv_cl 5 (jv_k (x := 1) 1 (by decide)) (by decide))
    refine g_toi 1 (by rw [ex58, (g_ru1 hR57)]; exact g_us) ?_
    refine g_cSiW cx [.int 12, .int 1] [] (c_X11_has l X (wM X ad F R57) 12 1) ml_X11_175 yS_X11_has rfl e_X11_readsRow_45 (by unfold g_rr; decide) (by decide) rfl (Nat.le_of_ble_eq_true rfl) (fun r60 w61 h62 => ?_)
    obtain ⟨rfl, hr60⟩ := h62
    refine g_toi 0 (by rcases hr60 with q | q; exact q.1; exact absurd q.2 (by unfold hb; decide)) ?_
    refine g_if_eq_t cx 53 e_X11_readsRow_48 (by decide) (by decide) ?_
    refine g_iload_n cx 2 rfl e_X11_readsRow_53 ?_
    refine g_iconst cx 1 (by decide) e_X11_readsRow_54 ?_
    refine g_aload_n cx 3 rfl e_X11_readsRow_55 ?_
    refine g_get cx cl_X11 fl_X11_125 0 (.ref (ad 39)) e_X11_readsRow_56 rfl rfl ?_
    refine g_iload cx 1 rfl e_X11_readsRow_59 ?_
    refine g_iald cx 39 e_X11_readsRow_61 rfl (jv_ix 5 (jv_k (x := 1) 1 (by decide)) (by decide)) ?_
    refine g_topi (fun x63 ex63 => ?_)
    have p64 : jv 0 4 x63 := by rw [ex63]; exact g_okR_g oR57 5 rfl (jv_cl 5 (jv_k (x := 1) 1 (by decide)) (by decide))
    refine g_toi 1 (by rw [ex63, (g_ru1 hR57)]; exact g_us) ?_
    refine g_ishl cx e_X11_readsRow_62 ?_
    refine g_toi 2 (by decide) ?_
    refine g_ior cx e_X11_readsRow_63 ?_
    refine g_toi 14 (by decide) ?_
    refine g_istore_n cx [(3, .int 14), (2, .int 0), (4, .int 1), (0, .ref (ad 0)), (1, .int 27)] e_X11_readsRow_64 (by decide) rfl ?_
    refine g_iinc cx 0 [(4, .int 0), (3, .int 14), (2, .int 0), (0, .ref (ad 0)), (1, .int 27)] 2 e_X11_readsRow_65 rfl (by decide) (by decide) rfl ?_
    refine g_goto cx 12 e_X11_readsRow_68 (by decide) ?_
    refine g_iload cx 0 rfl e_X11_readsRow_12 ?_
    refine g_if_lt_f cx 71 e_X11_readsRow_14 (by decide) (by decide) ?_
    refine g_aload_n cx 3 rfl e_X11_readsRow_17 ?_
    refine g_get cx cl_X11 fl_X11_125 0 (.ref (ad 39)) e_X11_readsRow_18 rfl rfl ?_
    refine g_iload cx 0 rfl e_X11_readsRow_21 ?_
    refine g_iload_n cx 2 rfl e_X11_readsRow_23 ?_
    refine g_aload_n cx 3 rfl e_X11_readsRow_24 ?_
    refine g_get cx cl_X11 fl_X11_464 0 (.int (F 75)) e_X11_readsRow_25 rfl rfl ?_
    refine g_toi 4 zn ?_
    refine g_irem cx (by decide) e_X11_readsRow_28 ?_
    refine g_toi 0 (by decide) ?_
    refine g_iast cx 39 (wM X ad F (g_u R57 39 (upd (R57 39) 0 0))) e_X11_readsRow_29 rfl (jv_ix 5 (jv_k (x := 0) 0 (by decide)) (by decide)) rfl ?_
    obtain ⟨R65, hR65⟩ : ∃ z, z = g_u R57 39 (upd (R57 39) 0 0) := ⟨_, rfl⟩
    rw [← hR65]
    have oR65 : g_okR LA_wM R65 := by rw [hR65]; exact g_okR_p oR57 (jv_k (x := 0) 0 (by decide)) rfl
    have fR65 : g_fr mr_X11_readsRow R R65 := by rw [hR65]; exact g_fr_r fR57 rfl
    have wTR65 : WT F R65 := by rw [hR65]; exact WT_r wTR57 rfl
    have wCR65 : WC F R65 := by rw [hR65]; exact WC_r wCR57 rfl
    refine g_iload_n cx 2 rfl e_X11_readsRow_30 ?_
    refine g_aload_n cx 3 rfl e_X11_readsRow_31 ?_
    refine g_get cx cl_X11 fl_X11_464 0 (.int (F 75)) e_X11_readsRow_32 rfl rfl ?_
    refine g_toi 4 zn ?_
    refine g_idiv cx (by decide) e_X11_readsRow_35 ?_
    refine g_toi 0 (by decide) ?_
    refine g_istore_n cx [(2, .int 0), (4, .int 0), (3, .int 14), (0, .ref (ad 0)), (1, .int 27)] e_X11_readsRow_36 (by decide) rfl ?_
    refine g_iload_n cx 2 rfl e_X11_readsRow_37 ?_
    refine g_aload_n cx 3 rfl e_X11_readsRow_38 ?_
    refine g_get cx cl_X11 fl_X11_125 0 (.ref (ad 39)) e_X11_readsRow_39 rfl rfl ?_
    refine g_iload cx 1 rfl e_X11_readsRow_42 ?_
    refine g_iald cx 39 e_X11_readsRow_44 rfl (jv_ix 5 (jv_k (x := 0) 0 (by decide)) (by decide)) ?_
    refine g_topi (fun x66 ex66 => ?_)
    have p67 : jv 0 4 x66 := by rw [ex66]; exact g_okR_g oR65 5 rfl (jv_cl 5 (jv_k (x := 0) 0 (by decide)) (by decide))
    refine g_toi 0 (by rw [ex66, (g_ru1 hR65)]; exact g_us) ?_
    refine g_cSiW cx [.int 14, .int 0] [] (c_X11_has l X (wM X ad F R65) 14 0) ml_X11_175 yS_X11_has rfl e_X11_readsRow_45 (by unfold g_rr; decide) (by decide) rfl (Nat.le_of_ble_eq_true rfl) (fun r68 w69 h70 => ?_)
    obtain ⟨rfl, hr68⟩ := h70
    refine g_toi 0 (by rcases hr68 with q | q; exact q.1; exact absurd q.2 (by unfold hb; decide)) ?_
    refine g_if_eq_t cx 53 e_X11_readsRow_48 (by decide) (by decide) ?_
    refine g_iload_n cx 2 rfl e_X11_readsRow_53 ?_
    refine g_iconst cx 1 (by decide) e_X11_readsRow_54 ?_
    refine g_aload_n cx 3 rfl e_X11_readsRow_55 ?_
    refine g_get cx cl_X11 fl_X11_125 0 (.ref (ad 39)) e_X11_readsRow_56 rfl rfl ?_
    refine g_iload cx 1 rfl e_X11_readsRow_59 ?_
    refine g_iald cx 39 e_X11_readsRow_61 rfl (jv_ix 5 (jv_k (x := 0) 0 (by decide)) (by decide)) ?_
    refine g_topi (fun x71 ex71 => ?_)
    have p72 : jv 0 4 x71 := by rw [ex71]; exact g_okR_g oR65 5 rfl (jv_cl 5 (jv_k (x := 0) 0 (by decide)) (by decide))
    refine g_toi 0 (by rw [ex71, (g_ru1 hR65)]; exact g_us) ?_
    refine g_ishl cx e_X11_readsRow_62 ?_
    refine g_toi 1 (by decide) ?_
    refine g_ior cx e_X11_readsRow_63 ?_
    refine g_toi 15 (by decide) ?_
    refine g_istore_n cx [(3, .int 15), (2, .int 0), (4, .int 0), (0, .ref (ad 0)), (1, .int 27)] e_X11_readsRow_64 (by decide) rfl ?_
    refine g_iinc cx (-1) [(4, .int (-1)), (3, .int 15), (2, .int 0), (0, .ref (ad 0)), (1, .int 27)] 2 e_X11_readsRow_65 rfl (by decide) (by decide) rfl ?_
    refine g_goto cx 12 e_X11_readsRow_68 (by decide) ?_
    refine g_iload cx 0 rfl e_X11_readsRow_12 ?_
    refine g_if_lt_t cx 71 e_X11_readsRow_14 (by decide) (by decide) ?_
    refine g_iconst cx 1 (by decide) e_X11_readsRow_71 ?_
    exact hret e_X11_readsRow_72 (Nat.le_of_ble_eq_true rfl) (Nat.le_of_ble_eq_true rfl) rfl ⟨F, R65, rfl, hI, oR65, wTR65, wCR65, (g_fr_rf F), fR65, (jv_w (jv_k (x := 1) 1 (by decide)) (by decide)), (fun h => absurd h (by decide))⟩
  · refine g_iload_n cx 1 rfl e_X11_readsRow_0 ?_
    refine g_istore_n cx [(2, .int 194), (0, .ref (ad 0)), (1, .int 194)] e_X11_readsRow_1 (by decide) rfl ?_
    refine g_iconst cx 0 (by decide) e_X11_readsRow_2 ?_
    refine g_istore_n cx [(3, .int 0), (2, .int 194), (0, .ref (ad 0)), (1, .int 194)] e_X11_readsRow_3 (by decide) rfl ?_
    refine g_aload_n cx 2 rfl e_X11_readsRow_4 ?_
    refine g_get cx cl_X11 fl_X11_464 0 (.int (F 75)) e_X11_readsRow_5 rfl rfl ?_
    refine g_toi 5 zn ?_
    refine g_iconst cx 1 (by decide) e_X11_readsRow_8 ?_
    refine g_isub cx e_X11_readsRow_9 ?_
    refine g_toi 4 (by decide) ?_
    refine g_istore cx [(4, .int 4), (3, .int 0), (2, .int 194), (0, .ref (ad 0)), (1, .int 194)] e_X11_readsRow_10 (by decide) rfl ?_
    refine g_iload cx 0 rfl e_X11_readsRow_12 ?_
    refine g_if_lt_f cx 71 e_X11_readsRow_14 (by decide) (by decide) ?_
    refine g_aload_n cx 3 rfl e_X11_readsRow_17 ?_
    refine g_get cx cl_X11 fl_X11_125 0 (.ref (ad 39)) e_X11_readsRow_18 rfl rfl ?_
    refine g_iload cx 0 rfl e_X11_readsRow_21 ?_
    refine g_iload_n cx 2 rfl e_X11_readsRow_23 ?_
    refine g_aload_n cx 3 rfl e_X11_readsRow_24 ?_
    refine g_get cx cl_X11 fl_X11_464 0 (.int (F 75)) e_X11_readsRow_25 rfl rfl ?_
    refine g_toi 5 zn ?_
    refine g_irem cx (by decide) e_X11_readsRow_28 ?_
    refine g_toi 4 (by decide) ?_
    refine g_iast cx 39 (wM X ad F (g_u R 39 (upd (R 39) 4 4))) e_X11_readsRow_29 rfl (jv_ix 5 (jv_k (x := 4) 4 (by decide)) (by decide)) rfl ?_
    obtain ⟨R73, hR73⟩ : ∃ z, z = g_u R 39 (upd (R 39) 4 4) := ⟨_, rfl⟩
    rw [← hR73]
    have oR73 : g_okR LA_wM R73 := by rw [hR73]; exact g_okR_p hA (jv_k (x := 4) 4 (by decide)) rfl
    have fR73 : g_fr mr_X11_readsRow R R73 := by rw [hR73]; exact g_fr_r (g_fr_rf R) rfl
    have wTR73 : WT F R73 := by rw [hR73]; exact WT_r hWT rfl
    have wCR73 : WC F R73 := by rw [hR73]; exact WC_r hWC rfl
    refine g_iload_n cx 2 rfl e_X11_readsRow_30 ?_
    refine g_aload_n cx 3 rfl e_X11_readsRow_31 ?_
    refine g_get cx cl_X11 fl_X11_464 0 (.int (F 75)) e_X11_readsRow_32 rfl rfl ?_
    refine g_toi 5 zn ?_
    refine g_idiv cx (by decide) e_X11_readsRow_35 ?_
    refine g_toi 38 (by decide) ?_
    refine g_istore_n cx [(2, .int 38), (4, .int 4), (3, .int 0), (0, .ref (ad 0)), (1, .int 194)] e_X11_readsRow_36 (by decide) rfl ?_
    refine g_iload_n cx 2 rfl e_X11_readsRow_37 ?_
    refine g_aload_n cx 3 rfl e_X11_readsRow_38 ?_
    refine g_get cx cl_X11 fl_X11_125 0 (.ref (ad 39)) e_X11_readsRow_39 rfl rfl ?_
    refine g_iload cx 1 rfl e_X11_readsRow_42 ?_
    refine g_iald cx 39 e_X11_readsRow_44 rfl (jv_ix 5 (jv_k (x := 4) 4 (by decide)) (by decide)) ?_
    refine g_topi (fun x74 ex74 => ?_)
    have p75 : jv 0 4 x74 := by rw [ex74]; exact g_okR_g oR73 5 rfl (jv_cl 5 (jv_k (x := 4) 4 (by decide)) (by decide))
    refine g_toi 4 (by rw [ex74, (g_ru1 hR73)]; exact g_us) ?_
    refine g_cSiW cx [.int 0, .int 4] [] (c_X11_has l X (wM X ad F R73) 0 4) ml_X11_175 yS_X11_has rfl e_X11_readsRow_45 (by unfold g_rr; decide) (by decide) rfl (Nat.le_of_ble_eq_true rfl) (fun r76 w77 h78 => ?_)
    obtain ⟨rfl, hr76⟩ := h78
    refine g_toi 0 (by rcases hr76 with q | q; exact q.1; exact absurd q.2 (by unfold hb; decide)) ?_
    refine g_if_eq_t cx 53 e_X11_readsRow_48 (by decide) (by decide) ?_
    refine g_iload_n cx 2 rfl e_X11_readsRow_53 ?_
    refine g_iconst cx 1 (by decide) e_X11_readsRow_54 ?_
    refine g_aload_n cx 3 rfl e_X11_readsRow_55 ?_
    refine g_get cx cl_X11 fl_X11_125 0 (.ref (ad 39)) e_X11_readsRow_56 rfl rfl ?_
    refine g_iload cx 1 rfl e_X11_readsRow_59 ?_
    refine g_iald cx 39 e_X11_readsRow_61 rfl (jv_ix 5 (jv_k (x := 4) 4 (by decide)) (by decide)) ?_
    refine g_topi (fun x79 ex79 => ?_)
    have p80 : jv 0 4 x79 := by rw [ex79]; exact g_okR_g oR73 5 rfl (jv_cl 5 (jv_k (x := 4) 4 (by decide)) (by decide))
    refine g_toi 4 (by rw [ex79, (g_ru1 hR73)]; exact g_us) ?_
    refine g_ishl cx e_X11_readsRow_62 ?_
    refine g_toi 16 (by decide) ?_
    refine g_ior cx e_X11_readsRow_63 ?_
    refine g_toi 16 (by decide) ?_
    refine g_istore_n cx [(3, .int 16), (2, .int 38), (4, .int 4), (0, .ref (ad 0)), (1, .int 194)] e_X11_readsRow_64 (by decide) rfl ?_
    refine g_iinc cx 3 [(4, .int 3), (3, .int 16), (2, .int 38), (0, .ref (ad 0)), (1, .int 194)] 2 e_X11_readsRow_65 rfl (by decide) (by decide) rfl ?_
    refine g_goto cx 12 e_X11_readsRow_68 (by decide) ?_
    refine g_iload cx 0 rfl e_X11_readsRow_12 ?_
    refine g_if_lt_f cx 71 e_X11_readsRow_14 (by decide) (by decide) ?_
    refine g_aload_n cx 3 rfl e_X11_readsRow_17 ?_
    refine g_get cx cl_X11 fl_X11_125 0 (.ref (ad 39)) e_X11_readsRow_18 rfl rfl ?_
    refine g_iload cx 0 rfl e_X11_readsRow_21 ?_
    refine g_iload_n cx 2 rfl e_X11_readsRow_23 ?_
    refine g_aload_n cx 3 rfl e_X11_readsRow_24 ?_
    refine g_get cx cl_X11 fl_X11_464 0 (.int (F 75)) e_X11_readsRow_25 rfl rfl ?_
    refine g_toi 5 zn ?_
    refine g_irem cx (by decide) e_X11_readsRow_28 ?_
    refine g_toi 3 (by decide) ?_
    refine g_iast cx 39 (wM X ad F (g_u R73 39 (upd (R73 39) 3 3))) e_X11_readsRow_29 rfl (jv_ix 5 (jv_k (x := 3) 3 (by decide)) (by decide)) rfl ?_
    obtain ⟨R81, hR81⟩ : ∃ z, z = g_u R73 39 (upd (R73 39) 3 3) := ⟨_, rfl⟩
    rw [← hR81]
    have oR81 : g_okR LA_wM R81 := by rw [hR81]; exact g_okR_p oR73 (jv_k (x := 3) 3 (by decide)) rfl
    have fR81 : g_fr mr_X11_readsRow R R81 := by rw [hR81]; exact g_fr_r fR73 rfl
    have wTR81 : WT F R81 := by rw [hR81]; exact WT_r wTR73 rfl
    have wCR81 : WC F R81 := by rw [hR81]; exact WC_r wCR73 rfl
    refine g_iload_n cx 2 rfl e_X11_readsRow_30 ?_
    refine g_aload_n cx 3 rfl e_X11_readsRow_31 ?_
    refine g_get cx cl_X11 fl_X11_464 0 (.int (F 75)) e_X11_readsRow_32 rfl rfl ?_
    refine g_toi 5 zn ?_
    refine g_idiv cx (by decide) e_X11_readsRow_35 ?_
    refine g_toi 7 (by decide) ?_
    refine g_istore_n cx [(2, .int 7), (4, .int 3), (3, .int 16), (0, .ref (ad 0)), (1, .int 194)] e_X11_readsRow_36 (by decide) rfl ?_
    refine g_iload_n cx 2 rfl e_X11_readsRow_37 ?_
    refine g_aload_n cx 3 rfl e_X11_readsRow_38 ?_
    refine g_get cx cl_X11 fl_X11_125 0 (.ref (ad 39)) e_X11_readsRow_39 rfl rfl ?_
    refine g_iload cx 1 rfl e_X11_readsRow_42 ?_
    refine g_iald cx 39 e_X11_readsRow_44 rfl (jv_ix 5 (jv_k (x := 3) 3 (by decide)) (by decide)) ?_
    refine g_topi (fun x82 ex82 => ?_)
    have p83 : jv 0 4 x82 := by rw [ex82]; exact g_okR_g oR81 5 rfl (jv_cl 5 (jv_k (x := 3) 3 (by decide)) (by decide))
    refine g_toi 3 (by rw [ex82, (g_ru1 hR81)]; exact g_us) ?_
    refine g_cSiW cx [.int 16, .int 3] [] (c_X11_has l X (wM X ad F R81) 16 3) ml_X11_175 yS_X11_has rfl e_X11_readsRow_45 (by unfold g_rr; decide) (by decide) rfl (Nat.le_of_ble_eq_true rfl) (fun r84 w85 h86 => ?_)
    obtain ⟨rfl, hr84⟩ := h86
    refine g_toi 0 (by rcases hr84 with q | q; exact q.1; exact absurd q.2 (by unfold hb; decide)) ?_
    refine g_if_eq_t cx 53 e_X11_readsRow_48 (by decide) (by decide) ?_
    refine g_iload_n cx 2 rfl e_X11_readsRow_53 ?_
    refine g_iconst cx 1 (by decide) e_X11_readsRow_54 ?_
    refine g_aload_n cx 3 rfl e_X11_readsRow_55 ?_
    refine g_get cx cl_X11 fl_X11_125 0 (.ref (ad 39)) e_X11_readsRow_56 rfl rfl ?_
    refine g_iload cx 1 rfl e_X11_readsRow_59 ?_
    refine g_iald cx 39 e_X11_readsRow_61 rfl (jv_ix 5 (jv_k (x := 3) 3 (by decide)) (by decide)) ?_
    refine g_topi (fun x87 ex87 => ?_)
    have p88 : jv 0 4 x87 := by rw [ex87]; exact g_okR_g oR81 5 rfl (jv_cl 5 (jv_k (x := 3) 3 (by decide)) (by decide))
    refine g_toi 3 (by rw [ex87, (g_ru1 hR81)]; exact g_us) ?_
    refine g_ishl cx e_X11_readsRow_62 ?_
    refine g_toi 8 (by decide) ?_
    refine g_ior cx e_X11_readsRow_63 ?_
    refine g_toi 24 (by decide) ?_
    refine g_istore_n cx [(3, .int 24), (2, .int 7), (4, .int 3), (0, .ref (ad 0)), (1, .int 194)] e_X11_readsRow_64 (by decide) rfl ?_
    refine g_iinc cx 2 [(4, .int 2), (3, .int 24), (2, .int 7), (0, .ref (ad 0)), (1, .int 194)] 2 e_X11_readsRow_65 rfl (by decide) (by decide) rfl ?_
    refine g_goto cx 12 e_X11_readsRow_68 (by decide) ?_
    refine g_iload cx 0 rfl e_X11_readsRow_12 ?_
    refine g_if_lt_f cx 71 e_X11_readsRow_14 (by decide) (by decide) ?_
    refine g_aload_n cx 3 rfl e_X11_readsRow_17 ?_
    refine g_get cx cl_X11 fl_X11_125 0 (.ref (ad 39)) e_X11_readsRow_18 rfl rfl ?_
    refine g_iload cx 0 rfl e_X11_readsRow_21 ?_
    refine g_iload_n cx 2 rfl e_X11_readsRow_23 ?_
    refine g_aload_n cx 3 rfl e_X11_readsRow_24 ?_
    refine g_get cx cl_X11 fl_X11_464 0 (.int (F 75)) e_X11_readsRow_25 rfl rfl ?_
    refine g_toi 5 zn ?_
    refine g_irem cx (by decide) e_X11_readsRow_28 ?_
    refine g_toi 2 (by decide) ?_
    refine g_iast cx 39 (wM X ad F (g_u R81 39 (upd (R81 39) 2 2))) e_X11_readsRow_29 rfl (jv_ix 5 (jv_k (x := 2) 2 (by decide)) (by decide)) rfl ?_
    obtain ⟨R89, hR89⟩ : ∃ z, z = g_u R81 39 (upd (R81 39) 2 2) := ⟨_, rfl⟩
    rw [← hR89]
    have oR89 : g_okR LA_wM R89 := by rw [hR89]; exact g_okR_p oR81 (jv_k (x := 2) 2 (by decide)) rfl
    have fR89 : g_fr mr_X11_readsRow R R89 := by rw [hR89]; exact g_fr_r fR81 rfl
    have wTR89 : WT F R89 := by rw [hR89]; exact WT_r wTR81 rfl
    have wCR89 : WC F R89 := by rw [hR89]; exact WC_r wCR81 rfl
    refine g_iload_n cx 2 rfl e_X11_readsRow_30 ?_
    refine g_aload_n cx 3 rfl e_X11_readsRow_31 ?_
    refine g_get cx cl_X11 fl_X11_464 0 (.int (F 75)) e_X11_readsRow_32 rfl rfl ?_
    refine g_toi 5 zn ?_
    refine g_idiv cx (by decide) e_X11_readsRow_35 ?_
    refine g_toi 1 (by decide) ?_
    refine g_istore_n cx [(2, .int 1), (4, .int 2), (3, .int 24), (0, .ref (ad 0)), (1, .int 194)] e_X11_readsRow_36 (by decide) rfl ?_
    refine g_iload_n cx 2 rfl e_X11_readsRow_37 ?_
    refine g_aload_n cx 3 rfl e_X11_readsRow_38 ?_
    refine g_get cx cl_X11 fl_X11_125 0 (.ref (ad 39)) e_X11_readsRow_39 rfl rfl ?_
    refine g_iload cx 1 rfl e_X11_readsRow_42 ?_
    refine g_iald cx 39 e_X11_readsRow_44 rfl (jv_ix 5 (jv_k (x := 2) 2 (by decide)) (by decide)) ?_
    refine g_topi (fun x90 ex90 => ?_)
    have p91 : jv 0 4 x90 := by rw [ex90]; exact g_okR_g oR89 5 rfl (jv_cl 5 (jv_k (x := 2) 2 (by decide)) (by decide))
    refine g_toi 2 (by rw [ex90, (g_ru1 hR89)]; exact g_us) ?_
    refine g_cSiW cx [.int 24, .int 2] [] (c_X11_has l X (wM X ad F R89) 24 2) ml_X11_175 yS_X11_has rfl e_X11_readsRow_45 (by unfold g_rr; decide) (by decide) rfl (Nat.le_of_ble_eq_true rfl) (fun r92 w93 h94 => ?_)
    obtain ⟨rfl, hr92⟩ := h94
    refine g_toi 0 (by rcases hr92 with q | q; exact q.1; exact absurd q.2 (by unfold hb; decide)) ?_
    refine g_if_eq_t cx 53 e_X11_readsRow_48 (by decide) (by decide) ?_
    refine g_iload_n cx 2 rfl e_X11_readsRow_53 ?_
    refine g_iconst cx 1 (by decide) e_X11_readsRow_54 ?_
    refine g_aload_n cx 3 rfl e_X11_readsRow_55 ?_
    refine g_get cx cl_X11 fl_X11_125 0 (.ref (ad 39)) e_X11_readsRow_56 rfl rfl ?_
    refine g_iload cx 1 rfl e_X11_readsRow_59 ?_
    refine g_iald cx 39 e_X11_readsRow_61 rfl (jv_ix 5 (jv_k (x := 2) 2 (by decide)) (by decide)) ?_
    refine g_topi (fun x95 ex95 => ?_)
    have p96 : jv 0 4 x95 := by rw [ex95]; exact g_okR_g oR89 5 rfl (jv_cl 5 (jv_k (x := 2) 2 (by decide)) (by decide))
    refine g_toi 2 (by rw [ex95, (g_ru1 hR89)]; exact g_us) ?_
    refine g_ishl cx e_X11_readsRow_62 ?_
    refine g_toi 4 (by decide) ?_
    refine g_ior cx e_X11_readsRow_63 ?_
    refine g_toi 28 (by decide) ?_
    refine g_istore_n cx [(3, .int 28), (2, .int 1), (4, .int 2), (0, .ref (ad 0)), (1, .int 194)] e_X11_readsRow_64 (by decide) rfl ?_
    refine g_iinc cx 1 [(4, .int 1), (3, .int 28), (2, .int 1), (0, .ref (ad 0)), (1, .int 194)] 2 e_X11_readsRow_65 rfl (by decide) (by decide) rfl ?_
    refine g_goto cx 12 e_X11_readsRow_68 (by decide) ?_
    refine g_iload cx 0 rfl e_X11_readsRow_12 ?_
    refine g_if_lt_f cx 71 e_X11_readsRow_14 (by decide) (by decide) ?_
    refine g_aload_n cx 3 rfl e_X11_readsRow_17 ?_
    refine g_get cx cl_X11 fl_X11_125 0 (.ref (ad 39)) e_X11_readsRow_18 rfl rfl ?_
    refine g_iload cx 0 rfl e_X11_readsRow_21 ?_
    refine g_iload_n cx 2 rfl e_X11_readsRow_23 ?_
    refine g_aload_n cx 3 rfl e_X11_readsRow_24 ?_
    refine g_get cx cl_X11 fl_X11_464 0 (.int (F 75)) e_X11_readsRow_25 rfl rfl ?_
    refine g_toi 5 zn ?_
    refine g_irem cx (by decide) e_X11_readsRow_28 ?_
    refine g_toi 1 (by decide) ?_
    refine g_iast cx 39 (wM X ad F (g_u R89 39 (upd (R89 39) 1 1))) e_X11_readsRow_29 rfl (jv_ix 5 (jv_k (x := 1) 1 (by decide)) (by decide)) rfl ?_
    obtain ⟨R97, hR97⟩ : ∃ z, z = g_u R89 39 (upd (R89 39) 1 1) := ⟨_, rfl⟩
    rw [← hR97]
    have oR97 : g_okR LA_wM R97 := by rw [hR97]; exact g_okR_p oR89 (jv_k (x := 1) 1 (by decide)) rfl
    have fR97 : g_fr mr_X11_readsRow R R97 := by rw [hR97]; exact g_fr_r fR89 rfl
    have wTR97 : WT F R97 := by rw [hR97]; exact WT_r wTR89 rfl
    have wCR97 : WC F R97 := by rw [hR97]; exact WC_r wCR89 rfl
    refine g_iload_n cx 2 rfl e_X11_readsRow_30 ?_
    refine g_aload_n cx 3 rfl e_X11_readsRow_31 ?_
    refine g_get cx cl_X11 fl_X11_464 0 (.int (F 75)) e_X11_readsRow_32 rfl rfl ?_
    refine g_toi 5 zn ?_
    refine g_idiv cx (by decide) e_X11_readsRow_35 ?_
    refine g_toi 0 (by decide) ?_
    refine g_istore_n cx [(2, .int 0), (4, .int 1), (3, .int 28), (0, .ref (ad 0)), (1, .int 194)] e_X11_readsRow_36 (by decide) rfl ?_
    refine g_iload_n cx 2 rfl e_X11_readsRow_37 ?_
    refine g_aload_n cx 3 rfl e_X11_readsRow_38 ?_
    refine g_get cx cl_X11 fl_X11_125 0 (.ref (ad 39)) e_X11_readsRow_39 rfl rfl ?_
    refine g_iload cx 1 rfl e_X11_readsRow_42 ?_
    refine g_iald cx 39 e_X11_readsRow_44 rfl (jv_ix 5 (jv_k (x := 1) 1 (by decide)) (by decide)) ?_
    refine g_topi (fun x98 ex98 => ?_)
    have p99 : jv 0 4 x98 := by rw [ex98]; exact g_okR_g oR97 5 rfl (jv_cl 5 (jv_k (x := 1) 1 (by decide)) (by decide))
    refine g_toi 1 (by rw [ex98, (g_ru1 hR97)]; exact g_us) ?_
    refine g_cSiW cx [.int 28, .int 1] [] (c_X11_has l X (wM X ad F R97) 28 1) ml_X11_175 yS_X11_has rfl e_X11_readsRow_45 (by unfold g_rr; decide) (by decide) rfl (Nat.le_of_ble_eq_true rfl) (fun r100 w101 h102 => ?_)
    obtain ⟨rfl, hr100⟩ := h102
    refine g_toi 0 (by rcases hr100 with q | q; exact q.1; exact absurd q.2 (by unfold hb; decide)) ?_
    refine g_if_eq_t cx 53 e_X11_readsRow_48 (by decide) (by decide) ?_
    refine g_iload_n cx 2 rfl e_X11_readsRow_53 ?_
    refine g_iconst cx 1 (by decide) e_X11_readsRow_54 ?_
    refine g_aload_n cx 3 rfl e_X11_readsRow_55 ?_
    refine g_get cx cl_X11 fl_X11_125 0 (.ref (ad 39)) e_X11_readsRow_56 rfl rfl ?_
    refine g_iload cx 1 rfl e_X11_readsRow_59 ?_
    refine g_iald cx 39 e_X11_readsRow_61 rfl (jv_ix 5 (jv_k (x := 1) 1 (by decide)) (by decide)) ?_
    refine g_topi (fun x103 ex103 => ?_)
    have p104 : jv 0 4 x103 := by rw [ex103]; exact g_okR_g oR97 5 rfl (jv_cl 5 (jv_k (x := 1) 1 (by decide)) (by decide))
    refine g_toi 1 (by rw [ex103, (g_ru1 hR97)]; exact g_us) ?_
    refine g_ishl cx e_X11_readsRow_62 ?_
    refine g_toi 2 (by decide) ?_
    refine g_ior cx e_X11_readsRow_63 ?_
    refine g_toi 30 (by decide) ?_
    refine g_istore_n cx [(3, .int 30), (2, .int 0), (4, .int 1), (0, .ref (ad 0)), (1, .int 194)] e_X11_readsRow_64 (by decide) rfl ?_
    refine g_iinc cx 0 [(4, .int 0), (3, .int 30), (2, .int 0), (0, .ref (ad 0)), (1, .int 194)] 2 e_X11_readsRow_65 rfl (by decide) (by decide) rfl ?_
    refine g_goto cx 12 e_X11_readsRow_68 (by decide) ?_
    refine g_iload cx 0 rfl e_X11_readsRow_12 ?_
    refine g_if_lt_f cx 71 e_X11_readsRow_14 (by decide) (by decide) ?_
    refine g_aload_n cx 3 rfl e_X11_readsRow_17 ?_
    refine g_get cx cl_X11 fl_X11_125 0 (.ref (ad 39)) e_X11_readsRow_18 rfl rfl ?_
    refine g_iload cx 0 rfl e_X11_readsRow_21 ?_
    refine g_iload_n cx 2 rfl e_X11_readsRow_23 ?_
    refine g_aload_n cx 3 rfl e_X11_readsRow_24 ?_
    refine g_get cx cl_X11 fl_X11_464 0 (.int (F 75)) e_X11_readsRow_25 rfl rfl ?_
    refine g_toi 5 zn ?_
    refine g_irem cx (by decide) e_X11_readsRow_28 ?_
    refine g_toi 0 (by decide) ?_
    refine g_iast cx 39 (wM X ad F (g_u R97 39 (upd (R97 39) 0 0))) e_X11_readsRow_29 rfl (jv_ix 5 (jv_k (x := 0) 0 (by decide)) (by decide)) rfl ?_
    obtain ⟨R105, hR105⟩ : ∃ z, z = g_u R97 39 (upd (R97 39) 0 0) := ⟨_, rfl⟩
    rw [← hR105]
    have oR105 : g_okR LA_wM R105 := by rw [hR105]; exact g_okR_p oR97 (jv_k (x := 0) 0 (by decide)) rfl
    have fR105 : g_fr mr_X11_readsRow R R105 := by rw [hR105]; exact g_fr_r fR97 rfl
    have wTR105 : WT F R105 := by rw [hR105]; exact WT_r wTR97 rfl
    have wCR105 : WC F R105 := by rw [hR105]; exact WC_r wCR97 rfl
    refine g_iload_n cx 2 rfl e_X11_readsRow_30 ?_
    refine g_aload_n cx 3 rfl e_X11_readsRow_31 ?_
    refine g_get cx cl_X11 fl_X11_464 0 (.int (F 75)) e_X11_readsRow_32 rfl rfl ?_
    refine g_toi 5 zn ?_
    refine g_idiv cx (by decide) e_X11_readsRow_35 ?_
    refine g_toi 0 (by decide) ?_
    refine g_istore_n cx [(2, .int 0), (4, .int 0), (3, .int 30), (0, .ref (ad 0)), (1, .int 194)] e_X11_readsRow_36 (by decide) rfl ?_
    refine g_iload_n cx 2 rfl e_X11_readsRow_37 ?_
    refine g_aload_n cx 3 rfl e_X11_readsRow_38 ?_
    refine g_get cx cl_X11 fl_X11_125 0 (.ref (ad 39)) e_X11_readsRow_39 rfl rfl ?_
    refine g_iload cx 1 rfl e_X11_readsRow_42 ?_
    refine g_iald cx 39 e_X11_readsRow_44 rfl (jv_ix 5 (jv_k (x := 0) 0 (by decide)) (by decide)) ?_
    refine g_topi (fun x106 ex106 => ?_)
    have p107 : jv 0 4 x106 := by rw [ex106]; exact g_okR_g oR105 5 rfl (jv_cl 5 (jv_k (x := 0) 0 (by decide)) (by decide))
    refine g_toi 0 (by rw [ex106, (g_ru1 hR105)]; exact g_us) ?_
    refine g_cSiW cx [.int 30, .int 0] [] (c_X11_has l X (wM X ad F R105) 30 0) ml_X11_175 yS_X11_has rfl e_X11_readsRow_45 (by unfold g_rr; decide) (by decide) rfl (Nat.le_of_ble_eq_true rfl) (fun r108 w109 h110 => ?_)
    obtain ⟨rfl, hr108⟩ := h110
    refine g_toi 0 (by rcases hr108 with q | q; exact q.1; exact absurd q.2 (by unfold hb; decide)) ?_
    refine g_if_eq_t cx 53 e_X11_readsRow_48 (by decide) (by decide) ?_
    refine g_iload_n cx 2 rfl e_X11_readsRow_53 ?_
    refine g_iconst cx 1 (by decide) e_X11_readsRow_54 ?_
    refine g_aload_n cx 3 rfl e_X11_readsRow_55 ?_
    refine g_get cx cl_X11 fl_X11_125 0 (.ref (ad 39)) e_X11_readsRow_56 rfl rfl ?_
    refine g_iload cx 1 rfl e_X11_readsRow_59 ?_
    refine g_iald cx 39 e_X11_readsRow_61 rfl (jv_ix 5 (jv_k (x := 0) 0 (by decide)) (by decide)) ?_
    refine g_topi (fun x111 ex111 => ?_)
    have p112 : jv 0 4 x111 := by rw [ex111]; exact g_okR_g oR105 5 rfl (jv_cl 5 (jv_k (x := 0) 0 (by decide)) (by decide))
    refine g_toi 0 (by rw [ex111, (g_ru1 hR105)]; exact g_us) ?_
    refine g_ishl cx e_X11_readsRow_62 ?_
    refine g_toi 1 (by decide) ?_
    refine g_ior cx e_X11_readsRow_63 ?_
    refine g_toi 31 (by decide) ?_
    refine g_istore_n cx [(3, .int 31), (2, .int 0), (4, .int 0), (0, .ref (ad 0)), (1, .int 194)] e_X11_readsRow_64 (by decide) rfl ?_
    refine g_iinc cx (-1) [(4, .int (-1)), (3, .int 31), (2, .int 0), (0, .ref (ad 0)), (1, .int 194)] 2 e_X11_readsRow_65 rfl (by decide) (by decide) rfl ?_
    refine g_goto cx 12 e_X11_readsRow_68 (by decide) ?_
    refine g_iload cx 0 rfl e_X11_readsRow_12 ?_
    refine g_if_lt_t cx 71 e_X11_readsRow_14 (by decide) (by decide) ?_
    refine g_iconst cx 1 (by decide) e_X11_readsRow_71 ?_
    exact hret e_X11_readsRow_72 (Nat.le_of_ble_eq_true rfl) (Nat.le_of_ble_eq_true rfl) rfl ⟨F, R105, rfl, hI, oR105, wTR105, wCR105, (g_fr_rf F), fR105, (jv_w (jv_k (x := 1) 1 (by decide)) (by decide)), (fun h => absurd h (by decide))⟩
  · refine g_iload_n cx 1 rfl e_X11_readsRow_0 ?_
    refine g_istore_n cx [(2, .int a0), (0, .ref (ad 0)), (1, .int a0)] e_X11_readsRow_1 (by decide) rfl ?_
    refine g_iconst cx 0 (by decide) e_X11_readsRow_2 ?_
    refine g_istore_n cx [(3, .int 0), (2, .int a0), (0, .ref (ad 0)), (1, .int a0)] e_X11_readsRow_3 (by decide) rfl ?_
    refine g_aload_n cx 2 rfl e_X11_readsRow_4 ?_
    refine g_get cx cl_X11 fl_X11_464 0 (.int (F 75)) e_X11_readsRow_5 rfl rfl ?_
    refine g_iconst cx 1 (by decide) e_X11_readsRow_8 ?_
    refine g_isub cx e_X11_readsRow_9 ?_
    refine g_topi (fun x113 ex113 => ?_)
    have zx113 := jv_sub 1 4 ex113 hp2 (jv_k (x := 1) 1 (by decide)) (by decide)
    refine g_istore cx [(4, .int x113), (3, .int 0), (2, .int a0), (0, .ref (ad 0)), (1, .int a0)] e_X11_readsRow_10 (by decide) rfl ?_
    have J12 : ∀ (N : Nat) (R117 : Nat → Nat → Int32) (y114 : Int32) (y115 : Int32) (y116 : Int32), (g_okR LA_wM R117) → (g_fr mr_X11_readsRow R R117) → (WT F R117) → (WC F R117) → (jv 0 3124 y114) → (jv (-2147483648) 2147483647 y115) → (jv (-1) 4 y116) → (y116.toInt + 2147483648).toNat < N → G X E 5 0 0 (wM X ad F R117) [(0, .ref (ad 0)), (2, .int y114), (3, .int y115), (4, .int y116)] 12 [] := by
      intro N
      induction N with
      | zero => intro R117 y114 y115 y116 oR117 fR117 wTR117 wCR117 py114 py115 py116 hm; exact absurd hm (Nat.not_lt_zero _)
      | succ N ih12 =>
        intro R117 y114 y115 y116 oR117 fR117 wTR117 wCR117 py114 py115 py116 hm12
        refine g_iload cx 3 rfl e_X11_readsRow_12 ?_
        refine g_if_lt cx 71 e_X11_readsRow_14 (by decide) (fun zc118 => ?_) (fun zc118 => ?_)
        · have p119 := gn_lt (-1) (-1) (gc_lt zc118) py116 (jv_k (x := 0) 0 (by decide)) (by decide)
          refine g_iconst cx 1 (by decide) e_X11_readsRow_71 ?_
          exact hret e_X11_readsRow_72 (Nat.le_of_ble_eq_true rfl) (Nat.le_of_ble_eq_true rfl) rfl ⟨F, R117, rfl, hI, oR117, wTR117, wCR117, (g_fr_rf F), fR117, (jv_w (jv_k (x := 1) 1 (by decide)) (by decide)), (fun h => absurd h (by decide))⟩
        · have p120 := gn_ge 0 4 (gc_nlt zc118) py116 (jv_k (x := 0) 0 (by decide)) (by decide)
          refine g_aload_n cx 0 rfl e_X11_readsRow_17 ?_
          refine g_get cx cl_X11 fl_X11_125 0 (.ref (ad 39)) e_X11_readsRow_18 rfl rfl ?_
          refine g_iload cx 3 rfl e_X11_readsRow_21 ?_
          refine g_iload_n cx 1 rfl e_X11_readsRow_23 ?_
          refine g_aload_n cx 0 rfl e_X11_readsRow_24 ?_
          refine g_get cx cl_X11 fl_X11_464 0 (.int (F 75)) e_X11_readsRow_25 rfl rfl ?_
          refine g_irem cx (g_nz0 hp2 (by decide)) e_X11_readsRow_28 ?_
          refine g_topi (fun x121 ex121 => ?_)
          have zx121 := jv_rem 0 4 ex121 py114 hp2 (by decide)
          refine g_iast cx 39 (wM X ad F (g_u R117 39 (upd (R117 39) (Int32.toNatClampNeg y116) x121))) e_X11_readsRow_29 rfl (jv_ix 5 p120 (by decide)) rfl ?_
          obtain ⟨R122, hR122⟩ : ∃ z, z = g_u R117 39 (upd (R117 39) (Int32.toNatClampNeg y116) x121) := ⟨_, rfl⟩
          rw [← hR122]
          have oR122 : g_okR LA_wM R122 := by rw [hR122]; exact g_okR_p oR117 zx121.2 rfl
          have fR122 : g_fr mr_X11_readsRow R R122 := by rw [hR122]; exact g_fr_r fR117 rfl
          have wTR122 : WT F R122 := by rw [hR122]; exact WT_r wTR117 rfl
          have wCR122 : WC F R122 := by rw [hR122]; exact WC_r wCR117 rfl
          refine g_iload_n cx 1 rfl e_X11_readsRow_30 ?_
          refine g_aload_n cx 0 rfl e_X11_readsRow_31 ?_
          refine g_get cx cl_X11 fl_X11_464 0 (.int (F 75)) e_X11_readsRow_32 rfl rfl ?_
          refine g_idiv cx (g_nz0 hp2 (by decide)) e_X11_readsRow_35 ?_
          refine g_topi (fun x123 ex123 => ?_)
          have zx123 := jv_div 0 1562 ex123 py114 hp2 (by decide)
          refine g_istore_n cx [(2, .int x123), (0, .ref (ad 0)), (3, .int y115), (4, .int y116)] e_X11_readsRow_36 (by decide) rfl ?_
          refine g_iload_n cx 2 rfl e_X11_readsRow_37 ?_
          refine g_aload_n cx 1 rfl e_X11_readsRow_38 ?_
          refine g_get cx cl_X11 fl_X11_125 0 (.ref (ad 39)) e_X11_readsRow_39 rfl rfl ?_
          refine g_iload cx 3 rfl e_X11_readsRow_42 ?_
          refine g_iald cx 39 e_X11_readsRow_44 rfl (jv_ix 5 p120 (by decide)) ?_
          refine g_topi (fun x124 ex124 => ?_)
          have p125 : jv 0 4 x124 := by rw [ex124]; exact g_okR_g oR122 5 rfl (jv_cl 5 p120 (by decide))
          refine g_cSiW cx [.int y115, .int x124] [] (c_X11_has l X (wM X ad F R122) y115 x124) ml_X11_175 yS_X11_has rfl e_X11_readsRow_45 (by unfold g_rr; decide) (by decide) rfl (Nat.le_of_ble_eq_true rfl) (fun r126 w127 h128 => ?_)
          obtain ⟨rfl, hr126⟩ := h128
          have pr126 : jv 0 1 r126 := by rcases hr126 with q | q <;> rw [q.1] <;> exact ⟨by decide, by decide⟩
          refine g_if_eq cx 53 e_X11_readsRow_48 (by decide) (fun zc129 => ?_) (fun zc129 => ?_)
          · have p130 := gn_eq 0 0 (gc_eq zc129) pr126 (jv_k (x := 0) 0 (by decide)) (by decide)
            refine g_iload_n cx 2 rfl e_X11_readsRow_53 ?_
            refine g_iconst cx 1 (by decide) e_X11_readsRow_54 ?_
            refine g_aload_n cx 1 rfl e_X11_readsRow_55 ?_
            refine g_get cx cl_X11 fl_X11_125 0 (.ref (ad 39)) e_X11_readsRow_56 rfl rfl ?_
            refine g_iload cx 3 rfl e_X11_readsRow_59 ?_
            refine g_iald cx 39 e_X11_readsRow_61 rfl (jv_ix 5 p120 (by decide)) ?_
            refine g_topi (fun x131 ex131 => ?_)
            have p132 : jv 0 4 x131 := by rw [ex131]; exact g_okR_g oR122 5 rfl (jv_cl 5 p120 (by decide))
            refine g_ishl cx e_X11_readsRow_62 ?_
            refine g_topi (fun x133 ex133 => ?_)
            refine g_ior cx e_X11_readsRow_63 ?_
            refine g_topi (fun x134 ex134 => ?_)
            refine g_istore_n cx [(3, .int x134), (2, .int x123), (0, .ref (ad 0)), (4, .int y116)] e_X11_readsRow_64 (by decide) rfl ?_
            obtain ⟨x135, ex135⟩ : ∃ z : Int32, z = y116 + Int32.ofInt (-1) := ⟨_, rfl⟩
            refine g_iinc cx x135 [(4, .int x135), (3, .int x134), (2, .int x123), (0, .ref (ad 0))] 3 e_X11_readsRow_65 rfl ex135.symm (by decide) rfl ?_
            have zx135 := jv_add (-1) 3 (show x135 = y116 + (-1) from ex135) p120 (jv_k (x := (-1)) (-1) (by decide)) (by decide)
            refine g_goto cx 12 e_X11_readsRow_68 (by decide) ?_
            refine g_lsub [3, 2, 1, 0] [(0, .ref (ad 0)), (2, .int x123), (3, .int x134), (4, .int x135)] rfl ?_
            exact ih12 R122 x123 x134 x135 oR122 fR122 wTR122 wCR122 (jv_w zx123.2 (by decide)) (jv_t x134) (jv_w zx135.2 (by decide)) (Nat.lt_of_lt_of_le (show (x135.toInt + 2147483648).toNat < (y116.toInt + 2147483648).toNat from by have q0 := (jv_k (x := (-1)) (-1) (by decide)).1; have q1 := (jv_k (x := (-1)) (-1) (by decide)).2; have q2 := (jv_k (x := 0) 0 (by decide)).1; have q3 := (jv_k (x := 0) 0 (by decide)).2; have q4 := p130.1; have q5 := p130.2; have q6 := zx135.2.1; have q7 := zx135.2.2; have q8 := p120.1; have q9 := p120.2; have q10 := (gc_nlt zc118); have q11 := (gc_eq zc129); have q12 := (g_eq0 zx135.1); omega) (Nat.le_of_lt_succ hm12))
          · have p136 := gn_neL 1 1 (gc_ne zc129) pr126 (jv_k (x := 0) 0 (by decide)) (by decide)
            have zb137 : hb y115 x124 := g_hasy hr126 zc129
            refine g_iconst cx 0 (by decide) e_X11_readsRow_51 ?_
            exact hret e_X11_readsRow_52 (Nat.le_of_ble_eq_true rfl) (Nat.le_of_ble_eq_true rfl) rfl ⟨F, R122, rfl, hI, oR122, wTR122, wCR122, (g_fr_rf F), fR122, (jv_w (jv_k (x := 0) 0 (by decide)) (by decide)), (fun _ => hns)⟩
    refine g_lsub [3, 2, 1, 0] [(0, .ref (ad 0)), (2, .int a0), (3, .int 0), (4, .int x113)] rfl ?_
    exact J12 _ R a0 0 x113 hA (g_fr_rf R) hWT hWC pa0 (jv_w (jv_k (x := 0) 0 (by decide)) (by decide)) (jv_w zx113.2 (by decide)) (Nat.lt_succ_self _)
