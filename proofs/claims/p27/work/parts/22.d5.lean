def KB_X11_readsRow_12 (b12 : (Nat → Nat → Int32) → (Int32) → (Int32) → (Int32) → Int32 × (Nat → Int32) × (Nat → Nat → Int32)) (F : Nat → Int32) (R6 : Nat → Nat → Int32) (y3 : Int32) (y4 : Int32) (y5 : Int32) : Int32 × (Nat → Int32) × (Nat → Nat → Int32) :=
  if y5 < 0 then (1, F, R6) else k_lt (y3 - y3 / (F 75) * (F 75)) (fun x12 => k_lt (g_u R6 39 (upd (R6 39) (Int32.toNatClampNeg y5) x12)) (fun R14 => k_lt (y3 / (F 75)) (fun x16 => k_lt (R14 39 (Int32.toNatClampNeg y5)) (fun x18 => k_lt (g_hasv y4 x18) (fun r21 => if r21 = 0 then k_lt (R14 39 (Int32.toNatClampNeg y5)) (fun x28 => k_lt (1 <<< (x28 &&& 31)) (fun x31 => k_lt (y4 ||| x31) (fun x33 => k_lt (y5 + (-1)) (fun x35 => b12 R14 x16 x33 x35)))) else (0, F, R14))))))
def K_X11_readsRow_12 (F : Nat → Int32) : Nat → (Nat → Nat → Int32) → (Int32) → (Int32) → (Int32) → Int32 × (Nat → Int32) × (Nat → Nat → Int32)
  | 0 => fun R6 _ _ _ => (0, F, R6)
  | n + 1 => KB_X11_readsRow_12 (K_X11_readsRow_12 F n) F
def sp_X11_readsRow (F : Nat → Int32) (R : Nat → Nat → Int32) (a0 : Int32) : Int32 × (Nat → Int32) × (Nat → Nat → Int32) :=
  k_lt ((F 75) - 1) (fun x1 => K_X11_readsRow_12 F 8589934592 R a0 0 x1)
theorem e_X11_readsRow_0 : g_dc cX11_readsRow 0 (.iload_n 1) 1 1 := ⟨by decide +kernel, rfl⟩
theorem e_X11_readsRow_1 : g_dc cX11_readsRow 1 (.istore_n 2) 1 2 := ⟨by decide +kernel, rfl⟩
theorem e_X11_readsRow_2 : g_dc cX11_readsRow 2 (.iconst 0) 1 3 := ⟨by decide +kernel, rfl⟩
theorem e_X11_readsRow_3 : g_dc cX11_readsRow 3 (.istore_n 3) 1 4 := ⟨by decide +kernel, rfl⟩
theorem e_X11_readsRow_4 : g_dc cX11_readsRow 4 (.aload_n 0) 1 5 := ⟨by decide +kernel, rfl⟩
theorem e_X11_readsRow_5 : g_dc cX11_readsRow 5 (.getfield 464) 3 8 := ⟨by decide +kernel, rfl⟩
theorem e_X11_readsRow_8 : g_dc cX11_readsRow 8 (.iconst 1) 1 9 := ⟨by decide +kernel, rfl⟩
theorem e_X11_readsRow_9 : g_dc cX11_readsRow 9 (.isub) 1 10 := ⟨by decide +kernel, rfl⟩
theorem e_X11_readsRow_10 : g_dc cX11_readsRow 10 (.istore 4) 2 12 := ⟨by decide +kernel, rfl⟩
theorem e_X11_readsRow_12 : g_dc cX11_readsRow 12 (.iload 4) 2 14 := ⟨by decide +kernel, rfl⟩
theorem e_X11_readsRow_14 : g_dc cX11_readsRow 14 (.ifCond .lt 57) 3 17 := ⟨by decide +kernel, rfl⟩
theorem e_X11_readsRow_17 : g_dc cX11_readsRow 17 (.aload_n 0) 1 18 := ⟨by decide +kernel, rfl⟩
theorem e_X11_readsRow_18 : g_dc cX11_readsRow 18 (.getfield 125) 3 21 := ⟨by decide +kernel, rfl⟩
theorem e_X11_readsRow_21 : g_dc cX11_readsRow 21 (.iload 4) 2 23 := ⟨by decide +kernel, rfl⟩
theorem e_X11_readsRow_23 : g_dc cX11_readsRow 23 (.iload_n 2) 1 24 := ⟨by decide +kernel, rfl⟩
theorem e_X11_readsRow_24 : g_dc cX11_readsRow 24 (.aload_n 0) 1 25 := ⟨by decide +kernel, rfl⟩
theorem e_X11_readsRow_25 : g_dc cX11_readsRow 25 (.getfield 464) 3 28 := ⟨by decide +kernel, rfl⟩
theorem e_X11_readsRow_28 : g_dc cX11_readsRow 28 (.irem) 1 29 := ⟨by decide +kernel, rfl⟩
theorem e_X11_readsRow_29 : g_dc cX11_readsRow 29 (.iastore) 1 30 := ⟨by decide +kernel, rfl⟩
theorem e_X11_readsRow_30 : g_dc cX11_readsRow 30 (.iload_n 2) 1 31 := ⟨by decide +kernel, rfl⟩
theorem e_X11_readsRow_31 : g_dc cX11_readsRow 31 (.aload_n 0) 1 32 := ⟨by decide +kernel, rfl⟩
theorem e_X11_readsRow_32 : g_dc cX11_readsRow 32 (.getfield 464) 3 35 := ⟨by decide +kernel, rfl⟩
theorem e_X11_readsRow_35 : g_dc cX11_readsRow 35 (.idiv) 1 36 := ⟨by decide +kernel, rfl⟩
theorem e_X11_readsRow_36 : g_dc cX11_readsRow 36 (.istore_n 2) 1 37 := ⟨by decide +kernel, rfl⟩
theorem e_X11_readsRow_37 : g_dc cX11_readsRow 37 (.iload_n 3) 1 38 := ⟨by decide +kernel, rfl⟩
theorem e_X11_readsRow_38 : g_dc cX11_readsRow 38 (.aload_n 0) 1 39 := ⟨by decide +kernel, rfl⟩
theorem e_X11_readsRow_39 : g_dc cX11_readsRow 39 (.getfield 125) 3 42 := ⟨by decide +kernel, rfl⟩
theorem e_X11_readsRow_42 : g_dc cX11_readsRow 42 (.iload 4) 2 44 := ⟨by decide +kernel, rfl⟩
theorem e_X11_readsRow_44 : g_dc cX11_readsRow 44 (.iaload) 1 45 := ⟨by decide +kernel, rfl⟩
theorem e_X11_readsRow_45 : g_dc cX11_readsRow 45 (.invokestatic 175) 3 48 := ⟨by decide +kernel, rfl⟩
theorem e_X11_readsRow_48 : g_dc cX11_readsRow 48 (.ifCond .eq 5) 3 51 := ⟨by decide +kernel, rfl⟩
theorem e_X11_readsRow_51 : g_dc cX11_readsRow 51 (.iconst 0) 1 52 := ⟨by decide +kernel, rfl⟩
theorem e_X11_readsRow_52 : g_dc cX11_readsRow 52 (.ireturn) 1 53 := ⟨by decide +kernel, rfl⟩
theorem e_X11_readsRow_53 : g_dc cX11_readsRow 53 (.iload_n 3) 1 54 := ⟨by decide +kernel, rfl⟩
theorem e_X11_readsRow_54 : g_dc cX11_readsRow 54 (.iconst 1) 1 55 := ⟨by decide +kernel, rfl⟩
theorem e_X11_readsRow_55 : g_dc cX11_readsRow 55 (.aload_n 0) 1 56 := ⟨by decide +kernel, rfl⟩
theorem e_X11_readsRow_56 : g_dc cX11_readsRow 56 (.getfield 125) 3 59 := ⟨by decide +kernel, rfl⟩
theorem e_X11_readsRow_59 : g_dc cX11_readsRow 59 (.iload 4) 2 61 := ⟨by decide +kernel, rfl⟩
theorem e_X11_readsRow_61 : g_dc cX11_readsRow 61 (.iaload) 1 62 := ⟨by decide +kernel, rfl⟩
theorem e_X11_readsRow_62 : g_dc cX11_readsRow 62 (.ishl) 1 63 := ⟨by decide +kernel, rfl⟩
theorem e_X11_readsRow_63 : g_dc cX11_readsRow 63 (.ior) 1 64 := ⟨by decide +kernel, rfl⟩
theorem e_X11_readsRow_64 : g_dc cX11_readsRow 64 (.istore_n 3) 1 65 := ⟨by decide +kernel, rfl⟩
theorem e_X11_readsRow_65 : g_dc cX11_readsRow 65 (.iinc 4 (-1)) 3 68 := ⟨by decide +kernel, rfl⟩
theorem e_X11_readsRow_68 : g_dc cX11_readsRow 68 (.goto (-56)) 3 71 := ⟨by decide +kernel, rfl⟩
theorem e_X11_readsRow_71 : g_dc cX11_readsRow 71 (.iconst 1) 1 72 := ⟨by decide +kernel, rfl⟩
theorem e_X11_readsRow_72 : g_dc cX11_readsRow 72 (.ireturn) 1 73 := ⟨by decide +kernel, rfl⟩
def md_X11_readsRow : List Nat := []
def mr_X11_readsRow : List Nat := [39]
theorem rr_k {α β : Type} (e : α) (f : α → β) : k_lt e f = f e := rfl
theorem rr_step {F : Nat → Int32} {N : Int32} (hF : F 75 = N) {n : Nat} {R : Nat → Nat → Int32} {y3 y4 y5 : Int32} (h5 : ¬ y5 < 0) (hh : g_hasv y4 (y3 - y3 / N * N) = 0) : ∃ R', K_X11_readsRow_12 F (n + 1) R y3 y4 y5 = K_X11_readsRow_12 F n R' (y3 / N) (y4 ||| (1 <<< ((y3 - y3 / N * N) &&& 31))) (y5 + (-1)) := by
  refine ⟨g_u R 39 (upd (R 39) (Int32.toNatClampNeg y5) (y3 - y3 / N * N)), ?_⟩
  have e : K_X11_readsRow_12 F (n + 1) R y3 y4 y5 = KB_X11_readsRow_12 (K_X11_readsRow_12 F n) F R y3 y4 y5 := rfl
  have es : g_u R 39 (upd (R 39) (Int32.toNatClampNeg y5) (y3 - y3 / N * N)) 39 (Int32.toNatClampNeg y5) = y3 - y3 / N * N := by rw [g_uus, g_us]
  rw [e]
  unfold KB_X11_readsRow_12
  simp only [rr_k]
  rw [if_neg h5, hF, es, if_pos hh]
theorem rr_end {F : Nat → Int32} {n : Nat} {R : Nat → Nat → Int32} {y3 y4 y5 : Int32} (h5 : y5 < 0) : K_X11_readsRow_12 F (n + 1) R y3 y4 y5 = (1, F, R) := by
  have e : K_X11_readsRow_12 F (n + 1) R y3 y4 y5 = KB_X11_readsRow_12 (K_X11_readsRow_12 F n) F R y3 y4 y5 := rfl
  rw [e]
  unfold KB_X11_readsRow_12
  rw [if_pos h5]
theorem rr_spec {F : Nat → Int32} {R R' : Nat → Nat → Int32} {a0 : Int32} (h : ((0 : Int32), F, R') = sp_X11_readsRow F R a0) : (0 : Int32) = 0 → ¬ g_spec (F 75).toInt a0.toInt := by
  intro _ hs
  have key : (sp_X11_readsRow F R a0).1 = 1 := by
    unfold sp_X11_readsRow
    rw [rr_k]
    rcases g_spec_c (F 75) a0 with ⟨hF, ha⟩ | ⟨hF, ha⟩ | ⟨hF, ha⟩ | ⟨hF, ha⟩ | z
    · rw [hF, ha]
      obtain ⟨R1, e1⟩ := rr_step (n := 8589934591) (R := R) (y3 := 1) (y4 := 0) (y5 := 2 - 1) hF (by decide) (by decide)
      obtain ⟨R2, e2⟩ := rr_step (n := 8589934590) (R := R1) (y3 := 1 / 2) (y4 := (0 : Int32) ||| ((1 : Int32) <<< ((1 - 1 / 2 * 2) &&& 31))) (y5 := 2 - 1 + (-1)) hF (by decide) (by decide)
      rw [show (8589934592 : Nat) = 8589934591 + 1 from rfl, e1, show (8589934591 : Nat) = 8589934590 + 1 from rfl, e2, show (8589934590 : Nat) = 8589934589 + 1 from rfl, rr_end (by decide)]
    · rw [hF, ha]
      obtain ⟨R1, e1⟩ := rr_step (n := 8589934591) (R := R) (y3 := 5) (y4 := 0) (y5 := 3 - 1) hF (by decide) (by decide)
      obtain ⟨R2, e2⟩ := rr_step (n := 8589934590) (R := R1) (y3 := 5 / 3) (y4 := (0 : Int32) ||| ((1 : Int32) <<< ((5 - 5 / 3 * 3) &&& 31))) (y5 := 3 - 1 + (-1)) hF (by decide) (by decide)
      obtain ⟨R3, e3⟩ := rr_step (n := 8589934589) (R := R2) (y3 := 5 / 3 / 3) (y4 := (0 : Int32) ||| ((1 : Int32) <<< ((5 - 5 / 3 * 3) &&& 31)) ||| ((1 : Int32) <<< ((5 / 3 - 5 / 3 / 3 * 3) &&& 31))) (y5 := 3 - 1 + (-1) + (-1)) hF (by decide) (by decide)
      rw [show (8589934592 : Nat) = 8589934591 + 1 from rfl, e1, show (8589934591 : Nat) = 8589934590 + 1 from rfl, e2, show (8589934590 : Nat) = 8589934589 + 1 from rfl, e3, show (8589934589 : Nat) = 8589934588 + 1 from rfl, rr_end (by decide)]
    · rw [hF, ha]
      obtain ⟨R1, e1⟩ := rr_step (n := 8589934591) (R := R) (y3 := 27) (y4 := 0) (y5 := 4 - 1) hF (by decide) (by decide)
      obtain ⟨R2, e2⟩ := rr_step (n := 8589934590) (R := R1) (y3 := 27 / 4) (y4 := (0 : Int32) ||| ((1 : Int32) <<< ((27 - 27 / 4 * 4) &&& 31))) (y5 := 4 - 1 + (-1)) hF (by decide) (by decide)
      obtain ⟨R3, e3⟩ := rr_step (n := 8589934589) (R := R2) (y3 := 27 / 4 / 4) (y4 := (0 : Int32) ||| ((1 : Int32) <<< ((27 - 27 / 4 * 4) &&& 31)) ||| ((1 : Int32) <<< ((27 / 4 - 27 / 4 / 4 * 4) &&& 31))) (y5 := 4 - 1 + (-1) + (-1)) hF (by decide) (by decide)
      obtain ⟨R4, e4⟩ := rr_step (n := 8589934588) (R := R3) (y3 := 27 / 4 / 4 / 4) (y4 := (0 : Int32) ||| ((1 : Int32) <<< ((27 - 27 / 4 * 4) &&& 31)) ||| ((1 : Int32) <<< ((27 / 4 - 27 / 4 / 4 * 4) &&& 31)) ||| ((1 : Int32) <<< ((27 / 4 / 4 - 27 / 4 / 4 / 4 * 4) &&& 31))) (y5 := 4 - 1 + (-1) + (-1) + (-1)) hF (by decide) (by decide)
      rw [show (8589934592 : Nat) = 8589934591 + 1 from rfl, e1, show (8589934591 : Nat) = 8589934590 + 1 from rfl, e2, show (8589934590 : Nat) = 8589934589 + 1 from rfl, e3, show (8589934589 : Nat) = 8589934588 + 1 from rfl, e4, show (8589934588 : Nat) = 8589934587 + 1 from rfl, rr_end (by decide)]
    · rw [hF, ha]
      obtain ⟨R1, e1⟩ := rr_step (n := 8589934591) (R := R) (y3 := 194) (y4 := 0) (y5 := 5 - 1) hF (by decide) (by decide)
      obtain ⟨R2, e2⟩ := rr_step (n := 8589934590) (R := R1) (y3 := 194 / 5) (y4 := (0 : Int32) ||| ((1 : Int32) <<< ((194 - 194 / 5 * 5) &&& 31))) (y5 := 5 - 1 + (-1)) hF (by decide) (by decide)
      obtain ⟨R3, e3⟩ := rr_step (n := 8589934589) (R := R2) (y3 := 194 / 5 / 5) (y4 := (0 : Int32) ||| ((1 : Int32) <<< ((194 - 194 / 5 * 5) &&& 31)) ||| ((1 : Int32) <<< ((194 / 5 - 194 / 5 / 5 * 5) &&& 31))) (y5 := 5 - 1 + (-1) + (-1)) hF (by decide) (by decide)
      obtain ⟨R4, e4⟩ := rr_step (n := 8589934588) (R := R3) (y3 := 194 / 5 / 5 / 5) (y4 := (0 : Int32) ||| ((1 : Int32) <<< ((194 - 194 / 5 * 5) &&& 31)) ||| ((1 : Int32) <<< ((194 / 5 - 194 / 5 / 5 * 5) &&& 31)) ||| ((1 : Int32) <<< ((194 / 5 / 5 - 194 / 5 / 5 / 5 * 5) &&& 31))) (y5 := 5 - 1 + (-1) + (-1) + (-1)) hF (by decide) (by decide)
      obtain ⟨R5, e5⟩ := rr_step (n := 8589934587) (R := R4) (y3 := 194 / 5 / 5 / 5 / 5) (y4 := (0 : Int32) ||| ((1 : Int32) <<< ((194 - 194 / 5 * 5) &&& 31)) ||| ((1 : Int32) <<< ((194 / 5 - 194 / 5 / 5 * 5) &&& 31)) ||| ((1 : Int32) <<< ((194 / 5 / 5 - 194 / 5 / 5 / 5 * 5) &&& 31)) ||| ((1 : Int32) <<< ((194 / 5 / 5 / 5 - 194 / 5 / 5 / 5 / 5 * 5) &&& 31))) (y5 := 5 - 1 + (-1) + (-1) + (-1) + (-1)) hF (by decide) (by decide)
      rw [show (8589934592 : Nat) = 8589934591 + 1 from rfl, e1, show (8589934591 : Nat) = 8589934590 + 1 from rfl, e2, show (8589934590 : Nat) = 8589934589 + 1 from rfl, e3, show (8589934589 : Nat) = 8589934588 + 1 from rfl, e4, show (8589934588 : Nat) = 8589934587 + 1 from rfl, e5, show (8589934587 : Nat) = 8589934586 + 1 from rfl, rr_end (by decide)]
    · exact absurd hs z
  rw [← h] at key
  have key : (0 : Int32) = 1 := key
  exact absurd key (by decide)
set_option maxHeartbeats 4000000 in
set_option maxRecDepth 100000 in
theorem w_X11_readsRow (l : Launch) (X : gX) (ad : Nat → Nat) (F : Nat → Int32) (R : Nat → Nat → Int32) (hI : g_ok LK_wM F) (hA : g_okR LA_wM R) (hWT : WT F R) (hWC : WC F R) (a0 : Int32) (pa0 : jv 0 3124 a0) (hp2 : jv 2 5 (F 75)) : g_Ci l X yX11_readsRow cX11_readsRow 5 (some .boolean) 2 0 0 [.ref (ad 0), .int a0] (wM X ad F R) (fun r w => ∃ (F' : Nat → Int32) (R' : Nat → Nat → Int32), w = wM X ad F' R' ∧ g_ok LK_wM F' ∧ g_okR LA_wM R' ∧ WT F' R' ∧ WC F' R' ∧ g_fr md_X11_readsRow F F' ∧ g_fr mr_X11_readsRow R R' ∧ jv 0 1 r ∧ (r = 0 → ¬ g_spec (F 75).toInt a0.toInt) ∧ (r, F', R') = sp_X11_readsRow F R a0) := by
  refine g_mi (by decide +kernel) (Nat.le_of_ble_eq_true rfl) (fun E cx hret => ?_)
  obtain ⟨SP, hSP⟩ : ∃ z, z = sp_X11_readsRow F R a0 := ⟨_, rfl⟩
  have hk0 := hSP
  unfold sp_X11_readsRow at hk0
  refine g_iload_n cx 1 rfl e_X11_readsRow_0 ?_
  refine g_istore_n cx [(2, .int a0), (0, .ref (ad 0)), (1, .int a0)] e_X11_readsRow_1 (by decide) rfl ?_
  refine g_iconst cx 0 (by decide) e_X11_readsRow_2 ?_
  refine g_istore_n cx [(3, .int 0), (2, .int a0), (0, .ref (ad 0)), (1, .int a0)] e_X11_readsRow_3 (by decide) rfl ?_
  refine g_aload_n cx 2 rfl e_X11_readsRow_4 ?_
  refine g_get cx cl_X11 fl_X11_464 0 (.int (F 75)) e_X11_readsRow_5 rfl rfl ?_
  refine g_iconst cx 1 (by decide) e_X11_readsRow_8 ?_
  refine g_isub cx e_X11_readsRow_9 ?_
  refine g_topi (fun x1 ex1 => ?_)
  have hk2 := k_ls hk0 ex1
  have zx1 := jv_sub 1 4 ex1 hp2 (jv_k (x := 1) 1 (by decide)) (by decide)
  refine g_istore cx [(4, .int x1), (3, .int 0), (2, .int a0), (0, .ref (ad 0)), (1, .int a0)] e_X11_readsRow_10 (by decide) rfl ?_
  have J12 : ∀ (N : Nat) (R6 : Nat → Nat → Int32) (y3 : Int32) (y4 : Int32) (y5 : Int32), (g_okR LA_wM R6) → (g_fr mr_X11_readsRow R R6) → (WT F R6) → (WC F R6) → (jv 0 3124 y3) → (jv (-2147483648) 2147483647 y4) → (jv (-1) 4 y5) → (SP = K_X11_readsRow_12 F N R6 y3 y4 y5) → (y5.toInt + 2147483648).toNat < N → G X E 5 0 0 (wM X ad F R6) [(0, .ref (ad 0)), (2, .int y3), (3, .int y4), (4, .int y5)] 12 [] := by
    intro N
    induction N with
    | zero => intro R6 y3 y4 y5 oR6 fR6 wTR6 wCR6 py3 py4 py5 hkJ12 hm; exact absurd hm (Nat.not_lt_zero _)
    | succ N ih12 =>
      intro R6 y3 y4 y5 oR6 fR6 wTR6 wCR6 py3 py4 py5 hkJ12 hm12
      have hkK12 : SP = KB_X11_readsRow_12 (K_X11_readsRow_12 F N) F R6 y3 y4 y5 := hkJ12
      obtain ⟨b12, hb12⟩ : ∃ z, z = K_X11_readsRow_12 F N := ⟨_, rfl⟩
      rw [← hb12] at hkK12
      unfold KB_X11_readsRow_12 at hkK12
      refine g_iload cx 3 rfl e_X11_readsRow_12 ?_
      refine g_if_lt cx 71 e_X11_readsRow_14 (by decide) (fun zc7 => ?_) (fun zc7 => ?_)
      · have p8 := gn_lt (-1) (-1) (gc_lt zc7) py5 (jv_k (x := 0) 0 (by decide)) (by decide)
        have hk9 := hkK12.trans (if_pos zc7)
        refine g_iconst cx 1 (by decide) e_X11_readsRow_71 ?_
        exact hret e_X11_readsRow_72 (Nat.le_of_ble_eq_true rfl) (Nat.le_of_ble_eq_true rfl) rfl ⟨F, R6, rfl, hI, oR6, wTR6, wCR6, (g_fr_rf F), fR6, (jv_w (jv_k (x := 1) 1 (by decide)) (by decide)), (fun h => absurd h (by decide)), (hk9.symm.trans hSP)⟩
      · have p10 := gn_ge 0 4 (gc_nlt zc7) py5 (jv_k (x := 0) 0 (by decide)) (by decide)
        have hk11 := hkK12.trans (if_neg zc7)
        refine g_aload_n cx 0 rfl e_X11_readsRow_17 ?_
        refine g_get cx cl_X11 fl_X11_125 0 (.ref (ad 39)) e_X11_readsRow_18 rfl rfl ?_
        refine g_iload cx 3 rfl e_X11_readsRow_21 ?_
        refine g_iload_n cx 1 rfl e_X11_readsRow_23 ?_
        refine g_aload_n cx 0 rfl e_X11_readsRow_24 ?_
        refine g_get cx cl_X11 fl_X11_464 0 (.int (F 75)) e_X11_readsRow_25 rfl rfl ?_
        refine g_irem cx (g_nz0 hp2 (by decide)) e_X11_readsRow_28 ?_
        refine g_topi (fun x12 ex12 => ?_)
        have hk13 := k_ls hk11 ex12
        have zx12 := jv_rem 0 4 ex12 py3 hp2 (by decide)
        refine g_iast cx 39 (wM X ad F (g_u R6 39 (upd (R6 39) (Int32.toNatClampNeg y5) x12))) e_X11_readsRow_29 rfl (jv_ix 5 p10 (by decide)) rfl ?_
        obtain ⟨R14, hR14⟩ : ∃ z, z = g_u R6 39 (upd (R6 39) (Int32.toNatClampNeg y5) x12) := ⟨_, rfl⟩
        rw [← hR14]
        have hk15 := k_ls hk13 hR14
        have oR14 : g_okR LA_wM R14 := by rw [hR14]; exact g_okR_p oR6 zx12.2 rfl
        have fR14 : g_fr mr_X11_readsRow R R14 := by rw [hR14]; exact g_fr_r fR6 rfl
        have wTR14 : WT F R14 := by rw [hR14]; exact WT_r wTR6 rfl
        have wCR14 : WC F R14 := by rw [hR14]; exact WC_r wCR6 rfl
        refine g_iload_n cx 1 rfl e_X11_readsRow_30 ?_
        refine g_aload_n cx 0 rfl e_X11_readsRow_31 ?_
        refine g_get cx cl_X11 fl_X11_464 0 (.int (F 75)) e_X11_readsRow_32 rfl rfl ?_
        refine g_idiv cx (g_nz0 hp2 (by decide)) e_X11_readsRow_35 ?_
        refine g_topi (fun x16 ex16 => ?_)
        have hk17 := k_ls hk15 ex16
        have zx16 := jv_div 0 1562 ex16 py3 hp2 (by decide)
        refine g_istore_n cx [(2, .int x16), (0, .ref (ad 0)), (3, .int y4), (4, .int y5)] e_X11_readsRow_36 (by decide) rfl ?_
        refine g_iload_n cx 2 rfl e_X11_readsRow_37 ?_
        refine g_aload_n cx 1 rfl e_X11_readsRow_38 ?_
        refine g_get cx cl_X11 fl_X11_125 0 (.ref (ad 39)) e_X11_readsRow_39 rfl rfl ?_
        refine g_iload cx 3 rfl e_X11_readsRow_42 ?_
        refine g_iald cx 39 e_X11_readsRow_44 rfl (jv_ix 5 p10 (by decide)) ?_
        refine g_topi (fun x18 ex18 => ?_)
        have hk19 := k_ls hk17 ex18
        have p20 : jv 0 4 x18 := by rw [ex18]; exact g_okR_g oR14 5 rfl (jv_cl 5 p10 (by decide))
        refine g_cSiW cx [.int y4, .int x18] [] (c_X11_has l X (wM X ad F R14) y4 x18) ml_X11_175 yS_X11_has rfl e_X11_readsRow_45 (by unfold g_rr; decide) (by decide) rfl (Nat.le_of_ble_eq_true rfl) (fun r21 w22 h23 => ?_)
        obtain ⟨rfl, hr21⟩ := h23
        have pr21 : jv 0 1 r21 := by rcases hr21 with q | q <;> rw [q.1] <;> exact ⟨by decide, by decide⟩
        have hk24 := k_ls hk19 (g_has_e hr21)
        refine g_if_eq cx 53 e_X11_readsRow_48 (by decide) (fun zc25 => ?_) (fun zc25 => ?_)
        · have p26 := gn_eq 0 0 (gc_eq zc25) pr21 (jv_k (x := 0) 0 (by decide)) (by decide)
          have hk27 := hk24.trans (if_pos zc25)
          refine g_iload_n cx 2 rfl e_X11_readsRow_53 ?_
          refine g_iconst cx 1 (by decide) e_X11_readsRow_54 ?_
          refine g_aload_n cx 1 rfl e_X11_readsRow_55 ?_
          refine g_get cx cl_X11 fl_X11_125 0 (.ref (ad 39)) e_X11_readsRow_56 rfl rfl ?_
          refine g_iload cx 3 rfl e_X11_readsRow_59 ?_
          refine g_iald cx 39 e_X11_readsRow_61 rfl (jv_ix 5 p10 (by decide)) ?_
          refine g_topi (fun x28 ex28 => ?_)
          have hk29 := k_ls hk27 ex28
          have p30 : jv 0 4 x28 := by rw [ex28]; exact g_okR_g oR14 5 rfl (jv_cl 5 p10 (by decide))
          refine g_ishl cx e_X11_readsRow_62 ?_
          refine g_topi (fun x31 ex31 => ?_)
          have hk32 := k_ls hk29 ex31
          refine g_ior cx e_X11_readsRow_63 ?_
          refine g_topi (fun x33 ex33 => ?_)
          have hk34 := k_ls hk32 ex33
          refine g_istore_n cx [(3, .int x33), (2, .int x16), (0, .ref (ad 0)), (4, .int y5)] e_X11_readsRow_64 (by decide) rfl ?_
          obtain ⟨x35, ex35⟩ : ∃ z : Int32, z = y5 + Int32.ofInt (-1) := ⟨_, rfl⟩
          have hk36 := k_ls hk34 (show x35 = y5 + (-1) from ex35)
          refine g_iinc cx x35 [(4, .int x35), (3, .int x33), (2, .int x16), (0, .ref (ad 0))] 3 e_X11_readsRow_65 rfl ex35.symm (by decide) rfl ?_
          have zx35 := jv_add (-1) 3 (show x35 = y5 + (-1) from ex35) p10 (jv_k (x := (-1)) (-1) (by decide)) (by decide)
          refine g_goto cx 12 e_X11_readsRow_68 (by decide) ?_
          refine g_lsub [3, 2, 1, 0] [(0, .ref (ad 0)), (2, .int x16), (3, .int x33), (4, .int x35)] rfl ?_
          exact ih12 R14 x16 x33 x35 oR14 fR14 wTR14 wCR14 (jv_w zx16.2 (by decide)) (jv_t x33) (jv_w zx35.2 (by decide)) (hk36.trans (by rw [hb12])) (Nat.lt_of_lt_of_le (show (x35.toInt + 2147483648).toNat < (y5.toInt + 2147483648).toNat from by have q0 := (jv_k (x := (-1)) (-1) (by decide)).1; have q1 := (jv_k (x := (-1)) (-1) (by decide)).2; have q2 := (jv_k (x := 0) 0 (by decide)).1; have q3 := (jv_k (x := 0) 0 (by decide)).2; have q4 := p26.1; have q5 := p26.2; have q6 := zx35.2.1; have q7 := zx35.2.2; have q8 := p10.1; have q9 := p10.2; have q10 := (gc_nlt zc7); have q11 := (gc_eq zc25); have q12 := (g_eq0 zx35.1); omega) (Nat.le_of_lt_succ hm12))
        · have p37 := gn_neL 1 1 (gc_ne zc25) pr21 (jv_k (x := 0) 0 (by decide)) (by decide)
          have zb38 : hb y4 x18 := g_hasy hr21 zc25
          have hk39 := hk24.trans (if_neg zc25)
          refine g_iconst cx 0 (by decide) e_X11_readsRow_51 ?_
          exact hret e_X11_readsRow_52 (Nat.le_of_ble_eq_true rfl) (Nat.le_of_ble_eq_true rfl) rfl ⟨F, R14, rfl, hI, oR14, wTR14, wCR14, (g_fr_rf F), fR14, (jv_w (jv_k (x := 0) 0 (by decide)) (by decide)), (rr_spec (hk39.symm.trans hSP)), (hk39.symm.trans hSP)⟩
  refine g_lsub [3, 2, 1, 0] [(0, .ref (ad 0)), (2, .int a0), (3, .int 0), (4, .int x1)] rfl ?_
  exact J12 8589934592 R a0 0 x1 hA (g_fr_rf R) hWT hWC pa0 (jv_w (jv_k (x := 0) 0 (by decide)) (by decide)) (jv_w zx1.2 (by decide)) hk2 (show (x1.toInt + 2147483648).toNat < 8589934592 from by have q0 := zx1.2.1; have q1 := zx1.2.2; omega)
