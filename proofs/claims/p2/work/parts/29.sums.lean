theorem cb_app : ∀ M L : List (Int × Nat), cb (M ++ L) = cb M + cb L
  | [], L => by simp [cb]
  | q :: M, L => by
    have h := cb_app M L
    show cb (M ++ L) + _ = cb M + _ + cb L
    omega
theorem cb_ops : ∀ {M : List (Int × Nat)}, (∀ q ∈ M, 2 ≤ q.1 ∧ q.1 ≤ 6) → cb M = (M.length : Int)
  | [], _ => rfl
  | q :: M, h => by
    have h1 := cb_ops (M := M) (fun p hp => h p (List.mem_cons_of_mem _ hp))
    have h2 := h q List.mem_cons_self
    simp only [cb, List.length_cons]
    rw [if_pos h2]
    omega
theorem sp_ops : ∀ {M' M L L1 : List (Int × Nat)}, M ++ L = M' ++ L1 → (∀ q ∈ M', 2 ≤ q.1 ∧ q.1 ≤ 6) → cb L = 0 → ∃ M2, M = M' ++ M2 ∧ L1 = M2 ++ L
  | [], M, _, _, h, _, _ => ⟨M, rfl, h.symm⟩
  | q :: M', [], L, L1, h, ho, hc => by
    have e : L = q :: (M' ++ L1) := h
    have h2 := ho q List.mem_cons_self
    have h3 := cg_0 (M' ++ L1)
    rw [e, cb, if_pos h2] at hc
    omega
  | q :: M', p :: M, L, L1, h, ho, hc => by
    have e := List.cons.inj (show p :: (M ++ L) = q :: (M' ++ L1) from h)
    obtain ⟨M2, e1, e2⟩ := sp_ops e.2 (fun x hx => ho x (List.mem_cons_of_mem _ hx)) hc
    exact ⟨M2, by rw [e.1, e1]; rfl, e2⟩
theorem PS_cs {F : Nat → Int32} {R : Nat → Nat → Int32} {A : Nat} {M M' M2 L : List (Int × Nat)} {h : Int} (eM : M = M' ++ M2) (hM : ∀ q ∈ M', 2 ≤ q.1 ∧ q.1 ≤ 6) (p : PS F R A (M2 ++ L) (h + cb M + 1 - M'.length)) : PS F R A (M2 ++ L) (h + cb M2 + 1) := by
  have e : cb M = (M'.length : Int) + cb M2 := by rw [eM, cb_app, cb_ops hM]
  rw [show h + cb M2 + 1 = h + cb M + 1 - (M'.length : Int) from by omega]
  exact p

theorem e_X11_sumSign_0 : g_dc cX11_sumSign 0 (.iload_n 0) 1 1 := ⟨by decide +kernel, rfl⟩
theorem e_X11_sumSign_1 : g_dc cX11_sumSign 1 (.bipush 43) 2 3 := ⟨by decide +kernel, rfl⟩
theorem e_X11_sumSign_3 : g_dc cX11_sumSign 3 (.if_icmp .ne 7) 3 6 := ⟨by decide +kernel, rfl⟩
theorem e_X11_sumSign_6 : g_dc cX11_sumSign 6 (.iconst 2) 1 7 := ⟨by decide +kernel, rfl⟩
theorem e_X11_sumSign_7 : g_dc cX11_sumSign 7 (.goto 45) 3 10 := ⟨by decide +kernel, rfl⟩
theorem e_X11_sumSign_10 : g_dc cX11_sumSign 10 (.iload_n 0) 1 11 := ⟨by decide +kernel, rfl⟩
theorem e_X11_sumSign_11 : g_dc cX11_sumSign 11 (.bipush 45) 2 13 := ⟨by decide +kernel, rfl⟩
theorem e_X11_sumSign_13 : g_dc cX11_sumSign 13 (.if_icmp .ne 7) 3 16 := ⟨by decide +kernel, rfl⟩
theorem e_X11_sumSign_16 : g_dc cX11_sumSign 16 (.iconst 3) 1 17 := ⟨by decide +kernel, rfl⟩
theorem e_X11_sumSign_17 : g_dc cX11_sumSign 17 (.goto 35) 3 20 := ⟨by decide +kernel, rfl⟩
theorem e_X11_sumSign_20 : g_dc cX11_sumSign 20 (.iload_n 0) 1 21 := ⟨by decide +kernel, rfl⟩
theorem e_X11_sumSign_21 : g_dc cX11_sumSign 21 (.bipush 42) 2 23 := ⟨by decide +kernel, rfl⟩
theorem e_X11_sumSign_23 : g_dc cX11_sumSign 23 (.if_icmp .ne 7) 3 26 := ⟨by decide +kernel, rfl⟩
theorem e_X11_sumSign_26 : g_dc cX11_sumSign 26 (.iconst 4) 1 27 := ⟨by decide +kernel, rfl⟩
theorem e_X11_sumSign_27 : g_dc cX11_sumSign 27 (.goto 25) 3 30 := ⟨by decide +kernel, rfl⟩
theorem e_X11_sumSign_30 : g_dc cX11_sumSign 30 (.iload_n 0) 1 31 := ⟨by decide +kernel, rfl⟩
theorem e_X11_sumSign_31 : g_dc cX11_sumSign 31 (.bipush 47) 2 33 := ⟨by decide +kernel, rfl⟩
theorem e_X11_sumSign_33 : g_dc cX11_sumSign 33 (.if_icmp .ne 7) 3 36 := ⟨by decide +kernel, rfl⟩
theorem e_X11_sumSign_36 : g_dc cX11_sumSign 36 (.iconst 5) 1 37 := ⟨by decide +kernel, rfl⟩
theorem e_X11_sumSign_37 : g_dc cX11_sumSign 37 (.goto 15) 3 40 := ⟨by decide +kernel, rfl⟩
theorem e_X11_sumSign_40 : g_dc cX11_sumSign 40 (.iload_n 0) 1 41 := ⟨by decide +kernel, rfl⟩
theorem e_X11_sumSign_41 : g_dc cX11_sumSign 41 (.bipush 37) 2 43 := ⟨by decide +kernel, rfl⟩
theorem e_X11_sumSign_43 : g_dc cX11_sumSign 43 (.if_icmp .ne 8) 3 46 := ⟨by decide +kernel, rfl⟩
theorem e_X11_sumSign_46 : g_dc cX11_sumSign 46 (.bipush 6) 2 48 := ⟨by decide +kernel, rfl⟩
theorem e_X11_sumSign_48 : g_dc cX11_sumSign 48 (.goto 4) 3 51 := ⟨by decide +kernel, rfl⟩
theorem e_X11_sumSign_51 : g_dc cX11_sumSign 51 (.iconst (-1)) 1 52 := ⟨by decide +kernel, rfl⟩
theorem e_X11_sumSign_52 : g_dc cX11_sumSign 52 (.ireturn) 1 53 := ⟨by decide +kernel, rfl⟩
set_option maxHeartbeats 4000000 in
set_option maxRecDepth 100000 in
theorem w_X11_sumSign (l : Launch) (X : gX) (ad : Nat → Nat) (F : Nat → Int32) (R : Nat → Nat → Int32) (hI : g_ok LK_wM F) (hA : g_okR LA_wM R) (a0 : Int32) : g_Ci l X yX11_sumSign cX11_sumSign 1 (some .int) 1 0 0 [.int a0] (wM X ad F R) (fun r w => w = wM X ad F R ∧ jv (-1) 6 r ∧ ((r.toInt = -1 ∨ 2 ≤ r.toInt ∧ r.toInt ≤ 6) ∧ (¬ r.toInt = -1 → 0 ≤ a0.toInt))) := by
  refine g_mi (by decide +kernel) (Nat.le_of_ble_eq_true rfl) (fun E cx hret => ?_)
  refine g_iload_n cx 0 rfl e_X11_sumSign_0 ?_
  refine g_bipush cx 43 (by decide) e_X11_sumSign_1 ?_
  refine g_icmp_ne cx 10 e_X11_sumSign_3 (by decide) (fun zc1 => ?_) (fun zc1 => ?_)
  · refine g_iload_n cx 0 rfl e_X11_sumSign_10 ?_
    refine g_bipush cx 45 (by decide) e_X11_sumSign_11 ?_
    refine g_icmp_ne cx 20 e_X11_sumSign_13 (by decide) (fun zc2 => ?_) (fun zc2 => ?_)
    · refine g_iload_n cx 0 rfl e_X11_sumSign_20 ?_
      refine g_bipush cx 42 (by decide) e_X11_sumSign_21 ?_
      refine g_icmp_ne cx 30 e_X11_sumSign_23 (by decide) (fun zc3 => ?_) (fun zc3 => ?_)
      · refine g_iload_n cx 0 rfl e_X11_sumSign_30 ?_
        refine g_bipush cx 47 (by decide) e_X11_sumSign_31 ?_
        refine g_icmp_ne cx 40 e_X11_sumSign_33 (by decide) (fun zc4 => ?_) (fun zc4 => ?_)
        · refine g_iload_n cx 0 rfl e_X11_sumSign_40 ?_
          refine g_bipush cx 37 (by decide) e_X11_sumSign_41 ?_
          refine g_icmp_ne cx 51 e_X11_sumSign_43 (by decide) (fun zc5 => ?_) (fun zc5 => ?_)
          · refine g_iconst cx (-1) (by decide) e_X11_sumSign_51 ?_
            exact hret e_X11_sumSign_52 (Nat.le_of_ble_eq_true rfl) (Nat.le_of_ble_eq_true rfl) rfl ⟨rfl, (jv_w (jv_k (x := (-1)) (-1) (by decide)) (by decide)), ⟨Or.inl (by decide), fun h0 => absurd (by decide) h0⟩⟩
          · have p6 := gn_eq 37 37 (gc_eq zc5) (jv_t a0) (jv_k (x := 37) 37 (by decide)) (by decide)
            refine g_bipush cx 6 (by decide) e_X11_sumSign_46 ?_
            refine g_goto cx 52 e_X11_sumSign_48 (by decide) ?_
            exact hret e_X11_sumSign_52 (Nat.le_of_ble_eq_true rfl) (Nat.le_of_ble_eq_true rfl) rfl ⟨rfl, (jv_w (jv_k (x := 6) 6 (by decide)) (by decide)), ⟨Or.inr (by decide), fun _ => by have q0 := (jv_k (x := 37) 37 (by decide)).1; have q1 := (jv_k (x := 37) 37 (by decide)).2; have q2 := (jv_k (x := 42) 42 (by decide)).1; have q3 := (jv_k (x := 42) 42 (by decide)).2; have q4 := (jv_k (x := 43) 43 (by decide)).1; have q5 := (jv_k (x := 43) 43 (by decide)).2; have q6 := (jv_k (x := 45) 45 (by decide)).1; have q7 := (jv_k (x := 45) 45 (by decide)).2; have q8 := (jv_k (x := 47) 47 (by decide)).1; have q9 := (jv_k (x := 47) 47 (by decide)).2; have q10 := p6.1; have q11 := p6.2; have q12 := (gc_ne zc1); have q13 := (gc_ne zc2); have q14 := (gc_ne zc3); have q15 := (gc_ne zc4); have q16 := (gc_eq zc5); omega⟩⟩
        · have p7 := gn_eq 47 47 (gc_eq zc4) (jv_t a0) (jv_k (x := 47) 47 (by decide)) (by decide)
          refine g_iconst cx 5 (by decide) e_X11_sumSign_36 ?_
          refine g_goto cx 52 e_X11_sumSign_37 (by decide) ?_
          exact hret e_X11_sumSign_52 (Nat.le_of_ble_eq_true rfl) (Nat.le_of_ble_eq_true rfl) rfl ⟨rfl, (jv_w (jv_k (x := 5) 5 (by decide)) (by decide)), ⟨Or.inr (by decide), fun _ => by have q0 := (jv_k (x := 42) 42 (by decide)).1; have q1 := (jv_k (x := 42) 42 (by decide)).2; have q2 := (jv_k (x := 43) 43 (by decide)).1; have q3 := (jv_k (x := 43) 43 (by decide)).2; have q4 := (jv_k (x := 45) 45 (by decide)).1; have q5 := (jv_k (x := 45) 45 (by decide)).2; have q6 := (jv_k (x := 47) 47 (by decide)).1; have q7 := (jv_k (x := 47) 47 (by decide)).2; have q8 := p7.1; have q9 := p7.2; have q10 := (gc_ne zc1); have q11 := (gc_ne zc2); have q12 := (gc_ne zc3); have q13 := (gc_eq zc4); omega⟩⟩
      · have p8 := gn_eq 42 42 (gc_eq zc3) (jv_t a0) (jv_k (x := 42) 42 (by decide)) (by decide)
        refine g_iconst cx 4 (by decide) e_X11_sumSign_26 ?_
        refine g_goto cx 52 e_X11_sumSign_27 (by decide) ?_
        exact hret e_X11_sumSign_52 (Nat.le_of_ble_eq_true rfl) (Nat.le_of_ble_eq_true rfl) rfl ⟨rfl, (jv_w (jv_k (x := 4) 4 (by decide)) (by decide)), ⟨Or.inr (by decide), fun _ => by have q0 := (jv_k (x := 42) 42 (by decide)).1; have q1 := (jv_k (x := 42) 42 (by decide)).2; have q2 := (jv_k (x := 43) 43 (by decide)).1; have q3 := (jv_k (x := 43) 43 (by decide)).2; have q4 := (jv_k (x := 45) 45 (by decide)).1; have q5 := (jv_k (x := 45) 45 (by decide)).2; have q6 := p8.1; have q7 := p8.2; have q8 := (gc_ne zc1); have q9 := (gc_ne zc2); have q10 := (gc_eq zc3); omega⟩⟩
    · have p9 := gn_eq 45 45 (gc_eq zc2) (jv_t a0) (jv_k (x := 45) 45 (by decide)) (by decide)
      refine g_iconst cx 3 (by decide) e_X11_sumSign_16 ?_
      refine g_goto cx 52 e_X11_sumSign_17 (by decide) ?_
      exact hret e_X11_sumSign_52 (Nat.le_of_ble_eq_true rfl) (Nat.le_of_ble_eq_true rfl) rfl ⟨rfl, (jv_w (jv_k (x := 3) 3 (by decide)) (by decide)), ⟨Or.inr (by decide), fun _ => by have q0 := (jv_k (x := 43) 43 (by decide)).1; have q1 := (jv_k (x := 43) 43 (by decide)).2; have q2 := (jv_k (x := 45) 45 (by decide)).1; have q3 := (jv_k (x := 45) 45 (by decide)).2; have q4 := p9.1; have q5 := p9.2; have q6 := (gc_ne zc1); have q7 := (gc_eq zc2); omega⟩⟩
  · have p10 := gn_eq 43 43 (gc_eq zc1) (jv_t a0) (jv_k (x := 43) 43 (by decide)) (by decide)
    refine g_iconst cx 2 (by decide) e_X11_sumSign_6 ?_
    refine g_goto cx 52 e_X11_sumSign_7 (by decide) ?_
    exact hret e_X11_sumSign_52 (Nat.le_of_ble_eq_true rfl) (Nat.le_of_ble_eq_true rfl) rfl ⟨rfl, (jv_w (jv_k (x := 2) 2 (by decide)) (by decide)), ⟨Or.inr (by decide), fun _ => by have q0 := (jv_k (x := 43) 43 (by decide)).1; have q1 := (jv_k (x := 43) 43 (by decide)).2; have q2 := p10.1; have q3 := p10.2; have q4 := (gc_eq zc1); omega⟩⟩
