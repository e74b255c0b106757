theorem cb_app : ∀ M L : List (Int × Nat), cb (M ++ L) = cb M + cb L
  | [], L => by simp [cb]
  | q :: M, L => by
    have h := cb_app M L
    show cb (M ++ L) + _ = cb M + _ + cb L
    omega
theorem cb_ops : ∀ {M : List (Int × Nat)}, (∀ q ∈ M, 2 ≤ q.1 ∧ q.1 ≤ 6) → cb M = (M.length : Int)
  | [], _ => rfl
  | q :: M, h => by
    have h1 := cb_ops (M := M) (fun p hp => h p (List.mem_cons_of_mem _ hp))
    have h2 := h q List.mem_cons_self
    simp only [cb, List.length_cons]
    rw [if_pos h2]
    omega
theorem sp_ops : ∀ {M' M L L1 : List (Int × Nat)}, M ++ L = M' ++ L1 → (∀ q ∈ M', 2 ≤ q.1 ∧ q.1 ≤ 6) → cb L = 0 → ∃ M2, M = M' ++ M2 ∧ L1 = M2 ++ L
  | [], M, _, _, h, _, _ => ⟨M, rfl, h.symm⟩
  | q :: M', [], L, L1, h, ho, hc => by
    have e : L = q :: (M' ++ L1) := h
    have h2 := ho q List.mem_cons_self
    have h3 := cg_0 (M' ++ L1)
    rw [e, cb, if_pos h2] at hc
    omega
  | q :: M', p :: M, L, L1, h, ho, hc => by
    have e := List.cons.inj (show p :: (M ++ L) = q :: (M' ++ L1) from h)
    obtain ⟨M2, e1, e2⟩ := sp_ops e.2 (fun x hx => ho x (List.mem_cons_of_mem _ hx)) hc
    exact ⟨M2, by rw [e.1, e1]; rfl, e2⟩
theorem PS_cs {F : Nat → Int32} {R : Nat → Nat → Int32} {A : Nat × Nat} {M M' M2 L : List (Int × Nat)} {h : Int} (eM : M = M' ++ M2) (hM : ∀ q ∈ M', 2 ≤ q.1 ∧ q.1 ≤ 6) (p : PS F R A (M2 ++ L) (h + cb M + 1 - M'.length)) : PS F R A (M2 ++ L) (h + cb M2 + 1) := by
  have e : cb M = (M'.length : Int) + cb M2 := by rw [eM, cb_app, cb_ops hM]
  rw [show h + cb M2 + 1 = h + cb M + 1 - (M'.length : Int) from by omega]
  exact p
/-- what a reader leaves alone: all that was said before; its place goes on -/
def FK (F : Nat → Int32) (R : Nat → Nat → Int32) (F' : Nat → Int32) (R' : Nat → Nat → Int32) : Prop := (∀ k, k < (F 25).toInt.toNat → R' 12 k = R 12 k) ∧ (F 25).toInt ≤ (F' 25).toInt ∧ (F 15).toInt ≤ (F' 15).toInt
theorem FK_rf (F : Nat → Int32) (R : Nat → Nat → Int32) : FK F R F R := ⟨fun _ _ => rfl, Int.le_refl _, Int.le_refl _⟩
theorem FK_tr {F F1 F2 : Nat → Int32} {R R1 R2 : Nat → Nat → Int32} (h : FK F R F1 R1) (h2 : FK F1 R1 F2 R2) : FK F R F2 R2 :=
  ⟨fun k hk => (h2.1 k (by have := h.2.1; omega)).trans (h.1 k hk), Int.le_trans h.2.1 h2.2.1, Int.le_trans h.2.2 h2.2.2⟩
theorem FK_e {F F1 F2 : Nat → Int32} {R R1 R2 : Nat → Nat → Int32} (h : FK F R F1 R1) (e25 : F2 25 = F1 25) (e15 : (F1 15).toInt ≤ (F2 15).toInt) (e12 : R2 12 = R1 12) : FK F R F2 R2 :=
  FK_tr h ⟨fun k _ => by rw [e12], by rw [e25]; exact Int.le_refl _, e15⟩
theorem cb_14n {K : List (Int × Nat)} (h : ∀ q ∈ K, q.1 = 14) : cb K = 0 := by
  have e := cb_14 (K := K) [] h
  rw [List.append_nil] at e
  exact e
theorem rs_first {F : Nat → Int32} {R : Nat → Nat → Int32} {A : Nat × Nat} {K L : List (Int × Nat)} {h : Int} (hK : ∀ q ∈ K, q.1 = 14) (p : PS F R A (K ++ L) (h + 1)) : ∃ M : List (Int × Nat), (∀ q ∈ M, 2 ≤ q.1 ∧ q.1 ≤ 6 ∨ q.1 = 14) ∧ PS F R A (M ++ L) (h + cb M + 1) :=
  ⟨K, fun q hq => Or.inr (hK q hq), by rw [show h + cb K + 1 = h + 1 from by have := cb_14n hK; omega]; exact p⟩
theorem rs_sign {F : Nat → Int32} {R : Nat → Nat → Int32} {A : Nat × Nat} {K N L : List (Int × Nat)} {h s : Int} (hs : 2 ≤ s ∧ s ≤ 6) (hN : ∀ q ∈ N, 2 ≤ q.1 ∧ q.1 ≤ 6 ∨ q.1 = 14) (hK : ∀ q ∈ K, q.1 = 14) (p : PS F R A (K ++ ((s, 0) :: (N ++ L))) (h + cb N + 1 + 1)) : ∃ M : List (Int × Nat), (∀ q ∈ M, 2 ≤ q.1 ∧ q.1 ≤ 6 ∨ q.1 = 14) ∧ PS F R A (M ++ L) (h + cb M + 1) := by
  refine ⟨K ++ ((s, 0) :: N), fun q hq => ?_, ?_⟩
  · rcases List.mem_append.mp hq with q1 | q1
    · exact Or.inr (hK q q1)
    · rcases List.mem_cons.mp q1 with q1 | q1
      · rw [q1]; exact Or.inl hs
      · exact hN q q1
  · have e : cb (K ++ ((s, 0) :: N)) = cb N + 1 := by
      rw [cb_14 _ hK]
      simp only [cb]
      rw [if_pos hs]
    rw [show h + cb (K ++ ((s, 0) :: N)) + 1 = h + cb N + 1 + 1 from by omega, List.append_assoc]
    exact p
theorem sp_14 {M M' N L : List (Int × Nat)} (eM : M = M' ++ N) (hM' : ∀ q ∈ M', 2 ≤ q.1 ∧ q.1 ≤ 6) (hM : ∀ q ∈ M, 2 ≤ q.1 ∧ q.1 ≤ 6 ∨ q.1 = 14) (hq : ∃ q ∈ M, q.1 = 14) (ht : tp (N ++ L) < 2 ∨ 6 < tp (N ++ L)) : ∃ (r : Nat) (N2 : List (Int × Nat)), N = (14, r) :: N2 := by
  obtain ⟨q, q1, q2⟩ := hq
  rw [eM] at q1
  rcases List.mem_append.mp q1 with q3 | q3
  · have := hM' q q3
    omega
  · cases N with
    | nil => exact absurd q3 List.not_mem_nil
    | cons p N2 =>
      have h1 := hM p (by rw [eM]; exact List.mem_append_right _ List.mem_cons_self)
      have h2 : tp (p :: N2 ++ L) = p.1 := rfl
      obtain ⟨o, r⟩ := p
      simp only at h1 h2
      have h3 : o = 14 := by omega
      exact ⟨r, N2, by rw [h3]⟩
theorem sp_0 {M M' N L : List (Int × Nat)} (eM : M = M' ++ N) (hM : ∀ q ∈ M, 2 ≤ q.1 ∧ q.1 ≤ 6 ∨ q.1 = 14) (hq : ∀ q ∈ M, q.1 ≠ 14) (ht : tp (N ++ L) < 2 ∨ 6 < tp (N ++ L)) : N = [] := by
  cases N with
  | nil => rfl
  | cons p N2 =>
    have h0 : p ∈ M := by rw [eM]; exact List.mem_append_right _ List.mem_cons_self
    have h1 := hM p h0
    have h3 := hq p h0
    have h2 : tp (p :: N2 ++ L) = p.1 := rfl
    omega
theorem rs_end {F : Nat → Int32} {R : Nat → Nat → Int32} {A : Nat × Nat} {N L : List (Int × Nat)} {h : Int} (e : N = []) (p : PS F R A (N ++ L) (h + cb N + 1)) : PS F R A L (h + 1) := by
  subst e
  have e : h + cb [] + 1 = h + 1 := by simp [cb]
  rw [e] at p
  exact p
theorem rs_pop {F F' : Nat → Int32} {R R' : Nat → Nat → Int32} {A : Nat × Nat} {N L : List (Int × Nat)} {h : Int} {r : Nat} (p : PS F R A (((14, r) :: N) ++ L) (h + cb ((14, r) :: N) + 1)) (e25 : F' 25 = F 25) (e26 : (F' 26).toInt = (F 26).toInt - 1) (e15 : (F 15).toInt ≤ (F' 15).toInt) (e12 : R' 12 = R 12) (e13 : R' 13 = R 13) : PS F' R' A (N ++ L) (h + cb N + 1) := by
  have e : cb ((14, r) :: N) = cb N := by simp [cb]
  rw [e] at p
  exact PS_pop (o := 14) (r := r) p (by omega) e25 e26 e15 e12 e13

theorem e_X11_sumSign_0 : g_dc cX11_sumSign 0 (.iload_n 0) 1 1 := ⟨by decide +kernel, rfl⟩
theorem e_X11_sumSign_1 : g_dc cX11_sumSign 1 (.bipush 43) 2 3 := ⟨by decide +kernel, rfl⟩
theorem e_X11_sumSign_3 : g_dc cX11_sumSign 3 (.if_icmp .ne 7) 3 6 := ⟨by decide +kernel, rfl⟩
theorem e_X11_sumSign_6 : g_dc cX11_sumSign 6 (.iconst 2) 1 7 := ⟨by decide +kernel, rfl⟩
theorem e_X11_sumSign_7 : g_dc cX11_sumSign 7 (.goto 45) 3 10 := ⟨by decide +kernel, rfl⟩
theorem e_X11_sumSign_10 : g_dc cX11_sumSign 10 (.iload_n 0) 1 11 := ⟨by decide +kernel, rfl⟩
theorem e_X11_sumSign_11 : g_dc cX11_sumSign 11 (.bipush 45) 2 13 := ⟨by decide +kernel, rfl⟩
theorem e_X11_sumSign_13 : g_dc cX11_sumSign 13 (.if_icmp .ne 7) 3 16 := ⟨by decide +kernel, rfl⟩
theorem e_X11_sumSign_16 : g_dc cX11_sumSign 16 (.iconst 3) 1 17 := ⟨by decide +kernel, rfl⟩
theorem e_X11_sumSign_17 : g_dc cX11_sumSign 17 (.goto 35) 3 20 := ⟨by decide +kernel, rfl⟩
theorem e_X11_sumSign_20 : g_dc cX11_sumSign 20 (.iload_n 0) 1 21 := ⟨by decide +kernel, rfl⟩
theorem e_X11_sumSign_21 : g_dc cX11_sumSign 21 (.bipush 42) 2 23 := ⟨by decide +kernel, rfl⟩
theorem e_X11_sumSign_23 : g_dc cX11_sumSign 23 (.if_icmp .ne 7) 3 26 := ⟨by decide +kernel, rfl⟩
theorem e_X11_sumSign_26 : g_dc cX11_sumSign 26 (.iconst 4) 1 27 := ⟨by decide +kernel, rfl⟩
theorem e_X11_sumSign_27 : g_dc cX11_sumSign 27 (.goto 25) 3 30 := ⟨by decide +kernel, rfl⟩
theorem e_X11_sumSign_30 : g_dc cX11_sumSign 30 (.iload_n 0) 1 31 := ⟨by decide +kernel, rfl⟩
theorem e_X11_sumSign_31 : g_dc cX11_sumSign 31 (.bipush 47) 2 33 := ⟨by decide +kernel, rfl⟩
theorem e_X11_sumSign_33 : g_dc cX11_sumSign 33 (.if_icmp .ne 7) 3 36 := ⟨by decide +kernel, rfl⟩
theorem e_X11_sumSign_36 : g_dc cX11_sumSign 36 (.iconst 5) 1 37 := ⟨by decide +kernel, rfl⟩
theorem e_X11_sumSign_37 : g_dc cX11_sumSign 37 (.goto 15) 3 40 := ⟨by decide +kernel, rfl⟩
theorem e_X11_sumSign_40 : g_dc cX11_sumSign 40 (.iload_n 0) 1 41 := ⟨by decide +kernel, rfl⟩
theorem e_X11_sumSign_41 : g_dc cX11_sumSign 41 (.bipush 37) 2 43 := ⟨by decide +kernel, rfl⟩
theorem e_X11_sumSign_43 : g_dc cX11_sumSign 43 (.if_icmp .ne 8) 3 46 := ⟨by decide +kernel, rfl⟩
theorem e_X11_sumSign_46 : g_dc cX11_sumSign 46 (.bipush 6) 2 48 := ⟨by decide +kernel, rfl⟩
theorem e_X11_sumSign_48 : g_dc cX11_sumSign 48 (.goto 4) 3 51 := ⟨by decide +kernel, rfl⟩
theorem e_X11_sumSign_51 : g_dc cX11_sumSign 51 (.iconst (-1)) 1 52 := ⟨by decide +kernel, rfl⟩
theorem e_X11_sumSign_52 : g_dc cX11_sumSign 52 (.ireturn) 1 53 := ⟨by decide +kernel, rfl⟩
set_option maxHeartbeats 4000000 in
set_option maxRecDepth 100000 in
theorem w_X11_sumSign (l : Launch) (X : gX) (ad : Nat → Nat) (F : Nat → Int32) (R : Nat → Nat → Int32) (hI : g_ok LK_wM F) (hA : g_okR LA_wM R) (a0 : Int32) : g_Ci l X yX11_sumSign cX11_sumSign 1 (some .int) 1 0 0 [.int a0] (wM X ad F R) (fun r w => w = wM X ad F R ∧ jv (-1) 6 r ∧ ((r.toInt = -1 ∨ 2 ≤ r.toInt ∧ r.toInt ≤ 6) ∧ (¬ r.toInt = -1 → 0 ≤ a0.toInt))) := by
  refine g_mi (by decide +kernel) (Nat.le_of_ble_eq_true rfl) (fun E cx hret => ?_)
  refine g_iload_n cx 0 rfl e_X11_sumSign_0 ?_
  refine g_bipush cx 43 (by decide) e_X11_sumSign_1 ?_
  refine g_icmp_ne cx 10 e_X11_sumSign_3 (by decide) (fun zc1 => ?_) (fun zc1 => ?_)
  · refine g_iload_n cx 0 rfl e_X11_sumSign_10 ?_
    refine g_bipush cx 45 (by decide) e_X11_sumSign_11 ?_
    refine g_icmp_ne cx 20 e_X11_sumSign_13 (by decide) (fun zc2 => ?_) (fun zc2 => ?_)
    · refine g_iload_n cx 0 rfl e_X11_sumSign_20 ?_
      refine g_bipush cx 42 (by decide) e_X11_sumSign_21 ?_
      refine g_icmp_ne cx 30 e_X11_sumSign_23 (by decide) (fun zc3 => ?_) (fun zc3 => ?_)
      · refine g_iload_n cx 0 rfl e_X11_sumSign_30 ?_
        refine g_bipush cx 47 (by decide) e_X11_sumSign_31 ?_
        refine g_icmp_ne cx 40 e_X11_sumSign_33 (by decide) (fun zc4 => ?_) (fun zc4 => ?_)
        · refine g_iload_n cx 0 rfl e_X11_sumSign_40 ?_
          refine g_bipush cx 37 (by decide) e_X11_sumSign_41 ?_
          refine g_icmp_ne cx 51 e_X11_sumSign_43 (by decide) (fun zc5 => ?_) (fun zc5 => ?_)
          · refine g_iconst cx (-1) (by decide) e_X11_sumSign_51 ?_
            exact hret e_X11_sumSign_52 (Nat.le_of_ble_eq_true rfl) (Nat.le_of_ble_eq_true rfl) rfl ⟨rfl, (jv_w (jv_k (x := (-1)) (-1) (by decide)) (by decide)), ⟨Or.inl (by decide), fun h0 => absurd (by decide) h0⟩⟩
          · have p6 := gn_eq 37 37 (gc_eq zc5) (jv_t a0) (jv_k (x := 37) 37 (by decide)) (by decide)
            refine g_bipush cx 6 (by decide) e_X11_sumSign_46 ?_
            refine g_goto cx 52 e_X11_sumSign_48 (by decide) ?_
            exact hret e_X11_sumSign_52 (Nat.le_of_ble_eq_true rfl) (Nat.le_of_ble_eq_true rfl) rfl ⟨rfl, (jv_w (jv_k (x := 6) 6 (by decide)) (by decide)), ⟨Or.inr (by decide), fun _ => by have q0 := (jv_k (x := 37) 37 (by decide)).1; have q1 := (jv_k (x := 37) 37 (by decide)).2; have q2 := (jv_k (x := 42) 42 (by decide)).1; have q3 := (jv_k (x := 42) 42 (by decide)).2; have q4 := (jv_k (x := 43) 43 (by decide)).1; have q5 := (jv_k (x := 43) 43 (by decide)).2; have q6 := (jv_k (x := 45) 45 (by decide)).1; have q7 := (jv_k (x := 45) 45 (by decide)).2; have q8 := (jv_k (x := 47) 47 (by decide)).1; have q9 := (jv_k (x := 47) 47 (by decide)).2; have q10 := p6.1; have q11 := p6.2; have q12 := (gc_ne zc1); have q13 := (gc_ne zc2); have q14 := (gc_ne zc3); have q15 := (gc_ne zc4); have q16 := (gc_eq zc5); omega⟩⟩
        · have p7 := gn_eq 47 47 (gc_eq zc4) (jv_t a0) (jv_k (x := 47) 47 (by decide)) (by decide)
          refine g_iconst cx 5 (by decide) e_X11_sumSign_36 ?_
          refine g_goto cx 52 e_X11_sumSign_37 (by decide) ?_
          exact hret e_X11_sumSign_52 (Nat.le_of_ble_eq_true rfl) (Nat.le_of_ble_eq_true rfl) rfl ⟨rfl, (jv_w (jv_k (x := 5) 5 (by decide)) (by decide)), ⟨Or.inr (by decide), fun _ => by have q0 := (jv_k (x := 42) 42 (by decide)).1; have q1 := (jv_k (x := 42) 42 (by decide)).2; have q2 := (jv_k (x := 43) 43 (by decide)).1; have q3 := (jv_k (x := 43) 43 (by decide)).2; have q4 := (jv_k (x := 45) 45 (by decide)).1; have q5 := (jv_k (x := 45) 45 (by decide)).2; have q6 := (jv_k (x := 47) 47 (by decide)).1; have q7 := (jv_k (x := 47) 47 (by decide)).2; have q8 := p7.1; have q9 := p7.2; have q10 := (gc_ne zc1); have q11 := (gc_ne zc2); have q12 := (gc_ne zc3); have q13 := (gc_eq zc4); omega⟩⟩
      · have p8 := gn_eq 42 42 (gc_eq zc3) (jv_t a0) (jv_k (x := 42) 42 (by decide)) (by decide)
        refine g_iconst cx 4 (by decide) e_X11_sumSign_26 ?_
        refine g_goto cx 52 e_X11_sumSign_27 (by decide) ?_
        exact hret e_X11_sumSign_52 (Nat.le_of_ble_eq_true rfl) (Nat.le_of_ble_eq_true rfl) rfl ⟨rfl, (jv_w (jv_k (x := 4) 4 (by decide)) (by decide)), ⟨Or.inr (by decide), fun _ => by have q0 := (jv_k (x := 42) 42 (by decide)).1; have q1 := (jv_k (x := 42) 42 (by decide)).2; have q2 := (jv_k (x := 43) 43 (by decide)).1; have q3 := (jv_k (x := 43) 43 (by decide)).2; have q4 := (jv_k (x := 45) 45 (by decide)).1; have q5 := (jv_k (x := 45) 45 (by decide)).2; have q6 := p8.1; have q7 := p8.2; have q8 := (gc_ne zc1); have q9 := (gc_ne zc2); have q10 := (gc_eq zc3); omega⟩⟩
    · have p9 := gn_eq 45 45 (gc_eq zc2) (jv_t a0) (jv_k (x := 45) 45 (by decide)) (by decide)
      refine g_iconst cx 3 (by decide) e_X11_sumSign_16 ?_
      refine g_goto cx 52 e_X11_sumSign_17 (by decide) ?_
      exact hret e_X11_sumSign_52 (Nat.le_of_ble_eq_true rfl) (Nat.le_of_ble_eq_true rfl) rfl ⟨rfl, (jv_w (jv_k (x := 3) 3 (by decide)) (by decide)), ⟨Or.inr (by decide), fun _ => by have q0 := (jv_k (x := 43) 43 (by decide)).1; have q1 := (jv_k (x := 43) 43 (by decide)).2; have q2 := (jv_k (x := 45) 45 (by decide)).1; have q3 := (jv_k (x := 45) 45 (by decide)).2; have q4 := p9.1; have q5 := p9.2; have q6 := (gc_ne zc1); have q7 := (gc_eq zc2); omega⟩⟩
  · have p10 := gn_eq 43 43 (gc_eq zc1) (jv_t a0) (jv_k (x := 43) 43 (by decide)) (by decide)
    refine g_iconst cx 2 (by decide) e_X11_sumSign_6 ?_
    refine g_goto cx 52 e_X11_sumSign_7 (by decide) ?_
    exact hret e_X11_sumSign_52 (Nat.le_of_ble_eq_true rfl) (Nat.le_of_ble_eq_true rfl) rfl ⟨rfl, (jv_w (jv_k (x := 2) 2 (by decide)) (by decide)), ⟨Or.inr (by decide), fun _ => by have q0 := (jv_k (x := 43) 43 (by decide)).1; have q1 := (jv_k (x := 43) 43 (by decide)).2; have q2 := p10.1; have q3 := p10.2; have q4 := (gc_eq zc1); omega⟩⟩
theorem e_X11_readsSum_0 : g_dc cX11_readsSum 0 (.aload_n 0) 1 1 := ⟨by decide +kernel, rfl⟩
theorem e_X11_readsSum_1 : g_dc cX11_readsSum 1 (.getfield 238) 3 4 := ⟨by decide +kernel, rfl⟩
theorem e_X11_readsSum_4 : g_dc cX11_readsSum 4 (.istore_n 1) 1 5 := ⟨by decide +kernel, rfl⟩
theorem e_X11_readsSum_5 : g_dc cX11_readsSum 5 (.aload_n 0) 1 6 := ⟨by decide +kernel, rfl⟩
theorem e_X11_readsSum_6 : g_dc cX11_readsSum 6 (.invokevirtual 258) 3 9 := ⟨by decide +kernel, rfl⟩
theorem e_X11_readsSum_9 : g_dc cX11_readsSum 9 (.ifCond .ne 5) 3 12 := ⟨by decide +kernel, rfl⟩
theorem e_X11_readsSum_12 : g_dc cX11_readsSum 12 (.iconst 0) 1 13 := ⟨by decide +kernel, rfl⟩
theorem e_X11_readsSum_13 : g_dc cX11_readsSum 13 (.ireturn) 1 14 := ⟨by decide +kernel, rfl⟩
theorem e_X11_readsSum_14 : g_dc cX11_readsSum 14 (.aload_n 0) 1 15 := ⟨by decide +kernel, rfl⟩
theorem e_X11_readsSum_15 : g_dc cX11_readsSum 15 (.invokevirtual 200) 3 18 := ⟨by decide +kernel, rfl⟩
theorem e_X11_readsSum_18 : g_dc cX11_readsSum 18 (.invokestatic 261) 3 21 := ⟨by decide +kernel, rfl⟩
theorem e_X11_readsSum_21 : g_dc cX11_readsSum 21 (.istore_n 2) 1 22 := ⟨by decide +kernel, rfl⟩
theorem e_X11_readsSum_22 : g_dc cX11_readsSum 22 (.iload_n 2) 1 23 := ⟨by decide +kernel, rfl⟩
theorem e_X11_readsSum_23 : g_dc cX11_readsSum 23 (.iconst (-1)) 1 24 := ⟨by decide +kernel, rfl⟩
theorem e_X11_readsSum_24 : g_dc cX11_readsSum 24 (.if_icmp .eq 59) 3 27 := ⟨by decide +kernel, rfl⟩
theorem e_X11_readsSum_27 : g_dc cX11_readsSum 27 (.aload_n 0) 1 28 := ⟨by decide +kernel, rfl⟩
theorem e_X11_readsSum_28 : g_dc cX11_readsSum 28 (.iload_n 2) 1 29 := ⟨by decide +kernel, rfl⟩
theorem e_X11_readsSum_29 : g_dc cX11_readsSum 29 (.iconst 4) 1 30 := ⟨by decide +kernel, rfl⟩
theorem e_X11_readsSum_30 : g_dc cX11_readsSum 30 (.if_icmp .ge 7) 3 33 := ⟨by decide +kernel, rfl⟩
theorem e_X11_readsSum_33 : g_dc cX11_readsSum 33 (.iconst 1) 1 34 := ⟨by decide +kernel, rfl⟩
theorem e_X11_readsSum_34 : g_dc cX11_readsSum 34 (.goto 4) 3 37 := ⟨by decide +kernel, rfl⟩
theorem e_X11_readsSum_37 : g_dc cX11_readsSum 37 (.iconst 0) 1 38 := ⟨by decide +kernel, rfl⟩
theorem e_X11_readsSum_38 : g_dc cX11_readsSum 38 (.invokevirtual 264) 3 41 := ⟨by decide +kernel, rfl⟩
theorem e_X11_readsSum_41 : g_dc cX11_readsSum 41 (.aload_n 0) 1 42 := ⟨by decide +kernel, rfl⟩
theorem e_X11_readsSum_42 : g_dc cX11_readsSum 42 (.getfield 47) 3 45 := ⟨by decide +kernel, rfl⟩
theorem e_X11_readsSum_45 : g_dc cX11_readsSum 45 (.aload_n 0) 1 46 := ⟨by decide +kernel, rfl⟩
theorem e_X11_readsSum_46 : g_dc cX11_readsSum 46 (.getfield 238) 3 49 := ⟨by decide +kernel, rfl⟩
theorem e_X11_readsSum_49 : g_dc cX11_readsSum 49 (.ldc 234) 2 51 := ⟨by decide +kernel, rfl⟩
theorem e_X11_readsSum_51 : g_dc cX11_readsSum 51 (.iload_n 2) 1 52 := ⟨by decide +kernel, rfl⟩
theorem e_X11_readsSum_52 : g_dc cX11_readsSum 52 (.imul) 1 53 := ⟨by decide +kernel, rfl⟩
theorem e_X11_readsSum_53 : g_dc cX11_readsSum 53 (.iastore) 1 54 := ⟨by decide +kernel, rfl⟩
theorem e_X11_readsSum_54 : g_dc cX11_readsSum 54 (.aload_n 0) 1 55 := ⟨by decide +kernel, rfl⟩
theorem e_X11_readsSum_55 : g_dc cX11_readsSum 55 (.aload_n 0) 1 56 := ⟨by decide +kernel, rfl⟩
theorem e_X11_readsSum_56 : g_dc cX11_readsSum 56 (.getfield 238) 3 59 := ⟨by decide +kernel, rfl⟩
theorem e_X11_readsSum_59 : g_dc cX11_readsSum 59 (.iconst 1) 1 60 := ⟨by decide +kernel, rfl⟩
theorem e_X11_readsSum_60 : g_dc cX11_readsSum 60 (.iadd) 1 61 := ⟨by decide +kernel, rfl⟩
theorem e_X11_readsSum_61 : g_dc cX11_readsSum 61 (.putfield 238) 3 64 := ⟨by decide +kernel, rfl⟩
theorem e_X11_readsSum_64 : g_dc cX11_readsSum 64 (.aload_n 0) 1 65 := ⟨by decide +kernel, rfl⟩
theorem e_X11_readsSum_65 : g_dc cX11_readsSum 65 (.aload_n 0) 1 66 := ⟨by decide +kernel, rfl⟩
theorem e_X11_readsSum_66 : g_dc cX11_readsSum 66 (.getfield 190) 3 69 := ⟨by decide +kernel, rfl⟩
theorem e_X11_readsSum_69 : g_dc cX11_readsSum 69 (.iconst 1) 1 70 := ⟨by decide +kernel, rfl⟩
theorem e_X11_readsSum_70 : g_dc cX11_readsSum 70 (.iadd) 1 71 := ⟨by decide +kernel, rfl⟩
theorem e_X11_readsSum_71 : g_dc cX11_readsSum 71 (.putfield 190) 3 74 := ⟨by decide +kernel, rfl⟩
theorem e_X11_readsSum_74 : g_dc cX11_readsSum 74 (.aload_n 0) 1 75 := ⟨by decide +kernel, rfl⟩
theorem e_X11_readsSum_75 : g_dc cX11_readsSum 75 (.invokevirtual 258) 3 78 := ⟨by decide +kernel, rfl⟩
theorem e_X11_readsSum_78 : g_dc cX11_readsSum 78 (.ifCond .ne 85) 3 81 := ⟨by decide +kernel, rfl⟩
theorem e_X11_readsSum_81 : g_dc cX11_readsSum 81 (.iconst 0) 1 82 := ⟨by decide +kernel, rfl⟩
theorem e_X11_readsSum_82 : g_dc cX11_readsSum 82 (.ireturn) 1 83 := ⟨by decide +kernel, rfl⟩
theorem e_X11_readsSum_83 : g_dc cX11_readsSum 83 (.aload_n 0) 1 84 := ⟨by decide +kernel, rfl⟩
theorem e_X11_readsSum_84 : g_dc cX11_readsSum 84 (.invokevirtual 200) 3 87 := ⟨by decide +kernel, rfl⟩
theorem e_X11_readsSum_87 : g_dc cX11_readsSum 87 (.bipush 93) 2 89 := ⟨by decide +kernel, rfl⟩
theorem e_X11_readsSum_89 : g_dc cX11_readsSum 89 (.if_icmp .ne 49) 3 92 := ⟨by decide +kernel, rfl⟩
theorem e_X11_readsSum_92 : g_dc cX11_readsSum 92 (.aload_n 0) 1 93 := ⟨by decide +kernel, rfl⟩
theorem e_X11_readsSum_93 : g_dc cX11_readsSum 93 (.iload_n 1) 1 94 := ⟨by decide +kernel, rfl⟩
theorem e_X11_readsSum_94 : g_dc cX11_readsSum 94 (.invokevirtual 268) 3 97 := ⟨by decide +kernel, rfl⟩
theorem e_X11_readsSum_97 : g_dc cX11_readsSum 97 (.ifCond .eq 41) 3 100 := ⟨by decide +kernel, rfl⟩
theorem e_X11_readsSum_100 : g_dc cX11_readsSum 100 (.aload_n 0) 1 101 := ⟨by decide +kernel, rfl⟩
theorem e_X11_readsSum_101 : g_dc cX11_readsSum 101 (.iconst 1) 1 102 := ⟨by decide +kernel, rfl⟩
theorem e_X11_readsSum_102 : g_dc cX11_readsSum 102 (.invokevirtual 264) 3 105 := ⟨by decide +kernel, rfl⟩
theorem e_X11_readsSum_105 : g_dc cX11_readsSum 105 (.aload_n 0) 1 106 := ⟨by decide +kernel, rfl⟩
theorem e_X11_readsSum_106 : g_dc cX11_readsSum 106 (.aload_n 0) 1 107 := ⟨by decide +kernel, rfl⟩
theorem e_X11_readsSum_107 : g_dc cX11_readsSum 107 (.getfield 238) 3 110 := ⟨by decide +kernel, rfl⟩
theorem e_X11_readsSum_110 : g_dc cX11_readsSum 110 (.iconst 1) 1 111 := ⟨by decide +kernel, rfl⟩
theorem e_X11_readsSum_111 : g_dc cX11_readsSum 111 (.isub) 1 112 := ⟨by decide +kernel, rfl⟩
theorem e_X11_readsSum_112 : g_dc cX11_readsSum 112 (.putfield 238) 3 115 := ⟨by decide +kernel, rfl⟩
theorem e_X11_readsSum_115 : g_dc cX11_readsSum 115 (.aload_n 0) 1 116 := ⟨by decide +kernel, rfl⟩
theorem e_X11_readsSum_116 : g_dc cX11_readsSum 116 (.aload_n 0) 1 117 := ⟨by decide +kernel, rfl⟩
theorem e_X11_readsSum_117 : g_dc cX11_readsSum 117 (.getfield 235) 3 120 := ⟨by decide +kernel, rfl⟩
theorem e_X11_readsSum_120 : g_dc cX11_readsSum 120 (.iconst 1) 1 121 := ⟨by decide +kernel, rfl⟩
theorem e_X11_readsSum_121 : g_dc cX11_readsSum 121 (.isub) 1 122 := ⟨by decide +kernel, rfl⟩
theorem e_X11_readsSum_122 : g_dc cX11_readsSum 122 (.putfield 235) 3 125 := ⟨by decide +kernel, rfl⟩
theorem e_X11_readsSum_125 : g_dc cX11_readsSum 125 (.aload_n 0) 1 126 := ⟨by decide +kernel, rfl⟩
theorem e_X11_readsSum_126 : g_dc cX11_readsSum 126 (.aload_n 0) 1 127 := ⟨by decide +kernel, rfl⟩
theorem e_X11_readsSum_127 : g_dc cX11_readsSum 127 (.getfield 190) 3 130 := ⟨by decide +kernel, rfl⟩
theorem e_X11_readsSum_130 : g_dc cX11_readsSum 130 (.iconst 1) 1 131 := ⟨by decide +kernel, rfl⟩
theorem e_X11_readsSum_131 : g_dc cX11_readsSum 131 (.iadd) 1 132 := ⟨by decide +kernel, rfl⟩
theorem e_X11_readsSum_132 : g_dc cX11_readsSum 132 (.putfield 190) 3 135 := ⟨by decide +kernel, rfl⟩
theorem e_X11_readsSum_135 : g_dc cX11_readsSum 135 (.goto 28) 3 138 := ⟨by decide +kernel, rfl⟩
theorem e_X11_readsSum_138 : g_dc cX11_readsSum 138 (.aload_n 0) 1 139 := ⟨by decide +kernel, rfl⟩
theorem e_X11_readsSum_139 : g_dc cX11_readsSum 139 (.iload_n 1) 1 140 := ⟨by decide +kernel, rfl⟩
theorem e_X11_readsSum_140 : g_dc cX11_readsSum 140 (.invokevirtual 268) 3 143 := ⟨by decide +kernel, rfl⟩
theorem e_X11_readsSum_143 : g_dc cX11_readsSum 143 (.ifCond .eq 13) 3 146 := ⟨by decide +kernel, rfl⟩
theorem e_X11_readsSum_146 : g_dc cX11_readsSum 146 (.aload_n 0) 1 147 := ⟨by decide +kernel, rfl⟩
theorem e_X11_readsSum_147 : g_dc cX11_readsSum 147 (.iconst 1) 1 148 := ⟨by decide +kernel, rfl⟩
theorem e_X11_readsSum_148 : g_dc cX11_readsSum 148 (.aload_n 0) 1 149 := ⟨by decide +kernel, rfl⟩
theorem e_X11_readsSum_149 : g_dc cX11_readsSum 149 (.getfield 190) 3 152 := ⟨by decide +kernel, rfl⟩
theorem e_X11_readsSum_152 : g_dc cX11_readsSum 152 (.invokevirtual 204) 3 155 := ⟨by decide +kernel, rfl⟩
theorem e_X11_readsSum_155 : g_dc cX11_readsSum 155 (.ireturn) 1 156 := ⟨by decide +kernel, rfl⟩
theorem e_X11_readsSum_156 : g_dc cX11_readsSum 156 (.aload_n 0) 1 157 := ⟨by decide +kernel, rfl⟩
theorem e_X11_readsSum_157 : g_dc cX11_readsSum 157 (.iconst 1) 1 158 := ⟨by decide +kernel, rfl⟩
theorem e_X11_readsSum_158 : g_dc cX11_readsSum 158 (.invokevirtual 264) 3 161 := ⟨by decide +kernel, rfl⟩
theorem e_X11_readsSum_161 : g_dc cX11_readsSum 161 (.iconst 1) 1 162 := ⟨by decide +kernel, rfl⟩
theorem e_X11_readsSum_162 : g_dc cX11_readsSum 162 (.ireturn) 1 163 := ⟨by decide +kernel, rfl⟩
theorem e_X11_readsSum_163 : g_dc cX11_readsSum 163 (.goto (-149)) 3 166 := ⟨by decide +kernel, rfl⟩
def md_X11_readsSum : List Nat := [15, 17, 18, 24, 25, 26]
def mr_X11_readsSum : List Nat := [12, 13]
set_option maxHeartbeats 4000000 in
set_option maxRecDepth 100000 in
theorem w_X11_readsSum (l : Launch) (X : gX) (ad : Nat → Nat) (F : Nat → Int32) (R : Nat → Nat → Int32) (hI : g_ok LK_wM F) (hA : g_okR LA_wM R) (hWT : WT F R) (hWC : WC F R) (A : Nat × Nat) (L : List (Int × Nat)) (h : Int) (hps : PS F R A L h) (hnb : cb L = 0) (hh : 0 ≤ h) : g_Ci l X yX11_readsSum cX11_readsSum 3 (some .boolean) 5 0 0 [.ref (ad 0)] (wM X ad F R) (fun r w => ∃ (F' : Nat → Int32) (R' : Nat → Nat → Int32), w = wM X ad F' R' ∧ g_ok LK_wM F' ∧ g_okR LA_wM R' ∧ WT F' R' ∧ WC F' R' ∧ g_fr md_X11_readsSum F F' ∧ g_fr mr_X11_readsSum R R' ∧ jv 0 1 r ∧ (¬ r = 0 → PS F' R' A L (h + 1) ∧ FK F R F' R')) := by
  refine g_mi (by decide +kernel) (Nat.le_of_ble_eq_true rfl) (fun E cx hret => ?_)
  refine g_aload_n cx 0 rfl e_X11_readsSum_0 ?_
  refine g_get cx cl_X11 fl_X11_238 0 (.int (F 26)) e_X11_readsSum_1 rfl rfl ?_
  refine g_istore_n cx [(1, .int (F 26)), (0, .ref (ad 0))] e_X11_readsSum_4 (by decide) rfl ?_
  refine g_aload_n cx 1 rfl e_X11_readsSum_5 ?_
  refine g_cViW cx [] [] (w_X11_readsFactor l X ad F R hI hA hWT hWC A (L) (h) hps) ml_X11_258 yV_X11_readsFactor e_X11_readsSum_6 (by unfold g_rr; decide) (by decide) 0 rfl rfl rfl (Nat.le_of_ble_eq_true rfl) (fun r1 w2 h3 => ?_)
  obtain ⟨F5, R6, rfl, oF5, oR6, wTF5, wCF5, cF5, cR6, pr1, zx4⟩ := h3
  have fF5 : g_fr md_X11_readsSum F F5 := g_fr_c (g_fr_rf F) cF5 rfl
  have fR6 : g_fr mr_X11_readsSum R R6 := g_fr_c (g_fr_rf R) cR6 rfl
  have J14 : ∀ (N : Nat) (F7 : Nat → Int32) (R8 : Nat → Nat → Int32), (g_ok LK_wM F7) → (g_fr md_X11_readsSum F F7) → (g_okR LA_wM R8) → (g_fr mr_X11_readsSum R R8) → (WT F7 R8) → (WC F7 R8) → (∃ M : List (Int × Nat), (∀ q ∈ M, 2 ≤ q.1 ∧ q.1 ≤ 6 ∨ q.1 = 14) ∧ PS F7 R8 A (M ++ L) (h + cb M + 1) ∧ FK F R F7 R8) → (2147483647 - (F7 15).toInt).toNat < N → G X E 3 0 0 (wM X ad F7 R8) [(0, .ref (ad 0)), (1, .int (F 26))] 14 [] := by
    intro N
    induction N with
    | zero => intro F7 R8 oF7 fF7 oR8 fR8 wTF7R8 wCF7R8 zq14_0 hm; exact absurd hm (Nat.not_lt_zero _)
    | succ N ih14 =>
      intro F7 R8 oF7 fF7 oR8 fR8 wTF7R8 wCF7R8 zq14_0 hm14
      obtain ⟨M, hM, ps, fk⟩ := zq14_0
      refine g_aload_n cx 0 rfl e_X11_readsSum_14 ?_
      refine g_cViW cx [] [] (w_X11_here l X ad F7 R8 oF7 oR8 wTF7R8 wCF7R8) ml_X11_200 yV_X11_here e_X11_readsSum_15 (by unfold g_rr; decide) (by decide) 0 rfl rfl rfl (Nat.le_of_ble_eq_true rfl) (fun r9 w10 h11 => ?_)
      obtain ⟨rfl, pr9, zx12⟩ := h11
      refine g_cSiW cx [.int r9] [] (w_X11_sumSign l X ad F7 R8 oF7 oR8 r9) ml_X11_261 yS_X11_sumSign rfl e_X11_readsSum_18 (by unfold g_rr; decide) (by decide) rfl (Nat.le_of_ble_eq_true rfl) (fun r13 w14 h15 => ?_)
      obtain ⟨rfl, pr13, zx16⟩ := h15
      refine g_istore_n cx [(2, .int r13), (0, .ref (ad 0)), (1, .int (F 26))] e_X11_readsSum_21 (by decide) rfl ?_
      refine g_iload_n cx 0 rfl e_X11_readsSum_22 ?_
      refine g_iconst cx (-1) (by decide) e_X11_readsSum_23 ?_
      refine g_icmp_eq cx 83 e_X11_readsSum_24 (by decide) (fun zc17 => ?_) (fun zc17 => ?_)
      · have p18 := gn_eq (-1) (-1) (gc_eq zc17) pr13 (jv_k (x := (-1)) (-1) (by decide)) (by decide)
        refine g_aload_n cx 1 rfl e_X11_readsSum_83 ?_
        refine g_cViW cx [] [] (w_X11_here l X ad F7 R8 oF7 oR8 wTF7R8 wCF7R8) ml_X11_200 yV_X11_here e_X11_readsSum_84 (by unfold g_rr; decide) (by decide) 0 rfl rfl rfl (Nat.le_of_ble_eq_true rfl) (fun r19 w20 h21 => ?_)
        obtain ⟨rfl, pr19, zx22⟩ := h21
        refine g_bipush cx 93 (by decide) e_X11_readsSum_87 ?_
        refine g_icmp_ne cx 138 e_X11_readsSum_89 (by decide) (fun zc23 => ?_) (fun zc23 => ?_)
        · refine g_aload_n cx 1 rfl e_X11_readsSum_138 ?_
          refine g_iload_n cx 2 rfl e_X11_readsSum_139 ?_
          refine g_cViW cx [.int (F 26)] [] (w_X11_hasOpenSum l X ad F7 R8 oF7 oR8 (F 26) (g_ok_g hI 8 rfl) M L ps.2.1 ps.2.2.1 (hps.2.2.1.symm)) ml_X11_268 yV_X11_hasOpenSum e_X11_readsSum_140 (by unfold g_rr; decide) (by decide) 0 rfl rfl rfl (Nat.le_of_ble_eq_true rfl) (fun r24 w25 h26 => ?_)
          obtain ⟨rfl, pr24, zx27, zx28⟩ := h26
          refine g_if_eq cx 156 e_X11_readsSum_143 (by decide) (fun zc29 => ?_) (fun zc29 => ?_)
          · have p30 := gn_eq 0 0 (gc_eq zc29) pr24 (jv_k (x := 0) 0 (by decide)) (by decide)
            refine g_aload_n cx 1 rfl e_X11_readsSum_156 ?_
            refine g_iconst cx 1 (by decide) e_X11_readsSum_157 ?_
            refine g_cVvW cx [.int 1] [] (w_X11_closesSums l X ad F7 R8 oF7 oR8 wTF7R8 wCF7R8 1 (jv_w (jv_k (x := 1) 1 (by decide)) (by decide)) A ((M ++ L)) ((h + cb M + 1)) ps (by rw [cb_app]; have := cg_0 M; omega)) ml_X11_264 yV_X11_closesSums e_X11_readsSum_158 (by unfold g_rr; decide) (by decide) 0 rfl rfl rfl (Nat.le_of_ble_eq_true rfl) (fun w32 h33 => ?_)
            obtain ⟨F35, R36, rfl, oF35, oR36, wTF35, wCF35, cF35, cR36, zx34⟩ := h33
            have fF35 : g_fr md_X11_readsSum F F35 := g_fr_c fF7 cF35 rfl
            have fR36 : g_fr mr_X11_readsSum R R36 := g_fr_c fR8 cR36 rfl
            obtain ⟨Mn37, Ln37, eLn37, hMn37, qn37, htn37, hkn37, h25n37⟩ := zx34
            obtain ⟨Nn37, eMn37, rfl⟩ := sp_ops eLn37 hMn37 hnb
            have psn37 := PS_cs (M := M) eMn37 hMn37 qn37
            have fkn37 : FK F7 R8 F35 R36 := ⟨hkn37, h25n37, (Int.le_of_eq (congrArg Int32.toInt (cF35 15 rfl)).symm)⟩
            refine g_iconst cx 1 (by decide) e_X11_readsSum_161 ?_
            exact hret e_X11_readsSum_162 (Nat.le_of_ble_eq_true rfl) (Nat.le_of_ble_eq_true rfl) rfl ⟨F35, R36, rfl, oF35, oR36, wTF35, wCF35, fF35, fR36, (jv_w (jv_k (x := 1) 1 (by decide)) (by decide)), (fun _ => ⟨rs_end (sp_0 eMn37 hM (zx27 (by assumption)) (htn37 (by decide))) psn37, FK_tr fk fkn37⟩)⟩
          · have p38 := gn_neL 1 1 (gc_ne zc29) pr24 (jv_k (x := 0) 0 (by decide)) (by decide)
            refine g_aload_n cx 1 rfl e_X11_readsSum_146 ?_
            refine g_iconst cx 1 (by decide) e_X11_readsSum_147 ?_
            refine g_aload_n cx 1 rfl e_X11_readsSum_148 ?_
            refine g_get cx cl_X11 fl_X11_190 0 (.int (F7 15)) e_X11_readsSum_149 rfl rfl ?_
            refine g_cViW cx [.int 1, .int (F7 15)] [] (w_X11_wrongAt l X ad F7 R8 oF7 oR8 wTF7R8 wCF7R8 1 (F7 15)) ml_X11_204 yV_X11_wrongAt e_X11_readsSum_152 (by unfold g_rr; decide) (by decide) 0 rfl rfl rfl (Nat.le_of_ble_eq_true rfl) (fun r39 w40 h41 => ?_)
            obtain ⟨F42, R43, rfl, oF42, oR43, wTF42, wCF42, cF42, cR43, pr39⟩ := h41
            have fF42 : g_fr md_X11_readsSum F F42 := g_fr_c fF7 cF42 rfl
            have fR43 : g_fr mr_X11_readsSum R R43 := g_fr_c fR8 cR43 rfl
            exact hret e_X11_readsSum_155 (Nat.le_of_ble_eq_true rfl) (Nat.le_of_ble_eq_true rfl) (g_narb (jv_w pr39 (by decide))) ⟨F42, R43, rfl, oF42, oR43, wTF42, wCF42, fF42, fR43, (jv_w pr39 (by decide)), (fun h0 => absurd (by first | rfl | exact jv_c 0 pr39 (by decide)) h0)⟩
        · have p44 := gn_eq 93 93 (gc_eq zc23) pr19 (jv_k (x := 93) 93 (by decide)) (by decide)
          refine g_aload_n cx 1 rfl e_X11_readsSum_92 ?_
          refine g_iload_n cx 2 rfl e_X11_readsSum_93 ?_
          refine g_cViW cx [.int (F 26)] [] (w_X11_hasOpenSum l X ad F7 R8 oF7 oR8 (F 26) (g_ok_g hI 8 rfl) M L ps.2.1 ps.2.2.1 (hps.2.2.1.symm)) ml_X11_268 yV_X11_hasOpenSum e_X11_readsSum_94 (by unfold g_rr; decide) (by decide) 0 rfl rfl rfl (Nat.le_of_ble_eq_true rfl) (fun r45 w46 h47 => ?_)
          obtain ⟨rfl, pr45, zx48, zx49⟩ := h47
          refine g_if_eq cx 138 e_X11_readsSum_97 (by decide) (fun zc50 => ?_) (fun zc50 => ?_)
          · have p51 := gn_eq 0 0 (gc_eq zc50) pr45 (jv_k (x := 0) 0 (by decide)) (by decide)
            refine g_aload_n cx 1 rfl e_X11_readsSum_138 ?_
            refine g_iload_n cx 2 rfl e_X11_readsSum_139 ?_
            refine g_cViW cx [.int (F 26)] [] (w_X11_hasOpenSum l X ad F7 R8 oF7 oR8 (F 26) (g_ok_g hI 8 rfl) M L ps.2.1 ps.2.2.1 (hps.2.2.1.symm)) ml_X11_268 yV_X11_hasOpenSum e_X11_readsSum_140 (by unfold g_rr; decide) (by decide) 0 rfl rfl rfl (Nat.le_of_ble_eq_true rfl) (fun r52 w53 h54 => ?_)
            obtain ⟨rfl, pr52, zx55, zx56⟩ := h54
            refine g_if_eq cx 156 e_X11_readsSum_143 (by decide) (fun zc57 => ?_) (fun zc57 => ?_)
            · have p58 := gn_eq 0 0 (gc_eq zc57) pr52 (jv_k (x := 0) 0 (by decide)) (by decide)
              refine g_aload_n cx 1 rfl e_X11_readsSum_156 ?_
              refine g_iconst cx 1 (by decide) e_X11_readsSum_157 ?_
              refine g_cVvW cx [.int 1] [] (w_X11_closesSums l X ad F7 R8 oF7 oR8 wTF7R8 wCF7R8 1 (jv_w (jv_k (x := 1) 1 (by decide)) (by decide)) A ((M ++ L)) ((h + cb M + 1)) ps (by rw [cb_app]; have := cg_0 M; omega)) ml_X11_264 yV_X11_closesSums e_X11_readsSum_158 (by unfold g_rr; decide) (by decide) 0 rfl rfl rfl (Nat.le_of_ble_eq_true rfl) (fun w60 h61 => ?_)
              obtain ⟨F63, R64, rfl, oF63, oR64, wTF63, wCF63, cF63, cR64, zx62⟩ := h61
              have fF63 : g_fr md_X11_readsSum F F63 := g_fr_c fF7 cF63 rfl
              have fR64 : g_fr mr_X11_readsSum R R64 := g_fr_c fR8 cR64 rfl
              obtain ⟨Mn65, Ln65, eLn65, hMn65, qn65, htn65, hkn65, h25n65⟩ := zx62
              obtain ⟨Nn65, eMn65, rfl⟩ := sp_ops eLn65 hMn65 hnb
              have psn65 := PS_cs (M := M) eMn65 hMn65 qn65
              have fkn65 : FK F7 R8 F63 R64 := ⟨hkn65, h25n65, (Int.le_of_eq (congrArg Int32.toInt (cF63 15 rfl)).symm)⟩
              refine g_iconst cx 1 (by decide) e_X11_readsSum_161 ?_
              exact hret e_X11_readsSum_162 (Nat.le_of_ble_eq_true rfl) (Nat.le_of_ble_eq_true rfl) rfl ⟨F63, R64, rfl, oF63, oR64, wTF63, wCF63, fF63, fR64, (jv_w (jv_k (x := 1) 1 (by decide)) (by decide)), (fun _ => ⟨rs_end (sp_0 eMn65 hM (zx55 (by assumption)) (htn65 (by decide))) psn65, FK_tr fk fkn65⟩)⟩
            · have p66 := gn_neL 1 1 (gc_ne zc57) pr52 (jv_k (x := 0) 0 (by decide)) (by decide)
              refine g_aload_n cx 1 rfl e_X11_readsSum_146 ?_
              refine g_iconst cx 1 (by decide) e_X11_readsSum_147 ?_
              refine g_aload_n cx 1 rfl e_X11_readsSum_148 ?_
              refine g_get cx cl_X11 fl_X11_190 0 (.int (F7 15)) e_X11_readsSum_149 rfl rfl ?_
              refine g_cViW cx [.int 1, .int (F7 15)] [] (w_X11_wrongAt l X ad F7 R8 oF7 oR8 wTF7R8 wCF7R8 1 (F7 15)) ml_X11_204 yV_X11_wrongAt e_X11_readsSum_152 (by unfold g_rr; decide) (by decide) 0 rfl rfl rfl (Nat.le_of_ble_eq_true rfl) (fun r67 w68 h69 => ?_)
              obtain ⟨F70, R71, rfl, oF70, oR71, wTF70, wCF70, cF70, cR71, pr67⟩ := h69
              have fF70 : g_fr md_X11_readsSum F F70 := g_fr_c fF7 cF70 rfl
              have fR71 : g_fr mr_X11_readsSum R R71 := g_fr_c fR8 cR71 rfl
              exact hret e_X11_readsSum_155 (Nat.le_of_ble_eq_true rfl) (Nat.le_of_ble_eq_true rfl) (g_narb (jv_w pr67 (by decide))) ⟨F70, R71, rfl, oF70, oR71, wTF70, wCF70, fF70, fR71, (jv_w pr67 (by decide)), (fun h0 => absurd (by first | rfl | exact jv_c 0 pr67 (by decide)) h0)⟩
          · have p72 := gn_neL 1 1 (gc_ne zc50) pr45 (jv_k (x := 0) 0 (by decide)) (by decide)
            refine g_aload_n cx 1 rfl e_X11_readsSum_100 ?_
            refine g_iconst cx 1 (by decide) e_X11_readsSum_101 ?_
            refine g_cVvW cx [.int 1] [] (w_X11_closesSums l X ad F7 R8 oF7 oR8 wTF7R8 wCF7R8 1 (jv_w (jv_k (x := 1) 1 (by decide)) (by decide)) A ((M ++ L)) ((h + cb M + 1)) ps (by rw [cb_app]; have := cg_0 M; omega)) ml_X11_264 yV_X11_closesSums e_X11_readsSum_102 (by unfold g_rr; decide) (by decide) 0 rfl rfl rfl (Nat.le_of_ble_eq_true rfl) (fun w74 h75 => ?_)
            obtain ⟨F77, R78, rfl, oF77, oR78, wTF77, wCF77, cF77, cR78, zx76⟩ := h75
            have fF77 : g_fr md_X11_readsSum F F77 := g_fr_c fF7 cF77 rfl
            have fR78 : g_fr mr_X11_readsSum R R78 := g_fr_c fR8 cR78 rfl
            obtain ⟨Mn79, Ln79, eLn79, hMn79, qn79, htn79, hkn79, h25n79⟩ := zx76
            obtain ⟨Nn79, eMn79, rfl⟩ := sp_ops eLn79 hMn79 hnb
            have psn79 := PS_cs (M := M) eMn79 hMn79 qn79
            have fkn79 : FK F7 R8 F77 R78 := ⟨hkn79, h25n79, (Int.le_of_eq (congrArg Int32.toInt (cF77 15 rfl)).symm)⟩
            obtain ⟨on79, N2n79, rfl⟩ := sp_14 eMn79 hMn79 hM (zx49 zc50) (htn79 (by decide))
            have hln79 : 1 ≤ (F77 26).toInt := by have q := psn79.2.2.1; simp only [List.cons_append, List.length_cons] at q; omega
            refine g_aload_n cx 1 rfl e_X11_readsSum_105 ?_
            refine g_aload_n cx 1 rfl e_X11_readsSum_106 ?_
            refine g_get cx cl_X11 fl_X11_238 0 (.int (F77 26)) e_X11_readsSum_107 rfl rfl ?_
            refine g_iconst cx 1 (by decide) e_X11_readsSum_110 ?_
            refine g_isub cx e_X11_readsSum_111 ?_
            refine g_topi (fun x80 ex80 => ?_)
            have zx80 := jv_sub (-1) 219 ex80 (g_ok_g oF77 8 rfl) (jv_k (x := 1) 1 (by decide)) (by decide)
            refine g_put cx cl_X11 fl_X11_238 0 (wM X ad (upd F77 26 x80) R78) e_X11_readsSum_112 rfl rfl rfl rfl (Nat.le_of_ble_eq_true rfl) rfl ?_
            obtain ⟨F81, hF81⟩ : ∃ z, z = upd F77 26 x80 := ⟨_, rfl⟩
            rw [← hF81]
            have oF81 : g_ok LK_wM F81 := by rw [hF81]; exact g_ok_p oF77 (show jv 0 220 _ from ⟨by have q0 := (jv_k (x := 1) 1 (by decide)).1; have q1 := (jv_k (x := 1) 1 (by decide)).2; have q2 := (g_ok_g oF77 8 rfl).1; have q3 := (g_ok_g oF77 8 rfl).2; have q4 := zx80.2.1; have q5 := zx80.2.2; have q6 := hln79; have q7 := (g_eq0 zx80.1); omega, by have q0 := (jv_k (x := 1) 1 (by decide)).1; have q1 := (jv_k (x := 1) 1 (by decide)).2; have q2 := (g_ok_g oF77 8 rfl).1; have q3 := (g_ok_g oF77 8 rfl).2; have q4 := zx80.2.1; have q5 := zx80.2.2; have q6 := hln79; have q7 := (g_eq0 zx80.1); omega⟩) rfl
            have fF81 : g_fr md_X11_readsSum F F81 := by rw [hF81]; exact g_fr_u fF77 rfl
            have wTF81 : WT F81 R78 := by rw [hF81]; exact WT_u wTF77 rfl
            have wCF81 : WC F81 R78 := by rw [hF81]; exact WC_u wCF77 rfl
            refine g_aload_n cx 1 rfl e_X11_readsSum_115 ?_
            refine g_aload_n cx 1 rfl e_X11_readsSum_116 ?_
            refine g_get cx cl_X11 fl_X11_235 0 (.int (F81 24)) e_X11_readsSum_117 rfl rfl ?_
            refine g_toi (F7 24) ((g_pu2 hF81 rfl).trans (cF77 24 rfl)) ?_
            refine g_iconst cx 1 (by decide) e_X11_readsSum_120 ?_
            refine g_isub cx e_X11_readsSum_121 ?_
            refine g_topi (fun x82 ex82 => ?_)
            refine g_put cx cl_X11 fl_X11_235 0 (wM X ad (upd F81 24 x82) R78) e_X11_readsSum_122 rfl rfl rfl rfl (Nat.le_of_ble_eq_true rfl) rfl ?_
            obtain ⟨F83, hF83⟩ : ∃ z, z = upd F81 24 x82 := ⟨_, rfl⟩
            rw [← hF83]
            have oF83 : g_ok LK_wM F83 := by rw [hF83]; exact g_ok_p oF81 (jv_t x82) rfl
            have fF83 : g_fr md_X11_readsSum F F83 := by rw [hF83]; exact g_fr_u fF81 rfl
            have wTF83 : WT F83 R78 := by rw [hF83]; exact WT_u wTF81 rfl
            have wCF83 : WC F83 R78 := by rw [hF83]; exact WC_u wCF81 rfl
            refine g_aload_n cx 1 rfl e_X11_readsSum_125 ?_
            refine g_aload_n cx 1 rfl e_X11_readsSum_126 ?_
            refine g_get cx cl_X11 fl_X11_190 0 (.int (F83 15)) e_X11_readsSum_127 rfl rfl ?_
            refine g_toi (F7 15) (((g_pu2 hF83 rfl).trans (g_pu2 hF81 rfl)).trans (cF77 15 rfl)) ?_
            refine g_iconst cx 1 (by decide) e_X11_readsSum_130 ?_
            refine g_iadd cx e_X11_readsSum_131 ?_
            refine g_topi (fun x84 ex84 => ?_)
            have zx84 := jv_add 1 221 ex84 (g_ok_g oF7 1 rfl) (jv_k (x := 1) 1 (by decide)) (by decide)
            refine g_put cx cl_X11 fl_X11_190 0 (wM X ad (upd F83 15 x84) R78) e_X11_readsSum_132 rfl rfl rfl rfl (Nat.le_of_ble_eq_true rfl) rfl ?_
            obtain ⟨F85, hF85⟩ : ∃ z, z = upd F83 15 x84 := ⟨_, rfl⟩
            rw [← hF85]
            have oF85 : g_ok LK_wM F85 := by rw [hF85]; exact g_ok_p oF83 (show jv 0 220 _ from ⟨by have q0 := (jv_k (x := (-1)) (-1) (by decide)).1; have q1 := (jv_k (x := (-1)) (-1) (by decide)).2; have q2 := (g_here_iv F7 R8).1; have q3 := (g_here_iv F7 R8).2; have q4 := (jv_k (x := 1) 1 (by decide)).1; have q5 := (jv_k (x := 1) 1 (by decide)).2; have q6 := (jv_k (x := 93) 93 (by decide)).1; have q7 := (jv_k (x := 93) 93 (by decide)).2; have q8 := (g_ok_g hI 1 rfl).1; have q9 := (g_ok_g hI 1 rfl).2; have q10 := (g_ok_g hI 2 rfl).1; have q11 := (g_ok_g hI 2 rfl).2; have q12 := (g_ok_g oF7 1 rfl).1; have q13 := (g_ok_g oF7 1 rfl).2; have q14 := (g_ok_g oF7 2 rfl).1; have q15 := (g_ok_g oF7 2 rfl).2; have q16 := (g_ok_g oF77 1 rfl).1; have q17 := (g_ok_g oF77 1 rfl).2; have q18 := (g_ok_g oF77 8 rfl).1; have q19 := (g_ok_g oF77 8 rfl).2; have q20 := p18.1; have q21 := p18.2; have q22 := p44.1; have q23 := p44.2; have q24 := pr9.1; have q25 := pr9.2; have q26 := zx80.2.1; have q27 := zx80.2.2; have q28 := zx84.2.1; have q29 := zx84.2.2; have q30 := fk.2.2; have q31 := (congrArg Int32.toInt zx12); have q32 := (@g_here_lt F7 R8); have q33 := (congrArg Int32.toInt (show F7 16 = F 16 from (fF7 16 rfl))); have q34 := zx16.1; have q35 := zx16.2; have q36 := (gc_eq zc17); have q37 := (congrArg Int32.toInt zx22); have q38 := (@g_here_lt F7 R8); have q39 := (congrArg Int32.toInt (show F7 16 = F 16 from (fF7 16 rfl))); have q40 := (gc_eq zc23); have q41 := hln79; have q42 := (congrArg Int32.toInt (show F77 15 = F7 15 from (cF77 15 rfl))); have q43 := (g_eq0 zx80.1); have q44 := (g_eq0 zx84.1); omega, by have q0 := (jv_k (x := (-1)) (-1) (by decide)).1; have q1 := (jv_k (x := (-1)) (-1) (by decide)).2; have q2 := (g_here_iv F7 R8).1; have q3 := (g_here_iv F7 R8).2; have q4 := (jv_k (x := 1) 1 (by decide)).1; have q5 := (jv_k (x := 1) 1 (by decide)).2; have q6 := (jv_k (x := 93) 93 (by decide)).1; have q7 := (jv_k (x := 93) 93 (by decide)).2; have q8 := (g_ok_g hI 1 rfl).1; have q9 := (g_ok_g hI 1 rfl).2; have q10 := (g_ok_g hI 2 rfl).1; have q11 := (g_ok_g hI 2 rfl).2; have q12 := (g_ok_g oF7 1 rfl).1; have q13 := (g_ok_g oF7 1 rfl).2; have q14 := (g_ok_g oF7 2 rfl).1; have q15 := (g_ok_g oF7 2 rfl).2; have q16 := (g_ok_g oF77 1 rfl).1; have q17 := (g_ok_g oF77 1 rfl).2; have q18 := (g_ok_g oF77 8 rfl).1; have q19 := (g_ok_g oF77 8 rfl).2; have q20 := p18.1; have q21 := p18.2; have q22 := p44.1; have q23 := p44.2; have q24 := pr9.1; have q25 := pr9.2; have q26 := zx80.2.1; have q27 := zx80.2.2; have q28 := zx84.2.1; have q29 := zx84.2.2; have q30 := fk.2.2; have q31 := (congrArg Int32.toInt zx12); have q32 := (@g_here_lt F7 R8); have q33 := (congrArg Int32.toInt (show F7 16 = F 16 from (fF7 16 rfl))); have q34 := zx16.1; have q35 := zx16.2; have q36 := (gc_eq zc17); have q37 := (congrArg Int32.toInt zx22); have q38 := (@g_here_lt F7 R8); have q39 := (congrArg Int32.toInt (show F7 16 = F 16 from (fF7 16 rfl))); have q40 := (gc_eq zc23); have q41 := hln79; have q42 := (congrArg Int32.toInt (show F77 15 = F7 15 from (cF77 15 rfl))); have q43 := (g_eq0 zx80.1); have q44 := (g_eq0 zx84.1); omega⟩) rfl
            have fF85 : g_fr md_X11_readsSum F F85 := by rw [hF85]; exact g_fr_u fF83 rfl
            have wTF85 : WT F85 R78 := by rw [hF85]; exact WT_u wTF83 rfl
            have wCF85 : WC F85 R78 := by rw [hF85]; exact WC_u wCF83 rfl
            refine g_goto cx 163 e_X11_readsSum_135 (by decide) ?_
            refine g_goto cx 14 e_X11_readsSum_163 (by decide) ?_
            refine g_lsub [1, 2] [(0, .ref (ad 0)), (1, .int (F 26))] rfl ?_
            exact ih14 F85 R78 oF85 fF85 oR78 fR78 wTF85 wCF85 (⟨N2n79, fun q hq => hM q (by rw [eMn79]; exact List.mem_append_right _ (List.mem_cons_of_mem _ hq)), rs_pop psn79 (((g_pu2 hF85 rfl).trans (g_pu2 hF83 rfl)).trans (g_pu2 hF81 rfl)) (by have q0 := (jv_k (x := (-1)) (-1) (by decide)).1; have q1 := (jv_k (x := (-1)) (-1) (by decide)).2; have q2 := (g_here_iv F7 R8).1; have q3 := (g_here_iv F7 R8).2; have q4 := (jv_k (x := 1) 1 (by decide)).1; have q5 := (jv_k (x := 1) 1 (by decide)).2; have q6 := (jv_k (x := 93) 93 (by decide)).1; have q7 := (jv_k (x := 93) 93 (by decide)).2; have q8 := (g_ok_g hI 1 rfl).1; have q9 := (g_ok_g hI 1 rfl).2; have q10 := (g_ok_g hI 2 rfl).1; have q11 := (g_ok_g hI 2 rfl).2; have q12 := (g_ok_g oF7 1 rfl).1; have q13 := (g_ok_g oF7 1 rfl).2; have q14 := (g_ok_g oF7 2 rfl).1; have q15 := (g_ok_g oF7 2 rfl).2; have q16 := (g_ok_g oF77 1 rfl).1; have q17 := (g_ok_g oF77 1 rfl).2; have q18 := (g_ok_g oF77 8 rfl).1; have q19 := (g_ok_g oF77 8 rfl).2; have q20 := (g_ok_g oF85 8 rfl).1; have q21 := (g_ok_g oF85 8 rfl).2; have q22 := p18.1; have q23 := p18.2; have q24 := p44.1; have q25 := p44.2; have q26 := pr9.1; have q27 := pr9.2; have q28 := zx80.2.1; have q29 := zx80.2.2; have q30 := zx84.2.1; have q31 := zx84.2.2; have q32 := fk.2.2; have q33 := (congrArg Int32.toInt zx12); have q34 := (@g_here_lt F7 R8); have q35 := (congrArg Int32.toInt (show F7 16 = F 16 from (fF7 16 rfl))); have q36 := zx16.1; have q37 := zx16.2; have q38 := (gc_eq zc17); have q39 := (congrArg Int32.toInt zx22); have q40 := (@g_here_lt F7 R8); have q41 := (congrArg Int32.toInt (show F7 16 = F 16 from (fF7 16 rfl))); have q42 := (gc_eq zc23); have q43 := hln79; have q44 := (congrArg Int32.toInt (show F77 15 = F7 15 from (cF77 15 rfl))); have q45 := (g_eq0 zx80.1); have q46 := (g_eq0 zx84.1); have q47 := (congrArg Int32.toInt (show F85 26 = x80 from (((g_pu2 hF85 rfl).trans (g_pu2 hF83 rfl)).trans (g_pu1 hF81)))); omega) (by have q0 := (jv_k (x := (-1)) (-1) (by decide)).1; have q1 := (jv_k (x := (-1)) (-1) (by decide)).2; have q2 := (g_here_iv F7 R8).1; have q3 := (g_here_iv F7 R8).2; have q4 := (jv_k (x := 1) 1 (by decide)).1; have q5 := (jv_k (x := 1) 1 (by decide)).2; have q6 := (jv_k (x := 93) 93 (by decide)).1; have q7 := (jv_k (x := 93) 93 (by decide)).2; have q8 := (g_ok_g hI 1 rfl).1; have q9 := (g_ok_g hI 1 rfl).2; have q10 := (g_ok_g hI 2 rfl).1; have q11 := (g_ok_g hI 2 rfl).2; have q12 := (g_ok_g oF7 1 rfl).1; have q13 := (g_ok_g oF7 1 rfl).2; have q14 := (g_ok_g oF7 2 rfl).1; have q15 := (g_ok_g oF7 2 rfl).2; have q16 := (g_ok_g oF77 1 rfl).1; have q17 := (g_ok_g oF77 1 rfl).2; have q18 := (g_ok_g oF77 8 rfl).1; have q19 := (g_ok_g oF77 8 rfl).2; have q20 := (g_ok_g oF85 1 rfl).1; have q21 := (g_ok_g oF85 1 rfl).2; have q22 := (g_ok_g oF85 8 rfl).1; have q23 := (g_ok_g oF85 8 rfl).2; have q24 := p18.1; have q25 := p18.2; have q26 := p44.1; have q27 := p44.2; have q28 := pr9.1; have q29 := pr9.2; have q30 := zx80.2.1; have q31 := zx80.2.2; have q32 := zx84.2.1; have q33 := zx84.2.2; have q34 := fk.2.2; have q35 := (congrArg Int32.toInt zx12); have q36 := (@g_here_lt F7 R8); have q37 := (congrArg Int32.toInt (show F7 16 = F 16 from (fF7 16 rfl))); have q38 := zx16.1; have q39 := zx16.2; have q40 := (gc_eq zc17); have q41 := (congrArg Int32.toInt zx22); have q42 := (@g_here_lt F7 R8); have q43 := (congrArg Int32.toInt (show F7 16 = F 16 from (fF7 16 rfl))); have q44 := (gc_eq zc23); have q45 := hln79; have q46 := (congrArg Int32.toInt (show F77 15 = F7 15 from (cF77 15 rfl))); have q47 := (g_eq0 zx80.1); have q48 := (g_eq0 zx84.1); have q49 := (congrArg Int32.toInt (show F85 26 = x80 from (((g_pu2 hF85 rfl).trans (g_pu2 hF83 rfl)).trans (g_pu1 hF81)))); have q50 := (congrArg Int32.toInt (show F85 15 = x84 from (g_pu1 hF85))); omega) (rfl : R78 12 = R78 12) (rfl : R78 13 = R78 13), FK_e (FK_tr fk fkn79) (((g_pu2 hF85 rfl).trans (g_pu2 hF83 rfl)).trans (g_pu2 hF81 rfl)) (by have q0 := (jv_k (x := (-1)) (-1) (by decide)).1; have q1 := (jv_k (x := (-1)) (-1) (by decide)).2; have q2 := (g_here_iv F7 R8).1; have q3 := (g_here_iv F7 R8).2; have q4 := (jv_k (x := 1) 1 (by decide)).1; have q5 := (jv_k (x := 1) 1 (by decide)).2; have q6 := (jv_k (x := 93) 93 (by decide)).1; have q7 := (jv_k (x := 93) 93 (by decide)).2; have q8 := (g_ok_g hI 1 rfl).1; have q9 := (g_ok_g hI 1 rfl).2; have q10 := (g_ok_g hI 2 rfl).1; have q11 := (g_ok_g hI 2 rfl).2; have q12 := (g_ok_g oF7 1 rfl).1; have q13 := (g_ok_g oF7 1 rfl).2; have q14 := (g_ok_g oF7 2 rfl).1; have q15 := (g_ok_g oF7 2 rfl).2; have q16 := (g_ok_g oF77 1 rfl).1; have q17 := (g_ok_g oF77 1 rfl).2; have q18 := (g_ok_g oF77 8 rfl).1; have q19 := (g_ok_g oF77 8 rfl).2; have q20 := (g_ok_g oF85 1 rfl).1; have q21 := (g_ok_g oF85 1 rfl).2; have q22 := (g_ok_g oF85 8 rfl).1; have q23 := (g_ok_g oF85 8 rfl).2; have q24 := p18.1; have q25 := p18.2; have q26 := p44.1; have q27 := p44.2; have q28 := pr9.1; have q29 := pr9.2; have q30 := zx80.2.1; have q31 := zx80.2.2; have q32 := zx84.2.1; have q33 := zx84.2.2; have q34 := fk.2.2; have q35 := (congrArg Int32.toInt zx12); have q36 := (@g_here_lt F7 R8); have q37 := (congrArg Int32.toInt (show F7 16 = F 16 from (fF7 16 rfl))); have q38 := zx16.1; have q39 := zx16.2; have q40 := (gc_eq zc17); have q41 := (congrArg Int32.toInt zx22); have q42 := (@g_here_lt F7 R8); have q43 := (congrArg Int32.toInt (show F7 16 = F 16 from (fF7 16 rfl))); have q44 := (gc_eq zc23); have q45 := hln79; have q46 := (congrArg Int32.toInt (show F77 15 = F7 15 from (cF77 15 rfl))); have q47 := (g_eq0 zx80.1); have q48 := (g_eq0 zx84.1); have q49 := (congrArg Int32.toInt (show F85 26 = x80 from (((g_pu2 hF85 rfl).trans (g_pu2 hF83 rfl)).trans (g_pu1 hF81)))); have q50 := (congrArg Int32.toInt (show F85 15 = x84 from (g_pu1 hF85))); have q51 := (congrArg Int32.toInt (show F85 15 = x84 from (g_pu1 hF85))); omega) (rfl : R78 12 = R78 12)⟩) (Nat.lt_of_lt_of_le (show (2147483647 - (F85 15).toInt).toNat < (2147483647 - (F7 15).toInt).toNat from by have q0 := (jv_k (x := (-1)) (-1) (by decide)).1; have q1 := (jv_k (x := (-1)) (-1) (by decide)).2; have q2 := (g_here_iv F7 R8).1; have q3 := (g_here_iv F7 R8).2; have q4 := (jv_k (x := 1) 1 (by decide)).1; have q5 := (jv_k (x := 1) 1 (by decide)).2; have q6 := (jv_k (x := 93) 93 (by decide)).1; have q7 := (jv_k (x := 93) 93 (by decide)).2; have q8 := (g_ok_g hI 1 rfl).1; have q9 := (g_ok_g hI 1 rfl).2; have q10 := (g_ok_g hI 2 rfl).1; have q11 := (g_ok_g hI 2 rfl).2; have q12 := (g_ok_g oF7 1 rfl).1; have q13 := (g_ok_g oF7 1 rfl).2; have q14 := (g_ok_g oF7 2 rfl).1; have q15 := (g_ok_g oF7 2 rfl).2; have q16 := (g_ok_g oF77 1 rfl).1; have q17 := (g_ok_g oF77 1 rfl).2; have q18 := (g_ok_g oF77 8 rfl).1; have q19 := (g_ok_g oF77 8 rfl).2; have q20 := (g_ok_g oF85 1 rfl).1; have q21 := (g_ok_g oF85 1 rfl).2; have q22 := (g_ok_g oF85 8 rfl).1; have q23 := (g_ok_g oF85 8 rfl).2; have q24 := p18.1; have q25 := p18.2; have q26 := p44.1; have q27 := p44.2; have q28 := pr9.1; have q29 := pr9.2; have q30 := zx80.2.1; have q31 := zx80.2.2; have q32 := zx84.2.1; have q33 := zx84.2.2; have q34 := fk.2.2; have q35 := (congrArg Int32.toInt zx12); have q36 := (@g_here_lt F7 R8); have q37 := (congrArg Int32.toInt (show F7 16 = F 16 from (fF7 16 rfl))); have q38 := zx16.1; have q39 := zx16.2; have q40 := (gc_eq zc17); have q41 := (congrArg Int32.toInt zx22); have q42 := (@g_here_lt F7 R8); have q43 := (congrArg Int32.toInt (show F7 16 = F 16 from (fF7 16 rfl))); have q44 := (gc_eq zc23); have q45 := hln79; have q46 := (congrArg Int32.toInt (show F77 15 = F7 15 from (cF77 15 rfl))); have q47 := (g_eq0 zx80.1); have q48 := (g_eq0 zx84.1); have q49 := (congrArg Int32.toInt (show F85 26 = x80 from (((g_pu2 hF85 rfl).trans (g_pu2 hF83 rfl)).trans (g_pu1 hF81)))); have q50 := (congrArg Int32.toInt (show F85 15 = x84 from (g_pu1 hF85))); have q51 := (congrArg Int32.toInt (show F85 15 = x84 from (g_pu1 hF85))); have q52 := (congrArg Int32.toInt (show F85 15 = x84 from (g_pu1 hF85))); have q53 := (congrArg Int32.toInt (show F85 15 = x84 from (g_pu1 hF85))); omega) (Nat.le_of_lt_succ hm14))
      · have p86 := gn_neL 0 6 (gc_ne zc17) pr13 (jv_k (x := (-1)) (-1) (by decide)) (by decide)
        refine g_aload_n cx 1 rfl e_X11_readsSum_27 ?_
        refine g_iload_n cx 0 rfl e_X11_readsSum_28 ?_
        refine g_iconst cx 4 (by decide) e_X11_readsSum_29 ?_
        have J38 : ∀ (y87 : Int32), (jv 0 1 y87) → G X E 3 0 0 (wM X ad F7 R8) [(0, .ref (ad 0)), (1, .int (F 26)), (2, .int r13)] 38 [.int y87, .ref (ad 0)] := by
          intro y87 py87
          refine g_cVvW cx [.int y87] [] (w_X11_closesSums l X ad F7 R8 oF7 oR8 wTF7R8 wCF7R8 y87 py87 A ((M ++ L)) ((h + cb M + 1)) ps (by rw [cb_app]; have := cg_0 M; omega)) ml_X11_264 yV_X11_closesSums e_X11_readsSum_38 (by unfold g_rr; decide) (by decide) 0 rfl rfl rfl (Nat.le_of_ble_eq_true rfl) (fun w89 h90 => ?_)
          obtain ⟨F92, R93, rfl, oF92, oR93, wTF92, wCF92, cF92, cR93, zx91⟩ := h90
          have fF92 : g_fr md_X11_readsSum F F92 := g_fr_c fF7 cF92 rfl
          have fR93 : g_fr mr_X11_readsSum R R93 := g_fr_c fR8 cR93 rfl
          obtain ⟨Mn94, Ln94, eLn94, hMn94, qn94, htn94, hkn94, h25n94⟩ := zx91
          obtain ⟨Nn94, eMn94, rfl⟩ := sp_ops eLn94 hMn94 hnb
          have psn94 := PS_cs (M := M) eMn94 hMn94 qn94
          have fkn94 : FK F7 R8 F92 R93 := ⟨hkn94, h25n94, (Int.le_of_eq (congrArg Int32.toInt (cF92 15 rfl)).symm)⟩
          refine g_aload_n cx 0 rfl e_X11_readsSum_41 ?_
          refine g_get cx cl_X11 fl_X11_47 0 (.ref (ad 13)) e_X11_readsSum_42 rfl rfl ?_
          refine g_aload_n cx 0 rfl e_X11_readsSum_45 ?_
          refine g_get cx cl_X11 fl_X11_238 0 (.int (F92 26)) e_X11_readsSum_46 rfl rfl ?_
          refine g_ldc cx 1048576 kc_X11_234 e_X11_readsSum_49 ?_
          refine g_iload_n cx 2 rfl e_X11_readsSum_51 ?_
          refine g_imul cx e_X11_readsSum_52 ?_
          refine g_topi (fun x95 ex95 => ?_)
          have zx95 := jv_mul 0 6291456 ex95 (jv_k (x := 1048576) 1048576 (by decide)) p86 (by decide)
          refine g_iast cx 13 (wM X ad F92 (g_u R93 13 (upd (R93 13) (Int32.toNatClampNeg (F92 26)) x95))) e_X11_readsSum_53 rfl (vp_in_iff.mpr ⟨by have q0 := (jv_k (x := (-1)) (-1) (by decide)).1; have q1 := (jv_k (x := (-1)) (-1) (by decide)).2; have q2 := (g_here_iv F7 R8).1; have q3 := (g_here_iv F7 R8).2; have q4 := (g_ok_g hI 1 rfl).1; have q5 := (g_ok_g hI 1 rfl).2; have q6 := (g_ok_g hI 2 rfl).1; have q7 := (g_ok_g hI 2 rfl).2; have q8 := (g_ok_g oF7 1 rfl).1; have q9 := (g_ok_g oF7 1 rfl).2; have q10 := (g_ok_g oF7 2 rfl).1; have q11 := (g_ok_g oF7 2 rfl).2; have q12 := (g_ok_g oF92 1 rfl).1; have q13 := (g_ok_g oF92 1 rfl).2; have q14 := (g_ok_g oF92 8 rfl).1; have q15 := (g_ok_g oF92 8 rfl).2; have q16 := p86.1; have q17 := p86.2; have q18 := pr9.1; have q19 := pr9.2; have q20 := zx95.2.1; have q21 := zx95.2.2; have q22 := fk.2.2; have q23 := (congrArg Int32.toInt zx12); have q24 := (@g_here_lt F7 R8); have q25 := (congrArg Int32.toInt (show F7 16 = F 16 from (fF7 16 rfl))); have q26 := zx16.1; have q27 := zx16.2; have q28 := (gc_ne zc17); have q29 := psn94.2.2.1; have q30 := psn94.2.2.2.2.2; have q31 := (congrArg Int32.toInt (show F92 15 = F7 15 from (cF92 15 rfl))); have q32 := (g_em2 zx95.1 (by decide : Int32.toInt 1048576 = 1048576)); omega, by have q0 := (jv_k (x := (-1)) (-1) (by decide)).1; have q1 := (jv_k (x := (-1)) (-1) (by decide)).2; have q2 := (g_here_iv F7 R8).1; have q3 := (g_here_iv F7 R8).2; have q4 := (g_ok_g hI 1 rfl).1; have q5 := (g_ok_g hI 1 rfl).2; have q6 := (g_ok_g hI 2 rfl).1; have q7 := (g_ok_g hI 2 rfl).2; have q8 := (g_ok_g oF7 1 rfl).1; have q9 := (g_ok_g oF7 1 rfl).2; have q10 := (g_ok_g oF7 2 rfl).1; have q11 := (g_ok_g oF7 2 rfl).2; have q12 := (g_ok_g oF92 1 rfl).1; have q13 := (g_ok_g oF92 1 rfl).2; have q14 := (g_ok_g oF92 8 rfl).1; have q15 := (g_ok_g oF92 8 rfl).2; have q16 := p86.1; have q17 := p86.2; have q18 := pr9.1; have q19 := pr9.2; have q20 := zx95.2.1; have q21 := zx95.2.2; have q22 := fk.2.2; have q23 := (congrArg Int32.toInt zx12); have q24 := (@g_here_lt F7 R8); have q25 := (congrArg Int32.toInt (show F7 16 = F 16 from (fF7 16 rfl))); have q26 := zx16.1; have q27 := zx16.2; have q28 := (gc_ne zc17); have q29 := psn94.2.2.1; have q30 := psn94.2.2.2.2.2; have q31 := (congrArg Int32.toInt (show F92 15 = F7 15 from (cF92 15 rfl))); have q32 := (g_em2 zx95.1 (by decide : Int32.toInt 1048576 = 1048576)); omega⟩) rfl ?_
          obtain ⟨R96, hR96⟩ : ∃ z, z = g_u R93 13 (upd (R93 13) (Int32.toNatClampNeg (F92 26)) x95) := ⟨_, rfl⟩
          rw [← hR96]
          have oR96 : g_okR LA_wM R96 := by rw [hR96]; exact g_okR_p oR93 zx95.2 rfl
          have fR96 : g_fr mr_X11_readsSum R R96 := by rw [hR96]; exact g_fr_r fR93 rfl
          have wTR96 : WT F92 R96 := by rw [hR96]; exact WT_r wTF92 rfl
          have wCR96 : WC F92 R96 := by rw [hR96]; exact WC_r wCF92 rfl
          refine g_aload_n cx 0 rfl e_X11_readsSum_54 ?_
          refine g_aload_n cx 0 rfl e_X11_readsSum_55 ?_
          refine g_get cx cl_X11 fl_X11_238 0 (.int (F92 26)) e_X11_readsSum_56 rfl rfl ?_
          refine g_iconst cx 1 (by decide) e_X11_readsSum_59 ?_
          refine g_iadd cx e_X11_readsSum_60 ?_
          refine g_topi (fun x97 ex97 => ?_)
          have zx97 := jv_add 1 221 ex97 (g_ok_g oF92 8 rfl) (jv_k (x := 1) 1 (by decide)) (by decide)
          refine g_put cx cl_X11 fl_X11_238 0 (wM X ad (upd F92 26 x97) R96) e_X11_readsSum_61 rfl rfl rfl rfl (Nat.le_of_ble_eq_true rfl) rfl ?_
          obtain ⟨F98, hF98⟩ : ∃ z, z = upd F92 26 x97 := ⟨_, rfl⟩
          rw [← hF98]
          have oF98 : g_ok LK_wM F98 := by rw [hF98]; exact g_ok_p oF92 (show jv 0 220 _ from ⟨by have q0 := (jv_k (x := (-1)) (-1) (by decide)).1; have q1 := (jv_k (x := (-1)) (-1) (by decide)).2; have q2 := (g_here_iv F7 R8).1; have q3 := (g_here_iv F7 R8).2; have q4 := (jv_k (x := 1) 1 (by decide)).1; have q5 := (jv_k (x := 1) 1 (by decide)).2; have q6 := (g_ok_g hI 1 rfl).1; have q7 := (g_ok_g hI 1 rfl).2; have q8 := (g_ok_g hI 2 rfl).1; have q9 := (g_ok_g hI 2 rfl).2; have q10 := (g_ok_g oF7 1 rfl).1; have q11 := (g_ok_g oF7 1 rfl).2; have q12 := (g_ok_g oF7 2 rfl).1; have q13 := (g_ok_g oF7 2 rfl).2; have q14 := (g_ok_g oF92 1 rfl).1; have q15 := (g_ok_g oF92 1 rfl).2; have q16 := (g_ok_g oF92 8 rfl).1; have q17 := (g_ok_g oF92 8 rfl).2; have q18 := p86.1; have q19 := p86.2; have q20 := pr9.1; have q21 := pr9.2; have q22 := zx95.2.1; have q23 := zx95.2.2; have q24 := zx97.2.1; have q25 := zx97.2.2; have q26 := fk.2.2; have q27 := (congrArg Int32.toInt zx12); have q28 := (@g_here_lt F7 R8); have q29 := (congrArg Int32.toInt (show F7 16 = F 16 from (fF7 16 rfl))); have q30 := zx16.1; have q31 := zx16.2; have q32 := (gc_ne zc17); have q33 := psn94.2.2.1; have q34 := psn94.2.2.2.2.2; have q35 := (congrArg Int32.toInt (show F92 15 = F7 15 from (cF92 15 rfl))); have q36 := (g_em2 zx95.1 (by decide : Int32.toInt 1048576 = 1048576)); have q37 := (g_eq0 zx97.1); omega, by have q0 := (jv_k (x := (-1)) (-1) (by decide)).1; have q1 := (jv_k (x := (-1)) (-1) (by decide)).2; have q2 := (g_here_iv F7 R8).1; have q3 := (g_here_iv F7 R8).2; have q4 := (jv_k (x := 1) 1 (by decide)).1; have q5 := (jv_k (x := 1) 1 (by decide)).2; have q6 := (g_ok_g hI 1 rfl).1; have q7 := (g_ok_g hI 1 rfl).2; have q8 := (g_ok_g hI 2 rfl).1; have q9 := (g_ok_g hI 2 rfl).2; have q10 := (g_ok_g oF7 1 rfl).1; have q11 := (g_ok_g oF7 1 rfl).2; have q12 := (g_ok_g oF7 2 rfl).1; have q13 := (g_ok_g oF7 2 rfl).2; have q14 := (g_ok_g oF92 1 rfl).1; have q15 := (g_ok_g oF92 1 rfl).2; have q16 := (g_ok_g oF92 8 rfl).1; have q17 := (g_ok_g oF92 8 rfl).2; have q18 := p86.1; have q19 := p86.2; have q20 := pr9.1; have q21 := pr9.2; have q22 := zx95.2.1; have q23 := zx95.2.2; have q24 := zx97.2.1; have q25 := zx97.2.2; have q26 := fk.2.2; have q27 := (congrArg Int32.toInt zx12); have q28 := (@g_here_lt F7 R8); have q29 := (congrArg Int32.toInt (show F7 16 = F 16 from (fF7 16 rfl))); have q30 := zx16.1; have q31 := zx16.2; have q32 := (gc_ne zc17); have q33 := psn94.2.2.1; have q34 := psn94.2.2.2.2.2; have q35 := (congrArg Int32.toInt (show F92 15 = F7 15 from (cF92 15 rfl))); have q36 := (g_em2 zx95.1 (by decide : Int32.toInt 1048576 = 1048576)); have q37 := (g_eq0 zx97.1); omega⟩) rfl
          have fF98 : g_fr md_X11_readsSum F F98 := by rw [hF98]; exact g_fr_u fF92 rfl
          have wTF98 : WT F98 R96 := by rw [hF98]; exact WT_u wTR96 rfl
          have wCF98 : WC F98 R96 := by rw [hF98]; exact WC_u wCR96 rfl
          refine g_aload_n cx 0 rfl e_X11_readsSum_64 ?_
          refine g_aload_n cx 0 rfl e_X11_readsSum_65 ?_
          refine g_get cx cl_X11 fl_X11_190 0 (.int (F98 15)) e_X11_readsSum_66 rfl rfl ?_
          refine g_toi (F7 15) ((g_pu2 hF98 rfl).trans (cF92 15 rfl)) ?_
          refine g_iconst cx 1 (by decide) e_X11_readsSum_69 ?_
          refine g_iadd cx e_X11_readsSum_70 ?_
          refine g_topi (fun x99 ex99 => ?_)
          have zx99 := jv_add 1 221 ex99 (g_ok_g oF7 1 rfl) (jv_k (x := 1) 1 (by decide)) (by decide)
          refine g_put cx cl_X11 fl_X11_190 0 (wM X ad (upd F98 15 x99) R96) e_X11_readsSum_71 rfl rfl rfl rfl (Nat.le_of_ble_eq_true rfl) rfl ?_
          obtain ⟨F100, hF100⟩ : ∃ z, z = upd F98 15 x99 := ⟨_, rfl⟩
          rw [← hF100]
          have oF100 : g_ok LK_wM F100 := by rw [hF100]; exact g_ok_p oF98 (show jv 0 220 _ from ⟨by have q0 := (jv_k (x := (-1)) (-1) (by decide)).1; have q1 := (jv_k (x := (-1)) (-1) (by decide)).2; have q2 := (g_here_iv F7 R8).1; have q3 := (g_here_iv F7 R8).2; have q4 := (jv_k (x := 1) 1 (by decide)).1; have q5 := (jv_k (x := 1) 1 (by decide)).2; have q6 := (g_ok_g hI 1 rfl).1; have q7 := (g_ok_g hI 1 rfl).2; have q8 := (g_ok_g hI 2 rfl).1; have q9 := (g_ok_g hI 2 rfl).2; have q10 := (g_ok_g oF7 1 rfl).1; have q11 := (g_ok_g oF7 1 rfl).2; have q12 := (g_ok_g oF7 2 rfl).1; have q13 := (g_ok_g oF7 2 rfl).2; have q14 := (g_ok_g oF92 1 rfl).1; have q15 := (g_ok_g oF92 1 rfl).2; have q16 := (g_ok_g oF92 8 rfl).1; have q17 := (g_ok_g oF92 8 rfl).2; have q18 := p86.1; have q19 := p86.2; have q20 := pr9.1; have q21 := pr9.2; have q22 := zx95.2.1; have q23 := zx95.2.2; have q24 := zx97.2.1; have q25 := zx97.2.2; have q26 := zx99.2.1; have q27 := zx99.2.2; have q28 := fk.2.2; have q29 := (congrArg Int32.toInt zx12); have q30 := (@g_here_lt F7 R8); have q31 := (congrArg Int32.toInt (show F7 16 = F 16 from (fF7 16 rfl))); have q32 := zx16.1; have q33 := zx16.2; have q34 := (gc_ne zc17); have q35 := psn94.2.2.1; have q36 := psn94.2.2.2.2.2; have q37 := (congrArg Int32.toInt (show F92 15 = F7 15 from (cF92 15 rfl))); have q38 := (g_em2 zx95.1 (by decide : Int32.toInt 1048576 = 1048576)); have q39 := (g_eq0 zx97.1); have q40 := (g_eq0 zx99.1); omega, by have q0 := (jv_k (x := (-1)) (-1) (by decide)).1; have q1 := (jv_k (x := (-1)) (-1) (by decide)).2; have q2 := (g_here_iv F7 R8).1; have q3 := (g_here_iv F7 R8).2; have q4 := (jv_k (x := 1) 1 (by decide)).1; have q5 := (jv_k (x := 1) 1 (by decide)).2; have q6 := (g_ok_g hI 1 rfl).1; have q7 := (g_ok_g hI 1 rfl).2; have q8 := (g_ok_g hI 2 rfl).1; have q9 := (g_ok_g hI 2 rfl).2; have q10 := (g_ok_g oF7 1 rfl).1; have q11 := (g_ok_g oF7 1 rfl).2; have q12 := (g_ok_g oF7 2 rfl).1; have q13 := (g_ok_g oF7 2 rfl).2; have q14 := (g_ok_g oF92 1 rfl).1; have q15 := (g_ok_g oF92 1 rfl).2; have q16 := (g_ok_g oF92 8 rfl).1; have q17 := (g_ok_g oF92 8 rfl).2; have q18 := p86.1; have q19 := p86.2; have q20 := pr9.1; have q21 := pr9.2; have q22 := zx95.2.1; have q23 := zx95.2.2; have q24 := zx97.2.1; have q25 := zx97.2.2; have q26 := zx99.2.1; have q27 := zx99.2.2; have q28 := fk.2.2; have q29 := (congrArg Int32.toInt zx12); have q30 := (@g_here_lt F7 R8); have q31 := (congrArg Int32.toInt (show F7 16 = F 16 from (fF7 16 rfl))); have q32 := zx16.1; have q33 := zx16.2; have q34 := (gc_ne zc17); have q35 := psn94.2.2.1; have q36 := psn94.2.2.2.2.2; have q37 := (congrArg Int32.toInt (show F92 15 = F7 15 from (cF92 15 rfl))); have q38 := (g_em2 zx95.1 (by decide : Int32.toInt 1048576 = 1048576)); have q39 := (g_eq0 zx97.1); have q40 := (g_eq0 zx99.1); omega⟩) rfl
          have fF100 : g_fr md_X11_readsSum F F100 := by rw [hF100]; exact g_fr_u fF98 rfl
          have wTF100 : WT F100 R96 := by rw [hF100]; exact WT_u wTF98 rfl
          have wCF100 : WC F100 R96 := by rw [hF100]; exact WC_u wCF98 rfl
          have hsn94 : 2 ≤ (r13 : Int32).toInt ∧ (r13 : Int32).toInt ≤ 6 := by have hs0 := (show 2 ≤ (r13 : Int32).toInt from by have q0 := (jv_k (x := (-1)) (-1) (by decide)).1; have q1 := (jv_k (x := (-1)) (-1) (by decide)).2; have q2 := (g_here_iv F7 R8).1; have q3 := (g_here_iv F7 R8).2; have q4 := (jv_k (x := 1) 1 (by decide)).1; have q5 := (jv_k (x := 1) 1 (by decide)).2; have q6 := (g_ok_g hI 1 rfl).1; have q7 := (g_ok_g hI 1 rfl).2; have q8 := (g_ok_g hI 2 rfl).1; have q9 := (g_ok_g hI 2 rfl).2; have q10 := (g_ok_g oF7 1 rfl).1; have q11 := (g_ok_g oF7 1 rfl).2; have q12 := (g_ok_g oF7 2 rfl).1; have q13 := (g_ok_g oF7 2 rfl).2; have q14 := (g_ok_g oF92 1 rfl).1; have q15 := (g_ok_g oF92 1 rfl).2; have q16 := (g_ok_g oF92 8 rfl).1; have q17 := (g_ok_g oF92 8 rfl).2; have q18 := p86.1; have q19 := p86.2; have q20 := pr9.1; have q21 := pr9.2; have q22 := zx95.2.1; have q23 := zx95.2.2; have q24 := zx97.2.1; have q25 := zx97.2.2; have q26 := zx99.2.1; have q27 := zx99.2.2; have q28 := fk.2.2; have q29 := (congrArg Int32.toInt zx12); have q30 := (@g_here_lt F7 R8); have q31 := (congrArg Int32.toInt (show F7 16 = F 16 from (fF7 16 rfl))); have q32 := zx16.1; have q33 := zx16.2; have q34 := (gc_ne zc17); have q35 := psn94.2.2.1; have q36 := psn94.2.2.2.2.2; have q37 := (congrArg Int32.toInt (show F92 15 = F7 15 from (cF92 15 rfl))); have q38 := (g_em2 zx95.1 (by decide : Int32.toInt 1048576 = 1048576)); have q39 := (g_eq0 zx97.1); have q40 := (g_eq0 zx99.1); omega); have hs1 := (show (r13 : Int32).toInt ≤ 6 from by have q0 := (jv_k (x := (-1)) (-1) (by decide)).1; have q1 := (jv_k (x := (-1)) (-1) (by decide)).2; have q2 := (g_here_iv F7 R8).1; have q3 := (g_here_iv F7 R8).2; have q4 := (jv_k (x := 1) 1 (by decide)).1; have q5 := (jv_k (x := 1) 1 (by decide)).2; have q6 := (g_ok_g hI 1 rfl).1; have q7 := (g_ok_g hI 1 rfl).2; have q8 := (g_ok_g hI 2 rfl).1; have q9 := (g_ok_g hI 2 rfl).2; have q10 := (g_ok_g oF7 1 rfl).1; have q11 := (g_ok_g oF7 1 rfl).2; have q12 := (g_ok_g oF7 2 rfl).1; have q13 := (g_ok_g oF7 2 rfl).2; have q14 := (g_ok_g oF92 1 rfl).1; have q15 := (g_ok_g oF92 1 rfl).2; have q16 := (g_ok_g oF92 8 rfl).1; have q17 := (g_ok_g oF92 8 rfl).2; have q18 := p86.1; have q19 := p86.2; have q20 := pr9.1; have q21 := pr9.2; have q22 := zx95.2.1; have q23 := zx95.2.2; have q24 := zx97.2.1; have q25 := zx97.2.2; have q26 := zx99.2.1; have q27 := zx99.2.2; have q28 := fk.2.2; have q29 := (congrArg Int32.toInt zx12); have q30 := (@g_here_lt F7 R8); have q31 := (congrArg Int32.toInt (show F7 16 = F 16 from (fF7 16 rfl))); have q32 := zx16.1; have q33 := zx16.2; have q34 := (gc_ne zc17); have q35 := psn94.2.2.1; have q36 := psn94.2.2.2.2.2; have q37 := (congrArg Int32.toInt (show F92 15 = F7 15 from (cF92 15 rfl))); have q38 := (g_em2 zx95.1 (by decide : Int32.toInt 1048576 = 1048576)); have q39 := (g_eq0 zx97.1); have q40 := (g_eq0 zx99.1); omega); constructor <;> omega
          have psn101 : PS F100 R96 A (((r13 : Int32).toInt, 0) :: (Nn94 ++ L)) (h + cb Nn94 + 1) := PS_push (v := x95) psn94 ⟨by omega, by omega, by omega⟩ (by have q0 := (jv_k (x := (-1)) (-1) (by decide)).1; have q1 := (jv_k (x := (-1)) (-1) (by decide)).2; have q2 := (g_here_iv F7 R8).1; have q3 := (g_here_iv F7 R8).2; have q4 := (jv_k (x := 1) 1 (by decide)).1; have q5 := (jv_k (x := 1) 1 (by decide)).2; have q6 := (g_ok_g hI 1 rfl).1; have q7 := (g_ok_g hI 1 rfl).2; have q8 := (g_ok_g hI 2 rfl).1; have q9 := (g_ok_g hI 2 rfl).2; have q10 := (g_ok_g oF7 1 rfl).1; have q11 := (g_ok_g oF7 1 rfl).2; have q12 := (g_ok_g oF7 2 rfl).1; have q13 := (g_ok_g oF7 2 rfl).2; have q14 := (g_ok_g oF92 1 rfl).1; have q15 := (g_ok_g oF92 1 rfl).2; have q16 := (g_ok_g oF92 8 rfl).1; have q17 := (g_ok_g oF92 8 rfl).2; have q18 := p86.1; have q19 := p86.2; have q20 := pr9.1; have q21 := pr9.2; have q22 := zx95.2.1; have q23 := zx95.2.2; have q24 := zx97.2.1; have q25 := zx97.2.2; have q26 := zx99.2.1; have q27 := zx99.2.2; have q28 := fk.2.2; have q29 := (congrArg Int32.toInt zx12); have q30 := (@g_here_lt F7 R8); have q31 := (congrArg Int32.toInt (show F7 16 = F 16 from (fF7 16 rfl))); have q32 := zx16.1; have q33 := zx16.2; have q34 := (gc_ne zc17); have q35 := psn94.2.2.1; have q36 := psn94.2.2.2.2.2; have q37 := (congrArg Int32.toInt (show F92 15 = F7 15 from (cF92 15 rfl))); have q38 := (g_em2 zx95.1 (by decide : Int32.toInt 1048576 = 1048576)); have q39 := (g_eq0 zx97.1); have q40 := (g_eq0 zx99.1); omega) ((g_pu2 hF100 rfl).trans (g_pu2 hF98 rfl)) (by have q0 := (jv_k (x := (-1)) (-1) (by decide)).1; have q1 := (jv_k (x := (-1)) (-1) (by decide)).2; have q2 := (g_here_iv F7 R8).1; have q3 := (g_here_iv F7 R8).2; have q4 := (jv_k (x := 1) 1 (by decide)).1; have q5 := (jv_k (x := 1) 1 (by decide)).2; have q6 := (g_ok_g hI 1 rfl).1; have q7 := (g_ok_g hI 1 rfl).2; have q8 := (g_ok_g hI 2 rfl).1; have q9 := (g_ok_g hI 2 rfl).2; have q10 := (g_ok_g oF100 8 rfl).1; have q11 := (g_ok_g oF100 8 rfl).2; have q12 := (g_ok_g oF7 1 rfl).1; have q13 := (g_ok_g oF7 1 rfl).2; have q14 := (g_ok_g oF7 2 rfl).1; have q15 := (g_ok_g oF7 2 rfl).2; have q16 := (g_ok_g oF92 1 rfl).1; have q17 := (g_ok_g oF92 1 rfl).2; have q18 := (g_ok_g oF92 8 rfl).1; have q19 := (g_ok_g oF92 8 rfl).2; have q20 := p86.1; have q21 := p86.2; have q22 := pr9.1; have q23 := pr9.2; have q24 := zx95.2.1; have q25 := zx95.2.2; have q26 := zx97.2.1; have q27 := zx97.2.2; have q28 := zx99.2.1; have q29 := zx99.2.2; have q30 := fk.2.2; have q31 := (congrArg Int32.toInt zx12); have q32 := (@g_here_lt F7 R8); have q33 := (congrArg Int32.toInt (show F7 16 = F 16 from (fF7 16 rfl))); have q34 := zx16.1; have q35 := zx16.2; have q36 := (gc_ne zc17); have q37 := psn94.2.2.1; have q38 := psn94.2.2.2.2.2; have q39 := (congrArg Int32.toInt (show F92 15 = F7 15 from (cF92 15 rfl))); have q40 := (g_em2 zx95.1 (by decide : Int32.toInt 1048576 = 1048576)); have q41 := (g_eq0 zx97.1); have q42 := (g_eq0 zx99.1); have q43 := (congrArg Int32.toInt (show F100 26 = x97 from ((g_pu2 hF100 rfl).trans (g_pu1 hF98)))); omega) (by have q0 := (jv_k (x := (-1)) (-1) (by decide)).1; have q1 := (jv_k (x := (-1)) (-1) (by decide)).2; have q2 := (g_here_iv F7 R8).1; have q3 := (g_here_iv F7 R8).2; have q4 := (jv_k (x := 1) 1 (by decide)).1; have q5 := (jv_k (x := 1) 1 (by decide)).2; have q6 := (g_ok_g hI 1 rfl).1; have q7 := (g_ok_g hI 1 rfl).2; have q8 := (g_ok_g hI 2 rfl).1; have q9 := (g_ok_g hI 2 rfl).2; have q10 := (g_ok_g oF100 1 rfl).1; have q11 := (g_ok_g oF100 1 rfl).2; have q12 := (g_ok_g oF100 8 rfl).1; have q13 := (g_ok_g oF100 8 rfl).2; have q14 := (g_ok_g oF7 1 rfl).1; have q15 := (g_ok_g oF7 1 rfl).2; have q16 := (g_ok_g oF7 2 rfl).1; have q17 := (g_ok_g oF7 2 rfl).2; have q18 := (g_ok_g oF92 1 rfl).1; have q19 := (g_ok_g oF92 1 rfl).2; have q20 := (g_ok_g oF92 8 rfl).1; have q21 := (g_ok_g oF92 8 rfl).2; have q22 := p86.1; have q23 := p86.2; have q24 := pr9.1; have q25 := pr9.2; have q26 := zx95.2.1; have q27 := zx95.2.2; have q28 := zx97.2.1; have q29 := zx97.2.2; have q30 := zx99.2.1; have q31 := zx99.2.2; have q32 := fk.2.2; have q33 := (congrArg Int32.toInt zx12); have q34 := (@g_here_lt F7 R8); have q35 := (congrArg Int32.toInt (show F7 16 = F 16 from (fF7 16 rfl))); have q36 := zx16.1; have q37 := zx16.2; have q38 := (gc_ne zc17); have q39 := psn94.2.2.1; have q40 := psn94.2.2.2.2.2; have q41 := (congrArg Int32.toInt (show F92 15 = F7 15 from (cF92 15 rfl))); have q42 := (g_em2 zx95.1 (by decide : Int32.toInt 1048576 = 1048576)); have q43 := (g_eq0 zx97.1); have q44 := (g_eq0 zx99.1); have q45 := (congrArg Int32.toInt (show F100 26 = x97 from ((g_pu2 hF100 rfl).trans (g_pu1 hF98)))); have q46 := (congrArg Int32.toInt (show F100 15 = x99 from (g_pu1 hF100))); omega) (g_ru2 hR96 rfl) (g_ru1 hR96)
          have fk74 : FK F R F100 R96 := FK_e (FK_tr fk fkn94) ((g_pu2 hF100 rfl).trans (g_pu2 hF98 rfl)) (by have q0 := (jv_k (x := (-1)) (-1) (by decide)).1; have q1 := (jv_k (x := (-1)) (-1) (by decide)).2; have q2 := (g_here_iv F7 R8).1; have q3 := (g_here_iv F7 R8).2; have q4 := (jv_k (x := 1) 1 (by decide)).1; have q5 := (jv_k (x := 1) 1 (by decide)).2; have q6 := (g_ok_g hI 1 rfl).1; have q7 := (g_ok_g hI 1 rfl).2; have q8 := (g_ok_g hI 2 rfl).1; have q9 := (g_ok_g hI 2 rfl).2; have q10 := (g_ok_g oF100 1 rfl).1; have q11 := (g_ok_g oF100 1 rfl).2; have q12 := (g_ok_g oF100 8 rfl).1; have q13 := (g_ok_g oF100 8 rfl).2; have q14 := (g_ok_g oF7 1 rfl).1; have q15 := (g_ok_g oF7 1 rfl).2; have q16 := (g_ok_g oF7 2 rfl).1; have q17 := (g_ok_g oF7 2 rfl).2; have q18 := (g_ok_g oF92 1 rfl).1; have q19 := (g_ok_g oF92 1 rfl).2; have q20 := (g_ok_g oF92 8 rfl).1; have q21 := (g_ok_g oF92 8 rfl).2; have q22 := p86.1; have q23 := p86.2; have q24 := pr9.1; have q25 := pr9.2; have q26 := zx95.2.1; have q27 := zx95.2.2; have q28 := zx97.2.1; have q29 := zx97.2.2; have q30 := zx99.2.1; have q31 := zx99.2.2; have q32 := fk.2.2; have q33 := (congrArg Int32.toInt zx12); have q34 := (@g_here_lt F7 R8); have q35 := (congrArg Int32.toInt (show F7 16 = F 16 from (fF7 16 rfl))); have q36 := zx16.1; have q37 := zx16.2; have q38 := (gc_ne zc17); have q39 := psn94.2.2.1; have q40 := psn94.2.2.2.2.2; have q41 := (congrArg Int32.toInt (show F92 15 = F7 15 from (cF92 15 rfl))); have q42 := (g_em2 zx95.1 (by decide : Int32.toInt 1048576 = 1048576)); have q43 := (g_eq0 zx97.1); have q44 := (g_eq0 zx99.1); have q45 := (congrArg Int32.toInt (show F100 26 = x97 from ((g_pu2 hF100 rfl).trans (g_pu1 hF98)))); have q46 := (congrArg Int32.toInt (show F100 15 = x99 from (g_pu1 hF100))); have q47 := (congrArg Int32.toInt (show F100 15 = x99 from (g_pu1 hF100))); omega) (g_ru2 hR96 rfl)
          refine g_aload_n cx 0 rfl e_X11_readsSum_74 ?_
          refine g_cViW cx [] [] (w_X11_readsFactor l X ad F100 R96 oF100 oR96 wTF100 wCF100 A ((((r13 : Int32).toInt, 0) :: (Nn94 ++ L))) ((h + cb Nn94 + 1)) psn101) ml_X11_258 yV_X11_readsFactor e_X11_readsSum_75 (by unfold g_rr; decide) (by decide) 0 rfl rfl rfl (Nat.le_of_ble_eq_true rfl) (fun r102 w103 h104 => ?_)
          obtain ⟨F106, R107, rfl, oF106, oR107, wTF106, wCF106, cF106, cR107, pr102, zx105⟩ := h104
          have fF106 : g_fr md_X11_readsSum F F106 := g_fr_c fF100 cF106 rfl
          have fR107 : g_fr mr_X11_readsSum R R107 := g_fr_c fR96 cR107 rfl
          refine g_if_ne cx 163 e_X11_readsSum_78 (by decide) (fun zc108 => ?_) (fun zc108 => ?_)
          · have p109 := gn_neL 1 1 (gc_ne zc108) pr102 (jv_k (x := 0) 0 (by decide)) (by decide)
            obtain ⟨Kk110, hKk110, qk110, fkk110⟩ := (zx105 zc108)
            refine g_goto cx 14 e_X11_readsSum_163 (by decide) ?_
            refine g_lsub [0, 1] [(0, .ref (ad 0)), (1, .int (F 26))] rfl ?_
            exact ih14 F106 R107 oF106 fF106 oR107 fR107 wTF106 wCF106 (by obtain ⟨M, m1, m2⟩ := rs_sign hsn94 (fun q hq => hM q (by rw [eMn94]; exact List.mem_append_right _ hq)) hKk110 qk110; exact ⟨M, m1, m2, FK_tr fk74 fkk110⟩) (Nat.lt_of_lt_of_le (show (2147483647 - (F106 15).toInt).toNat < (2147483647 - (F7 15).toInt).toNat from by have q0 := (jv_k (x := (-1)) (-1) (by decide)).1; have q1 := (jv_k (x := (-1)) (-1) (by decide)).2; have q2 := (g_here_iv F7 R8).1; have q3 := (g_here_iv F7 R8).2; have q4 := (jv_k (x := 1) 1 (by decide)).1; have q5 := (jv_k (x := 1) 1 (by decide)).2; have q6 := (g_ok_g hI 1 rfl).1; have q7 := (g_ok_g hI 1 rfl).2; have q8 := (g_ok_g hI 2 rfl).1; have q9 := (g_ok_g hI 2 rfl).2; have q10 := (g_ok_g oF100 1 rfl).1; have q11 := (g_ok_g oF100 1 rfl).2; have q12 := (g_ok_g oF100 8 rfl).1; have q13 := (g_ok_g oF100 8 rfl).2; have q14 := (g_ok_g oF106 1 rfl).1; have q15 := (g_ok_g oF106 1 rfl).2; have q16 := (g_ok_g oF7 1 rfl).1; have q17 := (g_ok_g oF7 1 rfl).2; have q18 := (g_ok_g oF7 2 rfl).1; have q19 := (g_ok_g oF7 2 rfl).2; have q20 := (g_ok_g oF92 1 rfl).1; have q21 := (g_ok_g oF92 1 rfl).2; have q22 := (g_ok_g oF92 8 rfl).1; have q23 := (g_ok_g oF92 8 rfl).2; have q24 := p86.1; have q25 := p86.2; have q26 := pr9.1; have q27 := pr9.2; have q28 := zx95.2.1; have q29 := zx95.2.2; have q30 := zx97.2.1; have q31 := zx97.2.2; have q32 := zx99.2.1; have q33 := zx99.2.2; have q34 := fk.2.2; have q35 := (congrArg Int32.toInt zx12); have q36 := (@g_here_lt F7 R8); have q37 := (congrArg Int32.toInt (show F7 16 = F 16 from (fF7 16 rfl))); have q38 := zx16.1; have q39 := zx16.2; have q40 := (gc_ne zc17); have q41 := psn94.2.2.1; have q42 := psn94.2.2.2.2.2; have q43 := (congrArg Int32.toInt (show F92 15 = F7 15 from (cF92 15 rfl))); have q44 := (g_em2 zx95.1 (by decide : Int32.toInt 1048576 = 1048576)); have q45 := (g_eq0 zx97.1); have q46 := (g_eq0 zx99.1); have q47 := (congrArg Int32.toInt (show F100 26 = x97 from ((g_pu2 hF100 rfl).trans (g_pu1 hF98)))); have q48 := (congrArg Int32.toInt (show F100 15 = x99 from (g_pu1 hF100))); have q49 := (congrArg Int32.toInt (show F100 15 = x99 from (g_pu1 hF100))); have q50 := fkk110.2.2; have q51 := (congrArg Int32.toInt (show F100 15 = x99 from (g_pu1 hF100))); omega) (Nat.le_of_lt_succ hm14))
          · have p111 := gn_eq 0 0 (gc_eq zc108) pr102 (jv_k (x := 0) 0 (by decide)) (by decide)
            refine g_iconst cx 0 (by decide) e_X11_readsSum_81 ?_
            exact hret e_X11_readsSum_82 (Nat.le_of_ble_eq_true rfl) (Nat.le_of_ble_eq_true rfl) rfl ⟨F106, R107, rfl, oF106, oR107, wTF106, wCF106, fF106, fR107, (jv_w (jv_k (x := 0) 0 (by decide)) (by decide)), (fun h0 => absurd (by first | rfl | exact jv_c 0 (jv_k (x := 0) 0 (by decide)) (by decide)) h0)⟩
        refine g_icmp_ge cx 37 e_X11_readsSum_30 (by decide) (fun zc112 => ?_) (fun zc112 => ?_)
        · have p113 := gn_ge 4 6 (gc_le zc112) p86 (jv_k (x := 4) 4 (by decide)) (by decide)
          refine g_iconst cx 0 (by decide) e_X11_readsSum_37 ?_
          refine g_lsub [1, 2, 0] [(0, .ref (ad 0)), (1, .int (F 26)), (2, .int r13)] rfl ?_
          exact J38 0 (jv_w (jv_k (x := 0) 0 (by decide)) (by decide))
        · have p114 := gn_lt 0 3 (gc_nle zc112) p86 (jv_k (x := 4) 4 (by decide)) (by decide)
          refine g_iconst cx 1 (by decide) e_X11_readsSum_33 ?_
          refine g_goto cx 38 e_X11_readsSum_34 (by decide) ?_
          refine g_lsub [1, 2, 0] [(0, .ref (ad 0)), (1, .int (F 26)), (2, .int r13)] rfl ?_
          exact J38 1 (jv_w (jv_k (x := 1) 1 (by decide)) (by decide))
  refine g_if_ne cx 14 e_X11_readsSum_9 (by decide) (fun zc115 => ?_) (fun zc115 => ?_)
  · have p116 := gn_neL 1 1 (gc_ne zc115) pr1 (jv_k (x := 0) 0 (by decide)) (by decide)
    obtain ⟨Kk117, hKk117, qk117, fkk117⟩ := (zx4 zc115)
    refine g_lsub [1, 0] [(0, .ref (ad 0)), (1, .int (F 26))] rfl ?_
    exact J14 _ F5 R6 oF5 fF5 oR6 fR6 wTF5 wCF5 (by obtain ⟨M, m1, m2⟩ := rs_first hKk117 qk117; exact ⟨M, m1, m2, fkk117⟩) (Nat.lt_succ_self _)
  · have p118 := gn_eq 0 0 (gc_eq zc115) pr1 (jv_k (x := 0) 0 (by decide)) (by decide)
    refine g_iconst cx 0 (by decide) e_X11_readsSum_12 ?_
    exact hret e_X11_readsSum_13 (Nat.le_of_ble_eq_true rfl) (Nat.le_of_ble_eq_true rfl) rfl ⟨F5, R6, rfl, oF5, oR6, wTF5, wCF5, fF5, fR6, (jv_w (jv_k (x := 0) 0 (by decide)) (by decide)), (fun h0 => absurd (by first | rfl | exact jv_c 0 (jv_k (x := 0) 0 (by decide)) (by decide)) h0)⟩
