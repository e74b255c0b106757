theorem cb_app : ∀ M L : List (Int × Nat), cb (M ++ L) = cb M + cb L
  | [], L => by simp [cb]
  | q :: M, L => by
    have h := cb_app M L
    show cb (M ++ L) + _ = cb M + _ + cb L
    omega
theorem cb_ops : ∀ {M : List (Int × Nat)}, (∀ q ∈ M, 2 ≤ q.1 ∧ q.1 ≤ 6) → cb M = (M.length : Int)
  | [], _ => rfl
  | q :: M, h => by
    have h1 := cb_ops (M := M) (fun p hp => h p (List.mem_cons_of_mem _ hp))
    have h2 := h q List.mem_cons_self
    simp only [cb, List.length_cons]
    rw [if_pos h2]
    omega
theorem sp_ops : ∀ {M' M L L1 : List (Int × Nat)}, M ++ L = M' ++ L1 → (∀ q ∈ M', 2 ≤ q.1 ∧ q.1 ≤ 6) → cb L = 0 → ∃ M2, M = M' ++ M2 ∧ L1 = M2 ++ L
  | [], M, _, _, h, _, _ => ⟨M, rfl, h.symm⟩
  | q :: M', [], L, L1, h, ho, hc => by
    have e : L = q :: (M' ++ L1) := h
    have h2 := ho q List.mem_cons_self
    have h3 := cg_0 (M' ++ L1)
    rw [e, cb, if_pos h2] at hc
    omega
  | q :: M', p :: M, L, L1, h, ho, hc => by
    have e := List.cons.inj (show p :: (M ++ L) = q :: (M' ++ L1) from h)
    obtain ⟨M2, e1, e2⟩ := sp_ops e.2 (fun x hx => ho x (List.mem_cons_of_mem _ hx)) hc
    exact ⟨M2, by rw [e.1, e1]; rfl, e2⟩
theorem PS_cs {F : Nat → Int32} {R : Nat → Nat → Int32} {A : Nat × Nat} {M M' M2 L : List (Int × Nat)} {h : Int} (eM : M = M' ++ M2) (hM : ∀ q ∈ M', 2 ≤ q.1 ∧ q.1 ≤ 6) (p : PS F R A (M2 ++ L) (h + cb M + 1 - M'.length)) : PS F R A (M2 ++ L) (h + cb M2 + 1) := by
  have e : cb M = (M'.length : Int) + cb M2 := by rw [eM, cb_app, cb_ops hM]
  rw [show h + cb M2 + 1 = h + cb M + 1 - (M'.length : Int) from by omega]
  exact p
/-- what a reader leaves alone: all that was said before; its place goes on -/
def FK (F : Nat → Int32) (R : Nat → Nat → Int32) (F' : Nat → Int32) (R' : Nat → Nat → Int32) : Prop := (∀ k, k < (F 25).toInt.toNat → R' 12 k = R 12 k) ∧ (F 25).toInt ≤ (F' 25).toInt ∧ (F 15).toInt ≤ (F' 15).toInt
theorem FK_rf (F : Nat → Int32) (R : Nat → Nat → Int32) : FK F R F R := ⟨fun _ _ => rfl, Int.le_refl _, Int.le_refl _⟩
theorem FK_tr {F F1 F2 : Nat → Int32} {R R1 R2 : Nat → Nat → Int32} (h : FK F R F1 R1) (h2 : FK F1 R1 F2 R2) : FK F R F2 R2 :=
  ⟨fun k hk => (h2.1 k (by have := h.2.1; omega)).trans (h.1 k hk), Int.le_trans h.2.1 h2.2.1, Int.le_trans h.2.2 h2.2.2⟩
theorem FK_e {F F1 F2 : Nat → Int32} {R R1 R2 : Nat → Nat → Int32} (h : FK F R F1 R1) (e25 : F2 25 = F1 25) (e15 : (F1 15).toInt ≤ (F2 15).toInt) (e12 : R2 12 = R1 12) : FK F R F2 R2 :=
  FK_tr h ⟨fun k _ => by rw [e12], by rw [e25]; exact Int.le_refl _, e15⟩
theorem cb_14n {K : List (Int × Nat)} (h : ∀ q ∈ K, q.1 = 14) : cb K = 0 := by
  have e := cb_14 (K := K) [] h
  rw [List.append_nil] at e
  exact e
theorem rs_first {F : Nat → Int32} {R : Nat → Nat → Int32} {A : Nat × Nat} {K L : List (Int × Nat)} {h : Int} (hK : ∀ q ∈ K, q.1 = 14) (p : PS F R A (K ++ L) (h + 1)) : ∃ M : List (Int × Nat), (∀ q ∈ M, 2 ≤ q.1 ∧ q.1 ≤ 6 ∨ q.1 = 14) ∧ PS F R A (M ++ L) (h + cb M + 1) :=
  ⟨K, fun q hq => Or.inr (hK q hq), by rw [show h + cb K + 1 = h + 1 from by have := cb_14n hK; omega]; exact p⟩
theorem rs_sign {F : Nat → Int32} {R : Nat → Nat → Int32} {A : Nat × Nat} {K N L : List (Int × Nat)} {h s : Int} (hs : 2 ≤ s ∧ s ≤ 6) (hN : ∀ q ∈ N, 2 ≤ q.1 ∧ q.1 ≤ 6 ∨ q.1 = 14) (hK : ∀ q ∈ K, q.1 = 14) (p : PS F R A (K ++ ((s, 0) :: (N ++ L))) (h + cb N + 1 + 1)) : ∃ M : List (Int × Nat), (∀ q ∈ M, 2 ≤ q.1 ∧ q.1 ≤ 6 ∨ q.1 = 14) ∧ PS F R A (M ++ L) (h + cb M + 1) := by
  refine ⟨K ++ ((s, 0) :: N), fun q hq => ?_, ?_⟩
  · rcases List.mem_append.mp hq with q1 | q1
    · exact Or.inr (hK q q1)
    · rcases List.mem_cons.mp q1 with q1 | q1
      · rw [q1]; exact Or.inl hs
      · exact hN q q1
  · have e : cb (K ++ ((s, 0) :: N)) = cb N + 1 := by
      rw [cb_14 _ hK]
      simp only [cb]
      rw [if_pos hs]
    rw [show h + cb (K ++ ((s, 0) :: N)) + 1 = h + cb N + 1 + 1 from by omega, List.append_assoc]
    exact p
theorem sp_14 {M M' N L : List (Int × Nat)} (eM : M = M' ++ N) (hM' : ∀ q ∈ M', 2 ≤ q.1 ∧ q.1 ≤ 6) (hM : ∀ q ∈ M, 2 ≤ q.1 ∧ q.1 ≤ 6 ∨ q.1 = 14) (hq : ∃ q ∈ M, q.1 = 14) (ht : tp (N ++ L) < 2 ∨ 6 < tp (N ++ L)) : ∃ (r : Nat) (N2 : List (Int × Nat)), N = (14, r) :: N2 := by
  obtain ⟨q, q1, q2⟩ := hq
  rw [eM] at q1
  rcases List.mem_append.mp q1 with q3 | q3
  · have := hM' q q3
    omega
  · cases N with
    | nil => exact absurd q3 List.not_mem_nil
    | cons p N2 =>
      have h1 := hM p (by rw [eM]; exact List.mem_append_right _ List.mem_cons_self)
      have h2 : tp (p :: N2 ++ L) = p.1 := rfl
      obtain ⟨o, r⟩ := p
      simp only at h1 h2
      have h3 : o = 14 := by omega
      exact ⟨r, N2, by rw [h3]⟩
theorem sp_0 {M M' N L : List (Int × Nat)} (eM : M = M' ++ N) (hM : ∀ q ∈ M, 2 ≤ q.1 ∧ q.1 ≤ 6 ∨ q.1 = 14) (hq : ∀ q ∈ M, q.1 ≠ 14) (ht : tp (N ++ L) < 2 ∨ 6 < tp (N ++ L)) : N = [] := by
  cases N with
  | nil => rfl
  | cons p N2 =>
    have h0 : p ∈ M := by rw [eM]; exact List.mem_append_right _ List.mem_cons_self
    have h1 := hM p h0
    have h3 := hq p h0
    have h2 : tp (p :: N2 ++ L) = p.1 := rfl
    omega
theorem rs_end {F : Nat → Int32} {R : Nat → Nat → Int32} {A : Nat × Nat} {N L : List (Int × Nat)} {h : Int} (e : N = []) (p : PS F R A (N ++ L) (h + cb N + 1)) : PS F R A L (h + 1) := by
  subst e
  have e : h + cb [] + 1 = h + 1 := by simp [cb]
  rw [e] at p
  exact p
theorem rs_pop {F F' : Nat → Int32} {R R' : Nat → Nat → Int32} {A : Nat × Nat} {N L : List (Int × Nat)} {h : Int} {r : Nat} (p : PS F R A (((14, r) :: N) ++ L) (h + cb ((14, r) :: N) + 1)) (e25 : F' 25 = F 25) (e26 : (F' 26).toInt = (F 26).toInt - 1) (e15 : (F 15).toInt ≤ (F' 15).toInt) (e12 : R' 12 = R 12) (e13 : R' 13 = R 13) : PS F' R' A (N ++ L) (h + cb N + 1) := by
  have e : cb ((14, r) :: N) = cb N := by simp [cb]
  rw [e] at p
  exact PS_pop (o := 14) (r := r) p (by omega) e25 e26 e15 e12 e13

def sp_X11_sumSign (F : Nat → Int32) (R : Nat → Nat → Int32) (a0 : Int32) : Int32 :=
  if a0 = 43 then 2 else if a0 = 45 then 3 else if a0 = 42 then 4 else if a0 = 47 then 5 else if a0 = 37 then 6 else (-1)
theorem e_X11_sumSign_0 : g_dc cX11_sumSign 0 (.iload_n 0) 1 1 := ⟨by decide +kernel, rfl⟩
theorem e_X11_sumSign_1 : g_dc cX11_sumSign 1 (.bipush 43) 2 3 := ⟨by decide +kernel, rfl⟩
theorem e_X11_sumSign_3 : g_dc cX11_sumSign 3 (.if_icmp .ne 7) 3 6 := ⟨by decide +kernel, rfl⟩
theorem e_X11_sumSign_6 : g_dc cX11_sumSign 6 (.iconst 2) 1 7 := ⟨by decide +kernel, rfl⟩
theorem e_X11_sumSign_7 : g_dc cX11_sumSign 7 (.goto 45) 3 10 := ⟨by decide +kernel, rfl⟩
theorem e_X11_sumSign_10 : g_dc cX11_sumSign 10 (.iload_n 0) 1 11 := ⟨by decide +kernel, rfl⟩
theorem e_X11_sumSign_11 : g_dc cX11_sumSign 11 (.bipush 45) 2 13 := ⟨by decide +kernel, rfl⟩
theorem e_X11_sumSign_13 : g_dc cX11_sumSign 13 (.if_icmp .ne 7) 3 16 := ⟨by decide +kernel, rfl⟩
theorem e_X11_sumSign_16 : g_dc cX11_sumSign 16 (.iconst 3) 1 17 := ⟨by decide +kernel, rfl⟩
theorem e_X11_sumSign_17 : g_dc cX11_sumSign 17 (.goto 35) 3 20 := ⟨by decide +kernel, rfl⟩
theorem e_X11_sumSign_20 : g_dc cX11_sumSign 20 (.iload_n 0) 1 21 := ⟨by decide +kernel, rfl⟩
theorem e_X11_sumSign_21 : g_dc cX11_sumSign 21 (.bipush 42) 2 23 := ⟨by decide +kernel, rfl⟩
theorem e_X11_sumSign_23 : g_dc cX11_sumSign 23 (.if_icmp .ne 7) 3 26 := ⟨by decide +kernel, rfl⟩
theorem e_X11_sumSign_26 : g_dc cX11_sumSign 26 (.iconst 4) 1 27 := ⟨by decide +kernel, rfl⟩
theorem e_X11_sumSign_27 : g_dc cX11_sumSign 27 (.goto 25) 3 30 := ⟨by decide +kernel, rfl⟩
theorem e_X11_sumSign_30 : g_dc cX11_sumSign 30 (.iload_n 0) 1 31 := ⟨by decide +kernel, rfl⟩
theorem e_X11_sumSign_31 : g_dc cX11_sumSign 31 (.bipush 47) 2 33 := ⟨by decide +kernel, rfl⟩
theorem e_X11_sumSign_33 : g_dc cX11_sumSign 33 (.if_icmp .ne 7) 3 36 := ⟨by decide +kernel, rfl⟩
theorem e_X11_sumSign_36 : g_dc cX11_sumSign 36 (.iconst 5) 1 37 := ⟨by decide +kernel, rfl⟩
theorem e_X11_sumSign_37 : g_dc cX11_sumSign 37 (.goto 15) 3 40 := ⟨by decide +kernel, rfl⟩
theorem e_X11_sumSign_40 : g_dc cX11_sumSign 40 (.iload_n 0) 1 41 := ⟨by decide +kernel, rfl⟩
theorem e_X11_sumSign_41 : g_dc cX11_sumSign 41 (.bipush 37) 2 43 := ⟨by decide +kernel, rfl⟩
theorem e_X11_sumSign_43 : g_dc cX11_sumSign 43 (.if_icmp .ne 8) 3 46 := ⟨by decide +kernel, rfl⟩
theorem e_X11_sumSign_46 : g_dc cX11_sumSign 46 (.bipush 6) 2 48 := ⟨by decide +kernel, rfl⟩
theorem e_X11_sumSign_48 : g_dc cX11_sumSign 48 (.goto 4) 3 51 := ⟨by decide +kernel, rfl⟩
theorem e_X11_sumSign_51 : g_dc cX11_sumSign 51 (.iconst (-1)) 1 52 := ⟨by decide +kernel, rfl⟩
theorem e_X11_sumSign_52 : g_dc cX11_sumSign 52 (.ireturn) 1 53 := ⟨by decide +kernel, rfl⟩
set_option maxHeartbeats 4000000 in
set_option maxRecDepth 100000 in
theorem w_X11_sumSign (l : Launch) (X : gX) (ad : Nat → Nat) (F : Nat → Int32) (R : Nat → Nat → Int32) (hI : g_ok LK_wM F) (hA : g_okR LA_wM R) (a0 : Int32) : g_Ci l X yX11_sumSign cX11_sumSign 1 (some .int) 1 0 0 [.int a0] (wM X ad F R) (fun r w => w = wM X ad F R ∧ jv (-1) 6 r ∧ ((r.toInt = -1 ∨ 2 ≤ r.toInt ∧ r.toInt ≤ 6) ∧ (¬ r.toInt = -1 → 0 ≤ a0.toInt)) ∧ r = sp_X11_sumSign F R a0) := by
  refine g_mi (by decide +kernel) (Nat.le_of_ble_eq_true rfl) (fun E cx hret => ?_)
  obtain ⟨SP, hSP⟩ : ∃ z, z = sp_X11_sumSign F R a0 := ⟨_, rfl⟩
  have hk0 := hSP
  unfold sp_X11_sumSign at hk0
  refine g_iload_n cx 0 rfl e_X11_sumSign_0 ?_
  refine g_bipush cx 43 (by decide) e_X11_sumSign_1 ?_
  refine g_icmp_ne cx 10 e_X11_sumSign_3 (by decide) (fun zc1 => ?_) (fun zc1 => ?_)
  · have hk2 := hk0.trans (if_neg zc1)
    refine g_iload_n cx 0 rfl e_X11_sumSign_10 ?_
    refine g_bipush cx 45 (by decide) e_X11_sumSign_11 ?_
    refine g_icmp_ne cx 20 e_X11_sumSign_13 (by decide) (fun zc3 => ?_) (fun zc3 => ?_)
    · have hk4 := hk2.trans (if_neg zc3)
      refine g_iload_n cx 0 rfl e_X11_sumSign_20 ?_
      refine g_bipush cx 42 (by decide) e_X11_sumSign_21 ?_
      refine g_icmp_ne cx 30 e_X11_sumSign_23 (by decide) (fun zc5 => ?_) (fun zc5 => ?_)
      · have hk6 := hk4.trans (if_neg zc5)
        refine g_iload_n cx 0 rfl e_X11_sumSign_30 ?_
        refine g_bipush cx 47 (by decide) e_X11_sumSign_31 ?_
        refine g_icmp_ne cx 40 e_X11_sumSign_33 (by decide) (fun zc7 => ?_) (fun zc7 => ?_)
        · have hk8 := hk6.trans (if_neg zc7)
          refine g_iload_n cx 0 rfl e_X11_sumSign_40 ?_
          refine g_bipush cx 37 (by decide) e_X11_sumSign_41 ?_
          refine g_icmp_ne cx 51 e_X11_sumSign_43 (by decide) (fun zc9 => ?_) (fun zc9 => ?_)
          · have hk10 := hk8.trans (if_neg zc9)
            refine g_iconst cx (-1) (by decide) e_X11_sumSign_51 ?_
            exact hret e_X11_sumSign_52 (Nat.le_of_ble_eq_true rfl) (Nat.le_of_ble_eq_true rfl) rfl ⟨rfl, (jv_w (jv_k (x := (-1)) (-1) (by decide)) (by decide)), ⟨Or.inl (by decide), fun h0 => absurd (by decide) h0⟩, (hk10.symm.trans hSP)⟩
          · have p11 := gn_eq 37 37 (gc_eq zc9) (jv_t a0) (jv_k (x := 37) 37 (by decide)) (by decide)
            have hk12 := hk8.trans (if_pos zc9)
            refine g_bipush cx 6 (by decide) e_X11_sumSign_46 ?_
            refine g_goto cx 52 e_X11_sumSign_48 (by decide) ?_
            exact hret e_X11_sumSign_52 (Nat.le_of_ble_eq_true rfl) (Nat.le_of_ble_eq_true rfl) rfl ⟨rfl, (jv_w (jv_k (x := 6) 6 (by decide)) (by decide)), ⟨Or.inr (by decide), fun _ => by have q0 := (jv_k (x := 37) 37 (by decide)).1; have q1 := (jv_k (x := 37) 37 (by decide)).2; have q2 := (jv_k (x := 42) 42 (by decide)).1; have q3 := (jv_k (x := 42) 42 (by decide)).2; have q4 := (jv_k (x := 43) 43 (by decide)).1; have q5 := (jv_k (x := 43) 43 (by decide)).2; have q6 := (jv_k (x := 45) 45 (by decide)).1; have q7 := (jv_k (x := 45) 45 (by decide)).2; have q8 := (jv_k (x := 47) 47 (by decide)).1; have q9 := (jv_k (x := 47) 47 (by decide)).2; have q10 := p11.1; have q11 := p11.2; have q12 := (gc_ne zc1); have q13 := (gc_ne zc3); have q14 := (gc_ne zc5); have q15 := (gc_ne zc7); have q16 := (gc_eq zc9); omega⟩, (hk12.symm.trans hSP)⟩
        · have p13 := gn_eq 47 47 (gc_eq zc7) (jv_t a0) (jv_k (x := 47) 47 (by decide)) (by decide)
          have hk14 := hk6.trans (if_pos zc7)
          refine g_iconst cx 5 (by decide) e_X11_sumSign_36 ?_
          refine g_goto cx 52 e_X11_sumSign_37 (by decide) ?_
          exact hret e_X11_sumSign_52 (Nat.le_of_ble_eq_true rfl) (Nat.le_of_ble_eq_true rfl) rfl ⟨rfl, (jv_w (jv_k (x := 5) 5 (by decide)) (by decide)), ⟨Or.inr (by decide), fun _ => by have q0 := (jv_k (x := 42) 42 (by decide)).1; have q1 := (jv_k (x := 42) 42 (by decide)).2; have q2 := (jv_k (x := 43) 43 (by decide)).1; have q3 := (jv_k (x := 43) 43 (by decide)).2; have q4 := (jv_k (x := 45) 45 (by decide)).1; have q5 := (jv_k (x := 45) 45 (by decide)).2; have q6 := (jv_k (x := 47) 47 (by decide)).1; have q7 := (jv_k (x := 47) 47 (by decide)).2; have q8 := p13.1; have q9 := p13.2; have q10 := (gc_ne zc1); have q11 := (gc_ne zc3); have q12 := (gc_ne zc5); have q13 := (gc_eq zc7); omega⟩, (hk14.symm.trans hSP)⟩
      · have p15 := gn_eq 42 42 (gc_eq zc5) (jv_t a0) (jv_k (x := 42) 42 (by decide)) (by decide)
        have hk16 := hk4.trans (if_pos zc5)
        refine g_iconst cx 4 (by decide) e_X11_sumSign_26 ?_
        refine g_goto cx 52 e_X11_sumSign_27 (by decide) ?_
        exact hret e_X11_sumSign_52 (Nat.le_of_ble_eq_true rfl) (Nat.le_of_ble_eq_true rfl) rfl ⟨rfl, (jv_w (jv_k (x := 4) 4 (by decide)) (by decide)), ⟨Or.inr (by decide), fun _ => by have q0 := (jv_k (x := 42) 42 (by decide)).1; have q1 := (jv_k (x := 42) 42 (by decide)).2; have q2 := (jv_k (x := 43) 43 (by decide)).1; have q3 := (jv_k (x := 43) 43 (by decide)).2; have q4 := (jv_k (x := 45) 45 (by decide)).1; have q5 := (jv_k (x := 45) 45 (by decide)).2; have q6 := p15.1; have q7 := p15.2; have q8 := (gc_ne zc1); have q9 := (gc_ne zc3); have q10 := (gc_eq zc5); omega⟩, (hk16.symm.trans hSP)⟩
    · have p17 := gn_eq 45 45 (gc_eq zc3) (jv_t a0) (jv_k (x := 45) 45 (by decide)) (by decide)
      have hk18 := hk2.trans (if_pos zc3)
      refine g_iconst cx 3 (by decide) e_X11_sumSign_16 ?_
      refine g_goto cx 52 e_X11_sumSign_17 (by decide) ?_
      exact hret e_X11_sumSign_52 (Nat.le_of_ble_eq_true rfl) (Nat.le_of_ble_eq_true rfl) rfl ⟨rfl, (jv_w (jv_k (x := 3) 3 (by decide)) (by decide)), ⟨Or.inr (by decide), fun _ => by have q0 := (jv_k (x := 43) 43 (by decide)).1; have q1 := (jv_k (x := 43) 43 (by decide)).2; have q2 := (jv_k (x := 45) 45 (by decide)).1; have q3 := (jv_k (x := 45) 45 (by decide)).2; have q4 := p17.1; have q5 := p17.2; have q6 := (gc_ne zc1); have q7 := (gc_eq zc3); omega⟩, (hk18.symm.trans hSP)⟩
  · have p19 := gn_eq 43 43 (gc_eq zc1) (jv_t a0) (jv_k (x := 43) 43 (by decide)) (by decide)
    have hk20 := hk0.trans (if_pos zc1)
    refine g_iconst cx 2 (by decide) e_X11_sumSign_6 ?_
    refine g_goto cx 52 e_X11_sumSign_7 (by decide) ?_
    exact hret e_X11_sumSign_52 (Nat.le_of_ble_eq_true rfl) (Nat.le_of_ble_eq_true rfl) rfl ⟨rfl, (jv_w (jv_k (x := 2) 2 (by decide)) (by decide)), ⟨Or.inr (by decide), fun _ => by have q0 := (jv_k (x := 43) 43 (by decide)).1; have q1 := (jv_k (x := 43) 43 (by decide)).2; have q2 := p19.1; have q3 := p19.2; have q4 := (gc_eq zc1); omega⟩, (hk20.symm.trans hSP)⟩
def K_X11_readsSum_38 (b14 : (Nat → Int32) → (Nat → Nat → Int32) → Int32 × (Nat → Int32) × (Nat → Nat → Int32)) (F9 : Nat → Int32) (R10 : Nat → Nat → Int32) (r17 : Int32) (y127 : Int32) : Int32 × (Nat → Int32) × (Nat → Nat → Int32) :=
  k_lt2 (sp_X11_closesSums F9 R10 y127) (fun F133 R134 => k_lt (1048576 * r17) (fun x137 => k_lt (g_u R134 13 (upd (R134 13) (Int32.toNatClampNeg (F133 26)) x137)) (fun R139 => k_lt ((F133 26) + 1) (fun x141 => k_lt (upd F133 26 x141) (fun F143 => k_lt ((F9 15) + 1) (fun x145 => k_lt (upd F143 15 x145) (fun F147 => k_lt3 (sp_X11_readsFactor F147 R139) (fun r150 F155 R156 => if r150 = 0 then (0, F155, R156) else b14 F155 R156))))))))
def KB_X11_readsSum_14 (b14 : (Nat → Int32) → (Nat → Nat → Int32) → Int32 × (Nat → Int32) × (Nat → Nat → Int32)) (F : Nat → Int32) (F9 : Nat → Int32) (R10 : Nat → Nat → Int32) : Int32 × (Nat → Int32) × (Nat → Nat → Int32) :=
  k_lt (sp_X11_here F9 R10) (fun r11 => k_lt (sp_X11_sumSign F9 R10 r11) (fun r17 => if r17 = (-1) then k_lt (sp_X11_here F9 R10) (fun r26 => if r26 = 93 then k_lt (sp_X11_hasOpenSum F9 R10 (F 26)) (fun r64 => if r64 = 0 then k_lt (sp_X11_hasOpenSum F9 R10 (F 26)) (fun r74 => if r74 = 0 then k_lt2 (sp_X11_closesSums F9 R10 1) (fun F89 R90 => (1, F89, R90)) else k_lt3 (sp_X11_wrongAt F9 R10 1 (F9 15)) (fun r95 F99 R100 => (r95, F99, R100))) else k_lt2 (sp_X11_closesSums F9 R10 1) (fun F109 R110 => k_lt ((F109 26) - 1) (fun x113 => k_lt (upd F109 26 x113) (fun F115 => k_lt ((F9 24) - 1) (fun x117 => k_lt (upd F115 24 x117) (fun F119 => k_lt ((F9 15) + 1) (fun x121 => k_lt (upd F119 15 x121) (fun F123 => b14 F123 R110)))))))) else k_lt (sp_X11_hasOpenSum F9 R10 (F 26)) (fun r34 => if r34 = 0 then k_lt2 (sp_X11_closesSums F9 R10 1) (fun F49 R50 => (1, F49, R50)) else k_lt3 (sp_X11_wrongAt F9 R10 1 (F9 15)) (fun r55 F59 R60 => (r55, F59, R60)))) else if 4 ≤ r17 then K_X11_readsSum_38 b14 F9 R10 r17 0 else K_X11_readsSum_38 b14 F9 R10 r17 1))
def K_X11_readsSum_14 (F : Nat → Int32) : Nat → (Nat → Int32) → (Nat → Nat → Int32) → Int32 × (Nat → Int32) × (Nat → Nat → Int32)
  | 0 => fun F9 R10 => (0, F9, R10)
  | n + 1 => KB_X11_readsSum_14 (K_X11_readsSum_14 F n) F
def sp_X11_readsSum (F : Nat → Int32) (R : Nat → Nat → Int32) : Int32 × (Nat → Int32) × (Nat → Nat → Int32) :=
  k_lt3 (sp_X11_readsFactor F R) (fun r1 F6 R7 => if r1 = 0 then (0, F6, R7) else K_X11_readsSum_14 F 8589934592 F6 R7)
theorem e_X11_readsSum_0 : g_dc cX11_readsSum 0 (.aload_n 0) 1 1 := ⟨by decide +kernel, rfl⟩
theorem e_X11_readsSum_1 : g_dc cX11_readsSum 1 (.getfield 238) 3 4 := ⟨by decide +kernel, rfl⟩
theorem e_X11_readsSum_4 : g_dc cX11_readsSum 4 (.istore_n 1) 1 5 := ⟨by decide +kernel, rfl⟩
theorem e_X11_readsSum_5 : g_dc cX11_readsSum 5 (.aload_n 0) 1 6 := ⟨by decide +kernel, rfl⟩
theorem e_X11_readsSum_6 : g_dc cX11_readsSum 6 (.invokevirtual 258) 3 9 := ⟨by decide +kernel, rfl⟩
theorem e_X11_readsSum_9 : g_dc cX11_readsSum 9 (.ifCond .ne 5) 3 12 := ⟨by decide +kernel, rfl⟩
theorem e_X11_readsSum_12 : g_dc cX11_readsSum 12 (.iconst 0) 1 13 := ⟨by decide +kernel, rfl⟩
theorem e_X11_readsSum_13 : g_dc cX11_readsSum 13 (.ireturn) 1 14 := ⟨by decide +kernel, rfl⟩
theorem e_X11_readsSum_14 : g_dc cX11_readsSum 14 (.aload_n 0) 1 15 := ⟨by decide +kernel, rfl⟩
theorem e_X11_readsSum_15 : g_dc cX11_readsSum 15 (.invokevirtual 200) 3 18 := ⟨by decide +kernel, rfl⟩
theorem e_X11_readsSum_18 : g_dc cX11_readsSum 18 (.invokestatic 261) 3 21 := ⟨by decide +kernel, rfl⟩
theorem e_X11_readsSum_21 : g_dc cX11_readsSum 21 (.istore_n 2) 1 22 := ⟨by decide +kernel, rfl⟩
theorem e_X11_readsSum_22 : g_dc cX11_readsSum 22 (.iload_n 2) 1 23 := ⟨by decide +kernel, rfl⟩
theorem e_X11_readsSum_23 : g_dc cX11_readsSum 23 (.iconst (-1)) 1 24 := ⟨by decide +kernel, rfl⟩
theorem e_X11_readsSum_24 : g_dc cX11_readsSum 24 (.if_icmp .eq 59) 3 27 := ⟨by decide +kernel, rfl⟩
theorem e_X11_readsSum_27 : g_dc cX11_readsSum 27 (.aload_n 0) 1 28 := ⟨by decide +kernel, rfl⟩
theorem e_X11_readsSum_28 : g_dc cX11_readsSum 28 (.iload_n 2) 1 29 := ⟨by decide +kernel, rfl⟩
theorem e_X11_readsSum_29 : g_dc cX11_readsSum 29 (.iconst 4) 1 30 := ⟨by decide +kernel, rfl⟩
theorem e_X11_readsSum_30 : g_dc cX11_readsSum 30 (.if_icmp .ge 7) 3 33 := ⟨by decide +kernel, rfl⟩
theorem e_X11_readsSum_33 : g_dc cX11_readsSum 33 (.iconst 1) 1 34 := ⟨by decide +kernel, rfl⟩
theorem e_X11_readsSum_34 : g_dc cX11_readsSum 34 (.goto 4) 3 37 := ⟨by decide +kernel, rfl⟩
theorem e_X11_readsSum_37 : g_dc cX11_readsSum 37 (.iconst 0) 1 38 := ⟨by decide +kernel, rfl⟩
theorem e_X11_readsSum_38 : g_dc cX11_readsSum 38 (.invokevirtual 264) 3 41 := ⟨by decide +kernel, rfl⟩
theorem e_X11_readsSum_41 : g_dc cX11_readsSum 41 (.aload_n 0) 1 42 := ⟨by decide +kernel, rfl⟩
theorem e_X11_readsSum_42 : g_dc cX11_readsSum 42 (.getfield 47) 3 45 := ⟨by decide +kernel, rfl⟩
theorem e_X11_readsSum_45 : g_dc cX11_readsSum 45 (.aload_n 0) 1 46 := ⟨by decide +kernel, rfl⟩
theorem e_X11_readsSum_46 : g_dc cX11_readsSum 46 (.getfield 238) 3 49 := ⟨by decide +kernel, rfl⟩
theorem e_X11_readsSum_49 : g_dc cX11_readsSum 49 (.ldc 234) 2 51 := ⟨by decide +kernel, rfl⟩
theorem e_X11_readsSum_51 : g_dc cX11_readsSum 51 (.iload_n 2) 1 52 := ⟨by decide +kernel, rfl⟩
theorem e_X11_readsSum_52 : g_dc cX11_readsSum 52 (.imul) 1 53 := ⟨by decide +kernel, rfl⟩
theorem e_X11_readsSum_53 : g_dc cX11_readsSum 53 (.iastore) 1 54 := ⟨by decide +kernel, rfl⟩
theorem e_X11_readsSum_54 : g_dc cX11_readsSum 54 (.aload_n 0) 1 55 := ⟨by decide +kernel, rfl⟩
theorem e_X11_readsSum_55 : g_dc cX11_readsSum 55 (.aload_n 0) 1 56 := ⟨by decide +kernel, rfl⟩
theorem e_X11_readsSum_56 : g_dc cX11_readsSum 56 (.getfield 238) 3 59 := ⟨by decide +kernel, rfl⟩
theorem e_X11_readsSum_59 : g_dc cX11_readsSum 59 (.iconst 1) 1 60 := ⟨by decide +kernel, rfl⟩
theorem e_X11_readsSum_60 : g_dc cX11_readsSum 60 (.iadd) 1 61 := ⟨by decide +kernel, rfl⟩
theorem e_X11_readsSum_61 : g_dc cX11_readsSum 61 (.putfield 238) 3 64 := ⟨by decide +kernel, rfl⟩
theorem e_X11_readsSum_64 : g_dc cX11_readsSum 64 (.aload_n 0) 1 65 := ⟨by decide +kernel, rfl⟩
theorem e_X11_readsSum_65 : g_dc cX11_readsSum 65 (.aload_n 0) 1 66 := ⟨by decide +kernel, rfl⟩
theorem e_X11_readsSum_66 : g_dc cX11_readsSum 66 (.getfield 190) 3 69 := ⟨by decide +kernel, rfl⟩
theorem e_X11_readsSum_69 : g_dc cX11_readsSum 69 (.iconst 1) 1 70 := ⟨by decide +kernel, rfl⟩
theorem e_X11_readsSum_70 : g_dc cX11_readsSum 70 (.iadd) 1 71 := ⟨by decide +kernel, rfl⟩
theorem e_X11_readsSum_71 : g_dc cX11_readsSum 71 (.putfield 190) 3 74 := ⟨by decide +kernel, rfl⟩
theorem e_X11_readsSum_74 : g_dc cX11_readsSum 74 (.aload_n 0) 1 75 := ⟨by decide +kernel, rfl⟩
theorem e_X11_readsSum_75 : g_dc cX11_readsSum 75 (.invokevirtual 258) 3 78 := ⟨by decide +kernel, rfl⟩
theorem e_X11_readsSum_78 : g_dc cX11_readsSum 78 (.ifCond .ne 85) 3 81 := ⟨by decide +kernel, rfl⟩
theorem e_X11_readsSum_81 : g_dc cX11_readsSum 81 (.iconst 0) 1 82 := ⟨by decide +kernel, rfl⟩
theorem e_X11_readsSum_82 : g_dc cX11_readsSum 82 (.ireturn) 1 83 := ⟨by decide +kernel, rfl⟩
theorem e_X11_readsSum_83 : g_dc cX11_readsSum 83 (.aload_n 0) 1 84 := ⟨by decide +kernel, rfl⟩
theorem e_X11_readsSum_84 : g_dc cX11_readsSum 84 (.invokevirtual 200) 3 87 := ⟨by decide +kernel, rfl⟩
theorem e_X11_readsSum_87 : g_dc cX11_readsSum 87 (.bipush 93) 2 89 := ⟨by decide +kernel, rfl⟩
theorem e_X11_readsSum_89 : g_dc cX11_readsSum 89 (.if_icmp .ne 49) 3 92 := ⟨by decide +kernel, rfl⟩
theorem e_X11_readsSum_92 : g_dc cX11_readsSum 92 (.aload_n 0) 1 93 := ⟨by decide +kernel, rfl⟩
theorem e_X11_readsSum_93 : g_dc cX11_readsSum 93 (.iload_n 1) 1 94 := ⟨by decide +kernel, rfl⟩
theorem e_X11_readsSum_94 : g_dc cX11_readsSum 94 (.invokevirtual 268) 3 97 := ⟨by decide +kernel, rfl⟩
theorem e_X11_readsSum_97 : g_dc cX11_readsSum 97 (.ifCond .eq 41) 3 100 := ⟨by decide +kernel, rfl⟩
theorem e_X11_readsSum_100 : g_dc cX11_readsSum 100 (.aload_n 0) 1 101 := ⟨by decide +kernel, rfl⟩
theorem e_X11_readsSum_101 : g_dc cX11_readsSum 101 (.iconst 1) 1 102 := ⟨by decide +kernel, rfl⟩
theorem e_X11_readsSum_102 : g_dc cX11_readsSum 102 (.invokevirtual 264) 3 105 := ⟨by decide +kernel, rfl⟩
theorem e_X11_readsSum_105 : g_dc cX11_readsSum 105 (.aload_n 0) 1 106 := ⟨by decide +kernel, rfl⟩
theorem e_X11_readsSum_106 : g_dc cX11_readsSum 106 (.aload_n 0) 1 107 := ⟨by decide +kernel, rfl⟩
theorem e_X11_readsSum_107 : g_dc cX11_readsSum 107 (.getfield 238) 3 110 := ⟨by decide +kernel, rfl⟩
theorem e_X11_readsSum_110 : g_dc cX11_readsSum 110 (.iconst 1) 1 111 := ⟨by decide +kernel, rfl⟩
theorem e_X11_readsSum_111 : g_dc cX11_readsSum 111 (.isub) 1 112 := ⟨by decide +kernel, rfl⟩
theorem e_X11_readsSum_112 : g_dc cX11_readsSum 112 (.putfield 238) 3 115 := ⟨by decide +kernel, rfl⟩
theorem e_X11_readsSum_115 : g_dc cX11_readsSum 115 (.aload_n 0) 1 116 := ⟨by decide +kernel, rfl⟩
theorem e_X11_readsSum_116 : g_dc cX11_readsSum 116 (.aload_n 0) 1 117 := ⟨by decide +kernel, rfl⟩
theorem e_X11_readsSum_117 : g_dc cX11_readsSum 117 (.getfield 235) 3 120 := ⟨by decide +kernel, rfl⟩
theorem e_X11_readsSum_120 : g_dc cX11_readsSum 120 (.iconst 1) 1 121 := ⟨by decide +kernel, rfl⟩
theorem e_X11_readsSum_121 : g_dc cX11_readsSum 121 (.isub) 1 122 := ⟨by decide +kernel, rfl⟩
theorem e_X11_readsSum_122 : g_dc cX11_readsSum 122 (.putfield 235) 3 125 := ⟨by decide +kernel, rfl⟩
theorem e_X11_readsSum_125 : g_dc cX11_readsSum 125 (.aload_n 0) 1 126 := ⟨by decide +kernel, rfl⟩
theorem e_X11_readsSum_126 : g_dc cX11_readsSum 126 (.aload_n 0) 1 127 := ⟨by decide +kernel, rfl⟩
theorem e_X11_readsSum_127 : g_dc cX11_readsSum 127 (.getfield 190) 3 130 := ⟨by decide +kernel, rfl⟩
theorem e_X11_readsSum_130 : g_dc cX11_readsSum 130 (.iconst 1) 1 131 := ⟨by decide +kernel, rfl⟩
theorem e_X11_readsSum_131 : g_dc cX11_readsSum 131 (.iadd) 1 132 := ⟨by decide +kernel, rfl⟩
theorem e_X11_readsSum_132 : g_dc cX11_readsSum 132 (.putfield 190) 3 135 := ⟨by decide +kernel, rfl⟩
theorem e_X11_readsSum_135 : g_dc cX11_readsSum 135 (.goto 28) 3 138 := ⟨by decide +kernel, rfl⟩
theorem e_X11_readsSum_138 : g_dc cX11_readsSum 138 (.aload_n 0) 1 139 := ⟨by decide +kernel, rfl⟩
theorem e_X11_readsSum_139 : g_dc cX11_readsSum 139 (.iload_n 1) 1 140 := ⟨by decide +kernel, rfl⟩
theorem e_X11_readsSum_140 : g_dc cX11_readsSum 140 (.invokevirtual 268) 3 143 := ⟨by decide +kernel, rfl⟩
theorem e_X11_readsSum_143 : g_dc cX11_readsSum 143 (.ifCond .eq 13) 3 146 := ⟨by decide +kernel, rfl⟩
theorem e_X11_readsSum_146 : g_dc cX11_readsSum 146 (.aload_n 0) 1 147 := ⟨by decide +kernel, rfl⟩
theorem e_X11_readsSum_147 : g_dc cX11_readsSum 147 (.iconst 1) 1 148 := ⟨by decide +kernel, rfl⟩
theorem e_X11_readsSum_148 : g_dc cX11_readsSum 148 (.aload_n 0) 1 149 := ⟨by decide +kernel, rfl⟩
theorem e_X11_readsSum_149 : g_dc cX11_readsSum 149 (.getfield 190) 3 152 := ⟨by decide +kernel, rfl⟩
theorem e_X11_readsSum_152 : g_dc cX11_readsSum 152 (.invokevirtual 204) 3 155 := ⟨by decide +kernel, rfl⟩
theorem e_X11_readsSum_155 : g_dc cX11_readsSum 155 (.ireturn) 1 156 := ⟨by decide +kernel, rfl⟩
theorem e_X11_readsSum_156 : g_dc cX11_readsSum 156 (.aload_n 0) 1 157 := ⟨by decide +kernel, rfl⟩
theorem e_X11_readsSum_157 : g_dc cX11_readsSum 157 (.iconst 1) 1 158 := ⟨by decide +kernel, rfl⟩
theorem e_X11_readsSum_158 : g_dc cX11_readsSum 158 (.invokevirtual 264) 3 161 := ⟨by decide +kernel, rfl⟩
theorem e_X11_readsSum_161 : g_dc cX11_readsSum 161 (.iconst 1) 1 162 := ⟨by decide +kernel, rfl⟩
theorem e_X11_readsSum_162 : g_dc cX11_readsSum 162 (.ireturn) 1 163 := ⟨by decide +kernel, rfl⟩
theorem e_X11_readsSum_163 : g_dc cX11_readsSum 163 (.goto (-149)) 3 166 := ⟨by decide +kernel, rfl⟩
def md_X11_readsSum : List Nat := [15, 17, 18, 24, 25, 26]
def mr_X11_readsSum : List Nat := [12, 13]
set_option maxHeartbeats 4000000 in
set_option maxRecDepth 100000 in
theorem w_X11_readsSum (l : Launch) (X : gX) (ad : Nat → Nat) (F : Nat → Int32) (R : Nat → Nat → Int32) (hI : g_ok LK_wM F) (hA : g_okR LA_wM R) (hWT : WT F R) (hWC : WC F R) (A : Nat × Nat) (L : List (Int × Nat)) (h : Int) (hps : PS F R A L h) (hnb : cb L = 0) (hh : 0 ≤ h) : g_Ci l X yX11_readsSum cX11_readsSum 3 (some .boolean) 5 0 0 [.ref (ad 0)] (wM X ad F R) (fun r w => ∃ (F' : Nat → Int32) (R' : Nat → Nat → Int32), w = wM X ad F' R' ∧ g_ok LK_wM F' ∧ g_okR LA_wM R' ∧ WT F' R' ∧ WC F' R' ∧ g_fr md_X11_readsSum F F' ∧ g_fr mr_X11_readsSum R R' ∧ jv 0 1 r ∧ (¬ r = 0 → PS F' R' A L (h + 1) ∧ FK F R F' R') ∧ (r, F', R') = sp_X11_readsSum F R) := by
  refine g_mi (by decide +kernel) (Nat.le_of_ble_eq_true rfl) (fun E cx hret => ?_)
  obtain ⟨SP, hSP⟩ : ∃ z, z = sp_X11_readsSum F R := ⟨_, rfl⟩
  have hk0 := hSP
  unfold sp_X11_readsSum at hk0
  refine g_aload_n cx 0 rfl e_X11_readsSum_0 ?_
  refine g_get cx cl_X11 fl_X11_238 0 (.int (F 26)) e_X11_readsSum_1 rfl rfl ?_
  refine g_istore_n cx [(1, .int (F 26)), (0, .ref (ad 0))] e_X11_readsSum_4 (by decide) rfl ?_
  refine g_aload_n cx 1 rfl e_X11_readsSum_5 ?_
  refine g_cViW cx [] [] (w_X11_readsFactor l X ad F R hI hA hWT hWC A (L) (h) hps) ml_X11_258 yV_X11_readsFactor e_X11_readsSum_6 (by unfold g_rr; decide) (by decide) 0 rfl rfl rfl (Nat.le_of_ble_eq_true rfl) (fun r1 w2 h3 => ?_)
  obtain ⟨F6, R7, rfl, oF6, oR7, wTF6, wCF6, cF6, cR7, pr1, zx4, hx5⟩ := h3
  have hk8 := k_ls3 hk0 hx5
  have fF6 : g_fr md_X11_readsSum F F6 := g_fr_c (g_fr_rf F) cF6 rfl
  have fR7 : g_fr mr_X11_readsSum R R7 := g_fr_c (g_fr_rf R) cR7 rfl
  have J14 : ∀ (N : Nat) (F9 : Nat → Int32) (R10 : Nat → Nat → Int32), (g_ok LK_wM F9) → (g_fr md_X11_readsSum F F9) → (g_okR LA_wM R10) → (g_fr mr_X11_readsSum R R10) → (WT F9 R10) → (WC F9 R10) → (∃ M : List (Int × Nat), (∀ q ∈ M, 2 ≤ q.1 ∧ q.1 ≤ 6 ∨ q.1 = 14) ∧ PS F9 R10 A (M ++ L) (h + cb M + 1) ∧ FK F R F9 R10) → (SP = K_X11_readsSum_14 F N F9 R10) → (2147483647 - (F9 15).toInt).toNat < N → G X E 3 0 0 (wM X ad F9 R10) [(0, .ref (ad 0)), (1, .int (F 26))] 14 [] := by
    intro N
    induction N with
    | zero => intro F9 R10 oF9 fF9 oR10 fR10 wTF9R10 wCF9R10 zq14_0 hkJ14 hm; exact absurd hm (Nat.not_lt_zero _)
    | succ N ih14 =>
      intro F9 R10 oF9 fF9 oR10 fR10 wTF9R10 wCF9R10 zq14_0 hkJ14 hm14
      have hkK14 : SP = KB_X11_readsSum_14 (K_X11_readsSum_14 F N) F F9 R10 := hkJ14
      obtain ⟨b14, hb14⟩ : ∃ z, z = K_X11_readsSum_14 F N := ⟨_, rfl⟩
      rw [← hb14] at hkK14
      unfold KB_X11_readsSum_14 at hkK14
      obtain ⟨M, hM, ps, fk⟩ := zq14_0
      refine g_aload_n cx 0 rfl e_X11_readsSum_14 ?_
      refine g_cViW cx [] [] (w_X11_here l X ad F9 R10 oF9 oR10 wTF9R10 wCF9R10) ml_X11_200 yV_X11_here e_X11_readsSum_15 (by unfold g_rr; decide) (by decide) 0 rfl rfl rfl (Nat.le_of_ble_eq_true rfl) (fun r11 w12 h13 => ?_)
      obtain ⟨rfl, pr11, zx14, hx15⟩ := h13
      have hk16 := k_ls hkK14 hx15
      refine g_cSiW cx [.int r11] [] (w_X11_sumSign l X ad F9 R10 oF9 oR10 r11) ml_X11_261 yS_X11_sumSign rfl e_X11_readsSum_18 (by unfold g_rr; decide) (by decide) rfl (Nat.le_of_ble_eq_true rfl) (fun r17 w18 h19 => ?_)
      obtain ⟨rfl, pr17, zx20, hx21⟩ := h19
      have hk22 := k_ls hk16 hx21
      refine g_istore_n cx [(2, .int r17), (0, .ref (ad 0)), (1, .int (F 26))] e_X11_readsSum_21 (by decide) rfl ?_
      refine g_iload_n cx 0 rfl e_X11_readsSum_22 ?_
      refine g_iconst cx (-1) (by decide) e_X11_readsSum_23 ?_
      refine g_icmp_eq cx 83 e_X11_readsSum_24 (by decide) (fun zc23 => ?_) (fun zc23 => ?_)
      · have p24 := gn_eq (-1) (-1) (gc_eq zc23) pr17 (jv_k (x := (-1)) (-1) (by decide)) (by decide)
        have hk25 := hk22.trans (if_pos zc23)
        refine g_aload_n cx 1 rfl e_X11_readsSum_83 ?_
        refine g_cViW cx [] [] (w_X11_here l X ad F9 R10 oF9 oR10 wTF9R10 wCF9R10) ml_X11_200 yV_X11_here e_X11_readsSum_84 (by unfold g_rr; decide) (by decide) 0 rfl rfl rfl (Nat.le_of_ble_eq_true rfl) (fun r26 w27 h28 => ?_)
        obtain ⟨rfl, pr26, zx29, hx30⟩ := h28
        have hk31 := k_ls hk25 hx30
        refine g_bipush cx 93 (by decide) e_X11_readsSum_87 ?_
        refine g_icmp_ne cx 138 e_X11_readsSum_89 (by decide) (fun zc32 => ?_) (fun zc32 => ?_)
        · have hk33 := hk31.trans (if_neg zc32)
          refine g_aload_n cx 1 rfl e_X11_readsSum_138 ?_
          refine g_iload_n cx 2 rfl e_X11_readsSum_139 ?_
          refine g_cViW cx [.int (F 26)] [] (w_X11_hasOpenSum l X ad F9 R10 oF9 oR10 (F 26) (g_ok_g hI 8 rfl) M L ps.2.1 ps.2.2.1 (hps.2.2.1.symm)) ml_X11_268 yV_X11_hasOpenSum e_X11_readsSum_140 (by unfold g_rr; decide) (by decide) 0 rfl rfl rfl (Nat.le_of_ble_eq_true rfl) (fun r34 w35 h36 => ?_)
          obtain ⟨rfl, pr34, zx37, zx38, hx39⟩ := h36
          have hk40 := k_ls hk33 hx39
          refine g_if_eq cx 156 e_X11_readsSum_143 (by decide) (fun zc41 => ?_) (fun zc41 => ?_)
          · have p42 := gn_eq 0 0 (gc_eq zc41) pr34 (jv_k (x := 0) 0 (by decide)) (by decide)
            have hk43 := hk40.trans (if_pos zc41)
            refine g_aload_n cx 1 rfl e_X11_readsSum_156 ?_
            refine g_iconst cx 1 (by decide) e_X11_readsSum_157 ?_
            refine g_cVvW cx [.int 1] [] (w_X11_closesSums l X ad F9 R10 oF9 oR10 wTF9R10 wCF9R10 1 (jv_w (jv_k (x := 1) 1 (by decide)) (by decide)) A ((M ++ L)) ((h + cb M + 1)) ps (by rw [cb_app]; have := cg_0 M; omega)) ml_X11_264 yV_X11_closesSums e_X11_readsSum_158 (by unfold g_rr; decide) (by decide) 0 rfl rfl rfl (Nat.le_of_ble_eq_true rfl) (fun w45 h46 => ?_)
            obtain ⟨F49, R50, rfl, oF49, oR50, wTF49, wCF49, cF49, cR50, zx47, hx48⟩ := h46
            have hk51 := k_ls2 hk43 hx48
            have fF49 : g_fr md_X11_readsSum F F49 := g_fr_c fF9 cF49 rfl
            have fR50 : g_fr mr_X11_readsSum R R50 := g_fr_c fR10 cR50 rfl
            obtain ⟨Mn52, Ln52, eLn52, hMn52, qn52, htn52, hkn52, h25n52⟩ := zx47
            obtain ⟨Nn52, eMn52, rfl⟩ := sp_ops eLn52 hMn52 hnb
            have psn52 := PS_cs (M := M) eMn52 hMn52 qn52
            have fkn52 : FK F9 R10 F49 R50 := ⟨hkn52, h25n52, (Int.le_of_eq (congrArg Int32.toInt (cF49 15 rfl)).symm)⟩
            refine g_iconst cx 1 (by decide) e_X11_readsSum_161 ?_
            exact hret e_X11_readsSum_162 (Nat.le_of_ble_eq_true rfl) (Nat.le_of_ble_eq_true rfl) rfl ⟨F49, R50, rfl, oF49, oR50, wTF49, wCF49, fF49, fR50, (jv_w (jv_k (x := 1) 1 (by decide)) (by decide)), (fun _ => ⟨rs_end (sp_0 eMn52 hM (zx37 (by assumption)) (htn52 (by decide))) psn52, FK_tr fk fkn52⟩), (hk51.symm.trans hSP)⟩
          · have p53 := gn_neL 1 1 (gc_ne zc41) pr34 (jv_k (x := 0) 0 (by decide)) (by decide)
            have hk54 := hk40.trans (if_neg zc41)
            refine g_aload_n cx 1 rfl e_X11_readsSum_146 ?_
            refine g_iconst cx 1 (by decide) e_X11_readsSum_147 ?_
            refine g_aload_n cx 1 rfl e_X11_readsSum_148 ?_
            refine g_get cx cl_X11 fl_X11_190 0 (.int (F9 15)) e_X11_readsSum_149 rfl rfl ?_
            refine g_cViW cx [.int 1, .int (F9 15)] [] (w_X11_wrongAt l X ad F9 R10 oF9 oR10 wTF9R10 wCF9R10 1 (F9 15)) ml_X11_204 yV_X11_wrongAt e_X11_readsSum_152 (by unfold g_rr; decide) (by decide) 0 rfl rfl rfl (Nat.le_of_ble_eq_true rfl) (fun r55 w56 h57 => ?_)
            obtain ⟨F59, R60, rfl, oF59, oR60, wTF59, wCF59, cF59, cR60, pr55, hx58⟩ := h57
            have hk61 := k_ls3 hk54 hx58
            have fF59 : g_fr md_X11_readsSum F F59 := g_fr_c fF9 cF59 rfl
            have fR60 : g_fr mr_X11_readsSum R R60 := g_fr_c fR10 cR60 rfl
            exact hret e_X11_readsSum_155 (Nat.le_of_ble_eq_true rfl) (Nat.le_of_ble_eq_true rfl) (g_narb (jv_w pr55 (by decide))) ⟨F59, R60, rfl, oF59, oR60, wTF59, wCF59, fF59, fR60, (jv_w pr55 (by decide)), (fun h0 => absurd (by first | rfl | exact jv_c 0 pr55 (by decide)) h0), (hk61.symm.trans hSP)⟩
        · have p62 := gn_eq 93 93 (gc_eq zc32) pr26 (jv_k (x := 93) 93 (by decide)) (by decide)
          have hk63 := hk31.trans (if_pos zc32)
          refine g_aload_n cx 1 rfl e_X11_readsSum_92 ?_
          refine g_iload_n cx 2 rfl e_X11_readsSum_93 ?_
          refine g_cViW cx [.int (F 26)] [] (w_X11_hasOpenSum l X ad F9 R10 oF9 oR10 (F 26) (g_ok_g hI 8 rfl) M L ps.2.1 ps.2.2.1 (hps.2.2.1.symm)) ml_X11_268 yV_X11_hasOpenSum e_X11_readsSum_94 (by unfold g_rr; decide) (by decide) 0 rfl rfl rfl (Nat.le_of_ble_eq_true rfl) (fun r64 w65 h66 => ?_)
          obtain ⟨rfl, pr64, zx67, zx68, hx69⟩ := h66
          have hk70 := k_ls hk63 hx69
          refine g_if_eq cx 138 e_X11_readsSum_97 (by decide) (fun zc71 => ?_) (fun zc71 => ?_)
          · have p72 := gn_eq 0 0 (gc_eq zc71) pr64 (jv_k (x := 0) 0 (by decide)) (by decide)
            have hk73 := hk70.trans (if_pos zc71)
            refine g_aload_n cx 1 rfl e_X11_readsSum_138 ?_
            refine g_iload_n cx 2 rfl e_X11_readsSum_139 ?_
            refine g_cViW cx [.int (F 26)] [] (w_X11_hasOpenSum l X ad F9 R10 oF9 oR10 (F 26) (g_ok_g hI 8 rfl) M L ps.2.1 ps.2.2.1 (hps.2.2.1.symm)) ml_X11_268 yV_X11_hasOpenSum e_X11_readsSum_140 (by unfold g_rr; decide) (by decide) 0 rfl rfl rfl (Nat.le_of_ble_eq_true rfl) (fun r74 w75 h76 => ?_)
            obtain ⟨rfl, pr74, zx77, zx78, hx79⟩ := h76
            have hk80 := k_ls hk73 hx79
            refine g_if_eq cx 156 e_X11_readsSum_143 (by decide) (fun zc81 => ?_) (fun zc81 => ?_)
            · have p82 := gn_eq 0 0 (gc_eq zc81) pr74 (jv_k (x := 0) 0 (by decide)) (by decide)
              have hk83 := hk80.trans (if_pos zc81)
              refine g_aload_n cx 1 rfl e_X11_readsSum_156 ?_
              refine g_iconst cx 1 (by decide) e_X11_readsSum_157 ?_
              refine g_cVvW cx [.int 1] [] (w_X11_closesSums l X ad F9 R10 oF9 oR10 wTF9R10 wCF9R10 1 (jv_w (jv_k (x := 1) 1 (by decide)) (by decide)) A ((M ++ L)) ((h + cb M + 1)) ps (by rw [cb_app]; have := cg_0 M; omega)) ml_X11_264 yV_X11_closesSums e_X11_readsSum_158 (by unfold g_rr; decide) (by decide) 0 rfl rfl rfl (Nat.le_of_ble_eq_true rfl) (fun w85 h86 => ?_)
              obtain ⟨F89, R90, rfl, oF89, oR90, wTF89, wCF89, cF89, cR90, zx87, hx88⟩ := h86
              have hk91 := k_ls2 hk83 hx88
              have fF89 : g_fr md_X11_readsSum F F89 := g_fr_c fF9 cF89 rfl
              have fR90 : g_fr mr_X11_readsSum R R90 := g_fr_c fR10 cR90 rfl
              obtain ⟨Mn92, Ln92, eLn92, hMn92, qn92, htn92, hkn92, h25n92⟩ := zx87
              obtain ⟨Nn92, eMn92, rfl⟩ := sp_ops eLn92 hMn92 hnb
              have psn92 := PS_cs (M := M) eMn92 hMn92 qn92
              have fkn92 : FK F9 R10 F89 R90 := ⟨hkn92, h25n92, (Int.le_of_eq (congrArg Int32.toInt (cF89 15 rfl)).symm)⟩
              refine g_iconst cx 1 (by decide) e_X11_readsSum_161 ?_
              exact hret e_X11_readsSum_162 (Nat.le_of_ble_eq_true rfl) (Nat.le_of_ble_eq_true rfl) rfl ⟨F89, R90, rfl, oF89, oR90, wTF89, wCF89, fF89, fR90, (jv_w (jv_k (x := 1) 1 (by decide)) (by decide)), (fun _ => ⟨rs_end (sp_0 eMn92 hM (zx77 (by assumption)) (htn92 (by decide))) psn92, FK_tr fk fkn92⟩), (hk91.symm.trans hSP)⟩
            · have p93 := gn_neL 1 1 (gc_ne zc81) pr74 (jv_k (x := 0) 0 (by decide)) (by decide)
              have hk94 := hk80.trans (if_neg zc81)
              refine g_aload_n cx 1 rfl e_X11_readsSum_146 ?_
              refine g_iconst cx 1 (by decide) e_X11_readsSum_147 ?_
              refine g_aload_n cx 1 rfl e_X11_readsSum_148 ?_
              refine g_get cx cl_X11 fl_X11_190 0 (.int (F9 15)) e_X11_readsSum_149 rfl rfl ?_
              refine g_cViW cx [.int 1, .int (F9 15)] [] (w_X11_wrongAt l X ad F9 R10 oF9 oR10 wTF9R10 wCF9R10 1 (F9 15)) ml_X11_204 yV_X11_wrongAt e_X11_readsSum_152 (by unfold g_rr; decide) (by decide) 0 rfl rfl rfl (Nat.le_of_ble_eq_true rfl) (fun r95 w96 h97 => ?_)
              obtain ⟨F99, R100, rfl, oF99, oR100, wTF99, wCF99, cF99, cR100, pr95, hx98⟩ := h97
              have hk101 := k_ls3 hk94 hx98
              have fF99 : g_fr md_X11_readsSum F F99 := g_fr_c fF9 cF99 rfl
              have fR100 : g_fr mr_X11_readsSum R R100 := g_fr_c fR10 cR100 rfl
              exact hret e_X11_readsSum_155 (Nat.le_of_ble_eq_true rfl) (Nat.le_of_ble_eq_true rfl) (g_narb (jv_w pr95 (by decide))) ⟨F99, R100, rfl, oF99, oR100, wTF99, wCF99, fF99, fR100, (jv_w pr95 (by decide)), (fun h0 => absurd (by first | rfl | exact jv_c 0 pr95 (by decide)) h0), (hk101.symm.trans hSP)⟩
          · have p102 := gn_neL 1 1 (gc_ne zc71) pr64 (jv_k (x := 0) 0 (by decide)) (by decide)
            have hk103 := hk70.trans (if_neg zc71)
            refine g_aload_n cx 1 rfl e_X11_readsSum_100 ?_
            refine g_iconst cx 1 (by decide) e_X11_readsSum_101 ?_
            refine g_cVvW cx [.int 1] [] (w_X11_closesSums l X ad F9 R10 oF9 oR10 wTF9R10 wCF9R10 1 (jv_w (jv_k (x := 1) 1 (by decide)) (by decide)) A ((M ++ L)) ((h + cb M + 1)) ps (by rw [cb_app]; have := cg_0 M; omega)) ml_X11_264 yV_X11_closesSums e_X11_readsSum_102 (by unfold g_rr; decide) (by decide) 0 rfl rfl rfl (Nat.le_of_ble_eq_true rfl) (fun w105 h106 => ?_)
            obtain ⟨F109, R110, rfl, oF109, oR110, wTF109, wCF109, cF109, cR110, zx107, hx108⟩ := h106
            have hk111 := k_ls2 hk103 hx108
            have fF109 : g_fr md_X11_readsSum F F109 := g_fr_c fF9 cF109 rfl
            have fR110 : g_fr mr_X11_readsSum R R110 := g_fr_c fR10 cR110 rfl
            obtain ⟨Mn112, Ln112, eLn112, hMn112, qn112, htn112, hkn112, h25n112⟩ := zx107
            obtain ⟨Nn112, eMn112, rfl⟩ := sp_ops eLn112 hMn112 hnb
            have psn112 := PS_cs (M := M) eMn112 hMn112 qn112
            have fkn112 : FK F9 R10 F109 R110 := ⟨hkn112, h25n112, (Int.le_of_eq (congrArg Int32.toInt (cF109 15 rfl)).symm)⟩
            obtain ⟨on112, N2n112, rfl⟩ := sp_14 eMn112 hMn112 hM (zx68 zc71) (htn112 (by decide))
            have hln112 : 1 ≤ (F109 26).toInt := by have q := psn112.2.2.1; simp only [List.cons_append, List.length_cons] at q; omega
            refine g_aload_n cx 1 rfl e_X11_readsSum_105 ?_
            refine g_aload_n cx 1 rfl e_X11_readsSum_106 ?_
            refine g_get cx cl_X11 fl_X11_238 0 (.int (F109 26)) e_X11_readsSum_107 rfl rfl ?_
            refine g_iconst cx 1 (by decide) e_X11_readsSum_110 ?_
            refine g_isub cx e_X11_readsSum_111 ?_
            refine g_topi (fun x113 ex113 => ?_)
            have hk114 := k_ls hk111 ex113
            have zx113 := jv_sub (-1) 219 ex113 (g_ok_g oF109 8 rfl) (jv_k (x := 1) 1 (by decide)) (by decide)
            refine g_put cx cl_X11 fl_X11_238 0 (wM X ad (upd F109 26 x113) R110) e_X11_readsSum_112 rfl rfl rfl rfl (Nat.le_of_ble_eq_true rfl) rfl ?_
            obtain ⟨F115, hF115⟩ : ∃ z, z = upd F109 26 x113 := ⟨_, rfl⟩
            rw [← hF115]
            have hk116 := k_ls hk114 hF115
            have oF115 : g_ok LK_wM F115 := by rw [hF115]; exact g_ok_p oF109 (show jv 0 220 _ from ⟨by have q0 := (jv_k (x := 1) 1 (by decide)).1; have q1 := (jv_k (x := 1) 1 (by decide)).2; have q2 := (g_ok_g oF109 8 rfl).1; have q3 := (g_ok_g oF109 8 rfl).2; have q4 := zx113.2.1; have q5 := zx113.2.2; have q6 := hln112; have q7 := (g_eq0 zx113.1); omega, by have q0 := (jv_k (x := 1) 1 (by decide)).1; have q1 := (jv_k (x := 1) 1 (by decide)).2; have q2 := (g_ok_g oF109 8 rfl).1; have q3 := (g_ok_g oF109 8 rfl).2; have q4 := zx113.2.1; have q5 := zx113.2.2; have q6 := hln112; have q7 := (g_eq0 zx113.1); omega⟩) rfl
            have fF115 : g_fr md_X11_readsSum F F115 := by rw [hF115]; exact g_fr_u fF109 rfl
            have wTF115 : WT F115 R110 := by rw [hF115]; exact WT_u wTF109 rfl
            have wCF115 : WC F115 R110 := by rw [hF115]; exact WC_u wCF109 rfl
            refine g_aload_n cx 1 rfl e_X11_readsSum_115 ?_
            refine g_aload_n cx 1 rfl e_X11_readsSum_116 ?_
            refine g_get cx cl_X11 fl_X11_235 0 (.int (F115 24)) e_X11_readsSum_117 rfl rfl ?_
            refine g_toi (F9 24) ((g_pu2 hF115 rfl).trans (cF109 24 rfl)) ?_
            refine g_iconst cx 1 (by decide) e_X11_readsSum_120 ?_
            refine g_isub cx e_X11_readsSum_121 ?_
            refine g_topi (fun x117 ex117 => ?_)
            have hk118 := k_ls hk116 ex117
            refine g_put cx cl_X11 fl_X11_235 0 (wM X ad (upd F115 24 x117) R110) e_X11_readsSum_122 rfl rfl rfl rfl (Nat.le_of_ble_eq_true rfl) rfl ?_
            obtain ⟨F119, hF119⟩ : ∃ z, z = upd F115 24 x117 := ⟨_, rfl⟩
            rw [← hF119]
            have hk120 := k_ls hk118 hF119
            have oF119 : g_ok LK_wM F119 := by rw [hF119]; exact g_ok_p oF115 (jv_t x117) rfl
            have fF119 : g_fr md_X11_readsSum F F119 := by rw [hF119]; exact g_fr_u fF115 rfl
            have wTF119 : WT F119 R110 := by rw [hF119]; exact WT_u wTF115 rfl
            have wCF119 : WC F119 R110 := by rw [hF119]; exact WC_u wCF115 rfl
            refine g_aload_n cx 1 rfl e_X11_readsSum_125 ?_
            refine g_aload_n cx 1 rfl e_X11_readsSum_126 ?_
            refine g_get cx cl_X11 fl_X11_190 0 (.int (F119 15)) e_X11_readsSum_127 rfl rfl ?_
            refine g_toi (F9 15) (((g_pu2 hF119 rfl).trans (g_pu2 hF115 rfl)).trans (cF109 15 rfl)) ?_
            refine g_iconst cx 1 (by decide) e_X11_readsSum_130 ?_
            refine g_iadd cx e_X11_readsSum_131 ?_
            refine g_topi (fun x121 ex121 => ?_)
            have hk122 := k_ls hk120 ex121
            have zx121 := jv_add 1 221 ex121 (g_ok_g oF9 1 rfl) (jv_k (x := 1) 1 (by decide)) (by decide)
            refine g_put cx cl_X11 fl_X11_190 0 (wM X ad (upd F119 15 x121) R110) e_X11_readsSum_132 rfl rfl rfl rfl (Nat.le_of_ble_eq_true rfl) rfl ?_
            obtain ⟨F123, hF123⟩ : ∃ z, z = upd F119 15 x121 := ⟨_, rfl⟩
            rw [← hF123]
            have hk124 := k_ls hk122 hF123
            have oF123 : g_ok LK_wM F123 := by rw [hF123]; exact g_ok_p oF119 (show jv 0 220 _ from ⟨by have q0 := (jv_k (x := (-1)) (-1) (by decide)).1; have q1 := (jv_k (x := (-1)) (-1) (by decide)).2; have q2 := (g_here_iv F9 R10).1; have q3 := (g_here_iv F9 R10).2; have q4 := (jv_k (x := 1) 1 (by decide)).1; have q5 := (jv_k (x := 1) 1 (by decide)).2; have q6 := (jv_k (x := 93) 93 (by decide)).1; have q7 := (jv_k (x := 93) 93 (by decide)).2; have q8 := (g_ok_g hI 1 rfl).1; have q9 := (g_ok_g hI 1 rfl).2; have q10 := (g_ok_g hI 2 rfl).1; have q11 := (g_ok_g hI 2 rfl).2; have q12 := (g_ok_g oF109 1 rfl).1; have q13 := (g_ok_g oF109 1 rfl).2; have q14 := (g_ok_g oF109 8 rfl).1; have q15 := (g_ok_g oF109 8 rfl).2; have q16 := (g_ok_g oF9 1 rfl).1; have q17 := (g_ok_g oF9 1 rfl).2; have q18 := (g_ok_g oF9 2 rfl).1; have q19 := (g_ok_g oF9 2 rfl).2; have q20 := pr11.1; have q21 := pr11.2; have q22 := p24.1; have q23 := p24.2; have q24 := p62.1; have q25 := p62.2; have q26 := zx113.2.1; have q27 := zx113.2.2; have q28 := zx121.2.1; have q29 := zx121.2.2; have q30 := fk.2.2; have q31 := (congrArg Int32.toInt zx14); have q32 := (@g_here_lt F9 R10); have q33 := (congrArg Int32.toInt (show F9 16 = F 16 from (fF9 16 rfl))); have q34 := zx20.1; have q35 := zx20.2; have q36 := (gc_eq zc23); have q37 := (congrArg Int32.toInt zx29); have q38 := (@g_here_lt F9 R10); have q39 := (congrArg Int32.toInt (show F9 16 = F 16 from (fF9 16 rfl))); have q40 := (gc_eq zc32); have q41 := hln112; have q42 := (congrArg Int32.toInt (show F109 15 = F9 15 from (cF109 15 rfl))); have q43 := (g_eq0 zx113.1); have q44 := (g_eq0 zx121.1); omega, by have q0 := (jv_k (x := (-1)) (-1) (by decide)).1; have q1 := (jv_k (x := (-1)) (-1) (by decide)).2; have q2 := (g_here_iv F9 R10).1; have q3 := (g_here_iv F9 R10).2; have q4 := (jv_k (x := 1) 1 (by decide)).1; have q5 := (jv_k (x := 1) 1 (by decide)).2; have q6 := (jv_k (x := 93) 93 (by decide)).1; have q7 := (jv_k (x := 93) 93 (by decide)).2; have q8 := (g_ok_g hI 1 rfl).1; have q9 := (g_ok_g hI 1 rfl).2; have q10 := (g_ok_g hI 2 rfl).1; have q11 := (g_ok_g hI 2 rfl).2; have q12 := (g_ok_g oF109 1 rfl).1; have q13 := (g_ok_g oF109 1 rfl).2; have q14 := (g_ok_g oF109 8 rfl).1; have q15 := (g_ok_g oF109 8 rfl).2; have q16 := (g_ok_g oF9 1 rfl).1; have q17 := (g_ok_g oF9 1 rfl).2; have q18 := (g_ok_g oF9 2 rfl).1; have q19 := (g_ok_g oF9 2 rfl).2; have q20 := pr11.1; have q21 := pr11.2; have q22 := p24.1; have q23 := p24.2; have q24 := p62.1; have q25 := p62.2; have q26 := zx113.2.1; have q27 := zx113.2.2; have q28 := zx121.2.1; have q29 := zx121.2.2; have q30 := fk.2.2; have q31 := (congrArg Int32.toInt zx14); have q32 := (@g_here_lt F9 R10); have q33 := (congrArg Int32.toInt (show F9 16 = F 16 from (fF9 16 rfl))); have q34 := zx20.1; have q35 := zx20.2; have q36 := (gc_eq zc23); have q37 := (congrArg Int32.toInt zx29); have q38 := (@g_here_lt F9 R10); have q39 := (congrArg Int32.toInt (show F9 16 = F 16 from (fF9 16 rfl))); have q40 := (gc_eq zc32); have q41 := hln112; have q42 := (congrArg Int32.toInt (show F109 15 = F9 15 from (cF109 15 rfl))); have q43 := (g_eq0 zx113.1); have q44 := (g_eq0 zx121.1); omega⟩) rfl
            have fF123 : g_fr md_X11_readsSum F F123 := by rw [hF123]; exact g_fr_u fF119 rfl
            have wTF123 : WT F123 R110 := by rw [hF123]; exact WT_u wTF119 rfl
            have wCF123 : WC F123 R110 := by rw [hF123]; exact WC_u wCF119 rfl
            refine g_goto cx 163 e_X11_readsSum_135 (by decide) ?_
            refine g_goto cx 14 e_X11_readsSum_163 (by decide) ?_
            refine g_lsub [1, 2] [(0, .ref (ad 0)), (1, .int (F 26))] rfl ?_
            exact ih14 F123 R110 oF123 fF123 oR110 fR110 wTF123 wCF123 (⟨N2n112, fun q hq => hM q (by rw [eMn112]; exact List.mem_append_right _ (List.mem_cons_of_mem _ hq)), rs_pop psn112 (((g_pu2 hF123 rfl).trans (g_pu2 hF119 rfl)).trans (g_pu2 hF115 rfl)) (by have q0 := (jv_k (x := (-1)) (-1) (by decide)).1; have q1 := (jv_k (x := (-1)) (-1) (by decide)).2; have q2 := (g_here_iv F9 R10).1; have q3 := (g_here_iv F9 R10).2; have q4 := (jv_k (x := 1) 1 (by decide)).1; have q5 := (jv_k (x := 1) 1 (by decide)).2; have q6 := (jv_k (x := 93) 93 (by decide)).1; have q7 := (jv_k (x := 93) 93 (by decide)).2; have q8 := (g_ok_g hI 1 rfl).1; have q9 := (g_ok_g hI 1 rfl).2; have q10 := (g_ok_g hI 2 rfl).1; have q11 := (g_ok_g hI 2 rfl).2; have q12 := (g_ok_g oF109 1 rfl).1; have q13 := (g_ok_g oF109 1 rfl).2; have q14 := (g_ok_g oF109 8 rfl).1; have q15 := (g_ok_g oF109 8 rfl).2; have q16 := (g_ok_g oF123 8 rfl).1; have q17 := (g_ok_g oF123 8 rfl).2; have q18 := (g_ok_g oF9 1 rfl).1; have q19 := (g_ok_g oF9 1 rfl).2; have q20 := (g_ok_g oF9 2 rfl).1; have q21 := (g_ok_g oF9 2 rfl).2; have q22 := pr11.1; have q23 := pr11.2; have q24 := p24.1; have q25 := p24.2; have q26 := p62.1; have q27 := p62.2; have q28 := zx113.2.1; have q29 := zx113.2.2; have q30 := zx121.2.1; have q31 := zx121.2.2; have q32 := fk.2.2; have q33 := (congrArg Int32.toInt zx14); have q34 := (@g_here_lt F9 R10); have q35 := (congrArg Int32.toInt (show F9 16 = F 16 from (fF9 16 rfl))); have q36 := zx20.1; have q37 := zx20.2; have q38 := (gc_eq zc23); have q39 := (congrArg Int32.toInt zx29); have q40 := (@g_here_lt F9 R10); have q41 := (congrArg Int32.toInt (show F9 16 = F 16 from (fF9 16 rfl))); have q42 := (gc_eq zc32); have q43 := hln112; have q44 := (congrArg Int32.toInt (show F109 15 = F9 15 from (cF109 15 rfl))); have q45 := (g_eq0 zx113.1); have q46 := (g_eq0 zx121.1); have q47 := (congrArg Int32.toInt (show F123 26 = x113 from (((g_pu2 hF123 rfl).trans (g_pu2 hF119 rfl)).trans (g_pu1 hF115)))); omega) (by have q0 := (jv_k (x := (-1)) (-1) (by decide)).1; have q1 := (jv_k (x := (-1)) (-1) (by decide)).2; have q2 := (g_here_iv F9 R10).1; have q3 := (g_here_iv F9 R10).2; have q4 := (jv_k (x := 1) 1 (by decide)).1; have q5 := (jv_k (x := 1) 1 (by decide)).2; have q6 := (jv_k (x := 93) 93 (by decide)).1; have q7 := (jv_k (x := 93) 93 (by decide)).2; have q8 := (g_ok_g hI 1 rfl).1; have q9 := (g_ok_g hI 1 rfl).2; have q10 := (g_ok_g hI 2 rfl).1; have q11 := (g_ok_g hI 2 rfl).2; have q12 := (g_ok_g oF109 1 rfl).1; have q13 := (g_ok_g oF109 1 rfl).2; have q14 := (g_ok_g oF109 8 rfl).1; have q15 := (g_ok_g oF109 8 rfl).2; have q16 := (g_ok_g oF123 1 rfl).1; have q17 := (g_ok_g oF123 1 rfl).2; have q18 := (g_ok_g oF123 8 rfl).1; have q19 := (g_ok_g oF123 8 rfl).2; have q20 := (g_ok_g oF9 1 rfl).1; have q21 := (g_ok_g oF9 1 rfl).2; have q22 := (g_ok_g oF9 2 rfl).1; have q23 := (g_ok_g oF9 2 rfl).2; have q24 := pr11.1; have q25 := pr11.2; have q26 := p24.1; have q27 := p24.2; have q28 := p62.1; have q29 := p62.2; have q30 := zx113.2.1; have q31 := zx113.2.2; have q32 := zx121.2.1; have q33 := zx121.2.2; have q34 := fk.2.2; have q35 := (congrArg Int32.toInt zx14); have q36 := (@g_here_lt F9 R10); have q37 := (congrArg Int32.toInt (show F9 16 = F 16 from (fF9 16 rfl))); have q38 := zx20.1; have q39 := zx20.2; have q40 := (gc_eq zc23); have q41 := (congrArg Int32.toInt zx29); have q42 := (@g_here_lt F9 R10); have q43 := (congrArg Int32.toInt (show F9 16 = F 16 from (fF9 16 rfl))); have q44 := (gc_eq zc32); have q45 := hln112; have q46 := (congrArg Int32.toInt (show F109 15 = F9 15 from (cF109 15 rfl))); have q47 := (g_eq0 zx113.1); have q48 := (g_eq0 zx121.1); have q49 := (congrArg Int32.toInt (show F123 26 = x113 from (((g_pu2 hF123 rfl).trans (g_pu2 hF119 rfl)).trans (g_pu1 hF115)))); have q50 := (congrArg Int32.toInt (show F123 15 = x121 from (g_pu1 hF123))); omega) (rfl : R110 12 = R110 12) (rfl : R110 13 = R110 13), FK_e (FK_tr fk fkn112) (((g_pu2 hF123 rfl).trans (g_pu2 hF119 rfl)).trans (g_pu2 hF115 rfl)) (by have q0 := (jv_k (x := (-1)) (-1) (by decide)).1; have q1 := (jv_k (x := (-1)) (-1) (by decide)).2; have q2 := (g_here_iv F9 R10).1; have q3 := (g_here_iv F9 R10).2; have q4 := (jv_k (x := 1) 1 (by decide)).1; have q5 := (jv_k (x := 1) 1 (by decide)).2; have q6 := (jv_k (x := 93) 93 (by decide)).1; have q7 := (jv_k (x := 93) 93 (by decide)).2; have q8 := (g_ok_g hI 1 rfl).1; have q9 := (g_ok_g hI 1 rfl).2; have q10 := (g_ok_g hI 2 rfl).1; have q11 := (g_ok_g hI 2 rfl).2; have q12 := (g_ok_g oF109 1 rfl).1; have q13 := (g_ok_g oF109 1 rfl).2; have q14 := (g_ok_g oF109 8 rfl).1; have q15 := (g_ok_g oF109 8 rfl).2; have q16 := (g_ok_g oF123 1 rfl).1; have q17 := (g_ok_g oF123 1 rfl).2; have q18 := (g_ok_g oF123 8 rfl).1; have q19 := (g_ok_g oF123 8 rfl).2; have q20 := (g_ok_g oF9 1 rfl).1; have q21 := (g_ok_g oF9 1 rfl).2; have q22 := (g_ok_g oF9 2 rfl).1; have q23 := (g_ok_g oF9 2 rfl).2; have q24 := pr11.1; have q25 := pr11.2; have q26 := p24.1; have q27 := p24.2; have q28 := p62.1; have q29 := p62.2; have q30 := zx113.2.1; have q31 := zx113.2.2; have q32 := zx121.2.1; have q33 := zx121.2.2; have q34 := fk.2.2; have q35 := (congrArg Int32.toInt zx14); have q36 := (@g_here_lt F9 R10); have q37 := (congrArg Int32.toInt (show F9 16 = F 16 from (fF9 16 rfl))); have q38 := zx20.1; have q39 := zx20.2; have q40 := (gc_eq zc23); have q41 := (congrArg Int32.toInt zx29); have q42 := (@g_here_lt F9 R10); have q43 := (congrArg Int32.toInt (show F9 16 = F 16 from (fF9 16 rfl))); have q44 := (gc_eq zc32); have q45 := hln112; have q46 := (congrArg Int32.toInt (show F109 15 = F9 15 from (cF109 15 rfl))); have q47 := (g_eq0 zx113.1); have q48 := (g_eq0 zx121.1); have q49 := (congrArg Int32.toInt (show F123 26 = x113 from (((g_pu2 hF123 rfl).trans (g_pu2 hF119 rfl)).trans (g_pu1 hF115)))); have q50 := (congrArg Int32.toInt (show F123 15 = x121 from (g_pu1 hF123))); have q51 := (congrArg Int32.toInt (show F123 15 = x121 from (g_pu1 hF123))); omega) (rfl : R110 12 = R110 12)⟩) (hk124.trans (by rw [hb14])) (Nat.lt_of_lt_of_le (show (2147483647 - (F123 15).toInt).toNat < (2147483647 - (F9 15).toInt).toNat from by have q0 := (jv_k (x := (-1)) (-1) (by decide)).1; have q1 := (jv_k (x := (-1)) (-1) (by decide)).2; have q2 := (g_here_iv F9 R10).1; have q3 := (g_here_iv F9 R10).2; have q4 := (jv_k (x := 1) 1 (by decide)).1; have q5 := (jv_k (x := 1) 1 (by decide)).2; have q6 := (jv_k (x := 93) 93 (by decide)).1; have q7 := (jv_k (x := 93) 93 (by decide)).2; have q8 := (g_ok_g hI 1 rfl).1; have q9 := (g_ok_g hI 1 rfl).2; have q10 := (g_ok_g hI 2 rfl).1; have q11 := (g_ok_g hI 2 rfl).2; have q12 := (g_ok_g oF109 1 rfl).1; have q13 := (g_ok_g oF109 1 rfl).2; have q14 := (g_ok_g oF109 8 rfl).1; have q15 := (g_ok_g oF109 8 rfl).2; have q16 := (g_ok_g oF123 1 rfl).1; have q17 := (g_ok_g oF123 1 rfl).2; have q18 := (g_ok_g oF123 8 rfl).1; have q19 := (g_ok_g oF123 8 rfl).2; have q20 := (g_ok_g oF9 1 rfl).1; have q21 := (g_ok_g oF9 1 rfl).2; have q22 := (g_ok_g oF9 2 rfl).1; have q23 := (g_ok_g oF9 2 rfl).2; have q24 := pr11.1; have q25 := pr11.2; have q26 := p24.1; have q27 := p24.2; have q28 := p62.1; have q29 := p62.2; have q30 := zx113.2.1; have q31 := zx113.2.2; have q32 := zx121.2.1; have q33 := zx121.2.2; have q34 := fk.2.2; have q35 := (congrArg Int32.toInt zx14); have q36 := (@g_here_lt F9 R10); have q37 := (congrArg Int32.toInt (show F9 16 = F 16 from (fF9 16 rfl))); have q38 := zx20.1; have q39 := zx20.2; have q40 := (gc_eq zc23); have q41 := (congrArg Int32.toInt zx29); have q42 := (@g_here_lt F9 R10); have q43 := (congrArg Int32.toInt (show F9 16 = F 16 from (fF9 16 rfl))); have q44 := (gc_eq zc32); have q45 := hln112; have q46 := (congrArg Int32.toInt (show F109 15 = F9 15 from (cF109 15 rfl))); have q47 := (g_eq0 zx113.1); have q48 := (g_eq0 zx121.1); have q49 := (congrArg Int32.toInt (show F123 26 = x113 from (((g_pu2 hF123 rfl).trans (g_pu2 hF119 rfl)).trans (g_pu1 hF115)))); have q50 := (congrArg Int32.toInt (show F123 15 = x121 from (g_pu1 hF123))); have q51 := (congrArg Int32.toInt (show F123 15 = x121 from (g_pu1 hF123))); have q52 := (congrArg Int32.toInt (show F123 15 = x121 from (g_pu1 hF123))); have q53 := (congrArg Int32.toInt (show F123 15 = x121 from (g_pu1 hF123))); omega) (Nat.le_of_lt_succ hm14))
      · have p125 := gn_neL 0 6 (gc_ne zc23) pr17 (jv_k (x := (-1)) (-1) (by decide)) (by decide)
        have hk126 := hk22.trans (if_neg zc23)
        refine g_aload_n cx 1 rfl e_X11_readsSum_27 ?_
        refine g_iload_n cx 0 rfl e_X11_readsSum_28 ?_
        refine g_iconst cx 4 (by decide) e_X11_readsSum_29 ?_
        have J38 : ∀ (y127 : Int32), (jv 0 1 y127) → (SP = K_X11_readsSum_38 b14 F9 R10 r17 y127) → G X E 3 0 0 (wM X ad F9 R10) [(0, .ref (ad 0)), (1, .int (F 26)), (2, .int r17)] 38 [.int y127, .ref (ad 0)] := by
          intro y127 py127 hkJ38
          unfold K_X11_readsSum_38 at hkJ38
          refine g_cVvW cx [.int y127] [] (w_X11_closesSums l X ad F9 R10 oF9 oR10 wTF9R10 wCF9R10 y127 py127 A ((M ++ L)) ((h + cb M + 1)) ps (by rw [cb_app]; have := cg_0 M; omega)) ml_X11_264 yV_X11_closesSums e_X11_readsSum_38 (by unfold g_rr; decide) (by decide) 0 rfl rfl rfl (Nat.le_of_ble_eq_true rfl) (fun w129 h130 => ?_)
          obtain ⟨F133, R134, rfl, oF133, oR134, wTF133, wCF133, cF133, cR134, zx131, hx132⟩ := h130
          have hk135 := k_ls2 hkJ38 hx132
          have fF133 : g_fr md_X11_readsSum F F133 := g_fr_c fF9 cF133 rfl
          have fR134 : g_fr mr_X11_readsSum R R134 := g_fr_c fR10 cR134 rfl
          obtain ⟨Mn136, Ln136, eLn136, hMn136, qn136, htn136, hkn136, h25n136⟩ := zx131
          obtain ⟨Nn136, eMn136, rfl⟩ := sp_ops eLn136 hMn136 hnb
          have psn136 := PS_cs (M := M) eMn136 hMn136 qn136
          have fkn136 : FK F9 R10 F133 R134 := ⟨hkn136, h25n136, (Int.le_of_eq (congrArg Int32.toInt (cF133 15 rfl)).symm)⟩
          refine g_aload_n cx 0 rfl e_X11_readsSum_41 ?_
          refine g_get cx cl_X11 fl_X11_47 0 (.ref (ad 13)) e_X11_readsSum_42 rfl rfl ?_
          refine g_aload_n cx 0 rfl e_X11_readsSum_45 ?_
          refine g_get cx cl_X11 fl_X11_238 0 (.int (F133 26)) e_X11_readsSum_46 rfl rfl ?_
          refine g_ldc cx 1048576 kc_X11_234 e_X11_readsSum_49 ?_
          refine g_iload_n cx 2 rfl e_X11_readsSum_51 ?_
          refine g_imul cx e_X11_readsSum_52 ?_
          refine g_topi (fun x137 ex137 => ?_)
          have hk138 := k_ls hk135 ex137
          have zx137 := jv_mul 0 6291456 ex137 (jv_k (x := 1048576) 1048576 (by decide)) p125 (by decide)
          refine g_iast cx 13 (wM X ad F133 (g_u R134 13 (upd (R134 13) (Int32.toNatClampNeg (F133 26)) x137))) e_X11_readsSum_53 rfl (vp_in_iff.mpr ⟨by have q0 := (jv_k (x := (-1)) (-1) (by decide)).1; have q1 := (jv_k (x := (-1)) (-1) (by decide)).2; have q2 := (g_here_iv F9 R10).1; have q3 := (g_here_iv F9 R10).2; have q4 := (g_ok_g hI 1 rfl).1; have q5 := (g_ok_g hI 1 rfl).2; have q6 := (g_ok_g hI 2 rfl).1; have q7 := (g_ok_g hI 2 rfl).2; have q8 := (g_ok_g oF133 1 rfl).1; have q9 := (g_ok_g oF133 1 rfl).2; have q10 := (g_ok_g oF133 8 rfl).1; have q11 := (g_ok_g oF133 8 rfl).2; have q12 := (g_ok_g oF9 1 rfl).1; have q13 := (g_ok_g oF9 1 rfl).2; have q14 := (g_ok_g oF9 2 rfl).1; have q15 := (g_ok_g oF9 2 rfl).2; have q16 := pr11.1; have q17 := pr11.2; have q18 := p125.1; have q19 := p125.2; have q20 := zx137.2.1; have q21 := zx137.2.2; have q22 := fk.2.2; have q23 := (congrArg Int32.toInt zx14); have q24 := (@g_here_lt F9 R10); have q25 := (congrArg Int32.toInt (show F9 16 = F 16 from (fF9 16 rfl))); have q26 := zx20.1; have q27 := zx20.2; have q28 := (gc_ne zc23); have q29 := psn136.2.2.1; have q30 := psn136.2.2.2.2.2; have q31 := (congrArg Int32.toInt (show F133 15 = F9 15 from (cF133 15 rfl))); have q32 := (g_em2 zx137.1 (by decide : Int32.toInt 1048576 = 1048576)); omega, by have q0 := (jv_k (x := (-1)) (-1) (by decide)).1; have q1 := (jv_k (x := (-1)) (-1) (by decide)).2; have q2 := (g_here_iv F9 R10).1; have q3 := (g_here_iv F9 R10).2; have q4 := (g_ok_g hI 1 rfl).1; have q5 := (g_ok_g hI 1 rfl).2; have q6 := (g_ok_g hI 2 rfl).1; have q7 := (g_ok_g hI 2 rfl).2; have q8 := (g_ok_g oF133 1 rfl).1; have q9 := (g_ok_g oF133 1 rfl).2; have q10 := (g_ok_g oF133 8 rfl).1; have q11 := (g_ok_g oF133 8 rfl).2; have q12 := (g_ok_g oF9 1 rfl).1; have q13 := (g_ok_g oF9 1 rfl).2; have q14 := (g_ok_g oF9 2 rfl).1; have q15 := (g_ok_g oF9 2 rfl).2; have q16 := pr11.1; have q17 := pr11.2; have q18 := p125.1; have q19 := p125.2; have q20 := zx137.2.1; have q21 := zx137.2.2; have q22 := fk.2.2; have q23 := (congrArg Int32.toInt zx14); have q24 := (@g_here_lt F9 R10); have q25 := (congrArg Int32.toInt (show F9 16 = F 16 from (fF9 16 rfl))); have q26 := zx20.1; have q27 := zx20.2; have q28 := (gc_ne zc23); have q29 := psn136.2.2.1; have q30 := psn136.2.2.2.2.2; have q31 := (congrArg Int32.toInt (show F133 15 = F9 15 from (cF133 15 rfl))); have q32 := (g_em2 zx137.1 (by decide : Int32.toInt 1048576 = 1048576)); omega⟩) rfl ?_
          obtain ⟨R139, hR139⟩ : ∃ z, z = g_u R134 13 (upd (R134 13) (Int32.toNatClampNeg (F133 26)) x137) := ⟨_, rfl⟩
          rw [← hR139]
          have hk140 := k_ls hk138 hR139
          have oR139 : g_okR LA_wM R139 := by rw [hR139]; exact g_okR_p oR134 zx137.2 rfl
          have fR139 : g_fr mr_X11_readsSum R R139 := by rw [hR139]; exact g_fr_r fR134 rfl
          have wTR139 : WT F133 R139 := by rw [hR139]; exact WT_r wTF133 rfl
          have wCR139 : WC F133 R139 := by rw [hR139]; exact WC_r wCF133 rfl
          refine g_aload_n cx 0 rfl e_X11_readsSum_54 ?_
          refine g_aload_n cx 0 rfl e_X11_readsSum_55 ?_
          refine g_get cx cl_X11 fl_X11_238 0 (.int (F133 26)) e_X11_readsSum_56 rfl rfl ?_
          refine g_iconst cx 1 (by decide) e_X11_readsSum_59 ?_
          refine g_iadd cx e_X11_readsSum_60 ?_
          refine g_topi (fun x141 ex141 => ?_)
          have hk142 := k_ls hk140 ex141
          have zx141 := jv_add 1 221 ex141 (g_ok_g oF133 8 rfl) (jv_k (x := 1) 1 (by decide)) (by decide)
          refine g_put cx cl_X11 fl_X11_238 0 (wM X ad (upd F133 26 x141) R139) e_X11_readsSum_61 rfl rfl rfl rfl (Nat.le_of_ble_eq_true rfl) rfl ?_
          obtain ⟨F143, hF143⟩ : ∃ z, z = upd F133 26 x141 := ⟨_, rfl⟩
          rw [← hF143]
          have hk144 := k_ls hk142 hF143
          have oF143 : g_ok LK_wM F143 := by rw [hF143]; exact g_ok_p oF133 (show jv 0 220 _ from ⟨by have q0 := (jv_k (x := (-1)) (-1) (by decide)).1; have q1 := (jv_k (x := (-1)) (-1) (by decide)).2; have q2 := (g_here_iv F9 R10).1; have q3 := (g_here_iv F9 R10).2; have q4 := (jv_k (x := 1) 1 (by decide)).1; have q5 := (jv_k (x := 1) 1 (by decide)).2; have q6 := (g_ok_g hI 1 rfl).1; have q7 := (g_ok_g hI 1 rfl).2; have q8 := (g_ok_g hI 2 rfl).1; have q9 := (g_ok_g hI 2 rfl).2; have q10 := (g_ok_g oF133 1 rfl).1; have q11 := (g_ok_g oF133 1 rfl).2; have q12 := (g_ok_g oF133 8 rfl).1; have q13 := (g_ok_g oF133 8 rfl).2; have q14 := (g_ok_g oF9 1 rfl).1; have q15 := (g_ok_g oF9 1 rfl).2; have q16 := (g_ok_g oF9 2 rfl).1; have q17 := (g_ok_g oF9 2 rfl).2; have q18 := pr11.1; have q19 := pr11.2; have q20 := p125.1; have q21 := p125.2; have q22 := zx137.2.1; have q23 := zx137.2.2; have q24 := zx141.2.1; have q25 := zx141.2.2; have q26 := fk.2.2; have q27 := (congrArg Int32.toInt zx14); have q28 := (@g_here_lt F9 R10); have q29 := (congrArg Int32.toInt (show F9 16 = F 16 from (fF9 16 rfl))); have q30 := zx20.1; have q31 := zx20.2; have q32 := (gc_ne zc23); have q33 := psn136.2.2.1; have q34 := psn136.2.2.2.2.2; have q35 := (congrArg Int32.toInt (show F133 15 = F9 15 from (cF133 15 rfl))); have q36 := (g_em2 zx137.1 (by decide : Int32.toInt 1048576 = 1048576)); have q37 := (g_eq0 zx141.1); omega, by have q0 := (jv_k (x := (-1)) (-1) (by decide)).1; have q1 := (jv_k (x := (-1)) (-1) (by decide)).2; have q2 := (g_here_iv F9 R10).1; have q3 := (g_here_iv F9 R10).2; have q4 := (jv_k (x := 1) 1 (by decide)).1; have q5 := (jv_k (x := 1) 1 (by decide)).2; have q6 := (g_ok_g hI 1 rfl).1; have q7 := (g_ok_g hI 1 rfl).2; have q8 := (g_ok_g hI 2 rfl).1; have q9 := (g_ok_g hI 2 rfl).2; have q10 := (g_ok_g oF133 1 rfl).1; have q11 := (g_ok_g oF133 1 rfl).2; have q12 := (g_ok_g oF133 8 rfl).1; have q13 := (g_ok_g oF133 8 rfl).2; have q14 := (g_ok_g oF9 1 rfl).1; have q15 := (g_ok_g oF9 1 rfl).2; have q16 := (g_ok_g oF9 2 rfl).1; have q17 := (g_ok_g oF9 2 rfl).2; have q18 := pr11.1; have q19 := pr11.2; have q20 := p125.1; have q21 := p125.2; have q22 := zx137.2.1; have q23 := zx137.2.2; have q24 := zx141.2.1; have q25 := zx141.2.2; have q26 := fk.2.2; have q27 := (congrArg Int32.toInt zx14); have q28 := (@g_here_lt F9 R10); have q29 := (congrArg Int32.toInt (show F9 16 = F 16 from (fF9 16 rfl))); have q30 := zx20.1; have q31 := zx20.2; have q32 := (gc_ne zc23); have q33 := psn136.2.2.1; have q34 := psn136.2.2.2.2.2; have q35 := (congrArg Int32.toInt (show F133 15 = F9 15 from (cF133 15 rfl))); have q36 := (g_em2 zx137.1 (by decide : Int32.toInt 1048576 = 1048576)); have q37 := (g_eq0 zx141.1); omega⟩) rfl
          have fF143 : g_fr md_X11_readsSum F F143 := by rw [hF143]; exact g_fr_u fF133 rfl
          have wTF143 : WT F143 R139 := by rw [hF143]; exact WT_u wTR139 rfl
          have wCF143 : WC F143 R139 := by rw [hF143]; exact WC_u wCR139 rfl
          refine g_aload_n cx 0 rfl e_X11_readsSum_64 ?_
          refine g_aload_n cx 0 rfl e_X11_readsSum_65 ?_
          refine g_get cx cl_X11 fl_X11_190 0 (.int (F143 15)) e_X11_readsSum_66 rfl rfl ?_
          refine g_toi (F9 15) ((g_pu2 hF143 rfl).trans (cF133 15 rfl)) ?_
          refine g_iconst cx 1 (by decide) e_X11_readsSum_69 ?_
          refine g_iadd cx e_X11_readsSum_70 ?_
          refine g_topi (fun x145 ex145 => ?_)
          have hk146 := k_ls hk144 ex145
          have zx145 := jv_add 1 221 ex145 (g_ok_g oF9 1 rfl) (jv_k (x := 1) 1 (by decide)) (by decide)
          refine g_put cx cl_X11 fl_X11_190 0 (wM X ad (upd F143 15 x145) R139) e_X11_readsSum_71 rfl rfl rfl rfl (Nat.le_of_ble_eq_true rfl) rfl ?_
          obtain ⟨F147, hF147⟩ : ∃ z, z = upd F143 15 x145 := ⟨_, rfl⟩
          rw [← hF147]
          have hk148 := k_ls hk146 hF147
          have oF147 : g_ok LK_wM F147 := by rw [hF147]; exact g_ok_p oF143 (show jv 0 220 _ from ⟨by have q0 := (jv_k (x := (-1)) (-1) (by decide)).1; have q1 := (jv_k (x := (-1)) (-1) (by decide)).2; have q2 := (g_here_iv F9 R10).1; have q3 := (g_here_iv F9 R10).2; have q4 := (jv_k (x := 1) 1 (by decide)).1; have q5 := (jv_k (x := 1) 1 (by decide)).2; have q6 := (g_ok_g hI 1 rfl).1; have q7 := (g_ok_g hI 1 rfl).2; have q8 := (g_ok_g hI 2 rfl).1; have q9 := (g_ok_g hI 2 rfl).2; have q10 := (g_ok_g oF133 1 rfl).1; have q11 := (g_ok_g oF133 1 rfl).2; have q12 := (g_ok_g oF133 8 rfl).1; have q13 := (g_ok_g oF133 8 rfl).2; have q14 := (g_ok_g oF9 1 rfl).1; have q15 := (g_ok_g oF9 1 rfl).2; have q16 := (g_ok_g oF9 2 rfl).1; have q17 := (g_ok_g oF9 2 rfl).2; have q18 := pr11.1; have q19 := pr11.2; have q20 := p125.1; have q21 := p125.2; have q22 := zx137.2.1; have q23 := zx137.2.2; have q24 := zx141.2.1; have q25 := zx141.2.2; have q26 := zx145.2.1; have q27 := zx145.2.2; have q28 := fk.2.2; have q29 := (congrArg Int32.toInt zx14); have q30 := (@g_here_lt F9 R10); have q31 := (congrArg Int32.toInt (show F9 16 = F 16 from (fF9 16 rfl))); have q32 := zx20.1; have q33 := zx20.2; have q34 := (gc_ne zc23); have q35 := psn136.2.2.1; have q36 := psn136.2.2.2.2.2; have q37 := (congrArg Int32.toInt (show F133 15 = F9 15 from (cF133 15 rfl))); have q38 := (g_em2 zx137.1 (by decide : Int32.toInt 1048576 = 1048576)); have q39 := (g_eq0 zx141.1); have q40 := (g_eq0 zx145.1); omega, by have q0 := (jv_k (x := (-1)) (-1) (by decide)).1; have q1 := (jv_k (x := (-1)) (-1) (by decide)).2; have q2 := (g_here_iv F9 R10).1; have q3 := (g_here_iv F9 R10).2; have q4 := (jv_k (x := 1) 1 (by decide)).1; have q5 := (jv_k (x := 1) 1 (by decide)).2; have q6 := (g_ok_g hI 1 rfl).1; have q7 := (g_ok_g hI 1 rfl).2; have q8 := (g_ok_g hI 2 rfl).1; have q9 := (g_ok_g hI 2 rfl).2; have q10 := (g_ok_g oF133 1 rfl).1; have q11 := (g_ok_g oF133 1 rfl).2; have q12 := (g_ok_g oF133 8 rfl).1; have q13 := (g_ok_g oF133 8 rfl).2; have q14 := (g_ok_g oF9 1 rfl).1; have q15 := (g_ok_g oF9 1 rfl).2; have q16 := (g_ok_g oF9 2 rfl).1; have q17 := (g_ok_g oF9 2 rfl).2; have q18 := pr11.1; have q19 := pr11.2; have q20 := p125.1; have q21 := p125.2; have q22 := zx137.2.1; have q23 := zx137.2.2; have q24 := zx141.2.1; have q25 := zx141.2.2; have q26 := zx145.2.1; have q27 := zx145.2.2; have q28 := fk.2.2; have q29 := (congrArg Int32.toInt zx14); have q30 := (@g_here_lt F9 R10); have q31 := (congrArg Int32.toInt (show F9 16 = F 16 from (fF9 16 rfl))); have q32 := zx20.1; have q33 := zx20.2; have q34 := (gc_ne zc23); have q35 := psn136.2.2.1; have q36 := psn136.2.2.2.2.2; have q37 := (congrArg Int32.toInt (show F133 15 = F9 15 from (cF133 15 rfl))); have q38 := (g_em2 zx137.1 (by decide : Int32.toInt 1048576 = 1048576)); have q39 := (g_eq0 zx141.1); have q40 := (g_eq0 zx145.1); omega⟩) rfl
          have fF147 : g_fr md_X11_readsSum F F147 := by rw [hF147]; exact g_fr_u fF143 rfl
          have wTF147 : WT F147 R139 := by rw [hF147]; exact WT_u wTF143 rfl
          have wCF147 : WC F147 R139 := by rw [hF147]; exact WC_u wCF143 rfl
          have hsn136 : 2 ≤ (r17 : Int32).toInt ∧ (r17 : Int32).toInt ≤ 6 := by have hs0 := (show 2 ≤ (r17 : Int32).toInt from by have q0 := (jv_k (x := (-1)) (-1) (by decide)).1; have q1 := (jv_k (x := (-1)) (-1) (by decide)).2; have q2 := (g_here_iv F9 R10).1; have q3 := (g_here_iv F9 R10).2; have q4 := (jv_k (x := 1) 1 (by decide)).1; have q5 := (jv_k (x := 1) 1 (by decide)).2; have q6 := (g_ok_g hI 1 rfl).1; have q7 := (g_ok_g hI 1 rfl).2; have q8 := (g_ok_g hI 2 rfl).1; have q9 := (g_ok_g hI 2 rfl).2; have q10 := (g_ok_g oF133 1 rfl).1; have q11 := (g_ok_g oF133 1 rfl).2; have q12 := (g_ok_g oF133 8 rfl).1; have q13 := (g_ok_g oF133 8 rfl).2; have q14 := (g_ok_g oF9 1 rfl).1; have q15 := (g_ok_g oF9 1 rfl).2; have q16 := (g_ok_g oF9 2 rfl).1; have q17 := (g_ok_g oF9 2 rfl).2; have q18 := pr11.1; have q19 := pr11.2; have q20 := p125.1; have q21 := p125.2; have q22 := zx137.2.1; have q23 := zx137.2.2; have q24 := zx141.2.1; have q25 := zx141.2.2; have q26 := zx145.2.1; have q27 := zx145.2.2; have q28 := fk.2.2; have q29 := (congrArg Int32.toInt zx14); have q30 := (@g_here_lt F9 R10); have q31 := (congrArg Int32.toInt (show F9 16 = F 16 from (fF9 16 rfl))); have q32 := zx20.1; have q33 := zx20.2; have q34 := (gc_ne zc23); have q35 := psn136.2.2.1; have q36 := psn136.2.2.2.2.2; have q37 := (congrArg Int32.toInt (show F133 15 = F9 15 from (cF133 15 rfl))); have q38 := (g_em2 zx137.1 (by decide : Int32.toInt 1048576 = 1048576)); have q39 := (g_eq0 zx141.1); have q40 := (g_eq0 zx145.1); omega); have hs1 := (show (r17 : Int32).toInt ≤ 6 from by have q0 := (jv_k (x := (-1)) (-1) (by decide)).1; have q1 := (jv_k (x := (-1)) (-1) (by decide)).2; have q2 := (g_here_iv F9 R10).1; have q3 := (g_here_iv F9 R10).2; have q4 := (jv_k (x := 1) 1 (by decide)).1; have q5 := (jv_k (x := 1) 1 (by decide)).2; have q6 := (g_ok_g hI 1 rfl).1; have q7 := (g_ok_g hI 1 rfl).2; have q8 := (g_ok_g hI 2 rfl).1; have q9 := (g_ok_g hI 2 rfl).2; have q10 := (g_ok_g oF133 1 rfl).1; have q11 := (g_ok_g oF133 1 rfl).2; have q12 := (g_ok_g oF133 8 rfl).1; have q13 := (g_ok_g oF133 8 rfl).2; have q14 := (g_ok_g oF9 1 rfl).1; have q15 := (g_ok_g oF9 1 rfl).2; have q16 := (g_ok_g oF9 2 rfl).1; have q17 := (g_ok_g oF9 2 rfl).2; have q18 := pr11.1; have q19 := pr11.2; have q20 := p125.1; have q21 := p125.2; have q22 := zx137.2.1; have q23 := zx137.2.2; have q24 := zx141.2.1; have q25 := zx141.2.2; have q26 := zx145.2.1; have q27 := zx145.2.2; have q28 := fk.2.2; have q29 := (congrArg Int32.toInt zx14); have q30 := (@g_here_lt F9 R10); have q31 := (congrArg Int32.toInt (show F9 16 = F 16 from (fF9 16 rfl))); have q32 := zx20.1; have q33 := zx20.2; have q34 := (gc_ne zc23); have q35 := psn136.2.2.1; have q36 := psn136.2.2.2.2.2; have q37 := (congrArg Int32.toInt (show F133 15 = F9 15 from (cF133 15 rfl))); have q38 := (g_em2 zx137.1 (by decide : Int32.toInt 1048576 = 1048576)); have q39 := (g_eq0 zx141.1); have q40 := (g_eq0 zx145.1); omega); constructor <;> omega
          have psn149 : PS F147 R139 A (((r17 : Int32).toInt, 0) :: (Nn136 ++ L)) (h + cb Nn136 + 1) := PS_push (v := x137) psn136 ⟨by omega, by omega, by omega⟩ (by have q0 := (jv_k (x := (-1)) (-1) (by decide)).1; have q1 := (jv_k (x := (-1)) (-1) (by decide)).2; have q2 := (g_here_iv F9 R10).1; have q3 := (g_here_iv F9 R10).2; have q4 := (jv_k (x := 1) 1 (by decide)).1; have q5 := (jv_k (x := 1) 1 (by decide)).2; have q6 := (g_ok_g hI 1 rfl).1; have q7 := (g_ok_g hI 1 rfl).2; have q8 := (g_ok_g hI 2 rfl).1; have q9 := (g_ok_g hI 2 rfl).2; have q10 := (g_ok_g oF133 1 rfl).1; have q11 := (g_ok_g oF133 1 rfl).2; have q12 := (g_ok_g oF133 8 rfl).1; have q13 := (g_ok_g oF133 8 rfl).2; have q14 := (g_ok_g oF9 1 rfl).1; have q15 := (g_ok_g oF9 1 rfl).2; have q16 := (g_ok_g oF9 2 rfl).1; have q17 := (g_ok_g oF9 2 rfl).2; have q18 := pr11.1; have q19 := pr11.2; have q20 := p125.1; have q21 := p125.2; have q22 := zx137.2.1; have q23 := zx137.2.2; have q24 := zx141.2.1; have q25 := zx141.2.2; have q26 := zx145.2.1; have q27 := zx145.2.2; have q28 := fk.2.2; have q29 := (congrArg Int32.toInt zx14); have q30 := (@g_here_lt F9 R10); have q31 := (congrArg Int32.toInt (show F9 16 = F 16 from (fF9 16 rfl))); have q32 := zx20.1; have q33 := zx20.2; have q34 := (gc_ne zc23); have q35 := psn136.2.2.1; have q36 := psn136.2.2.2.2.2; have q37 := (congrArg Int32.toInt (show F133 15 = F9 15 from (cF133 15 rfl))); have q38 := (g_em2 zx137.1 (by decide : Int32.toInt 1048576 = 1048576)); have q39 := (g_eq0 zx141.1); have q40 := (g_eq0 zx145.1); omega) ((g_pu2 hF147 rfl).trans (g_pu2 hF143 rfl)) (by have q0 := (jv_k (x := (-1)) (-1) (by decide)).1; have q1 := (jv_k (x := (-1)) (-1) (by decide)).2; have q2 := (g_here_iv F9 R10).1; have q3 := (g_here_iv F9 R10).2; have q4 := (jv_k (x := 1) 1 (by decide)).1; have q5 := (jv_k (x := 1) 1 (by decide)).2; have q6 := (g_ok_g hI 1 rfl).1; have q7 := (g_ok_g hI 1 rfl).2; have q8 := (g_ok_g hI 2 rfl).1; have q9 := (g_ok_g hI 2 rfl).2; have q10 := (g_ok_g oF133 1 rfl).1; have q11 := (g_ok_g oF133 1 rfl).2; have q12 := (g_ok_g oF133 8 rfl).1; have q13 := (g_ok_g oF133 8 rfl).2; have q14 := (g_ok_g oF147 8 rfl).1; have q15 := (g_ok_g oF147 8 rfl).2; have q16 := (g_ok_g oF9 1 rfl).1; have q17 := (g_ok_g oF9 1 rfl).2; have q18 := (g_ok_g oF9 2 rfl).1; have q19 := (g_ok_g oF9 2 rfl).2; have q20 := pr11.1; have q21 := pr11.2; have q22 := p125.1; have q23 := p125.2; have q24 := zx137.2.1; have q25 := zx137.2.2; have q26 := zx141.2.1; have q27 := zx141.2.2; have q28 := zx145.2.1; have q29 := zx145.2.2; have q30 := fk.2.2; have q31 := (congrArg Int32.toInt zx14); have q32 := (@g_here_lt F9 R10); have q33 := (congrArg Int32.toInt (show F9 16 = F 16 from (fF9 16 rfl))); have q34 := zx20.1; have q35 := zx20.2; have q36 := (gc_ne zc23); have q37 := psn136.2.2.1; have q38 := psn136.2.2.2.2.2; have q39 := (congrArg Int32.toInt (show F133 15 = F9 15 from (cF133 15 rfl))); have q40 := (g_em2 zx137.1 (by decide : Int32.toInt 1048576 = 1048576)); have q41 := (g_eq0 zx141.1); have q42 := (g_eq0 zx145.1); have q43 := (congrArg Int32.toInt (show F147 26 = x141 from ((g_pu2 hF147 rfl).trans (g_pu1 hF143)))); omega) (by have q0 := (jv_k (x := (-1)) (-1) (by decide)).1; have q1 := (jv_k (x := (-1)) (-1) (by decide)).2; have q2 := (g_here_iv F9 R10).1; have q3 := (g_here_iv F9 R10).2; have q4 := (jv_k (x := 1) 1 (by decide)).1; have q5 := (jv_k (x := 1) 1 (by decide)).2; have q6 := (g_ok_g hI 1 rfl).1; have q7 := (g_ok_g hI 1 rfl).2; have q8 := (g_ok_g hI 2 rfl).1; have q9 := (g_ok_g hI 2 rfl).2; have q10 := (g_ok_g oF133 1 rfl).1; have q11 := (g_ok_g oF133 1 rfl).2; have q12 := (g_ok_g oF133 8 rfl).1; have q13 := (g_ok_g oF133 8 rfl).2; have q14 := (g_ok_g oF147 1 rfl).1; have q15 := (g_ok_g oF147 1 rfl).2; have q16 := (g_ok_g oF147 8 rfl).1; have q17 := (g_ok_g oF147 8 rfl).2; have q18 := (g_ok_g oF9 1 rfl).1; have q19 := (g_ok_g oF9 1 rfl).2; have q20 := (g_ok_g oF9 2 rfl).1; have q21 := (g_ok_g oF9 2 rfl).2; have q22 := pr11.1; have q23 := pr11.2; have q24 := p125.1; have q25 := p125.2; have q26 := zx137.2.1; have q27 := zx137.2.2; have q28 := zx141.2.1; have q29 := zx141.2.2; have q30 := zx145.2.1; have q31 := zx145.2.2; have q32 := fk.2.2; have q33 := (congrArg Int32.toInt zx14); have q34 := (@g_here_lt F9 R10); have q35 := (congrArg Int32.toInt (show F9 16 = F 16 from (fF9 16 rfl))); have q36 := zx20.1; have q37 := zx20.2; have q38 := (gc_ne zc23); have q39 := psn136.2.2.1; have q40 := psn136.2.2.2.2.2; have q41 := (congrArg Int32.toInt (show F133 15 = F9 15 from (cF133 15 rfl))); have q42 := (g_em2 zx137.1 (by decide : Int32.toInt 1048576 = 1048576)); have q43 := (g_eq0 zx141.1); have q44 := (g_eq0 zx145.1); have q45 := (congrArg Int32.toInt (show F147 26 = x141 from ((g_pu2 hF147 rfl).trans (g_pu1 hF143)))); have q46 := (congrArg Int32.toInt (show F147 15 = x145 from (g_pu1 hF147))); omega) (g_ru2 hR139 rfl) (g_ru1 hR139)
          have fk74 : FK F R F147 R139 := FK_e (FK_tr fk fkn136) ((g_pu2 hF147 rfl).trans (g_pu2 hF143 rfl)) (by have q0 := (jv_k (x := (-1)) (-1) (by decide)).1; have q1 := (jv_k (x := (-1)) (-1) (by decide)).2; have q2 := (g_here_iv F9 R10).1; have q3 := (g_here_iv F9 R10).2; have q4 := (jv_k (x := 1) 1 (by decide)).1; have q5 := (jv_k (x := 1) 1 (by decide)).2; have q6 := (g_ok_g hI 1 rfl).1; have q7 := (g_ok_g hI 1 rfl).2; have q8 := (g_ok_g hI 2 rfl).1; have q9 := (g_ok_g hI 2 rfl).2; have q10 := (g_ok_g oF133 1 rfl).1; have q11 := (g_ok_g oF133 1 rfl).2; have q12 := (g_ok_g oF133 8 rfl).1; have q13 := (g_ok_g oF133 8 rfl).2; have q14 := (g_ok_g oF147 1 rfl).1; have q15 := (g_ok_g oF147 1 rfl).2; have q16 := (g_ok_g oF147 8 rfl).1; have q17 := (g_ok_g oF147 8 rfl).2; have q18 := (g_ok_g oF9 1 rfl).1; have q19 := (g_ok_g oF9 1 rfl).2; have q20 := (g_ok_g oF9 2 rfl).1; have q21 := (g_ok_g oF9 2 rfl).2; have q22 := pr11.1; have q23 := pr11.2; have q24 := p125.1; have q25 := p125.2; have q26 := zx137.2.1; have q27 := zx137.2.2; have q28 := zx141.2.1; have q29 := zx141.2.2; have q30 := zx145.2.1; have q31 := zx145.2.2; have q32 := fk.2.2; have q33 := (congrArg Int32.toInt zx14); have q34 := (@g_here_lt F9 R10); have q35 := (congrArg Int32.toInt (show F9 16 = F 16 from (fF9 16 rfl))); have q36 := zx20.1; have q37 := zx20.2; have q38 := (gc_ne zc23); have q39 := psn136.2.2.1; have q40 := psn136.2.2.2.2.2; have q41 := (congrArg Int32.toInt (show F133 15 = F9 15 from (cF133 15 rfl))); have q42 := (g_em2 zx137.1 (by decide : Int32.toInt 1048576 = 1048576)); have q43 := (g_eq0 zx141.1); have q44 := (g_eq0 zx145.1); have q45 := (congrArg Int32.toInt (show F147 26 = x141 from ((g_pu2 hF147 rfl).trans (g_pu1 hF143)))); have q46 := (congrArg Int32.toInt (show F147 15 = x145 from (g_pu1 hF147))); have q47 := (congrArg Int32.toInt (show F147 15 = x145 from (g_pu1 hF147))); omega) (g_ru2 hR139 rfl)
          refine g_aload_n cx 0 rfl e_X11_readsSum_74 ?_
          refine g_cViW cx [] [] (w_X11_readsFactor l X ad F147 R139 oF147 oR139 wTF147 wCF147 A ((((r17 : Int32).toInt, 0) :: (Nn136 ++ L))) ((h + cb Nn136 + 1)) psn149) ml_X11_258 yV_X11_readsFactor e_X11_readsSum_75 (by unfold g_rr; decide) (by decide) 0 rfl rfl rfl (Nat.le_of_ble_eq_true rfl) (fun r150 w151 h152 => ?_)
          obtain ⟨F155, R156, rfl, oF155, oR156, wTF155, wCF155, cF155, cR156, pr150, zx153, hx154⟩ := h152
          have hk157 := k_ls3 hk148 hx154
          have fF155 : g_fr md_X11_readsSum F F155 := g_fr_c fF147 cF155 rfl
          have fR156 : g_fr mr_X11_readsSum R R156 := g_fr_c fR139 cR156 rfl
          refine g_if_ne cx 163 e_X11_readsSum_78 (by decide) (fun zc158 => ?_) (fun zc158 => ?_)
          · have p159 := gn_neL 1 1 (gc_ne zc158) pr150 (jv_k (x := 0) 0 (by decide)) (by decide)
            obtain ⟨Kk160, hKk160, qk160, fkk160⟩ := (zx153 zc158)
            have hk161 := hk157.trans (if_neg zc158)
            refine g_goto cx 14 e_X11_readsSum_163 (by decide) ?_
            refine g_lsub [0, 1] [(0, .ref (ad 0)), (1, .int (F 26))] rfl ?_
            exact ih14 F155 R156 oF155 fF155 oR156 fR156 wTF155 wCF155 (by obtain ⟨M, m1, m2⟩ := rs_sign hsn136 (fun q hq => hM q (by rw [eMn136]; exact List.mem_append_right _ hq)) hKk160 qk160; exact ⟨M, m1, m2, FK_tr fk74 fkk160⟩) (hk161.trans (by rw [hb14])) (Nat.lt_of_lt_of_le (show (2147483647 - (F155 15).toInt).toNat < (2147483647 - (F9 15).toInt).toNat from by have q0 := (jv_k (x := (-1)) (-1) (by decide)).1; have q1 := (jv_k (x := (-1)) (-1) (by decide)).2; have q2 := (g_here_iv F9 R10).1; have q3 := (g_here_iv F9 R10).2; have q4 := (jv_k (x := 1) 1 (by decide)).1; have q5 := (jv_k (x := 1) 1 (by decide)).2; have q6 := (g_ok_g hI 1 rfl).1; have q7 := (g_ok_g hI 1 rfl).2; have q8 := (g_ok_g hI 2 rfl).1; have q9 := (g_ok_g hI 2 rfl).2; have q10 := (g_ok_g oF133 1 rfl).1; have q11 := (g_ok_g oF133 1 rfl).2; have q12 := (g_ok_g oF133 8 rfl).1; have q13 := (g_ok_g oF133 8 rfl).2; have q14 := (g_ok_g oF147 1 rfl).1; have q15 := (g_ok_g oF147 1 rfl).2; have q16 := (g_ok_g oF147 8 rfl).1; have q17 := (g_ok_g oF147 8 rfl).2; have q18 := (g_ok_g oF155 1 rfl).1; have q19 := (g_ok_g oF155 1 rfl).2; have q20 := (g_ok_g oF9 1 rfl).1; have q21 := (g_ok_g oF9 1 rfl).2; have q22 := (g_ok_g oF9 2 rfl).1; have q23 := (g_ok_g oF9 2 rfl).2; have q24 := pr11.1; have q25 := pr11.2; have q26 := p125.1; have q27 := p125.2; have q28 := zx137.2.1; have q29 := zx137.2.2; have q30 := zx141.2.1; have q31 := zx141.2.2; have q32 := zx145.2.1; have q33 := zx145.2.2; have q34 := fk.2.2; have q35 := (congrArg Int32.toInt zx14); have q36 := (@g_here_lt F9 R10); have q37 := (congrArg Int32.toInt (show F9 16 = F 16 from (fF9 16 rfl))); have q38 := zx20.1; have q39 := zx20.2; have q40 := (gc_ne zc23); have q41 := psn136.2.2.1; have q42 := psn136.2.2.2.2.2; have q43 := (congrArg Int32.toInt (show F133 15 = F9 15 from (cF133 15 rfl))); have q44 := (g_em2 zx137.1 (by decide : Int32.toInt 1048576 = 1048576)); have q45 := (g_eq0 zx141.1); have q46 := (g_eq0 zx145.1); have q47 := (congrArg Int32.toInt (show F147 26 = x141 from ((g_pu2 hF147 rfl).trans (g_pu1 hF143)))); have q48 := (congrArg Int32.toInt (show F147 15 = x145 from (g_pu1 hF147))); have q49 := (congrArg Int32.toInt (show F147 15 = x145 from (g_pu1 hF147))); have q50 := fkk160.2.2; have q51 := (congrArg Int32.toInt (show F147 15 = x145 from (g_pu1 hF147))); omega) (Nat.le_of_lt_succ hm14))
          · have p162 := gn_eq 0 0 (gc_eq zc158) pr150 (jv_k (x := 0) 0 (by decide)) (by decide)
            have hk163 := hk157.trans (if_pos zc158)
            refine g_iconst cx 0 (by decide) e_X11_readsSum_81 ?_
            exact hret e_X11_readsSum_82 (Nat.le_of_ble_eq_true rfl) (Nat.le_of_ble_eq_true rfl) rfl ⟨F155, R156, rfl, oF155, oR156, wTF155, wCF155, fF155, fR156, (jv_w (jv_k (x := 0) 0 (by decide)) (by decide)), (fun h0 => absurd (by first | rfl | exact jv_c 0 (jv_k (x := 0) 0 (by decide)) (by decide)) h0), (hk163.symm.trans hSP)⟩
        refine g_icmp_ge cx 37 e_X11_readsSum_30 (by decide) (fun zc164 => ?_) (fun zc164 => ?_)
        · have p165 := gn_ge 4 6 (gc_le zc164) p125 (jv_k (x := 4) 4 (by decide)) (by decide)
          have hk166 := hk126.trans (if_pos zc164)
          refine g_iconst cx 0 (by decide) e_X11_readsSum_37 ?_
          refine g_lsub [1, 2, 0] [(0, .ref (ad 0)), (1, .int (F 26)), (2, .int r17)] rfl ?_
          exact J38 0 (jv_w (jv_k (x := 0) 0 (by decide)) (by decide)) hk166
        · have p167 := gn_lt 0 3 (gc_nle zc164) p125 (jv_k (x := 4) 4 (by decide)) (by decide)
          have hk168 := hk126.trans (if_neg zc164)
          refine g_iconst cx 1 (by decide) e_X11_readsSum_33 ?_
          refine g_goto cx 38 e_X11_readsSum_34 (by decide) ?_
          refine g_lsub [1, 2, 0] [(0, .ref (ad 0)), (1, .int (F 26)), (2, .int r17)] rfl ?_
          exact J38 1 (jv_w (jv_k (x := 1) 1 (by decide)) (by decide)) hk168
  refine g_if_ne cx 14 e_X11_readsSum_9 (by decide) (fun zc169 => ?_) (fun zc169 => ?_)
  · have p170 := gn_neL 1 1 (gc_ne zc169) pr1 (jv_k (x := 0) 0 (by decide)) (by decide)
    obtain ⟨Kk171, hKk171, qk171, fkk171⟩ := (zx4 zc169)
    have hk172 := hk8.trans (if_neg zc169)
    refine g_lsub [1, 0] [(0, .ref (ad 0)), (1, .int (F 26))] rfl ?_
    exact J14 8589934592 F6 R7 oF6 fF6 oR7 fR7 wTF6 wCF6 (by obtain ⟨M, m1, m2⟩ := rs_first hKk171 qk171; exact ⟨M, m1, m2, fkk171⟩) hk172 (show (2147483647 - (F6 15).toInt).toNat < 8589934592 from by have q0 := (g_ok_g oF6 1 rfl).1; have q1 := (g_ok_g oF6 1 rfl).2; omega)
  · have p173 := gn_eq 0 0 (gc_eq zc169) pr1 (jv_k (x := 0) 0 (by decide)) (by decide)
    have hk174 := hk8.trans (if_pos zc169)
    refine g_iconst cx 0 (by decide) e_X11_readsSum_12 ?_
    exact hret e_X11_readsSum_13 (Nat.le_of_ble_eq_true rfl) (Nat.le_of_ble_eq_true rfl) rfl ⟨F6, R7, rfl, oF6, oR7, wTF6, wCF6, fF6, fR7, (jv_w (jv_k (x := 0) 0 (by decide)) (by decide)), (fun h0 => absurd (by first | rfl | exact jv_c 0 (jv_k (x := 0) 0 (by decide)) (by decide)) h0), (hk174.symm.trans hSP)⟩
