theorem cb_app : ∀ M L : List (Int × Nat), cb (M ++ L) = cb M + cb L
  | [], L => by simp [cb]
  | q :: M, L => by
    have h := cb_app M L
    show cb (M ++ L) + _ = cb M + _ + cb L
    omega
theorem cb_ops : ∀ {M : List (Int × Nat)}, (∀ q ∈ M, 2 ≤ q.1 ∧ q.1 ≤ 6) → cb M = (M.length : Int)
  | [], _ => rfl
  | q :: M, h => by
    have h1 := cb_ops (M := M) (fun p hp => h p (List.mem_cons_of_mem _ hp))
    have h2 := h q List.mem_cons_self
    simp only [cb, List.length_cons]
    rw [if_pos h2]
    omega
theorem sp_ops : ∀ {M' M L L1 : List (Int × Nat)}, M ++ L = M' ++ L1 → (∀ q ∈ M', 2 ≤ q.1 ∧ q.1 ≤ 6) → cb L = 0 → ∃ M2, M = M' ++ M2 ∧ L1 = M2 ++ L
  | [], M, _, _, h, _, _ => ⟨M, rfl, h.symm⟩
  | q :: M', [], L, L1, h, ho, hc => by
    have e : L = q :: (M' ++ L1) := h
    have h2 := ho q List.mem_cons_self
    have h3 := cg_0 (M' ++ L1)
    rw [e, cb, if_pos h2] at hc
    omega
  | q :: M', p :: M, L, L1, h, ho, hc => by
    have e := List.cons.inj (show p :: (M ++ L) = q :: (M' ++ L1) from h)
    obtain ⟨M2, e1, e2⟩ := sp_ops e.2 (fun x hx => ho x (List.mem_cons_of_mem _ hx)) hc
    exact ⟨M2, by rw [e.1, e1]; rfl, e2⟩
theorem PS_cs {F : Nat → Int32} {R : Nat → Nat → Int32} {A : Nat} {M M' M2 L : List (Int × Nat)} {h : Int} (eM : M = M' ++ M2) (hM : ∀ q ∈ M', 2 ≤ q.1 ∧ q.1 ≤ 6) (p : PS F R A (M2 ++ L) (h + cb M + 1 - M'.length)) : PS F R A (M2 ++ L) (h + cb M2 + 1) := by
  have e : cb M = (M'.length : Int) + cb M2 := by rw [eM, cb_app, cb_ops hM]
  rw [show h + cb M2 + 1 = h + cb M + 1 - (M'.length : Int) from by omega]
  exact p
