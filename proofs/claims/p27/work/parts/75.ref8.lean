/-! ===== the reference's reader keeps the rules ===== -/
def PM (u : Nat → Nat) (N : Nat) : PsT := fun k o i j a L => i + L.length ≤ j ∧ (o ≤ 6 → (match k with
  | 0 => PMF u N Qn o i j L
  | 1 => PMR u N Qm o i j L
  | 2 => PMF u N Qm o i j L
  | 3 => PMR u N Qa o i j L
  | 4 => PMF u N Qa o i j L
  | 5 => PMC u N o i j L ∧ i < j
  | 6 => PMP u N o i j L
  | 7 => PMS u N o i j a L
  | 8 => PMT u N o i j a L
  | _ => True))
def PFm (u : Nat → Nat) (N : Nat) : PfT := fun k o i f => o ≤ 6 → (match k with
  | 0 => PFF u N Qn o i f
  | 1 => PFR u N Qm o i f
  | 2 => PFF u N Qm o i f
  | 3 => PFR u N Qa o i f
  | 4 => PFF u N Qa o i f
  | 5 => PFC u N o i f
  | 6 => PFP u N o i f
  | 7 => PFS u N o i f
  | 8 => PFT u N o i f
  | _ => True)
theorem Qn_m : ∀ x, Qn x → Qm x := fun _ h => h.elim
theorem Qm_a : ∀ x, Qm x → Qa x := fun x h => by
  obtain ⟨h1, h2⟩ : 4 ≤ x.1 ∧ x.1 ≤ 6 := h
  exact ⟨by omega, h2⟩
section RM9
variable {u : Nat → Nat} {N : Nat}
theorem PM_rules (hu : HU u N) : Rules u (PM u N) (PFm u N) :=
  ⟨fun o i n h1 h2 h3 h4 => ⟨by simp only [List.length_cons, List.length_nil]; omega, fun _ => pm_num hu h1 h2 h3 h4⟩,
   fun o i h _ => pf_num hu h,
   fun o i h => ⟨by simp only [List.length_cons, List.length_nil]; omega, fun _ => pm_let hu h⟩,
   fun o i h1 h2 h3 _ => pf_let hu h1 h2 h3,
   fun o i j L {_} h1 h2 h3 h4 => ⟨by have := h3.1; omega, fun _ => pm_sqr hu h1 h2 h3.1 (h3.2 (by omega)) h4⟩,
   fun o i j L {_} h1 h2 h3 h4 h5 _ => pf_sqrF hu h1 h2 (h3.2 (by omega)) h4 h5,
   fun o i f h1 h2 h3 _ => pf_sqrG hu h1 h2 (h3 (by omega)),
   fun o i h1 h2 h3 => pf_sqrO hu h1 (by omega),
   fun o i _ => ⟨Nat.le_refl _, fun _ => pm_rest0⟩,
   fun o i j j2 L L2 {_} {_} h1 h2 h3 => ⟨by have := h2.1; have := h3.1; simp only [List.length_append, List.length_cons]; omega, fun h => pm_rest1 hu (Or.inl ⟨h1, rfl, rfl, rfl⟩) h2.1 (h2.2 h) (h3.2 h)⟩,
   fun o i f h1 h2 h => pf_rest1 hu (Or.inl ⟨h1, rfl, rfl, rfl⟩) (h2 h),
   fun o i j L f {_} h1 h2 h3 h => pf_rest2 hu (Or.inl ⟨h1, rfl, rfl, rfl⟩) h2.1 (h2.2 h) (h3 h),
   fun o i j j2 L L2 {_} {_} h1 h2 => ⟨by have := h1.1; have := h2.1; simp only [List.length_append]; omega, fun h => pm_seq Qn_m h1.1 (h1.2 h) (h2.2 h)⟩,
   fun o i f h1 h => pf_seq1 Qn_m (h1 h),
   fun o i j L f {_} h1 h2 h => pf_seq2 Qn_m h1.1 (h1.2 h) (h2 h),
   fun o i _ => ⟨Nat.le_refl _, fun _ => pm_rest0⟩,
   fun o i j j2 L L2 {_} {_} h1 h2 h3 => ⟨by have := h2.1; have := h3.1; simp only [List.length_append, List.length_cons]; omega, fun h => pm_rest1 hu (Or.inr ⟨h1, rfl, rfl, rfl⟩) h2.1 (h2.2 h) (h3.2 h)⟩,
   fun o i f h1 h2 h => pf_rest1 hu (Or.inr ⟨h1, rfl, rfl, rfl⟩) (h2 h),
   fun o i j L f {_} h1 h2 h3 h => pf_rest2 hu (Or.inr ⟨h1, rfl, rfl, rfl⟩) h2.1 (h2.2 h) (h3 h),
   fun o i j j2 L L2 {_} {_} h1 h2 => ⟨by have := h1.1; have := h2.1; simp only [List.length_append]; omega, fun h => pm_seq Qm_a h1.1 (h1.2 h) (h2.2 h)⟩,
   fun o i f h1 h => pf_seq1 Qm_a (h1 h),
   fun o i j L f {_} h1 h2 h => pf_seq2 Qm_a h1.1 (h1.2 h) (h2 h),
   fun o i j j2 L L2 {_} {_} h1 h2 h3 h4 h5 => ⟨by have := h1.1; have := h4.1; simp only [List.length_append, List.length_cons, List.length_nil]; omega, fun h => ⟨pm_cm hu h1.1 (h1.2 h) h2 h3 h4.1 (h4.2 h) h5, by have := h1.1; have := h4.1; omega⟩⟩,
   fun o i f h1 h => pf_cm1 (h1 h),
   fun o i j L {_} h1 h2 h3 h => pf_cm2 hu h1.1 (h1.2 h) h2 h3,
   fun o i j L f {_} h1 h2 h3 h4 h => pf_cm3 hu h1.1 (h1.2 h) h2 h3 (h4 h),
   fun o i j L {_} h1 h2 h3 => ⟨by have := h3.1; simp only [List.length_append, List.length_cons, List.length_nil]; omega, fun h => pm_nt hu h1 h2 h3.1 (h3.2 (by omega))⟩,
   fun o i f h1 h2 h3 h => pf_nt hu h1 h2 (h3 (by omega)),
   fun o i h1 h2 h => pf_op hu h1 (by omega),
   fun o i j a L h1 h2 h3 h4 => ⟨by have := h3.1; omega, fun h => pm_par hu h1 h2 (h3.2 (by omega)) h4⟩,
   fun o i j a L h1 h2 h3 h4 h5 h6 h => pf_parF hu h1 h2 (h3.2 (by omega)) h4 h5 h6,
   fun o i f h1 h2 h3 h => pf_parG hu h1 h2 (h3 (by omega)),
   fun o i j L {_} h1 h2 h3 => ⟨h3.1, fun h => pm_pc hu h1 h2 (h3.2 h).2 (h3.2 h).1⟩,
   fun o i f h1 h2 h3 h => pf_pc hu h1 h2 (h3 h),
   fun o i j L {_} h1 h2 => ⟨h1.1, fun h => pm_ps0 hu (h1.2 h)⟩,
   fun o i f h1 h => pf_ps (h1 h),
   fun o i j j2 a L L2 {_} h1 h2 h3 => ⟨by have := h1.1; have := h3.1; simp only [List.length_append, List.length_cons]; omega, fun h => pm_ps1 hu h1.1 (h1.2 h) h2 (h3.2 h)⟩,
   fun o i j L f {_} h1 h2 h3 h => pf_ps2 hu (h1.2 h) h2 (h3 h),
   fun o i j a L h1 h2 h3 => ⟨h1.1, fun h => pm_pt0 (h1.2 h)⟩,
   fun o i f h1 h => pf_pt (h1 h),
   fun o i j j2 a a2 L L2 h1 h2 h3 h4 => ⟨by have := h1.1; have := h4.1; simp only [List.length_append, List.length_cons]; omega, fun h => pm_pt1 hu (h1.2 h) h3 (h4.2 h)⟩,
   fun o i j a L f h1 h2 h3 h4 h => pf_pt2 hu (h1.2 h) h3 (h4 h)⟩
end RM9
