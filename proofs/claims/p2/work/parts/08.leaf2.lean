theorem g_nle {n c : Nat} (hn : n < 2 ^ 31) (h : ¬ nI c ≤ nI n) : n < c := by
  rcases Nat.lt_or_ge n c with q | q
  · exact q
  · exact absurd (nI_le q hn) h
theorem g_lt_of {y : Int32} {n c : Nat} (hy : y = nI n) (hn : n < 2 ^ 31) (h : ¬ nI c ≤ y) : n < c := by
  subst hy
  exact g_nle hn h
theorem g_le {n c : Nat} (hc : c < 2 ^ 31) (h : nI c ≤ nI n) (hn : n < 2 ^ 31) : c ≤ n := by
  rcases Nat.lt_or_ge n c with q | q
  · exact absurd h (nI_ge q hc)
  · exact q
theorem g_nz {x : Int32} (h : ¬ x ≤ 0) : ¬ x = 0 := fun e => h (by rw [e]; exact Int32.le_refl 0)
theorem g_z {c : Nat → Int32} {i : Nat} {x : Int32} (h : ∀ j, j < i → c j = 0) (hx : x = nI i) (hi : i < 2 ^ 31) : ∀ j, j < i + 1 → upd c x.toNatClampNeg 0 j = 0 := by
  intro j hj
  unfold upd
  split
  · rfl
  · rename_i hne
    refine h j ?_
    rw [hx, nI_clamp hi] at hne
    omega
def g_ss (a b c : Int32) : Int32 := a &&& ((b ||| c) ^^^ (-1))
theorem g_ss0 {a b c : Int32} (h : a = 0) : g_ss a b c = 0 := by rw [h]; exact Int32.zero_and
def g_sum (f : Nat → Int32) : Nat → Int32
  | 0 => 0
  | n + 1 => g_sum f n + f n
theorem g_sum0 {f : Nat → Int32} : ∀ {n : Nat}, (∀ j, j < n → f j = 0) → g_sum f n = 0
  | 0, _ => rfl
  | n + 1, h => by rw [g_sum, g_sum0 (fun j hj => h j (Nat.lt_succ_of_lt hj)), h n (Nat.lt_succ_self n)]; rfl

theorem d_X5_add_0 : g_dc cX5_add 0 (.iconst 0) 1 1 := ⟨by decide +kernel, rfl⟩
theorem d_X5_add_1 : g_dc cX5_add 1 (.istore_n 3) 1 2 := ⟨by decide +kernel, rfl⟩
theorem d_X5_add_2 : g_dc cX5_add 2 (.iload_n 3) 1 3 := ⟨by decide +kernel, rfl⟩
theorem d_X5_add_3 : g_dc cX5_add 3 (.iload_n 2) 1 4 := ⟨by decide +kernel, rfl⟩
theorem d_X5_add_4 : g_dc cX5_add 4 (.if_icmp .ge 38) 3 7 := ⟨by decide +kernel, rfl⟩
theorem d_X5_add_7 : g_dc cX5_add 7 (.aload_n 0) 1 8 := ⟨by decide +kernel, rfl⟩
theorem d_X5_add_8 : g_dc cX5_add 8 (.getfield 15) 3 11 := ⟨by decide +kernel, rfl⟩
theorem d_X5_add_11 : g_dc cX5_add 11 (.bipush 60) 2 13 := ⟨by decide +kernel, rfl⟩
theorem d_X5_add_13 : g_dc cX5_add 13 (.if_icmp .ge 29) 3 16 := ⟨by decide +kernel, rfl⟩
theorem d_X5_add_16 : g_dc cX5_add 16 (.aload_n 0) 1 17 := ⟨by decide +kernel, rfl⟩
theorem d_X5_add_17 : g_dc cX5_add 17 (.getfield 9) 3 20 := ⟨by decide +kernel, rfl⟩
theorem d_X5_add_20 : g_dc cX5_add 20 (.aload_n 0) 1 21 := ⟨by decide +kernel, rfl⟩
theorem d_X5_add_21 : g_dc cX5_add 21 (.getfield 15) 3 24 := ⟨by decide +kernel, rfl⟩
theorem d_X5_add_24 : g_dc cX5_add 24 (.iload_n 1) 1 25 := ⟨by decide +kernel, rfl⟩
theorem d_X5_add_25 : g_dc cX5_add 25 (.iastore) 1 26 := ⟨by decide +kernel, rfl⟩
theorem d_X5_add_26 : g_dc cX5_add 26 (.aload_n 0) 1 27 := ⟨by decide +kernel, rfl⟩
theorem d_X5_add_27 : g_dc cX5_add 27 (.dup) 1 28 := ⟨by decide +kernel, rfl⟩
theorem d_X5_add_28 : g_dc cX5_add 28 (.getfield 15) 3 31 := ⟨by decide +kernel, rfl⟩
theorem d_X5_add_31 : g_dc cX5_add 31 (.iconst 1) 1 32 := ⟨by decide +kernel, rfl⟩
theorem d_X5_add_32 : g_dc cX5_add 32 (.iadd) 1 33 := ⟨by decide +kernel, rfl⟩
theorem d_X5_add_33 : g_dc cX5_add 33 (.putfield 15) 3 36 := ⟨by decide +kernel, rfl⟩
theorem d_X5_add_36 : g_dc cX5_add 36 (.iinc 3 1) 3 39 := ⟨by decide +kernel, rfl⟩
theorem d_X5_add_39 : g_dc cX5_add 39 (.goto (-37)) 3 42 := ⟨by decide +kernel, rfl⟩
theorem d_X5_add_42 : g_dc cX5_add 42 (.return_) 1 43 := ⟨by decide +kernel, rfl⟩
set_option maxHeartbeats 4000000 in
set_option maxRecDepth 100000 in
theorem c_X5_add (l : Launch) (X : gX) (p pa : Nat) (tk : Int32) (f : Nat → Int32) (pace many : Int32) (t : Nat) (hk : tk = nI t) (ht : t ≤ 60) : g_Cv l X yX5_add cX5_add 4 1 0 0 [.ref p, .int pace, .int many] [(p, .inr (5, [.ref pa, .int tk])), (pa, .inl (X.2.1, 60, .inl f))] (fun w => ∃ (t : Nat) (g : Nat → Int32), w = [(p, .inr (5, [.ref pa, .int (nI t)])), (pa, .inl (X.2.1, 60, .inl g))] ∧ t ≤ 60) := by
  refine g_mv (by decide +kernel) (Nat.le_of_ble_eq_true rfl) (fun E cx hret => ?_)
  refine g_iconst cx 0 (by decide) d_X5_add_0 ?_
  refine g_istore_n cx [(3, .int 0), (0, .ref p), (1, .int pace), (2, .int many)] d_X5_add_1 (by decide) rfl ?_
  have L2 : ∀ (N : Nat) (t : Nat) (y x3 : Int32) (g : Nat → Int32), 60 - t < N → (y = nI t) → (t ≤ 60) → G X E 4 0 0 [(p, .inr (5, [.ref pa, .int y])), (pa, .inl (X.2.1, 60, .inl g))] [(0, .ref p), (1, .int pace), (2, .int many), (3, .int x3)] 2 [] := by
    intro N
    induction N with
    | zero => intro t y x3 g hm; exact absurd hm (Nat.not_lt_zero _)
    | succ N ih2 =>
      intro t y x3 g hm hy ht
      refine g_iload_n cx 3 rfl d_X5_add_2 ?_
      refine g_iload_n cx 2 rfl d_X5_add_3 ?_
      refine g_icmp_ge cx 42 d_X5_add_4 (by decide) (fun zc4 => ?_) (fun zc4 => ?_)
      · exact hret d_X5_add_42 (Nat.le_of_ble_eq_true rfl) (Nat.le_of_ble_eq_true rfl) (⟨t, g, by rw [hy], ht⟩)
      · refine g_aload_n cx 0 rfl d_X5_add_7 ?_
        refine g_get cx cl_X5 fl_X5_15 0 (.int y) d_X5_add_8 rfl rfl ?_
        refine g_bipush cx 60 (by decide) d_X5_add_11 ?_
        refine g_icmp_ge cx 42 d_X5_add_13 (by decide) (fun zc13 => ?_) (fun zc13 => ?_)
        · exact hret d_X5_add_42 (Nat.le_of_ble_eq_true rfl) (Nat.le_of_ble_eq_true rfl) (⟨t, g, by rw [hy], ht⟩)
        · refine g_aload_n cx 0 rfl d_X5_add_16 ?_
          refine g_get cx cl_X5 fl_X5_9 0 (.ref pa) d_X5_add_17 rfl rfl ?_
          refine g_aload_n cx 0 rfl d_X5_add_20 ?_
          refine g_get cx cl_X5 fl_X5_15 0 (.int y) d_X5_add_21 rfl rfl ?_
          refine g_iload_n cx 1 rfl d_X5_add_24 ?_
          refine g_iast cx 1 ([(p, .inr (5, [.ref pa, .int y])), (pa, .inl (X.2.1, 60, .inl (upd g (Int32.toNatClampNeg y) pace)))]) d_X5_add_25 rfl (by have h60 := g_lt_of (c := 60) hy (by omega) zc13; rw [hy]; exact vp_in_nI h60 (by decide)) rfl ?_
          refine g_aload_n cx 0 rfl d_X5_add_26 ?_
          refine g_dup cx rfl d_X5_add_27 ?_
          refine g_get cx cl_X5 fl_X5_15 0 (.int y) d_X5_add_28 rfl rfl ?_
          refine g_iconst cx 1 (by decide) d_X5_add_31 ?_
          refine g_iadd cx d_X5_add_32 ?_
          refine g_put cx cl_X5 fl_X5_15 0 ([(p, .inr (5, [.ref pa, .int (y + 1)])), (pa, .inl (X.2.1, 60, .inl (upd g (Int32.toNatClampNeg y) pace)))]) d_X5_add_33 rfl rfl rfl rfl (Nat.le_of_ble_eq_true rfl) rfl ?_
          refine g_iinc cx (x3 + 1) [(3, .int (x3 + 1)), (0, .ref p), (1, .int pace), (2, .int many)] 3 d_X5_add_36 rfl (rfl) (by decide) rfl ?_
          refine g_goto cx 2 d_X5_add_39 (by decide) ?_
          refine g_lsub [1, 2, 3, 0] [(0, .ref p), (1, .int pace), (2, .int many), (3, .int (x3 + 1))] rfl ?_
          exact ih2 (t + 1) (y + 1) (x3 + 1) (upd g (Int32.toNatClampNeg y) pace) (by have h60 := g_lt_of (c := 60) hy (by omega) zc13; omega) (by rw [hy]; exact nI_1 t) (by have h60 := g_lt_of (c := 60) hy (by omega) zc13; omega)
  refine g_lsub [1, 2, 3, 0] [(0, .ref p), (1, .int pace), (2, .int many), (3, .int 0)] rfl ?_
  exact L2 _ t tk 0 f (Nat.lt_succ_self _) hk ht
theorem d_X5_addTill_0 : g_dc cX5_addTill 0 (.iload_n 1) 1 1 := ⟨by decide +kernel, rfl⟩
theorem d_X5_addTill_1 : g_dc cX5_addTill 1 (.ifCond .le 19) 3 4 := ⟨by decide +kernel, rfl⟩
theorem d_X5_addTill_4 : g_dc cX5_addTill 4 (.iload_n 2) 1 5 := ⟨by decide +kernel, rfl⟩
theorem d_X5_addTill_5 : g_dc cX5_addTill 5 (.ifCond .le 15) 3 8 := ⟨by decide +kernel, rfl⟩
theorem d_X5_addTill_8 : g_dc cX5_addTill 8 (.aload_n 0) 1 9 := ⟨by decide +kernel, rfl⟩
theorem d_X5_addTill_9 : g_dc cX5_addTill 9 (.iload_n 1) 1 10 := ⟨by decide +kernel, rfl⟩
theorem d_X5_addTill_10 : g_dc cX5_addTill 10 (.iload_n 2) 1 11 := ⟨by decide +kernel, rfl⟩
theorem d_X5_addTill_11 : g_dc cX5_addTill 11 (.iload_n 1) 1 12 := ⟨by decide +kernel, rfl⟩
theorem d_X5_addTill_12 : g_dc cX5_addTill 12 (.iadd) 1 13 := ⟨by decide +kernel, rfl⟩
theorem d_X5_addTill_13 : g_dc cX5_addTill 13 (.iconst 1) 1 14 := ⟨by decide +kernel, rfl⟩
theorem d_X5_addTill_14 : g_dc cX5_addTill 14 (.isub) 1 15 := ⟨by decide +kernel, rfl⟩
theorem d_X5_addTill_15 : g_dc cX5_addTill 15 (.iload_n 1) 1 16 := ⟨by decide +kernel, rfl⟩
theorem d_X5_addTill_16 : g_dc cX5_addTill 16 (.idiv) 1 17 := ⟨by decide +kernel, rfl⟩
theorem d_X5_addTill_17 : g_dc cX5_addTill 17 (.invokevirtual 25) 3 20 := ⟨by decide +kernel, rfl⟩
theorem d_X5_addTill_20 : g_dc cX5_addTill 20 (.return_) 1 21 := ⟨by decide +kernel, rfl⟩
set_option maxHeartbeats 4000000 in
set_option maxRecDepth 100000 in
theorem c_X5_addTill (l : Launch) (X : gX) (p pa : Nat) (tk : Int32) (f : Nat → Int32) (pace way : Int32) (t : Nat) (hk : tk = nI t) (ht : t ≤ 60) : g_Cv l X yX5_addTill cX5_addTill 3 2 0 0 [.ref p, .int pace, .int way] [(p, .inr (5, [.ref pa, .int tk])), (pa, .inl (X.2.1, 60, .inl f))] (fun w => ∃ (t : Nat) (g : Nat → Int32), w = [(p, .inr (5, [.ref pa, .int (nI t)])), (pa, .inl (X.2.1, 60, .inl g))] ∧ t ≤ 60) := by
  refine g_mv (by decide +kernel) (Nat.le_of_ble_eq_true rfl) (fun E cx hret => ?_)
  refine g_iload_n cx 1 rfl d_X5_addTill_0 ?_
  refine g_if_le cx 20 d_X5_addTill_1 (by decide) (fun zc1 => ?_) (fun zc1 => ?_)
  · exact hret d_X5_addTill_20 (Nat.le_of_ble_eq_true rfl) (Nat.le_of_ble_eq_true rfl) ⟨t, f, by rw [hk], ht⟩
  · refine g_iload_n cx 2 rfl d_X5_addTill_4 ?_
    refine g_if_le cx 20 d_X5_addTill_5 (by decide) (fun zc5 => ?_) (fun zc5 => ?_)
    · exact hret d_X5_addTill_20 (Nat.le_of_ble_eq_true rfl) (Nat.le_of_ble_eq_true rfl) ⟨t, f, by rw [hk], ht⟩
    · refine g_aload_n cx 0 rfl d_X5_addTill_8 ?_
      refine g_iload_n cx 1 rfl d_X5_addTill_9 ?_
      refine g_iload_n cx 2 rfl d_X5_addTill_10 ?_
      refine g_iload_n cx 1 rfl d_X5_addTill_11 ?_
      refine g_iadd cx d_X5_addTill_12 ?_
      refine g_iconst cx 1 (by decide) d_X5_addTill_13 ?_
      refine g_isub cx d_X5_addTill_14 ?_
      refine g_iload_n cx 1 rfl d_X5_addTill_15 ?_
      refine g_idiv cx (g_nz (by assumption)) d_X5_addTill_16 ?_
      refine g_cVv cx [.int pace, .int (((way + pace) - 1) / pace)] [] (c_X5_add l X p pa tk f pace (((way + pace) - 1) / pace) t hk ht) ml_X5_25 yV_X5_add d_X5_addTill_17 (by unfold g_rr; decide) (by decide) 0 rfl rfl [0, 1] rfl (by decide) rfl (Nat.le_of_ble_eq_true rfl) (by rintro _ ⟨_, _, rfl, _⟩; rfl) (fun w2 h3 => ?_)
      obtain ⟨t4, g5, rfl, h6⟩ := h3
      refine g_weq ([(p, .inr (5, [.ref pa, .int (nI t4)])), (pa, .inl (X.2.1, 60, .inl g5))]) rfl ?_
      exact hret d_X5_addTill_20 (Nat.le_of_ble_eq_true rfl) (Nat.le_of_ble_eq_true rfl) ⟨t4, _, rfl, h6⟩
theorem d_X5_even_0 : g_dc cX5_even 0 (.aload_n 0) 1 1 := ⟨by decide +kernel, rfl⟩
theorem d_X5_even_1 : g_dc cX5_even 1 (.iconst 0) 1 2 := ⟨by decide +kernel, rfl⟩
theorem d_X5_even_2 : g_dc cX5_even 2 (.putfield 15) 3 5 := ⟨by decide +kernel, rfl⟩
theorem d_X5_even_5 : g_dc cX5_even 5 (.aload_n 0) 1 6 := ⟨by decide +kernel, rfl⟩
theorem d_X5_even_6 : g_dc cX5_even 6 (.iload_n 1) 1 7 := ⟨by decide +kernel, rfl⟩
theorem d_X5_even_7 : g_dc cX5_even 7 (.iload_n 2) 1 8 := ⟨by decide +kernel, rfl⟩
theorem d_X5_even_8 : g_dc cX5_even 8 (.invokevirtual 29) 3 11 := ⟨by decide +kernel, rfl⟩
theorem d_X5_even_11 : g_dc cX5_even 11 (.return_) 1 12 := ⟨by decide +kernel, rfl⟩
set_option maxHeartbeats 4000000 in
set_option maxRecDepth 100000 in
theorem c_X5_even (l : Launch) (X : gX) (p pa : Nat) (tk : Int32) (f : Nat → Int32) (pace way : Int32) : g_Cv l X yX5_even cX5_even 3 3 0 0 [.ref p, .int pace, .int way] [(p, .inr (5, [.ref pa, .int tk])), (pa, .inl (X.2.1, 60, .inl f))] (fun w => ∃ (t : Nat) (g : Nat → Int32), w = [(p, .inr (5, [.ref pa, .int (nI t)])), (pa, .inl (X.2.1, 60, .inl g))] ∧ t ≤ 60) := by
  refine g_mv (by decide +kernel) (Nat.le_of_ble_eq_true rfl) (fun E cx hret => ?_)
  refine g_aload_n cx 0 rfl d_X5_even_0 ?_
  refine g_iconst cx 0 (by decide) d_X5_even_1 ?_
  refine g_put cx cl_X5 fl_X5_15 0 ([(p, .inr (5, [.ref pa, .int 0])), (pa, .inl (X.2.1, 60, .inl f))]) d_X5_even_2 rfl rfl rfl rfl (Nat.le_of_ble_eq_true rfl) rfl ?_
  refine g_aload_n cx 0 rfl d_X5_even_5 ?_
  refine g_iload_n cx 1 rfl d_X5_even_6 ?_
  refine g_iload_n cx 2 rfl d_X5_even_7 ?_
  refine g_cVv cx [.int pace, .int way] [] (c_X5_addTill l X p pa 0 f pace way 0 (by decide) (by decide)) ml_X5_29 yV_X5_addTill d_X5_even_8 (by unfold g_rr; decide) (by decide) 0 rfl rfl [0, 1] rfl (by decide) rfl (Nat.le_of_ble_eq_true rfl) (by rintro _ ⟨_, _, rfl, _⟩; rfl) (fun w2 h3 => ?_)
  obtain ⟨t4, g5, rfl, h6⟩ := h3
  refine g_weq ([(p, .inr (5, [.ref pa, .int (nI t4)])), (pa, .inl (X.2.1, 60, .inl g5))]) rfl ?_
  exact hret d_X5_even_11 (Nat.le_of_ble_eq_true rfl) (Nat.le_of_ble_eq_true rfl) ⟨t4, _, rfl, h6⟩
theorem d_X9_add_0 : g_dc cX9_add 0 (.bipush 24) 2 2 := ⟨by decide +kernel, rfl⟩
theorem d_X9_add_2 : g_dc cX9_add 2 (.istore_n 2) 1 3 := ⟨by decide +kernel, rfl⟩
theorem d_X9_add_3 : g_dc cX9_add 3 (.iload_n 2) 1 4 := ⟨by decide +kernel, rfl⟩
theorem d_X9_add_4 : g_dc cX9_add 4 (.ifCond .lt 45) 3 7 := ⟨by decide +kernel, rfl⟩
theorem d_X9_add_7 : g_dc cX9_add 7 (.aload_n 0) 1 8 := ⟨by decide +kernel, rfl⟩
theorem d_X9_add_8 : g_dc cX9_add 8 (.getfield 15) 3 11 := ⟨by decide +kernel, rfl⟩
theorem d_X9_add_11 : g_dc cX9_add 11 (.sipush 220) 3 14 := ⟨by decide +kernel, rfl⟩
theorem d_X9_add_14 : g_dc cX9_add 14 (.if_icmp .ge 29) 3 17 := ⟨by decide +kernel, rfl⟩
theorem d_X9_add_17 : g_dc cX9_add 17 (.aload_n 0) 1 18 := ⟨by decide +kernel, rfl⟩
theorem d_X9_add_18 : g_dc cX9_add 18 (.getfield 9) 3 21 := ⟨by decide +kernel, rfl⟩
theorem d_X9_add_21 : g_dc cX9_add 21 (.aload_n 0) 1 22 := ⟨by decide +kernel, rfl⟩
theorem d_X9_add_22 : g_dc cX9_add 22 (.getfield 15) 3 25 := ⟨by decide +kernel, rfl⟩
theorem d_X9_add_25 : g_dc cX9_add 25 (.iload_n 1) 1 26 := ⟨by decide +kernel, rfl⟩
theorem d_X9_add_26 : g_dc cX9_add 26 (.iload_n 2) 1 27 := ⟨by decide +kernel, rfl⟩
theorem d_X9_add_27 : g_dc cX9_add 27 (.iushr) 1 28 := ⟨by decide +kernel, rfl⟩
theorem d_X9_add_28 : g_dc cX9_add 28 (.sipush 255) 3 31 := ⟨by decide +kernel, rfl⟩
theorem d_X9_add_31 : g_dc cX9_add 31 (.iand) 1 32 := ⟨by decide +kernel, rfl⟩
theorem d_X9_add_32 : g_dc cX9_add 32 (.iastore) 1 33 := ⟨by decide +kernel, rfl⟩
theorem d_X9_add_33 : g_dc cX9_add 33 (.aload_n 0) 1 34 := ⟨by decide +kernel, rfl⟩
theorem d_X9_add_34 : g_dc cX9_add 34 (.dup) 1 35 := ⟨by decide +kernel, rfl⟩
theorem d_X9_add_35 : g_dc cX9_add 35 (.getfield 15) 3 38 := ⟨by decide +kernel, rfl⟩
theorem d_X9_add_38 : g_dc cX9_add 38 (.iconst 1) 1 39 := ⟨by decide +kernel, rfl⟩
theorem d_X9_add_39 : g_dc cX9_add 39 (.iadd) 1 40 := ⟨by decide +kernel, rfl⟩
theorem d_X9_add_40 : g_dc cX9_add 40 (.putfield 15) 3 43 := ⟨by decide +kernel, rfl⟩
theorem d_X9_add_43 : g_dc cX9_add 43 (.iinc 2 (-8)) 3 46 := ⟨by decide +kernel, rfl⟩
theorem d_X9_add_46 : g_dc cX9_add 46 (.goto (-43)) 3 49 := ⟨by decide +kernel, rfl⟩
theorem d_X9_add_49 : g_dc cX9_add 49 (.return_) 1 50 := ⟨by decide +kernel, rfl⟩
set_option maxHeartbeats 4000000 in
set_option maxRecDepth 100000 in
theorem c_X9_add (l : Launch) (X : gX) (h b : Nat) (y : Int32) (f : Nat → Int32) (four : Int32) (m : Nat) (hy : y = nI m) (hm : m + 4 ≤ 220) : g_Cv l X yX9_add cX9_add 3 1 0 0 [.ref h, .int four] [(h, .inr (9, [.ref b, .int y])), (b, .inl (X.2.1, 220, .inl f))] (fun w => ∃ g : Nat → Int32, w = [(h, .inr (9, [.ref b, .int (nI (m + 4))])), (b, .inl (X.2.1, 220, .inl g))] ∧ True) := by
  refine g_mv (by decide +kernel) (Nat.le_of_ble_eq_true rfl) (fun E cx hret => ?_)
  refine g_bipush cx 24 (by decide) d_X9_add_0 ?_
  refine g_istore_n cx [(2, .int 24), (0, .ref h), (1, .int four)] d_X9_add_2 (by decide) rfl ?_
  refine g_iload_n cx 0 rfl d_X9_add_3 ?_
  refine g_if_lt_f cx 49 d_X9_add_4 (by decide) (by decide) ?_
  refine g_aload_n cx 1 rfl d_X9_add_7 ?_
  refine g_get cx cl_X9 fl_X9_15 0 (.int y) d_X9_add_8 rfl rfl ?_
  refine g_sipush cx 220 (by decide) d_X9_add_11 ?_
  refine g_icmp_ge_f cx 43 d_X9_add_14 (by decide) (by rw [hy]; (try simp only [nI_1]); exact nI_ge (b := 220) (by omega) (by decide)) ?_
  refine g_aload_n cx 1 rfl d_X9_add_17 ?_
  refine g_get cx cl_X9 fl_X9_9 0 (.ref b) d_X9_add_18 rfl rfl ?_
  refine g_aload_n cx 1 rfl d_X9_add_21 ?_
  refine g_get cx cl_X9 fl_X9_15 0 (.int y) d_X9_add_22 rfl rfl ?_
  refine g_iload_n cx 2 rfl d_X9_add_25 ?_
  refine g_iload_n cx 0 rfl d_X9_add_26 ?_
  refine g_iushr cx d_X9_add_27 ?_
  refine g_topi (fun x1 ex1 => ?_)
  refine g_sipush cx 255 (by decide) d_X9_add_28 ?_
  refine g_iand cx d_X9_add_31 ?_
  refine g_iast cx 1 ([(h, .inr (9, [.ref b, .int y])), (b, .inl (X.2.1, 220, .inl (upd f (Int32.toNatClampNeg y) (x1 &&& 255))))]) d_X9_add_32 rfl (by rw [hy]; (try simp only [nI_1]); exact vp_in_nI (by omega) (by decide)) rfl ?_
  refine g_aload_n cx 1 rfl d_X9_add_33 ?_
  refine g_dup cx rfl d_X9_add_34 ?_
  refine g_get cx cl_X9 fl_X9_15 0 (.int y) d_X9_add_35 rfl rfl ?_
  refine g_iconst cx 1 (by decide) d_X9_add_38 ?_
  refine g_iadd cx d_X9_add_39 ?_
  refine g_put cx cl_X9 fl_X9_15 0 ([(h, .inr (9, [.ref b, .int (y + 1)])), (b, .inl (X.2.1, 220, .inl (upd f (Int32.toNatClampNeg y) (x1 &&& 255))))]) d_X9_add_40 rfl rfl rfl rfl (Nat.le_of_ble_eq_true rfl) rfl ?_
  refine g_iinc cx 16 [(2, .int 16), (0, .ref h), (1, .int four)] 0 d_X9_add_43 rfl (by decide) (by decide) rfl ?_
  refine g_goto cx 3 d_X9_add_46 (by decide) ?_
  refine g_iload_n cx 0 rfl d_X9_add_3 ?_
  refine g_if_lt_f cx 49 d_X9_add_4 (by decide) (by decide) ?_
  refine g_aload_n cx 1 rfl d_X9_add_7 ?_
  refine g_get cx cl_X9 fl_X9_15 0 (.int (y + 1)) d_X9_add_8 rfl rfl ?_
  refine g_sipush cx 220 (by decide) d_X9_add_11 ?_
  refine g_icmp_ge_f cx 43 d_X9_add_14 (by decide) (by rw [hy]; (try simp only [nI_1]); exact nI_ge (b := 220) (by omega) (by decide)) ?_
  refine g_aload_n cx 1 rfl d_X9_add_17 ?_
  refine g_get cx cl_X9 fl_X9_9 0 (.ref b) d_X9_add_18 rfl rfl ?_
  refine g_aload_n cx 1 rfl d_X9_add_21 ?_
  refine g_get cx cl_X9 fl_X9_15 0 (.int (y + 1)) d_X9_add_22 rfl rfl ?_
  refine g_iload_n cx 2 rfl d_X9_add_25 ?_
  refine g_iload_n cx 0 rfl d_X9_add_26 ?_
  refine g_iushr cx d_X9_add_27 ?_
  refine g_topi (fun x2 ex2 => ?_)
  refine g_sipush cx 255 (by decide) d_X9_add_28 ?_
  refine g_iand cx d_X9_add_31 ?_
  refine g_iast cx 1 ([(h, .inr (9, [.ref b, .int (y + 1)])), (b, .inl (X.2.1, 220, .inl (upd (upd f (Int32.toNatClampNeg y) (x1 &&& 255)) (Int32.toNatClampNeg (y + 1)) (x2 &&& 255))))]) d_X9_add_32 rfl (by rw [hy]; (try simp only [nI_1]); exact vp_in_nI (by omega) (by decide)) rfl ?_
  refine g_aload_n cx 1 rfl d_X9_add_33 ?_
  refine g_dup cx rfl d_X9_add_34 ?_
  refine g_get cx cl_X9 fl_X9_15 0 (.int (y + 1)) d_X9_add_35 rfl rfl ?_
  refine g_iconst cx 1 (by decide) d_X9_add_38 ?_
  refine g_iadd cx d_X9_add_39 ?_
  refine g_put cx cl_X9 fl_X9_15 0 ([(h, .inr (9, [.ref b, .int ((y + 1) + 1)])), (b, .inl (X.2.1, 220, .inl (upd (upd f (Int32.toNatClampNeg y) (x1 &&& 255)) (Int32.toNatClampNeg (y + 1)) (x2 &&& 255))))]) d_X9_add_40 rfl rfl rfl rfl (Nat.le_of_ble_eq_true rfl) rfl ?_
  refine g_iinc cx 8 [(2, .int 8), (0, .ref h), (1, .int four)] 0 d_X9_add_43 rfl (by decide) (by decide) rfl ?_
  refine g_goto cx 3 d_X9_add_46 (by decide) ?_
  refine g_iload_n cx 0 rfl d_X9_add_3 ?_
  refine g_if_lt_f cx 49 d_X9_add_4 (by decide) (by decide) ?_
  refine g_aload_n cx 1 rfl d_X9_add_7 ?_
  refine g_get cx cl_X9 fl_X9_15 0 (.int ((y + 1) + 1)) d_X9_add_8 rfl rfl ?_
  refine g_sipush cx 220 (by decide) d_X9_add_11 ?_
  refine g_icmp_ge_f cx 43 d_X9_add_14 (by decide) (by rw [hy]; (try simp only [nI_1]); exact nI_ge (b := 220) (by omega) (by decide)) ?_
  refine g_aload_n cx 1 rfl d_X9_add_17 ?_
  refine g_get cx cl_X9 fl_X9_9 0 (.ref b) d_X9_add_18 rfl rfl ?_
  refine g_aload_n cx 1 rfl d_X9_add_21 ?_
  refine g_get cx cl_X9 fl_X9_15 0 (.int ((y + 1) + 1)) d_X9_add_22 rfl rfl ?_
  refine g_iload_n cx 2 rfl d_X9_add_25 ?_
  refine g_iload_n cx 0 rfl d_X9_add_26 ?_
  refine g_iushr cx d_X9_add_27 ?_
  refine g_topi (fun x3 ex3 => ?_)
  refine g_sipush cx 255 (by decide) d_X9_add_28 ?_
  refine g_iand cx d_X9_add_31 ?_
  refine g_iast cx 1 ([(h, .inr (9, [.ref b, .int ((y + 1) + 1)])), (b, .inl (X.2.1, 220, .inl (upd (upd (upd f (Int32.toNatClampNeg y) (x1 &&& 255)) (Int32.toNatClampNeg (y + 1)) (x2 &&& 255)) (Int32.toNatClampNeg ((y + 1) + 1)) (x3 &&& 255))))]) d_X9_add_32 rfl (by rw [hy]; (try simp only [nI_1]); exact vp_in_nI (by omega) (by decide)) rfl ?_
  refine g_aload_n cx 1 rfl d_X9_add_33 ?_
  refine g_dup cx rfl d_X9_add_34 ?_
  refine g_get cx cl_X9 fl_X9_15 0 (.int ((y + 1) + 1)) d_X9_add_35 rfl rfl ?_
  refine g_iconst cx 1 (by decide) d_X9_add_38 ?_
  refine g_iadd cx d_X9_add_39 ?_
  refine g_put cx cl_X9 fl_X9_15 0 ([(h, .inr (9, [.ref b, .int (((y + 1) + 1) + 1)])), (b, .inl (X.2.1, 220, .inl (upd (upd (upd f (Int32.toNatClampNeg y) (x1 &&& 255)) (Int32.toNatClampNeg (y + 1)) (x2 &&& 255)) (Int32.toNatClampNeg ((y + 1) + 1)) (x3 &&& 255))))]) d_X9_add_40 rfl rfl rfl rfl (Nat.le_of_ble_eq_true rfl) rfl ?_
  refine g_iinc cx 0 [(2, .int 0), (0, .ref h), (1, .int four)] 0 d_X9_add_43 rfl (by decide) (by decide) rfl ?_
  refine g_goto cx 3 d_X9_add_46 (by decide) ?_
  refine g_iload_n cx 0 rfl d_X9_add_3 ?_
  refine g_if_lt_f cx 49 d_X9_add_4 (by decide) (by decide) ?_
  refine g_aload_n cx 1 rfl d_X9_add_7 ?_
  refine g_get cx cl_X9 fl_X9_15 0 (.int (((y + 1) + 1) + 1)) d_X9_add_8 rfl rfl ?_
  refine g_sipush cx 220 (by decide) d_X9_add_11 ?_
  refine g_icmp_ge_f cx 43 d_X9_add_14 (by decide) (by rw [hy]; (try simp only [nI_1]); exact nI_ge (b := 220) (by omega) (by decide)) ?_
  refine g_aload_n cx 1 rfl d_X9_add_17 ?_
  refine g_get cx cl_X9 fl_X9_9 0 (.ref b) d_X9_add_18 rfl rfl ?_
  refine g_aload_n cx 1 rfl d_X9_add_21 ?_
  refine g_get cx cl_X9 fl_X9_15 0 (.int (((y + 1) + 1) + 1)) d_X9_add_22 rfl rfl ?_
  refine g_iload_n cx 2 rfl d_X9_add_25 ?_
  refine g_iload_n cx 0 rfl d_X9_add_26 ?_
  refine g_iushr cx d_X9_add_27 ?_
  refine g_topi (fun x4 ex4 => ?_)
  refine g_sipush cx 255 (by decide) d_X9_add_28 ?_
  refine g_iand cx d_X9_add_31 ?_
  refine g_iast cx 1 ([(h, .inr (9, [.ref b, .int (((y + 1) + 1) + 1)])), (b, .inl (X.2.1, 220, .inl (upd (upd (upd (upd f (Int32.toNatClampNeg y) (x1 &&& 255)) (Int32.toNatClampNeg (y + 1)) (x2 &&& 255)) (Int32.toNatClampNeg ((y + 1) + 1)) (x3 &&& 255)) (Int32.toNatClampNeg (((y + 1) + 1) + 1)) (x4 &&& 255))))]) d_X9_add_32 rfl (by rw [hy]; (try simp only [nI_1]); exact vp_in_nI (by omega) (by decide)) rfl ?_
  refine g_aload_n cx 1 rfl d_X9_add_33 ?_
  refine g_dup cx rfl d_X9_add_34 ?_
  refine g_get cx cl_X9 fl_X9_15 0 (.int (((y + 1) + 1) + 1)) d_X9_add_35 rfl rfl ?_
  refine g_iconst cx 1 (by decide) d_X9_add_38 ?_
  refine g_iadd cx d_X9_add_39 ?_
  refine g_put cx cl_X9 fl_X9_15 0 ([(h, .inr (9, [.ref b, .int ((((y + 1) + 1) + 1) + 1)])), (b, .inl (X.2.1, 220, .inl (upd (upd (upd (upd f (Int32.toNatClampNeg y) (x1 &&& 255)) (Int32.toNatClampNeg (y + 1)) (x2 &&& 255)) (Int32.toNatClampNeg ((y + 1) + 1)) (x3 &&& 255)) (Int32.toNatClampNeg (((y + 1) + 1) + 1)) (x4 &&& 255))))]) d_X9_add_40 rfl rfl rfl rfl (Nat.le_of_ble_eq_true rfl) rfl ?_
  refine g_iinc cx (-8) [(2, .int (-8)), (0, .ref h), (1, .int four)] 0 d_X9_add_43 rfl (by decide) (by decide) rfl ?_
  refine g_goto cx 3 d_X9_add_46 (by decide) ?_
  refine g_iload_n cx 0 rfl d_X9_add_3 ?_
  refine g_if_lt_t cx 49 d_X9_add_4 (by decide) (by decide) ?_
  exact hret d_X9_add_49 (Nat.le_of_ble_eq_true rfl) (Nat.le_of_ble_eq_true rfl) (⟨_, by rw [hy]; simp only [nI_1]; rfl, trivial⟩)
theorem d_X1_holdStill_0 : g_dc cX1_holdStill 0 (.aload_n 0) 1 1 := ⟨by decide +kernel, rfl⟩
theorem d_X1_holdStill_1 : g_dc cX1_holdStill 1 (.iconst 0) 1 2 := ⟨by decide +kernel, rfl⟩
theorem d_X1_holdStill_2 : g_dc cX1_holdStill 2 (.putfield 9) 3 5 := ⟨by decide +kernel, rfl⟩
theorem d_X1_holdStill_5 : g_dc cX1_holdStill 5 (.aload_n 0) 1 6 := ⟨by decide +kernel, rfl⟩
theorem d_X1_holdStill_6 : g_dc cX1_holdStill 6 (.iconst 0) 1 7 := ⟨by decide +kernel, rfl⟩
theorem d_X1_holdStill_7 : g_dc cX1_holdStill 7 (.putfield 19) 3 10 := ⟨by decide +kernel, rfl⟩
theorem d_X1_holdStill_10 : g_dc cX1_holdStill 10 (.return_) 1 11 := ⟨by decide +kernel, rfl⟩
set_option maxHeartbeats 4000000 in
set_option maxRecDepth 100000 in
theorem c_X1_holdStill (l : Launch) (X : gX) (h : Nat) (dr x tt td : Int32) : g_Cv l X yX1_holdStill cX1_holdStill 1 1 0 0 [.ref h] [(h, .inr (1, [.int dr, .int x, .int tt, .int td]))] (fun w => w = [(h, .inr (1, [.int 0, .int x, .int 0, .int td]))] ∧ True) := by
  refine g_mv (by decide +kernel) (Nat.le_of_ble_eq_true rfl) (fun E cx hret => ?_)
  refine g_aload_n cx 0 rfl d_X1_holdStill_0 ?_
  refine g_iconst cx 0 (by decide) d_X1_holdStill_1 ?_
  refine g_put cx cl_X1 fl_X1_9 0 ([(h, .inr (1, [.int 0, .int x, .int tt, .int td]))]) d_X1_holdStill_2 rfl rfl rfl rfl (Nat.le_of_ble_eq_true rfl) rfl ?_
  refine g_aload_n cx 0 rfl d_X1_holdStill_5 ?_
  refine g_iconst cx 0 (by decide) d_X1_holdStill_6 ?_
  refine g_put cx cl_X1 fl_X1_19 0 ([(h, .inr (1, [.int 0, .int x, .int 0, .int td]))]) d_X1_holdStill_7 rfl rfl rfl rfl (Nat.le_of_ble_eq_true rfl) rfl ?_
  exact hret d_X1_holdStill_10 (Nat.le_of_ble_eq_true rfl) (Nat.le_of_ble_eq_true rfl) (⟨rfl, trivial⟩)
theorem d_X1_drawFrom_0 : g_dc cX1_drawFrom 0 (.aload_n 0) 1 1 := ⟨by decide +kernel, rfl⟩
theorem d_X1_drawFrom_1 : g_dc cX1_drawFrom 1 (.iconst 1) 1 2 := ⟨by decide +kernel, rfl⟩
theorem d_X1_drawFrom_2 : g_dc cX1_drawFrom 2 (.putfield 9) 3 5 := ⟨by decide +kernel, rfl⟩
theorem d_X1_drawFrom_5 : g_dc cX1_drawFrom 5 (.aload_n 0) 1 6 := ⟨by decide +kernel, rfl⟩
theorem d_X1_drawFrom_6 : g_dc cX1_drawFrom 6 (.iload_n 1) 1 7 := ⟨by decide +kernel, rfl⟩
theorem d_X1_drawFrom_7 : g_dc cX1_drawFrom 7 (.putfield 15) 3 10 := ⟨by decide +kernel, rfl⟩
theorem d_X1_drawFrom_10 : g_dc cX1_drawFrom 10 (.return_) 1 11 := ⟨by decide +kernel, rfl⟩
set_option maxHeartbeats 4000000 in
set_option maxRecDepth 100000 in
theorem c_X1_drawFrom (l : Launch) (X : gX) (h : Nat) (dr x tt td : Int32) (s : Int32) : g_Cv l X yX1_drawFrom cX1_drawFrom 2 1 0 0 [.ref h, .int s] [(h, .inr (1, [.int dr, .int x, .int tt, .int td]))] (fun w => w = [(h, .inr (1, [.int 1, .int s, .int tt, .int td]))] ∧ True) := by
  refine g_mv (by decide +kernel) (Nat.le_of_ble_eq_true rfl) (fun E cx hret => ?_)
  refine g_aload_n cx 0 rfl d_X1_drawFrom_0 ?_
  refine g_iconst cx 1 (by decide) d_X1_drawFrom_1 ?_
  refine g_put cx cl_X1 fl_X1_9 0 ([(h, .inr (1, [.int 1, .int x, .int tt, .int td]))]) d_X1_drawFrom_2 rfl rfl rfl rfl (Nat.le_of_ble_eq_true rfl) rfl ?_
  refine g_aload_n cx 0 rfl d_X1_drawFrom_5 ?_
  refine g_iload_n cx 1 rfl d_X1_drawFrom_6 ?_
  refine g_put cx cl_X1 fl_X1_15 0 ([(h, .inr (1, [.int 1, .int s, .int tt, .int td]))]) d_X1_drawFrom_7 rfl rfl rfl rfl (Nat.le_of_ble_eq_true rfl) rfl ?_
  exact hret d_X1_drawFrom_10 (Nat.le_of_ble_eq_true rfl) (Nat.le_of_ble_eq_true rfl) (⟨rfl, trivial⟩)
theorem d_X1_draw_0 : g_dc cX1_draw 0 (.aload_n 0) 1 1 := ⟨by decide +kernel, rfl⟩
theorem d_X1_draw_1 : g_dc cX1_draw 1 (.getfield 9) 3 4 := ⟨by decide +kernel, rfl⟩
theorem d_X1_draw_4 : g_dc cX1_draw 4 (.ifCond .eq 30) 3 7 := ⟨by decide +kernel, rfl⟩
theorem d_X1_draw_34 : g_dc cX1_draw 34 (.iload_n 1) 1 35 := ⟨by decide +kernel, rfl⟩
theorem d_X1_draw_35 : g_dc cX1_draw 35 (.aload_n 0) 1 36 := ⟨by decide +kernel, rfl⟩
theorem d_X1_draw_36 : g_dc cX1_draw 36 (.getfield 19) 3 39 := ⟨by decide +kernel, rfl⟩
theorem d_X1_draw_39 : g_dc cX1_draw 39 (.if_icmp .lt 5) 3 42 := ⟨by decide +kernel, rfl⟩
theorem d_X1_draw_42 : g_dc cX1_draw 42 (.iconst (-1)) 1 43 := ⟨by decide +kernel, rfl⟩
theorem d_X1_draw_43 : g_dc cX1_draw 43 (.ireturn) 1 44 := ⟨by decide +kernel, rfl⟩
set_option maxHeartbeats 4000000 in
set_option maxRecDepth 100000 in
theorem c0_X1_draw (l : Launch) (X : gX) (h : Nat) (dr x tt td : Int32) (i : Int32) (hd : dr = 0) (ht : tt = 0) (hi : ¬ i < 0) : g_Ci l X yX1_draw cX1_draw 3 (some .int) 1 0 0 [.ref h, .int i] [(h, .inr (1, [.int dr, .int x, .int tt, .int td]))] (fun r w => w = [(h, .inr (1, [.int dr, .int x, .int tt, .int td]))] ∧ r = -1) := by
  refine g_mi (by decide +kernel) (Nat.le_of_ble_eq_true rfl) (fun E cx hret => ?_)
  refine g_aload_n cx 0 rfl d_X1_draw_0 ?_
  refine g_get cx cl_X1 fl_X1_9 0 (.int dr) d_X1_draw_1 rfl rfl ?_
  refine g_if_eq_t cx 34 d_X1_draw_4 (by decide) (hd) ?_
  refine g_iload_n cx 1 rfl d_X1_draw_34 ?_
  refine g_aload_n cx 0 rfl d_X1_draw_35 ?_
  refine g_get cx cl_X1 fl_X1_19 0 (.int tt) d_X1_draw_36 rfl rfl ?_
  refine g_icmp_lt_f cx 44 d_X1_draw_39 (by decide) (by rw [ht]; exact hi) ?_
  refine g_iconst cx (-1) (by decide) d_X1_draw_42 ?_
  exact hret d_X1_draw_43 (Nat.le_of_ble_eq_true rfl) (Nat.le_of_ble_eq_true rfl) rfl (⟨rfl, rfl⟩)
theorem d_X2_forget_0 : g_dc cX2_forget 0 (.iconst 0) 1 1 := ⟨by decide +kernel, rfl⟩
theorem d_X2_forget_1 : g_dc cX2_forget 1 (.istore_n 1) 1 2 := ⟨by decide +kernel, rfl⟩
theorem d_X2_forget_2 : g_dc cX2_forget 2 (.iload_n 1) 1 3 := ⟨by decide +kernel, rfl⟩
theorem d_X2_forget_3 : g_dc cX2_forget 3 (.aload_n 0) 1 4 := ⟨by decide +kernel, rfl⟩
theorem d_X2_forget_4 : g_dc cX2_forget 4 (.getfield 34) 3 7 := ⟨by decide +kernel, rfl⟩
theorem d_X2_forget_7 : g_dc cX2_forget 7 (.arraylength) 1 8 := ⟨by decide +kernel, rfl⟩
theorem d_X2_forget_8 : g_dc cX2_forget 8 (.if_icmp .ge 16) 3 11 := ⟨by decide +kernel, rfl⟩
theorem d_X2_forget_11 : g_dc cX2_forget 11 (.aload_n 0) 1 12 := ⟨by decide +kernel, rfl⟩
theorem d_X2_forget_12 : g_dc cX2_forget 12 (.getfield 34) 3 15 := ⟨by decide +kernel, rfl⟩
theorem d_X2_forget_15 : g_dc cX2_forget 15 (.iload_n 1) 1 16 := ⟨by decide +kernel, rfl⟩
theorem d_X2_forget_16 : g_dc cX2_forget 16 (.iconst 0) 1 17 := ⟨by decide +kernel, rfl⟩
theorem d_X2_forget_17 : g_dc cX2_forget 17 (.iastore) 1 18 := ⟨by decide +kernel, rfl⟩
theorem d_X2_forget_18 : g_dc cX2_forget 18 (.iinc 1 1) 3 21 := ⟨by decide +kernel, rfl⟩
theorem d_X2_forget_21 : g_dc cX2_forget 21 (.goto (-19)) 3 24 := ⟨by decide +kernel, rfl⟩
theorem d_X2_forget_24 : g_dc cX2_forget 24 (.return_) 1 25 := ⟨by decide +kernel, rfl⟩
set_option maxHeartbeats 4000000 in
set_option maxRecDepth 100000 in
theorem c_X2_forget (l : Launch) (X : gX) (h : Nat) (q0 q1 q3 q4 q5 q7 q8 : Nat) (sz cs : Int32) (f : Nat → Int32) : g_Cv l X yX2_forget cX2_forget 2 1 0 0 [.ref h] [(h, .inr (2, [.ref q0, .ref q1, .int sz, .ref q3, .ref q4, .ref q5, .int cs, .ref q7, .ref q8])), (q7, .inl (X.2.1, 12, .inl f))] (fun w => ∃ g : Nat → Int32, w = [(h, .inr (2, [.ref q0, .ref q1, .int sz, .ref q3, .ref q4, .ref q5, .int cs, .ref q7, .ref q8])), (q7, .inl (X.2.1, 12, .inl g))] ∧ True) := by
  refine g_mv (by decide +kernel) (Nat.le_of_ble_eq_true rfl) (fun E cx hret => ?_)
  refine g_iconst cx 0 (by decide) d_X2_forget_0 ?_
  refine g_istore_n cx [(1, .int 0), (0, .ref h)] d_X2_forget_1 (by decide) rfl ?_
  refine g_iload_n cx 0 rfl d_X2_forget_2 ?_
  refine g_aload_n cx 1 rfl d_X2_forget_3 ?_
  refine g_get cx cl_X2 fl_X2_34 0 (.ref q7) d_X2_forget_4 rfl rfl ?_
  refine g_alen cx 1 12 d_X2_forget_7 rfl (by decide) ?_
  refine g_icmp_ge_f cx 24 d_X2_forget_8 (by decide) (by decide) ?_
  refine g_aload_n cx 1 rfl d_X2_forget_11 ?_
  refine g_get cx cl_X2 fl_X2_34 0 (.ref q7) d_X2_forget_12 rfl rfl ?_
  refine g_iload_n cx 0 rfl d_X2_forget_15 ?_
  refine g_iconst cx 0 (by decide) d_X2_forget_16 ?_
  refine g_iast cx 1 ([(h, .inr (2, [.ref q0, .ref q1, .int sz, .ref q3, .ref q4, .ref q5, .int cs, .ref q7, .ref q8])), (q7, .inl (X.2.1, 12, .inl (upd f 0 0)))]) d_X2_forget_17 rfl (by unfold vp_in; decide) rfl ?_
  refine g_iinc cx 1 [(1, .int 1), (0, .ref h)] 0 d_X2_forget_18 rfl (by decide) (by decide) rfl ?_
  refine g_goto cx 2 d_X2_forget_21 (by decide) ?_
  refine g_iload_n cx 0 rfl d_X2_forget_2 ?_
  refine g_aload_n cx 1 rfl d_X2_forget_3 ?_
  refine g_get cx cl_X2 fl_X2_34 0 (.ref q7) d_X2_forget_4 rfl rfl ?_
  refine g_alen cx 1 12 d_X2_forget_7 rfl (by decide) ?_
  refine g_icmp_ge_f cx 24 d_X2_forget_8 (by decide) (by decide) ?_
  refine g_aload_n cx 1 rfl d_X2_forget_11 ?_
  refine g_get cx cl_X2 fl_X2_34 0 (.ref q7) d_X2_forget_12 rfl rfl ?_
  refine g_iload_n cx 0 rfl d_X2_forget_15 ?_
  refine g_iconst cx 0 (by decide) d_X2_forget_16 ?_
  refine g_iast cx 1 ([(h, .inr (2, [.ref q0, .ref q1, .int sz, .ref q3, .ref q4, .ref q5, .int cs, .ref q7, .ref q8])), (q7, .inl (X.2.1, 12, .inl (upd (upd f 0 0) 1 0)))]) d_X2_forget_17 rfl (by unfold vp_in; decide) rfl ?_
  refine g_iinc cx 2 [(1, .int 2), (0, .ref h)] 0 d_X2_forget_18 rfl (by decide) (by decide) rfl ?_
  refine g_goto cx 2 d_X2_forget_21 (by decide) ?_
  refine g_iload_n cx 0 rfl d_X2_forget_2 ?_
  refine g_aload_n cx 1 rfl d_X2_forget_3 ?_
  refine g_get cx cl_X2 fl_X2_34 0 (.ref q7) d_X2_forget_4 rfl rfl ?_
  refine g_alen cx 1 12 d_X2_forget_7 rfl (by decide) ?_
  refine g_icmp_ge_f cx 24 d_X2_forget_8 (by decide) (by decide) ?_
  refine g_aload_n cx 1 rfl d_X2_forget_11 ?_
  refine g_get cx cl_X2 fl_X2_34 0 (.ref q7) d_X2_forget_12 rfl rfl ?_
  refine g_iload_n cx 0 rfl d_X2_forget_15 ?_
  refine g_iconst cx 0 (by decide) d_X2_forget_16 ?_
  refine g_iast cx 1 ([(h, .inr (2, [.ref q0, .ref q1, .int sz, .ref q3, .ref q4, .ref q5, .int cs, .ref q7, .ref q8])), (q7, .inl (X.2.1, 12, .inl (upd (upd (upd f 0 0) 1 0) 2 0)))]) d_X2_forget_17 rfl (by unfold vp_in; decide) rfl ?_
  refine g_iinc cx 3 [(1, .int 3), (0, .ref h)] 0 d_X2_forget_18 rfl (by decide) (by decide) rfl ?_
  refine g_goto cx 2 d_X2_forget_21 (by decide) ?_
  refine g_iload_n cx 0 rfl d_X2_forget_2 ?_
  refine g_aload_n cx 1 rfl d_X2_forget_3 ?_
  refine g_get cx cl_X2 fl_X2_34 0 (.ref q7) d_X2_forget_4 rfl rfl ?_
  refine g_alen cx 1 12 d_X2_forget_7 rfl (by decide) ?_
  refine g_icmp_ge_f cx 24 d_X2_forget_8 (by decide) (by decide) ?_
  refine g_aload_n cx 1 rfl d_X2_forget_11 ?_
  refine g_get cx cl_X2 fl_X2_34 0 (.ref q7) d_X2_forget_12 rfl rfl ?_
  refine g_iload_n cx 0 rfl d_X2_forget_15 ?_
  refine g_iconst cx 0 (by decide) d_X2_forget_16 ?_
  refine g_iast cx 1 ([(h, .inr (2, [.ref q0, .ref q1, .int sz, .ref q3, .ref q4, .ref q5, .int cs, .ref q7, .ref q8])), (q7, .inl (X.2.1, 12, .inl (upd (upd (upd (upd f 0 0) 1 0) 2 0) 3 0)))]) d_X2_forget_17 rfl (by unfold vp_in; decide) rfl ?_
  refine g_iinc cx 4 [(1, .int 4), (0, .ref h)] 0 d_X2_forget_18 rfl (by decide) (by decide) rfl ?_
  refine g_goto cx 2 d_X2_forget_21 (by decide) ?_
  refine g_iload_n cx 0 rfl d_X2_forget_2 ?_
  refine g_aload_n cx 1 rfl d_X2_forget_3 ?_
  refine g_get cx cl_X2 fl_X2_34 0 (.ref q7) d_X2_forget_4 rfl rfl ?_
  refine g_alen cx 1 12 d_X2_forget_7 rfl (by decide) ?_
  refine g_icmp_ge_f cx 24 d_X2_forget_8 (by decide) (by decide) ?_
  refine g_aload_n cx 1 rfl d_X2_forget_11 ?_
  refine g_get cx cl_X2 fl_X2_34 0 (.ref q7) d_X2_forget_12 rfl rfl ?_
  refine g_iload_n cx 0 rfl d_X2_forget_15 ?_
  refine g_iconst cx 0 (by decide) d_X2_forget_16 ?_
  refine g_iast cx 1 ([(h, .inr (2, [.ref q0, .ref q1, .int sz, .ref q3, .ref q4, .ref q5, .int cs, .ref q7, .ref q8])), (q7, .inl (X.2.1, 12, .inl (upd (upd (upd (upd (upd f 0 0) 1 0) 2 0) 3 0) 4 0)))]) d_X2_forget_17 rfl (by unfold vp_in; decide) rfl ?_
  refine g_iinc cx 5 [(1, .int 5), (0, .ref h)] 0 d_X2_forget_18 rfl (by decide) (by decide) rfl ?_
  refine g_goto cx 2 d_X2_forget_21 (by decide) ?_
  refine g_iload_n cx 0 rfl d_X2_forget_2 ?_
  refine g_aload_n cx 1 rfl d_X2_forget_3 ?_
  refine g_get cx cl_X2 fl_X2_34 0 (.ref q7) d_X2_forget_4 rfl rfl ?_
  refine g_alen cx 1 12 d_X2_forget_7 rfl (by decide) ?_
  refine g_icmp_ge_f cx 24 d_X2_forget_8 (by decide) (by decide) ?_
  refine g_aload_n cx 1 rfl d_X2_forget_11 ?_
  refine g_get cx cl_X2 fl_X2_34 0 (.ref q7) d_X2_forget_12 rfl rfl ?_
  refine g_iload_n cx 0 rfl d_X2_forget_15 ?_
  refine g_iconst cx 0 (by decide) d_X2_forget_16 ?_
  refine g_iast cx 1 ([(h, .inr (2, [.ref q0, .ref q1, .int sz, .ref q3, .ref q4, .ref q5, .int cs, .ref q7, .ref q8])), (q7, .inl (X.2.1, 12, .inl (upd (upd (upd (upd (upd (upd f 0 0) 1 0) 2 0) 3 0) 4 0) 5 0)))]) d_X2_forget_17 rfl (by unfold vp_in; decide) rfl ?_
  refine g_iinc cx 6 [(1, .int 6), (0, .ref h)] 0 d_X2_forget_18 rfl (by decide) (by decide) rfl ?_
  refine g_goto cx 2 d_X2_forget_21 (by decide) ?_
  refine g_iload_n cx 0 rfl d_X2_forget_2 ?_
  refine g_aload_n cx 1 rfl d_X2_forget_3 ?_
  refine g_get cx cl_X2 fl_X2_34 0 (.ref q7) d_X2_forget_4 rfl rfl ?_
  refine g_alen cx 1 12 d_X2_forget_7 rfl (by decide) ?_
  refine g_icmp_ge_f cx 24 d_X2_forget_8 (by decide) (by decide) ?_
  refine g_aload_n cx 1 rfl d_X2_forget_11 ?_
  refine g_get cx cl_X2 fl_X2_34 0 (.ref q7) d_X2_forget_12 rfl rfl ?_
  refine g_iload_n cx 0 rfl d_X2_forget_15 ?_
  refine g_iconst cx 0 (by decide) d_X2_forget_16 ?_
  refine g_iast cx 1 ([(h, .inr (2, [.ref q0, .ref q1, .int sz, .ref q3, .ref q4, .ref q5, .int cs, .ref q7, .ref q8])), (q7, .inl (X.2.1, 12, .inl (upd (upd (upd (upd (upd (upd (upd f 0 0) 1 0) 2 0) 3 0) 4 0) 5 0) 6 0)))]) d_X2_forget_17 rfl (by unfold vp_in; decide) rfl ?_
  refine g_iinc cx 7 [(1, .int 7), (0, .ref h)] 0 d_X2_forget_18 rfl (by decide) (by decide) rfl ?_
  refine g_goto cx 2 d_X2_forget_21 (by decide) ?_
  refine g_iload_n cx 0 rfl d_X2_forget_2 ?_
  refine g_aload_n cx 1 rfl d_X2_forget_3 ?_
  refine g_get cx cl_X2 fl_X2_34 0 (.ref q7) d_X2_forget_4 rfl rfl ?_
  refine g_alen cx 1 12 d_X2_forget_7 rfl (by decide) ?_
  refine g_icmp_ge_f cx 24 d_X2_forget_8 (by decide) (by decide) ?_
  refine g_aload_n cx 1 rfl d_X2_forget_11 ?_
  refine g_get cx cl_X2 fl_X2_34 0 (.ref q7) d_X2_forget_12 rfl rfl ?_
  refine g_iload_n cx 0 rfl d_X2_forget_15 ?_
  refine g_iconst cx 0 (by decide) d_X2_forget_16 ?_
  refine g_iast cx 1 ([(h, .inr (2, [.ref q0, .ref q1, .int sz, .ref q3, .ref q4, .ref q5, .int cs, .ref q7, .ref q8])), (q7, .inl (X.2.1, 12, .inl (upd (upd (upd (upd (upd (upd (upd (upd f 0 0) 1 0) 2 0) 3 0) 4 0) 5 0) 6 0) 7 0)))]) d_X2_forget_17 rfl (by unfold vp_in; decide) rfl ?_
  refine g_iinc cx 8 [(1, .int 8), (0, .ref h)] 0 d_X2_forget_18 rfl (by decide) (by decide) rfl ?_
  refine g_goto cx 2 d_X2_forget_21 (by decide) ?_
  refine g_iload_n cx 0 rfl d_X2_forget_2 ?_
  refine g_aload_n cx 1 rfl d_X2_forget_3 ?_
  refine g_get cx cl_X2 fl_X2_34 0 (.ref q7) d_X2_forget_4 rfl rfl ?_
  refine g_alen cx 1 12 d_X2_forget_7 rfl (by decide) ?_
  refine g_icmp_ge_f cx 24 d_X2_forget_8 (by decide) (by decide) ?_
  refine g_aload_n cx 1 rfl d_X2_forget_11 ?_
  refine g_get cx cl_X2 fl_X2_34 0 (.ref q7) d_X2_forget_12 rfl rfl ?_
  refine g_iload_n cx 0 rfl d_X2_forget_15 ?_
  refine g_iconst cx 0 (by decide) d_X2_forget_16 ?_
  refine g_iast cx 1 ([(h, .inr (2, [.ref q0, .ref q1, .int sz, .ref q3, .ref q4, .ref q5, .int cs, .ref q7, .ref q8])), (q7, .inl (X.2.1, 12, .inl (upd (upd (upd (upd (upd (upd (upd (upd (upd f 0 0) 1 0) 2 0) 3 0) 4 0) 5 0) 6 0) 7 0) 8 0)))]) d_X2_forget_17 rfl (by unfold vp_in; decide) rfl ?_
  refine g_iinc cx 9 [(1, .int 9), (0, .ref h)] 0 d_X2_forget_18 rfl (by decide) (by decide) rfl ?_
  refine g_goto cx 2 d_X2_forget_21 (by decide) ?_
  refine g_iload_n cx 0 rfl d_X2_forget_2 ?_
  refine g_aload_n cx 1 rfl d_X2_forget_3 ?_
  refine g_get cx cl_X2 fl_X2_34 0 (.ref q7) d_X2_forget_4 rfl rfl ?_
  refine g_alen cx 1 12 d_X2_forget_7 rfl (by decide) ?_
  refine g_icmp_ge_f cx 24 d_X2_forget_8 (by decide) (by decide) ?_
  refine g_aload_n cx 1 rfl d_X2_forget_11 ?_
  refine g_get cx cl_X2 fl_X2_34 0 (.ref q7) d_X2_forget_12 rfl rfl ?_
  refine g_iload_n cx 0 rfl d_X2_forget_15 ?_
  refine g_iconst cx 0 (by decide) d_X2_forget_16 ?_
  refine g_iast cx 1 ([(h, .inr (2, [.ref q0, .ref q1, .int sz, .ref q3, .ref q4, .ref q5, .int cs, .ref q7, .ref q8])), (q7, .inl (X.2.1, 12, .inl (upd (upd (upd (upd (upd (upd (upd (upd (upd (upd f 0 0) 1 0) 2 0) 3 0) 4 0) 5 0) 6 0) 7 0) 8 0) 9 0)))]) d_X2_forget_17 rfl (by unfold vp_in; decide) rfl ?_
  refine g_iinc cx 10 [(1, .int 10), (0, .ref h)] 0 d_X2_forget_18 rfl (by decide) (by decide) rfl ?_
  refine g_goto cx 2 d_X2_forget_21 (by decide) ?_
  refine g_iload_n cx 0 rfl d_X2_forget_2 ?_
  refine g_aload_n cx 1 rfl d_X2_forget_3 ?_
  refine g_get cx cl_X2 fl_X2_34 0 (.ref q7) d_X2_forget_4 rfl rfl ?_
  refine g_alen cx 1 12 d_X2_forget_7 rfl (by decide) ?_
  refine g_icmp_ge_f cx 24 d_X2_forget_8 (by decide) (by decide) ?_
  refine g_aload_n cx 1 rfl d_X2_forget_11 ?_
  refine g_get cx cl_X2 fl_X2_34 0 (.ref q7) d_X2_forget_12 rfl rfl ?_
  refine g_iload_n cx 0 rfl d_X2_forget_15 ?_
  refine g_iconst cx 0 (by decide) d_X2_forget_16 ?_
  refine g_iast cx 1 ([(h, .inr (2, [.ref q0, .ref q1, .int sz, .ref q3, .ref q4, .ref q5, .int cs, .ref q7, .ref q8])), (q7, .inl (X.2.1, 12, .inl (upd (upd (upd (upd (upd (upd (upd (upd (upd (upd (upd f 0 0) 1 0) 2 0) 3 0) 4 0) 5 0) 6 0) 7 0) 8 0) 9 0) 10 0)))]) d_X2_forget_17 rfl (by unfold vp_in; decide) rfl ?_
  refine g_iinc cx 11 [(1, .int 11), (0, .ref h)] 0 d_X2_forget_18 rfl (by decide) (by decide) rfl ?_
  refine g_goto cx 2 d_X2_forget_21 (by decide) ?_
  refine g_iload_n cx 0 rfl d_X2_forget_2 ?_
  refine g_aload_n cx 1 rfl d_X2_forget_3 ?_
  refine g_get cx cl_X2 fl_X2_34 0 (.ref q7) d_X2_forget_4 rfl rfl ?_
  refine g_alen cx 1 12 d_X2_forget_7 rfl (by decide) ?_
  refine g_icmp_ge_f cx 24 d_X2_forget_8 (by decide) (by decide) ?_
  refine g_aload_n cx 1 rfl d_X2_forget_11 ?_
  refine g_get cx cl_X2 fl_X2_34 0 (.ref q7) d_X2_forget_12 rfl rfl ?_
  refine g_iload_n cx 0 rfl d_X2_forget_15 ?_
  refine g_iconst cx 0 (by decide) d_X2_forget_16 ?_
  refine g_iast cx 1 ([(h, .inr (2, [.ref q0, .ref q1, .int sz, .ref q3, .ref q4, .ref q5, .int cs, .ref q7, .ref q8])), (q7, .inl (X.2.1, 12, .inl (upd (upd (upd (upd (upd (upd (upd (upd (upd (upd (upd (upd f 0 0) 1 0) 2 0) 3 0) 4 0) 5 0) 6 0) 7 0) 8 0) 9 0) 10 0) 11 0)))]) d_X2_forget_17 rfl (by unfold vp_in; decide) rfl ?_
  refine g_iinc cx 12 [(1, .int 12), (0, .ref h)] 0 d_X2_forget_18 rfl (by decide) (by decide) rfl ?_
  refine g_goto cx 2 d_X2_forget_21 (by decide) ?_
  refine g_iload_n cx 0 rfl d_X2_forget_2 ?_
  refine g_aload_n cx 1 rfl d_X2_forget_3 ?_
  refine g_get cx cl_X2 fl_X2_34 0 (.ref q7) d_X2_forget_4 rfl rfl ?_
  refine g_alen cx 1 12 d_X2_forget_7 rfl (by decide) ?_
  refine g_icmp_ge_t cx 24 d_X2_forget_8 (by decide) (by decide) ?_
  exact hret d_X2_forget_24 (Nat.le_of_ble_eq_true rfl) (Nat.le_of_ble_eq_true rfl) (⟨_, rfl, trivial⟩)
