def g_cj : Cond → List Cond
  | .and a b => g_cj a ++ g_cj b
  | c => [c]
theorem g_cj_ok {args : Array Value} {s : State} : ∀ c : Cond, c.before args s = true → ∀ w ∈ g_cj c, w.before args s = true := by
  intro c
  induction c with
  | and a b iha ihb =>
    intro h w hw
    rw [Cond.before_and, Bool.and_eq_true] at h
    rcases List.mem_append.mp (show w ∈ g_cj a ++ g_cj b from hw) with q | q
    · exact iha h.1 w q
    · exact ihb h.2 w q
  | _ => intro h w hw; rw [List.mem_singleton.mp (show w ∈ [_] from hw)]; exact h
def g_tm : Nat → Term
  | 0 => .string "ClothPull$LawReader" 50
  | _ => .string "ClothPull$LawReader" 109
theorem g_arr {ty : FieldType} {args : Array Value} {s : State} (h : (Cond.arrayClass ty).before args s = true) : ∃ (cA : ClassId) (kA : Class) (comp : ClassId), s.vm.findClass ("[" ++ ty.toString) = some cA ∧ s.vm.classes[cA]? = some kA ∧ kA.kind = .array comp ty := by
  first
  | exact Cond.arrayClass_spec h
  | (simp only [Cond.before, Cond.holds, Cond.value] at h; done)
set_option maxHeartbeats 8000000 in
set_option maxRecDepth 100000 in
/-- from the entry, for every script of at most 3584 ints, the law comes to its end with true -/
theorem whole_start {p : Program} {e : Env} {s : State} {m : MethodId} {below : List Frame} {meth : Method} {c : Code} (l : Launch) (hflags : l.flags = flags0) {b L : Nat} {xs : Nat → Int32} (hL : L ≤ 3584) (C0 : lw_At p s m meth c b L xs) : W p l e room_1 s m #[Value.ref b] below meth c s.heap [] 0 0 (lw_Z below #[Value.ref b] s) (entryFrame m ([Value.ref b] : List Value).toArray 4) := by
  obtain ⟨hx, hb, hr, hml, hown, hts0, hX, hbl, hlocks, hgv⟩ := id C0
  have hts : ∀ w ∈ gT, w.before #[Value.ref b] s = true := fun w h => hts0 w (gT_in w h)
  have h0 := u_known (C := RX0) (T := TX0) (N := 15) hts cl_X0.2.1 (hts _ cl_X0.2.2.2.2.1)
  have h1 := u_known (C := RX1) (T := TX1) (N := 4) hts cl_X1.2.1 (hts _ cl_X1.2.2.2.2.1)
  have h2 := u_known (C := RX2) (T := TX2) (N := 9) hts cl_X2.2.1 (hts _ cl_X2.2.2.2.2.1)
  have h3 := u_known (C := RX3) (T := TX3) (N := 5) hts cl_X3.2.1 (hts _ cl_X3.2.2.2.2.1)
  have h4 := u_known (C := RX4) (T := TX4) (N := 11) hts cl_X4.2.1 (hts _ cl_X4.2.2.2.2.1)
  have h5 := u_known (C := RX5) (T := TX5) (N := 2) hts cl_X5.2.1 (hts _ cl_X5.2.2.2.2.1)
  have h6 := u_known (C := RX6) (T := TX6) (N := 4) hts cl_X6.2.1 (hts _ cl_X6.2.2.2.2.1)
  have h7 := u_known (C := RX7) (T := TX7) (N := 12) hts cl_X7.2.1 (hts _ cl_X7.2.2.2.2.1)
  have h8 := u_known (C := RX8) (T := TX8) (N := 6) hts cl_X8.2.1 (hts _ cl_X8.2.2.2.2.1)
  have h9 := u_known (C := RX9) (T := TX9) (N := 2) hts cl_X9.2.1 (hts _ cl_X9.2.2.2.2.1)
  have h10 := u_known (C := RX10) (T := TX10) (N := 13) hts cl_X10.2.1 (hts _ cl_X10.2.2.2.2.1)
  have h11 := u_known (C := RX11) (T := TX11) (N := 91) hts cl_X11.2.1 (hts _ cl_X11.2.2.2.2.1)
  have hc := g_cj_ok _ ((Bool.and_eq_true _ _).mp ((Cond.before_and (a := given_1) (b := narrow_1)).symm.trans hgv)).2
  obtain ⟨tL, eL, TL⟩ := va_Tof (args := #[Value.ref b]) (s := s) (tm := .static "ClothPull" "LAW_LEAST" "[I") (ty := .int) (N := 6) (f := fun j => .int (g_least.getD j 0)) (A := fun q => s.heap.size ≤ q) (by decide) (hc _ (List.mem_of_getElem? (i := 8) rfl)) (va_eqt (hc _ (List.mem_of_getElem? (i := 9) rfl))) (by
    intro j hj
    match j, hj with
    | 0, _ => exact va_eqt (hc _ (List.mem_of_getElem? (i := 10) rfl))
    | 1, _ => exact va_eqt (hc _ (List.mem_of_getElem? (i := 11) rfl))
    | 2, _ => exact va_eqt (hc _ (List.mem_of_getElem? (i := 12) rfl))
    | 3, _ => exact va_eqt (hc _ (List.mem_of_getElem? (i := 13) rfl))
    | 4, _ => exact va_eqt (hc _ (List.mem_of_getElem? (i := 14) rfl))
    | 5, _ => exact va_eqt (hc _ (List.mem_of_getElem? (i := 15) rfl))
    | j + 6, hj => omega) (fun a h q => absurd h (Nat.not_lt.mpr q))
  have ZL := va_Zref (A := fun q => s.heap.size ≤ q) (hts0 _ (g_in4 (List.mem_of_getElem? (i := 21) rfl))) (hts0 _ (g_in1 (List.mem_of_getElem? (i := 1) rfl))) eL (fun a h q => absurd h (Nat.not_lt.mpr q))
  obtain ⟨tM, eM, TM⟩ := va_Tof (args := #[Value.ref b]) (s := s) (tm := .static "ClothPull" "LAW_MOST" "[I") (ty := .int) (N := 6) (f := fun j => .int (g_most.getD j 0)) (A := fun q => s.heap.size ≤ q) (by decide) (hc _ (List.mem_of_getElem? (i := 17) rfl)) (va_eqt (hc _ (List.mem_of_getElem? (i := 18) rfl))) (by
    intro j hj
    match j, hj with
    | 0, _ => exact va_eqt (hc _ (List.mem_of_getElem? (i := 19) rfl))
    | 1, _ => exact va_eqt (hc _ (List.mem_of_getElem? (i := 20) rfl))
    | 2, _ => exact va_eqt (hc _ (List.mem_of_getElem? (i := 21) rfl))
    | 3, _ => exact va_eqt (hc _ (List.mem_of_getElem? (i := 22) rfl))
    | 4, _ => exact va_eqt (hc _ (List.mem_of_getElem? (i := 23) rfl))
    | 5, _ => exact va_eqt (hc _ (List.mem_of_getElem? (i := 24) rfl))
    | j + 6, hj => omega) (fun a h q => absurd h (Nat.not_lt.mpr q))
  have ZM := va_Zref (A := fun q => s.heap.size ≤ q) (hts0 _ (g_in4 (List.mem_of_getElem? (i := 23) rfl))) (hts0 _ (g_in1 (List.mem_of_getElem? (i := 1) rfl))) eM (fun a h q => absurd h (Nat.not_lt.mpr q))
  have ZC := va_Zof (A := fun q => s.heap.size ≤ q) (hts0 _ (g_in3 (List.mem_of_getElem? (i := 26) rfl))) (hts0 _ (g_in1 (List.mem_of_getElem? (i := 14) rfl))) (va_eqi (hc _ (List.mem_of_getElem? (i := 2) rfl))) (fun a h q => absurd h (Nat.not_lt.mpr q))
  obtain ⟨adK, adV, KS, KE⟩ := vk_Sof (args := #[Value.ref b]) (s := s) (N := 2) (tm := g_tm) (len := g_len) (byt := g_byt) (A := fun q => s.heap.size ≤ q) (by
    intro i hi
    match i, hi with
    | 0, _ => decide
    | 1, _ => decide
    | i + 2, hi => omega) (by
    intro i hi
    match i, hi with
    | 0, _ => exact (hc _ (List.mem_of_getElem? (i := 25) rfl))
    | 1, _ => exact (hc _ (List.mem_of_getElem? (i := 35) rfl))
    | i + 2, hi => omega) (by
    intro i hi
    match i, hi with
    | 0, _ => exact (hc _ (List.mem_of_getElem? (i := 26) rfl))
    | 1, _ => exact (hc _ (List.mem_of_getElem? (i := 36) rfl))
    | i + 2, hi => omega) (by
    intro i hi
    match i, hi with
    | 0, _ => exact (hc _ (List.mem_of_getElem? (i := 27) rfl))
    | 1, _ => exact (hc _ (List.mem_of_getElem? (i := 37) rfl))
    | i + 2, hi => omega) (by
    intro i hi
    match i, hi with
    | 0, _ => exact (hc _ (List.mem_of_getElem? (i := 28) rfl))
    | 1, _ => exact (hc _ (List.mem_of_getElem? (i := 38) rfl))
    | i + 2, hi => omega) (by
    intro i hi j hj
    match i, hi with
    | 0, _ =>
      match j, hj with
      | 0, _ => exact (hc _ (List.mem_of_getElem? (i := 29) rfl))
      | 1, _ => exact (hc _ (List.mem_of_getElem? (i := 30) rfl))
      | 2, _ => exact (hc _ (List.mem_of_getElem? (i := 31) rfl))
      | 3, _ => exact (hc _ (List.mem_of_getElem? (i := 32) rfl))
      | 4, _ => exact (hc _ (List.mem_of_getElem? (i := 33) rfl))
      | 5, _ => exact (hc _ (List.mem_of_getElem? (i := 34) rfl))
      | j + 6, hj => exact absurd hj (by simp [g_len])
    | 1, _ =>
      match j, hj with
      | 0, _ => exact (hc _ (List.mem_of_getElem? (i := 39) rfl))
      | 1, _ => exact (hc _ (List.mem_of_getElem? (i := 40) rfl))
      | 2, _ => exact (hc _ (List.mem_of_getElem? (i := 41) rfl))
      | 3, _ => exact (hc _ (List.mem_of_getElem? (i := 42) rfl))
      | 4, _ => exact (hc _ (List.mem_of_getElem? (i := 43) rfl))
      | 5, _ => exact (hc _ (List.mem_of_getElem? (i := 44) rfl))
      | 6, _ => exact (hc _ (List.mem_of_getElem? (i := 45) rfl))
      | 7, _ => exact (hc _ (List.mem_of_getElem? (i := 46) rfl))
      | 8, _ => exact (hc _ (List.mem_of_getElem? (i := 47) rfl))
      | 9, _ => exact (hc _ (List.mem_of_getElem? (i := 48) rfl))
      | 10, _ => exact (hc _ (List.mem_of_getElem? (i := 49) rfl))
      | 11, _ => exact (hc _ (List.mem_of_getElem? (i := 50) rfl))
      | j + 12, hj => exact absurd hj (by simp [g_len])
    | i + 2, hi => omega) (by
    intro i j hi hj hij
    match i, j, hi, hj with
    | 0, 0, _, _ => exact absurd rfl hij
    | 1, 1, _, _ => exact absurd rfl hij
    | 0, 1, _, _ => exact Or.inl (hc _ (List.mem_of_getElem? (i := 51) rfl))
    | 1, 0, _, _ => exact Or.inr (hc _ (List.mem_of_getElem? (i := 51) rfl))
    | i + 2, _, hi, _ => omega
    | _, j + 2, _, hj => omega) (fun a h q => absurd h (Nat.not_lt.mpr q))
  have R0 : vk_R "ClothPull$LawReader" 50 "ashjbz" (adK 0) s := vk_R.of (hts0 _ (g_in3 (List.mem_of_getElem? (i := 12) rfl))) (KE 0 (by decide))
  have R1 : vk_R "ClothPull$LawReader" 109 "tprikxfgwluc" (adK 1) s := vk_R.of (hts0 _ (g_in3 (List.mem_of_getElem? (i := 132) rfl))) (KE 1 (by decide))
  have hex : ∀ k : Nat, ∃ (cC : ClassId) (iS : Nat → Nat), ∀ q, vwCl[k]? = some q → u_Kn s q.1 q.2.1 q.2.2 cC iS := by
    intro k
    match k with
    | 0 => obtain ⟨c0, i0, hk⟩ := h0; exact ⟨c0, i0, fun q hq => by cases hq; exact hk⟩
    | 1 => obtain ⟨c0, i0, hk⟩ := h1; exact ⟨c0, i0, fun q hq => by cases hq; exact hk⟩
    | 2 => obtain ⟨c0, i0, hk⟩ := h2; exact ⟨c0, i0, fun q hq => by cases hq; exact hk⟩
    | 3 => obtain ⟨c0, i0, hk⟩ := h3; exact ⟨c0, i0, fun q hq => by cases hq; exact hk⟩
    | 4 => obtain ⟨c0, i0, hk⟩ := h4; exact ⟨c0, i0, fun q hq => by cases hq; exact hk⟩
    | 5 => obtain ⟨c0, i0, hk⟩ := h5; exact ⟨c0, i0, fun q hq => by cases hq; exact hk⟩
    | 6 => obtain ⟨c0, i0, hk⟩ := h6; exact ⟨c0, i0, fun q hq => by cases hq; exact hk⟩
    | 7 => obtain ⟨c0, i0, hk⟩ := h7; exact ⟨c0, i0, fun q hq => by cases hq; exact hk⟩
    | 8 => obtain ⟨c0, i0, hk⟩ := h8; exact ⟨c0, i0, fun q hq => by cases hq; exact hk⟩
    | 9 => obtain ⟨c0, i0, hk⟩ := h9; exact ⟨c0, i0, fun q hq => by cases hq; exact hk⟩
    | 10 => obtain ⟨c0, i0, hk⟩ := h10; exact ⟨c0, i0, fun q hq => by cases hq; exact hk⟩
    | 11 => obtain ⟨c0, i0, hk⟩ := h11; exact ⟨c0, i0, fun q hq => by cases hq; exact hk⟩
    | k + 12 => obtain ⟨c0, i0, hk⟩ := h0; exact ⟨c0, i0, fun q hq => by simp [vwCl] at hq⟩
  obtain ⟨cI, kI, qI, i1, i2, i3⟩ := g_arr (hts _ ka_int)
  obtain ⟨cB, kB, qB, j1, j2, j3⟩ := g_arr (hts _ ka_byte)
  let X : gX := (((fun k => Classical.choose (hex k), fun k => Classical.choose (Classical.choose_spec (hex k))), tL, tM, adK, adV), cI, cB)
  have hK : g_K X s := by
    refine ⟨fun k q hq => Classical.choose_spec (Classical.choose_spec (hex k)) q hq, fun k q hq => ?_⟩
    match k, hq with
    | 0, hq => cases hq; exact ⟨fun n z => ⟨fun k h => (by cases h), kI, i2, qI, i3⟩, i1⟩
    | 1, hq => cases hq; exact ⟨fun n z => ⟨fun k h => (by cases h), kB, j2, qB, j3⟩, j1⟩
    | k + 2, hq => simp [g_ty] at hq
  have hN : g_nf s := by
    intro w hw hn
    have h1 := hts0 w hw
    cases w <;> first | exact Bool.noConfusion hn | exact va_Nw.of rfl h1
  let E : gE := ((fun H locs k n g => W p l e room_1 s m #[Value.ref b] below meth c H locs k n (lw_Z below #[Value.ref b] s) g), m, (fun q : Nat => s.heap.size ≤ q), s.heap)
  rw [lg_entry_eq]
  refine g_law (X := X) (E := E) (L := L) (xs := xs) hL ⟨p, e, s, #[Value.ref b], below, meth, c, _, rfl, hx, hb, hml, hown, hts, hK, hN, ⟨rfl, ZL, TL, ZM, TM, ZC, KS, R0, R1⟩, fun q h => h, fun h => h.elim⟩ ⟨p, e, s, #[Value.ref b], below, meth, c, _, rfl, hx, hb, hX, hbl, Nat.not_le.mpr hbl⟩ ?_ s.heap [] _ (fun k q h => by simp at h) ⟨fun i j p q h => by simp at h, fun k q h => by simp at h⟩ va_S.rf (lv_entry [.ref b] (Nat.le_of_ble_eq_true rfl))
  intro pc pc' k n ws lv hd hk hn H locs ls hP hD hS hl
  show W p l e room_1 s m #[Value.ref b] below meth c H locs k n _ _
  refine va_forget (fun q hq => hS.2.2 q hq) ?_
  refine W.widen hk hn ?_
  exact lw_ret hx hb hr hlocks hd.1
