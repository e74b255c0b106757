section GCO
variable {X : gX} {E : gE} {nL k n : Nat} {l : Launch} {R : Room} {cc : ByteArray} {own : String} {ini : Prop} {ws : va_W} {lv : List (Nat × Value)} {pc pc' : Nat} {st0 : List Value}
variable {y : MethodName} {b : ByteArray} {ml d mc ms idx : Nat} {wc : va_W}
theorem g_cOiW {ret : Option FieldType} {post : Int32 → va_W → Prop} (cx : g_cx X E nL l R cc own ini) (As st : List Value) (hM : g_Ci l X y b ml ret d mc ms As ws post) (hw : Cond.methodLink own idx y ∈ gT) (hy : g_yS y b ml ret As.length) (hd : g_dc cc pc (.invokestatic idx) 3 pc') (hR : g_rr R d ml) (hf : k + mc ≤ R.cells ∧ n + ms ≤ R.slots) (hst : st0 = As.reverse ++ st) (hW : (st.map fun v => v.category).sum ≤ 8)
    (kk : ∀ r w, post r w → G X E nL (k + mc) (n + ms) w lv pc' (.int r :: st)) : G X E nL k n ws lv pc st0 := by
  obtain ⟨p, e, s, args, below, meth, c, Q, hE, hx, hb, hml, hown, hts, hK, hN, hA, hini⟩ := cx
  obtain ⟨hd, rfl⟩ := hd
  subst hst
  intro H locs ls hP hD hS hl
  rw [hE]
  have hPc : va_P X.1 vwCl ws H := hP
  have hDc := hD
  have hFc := va_free (wc := ws) hD hS hA (List.range ws.length) (g_all ws)
  have hgood : GoodIn gT (gW y b ml ret) := g_good (fun w h => by
    rcases List.mem_cons.mp h with rfl | h
    · exact hy.2.2.1
    · exact h)
  refine va_calli (va_runS (As := As) (rest := st) ⟨hx, hb, hml, hown, hts⟩ (hM H.size) ⟨callB_of As.length hts hgood rfl rfl rfl (hts _ hy.2.1) (hts _ hw) hy.2.2.2 hR, hts _ hy.1⟩ ⟨g_pc_ok, fun U hU hW => ⟨rfl, by rw [hU], by rw [hU]; exact hPc, va_K.moved hW.alike hK, hDc.weaken (fun _ _ _ _ => trivial), g_nf_warm hW hN⟩⟩ rfl rfl hl.1 rfl (lv_room hW) hd hf) hS (fun q _ h => hFc q h) hFc (fun r w t H1 locs1 ht hvm hp hB hz hk1 hS1 => ?_)
  obtain ⟨hP1, hD1⟩ := hB
  rw [ht] at hP1
  have k1 := kk r w hp H1 locs1 ls hP1 (hD1.weaken (fun _ q _ h => hFc q.1 h)) hS1 hl
  rw [hE] at k1
  exact k1
end GCO

def g_st (what : Int32) : Int32 := if what = 3 then 100 else if 0 ≤ what ∧ what ≤ 8 then 0 else -1
theorem g_sw9 (x : Int32) : x = 0 ∨ x = 1 ∨ x = 2 ∨ x = 3 ∨ x = 4 ∨ x = 5 ∨ x = 6 ∨ x = 7 ∨ x = 8 ∨ (x.toInt < 0 ∨ 8 < x.toInt) := by
  by_cases h0 : x.toInt < 0
  · simp [h0]
  by_cases h8 : 8 < x.toInt
  · simp [h8]
  have e : ∀ k : Int32, x.toInt = k.toInt → x = k := fun k h => Int32.toInt_inj.mp h
  have : x.toInt = 0 ∨ x.toInt = 1 ∨ x.toInt = 2 ∨ x.toInt = 3 ∨ x.toInt = 4 ∨ x.toInt = 5 ∨ x.toInt = 6 ∨ x.toInt = 7 ∨ x.toInt = 8 := by omega
  rcases this with h | h | h | h | h | h | h | h | h
  · exact Or.inl (e 0 h)
  · exact Or.inr (Or.inl (e 1 h))
  · exact Or.inr (Or.inr (Or.inl (e 2 h)))
  · exact Or.inr (Or.inr (Or.inr (Or.inl (e 3 h))))
  · exact Or.inr (Or.inr (Or.inr (Or.inr (Or.inl (e 4 h)))))
  · exact Or.inr (Or.inr (Or.inr (Or.inr (Or.inr (Or.inl (e 5 h))))))
  · exact Or.inr (Or.inr (Or.inr (Or.inr (Or.inr (Or.inr (Or.inl (e 6 h)))))))
  · exact Or.inr (Or.inr (Or.inr (Or.inr (Or.inr (Or.inr (Or.inr (Or.inl (e 7 h))))))))
  · exact Or.inr (Or.inr (Or.inr (Or.inr (Or.inr (Or.inr (Or.inr (Or.inr (Or.inl (e 8 h)))))))))
theorem g_st_out {x : Int32} (h : x.toInt < 0 ∨ 8 < x.toInt) : g_st x = -1 := by
  unfold g_st
  have h3 : ¬ x = 3 := fun e => by subst e; revert h; decide
  rw [if_neg h3]
  rw [if_neg]
  rintro ⟨a, b⟩
  have a1 := Int32.le_iff_toInt_le.mp a
  have b1 := Int32.le_iff_toInt_le.mp b
  have e0 : (0 : Int32).toInt = 0 := by decide
  have e8 : (8 : Int32).toInt = 8 := by decide
  rw [e0] at a1
  rw [e8] at b1
  omega
theorem g_sumS {f : Nat → Int32} {i : Nat} {x : Int32} (hx : x = nI i) (hi : i < 2 ^ 31) : g_sum f i + f x.toNatClampNeg = g_sum f (i + 1) := by
  rw [hx, nI_clamp hi]; rfl
theorem g_lt10 {x : Int32} {i n : Nat} (hx : x = nI i) (hi : i < 2 ^ 31) (h : ¬ nI n ≤ x) : i < n := g_lt_of hx hi h

theorem d_X4_standingSet_0 : g_dc cX4_standingSet 0 (.aload_n 0) 1 1 := ⟨by decide +kernel, rfl⟩
theorem d_X4_standingSet_1 : g_dc cX4_standingSet 1 (.getfield 21) 3 4 := ⟨by decide +kernel, rfl⟩
theorem d_X4_standingSet_4 : g_dc cX4_standingSet 4 (.aload_n 0) 1 5 := ⟨by decide +kernel, rfl⟩
theorem d_X4_standingSet_5 : g_dc cX4_standingSet 5 (.getfield 25) 3 8 := ⟨by decide +kernel, rfl⟩
theorem d_X4_standingSet_8 : g_dc cX4_standingSet 8 (.aload_n 0) 1 9 := ⟨by decide +kernel, rfl⟩
theorem d_X4_standingSet_9 : g_dc cX4_standingSet 9 (.getfield 28) 3 12 := ⟨by decide +kernel, rfl⟩
theorem d_X4_standingSet_12 : g_dc cX4_standingSet 12 (.ior) 1 13 := ⟨by decide +kernel, rfl⟩
theorem d_X4_standingSet_13 : g_dc cX4_standingSet 13 (.iconst (-1)) 1 14 := ⟨by decide +kernel, rfl⟩
theorem d_X4_standingSet_14 : g_dc cX4_standingSet 14 (.ixor) 1 15 := ⟨by decide +kernel, rfl⟩
theorem d_X4_standingSet_15 : g_dc cX4_standingSet 15 (.iand) 1 16 := ⟨by decide +kernel, rfl⟩
theorem d_X4_standingSet_16 : g_dc cX4_standingSet 16 (.ireturn) 1 17 := ⟨by decide +kernel, rfl⟩
set_option maxHeartbeats 4000000 in
set_option maxRecDepth 100000 in
theorem c_X4_standingSet (l : Launch) (X : gX) (ad : Nat → Nat) (F : Nat → Int32) (R : Nat → Nat → Int32) : g_Ci l X yX4_standingSet cX4_standingSet 1 (some .int) 1 0 0 [.ref (ad 43)] (wX X ad F R) (fun r w => w = wX X ad F R ∧ r = g_ss (F 691) (F 692) (F 693)) := by
  refine g_mi (by decide +kernel) (Nat.le_of_ble_eq_true rfl) (fun E cx hret => ?_)
  refine g_aload_n cx 0 rfl d_X4_standingSet_0 ?_
  refine g_get cx cl_X4 fl_X4_21 43 (.int (F 691)) d_X4_standingSet_1 rfl rfl ?_
  refine g_aload_n cx 0 rfl d_X4_standingSet_4 ?_
  refine g_get cx cl_X4 fl_X4_25 43 (.int (F 692)) d_X4_standingSet_5 rfl rfl ?_
  refine g_aload_n cx 0 rfl d_X4_standingSet_8 ?_
  refine g_get cx cl_X4 fl_X4_28 43 (.int (F 693)) d_X4_standingSet_9 rfl rfl ?_
  refine g_ior cx d_X4_standingSet_12 ?_
  refine g_iconst cx (-1) (by decide) d_X4_standingSet_13 ?_
  refine g_ixor cx d_X4_standingSet_14 ?_
  refine g_iand cx d_X4_standingSet_15 ?_
  exact hret d_X4_standingSet_16 (Nat.le_of_ble_eq_true rfl) (Nat.le_of_ble_eq_true rfl) rfl (⟨rfl, rfl⟩)
theorem d_X4_standing_0 : g_dc cX4_standing 0 (.aload_n 0) 1 1 := ⟨by decide +kernel, rfl⟩
theorem d_X4_standing_1 : g_dc cX4_standing 1 (.invokevirtual 58) 3 4 := ⟨by decide +kernel, rfl⟩
theorem d_X4_standing_4 : g_dc cX4_standing 4 (.invokestatic 62) 3 7 := ⟨by decide +kernel, rfl⟩
theorem d_X4_standing_7 : g_dc cX4_standing 7 (.ireturn) 1 8 := ⟨by decide +kernel, rfl⟩
set_option maxHeartbeats 4000000 in
set_option maxRecDepth 100000 in
theorem c_X4_standing (l : Launch) (X : gX) (ad : Nat → Nat) (F : Nat → Int32) (R : Nat → Nat → Int32) (h691 : F 691 = 0) : g_Ci l X yX4_standing cX4_standing 1 (some .int) 2 0 0 [.ref (ad 43)] (wX X ad F R) (fun r w => w = wX X ad F R ∧ r = 0) := by
  refine g_mi (by decide +kernel) (Nat.le_of_ble_eq_true rfl) (fun E cx hret => ?_)
  refine g_aload_n cx 0 rfl d_X4_standing_0 ?_
  refine g_cViW cx [] [] (c_X4_standingSet l X ad F R  ) ml_X4_58 yV_X4_standingSet d_X4_standing_1 (by unfold g_rr; decide) (by decide) 43 rfl rfl rfl (Nat.le_of_ble_eq_true rfl) (fun r1 w2 h3 => ?_)
  obtain ⟨rfl, rfl⟩ := h3
  refine g_toi 0 (g_ss0 (h691)) ?_
  refine g_cOiW cx [.int 0] [] (c_J6_bitCount_0f7a4 l X _ 0) ml_X4_62 yS_J6_bitCount_0f7a4 d_X4_standing_4 (by unfold g_rr; decide) (by decide) rfl (Nat.le_of_ble_eq_true rfl) (fun r4 w5 h6 => ?_)
  obtain ⟨rfl, h6⟩ := h6
  refine g_toi 0 (h6 rfl) ?_
  exact hret d_X4_standing_7 (Nat.le_of_ble_eq_true rfl) (Nat.le_of_ble_eq_true rfl) rfl (⟨rfl, rfl⟩)
theorem d_X4_allStand_0 : g_dc cX4_allStand 0 (.aload_n 0) 1 1 := ⟨by decide +kernel, rfl⟩
theorem d_X4_allStand_1 : g_dc cX4_allStand 1 (.invokevirtual 58) 3 4 := ⟨by decide +kernel, rfl⟩
theorem d_X4_allStand_4 : g_dc cX4_allStand 4 (.aload_n 0) 1 5 := ⟨by decide +kernel, rfl⟩
theorem d_X4_allStand_5 : g_dc cX4_allStand 5 (.getfield 21) 3 8 := ⟨by decide +kernel, rfl⟩
theorem d_X4_allStand_8 : g_dc cX4_allStand 8 (.if_icmp .ne 7) 3 11 := ⟨by decide +kernel, rfl⟩
theorem d_X4_allStand_11 : g_dc cX4_allStand 11 (.iconst 1) 1 12 := ⟨by decide +kernel, rfl⟩
theorem d_X4_allStand_12 : g_dc cX4_allStand 12 (.goto 4) 3 15 := ⟨by decide +kernel, rfl⟩
theorem d_X4_allStand_16 : g_dc cX4_allStand 16 (.ireturn) 1 17 := ⟨by decide +kernel, rfl⟩
set_option maxHeartbeats 4000000 in
set_option maxRecDepth 100000 in
theorem c_X4_allStand (l : Launch) (X : gX) (ad : Nat → Nat) (F : Nat → Int32) (R : Nat → Nat → Int32) (h691 : F 691 = 0) : g_Ci l X yX4_allStand cX4_allStand 1 (some .boolean) 2 0 0 [.ref (ad 43)] (wX X ad F R) (fun r w => w = wX X ad F R ∧ r = 1) := by
  refine g_mi (by decide +kernel) (Nat.le_of_ble_eq_true rfl) (fun E cx hret => ?_)
  refine g_aload_n cx 0 rfl d_X4_allStand_0 ?_
  refine g_cViW cx [] [] (c_X4_standingSet l X ad F R  ) ml_X4_58 yV_X4_standingSet d_X4_allStand_1 (by unfold g_rr; decide) (by decide) 43 rfl rfl rfl (Nat.le_of_ble_eq_true rfl) (fun r1 w2 h3 => ?_)
  obtain ⟨rfl, rfl⟩ := h3
  refine g_toi 0 (g_ss0 (h691)) ?_
  refine g_aload_n cx 0 rfl d_X4_allStand_4 ?_
  refine g_get cx cl_X4 fl_X4_21 43 (.int (F 691)) d_X4_allStand_5 rfl rfl ?_
  refine g_toi 0 (h691) ?_
  refine g_icmp_ne_f cx 15 d_X4_allStand_8 (by decide) (by decide) ?_
  refine g_iconst cx 1 (by decide) d_X4_allStand_11 ?_
  refine g_goto cx 16 d_X4_allStand_12 (by decide) ?_
  exact hret d_X4_allStand_16 (Nat.le_of_ble_eq_true rfl) (Nat.le_of_ble_eq_true rfl) rfl (⟨rfl, rfl⟩)
theorem d_X4_inches_0 : g_dc cX4_inches 0 (.iconst 0) 1 1 := ⟨by decide +kernel, rfl⟩
theorem d_X4_inches_1 : g_dc cX4_inches 1 (.istore_n 1) 1 2 := ⟨by decide +kernel, rfl⟩
theorem d_X4_inches_2 : g_dc cX4_inches 2 (.iconst 0) 1 3 := ⟨by decide +kernel, rfl⟩
theorem d_X4_inches_3 : g_dc cX4_inches 3 (.istore_n 2) 1 4 := ⟨by decide +kernel, rfl⟩
theorem d_X4_inches_4 : g_dc cX4_inches 4 (.iload_n 2) 1 5 := ⟨by decide +kernel, rfl⟩
theorem d_X4_inches_5 : g_dc cX4_inches 5 (.aload_n 0) 1 6 := ⟨by decide +kernel, rfl⟩
theorem d_X4_inches_6 : g_dc cX4_inches 6 (.getfield 18) 3 9 := ⟨by decide +kernel, rfl⟩
theorem d_X4_inches_9 : g_dc cX4_inches 9 (.arraylength) 1 10 := ⟨by decide +kernel, rfl⟩
theorem d_X4_inches_10 : g_dc cX4_inches 10 (.if_icmp .ge 18) 3 13 := ⟨by decide +kernel, rfl⟩
theorem d_X4_inches_13 : g_dc cX4_inches 13 (.iload_n 1) 1 14 := ⟨by decide +kernel, rfl⟩
theorem d_X4_inches_14 : g_dc cX4_inches 14 (.aload_n 0) 1 15 := ⟨by decide +kernel, rfl⟩
theorem d_X4_inches_15 : g_dc cX4_inches 15 (.getfield 18) 3 18 := ⟨by decide +kernel, rfl⟩
theorem d_X4_inches_18 : g_dc cX4_inches 18 (.iload_n 2) 1 19 := ⟨by decide +kernel, rfl⟩
theorem d_X4_inches_19 : g_dc cX4_inches 19 (.iaload) 1 20 := ⟨by decide +kernel, rfl⟩
theorem d_X4_inches_20 : g_dc cX4_inches 20 (.iadd) 1 21 := ⟨by decide +kernel, rfl⟩
theorem d_X4_inches_21 : g_dc cX4_inches 21 (.istore_n 1) 1 22 := ⟨by decide +kernel, rfl⟩
theorem d_X4_inches_22 : g_dc cX4_inches 22 (.iinc 2 1) 3 25 := ⟨by decide +kernel, rfl⟩
theorem d_X4_inches_25 : g_dc cX4_inches 25 (.goto (-21)) 3 28 := ⟨by decide +kernel, rfl⟩
theorem d_X4_inches_28 : g_dc cX4_inches 28 (.iload_n 1) 1 29 := ⟨by decide +kernel, rfl⟩
theorem d_X4_inches_29 : g_dc cX4_inches 29 (.ireturn) 1 30 := ⟨by decide +kernel, rfl⟩
set_option maxHeartbeats 4000000 in
set_option maxRecDepth 100000 in
theorem c_X4_inches (l : Launch) (X : gX) (ad : Nat → Nat) (F : Nat → Int32) (R : Nat → Nat → Int32) (hz : ∀ j, j < 30 → R 46 j = 0) : g_Ci l X yX4_inches cX4_inches 3 (some .int) 1 0 0 [.ref (ad 43)] (wX X ad F R) (fun r w => w = wX X ad F R ∧ r = 0) := by
  refine g_mi (by decide +kernel) (Nat.le_of_ble_eq_true rfl) (fun E cx hret => ?_)
  refine g_iconst cx 0 (by decide) d_X4_inches_0 ?_
  refine g_istore_n cx [(1, .int 0), (0, .ref (ad 43))] d_X4_inches_1 (by decide) rfl ?_
  refine g_iconst cx 0 (by decide) d_X4_inches_2 ?_
  refine g_istore_n cx [(2, .int 0), (1, .int 0), (0, .ref (ad 43))] d_X4_inches_3 (by decide) rfl ?_
  have L4 : ∀ (N : Nat) (i : Nat) (x1 x2 : Int32), 30 - i < N → (x2 = nI i) → (i ≤ 30) → (x1 = g_sum (R 46) i) → G X E 3 0 0 (wX X ad F R) [(0, .ref (ad 43)), (1, .int x1), (2, .int x2)] 4 [] := by
    intro N
    induction N with
    | zero => intro i x1 x2 hm; exact absurd hm (Nat.not_lt_zero _)
    | succ N ih4 =>
      intro i x1 x2 hm hx hi hs
      refine g_iload_n cx 2 rfl d_X4_inches_4 ?_
      refine g_aload_n cx 0 rfl d_X4_inches_5 ?_
      refine g_get cx cl_X4 fl_X4_18 43 (.ref (ad 46)) d_X4_inches_6 rfl rfl ?_
      refine g_alen cx 46 30 d_X4_inches_9 rfl (by decide) ?_
      refine g_icmp_ge cx 28 d_X4_inches_10 (by decide) (fun zc10 => ?_) (fun zc10 => ?_)
      · refine g_iload_n cx 1 rfl d_X4_inches_28 ?_
        exact hret d_X4_inches_29 (Nat.le_of_ble_eq_true rfl) (Nat.le_of_ble_eq_true rfl) rfl (⟨rfl, (by have h30 := g_le (c := 30) (by decide) (hx ▸ zc10) (by omega); have e : i = 30 := (by omega); rw [hs, e]; exact g_sum0 hz)⟩)
      · refine g_iload_n cx 1 rfl d_X4_inches_13 ?_
        refine g_aload_n cx 0 rfl d_X4_inches_14 ?_
        refine g_get cx cl_X4 fl_X4_18 43 (.ref (ad 46)) d_X4_inches_15 rfl rfl ?_
        refine g_iload_n cx 2 rfl d_X4_inches_18 ?_
        refine g_iald cx 46 d_X4_inches_19 rfl (by rw [hx]; exact vp_in_nI (g_lt10 (n := 30) hx (by omega) zc10) (by decide)) ?_
        refine g_iadd cx d_X4_inches_20 ?_
        refine g_istore_n cx [(1, .int (x1 + ((R 46) (Int32.toNatClampNeg x2)))), (0, .ref (ad 43)), (2, .int x2)] d_X4_inches_21 (by decide) rfl ?_
        refine g_iinc cx (x2 + 1) [(2, .int (x2 + 1)), (1, .int (x1 + ((R 46) (Int32.toNatClampNeg x2)))), (0, .ref (ad 43))] 2 d_X4_inches_22 rfl (rfl) (by decide) rfl ?_
        refine g_goto cx 4 d_X4_inches_25 (by decide) ?_
        refine g_lsub [2, 1, 0] [(0, .ref (ad 43)), (1, .int (x1 + ((R 46) (Int32.toNatClampNeg x2)))), (2, .int (x2 + 1))] rfl ?_
        exact ih4 (i + 1) (x1 + ((R 46) (Int32.toNatClampNeg x2))) (x2 + 1) (by have := g_lt10 (n := 30) hx (by omega) zc10; omega) (by rw [hx]; exact nI_1 i) (by have := g_lt10 (n := 30) hx (by omega) zc10; omega) (by rw [hs]; exact g_sumS hx (by omega))
  refine g_lsub [2, 1, 0] [(0, .ref (ad 43)), (1, .int 0), (2, .int 0)] rfl ?_
  exact L4 _ 0 0 0 (Nat.lt_succ_self _) nI_0.symm (by omega) rfl
theorem d_X4_tellThing_0 : g_dc cX4_tellThing 0 (.iload_n 1) 1 1 := ⟨by decide +kernel, rfl⟩
theorem d_X4_tellThing_1 : g_dc cX4_tellThing 1 (.iconst 0) 1 2 := ⟨by decide +kernel, rfl⟩
theorem d_X4_tellThing_2 : g_dc cX4_tellThing 2 (.bipush 9) 2 4 := ⟨by decide +kernel, rfl⟩
theorem d_X4_tellThing_4 : g_dc cX4_tellThing 4 (.invokestatic 54) 3 7 := ⟨by decide +kernel, rfl⟩
theorem d_X4_tellThing_7 : g_dc cX4_tellThing 7 (.ifCond .eq 14) 3 10 := ⟨by decide +kernel, rfl⟩
theorem d_X4_tellThing_10 : g_dc cX4_tellThing 10 (.aload_n 0) 1 11 := ⟨by decide +kernel, rfl⟩
theorem d_X4_tellThing_11 : g_dc cX4_tellThing 11 (.getfield 21) 3 14 := ⟨by decide +kernel, rfl⟩
theorem d_X4_tellThing_14 : g_dc cX4_tellThing 14 (.iconst 1) 1 15 := ⟨by decide +kernel, rfl⟩
theorem d_X4_tellThing_15 : g_dc cX4_tellThing 15 (.iload_n 1) 1 16 := ⟨by decide +kernel, rfl⟩
theorem d_X4_tellThing_16 : g_dc cX4_tellThing 16 (.ishl) 1 17 := ⟨by decide +kernel, rfl⟩
theorem d_X4_tellThing_17 : g_dc cX4_tellThing 17 (.iand) 1 18 := ⟨by decide +kernel, rfl⟩
theorem d_X4_tellThing_18 : g_dc cX4_tellThing 18 (.ifCond .ne 5) 3 21 := ⟨by decide +kernel, rfl⟩
theorem d_X4_tellThing_21 : g_dc cX4_tellThing 21 (.iconst (-1)) 1 22 := ⟨by decide +kernel, rfl⟩
theorem d_X4_tellThing_22 : g_dc cX4_tellThing 22 (.ireturn) 1 23 := ⟨by decide +kernel, rfl⟩
set_option maxHeartbeats 4000000 in
set_option maxRecDepth 100000 in
theorem c_X4_tellThing (l : Launch) (X : gX) (ad : Nat → Nat) (F : Nat → Int32) (R : Nat → Nat → Int32) (i what : Int32) (h691 : F 691 = 0) : g_Ci l X yX4_tellThing cX4_tellThing 3 (some .int) 2 0 0 [.ref (ad 43), .int i, .int what] (wX X ad F R) (fun r w => w = wX X ad F R ∧ r = -1) := by
  refine g_mi (by decide +kernel) (Nat.le_of_ble_eq_true rfl) (fun E cx hret => ?_)
  refine g_iload_n cx 1 rfl d_X4_tellThing_0 ?_
  refine g_iconst cx 0 (by decide) d_X4_tellThing_1 ?_
  refine g_bipush cx 9 (by decide) d_X4_tellThing_2 ?_
  refine g_cNiW cx [.int i, .int 0, .int 9] [] (c_X10_within l X _ i 0 9) mn_X4_54 yS_X10_within d_X4_tellThing_4 (by unfold g_rr; decide) (by decide) rfl (Nat.le_of_ble_eq_true rfl) (fun r1 w2 h3 => ?_)
  obtain ⟨rfl, rfl⟩ := h3
  refine g_if_eq cx 21 d_X4_tellThing_7 (by decide) (fun zc7 => ?_) (fun zc7 => ?_)
  · refine g_iconst cx (-1) (by decide) d_X4_tellThing_21 ?_
    exact hret d_X4_tellThing_22 (Nat.le_of_ble_eq_true rfl) (Nat.le_of_ble_eq_true rfl) rfl (⟨rfl, rfl⟩)
  · refine g_aload_n cx 0 rfl d_X4_tellThing_10 ?_
    refine g_get cx cl_X4 fl_X4_21 43 (.int (F 691)) d_X4_tellThing_11 rfl rfl ?_
    refine g_toi 0 (h691) ?_
    refine g_iconst cx 1 (by decide) d_X4_tellThing_14 ?_
    refine g_iload_n cx 1 rfl d_X4_tellThing_15 ?_
    refine g_ishl cx d_X4_tellThing_16 ?_
    refine g_iand cx d_X4_tellThing_17 ?_
    refine g_toi 0 (by simp) ?_
    refine g_if_ne_f cx 23 d_X4_tellThing_18 (by decide) (by decide) ?_
    refine g_iconst cx (-1) (by decide) d_X4_tellThing_21 ?_
    exact hret d_X4_tellThing_22 (Nat.le_of_ble_eq_true rfl) (Nat.le_of_ble_eq_true rfl) rfl (⟨rfl, rfl⟩)
theorem d_X4_tell_0 : g_dc cX4_tell 0 (.iload_n 1) 1 1 := ⟨by decide +kernel, rfl⟩
theorem d_X4_tell_1 : g_dc cX4_tell 1 (.tableswitch 96 0 8 #[51, 56, 61, 66, 71, 76, 81, 86, 91]) 51 52 := ⟨by decide +kernel, rfl⟩
theorem d_X4_tell_52 : g_dc cX4_tell 52 (.aload_n 0) 1 53 := ⟨by decide +kernel, rfl⟩
theorem d_X4_tell_53 : g_dc cX4_tell 53 (.invokevirtual 68) 3 56 := ⟨by decide +kernel, rfl⟩
theorem d_X4_tell_56 : g_dc cX4_tell 56 (.ireturn) 1 57 := ⟨by decide +kernel, rfl⟩
theorem d_X4_tell_57 : g_dc cX4_tell 57 (.aload_n 0) 1 58 := ⟨by decide +kernel, rfl⟩
theorem d_X4_tell_58 : g_dc cX4_tell 58 (.invokevirtual 71) 3 61 := ⟨by decide +kernel, rfl⟩
theorem d_X4_tell_61 : g_dc cX4_tell 61 (.ireturn) 1 62 := ⟨by decide +kernel, rfl⟩
theorem d_X4_tell_62 : g_dc cX4_tell 62 (.aload_n 0) 1 63 := ⟨by decide +kernel, rfl⟩
theorem d_X4_tell_63 : g_dc cX4_tell 63 (.getfield 40) 3 66 := ⟨by decide +kernel, rfl⟩
theorem d_X4_tell_66 : g_dc cX4_tell 66 (.ireturn) 1 67 := ⟨by decide +kernel, rfl⟩
theorem d_X4_tell_67 : g_dc cX4_tell 67 (.aload_n 0) 1 68 := ⟨by decide +kernel, rfl⟩
theorem d_X4_tell_68 : g_dc cX4_tell 68 (.getfield 43) 3 71 := ⟨by decide +kernel, rfl⟩
theorem d_X4_tell_71 : g_dc cX4_tell 71 (.ireturn) 1 72 := ⟨by decide +kernel, rfl⟩
theorem d_X4_tell_72 : g_dc cX4_tell 72 (.aload_n 0) 1 73 := ⟨by decide +kernel, rfl⟩
theorem d_X4_tell_73 : g_dc cX4_tell 73 (.getfield 25) 3 76 := ⟨by decide +kernel, rfl⟩
theorem d_X4_tell_76 : g_dc cX4_tell 76 (.ireturn) 1 77 := ⟨by decide +kernel, rfl⟩
theorem d_X4_tell_77 : g_dc cX4_tell 77 (.aload_n 0) 1 78 := ⟨by decide +kernel, rfl⟩
theorem d_X4_tell_78 : g_dc cX4_tell 78 (.getfield 28) 3 81 := ⟨by decide +kernel, rfl⟩
theorem d_X4_tell_81 : g_dc cX4_tell 81 (.ireturn) 1 82 := ⟨by decide +kernel, rfl⟩
theorem d_X4_tell_82 : g_dc cX4_tell 82 (.aload_n 0) 1 83 := ⟨by decide +kernel, rfl⟩
theorem d_X4_tell_83 : g_dc cX4_tell 83 (.getfield 31) 3 86 := ⟨by decide +kernel, rfl⟩
theorem d_X4_tell_86 : g_dc cX4_tell 86 (.ireturn) 1 87 := ⟨by decide +kernel, rfl⟩
theorem d_X4_tell_87 : g_dc cX4_tell 87 (.aload_n 0) 1 88 := ⟨by decide +kernel, rfl⟩
theorem d_X4_tell_88 : g_dc cX4_tell 88 (.getfield 34) 3 91 := ⟨by decide +kernel, rfl⟩
theorem d_X4_tell_91 : g_dc cX4_tell 91 (.ireturn) 1 92 := ⟨by decide +kernel, rfl⟩
theorem d_X4_tell_92 : g_dc cX4_tell 92 (.aload_n 0) 1 93 := ⟨by decide +kernel, rfl⟩
theorem d_X4_tell_93 : g_dc cX4_tell 93 (.getfield 37) 3 96 := ⟨by decide +kernel, rfl⟩
theorem d_X4_tell_96 : g_dc cX4_tell 96 (.ireturn) 1 97 := ⟨by decide +kernel, rfl⟩
theorem d_X4_tell_97 : g_dc cX4_tell 97 (.iload_n 1) 1 98 := ⟨by decide +kernel, rfl⟩
theorem d_X4_tell_98 : g_dc cX4_tell 98 (.bipush 10) 2 100 := ⟨by decide +kernel, rfl⟩
theorem d_X4_tell_100 : g_dc cX4_tell 100 (.bipush 69) 2 102 := ⟨by decide +kernel, rfl⟩
theorem d_X4_tell_102 : g_dc cX4_tell 102 (.invokestatic 54) 3 105 := ⟨by decide +kernel, rfl⟩
theorem d_X4_tell_105 : g_dc cX4_tell 105 (.ifCond .eq 18) 3 108 := ⟨by decide +kernel, rfl⟩
theorem d_X4_tell_108 : g_dc cX4_tell 108 (.aload_n 0) 1 109 := ⟨by decide +kernel, rfl⟩
theorem d_X4_tell_109 : g_dc cX4_tell 109 (.iload_n 1) 1 110 := ⟨by decide +kernel, rfl⟩
theorem d_X4_tell_110 : g_dc cX4_tell 110 (.bipush 10) 2 112 := ⟨by decide +kernel, rfl⟩
theorem d_X4_tell_112 : g_dc cX4_tell 112 (.irem) 1 113 := ⟨by decide +kernel, rfl⟩
theorem d_X4_tell_113 : g_dc cX4_tell 113 (.iload_n 1) 1 114 := ⟨by decide +kernel, rfl⟩
theorem d_X4_tell_114 : g_dc cX4_tell 114 (.bipush 10) 2 116 := ⟨by decide +kernel, rfl⟩
theorem d_X4_tell_116 : g_dc cX4_tell 116 (.idiv) 1 117 := ⟨by decide +kernel, rfl⟩
theorem d_X4_tell_117 : g_dc cX4_tell 117 (.invokevirtual 74) 3 120 := ⟨by decide +kernel, rfl⟩
theorem d_X4_tell_120 : g_dc cX4_tell 120 (.goto 4) 3 123 := ⟨by decide +kernel, rfl⟩
theorem d_X4_tell_123 : g_dc cX4_tell 123 (.iconst (-1)) 1 124 := ⟨by decide +kernel, rfl⟩
theorem d_X4_tell_124 : g_dc cX4_tell 124 (.ireturn) 1 125 := ⟨by decide +kernel, rfl⟩
set_option maxHeartbeats 4000000 in
set_option maxRecDepth 100000 in
theorem c_X4_tell (l : Launch) (X : gX) (ad : Nat → Nat) (F : Nat → Int32) (R : Nat → Nat → Int32) (what : Int32) (h691 : F 691 = 0) (h692 : F 692 = 0) (h693 : F 693 = 0) (h694 : F 694 = 0) (h695 : F 695 = 0) (h696 : F 696 = 0) (h697 : F 697 = 0) (h698 : F 698 = 100) (hz : ∀ j, j < 30 → R 46 j = 0) : g_Ci l X yX4_tell cX4_tell 2 (some .int) 3 0 0 [.ref (ad 43), .int what] (wX X ad F R) (fun r w => w = wX X ad F R ∧ r = g_st what) := by
  refine g_mi (by decide +kernel) (Nat.le_of_ble_eq_true rfl) (fun E cx hret => ?_)
  refine g_iload_n cx 1 rfl d_X4_tell_0 ?_
  rcases g_sw9 what with rfl | rfl | rfl | rfl | rfl | rfl | rfl | rfl | rfl | zsw
  · refine g_tableIn cx 52 d_X4_tell_1 (by decide) (by decide) rfl (by decide) ?_
    refine g_aload_n cx 0 rfl d_X4_tell_52 ?_
    refine g_cViW cx [] [] (c_X4_standing l X ad F R  h691) ml_X4_68 yV_X4_standing d_X4_tell_53 (by unfold g_rr; decide) (by decide) 43 rfl rfl rfl (Nat.le_of_ble_eq_true rfl) (fun r1 w2 h3 => ?_)
    obtain ⟨rfl, rfl⟩ := h3
    exact hret d_X4_tell_56 (Nat.le_of_ble_eq_true rfl) (Nat.le_of_ble_eq_true rfl) rfl (⟨rfl, by decide⟩)
  · refine g_tableIn cx 57 d_X4_tell_1 (by decide) (by decide) rfl (by decide) ?_
    refine g_aload_n cx 0 rfl d_X4_tell_57 ?_
    refine g_cViW cx [] [] (c_X4_inches l X ad F R  hz) ml_X4_71 yV_X4_inches d_X4_tell_58 (by unfold g_rr; decide) (by decide) 43 rfl rfl rfl (Nat.le_of_ble_eq_true rfl) (fun r4 w5 h6 => ?_)
    obtain ⟨rfl, rfl⟩ := h6
    exact hret d_X4_tell_61 (Nat.le_of_ble_eq_true rfl) (Nat.le_of_ble_eq_true rfl) rfl (⟨rfl, by decide⟩)
  · refine g_tableIn cx 62 d_X4_tell_1 (by decide) (by decide) rfl (by decide) ?_
    refine g_aload_n cx 0 rfl d_X4_tell_62 ?_
    refine g_get cx cl_X4 fl_X4_40 43 (.int (F 697)) d_X4_tell_63 rfl rfl ?_
    refine g_toi 0 (h697) ?_
    exact hret d_X4_tell_66 (Nat.le_of_ble_eq_true rfl) (Nat.le_of_ble_eq_true rfl) rfl (⟨rfl, by decide⟩)
  · refine g_tableIn cx 67 d_X4_tell_1 (by decide) (by decide) rfl (by decide) ?_
    refine g_aload_n cx 0 rfl d_X4_tell_67 ?_
    refine g_get cx cl_X4 fl_X4_43 43 (.int (F 698)) d_X4_tell_68 rfl rfl ?_
    refine g_toi 100 (h698) ?_
    exact hret d_X4_tell_71 (Nat.le_of_ble_eq_true rfl) (Nat.le_of_ble_eq_true rfl) rfl (⟨rfl, by decide⟩)
  · refine g_tableIn cx 72 d_X4_tell_1 (by decide) (by decide) rfl (by decide) ?_
    refine g_aload_n cx 0 rfl d_X4_tell_72 ?_
    refine g_get cx cl_X4 fl_X4_25 43 (.int (F 692)) d_X4_tell_73 rfl rfl ?_
    refine g_toi 0 (h692) ?_
    exact hret d_X4_tell_76 (Nat.le_of_ble_eq_true rfl) (Nat.le_of_ble_eq_true rfl) rfl (⟨rfl, by decide⟩)
  · refine g_tableIn cx 77 d_X4_tell_1 (by decide) (by decide) rfl (by decide) ?_
    refine g_aload_n cx 0 rfl d_X4_tell_77 ?_
    refine g_get cx cl_X4 fl_X4_28 43 (.int (F 693)) d_X4_tell_78 rfl rfl ?_
    refine g_toi 0 (h693) ?_
    exact hret d_X4_tell_81 (Nat.le_of_ble_eq_true rfl) (Nat.le_of_ble_eq_true rfl) rfl (⟨rfl, by decide⟩)
  · refine g_tableIn cx 82 d_X4_tell_1 (by decide) (by decide) rfl (by decide) ?_
    refine g_aload_n cx 0 rfl d_X4_tell_82 ?_
    refine g_get cx cl_X4 fl_X4_31 43 (.int (F 694)) d_X4_tell_83 rfl rfl ?_
    refine g_toi 0 (h694) ?_
    exact hret d_X4_tell_86 (Nat.le_of_ble_eq_true rfl) (Nat.le_of_ble_eq_true rfl) rfl (⟨rfl, by decide⟩)
  · refine g_tableIn cx 87 d_X4_tell_1 (by decide) (by decide) rfl (by decide) ?_
    refine g_aload_n cx 0 rfl d_X4_tell_87 ?_
    refine g_get cx cl_X4 fl_X4_34 43 (.int (F 695)) d_X4_tell_88 rfl rfl ?_
    refine g_toi 0 (h695) ?_
    exact hret d_X4_tell_91 (Nat.le_of_ble_eq_true rfl) (Nat.le_of_ble_eq_true rfl) rfl (⟨rfl, by decide⟩)
  · refine g_tableIn cx 92 d_X4_tell_1 (by decide) (by decide) rfl (by decide) ?_
    refine g_aload_n cx 0 rfl d_X4_tell_92 ?_
    refine g_get cx cl_X4 fl_X4_37 43 (.int (F 696)) d_X4_tell_93 rfl rfl ?_
    refine g_toi 0 (h696) ?_
    exact hret d_X4_tell_96 (Nat.le_of_ble_eq_true rfl) (Nat.le_of_ble_eq_true rfl) rfl (⟨rfl, by decide⟩)
  · refine g_tableOut cx 97 d_X4_tell_1 zsw (by decide) ?_
    refine g_iload_n cx 1 rfl d_X4_tell_97 ?_
    refine g_bipush cx 10 (by decide) d_X4_tell_98 ?_
    refine g_bipush cx 69 (by decide) d_X4_tell_100 ?_
    refine g_cNiW cx [.int what, .int 10, .int 69] [] (c_X10_within l X _ what 10 69) mn_X4_54 yS_X10_within d_X4_tell_102 (by unfold g_rr; decide) (by decide) rfl (Nat.le_of_ble_eq_true rfl) (fun r7 w8 h9 => ?_)
    obtain ⟨rfl, rfl⟩ := h9
    refine g_if_eq cx 123 d_X4_tell_105 (by decide) (fun zc105 => ?_) (fun zc105 => ?_)
    · refine g_iconst cx (-1) (by decide) d_X4_tell_123 ?_
      exact hret d_X4_tell_124 (Nat.le_of_ble_eq_true rfl) (Nat.le_of_ble_eq_true rfl) rfl (⟨rfl, (g_st_out zsw).symm⟩)
    · refine g_aload_n cx 0 rfl d_X4_tell_108 ?_
      refine g_iload_n cx 1 rfl d_X4_tell_109 ?_
      refine g_bipush cx 10 (by decide) d_X4_tell_110 ?_
      refine g_irem cx (by decide) d_X4_tell_112 ?_
      refine g_iload_n cx 1 rfl d_X4_tell_113 ?_
      refine g_bipush cx 10 (by decide) d_X4_tell_114 ?_
      refine g_idiv cx (by decide) d_X4_tell_116 ?_
      refine g_cViW cx [.int (what - what / 10 * 10), .int (what / 10)] [] (c_X4_tellThing l X ad F R (what - what / 10 * 10) (what / 10) h691) ml_X4_74 yV_X4_tellThing d_X4_tell_117 (by unfold g_rr; decide) (by decide) 43 rfl rfl rfl (Nat.le_of_ble_eq_true rfl) (fun r10 w11 h12 => ?_)
      obtain ⟨rfl, rfl⟩ := h12
      refine g_goto cx 124 d_X4_tell_120 (by decide) ?_
      exact hret d_X4_tell_124 (Nat.le_of_ble_eq_true rfl) (Nat.le_of_ble_eq_true rfl) rfl (⟨rfl, (g_st_out zsw).symm⟩)
