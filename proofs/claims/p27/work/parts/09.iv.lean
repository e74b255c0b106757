section GCO
variable {X : gX} {E : gE} {nL k n : Nat} {l : Launch} {R : Room} {cc : ByteArray} {own : String} {ini : Prop} {ws : va_W} {lv : List (Nat × Value)} {pc pc' : Nat} {st0 : List Value}
variable {y : MethodName} {b : ByteArray} {ml d mc ms idx : Nat} {wc : va_W}
theorem g_cOiW {ret : Option FieldType} {post : Int32 → va_W → Prop} (cx : g_cx X E nL l R cc own ini) (As st : List Value) (hM : g_Ci l X y b ml ret d mc ms As ws post) (hw : Cond.methodLink own idx y ∈ gT) (hy : g_yS y b ml ret As.length) (hd : g_dc cc pc (.invokestatic idx) 3 pc') (hR : g_rr R d ml) (hf : k + mc ≤ R.cells ∧ n + ms ≤ R.slots) (hst : st0 = As.reverse ++ st) (hW : (st.map fun v => v.category).sum ≤ 8)
    (kk : ∀ r w, post r w → G X E nL (k + mc) (n + ms) w lv pc' (.int r :: st)) : G X E nL k n ws lv pc st0 := by
  obtain ⟨p, e, s, args, below, meth, c, Q, hE, hx, hb, hml, hown, hts, hK, hN, hG, hA, hini⟩ := cx
  obtain ⟨hd, rfl⟩ := hd
  subst hst
  intro H locs ls hP hD hS hl
  rw [hE]
  have hPc : va_P X.1.1 vwCl ws H := hP
  have hDc := hD
  have hFc := va_free (wc := ws) hD hS hA (List.range ws.length) (g_all ws)
  have hgood : GoodIn gT (gW y b ml ret) := g_good (fun w h => by
    rcases List.mem_cons.mp h with rfl | h
    · exact hy.2.2.1
    · exact h)
  refine va_calli (va_runS (As := As) (rest := st) ⟨hx, hb, hml, hown, hts⟩ (hM H.size) ⟨callB_of As.length hts hgood rfl rfl rfl (hts _ hy.2.1) (hts _ hw) hy.2.2.2 hR, hts _ hy.1⟩ ⟨g_pc_ok, fun U hU hW => ⟨rfl, by rw [hU], by rw [hU]; exact hPc, va_K.moved hW.alike hK, hDc.weaken (fun _ _ _ _ => trivial), g_nf_warm hW hN, g_gl_call hG.2 hS hFc hU hW⟩⟩ rfl rfl hl.1 rfl (lv_room hW) hd hf) hS (fun q _ h => hFc q h) hFc (fun r w t H1 locs1 ht hvm hp hB hz hk1 hS1 => ?_)
  obtain ⟨hP1, hD1⟩ := hB
  rw [ht] at hP1
  have k1 := kk r w hp H1 locs1 ls hP1 (hD1.weaken (fun _ q _ h => hFc q.1 h)) hS1 hl
  rw [hE] at k1
  exact k1
end GCO
section GSV
variable {X : gX} {E : gE} {nL k n : Nat} {l : Launch} {R : Room} {cc : ByteArray} {own : String} {ini : Prop} {ws : va_W} {lv : List (Nat × Value)} {pc pc' : Nat} {st0 : List Value}
variable {y : MethodName} {b : ByteArray} {ml d mc ms idx : Nat} {wc : va_W}
theorem g_cSv {post : va_W → Prop} (cx : g_cx X E nL l R cc own ini) (As st : List Value) (hM : g_Cv l X y b ml d mc ms As wc post) (hw : Cond.methodLink own idx y ∈ gT) (hy : g_yS y b ml none As.length) (ho : y.cls = own) (hd : g_dc cc pc (.invokestatic idx) 3 pc') (hR : g_rr R d ml) (hf : k + mc ≤ R.cells ∧ n + ms ≤ R.slots) (isC : List Nat) (hC : isC.map (fun i => ws[i]?) = wc.map some) (hnd : va_nd isC = true) (hst : st0 = As.reverse ++ st) (hW : (st.map fun v => v.category).sum ≤ 8) (hadr : ∀ w, post w → w.map (·.1) = wc.map (·.1))
    (kk : ∀ w, post w → G X E nL (k + mc) (n + ms) (g_rep ws isC w) lv pc' (st)) : G X E nL k n ws lv pc st0 := by
  obtain ⟨p, e, s, args, below, meth, c, Q, hE, hx, hb, hml, hown, hts, hK, hN, hG, hA, hini⟩ := cx
  obtain ⟨hd, rfl⟩ := hd
  subst hst
  intro H locs ls hP hD hS hl
  rw [hE]
  have hPc : va_P X.1.1 vwCl wc H := g_P_of hC hP
  have hDc := hD.sub isC hnd hC
  have hFc := va_free (wc := wc) hD hS hA isC hC
  have hgood : GoodIn gT (wsS own idx y (gW y b ml none)) := g_good (fun w h => by
    simp only [wsS, gW, List.mem_append, List.mem_cons, List.not_mem_nil, or_false] at h
    rcases h with (rfl | rfl | rfl) | rfl | h
    · exact hw
    · exact hy.1
    · rw [← ho]; exact hy.2.1
    · exact hy.2.2.1
    · exact h)
  refine va_callv (va_runS (As := As) (rest := st) ⟨hx, hb, hml, hown, hts⟩ (hM H.size) (cwS As.length hts hgood rfl rfl rfl ⟨ho, hy.2.2.2⟩ hR) ⟨g_pc_ok, fun U hU hW => ⟨rfl, by rw [hU], by rw [hU]; exact hPc, va_K.moved hW.alike hK, hDc.weaken (fun _ _ _ _ => trivial), g_nf_warm hW hN, g_gl_call hG.2 hS hFc hU hW⟩⟩ rfl rfl hl.1 rfl (lv_room hW) hd hf) hS (fun q _ h => hFc q h) hFc (fun w t H1 locs1 ht hvm hp hB hz hk1 hS1 => ?_)
  obtain ⟨hP1, hD1⟩ := hB
  rw [ht] at hP1
  have k1 := kk w hp H1 locs1 ls (g_rep_P hC (hadr w hp) hP hD hk1 hP1) (g_rep_D hC (hadr w hp) hD) hS1 hl
  rw [hE] at k1
  exact k1
theorem g_cSvW {post : va_W → Prop} (cx : g_cx X E nL l R cc own ini) (As st : List Value) (hM : g_Cv l X y b ml d mc ms As ws post) (hw : Cond.methodLink own idx y ∈ gT) (hy : g_yS y b ml none As.length) (ho : y.cls = own) (hd : g_dc cc pc (.invokestatic idx) 3 pc') (hR : g_rr R d ml) (hf : k + mc ≤ R.cells ∧ n + ms ≤ R.slots) (hst : st0 = As.reverse ++ st) (hW : (st.map fun v => v.category).sum ≤ 8)
    (kk : ∀ w, post w → G X E nL (k + mc) (n + ms) w lv pc' (st)) : G X E nL k n ws lv pc st0 := by
  obtain ⟨p, e, s, args, below, meth, c, Q, hE, hx, hb, hml, hown, hts, hK, hN, hG, hA, hini⟩ := cx
  obtain ⟨hd, rfl⟩ := hd
  subst hst
  intro H locs ls hP hD hS hl
  rw [hE]
  have hPc : va_P X.1.1 vwCl ws H := hP
  have hDc := hD
  have hFc := va_free (wc := ws) hD hS hA (List.range ws.length) (g_all ws)
  have hgood : GoodIn gT (wsS own idx y (gW y b ml none)) := g_good (fun w h => by
    simp only [wsS, gW, List.mem_append, List.mem_cons, List.not_mem_nil, or_false] at h
    rcases h with (rfl | rfl | rfl) | rfl | h
    · exact hw
    · exact hy.1
    · rw [← ho]; exact hy.2.1
    · exact hy.2.2.1
    · exact h)
  refine va_callv (va_runS (As := As) (rest := st) ⟨hx, hb, hml, hown, hts⟩ (hM H.size) (cwS As.length hts hgood rfl rfl rfl ⟨ho, hy.2.2.2⟩ hR) ⟨g_pc_ok, fun U hU hW => ⟨rfl, by rw [hU], by rw [hU]; exact hPc, va_K.moved hW.alike hK, hDc.weaken (fun _ _ _ _ => trivial), g_nf_warm hW hN, g_gl_call hG.2 hS hFc hU hW⟩⟩ rfl rfl hl.1 rfl (lv_room hW) hd hf) hS (fun q _ h => hFc q h) hFc (fun w t H1 locs1 ht hvm hp hB hz hk1 hS1 => ?_)
  obtain ⟨hP1, hD1⟩ := hB
  rw [ht] at hP1
  have k1 := kk w hp H1 locs1 ls hP1 (hD1.weaken (fun _ q _ h => hFc q.1 h)) hS1 hl
  rw [hE] at k1
  exact k1
end GSV
/-! ===== intervals of ints, invariants of numbers and rows, frames ===== -/
def jv (a b : Int) (x : Int32) : Prop := a ≤ x.toInt ∧ x.toInt ≤ b
def g_eqs (a b : Int) : Prop := a = b
theorem jv_t (x : Int32) : jv (-2147483648) 2147483647 x := by
  have h1 := Int32.le_toInt x
  have h2 := Int32.toInt_lt x
  unfold jv
  omega
theorem jv_w {a b c d : Int} {x : Int32} (h : jv a b x) (hh : c ≤ a ∧ b ≤ d) : jv c d x := ⟨Int.le_trans hh.1 h.1, Int.le_trans h.2 hh.2⟩
theorem jv_k {x : Int32} (c : Int) (h : x.toInt = c) : jv c c x := by
  unfold jv
  omega
theorem g_bm {v : Int} (h1 : -2147483648 ≤ v) (h2 : v ≤ 2147483647) : v.bmod (2 ^ 32) = v := by
  refine Int.bmod_eq_of_le ?_ ?_ <;> omega
theorem jv_add {x y z : Int32} {a b c d : Int} (lo hi : Int) (e : z = x + y) (hx : jv a b x) (hy : jv c d y) (hh : lo ≤ a + c ∧ b + d ≤ hi ∧ -2147483648 ≤ lo ∧ hi ≤ 2147483647) : g_eqs z.toInt (x.toInt + y.toInt) ∧ jv lo hi z := by
  subst e
  unfold jv g_eqs at *
  rw [Int32.toInt_add, g_bm (by omega) (by omega)]
  omega
theorem jv_sub {x y z : Int32} {a b c d : Int} (lo hi : Int) (e : z = x - y) (hx : jv a b x) (hy : jv c d y) (hh : lo ≤ a - d ∧ b - c ≤ hi ∧ -2147483648 ≤ lo ∧ hi ≤ 2147483647) : g_eqs z.toInt (x.toInt - y.toInt) ∧ jv lo hi z := by
  subst e
  unfold jv g_eqs at *
  rw [Int32.toInt_sub, g_bm (by omega) (by omega)]
  omega
/-- a product of numbers that aren't negative -/
theorem jv_mul {x y z : Int32} {a b c d : Int} (lo hi : Int) (e : z = x * y) (hx : jv a b x) (hy : jv c d y) (hh : 0 ≤ a ∧ 0 ≤ c ∧ lo ≤ a * c ∧ b * d ≤ hi ∧ -2147483648 ≤ lo ∧ hi ≤ 2147483647) : g_eqs z.toInt (x.toInt * y.toInt) ∧ jv lo hi z := by
  subst e
  unfold jv g_eqs at *
  obtain ⟨h1, h2, h3, h4, h5, h6⟩ := hh
  have l1 : a * c ≤ x.toInt * y.toInt := Int.mul_le_mul hx.1 hy.1 h2 (by omega)
  have l2 : x.toInt * y.toInt ≤ b * d := Int.mul_le_mul hx.2 hy.2 (by omega) (by omega)
  rw [Int32.toInt_mul, g_bm (by omega) (by omega)]
  omega
/-- a number that isn't negative, through a number from 1 on -/
theorem jv_div {x y z : Int32} {a b c d : Int} (lo hi : Int) (e : z = x / y) (hx : jv a b x) (hy : jv c d y) (hh : 0 ≤ a ∧ 1 ≤ c ∧ lo ≤ 0 ∧ b / c ≤ hi) : g_eqs z.toInt (x.toInt / y.toInt) ∧ jv lo hi z := by
  subst e
  unfold jv g_eqs at *
  have h0 : 0 ≤ x.toInt / y.toInt := Int.ediv_nonneg (by omega) (by omega)
  have h1 : x.toInt / y.toInt ≤ b / c := by
    refine Int.le_ediv_of_mul_le (by omega) ?_
    have h2 : x.toInt / y.toInt * c ≤ x.toInt / y.toInt * y.toInt := Int.mul_le_mul_of_nonneg_left hy.1 h0
    have h3 := Int.ediv_mul_le x.toInt (b := y.toInt) (by omega)
    omega
  have h4 : b / c ≤ b := Int.ediv_le_self c (by omega)
  have h5 := Int32.toInt_lt x
  have h6 : x.toInt / y.toInt ≤ x.toInt := Int.ediv_le_self _ (by omega)
  rw [Int32.toInt_div, Int.tdiv_eq_ediv_of_nonneg (by omega), g_bm (by omega) (by omega)]
  omega
/-- what is left when a number is divided by a number from 1 on -/
theorem jv_rem {x y z : Int32} {a b c d : Int} (lo hi : Int) (e : z = x - x / y * y) (hx : jv a b x) (hy : jv c d y) (hh : 0 ≤ a ∧ 1 ≤ c ∧ lo ≤ 0 ∧ d - 1 ≤ hi) : g_eqs z.toInt (x.toInt % y.toInt) ∧ jv lo hi z := by
  have e2 := (jv_div (z := x / y) 0 b rfl hx hy ⟨hh.1, hh.2.1, Int.le_refl 0, Int.ediv_le_self c (by have := hx.1; have := hx.2; omega)⟩)
  subst e
  unfold jv g_eqs at *
  have h2 := Int.emod_nonneg x.toInt (b := y.toInt) (by omega)
  have h3 := Int.emod_lt_of_pos x.toInt (b := y.toInt) (by omega)
  have h4 := Int.mul_ediv_add_emod x.toInt y.toInt
  have h5 := Int32.toInt_lt x
  have h7 : x.toInt / y.toInt * y.toInt ≤ x.toInt := Int.ediv_mul_le x.toInt (by omega)
  have h8 : 0 ≤ x.toInt / y.toInt * y.toInt := Int.mul_nonneg (Int.ediv_nonneg (by omega) (by omega)) (by omega)
  rw [Int32.toInt_sub, Int32.toInt_mul, e2.1, g_bm (v := x.toInt / y.toInt * y.toInt) (by omega) (by omega), g_bm (by omega) (by omega)]
  have h9 : y.toInt * (x.toInt / y.toInt) = x.toInt / y.toInt * y.toInt := Int.mul_comm _ _
  omega
theorem jv_and {x y z : Int32} {c d : Int} (lo hi : Int) (e : z = x &&& y) (hy : jv c d y) (hh : 0 ≤ c ∧ lo ≤ 0 ∧ d ≤ hi) : jv lo hi z := by
  subst e
  unfold jv at *
  have h1 : y.toBitVec.toNat = y.toInt.toNat := by
    have h2 : y.toInt = y.toBitVec.toInt := rfl
    rw [h2] at hy ⊢
    rw [BitVec.toInt_eq_toNat_cond] at hy ⊢
    split at hy <;> split <;> omega
  have h3 : (x &&& y).toBitVec.toNat ≤ y.toBitVec.toNat := by
    rw [Int32.toBitVec_and, BitVec.toNat_and]
    exact Nat.and_le_right
  have h4 : (x &&& y).toInt = (x &&& y).toBitVec.toInt := rfl
  rw [h4, BitVec.toInt_eq_toNat_cond]
  have h5 := Int32.toInt_lt y
  split <;> omega
theorem jv_andL {x y z : Int32} {c d : Int} (lo hi : Int) (e : z = x &&& y) (hx : jv c d x) (hh : 0 ≤ c ∧ lo ≤ 0 ∧ d ≤ hi) : jv lo hi z := jv_and lo hi (e.trans (Int32.and_comm x y)) hx hh
theorem jv_max {x y z : Int32} {a b c d : Int} (lo hi : Int) (e : z = if x < y then y else x) (hx : jv a b x) (hy : jv c d y) (hh : (lo ≤ a ∨ lo ≤ c) ∧ b ≤ hi ∧ d ≤ hi) : jv lo hi z := by
  subst e
  unfold jv at *
  split
  · rename_i h
    have := Int32.lt_iff_toInt_lt.mp h
    omega
  · rename_i h
    have := Int32.le_iff_toInt_le.mp (Int32.not_lt.mp h)
    omega
theorem jv_min {x y z : Int32} {a b c d : Int} (lo hi : Int) (e : z = if y < x then y else x) (hx : jv a b x) (hy : jv c d y) (hh : lo ≤ a ∧ lo ≤ c ∧ (b ≤ hi ∨ d ≤ hi)) : jv lo hi z := by
  subst e
  unfold jv at *
  split
  · rename_i h
    have := Int32.lt_iff_toInt_lt.mp h
    omega
  · rename_i h
    have := Int32.le_iff_toInt_le.mp (Int32.not_lt.mp h)
    omega
theorem jv_abs {x z : Int32} {a b : Int} (lo hi : Int) (e : z = if 0 ≤ x then x else 0 - x) (hx : jv a b x) (hh : -2147483647 ≤ a ∧ lo ≤ 0 ∧ b ≤ hi ∧ -a ≤ hi) : jv lo hi z := by
  subst e
  unfold jv at *
  split
  · rename_i h
    have := Int32.le_iff_toInt_le.mp h
    rw [Int32.toInt_zero] at this
    omega
  · rename_i h
    have := Int32.lt_iff_toInt_lt.mp (Int32.not_le.mp h)
    rw [Int32.toInt_zero] at this
    rw [Int32.toInt_sub, Int32.toInt_zero, g_bm (by omega) (by omega)]
    omega
/-- comparisons, as whole numbers -/
theorem gc_lt {x y : Int32} (h : x < y) : x.toInt < y.toInt := Int32.lt_iff_toInt_lt.mp h
theorem gc_nlt {x y : Int32} (h : ¬ x < y) : y.toInt ≤ x.toInt := Int32.le_iff_toInt_le.mp (Int32.not_lt.mp h)
theorem gc_le {x y : Int32} (h : x ≤ y) : x.toInt ≤ y.toInt := Int32.le_iff_toInt_le.mp h
theorem gc_nle {x y : Int32} (h : ¬ x ≤ y) : y.toInt < x.toInt := Int32.lt_iff_toInt_lt.mp (Int32.not_le.mp h)
theorem gc_eq {x y : Int32} (h : x = y) : x.toInt = y.toInt := congrArg Int32.toInt h
theorem gc_ne {x y : Int32} (h : ¬ x = y) : ¬ x.toInt = y.toInt := fun e => h (Int32.toInt_inj.mp e)
/-- an interval drawn closer: by what was found of the two -/
theorem gn_lt {x y : Int32} {a b c d : Int} (lo hi : Int) (h : x.toInt < y.toInt) (hx : jv a b x) (hy : jv c d y) (hh : lo ≤ a ∧ (d - 1 ≤ hi ∨ b ≤ hi)) : jv lo hi x := by
  unfold jv at *
  omega
theorem gn_gt {x y : Int32} {a b c d : Int} (lo hi : Int) (h : y.toInt < x.toInt) (hx : jv a b x) (hy : jv c d y) (hh : (lo ≤ c + 1 ∨ lo ≤ a) ∧ b ≤ hi) : jv lo hi x := by
  unfold jv at *
  omega
theorem gn_le {x y : Int32} {a b c d : Int} (lo hi : Int) (h : x.toInt ≤ y.toInt) (hx : jv a b x) (hy : jv c d y) (hh : lo ≤ a ∧ (d ≤ hi ∨ b ≤ hi)) : jv lo hi x := by
  unfold jv at *
  omega
theorem gn_ge {x y : Int32} {a b c d : Int} (lo hi : Int) (h : y.toInt ≤ x.toInt) (hx : jv a b x) (hy : jv c d y) (hh : (lo ≤ c ∨ lo ≤ a) ∧ b ≤ hi) : jv lo hi x := by
  unfold jv at *
  omega
theorem gn_eq {x y : Int32} {a b c d : Int} (lo hi : Int) (h : x.toInt = y.toInt) (hx : jv a b x) (hy : jv c d y) (hh : (lo ≤ c ∨ lo ≤ a) ∧ (d ≤ hi ∨ b ≤ hi)) : jv lo hi x := by
  unfold jv at *
  omega
theorem gn_neL {x y : Int32} {a b : Int} {c : Int} (lo hi : Int) (h : ¬ x.toInt = y.toInt) (hx : jv a b x) (hy : jv c c y) (hh : c = a ∧ lo ≤ a + 1 ∧ b ≤ hi) : jv lo hi x := by
  unfold jv at *
  omega
theorem gn_neH {x y : Int32} {a b : Int} {c : Int} (lo hi : Int) (h : ¬ x.toInt = y.toInt) (hx : jv a b x) (hy : jv c c y) (hh : c = b ∧ lo ≤ a ∧ b - 1 ≤ hi) : jv lo hi x := by
  unfold jv at *
  omega
theorem gf_lt {x y : Int32} {a b c d : Int} (h : x.toInt < y.toInt) (hx : jv a b x) (hy : jv c d y) (hh : d ≤ a) : False := by
  unfold jv at *
  omega
theorem gf_le {x y : Int32} {a b c d : Int} (h : x.toInt ≤ y.toInt) (hx : jv a b x) (hy : jv c d y) (hh : d < a) : False := by
  unfold jv at *
  omega
theorem gf_eq {x y : Int32} {a b c d : Int} (h : x.toInt = y.toInt) (hx : jv a b x) (hy : jv c d y) (hh : d < a ∨ b < c) : False := by
  unfold jv at *
  omega
theorem gf_ne {x y : Int32} {a c : Int} (h : ¬ x.toInt = y.toInt) (hx : jv a a x) (hy : jv c c y) (hh : a = c) : False := by
  unfold jv at *
  omega
theorem gi_in {v a b x : Int32} {A B : Int} (e : x = g_in v a b) (h : ¬ x = 0) (ha : a.toInt = A) (hb : b.toInt = B) : jv A B v := by
  subst e
  unfold g_in at h
  split at h
  · rename_i q
    have q1 := gc_le q.1
    have q2 := gc_le q.2
    unfold jv
    omega
  · exact absurd rfl h
theorem gi_01 (v a b : Int32) : jv 0 1 (g_in v a b) := by
  rcases g_in_01 v a b with h | h <;> rw [h] <;> exact ⟨by decide, by decide⟩
theorem jv_ix {x : Int32} {a b : Int} (n : Nat) (h : jv a b x) (hh : 0 ≤ a ∧ b < n) : vp_in x n := by
  rw [vp_in_iff]
  unfold jv at h
  omega
theorem jv_cl {x : Int32} {a b : Int} (n : Nat) (h : jv a b x) (hh : 0 ≤ a ∧ b < n) : x.toNatClampNeg < n := by
  unfold jv at h
  have : x.toNatClampNeg = x.toInt.toNat := rfl
  omega
theorem g_narb {x : Int32} (h : jv 0 1 x) : narrow .boolean (.int x) = .int x := by
  have h1 : x = 0 ∨ x = 1 := by
    unfold jv at h
    have e0 : x.toInt = (0 : Int32).toInt → x = 0 := fun q => Int32.toInt_inj.mp q
    have e1 : x.toInt = (1 : Int32).toInt → x = 1 := fun q => Int32.toInt_inj.mp q
    rw [Int32.toInt_zero] at e0
    rw [show (1 : Int32).toInt = 1 from rfl] at e1
    have h2 : x.toInt = 0 ∨ x.toInt = 1 := by omega
    exact h2.imp e0 e1
  rcases h1 with h1 | h1 <;> rw [h1] <;> rfl
theorem g_fitb {x : Int32} (h : jv 0 1 x) : fits .boolean (.int x) = true := by
  have h1 : x = 0 ∨ x = 1 := by
    unfold jv at h
    have e0 : x.toInt = (0 : Int32).toInt → x = 0 := fun q => Int32.toInt_inj.mp q
    have e1 : x.toInt = (1 : Int32).toInt → x = 1 := fun q => Int32.toInt_inj.mp q
    rw [Int32.toInt_zero] at e0
    rw [show (1 : Int32).toInt = 1 from rfl] at e1
    have h2 : x.toInt = 0 ∨ x.toInt = 1 := by omega
    exact h2.imp e0 e1
  rcases h1 with h1 | h1 <;> rw [h1] <;> rfl
theorem g_nz0 {y : Int32} {c d : Int} (hy : jv c d y) (hh : 0 < c ∨ d < 0) : ¬ y = 0 := by
  intro e
  subst e
  unfold jv at hy
  rw [Int32.toInt_zero] at hy
  omega
/-- numbers' and rows' bounds -/
def g_ok (L : List (Nat × Int × Int)) (F : Nat → Int32) : Prop := ∀ q ∈ L, jv q.2.1 q.2.2 (F q.1)
theorem g_us {F : Nat → Int32} {k : Nat} {v : Int32} : upd F k v k = v := by
  unfold upd
  rw [if_pos rfl]
theorem g_un {F : Nat → Int32} {k j : Nat} {v : Int32} (h : (k != j) = true) : upd F k v j = F j := by
  unfold upd
  rw [if_neg]
  intro e
  subst e
  simp at h
theorem g_ok_g {L : List (Nat × Int × Int)} {F : Nat → Int32} (h : g_ok L F) (i : Nat) {k : Nat} {a b : Int} (hi : L[i]? = some (k, a, b)) : jv a b (F k) := h (k, a, b) (List.mem_of_getElem? hi)
theorem g_ok_u {L : List (Nat × Int × Int)} {F : Nat → Int32} {k : Nat} {v : Int32} (h : g_ok L F) (hk : L.all (fun q => k != q.1) = true) : g_ok L (upd F k v) := by
  intro q hq
  rw [g_un (List.all_eq_true.mp hk q hq)]
  exact h q hq
theorem g_ok_p {L : List (Nat × Int × Int)} {F : Nat → Int32} {k : Nat} {v : Int32} {a b : Int} (h : g_ok L F) (hv : jv a b v) (hk : L.all (fun q => k != q.1 || (decide (q.2.1 ≤ a) && decide (b ≤ q.2.2))) = true) : g_ok L (upd F k v) := by
  intro q hq
  have h1 := List.all_eq_true.mp hk q hq
  simp only [Bool.or_eq_true, Bool.and_eq_true, decide_eq_true_eq] at h1
  by_cases e : k = q.1
  · rw [← e, g_us]
    rcases h1 with h1 | h1
    · rw [e] at h1
      simp at h1
    · exact jv_w hv h1
  · rw [g_un (by simpa using e)]
    exact h q hq
def g_okR (L : List (Nat × Nat × Int × Int)) (R : Nat → Nat → Int32) : Prop := ∀ q ∈ L, ∀ j, j < q.2.1 → jv q.2.2.1 q.2.2.2 (R q.1 j)
theorem g_uus {R : Nat → Nat → Int32} {k : Nat} {f : Nat → Int32} : g_u R k f k = f := by
  unfold g_u
  rw [if_pos rfl]
theorem g_uun {R : Nat → Nat → Int32} {k j : Nat} {f : Nat → Int32} (h : (k != j) = true) : g_u R k f j = R j := by
  unfold g_u
  rw [if_neg]
  intro e
  subst e
  simp at h
theorem g_okR_g {L : List (Nat × Nat × Int × Int)} {R : Nat → Nat → Int32} (h : g_okR L R) (i : Nat) {k n : Nat} {a b : Int} (hi : L[i]? = some (k, n, a, b)) {j : Nat} (hj : j < n) : jv a b (R k j) := h (k, n, a, b) (List.mem_of_getElem? hi) j hj
theorem g_okR_u {L : List (Nat × Nat × Int × Int)} {R : Nat → Nat → Int32} {k : Nat} {f : Nat → Int32} (h : g_okR L R) (hk : L.all (fun q => k != q.1) = true) : g_okR L (g_u R k f) := by
  intro q hq
  rw [g_uun (List.all_eq_true.mp hk q hq)]
  exact h q hq
theorem g_okR_p {L : List (Nat × Nat × Int × Int)} {R : Nat → Nat → Int32} {k i : Nat} {v : Int32} {a b : Int} (h : g_okR L R) (hv : jv a b v) (hk : L.all (fun q => k != q.1 || (decide (q.2.2.1 ≤ a) && decide (b ≤ q.2.2.2))) = true) : g_okR L (g_u R k (upd (R k) i v)) := by
  intro q hq j hj
  have h1 := List.all_eq_true.mp hk q hq
  simp only [Bool.or_eq_true, Bool.and_eq_true, decide_eq_true_eq] at h1
  by_cases e : k = q.1
  · rw [← e, g_uus]
    rcases h1 with h1 | h1
    · rw [e] at h1
      simp at h1
    · by_cases e2 : i = j
      · subst e2
        rw [g_us]
        exact jv_w hv h1
      · rw [g_un (by simpa using e2), e]
        exact h q hq j hj
  · rw [g_uun (by simpa using e)]
    exact h q hq j hj
/-- what may have changed -/
def g_fr {α : Type} (M : List Nat) (F G : Nat → α) : Prop := ∀ k, M.contains k = false → G k = F k
theorem g_fr_rf {α : Type} {M : List Nat} (F : Nat → α) : g_fr M F F := fun _ _ => rfl
theorem g_fr_u {M : List Nat} {F G : Nat → Int32} {k : Nat} {v : Int32} (h : g_fr M F G) (hk : M.contains k = true) : g_fr M F (upd G k v) := by
  intro j hj
  rw [g_un (by
    rw [bne_iff_ne]
    intro e
    subst e
    rw [hk] at hj
    cases hj)]
  exact h j hj
theorem g_fr_r {M : List Nat} {F G : Nat → Nat → Int32} {k : Nat} {v : Nat → Int32} (h : g_fr M F G) (hk : M.contains k = true) : g_fr M F (g_u G k v) := by
  intro j hj
  rw [g_uun (by
    rw [bne_iff_ne]
    intro e
    subst e
    rw [hk] at hj
    cases hj)]
  exact h j hj
theorem g_fr_c {α : Type} {M N : List Nat} {F G H : Nat → α} (h : g_fr M F G) (h2 : g_fr N G H) (hk : N.all (fun k => M.contains k) = true) : g_fr M F H := by
  intro j hj
  refine (h2 j ?_).trans (h j hj)
  cases hc : N.contains j with
  | false => rfl
  | true =>
    have h3 := List.all_eq_true.mp hk j (List.contains_iff_mem.mp hc)
    rw [hj] at h3
    cases h3
theorem g_fr_m {α : Type} {M N : List Nat} {F G : Nat → α} (h : g_fr N F G) (hk : N.all (fun k => M.contains k) = true) : g_fr M F G := g_fr_c (g_fr_rf F) h hk
theorem g_pu1 {F G : Nat → Int32} {k : Nat} {v : Int32} (h : G = upd F k v) : G k = v := by rw [h, g_us]
theorem g_pu2 {F G : Nat → Int32} {k j : Nat} {v : Int32} (h : G = upd F k v) (hk : (k != j) = true) : G j = F j := by rw [h, g_un hk]
theorem jv_i {x : Int32} {a b c d : Int} (lo hi : Int) (h1 : jv a b x) (h2 : jv c d x) (hh : (lo ≤ a ∨ lo ≤ c) ∧ (b ≤ hi ∨ d ≤ hi)) : jv lo hi x := by
  unfold jv at *
  omega
theorem g_eq0 {a b : Int} (h : g_eqs a b) : a = b := h
theorem g_em {a b c d : Int} (h : g_eqs a (b * c)) (e : c = d) : a = b * d := e ▸ h
theorem g_em2 {a b c d : Int} (h : g_eqs a (c * b)) (e : c = d) : a = d * b := e ▸ h
theorem g_ed {a b c d : Int} (h : g_eqs a (b / c)) (e : c = d) : a = b / d := e ▸ h
theorem g_er {a b c d : Int} (h : g_eqs a (b % c)) (e : c = d) : a = b % d := e ▸ h
theorem g_sw (lo hi : Int) (x : Int32) : (∃ n : Nat, lo + n ≤ hi ∧ x.toInt = lo + n) ∨ (x.toInt < lo ∨ hi < x.toInt) := by
  by_cases h0 : x.toInt < lo
  · exact Or.inr (Or.inl h0)
  by_cases h1 : hi < x.toInt
  · exact Or.inr (Or.inr h1)
  exact Or.inl ⟨(x.toInt - lo).toNat, by omega, by omega⟩
theorem gf_sw {x y : Int32} {a b c : Int} (h : y.toInt = c) (hx : jv a b x) (e : y = x) (hh : c < a ∨ b < c) : False := by
  subst e
  unfold jv at hx
  omega
theorem gf_so {x y : Int32} {a b lo hi : Int} (h : y.toInt < lo ∨ hi < y.toInt) (hx : jv a b x) (e : y = x) (hh : lo ≤ a ∧ b ≤ hi) : False := by
  subst e
  unfold jv at hx
  omega
theorem jv_so {x y : Int32} {a b lo hi : Int} (c d : Int) (h : y.toInt < lo ∨ hi < y.toInt) (hx : jv a b x) (e : y = x) (hh : lo ≤ a ∧ c ≤ hi + 1 ∧ b ≤ d) : jv c d x := by
  subst e
  unfold jv at *
  omega
theorem g_max1 {x y z : Int32} (e : z = if x < y then y else x) : x.toInt ≤ z.toInt := by
  subst e
  split
  · rename_i h
    have := gc_lt h
    omega
  · exact Int.le_refl _
theorem g_max2 {x y z : Int32} (e : z = if x < y then y else x) : y.toInt ≤ z.toInt := by
  subst e
  split
  · exact Int.le_refl _
  · rename_i h
    exact gc_nlt h
theorem g_min1 {x y z : Int32} (e : z = if y < x then y else x) : z.toInt ≤ x.toInt := by
  subst e
  split
  · rename_i h
    have := gc_lt h
    omega
  · exact Int.le_refl _
theorem g_min2 {x y z : Int32} (e : z = if y < x then y else x) : z.toInt ≤ y.toInt := by
  subst e
  split
  · exact Int.le_refl _
  · rename_i h
    exact gc_nlt h
/-- a place that goes up till it is outside of 0 .. 255 -/
def g_mz (x : Int32) : Nat := if 0 ≤ x.toInt ∧ x.toInt ≤ 255 then (256 - x.toInt).toNat else 0
theorem g_mz_lt {x m y : Int32} {a b : Int} (hx : jv a b x) (e : y = m + 1) (h : x.toInt ≤ m.toInt) (hh : 0 ≤ a ∧ b ≤ 255 := by decide) : g_mz y < g_mz x := by
  unfold jv at hx
  have hm := Int32.toInt_lt m
  have hx2 : g_mz x = (256 - x.toInt).toNat := if_pos (by omega)
  rw [hx2]
  subst e
  unfold g_mz
  by_cases hq : m.toInt + 1 ≤ 2147483647
  · have e1 : (m + 1).toInt = m.toInt + 1 := by
      have h1 := Int32.le_toInt m
      rw [Int32.toInt_add, show (1 : Int32).toInt = 1 from rfl, g_bm (by omega) hq]
    rw [e1]
    split <;> omega
  · have e1 : (m + 1).toInt = -2147483648 := by
      have h1 : m.toInt = 2147483647 := by omega
      rw [Int32.toInt_add, show (1 : Int32).toInt = 1 from rfl, h1]
      rfl
    rw [e1]
    split <;> omega
theorem g_tvL (k : Nat) : jv 0 1 (g_least.getD k 0) := by
  match k with
  | 0 | 1 | 2 | 3 | 4 | 5 => exact ⟨by decide, by decide⟩
  | k + 6 => exact (jv_w (jv_k (x := (0 : Int32)) 0 (by decide)) (by decide) : jv 0 1 0)
theorem g_tvM (k : Nat) : jv 0 999 (g_most.getD k 0) := by
  match k with
  | 0 | 1 | 2 | 3 | 4 | 5 => exact ⟨by decide, by decide⟩
  | k + 6 => exact (jv_w (jv_k (x := (0 : Int32)) 0 (by decide)) (by decide) : jv 0 999 0)
/-! ===== a method's answer as a pure text: what is named, what is called ===== -/
def k_lt {α β : Type} (e : α) (f : α → β) : β := f e
def k_lt2 {α β γ : Type} (p : α × β) (f : α → β → γ) : γ := f p.1 p.2
def k_lt3 {α β δ γ : Type} (p : α × β × δ) (f : α → β → δ → γ) : γ := f p.1 p.2.1 p.2.2
theorem k_ls {α β : Type} {s : β} {e x : α} {f : α → β} (h : s = k_lt e f) (q : x = e) : s = f x := by
  subst q
  exact h
theorem k_ls2 {α β γ : Type} {s : γ} {p : α × β} {x : α} {y : β} {f : α → β → γ} (h : s = k_lt2 p f) (q : (x, y) = p) : s = f x y := by
  subst q
  exact h
theorem k_ls3 {α β δ γ : Type} {s : γ} {p : α × β × δ} {x : α} {y : β} {z : δ} {f : α → β → δ → γ} (h : s = k_lt3 p f) (q : (x, y, z) = p) : s = f x y z := by
  subst q
  exact h
def g_hasv (x k : Int32) : Int32 := if (x >>> (k &&& 31)) &&& 1 = 1 then 1 else 0
