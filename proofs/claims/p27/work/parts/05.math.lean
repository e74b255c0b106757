section GM
variable {X : gX} {E : gE} {nL k n : Nat} {l : Launch} {R : Room} {cc : ByteArray} {own : String} {ini : Prop} {ws : va_W} {lv : List (Nat × Value)} {pc pc' idx : Nat} {st : List Value}
theorem g_mmax (cx : g_cx X E nL l R cc own ini) {x y : Int32} (hw : Cond.methodLink own idx Lib.Math.max.name ∈ gT) (hd : g_dc cc pc (.invokestatic idx) 3 pc') (hR : 1 ≤ R.frames ∧ (st.map fun v => v.category).sum + 13 ≤ R.locals) (hk : k ≤ R.cells ∧ n ≤ R.slots) (kk : G X E nL k n ws lv pc' (.int (if x < y then y else x) :: st)) : G X E nL k n ws lv pc (.int y :: .int x :: st) := by
  obtain ⟨p, e, s, args, below, meth, c, Q, hE, hx, hb, hml, hown, hts, hK, hN, hG, hA, hini⟩ := cx
  obtain ⟨hd, rfl⟩ := hd
  intro H locs ls hP hD hS hl0
  have k1 := kk H locs ls hP hD hS hl0
  rw [hE] at k1 ⊢
  exact va_mmax hx hb (hml.trans hl0.1.symm) hown (hts _ hw) (hts _ km_max.1) (hts _ km_ini) (hts _ km_max.2) hR.1 hR.2 hk.1 hk.2 hd k1
theorem g_mmin (cx : g_cx X E nL l R cc own ini) {x y : Int32} (hw : Cond.methodLink own idx Lib.Math.min.name ∈ gT) (hd : g_dc cc pc (.invokestatic idx) 3 pc') (hR : 1 ≤ R.frames ∧ (st.map fun v => v.category).sum + 13 ≤ R.locals) (hk : k ≤ R.cells ∧ n ≤ R.slots) (kk : G X E nL k n ws lv pc' (.int (if y < x then y else x) :: st)) : G X E nL k n ws lv pc (.int y :: .int x :: st) := by
  obtain ⟨p, e, s, args, below, meth, c, Q, hE, hx, hb, hml, hown, hts, hK, hN, hG, hA, hini⟩ := cx
  obtain ⟨hd, rfl⟩ := hd
  intro H locs ls hP hD hS hl0
  have k1 := kk H locs ls hP hD hS hl0
  rw [hE] at k1 ⊢
  exact va_mmin hx hb (hml.trans hl0.1.symm) hown (hts _ hw) (hts _ km_min.1) (hts _ km_ini) (hts _ km_min.2) hR.1 hR.2 hk.1 hk.2 hd k1
theorem g_mabs (cx : g_cx X E nL l R cc own ini) {x : Int32} (hw : Cond.methodLink own idx Lib.Math.abs.name ∈ gT) (hd : g_dc cc pc (.invokestatic idx) 3 pc') (hR : 1 ≤ R.frames ∧ (st.map fun v => v.category).sum + 13 ≤ R.locals) (hk : k ≤ R.cells ∧ n ≤ R.slots) (kk : G X E nL k n ws lv pc' (.int (if 0 ≤ x then x else 0 - x) :: st)) : G X E nL k n ws lv pc (.int x :: st) := by
  obtain ⟨p, e, s, args, below, meth, c, Q, hE, hx, hb, hml, hown, hts, hK, hN, hG, hA, hini⟩ := cx
  obtain ⟨hd, rfl⟩ := hd
  intro H locs ls hP hD hS hl0
  have k1 := kk H locs ls hP hD hS hl0
  rw [hE] at k1 ⊢
  exact va_mabs hx hb (hml.trans hl0.1.symm) hown (hts _ hw) (hts _ km_abs.1) (hts _ km_ini) (hts _ km_abs.2) hR.1 hR.2 hk.1 hk.2 hd k1
/-- System.arraycopy of a whole int array's first places -/
theorem g_copy (cx : g_cx X E nL l R cc own ini) (q0 q1 : Nat) {a0 a n0 n1 : Nat} {f g : Nat → Int32} {z : Int32} (ws' : va_W) (hw : Cond.methodLink own idx arraycopyName ∈ gT) (hd : g_dc cc pc (.invokestatic idx) 3 pc') (ha0 : ws[q0]? = some (a0, .inl (X.2.1, n0, .inl f))) (ha1 : ws[q1]? = some (a, .inl (X.2.1, n1, .inl g))) (h3 : ¬ z < 0) (h4 : z.toNatClampNeg ≤ n0) (h5 : z.toNatClampNeg ≤ n1) (hR : 1 ≤ R.frames ∧ (st.map fun v => v.category).sum + (nativeFrameWords "java/lang/System" "arraycopy" 5 + 11) ≤ R.locals)
    (hws : ws.set q1 (a, .inl (X.2.1, n1, .inl (va_cpy f g 0 0 z.toNatClampNeg))) = ws') (kk : G X E nL k n ws' lv pc' st) : G X E nL k n ws lv pc (.int z :: .int 0 :: .ref a :: .int 0 :: .ref a0 :: st) := by
  obtain ⟨p, e, s, args, below, meth, c, Q, hE, hx, hb, hml, hown, hts, hK, hN, hG, hA, hini⟩ := cx
  obtain ⟨hd, rfl⟩ := hd
  intro H locs ls hP hD hS hl0
  rw [hE]
  have z0 : (0 : Int32).toNatClampNeg = 0 := by decide
  refine va_copyi hx hb (hml.trans hl0.1.symm) hown (hts _ hw) (hts _ ks_copy.1) (hts _ ks_copy.2.1) (hts _ ks_copy.2.2) hK hP hD hS q0 q1 0 0 ha0 ha1 rfl rfl rfl (by decide) (by decide) h3 (by rw [z0, Nat.zero_add]; exact h4) (by rw [z0, Nat.zero_add]; exact h5) (fun i _ => rfl) hR.1 hR.2 hd (fun H1 locs1 hP1 hD1 hS1 => ?_)
  rw [z0] at hP1 hD1
  rw [hws] at hP1 hD1
  have k1 := kk H1 locs1 ls hP1 hD1 hS1 hl0
  rw [hE] at k1
  exact k1
end GM
