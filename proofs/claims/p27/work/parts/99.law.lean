/-! THE CLAIM OUT OF ONE WALK OF THE LAW'S BODY. Your part is whole_start (and what it stands on); all else here is the same for every law, but numbers. -/
def R_law : String := "ClothPullLaw"
def lw_P (b : Addr) (xs : List Int32) (args : Array Value) (s : State) : Prop := args = #[.ref b] ∧ s.IntsAt b xs ∧ xs.length ≤ 3584 ∧ (Jvm.Cond.and given_1 narrow_1).before args s = true
def lw_Q (_ : Array Value) (s : State) (o : Outcome) (t : State) : Prop := o = .returned (some (.int 1)) ∧ Framed s o t [] 600000 7302250
def lw_Z (below : List Frame) (a : Array Value) (s : State) : State → Prop := fun t => ∃ o, t.status = .running ∧ Ended t below o ∧ lw_Q a s o t
/-- the law's own end, with 1 on the stack, nothing written that was there before, its room as the claim has it -/
theorem lw_ret {p : Program} {l : Launch} {e : Env} {s : State} {m : MethodId} {below : List Frame} {meth : Method} {c : Code} {b : Nat} (hx : p.tables.exec = Jvm.exec) (hb : c.code = code) (hr : meth.sig.returnType = ret) (hlocks : meth.locks = false) {pc : Nat} {H : Heap} {ls : Array Slot} (hdg : decode code pc = .ok (.ireturn, 1)) : W p l e room_1 s m #[Value.ref b] below meth c H [] 600000 7302250 (lw_Z below #[Value.ref b] s) (F0 m pc ls [.int 1]) := by
  intro T hT X
  obtain ⟨fs, hret, hrun, hended, hW, hframe⟩ := X.leave (v := some (.int 1)) (hlocks := hlocks) (fun h => by rw [hr] at h; cases h)
  have hmeth' : T.vm.method? m = some meth := X.method'
  refine ⟨T.setFrames fs, ?_, .returned (some (.int 1)), hrun, hended, rfl, ⟨_, rfl⟩, hW, hframe⟩
  jvm_step X.here [X.here.top, hx, hb, hdg, hmeth', hr, ret, narrow_b1]
  (try refine ⟨rfl, ?_⟩); (try refine ⟨rfl, ?_⟩)
  first | (intro acts; rw [hret _ acts rfl rfl rfl]) | rw [hret _ _ rfl rfl rfl]
  exact Steps.refl _
/-- what holds at the law's entry: the machine, the code, the tables' words (any of lw_tbl by 'hts w (by decide +kernel)'), the script of L ints xs at the cell b, what the Statement gives of the start (any of its parts by flat_of_before) -/
def lw_At (p : Program) (s : State) (m : MethodId) (meth : Method) (c : Code) (b L : Nat) (xs : Nat → Int32) : Prop :=
  p.tables.exec = Jvm.exec ∧ c.code = code ∧ meth.sig.returnType = ret ∧ c.maxLocals = 4 ∧ s.vm.findClass R_law = some m.cls ∧ (∀ w ∈ lw_tbl, w.before #[Value.ref b] s = true) ∧ va_X b L xs s s.heap ∧ b < s.heap.size ∧ meth.locks = false ∧ (Jvm.Cond.and given_1 narrow_1).before #[Value.ref b] s = true
theorem g_appl (wc wr : va_W) : (List.range wc.length).map (fun i => (wc ++ wr)[i]?) = wc.map some := by
  rw [← g_all wc]
  apply List.map_congr_left
  intro i hi
  rw [List.getElem?_append_left (List.mem_range.mp hi)]
theorem g_appr (wc wr : va_W) : ((List.range wr.length).map (· + wc.length)).map (fun i => (wc ++ wr)[i]?) = wr.map some := by
  rw [← g_all wr, List.map_map]
  apply List.map_congr_left
  intro i hi
  show (wc ++ wr)[i + wc.length]? = _
  rw [List.getElem?_append_right (by omega), Nat.add_sub_cancel]
theorem g_nda (n k : Nat) : va_nd ((List.range n).map (· + k)) = true := by
  refine g_nd_of _ (List.nodup_range.map _ ?_)
  intro a b hab h
  exact hab (by omega)
section GCH
variable {X : gX} {E : gE} {nL k n : Nat} {l : Launch} {R : Room} {cc : ByteArray} {own : String} {ini : Prop} {ws : va_W} {lv : List (Nat × Value)} {pc pc' : Nat} {st0 : List Value}
variable {y : MethodName} {b : ByteArray} {ml d mc ms idx : Nat} {wc : va_W}
theorem g_cViH {wr : va_W} {ret : Option FieldType} {post : Int32 → va_W → Prop} (cx : g_cx X E nL l R cc own ini) (As st : List Value) {a : Nat} (hM : g_Ci l X y b ml ret d mc ms (.ref a :: As) wc post) (hw : Cond.methodLink own idx y ∈ gT) (hy : g_yV y b ml ret As.length) (hd : g_dc cc pc (.invokevirtual idx) 3 pc') (hR : g_rr R d ml) (hf : k + mc ≤ R.cells ∧ n + ms ≤ R.slots) (q0 : Nat) {ci : Nat} {fs : List Value} {T : u_T} {N : Nat} (he : wc[q0]? = some (a, .inr (ci, fs))) (hc : vwCl[ci]? = some (y.cls, T, N)) (hws : ws = wc ++ wr) (hst : st0 = As.reverse ++ .ref a :: st) (hW : (st.map fun v => v.category).sum ≤ 8)
    (kk : ∀ r w, post r w → G X E nL (k + mc) (n + ms) (wr ++ w) lv pc' (.int r :: st)) : G X E nL k n ws lv pc st0 := by
  obtain ⟨p, e, s, args, below, meth, c, Q, hE, hx, hb, hml, hown, hts, hK, hN, hG, hA, hini⟩ := cx
  obtain ⟨hd, rfl⟩ := hd
  subst hst
  subst hws
  intro H locs ls hP hD hS hl
  rw [hE]
  have hC := g_appl wc wr
  have hPc : va_P X.1.1 vwCl wc H := g_P_of hC hP
  have hDc := hD.sub _ (g_ndr _) hC
  have hFc := va_free (wc := wc) hD hS hA (List.range wc.length) hC
  have hgood : GoodIn gT (wsV own idx y.cls y (gW y b ml ret)) := g_good (fun w h => by
    simp only [wsV, gW, List.mem_append, List.mem_cons, List.not_mem_nil, or_false] at h
    rcases h with (rfl | rfl | rfl | rfl) | rfl | h
    · exact hw
    · exact hy.1
    · exact hy.2.1
    · exact hy.2.2.1
    · exact hy.2.2.2.1
    · exact h)
  refine va_calli (va_runV (As := As) (rest := st) ⟨hx, hb, hml, hown, hts⟩ (hM H.size) (cwV As.length hts hgood rfl rfl rfl ⟨rfl, hy.2.2.2.2⟩ hR) ⟨g_pc_ok, va_recv hK hPc hc he, fun U hU hW => ⟨rfl, by rw [hU], by rw [hU]; exact hPc, va_K.moved hW.alike hK, hDc.weaken (fun _ _ _ _ => trivial), g_nf_warm hW hN, g_gl_call hG.2 hS hFc hU hW⟩⟩ rfl rfl hl.1 rfl (lv_room hW) hd hf) hS (fun q _ h => hFc q h) hFc (fun r w t H1 locs1 ht hvm hp hB hz hk1 hS1 => ?_)
  obtain ⟨hP1, hD1⟩ := hB
  rw [ht] at hP1
  obtain ⟨hP2, hD2⟩ := va_join hP hD (List.range wc.length) ((List.range wr.length).map (· + wc.length)) hC (g_appr wc wr) (g_nda _ _) (fun i hi q => by
    obtain ⟨j, -, rfl⟩ := List.mem_map.mp hi
    have := List.mem_range.mp q
    omega) hk1 hFc hP1 hD1
  have k1 := kk r w hp H1 locs1 ls hP2 hD2 hS1 hl
  rw [hE] at k1
  exact k1
end GCH
section GLAW
def g_cxs (X : gX) (E : gE) (nL : Nat) (l : Launch) (R : Room) (cc : ByteArray) (own : String) (b L : Nat) (xs : Nat → Int32) : Prop :=
  ∃ (p : Program) (e : Env) (s : State) (args : Array Value) (below : List Frame) (meth : Method) (c : Code) (Q : State → Prop),
    E.1 = (fun H locs k n g => W p l e R s E.2.1 args below meth c H locs k n Q g) ∧ p.tables.exec = Jvm.exec ∧ c.code = cc ∧ va_X b L xs s E.2.2.2 ∧ b < E.2.2.2.size ∧ ¬ E.2.2.1 b
variable {X : gX} {E : gE} {nL k n : Nat} {l : Launch} {R : Room} {cc : ByteArray} {own : String} {ws : va_W} {lv : List (Nat × Value)} {pc pc' : Nat} {st : List Value} {b L : Nat} {xs : Nat → Int32}
theorem g_sld (cx : g_cxs X E nL l R cc own b L xs) {i : Int32} (hd : g_dc cc pc .iaload 1 pc') (hin : vp_in i L) (kk : G X E nL k n ws lv pc' (.int (xs i.toNatClampNeg) :: st)) : G X E nL k n ws lv pc (.int i :: .ref b :: st) := by
  obtain ⟨p, e, s, args, below, meth, c, Q, hE, hx, hb, hX, hbl, hbA⟩ := cx
  obtain ⟨hd, rfl⟩ := hd
  intro H locs ls hP hD hS hl0
  have k1 := kk H locs ls hP hD hS hl0
  rw [hE] at k1 ⊢
  exact va_sld hx hb hX hbl hbA hS hin hd k1
theorem g_slen (cx : g_cxs X E nL l R cc own b L xs) (hd : g_dc cc pc .arraylength 1 pc') (kk : G X E nL k n ws lv pc' (.int (Int32.ofNat L) :: st)) : G X E nL k n ws lv pc (.ref b :: st) := by
  obtain ⟨p, e, s, args, below, meth, c, Q, hE, hx, hb, hX, hbl, hbA⟩ := cx
  obtain ⟨hd, rfl⟩ := hd
  intro H locs ls hP hD hS hl0
  have k1 := kk H locs ls hP hD hS hl0
  rw [hE] at k1 ⊢
  exact va_slen hx hb hX hbl hbA hS hd k1
end GLAW

theorem g_six {L : Nat} {i x : Int32} (k : Int32) {c : Int} (hL : L ≤ 3584) (hi : jv 0 3584 i) (hz : ¬ Int32.ofNat L - 7 < i) (ex : x = i + k) (hk : k.toInt = c) (hc : 0 ≤ c ∧ c ≤ 6) : vp_in x L := by
  have h1 := gc_nlt hz
  have h2 : (Int32.ofNat L).toInt = L := nI_toInt (by omega)
  have h3 := jv_sub (x := Int32.ofNat L) (y := 7) (z := Int32.ofNat L - 7) (-7) 3577 rfl (a := 0) (b := 3584) ⟨by omega, by omega⟩ (jv_k (x := 7) 7 (by decide)) (by decide)
  have h4 := jv_add (x := i) (y := k) (z := x) 0 3590 ex hi (a := 0) (b := 3584) (c := 0) (d := 6) ⟨by omega, by omega⟩ (by decide)
  have h5 := g_eq0 h3.1
  have h6 := g_eq0 h4.1
  have h7 : (7 : Int32).toInt = 7 := rfl
  rw [vp_in_iff]
  unfold jv at hi
  omega
theorem g_six0 {L : Nat} {i : Int32} (hL : L ≤ 3584) (hi : jv 0 3584 i) (hz : ¬ Int32.ofNat L - 7 < i) : vp_in i L := g_six (x := i) 0 hL hi hz (by simp) rfl (by decide)
theorem g_sinc {L : Nat} {i x : Int32} (hL : L ≤ 3584) (hi : jv 0 3584 i) (hz : ¬ Int32.ofNat L - 7 < i) (ex : x = i + 7) : jv 0 3584 x ∧ (4000 - x.toInt).toNat < (4000 - i.toInt).toNat := by
  have h1 := gc_nlt hz
  have h2 : (Int32.ofNat L).toInt = L := nI_toInt (by omega)
  have h3 := jv_sub (x := Int32.ofNat L) (y := 7) (z := Int32.ofNat L - 7) (-7) 3577 rfl (a := 0) (b := 3584) ⟨by omega, by omega⟩ (jv_k (x := 7) 7 (by decide)) (by decide)
  have h4 := jv_add (x := i) (y := 7) (z := x) 0 3591 ex hi (jv_k (x := 7) 7 (by decide)) (by decide)
  have h5 := g_eq0 h3.1
  have h6 := g_eq0 h4.1
  have h7 : (7 : Int32).toInt = 7 := rfl
  unfold jv at *
  omega
theorem g_ok_of {L : List (Nat × Int × Int)} {F : Nat → Int32} (h : L.all (fun q => decide (q.2.1 ≤ (F q.1).toInt) && decide ((F q.1).toInt ≤ q.2.2)) = true) : g_ok L F := by
  intro q hq
  have h1 := List.all_eq_true.mp h q hq
  simp only [Bool.and_eq_true, decide_eq_true_eq] at h1
  exact h1
theorem g_okR_0 {L : List (Nat × Nat × Int × Int)} (h : L.all (fun q => decide (q.2.2.1 ≤ 0) && decide (0 ≤ q.2.2.2)) = true) : g_okR L r0 := by
  intro q hq j _
  have h1 := List.all_eq_true.mp h q hq
  simp only [Bool.and_eq_true, decide_eq_true_eq] at h1
  exact ⟨h1.1, h1.2⟩
theorem tab_new : UTab fX0 r0 fM0 r0 := ⟨rfl, rfl, rfl, rfl, rfl, ⟨by decide, by decide⟩, fun j hj ht => absurd ht (hb_0 hj), rfl, fun z => absurd rfl z⟩
theorem rel_new : URel fX0 r0 fM0 r0 := ⟨tab_new, UTape_0 rfl rfl, ⟨rfl, 0, Nat.zero_le _, rfl, fun q hq => absurd hq (Nat.not_lt_zero _)⟩, ⟨0, Nat.zero_le _, rfl, rfl, fun k hk => absurd hk (Nat.not_lt_zero _)⟩, ⟨⟨by decide, by decide⟩, fun z => absurd rfl z, fun j hj ht => absurd ht (hb_0 hj), fun z => absurd rfl z⟩⟩
theorem WT_new : WT fM0 r0 := ⟨fun j hj q => absurd q (hb_0 hj), fun j hj q => absurd q (hb_0 hj)⟩
theorem WC_new : WC fM0 r0 := by
  intro j h
  have : (fM0 28).toInt = 0 := rfl
  omega
theorem d_law_0 : g_dc code 0 (.new 7) 3 3 := ⟨by decide +kernel, rfl⟩
theorem d_law_3 : g_dc code 3 (.dup) 1 4 := ⟨by decide +kernel, rfl⟩
theorem d_law_4 : g_dc code 4 (.invokespecial 9) 3 7 := ⟨by decide +kernel, rfl⟩
theorem d_law_7 : g_dc code 7 (.astore_n 1) 1 8 := ⟨by decide +kernel, rfl⟩
theorem d_law_8 : g_dc code 8 (.new 10) 3 11 := ⟨by decide +kernel, rfl⟩
theorem d_law_11 : g_dc code 11 (.dup) 1 12 := ⟨by decide +kernel, rfl⟩
theorem d_law_12 : g_dc code 12 (.invokespecial 12) 3 15 := ⟨by decide +kernel, rfl⟩
theorem d_law_15 : g_dc code 15 (.astore_n 2) 1 16 := ⟨by decide +kernel, rfl⟩
theorem d_law_16 : g_dc code 16 (.iconst 0) 1 17 := ⟨by decide +kernel, rfl⟩
theorem d_law_17 : g_dc code 17 (.istore_n 3) 1 18 := ⟨by decide +kernel, rfl⟩
theorem d_law_18 : g_dc code 18 (.iload_n 3) 1 19 := ⟨by decide +kernel, rfl⟩
theorem d_law_19 : g_dc code 19 (.aload_n 0) 1 20 := ⟨by decide +kernel, rfl⟩
theorem d_law_20 : g_dc code 20 (.arraylength) 1 21 := ⟨by decide +kernel, rfl⟩
theorem d_law_21 : g_dc code 21 (.bipush 7) 2 23 := ⟨by decide +kernel, rfl⟩
theorem d_law_23 : g_dc code 23 (.isub) 1 24 := ⟨by decide +kernel, rfl⟩
theorem d_law_24 : g_dc code 24 (.if_icmp .gt 931) 3 27 := ⟨by decide +kernel, rfl⟩
theorem d_law_27 : g_dc code 27 (.aload_n 0) 1 28 := ⟨by decide +kernel, rfl⟩
theorem d_law_28 : g_dc code 28 (.iload_n 3) 1 29 := ⟨by decide +kernel, rfl⟩
theorem d_law_29 : g_dc code 29 (.iaload) 1 30 := ⟨by decide +kernel, rfl⟩
theorem d_law_30 : g_dc code 30 (.bipush 31) 2 32 := ⟨by decide +kernel, rfl⟩
theorem d_law_32 : g_dc code 32 (.iand) 1 33 := ⟨by decide +kernel, rfl⟩
theorem d_law_33 : g_dc code 33 (.tableswitch 916 0 26 #[123, 156, 179, 254, 307, 330, 393, 416, 439, 462, 485, 498, 531, 544, 567, 600, 623, 656, 679, 702, 745, 778, 821, 844, 857, 870, 893]) 123 156 := ⟨by decide +kernel, rfl⟩
theorem d_law_156 : g_dc code 156 (.aload_n 1) 1 157 := ⟨by decide +kernel, rfl⟩
theorem d_law_157 : g_dc code 157 (.aload_n 0) 1 158 := ⟨by decide +kernel, rfl⟩
theorem d_law_158 : g_dc code 158 (.iload_n 3) 1 159 := ⟨by decide +kernel, rfl⟩
theorem d_law_159 : g_dc code 159 (.iconst 1) 1 160 := ⟨by decide +kernel, rfl⟩
theorem d_law_160 : g_dc code 160 (.iadd) 1 161 := ⟨by decide +kernel, rfl⟩
theorem d_law_161 : g_dc code 161 (.iaload) 1 162 := ⟨by decide +kernel, rfl⟩
theorem d_law_162 : g_dc code 162 (.aload_n 0) 1 163 := ⟨by decide +kernel, rfl⟩
theorem d_law_163 : g_dc code 163 (.iload_n 3) 1 164 := ⟨by decide +kernel, rfl⟩
theorem d_law_164 : g_dc code 164 (.iconst 2) 1 165 := ⟨by decide +kernel, rfl⟩
theorem d_law_165 : g_dc code 165 (.iadd) 1 166 := ⟨by decide +kernel, rfl⟩
theorem d_law_166 : g_dc code 166 (.iaload) 1 167 := ⟨by decide +kernel, rfl⟩
theorem d_law_167 : g_dc code 167 (.invokevirtual 13) 3 170 := ⟨by decide +kernel, rfl⟩
theorem d_law_170 : g_dc code 170 (.pop) 1 171 := ⟨by decide +kernel, rfl⟩
theorem d_law_171 : g_dc code 171 (.aload_n 2) 1 172 := ⟨by decide +kernel, rfl⟩
theorem d_law_172 : g_dc code 172 (.aload_n 0) 1 173 := ⟨by decide +kernel, rfl⟩
theorem d_law_173 : g_dc code 173 (.iload_n 3) 1 174 := ⟨by decide +kernel, rfl⟩
theorem d_law_174 : g_dc code 174 (.iconst 1) 1 175 := ⟨by decide +kernel, rfl⟩
theorem d_law_175 : g_dc code 175 (.iadd) 1 176 := ⟨by decide +kernel, rfl⟩
theorem d_law_176 : g_dc code 176 (.iaload) 1 177 := ⟨by decide +kernel, rfl⟩
theorem d_law_177 : g_dc code 177 (.aload_n 0) 1 178 := ⟨by decide +kernel, rfl⟩
theorem d_law_178 : g_dc code 178 (.iload_n 3) 1 179 := ⟨by decide +kernel, rfl⟩
theorem d_law_179 : g_dc code 179 (.iconst 2) 1 180 := ⟨by decide +kernel, rfl⟩
theorem d_law_180 : g_dc code 180 (.iadd) 1 181 := ⟨by decide +kernel, rfl⟩
theorem d_law_181 : g_dc code 181 (.iaload) 1 182 := ⟨by decide +kernel, rfl⟩
theorem d_law_182 : g_dc code 182 (.invokevirtual 17) 3 185 := ⟨by decide +kernel, rfl⟩
theorem d_law_185 : g_dc code 185 (.pop) 1 186 := ⟨by decide +kernel, rfl⟩
theorem d_law_186 : g_dc code 186 (.goto 763) 3 189 := ⟨by decide +kernel, rfl⟩
theorem d_law_189 : g_dc code 189 (.aload_n 1) 1 190 := ⟨by decide +kernel, rfl⟩
theorem d_law_190 : g_dc code 190 (.aload_n 0) 1 191 := ⟨by decide +kernel, rfl⟩
theorem d_law_191 : g_dc code 191 (.iload_n 3) 1 192 := ⟨by decide +kernel, rfl⟩
theorem d_law_192 : g_dc code 192 (.iconst 1) 1 193 := ⟨by decide +kernel, rfl⟩
theorem d_law_193 : g_dc code 193 (.iadd) 1 194 := ⟨by decide +kernel, rfl⟩
theorem d_law_194 : g_dc code 194 (.iaload) 1 195 := ⟨by decide +kernel, rfl⟩
theorem d_law_195 : g_dc code 195 (.invokevirtual 18) 3 198 := ⟨by decide +kernel, rfl⟩
theorem d_law_198 : g_dc code 198 (.pop) 1 199 := ⟨by decide +kernel, rfl⟩
theorem d_law_199 : g_dc code 199 (.aload_n 2) 1 200 := ⟨by decide +kernel, rfl⟩
theorem d_law_200 : g_dc code 200 (.aload_n 0) 1 201 := ⟨by decide +kernel, rfl⟩
theorem d_law_201 : g_dc code 201 (.iload_n 3) 1 202 := ⟨by decide +kernel, rfl⟩
theorem d_law_202 : g_dc code 202 (.iconst 1) 1 203 := ⟨by decide +kernel, rfl⟩
theorem d_law_203 : g_dc code 203 (.iadd) 1 204 := ⟨by decide +kernel, rfl⟩
theorem d_law_204 : g_dc code 204 (.iaload) 1 205 := ⟨by decide +kernel, rfl⟩
theorem d_law_205 : g_dc code 205 (.invokevirtual 22) 3 208 := ⟨by decide +kernel, rfl⟩
theorem d_law_208 : g_dc code 208 (.pop) 1 209 := ⟨by decide +kernel, rfl⟩
theorem d_law_209 : g_dc code 209 (.goto 740) 3 212 := ⟨by decide +kernel, rfl⟩
theorem d_law_212 : g_dc code 212 (.aload_n 1) 1 213 := ⟨by decide +kernel, rfl⟩
theorem d_law_213 : g_dc code 213 (.aload_n 0) 1 214 := ⟨by decide +kernel, rfl⟩
theorem d_law_214 : g_dc code 214 (.iload_n 3) 1 215 := ⟨by decide +kernel, rfl⟩
theorem d_law_215 : g_dc code 215 (.iconst 1) 1 216 := ⟨by decide +kernel, rfl⟩
theorem d_law_216 : g_dc code 216 (.iadd) 1 217 := ⟨by decide +kernel, rfl⟩
theorem d_law_217 : g_dc code 217 (.iaload) 1 218 := ⟨by decide +kernel, rfl⟩
theorem d_law_218 : g_dc code 218 (.aload_n 0) 1 219 := ⟨by decide +kernel, rfl⟩
theorem d_law_219 : g_dc code 219 (.iload_n 3) 1 220 := ⟨by decide +kernel, rfl⟩
theorem d_law_220 : g_dc code 220 (.iconst 2) 1 221 := ⟨by decide +kernel, rfl⟩
theorem d_law_221 : g_dc code 221 (.iadd) 1 222 := ⟨by decide +kernel, rfl⟩
theorem d_law_222 : g_dc code 222 (.iaload) 1 223 := ⟨by decide +kernel, rfl⟩
theorem d_law_223 : g_dc code 223 (.aload_n 0) 1 224 := ⟨by decide +kernel, rfl⟩
theorem d_law_224 : g_dc code 224 (.iload_n 3) 1 225 := ⟨by decide +kernel, rfl⟩
theorem d_law_225 : g_dc code 225 (.iconst 3) 1 226 := ⟨by decide +kernel, rfl⟩
theorem d_law_226 : g_dc code 226 (.iadd) 1 227 := ⟨by decide +kernel, rfl⟩
theorem d_law_227 : g_dc code 227 (.iaload) 1 228 := ⟨by decide +kernel, rfl⟩
theorem d_law_228 : g_dc code 228 (.aload_n 0) 1 229 := ⟨by decide +kernel, rfl⟩
theorem d_law_229 : g_dc code 229 (.iload_n 3) 1 230 := ⟨by decide +kernel, rfl⟩
theorem d_law_230 : g_dc code 230 (.iconst 4) 1 231 := ⟨by decide +kernel, rfl⟩
theorem d_law_231 : g_dc code 231 (.iadd) 1 232 := ⟨by decide +kernel, rfl⟩
theorem d_law_232 : g_dc code 232 (.iaload) 1 233 := ⟨by decide +kernel, rfl⟩
theorem d_law_233 : g_dc code 233 (.aload_n 0) 1 234 := ⟨by decide +kernel, rfl⟩
theorem d_law_234 : g_dc code 234 (.iload_n 3) 1 235 := ⟨by decide +kernel, rfl⟩
theorem d_law_235 : g_dc code 235 (.iconst 5) 1 236 := ⟨by decide +kernel, rfl⟩
theorem d_law_236 : g_dc code 236 (.iadd) 1 237 := ⟨by decide +kernel, rfl⟩
theorem d_law_237 : g_dc code 237 (.iaload) 1 238 := ⟨by decide +kernel, rfl⟩
theorem d_law_238 : g_dc code 238 (.aload_n 0) 1 239 := ⟨by decide +kernel, rfl⟩
theorem d_law_239 : g_dc code 239 (.iload_n 3) 1 240 := ⟨by decide +kernel, rfl⟩
theorem d_law_240 : g_dc code 240 (.bipush 6) 2 242 := ⟨by decide +kernel, rfl⟩
theorem d_law_242 : g_dc code 242 (.iadd) 1 243 := ⟨by decide +kernel, rfl⟩
theorem d_law_243 : g_dc code 243 (.iaload) 1 244 := ⟨by decide +kernel, rfl⟩
theorem d_law_244 : g_dc code 244 (.invokevirtual 23) 3 247 := ⟨by decide +kernel, rfl⟩
theorem d_law_247 : g_dc code 247 (.pop) 1 248 := ⟨by decide +kernel, rfl⟩
theorem d_law_248 : g_dc code 248 (.aload_n 2) 1 249 := ⟨by decide +kernel, rfl⟩
theorem d_law_249 : g_dc code 249 (.aload_n 0) 1 250 := ⟨by decide +kernel, rfl⟩
theorem d_law_250 : g_dc code 250 (.iload_n 3) 1 251 := ⟨by decide +kernel, rfl⟩
theorem d_law_251 : g_dc code 251 (.iconst 1) 1 252 := ⟨by decide +kernel, rfl⟩
theorem d_law_252 : g_dc code 252 (.iadd) 1 253 := ⟨by decide +kernel, rfl⟩
theorem d_law_253 : g_dc code 253 (.iaload) 1 254 := ⟨by decide +kernel, rfl⟩
theorem d_law_254 : g_dc code 254 (.aload_n 0) 1 255 := ⟨by decide +kernel, rfl⟩
theorem d_law_255 : g_dc code 255 (.iload_n 3) 1 256 := ⟨by decide +kernel, rfl⟩
theorem d_law_256 : g_dc code 256 (.iconst 2) 1 257 := ⟨by decide +kernel, rfl⟩
theorem d_law_257 : g_dc code 257 (.iadd) 1 258 := ⟨by decide +kernel, rfl⟩
theorem d_law_258 : g_dc code 258 (.iaload) 1 259 := ⟨by decide +kernel, rfl⟩
theorem d_law_259 : g_dc code 259 (.aload_n 0) 1 260 := ⟨by decide +kernel, rfl⟩
theorem d_law_260 : g_dc code 260 (.iload_n 3) 1 261 := ⟨by decide +kernel, rfl⟩
theorem d_law_261 : g_dc code 261 (.iconst 3) 1 262 := ⟨by decide +kernel, rfl⟩
theorem d_law_262 : g_dc code 262 (.iadd) 1 263 := ⟨by decide +kernel, rfl⟩
theorem d_law_263 : g_dc code 263 (.iaload) 1 264 := ⟨by decide +kernel, rfl⟩
theorem d_law_264 : g_dc code 264 (.aload_n 0) 1 265 := ⟨by decide +kernel, rfl⟩
theorem d_law_265 : g_dc code 265 (.iload_n 3) 1 266 := ⟨by decide +kernel, rfl⟩
theorem d_law_266 : g_dc code 266 (.iconst 4) 1 267 := ⟨by decide +kernel, rfl⟩
theorem d_law_267 : g_dc code 267 (.iadd) 1 268 := ⟨by decide +kernel, rfl⟩
theorem d_law_268 : g_dc code 268 (.iaload) 1 269 := ⟨by decide +kernel, rfl⟩
theorem d_law_269 : g_dc code 269 (.aload_n 0) 1 270 := ⟨by decide +kernel, rfl⟩
theorem d_law_270 : g_dc code 270 (.iload_n 3) 1 271 := ⟨by decide +kernel, rfl⟩
theorem d_law_271 : g_dc code 271 (.iconst 5) 1 272 := ⟨by decide +kernel, rfl⟩
theorem d_law_272 : g_dc code 272 (.iadd) 1 273 := ⟨by decide +kernel, rfl⟩
theorem d_law_273 : g_dc code 273 (.iaload) 1 274 := ⟨by decide +kernel, rfl⟩
theorem d_law_274 : g_dc code 274 (.aload_n 0) 1 275 := ⟨by decide +kernel, rfl⟩
theorem d_law_275 : g_dc code 275 (.iload_n 3) 1 276 := ⟨by decide +kernel, rfl⟩
theorem d_law_276 : g_dc code 276 (.bipush 6) 2 278 := ⟨by decide +kernel, rfl⟩
theorem d_law_278 : g_dc code 278 (.iadd) 1 279 := ⟨by decide +kernel, rfl⟩
theorem d_law_279 : g_dc code 279 (.iaload) 1 280 := ⟨by decide +kernel, rfl⟩
theorem d_law_280 : g_dc code 280 (.invokevirtual 27) 3 283 := ⟨by decide +kernel, rfl⟩
theorem d_law_283 : g_dc code 283 (.pop) 1 284 := ⟨by decide +kernel, rfl⟩
theorem d_law_284 : g_dc code 284 (.goto 665) 3 287 := ⟨by decide +kernel, rfl⟩
theorem d_law_287 : g_dc code 287 (.aload_n 1) 1 288 := ⟨by decide +kernel, rfl⟩
theorem d_law_288 : g_dc code 288 (.aload_n 0) 1 289 := ⟨by decide +kernel, rfl⟩
theorem d_law_289 : g_dc code 289 (.iload_n 3) 1 290 := ⟨by decide +kernel, rfl⟩
theorem d_law_290 : g_dc code 290 (.iconst 1) 1 291 := ⟨by decide +kernel, rfl⟩
theorem d_law_291 : g_dc code 291 (.iadd) 1 292 := ⟨by decide +kernel, rfl⟩
theorem d_law_292 : g_dc code 292 (.iaload) 1 293 := ⟨by decide +kernel, rfl⟩
theorem d_law_293 : g_dc code 293 (.aload_n 0) 1 294 := ⟨by decide +kernel, rfl⟩
theorem d_law_294 : g_dc code 294 (.iload_n 3) 1 295 := ⟨by decide +kernel, rfl⟩
theorem d_law_295 : g_dc code 295 (.iconst 2) 1 296 := ⟨by decide +kernel, rfl⟩
theorem d_law_296 : g_dc code 296 (.iadd) 1 297 := ⟨by decide +kernel, rfl⟩
theorem d_law_297 : g_dc code 297 (.iaload) 1 298 := ⟨by decide +kernel, rfl⟩
theorem d_law_298 : g_dc code 298 (.aload_n 0) 1 299 := ⟨by decide +kernel, rfl⟩
theorem d_law_299 : g_dc code 299 (.iload_n 3) 1 300 := ⟨by decide +kernel, rfl⟩
theorem d_law_300 : g_dc code 300 (.iconst 3) 1 301 := ⟨by decide +kernel, rfl⟩
theorem d_law_301 : g_dc code 301 (.iadd) 1 302 := ⟨by decide +kernel, rfl⟩
theorem d_law_302 : g_dc code 302 (.iaload) 1 303 := ⟨by decide +kernel, rfl⟩
theorem d_law_303 : g_dc code 303 (.aload_n 0) 1 304 := ⟨by decide +kernel, rfl⟩
theorem d_law_304 : g_dc code 304 (.iload_n 3) 1 305 := ⟨by decide +kernel, rfl⟩
theorem d_law_305 : g_dc code 305 (.iconst 4) 1 306 := ⟨by decide +kernel, rfl⟩
theorem d_law_306 : g_dc code 306 (.iadd) 1 307 := ⟨by decide +kernel, rfl⟩
theorem d_law_307 : g_dc code 307 (.iaload) 1 308 := ⟨by decide +kernel, rfl⟩
theorem d_law_308 : g_dc code 308 (.invokevirtual 28) 3 311 := ⟨by decide +kernel, rfl⟩
theorem d_law_311 : g_dc code 311 (.pop) 1 312 := ⟨by decide +kernel, rfl⟩
theorem d_law_312 : g_dc code 312 (.aload_n 2) 1 313 := ⟨by decide +kernel, rfl⟩
theorem d_law_313 : g_dc code 313 (.aload_n 0) 1 314 := ⟨by decide +kernel, rfl⟩
theorem d_law_314 : g_dc code 314 (.iload_n 3) 1 315 := ⟨by decide +kernel, rfl⟩
theorem d_law_315 : g_dc code 315 (.iconst 1) 1 316 := ⟨by decide +kernel, rfl⟩
theorem d_law_316 : g_dc code 316 (.iadd) 1 317 := ⟨by decide +kernel, rfl⟩
theorem d_law_317 : g_dc code 317 (.iaload) 1 318 := ⟨by decide +kernel, rfl⟩
theorem d_law_318 : g_dc code 318 (.aload_n 0) 1 319 := ⟨by decide +kernel, rfl⟩
theorem d_law_319 : g_dc code 319 (.iload_n 3) 1 320 := ⟨by decide +kernel, rfl⟩
theorem d_law_320 : g_dc code 320 (.iconst 2) 1 321 := ⟨by decide +kernel, rfl⟩
theorem d_law_321 : g_dc code 321 (.iadd) 1 322 := ⟨by decide +kernel, rfl⟩
theorem d_law_322 : g_dc code 322 (.iaload) 1 323 := ⟨by decide +kernel, rfl⟩
theorem d_law_323 : g_dc code 323 (.aload_n 0) 1 324 := ⟨by decide +kernel, rfl⟩
theorem d_law_324 : g_dc code 324 (.iload_n 3) 1 325 := ⟨by decide +kernel, rfl⟩
theorem d_law_325 : g_dc code 325 (.iconst 3) 1 326 := ⟨by decide +kernel, rfl⟩
theorem d_law_326 : g_dc code 326 (.iadd) 1 327 := ⟨by decide +kernel, rfl⟩
theorem d_law_327 : g_dc code 327 (.iaload) 1 328 := ⟨by decide +kernel, rfl⟩
theorem d_law_328 : g_dc code 328 (.aload_n 0) 1 329 := ⟨by decide +kernel, rfl⟩
theorem d_law_329 : g_dc code 329 (.iload_n 3) 1 330 := ⟨by decide +kernel, rfl⟩
theorem d_law_330 : g_dc code 330 (.iconst 4) 1 331 := ⟨by decide +kernel, rfl⟩
theorem d_law_331 : g_dc code 331 (.iadd) 1 332 := ⟨by decide +kernel, rfl⟩
theorem d_law_332 : g_dc code 332 (.iaload) 1 333 := ⟨by decide +kernel, rfl⟩
theorem d_law_333 : g_dc code 333 (.invokevirtual 32) 3 336 := ⟨by decide +kernel, rfl⟩
theorem d_law_336 : g_dc code 336 (.pop) 1 337 := ⟨by decide +kernel, rfl⟩
theorem d_law_337 : g_dc code 337 (.goto 612) 3 340 := ⟨by decide +kernel, rfl⟩
theorem d_law_340 : g_dc code 340 (.aload_n 1) 1 341 := ⟨by decide +kernel, rfl⟩
theorem d_law_341 : g_dc code 341 (.aload_n 0) 1 342 := ⟨by decide +kernel, rfl⟩
theorem d_law_342 : g_dc code 342 (.iload_n 3) 1 343 := ⟨by decide +kernel, rfl⟩
theorem d_law_343 : g_dc code 343 (.iconst 1) 1 344 := ⟨by decide +kernel, rfl⟩
theorem d_law_344 : g_dc code 344 (.iadd) 1 345 := ⟨by decide +kernel, rfl⟩
theorem d_law_345 : g_dc code 345 (.iaload) 1 346 := ⟨by decide +kernel, rfl⟩
theorem d_law_346 : g_dc code 346 (.invokevirtual 33) 3 349 := ⟨by decide +kernel, rfl⟩
theorem d_law_349 : g_dc code 349 (.pop) 1 350 := ⟨by decide +kernel, rfl⟩
theorem d_law_350 : g_dc code 350 (.aload_n 2) 1 351 := ⟨by decide +kernel, rfl⟩
theorem d_law_351 : g_dc code 351 (.aload_n 0) 1 352 := ⟨by decide +kernel, rfl⟩
theorem d_law_352 : g_dc code 352 (.iload_n 3) 1 353 := ⟨by decide +kernel, rfl⟩
theorem d_law_353 : g_dc code 353 (.iconst 1) 1 354 := ⟨by decide +kernel, rfl⟩
theorem d_law_354 : g_dc code 354 (.iadd) 1 355 := ⟨by decide +kernel, rfl⟩
theorem d_law_355 : g_dc code 355 (.iaload) 1 356 := ⟨by decide +kernel, rfl⟩
theorem d_law_356 : g_dc code 356 (.invokevirtual 36) 3 359 := ⟨by decide +kernel, rfl⟩
theorem d_law_359 : g_dc code 359 (.pop) 1 360 := ⟨by decide +kernel, rfl⟩
theorem d_law_360 : g_dc code 360 (.goto 589) 3 363 := ⟨by decide +kernel, rfl⟩
theorem d_law_363 : g_dc code 363 (.aload_n 1) 1 364 := ⟨by decide +kernel, rfl⟩
theorem d_law_364 : g_dc code 364 (.aload_n 0) 1 365 := ⟨by decide +kernel, rfl⟩
theorem d_law_365 : g_dc code 365 (.iload_n 3) 1 366 := ⟨by decide +kernel, rfl⟩
theorem d_law_366 : g_dc code 366 (.iconst 1) 1 367 := ⟨by decide +kernel, rfl⟩
theorem d_law_367 : g_dc code 367 (.iadd) 1 368 := ⟨by decide +kernel, rfl⟩
theorem d_law_368 : g_dc code 368 (.iaload) 1 369 := ⟨by decide +kernel, rfl⟩
theorem d_law_369 : g_dc code 369 (.aload_n 0) 1 370 := ⟨by decide +kernel, rfl⟩
theorem d_law_370 : g_dc code 370 (.iload_n 3) 1 371 := ⟨by decide +kernel, rfl⟩
theorem d_law_371 : g_dc code 371 (.iconst 2) 1 372 := ⟨by decide +kernel, rfl⟩
theorem d_law_372 : g_dc code 372 (.iadd) 1 373 := ⟨by decide +kernel, rfl⟩
theorem d_law_373 : g_dc code 373 (.iaload) 1 374 := ⟨by decide +kernel, rfl⟩
theorem d_law_374 : g_dc code 374 (.aload_n 0) 1 375 := ⟨by decide +kernel, rfl⟩
theorem d_law_375 : g_dc code 375 (.iload_n 3) 1 376 := ⟨by decide +kernel, rfl⟩
theorem d_law_376 : g_dc code 376 (.iconst 3) 1 377 := ⟨by decide +kernel, rfl⟩
theorem d_law_377 : g_dc code 377 (.iadd) 1 378 := ⟨by decide +kernel, rfl⟩
theorem d_law_378 : g_dc code 378 (.iaload) 1 379 := ⟨by decide +kernel, rfl⟩
theorem d_law_379 : g_dc code 379 (.aload_n 0) 1 380 := ⟨by decide +kernel, rfl⟩
theorem d_law_380 : g_dc code 380 (.iload_n 3) 1 381 := ⟨by decide +kernel, rfl⟩
theorem d_law_381 : g_dc code 381 (.iconst 4) 1 382 := ⟨by decide +kernel, rfl⟩
theorem d_law_382 : g_dc code 382 (.iadd) 1 383 := ⟨by decide +kernel, rfl⟩
theorem d_law_383 : g_dc code 383 (.iaload) 1 384 := ⟨by decide +kernel, rfl⟩
theorem d_law_384 : g_dc code 384 (.aload_n 0) 1 385 := ⟨by decide +kernel, rfl⟩
theorem d_law_385 : g_dc code 385 (.iload_n 3) 1 386 := ⟨by decide +kernel, rfl⟩
theorem d_law_386 : g_dc code 386 (.iconst 5) 1 387 := ⟨by decide +kernel, rfl⟩
theorem d_law_387 : g_dc code 387 (.iadd) 1 388 := ⟨by decide +kernel, rfl⟩
theorem d_law_388 : g_dc code 388 (.iaload) 1 389 := ⟨by decide +kernel, rfl⟩
theorem d_law_389 : g_dc code 389 (.invokevirtual 37) 3 392 := ⟨by decide +kernel, rfl⟩
theorem d_law_392 : g_dc code 392 (.pop) 1 393 := ⟨by decide +kernel, rfl⟩
theorem d_law_393 : g_dc code 393 (.aload_n 2) 1 394 := ⟨by decide +kernel, rfl⟩
theorem d_law_394 : g_dc code 394 (.aload_n 0) 1 395 := ⟨by decide +kernel, rfl⟩
theorem d_law_395 : g_dc code 395 (.iload_n 3) 1 396 := ⟨by decide +kernel, rfl⟩
theorem d_law_396 : g_dc code 396 (.iconst 1) 1 397 := ⟨by decide +kernel, rfl⟩
theorem d_law_397 : g_dc code 397 (.iadd) 1 398 := ⟨by decide +kernel, rfl⟩
theorem d_law_398 : g_dc code 398 (.iaload) 1 399 := ⟨by decide +kernel, rfl⟩
theorem d_law_399 : g_dc code 399 (.aload_n 0) 1 400 := ⟨by decide +kernel, rfl⟩
theorem d_law_400 : g_dc code 400 (.iload_n 3) 1 401 := ⟨by decide +kernel, rfl⟩
theorem d_law_401 : g_dc code 401 (.iconst 2) 1 402 := ⟨by decide +kernel, rfl⟩
theorem d_law_402 : g_dc code 402 (.iadd) 1 403 := ⟨by decide +kernel, rfl⟩
theorem d_law_403 : g_dc code 403 (.iaload) 1 404 := ⟨by decide +kernel, rfl⟩
theorem d_law_404 : g_dc code 404 (.aload_n 0) 1 405 := ⟨by decide +kernel, rfl⟩
theorem d_law_405 : g_dc code 405 (.iload_n 3) 1 406 := ⟨by decide +kernel, rfl⟩
theorem d_law_406 : g_dc code 406 (.iconst 3) 1 407 := ⟨by decide +kernel, rfl⟩
theorem d_law_407 : g_dc code 407 (.iadd) 1 408 := ⟨by decide +kernel, rfl⟩
theorem d_law_408 : g_dc code 408 (.iaload) 1 409 := ⟨by decide +kernel, rfl⟩
theorem d_law_409 : g_dc code 409 (.aload_n 0) 1 410 := ⟨by decide +kernel, rfl⟩
theorem d_law_410 : g_dc code 410 (.iload_n 3) 1 411 := ⟨by decide +kernel, rfl⟩
theorem d_law_411 : g_dc code 411 (.iconst 4) 1 412 := ⟨by decide +kernel, rfl⟩
theorem d_law_412 : g_dc code 412 (.iadd) 1 413 := ⟨by decide +kernel, rfl⟩
theorem d_law_413 : g_dc code 413 (.iaload) 1 414 := ⟨by decide +kernel, rfl⟩
theorem d_law_414 : g_dc code 414 (.aload_n 0) 1 415 := ⟨by decide +kernel, rfl⟩
theorem d_law_415 : g_dc code 415 (.iload_n 3) 1 416 := ⟨by decide +kernel, rfl⟩
theorem d_law_416 : g_dc code 416 (.iconst 5) 1 417 := ⟨by decide +kernel, rfl⟩
theorem d_law_417 : g_dc code 417 (.iadd) 1 418 := ⟨by decide +kernel, rfl⟩
theorem d_law_418 : g_dc code 418 (.iaload) 1 419 := ⟨by decide +kernel, rfl⟩
theorem d_law_419 : g_dc code 419 (.invokevirtual 41) 3 422 := ⟨by decide +kernel, rfl⟩
theorem d_law_422 : g_dc code 422 (.pop) 1 423 := ⟨by decide +kernel, rfl⟩
theorem d_law_423 : g_dc code 423 (.goto 526) 3 426 := ⟨by decide +kernel, rfl⟩
theorem d_law_426 : g_dc code 426 (.aload_n 1) 1 427 := ⟨by decide +kernel, rfl⟩
theorem d_law_427 : g_dc code 427 (.aload_n 0) 1 428 := ⟨by decide +kernel, rfl⟩
theorem d_law_428 : g_dc code 428 (.iload_n 3) 1 429 := ⟨by decide +kernel, rfl⟩
theorem d_law_429 : g_dc code 429 (.iconst 1) 1 430 := ⟨by decide +kernel, rfl⟩
theorem d_law_430 : g_dc code 430 (.iadd) 1 431 := ⟨by decide +kernel, rfl⟩
theorem d_law_431 : g_dc code 431 (.iaload) 1 432 := ⟨by decide +kernel, rfl⟩
theorem d_law_432 : g_dc code 432 (.invokevirtual 42) 3 435 := ⟨by decide +kernel, rfl⟩
theorem d_law_435 : g_dc code 435 (.pop) 1 436 := ⟨by decide +kernel, rfl⟩
theorem d_law_436 : g_dc code 436 (.aload_n 2) 1 437 := ⟨by decide +kernel, rfl⟩
theorem d_law_437 : g_dc code 437 (.aload_n 0) 1 438 := ⟨by decide +kernel, rfl⟩
theorem d_law_438 : g_dc code 438 (.iload_n 3) 1 439 := ⟨by decide +kernel, rfl⟩
theorem d_law_439 : g_dc code 439 (.iconst 1) 1 440 := ⟨by decide +kernel, rfl⟩
theorem d_law_440 : g_dc code 440 (.iadd) 1 441 := ⟨by decide +kernel, rfl⟩
theorem d_law_441 : g_dc code 441 (.iaload) 1 442 := ⟨by decide +kernel, rfl⟩
theorem d_law_442 : g_dc code 442 (.invokevirtual 46) 3 445 := ⟨by decide +kernel, rfl⟩
theorem d_law_445 : g_dc code 445 (.pop) 1 446 := ⟨by decide +kernel, rfl⟩
theorem d_law_446 : g_dc code 446 (.goto 503) 3 449 := ⟨by decide +kernel, rfl⟩
theorem d_law_449 : g_dc code 449 (.aload_n 1) 1 450 := ⟨by decide +kernel, rfl⟩
theorem d_law_450 : g_dc code 450 (.aload_n 0) 1 451 := ⟨by decide +kernel, rfl⟩
theorem d_law_451 : g_dc code 451 (.iload_n 3) 1 452 := ⟨by decide +kernel, rfl⟩
theorem d_law_452 : g_dc code 452 (.iconst 1) 1 453 := ⟨by decide +kernel, rfl⟩
theorem d_law_453 : g_dc code 453 (.iadd) 1 454 := ⟨by decide +kernel, rfl⟩
theorem d_law_454 : g_dc code 454 (.iaload) 1 455 := ⟨by decide +kernel, rfl⟩
theorem d_law_455 : g_dc code 455 (.invokevirtual 47) 3 458 := ⟨by decide +kernel, rfl⟩
theorem d_law_458 : g_dc code 458 (.pop) 1 459 := ⟨by decide +kernel, rfl⟩
theorem d_law_459 : g_dc code 459 (.aload_n 2) 1 460 := ⟨by decide +kernel, rfl⟩
theorem d_law_460 : g_dc code 460 (.aload_n 0) 1 461 := ⟨by decide +kernel, rfl⟩
theorem d_law_461 : g_dc code 461 (.iload_n 3) 1 462 := ⟨by decide +kernel, rfl⟩
theorem d_law_462 : g_dc code 462 (.iconst 1) 1 463 := ⟨by decide +kernel, rfl⟩
theorem d_law_463 : g_dc code 463 (.iadd) 1 464 := ⟨by decide +kernel, rfl⟩
theorem d_law_464 : g_dc code 464 (.iaload) 1 465 := ⟨by decide +kernel, rfl⟩
theorem d_law_465 : g_dc code 465 (.invokevirtual 50) 3 468 := ⟨by decide +kernel, rfl⟩
theorem d_law_468 : g_dc code 468 (.pop) 1 469 := ⟨by decide +kernel, rfl⟩
theorem d_law_469 : g_dc code 469 (.goto 480) 3 472 := ⟨by decide +kernel, rfl⟩
theorem d_law_472 : g_dc code 472 (.aload_n 1) 1 473 := ⟨by decide +kernel, rfl⟩
theorem d_law_473 : g_dc code 473 (.aload_n 0) 1 474 := ⟨by decide +kernel, rfl⟩
theorem d_law_474 : g_dc code 474 (.iload_n 3) 1 475 := ⟨by decide +kernel, rfl⟩
theorem d_law_475 : g_dc code 475 (.iconst 1) 1 476 := ⟨by decide +kernel, rfl⟩
theorem d_law_476 : g_dc code 476 (.iadd) 1 477 := ⟨by decide +kernel, rfl⟩
theorem d_law_477 : g_dc code 477 (.iaload) 1 478 := ⟨by decide +kernel, rfl⟩
theorem d_law_478 : g_dc code 478 (.invokevirtual 51) 3 481 := ⟨by decide +kernel, rfl⟩
theorem d_law_481 : g_dc code 481 (.pop) 1 482 := ⟨by decide +kernel, rfl⟩
theorem d_law_482 : g_dc code 482 (.aload_n 2) 1 483 := ⟨by decide +kernel, rfl⟩
theorem d_law_483 : g_dc code 483 (.aload_n 0) 1 484 := ⟨by decide +kernel, rfl⟩
theorem d_law_484 : g_dc code 484 (.iload_n 3) 1 485 := ⟨by decide +kernel, rfl⟩
theorem d_law_485 : g_dc code 485 (.iconst 1) 1 486 := ⟨by decide +kernel, rfl⟩
theorem d_law_486 : g_dc code 486 (.iadd) 1 487 := ⟨by decide +kernel, rfl⟩
theorem d_law_487 : g_dc code 487 (.iaload) 1 488 := ⟨by decide +kernel, rfl⟩
theorem d_law_488 : g_dc code 488 (.invokevirtual 54) 3 491 := ⟨by decide +kernel, rfl⟩
theorem d_law_491 : g_dc code 491 (.pop) 1 492 := ⟨by decide +kernel, rfl⟩
theorem d_law_492 : g_dc code 492 (.goto 457) 3 495 := ⟨by decide +kernel, rfl⟩
theorem d_law_495 : g_dc code 495 (.aload_n 1) 1 496 := ⟨by decide +kernel, rfl⟩
theorem d_law_496 : g_dc code 496 (.aload_n 0) 1 497 := ⟨by decide +kernel, rfl⟩
theorem d_law_497 : g_dc code 497 (.iload_n 3) 1 498 := ⟨by decide +kernel, rfl⟩
theorem d_law_498 : g_dc code 498 (.iconst 1) 1 499 := ⟨by decide +kernel, rfl⟩
theorem d_law_499 : g_dc code 499 (.iadd) 1 500 := ⟨by decide +kernel, rfl⟩
theorem d_law_500 : g_dc code 500 (.iaload) 1 501 := ⟨by decide +kernel, rfl⟩
theorem d_law_501 : g_dc code 501 (.invokevirtual 55) 3 504 := ⟨by decide +kernel, rfl⟩
theorem d_law_504 : g_dc code 504 (.pop) 1 505 := ⟨by decide +kernel, rfl⟩
theorem d_law_505 : g_dc code 505 (.aload_n 2) 1 506 := ⟨by decide +kernel, rfl⟩
theorem d_law_506 : g_dc code 506 (.aload_n 0) 1 507 := ⟨by decide +kernel, rfl⟩
theorem d_law_507 : g_dc code 507 (.iload_n 3) 1 508 := ⟨by decide +kernel, rfl⟩
theorem d_law_508 : g_dc code 508 (.iconst 1) 1 509 := ⟨by decide +kernel, rfl⟩
theorem d_law_509 : g_dc code 509 (.iadd) 1 510 := ⟨by decide +kernel, rfl⟩
theorem d_law_510 : g_dc code 510 (.iaload) 1 511 := ⟨by decide +kernel, rfl⟩
theorem d_law_511 : g_dc code 511 (.invokevirtual 58) 3 514 := ⟨by decide +kernel, rfl⟩
theorem d_law_514 : g_dc code 514 (.pop) 1 515 := ⟨by decide +kernel, rfl⟩
theorem d_law_515 : g_dc code 515 (.goto 434) 3 518 := ⟨by decide +kernel, rfl⟩
theorem d_law_518 : g_dc code 518 (.aload_n 1) 1 519 := ⟨by decide +kernel, rfl⟩
theorem d_law_519 : g_dc code 519 (.invokevirtual 59) 3 522 := ⟨by decide +kernel, rfl⟩
theorem d_law_522 : g_dc code 522 (.pop) 1 523 := ⟨by decide +kernel, rfl⟩
theorem d_law_523 : g_dc code 523 (.aload_n 2) 1 524 := ⟨by decide +kernel, rfl⟩
theorem d_law_524 : g_dc code 524 (.invokevirtual 63) 3 527 := ⟨by decide +kernel, rfl⟩
theorem d_law_527 : g_dc code 527 (.pop) 1 528 := ⟨by decide +kernel, rfl⟩
theorem d_law_528 : g_dc code 528 (.goto 421) 3 531 := ⟨by decide +kernel, rfl⟩
theorem d_law_531 : g_dc code 531 (.aload_n 1) 1 532 := ⟨by decide +kernel, rfl⟩
theorem d_law_532 : g_dc code 532 (.aload_n 0) 1 533 := ⟨by decide +kernel, rfl⟩
theorem d_law_533 : g_dc code 533 (.iload_n 3) 1 534 := ⟨by decide +kernel, rfl⟩
theorem d_law_534 : g_dc code 534 (.iconst 1) 1 535 := ⟨by decide +kernel, rfl⟩
theorem d_law_535 : g_dc code 535 (.iadd) 1 536 := ⟨by decide +kernel, rfl⟩
theorem d_law_536 : g_dc code 536 (.iaload) 1 537 := ⟨by decide +kernel, rfl⟩
theorem d_law_537 : g_dc code 537 (.aload_n 0) 1 538 := ⟨by decide +kernel, rfl⟩
theorem d_law_538 : g_dc code 538 (.iload_n 3) 1 539 := ⟨by decide +kernel, rfl⟩
theorem d_law_539 : g_dc code 539 (.iconst 2) 1 540 := ⟨by decide +kernel, rfl⟩
theorem d_law_540 : g_dc code 540 (.iadd) 1 541 := ⟨by decide +kernel, rfl⟩
theorem d_law_541 : g_dc code 541 (.iaload) 1 542 := ⟨by decide +kernel, rfl⟩
theorem d_law_542 : g_dc code 542 (.invokevirtual 64) 3 545 := ⟨by decide +kernel, rfl⟩
theorem d_law_545 : g_dc code 545 (.pop) 1 546 := ⟨by decide +kernel, rfl⟩
theorem d_law_546 : g_dc code 546 (.aload_n 2) 1 547 := ⟨by decide +kernel, rfl⟩
theorem d_law_547 : g_dc code 547 (.aload_n 0) 1 548 := ⟨by decide +kernel, rfl⟩
theorem d_law_548 : g_dc code 548 (.iload_n 3) 1 549 := ⟨by decide +kernel, rfl⟩
theorem d_law_549 : g_dc code 549 (.iconst 1) 1 550 := ⟨by decide +kernel, rfl⟩
theorem d_law_550 : g_dc code 550 (.iadd) 1 551 := ⟨by decide +kernel, rfl⟩
theorem d_law_551 : g_dc code 551 (.iaload) 1 552 := ⟨by decide +kernel, rfl⟩
theorem d_law_552 : g_dc code 552 (.aload_n 0) 1 553 := ⟨by decide +kernel, rfl⟩
theorem d_law_553 : g_dc code 553 (.iload_n 3) 1 554 := ⟨by decide +kernel, rfl⟩
theorem d_law_554 : g_dc code 554 (.iconst 2) 1 555 := ⟨by decide +kernel, rfl⟩
theorem d_law_555 : g_dc code 555 (.iadd) 1 556 := ⟨by decide +kernel, rfl⟩
theorem d_law_556 : g_dc code 556 (.iaload) 1 557 := ⟨by decide +kernel, rfl⟩
theorem d_law_557 : g_dc code 557 (.invokevirtual 68) 3 560 := ⟨by decide +kernel, rfl⟩
theorem d_law_560 : g_dc code 560 (.pop) 1 561 := ⟨by decide +kernel, rfl⟩
theorem d_law_561 : g_dc code 561 (.goto 388) 3 564 := ⟨by decide +kernel, rfl⟩
theorem d_law_564 : g_dc code 564 (.aload_n 1) 1 565 := ⟨by decide +kernel, rfl⟩
theorem d_law_565 : g_dc code 565 (.invokevirtual 69) 3 568 := ⟨by decide +kernel, rfl⟩
theorem d_law_568 : g_dc code 568 (.pop) 1 569 := ⟨by decide +kernel, rfl⟩
theorem d_law_569 : g_dc code 569 (.aload_n 2) 1 570 := ⟨by decide +kernel, rfl⟩
theorem d_law_570 : g_dc code 570 (.invokevirtual 72) 3 573 := ⟨by decide +kernel, rfl⟩
theorem d_law_573 : g_dc code 573 (.pop) 1 574 := ⟨by decide +kernel, rfl⟩
theorem d_law_574 : g_dc code 574 (.goto 375) 3 577 := ⟨by decide +kernel, rfl⟩
theorem d_law_577 : g_dc code 577 (.aload_n 1) 1 578 := ⟨by decide +kernel, rfl⟩
theorem d_law_578 : g_dc code 578 (.aload_n 0) 1 579 := ⟨by decide +kernel, rfl⟩
theorem d_law_579 : g_dc code 579 (.iload_n 3) 1 580 := ⟨by decide +kernel, rfl⟩
theorem d_law_580 : g_dc code 580 (.iconst 1) 1 581 := ⟨by decide +kernel, rfl⟩
theorem d_law_581 : g_dc code 581 (.iadd) 1 582 := ⟨by decide +kernel, rfl⟩
theorem d_law_582 : g_dc code 582 (.iaload) 1 583 := ⟨by decide +kernel, rfl⟩
theorem d_law_583 : g_dc code 583 (.invokevirtual 73) 3 586 := ⟨by decide +kernel, rfl⟩
theorem d_law_586 : g_dc code 586 (.pop) 1 587 := ⟨by decide +kernel, rfl⟩
theorem d_law_587 : g_dc code 587 (.aload_n 2) 1 588 := ⟨by decide +kernel, rfl⟩
theorem d_law_588 : g_dc code 588 (.aload_n 0) 1 589 := ⟨by decide +kernel, rfl⟩
theorem d_law_589 : g_dc code 589 (.iload_n 3) 1 590 := ⟨by decide +kernel, rfl⟩
theorem d_law_590 : g_dc code 590 (.iconst 1) 1 591 := ⟨by decide +kernel, rfl⟩
theorem d_law_591 : g_dc code 591 (.iadd) 1 592 := ⟨by decide +kernel, rfl⟩
theorem d_law_592 : g_dc code 592 (.iaload) 1 593 := ⟨by decide +kernel, rfl⟩
theorem d_law_593 : g_dc code 593 (.invokevirtual 76) 3 596 := ⟨by decide +kernel, rfl⟩
theorem d_law_596 : g_dc code 596 (.pop) 1 597 := ⟨by decide +kernel, rfl⟩
theorem d_law_597 : g_dc code 597 (.goto 352) 3 600 := ⟨by decide +kernel, rfl⟩
theorem d_law_600 : g_dc code 600 (.aload_n 1) 1 601 := ⟨by decide +kernel, rfl⟩
theorem d_law_601 : g_dc code 601 (.aload_n 0) 1 602 := ⟨by decide +kernel, rfl⟩
theorem d_law_602 : g_dc code 602 (.iload_n 3) 1 603 := ⟨by decide +kernel, rfl⟩
theorem d_law_603 : g_dc code 603 (.iconst 1) 1 604 := ⟨by decide +kernel, rfl⟩
theorem d_law_604 : g_dc code 604 (.iadd) 1 605 := ⟨by decide +kernel, rfl⟩
theorem d_law_605 : g_dc code 605 (.iaload) 1 606 := ⟨by decide +kernel, rfl⟩
theorem d_law_606 : g_dc code 606 (.aload_n 0) 1 607 := ⟨by decide +kernel, rfl⟩
theorem d_law_607 : g_dc code 607 (.iload_n 3) 1 608 := ⟨by decide +kernel, rfl⟩
theorem d_law_608 : g_dc code 608 (.iconst 2) 1 609 := ⟨by decide +kernel, rfl⟩
theorem d_law_609 : g_dc code 609 (.iadd) 1 610 := ⟨by decide +kernel, rfl⟩
theorem d_law_610 : g_dc code 610 (.iaload) 1 611 := ⟨by decide +kernel, rfl⟩
theorem d_law_611 : g_dc code 611 (.invokevirtual 77) 3 614 := ⟨by decide +kernel, rfl⟩
theorem d_law_614 : g_dc code 614 (.pop) 1 615 := ⟨by decide +kernel, rfl⟩
theorem d_law_615 : g_dc code 615 (.aload_n 2) 1 616 := ⟨by decide +kernel, rfl⟩
theorem d_law_616 : g_dc code 616 (.aload_n 0) 1 617 := ⟨by decide +kernel, rfl⟩
theorem d_law_617 : g_dc code 617 (.iload_n 3) 1 618 := ⟨by decide +kernel, rfl⟩
theorem d_law_618 : g_dc code 618 (.iconst 1) 1 619 := ⟨by decide +kernel, rfl⟩
theorem d_law_619 : g_dc code 619 (.iadd) 1 620 := ⟨by decide +kernel, rfl⟩
theorem d_law_620 : g_dc code 620 (.iaload) 1 621 := ⟨by decide +kernel, rfl⟩
theorem d_law_621 : g_dc code 621 (.aload_n 0) 1 622 := ⟨by decide +kernel, rfl⟩
theorem d_law_622 : g_dc code 622 (.iload_n 3) 1 623 := ⟨by decide +kernel, rfl⟩
theorem d_law_623 : g_dc code 623 (.iconst 2) 1 624 := ⟨by decide +kernel, rfl⟩
theorem d_law_624 : g_dc code 624 (.iadd) 1 625 := ⟨by decide +kernel, rfl⟩
theorem d_law_625 : g_dc code 625 (.iaload) 1 626 := ⟨by decide +kernel, rfl⟩
theorem d_law_626 : g_dc code 626 (.invokevirtual 80) 3 629 := ⟨by decide +kernel, rfl⟩
theorem d_law_629 : g_dc code 629 (.pop) 1 630 := ⟨by decide +kernel, rfl⟩
theorem d_law_630 : g_dc code 630 (.goto 319) 3 633 := ⟨by decide +kernel, rfl⟩
theorem d_law_633 : g_dc code 633 (.aload_n 1) 1 634 := ⟨by decide +kernel, rfl⟩
theorem d_law_634 : g_dc code 634 (.aload_n 0) 1 635 := ⟨by decide +kernel, rfl⟩
theorem d_law_635 : g_dc code 635 (.iload_n 3) 1 636 := ⟨by decide +kernel, rfl⟩
theorem d_law_636 : g_dc code 636 (.iconst 1) 1 637 := ⟨by decide +kernel, rfl⟩
theorem d_law_637 : g_dc code 637 (.iadd) 1 638 := ⟨by decide +kernel, rfl⟩
theorem d_law_638 : g_dc code 638 (.iaload) 1 639 := ⟨by decide +kernel, rfl⟩
theorem d_law_639 : g_dc code 639 (.invokevirtual 81) 3 642 := ⟨by decide +kernel, rfl⟩
theorem d_law_642 : g_dc code 642 (.pop) 1 643 := ⟨by decide +kernel, rfl⟩
theorem d_law_643 : g_dc code 643 (.aload_n 2) 1 644 := ⟨by decide +kernel, rfl⟩
theorem d_law_644 : g_dc code 644 (.aload_n 0) 1 645 := ⟨by decide +kernel, rfl⟩
theorem d_law_645 : g_dc code 645 (.iload_n 3) 1 646 := ⟨by decide +kernel, rfl⟩
theorem d_law_646 : g_dc code 646 (.iconst 1) 1 647 := ⟨by decide +kernel, rfl⟩
theorem d_law_647 : g_dc code 647 (.iadd) 1 648 := ⟨by decide +kernel, rfl⟩
theorem d_law_648 : g_dc code 648 (.iaload) 1 649 := ⟨by decide +kernel, rfl⟩
theorem d_law_649 : g_dc code 649 (.invokevirtual 84) 3 652 := ⟨by decide +kernel, rfl⟩
theorem d_law_652 : g_dc code 652 (.pop) 1 653 := ⟨by decide +kernel, rfl⟩
theorem d_law_653 : g_dc code 653 (.goto 296) 3 656 := ⟨by decide +kernel, rfl⟩
theorem d_law_656 : g_dc code 656 (.aload_n 1) 1 657 := ⟨by decide +kernel, rfl⟩
theorem d_law_657 : g_dc code 657 (.aload_n 0) 1 658 := ⟨by decide +kernel, rfl⟩
theorem d_law_658 : g_dc code 658 (.iload_n 3) 1 659 := ⟨by decide +kernel, rfl⟩
theorem d_law_659 : g_dc code 659 (.iconst 1) 1 660 := ⟨by decide +kernel, rfl⟩
theorem d_law_660 : g_dc code 660 (.iadd) 1 661 := ⟨by decide +kernel, rfl⟩
theorem d_law_661 : g_dc code 661 (.iaload) 1 662 := ⟨by decide +kernel, rfl⟩
theorem d_law_662 : g_dc code 662 (.aload_n 0) 1 663 := ⟨by decide +kernel, rfl⟩
theorem d_law_663 : g_dc code 663 (.iload_n 3) 1 664 := ⟨by decide +kernel, rfl⟩
theorem d_law_664 : g_dc code 664 (.iconst 2) 1 665 := ⟨by decide +kernel, rfl⟩
theorem d_law_665 : g_dc code 665 (.iadd) 1 666 := ⟨by decide +kernel, rfl⟩
theorem d_law_666 : g_dc code 666 (.iaload) 1 667 := ⟨by decide +kernel, rfl⟩
theorem d_law_667 : g_dc code 667 (.invokevirtual 85) 3 670 := ⟨by decide +kernel, rfl⟩
theorem d_law_670 : g_dc code 670 (.pop) 1 671 := ⟨by decide +kernel, rfl⟩
theorem d_law_671 : g_dc code 671 (.aload_n 2) 1 672 := ⟨by decide +kernel, rfl⟩
theorem d_law_672 : g_dc code 672 (.aload_n 0) 1 673 := ⟨by decide +kernel, rfl⟩
theorem d_law_673 : g_dc code 673 (.iload_n 3) 1 674 := ⟨by decide +kernel, rfl⟩
theorem d_law_674 : g_dc code 674 (.iconst 1) 1 675 := ⟨by decide +kernel, rfl⟩
theorem d_law_675 : g_dc code 675 (.iadd) 1 676 := ⟨by decide +kernel, rfl⟩
theorem d_law_676 : g_dc code 676 (.iaload) 1 677 := ⟨by decide +kernel, rfl⟩
theorem d_law_677 : g_dc code 677 (.aload_n 0) 1 678 := ⟨by decide +kernel, rfl⟩
theorem d_law_678 : g_dc code 678 (.iload_n 3) 1 679 := ⟨by decide +kernel, rfl⟩
theorem d_law_679 : g_dc code 679 (.iconst 2) 1 680 := ⟨by decide +kernel, rfl⟩
theorem d_law_680 : g_dc code 680 (.iadd) 1 681 := ⟨by decide +kernel, rfl⟩
theorem d_law_681 : g_dc code 681 (.iaload) 1 682 := ⟨by decide +kernel, rfl⟩
theorem d_law_682 : g_dc code 682 (.invokevirtual 88) 3 685 := ⟨by decide +kernel, rfl⟩
theorem d_law_685 : g_dc code 685 (.pop) 1 686 := ⟨by decide +kernel, rfl⟩
theorem d_law_686 : g_dc code 686 (.goto 263) 3 689 := ⟨by decide +kernel, rfl⟩
theorem d_law_689 : g_dc code 689 (.aload_n 1) 1 690 := ⟨by decide +kernel, rfl⟩
theorem d_law_690 : g_dc code 690 (.aload_n 0) 1 691 := ⟨by decide +kernel, rfl⟩
theorem d_law_691 : g_dc code 691 (.iload_n 3) 1 692 := ⟨by decide +kernel, rfl⟩
theorem d_law_692 : g_dc code 692 (.iconst 1) 1 693 := ⟨by decide +kernel, rfl⟩
theorem d_law_693 : g_dc code 693 (.iadd) 1 694 := ⟨by decide +kernel, rfl⟩
theorem d_law_694 : g_dc code 694 (.iaload) 1 695 := ⟨by decide +kernel, rfl⟩
theorem d_law_695 : g_dc code 695 (.invokevirtual 89) 3 698 := ⟨by decide +kernel, rfl⟩
theorem d_law_698 : g_dc code 698 (.pop) 1 699 := ⟨by decide +kernel, rfl⟩
theorem d_law_699 : g_dc code 699 (.aload_n 2) 1 700 := ⟨by decide +kernel, rfl⟩
theorem d_law_700 : g_dc code 700 (.aload_n 0) 1 701 := ⟨by decide +kernel, rfl⟩
theorem d_law_701 : g_dc code 701 (.iload_n 3) 1 702 := ⟨by decide +kernel, rfl⟩
theorem d_law_702 : g_dc code 702 (.iconst 1) 1 703 := ⟨by decide +kernel, rfl⟩
theorem d_law_703 : g_dc code 703 (.iadd) 1 704 := ⟨by decide +kernel, rfl⟩
theorem d_law_704 : g_dc code 704 (.iaload) 1 705 := ⟨by decide +kernel, rfl⟩
theorem d_law_705 : g_dc code 705 (.invokevirtual 92) 3 708 := ⟨by decide +kernel, rfl⟩
theorem d_law_708 : g_dc code 708 (.pop) 1 709 := ⟨by decide +kernel, rfl⟩
theorem d_law_709 : g_dc code 709 (.goto 240) 3 712 := ⟨by decide +kernel, rfl⟩
theorem d_law_712 : g_dc code 712 (.aload_n 1) 1 713 := ⟨by decide +kernel, rfl⟩
theorem d_law_713 : g_dc code 713 (.aload_n 0) 1 714 := ⟨by decide +kernel, rfl⟩
theorem d_law_714 : g_dc code 714 (.iload_n 3) 1 715 := ⟨by decide +kernel, rfl⟩
theorem d_law_715 : g_dc code 715 (.iconst 1) 1 716 := ⟨by decide +kernel, rfl⟩
theorem d_law_716 : g_dc code 716 (.iadd) 1 717 := ⟨by decide +kernel, rfl⟩
theorem d_law_717 : g_dc code 717 (.iaload) 1 718 := ⟨by decide +kernel, rfl⟩
theorem d_law_718 : g_dc code 718 (.invokevirtual 93) 3 721 := ⟨by decide +kernel, rfl⟩
theorem d_law_721 : g_dc code 721 (.pop) 1 722 := ⟨by decide +kernel, rfl⟩
theorem d_law_722 : g_dc code 722 (.aload_n 2) 1 723 := ⟨by decide +kernel, rfl⟩
theorem d_law_723 : g_dc code 723 (.aload_n 0) 1 724 := ⟨by decide +kernel, rfl⟩
theorem d_law_724 : g_dc code 724 (.iload_n 3) 1 725 := ⟨by decide +kernel, rfl⟩
theorem d_law_725 : g_dc code 725 (.iconst 1) 1 726 := ⟨by decide +kernel, rfl⟩
theorem d_law_726 : g_dc code 726 (.iadd) 1 727 := ⟨by decide +kernel, rfl⟩
theorem d_law_727 : g_dc code 727 (.iaload) 1 728 := ⟨by decide +kernel, rfl⟩
theorem d_law_728 : g_dc code 728 (.invokevirtual 96) 3 731 := ⟨by decide +kernel, rfl⟩
theorem d_law_731 : g_dc code 731 (.pop) 1 732 := ⟨by decide +kernel, rfl⟩
theorem d_law_732 : g_dc code 732 (.goto 217) 3 735 := ⟨by decide +kernel, rfl⟩
theorem d_law_735 : g_dc code 735 (.aload_n 1) 1 736 := ⟨by decide +kernel, rfl⟩
theorem d_law_736 : g_dc code 736 (.aload_n 0) 1 737 := ⟨by decide +kernel, rfl⟩
theorem d_law_737 : g_dc code 737 (.iload_n 3) 1 738 := ⟨by decide +kernel, rfl⟩
theorem d_law_738 : g_dc code 738 (.iconst 1) 1 739 := ⟨by decide +kernel, rfl⟩
theorem d_law_739 : g_dc code 739 (.iadd) 1 740 := ⟨by decide +kernel, rfl⟩
theorem d_law_740 : g_dc code 740 (.iaload) 1 741 := ⟨by decide +kernel, rfl⟩
theorem d_law_741 : g_dc code 741 (.aload_n 0) 1 742 := ⟨by decide +kernel, rfl⟩
theorem d_law_742 : g_dc code 742 (.iload_n 3) 1 743 := ⟨by decide +kernel, rfl⟩
theorem d_law_743 : g_dc code 743 (.iconst 2) 1 744 := ⟨by decide +kernel, rfl⟩
theorem d_law_744 : g_dc code 744 (.iadd) 1 745 := ⟨by decide +kernel, rfl⟩
theorem d_law_745 : g_dc code 745 (.iaload) 1 746 := ⟨by decide +kernel, rfl⟩
theorem d_law_746 : g_dc code 746 (.aload_n 0) 1 747 := ⟨by decide +kernel, rfl⟩
theorem d_law_747 : g_dc code 747 (.iload_n 3) 1 748 := ⟨by decide +kernel, rfl⟩
theorem d_law_748 : g_dc code 748 (.iconst 3) 1 749 := ⟨by decide +kernel, rfl⟩
theorem d_law_749 : g_dc code 749 (.iadd) 1 750 := ⟨by decide +kernel, rfl⟩
theorem d_law_750 : g_dc code 750 (.iaload) 1 751 := ⟨by decide +kernel, rfl⟩
theorem d_law_751 : g_dc code 751 (.invokevirtual 97) 3 754 := ⟨by decide +kernel, rfl⟩
theorem d_law_754 : g_dc code 754 (.pop) 1 755 := ⟨by decide +kernel, rfl⟩
theorem d_law_755 : g_dc code 755 (.aload_n 2) 1 756 := ⟨by decide +kernel, rfl⟩
theorem d_law_756 : g_dc code 756 (.aload_n 0) 1 757 := ⟨by decide +kernel, rfl⟩
theorem d_law_757 : g_dc code 757 (.iload_n 3) 1 758 := ⟨by decide +kernel, rfl⟩
theorem d_law_758 : g_dc code 758 (.iconst 1) 1 759 := ⟨by decide +kernel, rfl⟩
theorem d_law_759 : g_dc code 759 (.iadd) 1 760 := ⟨by decide +kernel, rfl⟩
theorem d_law_760 : g_dc code 760 (.iaload) 1 761 := ⟨by decide +kernel, rfl⟩
theorem d_law_761 : g_dc code 761 (.aload_n 0) 1 762 := ⟨by decide +kernel, rfl⟩
theorem d_law_762 : g_dc code 762 (.iload_n 3) 1 763 := ⟨by decide +kernel, rfl⟩
theorem d_law_763 : g_dc code 763 (.iconst 2) 1 764 := ⟨by decide +kernel, rfl⟩
theorem d_law_764 : g_dc code 764 (.iadd) 1 765 := ⟨by decide +kernel, rfl⟩
theorem d_law_765 : g_dc code 765 (.iaload) 1 766 := ⟨by decide +kernel, rfl⟩
theorem d_law_766 : g_dc code 766 (.aload_n 0) 1 767 := ⟨by decide +kernel, rfl⟩
theorem d_law_767 : g_dc code 767 (.iload_n 3) 1 768 := ⟨by decide +kernel, rfl⟩
theorem d_law_768 : g_dc code 768 (.iconst 3) 1 769 := ⟨by decide +kernel, rfl⟩
theorem d_law_769 : g_dc code 769 (.iadd) 1 770 := ⟨by decide +kernel, rfl⟩
theorem d_law_770 : g_dc code 770 (.iaload) 1 771 := ⟨by decide +kernel, rfl⟩
theorem d_law_771 : g_dc code 771 (.invokevirtual 101) 3 774 := ⟨by decide +kernel, rfl⟩
theorem d_law_774 : g_dc code 774 (.pop) 1 775 := ⟨by decide +kernel, rfl⟩
theorem d_law_775 : g_dc code 775 (.goto 174) 3 778 := ⟨by decide +kernel, rfl⟩
theorem d_law_778 : g_dc code 778 (.aload_n 1) 1 779 := ⟨by decide +kernel, rfl⟩
theorem d_law_779 : g_dc code 779 (.aload_n 0) 1 780 := ⟨by decide +kernel, rfl⟩
theorem d_law_780 : g_dc code 780 (.iload_n 3) 1 781 := ⟨by decide +kernel, rfl⟩
theorem d_law_781 : g_dc code 781 (.iconst 1) 1 782 := ⟨by decide +kernel, rfl⟩
theorem d_law_782 : g_dc code 782 (.iadd) 1 783 := ⟨by decide +kernel, rfl⟩
theorem d_law_783 : g_dc code 783 (.iaload) 1 784 := ⟨by decide +kernel, rfl⟩
theorem d_law_784 : g_dc code 784 (.aload_n 0) 1 785 := ⟨by decide +kernel, rfl⟩
theorem d_law_785 : g_dc code 785 (.iload_n 3) 1 786 := ⟨by decide +kernel, rfl⟩
theorem d_law_786 : g_dc code 786 (.iconst 2) 1 787 := ⟨by decide +kernel, rfl⟩
theorem d_law_787 : g_dc code 787 (.iadd) 1 788 := ⟨by decide +kernel, rfl⟩
theorem d_law_788 : g_dc code 788 (.iaload) 1 789 := ⟨by decide +kernel, rfl⟩
theorem d_law_789 : g_dc code 789 (.invokevirtual 102) 3 792 := ⟨by decide +kernel, rfl⟩
theorem d_law_792 : g_dc code 792 (.pop) 1 793 := ⟨by decide +kernel, rfl⟩
theorem d_law_793 : g_dc code 793 (.aload_n 2) 1 794 := ⟨by decide +kernel, rfl⟩
theorem d_law_794 : g_dc code 794 (.aload_n 0) 1 795 := ⟨by decide +kernel, rfl⟩
theorem d_law_795 : g_dc code 795 (.iload_n 3) 1 796 := ⟨by decide +kernel, rfl⟩
theorem d_law_796 : g_dc code 796 (.iconst 1) 1 797 := ⟨by decide +kernel, rfl⟩
theorem d_law_797 : g_dc code 797 (.iadd) 1 798 := ⟨by decide +kernel, rfl⟩
theorem d_law_798 : g_dc code 798 (.iaload) 1 799 := ⟨by decide +kernel, rfl⟩
theorem d_law_799 : g_dc code 799 (.aload_n 0) 1 800 := ⟨by decide +kernel, rfl⟩
theorem d_law_800 : g_dc code 800 (.iload_n 3) 1 801 := ⟨by decide +kernel, rfl⟩
theorem d_law_801 : g_dc code 801 (.iconst 2) 1 802 := ⟨by decide +kernel, rfl⟩
theorem d_law_802 : g_dc code 802 (.iadd) 1 803 := ⟨by decide +kernel, rfl⟩
theorem d_law_803 : g_dc code 803 (.iaload) 1 804 := ⟨by decide +kernel, rfl⟩
theorem d_law_804 : g_dc code 804 (.invokevirtual 105) 3 807 := ⟨by decide +kernel, rfl⟩
theorem d_law_807 : g_dc code 807 (.pop) 1 808 := ⟨by decide +kernel, rfl⟩
theorem d_law_808 : g_dc code 808 (.goto 141) 3 811 := ⟨by decide +kernel, rfl⟩
theorem d_law_811 : g_dc code 811 (.aload_n 1) 1 812 := ⟨by decide +kernel, rfl⟩
theorem d_law_812 : g_dc code 812 (.aload_n 0) 1 813 := ⟨by decide +kernel, rfl⟩
theorem d_law_813 : g_dc code 813 (.iload_n 3) 1 814 := ⟨by decide +kernel, rfl⟩
theorem d_law_814 : g_dc code 814 (.iconst 1) 1 815 := ⟨by decide +kernel, rfl⟩
theorem d_law_815 : g_dc code 815 (.iadd) 1 816 := ⟨by decide +kernel, rfl⟩
theorem d_law_816 : g_dc code 816 (.iaload) 1 817 := ⟨by decide +kernel, rfl⟩
theorem d_law_817 : g_dc code 817 (.aload_n 0) 1 818 := ⟨by decide +kernel, rfl⟩
theorem d_law_818 : g_dc code 818 (.iload_n 3) 1 819 := ⟨by decide +kernel, rfl⟩
theorem d_law_819 : g_dc code 819 (.iconst 2) 1 820 := ⟨by decide +kernel, rfl⟩
theorem d_law_820 : g_dc code 820 (.iadd) 1 821 := ⟨by decide +kernel, rfl⟩
theorem d_law_821 : g_dc code 821 (.iaload) 1 822 := ⟨by decide +kernel, rfl⟩
theorem d_law_822 : g_dc code 822 (.aload_n 0) 1 823 := ⟨by decide +kernel, rfl⟩
theorem d_law_823 : g_dc code 823 (.iload_n 3) 1 824 := ⟨by decide +kernel, rfl⟩
theorem d_law_824 : g_dc code 824 (.iconst 3) 1 825 := ⟨by decide +kernel, rfl⟩
theorem d_law_825 : g_dc code 825 (.iadd) 1 826 := ⟨by decide +kernel, rfl⟩
theorem d_law_826 : g_dc code 826 (.iaload) 1 827 := ⟨by decide +kernel, rfl⟩
theorem d_law_827 : g_dc code 827 (.invokevirtual 106) 3 830 := ⟨by decide +kernel, rfl⟩
theorem d_law_830 : g_dc code 830 (.pop) 1 831 := ⟨by decide +kernel, rfl⟩
theorem d_law_831 : g_dc code 831 (.aload_n 2) 1 832 := ⟨by decide +kernel, rfl⟩
theorem d_law_832 : g_dc code 832 (.aload_n 0) 1 833 := ⟨by decide +kernel, rfl⟩
theorem d_law_833 : g_dc code 833 (.iload_n 3) 1 834 := ⟨by decide +kernel, rfl⟩
theorem d_law_834 : g_dc code 834 (.iconst 1) 1 835 := ⟨by decide +kernel, rfl⟩
theorem d_law_835 : g_dc code 835 (.iadd) 1 836 := ⟨by decide +kernel, rfl⟩
theorem d_law_836 : g_dc code 836 (.iaload) 1 837 := ⟨by decide +kernel, rfl⟩
theorem d_law_837 : g_dc code 837 (.aload_n 0) 1 838 := ⟨by decide +kernel, rfl⟩
theorem d_law_838 : g_dc code 838 (.iload_n 3) 1 839 := ⟨by decide +kernel, rfl⟩
theorem d_law_839 : g_dc code 839 (.iconst 2) 1 840 := ⟨by decide +kernel, rfl⟩
theorem d_law_840 : g_dc code 840 (.iadd) 1 841 := ⟨by decide +kernel, rfl⟩
theorem d_law_841 : g_dc code 841 (.iaload) 1 842 := ⟨by decide +kernel, rfl⟩
theorem d_law_842 : g_dc code 842 (.aload_n 0) 1 843 := ⟨by decide +kernel, rfl⟩
theorem d_law_843 : g_dc code 843 (.iload_n 3) 1 844 := ⟨by decide +kernel, rfl⟩
theorem d_law_844 : g_dc code 844 (.iconst 3) 1 845 := ⟨by decide +kernel, rfl⟩
theorem d_law_845 : g_dc code 845 (.iadd) 1 846 := ⟨by decide +kernel, rfl⟩
theorem d_law_846 : g_dc code 846 (.iaload) 1 847 := ⟨by decide +kernel, rfl⟩
theorem d_law_847 : g_dc code 847 (.invokevirtual 109) 3 850 := ⟨by decide +kernel, rfl⟩
theorem d_law_850 : g_dc code 850 (.pop) 1 851 := ⟨by decide +kernel, rfl⟩
theorem d_law_851 : g_dc code 851 (.goto 98) 3 854 := ⟨by decide +kernel, rfl⟩
theorem d_law_854 : g_dc code 854 (.aload_n 1) 1 855 := ⟨by decide +kernel, rfl⟩
theorem d_law_855 : g_dc code 855 (.aload_n 0) 1 856 := ⟨by decide +kernel, rfl⟩
theorem d_law_856 : g_dc code 856 (.iload_n 3) 1 857 := ⟨by decide +kernel, rfl⟩
theorem d_law_857 : g_dc code 857 (.iconst 1) 1 858 := ⟨by decide +kernel, rfl⟩
theorem d_law_858 : g_dc code 858 (.iadd) 1 859 := ⟨by decide +kernel, rfl⟩
theorem d_law_859 : g_dc code 859 (.iaload) 1 860 := ⟨by decide +kernel, rfl⟩
theorem d_law_860 : g_dc code 860 (.invokevirtual 110) 3 863 := ⟨by decide +kernel, rfl⟩
theorem d_law_863 : g_dc code 863 (.pop) 1 864 := ⟨by decide +kernel, rfl⟩
theorem d_law_864 : g_dc code 864 (.aload_n 2) 1 865 := ⟨by decide +kernel, rfl⟩
theorem d_law_865 : g_dc code 865 (.aload_n 0) 1 866 := ⟨by decide +kernel, rfl⟩
theorem d_law_866 : g_dc code 866 (.iload_n 3) 1 867 := ⟨by decide +kernel, rfl⟩
theorem d_law_867 : g_dc code 867 (.iconst 1) 1 868 := ⟨by decide +kernel, rfl⟩
theorem d_law_868 : g_dc code 868 (.iadd) 1 869 := ⟨by decide +kernel, rfl⟩
theorem d_law_869 : g_dc code 869 (.iaload) 1 870 := ⟨by decide +kernel, rfl⟩
theorem d_law_870 : g_dc code 870 (.invokevirtual 113) 3 873 := ⟨by decide +kernel, rfl⟩
theorem d_law_873 : g_dc code 873 (.pop) 1 874 := ⟨by decide +kernel, rfl⟩
theorem d_law_874 : g_dc code 874 (.goto 75) 3 877 := ⟨by decide +kernel, rfl⟩
theorem d_law_877 : g_dc code 877 (.aload_n 1) 1 878 := ⟨by decide +kernel, rfl⟩
theorem d_law_878 : g_dc code 878 (.invokevirtual 114) 3 881 := ⟨by decide +kernel, rfl⟩
theorem d_law_881 : g_dc code 881 (.pop) 1 882 := ⟨by decide +kernel, rfl⟩
theorem d_law_882 : g_dc code 882 (.aload_n 2) 1 883 := ⟨by decide +kernel, rfl⟩
theorem d_law_883 : g_dc code 883 (.invokevirtual 117) 3 886 := ⟨by decide +kernel, rfl⟩
theorem d_law_886 : g_dc code 886 (.pop) 1 887 := ⟨by decide +kernel, rfl⟩
theorem d_law_887 : g_dc code 887 (.goto 62) 3 890 := ⟨by decide +kernel, rfl⟩
theorem d_law_890 : g_dc code 890 (.aload_n 1) 1 891 := ⟨by decide +kernel, rfl⟩
theorem d_law_891 : g_dc code 891 (.invokevirtual 118) 3 894 := ⟨by decide +kernel, rfl⟩
theorem d_law_894 : g_dc code 894 (.pop) 1 895 := ⟨by decide +kernel, rfl⟩
theorem d_law_895 : g_dc code 895 (.aload_n 2) 1 896 := ⟨by decide +kernel, rfl⟩
theorem d_law_896 : g_dc code 896 (.invokevirtual 122) 3 899 := ⟨by decide +kernel, rfl⟩
theorem d_law_899 : g_dc code 899 (.pop) 1 900 := ⟨by decide +kernel, rfl⟩
theorem d_law_900 : g_dc code 900 (.goto 49) 3 903 := ⟨by decide +kernel, rfl⟩
theorem d_law_903 : g_dc code 903 (.aload_n 1) 1 904 := ⟨by decide +kernel, rfl⟩
theorem d_law_904 : g_dc code 904 (.aload_n 0) 1 905 := ⟨by decide +kernel, rfl⟩
theorem d_law_905 : g_dc code 905 (.iload_n 3) 1 906 := ⟨by decide +kernel, rfl⟩
theorem d_law_906 : g_dc code 906 (.iconst 1) 1 907 := ⟨by decide +kernel, rfl⟩
theorem d_law_907 : g_dc code 907 (.iadd) 1 908 := ⟨by decide +kernel, rfl⟩
theorem d_law_908 : g_dc code 908 (.iaload) 1 909 := ⟨by decide +kernel, rfl⟩
theorem d_law_909 : g_dc code 909 (.invokevirtual 123) 3 912 := ⟨by decide +kernel, rfl⟩
theorem d_law_912 : g_dc code 912 (.aload_n 2) 1 913 := ⟨by decide +kernel, rfl⟩
theorem d_law_913 : g_dc code 913 (.aload_n 0) 1 914 := ⟨by decide +kernel, rfl⟩
theorem d_law_914 : g_dc code 914 (.iload_n 3) 1 915 := ⟨by decide +kernel, rfl⟩
theorem d_law_915 : g_dc code 915 (.iconst 1) 1 916 := ⟨by decide +kernel, rfl⟩
theorem d_law_916 : g_dc code 916 (.iadd) 1 917 := ⟨by decide +kernel, rfl⟩
theorem d_law_917 : g_dc code 917 (.iaload) 1 918 := ⟨by decide +kernel, rfl⟩
theorem d_law_918 : g_dc code 918 (.invokevirtual 126) 3 921 := ⟨by decide +kernel, rfl⟩
theorem d_law_921 : g_dc code 921 (.if_icmp .eq 28) 3 924 := ⟨by decide +kernel, rfl⟩
theorem d_law_926 : g_dc code 926 (.aload_n 1) 1 927 := ⟨by decide +kernel, rfl⟩
theorem d_law_927 : g_dc code 927 (.aload_n 0) 1 928 := ⟨by decide +kernel, rfl⟩
theorem d_law_928 : g_dc code 928 (.iload_n 3) 1 929 := ⟨by decide +kernel, rfl⟩
theorem d_law_929 : g_dc code 929 (.iconst 1) 1 930 := ⟨by decide +kernel, rfl⟩
theorem d_law_930 : g_dc code 930 (.iadd) 1 931 := ⟨by decide +kernel, rfl⟩
theorem d_law_931 : g_dc code 931 (.iaload) 1 932 := ⟨by decide +kernel, rfl⟩
theorem d_law_932 : g_dc code 932 (.invokevirtual 127) 3 935 := ⟨by decide +kernel, rfl⟩
theorem d_law_935 : g_dc code 935 (.pop) 1 936 := ⟨by decide +kernel, rfl⟩
theorem d_law_936 : g_dc code 936 (.aload_n 2) 1 937 := ⟨by decide +kernel, rfl⟩
theorem d_law_937 : g_dc code 937 (.aload_n 0) 1 938 := ⟨by decide +kernel, rfl⟩
theorem d_law_938 : g_dc code 938 (.iload_n 3) 1 939 := ⟨by decide +kernel, rfl⟩
theorem d_law_939 : g_dc code 939 (.iconst 1) 1 940 := ⟨by decide +kernel, rfl⟩
theorem d_law_940 : g_dc code 940 (.iadd) 1 941 := ⟨by decide +kernel, rfl⟩
theorem d_law_941 : g_dc code 941 (.iaload) 1 942 := ⟨by decide +kernel, rfl⟩
theorem d_law_942 : g_dc code 942 (.invokevirtual 130) 3 945 := ⟨by decide +kernel, rfl⟩
theorem d_law_945 : g_dc code 945 (.pop) 1 946 := ⟨by decide +kernel, rfl⟩
theorem d_law_946 : g_dc code 946 (.goto 3) 3 949 := ⟨by decide +kernel, rfl⟩
theorem d_law_949 : g_dc code 949 (.iinc 3 7) 3 952 := ⟨by decide +kernel, rfl⟩
theorem d_law_952 : g_dc code 952 (.goto (-934)) 3 955 := ⟨by decide +kernel, rfl⟩
theorem d_law_955 : g_dc code 955 (.iconst 1) 1 956 := ⟨by decide +kernel, rfl⟩
theorem d_law_956 : g_dc code 956 (.ireturn) 1 957 := ⟨by decide +kernel, rfl⟩
set_option maxHeartbeats 8000000 in
set_option maxRecDepth 100000 in
theorem g_law {l : Launch} {X : gX} {E : gE} {b L : Nat} {xs : Nat → Int32} (hL : L ≤ 3584) (cx : g_cx X E 4 l room_1 code RL False) (sx : g_cxs X E 4 l room_1 code RL b L xs) (hend : ∀ {pc pc' k n : Nat} {ws : va_W} {lv : List (Nat × Value)}, g_dc code pc .ireturn 1 pc' → k ≤ 600000 → n ≤ 7302250 → G X E 4 k n ws lv pc [.int 1]) : G X E 4 0 0 [] (lv_args 0 [.ref b]) 0 [] := by
  refine g_new cx cl_X10 [.null, .null, .null, .null, .null, .null, .null, .null, .null, .null, .null, .int 0, .int 0] kl_L_7 d_law_0 (by intro j hj; revert j; decide) (Nat.le_of_ble_eq_true rfl) (Nat.le_of_ble_eq_true rfl) (fun q1 => ?_)
  refine g_weq ([(q1, .inr (10, [.null, .null, .null, .null, .null, .null, .null, .null, .null, .null, .null, .int 0, .int 0]))]) rfl ?_
  refine g_dup cx rfl d_law_3 ?_
  refine g_cIL cx [] [.ref q1] (c_X10_init l X q1) ml_L_9 yI_X10_init d_law_4 (by unfold g_rr; decide) (by decide) (pre := []) rfl rfl (Nat.le_of_ble_eq_true rfl) (fun w3 h4 => ?_)
  obtain ⟨adx, rfl, rfl⟩ := h4
  refine g_astore_n cx [(1, .ref (adx 0)), (0, .ref b)] d_law_7 (by decide) rfl ?_
  refine g_new cx cl_X11 [.int 0, .int 0, .int 0, .int 0, .int 0, .null, .null, .null, .null, .null, .null, .null, .null, .null, .int 0, .int 0, .int 0, .int 0, .int 0, .int 0, .int 0, .int 0, .null, .null, .int 0, .int 0, .int 0, .int 0, .int 0, .null, .null, .null, .null, .null, .null, .null, .null, .null, .null, .null, .null, .null, .int 0, .int 0, .int 0, .int 0, .int 0, .int 0, .int 0, .int 0, .int 0, .int 0, .null, .null, .null, .null, .null, .null, .null, .null, .null, .null, .null, .null, .null, .int 0, .int 0, .int 0, .int 0, .int 0, .int 0, .int 0, .int 0, .null, .null, .int 0, .null, .int 0, .int 0, .int 0, .int 0, .int 0, .int 0, .null, .null, .null, .null, .null, .null, .null, .null] kl_L_10 d_law_8 (by intro j hj; revert j; decide) (Nat.le_of_ble_eq_true rfl) (Nat.le_of_ble_eq_true rfl) (fun q5 => ?_)
  refine g_weq (wX X adx fX0 r0 ++ [(q5, .inr (11, [.int 0, .int 0, .int 0, .int 0, .int 0, .null, .null, .null, .null, .null, .null, .null, .null, .null, .int 0, .int 0, .int 0, .int 0, .int 0, .int 0, .int 0, .int 0, .null, .null, .int 0, .int 0, .int 0, .int 0, .int 0, .null, .null, .null, .null, .null, .null, .null, .null, .null, .null, .null, .null, .null, .int 0, .int 0, .int 0, .int 0, .int 0, .int 0, .int 0, .int 0, .int 0, .int 0, .null, .null, .null, .null, .null, .null, .null, .null, .null, .null, .null, .null, .null, .int 0, .int 0, .int 0, .int 0, .int 0, .int 0, .int 0, .int 0, .null, .null, .int 0, .null, .int 0, .int 0, .int 0, .int 0, .int 0, .int 0, .null, .null, .null, .null, .null, .null, .null, .null]))]) rfl ?_
  refine g_dup cx rfl d_law_11 ?_
  refine g_cIL cx [] [.ref q5] (c_X11_init l X q5) ml_L_12 yI_X11_init d_law_12 (by unfold g_rr; decide) (by decide) (pre := wX X adx fX0 r0) rfl rfl (Nat.le_of_ble_eq_true rfl) (fun w7 h8 => ?_)
  obtain ⟨adm, rfl, rfl⟩ := h8
  refine g_astore_n cx [(2, .ref (adm 0)), (1, .ref (adx 0)), (0, .ref b)] d_law_15 (by decide) rfl ?_
  refine g_iconst cx 0 (by decide) d_law_16 ?_
  refine g_istore_n cx [(3, .int 0), (2, .ref (adm 0)), (1, .ref (adx 0)), (0, .ref b)] d_law_17 (by decide) rfl ?_
  have J18 : ∀ (N : Nat) (F : Nat → Int32) (R : Nat → Nat → Int32) (G0 : Nat → Int32) (S : Nat → Nat → Int32) (zi : Int32), g_ok LK_wX F → g_okR LA_wX R → g_ok LK_wM G0 → g_okR LA_wM S → WT G0 S → WC G0 S → URel F R G0 S → jv 0 3584 zi → (4000 - zi.toInt).toNat < N → G X E 4 100 4131 (wX X adx F R ++ wM X adm G0 S) [(3, .int zi), (2, .ref (adm 0)), (1, .ref (adx 0)), (0, .ref b)] 18 [] := by
    intro N
    induction N with
    | zero => intro F R G0 S zi _ _ _ _ _ _ _ _ hm; exact absurd hm (Nat.not_lt_zero _)
    | succ N ih =>
      intro F R G0 S zi hI hA kI kA kT kC hE pi hm
      refine g_iload_n cx 0 rfl d_law_18 ?_
      refine g_aload_n cx 3 rfl d_law_19 ?_
      refine g_slen sx d_law_20 ?_
      refine g_bipush cx 7 (by decide) d_law_21 ?_
      refine g_isub cx d_law_23 ?_
      refine g_icmp_gt cx 955 d_law_24 (by decide) (fun zc => ?_) (fun zc => ?_)
      · refine g_iconst cx 1 (by decide) d_law_955 ?_
        exact hend d_law_956 (Nat.le_of_ble_eq_true rfl) (Nat.le_of_ble_eq_true rfl)
      · refine g_aload_n cx 3 rfl d_law_27 ?_
        refine g_iload_n cx 0 rfl d_law_28 ?_
        refine g_sld sx d_law_29 (g_six0 hL pi zc) ?_
        refine g_bipush cx 31 (by decide) d_law_30 ?_
        refine g_iand cx d_law_32 ?_
        refine g_topi (fun zy ezy => ?_)
        rcases g_sw 0 26 zy with ⟨zwn, zwh, zwe⟩ | zw
        · have zwd : zwn = 0 ∨ zwn = 1 ∨ zwn = 2 ∨ zwn = 3 ∨ zwn = 4 ∨ zwn = 5 ∨ zwn = 6 ∨ zwn = 7 ∨ zwn = 8 ∨ zwn = 9 ∨ zwn = 10 ∨ zwn = 11 ∨ zwn = 12 ∨ zwn = 13 ∨ zwn = 14 ∨ zwn = 15 ∨ zwn = 16 ∨ zwn = 17 ∨ zwn = 18 ∨ zwn = 19 ∨ zwn = 20 ∨ zwn = 21 ∨ zwn = 22 ∨ zwn = 23 ∨ zwn = 24 ∨ zwn = 25 ∨ zwn = 26 := by omega
          rcases zwd with rfl | rfl | rfl | rfl | rfl | rfl | rfl | rfl | rfl | rfl | rfl | rfl | rfl | rfl | rfl | rfl | rfl | rfl | rfl | rfl | rfl | rfl | rfl | rfl | rfl | rfl | rfl
          · refine g_tableIn cx 156 d_law_33 (by rw [zwe]; decide) (by rw [zwe]; decide) (by rw [zwe]; rfl) (by decide) ?_
            refine g_aload_n cx 2 rfl d_law_156 ?_
            refine g_aload_n cx 3 rfl d_law_157 ?_
            refine g_iload_n cx 0 rfl d_law_158 ?_
            refine g_iconst cx 1 (by decide) d_law_159 ?_
            refine g_iadd cx d_law_160 ?_
            refine g_sld sx d_law_161 (g_six 1 hL pi zc rfl (by decide : Int32.toInt 1 = 1) (by decide)) ?_
            refine g_topi (fun x1 ex1 => ?_)
            refine g_aload_n cx 3 rfl d_law_162 ?_
            refine g_iload_n cx 0 rfl d_law_163 ?_
            refine g_iconst cx 2 (by decide) d_law_164 ?_
            refine g_iadd cx d_law_165 ?_
            refine g_sld sx d_law_166 (g_six 2 hL pi zc rfl (by decide : Int32.toInt 2 = 2) (by decide)) ?_
            refine g_topi (fun x2 ex2 => ?_)
            refine g_cViH cx [.int x1, .int x2] [] (w_X10_table l X adx F R hI hA x1 x2) ml_L_13 yV_X10_table d_law_167 (by unfold g_rr; decide) (by decide) 0 rfl rfl (wr := wM X adm G0 S) (wc := wX X adx F R) rfl rfl (Nat.le_of_ble_eq_true rfl) (fun r3 w4 h5 => ?_)
            obtain ⟨F6, R7, rfl, oF6, oR7, cF6, cR7, pr3, zx8⟩ := h5
            refine g_pop cx rfl d_law_170 ?_
            refine g_aload_n cx 1 rfl d_law_171 ?_
            refine g_aload_n cx 3 rfl d_law_172 ?_
            refine g_iload_n cx 0 rfl d_law_173 ?_
            refine g_iconst cx 1 (by decide) d_law_174 ?_
            refine g_iadd cx d_law_175 ?_
            refine g_sld sx d_law_176 (g_six 1 hL pi zc rfl (by decide : Int32.toInt 1 = 1) (by decide)) ?_
            refine g_topi (fun x9 ex9 => ?_)
            refine g_aload_n cx 3 rfl d_law_177 ?_
            refine g_iload_n cx 0 rfl d_law_178 ?_
            refine g_iconst cx 2 (by decide) d_law_179 ?_
            refine g_iadd cx d_law_180 ?_
            refine g_sld sx d_law_181 (g_six 2 hL pi zc rfl (by decide : Int32.toInt 2 = 2) (by decide)) ?_
            refine g_topi (fun x10 ex10 => ?_)
            refine g_cViH cx [.int x9, .int x10] [] (w_X11_table l X adm G0 S kI kA kT kC x9 x10) ml_L_17 yV_X11_table d_law_182 (by unfold g_rr; decide) (by decide) 0 rfl rfl (wr := wX X adx F6 R7) (wc := wM X adm G0 S) rfl rfl (Nat.le_of_ble_eq_true rfl) (fun r11 w12 h13 => ?_)
            obtain ⟨F14, R15, rfl, oF14, oR15, wTF14, wCF14, cF14, cR15, pr11, zx16⟩ := h13
            refine g_pop cx rfl d_law_185 ?_
            refine g_goto cx 949 d_law_186 (by decide) ?_
            obtain rfl : x1 = x9 := ex1.trans ex9.symm
            obtain rfl : x2 = x10 := ex2.trans ex10.symm
            have u17 : UAns URel (r3, F6, R7) (r11, F14, R15) := by rw [zx8, zx16]; exact ans_table hE _ _
            obtain ⟨zn, ezn⟩ : ∃ z : Int32, z = zi + Int32.ofInt 7 := ⟨_, rfl⟩
            have zs := g_sinc hL pi zc (show zn = zi + 7 from ezn)
            refine g_iinc cx zn [(3, .int zn), (2, .ref (adm 0)), (1, .ref (adx 0)), (0, .ref b)] 0 d_law_949 rfl ezn.symm (by decide) rfl ?_
            refine g_goto cx 18 d_law_952 (by decide) ?_
            exact ih _ _ _ _ zn oF6 oR7 oF14 oR15 wTF14 wCF14 u17.2 zs.1 (Nat.lt_of_lt_of_le zs.2 (Nat.le_of_lt_succ hm))
          · refine g_tableIn cx 189 d_law_33 (by rw [zwe]; decide) (by rw [zwe]; decide) (by rw [zwe]; rfl) (by decide) ?_
            refine g_aload_n cx 2 rfl d_law_189 ?_
            refine g_aload_n cx 3 rfl d_law_190 ?_
            refine g_iload_n cx 0 rfl d_law_191 ?_
            refine g_iconst cx 1 (by decide) d_law_192 ?_
            refine g_iadd cx d_law_193 ?_
            refine g_sld sx d_law_194 (g_six 1 hL pi zc rfl (by decide : Int32.toInt 1 = 1) (by decide)) ?_
            refine g_topi (fun x18 ex18 => ?_)
            refine g_cViH cx [.int x18] [] (w_X10_cloth l X adx F R hI hA x18) ml_L_18 yV_X10_cloth d_law_195 (by unfold g_rr; decide) (by decide) 0 rfl rfl (wr := wM X adm G0 S) (wc := wX X adx F R) rfl rfl (Nat.le_of_ble_eq_true rfl) (fun r19 w20 h21 => ?_)
            obtain ⟨F22, R23, rfl, oF22, oR23, cF22, cR23, pr19, zx24⟩ := h21
            refine g_pop cx rfl d_law_198 ?_
            refine g_aload_n cx 1 rfl d_law_199 ?_
            refine g_aload_n cx 3 rfl d_law_200 ?_
            refine g_iload_n cx 0 rfl d_law_201 ?_
            refine g_iconst cx 1 (by decide) d_law_202 ?_
            refine g_iadd cx d_law_203 ?_
            refine g_sld sx d_law_204 (g_six 1 hL pi zc rfl (by decide : Int32.toInt 1 = 1) (by decide)) ?_
            refine g_topi (fun x25 ex25 => ?_)
            refine g_cViH cx [.int x25] [] (w_X11_cloth l X adm G0 S kI kA kT kC x25) ml_L_22 yV_X11_cloth d_law_205 (by unfold g_rr; decide) (by decide) 0 rfl rfl (wr := wX X adx F22 R23) (wc := wM X adm G0 S) rfl rfl (Nat.le_of_ble_eq_true rfl) (fun r26 w27 h28 => ?_)
            obtain ⟨F29, R30, rfl, oF29, oR30, wTF29, wCF29, cF29, cR30, pr26, zx31⟩ := h28
            refine g_pop cx rfl d_law_208 ?_
            refine g_goto cx 949 d_law_209 (by decide) ?_
            obtain rfl : x18 = x25 := ex18.trans ex25.symm
            have u32 : UAns URel (r19, F22, R23) (r26, F29, R30) := by rw [zx24, zx31]; exact ans_cloth hE _
            obtain ⟨zn, ezn⟩ : ∃ z : Int32, z = zi + Int32.ofInt 7 := ⟨_, rfl⟩
            have zs := g_sinc hL pi zc (show zn = zi + 7 from ezn)
            refine g_iinc cx zn [(3, .int zn), (2, .ref (adm 0)), (1, .ref (adx 0)), (0, .ref b)] 0 d_law_949 rfl ezn.symm (by decide) rfl ?_
            refine g_goto cx 18 d_law_952 (by decide) ?_
            exact ih _ _ _ _ zn oF22 oR23 oF29 oR30 wTF29 wCF29 u32.2 zs.1 (Nat.lt_of_lt_of_le zs.2 (Nat.le_of_lt_succ hm))
          · refine g_tableIn cx 212 d_law_33 (by rw [zwe]; decide) (by rw [zwe]; decide) (by rw [zwe]; rfl) (by decide) ?_
            refine g_aload_n cx 2 rfl d_law_212 ?_
            refine g_aload_n cx 3 rfl d_law_213 ?_
            refine g_iload_n cx 0 rfl d_law_214 ?_
            refine g_iconst cx 1 (by decide) d_law_215 ?_
            refine g_iadd cx d_law_216 ?_
            refine g_sld sx d_law_217 (g_six 1 hL pi zc rfl (by decide : Int32.toInt 1 = 1) (by decide)) ?_
            refine g_topi (fun x33 ex33 => ?_)
            refine g_aload_n cx 3 rfl d_law_218 ?_
            refine g_iload_n cx 0 rfl d_law_219 ?_
            refine g_iconst cx 2 (by decide) d_law_220 ?_
            refine g_iadd cx d_law_221 ?_
            refine g_sld sx d_law_222 (g_six 2 hL pi zc rfl (by decide : Int32.toInt 2 = 2) (by decide)) ?_
            refine g_topi (fun x34 ex34 => ?_)
            refine g_aload_n cx 3 rfl d_law_223 ?_
            refine g_iload_n cx 0 rfl d_law_224 ?_
            refine g_iconst cx 3 (by decide) d_law_225 ?_
            refine g_iadd cx d_law_226 ?_
            refine g_sld sx d_law_227 (g_six 3 hL pi zc rfl (by decide : Int32.toInt 3 = 3) (by decide)) ?_
            refine g_topi (fun x35 ex35 => ?_)
            refine g_aload_n cx 3 rfl d_law_228 ?_
            refine g_iload_n cx 0 rfl d_law_229 ?_
            refine g_iconst cx 4 (by decide) d_law_230 ?_
            refine g_iadd cx d_law_231 ?_
            refine g_sld sx d_law_232 (g_six 4 hL pi zc rfl (by decide : Int32.toInt 4 = 4) (by decide)) ?_
            refine g_topi (fun x36 ex36 => ?_)
            refine g_aload_n cx 3 rfl d_law_233 ?_
            refine g_iload_n cx 0 rfl d_law_234 ?_
            refine g_iconst cx 5 (by decide) d_law_235 ?_
            refine g_iadd cx d_law_236 ?_
            refine g_sld sx d_law_237 (g_six 5 hL pi zc rfl (by decide : Int32.toInt 5 = 5) (by decide)) ?_
            refine g_topi (fun x37 ex37 => ?_)
            refine g_aload_n cx 3 rfl d_law_238 ?_
            refine g_iload_n cx 0 rfl d_law_239 ?_
            refine g_bipush cx 6 (by decide) d_law_240 ?_
            refine g_iadd cx d_law_242 ?_
            refine g_sld sx d_law_243 (g_six 6 hL pi zc rfl (by decide : Int32.toInt 6 = 6) (by decide)) ?_
            refine g_topi (fun x38 ex38 => ?_)
            refine g_cViH cx [.int x33, .int x34, .int x35, .int x36, .int x37, .int x38] [] (w_X10_thing l X adx F R hI hA x33 x34 x35 x36 x37 x38) ml_L_23 yV_X10_thing d_law_244 (by unfold g_rr; decide) (by decide) 0 rfl rfl (wr := wM X adm G0 S) (wc := wX X adx F R) rfl rfl (Nat.le_of_ble_eq_true rfl) (fun r39 w40 h41 => ?_)
            obtain ⟨F42, R43, rfl, oF42, oR43, cF42, cR43, pr39, zx44⟩ := h41
            refine g_pop cx rfl d_law_247 ?_
            refine g_aload_n cx 1 rfl d_law_248 ?_
            refine g_aload_n cx 3 rfl d_law_249 ?_
            refine g_iload_n cx 0 rfl d_law_250 ?_
            refine g_iconst cx 1 (by decide) d_law_251 ?_
            refine g_iadd cx d_law_252 ?_
            refine g_sld sx d_law_253 (g_six 1 hL pi zc rfl (by decide : Int32.toInt 1 = 1) (by decide)) ?_
            refine g_topi (fun x45 ex45 => ?_)
            refine g_aload_n cx 3 rfl d_law_254 ?_
            refine g_iload_n cx 0 rfl d_law_255 ?_
            refine g_iconst cx 2 (by decide) d_law_256 ?_
            refine g_iadd cx d_law_257 ?_
            refine g_sld sx d_law_258 (g_six 2 hL pi zc rfl (by decide : Int32.toInt 2 = 2) (by decide)) ?_
            refine g_topi (fun x46 ex46 => ?_)
            refine g_aload_n cx 3 rfl d_law_259 ?_
            refine g_iload_n cx 0 rfl d_law_260 ?_
            refine g_iconst cx 3 (by decide) d_law_261 ?_
            refine g_iadd cx d_law_262 ?_
            refine g_sld sx d_law_263 (g_six 3 hL pi zc rfl (by decide : Int32.toInt 3 = 3) (by decide)) ?_
            refine g_topi (fun x47 ex47 => ?_)
            refine g_aload_n cx 3 rfl d_law_264 ?_
            refine g_iload_n cx 0 rfl d_law_265 ?_
            refine g_iconst cx 4 (by decide) d_law_266 ?_
            refine g_iadd cx d_law_267 ?_
            refine g_sld sx d_law_268 (g_six 4 hL pi zc rfl (by decide : Int32.toInt 4 = 4) (by decide)) ?_
            refine g_topi (fun x48 ex48 => ?_)
            refine g_aload_n cx 3 rfl d_law_269 ?_
            refine g_iload_n cx 0 rfl d_law_270 ?_
            refine g_iconst cx 5 (by decide) d_law_271 ?_
            refine g_iadd cx d_law_272 ?_
            refine g_sld sx d_law_273 (g_six 5 hL pi zc rfl (by decide : Int32.toInt 5 = 5) (by decide)) ?_
            refine g_topi (fun x49 ex49 => ?_)
            refine g_aload_n cx 3 rfl d_law_274 ?_
            refine g_iload_n cx 0 rfl d_law_275 ?_
            refine g_bipush cx 6 (by decide) d_law_276 ?_
            refine g_iadd cx d_law_278 ?_
            refine g_sld sx d_law_279 (g_six 6 hL pi zc rfl (by decide : Int32.toInt 6 = 6) (by decide)) ?_
            refine g_topi (fun x50 ex50 => ?_)
            refine g_cViH cx [.int x45, .int x46, .int x47, .int x48, .int x49, .int x50] [] (w_X11_thing l X adm G0 S kI kA kT kC x45 x46 x47 x48 x49 x50) ml_L_27 yV_X11_thing d_law_280 (by unfold g_rr; decide) (by decide) 0 rfl rfl (wr := wX X adx F42 R43) (wc := wM X adm G0 S) rfl rfl (Nat.le_of_ble_eq_true rfl) (fun r51 w52 h53 => ?_)
            obtain ⟨F54, R55, rfl, oF54, oR55, wTF54, wCF54, cF54, cR55, pr51, zx56⟩ := h53
            refine g_pop cx rfl d_law_283 ?_
            refine g_goto cx 949 d_law_284 (by decide) ?_
            obtain rfl : x33 = x45 := ex33.trans ex45.symm
            obtain rfl : x34 = x46 := ex34.trans ex46.symm
            obtain rfl : x35 = x47 := ex35.trans ex47.symm
            obtain rfl : x36 = x48 := ex36.trans ex48.symm
            obtain rfl : x37 = x49 := ex37.trans ex49.symm
            obtain rfl : x38 = x50 := ex38.trans ex50.symm
            have u57 : UAns URel (r39, F42, R43) (r51, F54, R55) := by rw [zx44, zx56]; exact ans_thing hE _ _ _ _ _ _
            obtain ⟨zn, ezn⟩ : ∃ z : Int32, z = zi + Int32.ofInt 7 := ⟨_, rfl⟩
            have zs := g_sinc hL pi zc (show zn = zi + 7 from ezn)
            refine g_iinc cx zn [(3, .int zn), (2, .ref (adm 0)), (1, .ref (adx 0)), (0, .ref b)] 0 d_law_949 rfl ezn.symm (by decide) rfl ?_
            refine g_goto cx 18 d_law_952 (by decide) ?_
            exact ih _ _ _ _ zn oF42 oR43 oF54 oR55 wTF54 wCF54 u57.2 zs.1 (Nat.lt_of_lt_of_le zs.2 (Nat.le_of_lt_succ hm))
          · refine g_tableIn cx 287 d_law_33 (by rw [zwe]; decide) (by rw [zwe]; decide) (by rw [zwe]; rfl) (by decide) ?_
            refine g_aload_n cx 2 rfl d_law_287 ?_
            refine g_aload_n cx 3 rfl d_law_288 ?_
            refine g_iload_n cx 0 rfl d_law_289 ?_
            refine g_iconst cx 1 (by decide) d_law_290 ?_
            refine g_iadd cx d_law_291 ?_
            refine g_sld sx d_law_292 (g_six 1 hL pi zc rfl (by decide : Int32.toInt 1 = 1) (by decide)) ?_
            refine g_topi (fun x58 ex58 => ?_)
            refine g_aload_n cx 3 rfl d_law_293 ?_
            refine g_iload_n cx 0 rfl d_law_294 ?_
            refine g_iconst cx 2 (by decide) d_law_295 ?_
            refine g_iadd cx d_law_296 ?_
            refine g_sld sx d_law_297 (g_six 2 hL pi zc rfl (by decide : Int32.toInt 2 = 2) (by decide)) ?_
            refine g_topi (fun x59 ex59 => ?_)
            refine g_aload_n cx 3 rfl d_law_298 ?_
            refine g_iload_n cx 0 rfl d_law_299 ?_
            refine g_iconst cx 3 (by decide) d_law_300 ?_
            refine g_iadd cx d_law_301 ?_
            refine g_sld sx d_law_302 (g_six 3 hL pi zc rfl (by decide : Int32.toInt 3 = 3) (by decide)) ?_
            refine g_topi (fun x60 ex60 => ?_)
            refine g_aload_n cx 3 rfl d_law_303 ?_
            refine g_iload_n cx 0 rfl d_law_304 ?_
            refine g_iconst cx 4 (by decide) d_law_305 ?_
            refine g_iadd cx d_law_306 ?_
            refine g_sld sx d_law_307 (g_six 4 hL pi zc rfl (by decide : Int32.toInt 4 = 4) (by decide)) ?_
            refine g_topi (fun x61 ex61 => ?_)
            refine g_cViH cx [.int x58, .int x59, .int x60, .int x61] [] (w_X10_more l X adx F R hI hA x58 x59 x60 x61) ml_L_28 yV_X10_more d_law_308 (by unfold g_rr; decide) (by decide) 0 rfl rfl (wr := wM X adm G0 S) (wc := wX X adx F R) rfl rfl (Nat.le_of_ble_eq_true rfl) (fun r62 w63 h64 => ?_)
            obtain ⟨F65, R66, rfl, oF65, oR66, cF65, cR66, pr62, zx67⟩ := h64
            refine g_pop cx rfl d_law_311 ?_
            refine g_aload_n cx 1 rfl d_law_312 ?_
            refine g_aload_n cx 3 rfl d_law_313 ?_
            refine g_iload_n cx 0 rfl d_law_314 ?_
            refine g_iconst cx 1 (by decide) d_law_315 ?_
            refine g_iadd cx d_law_316 ?_
            refine g_sld sx d_law_317 (g_six 1 hL pi zc rfl (by decide : Int32.toInt 1 = 1) (by decide)) ?_
            refine g_topi (fun x68 ex68 => ?_)
            refine g_aload_n cx 3 rfl d_law_318 ?_
            refine g_iload_n cx 0 rfl d_law_319 ?_
            refine g_iconst cx 2 (by decide) d_law_320 ?_
            refine g_iadd cx d_law_321 ?_
            refine g_sld sx d_law_322 (g_six 2 hL pi zc rfl (by decide : Int32.toInt 2 = 2) (by decide)) ?_
            refine g_topi (fun x69 ex69 => ?_)
            refine g_aload_n cx 3 rfl d_law_323 ?_
            refine g_iload_n cx 0 rfl d_law_324 ?_
            refine g_iconst cx 3 (by decide) d_law_325 ?_
            refine g_iadd cx d_law_326 ?_
            refine g_sld sx d_law_327 (g_six 3 hL pi zc rfl (by decide : Int32.toInt 3 = 3) (by decide)) ?_
            refine g_topi (fun x70 ex70 => ?_)
            refine g_aload_n cx 3 rfl d_law_328 ?_
            refine g_iload_n cx 0 rfl d_law_329 ?_
            refine g_iconst cx 4 (by decide) d_law_330 ?_
            refine g_iadd cx d_law_331 ?_
            refine g_sld sx d_law_332 (g_six 4 hL pi zc rfl (by decide : Int32.toInt 4 = 4) (by decide)) ?_
            refine g_topi (fun x71 ex71 => ?_)
            refine g_cViH cx [.int x68, .int x69, .int x70, .int x71] [] (w_X11_more l X adm G0 S kI kA kT kC x68 x69 x70 x71) ml_L_32 yV_X11_more d_law_333 (by unfold g_rr; decide) (by decide) 0 rfl rfl (wr := wX X adx F65 R66) (wc := wM X adm G0 S) rfl rfl (Nat.le_of_ble_eq_true rfl) (fun r72 w73 h74 => ?_)
            obtain ⟨F75, R76, rfl, oF75, oR76, wTF75, wCF75, cF75, cR76, pr72, zx77⟩ := h74
            refine g_pop cx rfl d_law_336 ?_
            refine g_goto cx 949 d_law_337 (by decide) ?_
            obtain rfl : x58 = x68 := ex58.trans ex68.symm
            obtain rfl : x59 = x69 := ex59.trans ex69.symm
            obtain rfl : x60 = x70 := ex60.trans ex70.symm
            obtain rfl : x61 = x71 := ex61.trans ex71.symm
            have u78 : UAns URel (r62, F65, R66) (r72, F75, R76) := by rw [zx67, zx77]; exact ans_more hE _ _ _ _
            obtain ⟨zn, ezn⟩ : ∃ z : Int32, z = zi + Int32.ofInt 7 := ⟨_, rfl⟩
            have zs := g_sinc hL pi zc (show zn = zi + 7 from ezn)
            refine g_iinc cx zn [(3, .int zn), (2, .ref (adm 0)), (1, .ref (adx 0)), (0, .ref b)] 0 d_law_949 rfl ezn.symm (by decide) rfl ?_
            refine g_goto cx 18 d_law_952 (by decide) ?_
            exact ih _ _ _ _ zn oF65 oR66 oF75 oR76 wTF75 wCF75 u78.2 zs.1 (Nat.lt_of_lt_of_le zs.2 (Nat.le_of_lt_succ hm))
          · refine g_tableIn cx 340 d_law_33 (by rw [zwe]; decide) (by rw [zwe]; decide) (by rw [zwe]; rfl) (by decide) ?_
            refine g_aload_n cx 2 rfl d_law_340 ?_
            refine g_aload_n cx 3 rfl d_law_341 ?_
            refine g_iload_n cx 0 rfl d_law_342 ?_
            refine g_iconst cx 1 (by decide) d_law_343 ?_
            refine g_iadd cx d_law_344 ?_
            refine g_sld sx d_law_345 (g_six 1 hL pi zc rfl (by decide : Int32.toInt 1 = 1) (by decide)) ?_
            refine g_topi (fun x79 ex79 => ?_)
            refine g_cViH cx [.int x79] [] (w_X10_away l X adx F R hI hA x79) ml_L_33 yV_X10_away d_law_346 (by unfold g_rr; decide) (by decide) 0 rfl rfl (wr := wM X adm G0 S) (wc := wX X adx F R) rfl rfl (Nat.le_of_ble_eq_true rfl) (fun r80 w81 h82 => ?_)
            obtain ⟨F83, R84, rfl, oF83, oR84, cF83, cR84, pr80, zx85⟩ := h82
            refine g_pop cx rfl d_law_349 ?_
            refine g_aload_n cx 1 rfl d_law_350 ?_
            refine g_aload_n cx 3 rfl d_law_351 ?_
            refine g_iload_n cx 0 rfl d_law_352 ?_
            refine g_iconst cx 1 (by decide) d_law_353 ?_
            refine g_iadd cx d_law_354 ?_
            refine g_sld sx d_law_355 (g_six 1 hL pi zc rfl (by decide : Int32.toInt 1 = 1) (by decide)) ?_
            refine g_topi (fun x86 ex86 => ?_)
            refine g_cViH cx [.int x86] [] (w_X11_away l X adm G0 S kI kA kT kC x86) ml_L_36 yV_X11_away d_law_356 (by unfold g_rr; decide) (by decide) 0 rfl rfl (wr := wX X adx F83 R84) (wc := wM X adm G0 S) rfl rfl (Nat.le_of_ble_eq_true rfl) (fun r87 w88 h89 => ?_)
            obtain ⟨F90, R91, rfl, oF90, oR91, wTF90, wCF90, cF90, cR91, pr87, zx92⟩ := h89
            refine g_pop cx rfl d_law_359 ?_
            refine g_goto cx 949 d_law_360 (by decide) ?_
            obtain rfl : x79 = x86 := ex79.trans ex86.symm
            have u93 : UAns URel (r80, F83, R84) (r87, F90, R91) := by rw [zx85, zx92]; exact ans_away hE _
            obtain ⟨zn, ezn⟩ : ∃ z : Int32, z = zi + Int32.ofInt 7 := ⟨_, rfl⟩
            have zs := g_sinc hL pi zc (show zn = zi + 7 from ezn)
            refine g_iinc cx zn [(3, .int zn), (2, .ref (adm 0)), (1, .ref (adx 0)), (0, .ref b)] 0 d_law_949 rfl ezn.symm (by decide) rfl ?_
            refine g_goto cx 18 d_law_952 (by decide) ?_
            exact ih _ _ _ _ zn oF83 oR84 oF90 oR91 wTF90 wCF90 u93.2 zs.1 (Nat.lt_of_lt_of_le zs.2 (Nat.le_of_lt_succ hm))
          · refine g_tableIn cx 363 d_law_33 (by rw [zwe]; decide) (by rw [zwe]; decide) (by rw [zwe]; rfl) (by decide) ?_
            refine g_aload_n cx 2 rfl d_law_363 ?_
            refine g_aload_n cx 3 rfl d_law_364 ?_
            refine g_iload_n cx 0 rfl d_law_365 ?_
            refine g_iconst cx 1 (by decide) d_law_366 ?_
            refine g_iadd cx d_law_367 ?_
            refine g_sld sx d_law_368 (g_six 1 hL pi zc rfl (by decide : Int32.toInt 1 = 1) (by decide)) ?_
            refine g_topi (fun x94 ex94 => ?_)
            refine g_aload_n cx 3 rfl d_law_369 ?_
            refine g_iload_n cx 0 rfl d_law_370 ?_
            refine g_iconst cx 2 (by decide) d_law_371 ?_
            refine g_iadd cx d_law_372 ?_
            refine g_sld sx d_law_373 (g_six 2 hL pi zc rfl (by decide : Int32.toInt 2 = 2) (by decide)) ?_
            refine g_topi (fun x95 ex95 => ?_)
            refine g_aload_n cx 3 rfl d_law_374 ?_
            refine g_iload_n cx 0 rfl d_law_375 ?_
            refine g_iconst cx 3 (by decide) d_law_376 ?_
            refine g_iadd cx d_law_377 ?_
            refine g_sld sx d_law_378 (g_six 3 hL pi zc rfl (by decide : Int32.toInt 3 = 3) (by decide)) ?_
            refine g_topi (fun x96 ex96 => ?_)
            refine g_aload_n cx 3 rfl d_law_379 ?_
            refine g_iload_n cx 0 rfl d_law_380 ?_
            refine g_iconst cx 4 (by decide) d_law_381 ?_
            refine g_iadd cx d_law_382 ?_
            refine g_sld sx d_law_383 (g_six 4 hL pi zc rfl (by decide : Int32.toInt 4 = 4) (by decide)) ?_
            refine g_topi (fun x97 ex97 => ?_)
            refine g_aload_n cx 3 rfl d_law_384 ?_
            refine g_iload_n cx 0 rfl d_law_385 ?_
            refine g_iconst cx 5 (by decide) d_law_386 ?_
            refine g_iadd cx d_law_387 ?_
            refine g_sld sx d_law_388 (g_six 5 hL pi zc rfl (by decide : Int32.toInt 5 = 5) (by decide)) ?_
            refine g_topi (fun x98 ex98 => ?_)
            refine g_cViH cx [.int x94, .int x95, .int x96, .int x97, .int x98] [] (w_X10_feed l X adx F R hI hA x94 x95 x96 x97 x98) ml_L_37 yV_X10_feed d_law_389 (by unfold g_rr; decide) (by decide) 0 rfl rfl (wr := wM X adm G0 S) (wc := wX X adx F R) rfl rfl (Nat.le_of_ble_eq_true rfl) (fun r99 w100 h101 => ?_)
            obtain ⟨F102, R103, rfl, oF102, oR103, cF102, cR103, pr99, zx104⟩ := h101
            refine g_pop cx rfl d_law_392 ?_
            refine g_aload_n cx 1 rfl d_law_393 ?_
            refine g_aload_n cx 3 rfl d_law_394 ?_
            refine g_iload_n cx 0 rfl d_law_395 ?_
            refine g_iconst cx 1 (by decide) d_law_396 ?_
            refine g_iadd cx d_law_397 ?_
            refine g_sld sx d_law_398 (g_six 1 hL pi zc rfl (by decide : Int32.toInt 1 = 1) (by decide)) ?_
            refine g_topi (fun x105 ex105 => ?_)
            refine g_aload_n cx 3 rfl d_law_399 ?_
            refine g_iload_n cx 0 rfl d_law_400 ?_
            refine g_iconst cx 2 (by decide) d_law_401 ?_
            refine g_iadd cx d_law_402 ?_
            refine g_sld sx d_law_403 (g_six 2 hL pi zc rfl (by decide : Int32.toInt 2 = 2) (by decide)) ?_
            refine g_topi (fun x106 ex106 => ?_)
            refine g_aload_n cx 3 rfl d_law_404 ?_
            refine g_iload_n cx 0 rfl d_law_405 ?_
            refine g_iconst cx 3 (by decide) d_law_406 ?_
            refine g_iadd cx d_law_407 ?_
            refine g_sld sx d_law_408 (g_six 3 hL pi zc rfl (by decide : Int32.toInt 3 = 3) (by decide)) ?_
            refine g_topi (fun x107 ex107 => ?_)
            refine g_aload_n cx 3 rfl d_law_409 ?_
            refine g_iload_n cx 0 rfl d_law_410 ?_
            refine g_iconst cx 4 (by decide) d_law_411 ?_
            refine g_iadd cx d_law_412 ?_
            refine g_sld sx d_law_413 (g_six 4 hL pi zc rfl (by decide : Int32.toInt 4 = 4) (by decide)) ?_
            refine g_topi (fun x108 ex108 => ?_)
            refine g_aload_n cx 3 rfl d_law_414 ?_
            refine g_iload_n cx 0 rfl d_law_415 ?_
            refine g_iconst cx 5 (by decide) d_law_416 ?_
            refine g_iadd cx d_law_417 ?_
            refine g_sld sx d_law_418 (g_six 5 hL pi zc rfl (by decide : Int32.toInt 5 = 5) (by decide)) ?_
            refine g_topi (fun x109 ex109 => ?_)
            refine g_cViH cx [.int x105, .int x106, .int x107, .int x108, .int x109] [] (w_X11_feed l X adm G0 S kI kA kT kC x105 x106 x107 x108 x109) ml_L_41 yV_X11_feed d_law_419 (by unfold g_rr; decide) (by decide) 0 rfl rfl (wr := wX X adx F102 R103) (wc := wM X adm G0 S) rfl rfl (Nat.le_of_ble_eq_true rfl) (fun r110 w111 h112 => ?_)
            obtain ⟨F113, R114, rfl, oF113, oR114, wTF113, wCF113, cF113, cR114, pr110, zx115⟩ := h112
            refine g_pop cx rfl d_law_422 ?_
            refine g_goto cx 949 d_law_423 (by decide) ?_
            obtain rfl : x94 = x105 := ex94.trans ex105.symm
            obtain rfl : x95 = x106 := ex95.trans ex106.symm
            obtain rfl : x96 = x107 := ex96.trans ex107.symm
            obtain rfl : x97 = x108 := ex97.trans ex108.symm
            obtain rfl : x98 = x109 := ex98.trans ex109.symm
            have u116 : UAns URel (r99, F102, R103) (r110, F113, R114) := by rw [zx104, zx115]; exact ans_feed hE _ _ _ _ _
            obtain ⟨zn, ezn⟩ : ∃ z : Int32, z = zi + Int32.ofInt 7 := ⟨_, rfl⟩
            have zs := g_sinc hL pi zc (show zn = zi + 7 from ezn)
            refine g_iinc cx zn [(3, .int zn), (2, .ref (adm 0)), (1, .ref (adx 0)), (0, .ref b)] 0 d_law_949 rfl ezn.symm (by decide) rfl ?_
            refine g_goto cx 18 d_law_952 (by decide) ?_
            exact ih _ _ _ _ zn oF102 oR103 oF113 oR114 wTF113 wCF113 u116.2 zs.1 (Nat.lt_of_lt_of_le zs.2 (Nat.le_of_lt_succ hm))
          · refine g_tableIn cx 426 d_law_33 (by rw [zwe]; decide) (by rw [zwe]; decide) (by rw [zwe]; rfl) (by decide) ?_
            refine g_aload_n cx 2 rfl d_law_426 ?_
            refine g_aload_n cx 3 rfl d_law_427 ?_
            refine g_iload_n cx 0 rfl d_law_428 ?_
            refine g_iconst cx 1 (by decide) d_law_429 ?_
            refine g_iadd cx d_law_430 ?_
            refine g_sld sx d_law_431 (g_six 1 hL pi zc rfl (by decide : Int32.toInt 1 = 1) (by decide)) ?_
            refine g_topi (fun x117 ex117 => ?_)
            refine g_cViH cx [.int x117] [] (w_X10_pull l X adx F R hI hA x117) ml_L_42 yV_X10_pull d_law_432 (by unfold g_rr; decide) (by decide) 0 rfl rfl (wr := wM X adm G0 S) (wc := wX X adx F R) rfl rfl (Nat.le_of_ble_eq_true rfl) (fun r118 w119 h120 => ?_)
            obtain ⟨F121, R122, rfl, oF121, oR122, cF121, cR122, pr118, zx123⟩ := h120
            refine g_pop cx rfl d_law_435 ?_
            refine g_aload_n cx 1 rfl d_law_436 ?_
            refine g_aload_n cx 3 rfl d_law_437 ?_
            refine g_iload_n cx 0 rfl d_law_438 ?_
            refine g_iconst cx 1 (by decide) d_law_439 ?_
            refine g_iadd cx d_law_440 ?_
            refine g_sld sx d_law_441 (g_six 1 hL pi zc rfl (by decide : Int32.toInt 1 = 1) (by decide)) ?_
            refine g_topi (fun x124 ex124 => ?_)
            refine g_cViH cx [.int x124] [] (w_X11_pull l X adm G0 S kI kA kT kC x124) ml_L_46 yV_X11_pull d_law_442 (by unfold g_rr; decide) (by decide) 0 rfl rfl (wr := wX X adx F121 R122) (wc := wM X adm G0 S) rfl rfl (Nat.le_of_ble_eq_true rfl) (fun r125 w126 h127 => ?_)
            obtain ⟨F128, R129, rfl, oF128, oR129, wTF128, wCF128, cF128, cR129, pr125, zx130⟩ := h127
            refine g_pop cx rfl d_law_445 ?_
            refine g_goto cx 949 d_law_446 (by decide) ?_
            obtain rfl : x117 = x124 := ex117.trans ex124.symm
            have u131 : UAns URel (r118, F121, R122) (r125, F128, R129) := by rw [zx123, zx130]; exact ans_pull hE _
            obtain ⟨zn, ezn⟩ : ∃ z : Int32, z = zi + Int32.ofInt 7 := ⟨_, rfl⟩
            have zs := g_sinc hL pi zc (show zn = zi + 7 from ezn)
            refine g_iinc cx zn [(3, .int zn), (2, .ref (adm 0)), (1, .ref (adx 0)), (0, .ref b)] 0 d_law_949 rfl ezn.symm (by decide) rfl ?_
            refine g_goto cx 18 d_law_952 (by decide) ?_
            exact ih _ _ _ _ zn oF121 oR122 oF128 oR129 wTF128 wCF128 u131.2 zs.1 (Nat.lt_of_lt_of_le zs.2 (Nat.le_of_lt_succ hm))
          · refine g_tableIn cx 449 d_law_33 (by rw [zwe]; decide) (by rw [zwe]; decide) (by rw [zwe]; rfl) (by decide) ?_
            refine g_aload_n cx 2 rfl d_law_449 ?_
            refine g_aload_n cx 3 rfl d_law_450 ?_
            refine g_iload_n cx 0 rfl d_law_451 ?_
            refine g_iconst cx 1 (by decide) d_law_452 ?_
            refine g_iadd cx d_law_453 ?_
            refine g_sld sx d_law_454 (g_six 1 hL pi zc rfl (by decide : Int32.toInt 1 = 1) (by decide)) ?_
            refine g_topi (fun x132 ex132 => ?_)
            refine g_cViH cx [.int x132] [] (w_X10_law l X adx F R hI hA x132) ml_L_47 yV_X10_law d_law_455 (by unfold g_rr; decide) (by decide) 0 rfl rfl (wr := wM X adm G0 S) (wc := wX X adx F R) rfl rfl (Nat.le_of_ble_eq_true rfl) (fun r133 w134 h135 => ?_)
            obtain ⟨F136, R137, rfl, oF136, oR137, cF136, cR137, pr133, zx138⟩ := h135
            refine g_pop cx rfl d_law_458 ?_
            refine g_aload_n cx 1 rfl d_law_459 ?_
            refine g_aload_n cx 3 rfl d_law_460 ?_
            refine g_iload_n cx 0 rfl d_law_461 ?_
            refine g_iconst cx 1 (by decide) d_law_462 ?_
            refine g_iadd cx d_law_463 ?_
            refine g_sld sx d_law_464 (g_six 1 hL pi zc rfl (by decide : Int32.toInt 1 = 1) (by decide)) ?_
            refine g_topi (fun x139 ex139 => ?_)
            refine g_cViH cx [.int x139] [] (w_X11_law l X adm G0 S kI kA kT kC x139) ml_L_50 yV_X11_law d_law_465 (by unfold g_rr; decide) (by decide) 0 rfl rfl (wr := wX X adx F136 R137) (wc := wM X adm G0 S) rfl rfl (Nat.le_of_ble_eq_true rfl) (fun r140 w141 h142 => ?_)
            obtain ⟨F143, R144, rfl, oF143, oR144, wTF143, wCF143, cF143, cR144, pr140, zx145⟩ := h142
            refine g_pop cx rfl d_law_468 ?_
            refine g_goto cx 949 d_law_469 (by decide) ?_
            obtain rfl : x132 = x139 := ex132.trans ex139.symm
            have u146 : UAns URel (r133, F136, R137) (r140, F143, R144) := by rw [zx138, zx145]; exact ans_law hE _
            obtain ⟨zn, ezn⟩ : ∃ z : Int32, z = zi + Int32.ofInt 7 := ⟨_, rfl⟩
            have zs := g_sinc hL pi zc (show zn = zi + 7 from ezn)
            refine g_iinc cx zn [(3, .int zn), (2, .ref (adm 0)), (1, .ref (adx 0)), (0, .ref b)] 0 d_law_949 rfl ezn.symm (by decide) rfl ?_
            refine g_goto cx 18 d_law_952 (by decide) ?_
            exact ih _ _ _ _ zn oF136 oR137 oF143 oR144 wTF143 wCF143 u146.2 zs.1 (Nat.lt_of_lt_of_le zs.2 (Nat.le_of_lt_succ hm))
          · refine g_tableIn cx 472 d_law_33 (by rw [zwe]; decide) (by rw [zwe]; decide) (by rw [zwe]; rfl) (by decide) ?_
            refine g_aload_n cx 2 rfl d_law_472 ?_
            refine g_aload_n cx 3 rfl d_law_473 ?_
            refine g_iload_n cx 0 rfl d_law_474 ?_
            refine g_iconst cx 1 (by decide) d_law_475 ?_
            refine g_iadd cx d_law_476 ?_
            refine g_sld sx d_law_477 (g_six 1 hL pi zc rfl (by decide : Int32.toInt 1 = 1) (by decide)) ?_
            refine g_topi (fun x147 ex147 => ?_)
            refine g_cViH cx [.int x147] [] (w_X10_tried l X adx F R hI hA x147) ml_L_51 yV_X10_tried d_law_478 (by unfold g_rr; decide) (by decide) 0 rfl rfl (wr := wM X adm G0 S) (wc := wX X adx F R) rfl rfl (Nat.le_of_ble_eq_true rfl) (fun r148 w149 h150 => ?_)
            obtain ⟨F151, R152, rfl, oF151, oR152, cF151, cR152, pr148, zx153⟩ := h150
            refine g_pop cx rfl d_law_481 ?_
            refine g_aload_n cx 1 rfl d_law_482 ?_
            refine g_aload_n cx 3 rfl d_law_483 ?_
            refine g_iload_n cx 0 rfl d_law_484 ?_
            refine g_iconst cx 1 (by decide) d_law_485 ?_
            refine g_iadd cx d_law_486 ?_
            refine g_sld sx d_law_487 (g_six 1 hL pi zc rfl (by decide : Int32.toInt 1 = 1) (by decide)) ?_
            refine g_topi (fun x154 ex154 => ?_)
            refine g_cViH cx [.int x154] [] (w_X11_tried l X adm G0 S kI kA kT kC x154) ml_L_54 yV_X11_tried d_law_488 (by unfold g_rr; decide) (by decide) 0 rfl rfl (wr := wX X adx F151 R152) (wc := wM X adm G0 S) rfl rfl (Nat.le_of_ble_eq_true rfl) (fun r155 w156 h157 => ?_)
            obtain ⟨F158, R159, rfl, oF158, oR159, wTF158, wCF158, cF158, cR159, pr155, zx160⟩ := h157
            refine g_pop cx rfl d_law_491 ?_
            refine g_goto cx 949 d_law_492 (by decide) ?_
            obtain rfl : x147 = x154 := ex147.trans ex154.symm
            have u161 : UAns URel (r148, F151, R152) (r155, F158, R159) := by rw [zx153, zx160]; exact ans_tried hE _
            obtain ⟨zn, ezn⟩ : ∃ z : Int32, z = zi + Int32.ofInt 7 := ⟨_, rfl⟩
            have zs := g_sinc hL pi zc (show zn = zi + 7 from ezn)
            refine g_iinc cx zn [(3, .int zn), (2, .ref (adm 0)), (1, .ref (adx 0)), (0, .ref b)] 0 d_law_949 rfl ezn.symm (by decide) rfl ?_
            refine g_goto cx 18 d_law_952 (by decide) ?_
            exact ih _ _ _ _ zn oF151 oR152 oF158 oR159 wTF158 wCF158 u161.2 zs.1 (Nat.lt_of_lt_of_le zs.2 (Nat.le_of_lt_succ hm))
          · refine g_tableIn cx 495 d_law_33 (by rw [zwe]; decide) (by rw [zwe]; decide) (by rw [zwe]; rfl) (by decide) ?_
            refine g_aload_n cx 2 rfl d_law_495 ?_
            refine g_aload_n cx 3 rfl d_law_496 ?_
            refine g_iload_n cx 0 rfl d_law_497 ?_
            refine g_iconst cx 1 (by decide) d_law_498 ?_
            refine g_iadd cx d_law_499 ?_
            refine g_sld sx d_law_500 (g_six 1 hL pi zc rfl (by decide : Int32.toInt 1 = 1) (by decide)) ?_
            refine g_topi (fun x162 ex162 => ?_)
            refine g_cViH cx [.int x162] [] (w_X10_still l X adx F R hI hA x162) ml_L_55 yV_X10_still d_law_501 (by unfold g_rr; decide) (by decide) 0 rfl rfl (wr := wM X adm G0 S) (wc := wX X adx F R) rfl rfl (Nat.le_of_ble_eq_true rfl) (fun r163 w164 h165 => ?_)
            obtain ⟨F166, R167, rfl, oF166, oR167, cF166, cR167, pr163, zx168⟩ := h165
            refine g_pop cx rfl d_law_504 ?_
            refine g_aload_n cx 1 rfl d_law_505 ?_
            refine g_aload_n cx 3 rfl d_law_506 ?_
            refine g_iload_n cx 0 rfl d_law_507 ?_
            refine g_iconst cx 1 (by decide) d_law_508 ?_
            refine g_iadd cx d_law_509 ?_
            refine g_sld sx d_law_510 (g_six 1 hL pi zc rfl (by decide : Int32.toInt 1 = 1) (by decide)) ?_
            refine g_topi (fun x169 ex169 => ?_)
            refine g_cViH cx [.int x169] [] (w_X11_still l X adm G0 S kI kA kT kC x169) ml_L_58 yV_X11_still d_law_511 (by unfold g_rr; decide) (by decide) 0 rfl rfl (wr := wX X adx F166 R167) (wc := wM X adm G0 S) rfl rfl (Nat.le_of_ble_eq_true rfl) (fun r170 w171 h172 => ?_)
            obtain ⟨F173, R174, rfl, oF173, oR174, wTF173, wCF173, cF173, cR174, pr170, zx175⟩ := h172
            refine g_pop cx rfl d_law_514 ?_
            refine g_goto cx 949 d_law_515 (by decide) ?_
            obtain rfl : x162 = x169 := ex162.trans ex169.symm
            have u176 : UAns URel (r163, F166, R167) (r170, F173, R174) := by rw [zx168, zx175]; exact ans_still hE _
            obtain ⟨zn, ezn⟩ : ∃ z : Int32, z = zi + Int32.ofInt 7 := ⟨_, rfl⟩
            have zs := g_sinc hL pi zc (show zn = zi + 7 from ezn)
            refine g_iinc cx zn [(3, .int zn), (2, .ref (adm 0)), (1, .ref (adx 0)), (0, .ref b)] 0 d_law_949 rfl ezn.symm (by decide) rfl ?_
            refine g_goto cx 18 d_law_952 (by decide) ?_
            exact ih _ _ _ _ zn oF166 oR167 oF173 oR174 wTF173 wCF173 u176.2 zs.1 (Nat.lt_of_lt_of_le zs.2 (Nat.le_of_lt_succ hm))
          · refine g_tableIn cx 518 d_law_33 (by rw [zwe]; decide) (by rw [zwe]; decide) (by rw [zwe]; rfl) (by decide) ?_
            refine g_aload_n cx 2 rfl d_law_518 ?_
            refine g_cViH cx [] [] (w_X10_done l X adx F R hI hA ) ml_L_59 yV_X10_done d_law_519 (by unfold g_rr; decide) (by decide) 0 rfl rfl (wr := wM X adm G0 S) (wc := wX X adx F R) rfl rfl (Nat.le_of_ble_eq_true rfl) (fun r177 w178 h179 => ?_)
            obtain ⟨F180, R181, rfl, oF180, oR181, cF180, cR181, pr177, zx182⟩ := h179
            refine g_pop cx rfl d_law_522 ?_
            refine g_aload_n cx 1 rfl d_law_523 ?_
            refine g_cViH cx [] [] (w_X11_done l X adm G0 S kI kA kT kC ) ml_L_63 yV_X11_done d_law_524 (by unfold g_rr; decide) (by decide) 0 rfl rfl (wr := wX X adx F180 R181) (wc := wM X adm G0 S) rfl rfl (Nat.le_of_ble_eq_true rfl) (fun r183 w184 h185 => ?_)
            obtain ⟨F186, R187, rfl, oF186, oR187, wTF186, wCF186, cF186, cR187, pr183, zx188⟩ := h185
            refine g_pop cx rfl d_law_527 ?_
            refine g_goto cx 949 d_law_528 (by decide) ?_
            have u189 : UAns URel (r177, F180, R181) (r183, F186, R187) := by rw [zx182, zx188]; exact ans_done hE
            obtain ⟨zn, ezn⟩ : ∃ z : Int32, z = zi + Int32.ofInt 7 := ⟨_, rfl⟩
            have zs := g_sinc hL pi zc (show zn = zi + 7 from ezn)
            refine g_iinc cx zn [(3, .int zn), (2, .ref (adm 0)), (1, .ref (adx 0)), (0, .ref b)] 0 d_law_949 rfl ezn.symm (by decide) rfl ?_
            refine g_goto cx 18 d_law_952 (by decide) ?_
            exact ih _ _ _ _ zn oF180 oR181 oF186 oR187 wTF186 wCF186 u189.2 zs.1 (Nat.lt_of_lt_of_le zs.2 (Nat.le_of_lt_succ hm))
          · refine g_tableIn cx 531 d_law_33 (by rw [zwe]; decide) (by rw [zwe]; decide) (by rw [zwe]; rfl) (by decide) ?_
            refine g_aload_n cx 2 rfl d_law_531 ?_
            refine g_aload_n cx 3 rfl d_law_532 ?_
            refine g_iload_n cx 0 rfl d_law_533 ?_
            refine g_iconst cx 1 (by decide) d_law_534 ?_
            refine g_iadd cx d_law_535 ?_
            refine g_sld sx d_law_536 (g_six 1 hL pi zc rfl (by decide : Int32.toInt 1 = 1) (by decide)) ?_
            refine g_topi (fun x190 ex190 => ?_)
            refine g_aload_n cx 3 rfl d_law_537 ?_
            refine g_iload_n cx 0 rfl d_law_538 ?_
            refine g_iconst cx 2 (by decide) d_law_539 ?_
            refine g_iadd cx d_law_540 ?_
            refine g_sld sx d_law_541 (g_six 2 hL pi zc rfl (by decide : Int32.toInt 2 = 2) (by decide)) ?_
            refine g_topi (fun x191 ex191 => ?_)
            refine g_cViH cx [.int x190, .int x191] [] (w_X10_thingIs l X adx F R hI hA x190 x191) ml_L_64 yV_X10_thingIs d_law_542 (by unfold g_rr; decide) (by decide) 0 rfl rfl (wr := wM X adm G0 S) (wc := wX X adx F R) rfl rfl (Nat.le_of_ble_eq_true rfl) (fun r192 w193 h194 => ?_)
            obtain ⟨rfl, _, zx195⟩ := h194
            refine g_pop cx rfl d_law_545 ?_
            refine g_aload_n cx 1 rfl d_law_546 ?_
            refine g_aload_n cx 3 rfl d_law_547 ?_
            refine g_iload_n cx 0 rfl d_law_548 ?_
            refine g_iconst cx 1 (by decide) d_law_549 ?_
            refine g_iadd cx d_law_550 ?_
            refine g_sld sx d_law_551 (g_six 1 hL pi zc rfl (by decide : Int32.toInt 1 = 1) (by decide)) ?_
            refine g_topi (fun x196 ex196 => ?_)
            refine g_aload_n cx 3 rfl d_law_552 ?_
            refine g_iload_n cx 0 rfl d_law_553 ?_
            refine g_iconst cx 2 (by decide) d_law_554 ?_
            refine g_iadd cx d_law_555 ?_
            refine g_sld sx d_law_556 (g_six 2 hL pi zc rfl (by decide : Int32.toInt 2 = 2) (by decide)) ?_
            refine g_topi (fun x197 ex197 => ?_)
            refine g_cViH cx [.int x196, .int x197] [] (w_X11_thingIs l X adm G0 S kI kA kT kC x196 x197) ml_L_68 yV_X11_thingIs d_law_557 (by unfold g_rr; decide) (by decide) 0 rfl rfl (wr := wX X adx F R) (wc := wM X adm G0 S) rfl rfl (Nat.le_of_ble_eq_true rfl) (fun r198 w199 h200 => ?_)
            obtain ⟨rfl, _, zx201⟩ := h200
            refine g_pop cx rfl d_law_560 ?_
            refine g_goto cx 949 d_law_561 (by decide) ?_
            obtain rfl : x190 = x196 := ex190.trans ex196.symm
            obtain rfl : x191 = x197 := ex191.trans ex197.symm
            have u202 : r192 = r198 := zx195.trans ((ans_thingIs hE _ _).trans zx201.symm)
            obtain ⟨zn, ezn⟩ : ∃ z : Int32, z = zi + Int32.ofInt 7 := ⟨_, rfl⟩
            have zs := g_sinc hL pi zc (show zn = zi + 7 from ezn)
            refine g_iinc cx zn [(3, .int zn), (2, .ref (adm 0)), (1, .ref (adx 0)), (0, .ref b)] 0 d_law_949 rfl ezn.symm (by decide) rfl ?_
            refine g_goto cx 18 d_law_952 (by decide) ?_
            exact ih _ _ _ _ zn hI hA kI kA kT kC hE zs.1 (Nat.lt_of_lt_of_le zs.2 (Nat.le_of_lt_succ hm))
          · refine g_tableIn cx 564 d_law_33 (by rw [zwe]; decide) (by rw [zwe]; decide) (by rw [zwe]; rfl) (by decide) ?_
            refine g_aload_n cx 2 rfl d_law_564 ?_
            refine g_cViH cx [] [] (w_X10_pace l X adx F R hI hA ) ml_L_69 yV_X10_pace d_law_565 (by unfold g_rr; decide) (by decide) 0 rfl rfl (wr := wM X adm G0 S) (wc := wX X adx F R) rfl rfl (Nat.le_of_ble_eq_true rfl) (fun r203 w204 h205 => ?_)
            obtain ⟨F206, R207, rfl, oF206, oR207, cF206, cR207, pr203, zx208⟩ := h205
            refine g_pop cx rfl d_law_568 ?_
            refine g_aload_n cx 1 rfl d_law_569 ?_
            refine g_cViH cx [] [] (w_X11_pace l X adm G0 S kI kA kT kC ) ml_L_72 yV_X11_pace d_law_570 (by unfold g_rr; decide) (by decide) 0 rfl rfl (wr := wX X adx F206 R207) (wc := wM X adm G0 S) rfl rfl (Nat.le_of_ble_eq_true rfl) (fun r209 w210 h211 => ?_)
            obtain ⟨F212, R213, rfl, oF212, oR213, wTF212, wCF212, cF212, cR213, pr209, zx214⟩ := h211
            refine g_pop cx rfl d_law_573 ?_
            refine g_goto cx 949 d_law_574 (by decide) ?_
            have u215 : URel F206 R207 F212 R213 := by have e := fr2_pace hE; rw [← zx208, ← zx214] at e; exact e
            obtain ⟨zn, ezn⟩ : ∃ z : Int32, z = zi + Int32.ofInt 7 := ⟨_, rfl⟩
            have zs := g_sinc hL pi zc (show zn = zi + 7 from ezn)
            refine g_iinc cx zn [(3, .int zn), (2, .ref (adm 0)), (1, .ref (adx 0)), (0, .ref b)] 0 d_law_949 rfl ezn.symm (by decide) rfl ?_
            refine g_goto cx 18 d_law_952 (by decide) ?_
            exact ih _ _ _ _ zn oF206 oR207 oF212 oR213 wTF212 wCF212 u215 zs.1 (Nat.lt_of_lt_of_le zs.2 (Nat.le_of_lt_succ hm))
          · refine g_tableIn cx 577 d_law_33 (by rw [zwe]; decide) (by rw [zwe]; decide) (by rw [zwe]; rfl) (by decide) ?_
            refine g_aload_n cx 2 rfl d_law_577 ?_
            refine g_aload_n cx 3 rfl d_law_578 ?_
            refine g_iload_n cx 0 rfl d_law_579 ?_
            refine g_iconst cx 1 (by decide) d_law_580 ?_
            refine g_iadd cx d_law_581 ?_
            refine g_sld sx d_law_582 (g_six 1 hL pi zc rfl (by decide : Int32.toInt 1 = 1) (by decide)) ?_
            refine g_topi (fun x216 ex216 => ?_)
            refine g_cViH cx [.int x216] [] (w_X10_best l X adx F R hI hA x216) ml_L_73 yV_X10_best d_law_583 (by unfold g_rr; decide) (by decide) 0 rfl rfl (wr := wM X adm G0 S) (wc := wX X adx F R) rfl rfl (Nat.le_of_ble_eq_true rfl) (fun r217 w218 h219 => ?_)
            obtain ⟨F220, R221, rfl, oF220, oR221, cF220, cR221, pr217, zx222⟩ := h219
            refine g_pop cx rfl d_law_586 ?_
            refine g_aload_n cx 1 rfl d_law_587 ?_
            refine g_aload_n cx 3 rfl d_law_588 ?_
            refine g_iload_n cx 0 rfl d_law_589 ?_
            refine g_iconst cx 1 (by decide) d_law_590 ?_
            refine g_iadd cx d_law_591 ?_
            refine g_sld sx d_law_592 (g_six 1 hL pi zc rfl (by decide : Int32.toInt 1 = 1) (by decide)) ?_
            refine g_topi (fun x223 ex223 => ?_)
            refine g_cViH cx [.int x223] [] (w_X11_best l X adm G0 S kI kA kT kC x223) ml_L_76 yV_X11_best d_law_593 (by unfold g_rr; decide) (by decide) 0 rfl rfl (wr := wX X adx F220 R221) (wc := wM X adm G0 S) rfl rfl (Nat.le_of_ble_eq_true rfl) (fun r224 w225 h226 => ?_)
            obtain ⟨F227, R228, rfl, oF227, oR228, wTF227, wCF227, cF227, cR228, pr224, zx229⟩ := h226
            refine g_pop cx rfl d_law_596 ?_
            refine g_goto cx 949 d_law_597 (by decide) ?_
            obtain rfl : x216 = x223 := ex216.trans ex223.symm
            have u230 : URel F220 R221 F227 R228 := by have e := fr2_best hE x216; rw [← zx222, ← zx229] at e; exact e
            obtain ⟨zn, ezn⟩ : ∃ z : Int32, z = zi + Int32.ofInt 7 := ⟨_, rfl⟩
            have zs := g_sinc hL pi zc (show zn = zi + 7 from ezn)
            refine g_iinc cx zn [(3, .int zn), (2, .ref (adm 0)), (1, .ref (adx 0)), (0, .ref b)] 0 d_law_949 rfl ezn.symm (by decide) rfl ?_
            refine g_goto cx 18 d_law_952 (by decide) ?_
            exact ih _ _ _ _ zn oF220 oR221 oF227 oR228 wTF227 wCF227 u230 zs.1 (Nat.lt_of_lt_of_le zs.2 (Nat.le_of_lt_succ hm))
          · refine g_tableIn cx 600 d_law_33 (by rw [zwe]; decide) (by rw [zwe]; decide) (by rw [zwe]; rfl) (by decide) ?_
            refine g_aload_n cx 2 rfl d_law_600 ?_
            refine g_aload_n cx 3 rfl d_law_601 ?_
            refine g_iload_n cx 0 rfl d_law_602 ?_
            refine g_iconst cx 1 (by decide) d_law_603 ?_
            refine g_iadd cx d_law_604 ?_
            refine g_sld sx d_law_605 (g_six 1 hL pi zc rfl (by decide : Int32.toInt 1 = 1) (by decide)) ?_
            refine g_topi (fun x231 ex231 => ?_)
            refine g_aload_n cx 3 rfl d_law_606 ?_
            refine g_iload_n cx 0 rfl d_law_607 ?_
            refine g_iconst cx 2 (by decide) d_law_608 ?_
            refine g_iadd cx d_law_609 ?_
            refine g_sld sx d_law_610 (g_six 2 hL pi zc rfl (by decide : Int32.toInt 2 = 2) (by decide)) ?_
            refine g_topi (fun x232 ex232 => ?_)
            refine g_cViH cx [.int x231, .int x232] [] (w_X10_put l X adx F R hI hA x231 x232) ml_L_77 yV_X10_put d_law_611 (by unfold g_rr; decide) (by decide) 0 rfl rfl (wr := wM X adm G0 S) (wc := wX X adx F R) rfl rfl (Nat.le_of_ble_eq_true rfl) (fun r233 w234 h235 => ?_)
            obtain ⟨F236, R237, rfl, oF236, oR237, cF236, cR237, pr233, zx238⟩ := h235
            refine g_pop cx rfl d_law_614 ?_
            refine g_aload_n cx 1 rfl d_law_615 ?_
            refine g_aload_n cx 3 rfl d_law_616 ?_
            refine g_iload_n cx 0 rfl d_law_617 ?_
            refine g_iconst cx 1 (by decide) d_law_618 ?_
            refine g_iadd cx d_law_619 ?_
            refine g_sld sx d_law_620 (g_six 1 hL pi zc rfl (by decide : Int32.toInt 1 = 1) (by decide)) ?_
            refine g_topi (fun x239 ex239 => ?_)
            refine g_aload_n cx 3 rfl d_law_621 ?_
            refine g_iload_n cx 0 rfl d_law_622 ?_
            refine g_iconst cx 2 (by decide) d_law_623 ?_
            refine g_iadd cx d_law_624 ?_
            refine g_sld sx d_law_625 (g_six 2 hL pi zc rfl (by decide : Int32.toInt 2 = 2) (by decide)) ?_
            refine g_topi (fun x240 ex240 => ?_)
            refine g_cViH cx [.int x239, .int x240] [] (w_X11_put l X adm G0 S kI kA kT kC x239 x240) ml_L_80 yV_X11_put d_law_626 (by unfold g_rr; decide) (by decide) 0 rfl rfl (wr := wX X adx F236 R237) (wc := wM X adm G0 S) rfl rfl (Nat.le_of_ble_eq_true rfl) (fun r241 w242 h243 => ?_)
            obtain ⟨F244, R245, rfl, oF244, oR245, wTF244, wCF244, cF244, cR245, pr241, zx246⟩ := h243
            refine g_pop cx rfl d_law_629 ?_
            refine g_goto cx 949 d_law_630 (by decide) ?_
            obtain rfl : x231 = x239 := ex231.trans ex239.symm
            obtain rfl : x232 = x240 := ex232.trans ex240.symm
            have u247 : UAns URel (r233, F236, R237) (r241, F244, R245) := by rw [zx238, zx246]; exact ans_put hE _ _
            obtain ⟨zn, ezn⟩ : ∃ z : Int32, z = zi + Int32.ofInt 7 := ⟨_, rfl⟩
            have zs := g_sinc hL pi zc (show zn = zi + 7 from ezn)
            refine g_iinc cx zn [(3, .int zn), (2, .ref (adm 0)), (1, .ref (adx 0)), (0, .ref b)] 0 d_law_949 rfl ezn.symm (by decide) rfl ?_
            refine g_goto cx 18 d_law_952 (by decide) ?_
            exact ih _ _ _ _ zn oF236 oR237 oF244 oR245 wTF244 wCF244 u247.2 zs.1 (Nat.lt_of_lt_of_le zs.2 (Nat.le_of_lt_succ hm))
          · refine g_tableIn cx 633 d_law_33 (by rw [zwe]; decide) (by rw [zwe]; decide) (by rw [zwe]; rfl) (by decide) ?_
            refine g_aload_n cx 2 rfl d_law_633 ?_
            refine g_aload_n cx 3 rfl d_law_634 ?_
            refine g_iload_n cx 0 rfl d_law_635 ?_
            refine g_iconst cx 1 (by decide) d_law_636 ?_
            refine g_iadd cx d_law_637 ?_
            refine g_sld sx d_law_638 (g_six 1 hL pi zc rfl (by decide : Int32.toInt 1 = 1) (by decide)) ?_
            refine g_topi (fun x248 ex248 => ?_)
            refine g_cViH cx [.int x248] [] (w_X10_most l X adx F R hI hA x248) ml_L_81 yV_X10_most d_law_639 (by unfold g_rr; decide) (by decide) 0 rfl rfl (wr := wM X adm G0 S) (wc := wX X adx F R) rfl rfl (Nat.le_of_ble_eq_true rfl) (fun r249 w250 h251 => ?_)
            obtain ⟨F252, R253, rfl, oF252, oR253, cF252, cR253, pr249, zx254⟩ := h251
            refine g_pop cx rfl d_law_642 ?_
            refine g_aload_n cx 1 rfl d_law_643 ?_
            refine g_aload_n cx 3 rfl d_law_644 ?_
            refine g_iload_n cx 0 rfl d_law_645 ?_
            refine g_iconst cx 1 (by decide) d_law_646 ?_
            refine g_iadd cx d_law_647 ?_
            refine g_sld sx d_law_648 (g_six 1 hL pi zc rfl (by decide : Int32.toInt 1 = 1) (by decide)) ?_
            refine g_topi (fun x255 ex255 => ?_)
            refine g_cViH cx [.int x255] [] (w_X11_most l X adm G0 S kI kA kT kC x255) ml_L_84 yV_X11_most d_law_649 (by unfold g_rr; decide) (by decide) 0 rfl rfl (wr := wX X adx F252 R253) (wc := wM X adm G0 S) rfl rfl (Nat.le_of_ble_eq_true rfl) (fun r256 w257 h258 => ?_)
            obtain ⟨F259, R260, rfl, oF259, oR260, wTF259, wCF259, cF259, cR260, pr256, zx261⟩ := h258
            refine g_pop cx rfl d_law_652 ?_
            refine g_goto cx 949 d_law_653 (by decide) ?_
            obtain rfl : x248 = x255 := ex248.trans ex255.symm
            have u262 : URel F252 R253 F259 R260 := by have e := fr2_most hE x248; rw [← zx254, ← zx261] at e; exact e
            obtain ⟨zn, ezn⟩ : ∃ z : Int32, z = zi + Int32.ofInt 7 := ⟨_, rfl⟩
            have zs := g_sinc hL pi zc (show zn = zi + 7 from ezn)
            refine g_iinc cx zn [(3, .int zn), (2, .ref (adm 0)), (1, .ref (adx 0)), (0, .ref b)] 0 d_law_949 rfl ezn.symm (by decide) rfl ?_
            refine g_goto cx 18 d_law_952 (by decide) ?_
            exact ih _ _ _ _ zn oF252 oR253 oF259 oR260 wTF259 wCF259 u262 zs.1 (Nat.lt_of_lt_of_le zs.2 (Nat.le_of_lt_succ hm))
          · refine g_tableIn cx 656 d_law_33 (by rw [zwe]; decide) (by rw [zwe]; decide) (by rw [zwe]; rfl) (by decide) ?_
            refine g_aload_n cx 2 rfl d_law_656 ?_
            refine g_aload_n cx 3 rfl d_law_657 ?_
            refine g_iload_n cx 0 rfl d_law_658 ?_
            refine g_iconst cx 1 (by decide) d_law_659 ?_
            refine g_iadd cx d_law_660 ?_
            refine g_sld sx d_law_661 (g_six 1 hL pi zc rfl (by decide : Int32.toInt 1 = 1) (by decide)) ?_
            refine g_topi (fun x263 ex263 => ?_)
            refine g_aload_n cx 3 rfl d_law_662 ?_
            refine g_iload_n cx 0 rfl d_law_663 ?_
            refine g_iconst cx 2 (by decide) d_law_664 ?_
            refine g_iadd cx d_law_665 ?_
            refine g_sld sx d_law_666 (g_six 2 hL pi zc rfl (by decide : Int32.toInt 2 = 2) (by decide)) ?_
            refine g_topi (fun x264 ex264 => ?_)
            refine g_cViH cx [.int x263, .int x264] [] (w_X10_worth l X adx F R hI hA x263 x264) ml_L_85 yV_X10_worth d_law_667 (by unfold g_rr; decide) (by decide) 0 rfl rfl (wr := wM X adm G0 S) (wc := wX X adx F R) rfl rfl (Nat.le_of_ble_eq_true rfl) (fun r265 w266 h267 => ?_)
            obtain ⟨F268, R269, rfl, oF268, oR269, cF268, cR269, pr265, zx270⟩ := h267
            refine g_pop cx rfl d_law_670 ?_
            refine g_aload_n cx 1 rfl d_law_671 ?_
            refine g_aload_n cx 3 rfl d_law_672 ?_
            refine g_iload_n cx 0 rfl d_law_673 ?_
            refine g_iconst cx 1 (by decide) d_law_674 ?_
            refine g_iadd cx d_law_675 ?_
            refine g_sld sx d_law_676 (g_six 1 hL pi zc rfl (by decide : Int32.toInt 1 = 1) (by decide)) ?_
            refine g_topi (fun x271 ex271 => ?_)
            refine g_aload_n cx 3 rfl d_law_677 ?_
            refine g_iload_n cx 0 rfl d_law_678 ?_
            refine g_iconst cx 2 (by decide) d_law_679 ?_
            refine g_iadd cx d_law_680 ?_
            refine g_sld sx d_law_681 (g_six 2 hL pi zc rfl (by decide : Int32.toInt 2 = 2) (by decide)) ?_
            refine g_topi (fun x272 ex272 => ?_)
            refine g_cViH cx [.int x271, .int x272] [] (w_X11_worth l X adm G0 S kI kA kT kC x271 x272) ml_L_88 yV_X11_worth d_law_682 (by unfold g_rr; decide) (by decide) 0 rfl rfl (wr := wX X adx F268 R269) (wc := wM X adm G0 S) rfl rfl (Nat.le_of_ble_eq_true rfl) (fun r273 w274 h275 => ?_)
            obtain ⟨F276, R277, rfl, oF276, oR277, wTF276, wCF276, cF276, cR277, pr273, zx278⟩ := h275
            refine g_pop cx rfl d_law_685 ?_
            refine g_goto cx 949 d_law_686 (by decide) ?_
            obtain rfl : x263 = x271 := ex263.trans ex271.symm
            obtain rfl : x264 = x272 := ex264.trans ex272.symm
            have u279 : URel F268 R269 F276 R277 := by have e := fr2_worth hE x263 x264; rw [← zx270, ← zx278] at e; exact e
            obtain ⟨zn, ezn⟩ : ∃ z : Int32, z = zi + Int32.ofInt 7 := ⟨_, rfl⟩
            have zs := g_sinc hL pi zc (show zn = zi + 7 from ezn)
            refine g_iinc cx zn [(3, .int zn), (2, .ref (adm 0)), (1, .ref (adx 0)), (0, .ref b)] 0 d_law_949 rfl ezn.symm (by decide) rfl ?_
            refine g_goto cx 18 d_law_952 (by decide) ?_
            exact ih _ _ _ _ zn oF268 oR269 oF276 oR277 wTF276 wCF276 u279 zs.1 (Nat.lt_of_lt_of_le zs.2 (Nat.le_of_lt_succ hm))
          · refine g_tableIn cx 689 d_law_33 (by rw [zwe]; decide) (by rw [zwe]; decide) (by rw [zwe]; rfl) (by decide) ?_
            refine g_aload_n cx 2 rfl d_law_689 ?_
            refine g_aload_n cx 3 rfl d_law_690 ?_
            refine g_iload_n cx 0 rfl d_law_691 ?_
            refine g_iconst cx 1 (by decide) d_law_692 ?_
            refine g_iadd cx d_law_693 ?_
            refine g_sld sx d_law_694 (g_six 1 hL pi zc rfl (by decide : Int32.toInt 1 = 1) (by decide)) ?_
            refine g_topi (fun x280 ex280 => ?_)
            refine g_cViH cx [.int x280] [] (w_X10_wasWet l X adx F R hI hA x280) ml_L_89 yV_X10_wasWet d_law_695 (by unfold g_rr; decide) (by decide) 0 rfl rfl (wr := wM X adm G0 S) (wc := wX X adx F R) rfl rfl (Nat.le_of_ble_eq_true rfl) (fun r281 w282 h283 => ?_)
            obtain ⟨F284, R285, rfl, oF284, oR285, cF284, cR285, pr281, zx286⟩ := h283
            refine g_pop cx rfl d_law_698 ?_
            refine g_aload_n cx 1 rfl d_law_699 ?_
            refine g_aload_n cx 3 rfl d_law_700 ?_
            refine g_iload_n cx 0 rfl d_law_701 ?_
            refine g_iconst cx 1 (by decide) d_law_702 ?_
            refine g_iadd cx d_law_703 ?_
            refine g_sld sx d_law_704 (g_six 1 hL pi zc rfl (by decide : Int32.toInt 1 = 1) (by decide)) ?_
            refine g_topi (fun x287 ex287 => ?_)
            refine g_cViH cx [.int x287] [] (w_X11_wasWet l X adm G0 S kI kA kT kC x287) ml_L_92 yV_X11_wasWet d_law_705 (by unfold g_rr; decide) (by decide) 0 rfl rfl (wr := wX X adx F284 R285) (wc := wM X adm G0 S) rfl rfl (Nat.le_of_ble_eq_true rfl) (fun r288 w289 h290 => ?_)
            obtain ⟨F291, R292, rfl, oF291, oR292, wTF291, wCF291, cF291, cR292, pr288, zx293⟩ := h290
            refine g_pop cx rfl d_law_708 ?_
            refine g_goto cx 949 d_law_709 (by decide) ?_
            obtain rfl : x280 = x287 := ex280.trans ex287.symm
            have u294 : URel F284 R285 F291 R292 := by have e := fr2_wasWet hE x280; rw [← zx286, ← zx293] at e; exact e
            obtain ⟨zn, ezn⟩ : ∃ z : Int32, z = zi + Int32.ofInt 7 := ⟨_, rfl⟩
            have zs := g_sinc hL pi zc (show zn = zi + 7 from ezn)
            refine g_iinc cx zn [(3, .int zn), (2, .ref (adm 0)), (1, .ref (adx 0)), (0, .ref b)] 0 d_law_949 rfl ezn.symm (by decide) rfl ?_
            refine g_goto cx 18 d_law_952 (by decide) ?_
            exact ih _ _ _ _ zn oF284 oR285 oF291 oR292 wTF291 wCF291 u294 zs.1 (Nat.lt_of_lt_of_le zs.2 (Nat.le_of_lt_succ hm))
          · refine g_tableIn cx 712 d_law_33 (by rw [zwe]; decide) (by rw [zwe]; decide) (by rw [zwe]; rfl) (by decide) ?_
            refine g_aload_n cx 2 rfl d_law_712 ?_
            refine g_aload_n cx 3 rfl d_law_713 ?_
            refine g_iload_n cx 0 rfl d_law_714 ?_
            refine g_iconst cx 1 (by decide) d_law_715 ?_
            refine g_iadd cx d_law_716 ?_
            refine g_sld sx d_law_717 (g_six 1 hL pi zc rfl (by decide : Int32.toInt 1 = 1) (by decide)) ?_
            refine g_topi (fun x295 ex295 => ?_)
            refine g_cViH cx [.int x295] [] (w_X10_howQuick l X adx F R hI hA x295) ml_L_93 yV_X10_howQuick d_law_718 (by unfold g_rr; decide) (by decide) 0 rfl rfl (wr := wM X adm G0 S) (wc := wX X adx F R) rfl rfl (Nat.le_of_ble_eq_true rfl) (fun r296 w297 h298 => ?_)
            obtain ⟨F299, R300, rfl, oF299, oR300, cF299, cR300, pr296, zx301⟩ := h298
            refine g_pop cx rfl d_law_721 ?_
            refine g_aload_n cx 1 rfl d_law_722 ?_
            refine g_aload_n cx 3 rfl d_law_723 ?_
            refine g_iload_n cx 0 rfl d_law_724 ?_
            refine g_iconst cx 1 (by decide) d_law_725 ?_
            refine g_iadd cx d_law_726 ?_
            refine g_sld sx d_law_727 (g_six 1 hL pi zc rfl (by decide : Int32.toInt 1 = 1) (by decide)) ?_
            refine g_topi (fun x302 ex302 => ?_)
            refine g_cViH cx [.int x302] [] (w_X11_howQuick l X adm G0 S kI kA kT kC x302) ml_L_96 yV_X11_howQuick d_law_728 (by unfold g_rr; decide) (by decide) 0 rfl rfl (wr := wX X adx F299 R300) (wc := wM X adm G0 S) rfl rfl (Nat.le_of_ble_eq_true rfl) (fun r303 w304 h305 => ?_)
            obtain ⟨F306, R307, rfl, oF306, oR307, wTF306, wCF306, cF306, cR307, pr303, zx308⟩ := h305
            refine g_pop cx rfl d_law_731 ?_
            refine g_goto cx 949 d_law_732 (by decide) ?_
            obtain rfl : x295 = x302 := ex295.trans ex302.symm
            have u309 : URel F299 R300 F306 R307 := by have e := fr2_howQuick hE x295; rw [← zx301, ← zx308] at e; exact e
            obtain ⟨zn, ezn⟩ : ∃ z : Int32, z = zi + Int32.ofInt 7 := ⟨_, rfl⟩
            have zs := g_sinc hL pi zc (show zn = zi + 7 from ezn)
            refine g_iinc cx zn [(3, .int zn), (2, .ref (adm 0)), (1, .ref (adx 0)), (0, .ref b)] 0 d_law_949 rfl ezn.symm (by decide) rfl ?_
            refine g_goto cx 18 d_law_952 (by decide) ?_
            exact ih _ _ _ _ zn oF299 oR300 oF306 oR307 wTF306 wCF306 u309 zs.1 (Nat.lt_of_lt_of_le zs.2 (Nat.le_of_lt_succ hm))
          · refine g_tableIn cx 735 d_law_33 (by rw [zwe]; decide) (by rw [zwe]; decide) (by rw [zwe]; rfl) (by decide) ?_
            refine g_aload_n cx 2 rfl d_law_735 ?_
            refine g_aload_n cx 3 rfl d_law_736 ?_
            refine g_iload_n cx 0 rfl d_law_737 ?_
            refine g_iconst cx 1 (by decide) d_law_738 ?_
            refine g_iadd cx d_law_739 ?_
            refine g_sld sx d_law_740 (g_six 1 hL pi zc rfl (by decide : Int32.toInt 1 = 1) (by decide)) ?_
            refine g_topi (fun x310 ex310 => ?_)
            refine g_aload_n cx 3 rfl d_law_741 ?_
            refine g_iload_n cx 0 rfl d_law_742 ?_
            refine g_iconst cx 2 (by decide) d_law_743 ?_
            refine g_iadd cx d_law_744 ?_
            refine g_sld sx d_law_745 (g_six 2 hL pi zc rfl (by decide : Int32.toInt 2 = 2) (by decide)) ?_
            refine g_topi (fun x311 ex311 => ?_)
            refine g_aload_n cx 3 rfl d_law_746 ?_
            refine g_iload_n cx 0 rfl d_law_747 ?_
            refine g_iconst cx 3 (by decide) d_law_748 ?_
            refine g_iadd cx d_law_749 ?_
            refine g_sld sx d_law_750 (g_six 3 hL pi zc rfl (by decide : Int32.toInt 3 = 3) (by decide)) ?_
            refine g_topi (fun x312 ex312 => ?_)
            refine g_cViH cx [.int x310, .int x311, .int x312] [] (w_X10_odds l X adx F R hI hA x310 x311 x312) ml_L_97 yV_X10_odds d_law_751 (by unfold g_rr; decide) (by decide) 0 rfl rfl (wr := wM X adm G0 S) (wc := wX X adx F R) rfl rfl (Nat.le_of_ble_eq_true rfl) (fun r313 w314 h315 => ?_)
            obtain ⟨F316, R317, rfl, oF316, oR317, cF316, cR317, pr313, zx318⟩ := h315
            refine g_pop cx rfl d_law_754 ?_
            refine g_aload_n cx 1 rfl d_law_755 ?_
            refine g_aload_n cx 3 rfl d_law_756 ?_
            refine g_iload_n cx 0 rfl d_law_757 ?_
            refine g_iconst cx 1 (by decide) d_law_758 ?_
            refine g_iadd cx d_law_759 ?_
            refine g_sld sx d_law_760 (g_six 1 hL pi zc rfl (by decide : Int32.toInt 1 = 1) (by decide)) ?_
            refine g_topi (fun x319 ex319 => ?_)
            refine g_aload_n cx 3 rfl d_law_761 ?_
            refine g_iload_n cx 0 rfl d_law_762 ?_
            refine g_iconst cx 2 (by decide) d_law_763 ?_
            refine g_iadd cx d_law_764 ?_
            refine g_sld sx d_law_765 (g_six 2 hL pi zc rfl (by decide : Int32.toInt 2 = 2) (by decide)) ?_
            refine g_topi (fun x320 ex320 => ?_)
            refine g_aload_n cx 3 rfl d_law_766 ?_
            refine g_iload_n cx 0 rfl d_law_767 ?_
            refine g_iconst cx 3 (by decide) d_law_768 ?_
            refine g_iadd cx d_law_769 ?_
            refine g_sld sx d_law_770 (g_six 3 hL pi zc rfl (by decide : Int32.toInt 3 = 3) (by decide)) ?_
            refine g_topi (fun x321 ex321 => ?_)
            refine g_cViH cx [.int x319, .int x320, .int x321] [] (w_X11_odds l X adm G0 S kI kA kT kC x319 x320 x321) ml_L_101 yV_X11_odds d_law_771 (by unfold g_rr; decide) (by decide) 0 rfl rfl (wr := wX X adx F316 R317) (wc := wM X adm G0 S) rfl rfl (Nat.le_of_ble_eq_true rfl) (fun r322 w323 h324 => ?_)
            obtain ⟨F325, R326, rfl, oF325, oR326, wTF325, wCF325, cF325, cR326, pr322, zx327⟩ := h324
            refine g_pop cx rfl d_law_774 ?_
            refine g_goto cx 949 d_law_775 (by decide) ?_
            obtain rfl : x310 = x319 := ex310.trans ex319.symm
            obtain rfl : x311 = x320 := ex311.trans ex320.symm
            obtain rfl : x312 = x321 := ex312.trans ex321.symm
            have u328 : URel F316 R317 F325 R326 := by have e := fr2_odds hE x310 x311 x312; rw [← zx318, ← zx327] at e; exact e
            obtain ⟨zn, ezn⟩ : ∃ z : Int32, z = zi + Int32.ofInt 7 := ⟨_, rfl⟩
            have zs := g_sinc hL pi zc (show zn = zi + 7 from ezn)
            refine g_iinc cx zn [(3, .int zn), (2, .ref (adm 0)), (1, .ref (adx 0)), (0, .ref b)] 0 d_law_949 rfl ezn.symm (by decide) rfl ?_
            refine g_goto cx 18 d_law_952 (by decide) ?_
            exact ih _ _ _ _ zn oF316 oR317 oF325 oR326 wTF325 wCF325 u328 zs.1 (Nat.lt_of_lt_of_le zs.2 (Nat.le_of_lt_succ hm))
          · refine g_tableIn cx 778 d_law_33 (by rw [zwe]; decide) (by rw [zwe]; decide) (by rw [zwe]; rfl) (by decide) ?_
            refine g_aload_n cx 2 rfl d_law_778 ?_
            refine g_aload_n cx 3 rfl d_law_779 ?_
            refine g_iload_n cx 0 rfl d_law_780 ?_
            refine g_iconst cx 1 (by decide) d_law_781 ?_
            refine g_iadd cx d_law_782 ?_
            refine g_sld sx d_law_783 (g_six 1 hL pi zc rfl (by decide : Int32.toInt 1 = 1) (by decide)) ?_
            refine g_topi (fun x329 ex329 => ?_)
            refine g_aload_n cx 3 rfl d_law_784 ?_
            refine g_iload_n cx 0 rfl d_law_785 ?_
            refine g_iconst cx 2 (by decide) d_law_786 ?_
            refine g_iadd cx d_law_787 ?_
            refine g_sld sx d_law_788 (g_six 2 hL pi zc rfl (by decide : Int32.toInt 2 = 2) (by decide)) ?_
            refine g_topi (fun x330 ex330 => ?_)
            refine g_cViH cx [.int x329, .int x330] [] (w_X10_should l X adx F R hI hA x329 x330) ml_L_102 yV_X10_should d_law_789 (by unfold g_rr; decide) (by decide) 0 rfl rfl (wr := wM X adm G0 S) (wc := wX X adx F R) rfl rfl (Nat.le_of_ble_eq_true rfl) (fun r331 w332 h333 => ?_)
            obtain ⟨F334, R335, rfl, oF334, oR335, cF334, cR335, pr331, zx336⟩ := h333
            refine g_pop cx rfl d_law_792 ?_
            refine g_aload_n cx 1 rfl d_law_793 ?_
            refine g_aload_n cx 3 rfl d_law_794 ?_
            refine g_iload_n cx 0 rfl d_law_795 ?_
            refine g_iconst cx 1 (by decide) d_law_796 ?_
            refine g_iadd cx d_law_797 ?_
            refine g_sld sx d_law_798 (g_six 1 hL pi zc rfl (by decide : Int32.toInt 1 = 1) (by decide)) ?_
            refine g_topi (fun x337 ex337 => ?_)
            refine g_aload_n cx 3 rfl d_law_799 ?_
            refine g_iload_n cx 0 rfl d_law_800 ?_
            refine g_iconst cx 2 (by decide) d_law_801 ?_
            refine g_iadd cx d_law_802 ?_
            refine g_sld sx d_law_803 (g_six 2 hL pi zc rfl (by decide : Int32.toInt 2 = 2) (by decide)) ?_
            refine g_topi (fun x338 ex338 => ?_)
            refine g_cViH cx [.int x337, .int x338] [] (w_X11_should l X adm G0 S kI kA kT kC x337 x338) ml_L_105 yV_X11_should d_law_804 (by unfold g_rr; decide) (by decide) 0 rfl rfl (wr := wX X adx F334 R335) (wc := wM X adm G0 S) rfl rfl (Nat.le_of_ble_eq_true rfl) (fun r339 w340 h341 => ?_)
            obtain ⟨F342, R343, rfl, oF342, oR343, wTF342, wCF342, cF342, cR343, pr339, zx344⟩ := h341
            refine g_pop cx rfl d_law_807 ?_
            refine g_goto cx 949 d_law_808 (by decide) ?_
            obtain rfl : x329 = x337 := ex329.trans ex337.symm
            obtain rfl : x330 = x338 := ex330.trans ex338.symm
            have u345 : URel F334 R335 F342 R343 := by have e := fr2_should hE x329 x330; rw [← zx336, ← zx344] at e; exact e
            obtain ⟨zn, ezn⟩ : ∃ z : Int32, z = zi + Int32.ofInt 7 := ⟨_, rfl⟩
            have zs := g_sinc hL pi zc (show zn = zi + 7 from ezn)
            refine g_iinc cx zn [(3, .int zn), (2, .ref (adm 0)), (1, .ref (adx 0)), (0, .ref b)] 0 d_law_949 rfl ezn.symm (by decide) rfl ?_
            refine g_goto cx 18 d_law_952 (by decide) ?_
            exact ih _ _ _ _ zn oF334 oR335 oF342 oR343 wTF342 wCF342 u345 zs.1 (Nat.lt_of_lt_of_le zs.2 (Nat.le_of_lt_succ hm))
          · refine g_tableIn cx 811 d_law_33 (by rw [zwe]; decide) (by rw [zwe]; decide) (by rw [zwe]; rfl) (by decide) ?_
            refine g_aload_n cx 2 rfl d_law_811 ?_
            refine g_aload_n cx 3 rfl d_law_812 ?_
            refine g_iload_n cx 0 rfl d_law_813 ?_
            refine g_iconst cx 1 (by decide) d_law_814 ?_
            refine g_iadd cx d_law_815 ?_
            refine g_sld sx d_law_816 (g_six 1 hL pi zc rfl (by decide : Int32.toInt 1 = 1) (by decide)) ?_
            refine g_topi (fun x346 ex346 => ?_)
            refine g_aload_n cx 3 rfl d_law_817 ?_
            refine g_iload_n cx 0 rfl d_law_818 ?_
            refine g_iconst cx 2 (by decide) d_law_819 ?_
            refine g_iadd cx d_law_820 ?_
            refine g_sld sx d_law_821 (g_six 2 hL pi zc rfl (by decide : Int32.toInt 2 = 2) (by decide)) ?_
            refine g_topi (fun x347 ex347 => ?_)
            refine g_aload_n cx 3 rfl d_law_822 ?_
            refine g_iload_n cx 0 rfl d_law_823 ?_
            refine g_iconst cx 3 (by decide) d_law_824 ?_
            refine g_iadd cx d_law_825 ?_
            refine g_sld sx d_law_826 (g_six 3 hL pi zc rfl (by decide : Int32.toInt 3 = 3) (by decide)) ?_
            refine g_topi (fun x348 ex348 => ?_)
            refine g_cViH cx [.int x346, .int x347, .int x348] [] (w_X10_practice l X adx F R x346 x347 x348) ml_L_106 yV_X10_practice d_law_827 (by unfold g_rr; decide) (by decide) 0 rfl rfl (wr := wM X adm G0 S) (wc := wX X adx F R) rfl rfl (Nat.le_of_ble_eq_true rfl) (fun r349 w350 h351 => ?_)
            obtain ⟨rfl, zx352⟩ := h351
            refine g_pop cx rfl d_law_830 ?_
            refine g_aload_n cx 1 rfl d_law_831 ?_
            refine g_aload_n cx 3 rfl d_law_832 ?_
            refine g_iload_n cx 0 rfl d_law_833 ?_
            refine g_iconst cx 1 (by decide) d_law_834 ?_
            refine g_iadd cx d_law_835 ?_
            refine g_sld sx d_law_836 (g_six 1 hL pi zc rfl (by decide : Int32.toInt 1 = 1) (by decide)) ?_
            refine g_topi (fun x353 ex353 => ?_)
            refine g_aload_n cx 3 rfl d_law_837 ?_
            refine g_iload_n cx 0 rfl d_law_838 ?_
            refine g_iconst cx 2 (by decide) d_law_839 ?_
            refine g_iadd cx d_law_840 ?_
            refine g_sld sx d_law_841 (g_six 2 hL pi zc rfl (by decide : Int32.toInt 2 = 2) (by decide)) ?_
            refine g_topi (fun x354 ex354 => ?_)
            refine g_aload_n cx 3 rfl d_law_842 ?_
            refine g_iload_n cx 0 rfl d_law_843 ?_
            refine g_iconst cx 3 (by decide) d_law_844 ?_
            refine g_iadd cx d_law_845 ?_
            refine g_sld sx d_law_846 (g_six 3 hL pi zc rfl (by decide : Int32.toInt 3 = 3) (by decide)) ?_
            refine g_topi (fun x355 ex355 => ?_)
            refine g_cViH cx [.int x353, .int x354, .int x355] [] (w_X11_practice l X adm G0 S x353 x354 x355) ml_L_109 yV_X11_practice d_law_847 (by unfold g_rr; decide) (by decide) 0 rfl rfl (wr := wX X adx F R) (wc := wM X adm G0 S) rfl rfl (Nat.le_of_ble_eq_true rfl) (fun r356 w357 h358 => ?_)
            obtain ⟨rfl, zx359⟩ := h358
            refine g_pop cx rfl d_law_850 ?_
            refine g_goto cx 949 d_law_851 (by decide) ?_
            obtain ⟨zn, ezn⟩ : ∃ z : Int32, z = zi + Int32.ofInt 7 := ⟨_, rfl⟩
            have zs := g_sinc hL pi zc (show zn = zi + 7 from ezn)
            refine g_iinc cx zn [(3, .int zn), (2, .ref (adm 0)), (1, .ref (adx 0)), (0, .ref b)] 0 d_law_949 rfl ezn.symm (by decide) rfl ?_
            refine g_goto cx 18 d_law_952 (by decide) ?_
            exact ih _ _ _ _ zn hI hA kI kA kT kC hE zs.1 (Nat.lt_of_lt_of_le zs.2 (Nat.le_of_lt_succ hm))
          · refine g_tableIn cx 854 d_law_33 (by rw [zwe]; decide) (by rw [zwe]; decide) (by rw [zwe]; rfl) (by decide) ?_
            refine g_aload_n cx 2 rfl d_law_854 ?_
            refine g_aload_n cx 3 rfl d_law_855 ?_
            refine g_iload_n cx 0 rfl d_law_856 ?_
            refine g_iconst cx 1 (by decide) d_law_857 ?_
            refine g_iadd cx d_law_858 ?_
            refine g_sld sx d_law_859 (g_six 1 hL pi zc rfl (by decide : Int32.toInt 1 = 1) (by decide)) ?_
            refine g_topi (fun x361 ex361 => ?_)
            refine g_cViH cx [.int x361] [] (w_X10_seed l X adx F R hI hA x361) ml_L_110 yV_X10_seed d_law_860 (by unfold g_rr; decide) (by decide) 0 rfl rfl (wr := wM X adm G0 S) (wc := wX X adx F R) rfl rfl (Nat.le_of_ble_eq_true rfl) (fun r362 w363 h364 => ?_)
            obtain ⟨F365, R366, rfl, oF365, oR366, cF365, cR366, pr362, zx367⟩ := h364
            refine g_pop cx rfl d_law_863 ?_
            refine g_aload_n cx 1 rfl d_law_864 ?_
            refine g_aload_n cx 3 rfl d_law_865 ?_
            refine g_iload_n cx 0 rfl d_law_866 ?_
            refine g_iconst cx 1 (by decide) d_law_867 ?_
            refine g_iadd cx d_law_868 ?_
            refine g_sld sx d_law_869 (g_six 1 hL pi zc rfl (by decide : Int32.toInt 1 = 1) (by decide)) ?_
            refine g_topi (fun x368 ex368 => ?_)
            refine g_cViH cx [.int x368] [] (w_X11_seed l X adm G0 S kI kA kT kC x368) ml_L_113 yV_X11_seed d_law_870 (by unfold g_rr; decide) (by decide) 0 rfl rfl (wr := wX X adx F365 R366) (wc := wM X adm G0 S) rfl rfl (Nat.le_of_ble_eq_true rfl) (fun r369 w370 h371 => ?_)
            obtain ⟨F372, R373, rfl, oF372, oR373, wTF372, wCF372, cF372, cR373, pr369, zx374⟩ := h371
            refine g_pop cx rfl d_law_873 ?_
            refine g_goto cx 949 d_law_874 (by decide) ?_
            obtain rfl : x361 = x368 := ex361.trans ex368.symm
            have u375 : UAns URel (r362, F365, R366) (r369, F372, R373) := by rw [zx367, zx374]; exact ans_seed hE _
            obtain ⟨zn, ezn⟩ : ∃ z : Int32, z = zi + Int32.ofInt 7 := ⟨_, rfl⟩
            have zs := g_sinc hL pi zc (show zn = zi + 7 from ezn)
            refine g_iinc cx zn [(3, .int zn), (2, .ref (adm 0)), (1, .ref (adx 0)), (0, .ref b)] 0 d_law_949 rfl ezn.symm (by decide) rfl ?_
            refine g_goto cx 18 d_law_952 (by decide) ?_
            exact ih _ _ _ _ zn oF365 oR366 oF372 oR373 wTF372 wCF372 u375.2 zs.1 (Nat.lt_of_lt_of_le zs.2 (Nat.le_of_lt_succ hm))
          · refine g_tableIn cx 877 d_law_33 (by rw [zwe]; decide) (by rw [zwe]; decide) (by rw [zwe]; rfl) (by decide) ?_
            refine g_aload_n cx 2 rfl d_law_877 ?_
            refine g_cViH cx [] [] (w_X10_keep l X adx F R hI hA ) ml_L_114 yV_X10_keep d_law_878 (by unfold g_rr; decide) (by decide) 0 rfl rfl (wr := wM X adm G0 S) (wc := wX X adx F R) rfl rfl (Nat.le_of_ble_eq_true rfl) (fun r376 w377 h378 => ?_)
            obtain ⟨F379, R380, rfl, oF379, oR380, cF379, cR380, pr376, zx381⟩ := h378
            refine g_pop cx rfl d_law_881 ?_
            refine g_aload_n cx 1 rfl d_law_882 ?_
            refine g_cViH cx [] [] (w_X11_keep l X adm G0 S kI kA kT kC ) ml_L_117 yV_X11_keep d_law_883 (by unfold g_rr; decide) (by decide) 0 rfl rfl (wr := wX X adx F379 R380) (wc := wM X adm G0 S) rfl rfl (Nat.le_of_ble_eq_true rfl) (fun r382 w383 h384 => ?_)
            obtain ⟨F385, R386, rfl, oF385, oR386, wTF385, wCF385, cF385, cR386, pr382, zx387⟩ := h384
            refine g_pop cx rfl d_law_886 ?_
            refine g_goto cx 949 d_law_887 (by decide) ?_
            have u388 : UAns URel (r376, F379, R380) (r382, F385, R386) := by rw [zx381, zx387]; exact ans_keep hE
            obtain ⟨zn, ezn⟩ : ∃ z : Int32, z = zi + Int32.ofInt 7 := ⟨_, rfl⟩
            have zs := g_sinc hL pi zc (show zn = zi + 7 from ezn)
            refine g_iinc cx zn [(3, .int zn), (2, .ref (adm 0)), (1, .ref (adx 0)), (0, .ref b)] 0 d_law_949 rfl ezn.symm (by decide) rfl ?_
            refine g_goto cx 18 d_law_952 (by decide) ?_
            exact ih _ _ _ _ zn oF379 oR380 oF385 oR386 wTF385 wCF385 u388.2 zs.1 (Nat.lt_of_lt_of_le zs.2 (Nat.le_of_lt_succ hm))
          · refine g_tableIn cx 890 d_law_33 (by rw [zwe]; decide) (by rw [zwe]; decide) (by rw [zwe]; rfl) (by decide) ?_
            refine g_aload_n cx 2 rfl d_law_890 ?_
            refine g_cViH cx [] [] (w_X10_undo l X adx F R hI hA ) ml_L_118 yV_X10_undo d_law_891 (by unfold g_rr; decide) (by decide) 0 rfl rfl (wr := wM X adm G0 S) (wc := wX X adx F R) rfl rfl (Nat.le_of_ble_eq_true rfl) (fun r389 w390 h391 => ?_)
            obtain ⟨F392, R393, rfl, oF392, oR393, cF392, cR393, pr389, zx394⟩ := h391
            refine g_pop cx rfl d_law_894 ?_
            refine g_aload_n cx 1 rfl d_law_895 ?_
            refine g_cViH cx [] [] (w_X11_undo l X adm G0 S kI kA kT kC ) ml_L_122 yV_X11_undo d_law_896 (by unfold g_rr; decide) (by decide) 0 rfl rfl (wr := wX X adx F392 R393) (wc := wM X adm G0 S) rfl rfl (Nat.le_of_ble_eq_true rfl) (fun r395 w396 h397 => ?_)
            obtain ⟨F398, R399, rfl, oF398, oR399, wTF398, wCF398, cF398, cR399, pr395, zx400⟩ := h397
            refine g_pop cx rfl d_law_899 ?_
            refine g_goto cx 949 d_law_900 (by decide) ?_
            have u401 : UAns URel (r389, F392, R393) (r395, F398, R399) := by rw [zx394, zx400]; exact ans_undo hE
            obtain ⟨zn, ezn⟩ : ∃ z : Int32, z = zi + Int32.ofInt 7 := ⟨_, rfl⟩
            have zs := g_sinc hL pi zc (show zn = zi + 7 from ezn)
            refine g_iinc cx zn [(3, .int zn), (2, .ref (adm 0)), (1, .ref (adx 0)), (0, .ref b)] 0 d_law_949 rfl ezn.symm (by decide) rfl ?_
            refine g_goto cx 18 d_law_952 (by decide) ?_
            exact ih _ _ _ _ zn oF392 oR393 oF398 oR399 wTF398 wCF398 u401.2 zs.1 (Nat.lt_of_lt_of_le zs.2 (Nat.le_of_lt_succ hm))
          · refine g_tableIn cx 903 d_law_33 (by rw [zwe]; decide) (by rw [zwe]; decide) (by rw [zwe]; rfl) (by decide) ?_
            refine g_aload_n cx 2 rfl d_law_903 ?_
            refine g_aload_n cx 3 rfl d_law_904 ?_
            refine g_iload_n cx 0 rfl d_law_905 ?_
            refine g_iconst cx 1 (by decide) d_law_906 ?_
            refine g_iadd cx d_law_907 ?_
            refine g_sld sx d_law_908 (g_six 1 hL pi zc rfl (by decide : Int32.toInt 1 = 1) (by decide)) ?_
            refine g_topi (fun x402 ex402 => ?_)
            refine g_cViH cx [.int x402] [] (w_X10_check l X adx F R hI hA x402) ml_L_123 yV_X10_check d_law_909 (by unfold g_rr; decide) (by decide) 0 rfl rfl (wr := wM X adm G0 S) (wc := wX X adx F R) rfl rfl (Nat.le_of_ble_eq_true rfl) (fun r403 w404 h405 => ?_)
            obtain ⟨F406, R407, rfl, oF406, oR407, cF406, cR407, pr403, zx408⟩ := h405
            refine g_aload_n cx 1 rfl d_law_912 ?_
            refine g_aload_n cx 3 rfl d_law_913 ?_
            refine g_iload_n cx 0 rfl d_law_914 ?_
            refine g_iconst cx 1 (by decide) d_law_915 ?_
            refine g_iadd cx d_law_916 ?_
            refine g_sld sx d_law_917 (g_six 1 hL pi zc rfl (by decide : Int32.toInt 1 = 1) (by decide)) ?_
            refine g_topi (fun x409 ex409 => ?_)
            refine g_cViH cx [.int x409] [.int r403] (w_X11_check l X adm G0 S kI kA kT kC x409) ml_L_126 yV_X11_check d_law_918 (by unfold g_rr; decide) (by decide) 0 rfl rfl (wr := wX X adx F406 R407) (wc := wM X adm G0 S) rfl rfl (Nat.le_of_ble_eq_true rfl) (fun r410 w411 h412 => ?_)
            obtain ⟨F413, R414, rfl, oF413, oR414, wTF413, wCF413, cF413, cR414, pr410, zx415⟩ := h412
            obtain rfl : x402 = x409 := ex402.trans ex409.symm
            have u416 : UAns URel (r403, F406, R407) (r410, F413, R414) := by rw [zx408, zx415]; exact ans_check hE _
            refine g_icmp_eq_t cx 949 d_law_921 (by decide) (u416.1) ?_
            obtain ⟨zn, ezn⟩ : ∃ z : Int32, z = zi + Int32.ofInt 7 := ⟨_, rfl⟩
            have zs := g_sinc hL pi zc (show zn = zi + 7 from ezn)
            refine g_iinc cx zn [(3, .int zn), (2, .ref (adm 0)), (1, .ref (adx 0)), (0, .ref b)] 0 d_law_949 rfl ezn.symm (by decide) rfl ?_
            refine g_goto cx 18 d_law_952 (by decide) ?_
            exact ih _ _ _ _ zn oF406 oR407 oF413 oR414 wTF413 wCF413 u416.2 zs.1 (Nat.lt_of_lt_of_le zs.2 (Nat.le_of_lt_succ hm))
          · refine g_tableIn cx 926 d_law_33 (by rw [zwe]; decide) (by rw [zwe]; decide) (by rw [zwe]; rfl) (by decide) ?_
            refine g_aload_n cx 2 rfl d_law_926 ?_
            refine g_aload_n cx 3 rfl d_law_927 ?_
            refine g_iload_n cx 0 rfl d_law_928 ?_
            refine g_iconst cx 1 (by decide) d_law_929 ?_
            refine g_iadd cx d_law_930 ?_
            refine g_sld sx d_law_931 (g_six 1 hL pi zc rfl (by decide : Int32.toInt 1 = 1) (by decide)) ?_
            refine g_topi (fun x417 ex417 => ?_)
            refine g_cViH cx [.int x417] [] (w_X10_count l X adx F R hI hA x417) ml_L_127 yV_X10_count d_law_932 (by unfold g_rr; decide) (by decide) 0 rfl rfl (wr := wM X adm G0 S) (wc := wX X adx F R) rfl rfl (Nat.le_of_ble_eq_true rfl) (fun r418 w419 h420 => ?_)
            obtain ⟨rfl, _, zx421⟩ := h420
            refine g_pop cx rfl d_law_935 ?_
            refine g_aload_n cx 1 rfl d_law_936 ?_
            refine g_aload_n cx 3 rfl d_law_937 ?_
            refine g_iload_n cx 0 rfl d_law_938 ?_
            refine g_iconst cx 1 (by decide) d_law_939 ?_
            refine g_iadd cx d_law_940 ?_
            refine g_sld sx d_law_941 (g_six 1 hL pi zc rfl (by decide : Int32.toInt 1 = 1) (by decide)) ?_
            refine g_topi (fun x422 ex422 => ?_)
            refine g_cViH cx [.int x422] [] (w_X11_count l X adm G0 S kI kA kT kC x422) ml_L_130 yV_X11_count d_law_942 (by unfold g_rr; decide) (by decide) 0 rfl rfl (wr := wX X adx F R) (wc := wM X adm G0 S) rfl rfl (Nat.le_of_ble_eq_true rfl) (fun r423 w424 h425 => ?_)
            obtain ⟨rfl, _, zx426⟩ := h425
            refine g_pop cx rfl d_law_945 ?_
            refine g_goto cx 949 d_law_946 (by decide) ?_
            obtain rfl : x417 = x422 := ex417.trans ex422.symm
            have u427 : r418 = r423 := zx421.trans ((ans_count hE _).trans zx426.symm)
            obtain ⟨zn, ezn⟩ : ∃ z : Int32, z = zi + Int32.ofInt 7 := ⟨_, rfl⟩
            have zs := g_sinc hL pi zc (show zn = zi + 7 from ezn)
            refine g_iinc cx zn [(3, .int zn), (2, .ref (adm 0)), (1, .ref (adx 0)), (0, .ref b)] 0 d_law_949 rfl ezn.symm (by decide) rfl ?_
            refine g_goto cx 18 d_law_952 (by decide) ?_
            exact ih _ _ _ _ zn hI hA kI kA kT kC hE zs.1 (Nat.lt_of_lt_of_le zs.2 (Nat.le_of_lt_succ hm))
        · refine g_tableOut cx 949 d_law_33 zw (by decide) ?_
          obtain ⟨zn, ezn⟩ : ∃ z : Int32, z = zi + Int32.ofInt 7 := ⟨_, rfl⟩
          have zs := g_sinc hL pi zc (show zn = zi + 7 from ezn)
          refine g_iinc cx zn [(3, .int zn), (2, .ref (adm 0)), (1, .ref (adx 0)), (0, .ref b)] 0 d_law_949 rfl ezn.symm (by decide) rfl ?_
          refine g_goto cx 18 d_law_952 (by decide) ?_
          exact ih _ _ _ _ zn hI hA kI kA kT kC hE zs.1 (Nat.lt_of_lt_of_le zs.2 (Nat.le_of_lt_succ hm))
  refine g_lsub [0, 1, 2, 3] [(3, .int 0), (2, .ref (adm 0)), (1, .ref (adx 0)), (0, .ref b)] rfl ?_
  exact J18 _ _ _ _ _ 0 (g_ok_of (by decide +kernel)) (g_okR_0 (by decide +kernel)) (g_ok_of (by decide +kernel)) (g_okR_0 (by decide +kernel)) WT_new WC_new rel_new (jv_w (jv_k (x := 0) 0 (by decide)) (by decide)) (Nat.lt_succ_self _)
