/-! THE CLAIM OUT OF ONE WALK OF THE LAW'S BODY. Your part is whole_start (and what it stands on); all else here is the same for every law, but numbers. -/
def R_law : String := "ClothPullLaw"
def lw_P (b : Addr) (xs : List Int32) (args : Array Value) (s : State) : Prop := args = #[.ref b] ∧ s.IntsAt b xs ∧ xs.length ≤ 7 ∧ (Jvm.Cond.and given_1 narrow_1).before args s = true
def lw_Q (_ : Array Value) (s : State) (o : Outcome) (t : State) : Prop := o = .returned (some (.int 1)) ∧ Framed s o t [] 600000 7302250
def lw_Z (below : List Frame) (a : Array Value) (s : State) : State → Prop := fun t => ∃ o, t.status = .running ∧ Ended t below o ∧ lw_Q a s o t
/-- the law's own end, with 1 on the stack, nothing written that was there before, its room as the claim has it -/
theorem lw_ret {p : Program} {l : Launch} {e : Env} {s : State} {m : MethodId} {below : List Frame} {meth : Method} {c : Code} {b : Nat} (hx : p.tables.exec = Jvm.exec) (hb : c.code = code) (hr : meth.sig.returnType = ret) (hlocks : meth.locks = false) {pc : Nat} {H : Heap} {ls : Array Slot} (hdg : decode code pc = .ok (.ireturn, 1)) : W p l e room_1 s m #[Value.ref b] below meth c H [] 600000 7302250 (lw_Z below #[Value.ref b] s) (F0 m pc ls [.int 1]) := by
  intro T hT X
  obtain ⟨fs, hret, hrun, hended, hW, hframe⟩ := X.leave (v := some (.int 1)) (hlocks := hlocks) (fun h => by rw [hr] at h; cases h)
  have hmeth' : T.vm.method? m = some meth := X.method'
  refine ⟨T.setFrames fs, ?_, .returned (some (.int 1)), hrun, hended, rfl, ⟨_, rfl⟩, hW, hframe⟩
  jvm_step X.here [X.here.top, hx, hb, hdg, hmeth', hr, ret, narrow_b1]
  (try refine ⟨rfl, ?_⟩); (try refine ⟨rfl, ?_⟩)
  first | (intro acts; rw [hret _ acts rfl rfl rfl]) | rw [hret _ _ rfl rfl rfl]
  exact Steps.refl _
/-- what holds at the law's entry: the machine, the code, the tables' words (any of lw_tbl by 'hts w (by decide +kernel)'), the script of L ints xs at the cell b, what the Statement gives of the start (any of its parts by flat_of_before) -/
def lw_At (p : Program) (s : State) (m : MethodId) (meth : Method) (c : Code) (b L : Nat) (xs : Nat → Int32) : Prop :=
  p.tables.exec = Jvm.exec ∧ c.code = code ∧ meth.sig.returnType = ret ∧ c.maxLocals = 4 ∧ s.vm.findClass R_law = some m.cls ∧ (∀ w ∈ lw_tbl, w.before #[Value.ref b] s = true) ∧ va_X b L xs s s.heap ∧ b < s.heap.size ∧ meth.locks = false ∧ (Jvm.Cond.and given_1 narrow_1).before #[Value.ref b] s = true
theorem g_appl (wc wr : va_W) : (List.range wc.length).map (fun i => (wc ++ wr)[i]?) = wc.map some := by
  rw [← g_all wc]
  apply List.map_congr_left
  intro i hi
  rw [List.getElem?_append_left (List.mem_range.mp hi)]
theorem g_appr (wc wr : va_W) : ((List.range wr.length).map (· + wc.length)).map (fun i => (wc ++ wr)[i]?) = wr.map some := by
  rw [← g_all wr, List.map_map]
  apply List.map_congr_left
  intro i hi
  show (wc ++ wr)[i + wc.length]? = _
  rw [List.getElem?_append_right (by omega), Nat.add_sub_cancel]
theorem g_nda (n k : Nat) : va_nd ((List.range n).map (· + k)) = true := by
  refine g_nd_of _ (List.nodup_range.map _ ?_)
  intro a b hab h
  exact hab (by omega)
section GCH
variable {X : gX} {E : gE} {nL k n : Nat} {l : Launch} {R : Room} {cc : ByteArray} {own : String} {ini : Prop} {ws : va_W} {lv : List (Nat × Value)} {pc pc' : Nat} {st0 : List Value}
variable {y : MethodName} {b : ByteArray} {ml d mc ms idx : Nat} {wc : va_W}
theorem g_cViH {wr : va_W} {ret : Option FieldType} {post : Int32 → va_W → Prop} (cx : g_cx X E nL l R cc own ini) (As st : List Value) {a : Nat} (hM : g_Ci l X y b ml ret d mc ms (.ref a :: As) wc post) (hw : Cond.methodLink own idx y ∈ gT) (hy : g_yV y b ml ret As.length) (hd : g_dc cc pc (.invokevirtual idx) 3 pc') (hR : g_rr R d ml) (hf : k + mc ≤ R.cells ∧ n + ms ≤ R.slots) (q0 : Nat) {ci : Nat} {fs : List Value} {T : u_T} {N : Nat} (he : wc[q0]? = some (a, .inr (ci, fs))) (hc : vwCl[ci]? = some (y.cls, T, N)) (hws : ws = wc ++ wr) (hst : st0 = As.reverse ++ .ref a :: st) (hW : (st.map fun v => v.category).sum ≤ 8)
    (kk : ∀ r w, post r w → G X E nL (k + mc) (n + ms) (wr ++ w) lv pc' (.int r :: st)) : G X E nL k n ws lv pc st0 := by
  obtain ⟨p, e, s, args, below, meth, c, Q, hE, hx, hb, hml, hown, hts, hK, hN, hA, hini⟩ := cx
  obtain ⟨hd, rfl⟩ := hd
  subst hst
  subst hws
  intro H locs ls hP hD hS hl
  rw [hE]
  have hC := g_appl wc wr
  have hPc : va_P X.1 vwCl wc H := g_P_of hC hP
  have hDc := hD.sub _ (g_ndr _) hC
  have hFc := va_free (wc := wc) hD hS hA (List.range wc.length) hC
  have hgood : GoodIn gT (wsV own idx y.cls y (gW y b ml ret)) := g_good (fun w h => by
    simp only [wsV, gW, List.mem_append, List.mem_cons, List.not_mem_nil, or_false] at h
    rcases h with (rfl | rfl | rfl | rfl) | rfl | h
    · exact hw
    · exact hy.1
    · exact hy.2.1
    · exact hy.2.2.1
    · exact hy.2.2.2.1
    · exact h)
  refine va_calli (va_runV (As := As) (rest := st) ⟨hx, hb, hml, hown, hts⟩ (hM H.size) (cwV As.length hts hgood rfl rfl rfl ⟨rfl, hy.2.2.2.2⟩ hR) ⟨g_pc_ok, va_recv hK hPc hc he, fun U hU hW => ⟨rfl, by rw [hU], by rw [hU]; exact hPc, va_K.moved hW.alike hK, hDc.weaken (fun _ _ _ _ => trivial), g_nf_warm hW hN⟩⟩ rfl rfl hl.1 rfl (lv_room hW) hd hf) hS (fun q _ h => hFc q h) hFc (fun r w t H1 locs1 ht hvm hp hB hz hk1 hS1 => ?_)
  obtain ⟨hP1, hD1⟩ := hB
  rw [ht] at hP1
  obtain ⟨hP2, hD2⟩ := va_join hP hD (List.range wc.length) ((List.range wr.length).map (· + wc.length)) hC (g_appr wc wr) (g_nda _ _) (fun i hi q => by
    obtain ⟨j, -, rfl⟩ := List.mem_map.mp hi
    have := List.mem_range.mp q
    omega) hk1 hFc hP1 hD1
  have k1 := kk r w hp H1 locs1 ls hP2 hD2 hS1 hl
  rw [hE] at k1
  exact k1
end GCH
section GLAW
def g_cxs (X : gX) (E : gE) (nL : Nat) (l : Launch) (R : Room) (cc : ByteArray) (own : String) (b L : Nat) (xs : Nat → Int32) : Prop :=
  ∃ (p : Program) (e : Env) (s : State) (args : Array Value) (below : List Frame) (meth : Method) (c : Code) (Q : State → Prop),
    E.1 = (fun H locs k n g => W p l e R s E.2.1 args below meth c H locs k n Q g) ∧ p.tables.exec = Jvm.exec ∧ c.code = cc ∧ va_X b L xs s E.2.2.2 ∧ b < E.2.2.2.size ∧ ¬ E.2.2.1 b
variable {X : gX} {E : gE} {nL k n : Nat} {l : Launch} {R : Room} {cc : ByteArray} {own : String} {ws : va_W} {lv : List (Nat × Value)} {pc pc' : Nat} {st : List Value} {b L : Nat} {xs : Nat → Int32}
theorem g_sld (cx : g_cxs X E nL l R cc own b L xs) {i : Int32} (hd : g_dc cc pc .iaload 1 pc') (hin : vp_in i L) (kk : G X E nL k n ws lv pc' (.int (xs i.toNatClampNeg) :: st)) : G X E nL k n ws lv pc (.int i :: .ref b :: st) := by
  obtain ⟨p, e, s, args, below, meth, c, Q, hE, hx, hb, hX, hbl, hbA⟩ := cx
  obtain ⟨hd, rfl⟩ := hd
  intro H locs ls hP hD hS hl0
  have k1 := kk H locs ls hP hD hS hl0
  rw [hE] at k1 ⊢
  exact va_sld hx hb hX hbl hbA hS hin hd k1
theorem g_slen (cx : g_cxs X E nL l R cc own b L xs) (hd : g_dc cc pc .arraylength 1 pc') (kk : G X E nL k n ws lv pc' (.int (Int32.ofNat L) :: st)) : G X E nL k n ws lv pc (.ref b :: st) := by
  obtain ⟨p, e, s, args, below, meth, c, Q, hE, hx, hb, hX, hbl, hbA⟩ := cx
  obtain ⟨hd, rfl⟩ := hd
  intro H locs ls hP hD hS hl0
  have k1 := kk H locs ls hP hD hS hl0
  rw [hE] at k1 ⊢
  exact va_slen hx hb hX hbl hbA hS hd k1
end GLAW
theorem g_L7 : ∀ L, L ≤ 7 → ¬ Int32.ofNat L - 7 < 0 → L = 7 := by decide +kernel
theorem g_L77 {L : Nat} (h : L = 7) : Int32.ofNat L - 7 < 7 := by subst h; decide
theorem g_i7 {L : Nat} (h : L = 7) {i : Int32} (hi : vp_in i 7) : vp_in i L := by subst h; exact hi
theorem g_sw27 (x : Int32) : (∃ j : Nat, j ≤ 26 ∧ x = nI j) ∨ (x.toInt < 0 ∨ 26 < x.toInt) := by
  by_cases h0 : x.toInt < 0
  · exact Or.inr (Or.inl h0)
  by_cases h1 : 26 < x.toInt
  · exact Or.inr (Or.inr h1)
  refine Or.inl ⟨x.toInt.toNat, by omega, ?_⟩
  apply Int32.toInt_inj.mp
  rw [nI_toInt (by omega)]
  omega
theorem g_arr {ty : FieldType} {args : Array Value} {s : State} (h : (Cond.arrayClass ty).before args s = true) : ∃ (cA : ClassId) (kA : Class) (comp : ClassId), s.vm.findClass ("[" ++ ty.toString) = some cA ∧ s.vm.classes[cA]? = some kA ∧ kA.kind = .array comp ty := by
  first
  | exact Cond.arrayClass_spec h
  | (simp only [Cond.before, Cond.holds, Cond.value] at h; done)
theorem d_law_0 : g_dc code 0 (.new 7) 3 3 := ⟨by decide +kernel, rfl⟩
theorem d_law_3 : g_dc code 3 (.dup) 1 4 := ⟨by decide +kernel, rfl⟩
theorem d_law_4 : g_dc code 4 (.invokespecial 9) 3 7 := ⟨by decide +kernel, rfl⟩
theorem d_law_7 : g_dc code 7 (.astore_n 1) 1 8 := ⟨by decide +kernel, rfl⟩
theorem d_law_8 : g_dc code 8 (.new 10) 3 11 := ⟨by decide +kernel, rfl⟩
theorem d_law_11 : g_dc code 11 (.dup) 1 12 := ⟨by decide +kernel, rfl⟩
theorem d_law_12 : g_dc code 12 (.invokespecial 12) 3 15 := ⟨by decide +kernel, rfl⟩
theorem d_law_15 : g_dc code 15 (.astore_n 2) 1 16 := ⟨by decide +kernel, rfl⟩
theorem d_law_16 : g_dc code 16 (.iconst 0) 1 17 := ⟨by decide +kernel, rfl⟩
theorem d_law_17 : g_dc code 17 (.istore_n 3) 1 18 := ⟨by decide +kernel, rfl⟩
theorem d_law_18 : g_dc code 18 (.iload_n 3) 1 19 := ⟨by decide +kernel, rfl⟩
theorem d_law_19 : g_dc code 19 (.aload_n 0) 1 20 := ⟨by decide +kernel, rfl⟩
theorem d_law_20 : g_dc code 20 (.arraylength) 1 21 := ⟨by decide +kernel, rfl⟩
theorem d_law_21 : g_dc code 21 (.bipush 7) 2 23 := ⟨by decide +kernel, rfl⟩
theorem d_law_23 : g_dc code 23 (.isub) 1 24 := ⟨by decide +kernel, rfl⟩
theorem d_law_24 : g_dc code 24 (.if_icmp .gt 931) 3 27 := ⟨by decide +kernel, rfl⟩
theorem d_law_27 : g_dc code 27 (.aload_n 0) 1 28 := ⟨by decide +kernel, rfl⟩
theorem d_law_28 : g_dc code 28 (.iload_n 3) 1 29 := ⟨by decide +kernel, rfl⟩
theorem d_law_29 : g_dc code 29 (.iaload) 1 30 := ⟨by decide +kernel, rfl⟩
theorem d_law_30 : g_dc code 30 (.bipush 31) 2 32 := ⟨by decide +kernel, rfl⟩
theorem d_law_32 : g_dc code 32 (.iand) 1 33 := ⟨by decide +kernel, rfl⟩
theorem d_law_33 : g_dc code 33 (.tableswitch 916 0 26 #[123, 156, 179, 254, 307, 330, 393, 416, 439, 462, 485, 498, 531, 544, 567, 600, 623, 656, 679, 702, 745, 778, 821, 844, 857, 870, 893]) 123 156 := ⟨by decide +kernel, rfl⟩
theorem d_law_156 : g_dc code 156 (.aload_n 1) 1 157 := ⟨by decide +kernel, rfl⟩
theorem d_law_157 : g_dc code 157 (.aload_n 0) 1 158 := ⟨by decide +kernel, rfl⟩
theorem d_law_158 : g_dc code 158 (.iload_n 3) 1 159 := ⟨by decide +kernel, rfl⟩
theorem d_law_159 : g_dc code 159 (.iconst 1) 1 160 := ⟨by decide +kernel, rfl⟩
theorem d_law_160 : g_dc code 160 (.iadd) 1 161 := ⟨by decide +kernel, rfl⟩
theorem d_law_161 : g_dc code 161 (.iaload) 1 162 := ⟨by decide +kernel, rfl⟩
theorem d_law_162 : g_dc code 162 (.aload_n 0) 1 163 := ⟨by decide +kernel, rfl⟩
theorem d_law_163 : g_dc code 163 (.iload_n 3) 1 164 := ⟨by decide +kernel, rfl⟩
theorem d_law_164 : g_dc code 164 (.iconst 2) 1 165 := ⟨by decide +kernel, rfl⟩
theorem d_law_165 : g_dc code 165 (.iadd) 1 166 := ⟨by decide +kernel, rfl⟩
theorem d_law_166 : g_dc code 166 (.iaload) 1 167 := ⟨by decide +kernel, rfl⟩
theorem d_law_167 : g_dc code 167 (.invokevirtual 13) 3 170 := ⟨by decide +kernel, rfl⟩
theorem d_law_170 : g_dc code 170 (.aload_n 2) 1 171 := ⟨by decide +kernel, rfl⟩
theorem d_law_171 : g_dc code 171 (.aload_n 0) 1 172 := ⟨by decide +kernel, rfl⟩
theorem d_law_172 : g_dc code 172 (.iload_n 3) 1 173 := ⟨by decide +kernel, rfl⟩
theorem d_law_173 : g_dc code 173 (.iconst 1) 1 174 := ⟨by decide +kernel, rfl⟩
theorem d_law_174 : g_dc code 174 (.iadd) 1 175 := ⟨by decide +kernel, rfl⟩
theorem d_law_175 : g_dc code 175 (.iaload) 1 176 := ⟨by decide +kernel, rfl⟩
theorem d_law_176 : g_dc code 176 (.aload_n 0) 1 177 := ⟨by decide +kernel, rfl⟩
theorem d_law_177 : g_dc code 177 (.iload_n 3) 1 178 := ⟨by decide +kernel, rfl⟩
theorem d_law_178 : g_dc code 178 (.iconst 2) 1 179 := ⟨by decide +kernel, rfl⟩
theorem d_law_179 : g_dc code 179 (.iadd) 1 180 := ⟨by decide +kernel, rfl⟩
theorem d_law_180 : g_dc code 180 (.iaload) 1 181 := ⟨by decide +kernel, rfl⟩
theorem d_law_181 : g_dc code 181 (.invokevirtual 17) 3 184 := ⟨by decide +kernel, rfl⟩
theorem d_law_184 : g_dc code 184 (.if_icmp .eq 765) 3 187 := ⟨by decide +kernel, rfl⟩
theorem d_law_189 : g_dc code 189 (.aload_n 1) 1 190 := ⟨by decide +kernel, rfl⟩
theorem d_law_190 : g_dc code 190 (.aload_n 0) 1 191 := ⟨by decide +kernel, rfl⟩
theorem d_law_191 : g_dc code 191 (.iload_n 3) 1 192 := ⟨by decide +kernel, rfl⟩
theorem d_law_192 : g_dc code 192 (.iconst 1) 1 193 := ⟨by decide +kernel, rfl⟩
theorem d_law_193 : g_dc code 193 (.iadd) 1 194 := ⟨by decide +kernel, rfl⟩
theorem d_law_194 : g_dc code 194 (.iaload) 1 195 := ⟨by decide +kernel, rfl⟩
theorem d_law_195 : g_dc code 195 (.invokevirtual 18) 3 198 := ⟨by decide +kernel, rfl⟩
theorem d_law_198 : g_dc code 198 (.aload_n 2) 1 199 := ⟨by decide +kernel, rfl⟩
theorem d_law_199 : g_dc code 199 (.aload_n 0) 1 200 := ⟨by decide +kernel, rfl⟩
theorem d_law_200 : g_dc code 200 (.iload_n 3) 1 201 := ⟨by decide +kernel, rfl⟩
theorem d_law_201 : g_dc code 201 (.iconst 1) 1 202 := ⟨by decide +kernel, rfl⟩
theorem d_law_202 : g_dc code 202 (.iadd) 1 203 := ⟨by decide +kernel, rfl⟩
theorem d_law_203 : g_dc code 203 (.iaload) 1 204 := ⟨by decide +kernel, rfl⟩
theorem d_law_204 : g_dc code 204 (.invokevirtual 22) 3 207 := ⟨by decide +kernel, rfl⟩
theorem d_law_207 : g_dc code 207 (.if_icmp .eq 742) 3 210 := ⟨by decide +kernel, rfl⟩
theorem d_law_212 : g_dc code 212 (.aload_n 1) 1 213 := ⟨by decide +kernel, rfl⟩
theorem d_law_213 : g_dc code 213 (.aload_n 0) 1 214 := ⟨by decide +kernel, rfl⟩
theorem d_law_214 : g_dc code 214 (.iload_n 3) 1 215 := ⟨by decide +kernel, rfl⟩
theorem d_law_215 : g_dc code 215 (.iconst 1) 1 216 := ⟨by decide +kernel, rfl⟩
theorem d_law_216 : g_dc code 216 (.iadd) 1 217 := ⟨by decide +kernel, rfl⟩
theorem d_law_217 : g_dc code 217 (.iaload) 1 218 := ⟨by decide +kernel, rfl⟩
theorem d_law_218 : g_dc code 218 (.aload_n 0) 1 219 := ⟨by decide +kernel, rfl⟩
theorem d_law_219 : g_dc code 219 (.iload_n 3) 1 220 := ⟨by decide +kernel, rfl⟩
theorem d_law_220 : g_dc code 220 (.iconst 2) 1 221 := ⟨by decide +kernel, rfl⟩
theorem d_law_221 : g_dc code 221 (.iadd) 1 222 := ⟨by decide +kernel, rfl⟩
theorem d_law_222 : g_dc code 222 (.iaload) 1 223 := ⟨by decide +kernel, rfl⟩
theorem d_law_223 : g_dc code 223 (.aload_n 0) 1 224 := ⟨by decide +kernel, rfl⟩
theorem d_law_224 : g_dc code 224 (.iload_n 3) 1 225 := ⟨by decide +kernel, rfl⟩
theorem d_law_225 : g_dc code 225 (.iconst 3) 1 226 := ⟨by decide +kernel, rfl⟩
theorem d_law_226 : g_dc code 226 (.iadd) 1 227 := ⟨by decide +kernel, rfl⟩
theorem d_law_227 : g_dc code 227 (.iaload) 1 228 := ⟨by decide +kernel, rfl⟩
theorem d_law_228 : g_dc code 228 (.aload_n 0) 1 229 := ⟨by decide +kernel, rfl⟩
theorem d_law_229 : g_dc code 229 (.iload_n 3) 1 230 := ⟨by decide +kernel, rfl⟩
theorem d_law_230 : g_dc code 230 (.iconst 4) 1 231 := ⟨by decide +kernel, rfl⟩
theorem d_law_231 : g_dc code 231 (.iadd) 1 232 := ⟨by decide +kernel, rfl⟩
theorem d_law_232 : g_dc code 232 (.iaload) 1 233 := ⟨by decide +kernel, rfl⟩
theorem d_law_233 : g_dc code 233 (.aload_n 0) 1 234 := ⟨by decide +kernel, rfl⟩
theorem d_law_234 : g_dc code 234 (.iload_n 3) 1 235 := ⟨by decide +kernel, rfl⟩
theorem d_law_235 : g_dc code 235 (.iconst 5) 1 236 := ⟨by decide +kernel, rfl⟩
theorem d_law_236 : g_dc code 236 (.iadd) 1 237 := ⟨by decide +kernel, rfl⟩
theorem d_law_237 : g_dc code 237 (.iaload) 1 238 := ⟨by decide +kernel, rfl⟩
theorem d_law_238 : g_dc code 238 (.aload_n 0) 1 239 := ⟨by decide +kernel, rfl⟩
theorem d_law_239 : g_dc code 239 (.iload_n 3) 1 240 := ⟨by decide +kernel, rfl⟩
theorem d_law_240 : g_dc code 240 (.bipush 6) 2 242 := ⟨by decide +kernel, rfl⟩
theorem d_law_242 : g_dc code 242 (.iadd) 1 243 := ⟨by decide +kernel, rfl⟩
theorem d_law_243 : g_dc code 243 (.iaload) 1 244 := ⟨by decide +kernel, rfl⟩
theorem d_law_244 : g_dc code 244 (.invokevirtual 23) 3 247 := ⟨by decide +kernel, rfl⟩
theorem d_law_247 : g_dc code 247 (.aload_n 2) 1 248 := ⟨by decide +kernel, rfl⟩
theorem d_law_248 : g_dc code 248 (.aload_n 0) 1 249 := ⟨by decide +kernel, rfl⟩
theorem d_law_249 : g_dc code 249 (.iload_n 3) 1 250 := ⟨by decide +kernel, rfl⟩
theorem d_law_250 : g_dc code 250 (.iconst 1) 1 251 := ⟨by decide +kernel, rfl⟩
theorem d_law_251 : g_dc code 251 (.iadd) 1 252 := ⟨by decide +kernel, rfl⟩
theorem d_law_252 : g_dc code 252 (.iaload) 1 253 := ⟨by decide +kernel, rfl⟩
theorem d_law_253 : g_dc code 253 (.aload_n 0) 1 254 := ⟨by decide +kernel, rfl⟩
theorem d_law_254 : g_dc code 254 (.iload_n 3) 1 255 := ⟨by decide +kernel, rfl⟩
theorem d_law_255 : g_dc code 255 (.iconst 2) 1 256 := ⟨by decide +kernel, rfl⟩
theorem d_law_256 : g_dc code 256 (.iadd) 1 257 := ⟨by decide +kernel, rfl⟩
theorem d_law_257 : g_dc code 257 (.iaload) 1 258 := ⟨by decide +kernel, rfl⟩
theorem d_law_258 : g_dc code 258 (.aload_n 0) 1 259 := ⟨by decide +kernel, rfl⟩
theorem d_law_259 : g_dc code 259 (.iload_n 3) 1 260 := ⟨by decide +kernel, rfl⟩
theorem d_law_260 : g_dc code 260 (.iconst 3) 1 261 := ⟨by decide +kernel, rfl⟩
theorem d_law_261 : g_dc code 261 (.iadd) 1 262 := ⟨by decide +kernel, rfl⟩
theorem d_law_262 : g_dc code 262 (.iaload) 1 263 := ⟨by decide +kernel, rfl⟩
theorem d_law_263 : g_dc code 263 (.aload_n 0) 1 264 := ⟨by decide +kernel, rfl⟩
theorem d_law_264 : g_dc code 264 (.iload_n 3) 1 265 := ⟨by decide +kernel, rfl⟩
theorem d_law_265 : g_dc code 265 (.iconst 4) 1 266 := ⟨by decide +kernel, rfl⟩
theorem d_law_266 : g_dc code 266 (.iadd) 1 267 := ⟨by decide +kernel, rfl⟩
theorem d_law_267 : g_dc code 267 (.iaload) 1 268 := ⟨by decide +kernel, rfl⟩
theorem d_law_268 : g_dc code 268 (.aload_n 0) 1 269 := ⟨by decide +kernel, rfl⟩
theorem d_law_269 : g_dc code 269 (.iload_n 3) 1 270 := ⟨by decide +kernel, rfl⟩
theorem d_law_270 : g_dc code 270 (.iconst 5) 1 271 := ⟨by decide +kernel, rfl⟩
theorem d_law_271 : g_dc code 271 (.iadd) 1 272 := ⟨by decide +kernel, rfl⟩
theorem d_law_272 : g_dc code 272 (.iaload) 1 273 := ⟨by decide +kernel, rfl⟩
theorem d_law_273 : g_dc code 273 (.aload_n 0) 1 274 := ⟨by decide +kernel, rfl⟩
theorem d_law_274 : g_dc code 274 (.iload_n 3) 1 275 := ⟨by decide +kernel, rfl⟩
theorem d_law_275 : g_dc code 275 (.bipush 6) 2 277 := ⟨by decide +kernel, rfl⟩
theorem d_law_277 : g_dc code 277 (.iadd) 1 278 := ⟨by decide +kernel, rfl⟩
theorem d_law_278 : g_dc code 278 (.iaload) 1 279 := ⟨by decide +kernel, rfl⟩
theorem d_law_279 : g_dc code 279 (.invokevirtual 27) 3 282 := ⟨by decide +kernel, rfl⟩
theorem d_law_282 : g_dc code 282 (.if_icmp .eq 667) 3 285 := ⟨by decide +kernel, rfl⟩
theorem d_law_287 : g_dc code 287 (.aload_n 1) 1 288 := ⟨by decide +kernel, rfl⟩
theorem d_law_288 : g_dc code 288 (.aload_n 0) 1 289 := ⟨by decide +kernel, rfl⟩
theorem d_law_289 : g_dc code 289 (.iload_n 3) 1 290 := ⟨by decide +kernel, rfl⟩
theorem d_law_290 : g_dc code 290 (.iconst 1) 1 291 := ⟨by decide +kernel, rfl⟩
theorem d_law_291 : g_dc code 291 (.iadd) 1 292 := ⟨by decide +kernel, rfl⟩
theorem d_law_292 : g_dc code 292 (.iaload) 1 293 := ⟨by decide +kernel, rfl⟩
theorem d_law_293 : g_dc code 293 (.aload_n 0) 1 294 := ⟨by decide +kernel, rfl⟩
theorem d_law_294 : g_dc code 294 (.iload_n 3) 1 295 := ⟨by decide +kernel, rfl⟩
theorem d_law_295 : g_dc code 295 (.iconst 2) 1 296 := ⟨by decide +kernel, rfl⟩
theorem d_law_296 : g_dc code 296 (.iadd) 1 297 := ⟨by decide +kernel, rfl⟩
theorem d_law_297 : g_dc code 297 (.iaload) 1 298 := ⟨by decide +kernel, rfl⟩
theorem d_law_298 : g_dc code 298 (.aload_n 0) 1 299 := ⟨by decide +kernel, rfl⟩
theorem d_law_299 : g_dc code 299 (.iload_n 3) 1 300 := ⟨by decide +kernel, rfl⟩
theorem d_law_300 : g_dc code 300 (.iconst 3) 1 301 := ⟨by decide +kernel, rfl⟩
theorem d_law_301 : g_dc code 301 (.iadd) 1 302 := ⟨by decide +kernel, rfl⟩
theorem d_law_302 : g_dc code 302 (.iaload) 1 303 := ⟨by decide +kernel, rfl⟩
theorem d_law_303 : g_dc code 303 (.aload_n 0) 1 304 := ⟨by decide +kernel, rfl⟩
theorem d_law_304 : g_dc code 304 (.iload_n 3) 1 305 := ⟨by decide +kernel, rfl⟩
theorem d_law_305 : g_dc code 305 (.iconst 4) 1 306 := ⟨by decide +kernel, rfl⟩
theorem d_law_306 : g_dc code 306 (.iadd) 1 307 := ⟨by decide +kernel, rfl⟩
theorem d_law_307 : g_dc code 307 (.iaload) 1 308 := ⟨by decide +kernel, rfl⟩
theorem d_law_308 : g_dc code 308 (.invokevirtual 28) 3 311 := ⟨by decide +kernel, rfl⟩
theorem d_law_311 : g_dc code 311 (.aload_n 2) 1 312 := ⟨by decide +kernel, rfl⟩
theorem d_law_312 : g_dc code 312 (.aload_n 0) 1 313 := ⟨by decide +kernel, rfl⟩
theorem d_law_313 : g_dc code 313 (.iload_n 3) 1 314 := ⟨by decide +kernel, rfl⟩
theorem d_law_314 : g_dc code 314 (.iconst 1) 1 315 := ⟨by decide +kernel, rfl⟩
theorem d_law_315 : g_dc code 315 (.iadd) 1 316 := ⟨by decide +kernel, rfl⟩
theorem d_law_316 : g_dc code 316 (.iaload) 1 317 := ⟨by decide +kernel, rfl⟩
theorem d_law_317 : g_dc code 317 (.aload_n 0) 1 318 := ⟨by decide +kernel, rfl⟩
theorem d_law_318 : g_dc code 318 (.iload_n 3) 1 319 := ⟨by decide +kernel, rfl⟩
theorem d_law_319 : g_dc code 319 (.iconst 2) 1 320 := ⟨by decide +kernel, rfl⟩
theorem d_law_320 : g_dc code 320 (.iadd) 1 321 := ⟨by decide +kernel, rfl⟩
theorem d_law_321 : g_dc code 321 (.iaload) 1 322 := ⟨by decide +kernel, rfl⟩
theorem d_law_322 : g_dc code 322 (.aload_n 0) 1 323 := ⟨by decide +kernel, rfl⟩
theorem d_law_323 : g_dc code 323 (.iload_n 3) 1 324 := ⟨by decide +kernel, rfl⟩
theorem d_law_324 : g_dc code 324 (.iconst 3) 1 325 := ⟨by decide +kernel, rfl⟩
theorem d_law_325 : g_dc code 325 (.iadd) 1 326 := ⟨by decide +kernel, rfl⟩
theorem d_law_326 : g_dc code 326 (.iaload) 1 327 := ⟨by decide +kernel, rfl⟩
theorem d_law_327 : g_dc code 327 (.aload_n 0) 1 328 := ⟨by decide +kernel, rfl⟩
theorem d_law_328 : g_dc code 328 (.iload_n 3) 1 329 := ⟨by decide +kernel, rfl⟩
theorem d_law_329 : g_dc code 329 (.iconst 4) 1 330 := ⟨by decide +kernel, rfl⟩
theorem d_law_330 : g_dc code 330 (.iadd) 1 331 := ⟨by decide +kernel, rfl⟩
theorem d_law_331 : g_dc code 331 (.iaload) 1 332 := ⟨by decide +kernel, rfl⟩
theorem d_law_332 : g_dc code 332 (.invokevirtual 32) 3 335 := ⟨by decide +kernel, rfl⟩
theorem d_law_335 : g_dc code 335 (.if_icmp .eq 614) 3 338 := ⟨by decide +kernel, rfl⟩
theorem d_law_340 : g_dc code 340 (.aload_n 1) 1 341 := ⟨by decide +kernel, rfl⟩
theorem d_law_341 : g_dc code 341 (.aload_n 0) 1 342 := ⟨by decide +kernel, rfl⟩
theorem d_law_342 : g_dc code 342 (.iload_n 3) 1 343 := ⟨by decide +kernel, rfl⟩
theorem d_law_343 : g_dc code 343 (.iconst 1) 1 344 := ⟨by decide +kernel, rfl⟩
theorem d_law_344 : g_dc code 344 (.iadd) 1 345 := ⟨by decide +kernel, rfl⟩
theorem d_law_345 : g_dc code 345 (.iaload) 1 346 := ⟨by decide +kernel, rfl⟩
theorem d_law_346 : g_dc code 346 (.invokevirtual 33) 3 349 := ⟨by decide +kernel, rfl⟩
theorem d_law_349 : g_dc code 349 (.aload_n 2) 1 350 := ⟨by decide +kernel, rfl⟩
theorem d_law_350 : g_dc code 350 (.aload_n 0) 1 351 := ⟨by decide +kernel, rfl⟩
theorem d_law_351 : g_dc code 351 (.iload_n 3) 1 352 := ⟨by decide +kernel, rfl⟩
theorem d_law_352 : g_dc code 352 (.iconst 1) 1 353 := ⟨by decide +kernel, rfl⟩
theorem d_law_353 : g_dc code 353 (.iadd) 1 354 := ⟨by decide +kernel, rfl⟩
theorem d_law_354 : g_dc code 354 (.iaload) 1 355 := ⟨by decide +kernel, rfl⟩
theorem d_law_355 : g_dc code 355 (.invokevirtual 36) 3 358 := ⟨by decide +kernel, rfl⟩
theorem d_law_358 : g_dc code 358 (.if_icmp .eq 591) 3 361 := ⟨by decide +kernel, rfl⟩
theorem d_law_363 : g_dc code 363 (.aload_n 1) 1 364 := ⟨by decide +kernel, rfl⟩
theorem d_law_364 : g_dc code 364 (.aload_n 0) 1 365 := ⟨by decide +kernel, rfl⟩
theorem d_law_365 : g_dc code 365 (.iload_n 3) 1 366 := ⟨by decide +kernel, rfl⟩
theorem d_law_366 : g_dc code 366 (.iconst 1) 1 367 := ⟨by decide +kernel, rfl⟩
theorem d_law_367 : g_dc code 367 (.iadd) 1 368 := ⟨by decide +kernel, rfl⟩
theorem d_law_368 : g_dc code 368 (.iaload) 1 369 := ⟨by decide +kernel, rfl⟩
theorem d_law_369 : g_dc code 369 (.aload_n 0) 1 370 := ⟨by decide +kernel, rfl⟩
theorem d_law_370 : g_dc code 370 (.iload_n 3) 1 371 := ⟨by decide +kernel, rfl⟩
theorem d_law_371 : g_dc code 371 (.iconst 2) 1 372 := ⟨by decide +kernel, rfl⟩
theorem d_law_372 : g_dc code 372 (.iadd) 1 373 := ⟨by decide +kernel, rfl⟩
theorem d_law_373 : g_dc code 373 (.iaload) 1 374 := ⟨by decide +kernel, rfl⟩
theorem d_law_374 : g_dc code 374 (.aload_n 0) 1 375 := ⟨by decide +kernel, rfl⟩
theorem d_law_375 : g_dc code 375 (.iload_n 3) 1 376 := ⟨by decide +kernel, rfl⟩
theorem d_law_376 : g_dc code 376 (.iconst 3) 1 377 := ⟨by decide +kernel, rfl⟩
theorem d_law_377 : g_dc code 377 (.iadd) 1 378 := ⟨by decide +kernel, rfl⟩
theorem d_law_378 : g_dc code 378 (.iaload) 1 379 := ⟨by decide +kernel, rfl⟩
theorem d_law_379 : g_dc code 379 (.aload_n 0) 1 380 := ⟨by decide +kernel, rfl⟩
theorem d_law_380 : g_dc code 380 (.iload_n 3) 1 381 := ⟨by decide +kernel, rfl⟩
theorem d_law_381 : g_dc code 381 (.iconst 4) 1 382 := ⟨by decide +kernel, rfl⟩
theorem d_law_382 : g_dc code 382 (.iadd) 1 383 := ⟨by decide +kernel, rfl⟩
theorem d_law_383 : g_dc code 383 (.iaload) 1 384 := ⟨by decide +kernel, rfl⟩
theorem d_law_384 : g_dc code 384 (.aload_n 0) 1 385 := ⟨by decide +kernel, rfl⟩
theorem d_law_385 : g_dc code 385 (.iload_n 3) 1 386 := ⟨by decide +kernel, rfl⟩
theorem d_law_386 : g_dc code 386 (.iconst 5) 1 387 := ⟨by decide +kernel, rfl⟩
theorem d_law_387 : g_dc code 387 (.iadd) 1 388 := ⟨by decide +kernel, rfl⟩
theorem d_law_388 : g_dc code 388 (.iaload) 1 389 := ⟨by decide +kernel, rfl⟩
theorem d_law_389 : g_dc code 389 (.invokevirtual 37) 3 392 := ⟨by decide +kernel, rfl⟩
theorem d_law_392 : g_dc code 392 (.aload_n 2) 1 393 := ⟨by decide +kernel, rfl⟩
theorem d_law_393 : g_dc code 393 (.aload_n 0) 1 394 := ⟨by decide +kernel, rfl⟩
theorem d_law_394 : g_dc code 394 (.iload_n 3) 1 395 := ⟨by decide +kernel, rfl⟩
theorem d_law_395 : g_dc code 395 (.iconst 1) 1 396 := ⟨by decide +kernel, rfl⟩
theorem d_law_396 : g_dc code 396 (.iadd) 1 397 := ⟨by decide +kernel, rfl⟩
theorem d_law_397 : g_dc code 397 (.iaload) 1 398 := ⟨by decide +kernel, rfl⟩
theorem d_law_398 : g_dc code 398 (.aload_n 0) 1 399 := ⟨by decide +kernel, rfl⟩
theorem d_law_399 : g_dc code 399 (.iload_n 3) 1 400 := ⟨by decide +kernel, rfl⟩
theorem d_law_400 : g_dc code 400 (.iconst 2) 1 401 := ⟨by decide +kernel, rfl⟩
theorem d_law_401 : g_dc code 401 (.iadd) 1 402 := ⟨by decide +kernel, rfl⟩
theorem d_law_402 : g_dc code 402 (.iaload) 1 403 := ⟨by decide +kernel, rfl⟩
theorem d_law_403 : g_dc code 403 (.aload_n 0) 1 404 := ⟨by decide +kernel, rfl⟩
theorem d_law_404 : g_dc code 404 (.iload_n 3) 1 405 := ⟨by decide +kernel, rfl⟩
theorem d_law_405 : g_dc code 405 (.iconst 3) 1 406 := ⟨by decide +kernel, rfl⟩
theorem d_law_406 : g_dc code 406 (.iadd) 1 407 := ⟨by decide +kernel, rfl⟩
theorem d_law_407 : g_dc code 407 (.iaload) 1 408 := ⟨by decide +kernel, rfl⟩
theorem d_law_408 : g_dc code 408 (.aload_n 0) 1 409 := ⟨by decide +kernel, rfl⟩
theorem d_law_409 : g_dc code 409 (.iload_n 3) 1 410 := ⟨by decide +kernel, rfl⟩
theorem d_law_410 : g_dc code 410 (.iconst 4) 1 411 := ⟨by decide +kernel, rfl⟩
theorem d_law_411 : g_dc code 411 (.iadd) 1 412 := ⟨by decide +kernel, rfl⟩
theorem d_law_412 : g_dc code 412 (.iaload) 1 413 := ⟨by decide +kernel, rfl⟩
theorem d_law_413 : g_dc code 413 (.aload_n 0) 1 414 := ⟨by decide +kernel, rfl⟩
theorem d_law_414 : g_dc code 414 (.iload_n 3) 1 415 := ⟨by decide +kernel, rfl⟩
theorem d_law_415 : g_dc code 415 (.iconst 5) 1 416 := ⟨by decide +kernel, rfl⟩
theorem d_law_416 : g_dc code 416 (.iadd) 1 417 := ⟨by decide +kernel, rfl⟩
theorem d_law_417 : g_dc code 417 (.iaload) 1 418 := ⟨by decide +kernel, rfl⟩
theorem d_law_418 : g_dc code 418 (.invokevirtual 41) 3 421 := ⟨by decide +kernel, rfl⟩
theorem d_law_421 : g_dc code 421 (.if_icmp .eq 528) 3 424 := ⟨by decide +kernel, rfl⟩
theorem d_law_426 : g_dc code 426 (.aload_n 1) 1 427 := ⟨by decide +kernel, rfl⟩
theorem d_law_427 : g_dc code 427 (.aload_n 0) 1 428 := ⟨by decide +kernel, rfl⟩
theorem d_law_428 : g_dc code 428 (.iload_n 3) 1 429 := ⟨by decide +kernel, rfl⟩
theorem d_law_429 : g_dc code 429 (.iconst 1) 1 430 := ⟨by decide +kernel, rfl⟩
theorem d_law_430 : g_dc code 430 (.iadd) 1 431 := ⟨by decide +kernel, rfl⟩
theorem d_law_431 : g_dc code 431 (.iaload) 1 432 := ⟨by decide +kernel, rfl⟩
theorem d_law_432 : g_dc code 432 (.invokevirtual 42) 3 435 := ⟨by decide +kernel, rfl⟩
theorem d_law_435 : g_dc code 435 (.aload_n 2) 1 436 := ⟨by decide +kernel, rfl⟩
theorem d_law_436 : g_dc code 436 (.aload_n 0) 1 437 := ⟨by decide +kernel, rfl⟩
theorem d_law_437 : g_dc code 437 (.iload_n 3) 1 438 := ⟨by decide +kernel, rfl⟩
theorem d_law_438 : g_dc code 438 (.iconst 1) 1 439 := ⟨by decide +kernel, rfl⟩
theorem d_law_439 : g_dc code 439 (.iadd) 1 440 := ⟨by decide +kernel, rfl⟩
theorem d_law_440 : g_dc code 440 (.iaload) 1 441 := ⟨by decide +kernel, rfl⟩
theorem d_law_441 : g_dc code 441 (.invokevirtual 46) 3 444 := ⟨by decide +kernel, rfl⟩
theorem d_law_444 : g_dc code 444 (.if_icmp .eq 505) 3 447 := ⟨by decide +kernel, rfl⟩
theorem d_law_449 : g_dc code 449 (.aload_n 1) 1 450 := ⟨by decide +kernel, rfl⟩
theorem d_law_450 : g_dc code 450 (.aload_n 0) 1 451 := ⟨by decide +kernel, rfl⟩
theorem d_law_451 : g_dc code 451 (.iload_n 3) 1 452 := ⟨by decide +kernel, rfl⟩
theorem d_law_452 : g_dc code 452 (.iconst 1) 1 453 := ⟨by decide +kernel, rfl⟩
theorem d_law_453 : g_dc code 453 (.iadd) 1 454 := ⟨by decide +kernel, rfl⟩
theorem d_law_454 : g_dc code 454 (.iaload) 1 455 := ⟨by decide +kernel, rfl⟩
theorem d_law_455 : g_dc code 455 (.invokevirtual 47) 3 458 := ⟨by decide +kernel, rfl⟩
theorem d_law_458 : g_dc code 458 (.aload_n 2) 1 459 := ⟨by decide +kernel, rfl⟩
theorem d_law_459 : g_dc code 459 (.aload_n 0) 1 460 := ⟨by decide +kernel, rfl⟩
theorem d_law_460 : g_dc code 460 (.iload_n 3) 1 461 := ⟨by decide +kernel, rfl⟩
theorem d_law_461 : g_dc code 461 (.iconst 1) 1 462 := ⟨by decide +kernel, rfl⟩
theorem d_law_462 : g_dc code 462 (.iadd) 1 463 := ⟨by decide +kernel, rfl⟩
theorem d_law_463 : g_dc code 463 (.iaload) 1 464 := ⟨by decide +kernel, rfl⟩
theorem d_law_464 : g_dc code 464 (.invokevirtual 50) 3 467 := ⟨by decide +kernel, rfl⟩
theorem d_law_467 : g_dc code 467 (.if_icmp .eq 482) 3 470 := ⟨by decide +kernel, rfl⟩
theorem d_law_472 : g_dc code 472 (.aload_n 1) 1 473 := ⟨by decide +kernel, rfl⟩
theorem d_law_473 : g_dc code 473 (.aload_n 0) 1 474 := ⟨by decide +kernel, rfl⟩
theorem d_law_474 : g_dc code 474 (.iload_n 3) 1 475 := ⟨by decide +kernel, rfl⟩
theorem d_law_475 : g_dc code 475 (.iconst 1) 1 476 := ⟨by decide +kernel, rfl⟩
theorem d_law_476 : g_dc code 476 (.iadd) 1 477 := ⟨by decide +kernel, rfl⟩
theorem d_law_477 : g_dc code 477 (.iaload) 1 478 := ⟨by decide +kernel, rfl⟩
theorem d_law_478 : g_dc code 478 (.invokevirtual 51) 3 481 := ⟨by decide +kernel, rfl⟩
theorem d_law_481 : g_dc code 481 (.aload_n 2) 1 482 := ⟨by decide +kernel, rfl⟩
theorem d_law_482 : g_dc code 482 (.aload_n 0) 1 483 := ⟨by decide +kernel, rfl⟩
theorem d_law_483 : g_dc code 483 (.iload_n 3) 1 484 := ⟨by decide +kernel, rfl⟩
theorem d_law_484 : g_dc code 484 (.iconst 1) 1 485 := ⟨by decide +kernel, rfl⟩
theorem d_law_485 : g_dc code 485 (.iadd) 1 486 := ⟨by decide +kernel, rfl⟩
theorem d_law_486 : g_dc code 486 (.iaload) 1 487 := ⟨by decide +kernel, rfl⟩
theorem d_law_487 : g_dc code 487 (.invokevirtual 54) 3 490 := ⟨by decide +kernel, rfl⟩
theorem d_law_490 : g_dc code 490 (.if_icmp .eq 459) 3 493 := ⟨by decide +kernel, rfl⟩
theorem d_law_495 : g_dc code 495 (.aload_n 1) 1 496 := ⟨by decide +kernel, rfl⟩
theorem d_law_496 : g_dc code 496 (.aload_n 0) 1 497 := ⟨by decide +kernel, rfl⟩
theorem d_law_497 : g_dc code 497 (.iload_n 3) 1 498 := ⟨by decide +kernel, rfl⟩
theorem d_law_498 : g_dc code 498 (.iconst 1) 1 499 := ⟨by decide +kernel, rfl⟩
theorem d_law_499 : g_dc code 499 (.iadd) 1 500 := ⟨by decide +kernel, rfl⟩
theorem d_law_500 : g_dc code 500 (.iaload) 1 501 := ⟨by decide +kernel, rfl⟩
theorem d_law_501 : g_dc code 501 (.invokevirtual 55) 3 504 := ⟨by decide +kernel, rfl⟩
theorem d_law_504 : g_dc code 504 (.aload_n 2) 1 505 := ⟨by decide +kernel, rfl⟩
theorem d_law_505 : g_dc code 505 (.aload_n 0) 1 506 := ⟨by decide +kernel, rfl⟩
theorem d_law_506 : g_dc code 506 (.iload_n 3) 1 507 := ⟨by decide +kernel, rfl⟩
theorem d_law_507 : g_dc code 507 (.iconst 1) 1 508 := ⟨by decide +kernel, rfl⟩
theorem d_law_508 : g_dc code 508 (.iadd) 1 509 := ⟨by decide +kernel, rfl⟩
theorem d_law_509 : g_dc code 509 (.iaload) 1 510 := ⟨by decide +kernel, rfl⟩
theorem d_law_510 : g_dc code 510 (.invokevirtual 58) 3 513 := ⟨by decide +kernel, rfl⟩
theorem d_law_513 : g_dc code 513 (.if_icmp .eq 436) 3 516 := ⟨by decide +kernel, rfl⟩
theorem d_law_518 : g_dc code 518 (.aload_n 1) 1 519 := ⟨by decide +kernel, rfl⟩
theorem d_law_519 : g_dc code 519 (.invokevirtual 59) 3 522 := ⟨by decide +kernel, rfl⟩
theorem d_law_522 : g_dc code 522 (.aload_n 2) 1 523 := ⟨by decide +kernel, rfl⟩
theorem d_law_523 : g_dc code 523 (.invokevirtual 63) 3 526 := ⟨by decide +kernel, rfl⟩
theorem d_law_526 : g_dc code 526 (.if_icmp .eq 423) 3 529 := ⟨by decide +kernel, rfl⟩
theorem d_law_531 : g_dc code 531 (.aload_n 1) 1 532 := ⟨by decide +kernel, rfl⟩
theorem d_law_532 : g_dc code 532 (.aload_n 0) 1 533 := ⟨by decide +kernel, rfl⟩
theorem d_law_533 : g_dc code 533 (.iload_n 3) 1 534 := ⟨by decide +kernel, rfl⟩
theorem d_law_534 : g_dc code 534 (.iconst 1) 1 535 := ⟨by decide +kernel, rfl⟩
theorem d_law_535 : g_dc code 535 (.iadd) 1 536 := ⟨by decide +kernel, rfl⟩
theorem d_law_536 : g_dc code 536 (.iaload) 1 537 := ⟨by decide +kernel, rfl⟩
theorem d_law_537 : g_dc code 537 (.aload_n 0) 1 538 := ⟨by decide +kernel, rfl⟩
theorem d_law_538 : g_dc code 538 (.iload_n 3) 1 539 := ⟨by decide +kernel, rfl⟩
theorem d_law_539 : g_dc code 539 (.iconst 2) 1 540 := ⟨by decide +kernel, rfl⟩
theorem d_law_540 : g_dc code 540 (.iadd) 1 541 := ⟨by decide +kernel, rfl⟩
theorem d_law_541 : g_dc code 541 (.iaload) 1 542 := ⟨by decide +kernel, rfl⟩
theorem d_law_542 : g_dc code 542 (.invokevirtual 64) 3 545 := ⟨by decide +kernel, rfl⟩
theorem d_law_545 : g_dc code 545 (.aload_n 2) 1 546 := ⟨by decide +kernel, rfl⟩
theorem d_law_546 : g_dc code 546 (.aload_n 0) 1 547 := ⟨by decide +kernel, rfl⟩
theorem d_law_547 : g_dc code 547 (.iload_n 3) 1 548 := ⟨by decide +kernel, rfl⟩
theorem d_law_548 : g_dc code 548 (.iconst 1) 1 549 := ⟨by decide +kernel, rfl⟩
theorem d_law_549 : g_dc code 549 (.iadd) 1 550 := ⟨by decide +kernel, rfl⟩
theorem d_law_550 : g_dc code 550 (.iaload) 1 551 := ⟨by decide +kernel, rfl⟩
theorem d_law_551 : g_dc code 551 (.aload_n 0) 1 552 := ⟨by decide +kernel, rfl⟩
theorem d_law_552 : g_dc code 552 (.iload_n 3) 1 553 := ⟨by decide +kernel, rfl⟩
theorem d_law_553 : g_dc code 553 (.iconst 2) 1 554 := ⟨by decide +kernel, rfl⟩
theorem d_law_554 : g_dc code 554 (.iadd) 1 555 := ⟨by decide +kernel, rfl⟩
theorem d_law_555 : g_dc code 555 (.iaload) 1 556 := ⟨by decide +kernel, rfl⟩
theorem d_law_556 : g_dc code 556 (.invokevirtual 68) 3 559 := ⟨by decide +kernel, rfl⟩
theorem d_law_559 : g_dc code 559 (.if_icmp .eq 390) 3 562 := ⟨by decide +kernel, rfl⟩
theorem d_law_564 : g_dc code 564 (.aload_n 1) 1 565 := ⟨by decide +kernel, rfl⟩
theorem d_law_565 : g_dc code 565 (.invokevirtual 69) 3 568 := ⟨by decide +kernel, rfl⟩
theorem d_law_568 : g_dc code 568 (.aload_n 2) 1 569 := ⟨by decide +kernel, rfl⟩
theorem d_law_569 : g_dc code 569 (.invokevirtual 72) 3 572 := ⟨by decide +kernel, rfl⟩
theorem d_law_572 : g_dc code 572 (.if_icmp .eq 377) 3 575 := ⟨by decide +kernel, rfl⟩
theorem d_law_577 : g_dc code 577 (.aload_n 1) 1 578 := ⟨by decide +kernel, rfl⟩
theorem d_law_578 : g_dc code 578 (.aload_n 0) 1 579 := ⟨by decide +kernel, rfl⟩
theorem d_law_579 : g_dc code 579 (.iload_n 3) 1 580 := ⟨by decide +kernel, rfl⟩
theorem d_law_580 : g_dc code 580 (.iconst 1) 1 581 := ⟨by decide +kernel, rfl⟩
theorem d_law_581 : g_dc code 581 (.iadd) 1 582 := ⟨by decide +kernel, rfl⟩
theorem d_law_582 : g_dc code 582 (.iaload) 1 583 := ⟨by decide +kernel, rfl⟩
theorem d_law_583 : g_dc code 583 (.invokevirtual 73) 3 586 := ⟨by decide +kernel, rfl⟩
theorem d_law_586 : g_dc code 586 (.aload_n 2) 1 587 := ⟨by decide +kernel, rfl⟩
theorem d_law_587 : g_dc code 587 (.aload_n 0) 1 588 := ⟨by decide +kernel, rfl⟩
theorem d_law_588 : g_dc code 588 (.iload_n 3) 1 589 := ⟨by decide +kernel, rfl⟩
theorem d_law_589 : g_dc code 589 (.iconst 1) 1 590 := ⟨by decide +kernel, rfl⟩
theorem d_law_590 : g_dc code 590 (.iadd) 1 591 := ⟨by decide +kernel, rfl⟩
theorem d_law_591 : g_dc code 591 (.iaload) 1 592 := ⟨by decide +kernel, rfl⟩
theorem d_law_592 : g_dc code 592 (.invokevirtual 76) 3 595 := ⟨by decide +kernel, rfl⟩
theorem d_law_595 : g_dc code 595 (.if_icmp .eq 354) 3 598 := ⟨by decide +kernel, rfl⟩
theorem d_law_600 : g_dc code 600 (.aload_n 1) 1 601 := ⟨by decide +kernel, rfl⟩
theorem d_law_601 : g_dc code 601 (.aload_n 0) 1 602 := ⟨by decide +kernel, rfl⟩
theorem d_law_602 : g_dc code 602 (.iload_n 3) 1 603 := ⟨by decide +kernel, rfl⟩
theorem d_law_603 : g_dc code 603 (.iconst 1) 1 604 := ⟨by decide +kernel, rfl⟩
theorem d_law_604 : g_dc code 604 (.iadd) 1 605 := ⟨by decide +kernel, rfl⟩
theorem d_law_605 : g_dc code 605 (.iaload) 1 606 := ⟨by decide +kernel, rfl⟩
theorem d_law_606 : g_dc code 606 (.aload_n 0) 1 607 := ⟨by decide +kernel, rfl⟩
theorem d_law_607 : g_dc code 607 (.iload_n 3) 1 608 := ⟨by decide +kernel, rfl⟩
theorem d_law_608 : g_dc code 608 (.iconst 2) 1 609 := ⟨by decide +kernel, rfl⟩
theorem d_law_609 : g_dc code 609 (.iadd) 1 610 := ⟨by decide +kernel, rfl⟩
theorem d_law_610 : g_dc code 610 (.iaload) 1 611 := ⟨by decide +kernel, rfl⟩
theorem d_law_611 : g_dc code 611 (.invokevirtual 77) 3 614 := ⟨by decide +kernel, rfl⟩
theorem d_law_614 : g_dc code 614 (.aload_n 2) 1 615 := ⟨by decide +kernel, rfl⟩
theorem d_law_615 : g_dc code 615 (.aload_n 0) 1 616 := ⟨by decide +kernel, rfl⟩
theorem d_law_616 : g_dc code 616 (.iload_n 3) 1 617 := ⟨by decide +kernel, rfl⟩
theorem d_law_617 : g_dc code 617 (.iconst 1) 1 618 := ⟨by decide +kernel, rfl⟩
theorem d_law_618 : g_dc code 618 (.iadd) 1 619 := ⟨by decide +kernel, rfl⟩
theorem d_law_619 : g_dc code 619 (.iaload) 1 620 := ⟨by decide +kernel, rfl⟩
theorem d_law_620 : g_dc code 620 (.aload_n 0) 1 621 := ⟨by decide +kernel, rfl⟩
theorem d_law_621 : g_dc code 621 (.iload_n 3) 1 622 := ⟨by decide +kernel, rfl⟩
theorem d_law_622 : g_dc code 622 (.iconst 2) 1 623 := ⟨by decide +kernel, rfl⟩
theorem d_law_623 : g_dc code 623 (.iadd) 1 624 := ⟨by decide +kernel, rfl⟩
theorem d_law_624 : g_dc code 624 (.iaload) 1 625 := ⟨by decide +kernel, rfl⟩
theorem d_law_625 : g_dc code 625 (.invokevirtual 80) 3 628 := ⟨by decide +kernel, rfl⟩
theorem d_law_628 : g_dc code 628 (.if_icmp .eq 321) 3 631 := ⟨by decide +kernel, rfl⟩
theorem d_law_633 : g_dc code 633 (.aload_n 1) 1 634 := ⟨by decide +kernel, rfl⟩
theorem d_law_634 : g_dc code 634 (.aload_n 0) 1 635 := ⟨by decide +kernel, rfl⟩
theorem d_law_635 : g_dc code 635 (.iload_n 3) 1 636 := ⟨by decide +kernel, rfl⟩
theorem d_law_636 : g_dc code 636 (.iconst 1) 1 637 := ⟨by decide +kernel, rfl⟩
theorem d_law_637 : g_dc code 637 (.iadd) 1 638 := ⟨by decide +kernel, rfl⟩
theorem d_law_638 : g_dc code 638 (.iaload) 1 639 := ⟨by decide +kernel, rfl⟩
theorem d_law_639 : g_dc code 639 (.invokevirtual 81) 3 642 := ⟨by decide +kernel, rfl⟩
theorem d_law_642 : g_dc code 642 (.aload_n 2) 1 643 := ⟨by decide +kernel, rfl⟩
theorem d_law_643 : g_dc code 643 (.aload_n 0) 1 644 := ⟨by decide +kernel, rfl⟩
theorem d_law_644 : g_dc code 644 (.iload_n 3) 1 645 := ⟨by decide +kernel, rfl⟩
theorem d_law_645 : g_dc code 645 (.iconst 1) 1 646 := ⟨by decide +kernel, rfl⟩
theorem d_law_646 : g_dc code 646 (.iadd) 1 647 := ⟨by decide +kernel, rfl⟩
theorem d_law_647 : g_dc code 647 (.iaload) 1 648 := ⟨by decide +kernel, rfl⟩
theorem d_law_648 : g_dc code 648 (.invokevirtual 84) 3 651 := ⟨by decide +kernel, rfl⟩
theorem d_law_651 : g_dc code 651 (.if_icmp .eq 298) 3 654 := ⟨by decide +kernel, rfl⟩
theorem d_law_656 : g_dc code 656 (.aload_n 1) 1 657 := ⟨by decide +kernel, rfl⟩
theorem d_law_657 : g_dc code 657 (.aload_n 0) 1 658 := ⟨by decide +kernel, rfl⟩
theorem d_law_658 : g_dc code 658 (.iload_n 3) 1 659 := ⟨by decide +kernel, rfl⟩
theorem d_law_659 : g_dc code 659 (.iconst 1) 1 660 := ⟨by decide +kernel, rfl⟩
theorem d_law_660 : g_dc code 660 (.iadd) 1 661 := ⟨by decide +kernel, rfl⟩
theorem d_law_661 : g_dc code 661 (.iaload) 1 662 := ⟨by decide +kernel, rfl⟩
theorem d_law_662 : g_dc code 662 (.aload_n 0) 1 663 := ⟨by decide +kernel, rfl⟩
theorem d_law_663 : g_dc code 663 (.iload_n 3) 1 664 := ⟨by decide +kernel, rfl⟩
theorem d_law_664 : g_dc code 664 (.iconst 2) 1 665 := ⟨by decide +kernel, rfl⟩
theorem d_law_665 : g_dc code 665 (.iadd) 1 666 := ⟨by decide +kernel, rfl⟩
theorem d_law_666 : g_dc code 666 (.iaload) 1 667 := ⟨by decide +kernel, rfl⟩
theorem d_law_667 : g_dc code 667 (.invokevirtual 85) 3 670 := ⟨by decide +kernel, rfl⟩
theorem d_law_670 : g_dc code 670 (.aload_n 2) 1 671 := ⟨by decide +kernel, rfl⟩
theorem d_law_671 : g_dc code 671 (.aload_n 0) 1 672 := ⟨by decide +kernel, rfl⟩
theorem d_law_672 : g_dc code 672 (.iload_n 3) 1 673 := ⟨by decide +kernel, rfl⟩
theorem d_law_673 : g_dc code 673 (.iconst 1) 1 674 := ⟨by decide +kernel, rfl⟩
theorem d_law_674 : g_dc code 674 (.iadd) 1 675 := ⟨by decide +kernel, rfl⟩
theorem d_law_675 : g_dc code 675 (.iaload) 1 676 := ⟨by decide +kernel, rfl⟩
theorem d_law_676 : g_dc code 676 (.aload_n 0) 1 677 := ⟨by decide +kernel, rfl⟩
theorem d_law_677 : g_dc code 677 (.iload_n 3) 1 678 := ⟨by decide +kernel, rfl⟩
theorem d_law_678 : g_dc code 678 (.iconst 2) 1 679 := ⟨by decide +kernel, rfl⟩
theorem d_law_679 : g_dc code 679 (.iadd) 1 680 := ⟨by decide +kernel, rfl⟩
theorem d_law_680 : g_dc code 680 (.iaload) 1 681 := ⟨by decide +kernel, rfl⟩
theorem d_law_681 : g_dc code 681 (.invokevirtual 88) 3 684 := ⟨by decide +kernel, rfl⟩
theorem d_law_684 : g_dc code 684 (.if_icmp .eq 265) 3 687 := ⟨by decide +kernel, rfl⟩
theorem d_law_689 : g_dc code 689 (.aload_n 1) 1 690 := ⟨by decide +kernel, rfl⟩
theorem d_law_690 : g_dc code 690 (.aload_n 0) 1 691 := ⟨by decide +kernel, rfl⟩
theorem d_law_691 : g_dc code 691 (.iload_n 3) 1 692 := ⟨by decide +kernel, rfl⟩
theorem d_law_692 : g_dc code 692 (.iconst 1) 1 693 := ⟨by decide +kernel, rfl⟩
theorem d_law_693 : g_dc code 693 (.iadd) 1 694 := ⟨by decide +kernel, rfl⟩
theorem d_law_694 : g_dc code 694 (.iaload) 1 695 := ⟨by decide +kernel, rfl⟩
theorem d_law_695 : g_dc code 695 (.invokevirtual 89) 3 698 := ⟨by decide +kernel, rfl⟩
theorem d_law_698 : g_dc code 698 (.aload_n 2) 1 699 := ⟨by decide +kernel, rfl⟩
theorem d_law_699 : g_dc code 699 (.aload_n 0) 1 700 := ⟨by decide +kernel, rfl⟩
theorem d_law_700 : g_dc code 700 (.iload_n 3) 1 701 := ⟨by decide +kernel, rfl⟩
theorem d_law_701 : g_dc code 701 (.iconst 1) 1 702 := ⟨by decide +kernel, rfl⟩
theorem d_law_702 : g_dc code 702 (.iadd) 1 703 := ⟨by decide +kernel, rfl⟩
theorem d_law_703 : g_dc code 703 (.iaload) 1 704 := ⟨by decide +kernel, rfl⟩
theorem d_law_704 : g_dc code 704 (.invokevirtual 92) 3 707 := ⟨by decide +kernel, rfl⟩
theorem d_law_707 : g_dc code 707 (.if_icmp .eq 242) 3 710 := ⟨by decide +kernel, rfl⟩
theorem d_law_712 : g_dc code 712 (.aload_n 1) 1 713 := ⟨by decide +kernel, rfl⟩
theorem d_law_713 : g_dc code 713 (.aload_n 0) 1 714 := ⟨by decide +kernel, rfl⟩
theorem d_law_714 : g_dc code 714 (.iload_n 3) 1 715 := ⟨by decide +kernel, rfl⟩
theorem d_law_715 : g_dc code 715 (.iconst 1) 1 716 := ⟨by decide +kernel, rfl⟩
theorem d_law_716 : g_dc code 716 (.iadd) 1 717 := ⟨by decide +kernel, rfl⟩
theorem d_law_717 : g_dc code 717 (.iaload) 1 718 := ⟨by decide +kernel, rfl⟩
theorem d_law_718 : g_dc code 718 (.invokevirtual 93) 3 721 := ⟨by decide +kernel, rfl⟩
theorem d_law_721 : g_dc code 721 (.aload_n 2) 1 722 := ⟨by decide +kernel, rfl⟩
theorem d_law_722 : g_dc code 722 (.aload_n 0) 1 723 := ⟨by decide +kernel, rfl⟩
theorem d_law_723 : g_dc code 723 (.iload_n 3) 1 724 := ⟨by decide +kernel, rfl⟩
theorem d_law_724 : g_dc code 724 (.iconst 1) 1 725 := ⟨by decide +kernel, rfl⟩
theorem d_law_725 : g_dc code 725 (.iadd) 1 726 := ⟨by decide +kernel, rfl⟩
theorem d_law_726 : g_dc code 726 (.iaload) 1 727 := ⟨by decide +kernel, rfl⟩
theorem d_law_727 : g_dc code 727 (.invokevirtual 96) 3 730 := ⟨by decide +kernel, rfl⟩
theorem d_law_730 : g_dc code 730 (.if_icmp .eq 219) 3 733 := ⟨by decide +kernel, rfl⟩
theorem d_law_735 : g_dc code 735 (.aload_n 1) 1 736 := ⟨by decide +kernel, rfl⟩
theorem d_law_736 : g_dc code 736 (.aload_n 0) 1 737 := ⟨by decide +kernel, rfl⟩
theorem d_law_737 : g_dc code 737 (.iload_n 3) 1 738 := ⟨by decide +kernel, rfl⟩
theorem d_law_738 : g_dc code 738 (.iconst 1) 1 739 := ⟨by decide +kernel, rfl⟩
theorem d_law_739 : g_dc code 739 (.iadd) 1 740 := ⟨by decide +kernel, rfl⟩
theorem d_law_740 : g_dc code 740 (.iaload) 1 741 := ⟨by decide +kernel, rfl⟩
theorem d_law_741 : g_dc code 741 (.aload_n 0) 1 742 := ⟨by decide +kernel, rfl⟩
theorem d_law_742 : g_dc code 742 (.iload_n 3) 1 743 := ⟨by decide +kernel, rfl⟩
theorem d_law_743 : g_dc code 743 (.iconst 2) 1 744 := ⟨by decide +kernel, rfl⟩
theorem d_law_744 : g_dc code 744 (.iadd) 1 745 := ⟨by decide +kernel, rfl⟩
theorem d_law_745 : g_dc code 745 (.iaload) 1 746 := ⟨by decide +kernel, rfl⟩
theorem d_law_746 : g_dc code 746 (.aload_n 0) 1 747 := ⟨by decide +kernel, rfl⟩
theorem d_law_747 : g_dc code 747 (.iload_n 3) 1 748 := ⟨by decide +kernel, rfl⟩
theorem d_law_748 : g_dc code 748 (.iconst 3) 1 749 := ⟨by decide +kernel, rfl⟩
theorem d_law_749 : g_dc code 749 (.iadd) 1 750 := ⟨by decide +kernel, rfl⟩
theorem d_law_750 : g_dc code 750 (.iaload) 1 751 := ⟨by decide +kernel, rfl⟩
theorem d_law_751 : g_dc code 751 (.invokevirtual 97) 3 754 := ⟨by decide +kernel, rfl⟩
theorem d_law_754 : g_dc code 754 (.aload_n 2) 1 755 := ⟨by decide +kernel, rfl⟩
theorem d_law_755 : g_dc code 755 (.aload_n 0) 1 756 := ⟨by decide +kernel, rfl⟩
theorem d_law_756 : g_dc code 756 (.iload_n 3) 1 757 := ⟨by decide +kernel, rfl⟩
theorem d_law_757 : g_dc code 757 (.iconst 1) 1 758 := ⟨by decide +kernel, rfl⟩
theorem d_law_758 : g_dc code 758 (.iadd) 1 759 := ⟨by decide +kernel, rfl⟩
theorem d_law_759 : g_dc code 759 (.iaload) 1 760 := ⟨by decide +kernel, rfl⟩
theorem d_law_760 : g_dc code 760 (.aload_n 0) 1 761 := ⟨by decide +kernel, rfl⟩
theorem d_law_761 : g_dc code 761 (.iload_n 3) 1 762 := ⟨by decide +kernel, rfl⟩
theorem d_law_762 : g_dc code 762 (.iconst 2) 1 763 := ⟨by decide +kernel, rfl⟩
theorem d_law_763 : g_dc code 763 (.iadd) 1 764 := ⟨by decide +kernel, rfl⟩
theorem d_law_764 : g_dc code 764 (.iaload) 1 765 := ⟨by decide +kernel, rfl⟩
theorem d_law_765 : g_dc code 765 (.aload_n 0) 1 766 := ⟨by decide +kernel, rfl⟩
theorem d_law_766 : g_dc code 766 (.iload_n 3) 1 767 := ⟨by decide +kernel, rfl⟩
theorem d_law_767 : g_dc code 767 (.iconst 3) 1 768 := ⟨by decide +kernel, rfl⟩
theorem d_law_768 : g_dc code 768 (.iadd) 1 769 := ⟨by decide +kernel, rfl⟩
theorem d_law_769 : g_dc code 769 (.iaload) 1 770 := ⟨by decide +kernel, rfl⟩
theorem d_law_770 : g_dc code 770 (.invokevirtual 101) 3 773 := ⟨by decide +kernel, rfl⟩
theorem d_law_773 : g_dc code 773 (.if_icmp .eq 176) 3 776 := ⟨by decide +kernel, rfl⟩
theorem d_law_778 : g_dc code 778 (.aload_n 1) 1 779 := ⟨by decide +kernel, rfl⟩
theorem d_law_779 : g_dc code 779 (.aload_n 0) 1 780 := ⟨by decide +kernel, rfl⟩
theorem d_law_780 : g_dc code 780 (.iload_n 3) 1 781 := ⟨by decide +kernel, rfl⟩
theorem d_law_781 : g_dc code 781 (.iconst 1) 1 782 := ⟨by decide +kernel, rfl⟩
theorem d_law_782 : g_dc code 782 (.iadd) 1 783 := ⟨by decide +kernel, rfl⟩
theorem d_law_783 : g_dc code 783 (.iaload) 1 784 := ⟨by decide +kernel, rfl⟩
theorem d_law_784 : g_dc code 784 (.aload_n 0) 1 785 := ⟨by decide +kernel, rfl⟩
theorem d_law_785 : g_dc code 785 (.iload_n 3) 1 786 := ⟨by decide +kernel, rfl⟩
theorem d_law_786 : g_dc code 786 (.iconst 2) 1 787 := ⟨by decide +kernel, rfl⟩
theorem d_law_787 : g_dc code 787 (.iadd) 1 788 := ⟨by decide +kernel, rfl⟩
theorem d_law_788 : g_dc code 788 (.iaload) 1 789 := ⟨by decide +kernel, rfl⟩
theorem d_law_789 : g_dc code 789 (.invokevirtual 102) 3 792 := ⟨by decide +kernel, rfl⟩
theorem d_law_792 : g_dc code 792 (.aload_n 2) 1 793 := ⟨by decide +kernel, rfl⟩
theorem d_law_793 : g_dc code 793 (.aload_n 0) 1 794 := ⟨by decide +kernel, rfl⟩
theorem d_law_794 : g_dc code 794 (.iload_n 3) 1 795 := ⟨by decide +kernel, rfl⟩
theorem d_law_795 : g_dc code 795 (.iconst 1) 1 796 := ⟨by decide +kernel, rfl⟩
theorem d_law_796 : g_dc code 796 (.iadd) 1 797 := ⟨by decide +kernel, rfl⟩
theorem d_law_797 : g_dc code 797 (.iaload) 1 798 := ⟨by decide +kernel, rfl⟩
theorem d_law_798 : g_dc code 798 (.aload_n 0) 1 799 := ⟨by decide +kernel, rfl⟩
theorem d_law_799 : g_dc code 799 (.iload_n 3) 1 800 := ⟨by decide +kernel, rfl⟩
theorem d_law_800 : g_dc code 800 (.iconst 2) 1 801 := ⟨by decide +kernel, rfl⟩
theorem d_law_801 : g_dc code 801 (.iadd) 1 802 := ⟨by decide +kernel, rfl⟩
theorem d_law_802 : g_dc code 802 (.iaload) 1 803 := ⟨by decide +kernel, rfl⟩
theorem d_law_803 : g_dc code 803 (.invokevirtual 105) 3 806 := ⟨by decide +kernel, rfl⟩
theorem d_law_806 : g_dc code 806 (.if_icmp .eq 143) 3 809 := ⟨by decide +kernel, rfl⟩
theorem d_law_811 : g_dc code 811 (.aload_n 1) 1 812 := ⟨by decide +kernel, rfl⟩
theorem d_law_812 : g_dc code 812 (.aload_n 0) 1 813 := ⟨by decide +kernel, rfl⟩
theorem d_law_813 : g_dc code 813 (.iload_n 3) 1 814 := ⟨by decide +kernel, rfl⟩
theorem d_law_814 : g_dc code 814 (.iconst 1) 1 815 := ⟨by decide +kernel, rfl⟩
theorem d_law_815 : g_dc code 815 (.iadd) 1 816 := ⟨by decide +kernel, rfl⟩
theorem d_law_816 : g_dc code 816 (.iaload) 1 817 := ⟨by decide +kernel, rfl⟩
theorem d_law_817 : g_dc code 817 (.aload_n 0) 1 818 := ⟨by decide +kernel, rfl⟩
theorem d_law_818 : g_dc code 818 (.iload_n 3) 1 819 := ⟨by decide +kernel, rfl⟩
theorem d_law_819 : g_dc code 819 (.iconst 2) 1 820 := ⟨by decide +kernel, rfl⟩
theorem d_law_820 : g_dc code 820 (.iadd) 1 821 := ⟨by decide +kernel, rfl⟩
theorem d_law_821 : g_dc code 821 (.iaload) 1 822 := ⟨by decide +kernel, rfl⟩
theorem d_law_822 : g_dc code 822 (.aload_n 0) 1 823 := ⟨by decide +kernel, rfl⟩
theorem d_law_823 : g_dc code 823 (.iload_n 3) 1 824 := ⟨by decide +kernel, rfl⟩
theorem d_law_824 : g_dc code 824 (.iconst 3) 1 825 := ⟨by decide +kernel, rfl⟩
theorem d_law_825 : g_dc code 825 (.iadd) 1 826 := ⟨by decide +kernel, rfl⟩
theorem d_law_826 : g_dc code 826 (.iaload) 1 827 := ⟨by decide +kernel, rfl⟩
theorem d_law_827 : g_dc code 827 (.invokevirtual 106) 3 830 := ⟨by decide +kernel, rfl⟩
theorem d_law_830 : g_dc code 830 (.aload_n 2) 1 831 := ⟨by decide +kernel, rfl⟩
theorem d_law_831 : g_dc code 831 (.aload_n 0) 1 832 := ⟨by decide +kernel, rfl⟩
theorem d_law_832 : g_dc code 832 (.iload_n 3) 1 833 := ⟨by decide +kernel, rfl⟩
theorem d_law_833 : g_dc code 833 (.iconst 1) 1 834 := ⟨by decide +kernel, rfl⟩
theorem d_law_834 : g_dc code 834 (.iadd) 1 835 := ⟨by decide +kernel, rfl⟩
theorem d_law_835 : g_dc code 835 (.iaload) 1 836 := ⟨by decide +kernel, rfl⟩
theorem d_law_836 : g_dc code 836 (.aload_n 0) 1 837 := ⟨by decide +kernel, rfl⟩
theorem d_law_837 : g_dc code 837 (.iload_n 3) 1 838 := ⟨by decide +kernel, rfl⟩
theorem d_law_838 : g_dc code 838 (.iconst 2) 1 839 := ⟨by decide +kernel, rfl⟩
theorem d_law_839 : g_dc code 839 (.iadd) 1 840 := ⟨by decide +kernel, rfl⟩
theorem d_law_840 : g_dc code 840 (.iaload) 1 841 := ⟨by decide +kernel, rfl⟩
theorem d_law_841 : g_dc code 841 (.aload_n 0) 1 842 := ⟨by decide +kernel, rfl⟩
theorem d_law_842 : g_dc code 842 (.iload_n 3) 1 843 := ⟨by decide +kernel, rfl⟩
theorem d_law_843 : g_dc code 843 (.iconst 3) 1 844 := ⟨by decide +kernel, rfl⟩
theorem d_law_844 : g_dc code 844 (.iadd) 1 845 := ⟨by decide +kernel, rfl⟩
theorem d_law_845 : g_dc code 845 (.iaload) 1 846 := ⟨by decide +kernel, rfl⟩
theorem d_law_846 : g_dc code 846 (.invokevirtual 109) 3 849 := ⟨by decide +kernel, rfl⟩
theorem d_law_849 : g_dc code 849 (.if_icmp .eq 100) 3 852 := ⟨by decide +kernel, rfl⟩
theorem d_law_854 : g_dc code 854 (.aload_n 1) 1 855 := ⟨by decide +kernel, rfl⟩
theorem d_law_855 : g_dc code 855 (.aload_n 0) 1 856 := ⟨by decide +kernel, rfl⟩
theorem d_law_856 : g_dc code 856 (.iload_n 3) 1 857 := ⟨by decide +kernel, rfl⟩
theorem d_law_857 : g_dc code 857 (.iconst 1) 1 858 := ⟨by decide +kernel, rfl⟩
theorem d_law_858 : g_dc code 858 (.iadd) 1 859 := ⟨by decide +kernel, rfl⟩
theorem d_law_859 : g_dc code 859 (.iaload) 1 860 := ⟨by decide +kernel, rfl⟩
theorem d_law_860 : g_dc code 860 (.invokevirtual 110) 3 863 := ⟨by decide +kernel, rfl⟩
theorem d_law_863 : g_dc code 863 (.aload_n 2) 1 864 := ⟨by decide +kernel, rfl⟩
theorem d_law_864 : g_dc code 864 (.aload_n 0) 1 865 := ⟨by decide +kernel, rfl⟩
theorem d_law_865 : g_dc code 865 (.iload_n 3) 1 866 := ⟨by decide +kernel, rfl⟩
theorem d_law_866 : g_dc code 866 (.iconst 1) 1 867 := ⟨by decide +kernel, rfl⟩
theorem d_law_867 : g_dc code 867 (.iadd) 1 868 := ⟨by decide +kernel, rfl⟩
theorem d_law_868 : g_dc code 868 (.iaload) 1 869 := ⟨by decide +kernel, rfl⟩
theorem d_law_869 : g_dc code 869 (.invokevirtual 113) 3 872 := ⟨by decide +kernel, rfl⟩
theorem d_law_872 : g_dc code 872 (.if_icmp .eq 77) 3 875 := ⟨by decide +kernel, rfl⟩
theorem d_law_877 : g_dc code 877 (.aload_n 1) 1 878 := ⟨by decide +kernel, rfl⟩
theorem d_law_878 : g_dc code 878 (.invokevirtual 114) 3 881 := ⟨by decide +kernel, rfl⟩
theorem d_law_881 : g_dc code 881 (.aload_n 2) 1 882 := ⟨by decide +kernel, rfl⟩
theorem d_law_882 : g_dc code 882 (.invokevirtual 117) 3 885 := ⟨by decide +kernel, rfl⟩
theorem d_law_885 : g_dc code 885 (.if_icmp .eq 64) 3 888 := ⟨by decide +kernel, rfl⟩
theorem d_law_890 : g_dc code 890 (.aload_n 1) 1 891 := ⟨by decide +kernel, rfl⟩
theorem d_law_891 : g_dc code 891 (.invokevirtual 118) 3 894 := ⟨by decide +kernel, rfl⟩
theorem d_law_894 : g_dc code 894 (.aload_n 2) 1 895 := ⟨by decide +kernel, rfl⟩
theorem d_law_895 : g_dc code 895 (.invokevirtual 122) 3 898 := ⟨by decide +kernel, rfl⟩
theorem d_law_898 : g_dc code 898 (.if_icmp .eq 51) 3 901 := ⟨by decide +kernel, rfl⟩
theorem d_law_903 : g_dc code 903 (.aload_n 1) 1 904 := ⟨by decide +kernel, rfl⟩
theorem d_law_904 : g_dc code 904 (.aload_n 0) 1 905 := ⟨by decide +kernel, rfl⟩
theorem d_law_905 : g_dc code 905 (.iload_n 3) 1 906 := ⟨by decide +kernel, rfl⟩
theorem d_law_906 : g_dc code 906 (.iconst 1) 1 907 := ⟨by decide +kernel, rfl⟩
theorem d_law_907 : g_dc code 907 (.iadd) 1 908 := ⟨by decide +kernel, rfl⟩
theorem d_law_908 : g_dc code 908 (.iaload) 1 909 := ⟨by decide +kernel, rfl⟩
theorem d_law_909 : g_dc code 909 (.invokevirtual 123) 3 912 := ⟨by decide +kernel, rfl⟩
theorem d_law_912 : g_dc code 912 (.aload_n 2) 1 913 := ⟨by decide +kernel, rfl⟩
theorem d_law_913 : g_dc code 913 (.aload_n 0) 1 914 := ⟨by decide +kernel, rfl⟩
theorem d_law_914 : g_dc code 914 (.iload_n 3) 1 915 := ⟨by decide +kernel, rfl⟩
theorem d_law_915 : g_dc code 915 (.iconst 1) 1 916 := ⟨by decide +kernel, rfl⟩
theorem d_law_916 : g_dc code 916 (.iadd) 1 917 := ⟨by decide +kernel, rfl⟩
theorem d_law_917 : g_dc code 917 (.iaload) 1 918 := ⟨by decide +kernel, rfl⟩
theorem d_law_918 : g_dc code 918 (.invokevirtual 126) 3 921 := ⟨by decide +kernel, rfl⟩
theorem d_law_921 : g_dc code 921 (.if_icmp .eq 28) 3 924 := ⟨by decide +kernel, rfl⟩
theorem d_law_926 : g_dc code 926 (.aload_n 1) 1 927 := ⟨by decide +kernel, rfl⟩
theorem d_law_927 : g_dc code 927 (.aload_n 0) 1 928 := ⟨by decide +kernel, rfl⟩
theorem d_law_928 : g_dc code 928 (.iload_n 3) 1 929 := ⟨by decide +kernel, rfl⟩
theorem d_law_929 : g_dc code 929 (.iconst 1) 1 930 := ⟨by decide +kernel, rfl⟩
theorem d_law_930 : g_dc code 930 (.iadd) 1 931 := ⟨by decide +kernel, rfl⟩
theorem d_law_931 : g_dc code 931 (.iaload) 1 932 := ⟨by decide +kernel, rfl⟩
theorem d_law_932 : g_dc code 932 (.invokevirtual 127) 3 935 := ⟨by decide +kernel, rfl⟩
theorem d_law_935 : g_dc code 935 (.aload_n 2) 1 936 := ⟨by decide +kernel, rfl⟩
theorem d_law_936 : g_dc code 936 (.aload_n 0) 1 937 := ⟨by decide +kernel, rfl⟩
theorem d_law_937 : g_dc code 937 (.iload_n 3) 1 938 := ⟨by decide +kernel, rfl⟩
theorem d_law_938 : g_dc code 938 (.iconst 1) 1 939 := ⟨by decide +kernel, rfl⟩
theorem d_law_939 : g_dc code 939 (.iadd) 1 940 := ⟨by decide +kernel, rfl⟩
theorem d_law_940 : g_dc code 940 (.iaload) 1 941 := ⟨by decide +kernel, rfl⟩
theorem d_law_941 : g_dc code 941 (.invokevirtual 130) 3 944 := ⟨by decide +kernel, rfl⟩
theorem d_law_944 : g_dc code 944 (.if_icmp .eq 5) 3 947 := ⟨by decide +kernel, rfl⟩
theorem d_law_949 : g_dc code 949 (.iinc 3 7) 3 952 := ⟨by decide +kernel, rfl⟩
theorem d_law_952 : g_dc code 952 (.goto (-934)) 3 955 := ⟨by decide +kernel, rfl⟩
theorem d_law_955 : g_dc code 955 (.iconst 1) 1 956 := ⟨by decide +kernel, rfl⟩
theorem d_law_956 : g_dc code 956 (.ireturn) 1 957 := ⟨by decide +kernel, rfl⟩
set_option maxHeartbeats 4000000 in
set_option maxRecDepth 100000 in
theorem g_law {l : Launch} {X : gX} {E : gE} {b L : Nat} {xs : Nat → Int32} (hL : L ≤ 7) (cx : g_cx X E 4 l room_1 code RL False) (sx : g_cxs X E 4 l room_1 code RL b L xs) (hend : ∀ {pc pc' k n : Nat} {ws : va_W} {lv : List (Nat × Value)}, g_dc code pc .ireturn 1 pc' → k ≤ 600000 → n ≤ 7302250 → G X E 4 k n ws lv pc [.int 1]) : G X E 4 0 0 [] (lv_args 0 [.ref b]) 0 [] := by
  refine g_new cx cl_X10 [.null, .null, .null, .null, .null, .null, .null, .null, .null, .null, .null, .int 0, .int 0] kl_L_7 d_law_0 (by intro j hj; revert j; decide) (Nat.le_of_ble_eq_true rfl) (Nat.le_of_ble_eq_true rfl) (fun q1 => ?_)
  refine g_weq ([(q1, .inr (10, [.null, .null, .null, .null, .null, .null, .null, .null, .null, .null, .null, .int 0, .int 0]))]) rfl ?_
  refine g_dup cx rfl d_law_3 ?_
  refine g_cIL cx [] [.ref q1] (c_X10_init l X q1) ml_L_9 yI_X10_init d_law_4 (by unfold g_rr; decide) (by decide) (pre := []) rfl rfl (Nat.le_of_ble_eq_true rfl) (fun w3 h4 => ?_)
  obtain ⟨adx, rfl, rfl⟩ := h4
  refine g_astore_n cx [(1, .ref (adx 0)), (0, .ref b)] d_law_7 (by decide) rfl ?_
  refine g_new cx cl_X11 [.int 0, .int 0, .int 0, .int 0, .int 0, .null, .null, .null, .null, .null, .null, .null, .null, .null, .int 0, .int 0, .int 0, .int 0, .int 0, .int 0, .int 0, .int 0, .null, .null, .int 0, .int 0, .int 0, .int 0, .int 0, .null, .null, .null, .null, .null, .null, .null, .null, .null, .null, .null, .null, .null, .int 0, .int 0, .int 0, .int 0, .int 0, .int 0, .int 0, .int 0, .int 0, .int 0, .null, .null, .null, .null, .null, .null, .null, .null, .null, .null, .null, .null, .null, .int 0, .int 0, .int 0, .int 0, .int 0, .int 0, .int 0, .int 0, .null, .null, .int 0, .null, .int 0, .int 0, .int 0, .int 0, .int 0, .int 0, .null, .null, .null, .null, .null, .null, .null, .null] kl_L_10 d_law_8 (by intro j hj; revert j; decide) (Nat.le_of_ble_eq_true rfl) (Nat.le_of_ble_eq_true rfl) (fun q5 => ?_)
  refine g_weq (wX X adx fX0 r0 ++ [(q5, .inr (11, [.int 0, .int 0, .int 0, .int 0, .int 0, .null, .null, .null, .null, .null, .null, .null, .null, .null, .int 0, .int 0, .int 0, .int 0, .int 0, .int 0, .int 0, .int 0, .null, .null, .int 0, .int 0, .int 0, .int 0, .int 0, .null, .null, .null, .null, .null, .null, .null, .null, .null, .null, .null, .null, .null, .int 0, .int 0, .int 0, .int 0, .int 0, .int 0, .int 0, .int 0, .int 0, .int 0, .null, .null, .null, .null, .null, .null, .null, .null, .null, .null, .null, .null, .null, .int 0, .int 0, .int 0, .int 0, .int 0, .int 0, .int 0, .int 0, .null, .null, .int 0, .null, .int 0, .int 0, .int 0, .int 0, .int 0, .int 0, .null, .null, .null, .null, .null, .null, .null, .null]))]) rfl ?_
  refine g_dup cx rfl d_law_11 ?_
  refine g_cIL cx [] [.ref q5] (c_X11_init l X q5) ml_L_12 yI_X11_init d_law_12 (by unfold g_rr; decide) (by decide) (pre := wX X adx fX0 r0) rfl rfl (Nat.le_of_ble_eq_true rfl) (fun w7 h8 => ?_)
  obtain ⟨adm, rfl, rfl⟩ := h8
  refine g_astore_n cx [(2, .ref (adm 0)), (1, .ref (adx 0)), (0, .ref b)] d_law_15 (by decide) rfl ?_
  refine g_iconst cx 0 (by decide) d_law_16 ?_
  refine g_istore_n cx [(3, .int 0), (2, .ref (adm 0)), (1, .ref (adx 0)), (0, .ref b)] d_law_17 (by decide) rfl ?_
  refine g_iload_n cx 0 rfl d_law_18 ?_
  refine g_aload_n cx 3 rfl d_law_19 ?_
  refine g_slen sx d_law_20 ?_
  refine g_bipush cx 7 (by decide) d_law_21 ?_
  refine g_isub cx d_law_23 ?_
  refine g_icmp_gt cx 955 d_law_24 (by decide) (fun zc24 => ?_) (fun zc24 => ?_)
  · refine g_iconst cx 1 (by decide) d_law_955 ?_
    exact hend d_law_956 (Nat.le_of_ble_eq_true rfl) (Nat.le_of_ble_eq_true rfl)
  · refine g_aload_n cx 3 rfl d_law_27 ?_
    refine g_iload_n cx 0 rfl d_law_28 ?_
    refine g_sld sx d_law_29 (g_i7 (g_L7 L hL zc24) (by unfold vp_in; decide)) ?_
    refine g_bipush cx 31 (by decide) d_law_30 ?_
    refine g_iand cx d_law_32 ?_
    refine g_topi (fun zy ezy => ?_)
    rcases g_sw27 zy with ⟨zj, hzj, rfl⟩ | zsw
    · have hz27 : zj = 0 ∨ zj = 1 ∨ zj = 2 ∨ zj = 3 ∨ zj = 4 ∨ zj = 5 ∨ zj = 6 ∨ zj = 7 ∨ zj = 8 ∨ zj = 9 ∨ zj = 10 ∨ zj = 11 ∨ zj = 12 ∨ zj = 13 ∨ zj = 14 ∨ zj = 15 ∨ zj = 16 ∨ zj = 17 ∨ zj = 18 ∨ zj = 19 ∨ zj = 20 ∨ zj = 21 ∨ zj = 22 ∨ zj = 23 ∨ zj = 24 ∨ zj = 25 ∨ zj = 26 := by omega
      rcases hz27 with rfl | rfl | rfl | rfl | rfl | rfl | rfl | rfl | rfl | rfl | rfl | rfl | rfl | rfl | rfl | rfl | rfl | rfl | rfl | rfl | rfl | rfl | rfl | rfl | rfl | rfl | rfl
      · refine g_tableIn cx 156 d_law_33 (by decide) (by decide) rfl (by decide) ?_
        refine g_aload_n cx 2 rfl d_law_156 ?_
        refine g_aload_n cx 3 rfl d_law_157 ?_
        refine g_iload_n cx 0 rfl d_law_158 ?_
        refine g_iconst cx 1 (by decide) d_law_159 ?_
        refine g_iadd cx d_law_160 ?_
        refine g_toi 1 (by decide) ?_
        refine g_sld sx d_law_161 (g_i7 (g_L7 L hL zc24) (by unfold vp_in; decide)) ?_
        refine g_aload_n cx 3 rfl d_law_162 ?_
        refine g_iload_n cx 0 rfl d_law_163 ?_
        refine g_iconst cx 2 (by decide) d_law_164 ?_
        refine g_iadd cx d_law_165 ?_
        refine g_toi 2 (by decide) ?_
        refine g_sld sx d_law_166 (g_i7 (g_L7 L hL zc24) (by unfold vp_in; decide)) ?_
        refine g_cViH cx [.int (xs (Int32.toNatClampNeg 1)), .int (xs (Int32.toNatClampNeg 2))] [] (c_X10_table l X adx (xs (Int32.toNatClampNeg 1)) (xs (Int32.toNatClampNeg 2))) ml_L_13 yV_X10_table d_law_167 (by unfold g_rr; decide) (by decide) 0 rfl rfl (wr := wM X adm fM0 r0) (wc := wX X adx fX0 r0) rfl rfl (Nat.le_of_ble_eq_true rfl) (fun r9 w10 h11 => ?_)
        subst h11
        refine g_aload_n cx 1 rfl d_law_170 ?_
        refine g_aload_n cx 3 rfl d_law_171 ?_
        refine g_iload_n cx 0 rfl d_law_172 ?_
        refine g_iconst cx 1 (by decide) d_law_173 ?_
        refine g_iadd cx d_law_174 ?_
        refine g_toi 1 (by decide) ?_
        refine g_sld sx d_law_175 (g_i7 (g_L7 L hL zc24) (by unfold vp_in; decide)) ?_
        refine g_aload_n cx 3 rfl d_law_176 ?_
        refine g_iload_n cx 0 rfl d_law_177 ?_
        refine g_iconst cx 2 (by decide) d_law_178 ?_
        refine g_iadd cx d_law_179 ?_
        refine g_toi 2 (by decide) ?_
        refine g_sld sx d_law_180 (g_i7 (g_L7 L hL zc24) (by unfold vp_in; decide)) ?_
        refine g_cViH cx [.int (xs (Int32.toNatClampNeg 1)), .int (xs (Int32.toNatClampNeg 2))] [.int (S_table (xs (Int32.toNatClampNeg 1)) (xs (Int32.toNatClampNeg 2)))] (c_X11_table l X adm (xs (Int32.toNatClampNeg 1)) (xs (Int32.toNatClampNeg 2))) ml_L_17 yV_X11_table d_law_181 (by unfold g_rr; decide) (by decide) 0 rfl rfl (wr := w10) (wc := wM X adm fM0 r0) rfl rfl (Nat.le_of_ble_eq_true rfl) (fun r12 w13 h14 => ?_)
        subst h14
        refine g_icmp_eq_t cx 949 d_law_184 (by decide) rfl ?_
        refine g_iinc cx 7 [(3, .int 7), (2, .ref (adm 0)), (1, .ref (adx 0)), (0, .ref b)] 0 d_law_949 rfl (by decide) (by decide) rfl ?_
        refine g_goto cx 18 d_law_952 (by decide) ?_
        refine g_iload_n cx 0 rfl d_law_18 ?_
        refine g_aload_n cx 3 rfl d_law_19 ?_
        refine g_slen sx d_law_20 ?_
        refine g_bipush cx 7 (by decide) d_law_21 ?_
        refine g_isub cx d_law_23 ?_
        refine g_icmp_gt_t cx 955 d_law_24 (by decide) (g_L77 (g_L7 L hL zc24)) ?_
        refine g_iconst cx 1 (by decide) d_law_955 ?_
        exact hend d_law_956 (Nat.le_of_ble_eq_true rfl) (Nat.le_of_ble_eq_true rfl)
      · refine g_tableIn cx 189 d_law_33 (by decide) (by decide) rfl (by decide) ?_
        refine g_aload_n cx 2 rfl d_law_189 ?_
        refine g_aload_n cx 3 rfl d_law_190 ?_
        refine g_iload_n cx 0 rfl d_law_191 ?_
        refine g_iconst cx 1 (by decide) d_law_192 ?_
        refine g_iadd cx d_law_193 ?_
        refine g_toi 1 (by decide) ?_
        refine g_sld sx d_law_194 (g_i7 (g_L7 L hL zc24) (by unfold vp_in; decide)) ?_
        refine g_cViH cx [.int (xs (Int32.toNatClampNeg 1))] [] (c_X10_cloth l X adx (xs (Int32.toNatClampNeg 1))) ml_L_18 yV_X10_cloth d_law_195 (by unfold g_rr; decide) (by decide) 0 rfl rfl (wr := wM X adm fM0 r0) (wc := wX X adx fX0 r0) rfl rfl (Nat.le_of_ble_eq_true rfl) (fun r15 w16 h17 => ?_)
        subst h17
        refine g_aload_n cx 1 rfl d_law_198 ?_
        refine g_aload_n cx 3 rfl d_law_199 ?_
        refine g_iload_n cx 0 rfl d_law_200 ?_
        refine g_iconst cx 1 (by decide) d_law_201 ?_
        refine g_iadd cx d_law_202 ?_
        refine g_toi 1 (by decide) ?_
        refine g_sld sx d_law_203 (g_i7 (g_L7 L hL zc24) (by unfold vp_in; decide)) ?_
        refine g_cViH cx [.int (xs (Int32.toNatClampNeg 1))] [.int (S_cloth (xs (Int32.toNatClampNeg 1)))] (c_X11_cloth l X adm (xs (Int32.toNatClampNeg 1))) ml_L_22 yV_X11_cloth d_law_204 (by unfold g_rr; decide) (by decide) 0 rfl rfl (wr := w16) (wc := wM X adm fM0 r0) rfl rfl (Nat.le_of_ble_eq_true rfl) (fun r18 w19 h20 => ?_)
        subst h20
        refine g_icmp_eq_t cx 949 d_law_207 (by decide) rfl ?_
        refine g_iinc cx 7 [(3, .int 7), (2, .ref (adm 0)), (1, .ref (adx 0)), (0, .ref b)] 0 d_law_949 rfl (by decide) (by decide) rfl ?_
        refine g_goto cx 18 d_law_952 (by decide) ?_
        refine g_iload_n cx 0 rfl d_law_18 ?_
        refine g_aload_n cx 3 rfl d_law_19 ?_
        refine g_slen sx d_law_20 ?_
        refine g_bipush cx 7 (by decide) d_law_21 ?_
        refine g_isub cx d_law_23 ?_
        refine g_icmp_gt_t cx 955 d_law_24 (by decide) (g_L77 (g_L7 L hL zc24)) ?_
        refine g_iconst cx 1 (by decide) d_law_955 ?_
        exact hend d_law_956 (Nat.le_of_ble_eq_true rfl) (Nat.le_of_ble_eq_true rfl)
      · refine g_tableIn cx 212 d_law_33 (by decide) (by decide) rfl (by decide) ?_
        refine g_aload_n cx 2 rfl d_law_212 ?_
        refine g_aload_n cx 3 rfl d_law_213 ?_
        refine g_iload_n cx 0 rfl d_law_214 ?_
        refine g_iconst cx 1 (by decide) d_law_215 ?_
        refine g_iadd cx d_law_216 ?_
        refine g_toi 1 (by decide) ?_
        refine g_sld sx d_law_217 (g_i7 (g_L7 L hL zc24) (by unfold vp_in; decide)) ?_
        refine g_aload_n cx 3 rfl d_law_218 ?_
        refine g_iload_n cx 0 rfl d_law_219 ?_
        refine g_iconst cx 2 (by decide) d_law_220 ?_
        refine g_iadd cx d_law_221 ?_
        refine g_toi 2 (by decide) ?_
        refine g_sld sx d_law_222 (g_i7 (g_L7 L hL zc24) (by unfold vp_in; decide)) ?_
        refine g_aload_n cx 3 rfl d_law_223 ?_
        refine g_iload_n cx 0 rfl d_law_224 ?_
        refine g_iconst cx 3 (by decide) d_law_225 ?_
        refine g_iadd cx d_law_226 ?_
        refine g_toi 3 (by decide) ?_
        refine g_sld sx d_law_227 (g_i7 (g_L7 L hL zc24) (by unfold vp_in; decide)) ?_
        refine g_aload_n cx 3 rfl d_law_228 ?_
        refine g_iload_n cx 0 rfl d_law_229 ?_
        refine g_iconst cx 4 (by decide) d_law_230 ?_
        refine g_iadd cx d_law_231 ?_
        refine g_toi 4 (by decide) ?_
        refine g_sld sx d_law_232 (g_i7 (g_L7 L hL zc24) (by unfold vp_in; decide)) ?_
        refine g_aload_n cx 3 rfl d_law_233 ?_
        refine g_iload_n cx 0 rfl d_law_234 ?_
        refine g_iconst cx 5 (by decide) d_law_235 ?_
        refine g_iadd cx d_law_236 ?_
        refine g_toi 5 (by decide) ?_
        refine g_sld sx d_law_237 (g_i7 (g_L7 L hL zc24) (by unfold vp_in; decide)) ?_
        refine g_aload_n cx 3 rfl d_law_238 ?_
        refine g_iload_n cx 0 rfl d_law_239 ?_
        refine g_bipush cx 6 (by decide) d_law_240 ?_
        refine g_iadd cx d_law_242 ?_
        refine g_toi 6 (by decide) ?_
        refine g_sld sx d_law_243 (g_i7 (g_L7 L hL zc24) (by unfold vp_in; decide)) ?_
        refine g_cViH cx [.int (xs (Int32.toNatClampNeg 1)), .int (xs (Int32.toNatClampNeg 2)), .int (xs (Int32.toNatClampNeg 3)), .int (xs (Int32.toNatClampNeg 4)), .int (xs (Int32.toNatClampNeg 5)), .int (xs (Int32.toNatClampNeg 6))] [] (c_X10_thing l X adx (xs (Int32.toNatClampNeg 1)) (xs (Int32.toNatClampNeg 2)) (xs (Int32.toNatClampNeg 3)) (xs (Int32.toNatClampNeg 4)) (xs (Int32.toNatClampNeg 5)) (xs (Int32.toNatClampNeg 6))) ml_L_23 yV_X10_thing d_law_244 (by unfold g_rr; decide) (by decide) 0 rfl rfl (wr := wM X adm fM0 r0) (wc := wX X adx fX0 r0) rfl rfl (Nat.le_of_ble_eq_true rfl) (fun r21 w22 h23 => ?_)
        subst h23
        refine g_aload_n cx 1 rfl d_law_247 ?_
        refine g_aload_n cx 3 rfl d_law_248 ?_
        refine g_iload_n cx 0 rfl d_law_249 ?_
        refine g_iconst cx 1 (by decide) d_law_250 ?_
        refine g_iadd cx d_law_251 ?_
        refine g_toi 1 (by decide) ?_
        refine g_sld sx d_law_252 (g_i7 (g_L7 L hL zc24) (by unfold vp_in; decide)) ?_
        refine g_aload_n cx 3 rfl d_law_253 ?_
        refine g_iload_n cx 0 rfl d_law_254 ?_
        refine g_iconst cx 2 (by decide) d_law_255 ?_
        refine g_iadd cx d_law_256 ?_
        refine g_toi 2 (by decide) ?_
        refine g_sld sx d_law_257 (g_i7 (g_L7 L hL zc24) (by unfold vp_in; decide)) ?_
        refine g_aload_n cx 3 rfl d_law_258 ?_
        refine g_iload_n cx 0 rfl d_law_259 ?_
        refine g_iconst cx 3 (by decide) d_law_260 ?_
        refine g_iadd cx d_law_261 ?_
        refine g_toi 3 (by decide) ?_
        refine g_sld sx d_law_262 (g_i7 (g_L7 L hL zc24) (by unfold vp_in; decide)) ?_
        refine g_aload_n cx 3 rfl d_law_263 ?_
        refine g_iload_n cx 0 rfl d_law_264 ?_
        refine g_iconst cx 4 (by decide) d_law_265 ?_
        refine g_iadd cx d_law_266 ?_
        refine g_toi 4 (by decide) ?_
        refine g_sld sx d_law_267 (g_i7 (g_L7 L hL zc24) (by unfold vp_in; decide)) ?_
        refine g_aload_n cx 3 rfl d_law_268 ?_
        refine g_iload_n cx 0 rfl d_law_269 ?_
        refine g_iconst cx 5 (by decide) d_law_270 ?_
        refine g_iadd cx d_law_271 ?_
        refine g_toi 5 (by decide) ?_
        refine g_sld sx d_law_272 (g_i7 (g_L7 L hL zc24) (by unfold vp_in; decide)) ?_
        refine g_aload_n cx 3 rfl d_law_273 ?_
        refine g_iload_n cx 0 rfl d_law_274 ?_
        refine g_bipush cx 6 (by decide) d_law_275 ?_
        refine g_iadd cx d_law_277 ?_
        refine g_toi 6 (by decide) ?_
        refine g_sld sx d_law_278 (g_i7 (g_L7 L hL zc24) (by unfold vp_in; decide)) ?_
        refine g_cViH cx [.int (xs (Int32.toNatClampNeg 1)), .int (xs (Int32.toNatClampNeg 2)), .int (xs (Int32.toNatClampNeg 3)), .int (xs (Int32.toNatClampNeg 4)), .int (xs (Int32.toNatClampNeg 5)), .int (xs (Int32.toNatClampNeg 6))] [.int (S_thing (xs (Int32.toNatClampNeg 1)) (xs (Int32.toNatClampNeg 2)) (xs (Int32.toNatClampNeg 3)) (xs (Int32.toNatClampNeg 4)) (xs (Int32.toNatClampNeg 5)) (xs (Int32.toNatClampNeg 6)))] (c_X11_thing l X adm (xs (Int32.toNatClampNeg 1)) (xs (Int32.toNatClampNeg 2)) (xs (Int32.toNatClampNeg 3)) (xs (Int32.toNatClampNeg 4)) (xs (Int32.toNatClampNeg 5)) (xs (Int32.toNatClampNeg 6))) ml_L_27 yV_X11_thing d_law_279 (by unfold g_rr; decide) (by decide) 0 rfl rfl (wr := w22) (wc := wM X adm fM0 r0) rfl rfl (Nat.le_of_ble_eq_true rfl) (fun r24 w25 h26 => ?_)
        subst h26
        refine g_icmp_eq_t cx 949 d_law_282 (by decide) rfl ?_
        refine g_iinc cx 7 [(3, .int 7), (2, .ref (adm 0)), (1, .ref (adx 0)), (0, .ref b)] 0 d_law_949 rfl (by decide) (by decide) rfl ?_
        refine g_goto cx 18 d_law_952 (by decide) ?_
        refine g_iload_n cx 0 rfl d_law_18 ?_
        refine g_aload_n cx 3 rfl d_law_19 ?_
        refine g_slen sx d_law_20 ?_
        refine g_bipush cx 7 (by decide) d_law_21 ?_
        refine g_isub cx d_law_23 ?_
        refine g_icmp_gt_t cx 955 d_law_24 (by decide) (g_L77 (g_L7 L hL zc24)) ?_
        refine g_iconst cx 1 (by decide) d_law_955 ?_
        exact hend d_law_956 (Nat.le_of_ble_eq_true rfl) (Nat.le_of_ble_eq_true rfl)
      · refine g_tableIn cx 287 d_law_33 (by decide) (by decide) rfl (by decide) ?_
        refine g_aload_n cx 2 rfl d_law_287 ?_
        refine g_aload_n cx 3 rfl d_law_288 ?_
        refine g_iload_n cx 0 rfl d_law_289 ?_
        refine g_iconst cx 1 (by decide) d_law_290 ?_
        refine g_iadd cx d_law_291 ?_
        refine g_toi 1 (by decide) ?_
        refine g_sld sx d_law_292 (g_i7 (g_L7 L hL zc24) (by unfold vp_in; decide)) ?_
        refine g_aload_n cx 3 rfl d_law_293 ?_
        refine g_iload_n cx 0 rfl d_law_294 ?_
        refine g_iconst cx 2 (by decide) d_law_295 ?_
        refine g_iadd cx d_law_296 ?_
        refine g_toi 2 (by decide) ?_
        refine g_sld sx d_law_297 (g_i7 (g_L7 L hL zc24) (by unfold vp_in; decide)) ?_
        refine g_aload_n cx 3 rfl d_law_298 ?_
        refine g_iload_n cx 0 rfl d_law_299 ?_
        refine g_iconst cx 3 (by decide) d_law_300 ?_
        refine g_iadd cx d_law_301 ?_
        refine g_toi 3 (by decide) ?_
        refine g_sld sx d_law_302 (g_i7 (g_L7 L hL zc24) (by unfold vp_in; decide)) ?_
        refine g_aload_n cx 3 rfl d_law_303 ?_
        refine g_iload_n cx 0 rfl d_law_304 ?_
        refine g_iconst cx 4 (by decide) d_law_305 ?_
        refine g_iadd cx d_law_306 ?_
        refine g_toi 4 (by decide) ?_
        refine g_sld sx d_law_307 (g_i7 (g_L7 L hL zc24) (by unfold vp_in; decide)) ?_
        refine g_cViH cx [.int (xs (Int32.toNatClampNeg 1)), .int (xs (Int32.toNatClampNeg 2)), .int (xs (Int32.toNatClampNeg 3)), .int (xs (Int32.toNatClampNeg 4))] [] (c_X10_more l X adx (xs (Int32.toNatClampNeg 1)) (xs (Int32.toNatClampNeg 2)) (xs (Int32.toNatClampNeg 3)) (xs (Int32.toNatClampNeg 4))) ml_L_28 yV_X10_more d_law_308 (by unfold g_rr; decide) (by decide) 0 rfl rfl (wr := wM X adm fM0 r0) (wc := wX X adx fX0 r0) rfl rfl (Nat.le_of_ble_eq_true rfl) (fun r27 w28 h29 => ?_)
        subst h29
        refine g_aload_n cx 1 rfl d_law_311 ?_
        refine g_aload_n cx 3 rfl d_law_312 ?_
        refine g_iload_n cx 0 rfl d_law_313 ?_
        refine g_iconst cx 1 (by decide) d_law_314 ?_
        refine g_iadd cx d_law_315 ?_
        refine g_toi 1 (by decide) ?_
        refine g_sld sx d_law_316 (g_i7 (g_L7 L hL zc24) (by unfold vp_in; decide)) ?_
        refine g_aload_n cx 3 rfl d_law_317 ?_
        refine g_iload_n cx 0 rfl d_law_318 ?_
        refine g_iconst cx 2 (by decide) d_law_319 ?_
        refine g_iadd cx d_law_320 ?_
        refine g_toi 2 (by decide) ?_
        refine g_sld sx d_law_321 (g_i7 (g_L7 L hL zc24) (by unfold vp_in; decide)) ?_
        refine g_aload_n cx 3 rfl d_law_322 ?_
        refine g_iload_n cx 0 rfl d_law_323 ?_
        refine g_iconst cx 3 (by decide) d_law_324 ?_
        refine g_iadd cx d_law_325 ?_
        refine g_toi 3 (by decide) ?_
        refine g_sld sx d_law_326 (g_i7 (g_L7 L hL zc24) (by unfold vp_in; decide)) ?_
        refine g_aload_n cx 3 rfl d_law_327 ?_
        refine g_iload_n cx 0 rfl d_law_328 ?_
        refine g_iconst cx 4 (by decide) d_law_329 ?_
        refine g_iadd cx d_law_330 ?_
        refine g_toi 4 (by decide) ?_
        refine g_sld sx d_law_331 (g_i7 (g_L7 L hL zc24) (by unfold vp_in; decide)) ?_
        refine g_cViH cx [.int (xs (Int32.toNatClampNeg 1)), .int (xs (Int32.toNatClampNeg 2)), .int (xs (Int32.toNatClampNeg 3)), .int (xs (Int32.toNatClampNeg 4))] [.int 0] (c_X11_more l X adm (xs (Int32.toNatClampNeg 1)) (xs (Int32.toNatClampNeg 2)) (xs (Int32.toNatClampNeg 3)) (xs (Int32.toNatClampNeg 4))) ml_L_32 yV_X11_more d_law_332 (by unfold g_rr; decide) (by decide) 0 rfl rfl (wr := w28) (wc := wM X adm fM0 r0) rfl rfl (Nat.le_of_ble_eq_true rfl) (fun r30 w31 h32 => ?_)
        subst h32
        refine g_icmp_eq_t cx 949 d_law_335 (by decide) (by decide) ?_
        refine g_iinc cx 7 [(3, .int 7), (2, .ref (adm 0)), (1, .ref (adx 0)), (0, .ref b)] 0 d_law_949 rfl (by decide) (by decide) rfl ?_
        refine g_goto cx 18 d_law_952 (by decide) ?_
        refine g_iload_n cx 0 rfl d_law_18 ?_
        refine g_aload_n cx 3 rfl d_law_19 ?_
        refine g_slen sx d_law_20 ?_
        refine g_bipush cx 7 (by decide) d_law_21 ?_
        refine g_isub cx d_law_23 ?_
        refine g_icmp_gt_t cx 955 d_law_24 (by decide) (g_L77 (g_L7 L hL zc24)) ?_
        refine g_iconst cx 1 (by decide) d_law_955 ?_
        exact hend d_law_956 (Nat.le_of_ble_eq_true rfl) (Nat.le_of_ble_eq_true rfl)
      · refine g_tableIn cx 340 d_law_33 (by decide) (by decide) rfl (by decide) ?_
        refine g_aload_n cx 2 rfl d_law_340 ?_
        refine g_aload_n cx 3 rfl d_law_341 ?_
        refine g_iload_n cx 0 rfl d_law_342 ?_
        refine g_iconst cx 1 (by decide) d_law_343 ?_
        refine g_iadd cx d_law_344 ?_
        refine g_toi 1 (by decide) ?_
        refine g_sld sx d_law_345 (g_i7 (g_L7 L hL zc24) (by unfold vp_in; decide)) ?_
        refine g_cViH cx [.int (xs (Int32.toNatClampNeg 1))] [] (c_X10_away l X adx (xs (Int32.toNatClampNeg 1))) ml_L_33 yV_X10_away d_law_346 (by unfold g_rr; decide) (by decide) 0 rfl rfl (wr := wM X adm fM0 r0) (wc := wX X adx fX0 r0) rfl rfl (Nat.le_of_ble_eq_true rfl) (fun r33 w34 h35 => ?_)
        subst h35
        refine g_aload_n cx 1 rfl d_law_349 ?_
        refine g_aload_n cx 3 rfl d_law_350 ?_
        refine g_iload_n cx 0 rfl d_law_351 ?_
        refine g_iconst cx 1 (by decide) d_law_352 ?_
        refine g_iadd cx d_law_353 ?_
        refine g_toi 1 (by decide) ?_
        refine g_sld sx d_law_354 (g_i7 (g_L7 L hL zc24) (by unfold vp_in; decide)) ?_
        refine g_cViH cx [.int (xs (Int32.toNatClampNeg 1))] [.int 0] (c_X11_away l X adm (xs (Int32.toNatClampNeg 1))) ml_L_36 yV_X11_away d_law_355 (by unfold g_rr; decide) (by decide) 0 rfl rfl (wr := w34) (wc := wM X adm fM0 r0) rfl rfl (Nat.le_of_ble_eq_true rfl) (fun r36 w37 h38 => ?_)
        subst h38
        refine g_icmp_eq_t cx 949 d_law_358 (by decide) (by decide) ?_
        refine g_iinc cx 7 [(3, .int 7), (2, .ref (adm 0)), (1, .ref (adx 0)), (0, .ref b)] 0 d_law_949 rfl (by decide) (by decide) rfl ?_
        refine g_goto cx 18 d_law_952 (by decide) ?_
        refine g_iload_n cx 0 rfl d_law_18 ?_
        refine g_aload_n cx 3 rfl d_law_19 ?_
        refine g_slen sx d_law_20 ?_
        refine g_bipush cx 7 (by decide) d_law_21 ?_
        refine g_isub cx d_law_23 ?_
        refine g_icmp_gt_t cx 955 d_law_24 (by decide) (g_L77 (g_L7 L hL zc24)) ?_
        refine g_iconst cx 1 (by decide) d_law_955 ?_
        exact hend d_law_956 (Nat.le_of_ble_eq_true rfl) (Nat.le_of_ble_eq_true rfl)
      · refine g_tableIn cx 363 d_law_33 (by decide) (by decide) rfl (by decide) ?_
        refine g_aload_n cx 2 rfl d_law_363 ?_
        refine g_aload_n cx 3 rfl d_law_364 ?_
        refine g_iload_n cx 0 rfl d_law_365 ?_
        refine g_iconst cx 1 (by decide) d_law_366 ?_
        refine g_iadd cx d_law_367 ?_
        refine g_toi 1 (by decide) ?_
        refine g_sld sx d_law_368 (g_i7 (g_L7 L hL zc24) (by unfold vp_in; decide)) ?_
        refine g_aload_n cx 3 rfl d_law_369 ?_
        refine g_iload_n cx 0 rfl d_law_370 ?_
        refine g_iconst cx 2 (by decide) d_law_371 ?_
        refine g_iadd cx d_law_372 ?_
        refine g_toi 2 (by decide) ?_
        refine g_sld sx d_law_373 (g_i7 (g_L7 L hL zc24) (by unfold vp_in; decide)) ?_
        refine g_aload_n cx 3 rfl d_law_374 ?_
        refine g_iload_n cx 0 rfl d_law_375 ?_
        refine g_iconst cx 3 (by decide) d_law_376 ?_
        refine g_iadd cx d_law_377 ?_
        refine g_toi 3 (by decide) ?_
        refine g_sld sx d_law_378 (g_i7 (g_L7 L hL zc24) (by unfold vp_in; decide)) ?_
        refine g_aload_n cx 3 rfl d_law_379 ?_
        refine g_iload_n cx 0 rfl d_law_380 ?_
        refine g_iconst cx 4 (by decide) d_law_381 ?_
        refine g_iadd cx d_law_382 ?_
        refine g_toi 4 (by decide) ?_
        refine g_sld sx d_law_383 (g_i7 (g_L7 L hL zc24) (by unfold vp_in; decide)) ?_
        refine g_aload_n cx 3 rfl d_law_384 ?_
        refine g_iload_n cx 0 rfl d_law_385 ?_
        refine g_iconst cx 5 (by decide) d_law_386 ?_
        refine g_iadd cx d_law_387 ?_
        refine g_toi 5 (by decide) ?_
        refine g_sld sx d_law_388 (g_i7 (g_L7 L hL zc24) (by unfold vp_in; decide)) ?_
        refine g_cViH cx [.int (xs (Int32.toNatClampNeg 1)), .int (xs (Int32.toNatClampNeg 2)), .int (xs (Int32.toNatClampNeg 3)), .int (xs (Int32.toNatClampNeg 4)), .int (xs (Int32.toNatClampNeg 5))] [] (c_X10_feed l X adx (xs (Int32.toNatClampNeg 1)) (xs (Int32.toNatClampNeg 2)) (xs (Int32.toNatClampNeg 3)) (xs (Int32.toNatClampNeg 4)) (xs (Int32.toNatClampNeg 5))) ml_L_37 yV_X10_feed d_law_389 (by unfold g_rr; decide) (by decide) 0 rfl rfl (wr := wM X adm fM0 r0) (wc := wX X adx fX0 r0) rfl rfl (Nat.le_of_ble_eq_true rfl) (fun r39 w40 h41 => ?_)
        subst h41
        refine g_aload_n cx 1 rfl d_law_392 ?_
        refine g_aload_n cx 3 rfl d_law_393 ?_
        refine g_iload_n cx 0 rfl d_law_394 ?_
        refine g_iconst cx 1 (by decide) d_law_395 ?_
        refine g_iadd cx d_law_396 ?_
        refine g_toi 1 (by decide) ?_
        refine g_sld sx d_law_397 (g_i7 (g_L7 L hL zc24) (by unfold vp_in; decide)) ?_
        refine g_aload_n cx 3 rfl d_law_398 ?_
        refine g_iload_n cx 0 rfl d_law_399 ?_
        refine g_iconst cx 2 (by decide) d_law_400 ?_
        refine g_iadd cx d_law_401 ?_
        refine g_toi 2 (by decide) ?_
        refine g_sld sx d_law_402 (g_i7 (g_L7 L hL zc24) (by unfold vp_in; decide)) ?_
        refine g_aload_n cx 3 rfl d_law_403 ?_
        refine g_iload_n cx 0 rfl d_law_404 ?_
        refine g_iconst cx 3 (by decide) d_law_405 ?_
        refine g_iadd cx d_law_406 ?_
        refine g_toi 3 (by decide) ?_
        refine g_sld sx d_law_407 (g_i7 (g_L7 L hL zc24) (by unfold vp_in; decide)) ?_
        refine g_aload_n cx 3 rfl d_law_408 ?_
        refine g_iload_n cx 0 rfl d_law_409 ?_
        refine g_iconst cx 4 (by decide) d_law_410 ?_
        refine g_iadd cx d_law_411 ?_
        refine g_toi 4 (by decide) ?_
        refine g_sld sx d_law_412 (g_i7 (g_L7 L hL zc24) (by unfold vp_in; decide)) ?_
        refine g_aload_n cx 3 rfl d_law_413 ?_
        refine g_iload_n cx 0 rfl d_law_414 ?_
        refine g_iconst cx 5 (by decide) d_law_415 ?_
        refine g_iadd cx d_law_416 ?_
        refine g_toi 5 (by decide) ?_
        refine g_sld sx d_law_417 (g_i7 (g_L7 L hL zc24) (by unfold vp_in; decide)) ?_
        refine g_cViH cx [.int (xs (Int32.toNatClampNeg 1)), .int (xs (Int32.toNatClampNeg 2)), .int (xs (Int32.toNatClampNeg 3)), .int (xs (Int32.toNatClampNeg 4)), .int (xs (Int32.toNatClampNeg 5))] [.int 20] (c_X11_feed l X adm (xs (Int32.toNatClampNeg 1)) (xs (Int32.toNatClampNeg 2)) (xs (Int32.toNatClampNeg 3)) (xs (Int32.toNatClampNeg 4)) (xs (Int32.toNatClampNeg 5))) ml_L_41 yV_X11_feed d_law_418 (by unfold g_rr; decide) (by decide) 0 rfl rfl (wr := w40) (wc := wM X adm fM0 r0) rfl rfl (Nat.le_of_ble_eq_true rfl) (fun r42 w43 h44 => ?_)
        subst h44
        refine g_icmp_eq_t cx 949 d_law_421 (by decide) (by decide) ?_
        refine g_iinc cx 7 [(3, .int 7), (2, .ref (adm 0)), (1, .ref (adx 0)), (0, .ref b)] 0 d_law_949 rfl (by decide) (by decide) rfl ?_
        refine g_goto cx 18 d_law_952 (by decide) ?_
        refine g_iload_n cx 0 rfl d_law_18 ?_
        refine g_aload_n cx 3 rfl d_law_19 ?_
        refine g_slen sx d_law_20 ?_
        refine g_bipush cx 7 (by decide) d_law_21 ?_
        refine g_isub cx d_law_23 ?_
        refine g_icmp_gt_t cx 955 d_law_24 (by decide) (g_L77 (g_L7 L hL zc24)) ?_
        refine g_iconst cx 1 (by decide) d_law_955 ?_
        exact hend d_law_956 (Nat.le_of_ble_eq_true rfl) (Nat.le_of_ble_eq_true rfl)
      · refine g_tableIn cx 426 d_law_33 (by decide) (by decide) rfl (by decide) ?_
        refine g_aload_n cx 2 rfl d_law_426 ?_
        refine g_aload_n cx 3 rfl d_law_427 ?_
        refine g_iload_n cx 0 rfl d_law_428 ?_
        refine g_iconst cx 1 (by decide) d_law_429 ?_
        refine g_iadd cx d_law_430 ?_
        refine g_toi 1 (by decide) ?_
        refine g_sld sx d_law_431 (g_i7 (g_L7 L hL zc24) (by unfold vp_in; decide)) ?_
        refine g_cViH cx [.int (xs (Int32.toNatClampNeg 1))] [] (c_X10_pull l X adx (xs (Int32.toNatClampNeg 1))) ml_L_42 yV_X10_pull d_law_432 (by unfold g_rr; decide) (by decide) 0 rfl rfl (wr := wM X adm fM0 r0) (wc := wX X adx fX0 r0) rfl rfl (Nat.le_of_ble_eq_true rfl) (fun r45 w46 h47 => ?_)
        subst h47
        refine g_aload_n cx 1 rfl d_law_435 ?_
        refine g_aload_n cx 3 rfl d_law_436 ?_
        refine g_iload_n cx 0 rfl d_law_437 ?_
        refine g_iconst cx 1 (by decide) d_law_438 ?_
        refine g_iadd cx d_law_439 ?_
        refine g_toi 1 (by decide) ?_
        refine g_sld sx d_law_440 (g_i7 (g_L7 L hL zc24) (by unfold vp_in; decide)) ?_
        refine g_cViH cx [.int (xs (Int32.toNatClampNeg 1))] [.int (-1)] (c_X11_pull l X adm (xs (Int32.toNatClampNeg 1))) ml_L_46 yV_X11_pull d_law_441 (by unfold g_rr; decide) (by decide) 0 rfl rfl (wr := w46) (wc := wM X adm fM0 r0) rfl rfl (Nat.le_of_ble_eq_true rfl) (fun r48 w49 h50 => ?_)
        subst h50
        refine g_icmp_eq_t cx 949 d_law_444 (by decide) (by decide) ?_
        refine g_iinc cx 7 [(3, .int 7), (2, .ref (adm 0)), (1, .ref (adx 0)), (0, .ref b)] 0 d_law_949 rfl (by decide) (by decide) rfl ?_
        refine g_goto cx 18 d_law_952 (by decide) ?_
        refine g_iload_n cx 0 rfl d_law_18 ?_
        refine g_aload_n cx 3 rfl d_law_19 ?_
        refine g_slen sx d_law_20 ?_
        refine g_bipush cx 7 (by decide) d_law_21 ?_
        refine g_isub cx d_law_23 ?_
        refine g_icmp_gt_t cx 955 d_law_24 (by decide) (g_L77 (g_L7 L hL zc24)) ?_
        refine g_iconst cx 1 (by decide) d_law_955 ?_
        exact hend d_law_956 (Nat.le_of_ble_eq_true rfl) (Nat.le_of_ble_eq_true rfl)
      · refine g_tableIn cx 449 d_law_33 (by decide) (by decide) rfl (by decide) ?_
        refine g_aload_n cx 2 rfl d_law_449 ?_
        refine g_aload_n cx 3 rfl d_law_450 ?_
        refine g_iload_n cx 0 rfl d_law_451 ?_
        refine g_iconst cx 1 (by decide) d_law_452 ?_
        refine g_iadd cx d_law_453 ?_
        refine g_toi 1 (by decide) ?_
        refine g_sld sx d_law_454 (g_i7 (g_L7 L hL zc24) (by unfold vp_in; decide)) ?_
        refine g_cViH cx [.int (xs (Int32.toNatClampNeg 1))] [] (c_X10_law l X adx (xs (Int32.toNatClampNeg 1))) ml_L_47 yV_X10_law d_law_455 (by unfold g_rr; decide) (by decide) 0 rfl rfl (wr := wM X adm fM0 r0) (wc := wX X adx fX0 r0) rfl rfl (Nat.le_of_ble_eq_true rfl) (fun r51 w52 h53 => ?_)
        subst h53
        refine g_aload_n cx 1 rfl d_law_458 ?_
        refine g_aload_n cx 3 rfl d_law_459 ?_
        refine g_iload_n cx 0 rfl d_law_460 ?_
        refine g_iconst cx 1 (by decide) d_law_461 ?_
        refine g_iadd cx d_law_462 ?_
        refine g_toi 1 (by decide) ?_
        refine g_sld sx d_law_463 (g_i7 (g_L7 L hL zc24) (by unfold vp_in; decide)) ?_
        refine g_cViH cx [.int (xs (Int32.toNatClampNeg 1))] [.int (-1)] (c_X11_law l X adm (xs (Int32.toNatClampNeg 1))) ml_L_50 yV_X11_law d_law_464 (by unfold g_rr; decide) (by decide) 0 rfl rfl (wr := w52) (wc := wM X adm fM0 r0) rfl rfl (Nat.le_of_ble_eq_true rfl) (fun r54 w55 h56 => ?_)
        subst h56
        refine g_icmp_eq_t cx 949 d_law_467 (by decide) (by decide) ?_
        refine g_iinc cx 7 [(3, .int 7), (2, .ref (adm 0)), (1, .ref (adx 0)), (0, .ref b)] 0 d_law_949 rfl (by decide) (by decide) rfl ?_
        refine g_goto cx 18 d_law_952 (by decide) ?_
        refine g_iload_n cx 0 rfl d_law_18 ?_
        refine g_aload_n cx 3 rfl d_law_19 ?_
        refine g_slen sx d_law_20 ?_
        refine g_bipush cx 7 (by decide) d_law_21 ?_
        refine g_isub cx d_law_23 ?_
        refine g_icmp_gt_t cx 955 d_law_24 (by decide) (g_L77 (g_L7 L hL zc24)) ?_
        refine g_iconst cx 1 (by decide) d_law_955 ?_
        exact hend d_law_956 (Nat.le_of_ble_eq_true rfl) (Nat.le_of_ble_eq_true rfl)
      · refine g_tableIn cx 472 d_law_33 (by decide) (by decide) rfl (by decide) ?_
        refine g_aload_n cx 2 rfl d_law_472 ?_
        refine g_aload_n cx 3 rfl d_law_473 ?_
        refine g_iload_n cx 0 rfl d_law_474 ?_
        refine g_iconst cx 1 (by decide) d_law_475 ?_
        refine g_iadd cx d_law_476 ?_
        refine g_toi 1 (by decide) ?_
        refine g_sld sx d_law_477 (g_i7 (g_L7 L hL zc24) (by unfold vp_in; decide)) ?_
        refine g_cViH cx [.int (xs (Int32.toNatClampNeg 1))] [] (c_X10_tried l X adx (xs (Int32.toNatClampNeg 1))) ml_L_51 yV_X10_tried d_law_478 (by unfold g_rr; decide) (by decide) 0 rfl rfl (wr := wM X adm fM0 r0) (wc := wX X adx fX0 r0) rfl rfl (Nat.le_of_ble_eq_true rfl) (fun r57 w58 h59 => ?_)
        subst h59
        refine g_aload_n cx 1 rfl d_law_481 ?_
        refine g_aload_n cx 3 rfl d_law_482 ?_
        refine g_iload_n cx 0 rfl d_law_483 ?_
        refine g_iconst cx 1 (by decide) d_law_484 ?_
        refine g_iadd cx d_law_485 ?_
        refine g_toi 1 (by decide) ?_
        refine g_sld sx d_law_486 (g_i7 (g_L7 L hL zc24) (by unfold vp_in; decide)) ?_
        refine g_cViH cx [.int (xs (Int32.toNatClampNeg 1))] [.int (g_st (xs (Int32.toNatClampNeg 1)))] (c_X11_tried l X adm (xs (Int32.toNatClampNeg 1))) ml_L_54 yV_X11_tried d_law_487 (by unfold g_rr; decide) (by decide) 0 rfl rfl (wr := w58) (wc := wM X adm fM0 r0) rfl rfl (Nat.le_of_ble_eq_true rfl) (fun r60 w61 h62 => ?_)
        subst h62
        refine g_icmp_eq_t cx 949 d_law_490 (by decide) rfl ?_
        refine g_iinc cx 7 [(3, .int 7), (2, .ref (adm 0)), (1, .ref (adx 0)), (0, .ref b)] 0 d_law_949 rfl (by decide) (by decide) rfl ?_
        refine g_goto cx 18 d_law_952 (by decide) ?_
        refine g_iload_n cx 0 rfl d_law_18 ?_
        refine g_aload_n cx 3 rfl d_law_19 ?_
        refine g_slen sx d_law_20 ?_
        refine g_bipush cx 7 (by decide) d_law_21 ?_
        refine g_isub cx d_law_23 ?_
        refine g_icmp_gt_t cx 955 d_law_24 (by decide) (g_L77 (g_L7 L hL zc24)) ?_
        refine g_iconst cx 1 (by decide) d_law_955 ?_
        exact hend d_law_956 (Nat.le_of_ble_eq_true rfl) (Nat.le_of_ble_eq_true rfl)
      · refine g_tableIn cx 495 d_law_33 (by decide) (by decide) rfl (by decide) ?_
        refine g_aload_n cx 2 rfl d_law_495 ?_
        refine g_aload_n cx 3 rfl d_law_496 ?_
        refine g_iload_n cx 0 rfl d_law_497 ?_
        refine g_iconst cx 1 (by decide) d_law_498 ?_
        refine g_iadd cx d_law_499 ?_
        refine g_toi 1 (by decide) ?_
        refine g_sld sx d_law_500 (g_i7 (g_L7 L hL zc24) (by unfold vp_in; decide)) ?_
        refine g_cViH cx [.int (xs (Int32.toNatClampNeg 1))] [] (c_X10_still l X adx (xs (Int32.toNatClampNeg 1))) ml_L_55 yV_X10_still d_law_501 (by unfold g_rr; decide) (by decide) 0 rfl rfl (wr := wM X adm fM0 r0) (wc := wX X adx fX0 r0) rfl rfl (Nat.le_of_ble_eq_true rfl) (fun r63 w64 h65 => ?_)
        subst h65
        refine g_aload_n cx 1 rfl d_law_504 ?_
        refine g_aload_n cx 3 rfl d_law_505 ?_
        refine g_iload_n cx 0 rfl d_law_506 ?_
        refine g_iconst cx 1 (by decide) d_law_507 ?_
        refine g_iadd cx d_law_508 ?_
        refine g_toi 1 (by decide) ?_
        refine g_sld sx d_law_509 (g_i7 (g_L7 L hL zc24) (by unfold vp_in; decide)) ?_
        refine g_cViH cx [.int (xs (Int32.toNatClampNeg 1))] [.int (g_st (xs (Int32.toNatClampNeg 1)))] (c_X11_still l X adm (xs (Int32.toNatClampNeg 1))) ml_L_58 yV_X11_still d_law_510 (by unfold g_rr; decide) (by decide) 0 rfl rfl (wr := w64) (wc := wM X adm fM0 r0) rfl rfl (Nat.le_of_ble_eq_true rfl) (fun r66 w67 h68 => ?_)
        subst h68
        refine g_icmp_eq_t cx 949 d_law_513 (by decide) rfl ?_
        refine g_iinc cx 7 [(3, .int 7), (2, .ref (adm 0)), (1, .ref (adx 0)), (0, .ref b)] 0 d_law_949 rfl (by decide) (by decide) rfl ?_
        refine g_goto cx 18 d_law_952 (by decide) ?_
        refine g_iload_n cx 0 rfl d_law_18 ?_
        refine g_aload_n cx 3 rfl d_law_19 ?_
        refine g_slen sx d_law_20 ?_
        refine g_bipush cx 7 (by decide) d_law_21 ?_
        refine g_isub cx d_law_23 ?_
        refine g_icmp_gt_t cx 955 d_law_24 (by decide) (g_L77 (g_L7 L hL zc24)) ?_
        refine g_iconst cx 1 (by decide) d_law_955 ?_
        exact hend d_law_956 (Nat.le_of_ble_eq_true rfl) (Nat.le_of_ble_eq_true rfl)
      · refine g_tableIn cx 518 d_law_33 (by decide) (by decide) rfl (by decide) ?_
        refine g_aload_n cx 2 rfl d_law_518 ?_
        refine g_cViH cx [] [] (c_X10_done l X adx ) ml_L_59 yV_X10_done d_law_519 (by unfold g_rr; decide) (by decide) 0 rfl rfl (wr := wM X adm fM0 r0) (wc := wX X adx fX0 r0) rfl rfl (Nat.le_of_ble_eq_true rfl) (fun r69 w70 h71 => ?_)
        subst h71
        refine g_aload_n cx 1 rfl d_law_522 ?_
        refine g_cViH cx [] [.int (-1)] (c_X11_done l X adm ) ml_L_63 yV_X11_done d_law_523 (by unfold g_rr; decide) (by decide) 0 rfl rfl (wr := w70) (wc := wM X adm fM0 r0) rfl rfl (Nat.le_of_ble_eq_true rfl) (fun r72 w73 h74 => ?_)
        subst h74
        refine g_icmp_eq_t cx 949 d_law_526 (by decide) (by decide) ?_
        refine g_iinc cx 7 [(3, .int 7), (2, .ref (adm 0)), (1, .ref (adx 0)), (0, .ref b)] 0 d_law_949 rfl (by decide) (by decide) rfl ?_
        refine g_goto cx 18 d_law_952 (by decide) ?_
        refine g_iload_n cx 0 rfl d_law_18 ?_
        refine g_aload_n cx 3 rfl d_law_19 ?_
        refine g_slen sx d_law_20 ?_
        refine g_bipush cx 7 (by decide) d_law_21 ?_
        refine g_isub cx d_law_23 ?_
        refine g_icmp_gt_t cx 955 d_law_24 (by decide) (g_L77 (g_L7 L hL zc24)) ?_
        refine g_iconst cx 1 (by decide) d_law_955 ?_
        exact hend d_law_956 (Nat.le_of_ble_eq_true rfl) (Nat.le_of_ble_eq_true rfl)
      · refine g_tableIn cx 531 d_law_33 (by decide) (by decide) rfl (by decide) ?_
        refine g_aload_n cx 2 rfl d_law_531 ?_
        refine g_aload_n cx 3 rfl d_law_532 ?_
        refine g_iload_n cx 0 rfl d_law_533 ?_
        refine g_iconst cx 1 (by decide) d_law_534 ?_
        refine g_iadd cx d_law_535 ?_
        refine g_toi 1 (by decide) ?_
        refine g_sld sx d_law_536 (g_i7 (g_L7 L hL zc24) (by unfold vp_in; decide)) ?_
        refine g_aload_n cx 3 rfl d_law_537 ?_
        refine g_iload_n cx 0 rfl d_law_538 ?_
        refine g_iconst cx 2 (by decide) d_law_539 ?_
        refine g_iadd cx d_law_540 ?_
        refine g_toi 2 (by decide) ?_
        refine g_sld sx d_law_541 (g_i7 (g_L7 L hL zc24) (by unfold vp_in; decide)) ?_
        refine g_cViH cx [.int (xs (Int32.toNatClampNeg 1)), .int (xs (Int32.toNatClampNeg 2))] [] (c_X10_thingIs l X adx (xs (Int32.toNatClampNeg 1)) (xs (Int32.toNatClampNeg 2))) ml_L_64 yV_X10_thingIs d_law_542 (by unfold g_rr; decide) (by decide) 0 rfl rfl (wr := wM X adm fM0 r0) (wc := wX X adx fX0 r0) rfl rfl (Nat.le_of_ble_eq_true rfl) (fun r75 w76 h77 => ?_)
        subst h77
        refine g_aload_n cx 1 rfl d_law_545 ?_
        refine g_aload_n cx 3 rfl d_law_546 ?_
        refine g_iload_n cx 0 rfl d_law_547 ?_
        refine g_iconst cx 1 (by decide) d_law_548 ?_
        refine g_iadd cx d_law_549 ?_
        refine g_toi 1 (by decide) ?_
        refine g_sld sx d_law_550 (g_i7 (g_L7 L hL zc24) (by unfold vp_in; decide)) ?_
        refine g_aload_n cx 3 rfl d_law_551 ?_
        refine g_iload_n cx 0 rfl d_law_552 ?_
        refine g_iconst cx 2 (by decide) d_law_553 ?_
        refine g_iadd cx d_law_554 ?_
        refine g_toi 2 (by decide) ?_
        refine g_sld sx d_law_555 (g_i7 (g_L7 L hL zc24) (by unfold vp_in; decide)) ?_
        refine g_cViH cx [.int (xs (Int32.toNatClampNeg 1)), .int (xs (Int32.toNatClampNeg 2))] [.int (-1)] (c_X11_thingIs l X adm (xs (Int32.toNatClampNeg 1)) (xs (Int32.toNatClampNeg 2))) ml_L_68 yV_X11_thingIs d_law_556 (by unfold g_rr; decide) (by decide) 0 rfl rfl (wr := w76) (wc := wM X adm fM0 r0) rfl rfl (Nat.le_of_ble_eq_true rfl) (fun r78 w79 h80 => ?_)
        subst h80
        refine g_icmp_eq_t cx 949 d_law_559 (by decide) (by decide) ?_
        refine g_iinc cx 7 [(3, .int 7), (2, .ref (adm 0)), (1, .ref (adx 0)), (0, .ref b)] 0 d_law_949 rfl (by decide) (by decide) rfl ?_
        refine g_goto cx 18 d_law_952 (by decide) ?_
        refine g_iload_n cx 0 rfl d_law_18 ?_
        refine g_aload_n cx 3 rfl d_law_19 ?_
        refine g_slen sx d_law_20 ?_
        refine g_bipush cx 7 (by decide) d_law_21 ?_
        refine g_isub cx d_law_23 ?_
        refine g_icmp_gt_t cx 955 d_law_24 (by decide) (g_L77 (g_L7 L hL zc24)) ?_
        refine g_iconst cx 1 (by decide) d_law_955 ?_
        exact hend d_law_956 (Nat.le_of_ble_eq_true rfl) (Nat.le_of_ble_eq_true rfl)
      · refine g_tableIn cx 564 d_law_33 (by decide) (by decide) rfl (by decide) ?_
        refine g_aload_n cx 2 rfl d_law_564 ?_
        refine g_cViH cx [] [] (c_X10_pace l X adx ) ml_L_69 yV_X10_pace d_law_565 (by unfold g_rr; decide) (by decide) 0 rfl rfl (wr := wM X adm fM0 r0) (wc := wX X adx fX0 r0) rfl rfl (Nat.le_of_ble_eq_true rfl) (fun r81 w82 h83 => ?_)
        subst h83
        refine g_aload_n cx 1 rfl d_law_568 ?_
        refine g_cViH cx [] [.int 1] (c_X11_pace l X adm ) ml_L_72 yV_X11_pace d_law_569 (by unfold g_rr; decide) (by decide) 0 rfl rfl (wr := w82) (wc := wM X adm fM0 r0) rfl rfl (Nat.le_of_ble_eq_true rfl) (fun r84 w85 h86 => ?_)
        subst h86
        refine g_icmp_eq_t cx 949 d_law_572 (by decide) (by decide) ?_
        refine g_iinc cx 7 [(3, .int 7), (2, .ref (adm 0)), (1, .ref (adx 0)), (0, .ref b)] 0 d_law_949 rfl (by decide) (by decide) rfl ?_
        refine g_goto cx 18 d_law_952 (by decide) ?_
        refine g_iload_n cx 0 rfl d_law_18 ?_
        refine g_aload_n cx 3 rfl d_law_19 ?_
        refine g_slen sx d_law_20 ?_
        refine g_bipush cx 7 (by decide) d_law_21 ?_
        refine g_isub cx d_law_23 ?_
        refine g_icmp_gt_t cx 955 d_law_24 (by decide) (g_L77 (g_L7 L hL zc24)) ?_
        refine g_iconst cx 1 (by decide) d_law_955 ?_
        exact hend d_law_956 (Nat.le_of_ble_eq_true rfl) (Nat.le_of_ble_eq_true rfl)
      · refine g_tableIn cx 577 d_law_33 (by decide) (by decide) rfl (by decide) ?_
        refine g_aload_n cx 2 rfl d_law_577 ?_
        refine g_aload_n cx 3 rfl d_law_578 ?_
        refine g_iload_n cx 0 rfl d_law_579 ?_
        refine g_iconst cx 1 (by decide) d_law_580 ?_
        refine g_iadd cx d_law_581 ?_
        refine g_toi 1 (by decide) ?_
        refine g_sld sx d_law_582 (g_i7 (g_L7 L hL zc24) (by unfold vp_in; decide)) ?_
        refine g_cViH cx [.int (xs (Int32.toNatClampNeg 1))] [] (c_X10_best l X adx (xs (Int32.toNatClampNeg 1))) ml_L_73 yV_X10_best d_law_583 (by unfold g_rr; decide) (by decide) 0 rfl rfl (wr := wM X adm fM0 r0) (wc := wX X adx fX0 r0) rfl rfl (Nat.le_of_ble_eq_true rfl) (fun r87 w88 h89 => ?_)
        subst h89
        refine g_aload_n cx 1 rfl d_law_586 ?_
        refine g_aload_n cx 3 rfl d_law_587 ?_
        refine g_iload_n cx 0 rfl d_law_588 ?_
        refine g_iconst cx 1 (by decide) d_law_589 ?_
        refine g_iadd cx d_law_590 ?_
        refine g_toi 1 (by decide) ?_
        refine g_sld sx d_law_591 (g_i7 (g_L7 L hL zc24) (by unfold vp_in; decide)) ?_
        refine g_cViH cx [.int (xs (Int32.toNatClampNeg 1))] [.int (S_best (xs (Int32.toNatClampNeg 1)))] (c_X11_best l X adm (xs (Int32.toNatClampNeg 1))) ml_L_76 yV_X11_best d_law_592 (by unfold g_rr; decide) (by decide) 0 rfl rfl (wr := w88) (wc := wM X adm fM0 r0) rfl rfl (Nat.le_of_ble_eq_true rfl) (fun r90 w91 h92 => ?_)
        subst h92
        refine g_icmp_eq_t cx 949 d_law_595 (by decide) rfl ?_
        refine g_iinc cx 7 [(3, .int 7), (2, .ref (adm 0)), (1, .ref (adx 0)), (0, .ref b)] 0 d_law_949 rfl (by decide) (by decide) rfl ?_
        refine g_goto cx 18 d_law_952 (by decide) ?_
        refine g_iload_n cx 0 rfl d_law_18 ?_
        refine g_aload_n cx 3 rfl d_law_19 ?_
        refine g_slen sx d_law_20 ?_
        refine g_bipush cx 7 (by decide) d_law_21 ?_
        refine g_isub cx d_law_23 ?_
        refine g_icmp_gt_t cx 955 d_law_24 (by decide) (g_L77 (g_L7 L hL zc24)) ?_
        refine g_iconst cx 1 (by decide) d_law_955 ?_
        exact hend d_law_956 (Nat.le_of_ble_eq_true rfl) (Nat.le_of_ble_eq_true rfl)
      · refine g_tableIn cx 600 d_law_33 (by decide) (by decide) rfl (by decide) ?_
        refine g_aload_n cx 2 rfl d_law_600 ?_
        refine g_aload_n cx 3 rfl d_law_601 ?_
        refine g_iload_n cx 0 rfl d_law_602 ?_
        refine g_iconst cx 1 (by decide) d_law_603 ?_
        refine g_iadd cx d_law_604 ?_
        refine g_toi 1 (by decide) ?_
        refine g_sld sx d_law_605 (g_i7 (g_L7 L hL zc24) (by unfold vp_in; decide)) ?_
        refine g_aload_n cx 3 rfl d_law_606 ?_
        refine g_iload_n cx 0 rfl d_law_607 ?_
        refine g_iconst cx 2 (by decide) d_law_608 ?_
        refine g_iadd cx d_law_609 ?_
        refine g_toi 2 (by decide) ?_
        refine g_sld sx d_law_610 (g_i7 (g_L7 L hL zc24) (by unfold vp_in; decide)) ?_
        refine g_cViH cx [.int (xs (Int32.toNatClampNeg 1)), .int (xs (Int32.toNatClampNeg 2))] [] (c_X10_put l X adx (xs (Int32.toNatClampNeg 1)) (xs (Int32.toNatClampNeg 2))) ml_L_77 yV_X10_put d_law_611 (by unfold g_rr; decide) (by decide) 0 rfl rfl (wr := wM X adm fM0 r0) (wc := wX X adx fX0 r0) rfl rfl (Nat.le_of_ble_eq_true rfl) (fun r93 w94 h95 => ?_)
        subst h95
        refine g_aload_n cx 1 rfl d_law_614 ?_
        refine g_aload_n cx 3 rfl d_law_615 ?_
        refine g_iload_n cx 0 rfl d_law_616 ?_
        refine g_iconst cx 1 (by decide) d_law_617 ?_
        refine g_iadd cx d_law_618 ?_
        refine g_toi 1 (by decide) ?_
        refine g_sld sx d_law_619 (g_i7 (g_L7 L hL zc24) (by unfold vp_in; decide)) ?_
        refine g_aload_n cx 3 rfl d_law_620 ?_
        refine g_iload_n cx 0 rfl d_law_621 ?_
        refine g_iconst cx 2 (by decide) d_law_622 ?_
        refine g_iadd cx d_law_623 ?_
        refine g_toi 2 (by decide) ?_
        refine g_sld sx d_law_624 (g_i7 (g_L7 L hL zc24) (by unfold vp_in; decide)) ?_
        refine g_cViH cx [.int (xs (Int32.toNatClampNeg 1)), .int (xs (Int32.toNatClampNeg 2))] [.int (-1)] (c_X11_put l X adm (xs (Int32.toNatClampNeg 1)) (xs (Int32.toNatClampNeg 2))) ml_L_80 yV_X11_put d_law_625 (by unfold g_rr; decide) (by decide) 0 rfl rfl (wr := w94) (wc := wM X adm fM0 r0) rfl rfl (Nat.le_of_ble_eq_true rfl) (fun r96 w97 h98 => ?_)
        subst h98
        refine g_icmp_eq_t cx 949 d_law_628 (by decide) (by decide) ?_
        refine g_iinc cx 7 [(3, .int 7), (2, .ref (adm 0)), (1, .ref (adx 0)), (0, .ref b)] 0 d_law_949 rfl (by decide) (by decide) rfl ?_
        refine g_goto cx 18 d_law_952 (by decide) ?_
        refine g_iload_n cx 0 rfl d_law_18 ?_
        refine g_aload_n cx 3 rfl d_law_19 ?_
        refine g_slen sx d_law_20 ?_
        refine g_bipush cx 7 (by decide) d_law_21 ?_
        refine g_isub cx d_law_23 ?_
        refine g_icmp_gt_t cx 955 d_law_24 (by decide) (g_L77 (g_L7 L hL zc24)) ?_
        refine g_iconst cx 1 (by decide) d_law_955 ?_
        exact hend d_law_956 (Nat.le_of_ble_eq_true rfl) (Nat.le_of_ble_eq_true rfl)
      · refine g_tableIn cx 633 d_law_33 (by decide) (by decide) rfl (by decide) ?_
        refine g_aload_n cx 2 rfl d_law_633 ?_
        refine g_aload_n cx 3 rfl d_law_634 ?_
        refine g_iload_n cx 0 rfl d_law_635 ?_
        refine g_iconst cx 1 (by decide) d_law_636 ?_
        refine g_iadd cx d_law_637 ?_
        refine g_toi 1 (by decide) ?_
        refine g_sld sx d_law_638 (g_i7 (g_L7 L hL zc24) (by unfold vp_in; decide)) ?_
        refine g_cViH cx [.int (xs (Int32.toNatClampNeg 1))] [] (c_X10_most l X adx (xs (Int32.toNatClampNeg 1))) ml_L_81 yV_X10_most d_law_639 (by unfold g_rr; decide) (by decide) 0 rfl rfl (wr := wM X adm fM0 r0) (wc := wX X adx fX0 r0) rfl rfl (Nat.le_of_ble_eq_true rfl) (fun r99 w100 h101 => ?_)
        subst h101
        refine g_aload_n cx 1 rfl d_law_642 ?_
        refine g_aload_n cx 3 rfl d_law_643 ?_
        refine g_iload_n cx 0 rfl d_law_644 ?_
        refine g_iconst cx 1 (by decide) d_law_645 ?_
        refine g_iadd cx d_law_646 ?_
        refine g_toi 1 (by decide) ?_
        refine g_sld sx d_law_647 (g_i7 (g_L7 L hL zc24) (by unfold vp_in; decide)) ?_
        refine g_cViH cx [.int (xs (Int32.toNatClampNeg 1))] [.int (S_most (xs (Int32.toNatClampNeg 1)))] (c_X11_most l X adm (xs (Int32.toNatClampNeg 1))) ml_L_84 yV_X11_most d_law_648 (by unfold g_rr; decide) (by decide) 0 rfl rfl (wr := w100) (wc := wM X adm fM0 r0) rfl rfl (Nat.le_of_ble_eq_true rfl) (fun r102 w103 h104 => ?_)
        subst h104
        refine g_icmp_eq_t cx 949 d_law_651 (by decide) rfl ?_
        refine g_iinc cx 7 [(3, .int 7), (2, .ref (adm 0)), (1, .ref (adx 0)), (0, .ref b)] 0 d_law_949 rfl (by decide) (by decide) rfl ?_
        refine g_goto cx 18 d_law_952 (by decide) ?_
        refine g_iload_n cx 0 rfl d_law_18 ?_
        refine g_aload_n cx 3 rfl d_law_19 ?_
        refine g_slen sx d_law_20 ?_
        refine g_bipush cx 7 (by decide) d_law_21 ?_
        refine g_isub cx d_law_23 ?_
        refine g_icmp_gt_t cx 955 d_law_24 (by decide) (g_L77 (g_L7 L hL zc24)) ?_
        refine g_iconst cx 1 (by decide) d_law_955 ?_
        exact hend d_law_956 (Nat.le_of_ble_eq_true rfl) (Nat.le_of_ble_eq_true rfl)
      · refine g_tableIn cx 656 d_law_33 (by decide) (by decide) rfl (by decide) ?_
        refine g_aload_n cx 2 rfl d_law_656 ?_
        refine g_aload_n cx 3 rfl d_law_657 ?_
        refine g_iload_n cx 0 rfl d_law_658 ?_
        refine g_iconst cx 1 (by decide) d_law_659 ?_
        refine g_iadd cx d_law_660 ?_
        refine g_toi 1 (by decide) ?_
        refine g_sld sx d_law_661 (g_i7 (g_L7 L hL zc24) (by unfold vp_in; decide)) ?_
        refine g_aload_n cx 3 rfl d_law_662 ?_
        refine g_iload_n cx 0 rfl d_law_663 ?_
        refine g_iconst cx 2 (by decide) d_law_664 ?_
        refine g_iadd cx d_law_665 ?_
        refine g_toi 2 (by decide) ?_
        refine g_sld sx d_law_666 (g_i7 (g_L7 L hL zc24) (by unfold vp_in; decide)) ?_
        refine g_cViH cx [.int (xs (Int32.toNatClampNeg 1)), .int (xs (Int32.toNatClampNeg 2))] [] (c_X10_worth l X adx (xs (Int32.toNatClampNeg 1)) (xs (Int32.toNatClampNeg 2))) ml_L_85 yV_X10_worth d_law_667 (by unfold g_rr; decide) (by decide) 0 rfl rfl (wr := wM X adm fM0 r0) (wc := wX X adx fX0 r0) rfl rfl (Nat.le_of_ble_eq_true rfl) (fun r105 w106 h107 => ?_)
        subst h107
        refine g_aload_n cx 1 rfl d_law_670 ?_
        refine g_aload_n cx 3 rfl d_law_671 ?_
        refine g_iload_n cx 0 rfl d_law_672 ?_
        refine g_iconst cx 1 (by decide) d_law_673 ?_
        refine g_iadd cx d_law_674 ?_
        refine g_toi 1 (by decide) ?_
        refine g_sld sx d_law_675 (g_i7 (g_L7 L hL zc24) (by unfold vp_in; decide)) ?_
        refine g_aload_n cx 3 rfl d_law_676 ?_
        refine g_iload_n cx 0 rfl d_law_677 ?_
        refine g_iconst cx 2 (by decide) d_law_678 ?_
        refine g_iadd cx d_law_679 ?_
        refine g_toi 2 (by decide) ?_
        refine g_sld sx d_law_680 (g_i7 (g_L7 L hL zc24) (by unfold vp_in; decide)) ?_
        refine g_cViH cx [.int (xs (Int32.toNatClampNeg 1)), .int (xs (Int32.toNatClampNeg 2))] [.int (-100000)] (c_X11_worth l X adm (xs (Int32.toNatClampNeg 1)) (xs (Int32.toNatClampNeg 2))) ml_L_88 yV_X11_worth d_law_681 (by unfold g_rr; decide) (by decide) 0 rfl rfl (wr := w106) (wc := wM X adm fM0 r0) rfl rfl (Nat.le_of_ble_eq_true rfl) (fun r108 w109 h110 => ?_)
        subst h110
        refine g_icmp_eq_t cx 949 d_law_684 (by decide) (by decide) ?_
        refine g_iinc cx 7 [(3, .int 7), (2, .ref (adm 0)), (1, .ref (adx 0)), (0, .ref b)] 0 d_law_949 rfl (by decide) (by decide) rfl ?_
        refine g_goto cx 18 d_law_952 (by decide) ?_
        refine g_iload_n cx 0 rfl d_law_18 ?_
        refine g_aload_n cx 3 rfl d_law_19 ?_
        refine g_slen sx d_law_20 ?_
        refine g_bipush cx 7 (by decide) d_law_21 ?_
        refine g_isub cx d_law_23 ?_
        refine g_icmp_gt_t cx 955 d_law_24 (by decide) (g_L77 (g_L7 L hL zc24)) ?_
        refine g_iconst cx 1 (by decide) d_law_955 ?_
        exact hend d_law_956 (Nat.le_of_ble_eq_true rfl) (Nat.le_of_ble_eq_true rfl)
      · refine g_tableIn cx 689 d_law_33 (by decide) (by decide) rfl (by decide) ?_
        refine g_aload_n cx 2 rfl d_law_689 ?_
        refine g_aload_n cx 3 rfl d_law_690 ?_
        refine g_iload_n cx 0 rfl d_law_691 ?_
        refine g_iconst cx 1 (by decide) d_law_692 ?_
        refine g_iadd cx d_law_693 ?_
        refine g_toi 1 (by decide) ?_
        refine g_sld sx d_law_694 (g_i7 (g_L7 L hL zc24) (by unfold vp_in; decide)) ?_
        refine g_cViH cx [.int (xs (Int32.toNatClampNeg 1))] [] (c_X10_wasWet l X adx (xs (Int32.toNatClampNeg 1))) ml_L_89 yV_X10_wasWet d_law_695 (by unfold g_rr; decide) (by decide) 0 rfl rfl (wr := wM X adm fM0 r0) (wc := wX X adx fX0 r0) rfl rfl (Nat.le_of_ble_eq_true rfl) (fun r111 w112 h113 => ?_)
        subst h113
        refine g_aload_n cx 1 rfl d_law_698 ?_
        refine g_aload_n cx 3 rfl d_law_699 ?_
        refine g_iload_n cx 0 rfl d_law_700 ?_
        refine g_iconst cx 1 (by decide) d_law_701 ?_
        refine g_iadd cx d_law_702 ?_
        refine g_toi 1 (by decide) ?_
        refine g_sld sx d_law_703 (g_i7 (g_L7 L hL zc24) (by unfold vp_in; decide)) ?_
        refine g_cViH cx [.int (xs (Int32.toNatClampNeg 1))] [.int (-1)] (c_X11_wasWet l X adm (xs (Int32.toNatClampNeg 1))) ml_L_92 yV_X11_wasWet d_law_704 (by unfold g_rr; decide) (by decide) 0 rfl rfl (wr := w112) (wc := wM X adm fM0 r0) rfl rfl (Nat.le_of_ble_eq_true rfl) (fun r114 w115 h116 => ?_)
        subst h116
        refine g_icmp_eq_t cx 949 d_law_707 (by decide) (by decide) ?_
        refine g_iinc cx 7 [(3, .int 7), (2, .ref (adm 0)), (1, .ref (adx 0)), (0, .ref b)] 0 d_law_949 rfl (by decide) (by decide) rfl ?_
        refine g_goto cx 18 d_law_952 (by decide) ?_
        refine g_iload_n cx 0 rfl d_law_18 ?_
        refine g_aload_n cx 3 rfl d_law_19 ?_
        refine g_slen sx d_law_20 ?_
        refine g_bipush cx 7 (by decide) d_law_21 ?_
        refine g_isub cx d_law_23 ?_
        refine g_icmp_gt_t cx 955 d_law_24 (by decide) (g_L77 (g_L7 L hL zc24)) ?_
        refine g_iconst cx 1 (by decide) d_law_955 ?_
        exact hend d_law_956 (Nat.le_of_ble_eq_true rfl) (Nat.le_of_ble_eq_true rfl)
      · refine g_tableIn cx 712 d_law_33 (by decide) (by decide) rfl (by decide) ?_
        refine g_aload_n cx 2 rfl d_law_712 ?_
        refine g_aload_n cx 3 rfl d_law_713 ?_
        refine g_iload_n cx 0 rfl d_law_714 ?_
        refine g_iconst cx 1 (by decide) d_law_715 ?_
        refine g_iadd cx d_law_716 ?_
        refine g_toi 1 (by decide) ?_
        refine g_sld sx d_law_717 (g_i7 (g_L7 L hL zc24) (by unfold vp_in; decide)) ?_
        refine g_cViH cx [.int (xs (Int32.toNatClampNeg 1))] [] (c_X10_howQuick l X adx (xs (Int32.toNatClampNeg 1))) ml_L_93 yV_X10_howQuick d_law_718 (by unfold g_rr; decide) (by decide) 0 rfl rfl (wr := wM X adm fM0 r0) (wc := wX X adx fX0 r0) rfl rfl (Nat.le_of_ble_eq_true rfl) (fun r117 w118 h119 => ?_)
        subst h119
        refine g_aload_n cx 1 rfl d_law_721 ?_
        refine g_aload_n cx 3 rfl d_law_722 ?_
        refine g_iload_n cx 0 rfl d_law_723 ?_
        refine g_iconst cx 1 (by decide) d_law_724 ?_
        refine g_iadd cx d_law_725 ?_
        refine g_toi 1 (by decide) ?_
        refine g_sld sx d_law_726 (g_i7 (g_L7 L hL zc24) (by unfold vp_in; decide)) ?_
        refine g_cViH cx [.int (xs (Int32.toNatClampNeg 1))] [.int (-1)] (c_X11_howQuick l X adm (xs (Int32.toNatClampNeg 1))) ml_L_96 yV_X11_howQuick d_law_727 (by unfold g_rr; decide) (by decide) 0 rfl rfl (wr := w118) (wc := wM X adm fM0 r0) rfl rfl (Nat.le_of_ble_eq_true rfl) (fun r120 w121 h122 => ?_)
        subst h122
        refine g_icmp_eq_t cx 949 d_law_730 (by decide) (by decide) ?_
        refine g_iinc cx 7 [(3, .int 7), (2, .ref (adm 0)), (1, .ref (adx 0)), (0, .ref b)] 0 d_law_949 rfl (by decide) (by decide) rfl ?_
        refine g_goto cx 18 d_law_952 (by decide) ?_
        refine g_iload_n cx 0 rfl d_law_18 ?_
        refine g_aload_n cx 3 rfl d_law_19 ?_
        refine g_slen sx d_law_20 ?_
        refine g_bipush cx 7 (by decide) d_law_21 ?_
        refine g_isub cx d_law_23 ?_
        refine g_icmp_gt_t cx 955 d_law_24 (by decide) (g_L77 (g_L7 L hL zc24)) ?_
        refine g_iconst cx 1 (by decide) d_law_955 ?_
        exact hend d_law_956 (Nat.le_of_ble_eq_true rfl) (Nat.le_of_ble_eq_true rfl)
      · refine g_tableIn cx 735 d_law_33 (by decide) (by decide) rfl (by decide) ?_
        refine g_aload_n cx 2 rfl d_law_735 ?_
        refine g_aload_n cx 3 rfl d_law_736 ?_
        refine g_iload_n cx 0 rfl d_law_737 ?_
        refine g_iconst cx 1 (by decide) d_law_738 ?_
        refine g_iadd cx d_law_739 ?_
        refine g_toi 1 (by decide) ?_
        refine g_sld sx d_law_740 (g_i7 (g_L7 L hL zc24) (by unfold vp_in; decide)) ?_
        refine g_aload_n cx 3 rfl d_law_741 ?_
        refine g_iload_n cx 0 rfl d_law_742 ?_
        refine g_iconst cx 2 (by decide) d_law_743 ?_
        refine g_iadd cx d_law_744 ?_
        refine g_toi 2 (by decide) ?_
        refine g_sld sx d_law_745 (g_i7 (g_L7 L hL zc24) (by unfold vp_in; decide)) ?_
        refine g_aload_n cx 3 rfl d_law_746 ?_
        refine g_iload_n cx 0 rfl d_law_747 ?_
        refine g_iconst cx 3 (by decide) d_law_748 ?_
        refine g_iadd cx d_law_749 ?_
        refine g_toi 3 (by decide) ?_
        refine g_sld sx d_law_750 (g_i7 (g_L7 L hL zc24) (by unfold vp_in; decide)) ?_
        refine g_cViH cx [.int (xs (Int32.toNatClampNeg 1)), .int (xs (Int32.toNatClampNeg 2)), .int (xs (Int32.toNatClampNeg 3))] [] (c_X10_odds l X adx (xs (Int32.toNatClampNeg 1)) (xs (Int32.toNatClampNeg 2)) (xs (Int32.toNatClampNeg 3))) ml_L_97 yV_X10_odds d_law_751 (by unfold g_rr; decide) (by decide) 0 rfl rfl (wr := wM X adm fM0 r0) (wc := wX X adx fX0 r0) rfl rfl (Nat.le_of_ble_eq_true rfl) (fun r123 w124 h125 => ?_)
        subst h125
        refine g_aload_n cx 1 rfl d_law_754 ?_
        refine g_aload_n cx 3 rfl d_law_755 ?_
        refine g_iload_n cx 0 rfl d_law_756 ?_
        refine g_iconst cx 1 (by decide) d_law_757 ?_
        refine g_iadd cx d_law_758 ?_
        refine g_toi 1 (by decide) ?_
        refine g_sld sx d_law_759 (g_i7 (g_L7 L hL zc24) (by unfold vp_in; decide)) ?_
        refine g_aload_n cx 3 rfl d_law_760 ?_
        refine g_iload_n cx 0 rfl d_law_761 ?_
        refine g_iconst cx 2 (by decide) d_law_762 ?_
        refine g_iadd cx d_law_763 ?_
        refine g_toi 2 (by decide) ?_
        refine g_sld sx d_law_764 (g_i7 (g_L7 L hL zc24) (by unfold vp_in; decide)) ?_
        refine g_aload_n cx 3 rfl d_law_765 ?_
        refine g_iload_n cx 0 rfl d_law_766 ?_
        refine g_iconst cx 3 (by decide) d_law_767 ?_
        refine g_iadd cx d_law_768 ?_
        refine g_toi 3 (by decide) ?_
        refine g_sld sx d_law_769 (g_i7 (g_L7 L hL zc24) (by unfold vp_in; decide)) ?_
        refine g_cViH cx [.int (xs (Int32.toNatClampNeg 1)), .int (xs (Int32.toNatClampNeg 2)), .int (xs (Int32.toNatClampNeg 3))] [.int (-1)] (c_X11_odds l X adm (xs (Int32.toNatClampNeg 1)) (xs (Int32.toNatClampNeg 2)) (xs (Int32.toNatClampNeg 3))) ml_L_101 yV_X11_odds d_law_770 (by unfold g_rr; decide) (by decide) 0 rfl rfl (wr := w124) (wc := wM X adm fM0 r0) rfl rfl (Nat.le_of_ble_eq_true rfl) (fun r126 w127 h128 => ?_)
        subst h128
        refine g_icmp_eq_t cx 949 d_law_773 (by decide) (by decide) ?_
        refine g_iinc cx 7 [(3, .int 7), (2, .ref (adm 0)), (1, .ref (adx 0)), (0, .ref b)] 0 d_law_949 rfl (by decide) (by decide) rfl ?_
        refine g_goto cx 18 d_law_952 (by decide) ?_
        refine g_iload_n cx 0 rfl d_law_18 ?_
        refine g_aload_n cx 3 rfl d_law_19 ?_
        refine g_slen sx d_law_20 ?_
        refine g_bipush cx 7 (by decide) d_law_21 ?_
        refine g_isub cx d_law_23 ?_
        refine g_icmp_gt_t cx 955 d_law_24 (by decide) (g_L77 (g_L7 L hL zc24)) ?_
        refine g_iconst cx 1 (by decide) d_law_955 ?_
        exact hend d_law_956 (Nat.le_of_ble_eq_true rfl) (Nat.le_of_ble_eq_true rfl)
      · refine g_tableIn cx 778 d_law_33 (by decide) (by decide) rfl (by decide) ?_
        refine g_aload_n cx 2 rfl d_law_778 ?_
        refine g_aload_n cx 3 rfl d_law_779 ?_
        refine g_iload_n cx 0 rfl d_law_780 ?_
        refine g_iconst cx 1 (by decide) d_law_781 ?_
        refine g_iadd cx d_law_782 ?_
        refine g_toi 1 (by decide) ?_
        refine g_sld sx d_law_783 (g_i7 (g_L7 L hL zc24) (by unfold vp_in; decide)) ?_
        refine g_aload_n cx 3 rfl d_law_784 ?_
        refine g_iload_n cx 0 rfl d_law_785 ?_
        refine g_iconst cx 2 (by decide) d_law_786 ?_
        refine g_iadd cx d_law_787 ?_
        refine g_toi 2 (by decide) ?_
        refine g_sld sx d_law_788 (g_i7 (g_L7 L hL zc24) (by unfold vp_in; decide)) ?_
        refine g_cViH cx [.int (xs (Int32.toNatClampNeg 1)), .int (xs (Int32.toNatClampNeg 2))] [] (c_X10_should l X adx (xs (Int32.toNatClampNeg 1)) (xs (Int32.toNatClampNeg 2))) ml_L_102 yV_X10_should d_law_789 (by unfold g_rr; decide) (by decide) 0 rfl rfl (wr := wM X adm fM0 r0) (wc := wX X adx fX0 r0) rfl rfl (Nat.le_of_ble_eq_true rfl) (fun r129 w130 h131 => ?_)
        subst h131
        refine g_aload_n cx 1 rfl d_law_792 ?_
        refine g_aload_n cx 3 rfl d_law_793 ?_
        refine g_iload_n cx 0 rfl d_law_794 ?_
        refine g_iconst cx 1 (by decide) d_law_795 ?_
        refine g_iadd cx d_law_796 ?_
        refine g_toi 1 (by decide) ?_
        refine g_sld sx d_law_797 (g_i7 (g_L7 L hL zc24) (by unfold vp_in; decide)) ?_
        refine g_aload_n cx 3 rfl d_law_798 ?_
        refine g_iload_n cx 0 rfl d_law_799 ?_
        refine g_iconst cx 2 (by decide) d_law_800 ?_
        refine g_iadd cx d_law_801 ?_
        refine g_toi 2 (by decide) ?_
        refine g_sld sx d_law_802 (g_i7 (g_L7 L hL zc24) (by unfold vp_in; decide)) ?_
        refine g_cViH cx [.int (xs (Int32.toNatClampNeg 1)), .int (xs (Int32.toNatClampNeg 2))] [.int (-1000000000)] (c_X11_should l X adm (xs (Int32.toNatClampNeg 1)) (xs (Int32.toNatClampNeg 2))) ml_L_105 yV_X11_should d_law_803 (by unfold g_rr; decide) (by decide) 0 rfl rfl (wr := w130) (wc := wM X adm fM0 r0) rfl rfl (Nat.le_of_ble_eq_true rfl) (fun r132 w133 h134 => ?_)
        subst h134
        refine g_icmp_eq_t cx 949 d_law_806 (by decide) (by decide) ?_
        refine g_iinc cx 7 [(3, .int 7), (2, .ref (adm 0)), (1, .ref (adx 0)), (0, .ref b)] 0 d_law_949 rfl (by decide) (by decide) rfl ?_
        refine g_goto cx 18 d_law_952 (by decide) ?_
        refine g_iload_n cx 0 rfl d_law_18 ?_
        refine g_aload_n cx 3 rfl d_law_19 ?_
        refine g_slen sx d_law_20 ?_
        refine g_bipush cx 7 (by decide) d_law_21 ?_
        refine g_isub cx d_law_23 ?_
        refine g_icmp_gt_t cx 955 d_law_24 (by decide) (g_L77 (g_L7 L hL zc24)) ?_
        refine g_iconst cx 1 (by decide) d_law_955 ?_
        exact hend d_law_956 (Nat.le_of_ble_eq_true rfl) (Nat.le_of_ble_eq_true rfl)
      · refine g_tableIn cx 811 d_law_33 (by decide) (by decide) rfl (by decide) ?_
        refine g_aload_n cx 2 rfl d_law_811 ?_
        refine g_aload_n cx 3 rfl d_law_812 ?_
        refine g_iload_n cx 0 rfl d_law_813 ?_
        refine g_iconst cx 1 (by decide) d_law_814 ?_
        refine g_iadd cx d_law_815 ?_
        refine g_toi 1 (by decide) ?_
        refine g_sld sx d_law_816 (g_i7 (g_L7 L hL zc24) (by unfold vp_in; decide)) ?_
        refine g_aload_n cx 3 rfl d_law_817 ?_
        refine g_iload_n cx 0 rfl d_law_818 ?_
        refine g_iconst cx 2 (by decide) d_law_819 ?_
        refine g_iadd cx d_law_820 ?_
        refine g_toi 2 (by decide) ?_
        refine g_sld sx d_law_821 (g_i7 (g_L7 L hL zc24) (by unfold vp_in; decide)) ?_
        refine g_aload_n cx 3 rfl d_law_822 ?_
        refine g_iload_n cx 0 rfl d_law_823 ?_
        refine g_iconst cx 3 (by decide) d_law_824 ?_
        refine g_iadd cx d_law_825 ?_
        refine g_toi 3 (by decide) ?_
        refine g_sld sx d_law_826 (g_i7 (g_L7 L hL zc24) (by unfold vp_in; decide)) ?_
        refine g_cViH cx [.int (xs (Int32.toNatClampNeg 1)), .int (xs (Int32.toNatClampNeg 2)), .int (xs (Int32.toNatClampNeg 3))] [] (c_X10_practice l X adx (xs (Int32.toNatClampNeg 1)) (xs (Int32.toNatClampNeg 2)) (xs (Int32.toNatClampNeg 3))) ml_L_106 yV_X10_practice d_law_827 (by unfold g_rr; decide) (by decide) 0 rfl rfl (wr := wM X adm fM0 r0) (wc := wX X adx fX0 r0) rfl rfl (Nat.le_of_ble_eq_true rfl) (fun r135 w136 h137 => ?_)
        subst h137
        refine g_aload_n cx 1 rfl d_law_830 ?_
        refine g_aload_n cx 3 rfl d_law_831 ?_
        refine g_iload_n cx 0 rfl d_law_832 ?_
        refine g_iconst cx 1 (by decide) d_law_833 ?_
        refine g_iadd cx d_law_834 ?_
        refine g_toi 1 (by decide) ?_
        refine g_sld sx d_law_835 (g_i7 (g_L7 L hL zc24) (by unfold vp_in; decide)) ?_
        refine g_aload_n cx 3 rfl d_law_836 ?_
        refine g_iload_n cx 0 rfl d_law_837 ?_
        refine g_iconst cx 2 (by decide) d_law_838 ?_
        refine g_iadd cx d_law_839 ?_
        refine g_toi 2 (by decide) ?_
        refine g_sld sx d_law_840 (g_i7 (g_L7 L hL zc24) (by unfold vp_in; decide)) ?_
        refine g_aload_n cx 3 rfl d_law_841 ?_
        refine g_iload_n cx 0 rfl d_law_842 ?_
        refine g_iconst cx 3 (by decide) d_law_843 ?_
        refine g_iadd cx d_law_844 ?_
        refine g_toi 3 (by decide) ?_
        refine g_sld sx d_law_845 (g_i7 (g_L7 L hL zc24) (by unfold vp_in; decide)) ?_
        refine g_cViH cx [.int (xs (Int32.toNatClampNeg 1)), .int (xs (Int32.toNatClampNeg 2)), .int (xs (Int32.toNatClampNeg 3))] [.int (S_pr (xs (Int32.toNatClampNeg 1)) (xs (Int32.toNatClampNeg 2)) (xs (Int32.toNatClampNeg 3)))] (c_X11_practice l X adm (xs (Int32.toNatClampNeg 1)) (xs (Int32.toNatClampNeg 2)) (xs (Int32.toNatClampNeg 3))) ml_L_109 yV_X11_practice d_law_846 (by unfold g_rr; decide) (by decide) 0 rfl rfl (wr := w136) (wc := wM X adm fM0 r0) rfl rfl (Nat.le_of_ble_eq_true rfl) (fun r138 w139 h140 => ?_)
        subst h140
        refine g_icmp_eq_t cx 949 d_law_849 (by decide) rfl ?_
        refine g_iinc cx 7 [(3, .int 7), (2, .ref (adm 0)), (1, .ref (adx 0)), (0, .ref b)] 0 d_law_949 rfl (by decide) (by decide) rfl ?_
        refine g_goto cx 18 d_law_952 (by decide) ?_
        refine g_iload_n cx 0 rfl d_law_18 ?_
        refine g_aload_n cx 3 rfl d_law_19 ?_
        refine g_slen sx d_law_20 ?_
        refine g_bipush cx 7 (by decide) d_law_21 ?_
        refine g_isub cx d_law_23 ?_
        refine g_icmp_gt_t cx 955 d_law_24 (by decide) (g_L77 (g_L7 L hL zc24)) ?_
        refine g_iconst cx 1 (by decide) d_law_955 ?_
        exact hend d_law_956 (Nat.le_of_ble_eq_true rfl) (Nat.le_of_ble_eq_true rfl)
      · refine g_tableIn cx 854 d_law_33 (by decide) (by decide) rfl (by decide) ?_
        refine g_aload_n cx 2 rfl d_law_854 ?_
        refine g_aload_n cx 3 rfl d_law_855 ?_
        refine g_iload_n cx 0 rfl d_law_856 ?_
        refine g_iconst cx 1 (by decide) d_law_857 ?_
        refine g_iadd cx d_law_858 ?_
        refine g_toi 1 (by decide) ?_
        refine g_sld sx d_law_859 (g_i7 (g_L7 L hL zc24) (by unfold vp_in; decide)) ?_
        refine g_cViH cx [.int (xs (Int32.toNatClampNeg 1))] [] (c_X10_seed l X adx (xs (Int32.toNatClampNeg 1))) ml_L_110 yV_X10_seed d_law_860 (by unfold g_rr; decide) (by decide) 0 rfl rfl (wr := wM X adm fM0 r0) (wc := wX X adx fX0 r0) rfl rfl (Nat.le_of_ble_eq_true rfl) (fun r141 w142 h143 => ?_)
        subst h143
        refine g_aload_n cx 1 rfl d_law_863 ?_
        refine g_aload_n cx 3 rfl d_law_864 ?_
        refine g_iload_n cx 0 rfl d_law_865 ?_
        refine g_iconst cx 1 (by decide) d_law_866 ?_
        refine g_iadd cx d_law_867 ?_
        refine g_toi 1 (by decide) ?_
        refine g_sld sx d_law_868 (g_i7 (g_L7 L hL zc24) (by unfold vp_in; decide)) ?_
        refine g_cViH cx [.int (xs (Int32.toNatClampNeg 1))] [.int (S_seed (xs (Int32.toNatClampNeg 1)))] (c_X11_seed l X adm (xs (Int32.toNatClampNeg 1))) ml_L_113 yV_X11_seed d_law_869 (by unfold g_rr; decide) (by decide) 0 rfl rfl (wr := w142) (wc := wM X adm fM0 r0) rfl rfl (Nat.le_of_ble_eq_true rfl) (fun r144 w145 h146 => ?_)
        subst h146
        refine g_icmp_eq_t cx 949 d_law_872 (by decide) rfl ?_
        refine g_iinc cx 7 [(3, .int 7), (2, .ref (adm 0)), (1, .ref (adx 0)), (0, .ref b)] 0 d_law_949 rfl (by decide) (by decide) rfl ?_
        refine g_goto cx 18 d_law_952 (by decide) ?_
        refine g_iload_n cx 0 rfl d_law_18 ?_
        refine g_aload_n cx 3 rfl d_law_19 ?_
        refine g_slen sx d_law_20 ?_
        refine g_bipush cx 7 (by decide) d_law_21 ?_
        refine g_isub cx d_law_23 ?_
        refine g_icmp_gt_t cx 955 d_law_24 (by decide) (g_L77 (g_L7 L hL zc24)) ?_
        refine g_iconst cx 1 (by decide) d_law_955 ?_
        exact hend d_law_956 (Nat.le_of_ble_eq_true rfl) (Nat.le_of_ble_eq_true rfl)
      · refine g_tableIn cx 877 d_law_33 (by decide) (by decide) rfl (by decide) ?_
        refine g_aload_n cx 2 rfl d_law_877 ?_
        refine g_cViH cx [] [] (c_X10_keep l X adx ) ml_L_114 yV_X10_keep d_law_878 (by unfold g_rr; decide) (by decide) 0 rfl rfl (wr := wM X adm fM0 r0) (wc := wX X adx fX0 r0) rfl rfl (Nat.le_of_ble_eq_true rfl) (fun r147 w148 h149 => ?_)
        subst h149
        refine g_aload_n cx 1 rfl d_law_881 ?_
        refine g_cViH cx [] [.int 0] (c_X11_keep l X adm ) ml_L_117 yV_X11_keep d_law_882 (by unfold g_rr; decide) (by decide) 0 rfl rfl (wr := w148) (wc := wM X adm fM0 r0) rfl rfl (Nat.le_of_ble_eq_true rfl) (fun r150 w151 h152 => ?_)
        subst h152
        refine g_icmp_eq_t cx 949 d_law_885 (by decide) (by decide) ?_
        refine g_iinc cx 7 [(3, .int 7), (2, .ref (adm 0)), (1, .ref (adx 0)), (0, .ref b)] 0 d_law_949 rfl (by decide) (by decide) rfl ?_
        refine g_goto cx 18 d_law_952 (by decide) ?_
        refine g_iload_n cx 0 rfl d_law_18 ?_
        refine g_aload_n cx 3 rfl d_law_19 ?_
        refine g_slen sx d_law_20 ?_
        refine g_bipush cx 7 (by decide) d_law_21 ?_
        refine g_isub cx d_law_23 ?_
        refine g_icmp_gt_t cx 955 d_law_24 (by decide) (g_L77 (g_L7 L hL zc24)) ?_
        refine g_iconst cx 1 (by decide) d_law_955 ?_
        exact hend d_law_956 (Nat.le_of_ble_eq_true rfl) (Nat.le_of_ble_eq_true rfl)
      · refine g_tableIn cx 890 d_law_33 (by decide) (by decide) rfl (by decide) ?_
        refine g_aload_n cx 2 rfl d_law_890 ?_
        refine g_cViH cx [] [] (c_X10_undo l X adx ) ml_L_118 yV_X10_undo d_law_891 (by unfold g_rr; decide) (by decide) 0 rfl rfl (wr := wM X adm fM0 r0) (wc := wX X adx fX0 r0) rfl rfl (Nat.le_of_ble_eq_true rfl) (fun r153 w154 h155 => ?_)
        subst h155
        refine g_aload_n cx 1 rfl d_law_894 ?_
        refine g_cViH cx [] [.int 0] (c_X11_undo l X adm ) ml_L_122 yV_X11_undo d_law_895 (by unfold g_rr; decide) (by decide) 0 rfl rfl (wr := w154) (wc := wM X adm fM0 r0) rfl rfl (Nat.le_of_ble_eq_true rfl) (fun r156 w157 h158 => ?_)
        subst h158
        refine g_icmp_eq_t cx 949 d_law_898 (by decide) (by decide) ?_
        refine g_iinc cx 7 [(3, .int 7), (2, .ref (adm 0)), (1, .ref (adx 0)), (0, .ref b)] 0 d_law_949 rfl (by decide) (by decide) rfl ?_
        refine g_goto cx 18 d_law_952 (by decide) ?_
        refine g_iload_n cx 0 rfl d_law_18 ?_
        refine g_aload_n cx 3 rfl d_law_19 ?_
        refine g_slen sx d_law_20 ?_
        refine g_bipush cx 7 (by decide) d_law_21 ?_
        refine g_isub cx d_law_23 ?_
        refine g_icmp_gt_t cx 955 d_law_24 (by decide) (g_L77 (g_L7 L hL zc24)) ?_
        refine g_iconst cx 1 (by decide) d_law_955 ?_
        exact hend d_law_956 (Nat.le_of_ble_eq_true rfl) (Nat.le_of_ble_eq_true rfl)
      · refine g_tableIn cx 903 d_law_33 (by decide) (by decide) rfl (by decide) ?_
        refine g_aload_n cx 2 rfl d_law_903 ?_
        refine g_aload_n cx 3 rfl d_law_904 ?_
        refine g_iload_n cx 0 rfl d_law_905 ?_
        refine g_iconst cx 1 (by decide) d_law_906 ?_
        refine g_iadd cx d_law_907 ?_
        refine g_toi 1 (by decide) ?_
        refine g_sld sx d_law_908 (g_i7 (g_L7 L hL zc24) (by unfold vp_in; decide)) ?_
        refine g_cViH cx [.int (xs (Int32.toNatClampNeg 1))] [] (c_X10_check l X adx (xs (Int32.toNatClampNeg 1))) ml_L_123 yV_X10_check d_law_909 (by unfold g_rr; decide) (by decide) 0 rfl rfl (wr := wM X adm fM0 r0) (wc := wX X adx fX0 r0) rfl rfl (Nat.le_of_ble_eq_true rfl) (fun r159 w160 h161 => ?_)
        subst h161
        refine g_aload_n cx 1 rfl d_law_912 ?_
        refine g_aload_n cx 3 rfl d_law_913 ?_
        refine g_iload_n cx 0 rfl d_law_914 ?_
        refine g_iconst cx 1 (by decide) d_law_915 ?_
        refine g_iadd cx d_law_916 ?_
        refine g_toi 1 (by decide) ?_
        refine g_sld sx d_law_917 (g_i7 (g_L7 L hL zc24) (by unfold vp_in; decide)) ?_
        refine g_cViH cx [.int (xs (Int32.toNatClampNeg 1))] [.int (S_check (xs (Int32.toNatClampNeg 1)))] (c_X11_check l X adm (xs (Int32.toNatClampNeg 1))) ml_L_126 yV_X11_check d_law_918 (by unfold g_rr; decide) (by decide) 0 rfl rfl (wr := w160) (wc := wM X adm fM0 r0) rfl rfl (Nat.le_of_ble_eq_true rfl) (fun r162 w163 h164 => ?_)
        subst h164
        refine g_icmp_eq_t cx 949 d_law_921 (by decide) rfl ?_
        refine g_iinc cx 7 [(3, .int 7), (2, .ref (adm 0)), (1, .ref (adx 0)), (0, .ref b)] 0 d_law_949 rfl (by decide) (by decide) rfl ?_
        refine g_goto cx 18 d_law_952 (by decide) ?_
        refine g_iload_n cx 0 rfl d_law_18 ?_
        refine g_aload_n cx 3 rfl d_law_19 ?_
        refine g_slen sx d_law_20 ?_
        refine g_bipush cx 7 (by decide) d_law_21 ?_
        refine g_isub cx d_law_23 ?_
        refine g_icmp_gt_t cx 955 d_law_24 (by decide) (g_L77 (g_L7 L hL zc24)) ?_
        refine g_iconst cx 1 (by decide) d_law_955 ?_
        exact hend d_law_956 (Nat.le_of_ble_eq_true rfl) (Nat.le_of_ble_eq_true rfl)
      · refine g_tableIn cx 926 d_law_33 (by decide) (by decide) rfl (by decide) ?_
        refine g_aload_n cx 2 rfl d_law_926 ?_
        refine g_aload_n cx 3 rfl d_law_927 ?_
        refine g_iload_n cx 0 rfl d_law_928 ?_
        refine g_iconst cx 1 (by decide) d_law_929 ?_
        refine g_iadd cx d_law_930 ?_
        refine g_toi 1 (by decide) ?_
        refine g_sld sx d_law_931 (g_i7 (g_L7 L hL zc24) (by unfold vp_in; decide)) ?_
        refine g_cViH cx [.int (xs (Int32.toNatClampNeg 1))] [] (c_X10_count l X adx (xs (Int32.toNatClampNeg 1))) ml_L_127 yV_X10_count d_law_932 (by unfold g_rr; decide) (by decide) 0 rfl rfl (wr := wM X adm fM0 r0) (wc := wX X adx fX0 r0) rfl rfl (Nat.le_of_ble_eq_true rfl) (fun r165 w166 h167 => ?_)
        subst h167
        refine g_aload_n cx 1 rfl d_law_935 ?_
        refine g_aload_n cx 3 rfl d_law_936 ?_
        refine g_iload_n cx 0 rfl d_law_937 ?_
        refine g_iconst cx 1 (by decide) d_law_938 ?_
        refine g_iadd cx d_law_939 ?_
        refine g_toi 1 (by decide) ?_
        refine g_sld sx d_law_940 (g_i7 (g_L7 L hL zc24) (by unfold vp_in; decide)) ?_
        refine g_cViH cx [.int (xs (Int32.toNatClampNeg 1))] [.int (S_count (xs (Int32.toNatClampNeg 1)))] (c_X11_count l X adm (xs (Int32.toNatClampNeg 1))) ml_L_130 yV_X11_count d_law_941 (by unfold g_rr; decide) (by decide) 0 rfl rfl (wr := w166) (wc := wM X adm fM0 r0) rfl rfl (Nat.le_of_ble_eq_true rfl) (fun r168 w169 h170 => ?_)
        subst h170
        refine g_icmp_eq_t cx 949 d_law_944 (by decide) rfl ?_
        refine g_iinc cx 7 [(3, .int 7), (2, .ref (adm 0)), (1, .ref (adx 0)), (0, .ref b)] 0 d_law_949 rfl (by decide) (by decide) rfl ?_
        refine g_goto cx 18 d_law_952 (by decide) ?_
        refine g_iload_n cx 0 rfl d_law_18 ?_
        refine g_aload_n cx 3 rfl d_law_19 ?_
        refine g_slen sx d_law_20 ?_
        refine g_bipush cx 7 (by decide) d_law_21 ?_
        refine g_isub cx d_law_23 ?_
        refine g_icmp_gt_t cx 955 d_law_24 (by decide) (g_L77 (g_L7 L hL zc24)) ?_
        refine g_iconst cx 1 (by decide) d_law_955 ?_
        exact hend d_law_956 (Nat.le_of_ble_eq_true rfl) (Nat.le_of_ble_eq_true rfl)
    · refine g_tableOut cx 949 d_law_33 zsw (by decide) ?_
      refine g_iinc cx 7 [(3, .int 7), (2, .ref (adm 0)), (1, .ref (adx 0)), (0, .ref b)] 0 d_law_949 rfl (by decide) (by decide) rfl ?_
      refine g_goto cx 18 d_law_952 (by decide) ?_
      refine g_iload_n cx 0 rfl d_law_18 ?_
      refine g_aload_n cx 3 rfl d_law_19 ?_
      refine g_slen sx d_law_20 ?_
      refine g_bipush cx 7 (by decide) d_law_21 ?_
      refine g_isub cx d_law_23 ?_
      refine g_icmp_gt_t cx 955 d_law_24 (by decide) (g_L77 (g_L7 L hL zc24)) ?_
      refine g_iconst cx 1 (by decide) d_law_955 ?_
      exact hend d_law_956 (Nat.le_of_ble_eq_true rfl) (Nat.le_of_ble_eq_true rfl)
set_option maxHeartbeats 4000000 in
set_option maxRecDepth 100000 in
/-- from the entry, for every script of at most 7 ints, the law comes to its end with true -/
theorem whole_start {p : Program} {e : Env} {s : State} {m : MethodId} {below : List Frame} {meth : Method} {c : Code} (l : Launch) (hflags : l.flags = flags0) {b L : Nat} {xs : Nat → Int32} (hL : L ≤ 7) (C0 : lw_At p s m meth c b L xs) : W p l e room_1 s m #[Value.ref b] below meth c s.heap [] 0 0 (lw_Z below #[Value.ref b] s) (entryFrame m ([Value.ref b] : List Value).toArray 4) := by
  obtain ⟨hx, hb, hr, hml, hown, hts0, hX, hbl, hlocks, hgv⟩ := id C0
  have hts : ∀ w ∈ gT, w.before #[Value.ref b] s = true := fun w h => hts0 w (gT_in w h)
  have h0 := u_known (C := RX0) (T := TX0) (N := 15) hts cl_X0.2.1 (hts _ cl_X0.2.2.2.2.1)
  have h1 := u_known (C := RX1) (T := TX1) (N := 4) hts cl_X1.2.1 (hts _ cl_X1.2.2.2.2.1)
  have h2 := u_known (C := RX2) (T := TX2) (N := 9) hts cl_X2.2.1 (hts _ cl_X2.2.2.2.2.1)
  have h3 := u_known (C := RX3) (T := TX3) (N := 5) hts cl_X3.2.1 (hts _ cl_X3.2.2.2.2.1)
  have h4 := u_known (C := RX4) (T := TX4) (N := 11) hts cl_X4.2.1 (hts _ cl_X4.2.2.2.2.1)
  have h5 := u_known (C := RX5) (T := TX5) (N := 2) hts cl_X5.2.1 (hts _ cl_X5.2.2.2.2.1)
  have h6 := u_known (C := RX6) (T := TX6) (N := 4) hts cl_X6.2.1 (hts _ cl_X6.2.2.2.2.1)
  have h7 := u_known (C := RX7) (T := TX7) (N := 12) hts cl_X7.2.1 (hts _ cl_X7.2.2.2.2.1)
  have h8 := u_known (C := RX8) (T := TX8) (N := 6) hts cl_X8.2.1 (hts _ cl_X8.2.2.2.2.1)
  have h9 := u_known (C := RX9) (T := TX9) (N := 2) hts cl_X9.2.1 (hts _ cl_X9.2.2.2.2.1)
  have h10 := u_known (C := RX10) (T := TX10) (N := 13) hts cl_X10.2.1 (hts _ cl_X10.2.2.2.2.1)
  have h11 := u_known (C := RX11) (T := TX11) (N := 91) hts cl_X11.2.1 (hts _ cl_X11.2.2.2.2.1)
  have hex : ∀ k : Nat, ∃ (cC : ClassId) (iS : Nat → Nat), ∀ q, vwCl[k]? = some q → u_Kn s q.1 q.2.1 q.2.2 cC iS := by
    intro k
    match k with
    | 0 => obtain ⟨c0, i0, hk⟩ := h0; exact ⟨c0, i0, fun q hq => by cases hq; exact hk⟩
    | 1 => obtain ⟨c0, i0, hk⟩ := h1; exact ⟨c0, i0, fun q hq => by cases hq; exact hk⟩
    | 2 => obtain ⟨c0, i0, hk⟩ := h2; exact ⟨c0, i0, fun q hq => by cases hq; exact hk⟩
    | 3 => obtain ⟨c0, i0, hk⟩ := h3; exact ⟨c0, i0, fun q hq => by cases hq; exact hk⟩
    | 4 => obtain ⟨c0, i0, hk⟩ := h4; exact ⟨c0, i0, fun q hq => by cases hq; exact hk⟩
    | 5 => obtain ⟨c0, i0, hk⟩ := h5; exact ⟨c0, i0, fun q hq => by cases hq; exact hk⟩
    | 6 => obtain ⟨c0, i0, hk⟩ := h6; exact ⟨c0, i0, fun q hq => by cases hq; exact hk⟩
    | 7 => obtain ⟨c0, i0, hk⟩ := h7; exact ⟨c0, i0, fun q hq => by cases hq; exact hk⟩
    | 8 => obtain ⟨c0, i0, hk⟩ := h8; exact ⟨c0, i0, fun q hq => by cases hq; exact hk⟩
    | 9 => obtain ⟨c0, i0, hk⟩ := h9; exact ⟨c0, i0, fun q hq => by cases hq; exact hk⟩
    | 10 => obtain ⟨c0, i0, hk⟩ := h10; exact ⟨c0, i0, fun q hq => by cases hq; exact hk⟩
    | 11 => obtain ⟨c0, i0, hk⟩ := h11; exact ⟨c0, i0, fun q hq => by cases hq; exact hk⟩
    | k + 12 => obtain ⟨c0, i0, hk⟩ := h0; exact ⟨c0, i0, fun q hq => by simp [vwCl] at hq⟩
  obtain ⟨cI, kI, qI, i1, i2, i3⟩ := g_arr (hts _ ka_int)
  obtain ⟨cB, kB, qB, j1, j2, j3⟩ := g_arr (hts _ ka_byte)
  let X : gX := ((fun k => Classical.choose (hex k), fun k => Classical.choose (Classical.choose_spec (hex k))), cI, cB)
  have hK : g_K X s := by
    refine ⟨fun k q hq => Classical.choose_spec (Classical.choose_spec (hex k)) q hq, fun k q hq => ?_⟩
    match k, hq with
    | 0, hq => cases hq; exact ⟨fun n z => ⟨fun k h => (by cases h), kI, i2, qI, i3⟩, i1⟩
    | 1, hq => cases hq; exact ⟨fun n z => ⟨fun k h => (by cases h), kB, j2, qB, j3⟩, j1⟩
    | k + 2, hq => simp [g_ty] at hq
  have hN : g_nf s := by
    intro w hw hn
    have h1 := hts0 w hw
    cases w <;> first | exact Bool.noConfusion hn | exact va_Nw.of rfl h1
  let E : gE := ((fun H locs k n g => W p l e room_1 s m #[Value.ref b] below meth c H locs k n (lw_Z below #[Value.ref b] s) g), m, (fun q : Nat => s.heap.size ≤ q), s.heap)
  rw [lg_entry_eq]
  refine g_law (X := X) (E := E) (L := L) (xs := xs) hL ⟨p, e, s, #[Value.ref b], below, meth, c, _, rfl, hx, hb, hml, hown, hts, hK, hN, fun q h => h, fun h => h.elim⟩ ⟨p, e, s, #[Value.ref b], below, meth, c, _, rfl, hx, hb, hX, hbl, Nat.not_le.mpr hbl⟩ ?_ s.heap [] _ (fun k q h => by simp at h) ⟨fun i j p q h => by simp at h, fun k q h => by simp at h⟩ va_S.rf (lv_entry [.ref b] (Nat.le_of_ble_eq_true rfl))
  intro pc pc' k n ws lv hd hk hn H locs ls hP hD hS hl
  show W p l e room_1 s m #[Value.ref b] below meth c H locs k n _ _
  refine va_forget (fun q hq => hS.2.2 q hq) ?_
  refine W.widen hk hn ?_
  exact lw_ret hx hb hr hlocks hd.1
