/-! ===== the words that every method is given: the tables' good ones; nest words ride in the start ===== -/
def gT : List Cond := lw_tbl.filter goodWord
theorem g_w {w : Cond} (i : Nat) (h : lw_tbl[i]? = some w) (hg : goodWord w = true) : w ∈ gT := List.mem_filter.mpr ⟨List.mem_of_getElem? h, hg⟩
theorem gT_good : ∀ w ∈ gT, goodWord w = true := fun _ h => (List.mem_filter.mp h).2
theorem gT_in : ∀ w ∈ gT, w ∈ lw_tbl := fun _ h => (List.mem_filter.mp h).1
theorem g_good {ws : List Cond} (h : ∀ w ∈ ws, w ∈ gT) : GoodIn gT ws := fun w hw => ⟨h w hw, good_of_word (gT_good w (h w hw))⟩
theorem g_ps (ws : List Cond) (ps : List Nat) (h : ws = ps.filterMap (fun i => lw_tbl[i]?)) (hg : ws.all goodWord = true) : ∀ w ∈ ws, w ∈ gT := by
  intro w hw
  have h1 := List.all_eq_true.mp hg w hw
  rw [h] at hw
  obtain ⟨i, -, hi⟩ := List.mem_filterMap.mp hw
  exact List.mem_filter.mpr ⟨List.mem_of_getElem? hi, h1⟩
def g_nest : Cond → Bool
  | .fieldLinkNest .. => true
  | .methodLinkNest .. => true
  | _ => false
def g_nf (U : State) : Prop := ∀ w ∈ lw_tbl, g_nest w = true → va_Nw w U
theorem g_nf_warm {s U : State} (hW : s.WarmedH U.vm) (h : g_nf s) : g_nf U := by
  intro w hw hn
  have h1 := h w hw hn
  cases w <;> first | exact Bool.noConfusion hn | exact va_Nw.warmF hW h1 | exact va_Nw.warmM hW h1
theorem g_nf_vm {u U : State} (hv : u.vm = U.vm) (h : g_nf u) : g_nf U := by
  intro w hw hn
  have h1 := h w hw hn
  cases w <;> first | exact Bool.noConfusion hn | exact va_Nw.same rfl hv h1
abbrev gX : Type := (va_G × Nat × Nat × (Nat → Nat) × (Nat → Nat)) × ClassId × ClassId
/-- what lies in the heap from the start: the two tables, the two texts, that texts are compact -/
def g_least : List Int32 := [0, 1, 0, 0, 0, 0]
def g_most : List Int32 := [40, 40, 40, 40, 999, 99]
def g_len : List Nat := [6, 12]
def g_byt : List (List Int32) := [[97, 115, 104, 106, 98, 122], [116, 112, 114, 105, 107, 120, 102, 103, 119, 108, 117, 99]]
def g_gl (X : gX) (A : Nat → Prop) (U : State) (H : Heap) : Prop :=
  va_Z "ClothPull" "LAW_LEAST" "[I" (.ref X.1.2.1) A U H ∧ va_T .int X.1.2.1 6 (fun j => .int (g_least.getD j 0)) A U H ∧ va_Z "ClothPull" "LAW_MOST" "[I" (.ref X.1.2.2.1) A U H ∧ va_T .int X.1.2.2.1 6 (fun j => .int (g_most.getD j 0)) A U H ∧ va_Z "java/lang/String" "COMPACT_STRINGS" "Z" (.int 1) A U H ∧ vk_S 2 g_len g_byt X.1.2.2.2.1 X.1.2.2.2.2 A U H ∧ vk_R "ClothPull$LawReader" 50 "ashjbz" (X.1.2.2.2.1 0) U ∧ vk_R "ClothPull$LawReader" 109 "tprikxfgwluc" (X.1.2.2.2.1 1) U
theorem g_gl_call {X : gX} {A B : Nat → Prop} {s U : State} {H0 H : Heap} {locs : List Loc} (hG : g_gl X A s H0) (hS : va_S A H0 H locs) (hAB : ∀ q, B q → A q) (hU : U.heap = H) (hW : s.WarmedH U.vm) : g_gl X B U U.heap := by
  obtain ⟨h1, h2, h3, h4, h5, h6, h7, h8⟩ := hG
  rw [hU]
  exact ⟨va_Z.moved hW.alike ((h1.kept hS.2.1).narrow hAB), va_T.moved hW.alike ((h2.kept hS.2.1).narrow hAB), va_Z.moved hW.alike ((h3.kept hS.2.1).narrow hAB), va_T.moved hW.alike ((h4.kept hS.2.1).narrow hAB), va_Z.moved hW.alike ((h5.kept hS.2.1).narrow hAB), vk_S.moved hW.alike ((h6.kept hS.2.1).narrow hAB), vk_R.warm hW h7, vk_R.warm hW h8⟩
theorem g_gl_vm {X : gX} {A : Nat → Prop} {u U : State} {H : Heap} (hv : U.vm = u.vm) (h : g_gl X A u H) : g_gl X A U H := by
  obtain ⟨h1, h2, h3, h4, h5, h6, h7, h8⟩ := h
  have hA : u.vm.Alike U.vm := by rw [hv]; exact Vm.Alike.refl _
  exact ⟨va_Z.moved hA h1, va_T.moved hA h2, va_Z.moved hA h3, va_T.moved hA h4, va_Z.moved hA h5, vk_S.moved hA h6, vk_R.same hv h7, vk_R.same hv h8⟩
def g_ty (X : gX) : List (ClassId × FieldType) := [(X.2.1, .int), (X.2.2, .byte)]
def g_K (X : gX) (U : State) : Prop := va_K X.1.1 vwCl (g_ty X) U
def g_Pre (X : gX) (sz : Nat) (ws : va_W) (U : State) : Prop := U.heap.size = sz ∧ va_P X.1.1 vwCl ws U.heap ∧ g_K X U ∧ va_D (fun _ => True) ws ∧ g_nf U ∧ g_gl X (va_A ws sz) U U.heap
def g_B (X : gX) (A : Nat → Prop) (w : va_W) (t : State) : Prop := va_P X.1.1 vwCl w t.heap ∧ va_D A w
def g_rm (d mc ms : Nat) : Room := { frames := d, cells := mc, slots := ms, locals := 40 * d }
abbrev gW (y : MethodName) (b : ByteArray) (ml : Nat) (ret : Option FieldType) : List Cond := .code y b ml ret :: gT
/-- a contract of an int (boolean) method: from the world ws with the arguments av it answers r, and leaves w, with 'post r w' -/
def g_Ci (l : Launch) (X : gX) (y : MethodName) (b : ByteArray) (ml : Nat) (ret : Option FieldType) (d mc ms : Nat) (av : List Value) (ws : va_W) (post : Int32 → va_W → Prop) : Prop :=
  ∀ sz, Met l y (gW y b ml ret) (g_rm d mc ms) (va_Pc av (g_Pre X sz ws)) (va_Qi post (fun w t => g_B X (va_A ws sz) w t) (va_A ws sz)) mc ms (va_A ws sz)
def g_Cv (l : Launch) (X : gX) (y : MethodName) (b : ByteArray) (ml : Nat) (d mc ms : Nat) (av : List Value) (ws : va_W) (post : va_W → Prop) : Prop :=
  ∀ sz, Met l y (gW y b ml none) (g_rm d mc ms) (va_Pc av (g_Pre X sz ws)) (va_Qv post (fun w t => g_B X (va_A ws sz) w t) (va_A ws sz)) mc ms (va_A ws sz)
/-- where a method stands: its machine as one predicate, its number, its cells, the heap at its start -/
abbrev gE : Type := (Heap → List Loc → Nat → Nat → JFrame → Prop) × MethodId × (Nat → Prop) × Heap
/-- from the world ws, the locals lv, the stack st at pc the machine comes to the method's end -/
def G (X : gX) (E : gE) (nL k n : Nat) (ws : va_W) (lv : List (Nat × Value)) (pc : Nat) (st : List Value) : Prop :=
  ∀ (H : Heap) (locs : List Loc) (ls : Array Slot), va_P X.1.1 vwCl ws H → va_D E.2.2.1 ws → va_S E.2.2.1 E.2.2.2 H locs → lv_has ls nL lv → E.1 H locs k n (F0 E.2.1 pc ls st)
def g_cx (X : gX) (E : gE) (nL : Nat) (l : Launch) (R : Room) (cc : ByteArray) (own : String) (ini : Prop) : Prop :=
  ∃ (p : Program) (e : Env) (s : State) (args : Array Value) (below : List Frame) (meth : Method) (c : Code) (Q : State → Prop),
    E.1 = (fun H locs k n g => W p l e R s E.2.1 args below meth c H locs k n Q g) ∧ p.tables.exec = Jvm.exec ∧ c.code = cc ∧ c.maxLocals = nL ∧ s.vm.findClass own = some E.2.1.cls ∧ (∀ w ∈ gT, w.before args s = true) ∧ g_K X s ∧ g_nf s ∧ (s.heap = E.2.2.2 ∧ g_gl X E.2.2.1 s E.2.2.2) ∧ (∀ q, E.2.2.2.size ≤ q → E.2.2.1 q) ∧ (ini → meth.name = "<init>")
def g_dc (cc : ByteArray) (pc : Nat) (i : Instr) (n pc' : Nat) : Prop := decode cc pc = .ok (i, n) ∧ pc + n = pc'
def g_at (ws : va_W) (is : List Nat) : va_W := is.filterMap (fun i => ws[i]?)
theorem g_at_ok {ws : va_W} : ∀ {is : List Nat}, is.all (fun i => decide (i < ws.length)) = true → is.map (fun i => ws[i]?) = (g_at ws is).map some
  | [], _ => rfl
  | i :: is, h => by
    simp only [List.all_cons, Bool.and_eq_true, decide_eq_true_eq] at h
    have h1 : ws[i]? = some (ws[i]'h.1) := List.getElem?_eq_getElem h.1
    have ih := g_at_ok (ws := ws) (is := is) h.2
    simp only [g_at, List.map_cons, List.filterMap_cons, h1] at ih ⊢
    rw [ih]

section GL
variable {X : gX} {E : gE} {nL k n : Nat} {l : Launch} {R : Room} {cc : ByteArray} {own : String} {ini : Prop} {ws : va_W} {lv : List (Nat × Value)} {pc pc' : Nat} {st : List Value}

theorem g_iconst (cx : g_cx X E nL l R cc own ini) {z : Int} (v : Int32) (hv : Int32.ofInt z = v) (hd : g_dc cc pc (.iconst z) 1 pc') (kk : G X E nL k n ws lv pc' (.int v :: st)) : G X E nL k n ws lv pc (st) := by
  obtain ⟨p, e, s, args, below, meth, c, Q, hE, hx, hb, hml, hown, hts, hK, hN, hG, hA, hini⟩ := cx
  obtain ⟨hd, rfl⟩ := hd
  intro H locs ls hP hD hS hl0
  have k1 := kk H locs ls hP hD hS hl0
  rw [hE] at k1 ⊢
  exact lv_iconst hx hb hd hv k1
theorem g_bipush (cx : g_cx X E nL l R cc own ini) {z : Int} (v : Int32) (hv : (Int8.ofInt z).toInt32 = v) (hd : g_dc cc pc (.bipush z) 2 pc') (kk : G X E nL k n ws lv pc' (.int v :: st)) : G X E nL k n ws lv pc (st) := by
  obtain ⟨p, e, s, args, below, meth, c, Q, hE, hx, hb, hml, hown, hts, hK, hN, hG, hA, hini⟩ := cx
  obtain ⟨hd, rfl⟩ := hd
  intro H locs ls hP hD hS hl0
  have k1 := kk H locs ls hP hD hS hl0
  rw [hE] at k1 ⊢
  exact lv_bipush hx hb hd hv k1
theorem g_sipush (cx : g_cx X E nL l R cc own ini) {z : Int} (v : Int32) (hv : (Int16.ofInt z).toInt32 = v) (hd : g_dc cc pc (.sipush z) 3 pc') (kk : G X E nL k n ws lv pc' (.int v :: st)) : G X E nL k n ws lv pc (st) := by
  obtain ⟨p, e, s, args, below, meth, c, Q, hE, hx, hb, hml, hown, hts, hK, hN, hG, hA, hini⟩ := cx
  obtain ⟨hd, rfl⟩ := hd
  intro H locs ls hP hD hS hl0
  have k1 := kk H locs ls hP hD hS hl0
  rw [hE] at k1 ⊢
  exact lv_sipush hx hb hd hv k1
theorem g_ldc (cx : g_cx X E nL l R cc own ini) {i : Nat} (v : Int32) (hw : Cond.constant own i v ∈ gT) (hd : g_dc cc pc (.ldc i) 2 pc') (kk : G X E nL k n ws lv pc' (.int v :: st)) : G X E nL k n ws lv pc (st) := by
  obtain ⟨p, e, s, args, below, meth, c, Q, hE, hx, hb, hml, hown, hts, hK, hN, hG, hA, hini⟩ := cx
  obtain ⟨hd, rfl⟩ := hd
  intro H locs ls hP hD hS hl0
  have k1 := kk H locs ls hP hD hS hl0
  rw [hE] at k1 ⊢
  exact lv_ldc hx hb hown (hts _ hw) hd k1
theorem g_ldcw (cx : g_cx X E nL l R cc own ini) {i : Nat} (v : Int32) (hw : Cond.constant own i v ∈ gT) (hd : g_dc cc pc (.ldc_w i) 3 pc') (kk : G X E nL k n ws lv pc' (.int v :: st)) : G X E nL k n ws lv pc (st) := by
  obtain ⟨p, e, s, args, below, meth, c, Q, hE, hx, hb, hml, hown, hts, hK, hN, hG, hA, hini⟩ := cx
  obtain ⟨hd, rfl⟩ := hd
  intro H locs ls hP hD hS hl0
  have k1 := kk H locs ls hP hD hS hl0
  rw [hE] at k1 ⊢
  exact lv_ldcw hx hb hown (hts _ hw) hd k1
theorem g_ldc2 (cx : g_cx X E nL l R cc own ini) {i : Nat} (v : Int64) (hw : Cond.constantLong own i v ∈ gT) (hd : g_dc cc pc (.ldc2_w i) 3 pc') (kk : G X E nL k n ws lv pc' (.long v :: st)) : G X E nL k n ws lv pc (st) := by
  obtain ⟨p, e, s, args, below, meth, c, Q, hE, hx, hb, hml, hown, hts, hK, hN, hG, hA, hini⟩ := cx
  obtain ⟨hd, rfl⟩ := hd
  intro H locs ls hP hD hS hl0
  have k1 := kk H locs ls hP hD hS hl0
  rw [hE] at k1 ⊢
  exact lv_ldc2 hx hb hown (hts _ hw) hd k1
theorem g_iload_n (cx : g_cx X E nL l R cc own ini) (q : Nat) {i : Fin 4} {x : Int32} (hl : lv[q]? = some ((i : Nat), .int x)) (hd : g_dc cc pc (.iload_n i) 1 pc') (kk : G X E nL k n ws lv pc' (.int x :: st)) : G X E nL k n ws lv pc (st) := by
  obtain ⟨p, e, s, args, below, meth, c, Q, hE, hx, hb, hml, hown, hts, hK, hN, hG, hA, hini⟩ := cx
  obtain ⟨hd, rfl⟩ := hd
  intro H locs ls hP hD hS hl0
  have k1 := kk H locs ls hP hD hS hl0
  rw [hE] at k1 ⊢
  exact lv_iload_n hx hb hd rfl (lv_at hl0 q hl) k1
theorem g_iload (cx : g_cx X E nL l R cc own ini) (q : Nat) {i : Nat} {x : Int32} (hl : lv[q]? = some (i, .int x)) (hd : g_dc cc pc (.iload i) 2 pc') (kk : G X E nL k n ws lv pc' (.int x :: st)) : G X E nL k n ws lv pc (st) := by
  obtain ⟨p, e, s, args, below, meth, c, Q, hE, hx, hb, hml, hown, hts, hK, hN, hG, hA, hini⟩ := cx
  obtain ⟨hd, rfl⟩ := hd
  intro H locs ls hP hD hS hl0
  have k1 := kk H locs ls hP hD hS hl0
  rw [hE] at k1 ⊢
  exact lv_iload hx hb hd (lv_at hl0 q hl) k1
theorem g_lload_n (cx : g_cx X E nL l R cc own ini) (q : Nat) {i : Fin 4} {x : Int64} (hl : lv[q]? = some ((i : Nat), .long x)) (hd : g_dc cc pc (.lload_n i) 1 pc') (kk : G X E nL k n ws lv pc' (.long x :: st)) : G X E nL k n ws lv pc (st) := by
  obtain ⟨p, e, s, args, below, meth, c, Q, hE, hx, hb, hml, hown, hts, hK, hN, hG, hA, hini⟩ := cx
  obtain ⟨hd, rfl⟩ := hd
  intro H locs ls hP hD hS hl0
  have k1 := kk H locs ls hP hD hS hl0
  rw [hE] at k1 ⊢
  exact lv_lload_n hx hb hd rfl (lv_at hl0 q hl) k1
theorem g_lload (cx : g_cx X E nL l R cc own ini) (q : Nat) {i : Nat} {x : Int64} (hl : lv[q]? = some (i, .long x)) (hd : g_dc cc pc (.lload i) 2 pc') (kk : G X E nL k n ws lv pc' (.long x :: st)) : G X E nL k n ws lv pc (st) := by
  obtain ⟨p, e, s, args, below, meth, c, Q, hE, hx, hb, hml, hown, hts, hK, hN, hG, hA, hini⟩ := cx
  obtain ⟨hd, rfl⟩ := hd
  intro H locs ls hP hD hS hl0
  have k1 := kk H locs ls hP hD hS hl0
  rw [hE] at k1 ⊢
  exact lv_lload hx hb hd (lv_at hl0 q hl) k1
theorem g_aload_n (cx : g_cx X E nL l R cc own ini) (q : Nat) {i : Fin 4} {x : Nat} (hl : lv[q]? = some ((i : Nat), .ref x)) (hd : g_dc cc pc (.aload_n i) 1 pc') (kk : G X E nL k n ws lv pc' (.ref x :: st)) : G X E nL k n ws lv pc (st) := by
  obtain ⟨p, e, s, args, below, meth, c, Q, hE, hx, hb, hml, hown, hts, hK, hN, hG, hA, hini⟩ := cx
  obtain ⟨hd, rfl⟩ := hd
  intro H locs ls hP hD hS hl0
  have k1 := kk H locs ls hP hD hS hl0
  rw [hE] at k1 ⊢
  exact lv_aload_n hx hb hd rfl (lv_at hl0 q hl) k1
theorem g_aload (cx : g_cx X E nL l R cc own ini) (q : Nat) {i : Nat} {x : Nat} (hl : lv[q]? = some (i, .ref x)) (hd : g_dc cc pc (.aload i) 2 pc') (kk : G X E nL k n ws lv pc' (.ref x :: st)) : G X E nL k n ws lv pc (st) := by
  obtain ⟨p, e, s, args, below, meth, c, Q, hE, hx, hb, hml, hown, hts, hK, hN, hG, hA, hini⟩ := cx
  obtain ⟨hd, rfl⟩ := hd
  intro H locs ls hP hD hS hl0
  have k1 := kk H locs ls hP hD hS hl0
  rw [hE] at k1 ⊢
  exact lv_aload hx hb hd (lv_at hl0 q hl) k1
theorem g_istore_n (cx : g_cx X E nL l R cc own ini) (lv' : List (Nat × Value)) {i : Fin 4} {x : Int32} (hd : g_dc cc pc (.istore_n i) 1 pc') (hn : (i : Nat) < nL) (hl : ((i : Nat), Value.int x) :: lv.filter (fun q => !(q.1 == (i : Nat)) && !(q.1 + 1 == (i : Nat) && q.2.category == 2)) = lv') (kk : G X E nL k n ws lv' pc' st) : G X E nL k n ws lv pc (.int x :: st) := by
  obtain ⟨p, e, s, args, below, meth, c, Q, hE, hx, hb, hml, hown, hts, hK, hN, hG, hA, hini⟩ := cx
  obtain ⟨hd, rfl⟩ := hd
  intro H locs ls hP hD hS hl0
  rw [hE]
  refine lv_istore_n hx hb hd rfl hl0 hn hl (fun ls2 hl2 => ?_)
  have k1 := kk H locs ls2 hP hD hS hl2
  rw [hE] at k1
  exact k1
theorem g_istore (cx : g_cx X E nL l R cc own ini) (lv' : List (Nat × Value)) {i : Nat} {x : Int32} (hd : g_dc cc pc (.istore i) 2 pc') (hn : i < nL) (hl : (i, Value.int x) :: lv.filter (fun q => !(q.1 == i) && !(q.1 + 1 == i && q.2.category == 2)) = lv') (kk : G X E nL k n ws lv' pc' st) : G X E nL k n ws lv pc (.int x :: st) := by
  obtain ⟨p, e, s, args, below, meth, c, Q, hE, hx, hb, hml, hown, hts, hK, hN, hG, hA, hini⟩ := cx
  obtain ⟨hd, rfl⟩ := hd
  intro H locs ls hP hD hS hl0
  rw [hE]
  refine lv_istore hx hb hd hl0 hn hl (fun ls2 hl2 => ?_)
  have k1 := kk H locs ls2 hP hD hS hl2
  rw [hE] at k1
  exact k1
theorem g_astore_n (cx : g_cx X E nL l R cc own ini) (lv' : List (Nat × Value)) {i : Fin 4} {x : Nat} (hd : g_dc cc pc (.astore_n i) 1 pc') (hn : (i : Nat) < nL) (hl : ((i : Nat), Value.ref x) :: lv.filter (fun q => !(q.1 == (i : Nat)) && !(q.1 + 1 == (i : Nat) && q.2.category == 2)) = lv') (kk : G X E nL k n ws lv' pc' st) : G X E nL k n ws lv pc (.ref x :: st) := by
  obtain ⟨p, e, s, args, below, meth, c, Q, hE, hx, hb, hml, hown, hts, hK, hN, hG, hA, hini⟩ := cx
  obtain ⟨hd, rfl⟩ := hd
  intro H locs ls hP hD hS hl0
  rw [hE]
  refine lv_astore_n hx hb hd rfl hl0 hn hl (fun ls2 hl2 => ?_)
  have k1 := kk H locs ls2 hP hD hS hl2
  rw [hE] at k1
  exact k1
theorem g_astore (cx : g_cx X E nL l R cc own ini) (lv' : List (Nat × Value)) {i : Nat} {x : Nat} (hd : g_dc cc pc (.astore i) 2 pc') (hn : i < nL) (hl : (i, Value.ref x) :: lv.filter (fun q => !(q.1 == i) && !(q.1 + 1 == i && q.2.category == 2)) = lv') (kk : G X E nL k n ws lv' pc' st) : G X E nL k n ws lv pc (.ref x :: st) := by
  obtain ⟨p, e, s, args, below, meth, c, Q, hE, hx, hb, hml, hown, hts, hK, hN, hG, hA, hini⟩ := cx
  obtain ⟨hd, rfl⟩ := hd
  intro H locs ls hP hD hS hl0
  rw [hE]
  refine lv_astore hx hb hd hl0 hn hl (fun ls2 hl2 => ?_)
  have k1 := kk H locs ls2 hP hD hS hl2
  rw [hE] at k1
  exact k1
theorem g_lstore_n (cx : g_cx X E nL l R cc own ini) (lv' : List (Nat × Value)) {i : Fin 4} {x : Int64} (hd : g_dc cc pc (.lstore_n i) 1 pc') (hn : (i : Nat) + 1 < nL) (hl : ((i : Nat), Value.long x) :: lv.filter (fun q => !(q.1 == (i : Nat)) && (!(q.1 == (i : Nat) + 1) && !(q.1 + 1 == (i : Nat) && q.2.category == 2))) = lv') (kk : G X E nL k n ws lv' pc' st) : G X E nL k n ws lv pc (.long x :: st) := by
  obtain ⟨p, e, s, args, below, meth, c, Q, hE, hx, hb, hml, hown, hts, hK, hN, hG, hA, hini⟩ := cx
  obtain ⟨hd, rfl⟩ := hd
  intro H locs ls hP hD hS hl0
  rw [hE]
  refine lv_lstore_n hx hb hd rfl hl0 hn hl (fun ls2 hl2 => ?_)
  have k1 := kk H locs ls2 hP hD hS hl2
  rw [hE] at k1
  exact k1
theorem g_lstore (cx : g_cx X E nL l R cc own ini) (lv' : List (Nat × Value)) {i : Nat} {x : Int64} (hd : g_dc cc pc (.lstore i) 2 pc') (hn : i + 1 < nL) (hl : (i, Value.long x) :: lv.filter (fun q => !(q.1 == i) && (!(q.1 == i + 1) && !(q.1 + 1 == i && q.2.category == 2))) = lv') (kk : G X E nL k n ws lv' pc' st) : G X E nL k n ws lv pc (.long x :: st) := by
  obtain ⟨p, e, s, args, below, meth, c, Q, hE, hx, hb, hml, hown, hts, hK, hN, hG, hA, hini⟩ := cx
  obtain ⟨hd, rfl⟩ := hd
  intro H locs ls hP hD hS hl0
  rw [hE]
  refine lv_lstore hx hb hd hl0 hn hl (fun ls2 hl2 => ?_)
  have k1 := kk H locs ls2 hP hD hS hl2
  rw [hE] at k1
  exact k1
theorem g_iinc (cx : g_cx X E nL l R cc own ini) (v : Int32) (lv' : List (Nat × Value)) (q : Nat) {i : Nat} {z : Int} {x : Int32} (hd : g_dc cc pc (.iinc i z) 3 pc') (hk : lv[q]? = some (i, .int x)) (hv : x + Int32.ofInt z = v) (hn : i < nL) (hl : (i, Value.int v) :: lv.filter (fun q => !(q.1 == i) && !(q.1 + 1 == i && q.2.category == 2)) = lv') (kk : G X E nL k n ws lv' pc' st) : G X E nL k n ws lv pc st := by
  obtain ⟨p, e, s, args, below, meth, c, Q, hE, hx, hb, hml, hown, hts, hK, hN, hG, hA, hini⟩ := cx
  obtain ⟨hd, rfl⟩ := hd
  intro H locs ls hP hD hS hl0
  rw [hE]
  refine lv_iinc hx hb hd hl0 hk hv hn hl (fun ls2 hl2 => ?_)
  have k1 := kk H locs ls2 hP hD hS hl2
  rw [hE] at k1
  exact k1
theorem g_iadd (cx : g_cx X E nL l R cc own ini) {x y : Int32} (hd : g_dc cc pc (.iadd) 1 pc') (kk : G X E nL k n ws lv pc' (.int (x + y) :: st)) : G X E nL k n ws lv pc (.int y :: .int x :: st) := by
  obtain ⟨p, e, s, args, below, meth, c, Q, hE, hx, hb, hml, hown, hts, hK, hN, hG, hA, hini⟩ := cx
  obtain ⟨hd, rfl⟩ := hd
  intro H locs ls hP hD hS hl0
  have k1 := kk H locs ls hP hD hS hl0
  rw [hE] at k1 ⊢
  exact lv_iadd hx hb hd k1
theorem g_isub (cx : g_cx X E nL l R cc own ini) {x y : Int32} (hd : g_dc cc pc (.isub) 1 pc') (kk : G X E nL k n ws lv pc' (.int (x - y) :: st)) : G X E nL k n ws lv pc (.int y :: .int x :: st) := by
  obtain ⟨p, e, s, args, below, meth, c, Q, hE, hx, hb, hml, hown, hts, hK, hN, hG, hA, hini⟩ := cx
  obtain ⟨hd, rfl⟩ := hd
  intro H locs ls hP hD hS hl0
  have k1 := kk H locs ls hP hD hS hl0
  rw [hE] at k1 ⊢
  exact lv_isub hx hb hd k1
theorem g_imul (cx : g_cx X E nL l R cc own ini) {x y : Int32} (hd : g_dc cc pc (.imul) 1 pc') (kk : G X E nL k n ws lv pc' (.int (x * y) :: st)) : G X E nL k n ws lv pc (.int y :: .int x :: st) := by
  obtain ⟨p, e, s, args, below, meth, c, Q, hE, hx, hb, hml, hown, hts, hK, hN, hG, hA, hini⟩ := cx
  obtain ⟨hd, rfl⟩ := hd
  intro H locs ls hP hD hS hl0
  have k1 := kk H locs ls hP hD hS hl0
  rw [hE] at k1 ⊢
  exact lv_imul hx hb hd k1
theorem g_iand (cx : g_cx X E nL l R cc own ini) {x y : Int32} (hd : g_dc cc pc (.iand) 1 pc') (kk : G X E nL k n ws lv pc' (.int (x &&& y) :: st)) : G X E nL k n ws lv pc (.int y :: .int x :: st) := by
  obtain ⟨p, e, s, args, below, meth, c, Q, hE, hx, hb, hml, hown, hts, hK, hN, hG, hA, hini⟩ := cx
  obtain ⟨hd, rfl⟩ := hd
  intro H locs ls hP hD hS hl0
  have k1 := kk H locs ls hP hD hS hl0
  rw [hE] at k1 ⊢
  exact lv_iand hx hb hd k1
theorem g_ior (cx : g_cx X E nL l R cc own ini) {x y : Int32} (hd : g_dc cc pc (.ior) 1 pc') (kk : G X E nL k n ws lv pc' (.int (x ||| y) :: st)) : G X E nL k n ws lv pc (.int y :: .int x :: st) := by
  obtain ⟨p, e, s, args, below, meth, c, Q, hE, hx, hb, hml, hown, hts, hK, hN, hG, hA, hini⟩ := cx
  obtain ⟨hd, rfl⟩ := hd
  intro H locs ls hP hD hS hl0
  have k1 := kk H locs ls hP hD hS hl0
  rw [hE] at k1 ⊢
  exact lv_ior hx hb hd k1
theorem g_ixor (cx : g_cx X E nL l R cc own ini) {x y : Int32} (hd : g_dc cc pc (.ixor) 1 pc') (kk : G X E nL k n ws lv pc' (.int (x ^^^ y) :: st)) : G X E nL k n ws lv pc (.int y :: .int x :: st) := by
  obtain ⟨p, e, s, args, below, meth, c, Q, hE, hx, hb, hml, hown, hts, hK, hN, hG, hA, hini⟩ := cx
  obtain ⟨hd, rfl⟩ := hd
  intro H locs ls hP hD hS hl0
  have k1 := kk H locs ls hP hD hS hl0
  rw [hE] at k1 ⊢
  exact lv_ixor hx hb hd k1
theorem g_ishl (cx : g_cx X E nL l R cc own ini) {x y : Int32} (hd : g_dc cc pc (.ishl) 1 pc') (kk : G X E nL k n ws lv pc' (.int (x <<< (y &&& 31)) :: st)) : G X E nL k n ws lv pc (.int y :: .int x :: st) := by
  obtain ⟨p, e, s, args, below, meth, c, Q, hE, hx, hb, hml, hown, hts, hK, hN, hG, hA, hini⟩ := cx
  obtain ⟨hd, rfl⟩ := hd
  intro H locs ls hP hD hS hl0
  have k1 := kk H locs ls hP hD hS hl0
  rw [hE] at k1 ⊢
  exact lv_ishl hx hb hd k1
theorem g_ishr (cx : g_cx X E nL l R cc own ini) {x y : Int32} (hd : g_dc cc pc (.ishr) 1 pc') (kk : G X E nL k n ws lv pc' (.int (x >>> (y &&& 31)) :: st)) : G X E nL k n ws lv pc (.int y :: .int x :: st) := by
  obtain ⟨p, e, s, args, below, meth, c, Q, hE, hx, hb, hml, hown, hts, hK, hN, hG, hA, hini⟩ := cx
  obtain ⟨hd, rfl⟩ := hd
  intro H locs ls hP hD hS hl0
  have k1 := kk H locs ls hP hD hS hl0
  rw [hE] at k1 ⊢
  exact lv_ishr hx hb hd k1
theorem g_idiv (cx : g_cx X E nL l R cc own ini) {x y : Int32} (hne : ¬ y = 0) (hd : g_dc cc pc (.idiv) 1 pc') (kk : G X E nL k n ws lv pc' (.int (x / y) :: st)) : G X E nL k n ws lv pc (.int y :: .int x :: st) := by
  obtain ⟨p, e, s, args, below, meth, c, Q, hE, hx, hb, hml, hown, hts, hK, hN, hG, hA, hini⟩ := cx
  obtain ⟨hd, rfl⟩ := hd
  intro H locs ls hP hD hS hl0
  have k1 := kk H locs ls hP hD hS hl0
  rw [hE] at k1 ⊢
  exact lv_idiv hx hb hd hne k1
theorem g_irem (cx : g_cx X E nL l R cc own ini) {x y : Int32} (hne : ¬ y = 0) (hd : g_dc cc pc (.irem) 1 pc') (kk : G X E nL k n ws lv pc' (.int (x - x / y * y) :: st)) : G X E nL k n ws lv pc (.int y :: .int x :: st) := by
  obtain ⟨p, e, s, args, below, meth, c, Q, hE, hx, hb, hml, hown, hts, hK, hN, hG, hA, hini⟩ := cx
  obtain ⟨hd, rfl⟩ := hd
  intro H locs ls hP hD hS hl0
  have k1 := kk H locs ls hP hD hS hl0
  rw [hE] at k1 ⊢
  exact lv_irem hx hb hd hne k1
theorem g_ldiv (cx : g_cx X E nL l R cc own ini) {x y : Int64} (hne : ¬ y = 0) (hd : g_dc cc pc (.ldiv) 1 pc') (kk : G X E nL k n ws lv pc' (.long (x / y) :: st)) : G X E nL k n ws lv pc (.long y :: .long x :: st) := by
  obtain ⟨p, e, s, args, below, meth, c, Q, hE, hx, hb, hml, hown, hts, hK, hN, hG, hA, hini⟩ := cx
  obtain ⟨hd, rfl⟩ := hd
  intro H locs ls hP hD hS hl0
  have k1 := kk H locs ls hP hD hS hl0
  rw [hE] at k1 ⊢
  exact lv_ldiv hx hb hd hne k1
theorem g_lmul (cx : g_cx X E nL l R cc own ini) {x y : Int64} (hd : g_dc cc pc (.lmul) 1 pc') (kk : G X E nL k n ws lv pc' (.long (x * y) :: st)) : G X E nL k n ws lv pc (.long y :: .long x :: st) := by
  obtain ⟨p, e, s, args, below, meth, c, Q, hE, hx, hb, hml, hown, hts, hK, hN, hG, hA, hini⟩ := cx
  obtain ⟨hd, rfl⟩ := hd
  intro H locs ls hP hD hS hl0
  have k1 := kk H locs ls hP hD hS hl0
  rw [hE] at k1 ⊢
  exact lv_lmul hx hb hd k1
theorem g_lcmp (cx : g_cx X E nL l R cc own ini) {x y : Int64} (hd : g_dc cc pc (.lcmp) 1 pc') (kk : G X E nL k n ws lv pc' (.int (lg_cmp x y) :: st)) : G X E nL k n ws lv pc (.long y :: .long x :: st) := by
  obtain ⟨p, e, s, args, below, meth, c, Q, hE, hx, hb, hml, hown, hts, hK, hN, hG, hA, hini⟩ := cx
  obtain ⟨hd, rfl⟩ := hd
  intro H locs ls hP hD hS hl0
  have k1 := kk H locs ls hP hD hS hl0
  rw [hE] at k1 ⊢
  exact W.lcmp hx hb hd k1
theorem g_ineg (cx : g_cx X E nL l R cc own ini) {x : Int32} (hd : g_dc cc pc (.ineg) 1 pc') (kk : G X E nL k n ws lv pc' (.int (-x) :: st)) : G X E nL k n ws lv pc (.int x :: st) := by
  obtain ⟨p, e, s, args, below, meth, c, Q, hE, hx, hb, hml, hown, hts, hK, hN, hG, hA, hini⟩ := cx
  obtain ⟨hd, rfl⟩ := hd
  intro H locs ls hP hD hS hl0
  have k1 := kk H locs ls hP hD hS hl0
  rw [hE] at k1 ⊢
  exact lv_ineg hx hb hd k1
theorem g_i2l (cx : g_cx X E nL l R cc own ini) {x : Int32} (hd : g_dc cc pc (.i2l) 1 pc') (kk : G X E nL k n ws lv pc' (.long x.toInt64 :: st)) : G X E nL k n ws lv pc (.int x :: st) := by
  obtain ⟨p, e, s, args, below, meth, c, Q, hE, hx, hb, hml, hown, hts, hK, hN, hG, hA, hini⟩ := cx
  obtain ⟨hd, rfl⟩ := hd
  intro H locs ls hP hD hS hl0
  have k1 := kk H locs ls hP hD hS hl0
  rw [hE] at k1 ⊢
  exact lv_i2l hx hb hd rfl k1
theorem g_i2b (cx : g_cx X E nL l R cc own ini) {x : Int32} (hd : g_dc cc pc (.i2b) 1 pc') (kk : G X E nL k n ws lv pc' (.int x.toInt8.toInt32 :: st)) : G X E nL k n ws lv pc (.int x :: st) := by
  obtain ⟨p, e, s, args, below, meth, c, Q, hE, hx, hb, hml, hown, hts, hK, hN, hG, hA, hini⟩ := cx
  obtain ⟨hd, rfl⟩ := hd
  intro H locs ls hP hD hS hl0
  have k1 := kk H locs ls hP hD hS hl0
  rw [hE] at k1 ⊢
  exact lv_i2b hx hb hd rfl k1
theorem g_i2c (cx : g_cx X E nL l R cc own ini) {x : Int32} (hd : g_dc cc pc (.i2c) 1 pc') (kk : G X E nL k n ws lv pc' (.int (x.toUInt32 % 65536).toInt32 :: st)) : G X E nL k n ws lv pc (.int x :: st) := by
  obtain ⟨p, e, s, args, below, meth, c, Q, hE, hx, hb, hml, hown, hts, hK, hN, hG, hA, hini⟩ := cx
  obtain ⟨hd, rfl⟩ := hd
  intro H locs ls hP hD hS hl0
  have k1 := kk H locs ls hP hD hS hl0
  rw [hE] at k1 ⊢
  exact lv_i2c hx hb hd rfl k1
theorem g_iushr (cx : g_cx X E nL l R cc own ini) {x y : Int32} (hd : g_dc cc pc (.iushr) 1 pc') (kk : G X E nL k n ws lv pc' (.int (x.toUInt32 >>> (y.toUInt32 &&& Int32.toUInt32 31)).toInt32 :: st)) : G X E nL k n ws lv pc (.int y :: .int x :: st) := by
  obtain ⟨p, e, s, args, below, meth, c, Q, hE, hx, hb, hml, hown, hts, hK, hN, hG, hA, hini⟩ := cx
  obtain ⟨hd, rfl⟩ := hd
  intro H locs ls hP hD hS hl0
  have k1 := kk H locs ls hP hD hS hl0
  rw [hE] at k1 ⊢
  exact lv_iushr hx hb hd rfl k1
theorem g_dup (cx : g_cx X E nL l R cc own ini) {va : Value} (hva : va.category = 1) (hd : g_dc cc pc (.dup) 1 pc') (kk : G X E nL k n ws lv pc' (va :: va :: st)) : G X E nL k n ws lv pc (va :: st) := by
  obtain ⟨p, e, s, args, below, meth, c, Q, hE, hx, hb, hml, hown, hts, hK, hN, hG, hA, hini⟩ := cx
  obtain ⟨hd, rfl⟩ := hd
  intro H locs ls hP hD hS hl0
  have k1 := kk H locs ls hP hD hS hl0
  rw [hE] at k1 ⊢
  exact lv_dup hx hb hd hva k1
theorem g_pop (cx : g_cx X E nL l R cc own ini) {va : Value} (hva : va.category = 1) (hd : g_dc cc pc (.pop) 1 pc') (kk : G X E nL k n ws lv pc' (st)) : G X E nL k n ws lv pc (va :: st) := by
  obtain ⟨p, e, s, args, below, meth, c, Q, hE, hx, hb, hml, hown, hts, hK, hN, hG, hA, hini⟩ := cx
  obtain ⟨hd, rfl⟩ := hd
  intro H locs ls hP hD hS hl0
  have k1 := kk H locs ls hP hD hS hl0
  rw [hE] at k1 ⊢
  exact lv_pop hx hb hd hva k1
theorem g_dup2 (cx : g_cx X E nL l R cc own ini) {va vb : Value} (hva : va.category = 1) (hvb : vb.category = 1) (hd : g_dc cc pc (.dup2) 1 pc') (kk : G X E nL k n ws lv pc' (va :: vb :: va :: vb :: st)) : G X E nL k n ws lv pc (va :: vb :: st) := by
  obtain ⟨p, e, s, args, below, meth, c, Q, hE, hx, hb, hml, hown, hts, hK, hN, hG, hA, hini⟩ := cx
  obtain ⟨hd, rfl⟩ := hd
  intro H locs ls hP hD hS hl0
  have k1 := kk H locs ls hP hD hS hl0
  rw [hE] at k1 ⊢
  exact lv_dup2_11 hx hb hd hva hvb k1
theorem g_if_eq (cx : g_cx X E nL l R cc own ini) {x : Int32} {off : Int} (tgt : Nat) (hd : g_dc cc pc (.ifCond .eq off) 3 pc') (ht : (pc : Int) + off = (tgt : Int)) (kt : x = 0 → G X E nL k n ws lv tgt st) (kf : ¬ x = 0 → G X E nL k n ws lv pc' st) : G X E nL k n ws lv pc (.int x :: st) := by
  obtain ⟨p, e, s, args, below, meth, c, Q, hE, hx, hb, hml, hown, hts, hK, hN, hG, hA, hini⟩ := cx
  obtain ⟨hd, rfl⟩ := hd
  intro H locs ls hP hD hS hl0
  rw [hE]
  refine lv_if_eq hx hb hd ht (fun h => ?_) (fun h => ?_)
  · have k1 := kt h H locs ls hP hD hS hl0
    rw [hE] at k1
    exact k1
  · have k1 := kf h H locs ls hP hD hS hl0
    rw [hE] at k1
    exact k1
theorem g_if_eq_t (cx : g_cx X E nL l R cc own ini) {x : Int32} {off : Int} (tgt : Nat) (hd : g_dc cc pc (.ifCond .eq off) 3 pc') (ht : (pc : Int) + off = (tgt : Int)) (h : x = 0) (kk : G X E nL k n ws lv tgt st) : G X E nL k n ws lv pc (.int x :: st) := g_if_eq cx tgt hd ht (fun _ => kk) (fun q => absurd h q)
theorem g_if_eq_f (cx : g_cx X E nL l R cc own ini) {x : Int32} {off : Int} (tgt : Nat) (hd : g_dc cc pc (.ifCond .eq off) 3 pc') (ht : (pc : Int) + off = (tgt : Int)) (h : ¬ x = 0) (kk : G X E nL k n ws lv pc' st) : G X E nL k n ws lv pc (.int x :: st) := g_if_eq cx tgt hd ht (fun q => absurd q h) (fun _ => kk)
theorem g_icmp_eq (cx : g_cx X E nL l R cc own ini) {x y : Int32} {off : Int} (tgt : Nat) (hd : g_dc cc pc (.if_icmp .eq off) 3 pc') (ht : (pc : Int) + off = (tgt : Int)) (kt : x = y → G X E nL k n ws lv tgt st) (kf : ¬ x = y → G X E nL k n ws lv pc' st) : G X E nL k n ws lv pc (.int y :: .int x :: st) := by
  obtain ⟨p, e, s, args, below, meth, c, Q, hE, hx, hb, hml, hown, hts, hK, hN, hG, hA, hini⟩ := cx
  obtain ⟨hd, rfl⟩ := hd
  intro H locs ls hP hD hS hl0
  rw [hE]
  refine lv_icmp_eq hx hb hd ht (fun h => ?_) (fun h => ?_)
  · have k1 := kt h H locs ls hP hD hS hl0
    rw [hE] at k1
    exact k1
  · have k1 := kf h H locs ls hP hD hS hl0
    rw [hE] at k1
    exact k1
theorem g_icmp_eq_t (cx : g_cx X E nL l R cc own ini) {x y : Int32} {off : Int} (tgt : Nat) (hd : g_dc cc pc (.if_icmp .eq off) 3 pc') (ht : (pc : Int) + off = (tgt : Int)) (h : x = y) (kk : G X E nL k n ws lv tgt st) : G X E nL k n ws lv pc (.int y :: .int x :: st) := g_icmp_eq cx tgt hd ht (fun _ => kk) (fun q => absurd h q)
theorem g_icmp_eq_f (cx : g_cx X E nL l R cc own ini) {x y : Int32} {off : Int} (tgt : Nat) (hd : g_dc cc pc (.if_icmp .eq off) 3 pc') (ht : (pc : Int) + off = (tgt : Int)) (h : ¬ x = y) (kk : G X E nL k n ws lv pc' st) : G X E nL k n ws lv pc (.int y :: .int x :: st) := g_icmp_eq cx tgt hd ht (fun q => absurd q h) (fun _ => kk)
theorem g_if_ne (cx : g_cx X E nL l R cc own ini) {x : Int32} {off : Int} (tgt : Nat) (hd : g_dc cc pc (.ifCond .ne off) 3 pc') (ht : (pc : Int) + off = (tgt : Int)) (kt : ¬ x = 0 → G X E nL k n ws lv tgt st) (kf : x = 0 → G X E nL k n ws lv pc' st) : G X E nL k n ws lv pc (.int x :: st) := by
  obtain ⟨p, e, s, args, below, meth, c, Q, hE, hx, hb, hml, hown, hts, hK, hN, hG, hA, hini⟩ := cx
  obtain ⟨hd, rfl⟩ := hd
  intro H locs ls hP hD hS hl0
  rw [hE]
  refine lv_if_ne hx hb hd ht (fun h => ?_) (fun h => ?_)
  · have k1 := kt h H locs ls hP hD hS hl0
    rw [hE] at k1
    exact k1
  · have k1 := kf h H locs ls hP hD hS hl0
    rw [hE] at k1
    exact k1
theorem g_if_ne_t (cx : g_cx X E nL l R cc own ini) {x : Int32} {off : Int} (tgt : Nat) (hd : g_dc cc pc (.ifCond .ne off) 3 pc') (ht : (pc : Int) + off = (tgt : Int)) (h : ¬ x = 0) (kk : G X E nL k n ws lv tgt st) : G X E nL k n ws lv pc (.int x :: st) := g_if_ne cx tgt hd ht (fun _ => kk) (fun q => absurd q h)
theorem g_if_ne_f (cx : g_cx X E nL l R cc own ini) {x : Int32} {off : Int} (tgt : Nat) (hd : g_dc cc pc (.ifCond .ne off) 3 pc') (ht : (pc : Int) + off = (tgt : Int)) (h : x = 0) (kk : G X E nL k n ws lv pc' st) : G X E nL k n ws lv pc (.int x :: st) := g_if_ne cx tgt hd ht (fun q => absurd h q) (fun _ => kk)
theorem g_icmp_ne (cx : g_cx X E nL l R cc own ini) {x y : Int32} {off : Int} (tgt : Nat) (hd : g_dc cc pc (.if_icmp .ne off) 3 pc') (ht : (pc : Int) + off = (tgt : Int)) (kt : ¬ x = y → G X E nL k n ws lv tgt st) (kf : x = y → G X E nL k n ws lv pc' st) : G X E nL k n ws lv pc (.int y :: .int x :: st) := by
  obtain ⟨p, e, s, args, below, meth, c, Q, hE, hx, hb, hml, hown, hts, hK, hN, hG, hA, hini⟩ := cx
  obtain ⟨hd, rfl⟩ := hd
  intro H locs ls hP hD hS hl0
  rw [hE]
  refine lv_icmp_ne hx hb hd ht (fun h => ?_) (fun h => ?_)
  · have k1 := kt h H locs ls hP hD hS hl0
    rw [hE] at k1
    exact k1
  · have k1 := kf h H locs ls hP hD hS hl0
    rw [hE] at k1
    exact k1
theorem g_icmp_ne_t (cx : g_cx X E nL l R cc own ini) {x y : Int32} {off : Int} (tgt : Nat) (hd : g_dc cc pc (.if_icmp .ne off) 3 pc') (ht : (pc : Int) + off = (tgt : Int)) (h : ¬ x = y) (kk : G X E nL k n ws lv tgt st) : G X E nL k n ws lv pc (.int y :: .int x :: st) := g_icmp_ne cx tgt hd ht (fun _ => kk) (fun q => absurd q h)
theorem g_icmp_ne_f (cx : g_cx X E nL l R cc own ini) {x y : Int32} {off : Int} (tgt : Nat) (hd : g_dc cc pc (.if_icmp .ne off) 3 pc') (ht : (pc : Int) + off = (tgt : Int)) (h : x = y) (kk : G X E nL k n ws lv pc' st) : G X E nL k n ws lv pc (.int y :: .int x :: st) := g_icmp_ne cx tgt hd ht (fun q => absurd h q) (fun _ => kk)
theorem g_if_lt (cx : g_cx X E nL l R cc own ini) {x : Int32} {off : Int} (tgt : Nat) (hd : g_dc cc pc (.ifCond .lt off) 3 pc') (ht : (pc : Int) + off = (tgt : Int)) (kt : x < 0 → G X E nL k n ws lv tgt st) (kf : ¬ x < 0 → G X E nL k n ws lv pc' st) : G X E nL k n ws lv pc (.int x :: st) := by
  obtain ⟨p, e, s, args, below, meth, c, Q, hE, hx, hb, hml, hown, hts, hK, hN, hG, hA, hini⟩ := cx
  obtain ⟨hd, rfl⟩ := hd
  intro H locs ls hP hD hS hl0
  rw [hE]
  refine lv_if_lt hx hb hd ht (fun h => ?_) (fun h => ?_)
  · have k1 := kt h H locs ls hP hD hS hl0
    rw [hE] at k1
    exact k1
  · have k1 := kf h H locs ls hP hD hS hl0
    rw [hE] at k1
    exact k1
theorem g_if_lt_t (cx : g_cx X E nL l R cc own ini) {x : Int32} {off : Int} (tgt : Nat) (hd : g_dc cc pc (.ifCond .lt off) 3 pc') (ht : (pc : Int) + off = (tgt : Int)) (h : x < 0) (kk : G X E nL k n ws lv tgt st) : G X E nL k n ws lv pc (.int x :: st) := g_if_lt cx tgt hd ht (fun _ => kk) (fun q => absurd h q)
theorem g_if_lt_f (cx : g_cx X E nL l R cc own ini) {x : Int32} {off : Int} (tgt : Nat) (hd : g_dc cc pc (.ifCond .lt off) 3 pc') (ht : (pc : Int) + off = (tgt : Int)) (h : ¬ x < 0) (kk : G X E nL k n ws lv pc' st) : G X E nL k n ws lv pc (.int x :: st) := g_if_lt cx tgt hd ht (fun q => absurd q h) (fun _ => kk)
theorem g_icmp_lt (cx : g_cx X E nL l R cc own ini) {x y : Int32} {off : Int} (tgt : Nat) (hd : g_dc cc pc (.if_icmp .lt off) 3 pc') (ht : (pc : Int) + off = (tgt : Int)) (kt : x < y → G X E nL k n ws lv tgt st) (kf : ¬ x < y → G X E nL k n ws lv pc' st) : G X E nL k n ws lv pc (.int y :: .int x :: st) := by
  obtain ⟨p, e, s, args, below, meth, c, Q, hE, hx, hb, hml, hown, hts, hK, hN, hG, hA, hini⟩ := cx
  obtain ⟨hd, rfl⟩ := hd
  intro H locs ls hP hD hS hl0
  rw [hE]
  refine lv_icmp_lt hx hb hd ht (fun h => ?_) (fun h => ?_)
  · have k1 := kt h H locs ls hP hD hS hl0
    rw [hE] at k1
    exact k1
  · have k1 := kf h H locs ls hP hD hS hl0
    rw [hE] at k1
    exact k1
theorem g_icmp_lt_t (cx : g_cx X E nL l R cc own ini) {x y : Int32} {off : Int} (tgt : Nat) (hd : g_dc cc pc (.if_icmp .lt off) 3 pc') (ht : (pc : Int) + off = (tgt : Int)) (h : x < y) (kk : G X E nL k n ws lv tgt st) : G X E nL k n ws lv pc (.int y :: .int x :: st) := g_icmp_lt cx tgt hd ht (fun _ => kk) (fun q => absurd h q)
theorem g_icmp_lt_f (cx : g_cx X E nL l R cc own ini) {x y : Int32} {off : Int} (tgt : Nat) (hd : g_dc cc pc (.if_icmp .lt off) 3 pc') (ht : (pc : Int) + off = (tgt : Int)) (h : ¬ x < y) (kk : G X E nL k n ws lv pc' st) : G X E nL k n ws lv pc (.int y :: .int x :: st) := g_icmp_lt cx tgt hd ht (fun q => absurd q h) (fun _ => kk)
theorem g_if_ge (cx : g_cx X E nL l R cc own ini) {x : Int32} {off : Int} (tgt : Nat) (hd : g_dc cc pc (.ifCond .ge off) 3 pc') (ht : (pc : Int) + off = (tgt : Int)) (kt : 0 ≤ x → G X E nL k n ws lv tgt st) (kf : ¬ 0 ≤ x → G X E nL k n ws lv pc' st) : G X E nL k n ws lv pc (.int x :: st) := by
  obtain ⟨p, e, s, args, below, meth, c, Q, hE, hx, hb, hml, hown, hts, hK, hN, hG, hA, hini⟩ := cx
  obtain ⟨hd, rfl⟩ := hd
  intro H locs ls hP hD hS hl0
  rw [hE]
  refine lv_if_ge hx hb hd ht (fun h => ?_) (fun h => ?_)
  · have k1 := kt h H locs ls hP hD hS hl0
    rw [hE] at k1
    exact k1
  · have k1 := kf h H locs ls hP hD hS hl0
    rw [hE] at k1
    exact k1
theorem g_if_ge_t (cx : g_cx X E nL l R cc own ini) {x : Int32} {off : Int} (tgt : Nat) (hd : g_dc cc pc (.ifCond .ge off) 3 pc') (ht : (pc : Int) + off = (tgt : Int)) (h : 0 ≤ x) (kk : G X E nL k n ws lv tgt st) : G X E nL k n ws lv pc (.int x :: st) := g_if_ge cx tgt hd ht (fun _ => kk) (fun q => absurd h q)
theorem g_if_ge_f (cx : g_cx X E nL l R cc own ini) {x : Int32} {off : Int} (tgt : Nat) (hd : g_dc cc pc (.ifCond .ge off) 3 pc') (ht : (pc : Int) + off = (tgt : Int)) (h : ¬ 0 ≤ x) (kk : G X E nL k n ws lv pc' st) : G X E nL k n ws lv pc (.int x :: st) := g_if_ge cx tgt hd ht (fun q => absurd q h) (fun _ => kk)
theorem g_icmp_ge (cx : g_cx X E nL l R cc own ini) {x y : Int32} {off : Int} (tgt : Nat) (hd : g_dc cc pc (.if_icmp .ge off) 3 pc') (ht : (pc : Int) + off = (tgt : Int)) (kt : y ≤ x → G X E nL k n ws lv tgt st) (kf : ¬ y ≤ x → G X E nL k n ws lv pc' st) : G X E nL k n ws lv pc (.int y :: .int x :: st) := by
  obtain ⟨p, e, s, args, below, meth, c, Q, hE, hx, hb, hml, hown, hts, hK, hN, hG, hA, hini⟩ := cx
  obtain ⟨hd, rfl⟩ := hd
  intro H locs ls hP hD hS hl0
  rw [hE]
  refine lv_icmp_ge hx hb hd ht (fun h => ?_) (fun h => ?_)
  · have k1 := kt h H locs ls hP hD hS hl0
    rw [hE] at k1
    exact k1
  · have k1 := kf h H locs ls hP hD hS hl0
    rw [hE] at k1
    exact k1
theorem g_icmp_ge_t (cx : g_cx X E nL l R cc own ini) {x y : Int32} {off : Int} (tgt : Nat) (hd : g_dc cc pc (.if_icmp .ge off) 3 pc') (ht : (pc : Int) + off = (tgt : Int)) (h : y ≤ x) (kk : G X E nL k n ws lv tgt st) : G X E nL k n ws lv pc (.int y :: .int x :: st) := g_icmp_ge cx tgt hd ht (fun _ => kk) (fun q => absurd h q)
theorem g_icmp_ge_f (cx : g_cx X E nL l R cc own ini) {x y : Int32} {off : Int} (tgt : Nat) (hd : g_dc cc pc (.if_icmp .ge off) 3 pc') (ht : (pc : Int) + off = (tgt : Int)) (h : ¬ y ≤ x) (kk : G X E nL k n ws lv pc' st) : G X E nL k n ws lv pc (.int y :: .int x :: st) := g_icmp_ge cx tgt hd ht (fun q => absurd q h) (fun _ => kk)
theorem g_if_gt (cx : g_cx X E nL l R cc own ini) {x : Int32} {off : Int} (tgt : Nat) (hd : g_dc cc pc (.ifCond .gt off) 3 pc') (ht : (pc : Int) + off = (tgt : Int)) (kt : 0 < x → G X E nL k n ws lv tgt st) (kf : ¬ 0 < x → G X E nL k n ws lv pc' st) : G X E nL k n ws lv pc (.int x :: st) := by
  obtain ⟨p, e, s, args, below, meth, c, Q, hE, hx, hb, hml, hown, hts, hK, hN, hG, hA, hini⟩ := cx
  obtain ⟨hd, rfl⟩ := hd
  intro H locs ls hP hD hS hl0
  rw [hE]
  refine lv_if_gt hx hb hd ht (fun h => ?_) (fun h => ?_)
  · have k1 := kt h H locs ls hP hD hS hl0
    rw [hE] at k1
    exact k1
  · have k1 := kf h H locs ls hP hD hS hl0
    rw [hE] at k1
    exact k1
theorem g_if_gt_t (cx : g_cx X E nL l R cc own ini) {x : Int32} {off : Int} (tgt : Nat) (hd : g_dc cc pc (.ifCond .gt off) 3 pc') (ht : (pc : Int) + off = (tgt : Int)) (h : 0 < x) (kk : G X E nL k n ws lv tgt st) : G X E nL k n ws lv pc (.int x :: st) := g_if_gt cx tgt hd ht (fun _ => kk) (fun q => absurd h q)
theorem g_if_gt_f (cx : g_cx X E nL l R cc own ini) {x : Int32} {off : Int} (tgt : Nat) (hd : g_dc cc pc (.ifCond .gt off) 3 pc') (ht : (pc : Int) + off = (tgt : Int)) (h : ¬ 0 < x) (kk : G X E nL k n ws lv pc' st) : G X E nL k n ws lv pc (.int x :: st) := g_if_gt cx tgt hd ht (fun q => absurd q h) (fun _ => kk)
theorem g_icmp_gt (cx : g_cx X E nL l R cc own ini) {x y : Int32} {off : Int} (tgt : Nat) (hd : g_dc cc pc (.if_icmp .gt off) 3 pc') (ht : (pc : Int) + off = (tgt : Int)) (kt : y < x → G X E nL k n ws lv tgt st) (kf : ¬ y < x → G X E nL k n ws lv pc' st) : G X E nL k n ws lv pc (.int y :: .int x :: st) := by
  obtain ⟨p, e, s, args, below, meth, c, Q, hE, hx, hb, hml, hown, hts, hK, hN, hG, hA, hini⟩ := cx
  obtain ⟨hd, rfl⟩ := hd
  intro H locs ls hP hD hS hl0
  rw [hE]
  refine lv_icmp_gt hx hb hd ht (fun h => ?_) (fun h => ?_)
  · have k1 := kt h H locs ls hP hD hS hl0
    rw [hE] at k1
    exact k1
  · have k1 := kf h H locs ls hP hD hS hl0
    rw [hE] at k1
    exact k1
theorem g_icmp_gt_t (cx : g_cx X E nL l R cc own ini) {x y : Int32} {off : Int} (tgt : Nat) (hd : g_dc cc pc (.if_icmp .gt off) 3 pc') (ht : (pc : Int) + off = (tgt : Int)) (h : y < x) (kk : G X E nL k n ws lv tgt st) : G X E nL k n ws lv pc (.int y :: .int x :: st) := g_icmp_gt cx tgt hd ht (fun _ => kk) (fun q => absurd h q)
theorem g_icmp_gt_f (cx : g_cx X E nL l R cc own ini) {x y : Int32} {off : Int} (tgt : Nat) (hd : g_dc cc pc (.if_icmp .gt off) 3 pc') (ht : (pc : Int) + off = (tgt : Int)) (h : ¬ y < x) (kk : G X E nL k n ws lv pc' st) : G X E nL k n ws lv pc (.int y :: .int x :: st) := g_icmp_gt cx tgt hd ht (fun q => absurd q h) (fun _ => kk)
theorem g_if_le (cx : g_cx X E nL l R cc own ini) {x : Int32} {off : Int} (tgt : Nat) (hd : g_dc cc pc (.ifCond .le off) 3 pc') (ht : (pc : Int) + off = (tgt : Int)) (kt : x ≤ 0 → G X E nL k n ws lv tgt st) (kf : ¬ x ≤ 0 → G X E nL k n ws lv pc' st) : G X E nL k n ws lv pc (.int x :: st) := by
  obtain ⟨p, e, s, args, below, meth, c, Q, hE, hx, hb, hml, hown, hts, hK, hN, hG, hA, hini⟩ := cx
  obtain ⟨hd, rfl⟩ := hd
  intro H locs ls hP hD hS hl0
  rw [hE]
  refine lv_if_le hx hb hd ht (fun h => ?_) (fun h => ?_)
  · have k1 := kt h H locs ls hP hD hS hl0
    rw [hE] at k1
    exact k1
  · have k1 := kf h H locs ls hP hD hS hl0
    rw [hE] at k1
    exact k1
theorem g_if_le_t (cx : g_cx X E nL l R cc own ini) {x : Int32} {off : Int} (tgt : Nat) (hd : g_dc cc pc (.ifCond .le off) 3 pc') (ht : (pc : Int) + off = (tgt : Int)) (h : x ≤ 0) (kk : G X E nL k n ws lv tgt st) : G X E nL k n ws lv pc (.int x :: st) := g_if_le cx tgt hd ht (fun _ => kk) (fun q => absurd h q)
theorem g_if_le_f (cx : g_cx X E nL l R cc own ini) {x : Int32} {off : Int} (tgt : Nat) (hd : g_dc cc pc (.ifCond .le off) 3 pc') (ht : (pc : Int) + off = (tgt : Int)) (h : ¬ x ≤ 0) (kk : G X E nL k n ws lv pc' st) : G X E nL k n ws lv pc (.int x :: st) := g_if_le cx tgt hd ht (fun q => absurd q h) (fun _ => kk)
theorem g_icmp_le (cx : g_cx X E nL l R cc own ini) {x y : Int32} {off : Int} (tgt : Nat) (hd : g_dc cc pc (.if_icmp .le off) 3 pc') (ht : (pc : Int) + off = (tgt : Int)) (kt : x ≤ y → G X E nL k n ws lv tgt st) (kf : ¬ x ≤ y → G X E nL k n ws lv pc' st) : G X E nL k n ws lv pc (.int y :: .int x :: st) := by
  obtain ⟨p, e, s, args, below, meth, c, Q, hE, hx, hb, hml, hown, hts, hK, hN, hG, hA, hini⟩ := cx
  obtain ⟨hd, rfl⟩ := hd
  intro H locs ls hP hD hS hl0
  rw [hE]
  refine lv_icmp_le hx hb hd ht (fun h => ?_) (fun h => ?_)
  · have k1 := kt h H locs ls hP hD hS hl0
    rw [hE] at k1
    exact k1
  · have k1 := kf h H locs ls hP hD hS hl0
    rw [hE] at k1
    exact k1
theorem g_icmp_le_t (cx : g_cx X E nL l R cc own ini) {x y : Int32} {off : Int} (tgt : Nat) (hd : g_dc cc pc (.if_icmp .le off) 3 pc') (ht : (pc : Int) + off = (tgt : Int)) (h : x ≤ y) (kk : G X E nL k n ws lv tgt st) : G X E nL k n ws lv pc (.int y :: .int x :: st) := g_icmp_le cx tgt hd ht (fun _ => kk) (fun q => absurd h q)
theorem g_icmp_le_f (cx : g_cx X E nL l R cc own ini) {x y : Int32} {off : Int} (tgt : Nat) (hd : g_dc cc pc (.if_icmp .le off) 3 pc') (ht : (pc : Int) + off = (tgt : Int)) (h : ¬ x ≤ y) (kk : G X E nL k n ws lv pc' st) : G X E nL k n ws lv pc (.int y :: .int x :: st) := g_icmp_le cx tgt hd ht (fun q => absurd q h) (fun _ => kk)
theorem g_goto (cx : g_cx X E nL l R cc own ini) {off : Int} (tgt : Nat) (hd : g_dc cc pc (.goto off) 3 pc') (ht : (pc : Int) + off = (tgt : Int)) (kk : G X E nL k n ws lv tgt st) : G X E nL k n ws lv pc st := by
  obtain ⟨p, e, s, args, below, meth, c, Q, hE, hx, hb, hml, hown, hts, hK, hN, hG, hA, hini⟩ := cx
  obtain ⟨hd, rfl⟩ := hd
  intro H locs ls hP hD hS hl0
  have k1 := kk H locs ls hP hD hS hl0
  rw [hE] at k1 ⊢
  exact lv_goto hx hb hd ht k1
theorem g_ifnonnull (cx : g_cx X E nL l R cc own ini) {x : Nat} {off : Int} (tgt : Nat) (hd : g_dc cc pc (.ifnonnull off) 3 pc') (ht : (pc : Int) + off = (tgt : Int)) (kk : G X E nL k n ws lv tgt st) : G X E nL k n ws lv pc (.ref x :: st) := by
  obtain ⟨p, e, s, args, below, meth, c, Q, hE, hx, hb, hml, hown, hts, hK, hN, hG, hA, hini⟩ := cx
  obtain ⟨hd, rfl⟩ := hd
  intro H locs ls hP hD hS hl0
  have k1 := kk H locs ls hP hD hS hl0
  rw [hE] at k1 ⊢
  exact lv_ifnonnull hx hb hd ht k1
theorem g_ifnull (cx : g_cx X E nL l R cc own ini) {x : Nat} {off : Int} (hd : g_dc cc pc (.ifnull off) 3 pc') (kk : G X E nL k n ws lv pc' (st)) : G X E nL k n ws lv pc (.ref x :: st) := by
  obtain ⟨p, e, s, args, below, meth, c, Q, hE, hx, hb, hml, hown, hts, hK, hN, hG, hA, hini⟩ := cx
  obtain ⟨hd, rfl⟩ := hd
  intro H locs ls hP hD hS hl0
  have k1 := kk H locs ls hP hD hS hl0
  rw [hE] at k1 ⊢
  exact lv_ifnull hx hb hd k1
theorem g_tableOut (cx : g_cx X E nL l R cc own ini) {dflt lo hi : Int} {offs : Array Int} {len : Nat} {x : Int32} (tgt : Nat) (hd : g_dc cc pc (.tableswitch dflt lo hi offs) len pc') (h : x.toInt < lo ∨ hi < x.toInt) (ht : (pc : Int) + dflt = (tgt : Int)) (kk : G X E nL k n ws lv tgt st) : G X E nL k n ws lv pc (.int x :: st) := by
  obtain ⟨p, e, s, args, below, meth, c, Q, hE, hx, hb, hml, hown, hts, hK, hN, hG, hA, hini⟩ := cx
  obtain ⟨hd, rfl⟩ := hd
  intro H locs ls hP hD hS hl0
  have k1 := kk H locs ls hP hD hS hl0
  rw [hE] at k1 ⊢
  exact lv_tableOut hx hb hd h ht k1
theorem g_tableIn (cx : g_cx X E nL l R cc own ini) {dflt lo hi : Int} {offs : Array Int} {len : Nat} {x : Int32} {off : Int} (tgt : Nat) (hd : g_dc cc pc (.tableswitch dflt lo hi offs) len pc') (h1 : ¬ x.toInt < lo) (h2 : ¬ hi < x.toInt) (ho : offs[(x.toInt - lo).toNat]? = some off) (ht : (pc : Int) + off = (tgt : Int)) (kk : G X E nL k n ws lv tgt st) : G X E nL k n ws lv pc (.int x :: st) := by
  obtain ⟨p, e, s, args, below, meth, c, Q, hE, hx, hb, hml, hown, hts, hK, hN, hG, hA, hini⟩ := cx
  obtain ⟨hd, rfl⟩ := hd
  intro H locs ls hP hD hS hl0
  have k1 := kk H locs ls hP hD hS hl0
  rw [hE] at k1 ⊢
  exact lv_tableIn hx hb hd h1 h2 ho ht k1
theorem g_topi {x : Int32} (kk : ∀ y : Int32, y = x → G X E nL k n ws lv pc (.int y :: st)) : G X E nL k n ws lv pc (.int x :: st) := kk x rfl
theorem g_topl {x : Int64} (kk : ∀ y : Int64, y = x → G X E nL k n ws lv pc (.long y :: st)) : G X E nL k n ws lv pc (.long x :: st) := kk x rfl
theorem g_toi {x : Int32} (y : Int32) (h : x = y) (kk : G X E nL k n ws lv pc (.int y :: st)) : G X E nL k n ws lv pc (.int x :: st) := h ▸ kk
theorem g_lsub (is : List Nat) (lv' : List (Nat × Value)) (h : lv_pick lv is = lv') (kk : G X E nL k n ws lv' pc st) : G X E nL k n ws lv pc st := fun H locs ls hP hD hS hl => kk H locs ls hP hD hS (lv_sub hl is h)
theorem g_ws (is : List Nat) (ws' : va_W) (hn : va_nd is = true) (h : is.map (fun i => ws[i]?) = ws'.map some) (kk : G X E nL k n ws' lv pc st) : G X E nL k n ws lv pc st := by
  intro H locs ls hP hD hS hl
  refine kk H locs ls (hP.sub is ?_) (hD.sub is hn h) hS hl
  have h1 : is.filterMap (fun i => ws[i]?) = (is.map (fun i => ws[i]?)).filterMap id := by rw [List.filterMap_map]; rfl
  rw [h1, h, List.filterMap_map]
  simp
theorem g_weq (ws' : va_W) (h : ws = ws') (kk : G X E nL k n ws' lv pc st) : G X E nL k n ws lv pc st := h ▸ kk
theorem g_wid {k' n' : Nat} (cx : g_cx X E nL l R cc own ini) (hk : k ≤ k') (hn : n ≤ n') (kk : G X E nL k' n' ws lv pc st) : G X E nL k n ws lv pc st := by
  obtain ⟨p, e, s, args, below, meth, c, Q, hE, hx, hb, hml, hown, hts, hK, hN, hG, hA, hini⟩ := cx
  intro H locs ls hP hD hS hl
  have k1 := kk H locs ls hP hD hS hl
  rw [hE] at k1 ⊢
  exact W.widen hk hn k1
/-- a class of vwCl, as the field rows want it -/
def g_cl (ci : Nat) (C : String) (T : u_T) (N : Nat) (ty : Nat → FieldType) : Prop := vwCl[ci]? = some (C, T, N) ∧ (∀ w ∈ u_ws C T N, w ∈ gT) ∧ (∀ k, k < N → parseFieldDescriptor (T k).2.2.1 = some (ty k)) ∧ (∀ a, a < N → ∀ b, b < N → a ≠ b → (T a).2.1 ≠ (T b).2.1) ∧ Cond.instantiable C N ∈ gT ∧ Cond.initialized C ∈ gT
/-- a field's place, its link from own (plain or by the nest) -/
def g_fl (own : String) (i : Nat) (C : String) (T : u_T) (N j : Nat) (ty : FieldType) : Prop := j < N ∧ parseFieldDescriptor (T j).2.2.1 = some ty ∧ (T j).1 = C ∧ Cond.fieldLink own i C (T j).2.1 (T j).2.2.1 ∈ gT
def g_fn (own : String) (i : Nat) (C : String) (T : u_T) (N j : Nat) (ty : FieldType) : Prop := j < N ∧ parseFieldDescriptor (T j).2.2.1 = some ty ∧ (T j).1 = C ∧ ∃ host, Cond.fieldLinkNest own i C (T j).2.1 (T j).2.2.1 host ∈ lw_tbl
theorem g_get (cx : g_cx X E nL l R cc own ini) {ci : Nat} {C : String} {T : u_T} {N : Nat} {ty : Nat → FieldType} (hc : g_cl ci C T N ty) {i j : Nat} {tj : FieldType} (hf : g_fl own i C T N j tj) (q : Nat) {a : Nat} {fs : List Value} (v : Value) (hd : g_dc cc pc (.getfield i) 3 pc') (he : ws[q]? = some (a, .inr (ci, fs))) (hv : fs[j]? = some v) (kk : G X E nL k n ws lv pc' (v :: st)) : G X E nL k n ws lv pc (.ref a :: st) := by
  obtain ⟨p, e, s, args, below, meth, c, Q, hE, hx, hb, hml, hown, hts, hK, hN, hG, hA, hini⟩ := cx
  obtain ⟨hd, rfl⟩ := hd
  intro H locs ls hP hD hS hl0
  have k1 := kk H locs ls hP hD hS hl0
  rw [hE] at k1 ⊢
  exact va_get hx hb hts hc.2.1 hown hK hP q he hc.1 j hf.1 (hts _ hf.2.2.2) (fun x h => by rw [hf.2.2.1] at h; exact h) hv hd k1
theorem g_put (cx : g_cx X E nL l R cc own ini) {ci : Nat} {C : String} {T : u_T} {N : Nat} {ty : Nat → FieldType} (hc : g_cl ci C T N ty) {i j : Nat} {tj : FieldType} (hf : g_fl own i C T N j tj) (q : Nat) {a : Nat} {fs : List Value} {v : Value} (ws' : va_W) (hd : g_dc cc pc (.putfield i) 3 pc') (hfin : (T j).2.2.2 = false) (he : ws[q]? = some (a, .inr (ci, fs))) (hn : narrow tj v = v) (hfit : fits tj v = true) (hl : j < fs.length) (hw : ws.set q (a, .inr (ci, fs.set j v)) = ws') (kk : G X E nL k n ws' lv pc' st) : G X E nL k n ws lv pc (v :: .ref a :: st) := by
  obtain ⟨p, e, s, args, below, meth, c, Q, hE, hx, hb, hml, hown, hts, hK, hN, hG, hA, hini⟩ := cx
  obtain ⟨hd, rfl⟩ := hd
  intro H locs ls hP hD hS hl0
  rw [hE]
  refine va_put hx hb hts hc.2.1 ty hc.2.2.1 hc.2.2.2.1 hown hK hP hD hS q he hc.1 j hf.1 (hts _ hf.2.2.2) (fun x h => by rw [hf.2.2.1] at h; exact h) hfin hf.2.1 hn hfit hl hd (fun H1 locs1 hP1 hD1 hS1 => ?_)
  rw [hw] at hP1 hD1
  have k1 := kk H1 locs1 ls hP1 hD1 hS1 hl0
  rw [hE] at k1
  exact k1
theorem g_getN (cx : g_cx X E nL l R cc own ini) {ci : Nat} {C : String} {T : u_T} {N : Nat} {ty : Nat → FieldType} (hc : g_cl ci C T N ty) {i j : Nat} {tj : FieldType} (hf : g_fn own i C T N j tj) (q : Nat) {a : Nat} {fs : List Value} (v : Value) (hd : g_dc cc pc (.getfield i) 3 pc') (he : ws[q]? = some (a, .inr (ci, fs))) (hv : fs[j]? = some v) (kk : G X E nL k n ws lv pc' (v :: st)) : G X E nL k n ws lv pc (.ref a :: st) := by
  obtain ⟨p, e, s, args, below, meth, c, Q, hE, hx, hb, hml, hown, hts, hK, hN, hG, hA, hini⟩ := cx
  obtain ⟨hd, rfl⟩ := hd
  obtain ⟨host, hnw⟩ := hf.2.2.2
  intro H locs ls hP hD hS hl0
  have k1 := kk H locs ls hP hD hS hl0
  rw [hE] at k1 ⊢
  exact va_getN hx hb hts hc.2.1 hown hK hP q he hc.1 j hf.1 (va_Nw.use rfl (hN _ hnw rfl)) (fun x h => by rw [hf.2.2.1] at h; exact h) hv hd k1
theorem g_putN (cx : g_cx X E nL l R cc own ini) {ci : Nat} {C : String} {T : u_T} {N : Nat} {ty : Nat → FieldType} (hc : g_cl ci C T N ty) {i j : Nat} {tj : FieldType} (hf : g_fn own i C T N j tj) (q : Nat) {a : Nat} {fs : List Value} {v : Value} (ws' : va_W) (hd : g_dc cc pc (.putfield i) 3 pc') (hfin : (T j).2.2.2 = false) (he : ws[q]? = some (a, .inr (ci, fs))) (hn : narrow tj v = v) (hfit : fits tj v = true) (hl : j < fs.length) (hw : ws.set q (a, .inr (ci, fs.set j v)) = ws') (kk : G X E nL k n ws' lv pc' st) : G X E nL k n ws lv pc (v :: .ref a :: st) := by
  obtain ⟨p, e, s, args, below, meth, c, Q, hE, hx, hb, hml, hown, hts, hK, hN, hG, hA, hini⟩ := cx
  obtain ⟨hd, rfl⟩ := hd
  obtain ⟨host, hnw⟩ := hf.2.2.2
  intro H locs ls hP hD hS hl0
  rw [hE]
  refine va_putN hx hb hts hc.2.1 ty hc.2.2.1 hc.2.2.2.1 hown hK hP hD hS q he hc.1 j hf.1 (va_Nw.use rfl (hN _ hnw rfl)) (fun x h => by rw [hf.2.2.1] at h; exact h) hfin hf.2.1 hn hfit hl hd (fun H1 locs1 hP1 hD1 hS1 => ?_)
  rw [hw] at hP1 hD1
  have k1 := kk H1 locs1 ls hP1 hD1 hS1 hl0
  rw [hE] at k1
  exact k1
theorem g_putF (cx : g_cx X E nL l R cc own ini) (hi : ini) {ci : Nat} {C : String} {T : u_T} {N : Nat} {ty : Nat → FieldType} (hc : g_cl ci C T N ty) {i j : Nat} {tj : FieldType} (hf : g_fl own i C T N j tj) (q : Nat) {a : Nat} {fs : List Value} {v : Value} (ws' : va_W) (hd : g_dc cc pc (.putfield i) 3 pc') (hfin : (T j).2.2.2 = true) (hdecl : C = own) (he : ws[q]? = some (a, .inr (ci, fs))) (hn : narrow tj v = v) (hfit : fits tj v = true) (hl : j < fs.length) (hw : ws.set q (a, .inr (ci, fs.set j v)) = ws') (kk : G X E nL k n ws' lv pc' st) : G X E nL k n ws lv pc (v :: .ref a :: st) := by
  obtain ⟨p, e, s, args, below, meth, c, Q, hE, hx, hb, hml, hown, hts, hK, hN, hG, hA, hini⟩ := cx
  obtain ⟨hd, rfl⟩ := hd
  intro H locs ls hP hD hS hl0
  rw [hE]
  refine va_putF hx hb hts hc.2.1 ty hc.2.2.1 hc.2.2.2.1 hown hK hP hD hS q he hc.1 j hf.1 (hts _ hf.2.2.2) (fun x h => by rw [hf.2.2.1] at h; exact h) hfin (hini hi) (hf.2.2.1.trans hdecl) hf.2.1 hn hfit hl hd (fun H1 locs1 hP1 hD1 hS1 => ?_)
  rw [hw] at hP1 hD1
  have k1 := kk H1 locs1 ls hP1 hD1 hS1 hl0
  rw [hE] at k1
  exact k1
theorem g_iald (cx : g_cx X E nL l R cc own ini) (q : Nat) {a N : Nat} {f : Nat → Int32} {i : Int32} (hd : g_dc cc pc .iaload 1 pc') (ha : ws[q]? = some (a, .inl (X.2.1, N, .inl f))) (hin : vp_in i N) (kk : G X E nL k n ws lv pc' (.int (f i.toNatClampNeg) :: st)) : G X E nL k n ws lv pc (.int i :: .ref a :: st) := by
  obtain ⟨p, e, s, args, below, meth, c, Q, hE, hx, hb, hml, hown, hts, hK, hN, hG, hA, hini⟩ := cx
  obtain ⟨hd, rfl⟩ := hd
  intro H locs ls hP hD hS hl0
  have k1 := kk H locs ls hP hD hS hl0
  rw [hE] at k1 ⊢
  exact va_iald hx hb hK hP q 0 ha rfl hin hd k1
theorem g_iast (cx : g_cx X E nL l R cc own ini) (q : Nat) {a N : Nat} {f : Nat → Int32} {i x : Int32} (ws' : va_W) (hd : g_dc cc pc .iastore 1 pc') (ha : ws[q]? = some (a, .inl (X.2.1, N, .inl f))) (hin : vp_in i N) (hw : ws.set q (a, .inl (X.2.1, N, .inl (upd f i.toNatClampNeg (x)))) = ws') (kk : G X E nL k n ws' lv pc' st) : G X E nL k n ws lv pc (.int x :: .int i :: .ref a :: st) := by
  obtain ⟨p, e, s, args, below, meth, c, Q, hE, hx, hb, hml, hown, hts, hK, hN, hG, hA, hini⟩ := cx
  obtain ⟨hd, rfl⟩ := hd
  intro H locs ls hP hD hS hl0
  rw [hE]
  refine va_iast hx hb hK hP hD hS q 0 ha rfl hin hd (fun H1 locs1 hP1 hD1 hS1 => ?_)
  rw [hw] at hP1 hD1
  have k1 := kk H1 locs1 ls hP1 hD1 hS1 hl0
  rw [hE] at k1
  exact k1
theorem g_bald (cx : g_cx X E nL l R cc own ini) (q : Nat) {a N : Nat} {f : Nat → Int32} {i : Int32} (hd : g_dc cc pc .baload 1 pc') (ha : ws[q]? = some (a, .inl (X.2.2, N, .inl f))) (hin : vp_in i N) (kk : G X E nL k n ws lv pc' (.int (f i.toNatClampNeg) :: st)) : G X E nL k n ws lv pc (.int i :: .ref a :: st) := by
  obtain ⟨p, e, s, args, below, meth, c, Q, hE, hx, hb, hml, hown, hts, hK, hN, hG, hA, hini⟩ := cx
  obtain ⟨hd, rfl⟩ := hd
  intro H locs ls hP hD hS hl0
  have k1 := kk H locs ls hP hD hS hl0
  rw [hE] at k1 ⊢
  exact va_bald hx hb hK hP q 1 ha rfl hin hd k1
theorem g_bast (cx : g_cx X E nL l R cc own ini) (q : Nat) {a N : Nat} {f : Nat → Int32} {i x : Int32} (ws' : va_W) (hd : g_dc cc pc .bastore 1 pc') (ha : ws[q]? = some (a, .inl (X.2.2, N, .inl f))) (hin : vp_in i N) (hw : ws.set q (a, .inl (X.2.2, N, .inl (upd f i.toNatClampNeg (vp_nar .byte x)))) = ws') (kk : G X E nL k n ws' lv pc' st) : G X E nL k n ws lv pc (.int x :: .int i :: .ref a :: st) := by
  obtain ⟨p, e, s, args, below, meth, c, Q, hE, hx, hb, hml, hown, hts, hK, hN, hG, hA, hini⟩ := cx
  obtain ⟨hd, rfl⟩ := hd
  intro H locs ls hP hD hS hl0
  rw [hE]
  refine va_bast hx hb hK hP hD hS q 1 ha rfl hin hd (fun H1 locs1 hP1 hD1 hS1 => ?_)
  rw [hw] at hP1 hD1
  have k1 := kk H1 locs1 ls hP1 hD1 hS1 hl0
  rw [hE] at k1
  exact k1
theorem g_alen (cx : g_cx X E nL l R cc own ini) (q : Nat) {a N : Nat} {f : Nat → Int32} (v : Int32) (hd : g_dc cc pc .arraylength 1 pc') (ha : ws[q]? = some (a, .inl (X.2.1, N, .inl f))) (hv : Int32.ofNat N = v) (kk : G X E nL k n ws lv pc' (.int v :: st)) : G X E nL k n ws lv pc (.ref a :: st) := by
  obtain ⟨p, e, s, args, below, meth, c, Q, hE, hx, hb, hml, hown, hts, hK, hN, hG, hA, hini⟩ := cx
  obtain ⟨hd, rfl⟩ := hd
  intro H locs ls hP hD hS hl0
  have k1 := kk H locs ls hP hD hS hl0
  rw [hE] at k1 ⊢
  exact va_alen hx hb hK hP q 0 ha (ty := .int) rfl hv hd k1
theorem g_newa_int (cx : g_cx X E nL l R cc own ini) (N : Nat) {z : Int32} (hw : Cond.arrayClass .int ∈ gT) (hd : g_dc cc pc (.newarray .int) 2 pc') (hz : ¬ z < 0) (hZ : z.toNatClampNeg = N) (hby : N * componentBytes .int ≤ 536870912) (hk : k + 1 ≤ R.cells) (hn : n + N ≤ R.slots) (kk : ∀ q : Nat, G X E nL (k + 1) (n + N) (ws ++ [(q, .inl (X.2.1, N, .inl (fun _ => 0)))]) lv pc' (.ref q :: st)) : G X E nL k n ws lv pc (.int z :: st) := by
  obtain ⟨p, e, s, args, below, meth, c, Q, hE, hx, hb, hml, hown, hts, hK, hN, hG, hA, hini⟩ := cx
  obtain ⟨hd, rfl⟩ := hd
  intro H locs ls hP hD hS hl0
  rw [hE]
  refine va_newa (atype := .int) (ty := .int) (N' := N) (a0 := (N, .inl (fun _ => 0))) hx hb (hts _ hw) rfl hK hP hD hS hA (fun cA => rfl) hz hZ hby hk hn hd (fun q cA H1 hK1 hP1 hD1 hS1 => ?_)
  have e1 := (hK1.2 2 (cA, .int) rfl).2
  have e2 := (hK1.2 0 (X.2.1, .int) rfl).2
  have e3 : cA = X.2.1 := Option.some.inj (Eq.trans (Eq.symm e1) e2)
  subst e3
  have k1 := kk q H1 locs ls hP1 hD1 hS1 hl0
  rw [hE] at k1
  exact k1
theorem g_newa_byte (cx : g_cx X E nL l R cc own ini) (N : Nat) {z : Int32} (hw : Cond.arrayClass .byte ∈ gT) (hd : g_dc cc pc (.newarray .byte) 2 pc') (hz : ¬ z < 0) (hZ : z.toNatClampNeg = N) (hby : N * componentBytes .byte ≤ 536870912) (hk : k + 1 ≤ R.cells) (hn : n + N ≤ R.slots) (kk : ∀ q : Nat, G X E nL (k + 1) (n + N) (ws ++ [(q, .inl (X.2.2, N, .inl (fun _ => 0)))]) lv pc' (.ref q :: st)) : G X E nL k n ws lv pc (.int z :: st) := by
  obtain ⟨p, e, s, args, below, meth, c, Q, hE, hx, hb, hml, hown, hts, hK, hN, hG, hA, hini⟩ := cx
  obtain ⟨hd, rfl⟩ := hd
  intro H locs ls hP hD hS hl0
  rw [hE]
  refine va_newa (atype := .byte) (ty := .byte) (N' := N) (a0 := (N, .inl (fun _ => 0))) hx hb (hts _ hw) rfl hK hP hD hS hA (fun cA => rfl) hz hZ hby hk hn hd (fun q cA H1 hK1 hP1 hD1 hS1 => ?_)
  have e1 := (hK1.2 2 (cA, .byte) rfl).2
  have e2 := (hK1.2 1 (X.2.2, .byte) rfl).2
  have e3 : cA = X.2.2 := Option.some.inj (Eq.trans (Eq.symm e1) e2)
  subst e3
  have k1 := kk q H1 locs ls hP1 hD1 hS1 hl0
  rw [hE] at k1
  exact k1
theorem g_new (cx : g_cx X E nL l R cc own ini) {ci : Nat} {C : String} {T : u_T} {N : Nat} {ty : Nat → FieldType} (hc : g_cl ci C T N ty) {i : Nat} (fs : List Value) (hw : Cond.classLink own i C ∈ gT) (hd : g_dc cc pc (.new i) 3 pc') (hfs : ∀ j, j < N → defaultValue (ty j) = vp_V fs j) (hk : k + 1 ≤ R.cells) (hn : n + N ≤ R.slots) (kk : ∀ q : Nat, G X E nL (k + 1) (n + N) (ws ++ [(q, .inr (ci, fs))]) lv pc' (.ref q :: st)) : G X E nL k n ws lv pc st := by
  obtain ⟨p, e, s, args, below, meth, c, Q, hE, hx, hb, hml, hown, hts, hK, hN, hG, hA, hini⟩ := cx
  obtain ⟨hd, rfl⟩ := hd
  intro H locs ls hP hD hS hl0
  rw [hE]
  refine va_new hx hb hts hc.2.1 ty hc.2.2.1 hown (hts _ hw) (hts _ hc.2.2.2.2.1) (hts _ hc.2.2.2.2.2) hK hP hD hS hA hc.1 hfs hk hn hd (fun q H1 hP1 hD1 hS1 => ?_)
  have k1 := kk q H1 locs ls hP1 hD1 hS1 hl0
  rw [hE] at k1
  exact k1
theorem g_objInit (cx : g_cx X E nL l R cc own ini) {i : Nat} {a : Nat} (hw : Cond.methodLink own i Lib.objectInit ∈ gT) (hw2 : Cond.instanceMethod Lib.objectInit ∈ gT) (hw3 : Cond.code Lib.objectInit ⟨#[0xb1]⟩ 1 none ∈ gT) (hd : g_dc cc pc (.invokespecial i) 3 pc') (hR : 1 ≤ R.frames ∧ (st.map fun v => v.category).sum + 12 ≤ R.locals) (kk : G X E nL k n ws lv pc' st) : G X E nL k n ws lv pc (.ref a :: st) := by
  obtain ⟨p, e, s, args, below, meth, c, Q, hE, hx, hb, hml, hown, hts, hK, hN, hG, hA, hini⟩ := cx
  obtain ⟨hd, rfl⟩ := hd
  intro H locs ls hP hD hS hl0
  have k1 := kk H locs ls hP hD hS hl0
  rw [hE] at k1 ⊢
  exact W.objInit hx hb hown (hts _ hw) (hts _ hw2) (hts _ hw3) rfl (by rw [hml]; exact hl0.1) rfl hd hR.1 (by show 2 * 0 + _ + 12 ≤ _; omega) k1
end GL
section GE
variable {X : gX} {l : Launch}
/-- the end rows of a method, as the walk of its body uses them -/
def g_ri (X : gX) (E : gE) (b : ByteArray) (ml : Nat) (ty : FieldType) (mc ms : Nat) (post : Int32 → va_W → Prop) : Prop := ∀ {pc pc' k n : Nat} {ws' : va_W} {lv : List (Nat × Value)} {v : Int32}, g_dc b pc .ireturn 1 pc' → k ≤ mc → n ≤ ms → narrow ty (.int v) = .int v → post v ws' → G X E ml k n ws' lv pc [.int v]
def g_rv (X : gX) (E : gE) (b : ByteArray) (ml : Nat) (mc ms : Nat) (post : va_W → Prop) : Prop := ∀ {pc pc' k n : Nat} {ws' : va_W} {lv : List (Nat × Value)}, g_dc b pc .return_ 1 pc' → k ≤ mc → n ≤ ms → post ws' → G X E ml k n ws' lv pc []
theorem g_mi {y : MethodName} {b : ByteArray} {ml : Nat} {ty : FieldType} {d mc ms : Nat} {av : List Value} {ws : va_W} {post : Int32 → va_W → Prop} (hy : plainName y.cls = true) (hlen : (lg_sl av).length ≤ ml)
    (body : ∀ E : gE, g_cx X E ml l (g_rm d mc ms) b y.cls (y.name = "<init>") → g_ri X E b ml ty mc ms post → G X E ml 0 0 ws (lv_args 0 av) 0 []) : g_Ci l X y b ml (some ty) d mc ms av ws post := by
  intro sz
  refine Met.ofW (cc := b) (maxL := ml) (ret := some ty) hy rfl ?_
  intro p e s m args below meth c s₁ B hml hv
  obtain ⟨rfl, hsz, hP, hK, hD0, hN, hG⟩ := hv
  have hts := atoms_spec (ws := gW y b ml (some ty)) B.pre
  have hown : s.vm.findClass y.cls = some m.cls := findClass_of_methodNamed B.named
  subst hsz
  have hD : va_D (va_A ws s.heap.size) ws := hD0.self (sz := s.heap.size)
  rw [lg_entry_eq]
  let E : gE := ((fun H locs k n g => W p l e (g_rm d mc ms) s m av.toArray below meth c H locs k n (MQ below (va_Qi post (fun w t => g_B X (va_A ws s.heap.size) w t) (va_A ws s.heap.size)) av.toArray s mc ms (va_A ws s.heap.size)) g), m, va_A ws s.heap.size, s.heap)
  refine body E ⟨p, e, s, av.toArray, below, meth, c, _, rfl, B.exec, B.bytes, hml, hown, fun w h => hts w (List.mem_cons_of_mem _ h), hK, hN, ⟨rfl, hG⟩, fun q h => Or.inr h, fun h => (name_of_methodNamed B.named B.method).1.trans h⟩ ?_ s.heap [] _ hP hD va_S.rf (lv_entry av hlen)
  intro pc pc' k n ws' lv v hd hk hn hnar hp H locs ls hP hD hS hl
  show W p l e (g_rm d mc ms) s m av.toArray below meth c H locs k n _ _
  refine W.widen hk hn ?_
  exact W.zret (v := v) B.exec B.bytes B.returns hnar (fun t ht hW => ⟨⟨v, ws', rfl, hp, by rw [ht]; exact hP, hD⟩, hS.F ht⟩) hS.2.2 hd.1 B.notSynchronized
theorem g_mv {y : MethodName} {b : ByteArray} {ml : Nat} {d mc ms : Nat} {av : List Value} {ws : va_W} {post : va_W → Prop} (hy : plainName y.cls = true) (hlen : (lg_sl av).length ≤ ml)
    (body : ∀ E : gE, g_cx X E ml l (g_rm d mc ms) b y.cls (y.name = "<init>") → g_rv X E b ml mc ms post → G X E ml 0 0 ws (lv_args 0 av) 0 []) : g_Cv l X y b ml d mc ms av ws post := by
  intro sz
  refine Met.ofW (cc := b) (maxL := ml) (ret := none) hy rfl ?_
  intro p e s m args below meth c s₁ B hml hv
  obtain ⟨rfl, hsz, hP, hK, hD0, hN, hG⟩ := hv
  have hts := atoms_spec (ws := gW y b ml none) B.pre
  have hown : s.vm.findClass y.cls = some m.cls := findClass_of_methodNamed B.named
  subst hsz
  have hD : va_D (va_A ws s.heap.size) ws := hD0.self (sz := s.heap.size)
  rw [lg_entry_eq]
  let E : gE := ((fun H locs k n g => W p l e (g_rm d mc ms) s m av.toArray below meth c H locs k n (MQ below (va_Qv post (fun w t => g_B X (va_A ws s.heap.size) w t) (va_A ws s.heap.size)) av.toArray s mc ms (va_A ws s.heap.size)) g), m, va_A ws s.heap.size, s.heap)
  refine body E ⟨p, e, s, av.toArray, below, meth, c, _, rfl, B.exec, B.bytes, hml, hown, fun w h => hts w (List.mem_cons_of_mem _ h), hK, hN, ⟨rfl, hG⟩, fun q h => Or.inr h, fun h => (name_of_methodNamed B.named B.method).1.trans h⟩ ?_ s.heap [] _ hP hD va_S.rf (lv_entry av hlen)
  intro pc pc' k n ws' lv hd hk hn hp H locs ls hP hD hS hl
  show W p l e (g_rm d mc ms) s m av.toArray below meth c H locs k n _ _
  refine W.widen hk hn ?_
  exact W.vret B.exec B.bytes B.returns (fun t ht hW => ⟨⟨ws', rfl, hp, by rw [ht]; exact hP, hD⟩, hS.F ht⟩) hS.2.2 hd.1 B.notSynchronized
end GE
section GCALL
variable {X : gX} {E : gE} {nL k n : Nat} {l : Launch} {R : Room} {cc : ByteArray} {own : String} {ini : Prop} {ws : va_W} {lv : List (Nat × Value)} {pc pc' : Nat} {st0 : List Value}
variable {y : MethodName} {b : ByteArray} {ml d mc ms idx : Nat} {wc : va_W}
/-- what a callee's words are: virtual (private ones too), static by the class itself, static by a nest mate, a constructor -/
def g_yV (y : MethodName) (b : ByteArray) (ml : Nat) (ret : Option FieldType) (np : Nat) : Prop := Cond.instanceMethod y ∈ gT ∧ Cond.selects y.cls y y ∈ gT ∧ Cond.initialized y.cls ∈ gT ∧ Cond.code y b ml ret ∈ gT ∧ (y.cls ≠ "java/lang/invoke/MethodHandle" ∧ y.cls ≠ "java/lang/invoke/VarHandle" ∧ (parseMethodDescriptor y.desc).map (fun d => d.parameters.length) = some np)
def g_yS (y : MethodName) (b : ByteArray) (ml : Nat) (ret : Option FieldType) (np : Nat) : Prop := Cond.static y ∈ gT ∧ Cond.initialized y.cls ∈ gT ∧ Cond.code y b ml ret ∈ gT ∧ (y.cls ≠ "java/lang/invoke/MethodHandle" ∧ y.cls ≠ "java/lang/invoke/VarHandle" ∧ (parseMethodDescriptor y.desc).map (fun d => d.parameters.length) = some np)
def g_yI (y : MethodName) (b : ByteArray) (ml : Nat) (np : Nat) : Prop := Cond.instanceMethod y ∈ gT ∧ Cond.initialized y.cls ∈ gT ∧ Cond.code y b ml none ∈ gT ∧ y.name = "<init>" ∧ (y.cls ≠ "java/lang/invoke/MethodHandle" ∧ y.cls ≠ "java/lang/invoke/VarHandle" ∧ (parseMethodDescriptor y.desc).map (fun d => d.parameters.length) = some np)
def g_rr (R : Room) (d ml : Nat) : Prop := d + 1 ≤ R.frames ∧ 8 + (ml + 11) + 40 * d ≤ R.locals
theorem g_pc_ok {av : List Value} {sz : Nat} : FrameBlind (va_Pc av (g_Pre X sz wc)) := fun a U g mk q => by
  obtain ⟨q0, q1, qP, qK, qD, qN, qG⟩ := q
  exact ⟨q0, q1, qP, va_K.moved (u := U) (U := U.calling g mk a) (Vm.Alike.refl U.vm) qK, qD, g_nf_vm (u := U) (U := U.calling g mk a) rfl qN, g_gl_vm (u := U) (U := U.calling g mk a) rfl qG⟩
end GCALL

/-! ===== calls that take some cells with them and give them back at their places ===== -/
def g_rep : va_W → List Nat → va_W → va_W
  | ws, i :: is, c :: w => g_rep (ws.set i c) is w
  | ws, _, _ => ws
theorem g_rep_get : ∀ (isC : List Nat) (w ws : va_W) (k : Nat) (q : Nat × va_E), isC.length = w.length → (g_rep ws isC w)[k]? = some q → (∃ j : Nat, isC[j]? = some k ∧ w[j]? = some q) ∨ (k ∉ isC ∧ ws[k]? = some q)
  | [], [], ws, k, q, _, h => Or.inr ⟨List.not_mem_nil, h⟩
  | i :: is, c :: w, ws, k, q, hl, h => by
    rcases g_rep_get is w (ws.set i c) k q (Nat.succ.inj hl) h with ⟨j, h1, h2⟩ | ⟨h1, h2⟩
    · exact Or.inl ⟨j + 1, h1, h2⟩
    · by_cases hk : k = i
      · subst hk
        have hlt : k < (ws.set k c).length := (List.getElem?_eq_some_iff.mp h2).1
        rw [List.length_set] at hlt
        rw [List.getElem?_set_self hlt] at h2
        exact Or.inl ⟨0, rfl, h2⟩
      · rw [List.getElem?_set_ne (Ne.symm hk)] at h2
        exact Or.inr ⟨fun z => (List.mem_cons.mp z).elim hk h1, h2⟩
theorem g_rep_D {A : Nat → Prop} {ws wc w : va_W} {isC : List Nat} (hC : isC.map (fun i => ws[i]?) = wc.map some) (ha : w.map (·.1) = wc.map (·.1)) (hD : va_D A ws) : va_D A (g_rep ws isC w) := by
  have hl : isC.length = w.length := by
    have h1 := congrArg List.length hC
    have h2 := congrArg List.length ha
    simp only [List.length_map] at h1 h2
    omega
  have key : ∀ (k : Nat) (q : Nat × va_E), (g_rep ws isC w)[k]? = some q → ∃ q0, ws[k]? = some q0 ∧ q0.1 = q.1 := by
    intro k q hq
    rcases g_rep_get isC w ws k q hl hq with ⟨j, h1, h2⟩ | ⟨-, h2⟩
    · have e1 : (isC.map (fun i => ws[i]?))[j]? = some (ws[k]?) := by rw [List.getElem?_map, h1]; rfl
      have e2 : (w.map (·.1))[j]? = some q.1 := by rw [List.getElem?_map, h2]; rfl
      rw [hC, List.getElem?_map] at e1
      rw [ha, List.getElem?_map] at e2
      cases hw : wc[j]? with
      | none => rw [hw] at e1; cases e1
      | some q0 =>
        rw [hw] at e1 e2
        exact ⟨q0, (Option.some.inj e1).symm, Option.some.inj e2⟩
    · exact ⟨q, h2, rfl⟩
  refine ⟨fun i j x y hi hj hxy => ?_, fun k q hk => ?_⟩
  · obtain ⟨x0, h1, h2⟩ := key i x hi
    obtain ⟨y0, h3, h4⟩ := key j y hj
    exact hD.1 i j x0 y0 h1 h3 (h2.trans (hxy.trans h4.symm))
  · obtain ⟨q0, h1, h2⟩ := key k q hk
    rw [← h2]
    exact hD.2 k q0 h1
theorem g_rep_P {X : gX} {A : Nat → Prop} {ws wc w : va_W} {isC : List Nat} {H H1 : Heap} (hC : isC.map (fun i => ws[i]?) = wc.map some) (ha : w.map (·.1) = wc.map (·.1)) (hP : va_P X.1.1 vwCl ws H) (hD : va_D A ws) (hk : ∀ q : Nat, q < H.size → ¬ va_A wc H.size q → H1[q]? = H[q]?) (hP1 : va_P X.1.1 vwCl w H1) : va_P X.1.1 vwCl (g_rep ws isC w) H1 := by
  have hl : isC.length = w.length := by
    have h1 := congrArg List.length hC
    have h2 := congrArg List.length ha
    simp only [List.length_map] at h1 h2
    omega
  intro k q hq
  rcases g_rep_get isC w ws k q hl hq with ⟨j, -, h2⟩ | ⟨h1, h2⟩
  · exact hP1 j q h2
  · refine (hP k q h2).kept (hk q.1 (hP k q h2).lt (fun z => ?_))
    rcases z with ⟨j, e, hj⟩ | hj
    · have e1 : (wc.map some)[j]? = some (some (q.1, e)) := by rw [List.getElem?_map, hj]; rfl
      rw [← hC, List.getElem?_map] at e1
      cases hi : isC[j]? with
      | none => rw [hi] at e1; cases e1
      | some i =>
        rw [hi] at e1
        have e2 : ws[i]? = some (q.1, e) := Option.some.inj e1
        have := hD.1 k i q (q.1, e) h2 e2 rfl
        subst this
        exact h1 (List.mem_of_getElem? hi)
    · exact absurd (hP k q h2).lt (Nat.not_lt.mpr hj)
theorem g_rep_same : ∀ {isC : List Nat} {ws wc : va_W}, isC.map (fun i => ws[i]?) = wc.map some → g_rep ws isC wc = ws
  | [], ws, [], _ => rfl
  | [], ws, c :: wc, h => by cases h
  | i :: is, ws, [], h => by cases h
  | i :: is, ws, c :: wc, h => by
    have h1 : ws[i]? = some c := (List.cons.inj h).1
    have h2 := (List.cons.inj h).2
    have e : ws.set i c = ws := by
      apply List.ext_getElem?
      intro j
      by_cases hj : j = i
      · subst hj
        rw [List.getElem?_set_self (List.getElem?_eq_some_iff.mp h1).1, h1]
      · rw [List.getElem?_set_ne (Ne.symm hj)]
    show g_rep (ws.set i c) is wc = ws
    rw [e]
    exact g_rep_same h2
theorem g_all (ws : va_W) : (List.range ws.length).map (fun i => ws[i]?) = ws.map some := by
  apply List.ext_getElem?
  intro j
  rw [List.getElem?_map, List.getElem?_map]
  by_cases h : j < ws.length
  · rw [List.getElem?_range h]
    simp [h]
  · rw [List.getElem?_eq_none (by simpa using h), List.getElem?_eq_none (by simpa using h)]
    rfl

section GCB
variable {X : gX} {E : gE} {nL k n : Nat} {l : Launch} {R : Room} {cc : ByteArray} {own : String} {ini : Prop} {ws : va_W} {lv : List (Nat × Value)} {pc pc' : Nat} {st0 : List Value}
variable {y : MethodName} {b : ByteArray} {ml d mc ms idx : Nat} {wc : va_W}
theorem g_P_of {is : List Nat} {H : Heap} (h : is.map (fun i => ws[i]?) = wc.map some) (hP : va_P X.1.1 vwCl ws H) : va_P X.1.1 vwCl wc H := by
  refine hP.sub is ?_
  have h1 : is.filterMap (fun i => ws[i]?) = (is.map (fun i => ws[i]?)).filterMap id := by rw [List.filterMap_map]; rfl
  rw [h1, h, List.filterMap_map]
  simp
theorem g_cVi {ret : Option FieldType} {post : Int32 → va_W → Prop} (cx : g_cx X E nL l R cc own ini) (As st : List Value) {a : Nat} (hM : g_Ci l X y b ml ret d mc ms (.ref a :: As) wc post) (hw : Cond.methodLink own idx y ∈ gT) (hy : g_yV y b ml ret As.length) (hd : g_dc cc pc (.invokevirtual idx) 3 pc') (hR : g_rr R d ml) (hf : k + mc ≤ R.cells ∧ n + ms ≤ R.slots) (q0 : Nat) {ci : Nat} {fs : List Value} {T : u_T} {N : Nat} (he : wc[q0]? = some (a, .inr (ci, fs))) (hc : vwCl[ci]? = some (y.cls, T, N)) (isC : List Nat) (hC : isC.map (fun i => ws[i]?) = wc.map some) (hnd : va_nd isC = true) (hst : st0 = As.reverse ++ .ref a :: st) (hW : (st.map fun v => v.category).sum ≤ 8) (hadr : ∀ r w, post r w → w.map (·.1) = wc.map (·.1))
    (kk : ∀ r w, post r w → G X E nL (k + mc) (n + ms) (g_rep ws isC w) lv pc' (.int r :: st)) : G X E nL k n ws lv pc st0 := by
  obtain ⟨p, e, s, args, below, meth, c, Q, hE, hx, hb, hml, hown, hts, hK, hN, hG, hA, hini⟩ := cx
  obtain ⟨hd, rfl⟩ := hd
  subst hst
  intro H locs ls hP hD hS hl
  rw [hE]
  have hPc : va_P X.1.1 vwCl wc H := g_P_of hC hP
  have hDc := hD.sub isC hnd hC
  have hFc := va_free (wc := wc) hD hS hA isC hC
  have hgood : GoodIn gT (wsV own idx y.cls y (gW y b ml ret)) := g_good (fun w h => by
    simp only [wsV, gW, List.mem_append, List.mem_cons, List.not_mem_nil, or_false] at h
    rcases h with (rfl | rfl | rfl | rfl) | rfl | h
    · exact hw
    · exact hy.1
    · exact hy.2.1
    · exact hy.2.2.1
    · exact hy.2.2.2.1
    · exact h)
  refine va_calli (va_runV (As := As) (rest := st) ⟨hx, hb, hml, hown, hts⟩ (hM H.size) (cwV As.length hts hgood rfl rfl rfl ⟨rfl, hy.2.2.2.2⟩ hR) ⟨g_pc_ok, va_recv hK hPc hc he, fun U hU hW => ⟨rfl, by rw [hU], by rw [hU]; exact hPc, va_K.moved hW.alike hK, hDc.weaken (fun _ _ _ _ => trivial), g_nf_warm hW hN, g_gl_call hG.2 hS hFc hU hW⟩⟩ rfl rfl hl.1 rfl (lv_room hW) hd hf) hS (fun q _ h => hFc q h) hFc (fun r w t H1 locs1 ht hvm hp hB hz hk1 hS1 => ?_)
  obtain ⟨hP1, hD1⟩ := hB
  rw [ht] at hP1
  have k1 := kk r w hp H1 locs1 ls (g_rep_P hC (hadr r w hp) hP hD hk1 hP1) (g_rep_D hC (hadr r w hp) hD) hS1 hl
  rw [hE] at k1
  exact k1
theorem g_cViW {ret : Option FieldType} {post : Int32 → va_W → Prop} (cx : g_cx X E nL l R cc own ini) (As st : List Value) {a : Nat} (hM : g_Ci l X y b ml ret d mc ms (.ref a :: As) ws post) (hw : Cond.methodLink own idx y ∈ gT) (hy : g_yV y b ml ret As.length) (hd : g_dc cc pc (.invokevirtual idx) 3 pc') (hR : g_rr R d ml) (hf : k + mc ≤ R.cells ∧ n + ms ≤ R.slots) (q0 : Nat) {ci : Nat} {fs : List Value} {T : u_T} {N : Nat} (he : ws[q0]? = some (a, .inr (ci, fs))) (hc : vwCl[ci]? = some (y.cls, T, N)) (hst : st0 = As.reverse ++ .ref a :: st) (hW : (st.map fun v => v.category).sum ≤ 8)
    (kk : ∀ r w, post r w → G X E nL (k + mc) (n + ms) w lv pc' (.int r :: st)) : G X E nL k n ws lv pc st0 := by
  obtain ⟨p, e, s, args, below, meth, c, Q, hE, hx, hb, hml, hown, hts, hK, hN, hG, hA, hini⟩ := cx
  obtain ⟨hd, rfl⟩ := hd
  subst hst
  intro H locs ls hP hD hS hl
  rw [hE]
  have hPc : va_P X.1.1 vwCl ws H := hP
  have hDc := hD
  have hFc := va_free (wc := ws) hD hS hA (List.range ws.length) (g_all ws)
  have hgood : GoodIn gT (wsV own idx y.cls y (gW y b ml ret)) := g_good (fun w h => by
    simp only [wsV, gW, List.mem_append, List.mem_cons, List.not_mem_nil, or_false] at h
    rcases h with (rfl | rfl | rfl | rfl) | rfl | h
    · exact hw
    · exact hy.1
    · exact hy.2.1
    · exact hy.2.2.1
    · exact hy.2.2.2.1
    · exact h)
  refine va_calli (va_runV (As := As) (rest := st) ⟨hx, hb, hml, hown, hts⟩ (hM H.size) (cwV As.length hts hgood rfl rfl rfl ⟨rfl, hy.2.2.2.2⟩ hR) ⟨g_pc_ok, va_recv hK hPc hc he, fun U hU hW => ⟨rfl, by rw [hU], by rw [hU]; exact hPc, va_K.moved hW.alike hK, hDc.weaken (fun _ _ _ _ => trivial), g_nf_warm hW hN, g_gl_call hG.2 hS hFc hU hW⟩⟩ rfl rfl hl.1 rfl (lv_room hW) hd hf) hS (fun q _ h => hFc q h) hFc (fun r w t H1 locs1 ht hvm hp hB hz hk1 hS1 => ?_)
  obtain ⟨hP1, hD1⟩ := hB
  rw [ht] at hP1
  have k1 := kk r w hp H1 locs1 ls hP1 (hD1.weaken (fun _ q _ h => hFc q.1 h)) hS1 hl
  rw [hE] at k1
  exact k1
theorem g_cVv {post : va_W → Prop} (cx : g_cx X E nL l R cc own ini) (As st : List Value) {a : Nat} (hM : g_Cv l X y b ml d mc ms (.ref a :: As) wc post) (hw : Cond.methodLink own idx y ∈ gT) (hy : g_yV y b ml none As.length) (hd : g_dc cc pc (.invokevirtual idx) 3 pc') (hR : g_rr R d ml) (hf : k + mc ≤ R.cells ∧ n + ms ≤ R.slots) (q0 : Nat) {ci : Nat} {fs : List Value} {T : u_T} {N : Nat} (he : wc[q0]? = some (a, .inr (ci, fs))) (hc : vwCl[ci]? = some (y.cls, T, N)) (isC : List Nat) (hC : isC.map (fun i => ws[i]?) = wc.map some) (hnd : va_nd isC = true) (hst : st0 = As.reverse ++ .ref a :: st) (hW : (st.map fun v => v.category).sum ≤ 8) (hadr : ∀ w, post w → w.map (·.1) = wc.map (·.1))
    (kk : ∀ w, post w → G X E nL (k + mc) (n + ms) (g_rep ws isC w) lv pc' (st)) : G X E nL k n ws lv pc st0 := by
  obtain ⟨p, e, s, args, below, meth, c, Q, hE, hx, hb, hml, hown, hts, hK, hN, hG, hA, hini⟩ := cx
  obtain ⟨hd, rfl⟩ := hd
  subst hst
  intro H locs ls hP hD hS hl
  rw [hE]
  have hPc : va_P X.1.1 vwCl wc H := g_P_of hC hP
  have hDc := hD.sub isC hnd hC
  have hFc := va_free (wc := wc) hD hS hA isC hC
  have hgood : GoodIn gT (wsV own idx y.cls y (gW y b ml none)) := g_good (fun w h => by
    simp only [wsV, gW, List.mem_append, List.mem_cons, List.not_mem_nil, or_false] at h
    rcases h with (rfl | rfl | rfl | rfl) | rfl | h
    · exact hw
    · exact hy.1
    · exact hy.2.1
    · exact hy.2.2.1
    · exact hy.2.2.2.1
    · exact h)
  refine va_callv (va_runV (As := As) (rest := st) ⟨hx, hb, hml, hown, hts⟩ (hM H.size) (cwV As.length hts hgood rfl rfl rfl ⟨rfl, hy.2.2.2.2⟩ hR) ⟨g_pc_ok, va_recv hK hPc hc he, fun U hU hW => ⟨rfl, by rw [hU], by rw [hU]; exact hPc, va_K.moved hW.alike hK, hDc.weaken (fun _ _ _ _ => trivial), g_nf_warm hW hN, g_gl_call hG.2 hS hFc hU hW⟩⟩ rfl rfl hl.1 rfl (lv_room hW) hd hf) hS (fun q _ h => hFc q h) hFc (fun w t H1 locs1 ht hvm hp hB hz hk1 hS1 => ?_)
  obtain ⟨hP1, hD1⟩ := hB
  rw [ht] at hP1
  have k1 := kk w hp H1 locs1 ls (g_rep_P hC (hadr w hp) hP hD hk1 hP1) (g_rep_D hC (hadr w hp) hD) hS1 hl
  rw [hE] at k1
  exact k1
theorem g_cVvW {post : va_W → Prop} (cx : g_cx X E nL l R cc own ini) (As st : List Value) {a : Nat} (hM : g_Cv l X y b ml d mc ms (.ref a :: As) ws post) (hw : Cond.methodLink own idx y ∈ gT) (hy : g_yV y b ml none As.length) (hd : g_dc cc pc (.invokevirtual idx) 3 pc') (hR : g_rr R d ml) (hf : k + mc ≤ R.cells ∧ n + ms ≤ R.slots) (q0 : Nat) {ci : Nat} {fs : List Value} {T : u_T} {N : Nat} (he : ws[q0]? = some (a, .inr (ci, fs))) (hc : vwCl[ci]? = some (y.cls, T, N)) (hst : st0 = As.reverse ++ .ref a :: st) (hW : (st.map fun v => v.category).sum ≤ 8)
    (kk : ∀ w, post w → G X E nL (k + mc) (n + ms) w lv pc' (st)) : G X E nL k n ws lv pc st0 := by
  obtain ⟨p, e, s, args, below, meth, c, Q, hE, hx, hb, hml, hown, hts, hK, hN, hG, hA, hini⟩ := cx
  obtain ⟨hd, rfl⟩ := hd
  subst hst
  intro H locs ls hP hD hS hl
  rw [hE]
  have hPc : va_P X.1.1 vwCl ws H := hP
  have hDc := hD
  have hFc := va_free (wc := ws) hD hS hA (List.range ws.length) (g_all ws)
  have hgood : GoodIn gT (wsV own idx y.cls y (gW y b ml none)) := g_good (fun w h => by
    simp only [wsV, gW, List.mem_append, List.mem_cons, List.not_mem_nil, or_false] at h
    rcases h with (rfl | rfl | rfl | rfl) | rfl | h
    · exact hw
    · exact hy.1
    · exact hy.2.1
    · exact hy.2.2.1
    · exact hy.2.2.2.1
    · exact h)
  refine va_callv (va_runV (As := As) (rest := st) ⟨hx, hb, hml, hown, hts⟩ (hM H.size) (cwV As.length hts hgood rfl rfl rfl ⟨rfl, hy.2.2.2.2⟩ hR) ⟨g_pc_ok, va_recv hK hPc hc he, fun U hU hW => ⟨rfl, by rw [hU], by rw [hU]; exact hPc, va_K.moved hW.alike hK, hDc.weaken (fun _ _ _ _ => trivial), g_nf_warm hW hN, g_gl_call hG.2 hS hFc hU hW⟩⟩ rfl rfl hl.1 rfl (lv_room hW) hd hf) hS (fun q _ h => hFc q h) hFc (fun w t H1 locs1 ht hvm hp hB hz hk1 hS1 => ?_)
  obtain ⟨hP1, hD1⟩ := hB
  rw [ht] at hP1
  have k1 := kk w hp H1 locs1 ls hP1 (hD1.weaken (fun _ q _ h => hFc q.1 h)) hS1 hl
  rw [hE] at k1
  exact k1
theorem g_cSi {ret : Option FieldType} {post : Int32 → va_W → Prop} (cx : g_cx X E nL l R cc own ini) (As st : List Value) (hM : g_Ci l X y b ml ret d mc ms As wc post) (hw : Cond.methodLink own idx y ∈ gT) (hy : g_yS y b ml ret As.length) (ho : y.cls = own) (hd : g_dc cc pc (.invokestatic idx) 3 pc') (hR : g_rr R d ml) (hf : k + mc ≤ R.cells ∧ n + ms ≤ R.slots) (isC : List Nat) (hC : isC.map (fun i => ws[i]?) = wc.map some) (hnd : va_nd isC = true) (hst : st0 = As.reverse ++ st) (hW : (st.map fun v => v.category).sum ≤ 8) (hadr : ∀ r w, post r w → w.map (·.1) = wc.map (·.1))
    (kk : ∀ r w, post r w → G X E nL (k + mc) (n + ms) (g_rep ws isC w) lv pc' (.int r :: st)) : G X E nL k n ws lv pc st0 := by
  obtain ⟨p, e, s, args, below, meth, c, Q, hE, hx, hb, hml, hown, hts, hK, hN, hG, hA, hini⟩ := cx
  obtain ⟨hd, rfl⟩ := hd
  subst hst
  intro H locs ls hP hD hS hl
  rw [hE]
  have hPc : va_P X.1.1 vwCl wc H := g_P_of hC hP
  have hDc := hD.sub isC hnd hC
  have hFc := va_free (wc := wc) hD hS hA isC hC
  have hgood : GoodIn gT (wsS own idx y (gW y b ml ret)) := g_good (fun w h => by
    simp only [wsS, gW, List.mem_append, List.mem_cons, List.not_mem_nil, or_false] at h
    rcases h with (rfl | rfl | rfl) | rfl | h
    · exact hw
    · exact hy.1
    · rw [← ho]; exact hy.2.1
    · exact hy.2.2.1
    · exact h)
  refine va_calli (va_runS (As := As) (rest := st) ⟨hx, hb, hml, hown, hts⟩ (hM H.size) (cwS As.length hts hgood rfl rfl rfl ⟨ho, hy.2.2.2⟩ hR) ⟨g_pc_ok, fun U hU hW => ⟨rfl, by rw [hU], by rw [hU]; exact hPc, va_K.moved hW.alike hK, hDc.weaken (fun _ _ _ _ => trivial), g_nf_warm hW hN, g_gl_call hG.2 hS hFc hU hW⟩⟩ rfl rfl hl.1 rfl (lv_room hW) hd hf) hS (fun q _ h => hFc q h) hFc (fun r w t H1 locs1 ht hvm hp hB hz hk1 hS1 => ?_)
  obtain ⟨hP1, hD1⟩ := hB
  rw [ht] at hP1
  have k1 := kk r w hp H1 locs1 ls (g_rep_P hC (hadr r w hp) hP hD hk1 hP1) (g_rep_D hC (hadr r w hp) hD) hS1 hl
  rw [hE] at k1
  exact k1
theorem g_cSiW {ret : Option FieldType} {post : Int32 → va_W → Prop} (cx : g_cx X E nL l R cc own ini) (As st : List Value) (hM : g_Ci l X y b ml ret d mc ms As ws post) (hw : Cond.methodLink own idx y ∈ gT) (hy : g_yS y b ml ret As.length) (ho : y.cls = own) (hd : g_dc cc pc (.invokestatic idx) 3 pc') (hR : g_rr R d ml) (hf : k + mc ≤ R.cells ∧ n + ms ≤ R.slots) (hst : st0 = As.reverse ++ st) (hW : (st.map fun v => v.category).sum ≤ 8)
    (kk : ∀ r w, post r w → G X E nL (k + mc) (n + ms) w lv pc' (.int r :: st)) : G X E nL k n ws lv pc st0 := by
  obtain ⟨p, e, s, args, below, meth, c, Q, hE, hx, hb, hml, hown, hts, hK, hN, hG, hA, hini⟩ := cx
  obtain ⟨hd, rfl⟩ := hd
  subst hst
  intro H locs ls hP hD hS hl
  rw [hE]
  have hPc : va_P X.1.1 vwCl ws H := hP
  have hDc := hD
  have hFc := va_free (wc := ws) hD hS hA (List.range ws.length) (g_all ws)
  have hgood : GoodIn gT (wsS own idx y (gW y b ml ret)) := g_good (fun w h => by
    simp only [wsS, gW, List.mem_append, List.mem_cons, List.not_mem_nil, or_false] at h
    rcases h with (rfl | rfl | rfl) | rfl | h
    · exact hw
    · exact hy.1
    · rw [← ho]; exact hy.2.1
    · exact hy.2.2.1
    · exact h)
  refine va_calli (va_runS (As := As) (rest := st) ⟨hx, hb, hml, hown, hts⟩ (hM H.size) (cwS As.length hts hgood rfl rfl rfl ⟨ho, hy.2.2.2⟩ hR) ⟨g_pc_ok, fun U hU hW => ⟨rfl, by rw [hU], by rw [hU]; exact hPc, va_K.moved hW.alike hK, hDc.weaken (fun _ _ _ _ => trivial), g_nf_warm hW hN, g_gl_call hG.2 hS hFc hU hW⟩⟩ rfl rfl hl.1 rfl (lv_room hW) hd hf) hS (fun q _ h => hFc q h) hFc (fun r w t H1 locs1 ht hvm hp hB hz hk1 hS1 => ?_)
  obtain ⟨hP1, hD1⟩ := hB
  rw [ht] at hP1
  have k1 := kk r w hp H1 locs1 ls hP1 (hD1.weaken (fun _ q _ h => hFc q.1 h)) hS1 hl
  rw [hE] at k1
  exact k1
theorem g_cNi {ret : Option FieldType} {host : String} {post : Int32 → va_W → Prop} (cx : g_cx X E nL l R cc own ini) (As st : List Value) (hM : g_Ci l X y b ml ret d mc ms As wc post) (hw : Cond.methodLinkNest own idx y host ∈ lw_tbl) (hy : g_yS y b ml ret As.length) (hd : g_dc cc pc (.invokestatic idx) 3 pc') (hR : g_rr R d ml) (hf : k + mc ≤ R.cells ∧ n + ms ≤ R.slots) (isC : List Nat) (hC : isC.map (fun i => ws[i]?) = wc.map some) (hnd : va_nd isC = true) (hst : st0 = As.reverse ++ st) (hW : (st.map fun v => v.category).sum ≤ 8) (hadr : ∀ r w, post r w → w.map (·.1) = wc.map (·.1))
    (kk : ∀ r w, post r w → G X E nL (k + mc) (n + ms) (g_rep ws isC w) lv pc' (.int r :: st)) : G X E nL k n ws lv pc st0 := by
  obtain ⟨p, e, s, args, below, meth, c, Q, hE, hx, hb, hml, hown, hts, hK, hN, hG, hA, hini⟩ := cx
  obtain ⟨hd, rfl⟩ := hd
  subst hst
  intro H locs ls hP hD hS hl
  rw [hE]
  have hPc : va_P X.1.1 vwCl wc H := g_P_of hC hP
  have hDc := hD.sub isC hnd hC
  have hFc := va_free (wc := wc) hD hS hA isC hC
  have hgood : GoodIn gT (gW y b ml ret) := g_good (fun w h => by
    rcases List.mem_cons.mp h with rfl | h
    · exact hy.2.2.1
    · exact h)
  refine va_calli (va_runSN (host := host) (As := As) (rest := st) ⟨hx, hb, hml, hown, hts⟩ (hM H.size) ⟨va_cnB As.length hts hgood rfl rfl rfl (hN _ hw rfl) (hts _ hy.2.1) hy.2.2.2 hR, hts _ hy.1, trivial⟩ ⟨g_pc_ok, fun U hU hW => ⟨rfl, by rw [hU], by rw [hU]; exact hPc, va_K.moved hW.alike hK, hDc.weaken (fun _ _ _ _ => trivial), g_nf_warm hW hN, g_gl_call hG.2 hS hFc hU hW⟩⟩ rfl rfl hl.1 rfl (lv_room hW) hd hf) hS (fun q _ h => hFc q h) hFc (fun r w t H1 locs1 ht hvm hp hB hz hk1 hS1 => ?_)
  obtain ⟨hP1, hD1⟩ := hB
  rw [ht] at hP1
  have k1 := kk r w hp H1 locs1 ls (g_rep_P hC (hadr r w hp) hP hD hk1 hP1) (g_rep_D hC (hadr r w hp) hD) hS1 hl
  rw [hE] at k1
  exact k1
theorem g_cNiW {ret : Option FieldType} {host : String} {post : Int32 → va_W → Prop} (cx : g_cx X E nL l R cc own ini) (As st : List Value) (hM : g_Ci l X y b ml ret d mc ms As ws post) (hw : Cond.methodLinkNest own idx y host ∈ lw_tbl) (hy : g_yS y b ml ret As.length) (hd : g_dc cc pc (.invokestatic idx) 3 pc') (hR : g_rr R d ml) (hf : k + mc ≤ R.cells ∧ n + ms ≤ R.slots) (hst : st0 = As.reverse ++ st) (hW : (st.map fun v => v.category).sum ≤ 8)
    (kk : ∀ r w, post r w → G X E nL (k + mc) (n + ms) w lv pc' (.int r :: st)) : G X E nL k n ws lv pc st0 := by
  obtain ⟨p, e, s, args, below, meth, c, Q, hE, hx, hb, hml, hown, hts, hK, hN, hG, hA, hini⟩ := cx
  obtain ⟨hd, rfl⟩ := hd
  subst hst
  intro H locs ls hP hD hS hl
  rw [hE]
  have hPc : va_P X.1.1 vwCl ws H := hP
  have hDc := hD
  have hFc := va_free (wc := ws) hD hS hA (List.range ws.length) (g_all ws)
  have hgood : GoodIn gT (gW y b ml ret) := g_good (fun w h => by
    rcases List.mem_cons.mp h with rfl | h
    · exact hy.2.2.1
    · exact h)
  refine va_calli (va_runSN (host := host) (As := As) (rest := st) ⟨hx, hb, hml, hown, hts⟩ (hM H.size) ⟨va_cnB As.length hts hgood rfl rfl rfl (hN _ hw rfl) (hts _ hy.2.1) hy.2.2.2 hR, hts _ hy.1, trivial⟩ ⟨g_pc_ok, fun U hU hW => ⟨rfl, by rw [hU], by rw [hU]; exact hPc, va_K.moved hW.alike hK, hDc.weaken (fun _ _ _ _ => trivial), g_nf_warm hW hN, g_gl_call hG.2 hS hFc hU hW⟩⟩ rfl rfl hl.1 rfl (lv_room hW) hd hf) hS (fun q _ h => hFc q h) hFc (fun r w t H1 locs1 ht hvm hp hB hz hk1 hS1 => ?_)
  obtain ⟨hP1, hD1⟩ := hB
  rw [ht] at hP1
  have k1 := kk r w hp H1 locs1 ls hP1 (hD1.weaken (fun _ q _ h => hFc q.1 h)) hS1 hl
  rw [hE] at k1
  exact k1
theorem g_cI {post : va_W → Prop} (cx : g_cx X E nL l R cc own ini) (As st : List Value) {a : Nat} (hM : g_Cv l X y b ml d mc ms (.ref a :: As) wc post) (hw : Cond.methodLink own idx y ∈ gT) (hy : g_yI y b ml As.length) (hd : g_dc cc pc (.invokespecial idx) 3 pc') (hR : g_rr R d ml) (hf : k + mc ≤ R.cells ∧ n + ms ≤ R.slots) (isC : List Nat) (hC : isC.map (fun i => ws[i]?) = wc.map some) (hnd : va_nd isC = true) (hst : st0 = As.reverse ++ .ref a :: st) (hW : (st.map fun v => v.category).sum ≤ 8) (hadr : ∀ w, post w → w.map (·.1) = wc.map (·.1))
    (kk : ∀ w, post w → G X E nL (k + mc) (n + ms) (g_rep ws isC w) lv pc' (st)) : G X E nL k n ws lv pc st0 := by
  obtain ⟨p, e, s, args, below, meth, c, Q, hE, hx, hb, hml, hown, hts, hK, hN, hG, hA, hini⟩ := cx
  obtain ⟨hd, rfl⟩ := hd
  subst hst
  intro H locs ls hP hD hS hl
  rw [hE]
  have hPc : va_P X.1.1 vwCl wc H := g_P_of hC hP
  have hDc := hD.sub isC hnd hC
  have hFc := va_free (wc := wc) hD hS hA isC hC
  have hgood : GoodIn gT (gW y b ml none) := g_good (fun w h => by
    rcases List.mem_cons.mp h with rfl | h
    · exact hy.2.2.1
    · exact h)
  refine va_callv (va_runI (As := As) (rest := st) ⟨hx, hb, hml, hown, hts⟩ (hM H.size) (cwI As.length hts hgood rfl rfl rfl (hts _ hy.2.1) (hts _ hw) (hts _ hy.1) hy.2.2.2.1 hy.2.2.2.2 hR) ⟨g_pc_ok, fun U hU hW => ⟨rfl, by rw [hU], by rw [hU]; exact hPc, va_K.moved hW.alike hK, hDc.weaken (fun _ _ _ _ => trivial), g_nf_warm hW hN, g_gl_call hG.2 hS hFc hU hW⟩⟩ rfl rfl hl.1 rfl (lv_room hW) hd hf) hS (fun q _ h => hFc q h) hFc (fun w t H1 locs1 ht hvm hp hB hz hk1 hS1 => ?_)
  obtain ⟨hP1, hD1⟩ := hB
  rw [ht] at hP1
  have k1 := kk w hp H1 locs1 ls (g_rep_P hC (hadr w hp) hP hD hk1 hP1) (g_rep_D hC (hadr w hp) hD) hS1 hl
  rw [hE] at k1
  exact k1
theorem g_cIW {post : va_W → Prop} (cx : g_cx X E nL l R cc own ini) (As st : List Value) {a : Nat} (hM : g_Cv l X y b ml d mc ms (.ref a :: As) ws post) (hw : Cond.methodLink own idx y ∈ gT) (hy : g_yI y b ml As.length) (hd : g_dc cc pc (.invokespecial idx) 3 pc') (hR : g_rr R d ml) (hf : k + mc ≤ R.cells ∧ n + ms ≤ R.slots) (hst : st0 = As.reverse ++ .ref a :: st) (hW : (st.map fun v => v.category).sum ≤ 8)
    (kk : ∀ w, post w → G X E nL (k + mc) (n + ms) w lv pc' (st)) : G X E nL k n ws lv pc st0 := by
  obtain ⟨p, e, s, args, below, meth, c, Q, hE, hx, hb, hml, hown, hts, hK, hN, hG, hA, hini⟩ := cx
  obtain ⟨hd, rfl⟩ := hd
  subst hst
  intro H locs ls hP hD hS hl
  rw [hE]
  have hPc : va_P X.1.1 vwCl ws H := hP
  have hDc := hD
  have hFc := va_free (wc := ws) hD hS hA (List.range ws.length) (g_all ws)
  have hgood : GoodIn gT (gW y b ml none) := g_good (fun w h => by
    rcases List.mem_cons.mp h with rfl | h
    · exact hy.2.2.1
    · exact h)
  refine va_callv (va_runI (As := As) (rest := st) ⟨hx, hb, hml, hown, hts⟩ (hM H.size) (cwI As.length hts hgood rfl rfl rfl (hts _ hy.2.1) (hts _ hw) (hts _ hy.1) hy.2.2.2.1 hy.2.2.2.2 hR) ⟨g_pc_ok, fun U hU hW => ⟨rfl, by rw [hU], by rw [hU]; exact hPc, va_K.moved hW.alike hK, hDc.weaken (fun _ _ _ _ => trivial), g_nf_warm hW hN, g_gl_call hG.2 hS hFc hU hW⟩⟩ rfl rfl hl.1 rfl (lv_room hW) hd hf) hS (fun q _ h => hFc q h) hFc (fun w t H1 locs1 ht hvm hp hB hz hk1 hS1 => ?_)
  obtain ⟨hP1, hD1⟩ := hB
  rw [ht] at hP1
  have k1 := kk w hp H1 locs1 ls hP1 (hD1.weaken (fun _ q _ h => hFc q.1 h)) hS1 hl
  rw [hE] at k1
  exact k1
theorem g_cIN {host : String} {post : va_W → Prop} (cx : g_cx X E nL l R cc own ini) (As st : List Value) {a : Nat} (hM : g_Cv l X y b ml d mc ms (.ref a :: As) wc post) (hw : Cond.methodLinkNest own idx y host ∈ lw_tbl) (hy : g_yI y b ml As.length) (hd : g_dc cc pc (.invokespecial idx) 3 pc') (hR : g_rr R d ml) (hf : k + mc ≤ R.cells ∧ n + ms ≤ R.slots) (isC : List Nat) (hC : isC.map (fun i => ws[i]?) = wc.map some) (hnd : va_nd isC = true) (hst : st0 = As.reverse ++ .ref a :: st) (hW : (st.map fun v => v.category).sum ≤ 8) (hadr : ∀ w, post w → w.map (·.1) = wc.map (·.1))
    (kk : ∀ w, post w → G X E nL (k + mc) (n + ms) (g_rep ws isC w) lv pc' (st)) : G X E nL k n ws lv pc st0 := by
  obtain ⟨p, e, s, args, below, meth, c, Q, hE, hx, hb, hml, hown, hts, hK, hN, hG, hA, hini⟩ := cx
  obtain ⟨hd, rfl⟩ := hd
  subst hst
  intro H locs ls hP hD hS hl
  rw [hE]
  have hPc : va_P X.1.1 vwCl wc H := g_P_of hC hP
  have hDc := hD.sub isC hnd hC
  have hFc := va_free (wc := wc) hD hS hA isC hC
  have hgood : GoodIn gT (gW y b ml none) := g_good (fun w h => by
    rcases List.mem_cons.mp h with rfl | h
    · exact hy.2.2.1
    · exact h)
  refine va_callv (va_runIN (host := host) (As := As) (rest := st) ⟨hx, hb, hml, hown, hts⟩ (hM H.size) ⟨va_cnB As.length hts hgood rfl rfl rfl (hN _ hw rfl) (hts _ hy.2.1) hy.2.2.2.2 hR, hy.2.2.2.1, hts _ hy.1⟩ ⟨g_pc_ok, fun U hU hW => ⟨rfl, by rw [hU], by rw [hU]; exact hPc, va_K.moved hW.alike hK, hDc.weaken (fun _ _ _ _ => trivial), g_nf_warm hW hN, g_gl_call hG.2 hS hFc hU hW⟩⟩ rfl rfl hl.1 rfl (lv_room hW) hd hf) hS (fun q _ h => hFc q h) hFc (fun w t H1 locs1 ht hvm hp hB hz hk1 hS1 => ?_)
  obtain ⟨hP1, hD1⟩ := hB
  rw [ht] at hP1
  have k1 := kk w hp H1 locs1 ls (g_rep_P hC (hadr w hp) hP hD hk1 hP1) (g_rep_D hC (hadr w hp) hD) hS1 hl
  rw [hE] at k1
  exact k1
theorem g_cINW {host : String} {post : va_W → Prop} (cx : g_cx X E nL l R cc own ini) (As st : List Value) {a : Nat} (hM : g_Cv l X y b ml d mc ms (.ref a :: As) ws post) (hw : Cond.methodLinkNest own idx y host ∈ lw_tbl) (hy : g_yI y b ml As.length) (hd : g_dc cc pc (.invokespecial idx) 3 pc') (hR : g_rr R d ml) (hf : k + mc ≤ R.cells ∧ n + ms ≤ R.slots) (hst : st0 = As.reverse ++ .ref a :: st) (hW : (st.map fun v => v.category).sum ≤ 8)
    (kk : ∀ w, post w → G X E nL (k + mc) (n + ms) w lv pc' (st)) : G X E nL k n ws lv pc st0 := by
  obtain ⟨p, e, s, args, below, meth, c, Q, hE, hx, hb, hml, hown, hts, hK, hN, hG, hA, hini⟩ := cx
  obtain ⟨hd, rfl⟩ := hd
  subst hst
  intro H locs ls hP hD hS hl
  rw [hE]
  have hPc : va_P X.1.1 vwCl ws H := hP
  have hDc := hD
  have hFc := va_free (wc := ws) hD hS hA (List.range ws.length) (g_all ws)
  have hgood : GoodIn gT (gW y b ml none) := g_good (fun w h => by
    rcases List.mem_cons.mp h with rfl | h
    · exact hy.2.2.1
    · exact h)
  refine va_callv (va_runIN (host := host) (As := As) (rest := st) ⟨hx, hb, hml, hown, hts⟩ (hM H.size) ⟨va_cnB As.length hts hgood rfl rfl rfl (hN _ hw rfl) (hts _ hy.2.1) hy.2.2.2.2 hR, hy.2.2.2.1, hts _ hy.1⟩ ⟨g_pc_ok, fun U hU hW => ⟨rfl, by rw [hU], by rw [hU]; exact hPc, va_K.moved hW.alike hK, hDc.weaken (fun _ _ _ _ => trivial), g_nf_warm hW hN, g_gl_call hG.2 hS hFc hU hW⟩⟩ rfl rfl hl.1 rfl (lv_room hW) hd hf) hS (fun q _ h => hFc q h) hFc (fun w t H1 locs1 ht hvm hp hB hz hk1 hS1 => ?_)
  obtain ⟨hP1, hD1⟩ := hB
  rw [ht] at hP1
  have k1 := kk w hp H1 locs1 ls hP1 (hD1.weaken (fun _ q _ h => hFc q.1 h)) hS1 hl
  rw [hE] at k1
  exact k1
end GCB
