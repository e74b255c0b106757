section GGL
variable {X : gX} {E : gE} {nL k n : Nat} {l : Launch} {R : Room} {cc : ByteArray} {own : String} {ini : Prop} {ws : va_W} {lv : List (Nat × Value)} {pc pc' : Nat} {st st0 : List Value}
variable {y : MethodName} {b : ByteArray} {ml d mc ms idx : Nat} {wc : va_W}

theorem g_gsL (cx : g_cx X E nL l R cc own ini) {i : Nat} {host : String} (hw : Cond.fieldLinkNest own i "ClothPull" "LAW_LEAST" "[I" host ∈ lw_tbl) (hd : g_dc cc pc (.getstatic i) 3 pc') (kk : G X E nL k n ws lv pc' (.ref X.1.2.1 :: st)) : G X E nL k n ws lv pc (st) := by
  obtain ⟨p, e, s, args, below, meth, c, Q, hE, hx, hb, hml, hown, hts, hK, hN, hG, hA, hini⟩ := cx
  obtain ⟨hd, rfl⟩ := hd
  obtain ⟨hh, h1, h2, h3, h4, h5, h6, h7, h8⟩ := hG
  intro H locs ls hP hD hS hl0
  have k1 := kk H locs ls hP hD hS hl0
  rw [hE] at k1 ⊢
  rw [← hh] at h1 h2 h3 h4 h5 h6 hS
  exact va_getsN hx hb h1 hS hown (va_Nw.use rfl (hN _ hw rfl)) (fun _ h => h) hd k1
theorem g_tlL (cx : g_cx X E nL l R cc own ini) {i : Int32} (hin : vp_in i 6) (hd : g_dc cc pc .iaload 1 pc') (kk : G X E nL k n ws lv pc' (.int (g_least.getD i.toNatClampNeg 0) :: st)) : G X E nL k n ws lv pc (.int i :: .ref X.1.2.1 :: st) := by
  obtain ⟨p, e, s, args, below, meth, c, Q, hE, hx, hb, hml, hown, hts, hK, hN, hG, hA, hini⟩ := cx
  obtain ⟨hd, rfl⟩ := hd
  obtain ⟨hh, h1, h2, h3, h4, h5, h6, h7, h8⟩ := hG
  intro H locs ls hP hD hS hl0
  have k1 := kk H locs ls hP hD hS hl0
  rw [hE] at k1 ⊢
  rw [← hh] at h1 h2 h3 h4 h5 h6 hS
  exact va_ti hx hb h2 hS hin rfl hd k1
theorem g_gsM (cx : g_cx X E nL l R cc own ini) {i : Nat} {host : String} (hw : Cond.fieldLinkNest own i "ClothPull" "LAW_MOST" "[I" host ∈ lw_tbl) (hd : g_dc cc pc (.getstatic i) 3 pc') (kk : G X E nL k n ws lv pc' (.ref X.1.2.2.1 :: st)) : G X E nL k n ws lv pc (st) := by
  obtain ⟨p, e, s, args, below, meth, c, Q, hE, hx, hb, hml, hown, hts, hK, hN, hG, hA, hini⟩ := cx
  obtain ⟨hd, rfl⟩ := hd
  obtain ⟨hh, h1, h2, h3, h4, h5, h6, h7, h8⟩ := hG
  intro H locs ls hP hD hS hl0
  have k1 := kk H locs ls hP hD hS hl0
  rw [hE] at k1 ⊢
  rw [← hh] at h1 h2 h3 h4 h5 h6 hS
  exact va_getsN hx hb h3 hS hown (va_Nw.use rfl (hN _ hw rfl)) (fun _ h => h) hd k1
theorem g_tlM (cx : g_cx X E nL l R cc own ini) {i : Int32} (hin : vp_in i 6) (hd : g_dc cc pc .iaload 1 pc') (kk : G X E nL k n ws lv pc' (.int (g_most.getD i.toNatClampNeg 0) :: st)) : G X E nL k n ws lv pc (.int i :: .ref X.1.2.2.1 :: st) := by
  obtain ⟨p, e, s, args, below, meth, c, Q, hE, hx, hb, hml, hown, hts, hK, hN, hG, hA, hini⟩ := cx
  obtain ⟨hd, rfl⟩ := hd
  obtain ⟨hh, h1, h2, h3, h4, h5, h6, h7, h8⟩ := hG
  intro H locs ls hP hD hS hl0
  have k1 := kk H locs ls hP hD hS hl0
  rw [hE] at k1 ⊢
  rw [← hh] at h1 h2 h3 h4 h5 h6 hS
  exact va_ti hx hb h4 hS hin rfl hd k1
theorem g_ldcS0 (cx : g_cx X E nL l R cc own ini) (ho : own = "ClothPull$LawReader") (hd : g_dc cc pc (.ldc 50) 2 pc') (kk : G X E nL k n ws lv pc' (.ref (X.1.2.2.2.1 0) :: st)) : G X E nL k n ws lv pc (st) := by
  obtain ⟨p, e, s, args, below, meth, c, Q, hE, hx, hb, hml, hown, hts, hK, hN, hG, hA, hini⟩ := cx
  obtain ⟨hd, rfl⟩ := hd
  obtain ⟨hh, h1, h2, h3, h4, h5, h6, h7, h8⟩ := hG
  intro H locs ls hP hD hS hl0
  have k1 := kk H locs ls hP hD hS hl0
  rw [hE] at k1 ⊢
  rw [← hh] at h1 h2 h3 h4 h5 h6 hS
  exact va_ldcS hx hb (own := own) hown (by rw [ho]; exact h7) hd k1
theorem g_ldcS1 (cx : g_cx X E nL l R cc own ini) (ho : own = "ClothPull$LawReader") (hd : g_dc cc pc (.ldc 109) 2 pc') (kk : G X E nL k n ws lv pc' (.ref (X.1.2.2.2.1 1) :: st)) : G X E nL k n ws lv pc (st) := by
  obtain ⟨p, e, s, args, below, meth, c, Q, hE, hx, hb, hml, hown, hts, hK, hN, hG, hA, hini⟩ := cx
  obtain ⟨hd, rfl⟩ := hd
  obtain ⟨hh, h1, h2, h3, h4, h5, h6, h7, h8⟩ := hG
  intro H locs ls hP hD hS hl0
  have k1 := kk H locs ls hP hD hS hl0
  rw [hE] at k1 ⊢
  rw [← hh] at h1 h2 h3 h4 h5 h6 hS
  exact va_ldcS hx hb (own := own) hown (by rw [ho]; exact h8) hd k1
theorem g_strv (cx : g_cx X E nL l R cc own ini) {i : Nat} (j : Nat) (hj : j < 2) (hw : Cond.fieldLink own i "java/lang/String" "value" "[B" ∈ gT) (hd : g_dc cc pc (.getfield i) 3 pc') (kk : G X E nL k n ws lv pc' (.ref (X.1.2.2.2.2 j) :: st)) : G X E nL k n ws lv pc (.ref (X.1.2.2.2.1 j) :: st) := by
  obtain ⟨p, e, s, args, below, meth, c, Q, hE, hx, hb, hml, hown, hts, hK, hN, hG, hA, hini⟩ := cx
  obtain ⟨hd, rfl⟩ := hd
  obtain ⟨hh, h1, h2, h3, h4, h5, h6, h7, h8⟩ := hG
  intro H locs ls hP hD hS hl0
  have k1 := kk H locs ls hP hD hS hl0
  rw [hE] at k1 ⊢
  rw [← hh] at h1 h2 h3 h4 h5 h6 hS
  exact vk_getf hx hb (h6.1 j hj).2.2.1 hS hown (hts _ hw) (fun _ h => h) hd k1
theorem g_strc (cx : g_cx X E nL l R cc own ini) {i : Nat} (j : Nat) (hj : j < 2) (hw : Cond.fieldLink own i "java/lang/String" "coder" "B" ∈ gT) (hd : g_dc cc pc (.getfield i) 3 pc') (kk : G X E nL k n ws lv pc' (.int 0 :: st)) : G X E nL k n ws lv pc (.ref (X.1.2.2.2.1 j) :: st) := by
  obtain ⟨p, e, s, args, below, meth, c, Q, hE, hx, hb, hml, hown, hts, hK, hN, hG, hA, hini⟩ := cx
  obtain ⟨hd, rfl⟩ := hd
  obtain ⟨hh, h1, h2, h3, h4, h5, h6, h7, h8⟩ := hG
  intro H locs ls hP hD hS hl0
  have k1 := kk H locs ls hP hD hS hl0
  rw [hE] at k1 ⊢
  rw [← hh] at h1 h2 h3 h4 h5 h6 hS
  exact vk_getf hx hb (h6.1 j hj).2.1 hS hown (hts _ hw) (fun _ h => h) hd k1
theorem g_strs (cx : g_cx X E nL l R cc own ini) {i : Nat} (hw : Cond.fieldLink own i "java/lang/String" "COMPACT_STRINGS" "Z" ∈ gT) (hd : g_dc cc pc (.getstatic i) 3 pc') (kk : G X E nL k n ws lv pc' (.int 1 :: st)) : G X E nL k n ws lv pc (st) := by
  obtain ⟨p, e, s, args, below, meth, c, Q, hE, hx, hb, hml, hown, hts, hK, hN, hG, hA, hini⟩ := cx
  obtain ⟨hd, rfl⟩ := hd
  obtain ⟨hh, h1, h2, h3, h4, h5, h6, h7, h8⟩ := hG
  intro H locs ls hP hD hS hl0
  have k1 := kk H locs ls hP hD hS hl0
  rw [hE] at k1 ⊢
  rw [← hh] at h1 h2 h3 h4 h5 h6 hS
  exact va_gets hx hb h5 hS hown (hts _ hw) (fun _ h => h) hd k1
theorem g_strn (cx : g_cx X E nL l R cc own ini) (j : Nat) (hj : j < 2) (v : Int32) (hv : Int32.ofNat (g_len.getD j 0) = v) (hd : g_dc cc pc .arraylength 1 pc') (kk : G X E nL k n ws lv pc' (.int v :: st)) : G X E nL k n ws lv pc (.ref (X.1.2.2.2.2 j) :: st) := by
  obtain ⟨p, e, s, args, below, meth, c, Q, hE, hx, hb, hml, hown, hts, hK, hN, hG, hA, hini⟩ := cx
  obtain ⟨hd, rfl⟩ := hd
  obtain ⟨hh, h1, h2, h3, h4, h5, h6, h7, h8⟩ := hG
  intro H locs ls hP hD hS hl0
  have k1 := kk H locs ls hP hD hS hl0
  rw [hE] at k1 ⊢
  rw [← hh] at h1 h2 h3 h4 h5 h6 hS
  exact va_tlen hx hb (h6.1 j hj).2.2.2 hS hv hd k1
theorem g_strb (cx : g_cx X E nL l R cc own ini) (j : Nat) (hj : j < 2) {i : Int32} (hin : vp_in i (g_len.getD j 0)) (hd : g_dc cc pc .baload 1 pc') (kk : G X E nL k n ws lv pc' (.int ((g_byt.getD j []).getD i.toNatClampNeg 0) :: st)) : G X E nL k n ws lv pc (.int i :: .ref (X.1.2.2.2.2 j) :: st) := by
  obtain ⟨p, e, s, args, below, meth, c, Q, hE, hx, hb, hml, hown, hts, hK, hN, hG, hA, hini⟩ := cx
  obtain ⟨hd, rfl⟩ := hd
  obtain ⟨hh, h1, h2, h3, h4, h5, h6, h7, h8⟩ := hG
  intro H locs ls hP hD hS hl0
  have k1 := kk H locs ls hP hD hS hl0
  rw [hE] at k1 ⊢
  rw [← hh] at h1 h2 h3 h4 h5 h6 hS
  exact va_tb hx hb (h6.1 j hj).2.2.2 hS hin rfl hd k1
theorem g_cVsW {ret : Option FieldType} {post : Int32 → va_W → Prop} (cx : g_cx X E nL l R cc own ini) (As st : List Value) (j : Nat) (hj : j < 2) (hyc : y.cls = "java/lang/String") (hM : g_Ci l X y b ml ret d mc ms (.ref (X.1.2.2.2.1 j) :: As) ws post) (hw : Cond.methodLink own idx y ∈ gT) (hy : g_yV y b ml ret As.length) (hd : g_dc cc pc (.invokevirtual idx) 3 pc') (hR : g_rr R d ml) (hf : k + mc ≤ R.cells ∧ n + ms ≤ R.slots)  (hst : st0 = As.reverse ++ .ref (X.1.2.2.2.1 j) :: st) (hW : (st.map fun v => v.category).sum ≤ 8)
    (kk : ∀ r w, post r w → G X E nL (k + mc) (n + ms) w lv pc' (.int r :: st)) : G X E nL k n ws lv pc st0 := by
  obtain ⟨p, e, s, args, below, meth, c, Q, hE, hx, hb, hml, hown, hts, hK, hN, hG, hA, hini⟩ := cx
  obtain ⟨hd, rfl⟩ := hd
  subst hst
  have hh := hG.1
  have h6 := hG.2.2.2.2.2.2.1
  intro H locs ls hP hD hS hl
  rw [hE]
  have hPc : va_P X.1.1 vwCl ws H := hP
  have hDc := hD
  have hFc := va_free (wc := ws) hD hS hA (List.range ws.length) (g_all ws)
  have hgood : GoodIn gT (wsV own idx y.cls y (gW y b ml ret)) := g_good (fun w h => by
    simp only [wsV, gW, List.mem_append, List.mem_cons, List.not_mem_nil, or_false] at h
    rcases h with (rfl | rfl | rfl | rfl) | rfl | h
    · exact hw
    · exact hy.1
    · exact hy.2.1
    · exact hy.2.2.1
    · exact hy.2.2.2.1
    · exact h)
  refine va_calli (va_runV (As := As) (rest := st) ⟨hx, hb, hml, hown, hts⟩ (hM H.size) (cwV As.length hts hgood rfl rfl rfl ⟨rfl, hy.2.2.2.2⟩ hR) ⟨g_pc_ok, (by rw [hyc]; rw [← hh] at h6 hS; exact vk_recv h6 hj hS), fun U hU hW => ⟨rfl, by rw [hU], by rw [hU]; exact hPc, va_K.moved hW.alike hK, hDc.weaken (fun _ _ _ _ => trivial), g_nf_warm hW hN, g_gl_call hG.2 hS hFc hU hW⟩⟩ rfl rfl hl.1 rfl (lv_room hW) hd hf) hS (fun q _ h => hFc q h) hFc (fun r w t H1 locs1 ht hvm hp hB hz hk1 hS1 => ?_)
  obtain ⟨hP1, hD1⟩ := hB
  rw [ht] at hP1
  have k1 := kk r w hp H1 locs1 ls hP1 (hD1.weaken (fun _ q _ h => hFc q.1 h)) hS1 hl
  rw [hE] at k1
  exact k1
end GGL
def RJ0 : String := "java/lang/String"
def RJ1 : String := "java/lang/StringLatin1"
abbrev cJ0_length_8abf5 : ByteArray := prog_17_method_54_code
def yJ0_length_8abf5 : MethodName := ⟨RJ0, "length", "()I"⟩
abbrev cJ0_indexOf_0f7a4 : ByteArray := prog_17_method_79_code
def yJ0_indexOf_0f7a4 : MethodName := ⟨RJ0, "indexOf", "(I)I"⟩
abbrev cJ0_indexOf_7cf53 : ByteArray := prog_17_method_80_code
def yJ0_indexOf_7cf53 : MethodName := ⟨RJ0, "indexOf", "(II)I"⟩
abbrev cJ0_coder_7d493 : ByteArray := prog_17_method_152_code
def yJ0_coder_7d493 : MethodName := ⟨RJ0, "coder", "()B"⟩
abbrev cJ0_isLatin1_aae02 : ByteArray := prog_17_method_154_code
def yJ0_isLatin1_aae02 : MethodName := ⟨RJ0, "isLatin1", "()Z"⟩
abbrev cJ0_checkBoundsBeginEnd_23922 : ByteArray := prog_17_method_158_code
def yJ0_checkBoundsBeginEnd_23922 : MethodName := ⟨RJ0, "checkBoundsBeginEnd", "(III)V"⟩
abbrev cJ1_canEncode_9a6ad : ByteArray := prog_18_method_4_code
def yJ1_canEncode_9a6ad : MethodName := ⟨RJ1, "canEncode", "(I)Z"⟩
abbrev cJ1_indexOf_4cfef : ByteArray := prog_18_method_22_code
def yJ1_indexOf_4cfef : MethodName := ⟨RJ1, "indexOf", "([BIII)I"⟩
abbrev cJ1_indexOfChar_4cfef : ByteArray := prog_18_method_23_code
def yJ1_indexOfChar_4cfef : MethodName := ⟨RJ1, "indexOfChar", "([BIII)I"⟩
theorem fl_J0_9 : Cond.fieldLink RJ0 9 "java/lang/String" "value" "[B" ∈ gT := g_k8 30 rfl rfl
theorem fl_J0_15 : Cond.fieldLink RJ0 15 "java/lang/String" "coder" "B" ∈ gT := g_k8 29 rfl rfl
theorem fl_J0_38 : Cond.fieldLink RJ0 38 "java/lang/String" "COMPACT_STRINGS" "Z" ∈ gT := g_k3 25 rfl rfl
theorem ml_X3_52 : Cond.methodLink RX3 52 yJ0_indexOf_0f7a4 ∈ gT := g_k3 13 rfl rfl
theorem ml_J0_633 : Cond.methodLink RJ0 633 yJ0_indexOf_7cf53 ∈ gT := g_k3 17 rfl rfl
theorem ml_J0_492 : Cond.methodLink RJ0 492 yJ0_isLatin1_aae02 ∈ gT := g_k3 21 rfl rfl
theorem ml_J0_505 : Cond.methodLink RJ0 505 yJ0_length_8abf5 ∈ gT := g_k3 27 rfl rfl
theorem ml_J0_335 : Cond.methodLink RJ0 335 yJ0_coder_7d493 ∈ gT := g_k3 31 rfl rfl
theorem ml_J0_637 : Cond.methodLink RJ0 637 yJ1_indexOf_4cfef ∈ gT := g_k3 35 rfl rfl
theorem ml_J1_88 : Cond.methodLink RJ1 88 yJ1_canEncode_9a6ad ∈ gT := g_k3 38 rfl rfl
theorem ml_J1_95 : Cond.methodLink RJ1 95 yJ1_indexOfChar_4cfef ∈ gT := g_k3 47 rfl rfl
theorem ml_J1_92 : Cond.methodLink RJ1 92 Lib.Math.max.name ∈ gT := g_k3 41 rfl rfl
theorem ml_J1_38 : Cond.methodLink RJ1 38 Lib.Math.min.name ∈ gT := g_k3 44 rfl rfl
theorem yV_J0_indexOf_0f7a4 : g_yV yJ0_indexOf_0f7a4 cJ0_indexOf_0f7a4 2 (some .int) 1 := ⟨g_k3 14 rfl rfl, g_k3 15 rfl rfl, g_k1 14 rfl rfl, g_k3 16 rfl rfl, by decide +kernel, by decide +kernel, by decide +kernel⟩
theorem yV_J0_indexOf_7cf53 : g_yV yJ0_indexOf_7cf53 cJ0_indexOf_7cf53 3 (some .int) 2 := ⟨g_k3 18 rfl rfl, g_k3 19 rfl rfl, g_k1 14 rfl rfl, g_k3 20 rfl rfl, by decide +kernel, by decide +kernel, by decide +kernel⟩
theorem yV_J0_isLatin1_aae02 : g_yV yJ0_isLatin1_aae02 cJ0_isLatin1_aae02 1 (some .boolean) 0 := ⟨g_k3 22 rfl rfl, g_k3 23 rfl rfl, g_k1 14 rfl rfl, g_k3 24 rfl rfl, by decide +kernel, by decide +kernel, by decide +kernel⟩
theorem yV_J0_length_8abf5 : g_yV yJ0_length_8abf5 cJ0_length_8abf5 1 (some .int) 0 := ⟨g_k3 28 rfl rfl, g_k3 29 rfl rfl, g_k1 14 rfl rfl, g_k3 30 rfl rfl, by decide +kernel, by decide +kernel, by decide +kernel⟩
theorem yV_J0_coder_7d493 : g_yV yJ0_coder_7d493 cJ0_coder_7d493 1 (some .byte) 0 := ⟨g_k3 32 rfl rfl, g_k3 33 rfl rfl, g_k1 14 rfl rfl, g_k3 34 rfl rfl, by decide +kernel, by decide +kernel, by decide +kernel⟩
theorem yS_J1_indexOf_4cfef : g_yS yJ1_indexOf_4cfef cJ1_indexOf_4cfef 4 (some .int) 4 := ⟨g_k3 36 rfl rfl, g_k1 15 rfl rfl, g_k3 37 rfl rfl, by decide +kernel, by decide +kernel, by decide +kernel⟩
theorem yS_J1_canEncode_9a6ad : g_yS yJ1_canEncode_9a6ad cJ1_canEncode_9a6ad 1 (some .boolean) 1 := ⟨g_k3 39 rfl rfl, g_k1 15 rfl rfl, g_k3 40 rfl rfl, by decide +kernel, by decide +kernel, by decide +kernel⟩
theorem yS_J1_indexOfChar_4cfef : g_yS yJ1_indexOfChar_4cfef cJ1_indexOfChar_4cfef 6 (some .int) 4 := ⟨g_k3 48 rfl rfl, g_k1 15 rfl rfl, g_k3 49 rfl rfl, by decide +kernel, by decide +kernel, by decide +kernel⟩
theorem jv_c {x : Int32} {a b : Int} (y : Int32) (h : jv a b x) (hh : a = y.toInt ∧ b = y.toInt) : x = y := by
  unfold jv at h
  exact Int32.toInt_inj.mp (by omega)
def sp_J0_coder_7d493_s0  : Int32 :=
  0
theorem e_J0_coder_7d493_0 : g_dc cJ0_coder_7d493 0 (.getstatic 38) 3 3 := ⟨by decide +kernel, rfl⟩
theorem e_J0_coder_7d493_3 : g_dc cJ0_coder_7d493 3 (.ifCond .eq 10) 3 6 := ⟨by decide +kernel, rfl⟩
theorem e_J0_coder_7d493_6 : g_dc cJ0_coder_7d493 6 (.aload_n 0) 1 7 := ⟨by decide +kernel, rfl⟩
theorem e_J0_coder_7d493_7 : g_dc cJ0_coder_7d493 7 (.getfield 15) 3 10 := ⟨by decide +kernel, rfl⟩
theorem e_J0_coder_7d493_10 : g_dc cJ0_coder_7d493 10 (.goto 4) 3 13 := ⟨by decide +kernel, rfl⟩
theorem e_J0_coder_7d493_14 : g_dc cJ0_coder_7d493 14 (.ireturn) 1 15 := ⟨by decide +kernel, rfl⟩
set_option maxHeartbeats 4000000 in
set_option maxRecDepth 100000 in
theorem w_J0_coder_7d493_s0 (l : Launch) (X : gX) (ws : va_W) : g_Ci l X yJ0_coder_7d493 cJ0_coder_7d493 1 (some .byte) 1 0 0 [.ref (X.1.2.2.2.1 0)] ws (fun r w => w = ws ∧ jv 0 0 r ∧ r = sp_J0_coder_7d493_s0) := by
  refine g_mi (by decide +kernel) (Nat.le_of_ble_eq_true rfl) (fun E cx hret => ?_)
  obtain ⟨SP, hSP⟩ : ∃ z, z = sp_J0_coder_7d493_s0 := ⟨_, rfl⟩
  have hk0 := hSP
  unfold sp_J0_coder_7d493_s0 at hk0
  refine g_strs cx fl_J0_38 e_J0_coder_7d493_0 ?_
  refine g_if_eq_f cx 13 e_J0_coder_7d493_3 (by decide) (by decide) ?_
  refine g_aload_n cx 0 rfl e_J0_coder_7d493_6 ?_
  refine g_strc cx 0 (by decide) fl_J0_15 e_J0_coder_7d493_7 ?_
  refine g_goto cx 14 e_J0_coder_7d493_10 (by decide) ?_
  exact hret e_J0_coder_7d493_14 (Nat.le_of_ble_eq_true rfl) (Nat.le_of_ble_eq_true rfl) rfl ⟨rfl, (jv_k (x := 0) 0 (by decide)), (hk0.symm.trans hSP)⟩
def sp_J0_isLatin1_aae02_s0  : Int32 :=
  1
theorem e_J0_isLatin1_aae02_0 : g_dc cJ0_isLatin1_aae02 0 (.getstatic 38) 3 3 := ⟨by decide +kernel, rfl⟩
theorem e_J0_isLatin1_aae02_3 : g_dc cJ0_isLatin1_aae02 3 (.ifCond .eq 14) 3 6 := ⟨by decide +kernel, rfl⟩
theorem e_J0_isLatin1_aae02_6 : g_dc cJ0_isLatin1_aae02 6 (.aload_n 0) 1 7 := ⟨by decide +kernel, rfl⟩
theorem e_J0_isLatin1_aae02_7 : g_dc cJ0_isLatin1_aae02 7 (.getfield 15) 3 10 := ⟨by decide +kernel, rfl⟩
theorem e_J0_isLatin1_aae02_10 : g_dc cJ0_isLatin1_aae02 10 (.ifCond .ne 7) 3 13 := ⟨by decide +kernel, rfl⟩
theorem e_J0_isLatin1_aae02_13 : g_dc cJ0_isLatin1_aae02 13 (.iconst 1) 1 14 := ⟨by decide +kernel, rfl⟩
theorem e_J0_isLatin1_aae02_14 : g_dc cJ0_isLatin1_aae02 14 (.goto 4) 3 17 := ⟨by decide +kernel, rfl⟩
theorem e_J0_isLatin1_aae02_18 : g_dc cJ0_isLatin1_aae02 18 (.ireturn) 1 19 := ⟨by decide +kernel, rfl⟩
set_option maxHeartbeats 4000000 in
set_option maxRecDepth 100000 in
theorem w_J0_isLatin1_aae02_s0 (l : Launch) (X : gX) (ws : va_W) : g_Ci l X yJ0_isLatin1_aae02 cJ0_isLatin1_aae02 1 (some .boolean) 1 0 0 [.ref (X.1.2.2.2.1 0)] ws (fun r w => w = ws ∧ jv 1 1 r ∧ r = sp_J0_isLatin1_aae02_s0) := by
  refine g_mi (by decide +kernel) (Nat.le_of_ble_eq_true rfl) (fun E cx hret => ?_)
  obtain ⟨SP, hSP⟩ : ∃ z, z = sp_J0_isLatin1_aae02_s0 := ⟨_, rfl⟩
  have hk0 := hSP
  unfold sp_J0_isLatin1_aae02_s0 at hk0
  refine g_strs cx fl_J0_38 e_J0_isLatin1_aae02_0 ?_
  refine g_if_eq_f cx 17 e_J0_isLatin1_aae02_3 (by decide) (by decide) ?_
  refine g_aload_n cx 0 rfl e_J0_isLatin1_aae02_6 ?_
  refine g_strc cx 0 (by decide) fl_J0_15 e_J0_isLatin1_aae02_7 ?_
  refine g_if_ne_f cx 17 e_J0_isLatin1_aae02_10 (by decide) (by decide) ?_
  refine g_iconst cx 1 (by decide) e_J0_isLatin1_aae02_13 ?_
  refine g_goto cx 18 e_J0_isLatin1_aae02_14 (by decide) ?_
  exact hret e_J0_isLatin1_aae02_18 (Nat.le_of_ble_eq_true rfl) (Nat.le_of_ble_eq_true rfl) rfl ⟨rfl, (jv_k (x := 1) 1 (by decide)), (hk0.symm.trans hSP)⟩
def sp_J0_length_8abf5_s0  : Int32 :=
  6
theorem e_J0_length_8abf5_0 : g_dc cJ0_length_8abf5 0 (.aload_n 0) 1 1 := ⟨by decide +kernel, rfl⟩
theorem e_J0_length_8abf5_1 : g_dc cJ0_length_8abf5 1 (.getfield 9) 3 4 := ⟨by decide +kernel, rfl⟩
theorem e_J0_length_8abf5_4 : g_dc cJ0_length_8abf5 4 (.arraylength) 1 5 := ⟨by decide +kernel, rfl⟩
theorem e_J0_length_8abf5_5 : g_dc cJ0_length_8abf5 5 (.aload_n 0) 1 6 := ⟨by decide +kernel, rfl⟩
theorem e_J0_length_8abf5_6 : g_dc cJ0_length_8abf5 6 (.invokevirtual 335) 3 9 := ⟨by decide +kernel, rfl⟩
theorem e_J0_length_8abf5_9 : g_dc cJ0_length_8abf5 9 (.ishr) 1 10 := ⟨by decide +kernel, rfl⟩
theorem e_J0_length_8abf5_10 : g_dc cJ0_length_8abf5 10 (.ireturn) 1 11 := ⟨by decide +kernel, rfl⟩
set_option maxHeartbeats 4000000 in
set_option maxRecDepth 100000 in
theorem w_J0_length_8abf5_s0 (l : Launch) (X : gX) (ws : va_W) : g_Ci l X yJ0_length_8abf5 cJ0_length_8abf5 1 (some .int) 2 0 0 [.ref (X.1.2.2.2.1 0)] ws (fun r w => w = ws ∧ jv 6 6 r ∧ r = sp_J0_length_8abf5_s0) := by
  refine g_mi (by decide +kernel) (Nat.le_of_ble_eq_true rfl) (fun E cx hret => ?_)
  obtain ⟨SP, hSP⟩ : ∃ z, z = sp_J0_length_8abf5_s0 := ⟨_, rfl⟩
  have hk0 := hSP
  unfold sp_J0_length_8abf5_s0 at hk0
  refine g_aload_n cx 0 rfl e_J0_length_8abf5_0 ?_
  refine g_strv cx 0 (by decide) fl_J0_9 e_J0_length_8abf5_1 ?_
  refine g_strn cx 0 (by decide) 6 (by decide) e_J0_length_8abf5_4 ?_
  refine g_aload_n cx 0 rfl e_J0_length_8abf5_5 ?_
  refine g_cVsW cx [] [.int 6] 0 (by decide) rfl (w_J0_coder_7d493_s0 l X (ws) ) ml_J0_335 yV_J0_coder_7d493 e_J0_length_8abf5_6 (by unfold g_rr; decide) (by decide) rfl (Nat.le_of_ble_eq_true rfl) (fun r1 w2 h3 => ?_)
  obtain ⟨ewr1, pr1⟩ := h3
  refine g_weq ws ewr1 ?_
  replace pr1 := pr1.1
  refine g_toi 0 (jv_c 0 pr1 (by decide)) ?_
  refine g_ishr cx e_J0_length_8abf5_9 ?_
  refine g_toi 6 (by decide) ?_
  exact hret e_J0_length_8abf5_10 (Nat.le_of_ble_eq_true rfl) (Nat.le_of_ble_eq_true rfl) rfl ⟨rfl, (jv_k (x := 6) 6 (by decide)), (hk0.symm.trans hSP)⟩
def K_J1_canEncode_9a6ad_s0_16  (y1 : Int32) : Int32 :=
  y1
def K_J1_canEncode_9a6ad_s0_15   : Int32 :=
  K_J1_canEncode_9a6ad_s0_16 0
def sp_J1_canEncode_9a6ad_s0 (a0 : Int32) : Int32 :=
  if a0 < 0 then K_J1_canEncode_9a6ad_s0_15 else if 255 < a0 then K_J1_canEncode_9a6ad_s0_15 else K_J1_canEncode_9a6ad_s0_16 1
theorem e_J1_canEncode_9a6ad_0 : g_dc cJ1_canEncode_9a6ad 0 (.iload_n 0) 1 1 := ⟨by decide +kernel, rfl⟩
theorem e_J1_canEncode_9a6ad_1 : g_dc cJ1_canEncode_9a6ad 1 (.ifCond .lt 14) 3 4 := ⟨by decide +kernel, rfl⟩
theorem e_J1_canEncode_9a6ad_4 : g_dc cJ1_canEncode_9a6ad 4 (.iload_n 0) 1 5 := ⟨by decide +kernel, rfl⟩
theorem e_J1_canEncode_9a6ad_5 : g_dc cJ1_canEncode_9a6ad 5 (.sipush 255) 3 8 := ⟨by decide +kernel, rfl⟩
theorem e_J1_canEncode_9a6ad_8 : g_dc cJ1_canEncode_9a6ad 8 (.if_icmp .gt 7) 3 11 := ⟨by decide +kernel, rfl⟩
theorem e_J1_canEncode_9a6ad_11 : g_dc cJ1_canEncode_9a6ad 11 (.iconst 1) 1 12 := ⟨by decide +kernel, rfl⟩
theorem e_J1_canEncode_9a6ad_12 : g_dc cJ1_canEncode_9a6ad 12 (.goto 4) 3 15 := ⟨by decide +kernel, rfl⟩
theorem e_J1_canEncode_9a6ad_15 : g_dc cJ1_canEncode_9a6ad 15 (.iconst 0) 1 16 := ⟨by decide +kernel, rfl⟩
theorem e_J1_canEncode_9a6ad_16 : g_dc cJ1_canEncode_9a6ad 16 (.ireturn) 1 17 := ⟨by decide +kernel, rfl⟩
set_option maxHeartbeats 4000000 in
set_option maxRecDepth 100000 in
theorem w_J1_canEncode_9a6ad_s0 (l : Launch) (X : gX) (ws : va_W) (a0 : Int32) : g_Ci l X yJ1_canEncode_9a6ad cJ1_canEncode_9a6ad 1 (some .boolean) 1 0 0 [.int a0] ws (fun r w => w = ws ∧ jv 0 1 r ∧ r = sp_J1_canEncode_9a6ad_s0 a0) := by
  refine g_mi (by decide +kernel) (Nat.le_of_ble_eq_true rfl) (fun E cx hret => ?_)
  obtain ⟨SP, hSP⟩ : ∃ z, z = sp_J1_canEncode_9a6ad_s0 a0 := ⟨_, rfl⟩
  have hk0 := hSP
  unfold sp_J1_canEncode_9a6ad_s0 at hk0
  refine g_iload_n cx 0 rfl e_J1_canEncode_9a6ad_0 ?_
  have J16 : ∀ (y1 : Int32), (jv 0 1 y1) → (SP = K_J1_canEncode_9a6ad_s0_16 y1) → G X E 1 0 0 (ws) [] 16 [.int y1] := by
    intro y1 py1 hkJ16
    unfold K_J1_canEncode_9a6ad_s0_16 at hkJ16
    exact hret e_J1_canEncode_9a6ad_16 (Nat.le_of_ble_eq_true rfl) (Nat.le_of_ble_eq_true rfl) (g_narb py1) ⟨rfl, py1, (hkJ16.symm.trans hSP)⟩
  have J15 : (SP = K_J1_canEncode_9a6ad_s0_15) → G X E 1 0 0 (ws) [] 15 [] := by
    intro   hkJ15
    unfold K_J1_canEncode_9a6ad_s0_15 at hkJ15
    refine g_iconst cx 0 (by decide) e_J1_canEncode_9a6ad_15 ?_
    exact J16 0 (jv_w (jv_k (x := 0) 0 (by decide)) (by decide)) hkJ15
  refine g_if_lt cx 15 e_J1_canEncode_9a6ad_1 (by decide) (fun zc2 => ?_) (fun zc2 => ?_)
  · have p3 := gn_lt (-2147483648) (-1) (gc_lt zc2) (jv_t a0) (jv_k (x := 0) 0 (by decide)) (by decide)
    have hk4 := hk0.trans (if_pos zc2)
    refine g_lsub [] [] rfl ?_
    exact J15  hk4
  · have p5 := gn_ge 0 2147483647 (gc_nlt zc2) (jv_t a0) (jv_k (x := 0) 0 (by decide)) (by decide)
    have hk6 := hk0.trans (if_neg zc2)
    refine g_iload_n cx 0 rfl e_J1_canEncode_9a6ad_4 ?_
    refine g_sipush cx 255 (by decide) e_J1_canEncode_9a6ad_5 ?_
    refine g_icmp_gt cx 15 e_J1_canEncode_9a6ad_8 (by decide) (fun zc7 => ?_) (fun zc7 => ?_)
    · have p8 := gn_gt 256 2147483647 (gc_lt zc7) p5 (jv_k (x := 255) 255 (by decide)) (by decide)
      have hk9 := hk6.trans (if_pos zc7)
      refine g_lsub [] [] rfl ?_
      exact J15  hk9
    · have p10 := gn_le 0 255 (gc_nlt zc7) p5 (jv_k (x := 255) 255 (by decide)) (by decide)
      have hk11 := hk6.trans (if_neg zc7)
      refine g_iconst cx 1 (by decide) e_J1_canEncode_9a6ad_11 ?_
      refine g_goto cx 16 e_J1_canEncode_9a6ad_12 (by decide) ?_
      refine g_lsub [] [] rfl ?_
      exact J16 1 (jv_w (jv_k (x := 1) 1 (by decide)) (by decide)) hk11
def KB_J1_indexOfChar_4cfef_s0_7 (b7 : (Int32) → Int32) (a3 : Int32) (x1 : Int32) (y3 : Int32) : Int32 :=
  if a3 ≤ y3 then (-1) else k_lt ((g_byt.getD 0 []).getD (Int32.toNatClampNeg y3) 0) (fun x9 => if x9 = x1 then y3 else k_lt (y3 + 1) (fun x13 => b7 x13))
def K_J1_indexOfChar_4cfef_s0_7 (a3 : Int32) (x1 : Int32) : Nat → (Int32) → Int32
  | 0 => fun _ => 0
  | n + 1 => KB_J1_indexOfChar_4cfef_s0_7 (K_J1_indexOfChar_4cfef_s0_7 a3 x1 n) a3 x1
def sp_J1_indexOfChar_4cfef_s0 (a1 : Int32) (a2 : Int32) (a3 : Int32) : Int32 :=
  k_lt (a1.toInt8.toInt32) (fun x1 => K_J1_indexOfChar_4cfef_s0_7 a3 x1 8589934592 a2)
theorem e_J1_indexOfChar_4cfef_0 : g_dc cJ1_indexOfChar_4cfef 0 (.iload_n 1) 1 1 := ⟨by decide +kernel, rfl⟩
theorem e_J1_indexOfChar_4cfef_1 : g_dc cJ1_indexOfChar_4cfef 1 (.i2b) 1 2 := ⟨by decide +kernel, rfl⟩
theorem e_J1_indexOfChar_4cfef_2 : g_dc cJ1_indexOfChar_4cfef 2 (.istore 4) 2 4 := ⟨by decide +kernel, rfl⟩
theorem e_J1_indexOfChar_4cfef_4 : g_dc cJ1_indexOfChar_4cfef 4 (.iload_n 2) 1 5 := ⟨by decide +kernel, rfl⟩
theorem e_J1_indexOfChar_4cfef_5 : g_dc cJ1_indexOfChar_4cfef 5 (.istore 5) 2 7 := ⟨by decide +kernel, rfl⟩
theorem e_J1_indexOfChar_4cfef_7 : g_dc cJ1_indexOfChar_4cfef 7 (.iload 5) 2 9 := ⟨by decide +kernel, rfl⟩
theorem e_J1_indexOfChar_4cfef_9 : g_dc cJ1_indexOfChar_4cfef 9 (.iload_n 3) 1 10 := ⟨by decide +kernel, rfl⟩
theorem e_J1_indexOfChar_4cfef_10 : g_dc cJ1_indexOfChar_4cfef 10 (.if_icmp .ge 21) 3 13 := ⟨by decide +kernel, rfl⟩
theorem e_J1_indexOfChar_4cfef_13 : g_dc cJ1_indexOfChar_4cfef 13 (.aload_n 0) 1 14 := ⟨by decide +kernel, rfl⟩
theorem e_J1_indexOfChar_4cfef_14 : g_dc cJ1_indexOfChar_4cfef 14 (.iload 5) 2 16 := ⟨by decide +kernel, rfl⟩
theorem e_J1_indexOfChar_4cfef_16 : g_dc cJ1_indexOfChar_4cfef 16 (.baload) 1 17 := ⟨by decide +kernel, rfl⟩
theorem e_J1_indexOfChar_4cfef_17 : g_dc cJ1_indexOfChar_4cfef 17 (.iload 4) 2 19 := ⟨by decide +kernel, rfl⟩
theorem e_J1_indexOfChar_4cfef_19 : g_dc cJ1_indexOfChar_4cfef 19 (.if_icmp .ne 6) 3 22 := ⟨by decide +kernel, rfl⟩
theorem e_J1_indexOfChar_4cfef_22 : g_dc cJ1_indexOfChar_4cfef 22 (.iload 5) 2 24 := ⟨by decide +kernel, rfl⟩
theorem e_J1_indexOfChar_4cfef_24 : g_dc cJ1_indexOfChar_4cfef 24 (.ireturn) 1 25 := ⟨by decide +kernel, rfl⟩
theorem e_J1_indexOfChar_4cfef_25 : g_dc cJ1_indexOfChar_4cfef 25 (.iinc 5 1) 3 28 := ⟨by decide +kernel, rfl⟩
theorem e_J1_indexOfChar_4cfef_28 : g_dc cJ1_indexOfChar_4cfef 28 (.goto (-21)) 3 31 := ⟨by decide +kernel, rfl⟩
theorem e_J1_indexOfChar_4cfef_31 : g_dc cJ1_indexOfChar_4cfef 31 (.iconst (-1)) 1 32 := ⟨by decide +kernel, rfl⟩
theorem e_J1_indexOfChar_4cfef_32 : g_dc cJ1_indexOfChar_4cfef 32 (.ireturn) 1 33 := ⟨by decide +kernel, rfl⟩
set_option maxHeartbeats 4000000 in
set_option maxRecDepth 100000 in
theorem w_J1_indexOfChar_4cfef_s0 (l : Launch) (X : gX) (ws : va_W) (a1 : Int32) (a2 : Int32) (a3 : Int32) (pa2 : jv 0 0 a2) (pa3 : jv 0 6 a3) : g_Ci l X yJ1_indexOfChar_4cfef cJ1_indexOfChar_4cfef 6 (some .int) 1 0 0 [.ref (X.1.2.2.2.2 0), .int a1, .int a2, .int a3] ws (fun r w => w = ws ∧ jv (-1) 5 r ∧ r = sp_J1_indexOfChar_4cfef_s0 a1 a2 a3) := by
  refine g_mi (by decide +kernel) (Nat.le_of_ble_eq_true rfl) (fun E cx hret => ?_)
  obtain ⟨SP, hSP⟩ : ∃ z, z = sp_J1_indexOfChar_4cfef_s0 a1 a2 a3 := ⟨_, rfl⟩
  have hk0 := hSP
  unfold sp_J1_indexOfChar_4cfef_s0 at hk0
  refine g_iload_n cx 1 rfl e_J1_indexOfChar_4cfef_0 ?_
  refine g_i2b cx e_J1_indexOfChar_4cfef_1 ?_
  refine g_topi (fun x1 ex1 => ?_)
  have hk2 := k_ls hk0 ex1
  refine g_istore cx [(4, .int x1), (0, .ref (X.1.2.2.2.2 0)), (1, .int a1), (2, .int a2), (3, .int a3)] e_J1_indexOfChar_4cfef_2 (by decide) rfl ?_
  refine g_iload_n cx 3 rfl e_J1_indexOfChar_4cfef_4 ?_
  refine g_istore cx [(5, .int a2), (4, .int x1), (0, .ref (X.1.2.2.2.2 0)), (1, .int a1), (2, .int a2), (3, .int a3)] e_J1_indexOfChar_4cfef_5 (by decide) rfl ?_
  have J7 : ∀ (N : Nat) (y3 : Int32), (jv 0 2147483647 y3) → (SP = K_J1_indexOfChar_4cfef_s0_7 a3 x1 N y3) → (2147483647 - y3.toInt).toNat < N → G X E 6 0 0 (ws) [(0, .ref (X.1.2.2.2.2 0)), (3, .int a3), (4, .int x1), (5, .int y3)] 7 [] := by
    intro N
    induction N with
    | zero => intro y3 py3 hkJ7 hm; exact absurd hm (Nat.not_lt_zero _)
    | succ N ih7 =>
      intro y3 py3 hkJ7 hm7
      have hkK7 : SP = KB_J1_indexOfChar_4cfef_s0_7 (K_J1_indexOfChar_4cfef_s0_7 a3 x1 N) a3 x1 y3 := hkJ7
      obtain ⟨b7, hb7⟩ : ∃ z, z = K_J1_indexOfChar_4cfef_s0_7 a3 x1 N := ⟨_, rfl⟩
      rw [← hb7] at hkK7
      unfold KB_J1_indexOfChar_4cfef_s0_7 at hkK7
      refine g_iload cx 3 rfl e_J1_indexOfChar_4cfef_7 ?_
      refine g_iload_n cx 1 rfl e_J1_indexOfChar_4cfef_9 ?_
      refine g_icmp_ge cx 31 e_J1_indexOfChar_4cfef_10 (by decide) (fun zc4 => ?_) (fun zc4 => ?_)
      · have hk5 := hkK7.trans (if_pos zc4)
        refine g_iconst cx (-1) (by decide) e_J1_indexOfChar_4cfef_31 ?_
        exact hret e_J1_indexOfChar_4cfef_32 (Nat.le_of_ble_eq_true rfl) (Nat.le_of_ble_eq_true rfl) rfl ⟨rfl, (jv_w (jv_k (x := (-1)) (-1) (by decide)) (by decide)), (hk5.symm.trans hSP)⟩
      · have p6 := gn_lt 0 5 (gc_nle zc4) py3 pa3 (by decide)
        have p7 := gn_gt 1 6 (gc_nle zc4) pa3 py3 (by decide)
        have hk8 := hkK7.trans (if_neg zc4)
        refine g_aload_n cx 0 rfl e_J1_indexOfChar_4cfef_13 ?_
        refine g_iload cx 3 rfl e_J1_indexOfChar_4cfef_14 ?_
        refine g_strb cx 0 (by decide) (i := y3) (jv_ix 6 p6 (by decide)) e_J1_indexOfChar_4cfef_16 ?_
        refine g_topi (fun x9 ex9 => ?_)
        have hk10 := k_ls hk8 ex9
        refine g_iload cx 2 rfl e_J1_indexOfChar_4cfef_17 ?_
        refine g_icmp_ne cx 25 e_J1_indexOfChar_4cfef_19 (by decide) (fun zc11 => ?_) (fun zc11 => ?_)
        · have hk12 := hk10.trans (if_neg zc11)
          obtain ⟨x13, ex13⟩ : ∃ z : Int32, z = y3 + Int32.ofInt 1 := ⟨_, rfl⟩
          have hk14 := k_ls hk12 (show x13 = y3 + 1 from ex13)
          refine g_iinc cx x13 [(5, .int x13), (0, .ref (X.1.2.2.2.2 0)), (3, .int a3), (4, .int x1)] 3 e_J1_indexOfChar_4cfef_25 rfl ex13.symm (by decide) rfl ?_
          have zx13 := jv_add 1 6 (show x13 = y3 + 1 from ex13) p6 (jv_k (x := 1) 1 (by decide)) (by decide)
          refine g_goto cx 7 e_J1_indexOfChar_4cfef_28 (by decide) ?_
          refine g_lsub [1, 2, 3, 0] [(0, .ref (X.1.2.2.2.2 0)), (3, .int a3), (4, .int x1), (5, .int x13)] rfl ?_
          exact ih7 x13 (jv_w zx13.2 (by decide)) (hk14.trans (by rw [hb7])) (Nat.lt_of_lt_of_le (show (2147483647 - x13.toInt).toNat < (2147483647 - y3.toInt).toNat from by have q0 := (jv_k (x := 1) 1 (by decide)).1; have q1 := (jv_k (x := 1) 1 (by decide)).2; have q2 := p7.1; have q3 := p7.2; have q4 := zx13.2.1; have q5 := zx13.2.2; have q6 := p6.1; have q7 := p6.2; have q8 := (gc_nle zc4); have q9 := (g_eq0 zx13.1); omega) (Nat.le_of_lt_succ hm7))
        · have hk15 := hk10.trans (if_pos zc11)
          refine g_iload cx 3 rfl e_J1_indexOfChar_4cfef_22 ?_
          exact hret e_J1_indexOfChar_4cfef_24 (Nat.le_of_ble_eq_true rfl) (Nat.le_of_ble_eq_true rfl) rfl ⟨rfl, (jv_w p6 (by decide)), (hk15.symm.trans hSP)⟩
  refine g_lsub [2, 5, 1, 0] [(0, .ref (X.1.2.2.2.2 0)), (3, .int a3), (4, .int x1), (5, .int a2)] rfl ?_
  exact J7 8589934592 a2 (jv_w pa2 (by decide)) hk2 (show (2147483647 - a2.toInt).toNat < 8589934592 from by have q0 := pa2.1; have q1 := pa2.2; omega)
def sp_J1_indexOf_4cfef_s0 (a1 : Int32) (a2 : Int32) (a3 : Int32) : Int32 :=
  k_lt (sp_J1_canEncode_9a6ad_s0 a1) (fun r1 => if r1 = 0 then (-1) else k_lt (if a2 < 0 then 0 else a2) (fun x8 => k_lt (if 6 < a3 then 6 else a3) (fun x10 => if x8 < x10 then k_lt (sp_J1_indexOfChar_4cfef_s0 a1 x8 x10) (fun r15 => r15) else (-1))))
theorem e_J1_indexOf_4cfef_0 : g_dc cJ1_indexOf_4cfef 0 (.iload_n 1) 1 1 := ⟨by decide +kernel, rfl⟩
theorem e_J1_indexOf_4cfef_1 : g_dc cJ1_indexOf_4cfef 1 (.invokestatic 88) 3 4 := ⟨by decide +kernel, rfl⟩
theorem e_J1_indexOf_4cfef_4 : g_dc cJ1_indexOf_4cfef 4 (.ifCond .ne 5) 3 7 := ⟨by decide +kernel, rfl⟩
theorem e_J1_indexOf_4cfef_7 : g_dc cJ1_indexOf_4cfef 7 (.iconst (-1)) 1 8 := ⟨by decide +kernel, rfl⟩
theorem e_J1_indexOf_4cfef_8 : g_dc cJ1_indexOf_4cfef 8 (.ireturn) 1 9 := ⟨by decide +kernel, rfl⟩
theorem e_J1_indexOf_4cfef_9 : g_dc cJ1_indexOf_4cfef 9 (.iload_n 2) 1 10 := ⟨by decide +kernel, rfl⟩
theorem e_J1_indexOf_4cfef_10 : g_dc cJ1_indexOf_4cfef 10 (.iconst 0) 1 11 := ⟨by decide +kernel, rfl⟩
theorem e_J1_indexOf_4cfef_11 : g_dc cJ1_indexOf_4cfef 11 (.invokestatic 92) 3 14 := ⟨by decide +kernel, rfl⟩
theorem e_J1_indexOf_4cfef_14 : g_dc cJ1_indexOf_4cfef 14 (.istore_n 2) 1 15 := ⟨by decide +kernel, rfl⟩
theorem e_J1_indexOf_4cfef_15 : g_dc cJ1_indexOf_4cfef 15 (.iload_n 3) 1 16 := ⟨by decide +kernel, rfl⟩
theorem e_J1_indexOf_4cfef_16 : g_dc cJ1_indexOf_4cfef 16 (.aload_n 0) 1 17 := ⟨by decide +kernel, rfl⟩
theorem e_J1_indexOf_4cfef_17 : g_dc cJ1_indexOf_4cfef 17 (.arraylength) 1 18 := ⟨by decide +kernel, rfl⟩
theorem e_J1_indexOf_4cfef_18 : g_dc cJ1_indexOf_4cfef 18 (.invokestatic 38) 3 21 := ⟨by decide +kernel, rfl⟩
theorem e_J1_indexOf_4cfef_21 : g_dc cJ1_indexOf_4cfef 21 (.istore_n 3) 1 22 := ⟨by decide +kernel, rfl⟩
theorem e_J1_indexOf_4cfef_22 : g_dc cJ1_indexOf_4cfef 22 (.iload_n 2) 1 23 := ⟨by decide +kernel, rfl⟩
theorem e_J1_indexOf_4cfef_23 : g_dc cJ1_indexOf_4cfef 23 (.iload_n 3) 1 24 := ⟨by decide +kernel, rfl⟩
theorem e_J1_indexOf_4cfef_24 : g_dc cJ1_indexOf_4cfef 24 (.if_icmp .lt 5) 3 27 := ⟨by decide +kernel, rfl⟩
theorem e_J1_indexOf_4cfef_27 : g_dc cJ1_indexOf_4cfef 27 (.iconst (-1)) 1 28 := ⟨by decide +kernel, rfl⟩
theorem e_J1_indexOf_4cfef_28 : g_dc cJ1_indexOf_4cfef 28 (.ireturn) 1 29 := ⟨by decide +kernel, rfl⟩
theorem e_J1_indexOf_4cfef_29 : g_dc cJ1_indexOf_4cfef 29 (.aload_n 0) 1 30 := ⟨by decide +kernel, rfl⟩
theorem e_J1_indexOf_4cfef_30 : g_dc cJ1_indexOf_4cfef 30 (.iload_n 1) 1 31 := ⟨by decide +kernel, rfl⟩
theorem e_J1_indexOf_4cfef_31 : g_dc cJ1_indexOf_4cfef 31 (.iload_n 2) 1 32 := ⟨by decide +kernel, rfl⟩
theorem e_J1_indexOf_4cfef_32 : g_dc cJ1_indexOf_4cfef 32 (.iload_n 3) 1 33 := ⟨by decide +kernel, rfl⟩
theorem e_J1_indexOf_4cfef_33 : g_dc cJ1_indexOf_4cfef 33 (.invokestatic 95) 3 36 := ⟨by decide +kernel, rfl⟩
theorem e_J1_indexOf_4cfef_36 : g_dc cJ1_indexOf_4cfef 36 (.ireturn) 1 37 := ⟨by decide +kernel, rfl⟩
set_option maxHeartbeats 4000000 in
set_option maxRecDepth 100000 in
theorem w_J1_indexOf_4cfef_s0 (l : Launch) (X : gX) (ws : va_W) (a1 : Int32) (a2 : Int32) (a3 : Int32) (pa2 : jv 0 0 a2) (pa3 : jv 0 6 a3) : g_Ci l X yJ1_indexOf_4cfef cJ1_indexOf_4cfef 4 (some .int) 2 0 0 [.ref (X.1.2.2.2.2 0), .int a1, .int a2, .int a3] ws (fun r w => w = ws ∧ jv (-1) 5 r ∧ r = sp_J1_indexOf_4cfef_s0 a1 a2 a3) := by
  refine g_mi (by decide +kernel) (Nat.le_of_ble_eq_true rfl) (fun E cx hret => ?_)
  obtain ⟨SP, hSP⟩ : ∃ z, z = sp_J1_indexOf_4cfef_s0 a1 a2 a3 := ⟨_, rfl⟩
  have hk0 := hSP
  unfold sp_J1_indexOf_4cfef_s0 at hk0
  refine g_iload_n cx 1 rfl e_J1_indexOf_4cfef_0 ?_
  refine g_cSiW cx [.int a1] [] (w_J1_canEncode_9a6ad_s0 l X (ws) a1) ml_J1_88 yS_J1_canEncode_9a6ad rfl e_J1_indexOf_4cfef_1 (by unfold g_rr; decide) (by decide) rfl (Nat.le_of_ble_eq_true rfl) (fun r1 w2 h3 => ?_)
  obtain ⟨ewr1, pr1⟩ := h3
  refine g_weq ws ewr1 ?_
  obtain ⟨pr1, hxr1⟩ := pr1
  have hk4 := k_ls hk0 hxr1
  refine g_if_ne cx 9 e_J1_indexOf_4cfef_4 (by decide) (fun zc5 => ?_) (fun zc5 => ?_)
  · have p6 := gn_neL 1 1 (gc_ne zc5) pr1 (jv_k (x := 0) 0 (by decide)) (by decide)
    have hk7 := hk4.trans (if_neg zc5)
    refine g_iload_n cx 2 rfl e_J1_indexOf_4cfef_9 ?_
    refine g_iconst cx 0 (by decide) e_J1_indexOf_4cfef_10 ?_
    refine g_mmax cx ml_J1_92 e_J1_indexOf_4cfef_11 ⟨Nat.le_of_ble_eq_true rfl, Nat.le_of_ble_eq_true rfl⟩ (by decide) ?_
    refine g_topi (fun x8 ex8 => ?_)
    have hk9 := k_ls hk7 ex8
    have px8 := jv_max 0 0 ex8 pa2 (jv_k (x := 0) 0 (by decide)) (by decide)
    refine g_istore_n cx [(2, .int x8), (0, .ref (X.1.2.2.2.2 0)), (1, .int a1), (3, .int a3)] e_J1_indexOf_4cfef_14 (by decide) rfl ?_
    refine g_iload_n cx 3 rfl e_J1_indexOf_4cfef_15 ?_
    refine g_aload_n cx 1 rfl e_J1_indexOf_4cfef_16 ?_
    refine g_strn cx 0 (by decide) 6 (by decide) e_J1_indexOf_4cfef_17 ?_
    refine g_mmin cx ml_J1_38 e_J1_indexOf_4cfef_18 ⟨Nat.le_of_ble_eq_true rfl, Nat.le_of_ble_eq_true rfl⟩ (by decide) ?_
    refine g_topi (fun x10 ex10 => ?_)
    have hk11 := k_ls hk9 ex10
    have px10 := jv_min 0 6 ex10 pa3 (jv_k (x := 6) 6 (by decide)) (by decide)
    refine g_istore_n cx [(3, .int x10), (2, .int x8), (0, .ref (X.1.2.2.2.2 0)), (1, .int a1)] e_J1_indexOf_4cfef_21 (by decide) rfl ?_
    refine g_iload_n cx 1 rfl e_J1_indexOf_4cfef_22 ?_
    refine g_iload_n cx 0 rfl e_J1_indexOf_4cfef_23 ?_
    refine g_icmp_lt cx 29 e_J1_indexOf_4cfef_24 (by decide) (fun zc12 => ?_) (fun zc12 => ?_)
    · have p13 := gn_gt 1 6 (gc_lt zc12) px10 px8 (by decide)
      have hk14 := hk11.trans (if_pos zc12)
      refine g_aload_n cx 2 rfl e_J1_indexOf_4cfef_29 ?_
      refine g_iload_n cx 3 rfl e_J1_indexOf_4cfef_30 ?_
      refine g_iload_n cx 1 rfl e_J1_indexOf_4cfef_31 ?_
      refine g_iload_n cx 0 rfl e_J1_indexOf_4cfef_32 ?_
      refine g_cSiW cx [.ref (X.1.2.2.2.2 0), .int a1, .int x8, .int x10] [] (w_J1_indexOfChar_4cfef_s0 l X (ws) a1 x8 x10 (jv_w px8 (by decide)) (jv_w p13 (by decide))) ml_J1_95 yS_J1_indexOfChar_4cfef rfl e_J1_indexOf_4cfef_33 (by unfold g_rr; decide) (by decide) rfl (Nat.le_of_ble_eq_true rfl) (fun r15 w16 h17 => ?_)
      obtain ⟨ewr15, pr15⟩ := h17
      refine g_weq ws ewr15 ?_
      obtain ⟨pr15, hxr15⟩ := pr15
      have hk18 := k_ls hk14 hxr15
      exact hret e_J1_indexOf_4cfef_36 (Nat.le_of_ble_eq_true rfl) (Nat.le_of_ble_eq_true rfl) rfl ⟨rfl, pr15, (hk18.symm.trans hSP)⟩
    · have p19 := gn_le 0 0 (gc_nlt zc12) px10 px8 (by decide)
      have hk20 := hk11.trans (if_neg zc12)
      refine g_iconst cx (-1) (by decide) e_J1_indexOf_4cfef_27 ?_
      exact hret e_J1_indexOf_4cfef_28 (Nat.le_of_ble_eq_true rfl) (Nat.le_of_ble_eq_true rfl) rfl ⟨rfl, (jv_w (jv_k (x := (-1)) (-1) (by decide)) (by decide)), (hk20.symm.trans hSP)⟩
  · have p21 := gn_eq 0 0 (gc_eq zc5) pr1 (jv_k (x := 0) 0 (by decide)) (by decide)
    have hk22 := hk4.trans (if_pos zc5)
    refine g_iconst cx (-1) (by decide) e_J1_indexOf_4cfef_7 ?_
    exact hret e_J1_indexOf_4cfef_8 (Nat.le_of_ble_eq_true rfl) (Nat.le_of_ble_eq_true rfl) rfl ⟨rfl, (jv_w (jv_k (x := (-1)) (-1) (by decide)) (by decide)), (hk22.symm.trans hSP)⟩
def sp_J0_indexOf_7cf53_s0 (a0 : Int32) (a1 : Int32) : Int32 :=
  k_lt (sp_J1_indexOf_4cfef_s0 a0 a1 6) (fun r7 => r7)
theorem e_J0_indexOf_7cf53_0 : g_dc cJ0_indexOf_7cf53 0 (.aload_n 0) 1 1 := ⟨by decide +kernel, rfl⟩
theorem e_J0_indexOf_7cf53_1 : g_dc cJ0_indexOf_7cf53 1 (.invokevirtual 492) 3 4 := ⟨by decide +kernel, rfl⟩
theorem e_J0_indexOf_7cf53_4 : g_dc cJ0_indexOf_7cf53 4 (.ifCond .eq 19) 3 7 := ⟨by decide +kernel, rfl⟩
theorem e_J0_indexOf_7cf53_7 : g_dc cJ0_indexOf_7cf53 7 (.aload_n 0) 1 8 := ⟨by decide +kernel, rfl⟩
theorem e_J0_indexOf_7cf53_8 : g_dc cJ0_indexOf_7cf53 8 (.getfield 9) 3 11 := ⟨by decide +kernel, rfl⟩
theorem e_J0_indexOf_7cf53_11 : g_dc cJ0_indexOf_7cf53 11 (.iload_n 1) 1 12 := ⟨by decide +kernel, rfl⟩
theorem e_J0_indexOf_7cf53_12 : g_dc cJ0_indexOf_7cf53 12 (.iload_n 2) 1 13 := ⟨by decide +kernel, rfl⟩
theorem e_J0_indexOf_7cf53_13 : g_dc cJ0_indexOf_7cf53 13 (.aload_n 0) 1 14 := ⟨by decide +kernel, rfl⟩
theorem e_J0_indexOf_7cf53_14 : g_dc cJ0_indexOf_7cf53 14 (.invokevirtual 505) 3 17 := ⟨by decide +kernel, rfl⟩
theorem e_J0_indexOf_7cf53_17 : g_dc cJ0_indexOf_7cf53 17 (.invokestatic 637) 3 20 := ⟨by decide +kernel, rfl⟩
theorem e_J0_indexOf_7cf53_20 : g_dc cJ0_indexOf_7cf53 20 (.goto 16) 3 23 := ⟨by decide +kernel, rfl⟩
theorem e_J0_indexOf_7cf53_36 : g_dc cJ0_indexOf_7cf53 36 (.ireturn) 1 37 := ⟨by decide +kernel, rfl⟩
set_option maxHeartbeats 4000000 in
set_option maxRecDepth 100000 in
theorem w_J0_indexOf_7cf53_s0 (l : Launch) (X : gX) (ws : va_W) (a0 : Int32) (a1 : Int32) (pa1 : jv 0 0 a1) : g_Ci l X yJ0_indexOf_7cf53 cJ0_indexOf_7cf53 3 (some .int) 3 0 0 [.ref (X.1.2.2.2.1 0), .int a0, .int a1] ws (fun r w => w = ws ∧ jv (-1) 5 r ∧ r = sp_J0_indexOf_7cf53_s0 a0 a1) := by
  refine g_mi (by decide +kernel) (Nat.le_of_ble_eq_true rfl) (fun E cx hret => ?_)
  obtain ⟨SP, hSP⟩ : ∃ z, z = sp_J0_indexOf_7cf53_s0 a0 a1 := ⟨_, rfl⟩
  have hk0 := hSP
  unfold sp_J0_indexOf_7cf53_s0 at hk0
  refine g_aload_n cx 0 rfl e_J0_indexOf_7cf53_0 ?_
  refine g_cVsW cx [] [] 0 (by decide) rfl (w_J0_isLatin1_aae02_s0 l X (ws) ) ml_J0_492 yV_J0_isLatin1_aae02 e_J0_indexOf_7cf53_1 (by unfold g_rr; decide) (by decide) rfl (Nat.le_of_ble_eq_true rfl) (fun r1 w2 h3 => ?_)
  obtain ⟨ewr1, pr1⟩ := h3
  refine g_weq ws ewr1 ?_
  replace pr1 := pr1.1
  refine g_toi 1 (jv_c 1 pr1 (by decide)) ?_
  refine g_if_eq_f cx 23 e_J0_indexOf_7cf53_4 (by decide) (by decide) ?_
  refine g_aload_n cx 0 rfl e_J0_indexOf_7cf53_7 ?_
  refine g_strv cx 0 (by decide) fl_J0_9 e_J0_indexOf_7cf53_8 ?_
  refine g_iload_n cx 1 rfl e_J0_indexOf_7cf53_11 ?_
  refine g_iload_n cx 2 rfl e_J0_indexOf_7cf53_12 ?_
  refine g_aload_n cx 0 rfl e_J0_indexOf_7cf53_13 ?_
  refine g_cVsW cx [] [.int a1, .int a0, .ref (X.1.2.2.2.2 0)] 0 (by decide) rfl (w_J0_length_8abf5_s0 l X (ws) ) ml_J0_505 yV_J0_length_8abf5 e_J0_indexOf_7cf53_14 (by unfold g_rr; decide) (by decide) rfl (Nat.le_of_ble_eq_true rfl) (fun r4 w5 h6 => ?_)
  obtain ⟨ewr4, pr4⟩ := h6
  refine g_weq ws ewr4 ?_
  replace pr4 := pr4.1
  refine g_toi 6 (jv_c 6 pr4 (by decide)) ?_
  refine g_cOiW cx [.ref (X.1.2.2.2.2 0), .int a0, .int a1, .int 6] [] (w_J1_indexOf_4cfef_s0 l X (ws) a0 a1 6 (jv_w pa1 (by decide)) (jv_w (jv_k (x := 6) 6 (by decide)) (by decide))) ml_J0_637 yS_J1_indexOf_4cfef e_J0_indexOf_7cf53_17 (by unfold g_rr; decide) (by decide) rfl (Nat.le_of_ble_eq_true rfl) (fun r7 w8 h9 => ?_)
  obtain ⟨ewr7, pr7⟩ := h9
  refine g_weq ws ewr7 ?_
  obtain ⟨pr7, hxr7⟩ := pr7
  have hk10 := k_ls hk0 hxr7
  refine g_goto cx 36 e_J0_indexOf_7cf53_20 (by decide) ?_
  exact hret e_J0_indexOf_7cf53_36 (Nat.le_of_ble_eq_true rfl) (Nat.le_of_ble_eq_true rfl) rfl ⟨rfl, pr7, (hk10.symm.trans hSP)⟩
def sp_J0_indexOf_0f7a4_s0 (a0 : Int32) : Int32 :=
  k_lt (sp_J0_indexOf_7cf53_s0 a0 0) (fun r1 => r1)
theorem e_J0_indexOf_0f7a4_0 : g_dc cJ0_indexOf_0f7a4 0 (.aload_n 0) 1 1 := ⟨by decide +kernel, rfl⟩
theorem e_J0_indexOf_0f7a4_1 : g_dc cJ0_indexOf_0f7a4 1 (.iload_n 1) 1 2 := ⟨by decide +kernel, rfl⟩
theorem e_J0_indexOf_0f7a4_2 : g_dc cJ0_indexOf_0f7a4 2 (.iconst 0) 1 3 := ⟨by decide +kernel, rfl⟩
theorem e_J0_indexOf_0f7a4_3 : g_dc cJ0_indexOf_0f7a4 3 (.invokevirtual 633) 3 6 := ⟨by decide +kernel, rfl⟩
theorem e_J0_indexOf_0f7a4_6 : g_dc cJ0_indexOf_0f7a4 6 (.ireturn) 1 7 := ⟨by decide +kernel, rfl⟩
set_option maxHeartbeats 4000000 in
set_option maxRecDepth 100000 in
theorem w_J0_indexOf_0f7a4_s0 (l : Launch) (X : gX) (ws : va_W) (a0 : Int32) : g_Ci l X yJ0_indexOf_0f7a4 cJ0_indexOf_0f7a4 2 (some .int) 4 0 0 [.ref (X.1.2.2.2.1 0), .int a0] ws (fun r w => w = ws ∧ jv (-1) 5 r ∧ r = sp_J0_indexOf_0f7a4_s0 a0) := by
  refine g_mi (by decide +kernel) (Nat.le_of_ble_eq_true rfl) (fun E cx hret => ?_)
  obtain ⟨SP, hSP⟩ : ∃ z, z = sp_J0_indexOf_0f7a4_s0 a0 := ⟨_, rfl⟩
  have hk0 := hSP
  unfold sp_J0_indexOf_0f7a4_s0 at hk0
  refine g_aload_n cx 0 rfl e_J0_indexOf_0f7a4_0 ?_
  refine g_iload_n cx 1 rfl e_J0_indexOf_0f7a4_1 ?_
  refine g_iconst cx 0 (by decide) e_J0_indexOf_0f7a4_2 ?_
  refine g_cVsW cx [.int a0, .int 0] [] 0 (by decide) rfl (w_J0_indexOf_7cf53_s0 l X (ws) a0 0 (jv_w (jv_k (x := 0) 0 (by decide)) (by decide))) ml_J0_633 yV_J0_indexOf_7cf53 e_J0_indexOf_0f7a4_3 (by unfold g_rr; decide) (by decide) rfl (Nat.le_of_ble_eq_true rfl) (fun r1 w2 h3 => ?_)
  obtain ⟨ewr1, pr1⟩ := h3
  refine g_weq ws ewr1 ?_
  obtain ⟨pr1, hxr1⟩ := pr1
  have hk4 := k_ls hk0 hxr1
  exact hret e_J0_indexOf_0f7a4_6 (Nat.le_of_ble_eq_true rfl) (Nat.le_of_ble_eq_true rfl) rfl ⟨rfl, pr1, (hk4.symm.trans hSP)⟩
def sp_J0_coder_7d493_s1  : Int32 :=
  0
set_option maxHeartbeats 4000000 in
set_option maxRecDepth 100000 in
theorem w_J0_coder_7d493_s1 (l : Launch) (X : gX) (ws : va_W) : g_Ci l X yJ0_coder_7d493 cJ0_coder_7d493 1 (some .byte) 1 0 0 [.ref (X.1.2.2.2.1 1)] ws (fun r w => w = ws ∧ jv 0 0 r ∧ r = sp_J0_coder_7d493_s1) := by
  refine g_mi (by decide +kernel) (Nat.le_of_ble_eq_true rfl) (fun E cx hret => ?_)
  obtain ⟨SP, hSP⟩ : ∃ z, z = sp_J0_coder_7d493_s1 := ⟨_, rfl⟩
  have hk0 := hSP
  unfold sp_J0_coder_7d493_s1 at hk0
  refine g_strs cx fl_J0_38 e_J0_coder_7d493_0 ?_
  refine g_if_eq_f cx 13 e_J0_coder_7d493_3 (by decide) (by decide) ?_
  refine g_aload_n cx 0 rfl e_J0_coder_7d493_6 ?_
  refine g_strc cx 1 (by decide) fl_J0_15 e_J0_coder_7d493_7 ?_
  refine g_goto cx 14 e_J0_coder_7d493_10 (by decide) ?_
  exact hret e_J0_coder_7d493_14 (Nat.le_of_ble_eq_true rfl) (Nat.le_of_ble_eq_true rfl) rfl ⟨rfl, (jv_k (x := 0) 0 (by decide)), (hk0.symm.trans hSP)⟩
def sp_J0_isLatin1_aae02_s1  : Int32 :=
  1
set_option maxHeartbeats 4000000 in
set_option maxRecDepth 100000 in
theorem w_J0_isLatin1_aae02_s1 (l : Launch) (X : gX) (ws : va_W) : g_Ci l X yJ0_isLatin1_aae02 cJ0_isLatin1_aae02 1 (some .boolean) 1 0 0 [.ref (X.1.2.2.2.1 1)] ws (fun r w => w = ws ∧ jv 1 1 r ∧ r = sp_J0_isLatin1_aae02_s1) := by
  refine g_mi (by decide +kernel) (Nat.le_of_ble_eq_true rfl) (fun E cx hret => ?_)
  obtain ⟨SP, hSP⟩ : ∃ z, z = sp_J0_isLatin1_aae02_s1 := ⟨_, rfl⟩
  have hk0 := hSP
  unfold sp_J0_isLatin1_aae02_s1 at hk0
  refine g_strs cx fl_J0_38 e_J0_isLatin1_aae02_0 ?_
  refine g_if_eq_f cx 17 e_J0_isLatin1_aae02_3 (by decide) (by decide) ?_
  refine g_aload_n cx 0 rfl e_J0_isLatin1_aae02_6 ?_
  refine g_strc cx 1 (by decide) fl_J0_15 e_J0_isLatin1_aae02_7 ?_
  refine g_if_ne_f cx 17 e_J0_isLatin1_aae02_10 (by decide) (by decide) ?_
  refine g_iconst cx 1 (by decide) e_J0_isLatin1_aae02_13 ?_
  refine g_goto cx 18 e_J0_isLatin1_aae02_14 (by decide) ?_
  exact hret e_J0_isLatin1_aae02_18 (Nat.le_of_ble_eq_true rfl) (Nat.le_of_ble_eq_true rfl) rfl ⟨rfl, (jv_k (x := 1) 1 (by decide)), (hk0.symm.trans hSP)⟩
def sp_J0_length_8abf5_s1  : Int32 :=
  12
set_option maxHeartbeats 4000000 in
set_option maxRecDepth 100000 in
theorem w_J0_length_8abf5_s1 (l : Launch) (X : gX) (ws : va_W) : g_Ci l X yJ0_length_8abf5 cJ0_length_8abf5 1 (some .int) 2 0 0 [.ref (X.1.2.2.2.1 1)] ws (fun r w => w = ws ∧ jv 12 12 r ∧ r = sp_J0_length_8abf5_s1) := by
  refine g_mi (by decide +kernel) (Nat.le_of_ble_eq_true rfl) (fun E cx hret => ?_)
  obtain ⟨SP, hSP⟩ : ∃ z, z = sp_J0_length_8abf5_s1 := ⟨_, rfl⟩
  have hk0 := hSP
  unfold sp_J0_length_8abf5_s1 at hk0
  refine g_aload_n cx 0 rfl e_J0_length_8abf5_0 ?_
  refine g_strv cx 1 (by decide) fl_J0_9 e_J0_length_8abf5_1 ?_
  refine g_strn cx 1 (by decide) 12 (by decide) e_J0_length_8abf5_4 ?_
  refine g_aload_n cx 0 rfl e_J0_length_8abf5_5 ?_
  refine g_cVsW cx [] [.int 12] 1 (by decide) rfl (w_J0_coder_7d493_s1 l X (ws) ) ml_J0_335 yV_J0_coder_7d493 e_J0_length_8abf5_6 (by unfold g_rr; decide) (by decide) rfl (Nat.le_of_ble_eq_true rfl) (fun r1 w2 h3 => ?_)
  obtain ⟨ewr1, pr1⟩ := h3
  refine g_weq ws ewr1 ?_
  replace pr1 := pr1.1
  refine g_toi 0 (jv_c 0 pr1 (by decide)) ?_
  refine g_ishr cx e_J0_length_8abf5_9 ?_
  refine g_toi 12 (by decide) ?_
  exact hret e_J0_length_8abf5_10 (Nat.le_of_ble_eq_true rfl) (Nat.le_of_ble_eq_true rfl) rfl ⟨rfl, (jv_k (x := 12) 12 (by decide)), (hk0.symm.trans hSP)⟩
def K_J1_canEncode_9a6ad_s1_16  (y1 : Int32) : Int32 :=
  y1
def K_J1_canEncode_9a6ad_s1_15   : Int32 :=
  K_J1_canEncode_9a6ad_s1_16 0
def sp_J1_canEncode_9a6ad_s1 (a0 : Int32) : Int32 :=
  if a0 < 0 then K_J1_canEncode_9a6ad_s1_15 else if 255 < a0 then K_J1_canEncode_9a6ad_s1_15 else K_J1_canEncode_9a6ad_s1_16 1
set_option maxHeartbeats 4000000 in
set_option maxRecDepth 100000 in
theorem w_J1_canEncode_9a6ad_s1 (l : Launch) (X : gX) (ws : va_W) (a0 : Int32) : g_Ci l X yJ1_canEncode_9a6ad cJ1_canEncode_9a6ad 1 (some .boolean) 1 0 0 [.int a0] ws (fun r w => w = ws ∧ jv 0 1 r ∧ r = sp_J1_canEncode_9a6ad_s1 a0) := by
  refine g_mi (by decide +kernel) (Nat.le_of_ble_eq_true rfl) (fun E cx hret => ?_)
  obtain ⟨SP, hSP⟩ : ∃ z, z = sp_J1_canEncode_9a6ad_s1 a0 := ⟨_, rfl⟩
  have hk0 := hSP
  unfold sp_J1_canEncode_9a6ad_s1 at hk0
  refine g_iload_n cx 0 rfl e_J1_canEncode_9a6ad_0 ?_
  have J16 : ∀ (y1 : Int32), (jv 0 1 y1) → (SP = K_J1_canEncode_9a6ad_s1_16 y1) → G X E 1 0 0 (ws) [] 16 [.int y1] := by
    intro y1 py1 hkJ16
    unfold K_J1_canEncode_9a6ad_s1_16 at hkJ16
    exact hret e_J1_canEncode_9a6ad_16 (Nat.le_of_ble_eq_true rfl) (Nat.le_of_ble_eq_true rfl) (g_narb py1) ⟨rfl, py1, (hkJ16.symm.trans hSP)⟩
  have J15 : (SP = K_J1_canEncode_9a6ad_s1_15) → G X E 1 0 0 (ws) [] 15 [] := by
    intro   hkJ15
    unfold K_J1_canEncode_9a6ad_s1_15 at hkJ15
    refine g_iconst cx 0 (by decide) e_J1_canEncode_9a6ad_15 ?_
    exact J16 0 (jv_w (jv_k (x := 0) 0 (by decide)) (by decide)) hkJ15
  refine g_if_lt cx 15 e_J1_canEncode_9a6ad_1 (by decide) (fun zc2 => ?_) (fun zc2 => ?_)
  · have p3 := gn_lt (-2147483648) (-1) (gc_lt zc2) (jv_t a0) (jv_k (x := 0) 0 (by decide)) (by decide)
    have hk4 := hk0.trans (if_pos zc2)
    refine g_lsub [] [] rfl ?_
    exact J15  hk4
  · have p5 := gn_ge 0 2147483647 (gc_nlt zc2) (jv_t a0) (jv_k (x := 0) 0 (by decide)) (by decide)
    have hk6 := hk0.trans (if_neg zc2)
    refine g_iload_n cx 0 rfl e_J1_canEncode_9a6ad_4 ?_
    refine g_sipush cx 255 (by decide) e_J1_canEncode_9a6ad_5 ?_
    refine g_icmp_gt cx 15 e_J1_canEncode_9a6ad_8 (by decide) (fun zc7 => ?_) (fun zc7 => ?_)
    · have p8 := gn_gt 256 2147483647 (gc_lt zc7) p5 (jv_k (x := 255) 255 (by decide)) (by decide)
      have hk9 := hk6.trans (if_pos zc7)
      refine g_lsub [] [] rfl ?_
      exact J15  hk9
    · have p10 := gn_le 0 255 (gc_nlt zc7) p5 (jv_k (x := 255) 255 (by decide)) (by decide)
      have hk11 := hk6.trans (if_neg zc7)
      refine g_iconst cx 1 (by decide) e_J1_canEncode_9a6ad_11 ?_
      refine g_goto cx 16 e_J1_canEncode_9a6ad_12 (by decide) ?_
      refine g_lsub [] [] rfl ?_
      exact J16 1 (jv_w (jv_k (x := 1) 1 (by decide)) (by decide)) hk11
def KB_J1_indexOfChar_4cfef_s1_7 (b7 : (Int32) → Int32) (a3 : Int32) (x1 : Int32) (y3 : Int32) : Int32 :=
  if a3 ≤ y3 then (-1) else k_lt ((g_byt.getD 1 []).getD (Int32.toNatClampNeg y3) 0) (fun x9 => if x9 = x1 then y3 else k_lt (y3 + 1) (fun x13 => b7 x13))
def K_J1_indexOfChar_4cfef_s1_7 (a3 : Int32) (x1 : Int32) : Nat → (Int32) → Int32
  | 0 => fun _ => 0
  | n + 1 => KB_J1_indexOfChar_4cfef_s1_7 (K_J1_indexOfChar_4cfef_s1_7 a3 x1 n) a3 x1
def sp_J1_indexOfChar_4cfef_s1 (a1 : Int32) (a2 : Int32) (a3 : Int32) : Int32 :=
  k_lt (a1.toInt8.toInt32) (fun x1 => K_J1_indexOfChar_4cfef_s1_7 a3 x1 8589934592 a2)
set_option maxHeartbeats 4000000 in
set_option maxRecDepth 100000 in
theorem w_J1_indexOfChar_4cfef_s1 (l : Launch) (X : gX) (ws : va_W) (a1 : Int32) (a2 : Int32) (a3 : Int32) (pa2 : jv 0 0 a2) (pa3 : jv 0 12 a3) : g_Ci l X yJ1_indexOfChar_4cfef cJ1_indexOfChar_4cfef 6 (some .int) 1 0 0 [.ref (X.1.2.2.2.2 1), .int a1, .int a2, .int a3] ws (fun r w => w = ws ∧ jv (-1) 11 r ∧ r = sp_J1_indexOfChar_4cfef_s1 a1 a2 a3) := by
  refine g_mi (by decide +kernel) (Nat.le_of_ble_eq_true rfl) (fun E cx hret => ?_)
  obtain ⟨SP, hSP⟩ : ∃ z, z = sp_J1_indexOfChar_4cfef_s1 a1 a2 a3 := ⟨_, rfl⟩
  have hk0 := hSP
  unfold sp_J1_indexOfChar_4cfef_s1 at hk0
  refine g_iload_n cx 1 rfl e_J1_indexOfChar_4cfef_0 ?_
  refine g_i2b cx e_J1_indexOfChar_4cfef_1 ?_
  refine g_topi (fun x1 ex1 => ?_)
  have hk2 := k_ls hk0 ex1
  refine g_istore cx [(4, .int x1), (0, .ref (X.1.2.2.2.2 1)), (1, .int a1), (2, .int a2), (3, .int a3)] e_J1_indexOfChar_4cfef_2 (by decide) rfl ?_
  refine g_iload_n cx 3 rfl e_J1_indexOfChar_4cfef_4 ?_
  refine g_istore cx [(5, .int a2), (4, .int x1), (0, .ref (X.1.2.2.2.2 1)), (1, .int a1), (2, .int a2), (3, .int a3)] e_J1_indexOfChar_4cfef_5 (by decide) rfl ?_
  have J7 : ∀ (N : Nat) (y3 : Int32), (jv 0 2147483647 y3) → (SP = K_J1_indexOfChar_4cfef_s1_7 a3 x1 N y3) → (2147483647 - y3.toInt).toNat < N → G X E 6 0 0 (ws) [(0, .ref (X.1.2.2.2.2 1)), (3, .int a3), (4, .int x1), (5, .int y3)] 7 [] := by
    intro N
    induction N with
    | zero => intro y3 py3 hkJ7 hm; exact absurd hm (Nat.not_lt_zero _)
    | succ N ih7 =>
      intro y3 py3 hkJ7 hm7
      have hkK7 : SP = KB_J1_indexOfChar_4cfef_s1_7 (K_J1_indexOfChar_4cfef_s1_7 a3 x1 N) a3 x1 y3 := hkJ7
      obtain ⟨b7, hb7⟩ : ∃ z, z = K_J1_indexOfChar_4cfef_s1_7 a3 x1 N := ⟨_, rfl⟩
      rw [← hb7] at hkK7
      unfold KB_J1_indexOfChar_4cfef_s1_7 at hkK7
      refine g_iload cx 3 rfl e_J1_indexOfChar_4cfef_7 ?_
      refine g_iload_n cx 1 rfl e_J1_indexOfChar_4cfef_9 ?_
      refine g_icmp_ge cx 31 e_J1_indexOfChar_4cfef_10 (by decide) (fun zc4 => ?_) (fun zc4 => ?_)
      · have hk5 := hkK7.trans (if_pos zc4)
        refine g_iconst cx (-1) (by decide) e_J1_indexOfChar_4cfef_31 ?_
        exact hret e_J1_indexOfChar_4cfef_32 (Nat.le_of_ble_eq_true rfl) (Nat.le_of_ble_eq_true rfl) rfl ⟨rfl, (jv_w (jv_k (x := (-1)) (-1) (by decide)) (by decide)), (hk5.symm.trans hSP)⟩
      · have p6 := gn_lt 0 11 (gc_nle zc4) py3 pa3 (by decide)
        have p7 := gn_gt 1 12 (gc_nle zc4) pa3 py3 (by decide)
        have hk8 := hkK7.trans (if_neg zc4)
        refine g_aload_n cx 0 rfl e_J1_indexOfChar_4cfef_13 ?_
        refine g_iload cx 3 rfl e_J1_indexOfChar_4cfef_14 ?_
        refine g_strb cx 1 (by decide) (i := y3) (jv_ix 12 p6 (by decide)) e_J1_indexOfChar_4cfef_16 ?_
        refine g_topi (fun x9 ex9 => ?_)
        have hk10 := k_ls hk8 ex9
        refine g_iload cx 2 rfl e_J1_indexOfChar_4cfef_17 ?_
        refine g_icmp_ne cx 25 e_J1_indexOfChar_4cfef_19 (by decide) (fun zc11 => ?_) (fun zc11 => ?_)
        · have hk12 := hk10.trans (if_neg zc11)
          obtain ⟨x13, ex13⟩ : ∃ z : Int32, z = y3 + Int32.ofInt 1 := ⟨_, rfl⟩
          have hk14 := k_ls hk12 (show x13 = y3 + 1 from ex13)
          refine g_iinc cx x13 [(5, .int x13), (0, .ref (X.1.2.2.2.2 1)), (3, .int a3), (4, .int x1)] 3 e_J1_indexOfChar_4cfef_25 rfl ex13.symm (by decide) rfl ?_
          have zx13 := jv_add 1 12 (show x13 = y3 + 1 from ex13) p6 (jv_k (x := 1) 1 (by decide)) (by decide)
          refine g_goto cx 7 e_J1_indexOfChar_4cfef_28 (by decide) ?_
          refine g_lsub [1, 2, 3, 0] [(0, .ref (X.1.2.2.2.2 1)), (3, .int a3), (4, .int x1), (5, .int x13)] rfl ?_
          exact ih7 x13 (jv_w zx13.2 (by decide)) (hk14.trans (by rw [hb7])) (Nat.lt_of_lt_of_le (show (2147483647 - x13.toInt).toNat < (2147483647 - y3.toInt).toNat from by have q0 := (jv_k (x := 1) 1 (by decide)).1; have q1 := (jv_k (x := 1) 1 (by decide)).2; have q2 := p7.1; have q3 := p7.2; have q4 := zx13.2.1; have q5 := zx13.2.2; have q6 := p6.1; have q7 := p6.2; have q8 := (gc_nle zc4); have q9 := (g_eq0 zx13.1); omega) (Nat.le_of_lt_succ hm7))
        · have hk15 := hk10.trans (if_pos zc11)
          refine g_iload cx 3 rfl e_J1_indexOfChar_4cfef_22 ?_
          exact hret e_J1_indexOfChar_4cfef_24 (Nat.le_of_ble_eq_true rfl) (Nat.le_of_ble_eq_true rfl) rfl ⟨rfl, (jv_w p6 (by decide)), (hk15.symm.trans hSP)⟩
  refine g_lsub [2, 5, 1, 0] [(0, .ref (X.1.2.2.2.2 1)), (3, .int a3), (4, .int x1), (5, .int a2)] rfl ?_
  exact J7 8589934592 a2 (jv_w pa2 (by decide)) hk2 (show (2147483647 - a2.toInt).toNat < 8589934592 from by have q0 := pa2.1; have q1 := pa2.2; omega)
def sp_J1_indexOf_4cfef_s1 (a1 : Int32) (a2 : Int32) (a3 : Int32) : Int32 :=
  k_lt (sp_J1_canEncode_9a6ad_s1 a1) (fun r1 => if r1 = 0 then (-1) else k_lt (if a2 < 0 then 0 else a2) (fun x8 => k_lt (if 12 < a3 then 12 else a3) (fun x10 => if x8 < x10 then k_lt (sp_J1_indexOfChar_4cfef_s1 a1 x8 x10) (fun r15 => r15) else (-1))))
set_option maxHeartbeats 4000000 in
set_option maxRecDepth 100000 in
theorem w_J1_indexOf_4cfef_s1 (l : Launch) (X : gX) (ws : va_W) (a1 : Int32) (a2 : Int32) (a3 : Int32) (pa2 : jv 0 0 a2) (pa3 : jv 0 12 a3) : g_Ci l X yJ1_indexOf_4cfef cJ1_indexOf_4cfef 4 (some .int) 2 0 0 [.ref (X.1.2.2.2.2 1), .int a1, .int a2, .int a3] ws (fun r w => w = ws ∧ jv (-1) 11 r ∧ r = sp_J1_indexOf_4cfef_s1 a1 a2 a3) := by
  refine g_mi (by decide +kernel) (Nat.le_of_ble_eq_true rfl) (fun E cx hret => ?_)
  obtain ⟨SP, hSP⟩ : ∃ z, z = sp_J1_indexOf_4cfef_s1 a1 a2 a3 := ⟨_, rfl⟩
  have hk0 := hSP
  unfold sp_J1_indexOf_4cfef_s1 at hk0
  refine g_iload_n cx 1 rfl e_J1_indexOf_4cfef_0 ?_
  refine g_cSiW cx [.int a1] [] (w_J1_canEncode_9a6ad_s1 l X (ws) a1) ml_J1_88 yS_J1_canEncode_9a6ad rfl e_J1_indexOf_4cfef_1 (by unfold g_rr; decide) (by decide) rfl (Nat.le_of_ble_eq_true rfl) (fun r1 w2 h3 => ?_)
  obtain ⟨ewr1, pr1⟩ := h3
  refine g_weq ws ewr1 ?_
  obtain ⟨pr1, hxr1⟩ := pr1
  have hk4 := k_ls hk0 hxr1
  refine g_if_ne cx 9 e_J1_indexOf_4cfef_4 (by decide) (fun zc5 => ?_) (fun zc5 => ?_)
  · have p6 := gn_neL 1 1 (gc_ne zc5) pr1 (jv_k (x := 0) 0 (by decide)) (by decide)
    have hk7 := hk4.trans (if_neg zc5)
    refine g_iload_n cx 2 rfl e_J1_indexOf_4cfef_9 ?_
    refine g_iconst cx 0 (by decide) e_J1_indexOf_4cfef_10 ?_
    refine g_mmax cx ml_J1_92 e_J1_indexOf_4cfef_11 ⟨Nat.le_of_ble_eq_true rfl, Nat.le_of_ble_eq_true rfl⟩ (by decide) ?_
    refine g_topi (fun x8 ex8 => ?_)
    have hk9 := k_ls hk7 ex8
    have px8 := jv_max 0 0 ex8 pa2 (jv_k (x := 0) 0 (by decide)) (by decide)
    refine g_istore_n cx [(2, .int x8), (0, .ref (X.1.2.2.2.2 1)), (1, .int a1), (3, .int a3)] e_J1_indexOf_4cfef_14 (by decide) rfl ?_
    refine g_iload_n cx 3 rfl e_J1_indexOf_4cfef_15 ?_
    refine g_aload_n cx 1 rfl e_J1_indexOf_4cfef_16 ?_
    refine g_strn cx 1 (by decide) 12 (by decide) e_J1_indexOf_4cfef_17 ?_
    refine g_mmin cx ml_J1_38 e_J1_indexOf_4cfef_18 ⟨Nat.le_of_ble_eq_true rfl, Nat.le_of_ble_eq_true rfl⟩ (by decide) ?_
    refine g_topi (fun x10 ex10 => ?_)
    have hk11 := k_ls hk9 ex10
    have px10 := jv_min 0 12 ex10 pa3 (jv_k (x := 12) 12 (by decide)) (by decide)
    refine g_istore_n cx [(3, .int x10), (2, .int x8), (0, .ref (X.1.2.2.2.2 1)), (1, .int a1)] e_J1_indexOf_4cfef_21 (by decide) rfl ?_
    refine g_iload_n cx 1 rfl e_J1_indexOf_4cfef_22 ?_
    refine g_iload_n cx 0 rfl e_J1_indexOf_4cfef_23 ?_
    refine g_icmp_lt cx 29 e_J1_indexOf_4cfef_24 (by decide) (fun zc12 => ?_) (fun zc12 => ?_)
    · have p13 := gn_gt 1 12 (gc_lt zc12) px10 px8 (by decide)
      have hk14 := hk11.trans (if_pos zc12)
      refine g_aload_n cx 2 rfl e_J1_indexOf_4cfef_29 ?_
      refine g_iload_n cx 3 rfl e_J1_indexOf_4cfef_30 ?_
      refine g_iload_n cx 1 rfl e_J1_indexOf_4cfef_31 ?_
      refine g_iload_n cx 0 rfl e_J1_indexOf_4cfef_32 ?_
      refine g_cSiW cx [.ref (X.1.2.2.2.2 1), .int a1, .int x8, .int x10] [] (w_J1_indexOfChar_4cfef_s1 l X (ws) a1 x8 x10 (jv_w px8 (by decide)) (jv_w p13 (by decide))) ml_J1_95 yS_J1_indexOfChar_4cfef rfl e_J1_indexOf_4cfef_33 (by unfold g_rr; decide) (by decide) rfl (Nat.le_of_ble_eq_true rfl) (fun r15 w16 h17 => ?_)
      obtain ⟨ewr15, pr15⟩ := h17
      refine g_weq ws ewr15 ?_
      obtain ⟨pr15, hxr15⟩ := pr15
      have hk18 := k_ls hk14 hxr15
      exact hret e_J1_indexOf_4cfef_36 (Nat.le_of_ble_eq_true rfl) (Nat.le_of_ble_eq_true rfl) rfl ⟨rfl, pr15, (hk18.symm.trans hSP)⟩
    · have p19 := gn_le 0 0 (gc_nlt zc12) px10 px8 (by decide)
      have hk20 := hk11.trans (if_neg zc12)
      refine g_iconst cx (-1) (by decide) e_J1_indexOf_4cfef_27 ?_
      exact hret e_J1_indexOf_4cfef_28 (Nat.le_of_ble_eq_true rfl) (Nat.le_of_ble_eq_true rfl) rfl ⟨rfl, (jv_w (jv_k (x := (-1)) (-1) (by decide)) (by decide)), (hk20.symm.trans hSP)⟩
  · have p21 := gn_eq 0 0 (gc_eq zc5) pr1 (jv_k (x := 0) 0 (by decide)) (by decide)
    have hk22 := hk4.trans (if_pos zc5)
    refine g_iconst cx (-1) (by decide) e_J1_indexOf_4cfef_7 ?_
    exact hret e_J1_indexOf_4cfef_8 (Nat.le_of_ble_eq_true rfl) (Nat.le_of_ble_eq_true rfl) rfl ⟨rfl, (jv_w (jv_k (x := (-1)) (-1) (by decide)) (by decide)), (hk22.symm.trans hSP)⟩
def sp_J0_indexOf_7cf53_s1 (a0 : Int32) (a1 : Int32) : Int32 :=
  k_lt (sp_J1_indexOf_4cfef_s1 a0 a1 12) (fun r7 => r7)
set_option maxHeartbeats 4000000 in
set_option maxRecDepth 100000 in
theorem w_J0_indexOf_7cf53_s1 (l : Launch) (X : gX) (ws : va_W) (a0 : Int32) (a1 : Int32) (pa1 : jv 0 0 a1) : g_Ci l X yJ0_indexOf_7cf53 cJ0_indexOf_7cf53 3 (some .int) 3 0 0 [.ref (X.1.2.2.2.1 1), .int a0, .int a1] ws (fun r w => w = ws ∧ jv (-1) 11 r ∧ r = sp_J0_indexOf_7cf53_s1 a0 a1) := by
  refine g_mi (by decide +kernel) (Nat.le_of_ble_eq_true rfl) (fun E cx hret => ?_)
  obtain ⟨SP, hSP⟩ : ∃ z, z = sp_J0_indexOf_7cf53_s1 a0 a1 := ⟨_, rfl⟩
  have hk0 := hSP
  unfold sp_J0_indexOf_7cf53_s1 at hk0
  refine g_aload_n cx 0 rfl e_J0_indexOf_7cf53_0 ?_
  refine g_cVsW cx [] [] 1 (by decide) rfl (w_J0_isLatin1_aae02_s1 l X (ws) ) ml_J0_492 yV_J0_isLatin1_aae02 e_J0_indexOf_7cf53_1 (by unfold g_rr; decide) (by decide) rfl (Nat.le_of_ble_eq_true rfl) (fun r1 w2 h3 => ?_)
  obtain ⟨ewr1, pr1⟩ := h3
  refine g_weq ws ewr1 ?_
  replace pr1 := pr1.1
  refine g_toi 1 (jv_c 1 pr1 (by decide)) ?_
  refine g_if_eq_f cx 23 e_J0_indexOf_7cf53_4 (by decide) (by decide) ?_
  refine g_aload_n cx 0 rfl e_J0_indexOf_7cf53_7 ?_
  refine g_strv cx 1 (by decide) fl_J0_9 e_J0_indexOf_7cf53_8 ?_
  refine g_iload_n cx 1 rfl e_J0_indexOf_7cf53_11 ?_
  refine g_iload_n cx 2 rfl e_J0_indexOf_7cf53_12 ?_
  refine g_aload_n cx 0 rfl e_J0_indexOf_7cf53_13 ?_
  refine g_cVsW cx [] [.int a1, .int a0, .ref (X.1.2.2.2.2 1)] 1 (by decide) rfl (w_J0_length_8abf5_s1 l X (ws) ) ml_J0_505 yV_J0_length_8abf5 e_J0_indexOf_7cf53_14 (by unfold g_rr; decide) (by decide) rfl (Nat.le_of_ble_eq_true rfl) (fun r4 w5 h6 => ?_)
  obtain ⟨ewr4, pr4⟩ := h6
  refine g_weq ws ewr4 ?_
  replace pr4 := pr4.1
  refine g_toi 12 (jv_c 12 pr4 (by decide)) ?_
  refine g_cOiW cx [.ref (X.1.2.2.2.2 1), .int a0, .int a1, .int 12] [] (w_J1_indexOf_4cfef_s1 l X (ws) a0 a1 12 (jv_w pa1 (by decide)) (jv_w (jv_k (x := 12) 12 (by decide)) (by decide))) ml_J0_637 yS_J1_indexOf_4cfef e_J0_indexOf_7cf53_17 (by unfold g_rr; decide) (by decide) rfl (Nat.le_of_ble_eq_true rfl) (fun r7 w8 h9 => ?_)
  obtain ⟨ewr7, pr7⟩ := h9
  refine g_weq ws ewr7 ?_
  obtain ⟨pr7, hxr7⟩ := pr7
  have hk10 := k_ls hk0 hxr7
  refine g_goto cx 36 e_J0_indexOf_7cf53_20 (by decide) ?_
  exact hret e_J0_indexOf_7cf53_36 (Nat.le_of_ble_eq_true rfl) (Nat.le_of_ble_eq_true rfl) rfl ⟨rfl, pr7, (hk10.symm.trans hSP)⟩
def sp_J0_indexOf_0f7a4_s1 (a0 : Int32) : Int32 :=
  k_lt (sp_J0_indexOf_7cf53_s1 a0 0) (fun r1 => r1)
set_option maxHeartbeats 4000000 in
set_option maxRecDepth 100000 in
theorem w_J0_indexOf_0f7a4_s1 (l : Launch) (X : gX) (ws : va_W) (a0 : Int32) : g_Ci l X yJ0_indexOf_0f7a4 cJ0_indexOf_0f7a4 2 (some .int) 4 0 0 [.ref (X.1.2.2.2.1 1), .int a0] ws (fun r w => w = ws ∧ jv (-1) 11 r ∧ r = sp_J0_indexOf_0f7a4_s1 a0) := by
  refine g_mi (by decide +kernel) (Nat.le_of_ble_eq_true rfl) (fun E cx hret => ?_)
  obtain ⟨SP, hSP⟩ : ∃ z, z = sp_J0_indexOf_0f7a4_s1 a0 := ⟨_, rfl⟩
  have hk0 := hSP
  unfold sp_J0_indexOf_0f7a4_s1 at hk0
  refine g_aload_n cx 0 rfl e_J0_indexOf_0f7a4_0 ?_
  refine g_iload_n cx 1 rfl e_J0_indexOf_0f7a4_1 ?_
  refine g_iconst cx 0 (by decide) e_J0_indexOf_0f7a4_2 ?_
  refine g_cVsW cx [.int a0, .int 0] [] 1 (by decide) rfl (w_J0_indexOf_7cf53_s1 l X (ws) a0 0 (jv_w (jv_k (x := 0) 0 (by decide)) (by decide))) ml_J0_633 yV_J0_indexOf_7cf53 e_J0_indexOf_0f7a4_3 (by unfold g_rr; decide) (by decide) rfl (Nat.le_of_ble_eq_true rfl) (fun r1 w2 h3 => ?_)
  obtain ⟨ewr1, pr1⟩ := h3
  refine g_weq ws ewr1 ?_
  obtain ⟨pr1, hxr1⟩ := pr1
  have hk4 := k_ls hk0 hxr1
  exact hret e_J0_indexOf_0f7a4_6 (Nat.le_of_ble_eq_true rfl) (Nat.le_of_ble_eq_true rfl) rfl ⟨rfl, pr1, (hk4.symm.trans hSP)⟩
def sp_J6_bitCount_0f7a4_s0 (a0 : Int32) : Int32 :=
  k_lt ((Int32.toUInt32 a0 >>> (Int32.toUInt32 1 &&& Int32.toUInt32 31)).toInt32) (fun x1 => k_lt (x1 &&& 1431655765) (fun x3 => k_lt (a0 - x3) (fun x5 => k_lt (x5 &&& 858993459) (fun x7 => k_lt ((Int32.toUInt32 x5 >>> (Int32.toUInt32 2 &&& Int32.toUInt32 31)).toInt32) (fun x9 => k_lt (x9 &&& 858993459) (fun x11 => k_lt (x7 + x11) (fun x13 => k_lt ((Int32.toUInt32 x13 >>> (Int32.toUInt32 4 &&& Int32.toUInt32 31)).toInt32) (fun x15 => k_lt (x13 + x15) (fun x17 => k_lt (x17 &&& 252645135) (fun x19 => k_lt ((Int32.toUInt32 x19 >>> (Int32.toUInt32 8 &&& Int32.toUInt32 31)).toInt32) (fun x21 => k_lt (x19 + x21) (fun x23 => k_lt ((Int32.toUInt32 x23 >>> (Int32.toUInt32 16 &&& Int32.toUInt32 31)).toInt32) (fun x25 => k_lt (x23 + x25) (fun x27 => k_lt (x27 &&& 63) (fun x29 => x29)))))))))))))))
theorem e_J6_bitCount_0f7a4_0 : g_dc cJ6_bitCount_0f7a4 0 (.iload_n 0) 1 1 := ⟨by decide +kernel, rfl⟩
theorem e_J6_bitCount_0f7a4_1 : g_dc cJ6_bitCount_0f7a4 1 (.iload_n 0) 1 2 := ⟨by decide +kernel, rfl⟩
theorem e_J6_bitCount_0f7a4_2 : g_dc cJ6_bitCount_0f7a4 2 (.iconst 1) 1 3 := ⟨by decide +kernel, rfl⟩
theorem e_J6_bitCount_0f7a4_3 : g_dc cJ6_bitCount_0f7a4 3 (.iushr) 1 4 := ⟨by decide +kernel, rfl⟩
theorem e_J6_bitCount_0f7a4_4 : g_dc cJ6_bitCount_0f7a4 4 (.ldc_w 265) 3 7 := ⟨by decide +kernel, rfl⟩
theorem e_J6_bitCount_0f7a4_7 : g_dc cJ6_bitCount_0f7a4 7 (.iand) 1 8 := ⟨by decide +kernel, rfl⟩
theorem e_J6_bitCount_0f7a4_8 : g_dc cJ6_bitCount_0f7a4 8 (.isub) 1 9 := ⟨by decide +kernel, rfl⟩
theorem e_J6_bitCount_0f7a4_9 : g_dc cJ6_bitCount_0f7a4 9 (.istore_n 0) 1 10 := ⟨by decide +kernel, rfl⟩
theorem e_J6_bitCount_0f7a4_10 : g_dc cJ6_bitCount_0f7a4 10 (.iload_n 0) 1 11 := ⟨by decide +kernel, rfl⟩
theorem e_J6_bitCount_0f7a4_11 : g_dc cJ6_bitCount_0f7a4 11 (.ldc_w 266) 3 14 := ⟨by decide +kernel, rfl⟩
theorem e_J6_bitCount_0f7a4_14 : g_dc cJ6_bitCount_0f7a4 14 (.iand) 1 15 := ⟨by decide +kernel, rfl⟩
theorem e_J6_bitCount_0f7a4_15 : g_dc cJ6_bitCount_0f7a4 15 (.iload_n 0) 1 16 := ⟨by decide +kernel, rfl⟩
theorem e_J6_bitCount_0f7a4_16 : g_dc cJ6_bitCount_0f7a4 16 (.iconst 2) 1 17 := ⟨by decide +kernel, rfl⟩
theorem e_J6_bitCount_0f7a4_17 : g_dc cJ6_bitCount_0f7a4 17 (.iushr) 1 18 := ⟨by decide +kernel, rfl⟩
theorem e_J6_bitCount_0f7a4_18 : g_dc cJ6_bitCount_0f7a4 18 (.ldc_w 266) 3 21 := ⟨by decide +kernel, rfl⟩
theorem e_J6_bitCount_0f7a4_21 : g_dc cJ6_bitCount_0f7a4 21 (.iand) 1 22 := ⟨by decide +kernel, rfl⟩
theorem e_J6_bitCount_0f7a4_22 : g_dc cJ6_bitCount_0f7a4 22 (.iadd) 1 23 := ⟨by decide +kernel, rfl⟩
theorem e_J6_bitCount_0f7a4_23 : g_dc cJ6_bitCount_0f7a4 23 (.istore_n 0) 1 24 := ⟨by decide +kernel, rfl⟩
theorem e_J6_bitCount_0f7a4_24 : g_dc cJ6_bitCount_0f7a4 24 (.iload_n 0) 1 25 := ⟨by decide +kernel, rfl⟩
theorem e_J6_bitCount_0f7a4_25 : g_dc cJ6_bitCount_0f7a4 25 (.iload_n 0) 1 26 := ⟨by decide +kernel, rfl⟩
theorem e_J6_bitCount_0f7a4_26 : g_dc cJ6_bitCount_0f7a4 26 (.iconst 4) 1 27 := ⟨by decide +kernel, rfl⟩
theorem e_J6_bitCount_0f7a4_27 : g_dc cJ6_bitCount_0f7a4 27 (.iushr) 1 28 := ⟨by decide +kernel, rfl⟩
theorem e_J6_bitCount_0f7a4_28 : g_dc cJ6_bitCount_0f7a4 28 (.iadd) 1 29 := ⟨by decide +kernel, rfl⟩
theorem e_J6_bitCount_0f7a4_29 : g_dc cJ6_bitCount_0f7a4 29 (.ldc_w 267) 3 32 := ⟨by decide +kernel, rfl⟩
theorem e_J6_bitCount_0f7a4_32 : g_dc cJ6_bitCount_0f7a4 32 (.iand) 1 33 := ⟨by decide +kernel, rfl⟩
theorem e_J6_bitCount_0f7a4_33 : g_dc cJ6_bitCount_0f7a4 33 (.istore_n 0) 1 34 := ⟨by decide +kernel, rfl⟩
theorem e_J6_bitCount_0f7a4_34 : g_dc cJ6_bitCount_0f7a4 34 (.iload_n 0) 1 35 := ⟨by decide +kernel, rfl⟩
theorem e_J6_bitCount_0f7a4_35 : g_dc cJ6_bitCount_0f7a4 35 (.iload_n 0) 1 36 := ⟨by decide +kernel, rfl⟩
theorem e_J6_bitCount_0f7a4_36 : g_dc cJ6_bitCount_0f7a4 36 (.bipush 8) 2 38 := ⟨by decide +kernel, rfl⟩
theorem e_J6_bitCount_0f7a4_38 : g_dc cJ6_bitCount_0f7a4 38 (.iushr) 1 39 := ⟨by decide +kernel, rfl⟩
theorem e_J6_bitCount_0f7a4_39 : g_dc cJ6_bitCount_0f7a4 39 (.iadd) 1 40 := ⟨by decide +kernel, rfl⟩
theorem e_J6_bitCount_0f7a4_40 : g_dc cJ6_bitCount_0f7a4 40 (.istore_n 0) 1 41 := ⟨by decide +kernel, rfl⟩
theorem e_J6_bitCount_0f7a4_41 : g_dc cJ6_bitCount_0f7a4 41 (.iload_n 0) 1 42 := ⟨by decide +kernel, rfl⟩
theorem e_J6_bitCount_0f7a4_42 : g_dc cJ6_bitCount_0f7a4 42 (.iload_n 0) 1 43 := ⟨by decide +kernel, rfl⟩
theorem e_J6_bitCount_0f7a4_43 : g_dc cJ6_bitCount_0f7a4 43 (.bipush 16) 2 45 := ⟨by decide +kernel, rfl⟩
theorem e_J6_bitCount_0f7a4_45 : g_dc cJ6_bitCount_0f7a4 45 (.iushr) 1 46 := ⟨by decide +kernel, rfl⟩
theorem e_J6_bitCount_0f7a4_46 : g_dc cJ6_bitCount_0f7a4 46 (.iadd) 1 47 := ⟨by decide +kernel, rfl⟩
theorem e_J6_bitCount_0f7a4_47 : g_dc cJ6_bitCount_0f7a4 47 (.istore_n 0) 1 48 := ⟨by decide +kernel, rfl⟩
theorem e_J6_bitCount_0f7a4_48 : g_dc cJ6_bitCount_0f7a4 48 (.iload_n 0) 1 49 := ⟨by decide +kernel, rfl⟩
theorem e_J6_bitCount_0f7a4_49 : g_dc cJ6_bitCount_0f7a4 49 (.bipush 63) 2 51 := ⟨by decide +kernel, rfl⟩
theorem e_J6_bitCount_0f7a4_51 : g_dc cJ6_bitCount_0f7a4 51 (.iand) 1 52 := ⟨by decide +kernel, rfl⟩
theorem e_J6_bitCount_0f7a4_52 : g_dc cJ6_bitCount_0f7a4 52 (.ireturn) 1 53 := ⟨by decide +kernel, rfl⟩
set_option maxHeartbeats 4000000 in
set_option maxRecDepth 100000 in
theorem w_J6_bitCount_0f7a4_s0 (l : Launch) (X : gX) (ws : va_W) (a0 : Int32) : g_Ci l X yJ6_bitCount_0f7a4 cJ6_bitCount_0f7a4 1 (some .int) 1 0 0 [.int a0] ws (fun r w => w = ws ∧ jv 0 63 r ∧ r = sp_J6_bitCount_0f7a4_s0 a0) := by
  refine g_mi (by decide +kernel) (Nat.le_of_ble_eq_true rfl) (fun E cx hret => ?_)
  obtain ⟨SP, hSP⟩ : ∃ z, z = sp_J6_bitCount_0f7a4_s0 a0 := ⟨_, rfl⟩
  have hk0 := hSP
  unfold sp_J6_bitCount_0f7a4_s0 at hk0
  refine g_iload_n cx 0 rfl e_J6_bitCount_0f7a4_0 ?_
  refine g_iload_n cx 0 rfl e_J6_bitCount_0f7a4_1 ?_
  refine g_iconst cx 1 (by decide) e_J6_bitCount_0f7a4_2 ?_
  refine g_iushr cx e_J6_bitCount_0f7a4_3 ?_
  refine g_topi (fun x1 ex1 => ?_)
  have hk2 := k_ls hk0 ex1
  refine g_ldcw cx 1431655765 kc_J6_265 e_J6_bitCount_0f7a4_4 ?_
  refine g_iand cx e_J6_bitCount_0f7a4_7 ?_
  refine g_topi (fun x3 ex3 => ?_)
  have hk4 := k_ls hk2 ex3
  have px3 := jv_and 0 1431655765 ex3 (jv_k (x := 1431655765) 1431655765 (by decide)) (by decide)
  refine g_isub cx e_J6_bitCount_0f7a4_8 ?_
  refine g_topi (fun x5 ex5 => ?_)
  have hk6 := k_ls hk4 ex5
  refine g_istore_n cx [(0, .int x5)] e_J6_bitCount_0f7a4_9 (by decide) rfl ?_
  refine g_iload_n cx 0 rfl e_J6_bitCount_0f7a4_10 ?_
  refine g_ldcw cx 858993459 kc_J6_266 e_J6_bitCount_0f7a4_11 ?_
  refine g_iand cx e_J6_bitCount_0f7a4_14 ?_
  refine g_topi (fun x7 ex7 => ?_)
  have hk8 := k_ls hk6 ex7
  have px7 := jv_and 0 858993459 ex7 (jv_k (x := 858993459) 858993459 (by decide)) (by decide)
  refine g_iload_n cx 0 rfl e_J6_bitCount_0f7a4_15 ?_
  refine g_iconst cx 2 (by decide) e_J6_bitCount_0f7a4_16 ?_
  refine g_iushr cx e_J6_bitCount_0f7a4_17 ?_
  refine g_topi (fun x9 ex9 => ?_)
  have hk10 := k_ls hk8 ex9
  refine g_ldcw cx 858993459 kc_J6_266 e_J6_bitCount_0f7a4_18 ?_
  refine g_iand cx e_J6_bitCount_0f7a4_21 ?_
  refine g_topi (fun x11 ex11 => ?_)
  have hk12 := k_ls hk10 ex11
  have px11 := jv_and 0 858993459 ex11 (jv_k (x := 858993459) 858993459 (by decide)) (by decide)
  refine g_iadd cx e_J6_bitCount_0f7a4_22 ?_
  refine g_topi (fun x13 ex13 => ?_)
  have hk14 := k_ls hk12 ex13
  have zx13 := jv_add 0 1717986918 ex13 px7 px11 (by decide)
  refine g_istore_n cx [(0, .int x13)] e_J6_bitCount_0f7a4_23 (by decide) rfl ?_
  refine g_iload_n cx 0 rfl e_J6_bitCount_0f7a4_24 ?_
  refine g_iload_n cx 0 rfl e_J6_bitCount_0f7a4_25 ?_
  refine g_iconst cx 4 (by decide) e_J6_bitCount_0f7a4_26 ?_
  refine g_iushr cx e_J6_bitCount_0f7a4_27 ?_
  refine g_topi (fun x15 ex15 => ?_)
  have hk16 := k_ls hk14 ex15
  refine g_iadd cx e_J6_bitCount_0f7a4_28 ?_
  refine g_topi (fun x17 ex17 => ?_)
  have hk18 := k_ls hk16 ex17
  refine g_ldcw cx 252645135 kc_J6_267 e_J6_bitCount_0f7a4_29 ?_
  refine g_iand cx e_J6_bitCount_0f7a4_32 ?_
  refine g_topi (fun x19 ex19 => ?_)
  have hk20 := k_ls hk18 ex19
  have px19 := jv_and 0 252645135 ex19 (jv_k (x := 252645135) 252645135 (by decide)) (by decide)
  refine g_istore_n cx [(0, .int x19)] e_J6_bitCount_0f7a4_33 (by decide) rfl ?_
  refine g_iload_n cx 0 rfl e_J6_bitCount_0f7a4_34 ?_
  refine g_iload_n cx 0 rfl e_J6_bitCount_0f7a4_35 ?_
  refine g_bipush cx 8 (by decide) e_J6_bitCount_0f7a4_36 ?_
  refine g_iushr cx e_J6_bitCount_0f7a4_38 ?_
  refine g_topi (fun x21 ex21 => ?_)
  have hk22 := k_ls hk20 ex21
  refine g_iadd cx e_J6_bitCount_0f7a4_39 ?_
  refine g_topi (fun x23 ex23 => ?_)
  have hk24 := k_ls hk22 ex23
  refine g_istore_n cx [(0, .int x23)] e_J6_bitCount_0f7a4_40 (by decide) rfl ?_
  refine g_iload_n cx 0 rfl e_J6_bitCount_0f7a4_41 ?_
  refine g_iload_n cx 0 rfl e_J6_bitCount_0f7a4_42 ?_
  refine g_bipush cx 16 (by decide) e_J6_bitCount_0f7a4_43 ?_
  refine g_iushr cx e_J6_bitCount_0f7a4_45 ?_
  refine g_topi (fun x25 ex25 => ?_)
  have hk26 := k_ls hk24 ex25
  refine g_iadd cx e_J6_bitCount_0f7a4_46 ?_
  refine g_topi (fun x27 ex27 => ?_)
  have hk28 := k_ls hk26 ex27
  refine g_istore_n cx [(0, .int x27)] e_J6_bitCount_0f7a4_47 (by decide) rfl ?_
  refine g_iload_n cx 0 rfl e_J6_bitCount_0f7a4_48 ?_
  refine g_bipush cx 63 (by decide) e_J6_bitCount_0f7a4_49 ?_
  refine g_iand cx e_J6_bitCount_0f7a4_51 ?_
  refine g_topi (fun x29 ex29 => ?_)
  have hk30 := k_ls hk28 ex29
  have px29 := jv_and 0 63 ex29 (jv_k (x := 63) 63 (by decide)) (by decide)
  exact hret e_J6_bitCount_0f7a4_52 (Nat.le_of_ble_eq_true rfl) (Nat.le_of_ble_eq_true rfl) rfl ⟨rfl, px29, (hk30.symm.trans hSP)⟩
