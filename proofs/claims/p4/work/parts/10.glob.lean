section GGL
variable {X : gX} {E : gE} {nL k n : Nat} {l : Launch} {R : Room} {cc : ByteArray} {own : String} {ini : Prop} {ws : va_W} {lv : List (Nat × Value)} {pc pc' : Nat} {st st0 : List Value}
variable {y : MethodName} {b : ByteArray} {ml d mc ms idx : Nat} {wc : va_W}

theorem g_gsL (cx : g_cx X E nL l R cc own ini) {i : Nat} {host : String} (hw : Cond.fieldLinkNest own i "ClothPull" "LAW_LEAST" "[I" host ∈ lw_tbl) (hd : g_dc cc pc (.getstatic i) 3 pc') (kk : G X E nL k n ws lv pc' (.ref X.1.2.1 :: st)) : G X E nL k n ws lv pc (st) := by
  obtain ⟨p, e, s, args, below, meth, c, Q, hE, hx, hb, hml, hown, hts, hK, hN, hG, hA, hini⟩ := cx
  obtain ⟨hd, rfl⟩ := hd
  obtain ⟨hh, h1, h2, h3, h4, h5, h6, h7, h8⟩ := hG
  intro H locs ls hP hD hS hl0
  have k1 := kk H locs ls hP hD hS hl0
  rw [hE] at k1 ⊢
  rw [← hh] at h1 h2 h3 h4 h5 h6 hS
  exact va_getsN hx hb h1 hS hown (va_Nw.use rfl (hN _ hw rfl)) (fun _ h => h) hd k1
theorem g_tlL (cx : g_cx X E nL l R cc own ini) {i : Int32} (hin : vp_in i 6) (hd : g_dc cc pc .iaload 1 pc') (kk : G X E nL k n ws lv pc' (.int (g_least.getD i.toNatClampNeg 0) :: st)) : G X E nL k n ws lv pc (.int i :: .ref X.1.2.1 :: st) := by
  obtain ⟨p, e, s, args, below, meth, c, Q, hE, hx, hb, hml, hown, hts, hK, hN, hG, hA, hini⟩ := cx
  obtain ⟨hd, rfl⟩ := hd
  obtain ⟨hh, h1, h2, h3, h4, h5, h6, h7, h8⟩ := hG
  intro H locs ls hP hD hS hl0
  have k1 := kk H locs ls hP hD hS hl0
  rw [hE] at k1 ⊢
  rw [← hh] at h1 h2 h3 h4 h5 h6 hS
  exact va_ti hx hb h2 hS hin rfl hd k1
theorem g_gsM (cx : g_cx X E nL l R cc own ini) {i : Nat} {host : String} (hw : Cond.fieldLinkNest own i "ClothPull" "LAW_MOST" "[I" host ∈ lw_tbl) (hd : g_dc cc pc (.getstatic i) 3 pc') (kk : G X E nL k n ws lv pc' (.ref X.1.2.2.1 :: st)) : G X E nL k n ws lv pc (st) := by
  obtain ⟨p, e, s, args, below, meth, c, Q, hE, hx, hb, hml, hown, hts, hK, hN, hG, hA, hini⟩ := cx
  obtain ⟨hd, rfl⟩ := hd
  obtain ⟨hh, h1, h2, h3, h4, h5, h6, h7, h8⟩ := hG
  intro H locs ls hP hD hS hl0
  have k1 := kk H locs ls hP hD hS hl0
  rw [hE] at k1 ⊢
  rw [← hh] at h1 h2 h3 h4 h5 h6 hS
  exact va_getsN hx hb h3 hS hown (va_Nw.use rfl (hN _ hw rfl)) (fun _ h => h) hd k1
theorem g_tlM (cx : g_cx X E nL l R cc own ini) {i : Int32} (hin : vp_in i 6) (hd : g_dc cc pc .iaload 1 pc') (kk : G X E nL k n ws lv pc' (.int (g_most.getD i.toNatClampNeg 0) :: st)) : G X E nL k n ws lv pc (.int i :: .ref X.1.2.2.1 :: st) := by
  obtain ⟨p, e, s, args, below, meth, c, Q, hE, hx, hb, hml, hown, hts, hK, hN, hG, hA, hini⟩ := cx
  obtain ⟨hd, rfl⟩ := hd
  obtain ⟨hh, h1, h2, h3, h4, h5, h6, h7, h8⟩ := hG
  intro H locs ls hP hD hS hl0
  have k1 := kk H locs ls hP hD hS hl0
  rw [hE] at k1 ⊢
  rw [← hh] at h1 h2 h3 h4 h5 h6 hS
  exact va_ti hx hb h4 hS hin rfl hd k1
theorem g_ldcS0 (cx : g_cx X E nL l R cc own ini) (ho : own = "ClothPull$LawReader") (hd : g_dc cc pc (.ldc 50) 2 pc') (kk : G X E nL k n ws lv pc' (.ref (X.1.2.2.2.1 0) :: st)) : G X E nL k n ws lv pc (st) := by
  obtain ⟨p, e, s, args, below, meth, c, Q, hE, hx, hb, hml, hown, hts, hK, hN, hG, hA, hini⟩ := cx
  obtain ⟨hd, rfl⟩ := hd
  obtain ⟨hh, h1, h2, h3, h4, h5, h6, h7, h8⟩ := hG
  intro H locs ls hP hD hS hl0
  have k1 := kk H locs ls hP hD hS hl0
  rw [hE] at k1 ⊢
  rw [← hh] at h1 h2 h3 h4 h5 h6 hS
  exact va_ldcS hx hb (own := own) hown (by rw [ho]; exact h7) hd k1
theorem g_ldcS1 (cx : g_cx X E nL l R cc own ini) (ho : own = "ClothPull$LawReader") (hd : g_dc cc pc (.ldc 109) 2 pc') (kk : G X E nL k n ws lv pc' (.ref (X.1.2.2.2.1 1) :: st)) : G X E nL k n ws lv pc (st) := by
  obtain ⟨p, e, s, args, below, meth, c, Q, hE, hx, hb, hml, hown, hts, hK, hN, hG, hA, hini⟩ := cx
  obtain ⟨hd, rfl⟩ := hd
  obtain ⟨hh, h1, h2, h3, h4, h5, h6, h7, h8⟩ := hG
  intro H locs ls hP hD hS hl0
  have k1 := kk H locs ls hP hD hS hl0
  rw [hE] at k1 ⊢
  rw [← hh] at h1 h2 h3 h4 h5 h6 hS
  exact va_ldcS hx hb (own := own) hown (by rw [ho]; exact h8) hd k1
theorem g_strv (cx : g_cx X E nL l R cc own ini) {i : Nat} (j : Nat) (hj : j < 2) (hw : Cond.fieldLink own i "java/lang/String" "value" "[B" ∈ gT) (hd : g_dc cc pc (.getfield i) 3 pc') (kk : G X E nL k n ws lv pc' (.ref (X.1.2.2.2.2 j) :: st)) : G X E nL k n ws lv pc (.ref (X.1.2.2.2.1 j) :: st) := by
  obtain ⟨p, e, s, args, below, meth, c, Q, hE, hx, hb, hml, hown, hts, hK, hN, hG, hA, hini⟩ := cx
  obtain ⟨hd, rfl⟩ := hd
  obtain ⟨hh, h1, h2, h3, h4, h5, h6, h7, h8⟩ := hG
  intro H locs ls hP hD hS hl0
  have k1 := kk H locs ls hP hD hS hl0
  rw [hE] at k1 ⊢
  rw [← hh] at h1 h2 h3 h4 h5 h6 hS
  exact vk_getf hx hb (h6.1 j hj).2.2.1 hS hown (hts _ hw) (fun _ h => h) hd k1
theorem g_strc (cx : g_cx X E nL l R cc own ini) {i : Nat} (j : Nat) (hj : j < 2) (hw : Cond.fieldLink own i "java/lang/String" "coder" "B" ∈ gT) (hd : g_dc cc pc (.getfield i) 3 pc') (kk : G X E nL k n ws lv pc' (.int 0 :: st)) : G X E nL k n ws lv pc (.ref (X.1.2.2.2.1 j) :: st) := by
  obtain ⟨p, e, s, args, below, meth, c, Q, hE, hx, hb, hml, hown, hts, hK, hN, hG, hA, hini⟩ := cx
  obtain ⟨hd, rfl⟩ := hd
  obtain ⟨hh, h1, h2, h3, h4, h5, h6, h7, h8⟩ := hG
  intro H locs ls hP hD hS hl0
  have k1 := kk H locs ls hP hD hS hl0
  rw [hE] at k1 ⊢
  rw [← hh] at h1 h2 h3 h4 h5 h6 hS
  exact vk_getf hx hb (h6.1 j hj).2.1 hS hown (hts _ hw) (fun _ h => h) hd k1
theorem g_strs (cx : g_cx X E nL l R cc own ini) {i : Nat} (hw : Cond.fieldLink own i "java/lang/String" "COMPACT_STRINGS" "Z" ∈ gT) (hd : g_dc cc pc (.getstatic i) 3 pc') (kk : G X E nL k n ws lv pc' (.int 1 :: st)) : G X E nL k n ws lv pc (st) := by
  obtain ⟨p, e, s, args, below, meth, c, Q, hE, hx, hb, hml, hown, hts, hK, hN, hG, hA, hini⟩ := cx
  obtain ⟨hd, rfl⟩ := hd
  obtain ⟨hh, h1, h2, h3, h4, h5, h6, h7, h8⟩ := hG
  intro H locs ls hP hD hS hl0
  have k1 := kk H locs ls hP hD hS hl0
  rw [hE] at k1 ⊢
  rw [← hh] at h1 h2 h3 h4 h5 h6 hS
  exact va_gets hx hb h5 hS hown (hts _ hw) (fun _ h => h) hd k1
theorem g_strn (cx : g_cx X E nL l R cc own ini) (j : Nat) (hj : j < 2) (v : Int32) (hv : Int32.ofNat (g_len.getD j 0) = v) (hd : g_dc cc pc .arraylength 1 pc') (kk : G X E nL k n ws lv pc' (.int v :: st)) : G X E nL k n ws lv pc (.ref (X.1.2.2.2.2 j) :: st) := by
  obtain ⟨p, e, s, args, below, meth, c, Q, hE, hx, hb, hml, hown, hts, hK, hN, hG, hA, hini⟩ := cx
  obtain ⟨hd, rfl⟩ := hd
  obtain ⟨hh, h1, h2, h3, h4, h5, h6, h7, h8⟩ := hG
  intro H locs ls hP hD hS hl0
  have k1 := kk H locs ls hP hD hS hl0
  rw [hE] at k1 ⊢
  rw [← hh] at h1 h2 h3 h4 h5 h6 hS
  exact va_tlen hx hb (h6.1 j hj).2.2.2 hS hv hd k1
theorem g_strb (cx : g_cx X E nL l R cc own ini) (j : Nat) (hj : j < 2) {i : Int32} (hin : vp_in i (g_len.getD j 0)) (hd : g_dc cc pc .baload 1 pc') (kk : G X E nL k n ws lv pc' (.int ((g_byt.getD j []).getD i.toNatClampNeg 0) :: st)) : G X E nL k n ws lv pc (.int i :: .ref (X.1.2.2.2.2 j) :: st) := by
  obtain ⟨p, e, s, args, below, meth, c, Q, hE, hx, hb, hml, hown, hts, hK, hN, hG, hA, hini⟩ := cx
  obtain ⟨hd, rfl⟩ := hd
  obtain ⟨hh, h1, h2, h3, h4, h5, h6, h7, h8⟩ := hG
  intro H locs ls hP hD hS hl0
  have k1 := kk H locs ls hP hD hS hl0
  rw [hE] at k1 ⊢
  rw [← hh] at h1 h2 h3 h4 h5 h6 hS
  exact va_tb hx hb (h6.1 j hj).2.2.2 hS hin rfl hd k1
theorem g_cVsW {ret : Option FieldType} {post : Int32 → va_W → Prop} (cx : g_cx X E nL l R cc own ini) (As st : List Value) (j : Nat) (hj : j < 2) (hyc : y.cls = "java/lang/String") (hM : g_Ci l X y b ml ret d mc ms (.ref (X.1.2.2.2.1 j) :: As) ws post) (hw : Cond.methodLink own idx y ∈ gT) (hy : g_yV y b ml ret As.length) (hd : g_dc cc pc (.invokevirtual idx) 3 pc') (hR : g_rr R d ml) (hf : k + mc ≤ R.cells ∧ n + ms ≤ R.slots)  (hst : st0 = As.reverse ++ .ref (X.1.2.2.2.1 j) :: st) (hW : (st.map fun v => v.category).sum ≤ 8)
    (kk : ∀ r w, post r w → G X E nL (k + mc) (n + ms) w lv pc' (.int r :: st)) : G X E nL k n ws lv pc st0 := by
  obtain ⟨p, e, s, args, below, meth, c, Q, hE, hx, hb, hml, hown, hts, hK, hN, hG, hA, hini⟩ := cx
  obtain ⟨hd, rfl⟩ := hd
  subst hst
  have hh := hG.1
  have h6 := hG.2.2.2.2.2.2.1
  intro H locs ls hP hD hS hl
  rw [hE]
  have hPc : va_P X.1.1 vwCl ws H := hP
  have hDc := hD
  have hFc := va_free (wc := ws) hD hS hA (List.range ws.length) (g_all ws)
  have hgood : GoodIn gT (wsV own idx y.cls y (gW y b ml ret)) := g_good (fun w h => by
    simp only [wsV, gW, List.mem_append, List.mem_cons, List.not_mem_nil, or_false] at h
    rcases h with (rfl | rfl | rfl | rfl) | rfl | h
    · exact hw
    · exact hy.1
    · exact hy.2.1
    · exact hy.2.2.1
    · exact hy.2.2.2.1
    · exact h)
  refine va_calli (va_runV (As := As) (rest := st) ⟨hx, hb, hml, hown, hts⟩ (hM H.size) (cwV As.length hts hgood rfl rfl rfl ⟨rfl, hy.2.2.2.2⟩ hR) ⟨g_pc_ok, (by rw [hyc]; rw [← hh] at h6 hS; exact vk_recv h6 hj hS), fun U hU hW => ⟨rfl, by rw [hU], by rw [hU]; exact hPc, va_K.moved hW.alike hK, hDc.weaken (fun _ _ _ _ => trivial), g_nf_warm hW hN, g_gl_call hG.2 hS hFc hU hW⟩⟩ rfl rfl hl.1 rfl (lv_room hW) hd hf) hS (fun q _ h => hFc q h) hFc (fun r w t H1 locs1 ht hvm hp hB hz hk1 hS1 => ?_)
  obtain ⟨hP1, hD1⟩ := hB
  rw [ht] at hP1
  have k1 := kk r w hp H1 locs1 ls hP1 (hD1.weaken (fun _ q _ h => hFc q.1 h)) hS1 hl
  rw [hE] at k1
  exact k1
end GGL
def RJ0 : String := "java/lang/String"
def RJ1 : String := "java/lang/StringLatin1"
abbrev cJ0_length_8abf5 : ByteArray := prog_17_method_54_code
def yJ0_length_8abf5 : MethodName := ⟨RJ0, "length", "()I"⟩
abbrev cJ0_indexOf_0f7a4 : ByteArray := prog_17_method_79_code
def yJ0_indexOf_0f7a4 : MethodName := ⟨RJ0, "indexOf", "(I)I"⟩
abbrev cJ0_indexOf_7cf53 : ByteArray := prog_17_method_80_code
def yJ0_indexOf_7cf53 : MethodName := ⟨RJ0, "indexOf", "(II)I"⟩
abbrev cJ0_coder_7d493 : ByteArray := prog_17_method_152_code
def yJ0_coder_7d493 : MethodName := ⟨RJ0, "coder", "()B"⟩
abbrev cJ0_isLatin1_aae02 : ByteArray := prog_17_method_154_code
def yJ0_isLatin1_aae02 : MethodName := ⟨RJ0, "isLatin1", "()Z"⟩
abbrev cJ0_checkBoundsBeginEnd_23922 : ByteArray := prog_17_method_158_code
def yJ0_checkBoundsBeginEnd_23922 : MethodName := ⟨RJ0, "checkBoundsBeginEnd", "(III)V"⟩
abbrev cJ1_canEncode_9a6ad : ByteArray := prog_18_method_4_code
def yJ1_canEncode_9a6ad : MethodName := ⟨RJ1, "canEncode", "(I)Z"⟩
abbrev cJ1_indexOf_4cfef : ByteArray := prog_18_method_22_code
def yJ1_indexOf_4cfef : MethodName := ⟨RJ1, "indexOf", "([BIII)I"⟩
abbrev cJ1_indexOfChar_4cfef : ByteArray := prog_18_method_23_code
def yJ1_indexOfChar_4cfef : MethodName := ⟨RJ1, "indexOfChar", "([BIII)I"⟩
theorem fl_J0_9 : Cond.fieldLink RJ0 9 "java/lang/String" "value" "[B" ∈ gT := g_k8 30 rfl rfl
theorem fl_J0_15 : Cond.fieldLink RJ0 15 "java/lang/String" "coder" "B" ∈ gT := g_k8 29 rfl rfl
theorem fl_J0_38 : Cond.fieldLink RJ0 38 "java/lang/String" "COMPACT_STRINGS" "Z" ∈ gT := g_k3 25 rfl rfl
theorem ml_X3_52 : Cond.methodLink RX3 52 yJ0_indexOf_0f7a4 ∈ gT := g_k3 13 rfl rfl
theorem ml_J0_633 : Cond.methodLink RJ0 633 yJ0_indexOf_7cf53 ∈ gT := g_k3 17 rfl rfl
theorem ml_J0_492 : Cond.methodLink RJ0 492 yJ0_isLatin1_aae02 ∈ gT := g_k3 21 rfl rfl
theorem ml_J0_505 : Cond.methodLink RJ0 505 yJ0_length_8abf5 ∈ gT := g_k3 27 rfl rfl
theorem ml_J0_335 : Cond.methodLink RJ0 335 yJ0_coder_7d493 ∈ gT := g_k3 31 rfl rfl
theorem ml_J0_637 : Cond.methodLink RJ0 637 yJ1_indexOf_4cfef ∈ gT := g_k3 35 rfl rfl
theorem ml_J1_88 : Cond.methodLink RJ1 88 yJ1_canEncode_9a6ad ∈ gT := g_k3 38 rfl rfl
theorem ml_J1_95 : Cond.methodLink RJ1 95 yJ1_indexOfChar_4cfef ∈ gT := g_k3 47 rfl rfl
theorem ml_J1_92 : Cond.methodLink RJ1 92 Lib.Math.max.name ∈ gT := g_k3 41 rfl rfl
theorem ml_J1_38 : Cond.methodLink RJ1 38 Lib.Math.min.name ∈ gT := g_k3 44 rfl rfl
theorem yV_J0_indexOf_0f7a4 : g_yV yJ0_indexOf_0f7a4 cJ0_indexOf_0f7a4 2 (some .int) 1 := ⟨g_k3 14 rfl rfl, g_k3 15 rfl rfl, g_k1 14 rfl rfl, g_k3 16 rfl rfl, by decide +kernel, by decide +kernel, by decide +kernel⟩
theorem yV_J0_indexOf_7cf53 : g_yV yJ0_indexOf_7cf53 cJ0_indexOf_7cf53 3 (some .int) 2 := ⟨g_k3 18 rfl rfl, g_k3 19 rfl rfl, g_k1 14 rfl rfl, g_k3 20 rfl rfl, by decide +kernel, by decide +kernel, by decide +kernel⟩
theorem yV_J0_isLatin1_aae02 : g_yV yJ0_isLatin1_aae02 cJ0_isLatin1_aae02 1 (some .boolean) 0 := ⟨g_k3 22 rfl rfl, g_k3 23 rfl rfl, g_k1 14 rfl rfl, g_k3 24 rfl rfl, by decide +kernel, by decide +kernel, by decide +kernel⟩
theorem yV_J0_length_8abf5 : g_yV yJ0_length_8abf5 cJ0_length_8abf5 1 (some .int) 0 := ⟨g_k3 28 rfl rfl, g_k3 29 rfl rfl, g_k1 14 rfl rfl, g_k3 30 rfl rfl, by decide +kernel, by decide +kernel, by decide +kernel⟩
theorem yV_J0_coder_7d493 : g_yV yJ0_coder_7d493 cJ0_coder_7d493 1 (some .byte) 0 := ⟨g_k3 32 rfl rfl, g_k3 33 rfl rfl, g_k1 14 rfl rfl, g_k3 34 rfl rfl, by decide +kernel, by decide +kernel, by decide +kernel⟩
theorem yS_J1_indexOf_4cfef : g_yS yJ1_indexOf_4cfef cJ1_indexOf_4cfef 4 (some .int) 4 := ⟨g_k3 36 rfl rfl, g_k1 15 rfl rfl, g_k3 37 rfl rfl, by decide +kernel, by decide +kernel, by decide +kernel⟩
theorem yS_J1_canEncode_9a6ad : g_yS yJ1_canEncode_9a6ad cJ1_canEncode_9a6ad 1 (some .boolean) 1 := ⟨g_k3 39 rfl rfl, g_k1 15 rfl rfl, g_k3 40 rfl rfl, by decide +kernel, by decide +kernel, by decide +kernel⟩
theorem yS_J1_indexOfChar_4cfef : g_yS yJ1_indexOfChar_4cfef cJ1_indexOfChar_4cfef 6 (some .int) 4 := ⟨g_k3 48 rfl rfl, g_k1 15 rfl rfl, g_k3 49 rfl rfl, by decide +kernel, by decide +kernel, by decide +kernel⟩
theorem jv_c {x : Int32} {a b : Int} (y : Int32) (h : jv a b x) (hh : a = y.toInt ∧ b = y.toInt) : x = y := by
  unfold jv at h
  exact Int32.toInt_inj.mp (by omega)
theorem e_J0_coder_7d493_0 : g_dc cJ0_coder_7d493 0 (.getstatic 38) 3 3 := ⟨by decide +kernel, rfl⟩
theorem e_J0_coder_7d493_3 : g_dc cJ0_coder_7d493 3 (.ifCond .eq 10) 3 6 := ⟨by decide +kernel, rfl⟩
theorem e_J0_coder_7d493_6 : g_dc cJ0_coder_7d493 6 (.aload_n 0) 1 7 := ⟨by decide +kernel, rfl⟩
theorem e_J0_coder_7d493_7 : g_dc cJ0_coder_7d493 7 (.getfield 15) 3 10 := ⟨by decide +kernel, rfl⟩
theorem e_J0_coder_7d493_10 : g_dc cJ0_coder_7d493 10 (.goto 4) 3 13 := ⟨by decide +kernel, rfl⟩
theorem e_J0_coder_7d493_14 : g_dc cJ0_coder_7d493 14 (.ireturn) 1 15 := ⟨by decide +kernel, rfl⟩
set_option maxHeartbeats 4000000 in
set_option maxRecDepth 100000 in
theorem w_J0_coder_7d493_s0 (l : Launch) (X : gX) (ws : va_W) : g_Ci l X yJ0_coder_7d493 cJ0_coder_7d493 1 (some .byte) 1 0 0 [.ref (X.1.2.2.2.1 0)] ws (fun r w => w = ws ∧ jv 0 0 r) := by
  refine g_mi (by decide +kernel) (Nat.le_of_ble_eq_true rfl) (fun E cx hret => ?_)
  refine g_strs cx fl_J0_38 e_J0_coder_7d493_0 ?_
  refine g_if_eq_f cx 13 e_J0_coder_7d493_3 (by decide) (by decide) ?_
  refine g_aload_n cx 0 rfl e_J0_coder_7d493_6 ?_
  refine g_strc cx 0 (by decide) fl_J0_15 e_J0_coder_7d493_7 ?_
  refine g_goto cx 14 e_J0_coder_7d493_10 (by decide) ?_
  exact hret e_J0_coder_7d493_14 (Nat.le_of_ble_eq_true rfl) (Nat.le_of_ble_eq_true rfl) rfl ⟨rfl, (jv_k (x := 0) 0 (by decide))⟩
theorem e_J0_isLatin1_aae02_0 : g_dc cJ0_isLatin1_aae02 0 (.getstatic 38) 3 3 := ⟨by decide +kernel, rfl⟩
theorem e_J0_isLatin1_aae02_3 : g_dc cJ0_isLatin1_aae02 3 (.ifCond .eq 14) 3 6 := ⟨by decide +kernel, rfl⟩
theorem e_J0_isLatin1_aae02_6 : g_dc cJ0_isLatin1_aae02 6 (.aload_n 0) 1 7 := ⟨by decide +kernel, rfl⟩
theorem e_J0_isLatin1_aae02_7 : g_dc cJ0_isLatin1_aae02 7 (.getfield 15) 3 10 := ⟨by decide +kernel, rfl⟩
theorem e_J0_isLatin1_aae02_10 : g_dc cJ0_isLatin1_aae02 10 (.ifCond .ne 7) 3 13 := ⟨by decide +kernel, rfl⟩
theorem e_J0_isLatin1_aae02_13 : g_dc cJ0_isLatin1_aae02 13 (.iconst 1) 1 14 := ⟨by decide +kernel, rfl⟩
theorem e_J0_isLatin1_aae02_14 : g_dc cJ0_isLatin1_aae02 14 (.goto 4) 3 17 := ⟨by decide +kernel, rfl⟩
theorem e_J0_isLatin1_aae02_18 : g_dc cJ0_isLatin1_aae02 18 (.ireturn) 1 19 := ⟨by decide +kernel, rfl⟩
set_option maxHeartbeats 4000000 in
set_option maxRecDepth 100000 in
theorem w_J0_isLatin1_aae02_s0 (l : Launch) (X : gX) (ws : va_W) : g_Ci l X yJ0_isLatin1_aae02 cJ0_isLatin1_aae02 1 (some .boolean) 1 0 0 [.ref (X.1.2.2.2.1 0)] ws (fun r w => w = ws ∧ jv 1 1 r) := by
  refine g_mi (by decide +kernel) (Nat.le_of_ble_eq_true rfl) (fun E cx hret => ?_)
  refine g_strs cx fl_J0_38 e_J0_isLatin1_aae02_0 ?_
  refine g_if_eq_f cx 17 e_J0_isLatin1_aae02_3 (by decide) (by decide) ?_
  refine g_aload_n cx 0 rfl e_J0_isLatin1_aae02_6 ?_
  refine g_strc cx 0 (by decide) fl_J0_15 e_J0_isLatin1_aae02_7 ?_
  refine g_if_ne_f cx 17 e_J0_isLatin1_aae02_10 (by decide) (by decide) ?_
  refine g_iconst cx 1 (by decide) e_J0_isLatin1_aae02_13 ?_
  refine g_goto cx 18 e_J0_isLatin1_aae02_14 (by decide) ?_
  exact hret e_J0_isLatin1_aae02_18 (Nat.le_of_ble_eq_true rfl) (Nat.le_of_ble_eq_true rfl) rfl ⟨rfl, (jv_k (x := 1) 1 (by decide))⟩
theorem e_J0_length_8abf5_0 : g_dc cJ0_length_8abf5 0 (.aload_n 0) 1 1 := ⟨by decide +kernel, rfl⟩
theorem e_J0_length_8abf5_1 : g_dc cJ0_length_8abf5 1 (.getfield 9) 3 4 := ⟨by decide +kernel, rfl⟩
theorem e_J0_length_8abf5_4 : g_dc cJ0_length_8abf5 4 (.arraylength) 1 5 := ⟨by decide +kernel, rfl⟩
theorem e_J0_length_8abf5_5 : g_dc cJ0_length_8abf5 5 (.aload_n 0) 1 6 := ⟨by decide +kernel, rfl⟩
theorem e_J0_length_8abf5_6 : g_dc cJ0_length_8abf5 6 (.invokevirtual 335) 3 9 := ⟨by decide +kernel, rfl⟩
theorem e_J0_length_8abf5_9 : g_dc cJ0_length_8abf5 9 (.ishr) 1 10 := ⟨by decide +kernel, rfl⟩
theorem e_J0_length_8abf5_10 : g_dc cJ0_length_8abf5 10 (.ireturn) 1 11 := ⟨by decide +kernel, rfl⟩
set_option maxHeartbeats 4000000 in
set_option maxRecDepth 100000 in
theorem w_J0_length_8abf5_s0 (l : Launch) (X : gX) (ws : va_W) : g_Ci l X yJ0_length_8abf5 cJ0_length_8abf5 1 (some .int) 2 0 0 [.ref (X.1.2.2.2.1 0)] ws (fun r w => w = ws ∧ jv 6 6 r) := by
  refine g_mi (by decide +kernel) (Nat.le_of_ble_eq_true rfl) (fun E cx hret => ?_)
  refine g_aload_n cx 0 rfl e_J0_length_8abf5_0 ?_
  refine g_strv cx 0 (by decide) fl_J0_9 e_J0_length_8abf5_1 ?_
  refine g_strn cx 0 (by decide) 6 (by decide) e_J0_length_8abf5_4 ?_
  refine g_aload_n cx 0 rfl e_J0_length_8abf5_5 ?_
  refine g_cVsW cx [] [.int 6] 0 (by decide) rfl (w_J0_coder_7d493_s0 l X (ws) ) ml_J0_335 yV_J0_coder_7d493 e_J0_length_8abf5_6 (by unfold g_rr; decide) (by decide) rfl (Nat.le_of_ble_eq_true rfl) (fun r1 w2 h3 => ?_)
  obtain ⟨ewr1, pr1⟩ := h3
  refine g_weq ws ewr1 ?_
  refine g_toi 0 (jv_c 0 pr1 (by decide)) ?_
  refine g_ishr cx e_J0_length_8abf5_9 ?_
  refine g_toi 6 (by decide) ?_
  exact hret e_J0_length_8abf5_10 (Nat.le_of_ble_eq_true rfl) (Nat.le_of_ble_eq_true rfl) rfl ⟨rfl, (jv_k (x := 6) 6 (by decide))⟩
theorem e_J1_canEncode_9a6ad_0 : g_dc cJ1_canEncode_9a6ad 0 (.iload_n 0) 1 1 := ⟨by decide +kernel, rfl⟩
theorem e_J1_canEncode_9a6ad_1 : g_dc cJ1_canEncode_9a6ad 1 (.ifCond .lt 14) 3 4 := ⟨by decide +kernel, rfl⟩
theorem e_J1_canEncode_9a6ad_4 : g_dc cJ1_canEncode_9a6ad 4 (.iload_n 0) 1 5 := ⟨by decide +kernel, rfl⟩
theorem e_J1_canEncode_9a6ad_5 : g_dc cJ1_canEncode_9a6ad 5 (.sipush 255) 3 8 := ⟨by decide +kernel, rfl⟩
theorem e_J1_canEncode_9a6ad_8 : g_dc cJ1_canEncode_9a6ad 8 (.if_icmp .gt 7) 3 11 := ⟨by decide +kernel, rfl⟩
theorem e_J1_canEncode_9a6ad_11 : g_dc cJ1_canEncode_9a6ad 11 (.iconst 1) 1 12 := ⟨by decide +kernel, rfl⟩
theorem e_J1_canEncode_9a6ad_12 : g_dc cJ1_canEncode_9a6ad 12 (.goto 4) 3 15 := ⟨by decide +kernel, rfl⟩
theorem e_J1_canEncode_9a6ad_15 : g_dc cJ1_canEncode_9a6ad 15 (.iconst 0) 1 16 := ⟨by decide +kernel, rfl⟩
theorem e_J1_canEncode_9a6ad_16 : g_dc cJ1_canEncode_9a6ad 16 (.ireturn) 1 17 := ⟨by decide +kernel, rfl⟩
set_option maxHeartbeats 4000000 in
set_option maxRecDepth 100000 in
theorem w_J1_canEncode_9a6ad_s0 (l : Launch) (X : gX) (ws : va_W) (a0 : Int32) : g_Ci l X yJ1_canEncode_9a6ad cJ1_canEncode_9a6ad 1 (some .boolean) 1 0 0 [.int a0] ws (fun r w => w = ws ∧ jv 0 1 r) := by
  refine g_mi (by decide +kernel) (Nat.le_of_ble_eq_true rfl) (fun E cx hret => ?_)
  refine g_iload_n cx 0 rfl e_J1_canEncode_9a6ad_0 ?_
  have J16 : ∀ (y1 : Int32), (jv 0 1 y1) → G X E 1 0 0 (ws) [] 16 [.int y1] := by
    intro y1 py1
    exact hret e_J1_canEncode_9a6ad_16 (Nat.le_of_ble_eq_true rfl) (Nat.le_of_ble_eq_true rfl) (g_narb py1) ⟨rfl, py1⟩
  have J15 : G X E 1 0 0 (ws) [] 15 [] := by
    refine g_iconst cx 0 (by decide) e_J1_canEncode_9a6ad_15 ?_
    exact J16 0 (jv_w (jv_k (x := 0) 0 (by decide)) (by decide))
  refine g_if_lt cx 15 e_J1_canEncode_9a6ad_1 (by decide) (fun zc2 => ?_) (fun zc2 => ?_)
  · have p3 := gn_lt (-2147483648) (-1) (gc_lt zc2) (jv_t a0) (jv_k (x := 0) 0 (by decide)) (by decide)
    refine g_lsub [] [] rfl ?_
    exact J15  
  · have p4 := gn_ge 0 2147483647 (gc_nlt zc2) (jv_t a0) (jv_k (x := 0) 0 (by decide)) (by decide)
    refine g_iload_n cx 0 rfl e_J1_canEncode_9a6ad_4 ?_
    refine g_sipush cx 255 (by decide) e_J1_canEncode_9a6ad_5 ?_
    refine g_icmp_gt cx 15 e_J1_canEncode_9a6ad_8 (by decide) (fun zc5 => ?_) (fun zc5 => ?_)
    · have p6 := gn_gt 256 2147483647 (gc_lt zc5) p4 (jv_k (x := 255) 255 (by decide)) (by decide)
      refine g_lsub [] [] rfl ?_
      exact J15  
    · have p7 := gn_le 0 255 (gc_nlt zc5) p4 (jv_k (x := 255) 255 (by decide)) (by decide)
      refine g_iconst cx 1 (by decide) e_J1_canEncode_9a6ad_11 ?_
      refine g_goto cx 16 e_J1_canEncode_9a6ad_12 (by decide) ?_
      refine g_lsub [] [] rfl ?_
      exact J16 1 (jv_w (jv_k (x := 1) 1 (by decide)) (by decide))
theorem e_J1_indexOfChar_4cfef_0 : g_dc cJ1_indexOfChar_4cfef 0 (.iload_n 1) 1 1 := ⟨by decide +kernel, rfl⟩
theorem e_J1_indexOfChar_4cfef_1 : g_dc cJ1_indexOfChar_4cfef 1 (.i2b) 1 2 := ⟨by decide +kernel, rfl⟩
theorem e_J1_indexOfChar_4cfef_2 : g_dc cJ1_indexOfChar_4cfef 2 (.istore 4) 2 4 := ⟨by decide +kernel, rfl⟩
theorem e_J1_indexOfChar_4cfef_4 : g_dc cJ1_indexOfChar_4cfef 4 (.iload_n 2) 1 5 := ⟨by decide +kernel, rfl⟩
theorem e_J1_indexOfChar_4cfef_5 : g_dc cJ1_indexOfChar_4cfef 5 (.istore 5) 2 7 := ⟨by decide +kernel, rfl⟩
theorem e_J1_indexOfChar_4cfef_7 : g_dc cJ1_indexOfChar_4cfef 7 (.iload 5) 2 9 := ⟨by decide +kernel, rfl⟩
theorem e_J1_indexOfChar_4cfef_9 : g_dc cJ1_indexOfChar_4cfef 9 (.iload_n 3) 1 10 := ⟨by decide +kernel, rfl⟩
theorem e_J1_indexOfChar_4cfef_10 : g_dc cJ1_indexOfChar_4cfef 10 (.if_icmp .ge 21) 3 13 := ⟨by decide +kernel, rfl⟩
theorem e_J1_indexOfChar_4cfef_13 : g_dc cJ1_indexOfChar_4cfef 13 (.aload_n 0) 1 14 := ⟨by decide +kernel, rfl⟩
theorem e_J1_indexOfChar_4cfef_14 : g_dc cJ1_indexOfChar_4cfef 14 (.iload 5) 2 16 := ⟨by decide +kernel, rfl⟩
theorem e_J1_indexOfChar_4cfef_16 : g_dc cJ1_indexOfChar_4cfef 16 (.baload) 1 17 := ⟨by decide +kernel, rfl⟩
theorem e_J1_indexOfChar_4cfef_17 : g_dc cJ1_indexOfChar_4cfef 17 (.iload 4) 2 19 := ⟨by decide +kernel, rfl⟩
theorem e_J1_indexOfChar_4cfef_19 : g_dc cJ1_indexOfChar_4cfef 19 (.if_icmp .ne 6) 3 22 := ⟨by decide +kernel, rfl⟩
theorem e_J1_indexOfChar_4cfef_22 : g_dc cJ1_indexOfChar_4cfef 22 (.iload 5) 2 24 := ⟨by decide +kernel, rfl⟩
theorem e_J1_indexOfChar_4cfef_24 : g_dc cJ1_indexOfChar_4cfef 24 (.ireturn) 1 25 := ⟨by decide +kernel, rfl⟩
theorem e_J1_indexOfChar_4cfef_25 : g_dc cJ1_indexOfChar_4cfef 25 (.iinc 5 1) 3 28 := ⟨by decide +kernel, rfl⟩
theorem e_J1_indexOfChar_4cfef_28 : g_dc cJ1_indexOfChar_4cfef 28 (.goto (-21)) 3 31 := ⟨by decide +kernel, rfl⟩
theorem e_J1_indexOfChar_4cfef_31 : g_dc cJ1_indexOfChar_4cfef 31 (.iconst (-1)) 1 32 := ⟨by decide +kernel, rfl⟩
theorem e_J1_indexOfChar_4cfef_32 : g_dc cJ1_indexOfChar_4cfef 32 (.ireturn) 1 33 := ⟨by decide +kernel, rfl⟩
set_option maxHeartbeats 4000000 in
set_option maxRecDepth 100000 in
theorem w_J1_indexOfChar_4cfef_s0 (l : Launch) (X : gX) (ws : va_W) (a1 : Int32) (a2 : Int32) (a3 : Int32) (pa2 : jv 0 0 a2) (pa3 : jv 0 6 a3) : g_Ci l X yJ1_indexOfChar_4cfef cJ1_indexOfChar_4cfef 6 (some .int) 1 0 0 [.ref (X.1.2.2.2.2 0), .int a1, .int a2, .int a3] ws (fun r w => w = ws ∧ jv (-1) 5 r) := by
  refine g_mi (by decide +kernel) (Nat.le_of_ble_eq_true rfl) (fun E cx hret => ?_)
  refine g_iload_n cx 1 rfl e_J1_indexOfChar_4cfef_0 ?_
  refine g_i2b cx e_J1_indexOfChar_4cfef_1 ?_
  refine g_topi (fun x1 ex1 => ?_)
  refine g_istore cx [(4, .int x1), (0, .ref (X.1.2.2.2.2 0)), (1, .int a1), (2, .int a2), (3, .int a3)] e_J1_indexOfChar_4cfef_2 (by decide) rfl ?_
  refine g_iload_n cx 3 rfl e_J1_indexOfChar_4cfef_4 ?_
  refine g_istore cx [(5, .int a2), (4, .int x1), (0, .ref (X.1.2.2.2.2 0)), (1, .int a1), (2, .int a2), (3, .int a3)] e_J1_indexOfChar_4cfef_5 (by decide) rfl ?_
  have J7 : ∀ (N : Nat) (y2 : Int32), (jv 0 2147483647 y2) → (2147483647 - y2.toInt).toNat < N → G X E 6 0 0 (ws) [(0, .ref (X.1.2.2.2.2 0)), (3, .int a3), (4, .int x1), (5, .int y2)] 7 [] := by
    intro N
    induction N with
    | zero => intro y2 py2 hm; exact absurd hm (Nat.not_lt_zero _)
    | succ N ih7 =>
      intro y2 py2 hm7
      refine g_iload cx 3 rfl e_J1_indexOfChar_4cfef_7 ?_
      refine g_iload_n cx 1 rfl e_J1_indexOfChar_4cfef_9 ?_
      refine g_icmp_ge cx 31 e_J1_indexOfChar_4cfef_10 (by decide) (fun zc3 => ?_) (fun zc3 => ?_)
      · refine g_iconst cx (-1) (by decide) e_J1_indexOfChar_4cfef_31 ?_
        exact hret e_J1_indexOfChar_4cfef_32 (Nat.le_of_ble_eq_true rfl) (Nat.le_of_ble_eq_true rfl) rfl ⟨rfl, (jv_w (jv_k (x := (-1)) (-1) (by decide)) (by decide))⟩
      · have p4 := gn_lt 0 5 (gc_nle zc3) py2 pa3 (by decide)
        have p5 := gn_gt 1 6 (gc_nle zc3) pa3 py2 (by decide)
        refine g_aload_n cx 0 rfl e_J1_indexOfChar_4cfef_13 ?_
        refine g_iload cx 3 rfl e_J1_indexOfChar_4cfef_14 ?_
        refine g_strb cx 0 (by decide) (i := y2) (jv_ix 6 p4 (by decide)) e_J1_indexOfChar_4cfef_16 ?_
        refine g_topi (fun x6 ex6 => ?_)
        refine g_iload cx 2 rfl e_J1_indexOfChar_4cfef_17 ?_
        refine g_icmp_ne cx 25 e_J1_indexOfChar_4cfef_19 (by decide) (fun zc7 => ?_) (fun zc7 => ?_)
        · obtain ⟨x8, ex8⟩ : ∃ z : Int32, z = y2 + Int32.ofInt 1 := ⟨_, rfl⟩
          refine g_iinc cx x8 [(5, .int x8), (0, .ref (X.1.2.2.2.2 0)), (3, .int a3), (4, .int x1)] 3 e_J1_indexOfChar_4cfef_25 rfl ex8.symm (by decide) rfl ?_
          have zx8 := jv_add 1 6 (show x8 = y2 + 1 from ex8) p4 (jv_k (x := 1) 1 (by decide)) (by decide)
          refine g_goto cx 7 e_J1_indexOfChar_4cfef_28 (by decide) ?_
          refine g_lsub [1, 2, 3, 0] [(0, .ref (X.1.2.2.2.2 0)), (3, .int a3), (4, .int x1), (5, .int x8)] rfl ?_
          exact ih7 x8 (jv_w zx8.2 (by decide)) (Nat.lt_of_lt_of_le (show (2147483647 - x8.toInt).toNat < (2147483647 - y2.toInt).toNat from by have q0 := (jv_k (x := 1) 1 (by decide)).1; have q1 := (jv_k (x := 1) 1 (by decide)).2; have q2 := p5.1; have q3 := p5.2; have q4 := zx8.2.1; have q5 := zx8.2.2; have q6 := p4.1; have q7 := p4.2; have q8 := (gc_nle zc3); have q9 := (g_eq0 zx8.1); omega) (Nat.le_of_lt_succ hm7))
        · refine g_iload cx 3 rfl e_J1_indexOfChar_4cfef_22 ?_
          exact hret e_J1_indexOfChar_4cfef_24 (Nat.le_of_ble_eq_true rfl) (Nat.le_of_ble_eq_true rfl) rfl ⟨rfl, (jv_w p4 (by decide))⟩
  refine g_lsub [2, 5, 1, 0] [(0, .ref (X.1.2.2.2.2 0)), (3, .int a3), (4, .int x1), (5, .int a2)] rfl ?_
  exact J7 _ a2 (jv_w pa2 (by decide)) (Nat.lt_succ_self _)
theorem e_J1_indexOf_4cfef_0 : g_dc cJ1_indexOf_4cfef 0 (.iload_n 1) 1 1 := ⟨by decide +kernel, rfl⟩
theorem e_J1_indexOf_4cfef_1 : g_dc cJ1_indexOf_4cfef 1 (.invokestatic 88) 3 4 := ⟨by decide +kernel, rfl⟩
theorem e_J1_indexOf_4cfef_4 : g_dc cJ1_indexOf_4cfef 4 (.ifCond .ne 5) 3 7 := ⟨by decide +kernel, rfl⟩
theorem e_J1_indexOf_4cfef_7 : g_dc cJ1_indexOf_4cfef 7 (.iconst (-1)) 1 8 := ⟨by decide +kernel, rfl⟩
theorem e_J1_indexOf_4cfef_8 : g_dc cJ1_indexOf_4cfef 8 (.ireturn) 1 9 := ⟨by decide +kernel, rfl⟩
theorem e_J1_indexOf_4cfef_9 : g_dc cJ1_indexOf_4cfef 9 (.iload_n 2) 1 10 := ⟨by decide +kernel, rfl⟩
theorem e_J1_indexOf_4cfef_10 : g_dc cJ1_indexOf_4cfef 10 (.iconst 0) 1 11 := ⟨by decide +kernel, rfl⟩
theorem e_J1_indexOf_4cfef_11 : g_dc cJ1_indexOf_4cfef 11 (.invokestatic 92) 3 14 := ⟨by decide +kernel, rfl⟩
theorem e_J1_indexOf_4cfef_14 : g_dc cJ1_indexOf_4cfef 14 (.istore_n 2) 1 15 := ⟨by decide +kernel, rfl⟩
theorem e_J1_indexOf_4cfef_15 : g_dc cJ1_indexOf_4cfef 15 (.iload_n 3) 1 16 := ⟨by decide +kernel, rfl⟩
theorem e_J1_indexOf_4cfef_16 : g_dc cJ1_indexOf_4cfef 16 (.aload_n 0) 1 17 := ⟨by decide +kernel, rfl⟩
theorem e_J1_indexOf_4cfef_17 : g_dc cJ1_indexOf_4cfef 17 (.arraylength) 1 18 := ⟨by decide +kernel, rfl⟩
theorem e_J1_indexOf_4cfef_18 : g_dc cJ1_indexOf_4cfef 18 (.invokestatic 38) 3 21 := ⟨by decide +kernel, rfl⟩
theorem e_J1_indexOf_4cfef_21 : g_dc cJ1_indexOf_4cfef 21 (.istore_n 3) 1 22 := ⟨by decide +kernel, rfl⟩
theorem e_J1_indexOf_4cfef_22 : g_dc cJ1_indexOf_4cfef 22 (.iload_n 2) 1 23 := ⟨by decide +kernel, rfl⟩
theorem e_J1_indexOf_4cfef_23 : g_dc cJ1_indexOf_4cfef 23 (.iload_n 3) 1 24 := ⟨by decide +kernel, rfl⟩
theorem e_J1_indexOf_4cfef_24 : g_dc cJ1_indexOf_4cfef 24 (.if_icmp .lt 5) 3 27 := ⟨by decide +kernel, rfl⟩
theorem e_J1_indexOf_4cfef_27 : g_dc cJ1_indexOf_4cfef 27 (.iconst (-1)) 1 28 := ⟨by decide +kernel, rfl⟩
theorem e_J1_indexOf_4cfef_28 : g_dc cJ1_indexOf_4cfef 28 (.ireturn) 1 29 := ⟨by decide +kernel, rfl⟩
theorem e_J1_indexOf_4cfef_29 : g_dc cJ1_indexOf_4cfef 29 (.aload_n 0) 1 30 := ⟨by decide +kernel, rfl⟩
theorem e_J1_indexOf_4cfef_30 : g_dc cJ1_indexOf_4cfef 30 (.iload_n 1) 1 31 := ⟨by decide +kernel, rfl⟩
theorem e_J1_indexOf_4cfef_31 : g_dc cJ1_indexOf_4cfef 31 (.iload_n 2) 1 32 := ⟨by decide +kernel, rfl⟩
theorem e_J1_indexOf_4cfef_32 : g_dc cJ1_indexOf_4cfef 32 (.iload_n 3) 1 33 := ⟨by decide +kernel, rfl⟩
theorem e_J1_indexOf_4cfef_33 : g_dc cJ1_indexOf_4cfef 33 (.invokestatic 95) 3 36 := ⟨by decide +kernel, rfl⟩
theorem e_J1_indexOf_4cfef_36 : g_dc cJ1_indexOf_4cfef 36 (.ireturn) 1 37 := ⟨by decide +kernel, rfl⟩
set_option maxHeartbeats 4000000 in
set_option maxRecDepth 100000 in
theorem w_J1_indexOf_4cfef_s0 (l : Launch) (X : gX) (ws : va_W) (a1 : Int32) (a2 : Int32) (a3 : Int32) (pa2 : jv 0 0 a2) (pa3 : jv 0 6 a3) : g_Ci l X yJ1_indexOf_4cfef cJ1_indexOf_4cfef 4 (some .int) 2 0 0 [.ref (X.1.2.2.2.2 0), .int a1, .int a2, .int a3] ws (fun r w => w = ws ∧ jv (-1) 5 r) := by
  refine g_mi (by decide +kernel) (Nat.le_of_ble_eq_true rfl) (fun E cx hret => ?_)
  refine g_iload_n cx 1 rfl e_J1_indexOf_4cfef_0 ?_
  refine g_cSiW cx [.int a1] [] (w_J1_canEncode_9a6ad_s0 l X (ws) a1) ml_J1_88 yS_J1_canEncode_9a6ad rfl e_J1_indexOf_4cfef_1 (by unfold g_rr; decide) (by decide) rfl (Nat.le_of_ble_eq_true rfl) (fun r1 w2 h3 => ?_)
  obtain ⟨ewr1, pr1⟩ := h3
  refine g_weq ws ewr1 ?_
  refine g_if_ne cx 9 e_J1_indexOf_4cfef_4 (by decide) (fun zc4 => ?_) (fun zc4 => ?_)
  · have p5 := gn_neL 1 1 (gc_ne zc4) pr1 (jv_k (x := 0) 0 (by decide)) (by decide)
    refine g_iload_n cx 2 rfl e_J1_indexOf_4cfef_9 ?_
    refine g_iconst cx 0 (by decide) e_J1_indexOf_4cfef_10 ?_
    refine g_mmax cx ml_J1_92 e_J1_indexOf_4cfef_11 ⟨Nat.le_of_ble_eq_true rfl, Nat.le_of_ble_eq_true rfl⟩ (by decide) ?_
    refine g_topi (fun x6 ex6 => ?_)
    have px6 := jv_max 0 0 ex6 pa2 (jv_k (x := 0) 0 (by decide)) (by decide)
    refine g_istore_n cx [(2, .int x6), (0, .ref (X.1.2.2.2.2 0)), (1, .int a1), (3, .int a3)] e_J1_indexOf_4cfef_14 (by decide) rfl ?_
    refine g_iload_n cx 3 rfl e_J1_indexOf_4cfef_15 ?_
    refine g_aload_n cx 1 rfl e_J1_indexOf_4cfef_16 ?_
    refine g_strn cx 0 (by decide) 6 (by decide) e_J1_indexOf_4cfef_17 ?_
    refine g_mmin cx ml_J1_38 e_J1_indexOf_4cfef_18 ⟨Nat.le_of_ble_eq_true rfl, Nat.le_of_ble_eq_true rfl⟩ (by decide) ?_
    refine g_topi (fun x7 ex7 => ?_)
    have px7 := jv_min 0 6 ex7 pa3 (jv_k (x := 6) 6 (by decide)) (by decide)
    refine g_istore_n cx [(3, .int x7), (2, .int x6), (0, .ref (X.1.2.2.2.2 0)), (1, .int a1)] e_J1_indexOf_4cfef_21 (by decide) rfl ?_
    refine g_iload_n cx 1 rfl e_J1_indexOf_4cfef_22 ?_
    refine g_iload_n cx 0 rfl e_J1_indexOf_4cfef_23 ?_
    refine g_icmp_lt cx 29 e_J1_indexOf_4cfef_24 (by decide) (fun zc8 => ?_) (fun zc8 => ?_)
    · have p9 := gn_gt 1 6 (gc_lt zc8) px7 px6 (by decide)
      refine g_aload_n cx 2 rfl e_J1_indexOf_4cfef_29 ?_
      refine g_iload_n cx 3 rfl e_J1_indexOf_4cfef_30 ?_
      refine g_iload_n cx 1 rfl e_J1_indexOf_4cfef_31 ?_
      refine g_iload_n cx 0 rfl e_J1_indexOf_4cfef_32 ?_
      refine g_cSiW cx [.ref (X.1.2.2.2.2 0), .int a1, .int x6, .int x7] [] (w_J1_indexOfChar_4cfef_s0 l X (ws) a1 x6 x7 (jv_w px6 (by decide)) (jv_w p9 (by decide))) ml_J1_95 yS_J1_indexOfChar_4cfef rfl e_J1_indexOf_4cfef_33 (by unfold g_rr; decide) (by decide) rfl (Nat.le_of_ble_eq_true rfl) (fun r10 w11 h12 => ?_)
      obtain ⟨ewr10, pr10⟩ := h12
      refine g_weq ws ewr10 ?_
      exact hret e_J1_indexOf_4cfef_36 (Nat.le_of_ble_eq_true rfl) (Nat.le_of_ble_eq_true rfl) rfl ⟨rfl, pr10⟩
    · have p13 := gn_le 0 0 (gc_nlt zc8) px7 px6 (by decide)
      refine g_iconst cx (-1) (by decide) e_J1_indexOf_4cfef_27 ?_
      exact hret e_J1_indexOf_4cfef_28 (Nat.le_of_ble_eq_true rfl) (Nat.le_of_ble_eq_true rfl) rfl ⟨rfl, (jv_w (jv_k (x := (-1)) (-1) (by decide)) (by decide))⟩
  · have p14 := gn_eq 0 0 (gc_eq zc4) pr1 (jv_k (x := 0) 0 (by decide)) (by decide)
    refine g_iconst cx (-1) (by decide) e_J1_indexOf_4cfef_7 ?_
    exact hret e_J1_indexOf_4cfef_8 (Nat.le_of_ble_eq_true rfl) (Nat.le_of_ble_eq_true rfl) rfl ⟨rfl, (jv_w (jv_k (x := (-1)) (-1) (by decide)) (by decide))⟩
theorem e_J0_indexOf_7cf53_0 : g_dc cJ0_indexOf_7cf53 0 (.aload_n 0) 1 1 := ⟨by decide +kernel, rfl⟩
theorem e_J0_indexOf_7cf53_1 : g_dc cJ0_indexOf_7cf53 1 (.invokevirtual 492) 3 4 := ⟨by decide +kernel, rfl⟩
theorem e_J0_indexOf_7cf53_4 : g_dc cJ0_indexOf_7cf53 4 (.ifCond .eq 19) 3 7 := ⟨by decide +kernel, rfl⟩
theorem e_J0_indexOf_7cf53_7 : g_dc cJ0_indexOf_7cf53 7 (.aload_n 0) 1 8 := ⟨by decide +kernel, rfl⟩
theorem e_J0_indexOf_7cf53_8 : g_dc cJ0_indexOf_7cf53 8 (.getfield 9) 3 11 := ⟨by decide +kernel, rfl⟩
theorem e_J0_indexOf_7cf53_11 : g_dc cJ0_indexOf_7cf53 11 (.iload_n 1) 1 12 := ⟨by decide +kernel, rfl⟩
theorem e_J0_indexOf_7cf53_12 : g_dc cJ0_indexOf_7cf53 12 (.iload_n 2) 1 13 := ⟨by decide +kernel, rfl⟩
theorem e_J0_indexOf_7cf53_13 : g_dc cJ0_indexOf_7cf53 13 (.aload_n 0) 1 14 := ⟨by decide +kernel, rfl⟩
theorem e_J0_indexOf_7cf53_14 : g_dc cJ0_indexOf_7cf53 14 (.invokevirtual 505) 3 17 := ⟨by decide +kernel, rfl⟩
theorem e_J0_indexOf_7cf53_17 : g_dc cJ0_indexOf_7cf53 17 (.invokestatic 637) 3 20 := ⟨by decide +kernel, rfl⟩
theorem e_J0_indexOf_7cf53_20 : g_dc cJ0_indexOf_7cf53 20 (.goto 16) 3 23 := ⟨by decide +kernel, rfl⟩
theorem e_J0_indexOf_7cf53_36 : g_dc cJ0_indexOf_7cf53 36 (.ireturn) 1 37 := ⟨by decide +kernel, rfl⟩
set_option maxHeartbeats 4000000 in
set_option maxRecDepth 100000 in
theorem w_J0_indexOf_7cf53_s0 (l : Launch) (X : gX) (ws : va_W) (a0 : Int32) (a1 : Int32) (pa1 : jv 0 0 a1) : g_Ci l X yJ0_indexOf_7cf53 cJ0_indexOf_7cf53 3 (some .int) 3 0 0 [.ref (X.1.2.2.2.1 0), .int a0, .int a1] ws (fun r w => w = ws ∧ jv (-1) 5 r) := by
  refine g_mi (by decide +kernel) (Nat.le_of_ble_eq_true rfl) (fun E cx hret => ?_)
  refine g_aload_n cx 0 rfl e_J0_indexOf_7cf53_0 ?_
  refine g_cVsW cx [] [] 0 (by decide) rfl (w_J0_isLatin1_aae02_s0 l X (ws) ) ml_J0_492 yV_J0_isLatin1_aae02 e_J0_indexOf_7cf53_1 (by unfold g_rr; decide) (by decide) rfl (Nat.le_of_ble_eq_true rfl) (fun r1 w2 h3 => ?_)
  obtain ⟨ewr1, pr1⟩ := h3
  refine g_weq ws ewr1 ?_
  refine g_toi 1 (jv_c 1 pr1 (by decide)) ?_
  refine g_if_eq_f cx 23 e_J0_indexOf_7cf53_4 (by decide) (by decide) ?_
  refine g_aload_n cx 0 rfl e_J0_indexOf_7cf53_7 ?_
  refine g_strv cx 0 (by decide) fl_J0_9 e_J0_indexOf_7cf53_8 ?_
  refine g_iload_n cx 1 rfl e_J0_indexOf_7cf53_11 ?_
  refine g_iload_n cx 2 rfl e_J0_indexOf_7cf53_12 ?_
  refine g_aload_n cx 0 rfl e_J0_indexOf_7cf53_13 ?_
  refine g_cVsW cx [] [.int a1, .int a0, .ref (X.1.2.2.2.2 0)] 0 (by decide) rfl (w_J0_length_8abf5_s0 l X (ws) ) ml_J0_505 yV_J0_length_8abf5 e_J0_indexOf_7cf53_14 (by unfold g_rr; decide) (by decide) rfl (Nat.le_of_ble_eq_true rfl) (fun r4 w5 h6 => ?_)
  obtain ⟨ewr4, pr4⟩ := h6
  refine g_weq ws ewr4 ?_
  refine g_toi 6 (jv_c 6 pr4 (by decide)) ?_
  refine g_cOiW cx [.ref (X.1.2.2.2.2 0), .int a0, .int a1, .int 6] [] (w_J1_indexOf_4cfef_s0 l X (ws) a0 a1 6 (jv_w pa1 (by decide)) (jv_w (jv_k (x := 6) 6 (by decide)) (by decide))) ml_J0_637 yS_J1_indexOf_4cfef e_J0_indexOf_7cf53_17 (by unfold g_rr; decide) (by decide) rfl (Nat.le_of_ble_eq_true rfl) (fun r7 w8 h9 => ?_)
  obtain ⟨ewr7, pr7⟩ := h9
  refine g_weq ws ewr7 ?_
  refine g_goto cx 36 e_J0_indexOf_7cf53_20 (by decide) ?_
  exact hret e_J0_indexOf_7cf53_36 (Nat.le_of_ble_eq_true rfl) (Nat.le_of_ble_eq_true rfl) rfl ⟨rfl, pr7⟩
theorem e_J0_indexOf_0f7a4_0 : g_dc cJ0_indexOf_0f7a4 0 (.aload_n 0) 1 1 := ⟨by decide +kernel, rfl⟩
theorem e_J0_indexOf_0f7a4_1 : g_dc cJ0_indexOf_0f7a4 1 (.iload_n 1) 1 2 := ⟨by decide +kernel, rfl⟩
theorem e_J0_indexOf_0f7a4_2 : g_dc cJ0_indexOf_0f7a4 2 (.iconst 0) 1 3 := ⟨by decide +kernel, rfl⟩
theorem e_J0_indexOf_0f7a4_3 : g_dc cJ0_indexOf_0f7a4 3 (.invokevirtual 633) 3 6 := ⟨by decide +kernel, rfl⟩
theorem e_J0_indexOf_0f7a4_6 : g_dc cJ0_indexOf_0f7a4 6 (.ireturn) 1 7 := ⟨by decide +kernel, rfl⟩
set_option maxHeartbeats 4000000 in
set_option maxRecDepth 100000 in
theorem w_J0_indexOf_0f7a4_s0 (l : Launch) (X : gX) (ws : va_W) (a0 : Int32) : g_Ci l X yJ0_indexOf_0f7a4 cJ0_indexOf_0f7a4 2 (some .int) 4 0 0 [.ref (X.1.2.2.2.1 0), .int a0] ws (fun r w => w = ws ∧ jv (-1) 5 r) := by
  refine g_mi (by decide +kernel) (Nat.le_of_ble_eq_true rfl) (fun E cx hret => ?_)
  refine g_aload_n cx 0 rfl e_J0_indexOf_0f7a4_0 ?_
  refine g_iload_n cx 1 rfl e_J0_indexOf_0f7a4_1 ?_
  refine g_iconst cx 0 (by decide) e_J0_indexOf_0f7a4_2 ?_
  refine g_cVsW cx [.int a0, .int 0] [] 0 (by decide) rfl (w_J0_indexOf_7cf53_s0 l X (ws) a0 0 (jv_w (jv_k (x := 0) 0 (by decide)) (by decide))) ml_J0_633 yV_J0_indexOf_7cf53 e_J0_indexOf_0f7a4_3 (by unfold g_rr; decide) (by decide) rfl (Nat.le_of_ble_eq_true rfl) (fun r1 w2 h3 => ?_)
  obtain ⟨ewr1, pr1⟩ := h3
  refine g_weq ws ewr1 ?_
  exact hret e_J0_indexOf_0f7a4_6 (Nat.le_of_ble_eq_true rfl) (Nat.le_of_ble_eq_true rfl) rfl ⟨rfl, pr1⟩
set_option maxHeartbeats 4000000 in
set_option maxRecDepth 100000 in
theorem w_J0_coder_7d493_s1 (l : Launch) (X : gX) (ws : va_W) : g_Ci l X yJ0_coder_7d493 cJ0_coder_7d493 1 (some .byte) 1 0 0 [.ref (X.1.2.2.2.1 1)] ws (fun r w => w = ws ∧ jv 0 0 r) := by
  refine g_mi (by decide +kernel) (Nat.le_of_ble_eq_true rfl) (fun E cx hret => ?_)
  refine g_strs cx fl_J0_38 e_J0_coder_7d493_0 ?_
  refine g_if_eq_f cx 13 e_J0_coder_7d493_3 (by decide) (by decide) ?_
  refine g_aload_n cx 0 rfl e_J0_coder_7d493_6 ?_
  refine g_strc cx 1 (by decide) fl_J0_15 e_J0_coder_7d493_7 ?_
  refine g_goto cx 14 e_J0_coder_7d493_10 (by decide) ?_
  exact hret e_J0_coder_7d493_14 (Nat.le_of_ble_eq_true rfl) (Nat.le_of_ble_eq_true rfl) rfl ⟨rfl, (jv_k (x := 0) 0 (by decide))⟩
set_option maxHeartbeats 4000000 in
set_option maxRecDepth 100000 in
theorem w_J0_isLatin1_aae02_s1 (l : Launch) (X : gX) (ws : va_W) : g_Ci l X yJ0_isLatin1_aae02 cJ0_isLatin1_aae02 1 (some .boolean) 1 0 0 [.ref (X.1.2.2.2.1 1)] ws (fun r w => w = ws ∧ jv 1 1 r) := by
  refine g_mi (by decide +kernel) (Nat.le_of_ble_eq_true rfl) (fun E cx hret => ?_)
  refine g_strs cx fl_J0_38 e_J0_isLatin1_aae02_0 ?_
  refine g_if_eq_f cx 17 e_J0_isLatin1_aae02_3 (by decide) (by decide) ?_
  refine g_aload_n cx 0 rfl e_J0_isLatin1_aae02_6 ?_
  refine g_strc cx 1 (by decide) fl_J0_15 e_J0_isLatin1_aae02_7 ?_
  refine g_if_ne_f cx 17 e_J0_isLatin1_aae02_10 (by decide) (by decide) ?_
  refine g_iconst cx 1 (by decide) e_J0_isLatin1_aae02_13 ?_
  refine g_goto cx 18 e_J0_isLatin1_aae02_14 (by decide) ?_
  exact hret e_J0_isLatin1_aae02_18 (Nat.le_of_ble_eq_true rfl) (Nat.le_of_ble_eq_true rfl) rfl ⟨rfl, (jv_k (x := 1) 1 (by decide))⟩
set_option maxHeartbeats 4000000 in
set_option maxRecDepth 100000 in
theorem w_J0_length_8abf5_s1 (l : Launch) (X : gX) (ws : va_W) : g_Ci l X yJ0_length_8abf5 cJ0_length_8abf5 1 (some .int) 2 0 0 [.ref (X.1.2.2.2.1 1)] ws (fun r w => w = ws ∧ jv 12 12 r) := by
  refine g_mi (by decide +kernel) (Nat.le_of_ble_eq_true rfl) (fun E cx hret => ?_)
  refine g_aload_n cx 0 rfl e_J0_length_8abf5_0 ?_
  refine g_strv cx 1 (by decide) fl_J0_9 e_J0_length_8abf5_1 ?_
  refine g_strn cx 1 (by decide) 12 (by decide) e_J0_length_8abf5_4 ?_
  refine g_aload_n cx 0 rfl e_J0_length_8abf5_5 ?_
  refine g_cVsW cx [] [.int 12] 1 (by decide) rfl (w_J0_coder_7d493_s1 l X (ws) ) ml_J0_335 yV_J0_coder_7d493 e_J0_length_8abf5_6 (by unfold g_rr; decide) (by decide) rfl (Nat.le_of_ble_eq_true rfl) (fun r1 w2 h3 => ?_)
  obtain ⟨ewr1, pr1⟩ := h3
  refine g_weq ws ewr1 ?_
  refine g_toi 0 (jv_c 0 pr1 (by decide)) ?_
  refine g_ishr cx e_J0_length_8abf5_9 ?_
  refine g_toi 12 (by decide) ?_
  exact hret e_J0_length_8abf5_10 (Nat.le_of_ble_eq_true rfl) (Nat.le_of_ble_eq_true rfl) rfl ⟨rfl, (jv_k (x := 12) 12 (by decide))⟩
set_option maxHeartbeats 4000000 in
set_option maxRecDepth 100000 in
theorem w_J1_canEncode_9a6ad_s1 (l : Launch) (X : gX) (ws : va_W) (a0 : Int32) : g_Ci l X yJ1_canEncode_9a6ad cJ1_canEncode_9a6ad 1 (some .boolean) 1 0 0 [.int a0] ws (fun r w => w = ws ∧ jv 0 1 r) := by
  refine g_mi (by decide +kernel) (Nat.le_of_ble_eq_true rfl) (fun E cx hret => ?_)
  refine g_iload_n cx 0 rfl e_J1_canEncode_9a6ad_0 ?_
  have J16 : ∀ (y1 : Int32), (jv 0 1 y1) → G X E 1 0 0 (ws) [] 16 [.int y1] := by
    intro y1 py1
    exact hret e_J1_canEncode_9a6ad_16 (Nat.le_of_ble_eq_true rfl) (Nat.le_of_ble_eq_true rfl) (g_narb py1) ⟨rfl, py1⟩
  have J15 : G X E 1 0 0 (ws) [] 15 [] := by
    refine g_iconst cx 0 (by decide) e_J1_canEncode_9a6ad_15 ?_
    exact J16 0 (jv_w (jv_k (x := 0) 0 (by decide)) (by decide))
  refine g_if_lt cx 15 e_J1_canEncode_9a6ad_1 (by decide) (fun zc2 => ?_) (fun zc2 => ?_)
  · have p3 := gn_lt (-2147483648) (-1) (gc_lt zc2) (jv_t a0) (jv_k (x := 0) 0 (by decide)) (by decide)
    refine g_lsub [] [] rfl ?_
    exact J15  
  · have p4 := gn_ge 0 2147483647 (gc_nlt zc2) (jv_t a0) (jv_k (x := 0) 0 (by decide)) (by decide)
    refine g_iload_n cx 0 rfl e_J1_canEncode_9a6ad_4 ?_
    refine g_sipush cx 255 (by decide) e_J1_canEncode_9a6ad_5 ?_
    refine g_icmp_gt cx 15 e_J1_canEncode_9a6ad_8 (by decide) (fun zc5 => ?_) (fun zc5 => ?_)
    · have p6 := gn_gt 256 2147483647 (gc_lt zc5) p4 (jv_k (x := 255) 255 (by decide)) (by decide)
      refine g_lsub [] [] rfl ?_
      exact J15  
    · have p7 := gn_le 0 255 (gc_nlt zc5) p4 (jv_k (x := 255) 255 (by decide)) (by decide)
      refine g_iconst cx 1 (by decide) e_J1_canEncode_9a6ad_11 ?_
      refine g_goto cx 16 e_J1_canEncode_9a6ad_12 (by decide) ?_
      refine g_lsub [] [] rfl ?_
      exact J16 1 (jv_w (jv_k (x := 1) 1 (by decide)) (by decide))
set_option maxHeartbeats 4000000 in
set_option maxRecDepth 100000 in
theorem w_J1_indexOfChar_4cfef_s1 (l : Launch) (X : gX) (ws : va_W) (a1 : Int32) (a2 : Int32) (a3 : Int32) (pa2 : jv 0 0 a2) (pa3 : jv 0 12 a3) : g_Ci l X yJ1_indexOfChar_4cfef cJ1_indexOfChar_4cfef 6 (some .int) 1 0 0 [.ref (X.1.2.2.2.2 1), .int a1, .int a2, .int a3] ws (fun r w => w = ws ∧ jv (-1) 11 r) := by
  refine g_mi (by decide +kernel) (Nat.le_of_ble_eq_true rfl) (fun E cx hret => ?_)
  refine g_iload_n cx 1 rfl e_J1_indexOfChar_4cfef_0 ?_
  refine g_i2b cx e_J1_indexOfChar_4cfef_1 ?_
  refine g_topi (fun x1 ex1 => ?_)
  refine g_istore cx [(4, .int x1), (0, .ref (X.1.2.2.2.2 1)), (1, .int a1), (2, .int a2), (3, .int a3)] e_J1_indexOfChar_4cfef_2 (by decide) rfl ?_
  refine g_iload_n cx 3 rfl e_J1_indexOfChar_4cfef_4 ?_
  refine g_istore cx [(5, .int a2), (4, .int x1), (0, .ref (X.1.2.2.2.2 1)), (1, .int a1), (2, .int a2), (3, .int a3)] e_J1_indexOfChar_4cfef_5 (by decide) rfl ?_
  have J7 : ∀ (N : Nat) (y2 : Int32), (jv 0 2147483647 y2) → (2147483647 - y2.toInt).toNat < N → G X E 6 0 0 (ws) [(0, .ref (X.1.2.2.2.2 1)), (3, .int a3), (4, .int x1), (5, .int y2)] 7 [] := by
    intro N
    induction N with
    | zero => intro y2 py2 hm; exact absurd hm (Nat.not_lt_zero _)
    | succ N ih7 =>
      intro y2 py2 hm7
      refine g_iload cx 3 rfl e_J1_indexOfChar_4cfef_7 ?_
      refine g_iload_n cx 1 rfl e_J1_indexOfChar_4cfef_9 ?_
      refine g_icmp_ge cx 31 e_J1_indexOfChar_4cfef_10 (by decide) (fun zc3 => ?_) (fun zc3 => ?_)
      · refine g_iconst cx (-1) (by decide) e_J1_indexOfChar_4cfef_31 ?_
        exact hret e_J1_indexOfChar_4cfef_32 (Nat.le_of_ble_eq_true rfl) (Nat.le_of_ble_eq_true rfl) rfl ⟨rfl, (jv_w (jv_k (x := (-1)) (-1) (by decide)) (by decide))⟩
      · have p4 := gn_lt 0 11 (gc_nle zc3) py2 pa3 (by decide)
        have p5 := gn_gt 1 12 (gc_nle zc3) pa3 py2 (by decide)
        refine g_aload_n cx 0 rfl e_J1_indexOfChar_4cfef_13 ?_
        refine g_iload cx 3 rfl e_J1_indexOfChar_4cfef_14 ?_
        refine g_strb cx 1 (by decide) (i := y2) (jv_ix 12 p4 (by decide)) e_J1_indexOfChar_4cfef_16 ?_
        refine g_topi (fun x6 ex6 => ?_)
        refine g_iload cx 2 rfl e_J1_indexOfChar_4cfef_17 ?_
        refine g_icmp_ne cx 25 e_J1_indexOfChar_4cfef_19 (by decide) (fun zc7 => ?_) (fun zc7 => ?_)
        · obtain ⟨x8, ex8⟩ : ∃ z : Int32, z = y2 + Int32.ofInt 1 := ⟨_, rfl⟩
          refine g_iinc cx x8 [(5, .int x8), (0, .ref (X.1.2.2.2.2 1)), (3, .int a3), (4, .int x1)] 3 e_J1_indexOfChar_4cfef_25 rfl ex8.symm (by decide) rfl ?_
          have zx8 := jv_add 1 12 (show x8 = y2 + 1 from ex8) p4 (jv_k (x := 1) 1 (by decide)) (by decide)
          refine g_goto cx 7 e_J1_indexOfChar_4cfef_28 (by decide) ?_
          refine g_lsub [1, 2, 3, 0] [(0, .ref (X.1.2.2.2.2 1)), (3, .int a3), (4, .int x1), (5, .int x8)] rfl ?_
          exact ih7 x8 (jv_w zx8.2 (by decide)) (Nat.lt_of_lt_of_le (show (2147483647 - x8.toInt).toNat < (2147483647 - y2.toInt).toNat from by have q0 := (jv_k (x := 1) 1 (by decide)).1; have q1 := (jv_k (x := 1) 1 (by decide)).2; have q2 := p5.1; have q3 := p5.2; have q4 := zx8.2.1; have q5 := zx8.2.2; have q6 := p4.1; have q7 := p4.2; have q8 := (gc_nle zc3); have q9 := (g_eq0 zx8.1); omega) (Nat.le_of_lt_succ hm7))
        · refine g_iload cx 3 rfl e_J1_indexOfChar_4cfef_22 ?_
          exact hret e_J1_indexOfChar_4cfef_24 (Nat.le_of_ble_eq_true rfl) (Nat.le_of_ble_eq_true rfl) rfl ⟨rfl, (jv_w p4 (by decide))⟩
  refine g_lsub [2, 5, 1, 0] [(0, .ref (X.1.2.2.2.2 1)), (3, .int a3), (4, .int x1), (5, .int a2)] rfl ?_
  exact J7 _ a2 (jv_w pa2 (by decide)) (Nat.lt_succ_self _)
set_option maxHeartbeats 4000000 in
set_option maxRecDepth 100000 in
theorem w_J1_indexOf_4cfef_s1 (l : Launch) (X : gX) (ws : va_W) (a1 : Int32) (a2 : Int32) (a3 : Int32) (pa2 : jv 0 0 a2) (pa3 : jv 0 12 a3) : g_Ci l X yJ1_indexOf_4cfef cJ1_indexOf_4cfef 4 (some .int) 2 0 0 [.ref (X.1.2.2.2.2 1), .int a1, .int a2, .int a3] ws (fun r w => w = ws ∧ jv (-1) 11 r) := by
  refine g_mi (by decide +kernel) (Nat.le_of_ble_eq_true rfl) (fun E cx hret => ?_)
  refine g_iload_n cx 1 rfl e_J1_indexOf_4cfef_0 ?_
  refine g_cSiW cx [.int a1] [] (w_J1_canEncode_9a6ad_s1 l X (ws) a1) ml_J1_88 yS_J1_canEncode_9a6ad rfl e_J1_indexOf_4cfef_1 (by unfold g_rr; decide) (by decide) rfl (Nat.le_of_ble_eq_true rfl) (fun r1 w2 h3 => ?_)
  obtain ⟨ewr1, pr1⟩ := h3
  refine g_weq ws ewr1 ?_
  refine g_if_ne cx 9 e_J1_indexOf_4cfef_4 (by decide) (fun zc4 => ?_) (fun zc4 => ?_)
  · have p5 := gn_neL 1 1 (gc_ne zc4) pr1 (jv_k (x := 0) 0 (by decide)) (by decide)
    refine g_iload_n cx 2 rfl e_J1_indexOf_4cfef_9 ?_
    refine g_iconst cx 0 (by decide) e_J1_indexOf_4cfef_10 ?_
    refine g_mmax cx ml_J1_92 e_J1_indexOf_4cfef_11 ⟨Nat.le_of_ble_eq_true rfl, Nat.le_of_ble_eq_true rfl⟩ (by decide) ?_
    refine g_topi (fun x6 ex6 => ?_)
    have px6 := jv_max 0 0 ex6 pa2 (jv_k (x := 0) 0 (by decide)) (by decide)
    refine g_istore_n cx [(2, .int x6), (0, .ref (X.1.2.2.2.2 1)), (1, .int a1), (3, .int a3)] e_J1_indexOf_4cfef_14 (by decide) rfl ?_
    refine g_iload_n cx 3 rfl e_J1_indexOf_4cfef_15 ?_
    refine g_aload_n cx 1 rfl e_J1_indexOf_4cfef_16 ?_
    refine g_strn cx 1 (by decide) 12 (by decide) e_J1_indexOf_4cfef_17 ?_
    refine g_mmin cx ml_J1_38 e_J1_indexOf_4cfef_18 ⟨Nat.le_of_ble_eq_true rfl, Nat.le_of_ble_eq_true rfl⟩ (by decide) ?_
    refine g_topi (fun x7 ex7 => ?_)
    have px7 := jv_min 0 12 ex7 pa3 (jv_k (x := 12) 12 (by decide)) (by decide)
    refine g_istore_n cx [(3, .int x7), (2, .int x6), (0, .ref (X.1.2.2.2.2 1)), (1, .int a1)] e_J1_indexOf_4cfef_21 (by decide) rfl ?_
    refine g_iload_n cx 1 rfl e_J1_indexOf_4cfef_22 ?_
    refine g_iload_n cx 0 rfl e_J1_indexOf_4cfef_23 ?_
    refine g_icmp_lt cx 29 e_J1_indexOf_4cfef_24 (by decide) (fun zc8 => ?_) (fun zc8 => ?_)
    · have p9 := gn_gt 1 12 (gc_lt zc8) px7 px6 (by decide)
      refine g_aload_n cx 2 rfl e_J1_indexOf_4cfef_29 ?_
      refine g_iload_n cx 3 rfl e_J1_indexOf_4cfef_30 ?_
      refine g_iload_n cx 1 rfl e_J1_indexOf_4cfef_31 ?_
      refine g_iload_n cx 0 rfl e_J1_indexOf_4cfef_32 ?_
      refine g_cSiW cx [.ref (X.1.2.2.2.2 1), .int a1, .int x6, .int x7] [] (w_J1_indexOfChar_4cfef_s1 l X (ws) a1 x6 x7 (jv_w px6 (by decide)) (jv_w p9 (by decide))) ml_J1_95 yS_J1_indexOfChar_4cfef rfl e_J1_indexOf_4cfef_33 (by unfold g_rr; decide) (by decide) rfl (Nat.le_of_ble_eq_true rfl) (fun r10 w11 h12 => ?_)
      obtain ⟨ewr10, pr10⟩ := h12
      refine g_weq ws ewr10 ?_
      exact hret e_J1_indexOf_4cfef_36 (Nat.le_of_ble_eq_true rfl) (Nat.le_of_ble_eq_true rfl) rfl ⟨rfl, pr10⟩
    · have p13 := gn_le 0 0 (gc_nlt zc8) px7 px6 (by decide)
      refine g_iconst cx (-1) (by decide) e_J1_indexOf_4cfef_27 ?_
      exact hret e_J1_indexOf_4cfef_28 (Nat.le_of_ble_eq_true rfl) (Nat.le_of_ble_eq_true rfl) rfl ⟨rfl, (jv_w (jv_k (x := (-1)) (-1) (by decide)) (by decide))⟩
  · have p14 := gn_eq 0 0 (gc_eq zc4) pr1 (jv_k (x := 0) 0 (by decide)) (by decide)
    refine g_iconst cx (-1) (by decide) e_J1_indexOf_4cfef_7 ?_
    exact hret e_J1_indexOf_4cfef_8 (Nat.le_of_ble_eq_true rfl) (Nat.le_of_ble_eq_true rfl) rfl ⟨rfl, (jv_w (jv_k (x := (-1)) (-1) (by decide)) (by decide))⟩
set_option maxHeartbeats 4000000 in
set_option maxRecDepth 100000 in
theorem w_J0_indexOf_7cf53_s1 (l : Launch) (X : gX) (ws : va_W) (a0 : Int32) (a1 : Int32) (pa1 : jv 0 0 a1) : g_Ci l X yJ0_indexOf_7cf53 cJ0_indexOf_7cf53 3 (some .int) 3 0 0 [.ref (X.1.2.2.2.1 1), .int a0, .int a1] ws (fun r w => w = ws ∧ jv (-1) 11 r) := by
  refine g_mi (by decide +kernel) (Nat.le_of_ble_eq_true rfl) (fun E cx hret => ?_)
  refine g_aload_n cx 0 rfl e_J0_indexOf_7cf53_0 ?_
  refine g_cVsW cx [] [] 1 (by decide) rfl (w_J0_isLatin1_aae02_s1 l X (ws) ) ml_J0_492 yV_J0_isLatin1_aae02 e_J0_indexOf_7cf53_1 (by unfold g_rr; decide) (by decide) rfl (Nat.le_of_ble_eq_true rfl) (fun r1 w2 h3 => ?_)
  obtain ⟨ewr1, pr1⟩ := h3
  refine g_weq ws ewr1 ?_
  refine g_toi 1 (jv_c 1 pr1 (by decide)) ?_
  refine g_if_eq_f cx 23 e_J0_indexOf_7cf53_4 (by decide) (by decide) ?_
  refine g_aload_n cx 0 rfl e_J0_indexOf_7cf53_7 ?_
  refine g_strv cx 1 (by decide) fl_J0_9 e_J0_indexOf_7cf53_8 ?_
  refine g_iload_n cx 1 rfl e_J0_indexOf_7cf53_11 ?_
  refine g_iload_n cx 2 rfl e_J0_indexOf_7cf53_12 ?_
  refine g_aload_n cx 0 rfl e_J0_indexOf_7cf53_13 ?_
  refine g_cVsW cx [] [.int a1, .int a0, .ref (X.1.2.2.2.2 1)] 1 (by decide) rfl (w_J0_length_8abf5_s1 l X (ws) ) ml_J0_505 yV_J0_length_8abf5 e_J0_indexOf_7cf53_14 (by unfold g_rr; decide) (by decide) rfl (Nat.le_of_ble_eq_true rfl) (fun r4 w5 h6 => ?_)
  obtain ⟨ewr4, pr4⟩ := h6
  refine g_weq ws ewr4 ?_
  refine g_toi 12 (jv_c 12 pr4 (by decide)) ?_
  refine g_cOiW cx [.ref (X.1.2.2.2.2 1), .int a0, .int a1, .int 12] [] (w_J1_indexOf_4cfef_s1 l X (ws) a0 a1 12 (jv_w pa1 (by decide)) (jv_w (jv_k (x := 12) 12 (by decide)) (by decide))) ml_J0_637 yS_J1_indexOf_4cfef e_J0_indexOf_7cf53_17 (by unfold g_rr; decide) (by decide) rfl (Nat.le_of_ble_eq_true rfl) (fun r7 w8 h9 => ?_)
  obtain ⟨ewr7, pr7⟩ := h9
  refine g_weq ws ewr7 ?_
  refine g_goto cx 36 e_J0_indexOf_7cf53_20 (by decide) ?_
  exact hret e_J0_indexOf_7cf53_36 (Nat.le_of_ble_eq_true rfl) (Nat.le_of_ble_eq_true rfl) rfl ⟨rfl, pr7⟩
set_option maxHeartbeats 4000000 in
set_option maxRecDepth 100000 in
theorem w_J0_indexOf_0f7a4_s1 (l : Launch) (X : gX) (ws : va_W) (a0 : Int32) : g_Ci l X yJ0_indexOf_0f7a4 cJ0_indexOf_0f7a4 2 (some .int) 4 0 0 [.ref (X.1.2.2.2.1 1), .int a0] ws (fun r w => w = ws ∧ jv (-1) 11 r) := by
  refine g_mi (by decide +kernel) (Nat.le_of_ble_eq_true rfl) (fun E cx hret => ?_)
  refine g_aload_n cx 0 rfl e_J0_indexOf_0f7a4_0 ?_
  refine g_iload_n cx 1 rfl e_J0_indexOf_0f7a4_1 ?_
  refine g_iconst cx 0 (by decide) e_J0_indexOf_0f7a4_2 ?_
  refine g_cVsW cx [.int a0, .int 0] [] 1 (by decide) rfl (w_J0_indexOf_7cf53_s1 l X (ws) a0 0 (jv_w (jv_k (x := 0) 0 (by decide)) (by decide))) ml_J0_633 yV_J0_indexOf_7cf53 e_J0_indexOf_0f7a4_3 (by unfold g_rr; decide) (by decide) rfl (Nat.le_of_ble_eq_true rfl) (fun r1 w2 h3 => ?_)
  obtain ⟨ewr1, pr1⟩ := h3
  refine g_weq ws ewr1 ?_
  exact hret e_J0_indexOf_0f7a4_6 (Nat.le_of_ble_eq_true rfl) (Nat.le_of_ble_eq_true rfl) rfl ⟨rfl, pr1⟩
