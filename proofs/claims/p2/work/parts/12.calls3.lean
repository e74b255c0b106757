section GCO
variable {X : gX} {E : gE} {nL k n : Nat} {l : Launch} {R : Room} {cc : ByteArray} {own : String} {ini : Prop} {ws : va_W} {lv : List (Nat × Value)} {pc pc' : Nat} {st0 : List Value}
variable {y : MethodName} {b : ByteArray} {ml d mc ms idx : Nat} {wc : va_W}
theorem g_cOiW {ret : Option FieldType} {post : Int32 → va_W → Prop} (cx : g_cx X E nL l R cc own ini) (As st : List Value) (hM : g_Ci l X y b ml ret d mc ms As ws post) (hw : Cond.methodLink own idx y ∈ gT) (hy : g_yS y b ml ret As.length) (hd : g_dc cc pc (.invokestatic idx) 3 pc') (hR : g_rr R d ml) (hf : k + mc ≤ R.cells ∧ n + ms ≤ R.slots) (hst : st0 = As.reverse ++ st) (hW : (st.map fun v => v.category).sum ≤ 8)
    (kk : ∀ r w, post r w → G X E nL (k + mc) (n + ms) w lv pc' (.int r :: st)) : G X E nL k n ws lv pc st0 := by
  obtain ⟨p, e, s, args, below, meth, c, Q, hE, hx, hb, hml, hown, hts, hK, hN, hA, hini⟩ := cx
  obtain ⟨hd, rfl⟩ := hd
  subst hst
  intro H locs ls hP hD hS hl
  rw [hE]
  have hPc : va_P X.1 vwCl ws H := hP
  have hDc := hD
  have hFc := va_free (wc := ws) hD hS hA (List.range ws.length) (g_all ws)
  have hgood : GoodIn gT (gW y b ml ret) := g_good (fun w h => by
    rcases List.mem_cons.mp h with rfl | h
    · exact hy.2.2.1
    · exact h)
  refine va_calli (va_runS (As := As) (rest := st) ⟨hx, hb, hml, hown, hts⟩ (hM H.size) ⟨callB_of As.length hts hgood rfl rfl rfl (hts _ hy.2.1) (hts _ hw) hy.2.2.2 hR, hts _ hy.1⟩ ⟨g_pc_ok, fun U hU hW => ⟨rfl, by rw [hU], by rw [hU]; exact hPc, va_K.moved hW.alike hK, hDc.weaken (fun _ _ _ _ => trivial), g_nf_warm hW hN⟩⟩ rfl rfl hl.1 rfl (lv_room hW) hd hf) hS (fun q _ h => hFc q h) hFc (fun r w t H1 locs1 ht hvm hp hB hz hk1 hS1 => ?_)
  obtain ⟨hP1, hD1⟩ := hB
  rw [ht] at hP1
  have k1 := kk r w hp H1 locs1 ls hP1 (hD1.weaken (fun _ q _ h => hFc q.1 h)) hS1 hl
  rw [hE] at k1
  exact k1
end GCO

theorem d_X10_keep_0 : g_dc cX10_keep 0 (.aload_n 0) 1 1 := ⟨by decide +kernel, rfl⟩
theorem d_X10_keep_1 : g_dc cX10_keep 1 (.getfield 16) 3 4 := ⟨by decide +kernel, rfl⟩
theorem d_X10_keep_4 : g_dc cX10_keep 4 (.aload_n 0) 1 5 := ⟨by decide +kernel, rfl⟩
theorem d_X10_keep_5 : g_dc cX10_keep 5 (.getfield 10) 3 8 := ⟨by decide +kernel, rfl⟩
theorem d_X10_keep_8 : g_dc cX10_keep 8 (.invokevirtual 264) 3 11 := ⟨by decide +kernel, rfl⟩
theorem d_X10_keep_11 : g_dc cX10_keep 11 (.aload_n 0) 1 12 := ⟨by decide +kernel, rfl⟩
theorem d_X10_keep_12 : g_dc cX10_keep 12 (.iconst 1) 1 13 := ⟨by decide +kernel, rfl⟩
theorem d_X10_keep_13 : g_dc cX10_keep 13 (.putfield 74) 3 16 := ⟨by decide +kernel, rfl⟩
theorem d_X10_keep_16 : g_dc cX10_keep 16 (.aload_n 0) 1 17 := ⟨by decide +kernel, rfl⟩
theorem d_X10_keep_17 : g_dc cX10_keep 17 (.getfield 10) 3 20 := ⟨by decide +kernel, rfl⟩
theorem d_X10_keep_20 : g_dc cX10_keep 20 (.getfield 95) 3 23 := ⟨by decide +kernel, rfl⟩
theorem d_X10_keep_23 : g_dc cX10_keep 23 (.invokestatic 211) 3 26 := ⟨by decide +kernel, rfl⟩
theorem d_X10_keep_26 : g_dc cX10_keep 26 (.ireturn) 1 27 := ⟨by decide +kernel, rfl⟩
set_option maxHeartbeats 4000000 in
set_option maxRecDepth 100000 in
theorem c_X10_keep (l : Launch) (X : gX) (ad : Nat → Nat) (F : Nat → Int32) (R : Nat → Nat → Int32) (hI : IX F) : g_Ci l X yX10_keep cX10_keep 1 (some .int) 2 0 0 [.ref (ad 0)] (wX X ad F R) (fun r w => ∃ (F' : Nat → Int32) (R' : Nat → Nat → Int32), w = wX X ad F' R' ∧ IX F' ∧ F' 16 = F 16 ∧ F' 48 = F 16 ∧ F' 11 = 1) := by
  refine g_mi (by decide +kernel) (Nat.le_of_ble_eq_true rfl) (fun E cx hret => ?_)
  refine g_aload_n cx 0 rfl d_X10_keep_0 ?_
  refine g_get cx cl_X10 fl_X10_16 0 (.ref (ad 3)) d_X10_keep_1 rfl rfl ?_
  refine g_aload_n cx 0 rfl d_X10_keep_4 ?_
  refine g_get cx cl_X10 fl_X10_10 0 (.ref (ad 1)) d_X10_keep_5 rfl rfl ?_
  refine g_cVv cx [.ref (ad 1)] [] (c_X8_copy l X (ad 3) (ad 4) (F 48) (F 49) (F 50) (F 51) (F 52) (R 4) (ad 1) (ad 2) (F 16) (F 17) (F 18) (F 19) (F 20) (R 2)) ml_X10_264 yV_X8_copy d_X10_keep_8 (by unfold g_rr; decide) (by decide) 0 rfl rfl [3, 4, 1, 2] rfl (by decide) rfl (Nat.le_of_ble_eq_true rfl) (by rintro _ ⟨rfl, _⟩; rfl) (fun w2 h3 => ?_)
  obtain ⟨rfl, -⟩ := h3
  refine g_weq (wX X ad (upd (upd (upd (upd (upd F 48 (F 16)) 49 (F 17)) 50 (F 18)) 51 (F 19)) 52 (F 20)) (g_u R 4 (va_cpy (R 2) (R 4) 0 0 80))) rfl ?_
  obtain ⟨zR4, hzR4⟩ : ∃ z, z = (g_u R 4 (va_cpy (R 2) (R 4) 0 0 80)) := ⟨_, rfl⟩
  rw [← hzR4]
  obtain ⟨zF5, hzF5⟩ : ∃ z, z = (upd (upd (upd (upd (upd F 48 (F 16)) 49 (F 17)) 50 (F 18)) 51 (F 19)) 52 (F 20)) := ⟨_, rfl⟩
  rw [← hzF5]
  have hIzF5 : IX zF5 := by rw [hzF5]; exact IX_u (IX_u (IX_u (IX_u (IX_u (hI) rfl) rfl) rfl) rfl) rfl
  refine g_aload_n cx 0 rfl d_X10_keep_11 ?_
  refine g_iconst cx 1 (by decide) d_X10_keep_12 ?_
  refine g_put cx cl_X10 fl_X10_74 0 (wX X ad (upd zF5 11 1) zR4) d_X10_keep_13 rfl rfl rfl rfl (Nat.le_of_ble_eq_true rfl) rfl ?_
  obtain ⟨zF6, hzF6⟩ : ∃ z, z = (upd zF5 11 1) := ⟨_, rfl⟩
  rw [← hzF6]
  have hIzF6 : IX zF6 := by rw [hzF6]; exact IX_u (hIzF5) rfl
  refine g_aload_n cx 0 rfl d_X10_keep_16 ?_
  refine g_get cx cl_X10 fl_X10_10 0 (.ref (ad 1)) d_X10_keep_17 rfl rfl ?_
  refine g_getN cx cl_X8 fn_X10_95 1 (.int (zF6 19)) d_X10_keep_20 rfl rfl ?_
  refine g_toi (zF5 19) ((congrFun hzF6 19)) ?_
  refine g_toi (F 19) ((congrFun hzF5 19)) ?_
  refine g_cOiW cx [.int (F 19)] [] (c_J6_bitCount_0f7a4 l X _ (F 19)) ml_X10_211 yS_J6_bitCount_0f7a4 d_X10_keep_23 (by unfold g_rr; decide) (by decide) rfl (Nat.le_of_ble_eq_true rfl) (fun r7 w8 h9 => ?_)
  obtain ⟨rfl, h9⟩ := h9
  exact hret d_X10_keep_26 (Nat.le_of_ble_eq_true rfl) (Nat.le_of_ble_eq_true rfl) rfl ⟨zF6, zR4, rfl, hIzF6, ⟨(by simp only [hzF5, hzF6] <;> rfl), (by simp only [hzF5, hzF6] <;> rfl), (by simp only [hzF5, hzF6] <;> rfl)⟩⟩
theorem d_X10_undo_0 : g_dc cX10_undo 0 (.aload_n 0) 1 1 := ⟨by decide +kernel, rfl⟩
theorem d_X10_undo_1 : g_dc cX10_undo 1 (.getfield 74) 3 4 := ⟨by decide +kernel, rfl⟩
theorem d_X10_undo_4 : g_dc cX10_undo 4 (.ifCond .ne 5) 3 7 := ⟨by decide +kernel, rfl⟩
theorem d_X10_undo_7 : g_dc cX10_undo 7 (.iconst 0) 1 8 := ⟨by decide +kernel, rfl⟩
theorem d_X10_undo_8 : g_dc cX10_undo 8 (.ireturn) 1 9 := ⟨by decide +kernel, rfl⟩
theorem d_X10_undo_9 : g_dc cX10_undo 9 (.aload_n 0) 1 10 := ⟨by decide +kernel, rfl⟩
theorem d_X10_undo_10 : g_dc cX10_undo 10 (.getfield 10) 3 13 := ⟨by decide +kernel, rfl⟩
theorem d_X10_undo_13 : g_dc cX10_undo 13 (.aload_n 0) 1 14 := ⟨by decide +kernel, rfl⟩
theorem d_X10_undo_14 : g_dc cX10_undo 14 (.getfield 16) 3 17 := ⟨by decide +kernel, rfl⟩
theorem d_X10_undo_17 : g_dc cX10_undo 17 (.invokevirtual 264) 3 20 := ⟨by decide +kernel, rfl⟩
theorem d_X10_undo_20 : g_dc cX10_undo 20 (.iconst 1) 1 21 := ⟨by decide +kernel, rfl⟩
theorem d_X10_undo_21 : g_dc cX10_undo 21 (.ireturn) 1 22 := ⟨by decide +kernel, rfl⟩
set_option maxHeartbeats 4000000 in
set_option maxRecDepth 100000 in
theorem c_X10_undo (l : Launch) (X : gX) (ad : Nat → Nat) (F : Nat → Int32) (R : Nat → Nat → Int32) (hI : IX F) : g_Ci l X yX10_undo cX10_undo 1 (some .boolean) 2 0 0 [.ref (ad 0)] (wX X ad F R) (fun r w => ∃ (F' : Nat → Int32) (R' : Nat → Nat → Int32), w = wX X ad F' R' ∧ IX F' ∧ (F 11 = 0 ∧ r = 0 ∧ KX F F' ∨ ¬ F 11 = 0 ∧ r = 1 ∧ F' 16 = F 48 ∧ F' 48 = F 48 ∧ F' 11 = F 11)) := by
  refine g_mi (by decide +kernel) (Nat.le_of_ble_eq_true rfl) (fun E cx hret => ?_)
  refine g_aload_n cx 0 rfl d_X10_undo_0 ?_
  refine g_get cx cl_X10 fl_X10_74 0 (.int (F 11)) d_X10_undo_1 rfl rfl ?_
  refine g_if_ne cx 9 d_X10_undo_4 (by decide) (fun zc4 => ?_) (fun zc4 => ?_)
  · refine g_aload_n cx 0 rfl d_X10_undo_9 ?_
    refine g_get cx cl_X10 fl_X10_10 0 (.ref (ad 1)) d_X10_undo_10 rfl rfl ?_
    refine g_aload_n cx 0 rfl d_X10_undo_13 ?_
    refine g_get cx cl_X10 fl_X10_16 0 (.ref (ad 3)) d_X10_undo_14 rfl rfl ?_
    refine g_cVv cx [.ref (ad 3)] [] (c_X8_copy l X (ad 1) (ad 2) (F 16) (F 17) (F 18) (F 19) (F 20) (R 2) (ad 3) (ad 4) (F 48) (F 49) (F 50) (F 51) (F 52) (R 4)) ml_X10_264 yV_X8_copy d_X10_undo_17 (by unfold g_rr; decide) (by decide) 0 rfl rfl [1, 2, 3, 4] rfl (by decide) rfl (Nat.le_of_ble_eq_true rfl) (by rintro _ ⟨rfl, _⟩; rfl) (fun w2 h3 => ?_)
    obtain ⟨rfl, -⟩ := h3
    refine g_weq (wX X ad (upd (upd (upd (upd (upd F 16 (F 48)) 17 (F 49)) 18 (F 50)) 19 (F 51)) 20 (F 52)) (g_u R 2 (va_cpy (R 4) (R 2) 0 0 80))) rfl ?_
    obtain ⟨zR4, hzR4⟩ : ∃ z, z = (g_u R 2 (va_cpy (R 4) (R 2) 0 0 80)) := ⟨_, rfl⟩
    rw [← hzR4]
    obtain ⟨zF5, hzF5⟩ : ∃ z, z = (upd (upd (upd (upd (upd F 16 (F 48)) 17 (F 49)) 18 (F 50)) 19 (F 51)) 20 (F 52)) := ⟨_, rfl⟩
    rw [← hzF5]
    have hIzF5 : IX zF5 := by rw [hzF5]; exact IX_u (IX_u (IX_u (IX_u (IX_u (hI) rfl) rfl) rfl) rfl) rfl
    refine g_iconst cx 1 (by decide) d_X10_undo_20 ?_
    exact hret d_X10_undo_21 (Nat.le_of_ble_eq_true rfl) (Nat.le_of_ble_eq_true rfl) rfl ⟨zF5, zR4, rfl, hIzF5, Or.inr ⟨by assumption, rfl, (by simp only [hzF5] <;> rfl), (by simp only [hzF5] <;> rfl), (by simp only [hzF5] <;> rfl)⟩⟩
  · refine g_iconst cx 0 (by decide) d_X10_undo_7 ?_
    exact hret d_X10_undo_8 (Nat.le_of_ble_eq_true rfl) (Nat.le_of_ble_eq_true rfl) rfl ⟨F, R, rfl, hI, Or.inl ⟨by assumption, rfl, KX_rf F⟩⟩
theorem d_X10_canCompare_0 : g_dc cX10_canCompare 0 (.aload_n 0) 1 1 := ⟨by decide +kernel, rfl⟩
theorem d_X10_canCompare_1 : g_dc cX10_canCompare 1 (.getfield 10) 3 4 := ⟨by decide +kernel, rfl⟩
theorem d_X10_canCompare_4 : g_dc cX10_canCompare 4 (.getfield 95) 3 7 := ⟨by decide +kernel, rfl⟩
theorem d_X10_canCompare_7 : g_dc cX10_canCompare 7 (.ifCond .eq 27) 3 10 := ⟨by decide +kernel, rfl⟩
theorem d_X10_canCompare_10 : g_dc cX10_canCompare 10 (.aload_n 0) 1 11 := ⟨by decide +kernel, rfl⟩
theorem d_X10_canCompare_11 : g_dc cX10_canCompare 11 (.getfield 10) 3 14 := ⟨by decide +kernel, rfl⟩
theorem d_X10_canCompare_14 : g_dc cX10_canCompare 14 (.getfield 95) 3 17 := ⟨by decide +kernel, rfl⟩
theorem d_X10_canCompare_17 : g_dc cX10_canCompare 17 (.invokestatic 211) 3 20 := ⟨by decide +kernel, rfl⟩
theorem d_X10_canCompare_20 : g_dc cX10_canCompare 20 (.aload_n 0) 1 21 := ⟨by decide +kernel, rfl⟩
theorem d_X10_canCompare_21 : g_dc cX10_canCompare 21 (.getfield 22) 3 24 := ⟨by decide +kernel, rfl⟩
theorem d_X10_canCompare_24 : g_dc cX10_canCompare 24 (.getfield 110) 3 27 := ⟨by decide +kernel, rfl⟩
theorem d_X10_canCompare_27 : g_dc cX10_canCompare 27 (.if_icmp .gt 7) 3 30 := ⟨by decide +kernel, rfl⟩
theorem d_X10_canCompare_30 : g_dc cX10_canCompare 30 (.iconst 1) 1 31 := ⟨by decide +kernel, rfl⟩
theorem d_X10_canCompare_31 : g_dc cX10_canCompare 31 (.goto 4) 3 34 := ⟨by decide +kernel, rfl⟩
theorem d_X10_canCompare_34 : g_dc cX10_canCompare 34 (.iconst 0) 1 35 := ⟨by decide +kernel, rfl⟩
theorem d_X10_canCompare_35 : g_dc cX10_canCompare 35 (.ireturn) 1 36 := ⟨by decide +kernel, rfl⟩
set_option maxHeartbeats 4000000 in
set_option maxRecDepth 100000 in
theorem c_X10_canCompare (l : Launch) (X : gX) (ad : Nat → Nat) (F : Nat → Int32) (R : Nat → Nat → Int32) (hI : IX F) : g_Ci l X yX10_canCompare cX10_canCompare 1 (some .boolean) 2 0 0 [.ref (ad 0)] (wX X ad F R) (fun r w => w = wX X ad F R ∧ (r = 0 ∨ r = 1)) := by
  refine g_mi (by decide +kernel) (Nat.le_of_ble_eq_true rfl) (fun E cx hret => ?_)
  refine g_aload_n cx 0 rfl d_X10_canCompare_0 ?_
  refine g_get cx cl_X10 fl_X10_10 0 (.ref (ad 1)) d_X10_canCompare_1 rfl rfl ?_
  refine g_getN cx cl_X8 fn_X10_95 1 (.int (F 19)) d_X10_canCompare_4 rfl rfl ?_
  refine g_if_eq cx 34 d_X10_canCompare_7 (by decide) (fun zc7 => ?_) (fun zc7 => ?_)
  · refine g_iconst cx 0 (by decide) d_X10_canCompare_34 ?_
    exact hret d_X10_canCompare_35 (Nat.le_of_ble_eq_true rfl) (Nat.le_of_ble_eq_true rfl) rfl (⟨rfl, Or.inl rfl⟩)
  · refine g_aload_n cx 0 rfl d_X10_canCompare_10 ?_
    refine g_get cx cl_X10 fl_X10_10 0 (.ref (ad 1)) d_X10_canCompare_11 rfl rfl ?_
    refine g_getN cx cl_X8 fn_X10_95 1 (.int (F 19)) d_X10_canCompare_14 rfl rfl ?_
    refine g_cOiW cx [.int (F 19)] [] (c_J6_bitCount_0f7a4 l X _ (F 19)) ml_X10_211 yS_J6_bitCount_0f7a4 d_X10_canCompare_17 (by unfold g_rr; decide) (by decide) rfl (Nat.le_of_ble_eq_true rfl) (fun r1 w2 h3 => ?_)
    obtain ⟨rfl, h3⟩ := h3
    refine g_aload_n cx 0 rfl d_X10_canCompare_20 ?_
    refine g_get cx cl_X10 fl_X10_22 0 (.ref (ad 9)) d_X10_canCompare_21 rfl rfl ?_
    refine g_getN cx cl_X9 fn_X10_110 9 (.int (F 145)) d_X10_canCompare_24 rfl rfl ?_
    refine g_icmp_gt cx 34 d_X10_canCompare_27 (by decide) (fun zc27 => ?_) (fun zc27 => ?_)
    · refine g_iconst cx 0 (by decide) d_X10_canCompare_34 ?_
      exact hret d_X10_canCompare_35 (Nat.le_of_ble_eq_true rfl) (Nat.le_of_ble_eq_true rfl) rfl (⟨rfl, Or.inl rfl⟩)
    · refine g_iconst cx 1 (by decide) d_X10_canCompare_30 ?_
      refine g_goto cx 35 d_X10_canCompare_31 (by decide) ?_
      exact hret d_X10_canCompare_35 (Nat.le_of_ble_eq_true rfl) (Nat.le_of_ble_eq_true rfl) rfl (⟨rfl, Or.inr rfl⟩)
theorem g_feed {y : Int32} {n : Nat} (hn : n ≤ 220) (hy : y = nI n) (h : y + 20 ≤ 220) : n + 20 ≤ 220 := by
  rw [hy, show (20 : Int32) = nI 20 from rfl, nI_add] at h
  rcases Nat.lt_or_ge 220 (n + 20) with q | q
  · exact absurd h (nI_ge q (by omega))
  · exact q
theorem d_X10_feed_0 : g_dc cX10_feed 0 (.aload_n 0) 1 1 := ⟨by decide +kernel, rfl⟩
theorem d_X10_feed_1 : g_dc cX10_feed 1 (.getfield 22) 3 4 := ⟨by decide +kernel, rfl⟩
theorem d_X10_feed_4 : g_dc cX10_feed 4 (.getfield 110) 3 7 := ⟨by decide +kernel, rfl⟩
theorem d_X10_feed_7 : g_dc cX10_feed 7 (.bipush 20) 2 9 := ⟨by decide +kernel, rfl⟩
theorem d_X10_feed_9 : g_dc cX10_feed 9 (.iadd) 1 10 := ⟨by decide +kernel, rfl⟩
theorem d_X10_feed_10 : g_dc cX10_feed 10 (.sipush 220) 3 13 := ⟨by decide +kernel, rfl⟩
theorem d_X10_feed_13 : g_dc cX10_feed 13 (.if_icmp .le 5) 3 16 := ⟨by decide +kernel, rfl⟩
theorem d_X10_feed_16 : g_dc cX10_feed 16 (.iconst (-1)) 1 17 := ⟨by decide +kernel, rfl⟩
theorem d_X10_feed_17 : g_dc cX10_feed 17 (.ireturn) 1 18 := ⟨by decide +kernel, rfl⟩
theorem d_X10_feed_18 : g_dc cX10_feed 18 (.aload_n 0) 1 19 := ⟨by decide +kernel, rfl⟩
theorem d_X10_feed_19 : g_dc cX10_feed 19 (.getfield 22) 3 22 := ⟨by decide +kernel, rfl⟩
theorem d_X10_feed_22 : g_dc cX10_feed 22 (.iload_n 1) 1 23 := ⟨by decide +kernel, rfl⟩
theorem d_X10_feed_23 : g_dc cX10_feed 23 (.invokevirtual 113) 3 26 := ⟨by decide +kernel, rfl⟩
theorem d_X10_feed_26 : g_dc cX10_feed 26 (.aload_n 0) 1 27 := ⟨by decide +kernel, rfl⟩
theorem d_X10_feed_27 : g_dc cX10_feed 27 (.getfield 22) 3 30 := ⟨by decide +kernel, rfl⟩
theorem d_X10_feed_30 : g_dc cX10_feed 30 (.iload_n 2) 1 31 := ⟨by decide +kernel, rfl⟩
theorem d_X10_feed_31 : g_dc cX10_feed 31 (.invokevirtual 113) 3 34 := ⟨by decide +kernel, rfl⟩
theorem d_X10_feed_34 : g_dc cX10_feed 34 (.aload_n 0) 1 35 := ⟨by decide +kernel, rfl⟩
theorem d_X10_feed_35 : g_dc cX10_feed 35 (.getfield 22) 3 38 := ⟨by decide +kernel, rfl⟩
theorem d_X10_feed_38 : g_dc cX10_feed 38 (.iload_n 3) 1 39 := ⟨by decide +kernel, rfl⟩
theorem d_X10_feed_39 : g_dc cX10_feed 39 (.invokevirtual 113) 3 42 := ⟨by decide +kernel, rfl⟩
theorem d_X10_feed_42 : g_dc cX10_feed 42 (.aload_n 0) 1 43 := ⟨by decide +kernel, rfl⟩
theorem d_X10_feed_43 : g_dc cX10_feed 43 (.getfield 22) 3 46 := ⟨by decide +kernel, rfl⟩
theorem d_X10_feed_46 : g_dc cX10_feed 46 (.iload 4) 2 48 := ⟨by decide +kernel, rfl⟩
theorem d_X10_feed_48 : g_dc cX10_feed 48 (.invokevirtual 113) 3 51 := ⟨by decide +kernel, rfl⟩
theorem d_X10_feed_51 : g_dc cX10_feed 51 (.aload_n 0) 1 52 := ⟨by decide +kernel, rfl⟩
theorem d_X10_feed_52 : g_dc cX10_feed 52 (.getfield 22) 3 55 := ⟨by decide +kernel, rfl⟩
theorem d_X10_feed_55 : g_dc cX10_feed 55 (.iload 5) 2 57 := ⟨by decide +kernel, rfl⟩
theorem d_X10_feed_57 : g_dc cX10_feed 57 (.invokevirtual 113) 3 60 := ⟨by decide +kernel, rfl⟩
theorem d_X10_feed_60 : g_dc cX10_feed 60 (.aload_n 0) 1 61 := ⟨by decide +kernel, rfl⟩
theorem d_X10_feed_61 : g_dc cX10_feed 61 (.getfield 22) 3 64 := ⟨by decide +kernel, rfl⟩
theorem d_X10_feed_64 : g_dc cX10_feed 64 (.getfield 110) 3 67 := ⟨by decide +kernel, rfl⟩
theorem d_X10_feed_67 : g_dc cX10_feed 67 (.ireturn) 1 68 := ⟨by decide +kernel, rfl⟩
set_option maxHeartbeats 4000000 in
set_option maxRecDepth 100000 in
theorem c_X10_feed (l : Launch) (X : gX) (ad : Nat → Nat) (F : Nat → Int32) (R : Nat → Nat → Int32) (hI : IX F) (a b c d e : Int32) : g_Ci l X yX10_feed cX10_feed 6 (some .int) 3 0 0 [.ref (ad 0), .int a, .int b, .int c, .int d, .int e] (wX X ad F R) (fun r w => ∃ (F' : Nat → Int32) (R' : Nat → Nat → Int32), w = wX X ad F' R' ∧ IX F' ∧ KX F F') := by
  refine g_mi (by decide +kernel) (Nat.le_of_ble_eq_true rfl) (fun E cx hret => ?_)
  obtain ⟨zn, zhn, zhy⟩ := IX_145g hI
  refine g_aload_n cx 0 rfl d_X10_feed_0 ?_
  refine g_get cx cl_X10 fl_X10_22 0 (.ref (ad 9)) d_X10_feed_1 rfl rfl ?_
  refine g_getN cx cl_X9 fn_X10_110 9 (.int (F 145)) d_X10_feed_4 rfl rfl ?_
  refine g_bipush cx 20 (by decide) d_X10_feed_7 ?_
  refine g_iadd cx d_X10_feed_9 ?_
  refine g_sipush cx 220 (by decide) d_X10_feed_10 ?_
  refine g_icmp_le cx 18 d_X10_feed_13 (by decide) (fun zc13 => ?_) (fun zc13 => ?_)
  · refine g_aload_n cx 0 rfl d_X10_feed_18 ?_
    refine g_get cx cl_X10 fl_X10_22 0 (.ref (ad 9)) d_X10_feed_19 rfl rfl ?_
    refine g_iload_n cx 1 rfl d_X10_feed_22 ?_
    refine g_cVv cx [.int a] [] (c_X9_add l X (ad 9) (ad 10) (F 145) (R 10) a zn zhy (by have := g_feed zhn zhy zc13; omega)) ml_X10_113 yV_X9_add d_X10_feed_23 (by unfold g_rr; decide) (by decide) 0 rfl rfl [9, 10] rfl (by decide) rfl (Nat.le_of_ble_eq_true rfl) (by rintro _ ⟨_, rfl, _⟩; rfl) (fun w2 h3 => ?_)
    obtain ⟨g4, rfl, -⟩ := h3
    refine g_weq (wX X ad (upd F 145 (nI (zn + 4))) (g_u R 10 g4)) rfl ?_
    obtain ⟨zR5, hzR5⟩ : ∃ z, z = (g_u R 10 g4) := ⟨_, rfl⟩
    rw [← hzR5]
    obtain ⟨zF6, hzF6⟩ : ∃ z, z = (upd F 145 (nI (zn + 4))) := ⟨_, rfl⟩
    rw [← hzF6]
    have hIzF6 : IX zF6 := by rw [hzF6]; exact IX_145 (hI) (⟨(zn + 4), by have := g_feed zhn zhy zc13; omega, rfl⟩)
    have hKzF6 : KX F zF6 := by rw [hzF6]; exact KX_u (KX_rf F) rfl
    refine g_aload_n cx 0 rfl d_X10_feed_26 ?_
    refine g_get cx cl_X10 fl_X10_22 0 (.ref (ad 9)) d_X10_feed_27 rfl rfl ?_
    refine g_iload_n cx 2 rfl d_X10_feed_30 ?_
    refine g_cVv cx [.int b] [] (c_X9_add l X (ad 9) (ad 10) (zF6 145) (zR5 10) b (zn + 4) (congrFun hzF6 145) (by have := g_feed zhn zhy zc13; omega)) ml_X10_113 yV_X9_add d_X10_feed_31 (by unfold g_rr; decide) (by decide) 0 rfl rfl [9, 10] rfl (by decide) rfl (Nat.le_of_ble_eq_true rfl) (by rintro _ ⟨_, rfl, _⟩; rfl) (fun w8 h9 => ?_)
    obtain ⟨g10, rfl, -⟩ := h9
    refine g_weq (wX X ad (upd zF6 145 (nI (zn + 8))) (g_u zR5 10 g10)) rfl ?_
    obtain ⟨zR11, hzR11⟩ : ∃ z, z = (g_u zR5 10 g10) := ⟨_, rfl⟩
    rw [← hzR11]
    obtain ⟨zF12, hzF12⟩ : ∃ z, z = (upd zF6 145 (nI (zn + 8))) := ⟨_, rfl⟩
    rw [← hzF12]
    have hIzF12 : IX zF12 := by rw [hzF12]; exact IX_145 (hIzF6) (⟨(zn + 8), by have := g_feed zhn zhy zc13; omega, rfl⟩)
    have hKzF12 : KX F zF12 := by rw [hzF12]; exact KX_u (hKzF6) rfl
    refine g_aload_n cx 0 rfl d_X10_feed_34 ?_
    refine g_get cx cl_X10 fl_X10_22 0 (.ref (ad 9)) d_X10_feed_35 rfl rfl ?_
    refine g_iload_n cx 3 rfl d_X10_feed_38 ?_
    refine g_cVv cx [.int c] [] (c_X9_add l X (ad 9) (ad 10) (zF12 145) (zR11 10) c (zn + 8) (congrFun hzF12 145) (by have := g_feed zhn zhy zc13; omega)) ml_X10_113 yV_X9_add d_X10_feed_39 (by unfold g_rr; decide) (by decide) 0 rfl rfl [9, 10] rfl (by decide) rfl (Nat.le_of_ble_eq_true rfl) (by rintro _ ⟨_, rfl, _⟩; rfl) (fun w14 h15 => ?_)
    obtain ⟨g16, rfl, -⟩ := h15
    refine g_weq (wX X ad (upd zF12 145 (nI (zn + 12))) (g_u zR11 10 g16)) rfl ?_
    obtain ⟨zR17, hzR17⟩ : ∃ z, z = (g_u zR11 10 g16) := ⟨_, rfl⟩
    rw [← hzR17]
    obtain ⟨zF18, hzF18⟩ : ∃ z, z = (upd zF12 145 (nI (zn + 12))) := ⟨_, rfl⟩
    rw [← hzF18]
    have hIzF18 : IX zF18 := by rw [hzF18]; exact IX_145 (hIzF12) (⟨(zn + 12), by have := g_feed zhn zhy zc13; omega, rfl⟩)
    have hKzF18 : KX F zF18 := by rw [hzF18]; exact KX_u (hKzF12) rfl
    refine g_aload_n cx 0 rfl d_X10_feed_42 ?_
    refine g_get cx cl_X10 fl_X10_22 0 (.ref (ad 9)) d_X10_feed_43 rfl rfl ?_
    refine g_iload cx 4 rfl d_X10_feed_46 ?_
    refine g_cVv cx [.int d] [] (c_X9_add l X (ad 9) (ad 10) (zF18 145) (zR17 10) d (zn + 12) (congrFun hzF18 145) (by have := g_feed zhn zhy zc13; omega)) ml_X10_113 yV_X9_add d_X10_feed_48 (by unfold g_rr; decide) (by decide) 0 rfl rfl [9, 10] rfl (by decide) rfl (Nat.le_of_ble_eq_true rfl) (by rintro _ ⟨_, rfl, _⟩; rfl) (fun w20 h21 => ?_)
    obtain ⟨g22, rfl, -⟩ := h21
    refine g_weq (wX X ad (upd zF18 145 (nI (zn + 16))) (g_u zR17 10 g22)) rfl ?_
    obtain ⟨zR23, hzR23⟩ : ∃ z, z = (g_u zR17 10 g22) := ⟨_, rfl⟩
    rw [← hzR23]
    obtain ⟨zF24, hzF24⟩ : ∃ z, z = (upd zF18 145 (nI (zn + 16))) := ⟨_, rfl⟩
    rw [← hzF24]
    have hIzF24 : IX zF24 := by rw [hzF24]; exact IX_145 (hIzF18) (⟨(zn + 16), by have := g_feed zhn zhy zc13; omega, rfl⟩)
    have hKzF24 : KX F zF24 := by rw [hzF24]; exact KX_u (hKzF18) rfl
    refine g_aload_n cx 0 rfl d_X10_feed_51 ?_
    refine g_get cx cl_X10 fl_X10_22 0 (.ref (ad 9)) d_X10_feed_52 rfl rfl ?_
    refine g_iload cx 5 rfl d_X10_feed_55 ?_
    refine g_cVv cx [.int e] [] (c_X9_add l X (ad 9) (ad 10) (zF24 145) (zR23 10) e (zn + 16) (congrFun hzF24 145) (by have := g_feed zhn zhy zc13; omega)) ml_X10_113 yV_X9_add d_X10_feed_57 (by unfold g_rr; decide) (by decide) 0 rfl rfl [9, 10] rfl (by decide) rfl (Nat.le_of_ble_eq_true rfl) (by rintro _ ⟨_, rfl, _⟩; rfl) (fun w26 h27 => ?_)
    obtain ⟨g28, rfl, -⟩ := h27
    refine g_weq (wX X ad (upd zF24 145 (nI (zn + 20))) (g_u zR23 10 g28)) rfl ?_
    obtain ⟨zR29, hzR29⟩ : ∃ z, z = (g_u zR23 10 g28) := ⟨_, rfl⟩
    rw [← hzR29]
    obtain ⟨zF30, hzF30⟩ : ∃ z, z = (upd zF24 145 (nI (zn + 20))) := ⟨_, rfl⟩
    rw [← hzF30]
    have hIzF30 : IX zF30 := by rw [hzF30]; exact IX_145 (hIzF24) (⟨(zn + 20), by have := g_feed zhn zhy zc13; omega, rfl⟩)
    have hKzF30 : KX F zF30 := by rw [hzF30]; exact KX_u (hKzF24) rfl
    refine g_aload_n cx 0 rfl d_X10_feed_60 ?_
    refine g_get cx cl_X10 fl_X10_22 0 (.ref (ad 9)) d_X10_feed_61 rfl rfl ?_
    refine g_getN cx cl_X9 fn_X10_110 9 (.int (zF30 145)) d_X10_feed_64 rfl rfl ?_
    refine g_toi (nI (zn + 20)) ((congrFun hzF30 145)) ?_
    exact hret d_X10_feed_67 (Nat.le_of_ble_eq_true rfl) (Nat.le_of_ble_eq_true rfl) rfl ⟨zF30, zR29, rfl, hIzF30, hKzF30⟩
  · refine g_iconst cx (-1) (by decide) d_X10_feed_16 ?_
    exact hret d_X10_feed_17 (Nat.le_of_ble_eq_true rfl) (Nat.le_of_ble_eq_true rfl) rfl ⟨F, R, rfl, hI, KX_rf F⟩
