section GSV
variable {X : gX} {E : gE} {nL k n : Nat} {l : Launch} {R : Room} {cc : ByteArray} {own : String} {ini : Prop} {ws : va_W} {lv : List (Nat × Value)} {pc pc' : Nat} {st0 : List Value}
variable {y : MethodName} {b : ByteArray} {ml d mc ms idx : Nat} {wc : va_W}
theorem g_cSv {post : va_W → Prop} (cx : g_cx X E nL l R cc own ini) (As st : List Value) (hM : g_Cv l X y b ml d mc ms As wc post) (hw : Cond.methodLink own idx y ∈ gT) (hy : g_yS y b ml none As.length) (ho : y.cls = own) (hd : g_dc cc pc (.invokestatic idx) 3 pc') (hR : g_rr R d ml) (hf : k + mc ≤ R.cells ∧ n + ms ≤ R.slots) (isC : List Nat) (hC : isC.map (fun i => ws[i]?) = wc.map some) (hnd : va_nd isC = true) (hst : st0 = As.reverse ++ st) (hW : (st.map fun v => v.category).sum ≤ 8) (hadr : ∀ w, post w → w.map (·.1) = wc.map (·.1))
    (kk : ∀ w, post w → G X E nL (k + mc) (n + ms) (g_rep ws isC w) lv pc' (st)) : G X E nL k n ws lv pc st0 := by
  obtain ⟨p, e, s, args, below, meth, c, Q, hE, hx, hb, hml, hown, hts, hK, hN, hA, hini⟩ := cx
  obtain ⟨hd, rfl⟩ := hd
  subst hst
  intro H locs ls hP hD hS hl
  rw [hE]
  have hPc : va_P X.1 vwCl wc H := g_P_of hC hP
  have hDc := hD.sub isC hnd hC
  have hFc := va_free (wc := wc) hD hS hA isC hC
  have hgood : GoodIn gT (wsS own idx y (gW y b ml none)) := g_good (fun w h => by
    simp only [wsS, gW, List.mem_append, List.mem_cons, List.not_mem_nil, or_false] at h
    rcases h with (rfl | rfl | rfl) | rfl | h
    · exact hw
    · exact hy.1
    · rw [← ho]; exact hy.2.1
    · exact hy.2.2.1
    · exact h)
  refine va_callv (va_runS (As := As) (rest := st) ⟨hx, hb, hml, hown, hts⟩ (hM H.size) (cwS As.length hts hgood rfl rfl rfl ⟨ho, hy.2.2.2⟩ hR) ⟨g_pc_ok, fun U hU hW => ⟨rfl, by rw [hU], by rw [hU]; exact hPc, va_K.moved hW.alike hK, hDc.weaken (fun _ _ _ _ => trivial), g_nf_warm hW hN⟩⟩ rfl rfl hl.1 rfl (lv_room hW) hd hf) hS (fun q _ h => hFc q h) hFc (fun w t H1 locs1 ht hvm hp hB hz hk1 hS1 => ?_)
  obtain ⟨hP1, hD1⟩ := hB
  rw [ht] at hP1
  have k1 := kk w hp H1 locs1 ls (g_rep_P hC (hadr w hp) hP hD hk1 hP1) (g_rep_D hC (hadr w hp) hD) hS1 hl
  rw [hE] at k1
  exact k1
theorem g_cSvW {post : va_W → Prop} (cx : g_cx X E nL l R cc own ini) (As st : List Value) (hM : g_Cv l X y b ml d mc ms As ws post) (hw : Cond.methodLink own idx y ∈ gT) (hy : g_yS y b ml none As.length) (ho : y.cls = own) (hd : g_dc cc pc (.invokestatic idx) 3 pc') (hR : g_rr R d ml) (hf : k + mc ≤ R.cells ∧ n + ms ≤ R.slots) (hst : st0 = As.reverse ++ st) (hW : (st.map fun v => v.category).sum ≤ 8)
    (kk : ∀ w, post w → G X E nL (k + mc) (n + ms) w lv pc' (st)) : G X E nL k n ws lv pc st0 := by
  obtain ⟨p, e, s, args, below, meth, c, Q, hE, hx, hb, hml, hown, hts, hK, hN, hA, hini⟩ := cx
  obtain ⟨hd, rfl⟩ := hd
  subst hst
  intro H locs ls hP hD hS hl
  rw [hE]
  have hPc : va_P X.1 vwCl ws H := hP
  have hDc := hD
  have hFc := va_free (wc := ws) hD hS hA (List.range ws.length) (g_all ws)
  have hgood : GoodIn gT (wsS own idx y (gW y b ml none)) := g_good (fun w h => by
    simp only [wsS, gW, List.mem_append, List.mem_cons, List.not_mem_nil, or_false] at h
    rcases h with (rfl | rfl | rfl) | rfl | h
    · exact hw
    · exact hy.1
    · rw [← ho]; exact hy.2.1
    · exact hy.2.2.1
    · exact h)
  refine va_callv (va_runS (As := As) (rest := st) ⟨hx, hb, hml, hown, hts⟩ (hM H.size) (cwS As.length hts hgood rfl rfl rfl ⟨ho, hy.2.2.2⟩ hR) ⟨g_pc_ok, fun U hU hW => ⟨rfl, by rw [hU], by rw [hU]; exact hPc, va_K.moved hW.alike hK, hDc.weaken (fun _ _ _ _ => trivial), g_nf_warm hW hN⟩⟩ rfl rfl hl.1 rfl (lv_room hW) hd hf) hS (fun q _ h => hFc q h) hFc (fun w t H1 locs1 ht hvm hp hB hz hk1 hS1 => ?_)
  obtain ⟨hP1, hD1⟩ := hB
  rw [ht] at hP1
  have k1 := kk w hp H1 locs1 ls hP1 (hD1.weaken (fun _ q _ h => hFc q.1 h)) hS1 hl
  rw [hE] at k1
  exact k1
end GSV

theorem d_X11_runs_0 : g_dc cX11_runs 0 (.aload_n 0) 1 1 := ⟨by decide +kernel, rfl⟩
theorem d_X11_runs_1 : g_dc cX11_runs 1 (.invokevirtual 398) 3 4 := ⟨by decide +kernel, rfl⟩
theorem d_X11_runs_4 : g_dc cX11_runs 4 (.aload_n 0) 1 5 := ⟨by decide +kernel, rfl⟩
theorem d_X11_runs_5 : g_dc cX11_runs 5 (.getfield 325) 3 8 := ⟨by decide +kernel, rfl⟩
theorem d_X11_runs_8 : g_dc cX11_runs 8 (.sipush 300) 3 11 := ⟨by decide +kernel, rfl⟩
theorem d_X11_runs_11 : g_dc cX11_runs 11 (.if_icmp .ge 28) 3 14 := ⟨by decide +kernel, rfl⟩
theorem d_X11_runs_14 : g_dc cX11_runs 14 (.aload_n 0) 1 15 := ⟨by decide +kernel, rfl⟩
theorem d_X11_runs_15 : g_dc cX11_runs 15 (.getfield 325) 3 18 := ⟨by decide +kernel, rfl⟩
theorem d_X11_runs_18 : g_dc cX11_runs 18 (.aload_n 0) 1 19 := ⟨by decide +kernel, rfl⟩
theorem d_X11_runs_19 : g_dc cX11_runs 19 (.getfield 309) 3 22 := ⟨by decide +kernel, rfl⟩
theorem d_X11_runs_22 : g_dc cX11_runs 22 (.if_icmp .lt 10) 3 25 := ⟨by decide +kernel, rfl⟩
theorem d_X11_runs_25 : g_dc cX11_runs 25 (.aload_n 0) 1 26 := ⟨by decide +kernel, rfl⟩
theorem d_X11_runs_26 : g_dc cX11_runs 26 (.invokevirtual 401) 3 29 := ⟨by decide +kernel, rfl⟩
theorem d_X11_runs_29 : g_dc cX11_runs 29 (.ifCond .eq 10) 3 32 := ⟨by decide +kernel, rfl⟩
theorem d_X11_runs_32 : g_dc cX11_runs 32 (.aload_n 0) 1 33 := ⟨by decide +kernel, rfl⟩
theorem d_X11_runs_33 : g_dc cX11_runs 33 (.invokevirtual 404) 3 36 := ⟨by decide +kernel, rfl⟩
theorem d_X11_runs_36 : g_dc cX11_runs 36 (.goto (-32)) 3 39 := ⟨by decide +kernel, rfl⟩
theorem d_X11_runs_39 : g_dc cX11_runs 39 (.return_) 1 40 := ⟨by decide +kernel, rfl⟩
set_option maxHeartbeats 4000000 in
set_option maxRecDepth 100000 in
theorem c_X11_runs (l : Launch) (X : gX) (ad : Nat → Nat) (F : Nat → Int32) (R : Nat → Nat → Int32) (tk : Nat) (h44 : F 44 = nI tk) (h60 : tk ≤ 60) (h42 : F 42 = 0) (hd : tk = 0 ∨ F 49 = 0 ∧ F 51 = 0) : g_Cv l X yX11_runs cX11_runs 1 5 0 0 [.ref (ad 0)] (wM X ad F R) (fun w => ∃ (F' : Nat → Int32) (R' : Nat → Nat → Int32), w = wM X ad F' R' ∧ P_mr F F') := by
  refine g_mv (by decide +kernel) (Nat.le_of_ble_eq_true rfl) (fun E cx hret => ?_)
  refine g_aload_n cx 0 rfl d_X11_runs_0 ?_
  refine g_cVvW cx [] [] (c_X11_begins l X ad F R  ) ml_X11_398 yV_X11_begins d_X11_runs_1 (by unfold g_rr; decide) (by decide) 0 rfl rfl rfl (Nat.le_of_ble_eq_true rfl) (fun w2 h3 => ?_)
  obtain ⟨zR4, rfl⟩ := h3
  refine g_weq (wM X ad (upd (upd (upd (upd (upd (upd F 45 0) 46 0) 48 (F 1)) 65 0) 66 0) 67 0) zR4) rfl ?_
  have L4 : ∀ (N : Nat) (t : Nat) (zF : Nat → Int32) (zR : Nat → Nat → Int32), 61 - t < N → (t ≤ tk) → (zF 45 = nI t) → (∀ k, k < 45 ∨ 48 < k ∧ k < 65 ∨ 69 < k → zF k = F k) → (t = 0 → zF 45 = 0 ∧ zF 48 = F 1 ∧ zF 65 = 0 ∧ zF 66 = 0 ∧ zF 67 = 0) → G X E 1 0 0 (wM X ad zF zR) [(0, .ref (ad 0))] 4 [] := by
    intro N
    induction N with
    | zero => intro t zF zR hm; exact absurd hm (Nat.not_lt_zero _)
    | succ N ih4 =>
      intro t zF zR hm ht h45 hf h0
      refine g_aload_n cx 0 rfl d_X11_runs_4 ?_
      refine g_get cx cl_X11 fl_X11_325 0 (.int (zF 45)) d_X11_runs_5 rfl rfl ?_
      refine g_sipush cx 300 (by decide) d_X11_runs_8 ?_
      refine g_icmp_ge_f cx 39 d_X11_runs_11 (by decide) (fun hc => absurd (g_le (c := 300) (by decide) (h45 ▸ hc) (by omega)) (by omega)) ?_
      refine g_aload_n cx 0 rfl d_X11_runs_14 ?_
      refine g_get cx cl_X11 fl_X11_325 0 (.int (zF 45)) d_X11_runs_15 rfl rfl ?_
      refine g_aload_n cx 0 rfl d_X11_runs_18 ?_
      refine g_get cx cl_X11 fl_X11_309 0 (.int (zF 44)) d_X11_runs_19 rfl rfl ?_
      refine g_toi (F 44) (hf 44 (by decide)) ?_
      refine g_icmp_lt cx 32 d_X11_runs_22 (by decide) (fun zc22 => ?_) (fun zc22 => ?_)
      · refine g_aload_n cx 0 rfl d_X11_runs_32 ?_
        refine g_cVvW cx [] [] (c_X11_ticks l X ad zF zR t tk h45 ((hf 44 (by decide)).trans h44) (by omega) h60 ((hf 42 (by decide)).trans (h42)) ((hf 49 (by decide)).trans (g_dr hd (g_ltk h45 h44 (by omega) (by omega) zc22)).1) ((hf 51 (by decide)).trans (g_dr hd (g_ltk h45 h44 (by omega) (by omega) zc22)).2)) ml_X11_404 yV_X11_ticks d_X11_runs_33 (by unfold g_rr; decide) (by decide) 0 rfl rfl rfl (Nat.le_of_ble_eq_true rfl) (fun w6 h7 => ?_)
        obtain ⟨zF8, zR9, rfl, zp10⟩ := h7
        refine g_goto cx 4 d_X11_runs_36 (by decide) ?_
        exact ih4 (t + 1) zF8 zR9 (by have := (g_ltk h45 h44 (by omega) (by omega) zc22); omega) (g_ltk h45 h44 (by omega) (by omega) zc22) (zp10.2.trans (by rw [h45]; exact nI_1 t)) (by intro k hk; exact (zp10.1 k (by omega)).trans (hf k hk)) (fun h => absurd h (Nat.succ_ne_zero t))
      · refine g_aload_n cx 0 rfl d_X11_runs_25 ?_
        refine g_cViW cx [] [] (c_X11_someMove l X ad zF zR  ((hf 42 (by decide)).trans (h42))) ml_X11_401 yV_X11_someMove d_X11_runs_26 (by unfold g_rr; decide) (by decide) 0 rfl rfl rfl (Nat.le_of_ble_eq_true rfl) (fun r11 w12 h13 => ?_)
        obtain ⟨rfl, rfl⟩ := h13
        refine g_if_eq_t cx 39 d_X11_runs_29 (by decide) (by decide) ?_
        exact hret d_X11_runs_39 (Nat.le_of_ble_eq_true rfl) (Nat.le_of_ble_eq_true rfl) ⟨zF, zR, rfl, ⟨hf, fun e => h0 (by have e1 := h44.symm.trans e; have e2 : tk = 0 := (by rcases Nat.eq_zero_or_pos tk with q | q; exact q; exact absurd e1 (nI_ne0 q (by omega))); omega)⟩⟩
  exact L4 _ 0 (upd (upd (upd (upd (upd (upd F 45 0) 46 0) 48 (F 1)) 65 0) 66 0) 67 0) zR4 (Nat.lt_succ_self _) (Nat.zero_le tk) rfl (by intro k hk; simp only [upd]; repeat rw [if_neg (by omega)]) (fun _ => ⟨rfl, rfl, rfl, rfl, rfl⟩)
def T_om (F' : Nat → Int32) : Prop := F' 42 = 0 ∧ F' 45 = 0 ∧ F' 48 = 100 ∧ F' 65 = 0 ∧ F' 66 = 0 ∧ F' 67 = 0
theorem d_X11_runsStill_0 : g_dc cX11_runsStill 0 (.aload_n 0) 1 1 := ⟨by decide +kernel, rfl⟩
theorem d_X11_runsStill_1 : g_dc cX11_runsStill 1 (.invokevirtual 422) 3 4 := ⟨by decide +kernel, rfl⟩
theorem d_X11_runsStill_4 : g_dc cX11_runsStill 4 (.aload_n 0) 1 5 := ⟨by decide +kernel, rfl⟩
theorem d_X11_runsStill_5 : g_dc cX11_runsStill 5 (.invokevirtual 425) 3 8 := ⟨by decide +kernel, rfl⟩
theorem d_X11_runsStill_8 : g_dc cX11_runsStill 8 (.aload_n 0) 1 9 := ⟨by decide +kernel, rfl⟩
theorem d_X11_runsStill_9 : g_dc cX11_runsStill 9 (.invokevirtual 428) 3 12 := ⟨by decide +kernel, rfl⟩
theorem d_X11_runsStill_12 : g_dc cX11_runsStill 12 (.return_) 1 13 := ⟨by decide +kernel, rfl⟩
set_option maxHeartbeats 4000000 in
set_option maxRecDepth 100000 in
theorem c_X11_runsStill (l : Launch) (X : gX) (ad : Nat → Nat) : g_Cv l X yX11_runsStill cX11_runsStill 1 6 0 0 [.ref (ad 0)] (wM X ad fM0 r0) (fun w => ∃ (F' : Nat → Int32) (R' : Nat → Nat → Int32), w = wM X ad F' R' ∧ T_om F') := by
  refine g_mv (by decide +kernel) (Nat.le_of_ble_eq_true rfl) (fun E cx hret => ?_)
  refine g_aload_n cx 0 rfl d_X11_runsStill_0 ?_
  refine g_cVvW cx [] [] (c_X11_laysPull l X ad fM0 r0 rfl) ml_X11_422 yV_X11_laysPull d_X11_runsStill_1 (by unfold g_rr; decide) (by decide) 0 rfl rfl rfl (Nat.le_of_ble_eq_true rfl) (fun w2 h3 => ?_)
  obtain ⟨rfl, -⟩ := h3
  refine g_weq (wM X ad (upd fM0 44 0) r0) rfl ?_
  refine g_aload_n cx 0 rfl d_X11_runsStill_4 ?_
  refine g_cVvW cx [] [] (c_X11_laysThings l X ad (upd fM0 44 0) r0  ) ml_X11_425 yV_X11_laysThings d_X11_runsStill_5 (by unfold g_rr; decide) (by decide) 0 rfl rfl rfl (Nat.le_of_ble_eq_true rfl) (fun w5 h6 => ?_)
  obtain ⟨zR7, rfl⟩ := h6
  refine g_weq (wM X ad (upd (upd (upd (upd (upd fM0 42 0) 43 0) 44 0) 49 0) 51 0) zR7) rfl ?_
  refine g_aload_n cx 0 rfl d_X11_runsStill_8 ?_
  refine g_cVvW cx [] [] (c_X11_runs l X ad (upd (upd (upd (upd (upd fM0 42 0) 43 0) 44 0) 49 0) 51 0) zR7 0 rfl (by decide) rfl (Or.inl rfl)) ml_X11_428 yV_X11_runs d_X11_runsStill_9 (by unfold g_rr; decide) (by decide) 0 rfl rfl rfl (Nat.le_of_ble_eq_true rfl) (fun w9 h10 => ?_)
  obtain ⟨zF11, zR12, rfl, zp13⟩ := h10
  exact hret d_X11_runsStill_12 (Nat.le_of_ble_eq_true rfl) (Nat.le_of_ble_eq_true rfl) ⟨zF11, zR12, rfl, ⟨(zp13.1 42 (by decide)).trans (rfl), (zp13.2 rfl).1, (zp13.2 rfl).2.1, (zp13.2 rfl).2.2.1, (zp13.2 rfl).2.2.2.1, (zp13.2 rfl).2.2.2.2⟩⟩
theorem d_X11_runsDrawn_0 : g_dc cX11_runsDrawn 0 (.aload_n 0) 1 1 := ⟨by decide +kernel, rfl⟩
theorem d_X11_runsDrawn_1 : g_dc cX11_runsDrawn 1 (.invokevirtual 422) 3 4 := ⟨by decide +kernel, rfl⟩
theorem d_X11_runsDrawn_4 : g_dc cX11_runsDrawn 4 (.aload_n 0) 1 5 := ⟨by decide +kernel, rfl⟩
theorem d_X11_runsDrawn_5 : g_dc cX11_runsDrawn 5 (.invokevirtual 425) 3 8 := ⟨by decide +kernel, rfl⟩
theorem d_X11_runsDrawn_8 : g_dc cX11_runsDrawn 8 (.aload_n 0) 1 9 := ⟨by decide +kernel, rfl⟩
theorem d_X11_runsDrawn_9 : g_dc cX11_runsDrawn 9 (.iconst 1) 1 10 := ⟨by decide +kernel, rfl⟩
theorem d_X11_runsDrawn_10 : g_dc cX11_runsDrawn 10 (.putfield 318) 3 13 := ⟨by decide +kernel, rfl⟩
theorem d_X11_runsDrawn_13 : g_dc cX11_runsDrawn 13 (.aload_n 0) 1 14 := ⟨by decide +kernel, rfl⟩
theorem d_X11_runsDrawn_14 : g_dc cX11_runsDrawn 14 (.invokevirtual 428) 3 17 := ⟨by decide +kernel, rfl⟩
theorem d_X11_runsDrawn_17 : g_dc cX11_runsDrawn 17 (.return_) 1 18 := ⟨by decide +kernel, rfl⟩
set_option maxHeartbeats 4000000 in
set_option maxRecDepth 100000 in
theorem c_X11_runsDrawn (l : Launch) (X : gX) (ad : Nat → Nat) : g_Cv l X yX11_runsDrawn cX11_runsDrawn 1 6 0 0 [.ref (ad 0)] (wM X ad fM0 r0) (fun w => ∃ (F' : Nat → Int32) (R' : Nat → Nat → Int32), w = wM X ad F' R' ∧ T_om F') := by
  refine g_mv (by decide +kernel) (Nat.le_of_ble_eq_true rfl) (fun E cx hret => ?_)
  refine g_aload_n cx 0 rfl d_X11_runsDrawn_0 ?_
  refine g_cVvW cx [] [] (c_X11_laysPull l X ad fM0 r0 rfl) ml_X11_422 yV_X11_laysPull d_X11_runsDrawn_1 (by unfold g_rr; decide) (by decide) 0 rfl rfl rfl (Nat.le_of_ble_eq_true rfl) (fun w2 h3 => ?_)
  obtain ⟨rfl, -⟩ := h3
  refine g_weq (wM X ad (upd fM0 44 0) r0) rfl ?_
  refine g_aload_n cx 0 rfl d_X11_runsDrawn_4 ?_
  refine g_cVvW cx [] [] (c_X11_laysThings l X ad (upd fM0 44 0) r0  ) ml_X11_425 yV_X11_laysThings d_X11_runsDrawn_5 (by unfold g_rr; decide) (by decide) 0 rfl rfl rfl (Nat.le_of_ble_eq_true rfl) (fun w5 h6 => ?_)
  obtain ⟨zR7, rfl⟩ := h6
  refine g_weq (wM X ad (upd (upd (upd (upd (upd fM0 42 0) 43 0) 44 0) 49 0) 51 0) zR7) rfl ?_
  refine g_aload_n cx 0 rfl d_X11_runsDrawn_8 ?_
  refine g_iconst cx 1 (by decide) d_X11_runsDrawn_9 ?_
  refine g_put cx cl_X11 fl_X11_318 0 (wM X ad (upd (upd (upd (upd (upd fM0 42 0) 43 0) 44 0) 49 0) 51 1) zR7) d_X11_runsDrawn_10 rfl rfl rfl rfl (Nat.le_of_ble_eq_true rfl) rfl ?_
  refine g_aload_n cx 0 rfl d_X11_runsDrawn_13 ?_
  refine g_cVvW cx [] [] (c_X11_runs l X ad (upd (upd (upd (upd (upd fM0 42 0) 43 0) 44 0) 49 0) 51 1) zR7 0 rfl (by decide) rfl (Or.inl rfl)) ml_X11_428 yV_X11_runs d_X11_runsDrawn_14 (by unfold g_rr; decide) (by decide) 0 rfl rfl rfl (Nat.le_of_ble_eq_true rfl) (fun w9 h10 => ?_)
  obtain ⟨zF11, zR12, rfl, zp13⟩ := h10
  exact hret d_X11_runsDrawn_17 (Nat.le_of_ble_eq_true rfl) (Nat.le_of_ble_eq_true rfl) ⟨zF11, zR12, rfl, ⟨(zp13.1 42 (by decide)).trans (rfl), (zp13.2 rfl).1, (zp13.2 rfl).2.1, (zp13.2 rfl).2.2.1, (zp13.2 rfl).2.2.2.1, (zp13.2 rfl).2.2.2.2⟩⟩
theorem g_in08 {x : Int32} (h : ¬ g_in x 0 8 = 0) : x = 0 ∨ x = 1 ∨ x = 2 ∨ x = 3 ∨ x = 4 ∨ x = 5 ∨ x = 6 ∨ x = 7 ∨ x = 8 := by
  obtain ⟨j, hj, rfl⟩ := g_inj (m := 8) h (by decide)
  have e : j = 0 ∨ j = 1 ∨ j = 2 ∨ j = 3 ∨ j = 4 ∨ j = 5 ∨ j = 6 ∨ j = 7 ∨ j = 8 := by omega
  rcases e with rfl | rfl | rfl | rfl | rfl | rfl | rfl | rfl | rfl
  · exact Or.inl rfl
  · exact Or.inr (Or.inl rfl)
  · exact Or.inr (Or.inr (Or.inl rfl))
  · exact Or.inr (Or.inr (Or.inr (Or.inl rfl)))
  · exact Or.inr (Or.inr (Or.inr (Or.inr (Or.inl rfl))))
  · exact Or.inr (Or.inr (Or.inr (Or.inr (Or.inr (Or.inl rfl)))))
  · exact Or.inr (Or.inr (Or.inr (Or.inr (Or.inr (Or.inr (Or.inl rfl))))))
  · exact Or.inr (Or.inr (Or.inr (Or.inr (Or.inr (Or.inr (Or.inr (Or.inl rfl)))))))
  · exact Or.inr (Or.inr (Or.inr (Or.inr (Or.inr (Or.inr (Or.inr (Or.inr rfl)))))))
theorem g_st_no {x : Int32} (h : g_in x 0 8 = 0) : g_st x = -1 := by
  unfold g_in at h
  split at h
  · exact absurd h (by decide)
  · rename_i h1
    unfold g_st
    rw [if_neg (fun e => h1 (by rw [e]; decide)), if_neg h1]

theorem d_X11_told_0 : g_dc cX11_told 0 (.iload_n 1) 1 1 := ⟨by decide +kernel, rfl⟩
theorem d_X11_told_1 : g_dc cX11_told 1 (.bipush 10) 2 3 := ⟨by decide +kernel, rfl⟩
theorem d_X11_told_3 : g_dc cX11_told 3 (.irem) 1 4 := ⟨by decide +kernel, rfl⟩
theorem d_X11_told_4 : g_dc cX11_told 4 (.istore_n 2) 1 5 := ⟨by decide +kernel, rfl⟩
theorem d_X11_told_5 : g_dc cX11_told 5 (.iload_n 1) 1 6 := ⟨by decide +kernel, rfl⟩
theorem d_X11_told_6 : g_dc cX11_told 6 (.bipush 10) 2 8 := ⟨by decide +kernel, rfl⟩
theorem d_X11_told_8 : g_dc cX11_told 8 (.if_icmp .ge 7) 3 11 := ⟨by decide +kernel, rfl⟩
theorem d_X11_told_11 : g_dc cX11_told 11 (.iload_n 1) 1 12 := ⟨by decide +kernel, rfl⟩
theorem d_X11_told_12 : g_dc cX11_told 12 (.goto 10) 3 15 := ⟨by decide +kernel, rfl⟩
theorem d_X11_told_22 : g_dc cX11_told 22 (.tableswitch 162 0 15 #[78, 86, 91, 96, 101, 107, 113, 118, 123, 162, 162, 128, 134, 141, 148, 155]) 78 100 := ⟨by decide +kernel, rfl⟩
theorem d_X11_told_100 : g_dc cX11_told 100 (.aload_n 0) 1 101 := ⟨by decide +kernel, rfl⟩
theorem d_X11_told_101 : g_dc cX11_told 101 (.invokevirtual 407) 3 104 := ⟨by decide +kernel, rfl⟩
theorem d_X11_told_104 : g_dc cX11_told 104 (.invokestatic 410) 3 107 := ⟨by decide +kernel, rfl⟩
theorem d_X11_told_107 : g_dc cX11_told 107 (.ireturn) 1 108 := ⟨by decide +kernel, rfl⟩
theorem d_X11_told_108 : g_dc cX11_told 108 (.aload_n 0) 1 109 := ⟨by decide +kernel, rfl⟩
theorem d_X11_told_109 : g_dc cX11_told 109 (.invokevirtual 413) 3 112 := ⟨by decide +kernel, rfl⟩
theorem d_X11_told_112 : g_dc cX11_told 112 (.ireturn) 1 113 := ⟨by decide +kernel, rfl⟩
theorem d_X11_told_113 : g_dc cX11_told 113 (.aload_n 0) 1 114 := ⟨by decide +kernel, rfl⟩
theorem d_X11_told_114 : g_dc cX11_told 114 (.getfield 325) 3 117 := ⟨by decide +kernel, rfl⟩
theorem d_X11_told_117 : g_dc cX11_told 117 (.ireturn) 1 118 := ⟨by decide +kernel, rfl⟩
theorem d_X11_told_118 : g_dc cX11_told 118 (.aload_n 0) 1 119 := ⟨by decide +kernel, rfl⟩
theorem d_X11_told_119 : g_dc cX11_told 119 (.getfield 331) 3 122 := ⟨by decide +kernel, rfl⟩
theorem d_X11_told_122 : g_dc cX11_told 122 (.ireturn) 1 123 := ⟨by decide +kernel, rfl⟩
theorem d_X11_told_123 : g_dc cX11_told 123 (.aload_n 0) 1 124 := ⟨by decide +kernel, rfl⟩
theorem d_X11_told_124 : g_dc cX11_told 124 (.iconst 1) 1 125 := ⟨by decide +kernel, rfl⟩
theorem d_X11_told_125 : g_dc cX11_told 125 (.invokevirtual 416) 3 128 := ⟨by decide +kernel, rfl⟩
theorem d_X11_told_128 : g_dc cX11_told 128 (.ireturn) 1 129 := ⟨by decide +kernel, rfl⟩
theorem d_X11_told_129 : g_dc cX11_told 129 (.aload_n 0) 1 130 := ⟨by decide +kernel, rfl⟩
theorem d_X11_told_130 : g_dc cX11_told 130 (.iconst 2) 1 131 := ⟨by decide +kernel, rfl⟩
theorem d_X11_told_131 : g_dc cX11_told 131 (.invokevirtual 416) 3 134 := ⟨by decide +kernel, rfl⟩
theorem d_X11_told_134 : g_dc cX11_told 134 (.ireturn) 1 135 := ⟨by decide +kernel, rfl⟩
theorem d_X11_told_135 : g_dc cX11_told 135 (.aload_n 0) 1 136 := ⟨by decide +kernel, rfl⟩
theorem d_X11_told_136 : g_dc cX11_told 136 (.getfield 334) 3 139 := ⟨by decide +kernel, rfl⟩
theorem d_X11_told_139 : g_dc cX11_told 139 (.ireturn) 1 140 := ⟨by decide +kernel, rfl⟩
theorem d_X11_told_140 : g_dc cX11_told 140 (.aload_n 0) 1 141 := ⟨by decide +kernel, rfl⟩
theorem d_X11_told_141 : g_dc cX11_told 141 (.getfield 337) 3 144 := ⟨by decide +kernel, rfl⟩
theorem d_X11_told_144 : g_dc cX11_told 144 (.ireturn) 1 145 := ⟨by decide +kernel, rfl⟩
theorem d_X11_told_145 : g_dc cX11_told 145 (.aload_n 0) 1 146 := ⟨by decide +kernel, rfl⟩
theorem d_X11_told_146 : g_dc cX11_told 146 (.getfield 340) 3 149 := ⟨by decide +kernel, rfl⟩
theorem d_X11_told_149 : g_dc cX11_told 149 (.ireturn) 1 150 := ⟨by decide +kernel, rfl⟩
set_option maxHeartbeats 4000000 in
set_option maxRecDepth 100000 in
theorem c_X11_told (l : Launch) (X : gX) (ad : Nat → Nat) (F : Nat → Int32) (R : Nat → Nat → Int32) (what : Int32) (hw : ¬ g_in what 0 8 = 0) (h42 : F 42 = 0) (h45 : F 45 = 0) (h48 : F 48 = 100) (h65 : F 65 = 0) (h66 : F 66 = 0) (h67 : F 67 = 0) : g_Ci l X yX11_told cX11_told 3 (some .int) 4 0 0 [.ref (ad 0), .int what] (wM X ad F R) (fun r w => r = g_st what) := by
  refine g_mi (by decide +kernel) (Nat.le_of_ble_eq_true rfl) (fun E cx hret => ?_)
  rcases g_in08 hw with rfl | rfl | rfl | rfl | rfl | rfl | rfl | rfl | rfl
  · refine g_iload_n cx 1 rfl d_X11_told_0 ?_
    refine g_bipush cx 10 (by decide) d_X11_told_1 ?_
    refine g_irem cx (by decide) d_X11_told_3 ?_
    refine g_toi 0 (by decide) ?_
    refine g_istore_n cx [(2, .int 0), (0, .ref (ad 0)), (1, .int 0)] d_X11_told_4 (by decide) rfl ?_
    refine g_iload_n cx 2 rfl d_X11_told_5 ?_
    refine g_bipush cx 10 (by decide) d_X11_told_6 ?_
    refine g_icmp_ge_f cx 15 d_X11_told_8 (by decide) (by decide) ?_
    refine g_iload_n cx 2 rfl d_X11_told_11 ?_
    refine g_goto cx 22 d_X11_told_12 (by decide) ?_
    refine g_tableIn cx 100 d_X11_told_22 (by decide) (by decide) rfl (by decide) ?_
    refine g_aload_n cx 1 rfl d_X11_told_100 ?_
    refine g_cViW cx [] [] (c_X11_standing l X ad F R  h42) ml_X11_407 yV_X11_standing d_X11_told_101 (by unfold g_rr; decide) (by decide) 0 rfl rfl rfl (Nat.le_of_ble_eq_true rfl) (fun r1 w2 h3 => ?_)
    obtain ⟨rfl, rfl⟩ := h3
    refine g_cSiW cx [.int 0] [] (c0_X11_bits l X _) ml_X11_410 yS_X11_bits rfl d_X11_told_104 (by unfold g_rr; decide) (by decide) rfl (Nat.le_of_ble_eq_true rfl) (fun r4 w5 h6 => ?_)
    obtain ⟨rfl, rfl⟩ := h6
    exact hret d_X11_told_107 (Nat.le_of_ble_eq_true rfl) (Nat.le_of_ble_eq_true rfl) rfl (by show (_ : Int32) = _; decide)
  · refine g_iload_n cx 1 rfl d_X11_told_0 ?_
    refine g_bipush cx 10 (by decide) d_X11_told_1 ?_
    refine g_irem cx (by decide) d_X11_told_3 ?_
    refine g_toi 1 (by decide) ?_
    refine g_istore_n cx [(2, .int 1), (0, .ref (ad 0)), (1, .int 1)] d_X11_told_4 (by decide) rfl ?_
    refine g_iload_n cx 2 rfl d_X11_told_5 ?_
    refine g_bipush cx 10 (by decide) d_X11_told_6 ?_
    refine g_icmp_ge_f cx 15 d_X11_told_8 (by decide) (by decide) ?_
    refine g_iload_n cx 2 rfl d_X11_told_11 ?_
    refine g_goto cx 22 d_X11_told_12 (by decide) ?_
    refine g_tableIn cx 108 d_X11_told_22 (by decide) (by decide) rfl (by decide) ?_
    refine g_aload_n cx 1 rfl d_X11_told_108 ?_
    refine g_cViW cx [] [] (c_X11_inchesAll l X ad F R  h42) ml_X11_413 yV_X11_inchesAll d_X11_told_109 (by unfold g_rr; decide) (by decide) 0 rfl rfl rfl (Nat.le_of_ble_eq_true rfl) (fun r7 w8 h9 => ?_)
    obtain ⟨rfl, rfl⟩ := h9
    exact hret d_X11_told_112 (Nat.le_of_ble_eq_true rfl) (Nat.le_of_ble_eq_true rfl) rfl (by show (_ : Int32) = _; decide)
  · refine g_iload_n cx 1 rfl d_X11_told_0 ?_
    refine g_bipush cx 10 (by decide) d_X11_told_1 ?_
    refine g_irem cx (by decide) d_X11_told_3 ?_
    refine g_toi 2 (by decide) ?_
    refine g_istore_n cx [(2, .int 2), (0, .ref (ad 0)), (1, .int 2)] d_X11_told_4 (by decide) rfl ?_
    refine g_iload_n cx 2 rfl d_X11_told_5 ?_
    refine g_bipush cx 10 (by decide) d_X11_told_6 ?_
    refine g_icmp_ge_f cx 15 d_X11_told_8 (by decide) (by decide) ?_
    refine g_iload_n cx 2 rfl d_X11_told_11 ?_
    refine g_goto cx 22 d_X11_told_12 (by decide) ?_
    refine g_tableIn cx 113 d_X11_told_22 (by decide) (by decide) rfl (by decide) ?_
    refine g_aload_n cx 1 rfl d_X11_told_113 ?_
    refine g_get cx cl_X11 fl_X11_325 0 (.int (F 45)) d_X11_told_114 rfl rfl ?_
    refine g_toi 0 (h45) ?_
    exact hret d_X11_told_117 (Nat.le_of_ble_eq_true rfl) (Nat.le_of_ble_eq_true rfl) rfl (by show (_ : Int32) = _; decide)
  · refine g_iload_n cx 1 rfl d_X11_told_0 ?_
    refine g_bipush cx 10 (by decide) d_X11_told_1 ?_
    refine g_irem cx (by decide) d_X11_told_3 ?_
    refine g_toi 3 (by decide) ?_
    refine g_istore_n cx [(2, .int 3), (0, .ref (ad 0)), (1, .int 3)] d_X11_told_4 (by decide) rfl ?_
    refine g_iload_n cx 2 rfl d_X11_told_5 ?_
    refine g_bipush cx 10 (by decide) d_X11_told_6 ?_
    refine g_icmp_ge_f cx 15 d_X11_told_8 (by decide) (by decide) ?_
    refine g_iload_n cx 2 rfl d_X11_told_11 ?_
    refine g_goto cx 22 d_X11_told_12 (by decide) ?_
    refine g_tableIn cx 118 d_X11_told_22 (by decide) (by decide) rfl (by decide) ?_
    refine g_aload_n cx 1 rfl d_X11_told_118 ?_
    refine g_get cx cl_X11 fl_X11_331 0 (.int (F 48)) d_X11_told_119 rfl rfl ?_
    refine g_toi 100 (h48) ?_
    exact hret d_X11_told_122 (Nat.le_of_ble_eq_true rfl) (Nat.le_of_ble_eq_true rfl) rfl (by show (_ : Int32) = _; decide)
  · refine g_iload_n cx 1 rfl d_X11_told_0 ?_
    refine g_bipush cx 10 (by decide) d_X11_told_1 ?_
    refine g_irem cx (by decide) d_X11_told_3 ?_
    refine g_toi 4 (by decide) ?_
    refine g_istore_n cx [(2, .int 4), (0, .ref (ad 0)), (1, .int 4)] d_X11_told_4 (by decide) rfl ?_
    refine g_iload_n cx 2 rfl d_X11_told_5 ?_
    refine g_bipush cx 10 (by decide) d_X11_told_6 ?_
    refine g_icmp_ge_f cx 15 d_X11_told_8 (by decide) (by decide) ?_
    refine g_iload_n cx 2 rfl d_X11_told_11 ?_
    refine g_goto cx 22 d_X11_told_12 (by decide) ?_
    refine g_tableIn cx 123 d_X11_told_22 (by decide) (by decide) rfl (by decide) ?_
    refine g_aload_n cx 1 rfl d_X11_told_123 ?_
    refine g_iconst cx 1 (by decide) d_X11_told_124 ?_
    refine g_cViW cx [.int 1] [] (c_X11_stateBits l X ad F R 1 h42) ml_X11_416 yV_X11_stateBits d_X11_told_125 (by unfold g_rr; decide) (by decide) 0 rfl rfl rfl (Nat.le_of_ble_eq_true rfl) (fun r10 w11 h12 => ?_)
    obtain ⟨rfl, rfl⟩ := h12
    exact hret d_X11_told_128 (Nat.le_of_ble_eq_true rfl) (Nat.le_of_ble_eq_true rfl) rfl (by show (_ : Int32) = _; decide)
  · refine g_iload_n cx 1 rfl d_X11_told_0 ?_
    refine g_bipush cx 10 (by decide) d_X11_told_1 ?_
    refine g_irem cx (by decide) d_X11_told_3 ?_
    refine g_toi 5 (by decide) ?_
    refine g_istore_n cx [(2, .int 5), (0, .ref (ad 0)), (1, .int 5)] d_X11_told_4 (by decide) rfl ?_
    refine g_iload_n cx 2 rfl d_X11_told_5 ?_
    refine g_bipush cx 10 (by decide) d_X11_told_6 ?_
    refine g_icmp_ge_f cx 15 d_X11_told_8 (by decide) (by decide) ?_
    refine g_iload_n cx 2 rfl d_X11_told_11 ?_
    refine g_goto cx 22 d_X11_told_12 (by decide) ?_
    refine g_tableIn cx 129 d_X11_told_22 (by decide) (by decide) rfl (by decide) ?_
    refine g_aload_n cx 1 rfl d_X11_told_129 ?_
    refine g_iconst cx 2 (by decide) d_X11_told_130 ?_
    refine g_cViW cx [.int 2] [] (c_X11_stateBits l X ad F R 2 h42) ml_X11_416 yV_X11_stateBits d_X11_told_131 (by unfold g_rr; decide) (by decide) 0 rfl rfl rfl (Nat.le_of_ble_eq_true rfl) (fun r13 w14 h15 => ?_)
    obtain ⟨rfl, rfl⟩ := h15
    exact hret d_X11_told_134 (Nat.le_of_ble_eq_true rfl) (Nat.le_of_ble_eq_true rfl) rfl (by show (_ : Int32) = _; decide)
  · refine g_iload_n cx 1 rfl d_X11_told_0 ?_
    refine g_bipush cx 10 (by decide) d_X11_told_1 ?_
    refine g_irem cx (by decide) d_X11_told_3 ?_
    refine g_toi 6 (by decide) ?_
    refine g_istore_n cx [(2, .int 6), (0, .ref (ad 0)), (1, .int 6)] d_X11_told_4 (by decide) rfl ?_
    refine g_iload_n cx 2 rfl d_X11_told_5 ?_
    refine g_bipush cx 10 (by decide) d_X11_told_6 ?_
    refine g_icmp_ge_f cx 15 d_X11_told_8 (by decide) (by decide) ?_
    refine g_iload_n cx 2 rfl d_X11_told_11 ?_
    refine g_goto cx 22 d_X11_told_12 (by decide) ?_
    refine g_tableIn cx 135 d_X11_told_22 (by decide) (by decide) rfl (by decide) ?_
    refine g_aload_n cx 1 rfl d_X11_told_135 ?_
    refine g_get cx cl_X11 fl_X11_334 0 (.int (F 65)) d_X11_told_136 rfl rfl ?_
    refine g_toi 0 (h65) ?_
    exact hret d_X11_told_139 (Nat.le_of_ble_eq_true rfl) (Nat.le_of_ble_eq_true rfl) rfl (by show (_ : Int32) = _; decide)
  · refine g_iload_n cx 1 rfl d_X11_told_0 ?_
    refine g_bipush cx 10 (by decide) d_X11_told_1 ?_
    refine g_irem cx (by decide) d_X11_told_3 ?_
    refine g_toi 7 (by decide) ?_
    refine g_istore_n cx [(2, .int 7), (0, .ref (ad 0)), (1, .int 7)] d_X11_told_4 (by decide) rfl ?_
    refine g_iload_n cx 2 rfl d_X11_told_5 ?_
    refine g_bipush cx 10 (by decide) d_X11_told_6 ?_
    refine g_icmp_ge_f cx 15 d_X11_told_8 (by decide) (by decide) ?_
    refine g_iload_n cx 2 rfl d_X11_told_11 ?_
    refine g_goto cx 22 d_X11_told_12 (by decide) ?_
    refine g_tableIn cx 140 d_X11_told_22 (by decide) (by decide) rfl (by decide) ?_
    refine g_aload_n cx 1 rfl d_X11_told_140 ?_
    refine g_get cx cl_X11 fl_X11_337 0 (.int (F 66)) d_X11_told_141 rfl rfl ?_
    refine g_toi 0 (h66) ?_
    exact hret d_X11_told_144 (Nat.le_of_ble_eq_true rfl) (Nat.le_of_ble_eq_true rfl) rfl (by show (_ : Int32) = _; decide)
  · refine g_iload_n cx 1 rfl d_X11_told_0 ?_
    refine g_bipush cx 10 (by decide) d_X11_told_1 ?_
    refine g_irem cx (by decide) d_X11_told_3 ?_
    refine g_toi 8 (by decide) ?_
    refine g_istore_n cx [(2, .int 8), (0, .ref (ad 0)), (1, .int 8)] d_X11_told_4 (by decide) rfl ?_
    refine g_iload_n cx 2 rfl d_X11_told_5 ?_
    refine g_bipush cx 10 (by decide) d_X11_told_6 ?_
    refine g_icmp_ge_f cx 15 d_X11_told_8 (by decide) (by decide) ?_
    refine g_iload_n cx 2 rfl d_X11_told_11 ?_
    refine g_goto cx 22 d_X11_told_12 (by decide) ?_
    refine g_tableIn cx 145 d_X11_told_22 (by decide) (by decide) rfl (by decide) ?_
    refine g_aload_n cx 1 rfl d_X11_told_145 ?_
    refine g_get cx cl_X11 fl_X11_340 0 (.int (F 67)) d_X11_told_146 rfl rfl ?_
    refine g_toi 0 (h67) ?_
    exact hret d_X11_told_149 (Nat.le_of_ble_eq_true rfl) (Nat.le_of_ble_eq_true rfl) rfl (by show (_ : Int32) = _; decide)
def g_ask (x : Int32) : Int32 := if g_in x 0 8 = 0 then 0 else 1
theorem g_asked {x : Int32} (h : ¬ g_ask x = 0) : ¬ g_in x 0 8 = 0 := fun e => h (by unfold g_ask; rw [if_pos e])
theorem g_asked' {x : Int32} (h : g_ask x = 0) : g_in x 0 8 = 0 := by
  unfold g_ask at h
  split at h
  · assumption
  · exact absurd h (by decide)
theorem d_X11_isAsked_0 : g_dc cX11_isAsked 0 (.iload_n 1) 1 1 := ⟨by decide +kernel, rfl⟩
theorem d_X11_isAsked_1 : g_dc cX11_isAsked 1 (.iconst 0) 1 2 := ⟨by decide +kernel, rfl⟩
theorem d_X11_isAsked_2 : g_dc cX11_isAsked 2 (.bipush 8) 2 4 := ⟨by decide +kernel, rfl⟩
theorem d_X11_isAsked_4 : g_dc cX11_isAsked 4 (.invokestatic 165) 3 7 := ⟨by decide +kernel, rfl⟩
theorem d_X11_isAsked_7 : g_dc cX11_isAsked 7 (.ifCond .ne 25) 3 10 := ⟨by decide +kernel, rfl⟩
theorem d_X11_isAsked_10 : g_dc cX11_isAsked 10 (.iload_n 1) 1 11 := ⟨by decide +kernel, rfl⟩
theorem d_X11_isAsked_11 : g_dc cX11_isAsked 11 (.bipush 10) 2 13 := ⟨by decide +kernel, rfl⟩
theorem d_X11_isAsked_13 : g_dc cX11_isAsked 13 (.bipush 69) 2 15 := ⟨by decide +kernel, rfl⟩
theorem d_X11_isAsked_15 : g_dc cX11_isAsked 15 (.invokestatic 165) 3 18 := ⟨by decide +kernel, rfl⟩
theorem d_X11_isAsked_18 : g_dc cX11_isAsked 18 (.ifCond .eq 18) 3 21 := ⟨by decide +kernel, rfl⟩
theorem d_X11_isAsked_21 : g_dc cX11_isAsked 21 (.aload_n 0) 1 22 := ⟨by decide +kernel, rfl⟩
theorem d_X11_isAsked_22 : g_dc cX11_isAsked 22 (.iload_n 1) 1 23 := ⟨by decide +kernel, rfl⟩
theorem d_X11_isAsked_23 : g_dc cX11_isAsked 23 (.bipush 10) 2 25 := ⟨by decide +kernel, rfl⟩
theorem d_X11_isAsked_25 : g_dc cX11_isAsked 25 (.irem) 1 26 := ⟨by decide +kernel, rfl⟩
theorem d_X11_isAsked_26 : g_dc cX11_isAsked 26 (.invokevirtual 179) 3 29 := ⟨by decide +kernel, rfl⟩
theorem d_X11_isAsked_29 : g_dc cX11_isAsked 29 (.ifCond .eq 7) 3 32 := ⟨by decide +kernel, rfl⟩
theorem d_X11_isAsked_32 : g_dc cX11_isAsked 32 (.iconst 1) 1 33 := ⟨by decide +kernel, rfl⟩
theorem d_X11_isAsked_33 : g_dc cX11_isAsked 33 (.goto 4) 3 36 := ⟨by decide +kernel, rfl⟩
theorem d_X11_isAsked_36 : g_dc cX11_isAsked 36 (.iconst 0) 1 37 := ⟨by decide +kernel, rfl⟩
theorem d_X11_isAsked_37 : g_dc cX11_isAsked 37 (.ireturn) 1 38 := ⟨by decide +kernel, rfl⟩
set_option maxHeartbeats 4000000 in
set_option maxRecDepth 100000 in
theorem c_X11_isAsked (l : Launch) (X : gX) (ad : Nat → Nat) (F : Nat → Int32) (R : Nat → Nat → Int32) (what : Int32) (h4 : F 4 = 0) : g_Ci l X yX11_isAsked cX11_isAsked 2 (some .boolean) 3 0 0 [.ref (ad 0), .int what] (wM X ad F R) (fun r w => w = wM X ad F R ∧ r = g_ask what) := by
  refine g_mi (by decide +kernel) (Nat.le_of_ble_eq_true rfl) (fun E cx hret => ?_)
  refine g_iload_n cx 1 rfl d_X11_isAsked_0 ?_
  refine g_iconst cx 0 (by decide) d_X11_isAsked_1 ?_
  refine g_bipush cx 8 (by decide) d_X11_isAsked_2 ?_
  refine g_cSiW cx [.int what, .int 0, .int 8] [] (c_X11_in l X _ what 0 8) ml_X11_165 yS_X11_in rfl d_X11_isAsked_4 (by unfold g_rr; decide) (by decide) rfl (Nat.le_of_ble_eq_true rfl) (fun r1 w2 h3 => ?_)
  obtain ⟨rfl, rfl⟩ := h3
  refine g_if_ne cx 32 d_X11_isAsked_7 (by decide) (fun zc7 => ?_) (fun zc7 => ?_)
  · refine g_iconst cx 1 (by decide) d_X11_isAsked_32 ?_
    refine g_goto cx 37 d_X11_isAsked_33 (by decide) ?_
    exact hret d_X11_isAsked_37 (Nat.le_of_ble_eq_true rfl) (Nat.le_of_ble_eq_true rfl) rfl (⟨rfl, by simp [g_ask, *]⟩)
  · refine g_iload_n cx 1 rfl d_X11_isAsked_10 ?_
    refine g_bipush cx 10 (by decide) d_X11_isAsked_11 ?_
    refine g_bipush cx 69 (by decide) d_X11_isAsked_13 ?_
    refine g_cSiW cx [.int what, .int 10, .int 69] [] (c_X11_in l X _ what 10 69) ml_X11_165 yS_X11_in rfl d_X11_isAsked_15 (by unfold g_rr; decide) (by decide) rfl (Nat.le_of_ble_eq_true rfl) (fun r4 w5 h6 => ?_)
    obtain ⟨rfl, rfl⟩ := h6
    refine g_if_eq cx 36 d_X11_isAsked_18 (by decide) (fun zc18 => ?_) (fun zc18 => ?_)
    · refine g_iconst cx 0 (by decide) d_X11_isAsked_36 ?_
      exact hret d_X11_isAsked_37 (Nat.le_of_ble_eq_true rfl) (Nat.le_of_ble_eq_true rfl) rfl (⟨rfl, by simp [g_ask, *]⟩)
    · refine g_aload_n cx 0 rfl d_X11_isAsked_21 ?_
      refine g_iload_n cx 1 rfl d_X11_isAsked_22 ?_
      refine g_bipush cx 10 (by decide) d_X11_isAsked_23 ?_
      refine g_irem cx (by decide) d_X11_isAsked_25 ?_
      refine g_cViW cx [.int (what - what / 10 * 10)] [] (c_X11_isTold l X ad F R (what - what / 10 * 10) h4) ml_X11_179 yV_X11_isTold d_X11_isAsked_26 (by unfold g_rr; decide) (by decide) 0 rfl rfl rfl (Nat.le_of_ble_eq_true rfl) (fun r7 w8 h9 => ?_)
      obtain ⟨rfl, rfl⟩ := h9
      refine g_if_eq_t cx 36 d_X11_isAsked_29 (by decide) (by decide) ?_
      refine g_iconst cx 0 (by decide) d_X11_isAsked_36 ?_
      exact hret d_X11_isAsked_37 (Nat.le_of_ble_eq_true rfl) (Nat.le_of_ble_eq_true rfl) rfl (⟨rfl, by simp [g_ask, *]⟩)
theorem d_X11_tried_0 : g_dc cX11_tried 0 (.aload_n 0) 1 1 := ⟨by decide +kernel, rfl⟩
theorem d_X11_tried_1 : g_dc cX11_tried 1 (.iload_n 1) 1 2 := ⟨by decide +kernel, rfl⟩
theorem d_X11_tried_2 : g_dc cX11_tried 2 (.invokevirtual 431) 3 5 := ⟨by decide +kernel, rfl⟩
theorem d_X11_tried_5 : g_dc cX11_tried 5 (.ifCond .ne 5) 3 8 := ⟨by decide +kernel, rfl⟩
theorem d_X11_tried_8 : g_dc cX11_tried 8 (.iconst (-1)) 1 9 := ⟨by decide +kernel, rfl⟩
theorem d_X11_tried_9 : g_dc cX11_tried 9 (.ireturn) 1 10 := ⟨by decide +kernel, rfl⟩
theorem d_X11_tried_10 : g_dc cX11_tried 10 (.aload_n 0) 1 11 := ⟨by decide +kernel, rfl⟩
theorem d_X11_tried_11 : g_dc cX11_tried 11 (.getfield 162) 3 14 := ⟨by decide +kernel, rfl⟩
theorem d_X11_tried_14 : g_dc cX11_tried 14 (.istore_n 2) 1 15 := ⟨by decide +kernel, rfl⟩
theorem d_X11_tried_15 : g_dc cX11_tried 15 (.aload_n 0) 1 16 := ⟨by decide +kernel, rfl⟩
theorem d_X11_tried_16 : g_dc cX11_tried 16 (.invokevirtual 434) 3 19 := ⟨by decide +kernel, rfl⟩
theorem d_X11_tried_19 : g_dc cX11_tried 19 (.aload_n 0) 1 20 := ⟨by decide +kernel, rfl⟩
theorem d_X11_tried_20 : g_dc cX11_tried 20 (.iload_n 2) 1 21 := ⟨by decide +kernel, rfl⟩
theorem d_X11_tried_21 : g_dc cX11_tried 21 (.putfield 162) 3 24 := ⟨by decide +kernel, rfl⟩
theorem d_X11_tried_24 : g_dc cX11_tried 24 (.aload_n 0) 1 25 := ⟨by decide +kernel, rfl⟩
theorem d_X11_tried_25 : g_dc cX11_tried 25 (.iload_n 1) 1 26 := ⟨by decide +kernel, rfl⟩
theorem d_X11_tried_26 : g_dc cX11_tried 26 (.invokevirtual 437) 3 29 := ⟨by decide +kernel, rfl⟩
theorem d_X11_tried_29 : g_dc cX11_tried 29 (.ireturn) 1 30 := ⟨by decide +kernel, rfl⟩
set_option maxHeartbeats 4000000 in
set_option maxRecDepth 100000 in
theorem c_X11_tried (l : Launch) (X : gX) (ad : Nat → Nat) (a : Int32) : g_Ci l X yX11_tried cX11_tried 3 (some .int) 7 0 0 [.ref (ad 0), .int a] (wM X ad fM0 r0) (fun r _ => r = g_st a) := by
  refine g_mi (by decide +kernel) (Nat.le_of_ble_eq_true rfl) (fun E cx hret => ?_)
  refine g_aload_n cx 0 rfl d_X11_tried_0 ?_
  refine g_iload_n cx 1 rfl d_X11_tried_1 ?_
  refine g_cViW cx [.int a] [] (c_X11_isAsked l X ad fM0 r0 a rfl) ml_X11_431 yV_X11_isAsked d_X11_tried_2 (by unfold g_rr; decide) (by decide) 0 rfl rfl rfl (Nat.le_of_ble_eq_true rfl) (fun r1 w2 h3 => ?_)
  obtain ⟨rfl, rfl⟩ := h3
  refine g_if_ne cx 10 d_X11_tried_5 (by decide) (fun zc5 => ?_) (fun zc5 => ?_)
  · refine g_aload_n cx 0 rfl d_X11_tried_10 ?_
    refine g_get cx cl_X11 fl_X11_162 0 (.int 1) d_X11_tried_11 rfl rfl ?_
    refine g_istore_n cx [(2, .int 1), (0, .ref (ad 0)), (1, .int a)] d_X11_tried_14 (by decide) rfl ?_
    refine g_aload_n cx 1 rfl d_X11_tried_15 ?_
    refine g_cVvW cx [] [] (c_X11_runsDrawn l X ad) ml_X11_434 yV_X11_runsDrawn d_X11_tried_16 (by unfold g_rr; decide) (by decide) 0 rfl rfl rfl (Nat.le_of_ble_eq_true rfl) (fun w5 h6 => ?_)
    obtain ⟨zF7, zR8, rfl, zp9⟩ := h6
    refine g_aload_n cx 1 rfl d_X11_tried_19 ?_
    refine g_iload_n cx 0 rfl d_X11_tried_20 ?_
    refine g_put cx cl_X11 fl_X11_162 0 (wM X ad (upd zF7 3 1) zR8) d_X11_tried_21 rfl rfl rfl rfl (Nat.le_of_ble_eq_true rfl) rfl ?_
    refine g_aload_n cx 1 rfl d_X11_tried_24 ?_
    refine g_iload_n cx 2 rfl d_X11_tried_25 ?_
    refine g_cViW cx [.int a] [] (c_X11_told l X ad (upd zF7 3 1) zR8 a (g_asked zc5) zp9.1 zp9.2.1 zp9.2.2.1 zp9.2.2.2.1 zp9.2.2.2.2.1 zp9.2.2.2.2.2) ml_X11_437 yV_X11_told d_X11_tried_26 (by unfold g_rr; decide) (by decide) 0 rfl rfl rfl (Nat.le_of_ble_eq_true rfl) (fun r10 w11 h12 => ?_)
    subst h12
    exact hret d_X11_tried_29 (Nat.le_of_ble_eq_true rfl) (Nat.le_of_ble_eq_true rfl) rfl rfl
  · refine g_iconst cx (-1) (by decide) d_X11_tried_8 ?_
    exact hret d_X11_tried_9 (Nat.le_of_ble_eq_true rfl) (Nat.le_of_ble_eq_true rfl) rfl (by show _ = g_st a; exact (g_st_no (g_asked' (by assumption))).symm)
theorem d_X11_still_0 : g_dc cX11_still 0 (.aload_n 0) 1 1 := ⟨by decide +kernel, rfl⟩
theorem d_X11_still_1 : g_dc cX11_still 1 (.iload_n 1) 1 2 := ⟨by decide +kernel, rfl⟩
theorem d_X11_still_2 : g_dc cX11_still 2 (.invokevirtual 431) 3 5 := ⟨by decide +kernel, rfl⟩
theorem d_X11_still_5 : g_dc cX11_still 5 (.ifCond .ne 5) 3 8 := ⟨by decide +kernel, rfl⟩
theorem d_X11_still_8 : g_dc cX11_still 8 (.iconst (-1)) 1 9 := ⟨by decide +kernel, rfl⟩
theorem d_X11_still_9 : g_dc cX11_still 9 (.ireturn) 1 10 := ⟨by decide +kernel, rfl⟩
theorem d_X11_still_10 : g_dc cX11_still 10 (.aload_n 0) 1 11 := ⟨by decide +kernel, rfl⟩
theorem d_X11_still_11 : g_dc cX11_still 11 (.invokevirtual 440) 3 14 := ⟨by decide +kernel, rfl⟩
theorem d_X11_still_14 : g_dc cX11_still 14 (.aload_n 0) 1 15 := ⟨by decide +kernel, rfl⟩
theorem d_X11_still_15 : g_dc cX11_still 15 (.iload_n 1) 1 16 := ⟨by decide +kernel, rfl⟩
theorem d_X11_still_16 : g_dc cX11_still 16 (.invokevirtual 437) 3 19 := ⟨by decide +kernel, rfl⟩
theorem d_X11_still_19 : g_dc cX11_still 19 (.ireturn) 1 20 := ⟨by decide +kernel, rfl⟩
set_option maxHeartbeats 4000000 in
set_option maxRecDepth 100000 in
theorem c_X11_still (l : Launch) (X : gX) (ad : Nat → Nat) (a : Int32) : g_Ci l X yX11_still cX11_still 2 (some .int) 7 0 0 [.ref (ad 0), .int a] (wM X ad fM0 r0) (fun r _ => r = g_st a) := by
  refine g_mi (by decide +kernel) (Nat.le_of_ble_eq_true rfl) (fun E cx hret => ?_)
  refine g_aload_n cx 0 rfl d_X11_still_0 ?_
  refine g_iload_n cx 1 rfl d_X11_still_1 ?_
  refine g_cViW cx [.int a] [] (c_X11_isAsked l X ad fM0 r0 a rfl) ml_X11_431 yV_X11_isAsked d_X11_still_2 (by unfold g_rr; decide) (by decide) 0 rfl rfl rfl (Nat.le_of_ble_eq_true rfl) (fun r1 w2 h3 => ?_)
  obtain ⟨rfl, rfl⟩ := h3
  refine g_if_ne cx 10 d_X11_still_5 (by decide) (fun zc5 => ?_) (fun zc5 => ?_)
  · refine g_aload_n cx 0 rfl d_X11_still_10 ?_
    refine g_cVvW cx [] [] (c_X11_runsStill l X ad) ml_X11_440 yV_X11_runsStill d_X11_still_11 (by unfold g_rr; decide) (by decide) 0 rfl rfl rfl (Nat.le_of_ble_eq_true rfl) (fun w5 h6 => ?_)
    obtain ⟨zF7, zR8, rfl, zp9⟩ := h6
    refine g_aload_n cx 0 rfl d_X11_still_14 ?_
    refine g_iload_n cx 1 rfl d_X11_still_15 ?_
    refine g_cViW cx [.int a] [] (c_X11_told l X ad zF7 zR8 a (g_asked zc5) zp9.1 zp9.2.1 zp9.2.2.1 zp9.2.2.2.1 zp9.2.2.2.2.1 zp9.2.2.2.2.2) ml_X11_437 yV_X11_told d_X11_still_16 (by unfold g_rr; decide) (by decide) 0 rfl rfl rfl (Nat.le_of_ble_eq_true rfl) (fun r10 w11 h12 => ?_)
    subst h12
    exact hret d_X11_still_19 (Nat.le_of_ble_eq_true rfl) (Nat.le_of_ble_eq_true rfl) rfl rfl
  · refine g_iconst cx (-1) (by decide) d_X11_still_8 ?_
    exact hret d_X11_still_9 (Nat.le_of_ble_eq_true rfl) (Nat.le_of_ble_eq_true rfl) rfl (by show _ = g_st a; exact (g_st_no (g_asked' (by assumption))).symm)
theorem d_X11_table_0 : g_dc cX11_table 0 (.iload_n 1) 1 1 := ⟨by decide +kernel, rfl⟩
theorem d_X11_table_1 : g_dc cX11_table 1 (.bipush 10) 2 3 := ⟨by decide +kernel, rfl⟩
theorem d_X11_table_3 : g_dc cX11_table 3 (.sipush 200) 3 6 := ⟨by decide +kernel, rfl⟩
theorem d_X11_table_6 : g_dc cX11_table 6 (.invokestatic 165) 3 9 := ⟨by decide +kernel, rfl⟩
theorem d_X11_table_9 : g_dc cX11_table 9 (.ifCond .eq 13) 3 12 := ⟨by decide +kernel, rfl⟩
theorem d_X11_table_12 : g_dc cX11_table 12 (.iload_n 2) 1 13 := ⟨by decide +kernel, rfl⟩
theorem d_X11_table_13 : g_dc cX11_table 13 (.iconst 0) 1 14 := ⟨by decide +kernel, rfl⟩
theorem d_X11_table_14 : g_dc cX11_table 14 (.bipush 63) 2 16 := ⟨by decide +kernel, rfl⟩
theorem d_X11_table_16 : g_dc cX11_table 16 (.invokestatic 165) 3 19 := ⟨by decide +kernel, rfl⟩
theorem d_X11_table_19 : g_dc cX11_table 19 (.ifCond .ne 5) 3 22 := ⟨by decide +kernel, rfl⟩
theorem d_X11_table_22 : g_dc cX11_table 22 (.iconst 0) 1 23 := ⟨by decide +kernel, rfl⟩
theorem d_X11_table_23 : g_dc cX11_table 23 (.ireturn) 1 24 := ⟨by decide +kernel, rfl⟩
theorem d_X11_table_24 : g_dc cX11_table 24 (.aload_n 0) 1 25 := ⟨by decide +kernel, rfl⟩
theorem d_X11_table_25 : g_dc cX11_table 25 (.iload_n 1) 1 26 := ⟨by decide +kernel, rfl⟩
theorem d_X11_table_26 : g_dc cX11_table 26 (.putfield 155) 3 29 := ⟨by decide +kernel, rfl⟩
theorem d_X11_table_29 : g_dc cX11_table 29 (.aload_n 0) 1 30 := ⟨by decide +kernel, rfl⟩
theorem d_X11_table_30 : g_dc cX11_table 30 (.iload_n 1) 1 31 := ⟨by decide +kernel, rfl⟩
theorem d_X11_table_31 : g_dc cX11_table 31 (.putfield 159) 3 34 := ⟨by decide +kernel, rfl⟩
theorem d_X11_table_34 : g_dc cX11_table 34 (.aload_n 0) 1 35 := ⟨by decide +kernel, rfl⟩
theorem d_X11_table_35 : g_dc cX11_table 35 (.iload_n 2) 1 36 := ⟨by decide +kernel, rfl⟩
theorem d_X11_table_36 : g_dc cX11_table 36 (.putfield 169) 3 39 := ⟨by decide +kernel, rfl⟩
theorem d_X11_table_39 : g_dc cX11_table 39 (.aload_n 0) 1 40 := ⟨by decide +kernel, rfl⟩
theorem d_X11_table_40 : g_dc cX11_table 40 (.iconst 0) 1 41 := ⟨by decide +kernel, rfl⟩
theorem d_X11_table_41 : g_dc cX11_table 41 (.putfield 172) 3 44 := ⟨by decide +kernel, rfl⟩
theorem d_X11_table_44 : g_dc cX11_table 44 (.iconst 1) 1 45 := ⟨by decide +kernel, rfl⟩
theorem d_X11_table_45 : g_dc cX11_table 45 (.ireturn) 1 46 := ⟨by decide +kernel, rfl⟩
set_option maxHeartbeats 4000000 in
set_option maxRecDepth 100000 in
theorem c_X11_table (l : Launch) (X : gX) (ad : Nat → Nat) (a b : Int32) : g_Ci l X yX11_table cX11_table 3 (some .boolean) 2 0 0 [.ref (ad 0), .int a, .int b] (wM X ad fM0 r0) (fun r _ => r = S_table a b) := by
  refine g_mi (by decide +kernel) (Nat.le_of_ble_eq_true rfl) (fun E cx hret => ?_)
  refine g_iload_n cx 1 rfl d_X11_table_0 ?_
  refine g_bipush cx 10 (by decide) d_X11_table_1 ?_
  refine g_sipush cx 200 (by decide) d_X11_table_3 ?_
  refine g_cSiW cx [.int a, .int 10, .int 200] [] (c_X11_in l X _ a 10 200) ml_X11_165 yS_X11_in rfl d_X11_table_6 (by unfold g_rr; decide) (by decide) rfl (Nat.le_of_ble_eq_true rfl) (fun r1 w2 h3 => ?_)
  obtain ⟨rfl, rfl⟩ := h3
  refine g_if_eq cx 22 d_X11_table_9 (by decide) (fun zc9 => ?_) (fun zc9 => ?_)
  · refine g_iconst cx 0 (by decide) d_X11_table_22 ?_
    exact hret d_X11_table_23 (Nat.le_of_ble_eq_true rfl) (Nat.le_of_ble_eq_true rfl) rfl (by simp [S_table, *])
  · refine g_iload_n cx 2 rfl d_X11_table_12 ?_
    refine g_iconst cx 0 (by decide) d_X11_table_13 ?_
    refine g_bipush cx 63 (by decide) d_X11_table_14 ?_
    refine g_cSiW cx [.int b, .int 0, .int 63] [] (c_X11_in l X _ b 0 63) ml_X11_165 yS_X11_in rfl d_X11_table_16 (by unfold g_rr; decide) (by decide) rfl (Nat.le_of_ble_eq_true rfl) (fun r4 w5 h6 => ?_)
    obtain ⟨rfl, rfl⟩ := h6
    refine g_if_ne cx 24 d_X11_table_19 (by decide) (fun zc19 => ?_) (fun zc19 => ?_)
    · refine g_aload_n cx 0 rfl d_X11_table_24 ?_
      refine g_iload_n cx 1 rfl d_X11_table_25 ?_
      refine g_put cx cl_X11 fl_X11_155 0 (wM X ad (upd fM0 0 a) r0) d_X11_table_26 rfl rfl rfl rfl (Nat.le_of_ble_eq_true rfl) rfl ?_
      refine g_aload_n cx 0 rfl d_X11_table_29 ?_
      refine g_iload_n cx 1 rfl d_X11_table_30 ?_
      refine g_put cx cl_X11 fl_X11_159 0 (wM X ad (upd (upd fM0 0 a) 1 a) r0) d_X11_table_31 rfl rfl rfl rfl (Nat.le_of_ble_eq_true rfl) rfl ?_
      refine g_aload_n cx 0 rfl d_X11_table_34 ?_
      refine g_iload_n cx 2 rfl d_X11_table_35 ?_
      refine g_put cx cl_X11 fl_X11_169 0 (wM X ad (upd (upd (upd fM0 0 a) 1 a) 2 b) r0) d_X11_table_36 rfl rfl rfl rfl (Nat.le_of_ble_eq_true rfl) rfl ?_
      refine g_aload_n cx 0 rfl d_X11_table_39 ?_
      refine g_iconst cx 0 (by decide) d_X11_table_40 ?_
      refine g_put cx cl_X11 fl_X11_172 0 (wM X ad (upd (upd (upd (upd fM0 0 a) 1 a) 2 b) 4 0) r0) d_X11_table_41 rfl rfl rfl rfl (Nat.le_of_ble_eq_true rfl) rfl ?_
      refine g_iconst cx 1 (by decide) d_X11_table_44 ?_
      exact hret d_X11_table_45 (Nat.le_of_ble_eq_true rfl) (Nat.le_of_ble_eq_true rfl) rfl (by simp [S_table, *])
    · refine g_iconst cx 0 (by decide) d_X11_table_22 ?_
      exact hret d_X11_table_23 (Nat.le_of_ble_eq_true rfl) (Nat.le_of_ble_eq_true rfl) rfl (by simp [S_table, *])
theorem d_X11_cloth_0 : g_dc cX11_cloth 0 (.iload_n 1) 1 1 := ⟨by decide +kernel, rfl⟩
theorem d_X11_cloth_1 : g_dc cX11_cloth 1 (.iconst 0) 1 2 := ⟨by decide +kernel, rfl⟩
theorem d_X11_cloth_2 : g_dc cX11_cloth 2 (.aload_n 0) 1 3 := ⟨by decide +kernel, rfl⟩
theorem d_X11_cloth_3 : g_dc cX11_cloth 3 (.getfield 155) 3 6 := ⟨by decide +kernel, rfl⟩
theorem d_X11_cloth_6 : g_dc cX11_cloth 6 (.invokestatic 165) 3 9 := ⟨by decide +kernel, rfl⟩
theorem d_X11_cloth_9 : g_dc cX11_cloth 9 (.ifCond .ne 5) 3 12 := ⟨by decide +kernel, rfl⟩
theorem d_X11_cloth_12 : g_dc cX11_cloth 12 (.iconst 0) 1 13 := ⟨by decide +kernel, rfl⟩
theorem d_X11_cloth_13 : g_dc cX11_cloth 13 (.ireturn) 1 14 := ⟨by decide +kernel, rfl⟩
theorem d_X11_cloth_14 : g_dc cX11_cloth 14 (.aload_n 0) 1 15 := ⟨by decide +kernel, rfl⟩
theorem d_X11_cloth_15 : g_dc cX11_cloth 15 (.iload_n 1) 1 16 := ⟨by decide +kernel, rfl⟩
theorem d_X11_cloth_16 : g_dc cX11_cloth 16 (.putfield 159) 3 19 := ⟨by decide +kernel, rfl⟩
theorem d_X11_cloth_19 : g_dc cX11_cloth 19 (.iconst 1) 1 20 := ⟨by decide +kernel, rfl⟩
theorem d_X11_cloth_20 : g_dc cX11_cloth 20 (.ireturn) 1 21 := ⟨by decide +kernel, rfl⟩
set_option maxHeartbeats 4000000 in
set_option maxRecDepth 100000 in
theorem c_X11_cloth (l : Launch) (X : gX) (ad : Nat → Nat) (a : Int32) : g_Ci l X yX11_cloth cX11_cloth 2 (some .boolean) 2 0 0 [.ref (ad 0), .int a] (wM X ad fM0 r0) (fun r _ => r = S_cloth a) := by
  refine g_mi (by decide +kernel) (Nat.le_of_ble_eq_true rfl) (fun E cx hret => ?_)
  refine g_iload_n cx 1 rfl d_X11_cloth_0 ?_
  refine g_iconst cx 0 (by decide) d_X11_cloth_1 ?_
  refine g_aload_n cx 0 rfl d_X11_cloth_2 ?_
  refine g_get cx cl_X11 fl_X11_155 0 (.int 100) d_X11_cloth_3 rfl rfl ?_
  refine g_cSiW cx [.int a, .int 0, .int 100] [] (c_X11_in l X _ a 0 100) ml_X11_165 yS_X11_in rfl d_X11_cloth_6 (by unfold g_rr; decide) (by decide) rfl (Nat.le_of_ble_eq_true rfl) (fun r1 w2 h3 => ?_)
  obtain ⟨rfl, rfl⟩ := h3
  refine g_if_ne cx 14 d_X11_cloth_9 (by decide) (fun zc9 => ?_) (fun zc9 => ?_)
  · refine g_aload_n cx 0 rfl d_X11_cloth_14 ?_
    refine g_iload_n cx 1 rfl d_X11_cloth_15 ?_
    refine g_put cx cl_X11 fl_X11_159 0 (wM X ad (upd fM0 1 a) r0) d_X11_cloth_16 rfl rfl rfl rfl (Nat.le_of_ble_eq_true rfl) rfl ?_
    refine g_iconst cx 1 (by decide) d_X11_cloth_19 ?_
    exact hret d_X11_cloth_20 (Nat.le_of_ble_eq_true rfl) (Nat.le_of_ble_eq_true rfl) rfl (by simp [S_cloth, *])
  · refine g_iconst cx 0 (by decide) d_X11_cloth_12 ?_
    exact hret d_X11_cloth_13 (Nat.le_of_ble_eq_true rfl) (Nat.le_of_ble_eq_true rfl) rfl (by simp [S_cloth, *])
theorem d_X11_thing_0 : g_dc cX11_thing 0 (.iload_n 1) 1 1 := ⟨by decide +kernel, rfl⟩
theorem d_X11_thing_1 : g_dc cX11_thing 1 (.iconst 0) 1 2 := ⟨by decide +kernel, rfl⟩
theorem d_X11_thing_2 : g_dc cX11_thing 2 (.bipush 9) 2 4 := ⟨by decide +kernel, rfl⟩
theorem d_X11_thing_4 : g_dc cX11_thing 4 (.invokestatic 165) 3 7 := ⟨by decide +kernel, rfl⟩
theorem d_X11_thing_7 : g_dc cX11_thing 7 (.ifCond .eq 59) 3 10 := ⟨by decide +kernel, rfl⟩
theorem d_X11_thing_10 : g_dc cX11_thing 10 (.iload_n 2) 1 11 := ⟨by decide +kernel, rfl⟩
theorem d_X11_thing_11 : g_dc cX11_thing 11 (.iconst 0) 1 12 := ⟨by decide +kernel, rfl⟩
theorem d_X11_thing_12 : g_dc cX11_thing 12 (.iconst 3) 1 13 := ⟨by decide +kernel, rfl⟩
theorem d_X11_thing_13 : g_dc cX11_thing 13 (.invokestatic 165) 3 16 := ⟨by decide +kernel, rfl⟩
theorem d_X11_thing_16 : g_dc cX11_thing 16 (.ifCond .eq 50) 3 19 := ⟨by decide +kernel, rfl⟩
theorem d_X11_thing_19 : g_dc cX11_thing 19 (.iload_n 3) 1 20 := ⟨by decide +kernel, rfl⟩
theorem d_X11_thing_20 : g_dc cX11_thing 20 (.iconst 0) 1 21 := ⟨by decide +kernel, rfl⟩
theorem d_X11_thing_21 : g_dc cX11_thing 21 (.aload_n 0) 1 22 := ⟨by decide +kernel, rfl⟩
theorem d_X11_thing_22 : g_dc cX11_thing 22 (.getfield 155) 3 25 := ⟨by decide +kernel, rfl⟩
theorem d_X11_thing_25 : g_dc cX11_thing 25 (.iconst 1) 1 26 := ⟨by decide +kernel, rfl⟩
theorem d_X11_thing_26 : g_dc cX11_thing 26 (.isub) 1 27 := ⟨by decide +kernel, rfl⟩
theorem d_X11_thing_27 : g_dc cX11_thing 27 (.invokestatic 165) 3 30 := ⟨by decide +kernel, rfl⟩
theorem d_X11_thing_30 : g_dc cX11_thing 30 (.ifCond .eq 36) 3 33 := ⟨by decide +kernel, rfl⟩
theorem d_X11_thing_33 : g_dc cX11_thing 33 (.iload 4) 2 35 := ⟨by decide +kernel, rfl⟩
theorem d_X11_thing_35 : g_dc cX11_thing 35 (.iconst 1) 1 36 := ⟨by decide +kernel, rfl⟩
theorem d_X11_thing_36 : g_dc cX11_thing 36 (.bipush 40) 2 38 := ⟨by decide +kernel, rfl⟩
theorem d_X11_thing_38 : g_dc cX11_thing 38 (.invokestatic 165) 3 41 := ⟨by decide +kernel, rfl⟩
theorem d_X11_thing_41 : g_dc cX11_thing 41 (.ifCond .eq 25) 3 44 := ⟨by decide +kernel, rfl⟩
theorem d_X11_thing_44 : g_dc cX11_thing 44 (.iload 5) 2 46 := ⟨by decide +kernel, rfl⟩
theorem d_X11_thing_46 : g_dc cX11_thing 46 (.iconst 1) 1 47 := ⟨by decide +kernel, rfl⟩
theorem d_X11_thing_47 : g_dc cX11_thing 47 (.bipush 60) 2 49 := ⟨by decide +kernel, rfl⟩
theorem d_X11_thing_49 : g_dc cX11_thing 49 (.invokestatic 165) 3 52 := ⟨by decide +kernel, rfl⟩
theorem d_X11_thing_52 : g_dc cX11_thing 52 (.ifCond .eq 14) 3 55 := ⟨by decide +kernel, rfl⟩
theorem d_X11_thing_55 : g_dc cX11_thing 55 (.iload 6) 2 57 := ⟨by decide +kernel, rfl⟩
theorem d_X11_thing_57 : g_dc cX11_thing 57 (.iconst 1) 1 58 := ⟨by decide +kernel, rfl⟩
theorem d_X11_thing_58 : g_dc cX11_thing 58 (.bipush 99) 2 60 := ⟨by decide +kernel, rfl⟩
theorem d_X11_thing_60 : g_dc cX11_thing 60 (.invokestatic 165) 3 63 := ⟨by decide +kernel, rfl⟩
theorem d_X11_thing_63 : g_dc cX11_thing 63 (.ifCond .ne 5) 3 66 := ⟨by decide +kernel, rfl⟩
theorem d_X11_thing_66 : g_dc cX11_thing 66 (.iconst 0) 1 67 := ⟨by decide +kernel, rfl⟩
theorem d_X11_thing_67 : g_dc cX11_thing 67 (.ireturn) 1 68 := ⟨by decide +kernel, rfl⟩
theorem d_X11_thing_68 : g_dc cX11_thing 68 (.aload_n 0) 1 69 := ⟨by decide +kernel, rfl⟩
theorem d_X11_thing_69 : g_dc cX11_thing 69 (.aload_n 0) 1 70 := ⟨by decide +kernel, rfl⟩
theorem d_X11_thing_70 : g_dc cX11_thing 70 (.getfield 172) 3 73 := ⟨by decide +kernel, rfl⟩
theorem d_X11_thing_73 : g_dc cX11_thing 73 (.iconst 1) 1 74 := ⟨by decide +kernel, rfl⟩
theorem d_X11_thing_74 : g_dc cX11_thing 74 (.iload_n 1) 1 75 := ⟨by decide +kernel, rfl⟩
theorem d_X11_thing_75 : g_dc cX11_thing 75 (.ishl) 1 76 := ⟨by decide +kernel, rfl⟩
theorem d_X11_thing_76 : g_dc cX11_thing 76 (.ior) 1 77 := ⟨by decide +kernel, rfl⟩
theorem d_X11_thing_77 : g_dc cX11_thing 77 (.putfield 172) 3 80 := ⟨by decide +kernel, rfl⟩
theorem d_X11_thing_80 : g_dc cX11_thing 80 (.aload_n 0) 1 81 := ⟨by decide +kernel, rfl⟩
theorem d_X11_thing_81 : g_dc cX11_thing 81 (.getfield 7) 3 84 := ⟨by decide +kernel, rfl⟩
theorem d_X11_thing_84 : g_dc cX11_thing 84 (.iload_n 1) 1 85 := ⟨by decide +kernel, rfl⟩
theorem d_X11_thing_85 : g_dc cX11_thing 85 (.iload_n 2) 1 86 := ⟨by decide +kernel, rfl⟩
theorem d_X11_thing_86 : g_dc cX11_thing 86 (.iastore) 1 87 := ⟨by decide +kernel, rfl⟩
theorem d_X11_thing_87 : g_dc cX11_thing 87 (.aload_n 0) 1 88 := ⟨by decide +kernel, rfl⟩
theorem d_X11_thing_88 : g_dc cX11_thing 88 (.getfield 13) 3 91 := ⟨by decide +kernel, rfl⟩
theorem d_X11_thing_91 : g_dc cX11_thing 91 (.iload_n 1) 1 92 := ⟨by decide +kernel, rfl⟩
theorem d_X11_thing_92 : g_dc cX11_thing 92 (.iload_n 3) 1 93 := ⟨by decide +kernel, rfl⟩
theorem d_X11_thing_93 : g_dc cX11_thing 93 (.iastore) 1 94 := ⟨by decide +kernel, rfl⟩
theorem d_X11_thing_94 : g_dc cX11_thing 94 (.aload_n 0) 1 95 := ⟨by decide +kernel, rfl⟩
theorem d_X11_thing_95 : g_dc cX11_thing 95 (.getfield 16) 3 98 := ⟨by decide +kernel, rfl⟩
theorem d_X11_thing_98 : g_dc cX11_thing 98 (.iload_n 1) 1 99 := ⟨by decide +kernel, rfl⟩
theorem d_X11_thing_99 : g_dc cX11_thing 99 (.iload 4) 2 101 := ⟨by decide +kernel, rfl⟩
theorem d_X11_thing_101 : g_dc cX11_thing 101 (.iastore) 1 102 := ⟨by decide +kernel, rfl⟩
theorem d_X11_thing_102 : g_dc cX11_thing 102 (.aload_n 0) 1 103 := ⟨by decide +kernel, rfl⟩
theorem d_X11_thing_103 : g_dc cX11_thing 103 (.getfield 19) 3 106 := ⟨by decide +kernel, rfl⟩
theorem d_X11_thing_106 : g_dc cX11_thing 106 (.iload_n 1) 1 107 := ⟨by decide +kernel, rfl⟩
theorem d_X11_thing_107 : g_dc cX11_thing 107 (.iload 5) 2 109 := ⟨by decide +kernel, rfl⟩
theorem d_X11_thing_109 : g_dc cX11_thing 109 (.iastore) 1 110 := ⟨by decide +kernel, rfl⟩
theorem d_X11_thing_110 : g_dc cX11_thing 110 (.aload_n 0) 1 111 := ⟨by decide +kernel, rfl⟩
theorem d_X11_thing_111 : g_dc cX11_thing 111 (.getfield 22) 3 114 := ⟨by decide +kernel, rfl⟩
theorem d_X11_thing_114 : g_dc cX11_thing 114 (.iload_n 1) 1 115 := ⟨by decide +kernel, rfl⟩
theorem d_X11_thing_115 : g_dc cX11_thing 115 (.iload 6) 2 117 := ⟨by decide +kernel, rfl⟩
theorem d_X11_thing_117 : g_dc cX11_thing 117 (.iastore) 1 118 := ⟨by decide +kernel, rfl⟩
theorem d_X11_thing_118 : g_dc cX11_thing 118 (.aload_n 0) 1 119 := ⟨by decide +kernel, rfl⟩
theorem d_X11_thing_119 : g_dc cX11_thing 119 (.getfield 25) 3 122 := ⟨by decide +kernel, rfl⟩
theorem d_X11_thing_122 : g_dc cX11_thing 122 (.iload_n 1) 1 123 := ⟨by decide +kernel, rfl⟩
theorem d_X11_thing_123 : g_dc cX11_thing 123 (.iconst 0) 1 124 := ⟨by decide +kernel, rfl⟩
theorem d_X11_thing_124 : g_dc cX11_thing 124 (.iastore) 1 125 := ⟨by decide +kernel, rfl⟩
theorem d_X11_thing_125 : g_dc cX11_thing 125 (.aload_n 0) 1 126 := ⟨by decide +kernel, rfl⟩
theorem d_X11_thing_126 : g_dc cX11_thing 126 (.getfield 28) 3 129 := ⟨by decide +kernel, rfl⟩
theorem d_X11_thing_129 : g_dc cX11_thing 129 (.iload_n 1) 1 130 := ⟨by decide +kernel, rfl⟩
theorem d_X11_thing_130 : g_dc cX11_thing 130 (.iconst 0) 1 131 := ⟨by decide +kernel, rfl⟩
theorem d_X11_thing_131 : g_dc cX11_thing 131 (.iastore) 1 132 := ⟨by decide +kernel, rfl⟩
theorem d_X11_thing_132 : g_dc cX11_thing 132 (.aload_n 0) 1 133 := ⟨by decide +kernel, rfl⟩
theorem d_X11_thing_133 : g_dc cX11_thing 133 (.getfield 31) 3 136 := ⟨by decide +kernel, rfl⟩
theorem d_X11_thing_136 : g_dc cX11_thing 136 (.iload_n 1) 1 137 := ⟨by decide +kernel, rfl⟩
theorem d_X11_thing_137 : g_dc cX11_thing 137 (.iconst 0) 1 138 := ⟨by decide +kernel, rfl⟩
theorem d_X11_thing_138 : g_dc cX11_thing 138 (.iastore) 1 139 := ⟨by decide +kernel, rfl⟩
theorem d_X11_thing_139 : g_dc cX11_thing 139 (.iconst 1) 1 140 := ⟨by decide +kernel, rfl⟩
theorem d_X11_thing_140 : g_dc cX11_thing 140 (.ireturn) 1 141 := ⟨by decide +kernel, rfl⟩
set_option maxHeartbeats 4000000 in
set_option maxRecDepth 100000 in
theorem c_X11_thing (l : Launch) (X : gX) (ad : Nat → Nat) (a b c d e f : Int32) : g_Ci l X yX11_thing cX11_thing 7 (some .boolean) 2 0 0 [.ref (ad 0), .int a, .int b, .int c, .int d, .int e, .int f] (wM X ad fM0 r0) (fun r _ => r = S_thing a b c d e f) := by
  refine g_mi (by decide +kernel) (Nat.le_of_ble_eq_true rfl) (fun E cx hret => ?_)
  refine g_iload_n cx 1 rfl d_X11_thing_0 ?_
  refine g_iconst cx 0 (by decide) d_X11_thing_1 ?_
  refine g_bipush cx 9 (by decide) d_X11_thing_2 ?_
  refine g_cSiW cx [.int a, .int 0, .int 9] [] (c_X11_in l X _ a 0 9) ml_X11_165 yS_X11_in rfl d_X11_thing_4 (by unfold g_rr; decide) (by decide) rfl (Nat.le_of_ble_eq_true rfl) (fun r1 w2 h3 => ?_)
  obtain ⟨rfl, rfl⟩ := h3
  refine g_if_eq cx 66 d_X11_thing_7 (by decide) (fun zc7 => ?_) (fun zc7 => ?_)
  · refine g_iconst cx 0 (by decide) d_X11_thing_66 ?_
    exact hret d_X11_thing_67 (Nat.le_of_ble_eq_true rfl) (Nat.le_of_ble_eq_true rfl) rfl (by simp [S_thing, *])
  · refine g_iload_n cx 2 rfl d_X11_thing_10 ?_
    refine g_iconst cx 0 (by decide) d_X11_thing_11 ?_
    refine g_iconst cx 3 (by decide) d_X11_thing_12 ?_
    refine g_cSiW cx [.int b, .int 0, .int 3] [] (c_X11_in l X _ b 0 3) ml_X11_165 yS_X11_in rfl d_X11_thing_13 (by unfold g_rr; decide) (by decide) rfl (Nat.le_of_ble_eq_true rfl) (fun r4 w5 h6 => ?_)
    obtain ⟨rfl, rfl⟩ := h6
    refine g_if_eq cx 66 d_X11_thing_16 (by decide) (fun zc16 => ?_) (fun zc16 => ?_)
    · refine g_iconst cx 0 (by decide) d_X11_thing_66 ?_
      exact hret d_X11_thing_67 (Nat.le_of_ble_eq_true rfl) (Nat.le_of_ble_eq_true rfl) rfl (by simp [S_thing, *])
    · refine g_iload_n cx 3 rfl d_X11_thing_19 ?_
      refine g_iconst cx 0 (by decide) d_X11_thing_20 ?_
      refine g_aload_n cx 0 rfl d_X11_thing_21 ?_
      refine g_get cx cl_X11 fl_X11_155 0 (.int 100) d_X11_thing_22 rfl rfl ?_
      refine g_iconst cx 1 (by decide) d_X11_thing_25 ?_
      refine g_isub cx d_X11_thing_26 ?_
      refine g_toi 99 (by decide) ?_
      refine g_cSiW cx [.int c, .int 0, .int 99] [] (c_X11_in l X _ c 0 99) ml_X11_165 yS_X11_in rfl d_X11_thing_27 (by unfold g_rr; decide) (by decide) rfl (Nat.le_of_ble_eq_true rfl) (fun r7 w8 h9 => ?_)
      obtain ⟨rfl, rfl⟩ := h9
      refine g_if_eq cx 66 d_X11_thing_30 (by decide) (fun zc30 => ?_) (fun zc30 => ?_)
      · refine g_iconst cx 0 (by decide) d_X11_thing_66 ?_
        exact hret d_X11_thing_67 (Nat.le_of_ble_eq_true rfl) (Nat.le_of_ble_eq_true rfl) rfl (by simp [S_thing, *])
      · refine g_iload cx 4 rfl d_X11_thing_33 ?_
        refine g_iconst cx 1 (by decide) d_X11_thing_35 ?_
        refine g_bipush cx 40 (by decide) d_X11_thing_36 ?_
        refine g_cSiW cx [.int d, .int 1, .int 40] [] (c_X11_in l X _ d 1 40) ml_X11_165 yS_X11_in rfl d_X11_thing_38 (by unfold g_rr; decide) (by decide) rfl (Nat.le_of_ble_eq_true rfl) (fun r10 w11 h12 => ?_)
        obtain ⟨rfl, rfl⟩ := h12
        refine g_if_eq cx 66 d_X11_thing_41 (by decide) (fun zc41 => ?_) (fun zc41 => ?_)
        · refine g_iconst cx 0 (by decide) d_X11_thing_66 ?_
          exact hret d_X11_thing_67 (Nat.le_of_ble_eq_true rfl) (Nat.le_of_ble_eq_true rfl) rfl (by simp [S_thing, *])
        · refine g_iload cx 5 rfl d_X11_thing_44 ?_
          refine g_iconst cx 1 (by decide) d_X11_thing_46 ?_
          refine g_bipush cx 60 (by decide) d_X11_thing_47 ?_
          refine g_cSiW cx [.int e, .int 1, .int 60] [] (c_X11_in l X _ e 1 60) ml_X11_165 yS_X11_in rfl d_X11_thing_49 (by unfold g_rr; decide) (by decide) rfl (Nat.le_of_ble_eq_true rfl) (fun r13 w14 h15 => ?_)
          obtain ⟨rfl, rfl⟩ := h15
          refine g_if_eq cx 66 d_X11_thing_52 (by decide) (fun zc52 => ?_) (fun zc52 => ?_)
          · refine g_iconst cx 0 (by decide) d_X11_thing_66 ?_
            exact hret d_X11_thing_67 (Nat.le_of_ble_eq_true rfl) (Nat.le_of_ble_eq_true rfl) rfl (by simp [S_thing, *])
          · refine g_iload cx 6 rfl d_X11_thing_55 ?_
            refine g_iconst cx 1 (by decide) d_X11_thing_57 ?_
            refine g_bipush cx 99 (by decide) d_X11_thing_58 ?_
            refine g_cSiW cx [.int f, .int 1, .int 99] [] (c_X11_in l X _ f 1 99) ml_X11_165 yS_X11_in rfl d_X11_thing_60 (by unfold g_rr; decide) (by decide) rfl (Nat.le_of_ble_eq_true rfl) (fun r16 w17 h18 => ?_)
            obtain ⟨rfl, rfl⟩ := h18
            refine g_if_ne cx 68 d_X11_thing_63 (by decide) (fun zc63 => ?_) (fun zc63 => ?_)
            · refine g_aload_n cx 0 rfl d_X11_thing_68 ?_
              refine g_aload_n cx 0 rfl d_X11_thing_69 ?_
              refine g_get cx cl_X11 fl_X11_172 0 (.int 0) d_X11_thing_70 rfl rfl ?_
              refine g_iconst cx 1 (by decide) d_X11_thing_73 ?_
              refine g_iload_n cx 1 rfl d_X11_thing_74 ?_
              refine g_ishl cx d_X11_thing_75 ?_
              refine g_ior cx d_X11_thing_76 ?_
              refine g_toi (1 <<< (a &&& 31)) (by simp) ?_
              refine g_put cx cl_X11 fl_X11_172 0 (wM X ad (upd fM0 4 (1 <<< (a &&& 31))) r0) d_X11_thing_77 rfl rfl rfl rfl (Nat.le_of_ble_eq_true rfl) rfl ?_
              refine g_aload_n cx 0 rfl d_X11_thing_80 ?_
              refine g_get cx cl_X11 fl_X11_7 0 (.ref (ad 1)) d_X11_thing_81 rfl rfl ?_
              refine g_iload_n cx 1 rfl d_X11_thing_84 ?_
              refine g_iload_n cx 2 rfl d_X11_thing_85 ?_
              refine g_iast cx 1 (wM X ad (upd fM0 4 (1 <<< (a &&& 31))) (g_u r0 1 (upd (r0 1) (Int32.toNatClampNeg a) b))) d_X11_thing_86 rfl (by obtain ⟨ja, hja, hea⟩ := g_inj (m := 9) zc7 (by decide); rw [hea]; exact vp_in_nI (by omega) (by decide)) rfl ?_
              refine g_aload_n cx 0 rfl d_X11_thing_87 ?_
              refine g_get cx cl_X11 fl_X11_13 0 (.ref (ad 2)) d_X11_thing_88 rfl rfl ?_
              refine g_iload_n cx 1 rfl d_X11_thing_91 ?_
              refine g_iload_n cx 3 rfl d_X11_thing_92 ?_
              refine g_iast cx 2 (wM X ad (upd fM0 4 (1 <<< (a &&& 31))) (g_u (g_u r0 1 (upd (r0 1) (Int32.toNatClampNeg a) b)) 2 (upd (r0 2) (Int32.toNatClampNeg a) c))) d_X11_thing_93 rfl (by obtain ⟨ja, hja, hea⟩ := g_inj (m := 9) zc7 (by decide); rw [hea]; exact vp_in_nI (by omega) (by decide)) rfl ?_
              refine g_aload_n cx 0 rfl d_X11_thing_94 ?_
              refine g_get cx cl_X11 fl_X11_16 0 (.ref (ad 3)) d_X11_thing_95 rfl rfl ?_
              refine g_iload_n cx 1 rfl d_X11_thing_98 ?_
              refine g_iload cx 4 rfl d_X11_thing_99 ?_
              refine g_iast cx 3 (wM X ad (upd fM0 4 (1 <<< (a &&& 31))) (g_u (g_u (g_u r0 1 (upd (r0 1) (Int32.toNatClampNeg a) b)) 2 (upd (r0 2) (Int32.toNatClampNeg a) c)) 3 (upd (r0 3) (Int32.toNatClampNeg a) d))) d_X11_thing_101 rfl (by obtain ⟨ja, hja, hea⟩ := g_inj (m := 9) zc7 (by decide); rw [hea]; exact vp_in_nI (by omega) (by decide)) rfl ?_
              refine g_aload_n cx 0 rfl d_X11_thing_102 ?_
              refine g_get cx cl_X11 fl_X11_19 0 (.ref (ad 4)) d_X11_thing_103 rfl rfl ?_
              refine g_iload_n cx 1 rfl d_X11_thing_106 ?_
              refine g_iload cx 5 rfl d_X11_thing_107 ?_
              refine g_iast cx 4 (wM X ad (upd fM0 4 (1 <<< (a &&& 31))) (g_u (g_u (g_u (g_u r0 1 (upd (r0 1) (Int32.toNatClampNeg a) b)) 2 (upd (r0 2) (Int32.toNatClampNeg a) c)) 3 (upd (r0 3) (Int32.toNatClampNeg a) d)) 4 (upd (r0 4) (Int32.toNatClampNeg a) e))) d_X11_thing_109 rfl (by obtain ⟨ja, hja, hea⟩ := g_inj (m := 9) zc7 (by decide); rw [hea]; exact vp_in_nI (by omega) (by decide)) rfl ?_
              refine g_aload_n cx 0 rfl d_X11_thing_110 ?_
              refine g_get cx cl_X11 fl_X11_22 0 (.ref (ad 5)) d_X11_thing_111 rfl rfl ?_
              refine g_iload_n cx 1 rfl d_X11_thing_114 ?_
              refine g_iload cx 6 rfl d_X11_thing_115 ?_
              refine g_iast cx 5 (wM X ad (upd fM0 4 (1 <<< (a &&& 31))) (g_u (g_u (g_u (g_u (g_u r0 1 (upd (r0 1) (Int32.toNatClampNeg a) b)) 2 (upd (r0 2) (Int32.toNatClampNeg a) c)) 3 (upd (r0 3) (Int32.toNatClampNeg a) d)) 4 (upd (r0 4) (Int32.toNatClampNeg a) e)) 5 (upd (r0 5) (Int32.toNatClampNeg a) f))) d_X11_thing_117 rfl (by obtain ⟨ja, hja, hea⟩ := g_inj (m := 9) zc7 (by decide); rw [hea]; exact vp_in_nI (by omega) (by decide)) rfl ?_
              refine g_aload_n cx 0 rfl d_X11_thing_118 ?_
              refine g_get cx cl_X11 fl_X11_25 0 (.ref (ad 6)) d_X11_thing_119 rfl rfl ?_
              refine g_iload_n cx 1 rfl d_X11_thing_122 ?_
              refine g_iconst cx 0 (by decide) d_X11_thing_123 ?_
              refine g_iast cx 6 (wM X ad (upd fM0 4 (1 <<< (a &&& 31))) (g_u (g_u (g_u (g_u (g_u (g_u r0 1 (upd (r0 1) (Int32.toNatClampNeg a) b)) 2 (upd (r0 2) (Int32.toNatClampNeg a) c)) 3 (upd (r0 3) (Int32.toNatClampNeg a) d)) 4 (upd (r0 4) (Int32.toNatClampNeg a) e)) 5 (upd (r0 5) (Int32.toNatClampNeg a) f)) 6 (upd (r0 6) (Int32.toNatClampNeg a) 0))) d_X11_thing_124 rfl (by obtain ⟨ja, hja, hea⟩ := g_inj (m := 9) zc7 (by decide); rw [hea]; exact vp_in_nI (by omega) (by decide)) rfl ?_
              refine g_aload_n cx 0 rfl d_X11_thing_125 ?_
              refine g_get cx cl_X11 fl_X11_28 0 (.ref (ad 7)) d_X11_thing_126 rfl rfl ?_
              refine g_iload_n cx 1 rfl d_X11_thing_129 ?_
              refine g_iconst cx 0 (by decide) d_X11_thing_130 ?_
              refine g_iast cx 7 (wM X ad (upd fM0 4 (1 <<< (a &&& 31))) (g_u (g_u (g_u (g_u (g_u (g_u (g_u r0 1 (upd (r0 1) (Int32.toNatClampNeg a) b)) 2 (upd (r0 2) (Int32.toNatClampNeg a) c)) 3 (upd (r0 3) (Int32.toNatClampNeg a) d)) 4 (upd (r0 4) (Int32.toNatClampNeg a) e)) 5 (upd (r0 5) (Int32.toNatClampNeg a) f)) 6 (upd (r0 6) (Int32.toNatClampNeg a) 0)) 7 (upd (r0 7) (Int32.toNatClampNeg a) 0))) d_X11_thing_131 rfl (by obtain ⟨ja, hja, hea⟩ := g_inj (m := 9) zc7 (by decide); rw [hea]; exact vp_in_nI (by omega) (by decide)) rfl ?_
              refine g_aload_n cx 0 rfl d_X11_thing_132 ?_
              refine g_get cx cl_X11 fl_X11_31 0 (.ref (ad 8)) d_X11_thing_133 rfl rfl ?_
              refine g_iload_n cx 1 rfl d_X11_thing_136 ?_
              refine g_iconst cx 0 (by decide) d_X11_thing_137 ?_
              refine g_iast cx 8 (wM X ad (upd fM0 4 (1 <<< (a &&& 31))) (g_u (g_u (g_u (g_u (g_u (g_u (g_u (g_u r0 1 (upd (r0 1) (Int32.toNatClampNeg a) b)) 2 (upd (r0 2) (Int32.toNatClampNeg a) c)) 3 (upd (r0 3) (Int32.toNatClampNeg a) d)) 4 (upd (r0 4) (Int32.toNatClampNeg a) e)) 5 (upd (r0 5) (Int32.toNatClampNeg a) f)) 6 (upd (r0 6) (Int32.toNatClampNeg a) 0)) 7 (upd (r0 7) (Int32.toNatClampNeg a) 0)) 8 (upd (r0 8) (Int32.toNatClampNeg a) 0))) d_X11_thing_138 rfl (by obtain ⟨ja, hja, hea⟩ := g_inj (m := 9) zc7 (by decide); rw [hea]; exact vp_in_nI (by omega) (by decide)) rfl ?_
              refine g_iconst cx 1 (by decide) d_X11_thing_139 ?_
              exact hret d_X11_thing_140 (Nat.le_of_ble_eq_true rfl) (Nat.le_of_ble_eq_true rfl) rfl (by simp [S_thing, *])
            · refine g_iconst cx 0 (by decide) d_X11_thing_66 ?_
              exact hret d_X11_thing_67 (Nat.le_of_ble_eq_true rfl) (Nat.le_of_ble_eq_true rfl) rfl (by simp [S_thing, *])
theorem d_X11_more_0 : g_dc cX11_more 0 (.aload_n 0) 1 1 := ⟨by decide +kernel, rfl⟩
theorem d_X11_more_1 : g_dc cX11_more 1 (.iload_n 1) 1 2 := ⟨by decide +kernel, rfl⟩
theorem d_X11_more_2 : g_dc cX11_more 2 (.invokevirtual 179) 3 5 := ⟨by decide +kernel, rfl⟩
theorem d_X11_more_5 : g_dc cX11_more 5 (.ifCond .eq 35) 3 8 := ⟨by decide +kernel, rfl⟩
theorem d_X11_more_40 : g_dc cX11_more 40 (.iconst 0) 1 41 := ⟨by decide +kernel, rfl⟩
theorem d_X11_more_41 : g_dc cX11_more 41 (.ireturn) 1 42 := ⟨by decide +kernel, rfl⟩
set_option maxHeartbeats 4000000 in
set_option maxRecDepth 100000 in
theorem c_X11_more (l : Launch) (X : gX) (ad : Nat → Nat) (a b c d : Int32) : g_Ci l X yX11_more cX11_more 5 (some .boolean) 3 0 0 [.ref (ad 0), .int a, .int b, .int c, .int d] (wM X ad fM0 r0) (fun r _ => r = 0) := by
  refine g_mi (by decide +kernel) (Nat.le_of_ble_eq_true rfl) (fun E cx hret => ?_)
  refine g_aload_n cx 0 rfl d_X11_more_0 ?_
  refine g_iload_n cx 1 rfl d_X11_more_1 ?_
  refine g_cViW cx [.int a] [] (c_X11_isTold l X ad fM0 r0 a rfl) ml_X11_179 yV_X11_isTold d_X11_more_2 (by unfold g_rr; decide) (by decide) 0 rfl rfl rfl (Nat.le_of_ble_eq_true rfl) (fun r1 w2 h3 => ?_)
  obtain ⟨rfl, rfl⟩ := h3
  refine g_if_eq_t cx 40 d_X11_more_5 (by decide) (by decide) ?_
  refine g_iconst cx 0 (by decide) d_X11_more_40 ?_
  exact hret d_X11_more_41 (Nat.le_of_ble_eq_true rfl) (Nat.le_of_ble_eq_true rfl) rfl (rfl)
theorem d_X11_away_0 : g_dc cX11_away 0 (.aload_n 0) 1 1 := ⟨by decide +kernel, rfl⟩
theorem d_X11_away_1 : g_dc cX11_away 1 (.iload_n 1) 1 2 := ⟨by decide +kernel, rfl⟩
theorem d_X11_away_2 : g_dc cX11_away 2 (.invokevirtual 179) 3 5 := ⟨by decide +kernel, rfl⟩
theorem d_X11_away_5 : g_dc cX11_away 5 (.ifCond .ne 5) 3 8 := ⟨by decide +kernel, rfl⟩
theorem d_X11_away_8 : g_dc cX11_away 8 (.iconst 0) 1 9 := ⟨by decide +kernel, rfl⟩
theorem d_X11_away_9 : g_dc cX11_away 9 (.ireturn) 1 10 := ⟨by decide +kernel, rfl⟩
set_option maxHeartbeats 4000000 in
set_option maxRecDepth 100000 in
theorem c_X11_away (l : Launch) (X : gX) (ad : Nat → Nat) (a : Int32) : g_Ci l X yX11_away cX11_away 2 (some .boolean) 3 0 0 [.ref (ad 0), .int a] (wM X ad fM0 r0) (fun r _ => r = 0) := by
  refine g_mi (by decide +kernel) (Nat.le_of_ble_eq_true rfl) (fun E cx hret => ?_)
  refine g_aload_n cx 0 rfl d_X11_away_0 ?_
  refine g_iload_n cx 1 rfl d_X11_away_1 ?_
  refine g_cViW cx [.int a] [] (c_X11_isTold l X ad fM0 r0 a rfl) ml_X11_179 yV_X11_isTold d_X11_away_2 (by unfold g_rr; decide) (by decide) 0 rfl rfl rfl (Nat.le_of_ble_eq_true rfl) (fun r1 w2 h3 => ?_)
  obtain ⟨rfl, rfl⟩ := h3
  refine g_if_ne_f cx 10 d_X11_away_5 (by decide) (by decide) ?_
  refine g_iconst cx 0 (by decide) d_X11_away_8 ?_
  exact hret d_X11_away_9 (Nat.le_of_ble_eq_true rfl) (Nat.le_of_ble_eq_true rfl) rfl (rfl)
theorem d_X11_pull_0 : g_dc cX11_pull 0 (.iload_n 1) 1 1 := ⟨by decide +kernel, rfl⟩
theorem d_X11_pull_1 : g_dc cX11_pull 1 (.iconst 1) 1 2 := ⟨by decide +kernel, rfl⟩
theorem d_X11_pull_2 : g_dc cX11_pull 2 (.bipush 120) 2 4 := ⟨by decide +kernel, rfl⟩
theorem d_X11_pull_4 : g_dc cX11_pull 4 (.invokestatic 165) 3 7 := ⟨by decide +kernel, rfl⟩
theorem d_X11_pull_7 : g_dc cX11_pull 7 (.ifCond .eq 11) 3 10 := ⟨by decide +kernel, rfl⟩
theorem d_X11_pull_10 : g_dc cX11_pull 10 (.iload_n 1) 1 11 := ⟨by decide +kernel, rfl⟩
theorem d_X11_pull_11 : g_dc cX11_pull 11 (.aload_n 0) 1 12 := ⟨by decide +kernel, rfl⟩
theorem d_X11_pull_12 : g_dc cX11_pull 12 (.getfield 183) 3 15 := ⟨by decide +kernel, rfl⟩
theorem d_X11_pull_15 : g_dc cX11_pull 15 (.if_icmp .le 5) 3 18 := ⟨by decide +kernel, rfl⟩
theorem d_X11_pull_18 : g_dc cX11_pull 18 (.iconst (-1)) 1 19 := ⟨by decide +kernel, rfl⟩
theorem d_X11_pull_19 : g_dc cX11_pull 19 (.ireturn) 1 20 := ⟨by decide +kernel, rfl⟩
set_option maxHeartbeats 4000000 in
set_option maxRecDepth 100000 in
theorem c_X11_pull (l : Launch) (X : gX) (ad : Nat → Nat) (a : Int32) : g_Ci l X yX11_pull cX11_pull 4 (some .int) 2 0 0 [.ref (ad 0), .int a] (wM X ad fM0 r0) (fun r _ => r = -1) := by
  refine g_mi (by decide +kernel) (Nat.le_of_ble_eq_true rfl) (fun E cx hret => ?_)
  refine g_iload_n cx 1 rfl d_X11_pull_0 ?_
  refine g_iconst cx 1 (by decide) d_X11_pull_1 ?_
  refine g_bipush cx 120 (by decide) d_X11_pull_2 ?_
  refine g_cSiW cx [.int a, .int 1, .int 120] [] (c_X11_in l X _ a 1 120) ml_X11_165 yS_X11_in rfl d_X11_pull_4 (by unfold g_rr; decide) (by decide) rfl (Nat.le_of_ble_eq_true rfl) (fun r1 w2 h3 => ?_)
  obtain ⟨rfl, rfl⟩ := h3
  refine g_if_eq cx 18 d_X11_pull_7 (by decide) (fun zc7 => ?_) (fun zc7 => ?_)
  · refine g_iconst cx (-1) (by decide) d_X11_pull_18 ?_
    exact hret d_X11_pull_19 (Nat.le_of_ble_eq_true rfl) (Nat.le_of_ble_eq_true rfl) rfl (rfl)
  · refine g_iload_n cx 1 rfl d_X11_pull_10 ?_
    refine g_aload_n cx 0 rfl d_X11_pull_11 ?_
    refine g_get cx cl_X11 fl_X11_183 0 (.int 0) d_X11_pull_12 rfl rfl ?_
    refine g_icmp_le_f cx 20 d_X11_pull_15 (by decide) (g_n0 (by assumption)) ?_
    refine g_iconst cx (-1) (by decide) d_X11_pull_18 ?_
    exact hret d_X11_pull_19 (Nat.le_of_ble_eq_true rfl) (Nat.le_of_ble_eq_true rfl) rfl (rfl)
theorem d_X11_law_0 : g_dc cX11_law 0 (.iload_n 1) 1 1 := ⟨by decide +kernel, rfl⟩
theorem d_X11_law_1 : g_dc cX11_law 1 (.iconst 1) 1 2 := ⟨by decide +kernel, rfl⟩
theorem d_X11_law_2 : g_dc cX11_law 2 (.sipush 200) 3 5 := ⟨by decide +kernel, rfl⟩
theorem d_X11_law_5 : g_dc cX11_law 5 (.invokestatic 165) 3 8 := ⟨by decide +kernel, rfl⟩
theorem d_X11_law_8 : g_dc cX11_law 8 (.ifCond .eq 11) 3 11 := ⟨by decide +kernel, rfl⟩
theorem d_X11_law_11 : g_dc cX11_law 11 (.iload_n 1) 1 12 := ⟨by decide +kernel, rfl⟩
theorem d_X11_law_12 : g_dc cX11_law 12 (.aload_n 0) 1 13 := ⟨by decide +kernel, rfl⟩
theorem d_X11_law_13 : g_dc cX11_law 13 (.getfield 183) 3 16 := ⟨by decide +kernel, rfl⟩
theorem d_X11_law_16 : g_dc cX11_law 16 (.if_icmp .le 5) 3 19 := ⟨by decide +kernel, rfl⟩
theorem d_X11_law_19 : g_dc cX11_law 19 (.iconst (-1)) 1 20 := ⟨by decide +kernel, rfl⟩
theorem d_X11_law_20 : g_dc cX11_law 20 (.ireturn) 1 21 := ⟨by decide +kernel, rfl⟩
set_option maxHeartbeats 4000000 in
set_option maxRecDepth 100000 in
theorem c_X11_law (l : Launch) (X : gX) (ad : Nat → Nat) (a : Int32) : g_Ci l X yX11_law cX11_law 4 (some .int) 2 0 0 [.ref (ad 0), .int a] (wM X ad fM0 r0) (fun r _ => r = -1) := by
  refine g_mi (by decide +kernel) (Nat.le_of_ble_eq_true rfl) (fun E cx hret => ?_)
  refine g_iload_n cx 1 rfl d_X11_law_0 ?_
  refine g_iconst cx 1 (by decide) d_X11_law_1 ?_
  refine g_sipush cx 200 (by decide) d_X11_law_2 ?_
  refine g_cSiW cx [.int a, .int 1, .int 200] [] (c_X11_in l X _ a 1 200) ml_X11_165 yS_X11_in rfl d_X11_law_5 (by unfold g_rr; decide) (by decide) rfl (Nat.le_of_ble_eq_true rfl) (fun r1 w2 h3 => ?_)
  obtain ⟨rfl, rfl⟩ := h3
  refine g_if_eq cx 19 d_X11_law_8 (by decide) (fun zc8 => ?_) (fun zc8 => ?_)
  · refine g_iconst cx (-1) (by decide) d_X11_law_19 ?_
    exact hret d_X11_law_20 (Nat.le_of_ble_eq_true rfl) (Nat.le_of_ble_eq_true rfl) rfl (rfl)
  · refine g_iload_n cx 1 rfl d_X11_law_11 ?_
    refine g_aload_n cx 0 rfl d_X11_law_12 ?_
    refine g_get cx cl_X11 fl_X11_183 0 (.int 0) d_X11_law_13 rfl rfl ?_
    refine g_icmp_le_f cx 21 d_X11_law_16 (by decide) (g_n0 (by assumption)) ?_
    refine g_iconst cx (-1) (by decide) d_X11_law_19 ?_
    exact hret d_X11_law_20 (Nat.le_of_ble_eq_true rfl) (Nat.le_of_ble_eq_true rfl) rfl (rfl)
theorem d_X11_done_0 : g_dc cX11_done 0 (.aload_n 0) 1 1 := ⟨by decide +kernel, rfl⟩
theorem d_X11_done_1 : g_dc cX11_done 1 (.getfield 228) 3 4 := ⟨by decide +kernel, rfl⟩
theorem d_X11_done_4 : g_dc cX11_done 4 (.ifCond .ne 5) 3 7 := ⟨by decide +kernel, rfl⟩
theorem d_X11_done_7 : g_dc cX11_done 7 (.iconst (-1)) 1 8 := ⟨by decide +kernel, rfl⟩
theorem d_X11_done_8 : g_dc cX11_done 8 (.ireturn) 1 9 := ⟨by decide +kernel, rfl⟩
set_option maxHeartbeats 4000000 in
set_option maxRecDepth 100000 in
theorem c_X11_done (l : Launch) (X : gX) (ad : Nat → Nat) : g_Ci l X yX11_done cX11_done 3 (some .int) 3 0 0 [.ref (ad 0)] (wM X ad fM0 r0) (fun r _ => r = -1) := by
  refine g_mi (by decide +kernel) (Nat.le_of_ble_eq_true rfl) (fun E cx hret => ?_)
  refine g_aload_n cx 0 rfl d_X11_done_0 ?_
  refine g_get cx cl_X11 fl_X11_228 0 (.int 0) d_X11_done_1 rfl rfl ?_
  refine g_if_ne_f cx 9 d_X11_done_4 (by decide) (by decide) ?_
  refine g_iconst cx (-1) (by decide) d_X11_done_7 ?_
  exact hret d_X11_done_8 (Nat.le_of_ble_eq_true rfl) (Nat.le_of_ble_eq_true rfl) rfl (rfl)
theorem d_X11_thingIs_0 : g_dc cX11_thingIs 0 (.aload_n 0) 1 1 := ⟨by decide +kernel, rfl⟩
theorem d_X11_thingIs_1 : g_dc cX11_thingIs 1 (.iload_n 1) 1 2 := ⟨by decide +kernel, rfl⟩
theorem d_X11_thingIs_2 : g_dc cX11_thingIs 2 (.invokevirtual 179) 3 5 := ⟨by decide +kernel, rfl⟩
theorem d_X11_thingIs_5 : g_dc cX11_thingIs 5 (.ifCond .ne 5) 3 8 := ⟨by decide +kernel, rfl⟩
theorem d_X11_thingIs_8 : g_dc cX11_thingIs 8 (.iconst (-1)) 1 9 := ⟨by decide +kernel, rfl⟩
theorem d_X11_thingIs_9 : g_dc cX11_thingIs 9 (.ireturn) 1 10 := ⟨by decide +kernel, rfl⟩
set_option maxHeartbeats 4000000 in
set_option maxRecDepth 100000 in
theorem c_X11_thingIs (l : Launch) (X : gX) (ad : Nat → Nat) (a b : Int32) : g_Ci l X yX11_thingIs cX11_thingIs 3 (some .int) 3 0 0 [.ref (ad 0), .int a, .int b] (wM X ad fM0 r0) (fun r _ => r = -1) := by
  refine g_mi (by decide +kernel) (Nat.le_of_ble_eq_true rfl) (fun E cx hret => ?_)
  refine g_aload_n cx 0 rfl d_X11_thingIs_0 ?_
  refine g_iload_n cx 1 rfl d_X11_thingIs_1 ?_
  refine g_cViW cx [.int a] [] (c_X11_isTold l X ad fM0 r0 a rfl) ml_X11_179 yV_X11_isTold d_X11_thingIs_2 (by unfold g_rr; decide) (by decide) 0 rfl rfl rfl (Nat.le_of_ble_eq_true rfl) (fun r1 w2 h3 => ?_)
  obtain ⟨rfl, rfl⟩ := h3
  refine g_if_ne_f cx 10 d_X11_thingIs_5 (by decide) (by decide) ?_
  refine g_iconst cx (-1) (by decide) d_X11_thingIs_8 ?_
  exact hret d_X11_thingIs_9 (Nat.le_of_ble_eq_true rfl) (Nat.le_of_ble_eq_true rfl) rfl (rfl)
theorem d_X11_put_0 : g_dc cX11_put 0 (.iload_n 2) 1 1 := ⟨by decide +kernel, rfl⟩
theorem d_X11_put_1 : g_dc cX11_put 1 (.bipush 10) 2 3 := ⟨by decide +kernel, rfl⟩
theorem d_X11_put_3 : g_dc cX11_put 3 (.bipush 12) 2 5 := ⟨by decide +kernel, rfl⟩
theorem d_X11_put_5 : g_dc cX11_put 5 (.invokestatic 165) 3 8 := ⟨by decide +kernel, rfl⟩
theorem d_X11_put_8 : g_dc cX11_put 8 (.ifCond .ne 21) 3 11 := ⟨by decide +kernel, rfl⟩
theorem d_X11_put_11 : g_dc cX11_put 11 (.iload_n 2) 1 12 := ⟨by decide +kernel, rfl⟩
theorem d_X11_put_12 : g_dc cX11_put 12 (.iconst 0) 1 13 := ⟨by decide +kernel, rfl⟩
theorem d_X11_put_13 : g_dc cX11_put 13 (.bipush 9) 2 15 := ⟨by decide +kernel, rfl⟩
theorem d_X11_put_15 : g_dc cX11_put 15 (.invokestatic 165) 3 18 := ⟨by decide +kernel, rfl⟩
theorem d_X11_put_18 : g_dc cX11_put 18 (.ifCond .eq 15) 3 21 := ⟨by decide +kernel, rfl⟩
theorem d_X11_put_21 : g_dc cX11_put 21 (.iload_n 1) 1 22 := ⟨by decide +kernel, rfl⟩
theorem d_X11_put_22 : g_dc cX11_put 22 (.iload_n 2) 1 23 := ⟨by decide +kernel, rfl⟩
theorem d_X11_put_23 : g_dc cX11_put 23 (.invokestatic 175) 3 26 := ⟨by decide +kernel, rfl⟩
theorem d_X11_put_26 : g_dc cX11_put 26 (.ifCond .eq 7) 3 29 := ⟨by decide +kernel, rfl⟩
theorem d_X11_put_29 : g_dc cX11_put 29 (.iconst 1) 1 30 := ⟨by decide +kernel, rfl⟩
theorem d_X11_put_30 : g_dc cX11_put 30 (.goto 4) 3 33 := ⟨by decide +kernel, rfl⟩
theorem d_X11_put_33 : g_dc cX11_put 33 (.iconst 0) 1 34 := ⟨by decide +kernel, rfl⟩
theorem d_X11_put_34 : g_dc cX11_put 34 (.istore_n 3) 1 35 := ⟨by decide +kernel, rfl⟩
theorem d_X11_put_35 : g_dc cX11_put 35 (.iload_n 1) 1 36 := ⟨by decide +kernel, rfl⟩
theorem d_X11_put_36 : g_dc cX11_put 36 (.aload_n 0) 1 37 := ⟨by decide +kernel, rfl⟩
theorem d_X11_put_37 : g_dc cX11_put 37 (.getfield 172) 3 40 := ⟨by decide +kernel, rfl⟩
theorem d_X11_put_40 : g_dc cX11_put 40 (.iconst (-1)) 1 41 := ⟨by decide +kernel, rfl⟩
theorem d_X11_put_41 : g_dc cX11_put 41 (.ixor) 1 42 := ⟨by decide +kernel, rfl⟩
theorem d_X11_put_42 : g_dc cX11_put 42 (.iand) 1 43 := ⟨by decide +kernel, rfl⟩
theorem d_X11_put_43 : g_dc cX11_put 43 (.ifCond .ne 19) 3 46 := ⟨by decide +kernel, rfl⟩
theorem d_X11_put_46 : g_dc cX11_put 46 (.iload_n 1) 1 47 := ⟨by decide +kernel, rfl⟩
theorem d_X11_put_47 : g_dc cX11_put 47 (.invokestatic 410) 3 50 := ⟨by decide +kernel, rfl⟩
theorem d_X11_put_50 : g_dc cX11_put 50 (.iconst 2) 1 51 := ⟨by decide +kernel, rfl⟩
theorem d_X11_put_51 : g_dc cX11_put 51 (.iconst 5) 1 52 := ⟨by decide +kernel, rfl⟩
theorem d_X11_put_52 : g_dc cX11_put 52 (.invokestatic 165) 3 55 := ⟨by decide +kernel, rfl⟩
theorem d_X11_put_55 : g_dc cX11_put 55 (.ifCond .eq 7) 3 58 := ⟨by decide +kernel, rfl⟩
theorem d_X11_put_62 : g_dc cX11_put 62 (.iconst (-1)) 1 63 := ⟨by decide +kernel, rfl⟩
theorem d_X11_put_63 : g_dc cX11_put 63 (.ireturn) 1 64 := ⟨by decide +kernel, rfl⟩
set_option maxHeartbeats 4000000 in
set_option maxRecDepth 100000 in
theorem c_X11_put (l : Launch) (X : gX) (ad : Nat → Nat) (a b : Int32) : g_Ci l X yX11_put cX11_put 7 (some .int) 3 0 0 [.ref (ad 0), .int a, .int b] (wM X ad fM0 r0) (fun r _ => r = -1) := by
  refine g_mi (by decide +kernel) (Nat.le_of_ble_eq_true rfl) (fun E cx hret => ?_)
  refine g_iload_n cx 2 rfl d_X11_put_0 ?_
  refine g_bipush cx 10 (by decide) d_X11_put_1 ?_
  refine g_bipush cx 12 (by decide) d_X11_put_3 ?_
  refine g_cSiW cx [.int b, .int 10, .int 12] [] (c_X11_in l X _ b 10 12) ml_X11_165 yS_X11_in rfl d_X11_put_5 (by unfold g_rr; decide) (by decide) rfl (Nat.le_of_ble_eq_true rfl) (fun r1 w2 h3 => ?_)
  obtain ⟨rfl, rfl⟩ := h3
  refine g_if_ne cx 29 d_X11_put_8 (by decide) (fun zc8 => ?_) (fun zc8 => ?_)
  · refine g_iconst cx 1 (by decide) d_X11_put_29 ?_
    refine g_goto cx 34 d_X11_put_30 (by decide) ?_
    refine g_istore_n cx [(3, .int 1), (0, .ref (ad 0)), (1, .int a), (2, .int b)] d_X11_put_34 (by decide) rfl ?_
    refine g_iload_n cx 2 rfl d_X11_put_35 ?_
    refine g_aload_n cx 1 rfl d_X11_put_36 ?_
    refine g_get cx cl_X11 fl_X11_172 0 (.int 0) d_X11_put_37 rfl rfl ?_
    refine g_iconst cx (-1) (by decide) d_X11_put_40 ?_
    refine g_ixor cx d_X11_put_41 ?_
    refine g_toi (-1) (by decide) ?_
    refine g_iand cx d_X11_put_42 ?_
    refine g_if_ne cx 62 d_X11_put_43 (by decide) (fun zc43 => ?_) (fun zc43 => ?_)
    · refine g_iconst cx (-1) (by decide) d_X11_put_62 ?_
      exact hret d_X11_put_63 (Nat.le_of_ble_eq_true rfl) (Nat.le_of_ble_eq_true rfl) rfl (rfl)
    · refine g_iload_n cx 2 rfl d_X11_put_46 ?_
      refine g_toi 0 ((g_m1 a).symm.trans zc43) ?_
      refine g_cSiW cx [.int 0] [] (c0_X11_bits l X _) ml_X11_410 yS_X11_bits rfl d_X11_put_47 (by unfold g_rr; decide) (by decide) rfl (Nat.le_of_ble_eq_true rfl) (fun r4 w5 h6 => ?_)
      obtain ⟨rfl, rfl⟩ := h6
      refine g_iconst cx 2 (by decide) d_X11_put_50 ?_
      refine g_iconst cx 5 (by decide) d_X11_put_51 ?_
      refine g_cSiW cx [.int 0, .int 2, .int 5] [] (c_X11_in l X _ 0 2 5) ml_X11_165 yS_X11_in rfl d_X11_put_52 (by unfold g_rr; decide) (by decide) rfl (Nat.le_of_ble_eq_true rfl) (fun r7 w8 h9 => ?_)
      obtain ⟨rfl, rfl⟩ := h9
      refine g_toi 0 (by decide) ?_
      refine g_if_eq_t cx 62 d_X11_put_55 (by decide) (by decide) ?_
      refine g_iconst cx (-1) (by decide) d_X11_put_62 ?_
      exact hret d_X11_put_63 (Nat.le_of_ble_eq_true rfl) (Nat.le_of_ble_eq_true rfl) rfl (rfl)
  · refine g_iload_n cx 2 rfl d_X11_put_11 ?_
    refine g_iconst cx 0 (by decide) d_X11_put_12 ?_
    refine g_bipush cx 9 (by decide) d_X11_put_13 ?_
    refine g_cSiW cx [.int b, .int 0, .int 9] [] (c_X11_in l X _ b 0 9) ml_X11_165 yS_X11_in rfl d_X11_put_15 (by unfold g_rr; decide) (by decide) rfl (Nat.le_of_ble_eq_true rfl) (fun r10 w11 h12 => ?_)
    obtain ⟨rfl, rfl⟩ := h12
    refine g_if_eq cx 33 d_X11_put_18 (by decide) (fun zc18 => ?_) (fun zc18 => ?_)
    · refine g_iconst cx 0 (by decide) d_X11_put_33 ?_
      refine g_istore_n cx [(3, .int 0), (0, .ref (ad 0)), (1, .int a), (2, .int b)] d_X11_put_34 (by decide) rfl ?_
      refine g_iload_n cx 2 rfl d_X11_put_35 ?_
      refine g_aload_n cx 1 rfl d_X11_put_36 ?_
      refine g_get cx cl_X11 fl_X11_172 0 (.int 0) d_X11_put_37 rfl rfl ?_
      refine g_iconst cx (-1) (by decide) d_X11_put_40 ?_
      refine g_ixor cx d_X11_put_41 ?_
      refine g_toi (-1) (by decide) ?_
      refine g_iand cx d_X11_put_42 ?_
      refine g_if_ne cx 62 d_X11_put_43 (by decide) (fun zc43 => ?_) (fun zc43 => ?_)
      · refine g_iconst cx (-1) (by decide) d_X11_put_62 ?_
        exact hret d_X11_put_63 (Nat.le_of_ble_eq_true rfl) (Nat.le_of_ble_eq_true rfl) rfl (rfl)
      · refine g_iload_n cx 2 rfl d_X11_put_46 ?_
        refine g_toi 0 ((g_m1 a).symm.trans zc43) ?_
        refine g_cSiW cx [.int 0] [] (c0_X11_bits l X _) ml_X11_410 yS_X11_bits rfl d_X11_put_47 (by unfold g_rr; decide) (by decide) rfl (Nat.le_of_ble_eq_true rfl) (fun r13 w14 h15 => ?_)
        obtain ⟨rfl, rfl⟩ := h15
        refine g_iconst cx 2 (by decide) d_X11_put_50 ?_
        refine g_iconst cx 5 (by decide) d_X11_put_51 ?_
        refine g_cSiW cx [.int 0, .int 2, .int 5] [] (c_X11_in l X _ 0 2 5) ml_X11_165 yS_X11_in rfl d_X11_put_52 (by unfold g_rr; decide) (by decide) rfl (Nat.le_of_ble_eq_true rfl) (fun r16 w17 h18 => ?_)
        obtain ⟨rfl, rfl⟩ := h18
        refine g_toi 0 (by decide) ?_
        refine g_if_eq_t cx 62 d_X11_put_55 (by decide) (by decide) ?_
        refine g_iconst cx (-1) (by decide) d_X11_put_62 ?_
        exact hret d_X11_put_63 (Nat.le_of_ble_eq_true rfl) (Nat.le_of_ble_eq_true rfl) rfl (rfl)
    · refine g_iload_n cx 1 rfl d_X11_put_21 ?_
      refine g_iload_n cx 2 rfl d_X11_put_22 ?_
      refine g_cSiW cx [.int a, .int b] [] (c_X11_has l X _ a b) ml_X11_175 yS_X11_has rfl d_X11_put_23 (by unfold g_rr; decide) (by decide) rfl (Nat.le_of_ble_eq_true rfl) (fun r19 w20 h21 => ?_)
      obtain ⟨rfl, rfl⟩ := h21
      refine g_if_eq cx 33 d_X11_put_26 (by decide) (fun zc26 => ?_) (fun zc26 => ?_)
      · refine g_iconst cx 0 (by decide) d_X11_put_33 ?_
        refine g_istore_n cx [(3, .int 0), (0, .ref (ad 0)), (1, .int a), (2, .int b)] d_X11_put_34 (by decide) rfl ?_
        refine g_iload_n cx 2 rfl d_X11_put_35 ?_
        refine g_aload_n cx 1 rfl d_X11_put_36 ?_
        refine g_get cx cl_X11 fl_X11_172 0 (.int 0) d_X11_put_37 rfl rfl ?_
        refine g_iconst cx (-1) (by decide) d_X11_put_40 ?_
        refine g_ixor cx d_X11_put_41 ?_
        refine g_toi (-1) (by decide) ?_
        refine g_iand cx d_X11_put_42 ?_
        refine g_if_ne cx 62 d_X11_put_43 (by decide) (fun zc43 => ?_) (fun zc43 => ?_)
        · refine g_iconst cx (-1) (by decide) d_X11_put_62 ?_
          exact hret d_X11_put_63 (Nat.le_of_ble_eq_true rfl) (Nat.le_of_ble_eq_true rfl) rfl (rfl)
        · refine g_iload_n cx 2 rfl d_X11_put_46 ?_
          refine g_toi 0 ((g_m1 a).symm.trans zc43) ?_
          refine g_cSiW cx [.int 0] [] (c0_X11_bits l X _) ml_X11_410 yS_X11_bits rfl d_X11_put_47 (by unfold g_rr; decide) (by decide) rfl (Nat.le_of_ble_eq_true rfl) (fun r22 w23 h24 => ?_)
          obtain ⟨rfl, rfl⟩ := h24
          refine g_iconst cx 2 (by decide) d_X11_put_50 ?_
          refine g_iconst cx 5 (by decide) d_X11_put_51 ?_
          refine g_cSiW cx [.int 0, .int 2, .int 5] [] (c_X11_in l X _ 0 2 5) ml_X11_165 yS_X11_in rfl d_X11_put_52 (by unfold g_rr; decide) (by decide) rfl (Nat.le_of_ble_eq_true rfl) (fun r25 w26 h27 => ?_)
          obtain ⟨rfl, rfl⟩ := h27
          refine g_toi 0 (by decide) ?_
          refine g_if_eq_t cx 62 d_X11_put_55 (by decide) (by decide) ?_
          refine g_iconst cx (-1) (by decide) d_X11_put_62 ?_
          exact hret d_X11_put_63 (Nat.le_of_ble_eq_true rfl) (Nat.le_of_ble_eq_true rfl) rfl (rfl)
      · refine g_iconst cx 1 (by decide) d_X11_put_29 ?_
        refine g_goto cx 34 d_X11_put_30 (by decide) ?_
        refine g_istore_n cx [(3, .int 1), (0, .ref (ad 0)), (1, .int a), (2, .int b)] d_X11_put_34 (by decide) rfl ?_
        refine g_iload_n cx 2 rfl d_X11_put_35 ?_
        refine g_aload_n cx 1 rfl d_X11_put_36 ?_
        refine g_get cx cl_X11 fl_X11_172 0 (.int 0) d_X11_put_37 rfl rfl ?_
        refine g_iconst cx (-1) (by decide) d_X11_put_40 ?_
        refine g_ixor cx d_X11_put_41 ?_
        refine g_toi (-1) (by decide) ?_
        refine g_iand cx d_X11_put_42 ?_
        refine g_if_ne cx 62 d_X11_put_43 (by decide) (fun zc43 => ?_) (fun zc43 => ?_)
        · refine g_iconst cx (-1) (by decide) d_X11_put_62 ?_
          exact hret d_X11_put_63 (Nat.le_of_ble_eq_true rfl) (Nat.le_of_ble_eq_true rfl) rfl (rfl)
        · refine g_iload_n cx 2 rfl d_X11_put_46 ?_
          refine g_toi 0 ((g_m1 a).symm.trans zc43) ?_
          refine g_cSiW cx [.int 0] [] (c0_X11_bits l X _) ml_X11_410 yS_X11_bits rfl d_X11_put_47 (by unfold g_rr; decide) (by decide) rfl (Nat.le_of_ble_eq_true rfl) (fun r28 w29 h30 => ?_)
          obtain ⟨rfl, rfl⟩ := h30
          refine g_iconst cx 2 (by decide) d_X11_put_50 ?_
          refine g_iconst cx 5 (by decide) d_X11_put_51 ?_
          refine g_cSiW cx [.int 0, .int 2, .int 5] [] (c_X11_in l X _ 0 2 5) ml_X11_165 yS_X11_in rfl d_X11_put_52 (by unfold g_rr; decide) (by decide) rfl (Nat.le_of_ble_eq_true rfl) (fun r31 w32 h33 => ?_)
          obtain ⟨rfl, rfl⟩ := h33
          refine g_toi 0 (by decide) ?_
          refine g_if_eq_t cx 62 d_X11_put_55 (by decide) (by decide) ?_
          refine g_iconst cx (-1) (by decide) d_X11_put_62 ?_
          exact hret d_X11_put_63 (Nat.le_of_ble_eq_true rfl) (Nat.le_of_ble_eq_true rfl) rfl (rfl)
theorem d_X11_most_0 : g_dc cX11_most 0 (.iload_n 1) 1 1 := ⟨by decide +kernel, rfl⟩
theorem d_X11_most_1 : g_dc cX11_most 1 (.iconst 0) 1 2 := ⟨by decide +kernel, rfl⟩
theorem d_X11_most_2 : g_dc cX11_most 2 (.iconst 1) 1 3 := ⟨by decide +kernel, rfl⟩
theorem d_X11_most_3 : g_dc cX11_most 3 (.invokestatic 165) 3 6 := ⟨by decide +kernel, rfl⟩
theorem d_X11_most_6 : g_dc cX11_most 6 (.ifCond .ne 5) 3 9 := ⟨by decide +kernel, rfl⟩
theorem d_X11_most_9 : g_dc cX11_most 9 (.iconst (-1)) 1 10 := ⟨by decide +kernel, rfl⟩
theorem d_X11_most_10 : g_dc cX11_most 10 (.ireturn) 1 11 := ⟨by decide +kernel, rfl⟩
theorem d_X11_most_11 : g_dc cX11_most 11 (.iconst 0) 1 12 := ⟨by decide +kernel, rfl⟩
theorem d_X11_most_12 : g_dc cX11_most 12 (.istore_n 2) 1 13 := ⟨by decide +kernel, rfl⟩
theorem d_X11_most_13 : g_dc cX11_most 13 (.iconst 1) 1 14 := ⟨by decide +kernel, rfl⟩
theorem d_X11_most_14 : g_dc cX11_most 14 (.istore_n 3) 1 15 := ⟨by decide +kernel, rfl⟩
theorem d_X11_most_15 : g_dc cX11_most 15 (.iload_n 3) 1 16 := ⟨by decide +kernel, rfl⟩
theorem d_X11_most_16 : g_dc cX11_most 16 (.sipush 1024) 3 19 := ⟨by decide +kernel, rfl⟩
theorem d_X11_most_19 : g_dc cX11_most 19 (.if_icmp .ge 61) 3 22 := ⟨by decide +kernel, rfl⟩
theorem d_X11_most_22 : g_dc cX11_most 22 (.iload_n 3) 1 23 := ⟨by decide +kernel, rfl⟩
theorem d_X11_most_23 : g_dc cX11_most 23 (.aload_n 0) 1 24 := ⟨by decide +kernel, rfl⟩
theorem d_X11_most_24 : g_dc cX11_most 24 (.getfield 172) 3 27 := ⟨by decide +kernel, rfl⟩
theorem d_X11_most_27 : g_dc cX11_most 27 (.iconst (-1)) 1 28 := ⟨by decide +kernel, rfl⟩
theorem d_X11_most_28 : g_dc cX11_most 28 (.ixor) 1 29 := ⟨by decide +kernel, rfl⟩
theorem d_X11_most_29 : g_dc cX11_most 29 (.iand) 1 30 := ⟨by decide +kernel, rfl⟩
theorem d_X11_most_30 : g_dc cX11_most 30 (.ifCond .ne 44) 3 33 := ⟨by decide +kernel, rfl⟩
theorem d_X11_most_74 : g_dc cX11_most 74 (.iinc 3 1) 3 77 := ⟨by decide +kernel, rfl⟩
theorem d_X11_most_77 : g_dc cX11_most 77 (.goto (-62)) 3 80 := ⟨by decide +kernel, rfl⟩
theorem d_X11_most_80 : g_dc cX11_most 80 (.iload_n 1) 1 81 := ⟨by decide +kernel, rfl⟩
theorem d_X11_most_81 : g_dc cX11_most 81 (.ifCond .ne 10) 3 84 := ⟨by decide +kernel, rfl⟩
theorem d_X11_most_84 : g_dc cX11_most 84 (.iload_n 2) 1 85 := ⟨by decide +kernel, rfl⟩
theorem d_X11_most_85 : g_dc cX11_most 85 (.invokestatic 410) 3 88 := ⟨by decide +kernel, rfl⟩
theorem d_X11_most_88 : g_dc cX11_most 88 (.goto 4) 3 91 := ⟨by decide +kernel, rfl⟩
theorem d_X11_most_91 : g_dc cX11_most 91 (.iload_n 2) 1 92 := ⟨by decide +kernel, rfl⟩
theorem d_X11_most_92 : g_dc cX11_most 92 (.ireturn) 1 93 := ⟨by decide +kernel, rfl⟩
set_option maxHeartbeats 4000000 in
set_option maxRecDepth 100000 in
theorem c_X11_most (l : Launch) (X : gX) (ad : Nat → Nat) (a : Int32) : g_Ci l X yX11_most cX11_most 4 (some .int) 3 0 0 [.ref (ad 0), .int a] (wM X ad fM0 r0) (fun r _ => r = S_most a) := by
  refine g_mi (by decide +kernel) (Nat.le_of_ble_eq_true rfl) (fun E cx hret => ?_)
  refine g_iload_n cx 1 rfl d_X11_most_0 ?_
  refine g_iconst cx 0 (by decide) d_X11_most_1 ?_
  refine g_iconst cx 1 (by decide) d_X11_most_2 ?_
  refine g_cSiW cx [.int a, .int 0, .int 1] [] (c_X11_in l X _ a 0 1) ml_X11_165 yS_X11_in rfl d_X11_most_3 (by unfold g_rr; decide) (by decide) rfl (Nat.le_of_ble_eq_true rfl) (fun r1 w2 h3 => ?_)
  obtain ⟨rfl, rfl⟩ := h3
  refine g_if_ne cx 11 d_X11_most_6 (by decide) (fun zc6 => ?_) (fun zc6 => ?_)
  · refine g_iconst cx 0 (by decide) d_X11_most_11 ?_
    refine g_istore_n cx [(2, .int 0), (0, .ref (ad 0)), (1, .int a)] d_X11_most_12 (by decide) rfl ?_
    refine g_iconst cx 1 (by decide) d_X11_most_13 ?_
    refine g_istore_n cx [(3, .int 1), (2, .int 0), (0, .ref (ad 0)), (1, .int a)] d_X11_most_14 (by decide) rfl ?_
    have L15 : ∀ (N : Nat) (i : Nat) (x3 : Int32), 1024 - i < N → (x3 = nI i) → (1 ≤ i) → (i ≤ 1024) → G X E 4 0 0 (wM X ad fM0 r0) [(0, .ref (ad 0)), (1, .int a), (2, .int 0), (3, .int x3)] 15 [] := by
      intro N
      induction N with
      | zero => intro i x3 hm; exact absurd hm (Nat.not_lt_zero _)
      | succ N ih15 =>
        intro i x3 hm hx h1 hi
        refine g_iload_n cx 3 rfl d_X11_most_15 ?_
        refine g_sipush cx 1024 (by decide) d_X11_most_16 ?_
        refine g_icmp_ge cx 80 d_X11_most_19 (by decide) (fun zc19 => ?_) (fun zc19 => ?_)
        · refine g_iload_n cx 1 rfl d_X11_most_80 ?_
          refine g_if_ne cx 91 d_X11_most_81 (by decide) (fun zc81 => ?_) (fun zc81 => ?_)
          · refine g_iload_n cx 2 rfl d_X11_most_91 ?_
            exact hret d_X11_most_92 (Nat.le_of_ble_eq_true rfl) (Nat.le_of_ble_eq_true rfl) rfl (by show _ = S_most a; unfold S_most; first | rw [if_neg zc6] | rw [if_pos zc6])
          · refine g_iload_n cx 2 rfl d_X11_most_84 ?_
            refine g_cSiW cx [.int 0] [] (c0_X11_bits l X _) ml_X11_410 yS_X11_bits rfl d_X11_most_85 (by unfold g_rr; decide) (by decide) rfl (Nat.le_of_ble_eq_true rfl) (fun r4 w5 h6 => ?_)
            obtain ⟨rfl, rfl⟩ := h6
            refine g_goto cx 92 d_X11_most_88 (by decide) ?_
            exact hret d_X11_most_92 (Nat.le_of_ble_eq_true rfl) (Nat.le_of_ble_eq_true rfl) rfl (by show _ = S_most a; unfold S_most; first | rw [if_neg zc6] | rw [if_pos zc6])
        · refine g_iload_n cx 3 rfl d_X11_most_22 ?_
          refine g_aload_n cx 0 rfl d_X11_most_23 ?_
          refine g_get cx cl_X11 fl_X11_172 0 (.int 0) d_X11_most_24 rfl rfl ?_
          refine g_iconst cx (-1) (by decide) d_X11_most_27 ?_
          refine g_ixor cx d_X11_most_28 ?_
          refine g_toi (-1) (by decide) ?_
          refine g_iand cx d_X11_most_29 ?_
          refine g_if_ne_t cx 74 d_X11_most_30 (by decide) (by rw [g_m1, hx]; exact nI_ne0 (by omega) (by omega)) ?_
          refine g_iinc cx (x3 + 1) [(3, .int (x3 + 1)), (0, .ref (ad 0)), (1, .int a), (2, .int 0)] 3 d_X11_most_74 rfl (rfl) (by decide) rfl ?_
          refine g_goto cx 15 d_X11_most_77 (by decide) ?_
          refine g_lsub [1, 2, 3, 0] [(0, .ref (ad 0)), (1, .int a), (2, .int 0), (3, .int (x3 + 1))] rfl ?_
          exact ih15 (i + 1) (x3 + 1) (by have := g_lt10 (n := 1024) hx (by omega) zc19; omega) (by rw [hx]; exact nI_1 i) (by omega) (by have := g_lt10 (n := 1024) hx (by omega) zc19; omega)
    refine g_lsub [2, 3, 1, 0] [(0, .ref (ad 0)), (1, .int a), (2, .int 0), (3, .int 1)] rfl ?_
    exact L15 _ 1 1 (Nat.lt_succ_self _) rfl (by omega) (by omega)
  · refine g_iconst cx (-1) (by decide) d_X11_most_9 ?_
    exact hret d_X11_most_10 (Nat.le_of_ble_eq_true rfl) (Nat.le_of_ble_eq_true rfl) rfl (by show _ = S_most a; unfold S_most; first | rw [if_neg zc6] | rw [if_pos zc6])
theorem d_X11_worth_0 : g_dc cX11_worth 0 (.iload_n 2) 1 1 := ⟨by decide +kernel, rfl⟩
theorem d_X11_worth_1 : g_dc cX11_worth 1 (.iconst 0) 1 2 := ⟨by decide +kernel, rfl⟩
theorem d_X11_worth_2 : g_dc cX11_worth 2 (.iconst 3) 1 3 := ⟨by decide +kernel, rfl⟩
theorem d_X11_worth_3 : g_dc cX11_worth 3 (.invokestatic 165) 3 6 := ⟨by decide +kernel, rfl⟩
theorem d_X11_worth_6 : g_dc cX11_worth 6 (.ifCond .ne 7) 3 9 := ⟨by decide +kernel, rfl⟩
theorem d_X11_worth_9 : g_dc cX11_worth 9 (.ldc_w 470) 3 12 := ⟨by decide +kernel, rfl⟩
theorem d_X11_worth_12 : g_dc cX11_worth 12 (.ireturn) 1 13 := ⟨by decide +kernel, rfl⟩
theorem d_X11_worth_13 : g_dc cX11_worth 13 (.iload_n 2) 1 14 := ⟨by decide +kernel, rfl⟩
theorem d_X11_worth_14 : g_dc cX11_worth 14 (.iconst 2) 1 15 := ⟨by decide +kernel, rfl⟩
theorem d_X11_worth_15 : g_dc cX11_worth 15 (.if_icmp .ge 7) 3 18 := ⟨by decide +kernel, rfl⟩
theorem d_X11_worth_18 : g_dc cX11_worth 18 (.iconst 1) 1 19 := ⟨by decide +kernel, rfl⟩
theorem d_X11_worth_19 : g_dc cX11_worth 19 (.goto 4) 3 22 := ⟨by decide +kernel, rfl⟩
theorem d_X11_worth_22 : g_dc cX11_worth 22 (.iconst 0) 1 23 := ⟨by decide +kernel, rfl⟩
theorem d_X11_worth_23 : g_dc cX11_worth 23 (.istore_n 3) 1 24 := ⟨by decide +kernel, rfl⟩
theorem d_X11_worth_24 : g_dc cX11_worth 24 (.iload_n 3) 1 25 := ⟨by decide +kernel, rfl⟩
theorem d_X11_worth_25 : g_dc cX11_worth 25 (.ifCond .eq 26) 3 28 := ⟨by decide +kernel, rfl⟩
theorem d_X11_worth_28 : g_dc cX11_worth 28 (.iload_n 1) 1 29 := ⟨by decide +kernel, rfl⟩
theorem d_X11_worth_29 : g_dc cX11_worth 29 (.iconst 0) 1 30 := ⟨by decide +kernel, rfl⟩
theorem d_X11_worth_30 : g_dc cX11_worth 30 (.iconst 5) 1 31 := ⟨by decide +kernel, rfl⟩
theorem d_X11_worth_31 : g_dc cX11_worth 31 (.invokestatic 165) 3 34 := ⟨by decide +kernel, rfl⟩
theorem d_X11_worth_34 : g_dc cX11_worth 34 (.ifCond .eq 34) 3 37 := ⟨by decide +kernel, rfl⟩
theorem d_X11_worth_37 : g_dc cX11_worth 37 (.aload_n 0) 1 38 := ⟨by decide +kernel, rfl⟩
theorem d_X11_worth_38 : g_dc cX11_worth 38 (.getfield 169) 3 41 := ⟨by decide +kernel, rfl⟩
theorem d_X11_worth_41 : g_dc cX11_worth 41 (.iload_n 1) 1 42 := ⟨by decide +kernel, rfl⟩
theorem d_X11_worth_42 : g_dc cX11_worth 42 (.invokestatic 175) 3 45 := ⟨by decide +kernel, rfl⟩
theorem d_X11_worth_45 : g_dc cX11_worth 45 (.ifCond .ne 27) 3 48 := ⟨by decide +kernel, rfl⟩
theorem d_X11_worth_48 : g_dc cX11_worth 48 (.goto 20) 3 51 := ⟨by decide +kernel, rfl⟩
theorem d_X11_worth_51 : g_dc cX11_worth 51 (.aload_n 0) 1 52 := ⟨by decide +kernel, rfl⟩
theorem d_X11_worth_52 : g_dc cX11_worth 52 (.iload_n 1) 1 53 := ⟨by decide +kernel, rfl⟩
theorem d_X11_worth_53 : g_dc cX11_worth 53 (.invokevirtual 179) 3 56 := ⟨by decide +kernel, rfl⟩
theorem d_X11_worth_56 : g_dc cX11_worth 56 (.ifCond .eq 12) 3 59 := ⟨by decide +kernel, rfl⟩
theorem d_X11_worth_68 : g_dc cX11_worth 68 (.ldc_w 470) 3 71 := ⟨by decide +kernel, rfl⟩
theorem d_X11_worth_71 : g_dc cX11_worth 71 (.ireturn) 1 72 := ⟨by decide +kernel, rfl⟩
set_option maxHeartbeats 4000000 in
set_option maxRecDepth 100000 in
theorem c_X11_worth (l : Launch) (X : gX) (ad : Nat → Nat) (a b : Int32) : g_Ci l X yX11_worth cX11_worth 6 (some .int) 3 0 0 [.ref (ad 0), .int a, .int b] (wM X ad fM0 r0) (fun r _ => r = -100000) := by
  refine g_mi (by decide +kernel) (Nat.le_of_ble_eq_true rfl) (fun E cx hret => ?_)
  refine g_iload_n cx 2 rfl d_X11_worth_0 ?_
  refine g_iconst cx 0 (by decide) d_X11_worth_1 ?_
  refine g_iconst cx 3 (by decide) d_X11_worth_2 ?_
  refine g_cSiW cx [.int b, .int 0, .int 3] [] (c_X11_in l X _ b 0 3) ml_X11_165 yS_X11_in rfl d_X11_worth_3 (by unfold g_rr; decide) (by decide) rfl (Nat.le_of_ble_eq_true rfl) (fun r1 w2 h3 => ?_)
  obtain ⟨rfl, rfl⟩ := h3
  refine g_if_ne cx 13 d_X11_worth_6 (by decide) (fun zc6 => ?_) (fun zc6 => ?_)
  · refine g_iload_n cx 2 rfl d_X11_worth_13 ?_
    refine g_iconst cx 2 (by decide) d_X11_worth_14 ?_
    refine g_icmp_ge cx 22 d_X11_worth_15 (by decide) (fun zc15 => ?_) (fun zc15 => ?_)
    · refine g_iconst cx 0 (by decide) d_X11_worth_22 ?_
      refine g_istore_n cx [(3, .int 0), (0, .ref (ad 0)), (1, .int a), (2, .int b)] d_X11_worth_23 (by decide) rfl ?_
      refine g_iload_n cx 0 rfl d_X11_worth_24 ?_
      refine g_if_eq_t cx 51 d_X11_worth_25 (by decide) (by decide) ?_
      refine g_aload_n cx 1 rfl d_X11_worth_51 ?_
      refine g_iload_n cx 2 rfl d_X11_worth_52 ?_
      refine g_cViW cx [.int a] [] (c_X11_isTold l X ad fM0 r0 a rfl) ml_X11_179 yV_X11_isTold d_X11_worth_53 (by unfold g_rr; decide) (by decide) 0 rfl rfl rfl (Nat.le_of_ble_eq_true rfl) (fun r4 w5 h6 => ?_)
      obtain ⟨rfl, rfl⟩ := h6
      refine g_if_eq_t cx 68 d_X11_worth_56 (by decide) (by decide) ?_
      refine g_ldcw cx (-100000) kc_X11_470 d_X11_worth_68 ?_
      exact hret d_X11_worth_71 (Nat.le_of_ble_eq_true rfl) (Nat.le_of_ble_eq_true rfl) rfl (rfl)
    · refine g_iconst cx 1 (by decide) d_X11_worth_18 ?_
      refine g_goto cx 23 d_X11_worth_19 (by decide) ?_
      refine g_istore_n cx [(3, .int 1), (0, .ref (ad 0)), (1, .int a), (2, .int b)] d_X11_worth_23 (by decide) rfl ?_
      refine g_iload_n cx 0 rfl d_X11_worth_24 ?_
      refine g_if_eq_f cx 51 d_X11_worth_25 (by decide) (by decide) ?_
      refine g_iload_n cx 2 rfl d_X11_worth_28 ?_
      refine g_iconst cx 0 (by decide) d_X11_worth_29 ?_
      refine g_iconst cx 5 (by decide) d_X11_worth_30 ?_
      refine g_cSiW cx [.int a, .int 0, .int 5] [] (c_X11_in l X _ a 0 5) ml_X11_165 yS_X11_in rfl d_X11_worth_31 (by unfold g_rr; decide) (by decide) rfl (Nat.le_of_ble_eq_true rfl) (fun r7 w8 h9 => ?_)
      obtain ⟨rfl, rfl⟩ := h9
      refine g_if_eq cx 68 d_X11_worth_34 (by decide) (fun zc34 => ?_) (fun zc34 => ?_)
      · refine g_ldcw cx (-100000) kc_X11_470 d_X11_worth_68 ?_
        exact hret d_X11_worth_71 (Nat.le_of_ble_eq_true rfl) (Nat.le_of_ble_eq_true rfl) rfl (rfl)
      · refine g_aload_n cx 1 rfl d_X11_worth_37 ?_
        refine g_get cx cl_X11 fl_X11_169 0 (.int 0) d_X11_worth_38 rfl rfl ?_
        refine g_iload_n cx 2 rfl d_X11_worth_41 ?_
        refine g_cSiW cx [.int 0, .int a] [] (c_X11_has l X _ 0 a) ml_X11_175 yS_X11_has rfl d_X11_worth_42 (by unfold g_rr; decide) (by decide) rfl (Nat.le_of_ble_eq_true rfl) (fun r10 w11 h12 => ?_)
        obtain ⟨rfl, rfl⟩ := h12
        refine g_toi 0 (g_mh0 _) ?_
        refine g_if_ne_f cx 72 d_X11_worth_45 (by decide) (by decide) ?_
        refine g_goto cx 68 d_X11_worth_48 (by decide) ?_
        refine g_ldcw cx (-100000) kc_X11_470 d_X11_worth_68 ?_
        exact hret d_X11_worth_71 (Nat.le_of_ble_eq_true rfl) (Nat.le_of_ble_eq_true rfl) rfl (rfl)
  · refine g_ldcw cx (-100000) kc_X11_470 d_X11_worth_9 ?_
    exact hret d_X11_worth_12 (Nat.le_of_ble_eq_true rfl) (Nat.le_of_ble_eq_true rfl) rfl (rfl)
theorem d_X11_takesPlaces_0 : g_dc cX11_takesPlaces 0 (.aload_n 0) 1 1 := ⟨by decide +kernel, rfl⟩
theorem d_X11_takesPlaces_1 : g_dc cX11_takesPlaces 1 (.getfield 172) 3 4 := ⟨by decide +kernel, rfl⟩
theorem d_X11_takesPlaces_4 : g_dc cX11_takesPlaces 4 (.ifCond .eq 17) 3 7 := ⟨by decide +kernel, rfl⟩
theorem d_X11_takesPlaces_21 : g_dc cX11_takesPlaces 21 (.iconst 0) 1 22 := ⟨by decide +kernel, rfl⟩
theorem d_X11_takesPlaces_22 : g_dc cX11_takesPlaces 22 (.ireturn) 1 23 := ⟨by decide +kernel, rfl⟩
set_option maxHeartbeats 4000000 in
set_option maxRecDepth 100000 in
theorem c_X11_takesPlaces (l : Launch) (X : gX) (ad : Nat → Nat) : g_Ci l X yX11_takesPlaces cX11_takesPlaces 3 (some .boolean) 2 0 0 [.ref (ad 0)] (wM X ad fM0 r0) (fun r w => w = wM X ad fM0 r0 ∧ r = 0) := by
  refine g_mi (by decide +kernel) (Nat.le_of_ble_eq_true rfl) (fun E cx hret => ?_)
  refine g_aload_n cx 0 rfl d_X11_takesPlaces_0 ?_
  refine g_get cx cl_X11 fl_X11_172 0 (.int 0) d_X11_takesPlaces_1 rfl rfl ?_
  refine g_if_eq_t cx 21 d_X11_takesPlaces_4 (by decide) (by decide) ?_
  refine g_iconst cx 0 (by decide) d_X11_takesPlaces_21 ?_
  exact hret d_X11_takesPlaces_22 (Nat.le_of_ble_eq_true rfl) (Nat.le_of_ble_eq_true rfl) rfl (⟨rfl, rfl⟩)
theorem d_X11_wasWet_0 : g_dc cX11_wasWet 0 (.iload_n 1) 1 1 := ⟨by decide +kernel, rfl⟩
theorem d_X11_wasWet_1 : g_dc cX11_wasWet 1 (.iconst 0) 1 2 := ⟨by decide +kernel, rfl⟩
theorem d_X11_wasWet_2 : g_dc cX11_wasWet 2 (.iconst 2) 1 3 := ⟨by decide +kernel, rfl⟩
theorem d_X11_wasWet_3 : g_dc cX11_wasWet 3 (.invokestatic 165) 3 6 := ⟨by decide +kernel, rfl⟩
theorem d_X11_wasWet_6 : g_dc cX11_wasWet 6 (.ifCond .eq 10) 3 9 := ⟨by decide +kernel, rfl⟩
theorem d_X11_wasWet_9 : g_dc cX11_wasWet 9 (.aload_n 0) 1 10 := ⟨by decide +kernel, rfl⟩
theorem d_X11_wasWet_10 : g_dc cX11_wasWet 10 (.invokevirtual 471) 3 13 := ⟨by decide +kernel, rfl⟩
theorem d_X11_wasWet_13 : g_dc cX11_wasWet 13 (.ifCond .ne 5) 3 16 := ⟨by decide +kernel, rfl⟩
theorem d_X11_wasWet_16 : g_dc cX11_wasWet 16 (.iconst (-1)) 1 17 := ⟨by decide +kernel, rfl⟩
theorem d_X11_wasWet_17 : g_dc cX11_wasWet 17 (.ireturn) 1 18 := ⟨by decide +kernel, rfl⟩
set_option maxHeartbeats 4000000 in
set_option maxRecDepth 100000 in
theorem c_X11_wasWet (l : Launch) (X : gX) (ad : Nat → Nat) (a : Int32) : g_Ci l X yX11_wasWet cX11_wasWet 6 (some .int) 3 0 0 [.ref (ad 0), .int a] (wM X ad fM0 r0) (fun r _ => r = -1) := by
  refine g_mi (by decide +kernel) (Nat.le_of_ble_eq_true rfl) (fun E cx hret => ?_)
  refine g_iload_n cx 1 rfl d_X11_wasWet_0 ?_
  refine g_iconst cx 0 (by decide) d_X11_wasWet_1 ?_
  refine g_iconst cx 2 (by decide) d_X11_wasWet_2 ?_
  refine g_cSiW cx [.int a, .int 0, .int 2] [] (c_X11_in l X _ a 0 2) ml_X11_165 yS_X11_in rfl d_X11_wasWet_3 (by unfold g_rr; decide) (by decide) rfl (Nat.le_of_ble_eq_true rfl) (fun r1 w2 h3 => ?_)
  obtain ⟨rfl, rfl⟩ := h3
  refine g_if_eq cx 16 d_X11_wasWet_6 (by decide) (fun zc6 => ?_) (fun zc6 => ?_)
  · refine g_iconst cx (-1) (by decide) d_X11_wasWet_16 ?_
    exact hret d_X11_wasWet_17 (Nat.le_of_ble_eq_true rfl) (Nat.le_of_ble_eq_true rfl) rfl (rfl)
  · refine g_aload_n cx 0 rfl d_X11_wasWet_9 ?_
    refine g_cViW cx [] [] (c_X11_takesPlaces l X ad) ml_X11_471 yV_X11_takesPlaces d_X11_wasWet_10 (by unfold g_rr; decide) (by decide) 0 rfl rfl rfl (Nat.le_of_ble_eq_true rfl) (fun r4 w5 h6 => ?_)
    obtain ⟨rfl, rfl⟩ := h6
    refine g_if_ne_f cx 18 d_X11_wasWet_13 (by decide) (by decide) ?_
    refine g_iconst cx (-1) (by decide) d_X11_wasWet_16 ?_
    exact hret d_X11_wasWet_17 (Nat.le_of_ble_eq_true rfl) (Nat.le_of_ble_eq_true rfl) rfl (rfl)
theorem d_X11_howQuick_0 : g_dc cX11_howQuick 0 (.iload_n 1) 1 1 := ⟨by decide +kernel, rfl⟩
theorem d_X11_howQuick_1 : g_dc cX11_howQuick 1 (.iconst 0) 1 2 := ⟨by decide +kernel, rfl⟩
theorem d_X11_howQuick_2 : g_dc cX11_howQuick 2 (.iconst 1) 1 3 := ⟨by decide +kernel, rfl⟩
theorem d_X11_howQuick_3 : g_dc cX11_howQuick 3 (.invokestatic 165) 3 6 := ⟨by decide +kernel, rfl⟩
theorem d_X11_howQuick_6 : g_dc cX11_howQuick 6 (.ifCond .eq 10) 3 9 := ⟨by decide +kernel, rfl⟩
theorem d_X11_howQuick_9 : g_dc cX11_howQuick 9 (.aload_n 0) 1 10 := ⟨by decide +kernel, rfl⟩
theorem d_X11_howQuick_10 : g_dc cX11_howQuick 10 (.invokevirtual 471) 3 13 := ⟨by decide +kernel, rfl⟩
theorem d_X11_howQuick_13 : g_dc cX11_howQuick 13 (.ifCond .ne 5) 3 16 := ⟨by decide +kernel, rfl⟩
theorem d_X11_howQuick_16 : g_dc cX11_howQuick 16 (.iconst (-1)) 1 17 := ⟨by decide +kernel, rfl⟩
theorem d_X11_howQuick_17 : g_dc cX11_howQuick 17 (.ireturn) 1 18 := ⟨by decide +kernel, rfl⟩
set_option maxHeartbeats 4000000 in
set_option maxRecDepth 100000 in
theorem c_X11_howQuick (l : Launch) (X : gX) (ad : Nat → Nat) (a : Int32) : g_Ci l X yX11_howQuick cX11_howQuick 5 (some .int) 3 0 0 [.ref (ad 0), .int a] (wM X ad fM0 r0) (fun r _ => r = -1) := by
  refine g_mi (by decide +kernel) (Nat.le_of_ble_eq_true rfl) (fun E cx hret => ?_)
  refine g_iload_n cx 1 rfl d_X11_howQuick_0 ?_
  refine g_iconst cx 0 (by decide) d_X11_howQuick_1 ?_
  refine g_iconst cx 1 (by decide) d_X11_howQuick_2 ?_
  refine g_cSiW cx [.int a, .int 0, .int 1] [] (c_X11_in l X _ a 0 1) ml_X11_165 yS_X11_in rfl d_X11_howQuick_3 (by unfold g_rr; decide) (by decide) rfl (Nat.le_of_ble_eq_true rfl) (fun r1 w2 h3 => ?_)
  obtain ⟨rfl, rfl⟩ := h3
  refine g_if_eq cx 16 d_X11_howQuick_6 (by decide) (fun zc6 => ?_) (fun zc6 => ?_)
  · refine g_iconst cx (-1) (by decide) d_X11_howQuick_16 ?_
    exact hret d_X11_howQuick_17 (Nat.le_of_ble_eq_true rfl) (Nat.le_of_ble_eq_true rfl) rfl (rfl)
  · refine g_aload_n cx 0 rfl d_X11_howQuick_9 ?_
    refine g_cViW cx [] [] (c_X11_takesPlaces l X ad) ml_X11_471 yV_X11_takesPlaces d_X11_howQuick_10 (by unfold g_rr; decide) (by decide) 0 rfl rfl rfl (Nat.le_of_ble_eq_true rfl) (fun r4 w5 h6 => ?_)
    obtain ⟨rfl, rfl⟩ := h6
    refine g_if_ne_f cx 18 d_X11_howQuick_13 (by decide) (by decide) ?_
    refine g_iconst cx (-1) (by decide) d_X11_howQuick_16 ?_
    exact hret d_X11_howQuick_17 (Nat.le_of_ble_eq_true rfl) (Nat.le_of_ble_eq_true rfl) rfl (rfl)
theorem d_X11_odds_0 : g_dc cX11_odds 0 (.iload_n 1) 1 1 := ⟨by decide +kernel, rfl⟩
theorem d_X11_odds_1 : g_dc cX11_odds 1 (.iconst 1) 1 2 := ⟨by decide +kernel, rfl⟩
theorem d_X11_odds_2 : g_dc cX11_odds 2 (.iconst 3) 1 3 := ⟨by decide +kernel, rfl⟩
theorem d_X11_odds_3 : g_dc cX11_odds 3 (.invokestatic 165) 3 6 := ⟨by decide +kernel, rfl⟩
theorem d_X11_odds_6 : g_dc cX11_odds 6 (.ifCond .eq 29) 3 9 := ⟨by decide +kernel, rfl⟩
theorem d_X11_odds_9 : g_dc cX11_odds 9 (.iload_n 2) 1 10 := ⟨by decide +kernel, rfl⟩
theorem d_X11_odds_10 : g_dc cX11_odds 10 (.iconst 0) 1 11 := ⟨by decide +kernel, rfl⟩
theorem d_X11_odds_11 : g_dc cX11_odds 11 (.bipush 10) 2 13 := ⟨by decide +kernel, rfl⟩
theorem d_X11_odds_13 : g_dc cX11_odds 13 (.invokestatic 165) 3 16 := ⟨by decide +kernel, rfl⟩
theorem d_X11_odds_16 : g_dc cX11_odds 16 (.ifCond .eq 19) 3 19 := ⟨by decide +kernel, rfl⟩
theorem d_X11_odds_19 : g_dc cX11_odds 19 (.iload_n 3) 1 20 := ⟨by decide +kernel, rfl⟩
theorem d_X11_odds_20 : g_dc cX11_odds 20 (.iconst 0) 1 21 := ⟨by decide +kernel, rfl⟩
theorem d_X11_odds_21 : g_dc cX11_odds 21 (.iconst 1) 1 22 := ⟨by decide +kernel, rfl⟩
theorem d_X11_odds_22 : g_dc cX11_odds 22 (.invokestatic 165) 3 25 := ⟨by decide +kernel, rfl⟩
theorem d_X11_odds_25 : g_dc cX11_odds 25 (.ifCond .eq 10) 3 28 := ⟨by decide +kernel, rfl⟩
theorem d_X11_odds_28 : g_dc cX11_odds 28 (.aload_n 0) 1 29 := ⟨by decide +kernel, rfl⟩
theorem d_X11_odds_29 : g_dc cX11_odds 29 (.getfield 228) 3 32 := ⟨by decide +kernel, rfl⟩
theorem d_X11_odds_32 : g_dc cX11_odds 32 (.ifCond .ne 5) 3 35 := ⟨by decide +kernel, rfl⟩
theorem d_X11_odds_35 : g_dc cX11_odds 35 (.iconst (-1)) 1 36 := ⟨by decide +kernel, rfl⟩
theorem d_X11_odds_36 : g_dc cX11_odds 36 (.ireturn) 1 37 := ⟨by decide +kernel, rfl⟩
set_option maxHeartbeats 4000000 in
set_option maxRecDepth 100000 in
theorem c_X11_odds (l : Launch) (X : gX) (ad : Nat → Nat) (a b c : Int32) : g_Ci l X yX11_odds cX11_odds 6 (some .int) 3 0 0 [.ref (ad 0), .int a, .int b, .int c] (wM X ad fM0 r0) (fun r _ => r = -1) := by
  refine g_mi (by decide +kernel) (Nat.le_of_ble_eq_true rfl) (fun E cx hret => ?_)
  refine g_iload_n cx 1 rfl d_X11_odds_0 ?_
  refine g_iconst cx 1 (by decide) d_X11_odds_1 ?_
  refine g_iconst cx 3 (by decide) d_X11_odds_2 ?_
  refine g_cSiW cx [.int a, .int 1, .int 3] [] (c_X11_in l X _ a 1 3) ml_X11_165 yS_X11_in rfl d_X11_odds_3 (by unfold g_rr; decide) (by decide) rfl (Nat.le_of_ble_eq_true rfl) (fun r1 w2 h3 => ?_)
  obtain ⟨rfl, rfl⟩ := h3
  refine g_if_eq cx 35 d_X11_odds_6 (by decide) (fun zc6 => ?_) (fun zc6 => ?_)
  · refine g_iconst cx (-1) (by decide) d_X11_odds_35 ?_
    exact hret d_X11_odds_36 (Nat.le_of_ble_eq_true rfl) (Nat.le_of_ble_eq_true rfl) rfl (rfl)
  · refine g_iload_n cx 2 rfl d_X11_odds_9 ?_
    refine g_iconst cx 0 (by decide) d_X11_odds_10 ?_
    refine g_bipush cx 10 (by decide) d_X11_odds_11 ?_
    refine g_cSiW cx [.int b, .int 0, .int 10] [] (c_X11_in l X _ b 0 10) ml_X11_165 yS_X11_in rfl d_X11_odds_13 (by unfold g_rr; decide) (by decide) rfl (Nat.le_of_ble_eq_true rfl) (fun r4 w5 h6 => ?_)
    obtain ⟨rfl, rfl⟩ := h6
    refine g_if_eq cx 35 d_X11_odds_16 (by decide) (fun zc16 => ?_) (fun zc16 => ?_)
    · refine g_iconst cx (-1) (by decide) d_X11_odds_35 ?_
      exact hret d_X11_odds_36 (Nat.le_of_ble_eq_true rfl) (Nat.le_of_ble_eq_true rfl) rfl (rfl)
    · refine g_iload_n cx 3 rfl d_X11_odds_19 ?_
      refine g_iconst cx 0 (by decide) d_X11_odds_20 ?_
      refine g_iconst cx 1 (by decide) d_X11_odds_21 ?_
      refine g_cSiW cx [.int c, .int 0, .int 1] [] (c_X11_in l X _ c 0 1) ml_X11_165 yS_X11_in rfl d_X11_odds_22 (by unfold g_rr; decide) (by decide) rfl (Nat.le_of_ble_eq_true rfl) (fun r7 w8 h9 => ?_)
      obtain ⟨rfl, rfl⟩ := h9
      refine g_if_eq cx 35 d_X11_odds_25 (by decide) (fun zc25 => ?_) (fun zc25 => ?_)
      · refine g_iconst cx (-1) (by decide) d_X11_odds_35 ?_
        exact hret d_X11_odds_36 (Nat.le_of_ble_eq_true rfl) (Nat.le_of_ble_eq_true rfl) rfl (rfl)
      · refine g_aload_n cx 0 rfl d_X11_odds_28 ?_
        refine g_get cx cl_X11 fl_X11_228 0 (.int 0) d_X11_odds_29 rfl rfl ?_
        refine g_if_ne_f cx 37 d_X11_odds_32 (by decide) (by decide) ?_
        refine g_iconst cx (-1) (by decide) d_X11_odds_35 ?_
        exact hret d_X11_odds_36 (Nat.le_of_ble_eq_true rfl) (Nat.le_of_ble_eq_true rfl) rfl (rfl)
theorem d_X11_should_0 : g_dc cX11_should 0 (.iload_n 1) 1 1 := ⟨by decide +kernel, rfl⟩
theorem d_X11_should_1 : g_dc cX11_should 1 (.iconst 1) 1 2 := ⟨by decide +kernel, rfl⟩
theorem d_X11_should_2 : g_dc cX11_should 2 (.iconst 3) 1 3 := ⟨by decide +kernel, rfl⟩
theorem d_X11_should_3 : g_dc cX11_should 3 (.invokestatic 165) 3 6 := ⟨by decide +kernel, rfl⟩
theorem d_X11_should_6 : g_dc cX11_should 6 (.ifCond .eq 21) 3 9 := ⟨by decide +kernel, rfl⟩
theorem d_X11_should_9 : g_dc cX11_should 9 (.iload_n 2) 1 10 := ⟨by decide +kernel, rfl⟩
theorem d_X11_should_10 : g_dc cX11_should 10 (.iconst 0) 1 11 := ⟨by decide +kernel, rfl⟩
theorem d_X11_should_11 : g_dc cX11_should 11 (.sipush 9999) 3 14 := ⟨by decide +kernel, rfl⟩
theorem d_X11_should_14 : g_dc cX11_should 14 (.invokestatic 165) 3 17 := ⟨by decide +kernel, rfl⟩
theorem d_X11_should_17 : g_dc cX11_should 17 (.ifCond .eq 10) 3 20 := ⟨by decide +kernel, rfl⟩
theorem d_X11_should_20 : g_dc cX11_should 20 (.aload_n 0) 1 21 := ⟨by decide +kernel, rfl⟩
theorem d_X11_should_21 : g_dc cX11_should 21 (.getfield 228) 3 24 := ⟨by decide +kernel, rfl⟩
theorem d_X11_should_24 : g_dc cX11_should 24 (.ifCond .ne 7) 3 27 := ⟨by decide +kernel, rfl⟩
theorem d_X11_should_27 : g_dc cX11_should 27 (.ldc_w 486) 3 30 := ⟨by decide +kernel, rfl⟩
theorem d_X11_should_30 : g_dc cX11_should 30 (.ireturn) 1 31 := ⟨by decide +kernel, rfl⟩
set_option maxHeartbeats 4000000 in
set_option maxRecDepth 100000 in
theorem c_X11_should (l : Launch) (X : gX) (ad : Nat → Nat) (a b : Int32) : g_Ci l X yX11_should cX11_should 7 (some .int) 3 0 0 [.ref (ad 0), .int a, .int b] (wM X ad fM0 r0) (fun r _ => r = -1000000000) := by
  refine g_mi (by decide +kernel) (Nat.le_of_ble_eq_true rfl) (fun E cx hret => ?_)
  refine g_iload_n cx 1 rfl d_X11_should_0 ?_
  refine g_iconst cx 1 (by decide) d_X11_should_1 ?_
  refine g_iconst cx 3 (by decide) d_X11_should_2 ?_
  refine g_cSiW cx [.int a, .int 1, .int 3] [] (c_X11_in l X _ a 1 3) ml_X11_165 yS_X11_in rfl d_X11_should_3 (by unfold g_rr; decide) (by decide) rfl (Nat.le_of_ble_eq_true rfl) (fun r1 w2 h3 => ?_)
  obtain ⟨rfl, rfl⟩ := h3
  refine g_if_eq cx 27 d_X11_should_6 (by decide) (fun zc6 => ?_) (fun zc6 => ?_)
  · refine g_ldcw cx (-1000000000) kc_X11_486 d_X11_should_27 ?_
    exact hret d_X11_should_30 (Nat.le_of_ble_eq_true rfl) (Nat.le_of_ble_eq_true rfl) rfl (rfl)
  · refine g_iload_n cx 2 rfl d_X11_should_9 ?_
    refine g_iconst cx 0 (by decide) d_X11_should_10 ?_
    refine g_sipush cx 9999 (by decide) d_X11_should_11 ?_
    refine g_cSiW cx [.int b, .int 0, .int 9999] [] (c_X11_in l X _ b 0 9999) ml_X11_165 yS_X11_in rfl d_X11_should_14 (by unfold g_rr; decide) (by decide) rfl (Nat.le_of_ble_eq_true rfl) (fun r4 w5 h6 => ?_)
    obtain ⟨rfl, rfl⟩ := h6
    refine g_if_eq cx 27 d_X11_should_17 (by decide) (fun zc17 => ?_) (fun zc17 => ?_)
    · refine g_ldcw cx (-1000000000) kc_X11_486 d_X11_should_27 ?_
      exact hret d_X11_should_30 (Nat.le_of_ble_eq_true rfl) (Nat.le_of_ble_eq_true rfl) rfl (rfl)
    · refine g_aload_n cx 0 rfl d_X11_should_20 ?_
      refine g_get cx cl_X11 fl_X11_228 0 (.int 0) d_X11_should_21 rfl rfl ?_
      refine g_if_ne_f cx 31 d_X11_should_24 (by decide) (by decide) ?_
      refine g_ldcw cx (-1000000000) kc_X11_486 d_X11_should_27 ?_
      exact hret d_X11_should_30 (Nat.le_of_ble_eq_true rfl) (Nat.le_of_ble_eq_true rfl) rfl (rfl)
theorem d_X11_seed_0 : g_dc cX11_seed 0 (.iload_n 1) 1 1 := ⟨by decide +kernel, rfl⟩
theorem d_X11_seed_1 : g_dc cX11_seed 1 (.iconst 0) 1 2 := ⟨by decide +kernel, rfl⟩
theorem d_X11_seed_2 : g_dc cX11_seed 2 (.ldc_w 490) 3 5 := ⟨by decide +kernel, rfl⟩
theorem d_X11_seed_5 : g_dc cX11_seed 5 (.invokestatic 165) 3 8 := ⟨by decide +kernel, rfl⟩
theorem d_X11_seed_8 : g_dc cX11_seed 8 (.ifCond .ne 5) 3 11 := ⟨by decide +kernel, rfl⟩
theorem d_X11_seed_11 : g_dc cX11_seed 11 (.iconst 0) 1 12 := ⟨by decide +kernel, rfl⟩
theorem d_X11_seed_12 : g_dc cX11_seed 12 (.ireturn) 1 13 := ⟨by decide +kernel, rfl⟩
theorem d_X11_seed_13 : g_dc cX11_seed 13 (.aload_n 0) 1 14 := ⟨by decide +kernel, rfl⟩
theorem d_X11_seed_14 : g_dc cX11_seed 14 (.iload_n 1) 1 15 := ⟨by decide +kernel, rfl⟩
theorem d_X11_seed_15 : g_dc cX11_seed 15 (.putfield 162) 3 18 := ⟨by decide +kernel, rfl⟩
theorem d_X11_seed_18 : g_dc cX11_seed 18 (.iconst 1) 1 19 := ⟨by decide +kernel, rfl⟩
theorem d_X11_seed_19 : g_dc cX11_seed 19 (.ireturn) 1 20 := ⟨by decide +kernel, rfl⟩
set_option maxHeartbeats 4000000 in
set_option maxRecDepth 100000 in
theorem c_X11_seed (l : Launch) (X : gX) (ad : Nat → Nat) (a : Int32) : g_Ci l X yX11_seed cX11_seed 2 (some .boolean) 2 0 0 [.ref (ad 0), .int a] (wM X ad fM0 r0) (fun r _ => r = S_seed a) := by
  refine g_mi (by decide +kernel) (Nat.le_of_ble_eq_true rfl) (fun E cx hret => ?_)
  refine g_iload_n cx 1 rfl d_X11_seed_0 ?_
  refine g_iconst cx 0 (by decide) d_X11_seed_1 ?_
  refine g_ldcw cx 65535 kc_X11_490 d_X11_seed_2 ?_
  refine g_cSiW cx [.int a, .int 0, .int 65535] [] (c_X11_in l X _ a 0 65535) ml_X11_165 yS_X11_in rfl d_X11_seed_5 (by unfold g_rr; decide) (by decide) rfl (Nat.le_of_ble_eq_true rfl) (fun r1 w2 h3 => ?_)
  obtain ⟨rfl, rfl⟩ := h3
  refine g_if_ne cx 13 d_X11_seed_8 (by decide) (fun zc8 => ?_) (fun zc8 => ?_)
  · refine g_aload_n cx 0 rfl d_X11_seed_13 ?_
    refine g_iload_n cx 1 rfl d_X11_seed_14 ?_
    refine g_put cx cl_X11 fl_X11_162 0 (wM X ad (upd fM0 3 a) r0) d_X11_seed_15 rfl rfl rfl rfl (Nat.le_of_ble_eq_true rfl) rfl ?_
    refine g_iconst cx 1 (by decide) d_X11_seed_18 ?_
    exact hret d_X11_seed_19 (Nat.le_of_ble_eq_true rfl) (Nat.le_of_ble_eq_true rfl) rfl (by simp [S_seed, *])
  · refine g_iconst cx 0 (by decide) d_X11_seed_11 ?_
    exact hret d_X11_seed_12 (Nat.le_of_ble_eq_true rfl) (Nat.le_of_ble_eq_true rfl) rfl (by simp [S_seed, *])
theorem g_nz0 {n : Int32} (h : ¬ g_in n 0 10 = 0) (h2 : n ≤ 0) : n = 0 := by
  obtain ⟨j, hj, rfl⟩ := g_inj (m := 10) h (by decide)
  rcases Nat.eq_zero_or_pos j with q | q
  · rw [q]; rfl
  · exact absurd h2 (nI_nle (by omega) (by omega))
theorem d_X11_check_0 : g_dc cX11_check 0 (.iload_n 1) 1 1 := ⟨by decide +kernel, rfl⟩
theorem d_X11_check_1 : g_dc cX11_check 1 (.iconst 0) 1 2 := ⟨by decide +kernel, rfl⟩
theorem d_X11_check_2 : g_dc cX11_check 2 (.bipush 10) 2 4 := ⟨by decide +kernel, rfl⟩
theorem d_X11_check_4 : g_dc cX11_check 4 (.invokestatic 165) 3 7 := ⟨by decide +kernel, rfl⟩
theorem d_X11_check_7 : g_dc cX11_check 7 (.ifCond .eq 13) 3 10 := ⟨by decide +kernel, rfl⟩
theorem d_X11_check_10 : g_dc cX11_check 10 (.iload_n 1) 1 11 := ⟨by decide +kernel, rfl⟩
theorem d_X11_check_11 : g_dc cX11_check 11 (.aload_n 0) 1 12 := ⟨by decide +kernel, rfl⟩
theorem d_X11_check_12 : g_dc cX11_check 12 (.getfield 183) 3 15 := ⟨by decide +kernel, rfl⟩
theorem d_X11_check_15 : g_dc cX11_check 15 (.iconst 4) 1 16 := ⟨by decide +kernel, rfl⟩
theorem d_X11_check_16 : g_dc cX11_check 16 (.idiv) 1 17 := ⟨by decide +kernel, rfl⟩
theorem d_X11_check_17 : g_dc cX11_check 17 (.if_icmp .le 6) 3 20 := ⟨by decide +kernel, rfl⟩
theorem d_X11_check_20 : g_dc cX11_check 20 (.bipush (-2)) 2 22 := ⟨by decide +kernel, rfl⟩
theorem d_X11_check_22 : g_dc cX11_check 22 (.ireturn) 1 23 := ⟨by decide +kernel, rfl⟩
theorem d_X11_check_23 : g_dc cX11_check 23 (.aload_n 0) 1 24 := ⟨by decide +kernel, rfl⟩
theorem d_X11_check_24 : g_dc cX11_check 24 (.iconst 0) 1 25 := ⟨by decide +kernel, rfl⟩
theorem d_X11_check_25 : g_dc cX11_check 25 (.putfield 183) 3 28 := ⟨by decide +kernel, rfl⟩
theorem d_X11_check_28 : g_dc cX11_check 28 (.iconst 0) 1 29 := ⟨by decide +kernel, rfl⟩
theorem d_X11_check_29 : g_dc cX11_check 29 (.istore_n 2) 1 30 := ⟨by decide +kernel, rfl⟩
theorem d_X11_check_30 : g_dc cX11_check 30 (.iload_n 2) 1 31 := ⟨by decide +kernel, rfl⟩
theorem d_X11_check_31 : g_dc cX11_check 31 (.iload_n 1) 1 32 := ⟨by decide +kernel, rfl⟩
theorem d_X11_check_32 : g_dc cX11_check 32 (.if_icmp .ge 40) 3 35 := ⟨by decide +kernel, rfl⟩
theorem d_X11_check_72 : g_dc cX11_check 72 (.iconst (-1)) 1 73 := ⟨by decide +kernel, rfl⟩
theorem d_X11_check_73 : g_dc cX11_check 73 (.ireturn) 1 74 := ⟨by decide +kernel, rfl⟩
set_option maxHeartbeats 4000000 in
set_option maxRecDepth 100000 in
theorem c_X11_check (l : Launch) (X : gX) (ad : Nat → Nat) (a : Int32) : g_Ci l X yX11_check cX11_check 3 (some .int) 3 0 0 [.ref (ad 0), .int a] (wM X ad fM0 r0) (fun r _ => r = S_check a) := by
  refine g_mi (by decide +kernel) (Nat.le_of_ble_eq_true rfl) (fun E cx hret => ?_)
  refine g_iload_n cx 1 rfl d_X11_check_0 ?_
  refine g_iconst cx 0 (by decide) d_X11_check_1 ?_
  refine g_bipush cx 10 (by decide) d_X11_check_2 ?_
  refine g_cSiW cx [.int a, .int 0, .int 10] [] (c_X11_in l X _ a 0 10) ml_X11_165 yS_X11_in rfl d_X11_check_4 (by unfold g_rr; decide) (by decide) rfl (Nat.le_of_ble_eq_true rfl) (fun r1 w2 h3 => ?_)
  obtain ⟨rfl, rfl⟩ := h3
  refine g_if_eq cx 20 d_X11_check_7 (by decide) (fun zc7 => ?_) (fun zc7 => ?_)
  · refine g_bipush cx (-2) (by decide) d_X11_check_20 ?_
    exact hret d_X11_check_22 (Nat.le_of_ble_eq_true rfl) (Nat.le_of_ble_eq_true rfl) rfl (by show _ = S_check a; first | (rw [g_nz0 zc7 zc17]; decide) | (have hn : ¬ a = 0 := fun e => zc17 (by rw [e]; decide); simp [S_check, *]) | simp [S_check, *])
  · refine g_iload_n cx 1 rfl d_X11_check_10 ?_
    refine g_aload_n cx 0 rfl d_X11_check_11 ?_
    refine g_get cx cl_X11 fl_X11_183 0 (.int 0) d_X11_check_12 rfl rfl ?_
    refine g_iconst cx 4 (by decide) d_X11_check_15 ?_
    refine g_idiv cx (by decide) d_X11_check_16 ?_
    refine g_toi 0 (by decide) ?_
    refine g_icmp_le cx 23 d_X11_check_17 (by decide) (fun zc17 => ?_) (fun zc17 => ?_)
    · refine g_aload_n cx 0 rfl d_X11_check_23 ?_
      refine g_iconst cx 0 (by decide) d_X11_check_24 ?_
      refine g_put cx cl_X11 fl_X11_183 0 (wM X ad (upd fM0 14 0) r0) d_X11_check_25 rfl rfl rfl rfl (Nat.le_of_ble_eq_true rfl) rfl ?_
      refine g_iconst cx 0 (by decide) d_X11_check_28 ?_
      refine g_istore_n cx [(2, .int 0), (0, .ref (ad 0)), (1, .int a)] d_X11_check_29 (by decide) rfl ?_
      refine g_iload_n cx 0 rfl d_X11_check_30 ?_
      refine g_iload_n cx 2 rfl d_X11_check_31 ?_
      refine g_icmp_ge_t cx 72 d_X11_check_32 (by decide) (by rw [g_nz0 zc7 zc17]; exact Int32.le_refl 0) ?_
      refine g_iconst cx (-1) (by decide) d_X11_check_72 ?_
      exact hret d_X11_check_73 (Nat.le_of_ble_eq_true rfl) (Nat.le_of_ble_eq_true rfl) rfl (by show _ = S_check a; first | (rw [g_nz0 zc7 zc17]; decide) | (have hn : ¬ a = 0 := fun e => zc17 (by rw [e]; decide); simp [S_check, *]) | simp [S_check, *])
    · refine g_bipush cx (-2) (by decide) d_X11_check_20 ?_
      exact hret d_X11_check_22 (Nat.le_of_ble_eq_true rfl) (Nat.le_of_ble_eq_true rfl) rfl (by show _ = S_check a; first | (rw [g_nz0 zc7 zc17]; decide) | (have hn : ¬ a = 0 := fun e => zc17 (by rw [e]; decide); simp [S_check, *]) | simp [S_check, *])
theorem d_X11_count_0 : g_dc cX11_count 0 (.iload_n 1) 1 1 := ⟨by decide +kernel, rfl⟩
theorem d_X11_count_1 : g_dc cX11_count 1 (.tableswitch 87 0 7 #[47, 52, 57, 62, 67, 72, 77, 82]) 47 48 := ⟨by decide +kernel, rfl⟩
theorem d_X11_count_48 : g_dc cX11_count 48 (.aload_n 0) 1 49 := ⟨by decide +kernel, rfl⟩
theorem d_X11_count_49 : g_dc cX11_count 49 (.getfield 155) 3 52 := ⟨by decide +kernel, rfl⟩
theorem d_X11_count_52 : g_dc cX11_count 52 (.ireturn) 1 53 := ⟨by decide +kernel, rfl⟩
theorem d_X11_count_53 : g_dc cX11_count 53 (.aload_n 0) 1 54 := ⟨by decide +kernel, rfl⟩
theorem d_X11_count_54 : g_dc cX11_count 54 (.getfield 159) 3 57 := ⟨by decide +kernel, rfl⟩
theorem d_X11_count_57 : g_dc cX11_count 57 (.ireturn) 1 58 := ⟨by decide +kernel, rfl⟩
theorem d_X11_count_58 : g_dc cX11_count 58 (.aload_n 0) 1 59 := ⟨by decide +kernel, rfl⟩
theorem d_X11_count_59 : g_dc cX11_count 59 (.getfield 169) 3 62 := ⟨by decide +kernel, rfl⟩
theorem d_X11_count_62 : g_dc cX11_count 62 (.ireturn) 1 63 := ⟨by decide +kernel, rfl⟩
theorem d_X11_count_63 : g_dc cX11_count 63 (.aload_n 0) 1 64 := ⟨by decide +kernel, rfl⟩
theorem d_X11_count_64 : g_dc cX11_count 64 (.getfield 172) 3 67 := ⟨by decide +kernel, rfl⟩
theorem d_X11_count_67 : g_dc cX11_count 67 (.ireturn) 1 68 := ⟨by decide +kernel, rfl⟩
theorem d_X11_count_68 : g_dc cX11_count 68 (.aload_n 0) 1 69 := ⟨by decide +kernel, rfl⟩
theorem d_X11_count_69 : g_dc cX11_count 69 (.getfield 228) 3 72 := ⟨by decide +kernel, rfl⟩
theorem d_X11_count_72 : g_dc cX11_count 72 (.ireturn) 1 73 := ⟨by decide +kernel, rfl⟩
theorem d_X11_count_73 : g_dc cX11_count 73 (.aload_n 0) 1 74 := ⟨by decide +kernel, rfl⟩
theorem d_X11_count_74 : g_dc cX11_count 74 (.getfield 298) 3 77 := ⟨by decide +kernel, rfl⟩
theorem d_X11_count_77 : g_dc cX11_count 77 (.ireturn) 1 78 := ⟨by decide +kernel, rfl⟩
theorem d_X11_count_78 : g_dc cX11_count 78 (.aload_n 0) 1 79 := ⟨by decide +kernel, rfl⟩
theorem d_X11_count_79 : g_dc cX11_count 79 (.getfield 183) 3 82 := ⟨by decide +kernel, rfl⟩
theorem d_X11_count_82 : g_dc cX11_count 82 (.ireturn) 1 83 := ⟨by decide +kernel, rfl⟩
theorem d_X11_count_83 : g_dc cX11_count 83 (.aload_n 0) 1 84 := ⟨by decide +kernel, rfl⟩
theorem d_X11_count_84 : g_dc cX11_count 84 (.getfield 162) 3 87 := ⟨by decide +kernel, rfl⟩
theorem d_X11_count_87 : g_dc cX11_count 87 (.ireturn) 1 88 := ⟨by decide +kernel, rfl⟩
theorem d_X11_count_88 : g_dc cX11_count 88 (.iload_n 1) 1 89 := ⟨by decide +kernel, rfl⟩
theorem d_X11_count_89 : g_dc cX11_count 89 (.bipush 100) 2 91 := ⟨by decide +kernel, rfl⟩
theorem d_X11_count_91 : g_dc cX11_count 91 (.bipush 99) 2 93 := ⟨by decide +kernel, rfl⟩
theorem d_X11_count_93 : g_dc cX11_count 93 (.aload_n 0) 1 94 := ⟨by decide +kernel, rfl⟩
theorem d_X11_count_94 : g_dc cX11_count 94 (.getfield 228) 3 97 := ⟨by decide +kernel, rfl⟩
theorem d_X11_count_97 : g_dc cX11_count 97 (.iadd) 1 98 := ⟨by decide +kernel, rfl⟩
theorem d_X11_count_98 : g_dc cX11_count 98 (.invokestatic 165) 3 101 := ⟨by decide +kernel, rfl⟩
theorem d_X11_count_101 : g_dc cX11_count 101 (.ifCond .eq 15) 3 104 := ⟨by decide +kernel, rfl⟩
theorem d_X11_count_116 : g_dc cX11_count 116 (.iconst (-1)) 1 117 := ⟨by decide +kernel, rfl⟩
theorem d_X11_count_117 : g_dc cX11_count 117 (.ireturn) 1 118 := ⟨by decide +kernel, rfl⟩
set_option maxHeartbeats 4000000 in
set_option maxRecDepth 100000 in
theorem c_X11_count (l : Launch) (X : gX) (ad : Nat → Nat) (a : Int32) : g_Ci l X yX11_count cX11_count 2 (some .int) 3 0 0 [.ref (ad 0), .int a] (wM X ad fM0 r0) (fun r _ => r = S_count a) := by
  refine g_mi (by decide +kernel) (Nat.le_of_ble_eq_true rfl) (fun E cx hret => ?_)
  refine g_iload_n cx 1 rfl d_X11_count_0 ?_
  rcases g_sw8 a with rfl | rfl | rfl | rfl | rfl | rfl | rfl | rfl | zsw
  · refine g_tableIn cx 48 d_X11_count_1 (by decide) (by decide) rfl (by decide) ?_
    refine g_aload_n cx 0 rfl d_X11_count_48 ?_
    refine g_get cx cl_X11 fl_X11_155 0 (.int 100) d_X11_count_49 rfl rfl ?_
    exact hret d_X11_count_52 (Nat.le_of_ble_eq_true rfl) (Nat.le_of_ble_eq_true rfl) rfl (by show (_ : Int32) = _; decide)
  · refine g_tableIn cx 53 d_X11_count_1 (by decide) (by decide) rfl (by decide) ?_
    refine g_aload_n cx 0 rfl d_X11_count_53 ?_
    refine g_get cx cl_X11 fl_X11_159 0 (.int 100) d_X11_count_54 rfl rfl ?_
    exact hret d_X11_count_57 (Nat.le_of_ble_eq_true rfl) (Nat.le_of_ble_eq_true rfl) rfl (by show (_ : Int32) = _; decide)
  · refine g_tableIn cx 58 d_X11_count_1 (by decide) (by decide) rfl (by decide) ?_
    refine g_aload_n cx 0 rfl d_X11_count_58 ?_
    refine g_get cx cl_X11 fl_X11_169 0 (.int 0) d_X11_count_59 rfl rfl ?_
    exact hret d_X11_count_62 (Nat.le_of_ble_eq_true rfl) (Nat.le_of_ble_eq_true rfl) rfl (by show (_ : Int32) = _; decide)
  · refine g_tableIn cx 63 d_X11_count_1 (by decide) (by decide) rfl (by decide) ?_
    refine g_aload_n cx 0 rfl d_X11_count_63 ?_
    refine g_get cx cl_X11 fl_X11_172 0 (.int 0) d_X11_count_64 rfl rfl ?_
    exact hret d_X11_count_67 (Nat.le_of_ble_eq_true rfl) (Nat.le_of_ble_eq_true rfl) rfl (by show (_ : Int32) = _; decide)
  · refine g_tableIn cx 68 d_X11_count_1 (by decide) (by decide) rfl (by decide) ?_
    refine g_aload_n cx 0 rfl d_X11_count_68 ?_
    refine g_get cx cl_X11 fl_X11_228 0 (.int 0) d_X11_count_69 rfl rfl ?_
    exact hret d_X11_count_72 (Nat.le_of_ble_eq_true rfl) (Nat.le_of_ble_eq_true rfl) rfl (by show (_ : Int32) = _; decide)
  · refine g_tableIn cx 73 d_X11_count_1 (by decide) (by decide) rfl (by decide) ?_
    refine g_aload_n cx 0 rfl d_X11_count_73 ?_
    refine g_get cx cl_X11 fl_X11_298 0 (.int 0) d_X11_count_74 rfl rfl ?_
    exact hret d_X11_count_77 (Nat.le_of_ble_eq_true rfl) (Nat.le_of_ble_eq_true rfl) rfl (by show (_ : Int32) = _; decide)
  · refine g_tableIn cx 78 d_X11_count_1 (by decide) (by decide) rfl (by decide) ?_
    refine g_aload_n cx 0 rfl d_X11_count_78 ?_
    refine g_get cx cl_X11 fl_X11_183 0 (.int 0) d_X11_count_79 rfl rfl ?_
    exact hret d_X11_count_82 (Nat.le_of_ble_eq_true rfl) (Nat.le_of_ble_eq_true rfl) rfl (by show (_ : Int32) = _; decide)
  · refine g_tableIn cx 83 d_X11_count_1 (by decide) (by decide) rfl (by decide) ?_
    refine g_aload_n cx 0 rfl d_X11_count_83 ?_
    refine g_get cx cl_X11 fl_X11_162 0 (.int 1) d_X11_count_84 rfl rfl ?_
    exact hret d_X11_count_87 (Nat.le_of_ble_eq_true rfl) (Nat.le_of_ble_eq_true rfl) rfl (by show (_ : Int32) = _; decide)
  · refine g_tableOut cx 88 d_X11_count_1 zsw (by decide) ?_
    refine g_iload_n cx 1 rfl d_X11_count_88 ?_
    refine g_bipush cx 100 (by decide) d_X11_count_89 ?_
    refine g_bipush cx 99 (by decide) d_X11_count_91 ?_
    refine g_aload_n cx 0 rfl d_X11_count_93 ?_
    refine g_get cx cl_X11 fl_X11_228 0 (.int 0) d_X11_count_94 rfl rfl ?_
    refine g_iadd cx d_X11_count_97 ?_
    refine g_toi 99 (by decide) ?_
    refine g_cSiW cx [.int a, .int 100, .int 99] [] (c_X11_in l X _ a 100 99) ml_X11_165 yS_X11_in rfl d_X11_count_98 (by unfold g_rr; decide) (by decide) rfl (Nat.le_of_ble_eq_true rfl) (fun r1 w2 h3 => ?_)
    obtain ⟨rfl, rfl⟩ := h3
    refine g_toi 0 (g_in_no _) ?_
    refine g_if_eq_t cx 116 d_X11_count_101 (by decide) (by decide) ?_
    refine g_iconst cx (-1) (by decide) d_X11_count_116 ?_
    exact hret d_X11_count_117 (Nat.le_of_ble_eq_true rfl) (Nat.le_of_ble_eq_true rfl) rfl ((S_count_out zsw).symm)
theorem d_X11_undo_0 : g_dc cX11_undo 0 (.aload_n 0) 1 1 := ⟨by decide +kernel, rfl⟩
theorem d_X11_undo_1 : g_dc cX11_undo 1 (.getfield 491) 3 4 := ⟨by decide +kernel, rfl⟩
theorem d_X11_undo_4 : g_dc cX11_undo 4 (.ifCond .ne 5) 3 7 := ⟨by decide +kernel, rfl⟩
theorem d_X11_undo_7 : g_dc cX11_undo 7 (.iconst 0) 1 8 := ⟨by decide +kernel, rfl⟩
theorem d_X11_undo_8 : g_dc cX11_undo 8 (.ireturn) 1 9 := ⟨by decide +kernel, rfl⟩
set_option maxHeartbeats 4000000 in
set_option maxRecDepth 100000 in
theorem c_X11_undo (l : Launch) (X : gX) (ad : Nat → Nat) : g_Ci l X yX11_undo cX11_undo 1 (some .boolean) 2 0 0 [.ref (ad 0)] (wM X ad fM0 r0) (fun r _ => r = 0) := by
  refine g_mi (by decide +kernel) (Nat.le_of_ble_eq_true rfl) (fun E cx hret => ?_)
  refine g_aload_n cx 0 rfl d_X11_undo_0 ?_
  refine g_get cx cl_X11 fl_X11_491 0 (.int 0) d_X11_undo_1 rfl rfl ?_
  refine g_if_ne_f cx 9 d_X11_undo_4 (by decide) (by decide) ?_
  refine g_iconst cx 0 (by decide) d_X11_undo_7 ?_
  exact hret d_X11_undo_8 (Nat.le_of_ble_eq_true rfl) (Nat.le_of_ble_eq_true rfl) rfl (rfl)
