theorem d_X11_types_0 : g_dc cX11_types 0 (.iconst 3) 1 1 := ⟨by decide +kernel, rfl⟩
theorem d_X11_types_1 : g_dc cX11_types 1 (.istore_n 2) 1 2 := ⟨by decide +kernel, rfl⟩
theorem d_X11_types_2 : g_dc cX11_types 2 (.iload_n 2) 1 3 := ⟨by decide +kernel, rfl⟩
theorem d_X11_types_3 : g_dc cX11_types 3 (.ifCond .lt 35) 3 6 := ⟨by decide +kernel, rfl⟩
theorem d_X11_types_6 : g_dc cX11_types 6 (.aload_n 0) 1 7 := ⟨by decide +kernel, rfl⟩
theorem d_X11_types_7 : g_dc cX11_types 7 (.getfield 34) 3 10 := ⟨by decide +kernel, rfl⟩
theorem d_X11_types_10 : g_dc cX11_types 10 (.aload_n 0) 1 11 := ⟨by decide +kernel, rfl⟩
theorem d_X11_types_11 : g_dc cX11_types 11 (.getfield 183) 3 14 := ⟨by decide +kernel, rfl⟩
theorem d_X11_types_14 : g_dc cX11_types 14 (.iload_n 1) 1 15 := ⟨by decide +kernel, rfl⟩
theorem d_X11_types_15 : g_dc cX11_types 15 (.bipush 8) 2 17 := ⟨by decide +kernel, rfl⟩
theorem d_X11_types_17 : g_dc cX11_types 17 (.iload_n 2) 1 18 := ⟨by decide +kernel, rfl⟩
theorem d_X11_types_18 : g_dc cX11_types 18 (.imul) 1 19 := ⟨by decide +kernel, rfl⟩
theorem d_X11_types_19 : g_dc cX11_types 19 (.ishr) 1 20 := ⟨by decide +kernel, rfl⟩
theorem d_X11_types_20 : g_dc cX11_types 20 (.i2b) 1 21 := ⟨by decide +kernel, rfl⟩
theorem d_X11_types_21 : g_dc cX11_types 21 (.bastore) 1 22 := ⟨by decide +kernel, rfl⟩
theorem d_X11_types_22 : g_dc cX11_types 22 (.aload_n 0) 1 23 := ⟨by decide +kernel, rfl⟩
theorem d_X11_types_23 : g_dc cX11_types 23 (.aload_n 0) 1 24 := ⟨by decide +kernel, rfl⟩
theorem d_X11_types_24 : g_dc cX11_types 24 (.getfield 183) 3 27 := ⟨by decide +kernel, rfl⟩
theorem d_X11_types_27 : g_dc cX11_types 27 (.iconst 1) 1 28 := ⟨by decide +kernel, rfl⟩
theorem d_X11_types_28 : g_dc cX11_types 28 (.iadd) 1 29 := ⟨by decide +kernel, rfl⟩
theorem d_X11_types_29 : g_dc cX11_types 29 (.putfield 183) 3 32 := ⟨by decide +kernel, rfl⟩
theorem d_X11_types_32 : g_dc cX11_types 32 (.iinc 2 (-1)) 3 35 := ⟨by decide +kernel, rfl⟩
theorem d_X11_types_35 : g_dc cX11_types 35 (.goto (-33)) 3 38 := ⟨by decide +kernel, rfl⟩
theorem d_X11_types_38 : g_dc cX11_types 38 (.return_) 1 39 := ⟨by decide +kernel, rfl⟩
set_option maxHeartbeats 4000000 in
set_option maxRecDepth 100000 in
theorem c_X11_types (l : Launch) (X : gX) (ad : Nat → Nat) (F : Nat → Int32) (R : Nat → Nat → Int32) (v : Int32) (m : Nat) (hy : F 14 = nI m) (hm : m + 4 ≤ 220) : g_Cv l X yX11_types cX11_types 3 1 0 0 [.ref (ad 0), .int v] (wM X ad F R) (fun w => ∃ (F' : Nat → Int32) (R' : Nat → Nat → Int32), w = wM X ad F' R' ∧ F' 14 = nI (m + 4)) := by
  refine g_mv (by decide +kernel) (Nat.le_of_ble_eq_true rfl) (fun E cx hret => ?_)
  refine g_iconst cx 3 (by decide) d_X11_types_0 ?_
  refine g_istore_n cx [(2, .int 3), (0, .ref (ad 0)), (1, .int v)] d_X11_types_1 (by decide) rfl ?_
  refine g_iload_n cx 0 rfl d_X11_types_2 ?_
  refine g_if_lt_f cx 38 d_X11_types_3 (by decide) (by decide) ?_
  refine g_aload_n cx 1 rfl d_X11_types_6 ?_
  refine g_get cx cl_X11 fl_X11_34 0 (.ref (ad 9)) d_X11_types_7 rfl rfl ?_
  refine g_aload_n cx 1 rfl d_X11_types_10 ?_
  refine g_get cx cl_X11 fl_X11_183 0 (.int (F 14)) d_X11_types_11 rfl rfl ?_
  refine g_iload_n cx 2 rfl d_X11_types_14 ?_
  refine g_bipush cx 8 (by decide) d_X11_types_15 ?_
  refine g_iload_n cx 0 rfl d_X11_types_17 ?_
  refine g_imul cx d_X11_types_18 ?_
  refine g_toi 24 (by decide) ?_
  refine g_ishr cx d_X11_types_19 ?_
  refine g_topi (fun x1 ex1 => ?_)
  refine g_i2b cx d_X11_types_20 ?_
  refine g_topi (fun x2 ex2 => ?_)
  refine g_bast cx 9 (wM X ad F (g_u R 9 (upd (R 9) (Int32.toNatClampNeg (F 14)) (vp_nar .byte x2)))) d_X11_types_21 rfl (by rw [hy]; (try simp only [nI_1]); exact vp_in_nI (by omega) (by decide)) rfl ?_
  obtain ⟨zR3, hzR3⟩ : ∃ z, z = (g_u R 9 (upd (R 9) (Int32.toNatClampNeg (F 14)) (vp_nar .byte x2))) := ⟨_, rfl⟩
  rw [← hzR3]
  refine g_aload_n cx 1 rfl d_X11_types_22 ?_
  refine g_aload_n cx 1 rfl d_X11_types_23 ?_
  refine g_get cx cl_X11 fl_X11_183 0 (.int (F 14)) d_X11_types_24 rfl rfl ?_
  refine g_iconst cx 1 (by decide) d_X11_types_27 ?_
  refine g_iadd cx d_X11_types_28 ?_
  refine g_topi (fun x4 ex4 => ?_)
  refine g_put cx cl_X11 fl_X11_183 0 (wM X ad (upd F 14 x4) zR3) d_X11_types_29 rfl rfl rfl rfl (Nat.le_of_ble_eq_true rfl) rfl ?_
  obtain ⟨zF5, hzF5⟩ : ∃ z, z = (upd F 14 x4) := ⟨_, rfl⟩
  rw [← hzF5]
  refine g_iinc cx 2 [(2, .int 2), (0, .ref (ad 0)), (1, .int v)] 0 d_X11_types_32 rfl (by decide) (by decide) rfl ?_
  refine g_goto cx 2 d_X11_types_35 (by decide) ?_
  refine g_iload_n cx 0 rfl d_X11_types_2 ?_
  refine g_if_lt_f cx 38 d_X11_types_3 (by decide) (by decide) ?_
  refine g_aload_n cx 1 rfl d_X11_types_6 ?_
  refine g_get cx cl_X11 fl_X11_34 0 (.ref (ad 9)) d_X11_types_7 rfl rfl ?_
  refine g_aload_n cx 1 rfl d_X11_types_10 ?_
  refine g_get cx cl_X11 fl_X11_183 0 (.int (zF5 14)) d_X11_types_11 rfl rfl ?_
  refine g_toi x4 ((congrFun hzF5 14)) ?_
  refine g_iload_n cx 2 rfl d_X11_types_14 ?_
  refine g_bipush cx 8 (by decide) d_X11_types_15 ?_
  refine g_iload_n cx 0 rfl d_X11_types_17 ?_
  refine g_imul cx d_X11_types_18 ?_
  refine g_toi 16 (by decide) ?_
  refine g_ishr cx d_X11_types_19 ?_
  refine g_topi (fun x6 ex6 => ?_)
  refine g_i2b cx d_X11_types_20 ?_
  refine g_topi (fun x7 ex7 => ?_)
  refine g_bast cx 9 (wM X ad zF5 (g_u zR3 9 (upd (zR3 9) (Int32.toNatClampNeg x4) (vp_nar .byte x7)))) d_X11_types_21 rfl (by rw [ex4, hy]; (try simp only [nI_1]); exact vp_in_nI (by omega) (by decide)) rfl ?_
  obtain ⟨zR8, hzR8⟩ : ∃ z, z = (g_u zR3 9 (upd (zR3 9) (Int32.toNatClampNeg x4) (vp_nar .byte x7))) := ⟨_, rfl⟩
  rw [← hzR8]
  refine g_aload_n cx 1 rfl d_X11_types_22 ?_
  refine g_aload_n cx 1 rfl d_X11_types_23 ?_
  refine g_get cx cl_X11 fl_X11_183 0 (.int (zF5 14)) d_X11_types_24 rfl rfl ?_
  refine g_toi x4 ((congrFun hzF5 14)) ?_
  refine g_iconst cx 1 (by decide) d_X11_types_27 ?_
  refine g_iadd cx d_X11_types_28 ?_
  refine g_topi (fun x9 ex9 => ?_)
  refine g_put cx cl_X11 fl_X11_183 0 (wM X ad (upd zF5 14 x9) zR8) d_X11_types_29 rfl rfl rfl rfl (Nat.le_of_ble_eq_true rfl) rfl ?_
  obtain ⟨zF10, hzF10⟩ : ∃ z, z = (upd zF5 14 x9) := ⟨_, rfl⟩
  rw [← hzF10]
  refine g_iinc cx 1 [(2, .int 1), (0, .ref (ad 0)), (1, .int v)] 0 d_X11_types_32 rfl (by decide) (by decide) rfl ?_
  refine g_goto cx 2 d_X11_types_35 (by decide) ?_
  refine g_iload_n cx 0 rfl d_X11_types_2 ?_
  refine g_if_lt_f cx 38 d_X11_types_3 (by decide) (by decide) ?_
  refine g_aload_n cx 1 rfl d_X11_types_6 ?_
  refine g_get cx cl_X11 fl_X11_34 0 (.ref (ad 9)) d_X11_types_7 rfl rfl ?_
  refine g_aload_n cx 1 rfl d_X11_types_10 ?_
  refine g_get cx cl_X11 fl_X11_183 0 (.int (zF10 14)) d_X11_types_11 rfl rfl ?_
  refine g_toi x9 ((congrFun hzF10 14)) ?_
  refine g_iload_n cx 2 rfl d_X11_types_14 ?_
  refine g_bipush cx 8 (by decide) d_X11_types_15 ?_
  refine g_iload_n cx 0 rfl d_X11_types_17 ?_
  refine g_imul cx d_X11_types_18 ?_
  refine g_toi 8 (by decide) ?_
  refine g_ishr cx d_X11_types_19 ?_
  refine g_topi (fun x11 ex11 => ?_)
  refine g_i2b cx d_X11_types_20 ?_
  refine g_topi (fun x12 ex12 => ?_)
  refine g_bast cx 9 (wM X ad zF10 (g_u zR8 9 (upd (zR8 9) (Int32.toNatClampNeg x9) (vp_nar .byte x12)))) d_X11_types_21 rfl (by rw [ex9, ex4, hy]; (try simp only [nI_1]); exact vp_in_nI (by omega) (by decide)) rfl ?_
  obtain ⟨zR13, hzR13⟩ : ∃ z, z = (g_u zR8 9 (upd (zR8 9) (Int32.toNatClampNeg x9) (vp_nar .byte x12))) := ⟨_, rfl⟩
  rw [← hzR13]
  refine g_aload_n cx 1 rfl d_X11_types_22 ?_
  refine g_aload_n cx 1 rfl d_X11_types_23 ?_
  refine g_get cx cl_X11 fl_X11_183 0 (.int (zF10 14)) d_X11_types_24 rfl rfl ?_
  refine g_toi x9 ((congrFun hzF10 14)) ?_
  refine g_iconst cx 1 (by decide) d_X11_types_27 ?_
  refine g_iadd cx d_X11_types_28 ?_
  refine g_topi (fun x14 ex14 => ?_)
  refine g_put cx cl_X11 fl_X11_183 0 (wM X ad (upd zF10 14 x14) zR13) d_X11_types_29 rfl rfl rfl rfl (Nat.le_of_ble_eq_true rfl) rfl ?_
  obtain ⟨zF15, hzF15⟩ : ∃ z, z = (upd zF10 14 x14) := ⟨_, rfl⟩
  rw [← hzF15]
  refine g_iinc cx 0 [(2, .int 0), (0, .ref (ad 0)), (1, .int v)] 0 d_X11_types_32 rfl (by decide) (by decide) rfl ?_
  refine g_goto cx 2 d_X11_types_35 (by decide) ?_
  refine g_iload_n cx 0 rfl d_X11_types_2 ?_
  refine g_if_lt_f cx 38 d_X11_types_3 (by decide) (by decide) ?_
  refine g_aload_n cx 1 rfl d_X11_types_6 ?_
  refine g_get cx cl_X11 fl_X11_34 0 (.ref (ad 9)) d_X11_types_7 rfl rfl ?_
  refine g_aload_n cx 1 rfl d_X11_types_10 ?_
  refine g_get cx cl_X11 fl_X11_183 0 (.int (zF15 14)) d_X11_types_11 rfl rfl ?_
  refine g_toi x14 ((congrFun hzF15 14)) ?_
  refine g_iload_n cx 2 rfl d_X11_types_14 ?_
  refine g_bipush cx 8 (by decide) d_X11_types_15 ?_
  refine g_iload_n cx 0 rfl d_X11_types_17 ?_
  refine g_imul cx d_X11_types_18 ?_
  refine g_toi 0 (by decide) ?_
  refine g_ishr cx d_X11_types_19 ?_
  refine g_topi (fun x16 ex16 => ?_)
  refine g_i2b cx d_X11_types_20 ?_
  refine g_topi (fun x17 ex17 => ?_)
  refine g_bast cx 9 (wM X ad zF15 (g_u zR13 9 (upd (zR13 9) (Int32.toNatClampNeg x14) (vp_nar .byte x17)))) d_X11_types_21 rfl (by rw [ex14, ex9, ex4, hy]; (try simp only [nI_1]); exact vp_in_nI (by omega) (by decide)) rfl ?_
  obtain ⟨zR18, hzR18⟩ : ∃ z, z = (g_u zR13 9 (upd (zR13 9) (Int32.toNatClampNeg x14) (vp_nar .byte x17))) := ⟨_, rfl⟩
  rw [← hzR18]
  refine g_aload_n cx 1 rfl d_X11_types_22 ?_
  refine g_aload_n cx 1 rfl d_X11_types_23 ?_
  refine g_get cx cl_X11 fl_X11_183 0 (.int (zF15 14)) d_X11_types_24 rfl rfl ?_
  refine g_toi x14 ((congrFun hzF15 14)) ?_
  refine g_iconst cx 1 (by decide) d_X11_types_27 ?_
  refine g_iadd cx d_X11_types_28 ?_
  refine g_topi (fun x19 ex19 => ?_)
  refine g_put cx cl_X11 fl_X11_183 0 (wM X ad (upd zF15 14 x19) zR18) d_X11_types_29 rfl rfl rfl rfl (Nat.le_of_ble_eq_true rfl) rfl ?_
  obtain ⟨zF20, hzF20⟩ : ∃ z, z = (upd zF15 14 x19) := ⟨_, rfl⟩
  rw [← hzF20]
  refine g_iinc cx (-1) [(2, .int (-1)), (0, .ref (ad 0)), (1, .int v)] 0 d_X11_types_32 rfl (by decide) (by decide) rfl ?_
  refine g_goto cx 2 d_X11_types_35 (by decide) ?_
  refine g_iload_n cx 0 rfl d_X11_types_2 ?_
  refine g_if_lt_t cx 38 d_X11_types_3 (by decide) (by decide) ?_
  exact hret d_X11_types_38 (Nat.le_of_ble_eq_true rfl) (Nat.le_of_ble_eq_true rfl) ⟨zF20, zR18, rfl, (by rw [hzF20]; show x19 = _; rw [ex19, ex14, ex9, ex4, hy]; simp only [nI_1])⟩
theorem d_X11_feed_0 : g_dc cX11_feed 0 (.aload_n 0) 1 1 := ⟨by decide +kernel, rfl⟩
theorem d_X11_feed_1 : g_dc cX11_feed 1 (.getfield 183) 3 4 := ⟨by decide +kernel, rfl⟩
theorem d_X11_feed_4 : g_dc cX11_feed 4 (.bipush 20) 2 6 := ⟨by decide +kernel, rfl⟩
theorem d_X11_feed_6 : g_dc cX11_feed 6 (.iadd) 1 7 := ⟨by decide +kernel, rfl⟩
theorem d_X11_feed_7 : g_dc cX11_feed 7 (.sipush 220) 3 10 := ⟨by decide +kernel, rfl⟩
theorem d_X11_feed_10 : g_dc cX11_feed 10 (.if_icmp .le 5) 3 13 := ⟨by decide +kernel, rfl⟩
theorem d_X11_feed_15 : g_dc cX11_feed 15 (.aload_n 0) 1 16 := ⟨by decide +kernel, rfl⟩
theorem d_X11_feed_16 : g_dc cX11_feed 16 (.iload_n 1) 1 17 := ⟨by decide +kernel, rfl⟩
theorem d_X11_feed_17 : g_dc cX11_feed 17 (.invokevirtual 186) 3 20 := ⟨by decide +kernel, rfl⟩
theorem d_X11_feed_20 : g_dc cX11_feed 20 (.aload_n 0) 1 21 := ⟨by decide +kernel, rfl⟩
theorem d_X11_feed_21 : g_dc cX11_feed 21 (.iload_n 2) 1 22 := ⟨by decide +kernel, rfl⟩
theorem d_X11_feed_22 : g_dc cX11_feed 22 (.invokevirtual 186) 3 25 := ⟨by decide +kernel, rfl⟩
theorem d_X11_feed_25 : g_dc cX11_feed 25 (.aload_n 0) 1 26 := ⟨by decide +kernel, rfl⟩
theorem d_X11_feed_26 : g_dc cX11_feed 26 (.iload_n 3) 1 27 := ⟨by decide +kernel, rfl⟩
theorem d_X11_feed_27 : g_dc cX11_feed 27 (.invokevirtual 186) 3 30 := ⟨by decide +kernel, rfl⟩
theorem d_X11_feed_30 : g_dc cX11_feed 30 (.aload_n 0) 1 31 := ⟨by decide +kernel, rfl⟩
theorem d_X11_feed_31 : g_dc cX11_feed 31 (.iload 4) 2 33 := ⟨by decide +kernel, rfl⟩
theorem d_X11_feed_33 : g_dc cX11_feed 33 (.invokevirtual 186) 3 36 := ⟨by decide +kernel, rfl⟩
theorem d_X11_feed_36 : g_dc cX11_feed 36 (.aload_n 0) 1 37 := ⟨by decide +kernel, rfl⟩
theorem d_X11_feed_37 : g_dc cX11_feed 37 (.iload 5) 2 39 := ⟨by decide +kernel, rfl⟩
theorem d_X11_feed_39 : g_dc cX11_feed 39 (.invokevirtual 186) 3 42 := ⟨by decide +kernel, rfl⟩
theorem d_X11_feed_42 : g_dc cX11_feed 42 (.aload_n 0) 1 43 := ⟨by decide +kernel, rfl⟩
theorem d_X11_feed_43 : g_dc cX11_feed 43 (.getfield 183) 3 46 := ⟨by decide +kernel, rfl⟩
theorem d_X11_feed_46 : g_dc cX11_feed 46 (.ireturn) 1 47 := ⟨by decide +kernel, rfl⟩
set_option maxHeartbeats 4000000 in
set_option maxRecDepth 100000 in
theorem c_X11_feed (l : Launch) (X : gX) (ad : Nat → Nat) (a b c d e : Int32) : g_Ci l X yX11_feed cX11_feed 6 (some .int) 2 0 0 [.ref (ad 0), .int a, .int b, .int c, .int d, .int e] (wM X ad fM0 r0) (fun r _ => r = 20) := by
  refine g_mi (by decide +kernel) (Nat.le_of_ble_eq_true rfl) (fun E cx hret => ?_)
  refine g_aload_n cx 0 rfl d_X11_feed_0 ?_
  refine g_get cx cl_X11 fl_X11_183 0 (.int 0) d_X11_feed_1 rfl rfl ?_
  refine g_bipush cx 20 (by decide) d_X11_feed_4 ?_
  refine g_iadd cx d_X11_feed_6 ?_
  refine g_toi 20 (by decide) ?_
  refine g_sipush cx 220 (by decide) d_X11_feed_7 ?_
  refine g_icmp_le_t cx 15 d_X11_feed_10 (by decide) (by decide) ?_
  refine g_aload_n cx 0 rfl d_X11_feed_15 ?_
  refine g_iload_n cx 1 rfl d_X11_feed_16 ?_
  refine g_cVvW cx [.int a] [] (c_X11_types l X ad fM0 r0 a 0 rfl (by decide)) ml_X11_186 yV_X11_types d_X11_feed_17 (by unfold g_rr; decide) (by decide) 0 rfl rfl rfl (Nat.le_of_ble_eq_true rfl) (fun w2 h3 => ?_)
  obtain ⟨zF4, zR5, rfl, zp6⟩ := h3
  refine g_aload_n cx 0 rfl d_X11_feed_20 ?_
  refine g_iload_n cx 2 rfl d_X11_feed_21 ?_
  refine g_cVvW cx [.int b] [] (c_X11_types l X ad zF4 zR5 b 4 zp6 (by decide)) ml_X11_186 yV_X11_types d_X11_feed_22 (by unfold g_rr; decide) (by decide) 0 rfl rfl rfl (Nat.le_of_ble_eq_true rfl) (fun w8 h9 => ?_)
  obtain ⟨zF10, zR11, rfl, zp12⟩ := h9
  refine g_aload_n cx 0 rfl d_X11_feed_25 ?_
  refine g_iload_n cx 3 rfl d_X11_feed_26 ?_
  refine g_cVvW cx [.int c] [] (c_X11_types l X ad zF10 zR11 c 8 zp12 (by decide)) ml_X11_186 yV_X11_types d_X11_feed_27 (by unfold g_rr; decide) (by decide) 0 rfl rfl rfl (Nat.le_of_ble_eq_true rfl) (fun w14 h15 => ?_)
  obtain ⟨zF16, zR17, rfl, zp18⟩ := h15
  refine g_aload_n cx 0 rfl d_X11_feed_30 ?_
  refine g_iload cx 4 rfl d_X11_feed_31 ?_
  refine g_cVvW cx [.int d] [] (c_X11_types l X ad zF16 zR17 d 12 zp18 (by decide)) ml_X11_186 yV_X11_types d_X11_feed_33 (by unfold g_rr; decide) (by decide) 0 rfl rfl rfl (Nat.le_of_ble_eq_true rfl) (fun w20 h21 => ?_)
  obtain ⟨zF22, zR23, rfl, zp24⟩ := h21
  refine g_aload_n cx 0 rfl d_X11_feed_36 ?_
  refine g_iload cx 5 rfl d_X11_feed_37 ?_
  refine g_cVvW cx [.int e] [] (c_X11_types l X ad zF22 zR23 e 16 zp24 (by decide)) ml_X11_186 yV_X11_types d_X11_feed_39 (by unfold g_rr; decide) (by decide) 0 rfl rfl rfl (Nat.le_of_ble_eq_true rfl) (fun w26 h27 => ?_)
  obtain ⟨zF28, zR29, rfl, zp30⟩ := h27
  refine g_aload_n cx 0 rfl d_X11_feed_42 ?_
  refine g_get cx cl_X11 fl_X11_183 0 (.int (zF28 14)) d_X11_feed_43 rfl rfl ?_
  refine g_toi 20 (zp30) ?_
  exact hret d_X11_feed_46 (Nat.le_of_ble_eq_true rfl) (Nat.le_of_ble_eq_true rfl) rfl (rfl)
