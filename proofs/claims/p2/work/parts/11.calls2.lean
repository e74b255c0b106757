theorem d_X8_change_0 : g_dc cX8_change 0 (.iload_n 1) 1 1 := ⟨by decide +kernel, rfl⟩
theorem d_X8_change_1 : g_dc cX8_change 1 (.iconst 0) 1 2 := ⟨by decide +kernel, rfl⟩
theorem d_X8_change_2 : g_dc cX8_change 2 (.bipush 9) 2 4 := ⟨by decide +kernel, rfl⟩
theorem d_X8_change_4 : g_dc cX8_change 4 (.invokestatic 31) 3 7 := ⟨by decide +kernel, rfl⟩
theorem d_X8_change_7 : g_dc cX8_change 7 (.ifCond .eq 25) 3 10 := ⟨by decide +kernel, rfl⟩
theorem d_X8_change_10 : g_dc cX8_change 10 (.iload_n 2) 1 11 := ⟨by decide +kernel, rfl⟩
theorem d_X8_change_11 : g_dc cX8_change 11 (.iconst 0) 1 12 := ⟨by decide +kernel, rfl⟩
theorem d_X8_change_12 : g_dc cX8_change 12 (.bipush 7) 2 14 := ⟨by decide +kernel, rfl⟩
theorem d_X8_change_14 : g_dc cX8_change 14 (.invokestatic 31) 3 17 := ⟨by decide +kernel, rfl⟩
theorem d_X8_change_17 : g_dc cX8_change 17 (.ifCond .eq 15) 3 20 := ⟨by decide +kernel, rfl⟩
theorem d_X8_change_20 : g_dc cX8_change 20 (.aload_n 0) 1 21 := ⟨by decide +kernel, rfl⟩
theorem d_X8_change_21 : g_dc cX8_change 21 (.getfield 27) 3 24 := ⟨by decide +kernel, rfl⟩
theorem d_X8_change_24 : g_dc cX8_change 24 (.iload_n 1) 1 25 := ⟨by decide +kernel, rfl⟩
theorem d_X8_change_25 : g_dc cX8_change 25 (.bipush 8) 2 27 := ⟨by decide +kernel, rfl⟩
theorem d_X8_change_27 : g_dc cX8_change 27 (.imul) 1 28 := ⟨by decide +kernel, rfl⟩
theorem d_X8_change_28 : g_dc cX8_change 28 (.iload_n 2) 1 29 := ⟨by decide +kernel, rfl⟩
theorem d_X8_change_29 : g_dc cX8_change 29 (.iadd) 1 30 := ⟨by decide +kernel, rfl⟩
theorem d_X8_change_30 : g_dc cX8_change 30 (.iload_n 3) 1 31 := ⟨by decide +kernel, rfl⟩
theorem d_X8_change_31 : g_dc cX8_change 31 (.iastore) 1 32 := ⟨by decide +kernel, rfl⟩
theorem d_X8_change_32 : g_dc cX8_change 32 (.return_) 1 33 := ⟨by decide +kernel, rfl⟩
set_option maxHeartbeats 4000000 in
set_option maxRecDepth 100000 in
theorem c_X8_change (l : Launch) (X : gX) (t sa : Nat) (len e0 folds told x : Int32) (f : Nat → Int32) (i what v : Int32) : g_Cv l X yX8_change cX8_change 4 2 0 0 [.ref t, .int i, .int what, .int v] [(t, .inr (8, [.int len, .int e0, .int folds, .int told, .int x, .ref sa])), (sa, .inl (X.2.1, 80, .inl f))] (fun w => ∃ g : Nat → Int32, w = [(t, .inr (8, [.int len, .int e0, .int folds, .int told, .int x, .ref sa])), (sa, .inl (X.2.1, 80, .inl g))] ∧ True) := by
  refine g_mv (by decide +kernel) (Nat.le_of_ble_eq_true rfl) (fun E cx hret => ?_)
  refine g_iload_n cx 1 rfl d_X8_change_0 ?_
  refine g_iconst cx 0 (by decide) d_X8_change_1 ?_
  refine g_bipush cx 9 (by decide) d_X8_change_2 ?_
  refine g_cNiW cx [.int i, .int 0, .int 9] [] (c_X10_within l X _ i 0 9) mn_X8_31 yS_X10_within d_X8_change_4 (by unfold g_rr; decide) (by decide) rfl (Nat.le_of_ble_eq_true rfl) (fun r1 w2 h3 => ?_)
  obtain ⟨rfl, rfl⟩ := h3
  refine g_if_eq cx 32 d_X8_change_7 (by decide) (fun zc7 => ?_) (fun zc7 => ?_)
  · exact hret d_X8_change_32 (Nat.le_of_ble_eq_true rfl) (Nat.le_of_ble_eq_true rfl) ⟨_, rfl, trivial⟩
  · refine g_iload_n cx 2 rfl d_X8_change_10 ?_
    refine g_iconst cx 0 (by decide) d_X8_change_11 ?_
    refine g_bipush cx 7 (by decide) d_X8_change_12 ?_
    refine g_cNiW cx [.int what, .int 0, .int 7] [] (c_X10_within l X _ what 0 7) mn_X8_31 yS_X10_within d_X8_change_14 (by unfold g_rr; decide) (by decide) rfl (Nat.le_of_ble_eq_true rfl) (fun r4 w5 h6 => ?_)
    obtain ⟨rfl, rfl⟩ := h6
    refine g_if_eq cx 32 d_X8_change_17 (by decide) (fun zc17 => ?_) (fun zc17 => ?_)
    · exact hret d_X8_change_32 (Nat.le_of_ble_eq_true rfl) (Nat.le_of_ble_eq_true rfl) ⟨_, rfl, trivial⟩
    · refine g_aload_n cx 0 rfl d_X8_change_20 ?_
      refine g_get cx cl_X8 fl_X8_27 0 (.ref sa) d_X8_change_21 rfl rfl ?_
      refine g_iload_n cx 1 rfl d_X8_change_24 ?_
      refine g_bipush cx 8 (by decide) d_X8_change_25 ?_
      refine g_imul cx d_X8_change_27 ?_
      refine g_iload_n cx 2 rfl d_X8_change_28 ?_
      refine g_iadd cx d_X8_change_29 ?_
      refine g_iload_n cx 3 rfl d_X8_change_30 ?_
      refine g_iast cx 1 ([(t, .inr (8, [.int len, .int e0, .int folds, .int told, .int x, .ref sa])), (sa, .inl (X.2.1, 80, .inl (upd f (Int32.toNatClampNeg ((i * 8) + what)) v)))]) d_X8_change_31 rfl (g_side_in (by assumption) (by assumption)) rfl ?_
      exact hret d_X8_change_32 (Nat.le_of_ble_eq_true rfl) (Nat.le_of_ble_eq_true rfl) ⟨_, rfl, trivial⟩
theorem d_X8_take_0 : g_dc cX8_take 0 (.aload_n 0) 1 1 := ⟨by decide +kernel, rfl⟩
theorem d_X8_take_1 : g_dc cX8_take 1 (.dup) 1 2 := ⟨by decide +kernel, rfl⟩
theorem d_X8_take_2 : g_dc cX8_take 2 (.getfield 21) 3 5 := ⟨by decide +kernel, rfl⟩
theorem d_X8_take_5 : g_dc cX8_take 5 (.iconst 1) 1 6 := ⟨by decide +kernel, rfl⟩
theorem d_X8_take_6 : g_dc cX8_take 6 (.iload_n 1) 1 7 := ⟨by decide +kernel, rfl⟩
theorem d_X8_take_7 : g_dc cX8_take 7 (.ishl) 1 8 := ⟨by decide +kernel, rfl⟩
theorem d_X8_take_8 : g_dc cX8_take 8 (.iconst (-1)) 1 9 := ⟨by decide +kernel, rfl⟩
theorem d_X8_take_9 : g_dc cX8_take 9 (.ixor) 1 10 := ⟨by decide +kernel, rfl⟩
theorem d_X8_take_10 : g_dc cX8_take 10 (.iand) 1 11 := ⟨by decide +kernel, rfl⟩
theorem d_X8_take_11 : g_dc cX8_take 11 (.putfield 21) 3 14 := ⟨by decide +kernel, rfl⟩
theorem d_X8_take_14 : g_dc cX8_take 14 (.return_) 1 15 := ⟨by decide +kernel, rfl⟩
set_option maxHeartbeats 4000000 in
set_option maxRecDepth 100000 in
theorem c_X8_take (l : Launch) (X : gX) (t sa : Nat) (len e0 folds told x : Int32) (f : Nat → Int32) (i : Int32) : g_Cv l X yX8_take cX8_take 2 1 0 0 [.ref t, .int i] [(t, .inr (8, [.int len, .int e0, .int folds, .int told, .int x, .ref sa])), (sa, .inl (X.2.1, 80, .inl f))] (fun w => ∃ z : Int32, w = [(t, .inr (8, [.int len, .int e0, .int folds, .int z, .int x, .ref sa])), (sa, .inl (X.2.1, 80, .inl f))] ∧ True) := by
  refine g_mv (by decide +kernel) (Nat.le_of_ble_eq_true rfl) (fun E cx hret => ?_)
  refine g_aload_n cx 0 rfl d_X8_take_0 ?_
  refine g_dup cx rfl d_X8_take_1 ?_
  refine g_get cx cl_X8 fl_X8_21 0 (.int told) d_X8_take_2 rfl rfl ?_
  refine g_iconst cx 1 (by decide) d_X8_take_5 ?_
  refine g_iload_n cx 1 rfl d_X8_take_6 ?_
  refine g_ishl cx d_X8_take_7 ?_
  refine g_iconst cx (-1) (by decide) d_X8_take_8 ?_
  refine g_ixor cx d_X8_take_9 ?_
  refine g_iand cx d_X8_take_10 ?_
  refine g_put cx cl_X8 fl_X8_21 0 ([(t, .inr (8, [.int len, .int e0, .int folds, .int (told &&& ((1 <<< (i &&& 31)) ^^^ (-1))), .int x, .ref sa])), (sa, .inl (X.2.1, 80, .inl f))]) d_X8_take_11 rfl rfl rfl rfl (Nat.le_of_ble_eq_true rfl) rfl ?_
  exact hret d_X8_take_14 (Nat.le_of_ble_eq_true rfl) (Nat.le_of_ble_eq_true rfl) ⟨_, rfl, trivial⟩
theorem d_X10_thing_0 : g_dc cX10_thing 0 (.iload_n 1) 1 1 := ⟨by decide +kernel, rfl⟩
theorem d_X10_thing_1 : g_dc cX10_thing 1 (.iconst 0) 1 2 := ⟨by decide +kernel, rfl⟩
theorem d_X10_thing_2 : g_dc cX10_thing 2 (.bipush 9) 2 4 := ⟨by decide +kernel, rfl⟩
theorem d_X10_thing_4 : g_dc cX10_thing 4 (.invokestatic 82) 3 7 := ⟨by decide +kernel, rfl⟩
theorem d_X10_thing_7 : g_dc cX10_thing 7 (.ifCond .eq 66) 3 10 := ⟨by decide +kernel, rfl⟩
theorem d_X10_thing_10 : g_dc cX10_thing 10 (.iload_n 2) 1 11 := ⟨by decide +kernel, rfl⟩
theorem d_X10_thing_11 : g_dc cX10_thing 11 (.iconst 0) 1 12 := ⟨by decide +kernel, rfl⟩
theorem d_X10_thing_12 : g_dc cX10_thing 12 (.iconst 3) 1 13 := ⟨by decide +kernel, rfl⟩
theorem d_X10_thing_13 : g_dc cX10_thing 13 (.invokestatic 82) 3 16 := ⟨by decide +kernel, rfl⟩
theorem d_X10_thing_16 : g_dc cX10_thing 16 (.ifCond .eq 57) 3 19 := ⟨by decide +kernel, rfl⟩
theorem d_X10_thing_19 : g_dc cX10_thing 19 (.iload_n 3) 1 20 := ⟨by decide +kernel, rfl⟩
theorem d_X10_thing_20 : g_dc cX10_thing 20 (.iconst 0) 1 21 := ⟨by decide +kernel, rfl⟩
theorem d_X10_thing_21 : g_dc cX10_thing 21 (.aload_n 0) 1 22 := ⟨by decide +kernel, rfl⟩
theorem d_X10_thing_22 : g_dc cX10_thing 22 (.getfield 10) 3 25 := ⟨by decide +kernel, rfl⟩
theorem d_X10_thing_25 : g_dc cX10_thing 25 (.getfield 86) 3 28 := ⟨by decide +kernel, rfl⟩
theorem d_X10_thing_28 : g_dc cX10_thing 28 (.iconst 1) 1 29 := ⟨by decide +kernel, rfl⟩
theorem d_X10_thing_29 : g_dc cX10_thing 29 (.isub) 1 30 := ⟨by decide +kernel, rfl⟩
theorem d_X10_thing_30 : g_dc cX10_thing 30 (.invokestatic 82) 3 33 := ⟨by decide +kernel, rfl⟩
theorem d_X10_thing_33 : g_dc cX10_thing 33 (.ifCond .eq 40) 3 36 := ⟨by decide +kernel, rfl⟩
theorem d_X10_thing_36 : g_dc cX10_thing 36 (.iload 4) 2 38 := ⟨by decide +kernel, rfl⟩
theorem d_X10_thing_38 : g_dc cX10_thing 38 (.iconst 1) 1 39 := ⟨by decide +kernel, rfl⟩
theorem d_X10_thing_39 : g_dc cX10_thing 39 (.bipush 40) 2 41 := ⟨by decide +kernel, rfl⟩
theorem d_X10_thing_41 : g_dc cX10_thing 41 (.invokestatic 82) 3 44 := ⟨by decide +kernel, rfl⟩
theorem d_X10_thing_44 : g_dc cX10_thing 44 (.ifCond .eq 29) 3 47 := ⟨by decide +kernel, rfl⟩
theorem d_X10_thing_47 : g_dc cX10_thing 47 (.iload 5) 2 49 := ⟨by decide +kernel, rfl⟩
theorem d_X10_thing_49 : g_dc cX10_thing 49 (.iconst 1) 1 50 := ⟨by decide +kernel, rfl⟩
theorem d_X10_thing_50 : g_dc cX10_thing 50 (.bipush 60) 2 52 := ⟨by decide +kernel, rfl⟩
theorem d_X10_thing_52 : g_dc cX10_thing 52 (.invokestatic 82) 3 55 := ⟨by decide +kernel, rfl⟩
theorem d_X10_thing_55 : g_dc cX10_thing 55 (.ifCond .eq 18) 3 58 := ⟨by decide +kernel, rfl⟩
theorem d_X10_thing_58 : g_dc cX10_thing 58 (.iload 6) 2 60 := ⟨by decide +kernel, rfl⟩
theorem d_X10_thing_60 : g_dc cX10_thing 60 (.iconst 1) 1 61 := ⟨by decide +kernel, rfl⟩
theorem d_X10_thing_61 : g_dc cX10_thing 61 (.bipush 99) 2 63 := ⟨by decide +kernel, rfl⟩
theorem d_X10_thing_63 : g_dc cX10_thing 63 (.invokestatic 82) 3 66 := ⟨by decide +kernel, rfl⟩
theorem d_X10_thing_66 : g_dc cX10_thing 66 (.ifCond .eq 7) 3 69 := ⟨by decide +kernel, rfl⟩
theorem d_X10_thing_69 : g_dc cX10_thing 69 (.iconst 1) 1 70 := ⟨by decide +kernel, rfl⟩
theorem d_X10_thing_70 : g_dc cX10_thing 70 (.goto 4) 3 73 := ⟨by decide +kernel, rfl⟩
theorem d_X10_thing_73 : g_dc cX10_thing 73 (.iconst 0) 1 74 := ⟨by decide +kernel, rfl⟩
theorem d_X10_thing_74 : g_dc cX10_thing 74 (.istore 7) 2 76 := ⟨by decide +kernel, rfl⟩
theorem d_X10_thing_76 : g_dc cX10_thing 76 (.iload 7) 2 78 := ⟨by decide +kernel, rfl⟩
theorem d_X10_thing_78 : g_dc cX10_thing 78 (.ifCond .ne 5) 3 81 := ⟨by decide +kernel, rfl⟩
theorem d_X10_thing_81 : g_dc cX10_thing 81 (.iconst 0) 1 82 := ⟨by decide +kernel, rfl⟩
theorem d_X10_thing_82 : g_dc cX10_thing 82 (.ireturn) 1 83 := ⟨by decide +kernel, rfl⟩
theorem d_X10_thing_83 : g_dc cX10_thing 83 (.aload_n 0) 1 84 := ⟨by decide +kernel, rfl⟩
theorem d_X10_thing_84 : g_dc cX10_thing 84 (.getfield 10) 3 87 := ⟨by decide +kernel, rfl⟩
theorem d_X10_thing_87 : g_dc cX10_thing 87 (.dup) 1 88 := ⟨by decide +kernel, rfl⟩
theorem d_X10_thing_88 : g_dc cX10_thing 88 (.getfield 95) 3 91 := ⟨by decide +kernel, rfl⟩
theorem d_X10_thing_91 : g_dc cX10_thing 91 (.iconst 1) 1 92 := ⟨by decide +kernel, rfl⟩
theorem d_X10_thing_92 : g_dc cX10_thing 92 (.iload_n 1) 1 93 := ⟨by decide +kernel, rfl⟩
theorem d_X10_thing_93 : g_dc cX10_thing 93 (.ishl) 1 94 := ⟨by decide +kernel, rfl⟩
theorem d_X10_thing_94 : g_dc cX10_thing 94 (.ior) 1 95 := ⟨by decide +kernel, rfl⟩
theorem d_X10_thing_95 : g_dc cX10_thing 95 (.putfield 95) 3 98 := ⟨by decide +kernel, rfl⟩
theorem d_X10_thing_98 : g_dc cX10_thing 98 (.aload_n 0) 1 99 := ⟨by decide +kernel, rfl⟩
theorem d_X10_thing_99 : g_dc cX10_thing 99 (.getfield 10) 3 102 := ⟨by decide +kernel, rfl⟩
theorem d_X10_thing_102 : g_dc cX10_thing 102 (.iload_n 1) 1 103 := ⟨by decide +kernel, rfl⟩
theorem d_X10_thing_103 : g_dc cX10_thing 103 (.iconst 0) 1 104 := ⟨by decide +kernel, rfl⟩
theorem d_X10_thing_104 : g_dc cX10_thing 104 (.iload_n 2) 1 105 := ⟨by decide +kernel, rfl⟩
theorem d_X10_thing_105 : g_dc cX10_thing 105 (.invokevirtual 98) 3 108 := ⟨by decide +kernel, rfl⟩
theorem d_X10_thing_108 : g_dc cX10_thing 108 (.aload_n 0) 1 109 := ⟨by decide +kernel, rfl⟩
theorem d_X10_thing_109 : g_dc cX10_thing 109 (.getfield 10) 3 112 := ⟨by decide +kernel, rfl⟩
theorem d_X10_thing_112 : g_dc cX10_thing 112 (.iload_n 1) 1 113 := ⟨by decide +kernel, rfl⟩
theorem d_X10_thing_113 : g_dc cX10_thing 113 (.iconst 1) 1 114 := ⟨by decide +kernel, rfl⟩
theorem d_X10_thing_114 : g_dc cX10_thing 114 (.iload_n 3) 1 115 := ⟨by decide +kernel, rfl⟩
theorem d_X10_thing_115 : g_dc cX10_thing 115 (.invokevirtual 98) 3 118 := ⟨by decide +kernel, rfl⟩
theorem d_X10_thing_118 : g_dc cX10_thing 118 (.aload_n 0) 1 119 := ⟨by decide +kernel, rfl⟩
theorem d_X10_thing_119 : g_dc cX10_thing 119 (.getfield 10) 3 122 := ⟨by decide +kernel, rfl⟩
theorem d_X10_thing_122 : g_dc cX10_thing 122 (.iload_n 1) 1 123 := ⟨by decide +kernel, rfl⟩
theorem d_X10_thing_123 : g_dc cX10_thing 123 (.iconst 2) 1 124 := ⟨by decide +kernel, rfl⟩
theorem d_X10_thing_124 : g_dc cX10_thing 124 (.iload 4) 2 126 := ⟨by decide +kernel, rfl⟩
theorem d_X10_thing_126 : g_dc cX10_thing 126 (.invokevirtual 98) 3 129 := ⟨by decide +kernel, rfl⟩
theorem d_X10_thing_129 : g_dc cX10_thing 129 (.aload_n 0) 1 130 := ⟨by decide +kernel, rfl⟩
theorem d_X10_thing_130 : g_dc cX10_thing 130 (.getfield 10) 3 133 := ⟨by decide +kernel, rfl⟩
theorem d_X10_thing_133 : g_dc cX10_thing 133 (.iload_n 1) 1 134 := ⟨by decide +kernel, rfl⟩
theorem d_X10_thing_134 : g_dc cX10_thing 134 (.iconst 3) 1 135 := ⟨by decide +kernel, rfl⟩
theorem d_X10_thing_135 : g_dc cX10_thing 135 (.iload 5) 2 137 := ⟨by decide +kernel, rfl⟩
theorem d_X10_thing_137 : g_dc cX10_thing 137 (.invokevirtual 98) 3 140 := ⟨by decide +kernel, rfl⟩
theorem d_X10_thing_140 : g_dc cX10_thing 140 (.aload_n 0) 1 141 := ⟨by decide +kernel, rfl⟩
theorem d_X10_thing_141 : g_dc cX10_thing 141 (.getfield 10) 3 144 := ⟨by decide +kernel, rfl⟩
theorem d_X10_thing_144 : g_dc cX10_thing 144 (.iload_n 1) 1 145 := ⟨by decide +kernel, rfl⟩
theorem d_X10_thing_145 : g_dc cX10_thing 145 (.iconst 4) 1 146 := ⟨by decide +kernel, rfl⟩
theorem d_X10_thing_146 : g_dc cX10_thing 146 (.iload 6) 2 148 := ⟨by decide +kernel, rfl⟩
theorem d_X10_thing_148 : g_dc cX10_thing 148 (.invokevirtual 98) 3 151 := ⟨by decide +kernel, rfl⟩
theorem d_X10_thing_151 : g_dc cX10_thing 151 (.aload_n 0) 1 152 := ⟨by decide +kernel, rfl⟩
theorem d_X10_thing_152 : g_dc cX10_thing 152 (.getfield 10) 3 155 := ⟨by decide +kernel, rfl⟩
theorem d_X10_thing_155 : g_dc cX10_thing 155 (.iload_n 1) 1 156 := ⟨by decide +kernel, rfl⟩
theorem d_X10_thing_156 : g_dc cX10_thing 156 (.iconst 5) 1 157 := ⟨by decide +kernel, rfl⟩
theorem d_X10_thing_157 : g_dc cX10_thing 157 (.iconst 0) 1 158 := ⟨by decide +kernel, rfl⟩
theorem d_X10_thing_158 : g_dc cX10_thing 158 (.invokevirtual 98) 3 161 := ⟨by decide +kernel, rfl⟩
theorem d_X10_thing_161 : g_dc cX10_thing 161 (.aload_n 0) 1 162 := ⟨by decide +kernel, rfl⟩
theorem d_X10_thing_162 : g_dc cX10_thing 162 (.getfield 10) 3 165 := ⟨by decide +kernel, rfl⟩
theorem d_X10_thing_165 : g_dc cX10_thing 165 (.iload_n 1) 1 166 := ⟨by decide +kernel, rfl⟩
theorem d_X10_thing_166 : g_dc cX10_thing 166 (.bipush 6) 2 168 := ⟨by decide +kernel, rfl⟩
theorem d_X10_thing_168 : g_dc cX10_thing 168 (.iconst 0) 1 169 := ⟨by decide +kernel, rfl⟩
theorem d_X10_thing_169 : g_dc cX10_thing 169 (.invokevirtual 98) 3 172 := ⟨by decide +kernel, rfl⟩
theorem d_X10_thing_172 : g_dc cX10_thing 172 (.aload_n 0) 1 173 := ⟨by decide +kernel, rfl⟩
theorem d_X10_thing_173 : g_dc cX10_thing 173 (.getfield 10) 3 176 := ⟨by decide +kernel, rfl⟩
theorem d_X10_thing_176 : g_dc cX10_thing 176 (.iload_n 1) 1 177 := ⟨by decide +kernel, rfl⟩
theorem d_X10_thing_177 : g_dc cX10_thing 177 (.bipush 7) 2 179 := ⟨by decide +kernel, rfl⟩
theorem d_X10_thing_179 : g_dc cX10_thing 179 (.iconst 0) 1 180 := ⟨by decide +kernel, rfl⟩
theorem d_X10_thing_180 : g_dc cX10_thing 180 (.invokevirtual 98) 3 183 := ⟨by decide +kernel, rfl⟩
theorem d_X10_thing_183 : g_dc cX10_thing 183 (.iconst 1) 1 184 := ⟨by decide +kernel, rfl⟩
theorem d_X10_thing_184 : g_dc cX10_thing 184 (.ireturn) 1 185 := ⟨by decide +kernel, rfl⟩
set_option maxHeartbeats 4000000 in
set_option maxRecDepth 100000 in
theorem c_X10_thing (l : Launch) (X : gX) (ad : Nat → Nat) (F : Nat → Int32) (R : Nat → Nat → Int32) (hI : IX F) (a b c d e f : Int32) : g_Ci l X yX10_thing cX10_thing 8 (some .boolean) 3 0 0 [.ref (ad 0), .int a, .int b, .int c, .int d, .int e, .int f] (wX X ad F R) (fun r w => ∃ (F' : Nat → Int32) (R' : Nat → Nat → Int32), w = wX X ad F' R' ∧ IX F' ∧ KX F F') := by
  refine g_mi (by decide +kernel) (Nat.le_of_ble_eq_true rfl) (fun E cx hret => ?_)
  refine g_iload_n cx 1 rfl d_X10_thing_0 ?_
  refine g_iconst cx 0 (by decide) d_X10_thing_1 ?_
  refine g_bipush cx 9 (by decide) d_X10_thing_2 ?_
  refine g_cSiW cx [.int a, .int 0, .int 9] [] (c_X10_within l X _ a 0 9) ml_X10_82 yS_X10_within rfl d_X10_thing_4 (by unfold g_rr; decide) (by decide) rfl (Nat.le_of_ble_eq_true rfl) (fun r1 w2 h3 => ?_)
  obtain ⟨rfl, rfl⟩ := h3
  refine g_if_eq cx 73 d_X10_thing_7 (by decide) (fun zc7 => ?_) (fun zc7 => ?_)
  · refine g_iconst cx 0 (by decide) d_X10_thing_73 ?_
    refine g_istore cx [(7, .int 0), (0, .ref (ad 0)), (1, .int a), (2, .int b), (3, .int c), (4, .int d), (5, .int e), (6, .int f)] d_X10_thing_74 (by decide) rfl ?_
    refine g_iload cx 0 rfl d_X10_thing_76 ?_
    refine g_if_ne_f cx 83 d_X10_thing_78 (by decide) (by decide) ?_
    refine g_iconst cx 0 (by decide) d_X10_thing_81 ?_
    exact hret d_X10_thing_82 (Nat.le_of_ble_eq_true rfl) (Nat.le_of_ble_eq_true rfl) rfl ⟨F, R, rfl, hI, KX_rf F⟩
  · refine g_iload_n cx 2 rfl d_X10_thing_10 ?_
    refine g_iconst cx 0 (by decide) d_X10_thing_11 ?_
    refine g_iconst cx 3 (by decide) d_X10_thing_12 ?_
    refine g_cSiW cx [.int b, .int 0, .int 3] [] (c_X10_within l X _ b 0 3) ml_X10_82 yS_X10_within rfl d_X10_thing_13 (by unfold g_rr; decide) (by decide) rfl (Nat.le_of_ble_eq_true rfl) (fun r4 w5 h6 => ?_)
    obtain ⟨rfl, rfl⟩ := h6
    refine g_if_eq cx 73 d_X10_thing_16 (by decide) (fun zc16 => ?_) (fun zc16 => ?_)
    · refine g_iconst cx 0 (by decide) d_X10_thing_73 ?_
      refine g_istore cx [(7, .int 0), (0, .ref (ad 0)), (1, .int a), (2, .int b), (3, .int c), (4, .int d), (5, .int e), (6, .int f)] d_X10_thing_74 (by decide) rfl ?_
      refine g_iload cx 0 rfl d_X10_thing_76 ?_
      refine g_if_ne_f cx 83 d_X10_thing_78 (by decide) (by decide) ?_
      refine g_iconst cx 0 (by decide) d_X10_thing_81 ?_
      exact hret d_X10_thing_82 (Nat.le_of_ble_eq_true rfl) (Nat.le_of_ble_eq_true rfl) rfl ⟨F, R, rfl, hI, KX_rf F⟩
    · refine g_iload_n cx 3 rfl d_X10_thing_19 ?_
      refine g_iconst cx 0 (by decide) d_X10_thing_20 ?_
      refine g_aload_n cx 0 rfl d_X10_thing_21 ?_
      refine g_get cx cl_X10 fl_X10_10 0 (.ref (ad 1)) d_X10_thing_22 rfl rfl ?_
      refine g_getN cx cl_X8 fn_X10_86 1 (.int (F 16)) d_X10_thing_25 rfl rfl ?_
      refine g_iconst cx 1 (by decide) d_X10_thing_28 ?_
      refine g_isub cx d_X10_thing_29 ?_
      refine g_cSiW cx [.int c, .int 0, .int ((F 16) - 1)] [] (c_X10_within l X _ c 0 ((F 16) - 1)) ml_X10_82 yS_X10_within rfl d_X10_thing_30 (by unfold g_rr; decide) (by decide) rfl (Nat.le_of_ble_eq_true rfl) (fun r7 w8 h9 => ?_)
      obtain ⟨rfl, rfl⟩ := h9
      refine g_if_eq cx 73 d_X10_thing_33 (by decide) (fun zc33 => ?_) (fun zc33 => ?_)
      · refine g_iconst cx 0 (by decide) d_X10_thing_73 ?_
        refine g_istore cx [(7, .int 0), (0, .ref (ad 0)), (1, .int a), (2, .int b), (3, .int c), (4, .int d), (5, .int e), (6, .int f)] d_X10_thing_74 (by decide) rfl ?_
        refine g_iload cx 0 rfl d_X10_thing_76 ?_
        refine g_if_ne_f cx 83 d_X10_thing_78 (by decide) (by decide) ?_
        refine g_iconst cx 0 (by decide) d_X10_thing_81 ?_
        exact hret d_X10_thing_82 (Nat.le_of_ble_eq_true rfl) (Nat.le_of_ble_eq_true rfl) rfl ⟨F, R, rfl, hI, KX_rf F⟩
      · refine g_iload cx 4 rfl d_X10_thing_36 ?_
        refine g_iconst cx 1 (by decide) d_X10_thing_38 ?_
        refine g_bipush cx 40 (by decide) d_X10_thing_39 ?_
        refine g_cSiW cx [.int d, .int 1, .int 40] [] (c_X10_within l X _ d 1 40) ml_X10_82 yS_X10_within rfl d_X10_thing_41 (by unfold g_rr; decide) (by decide) rfl (Nat.le_of_ble_eq_true rfl) (fun r10 w11 h12 => ?_)
        obtain ⟨rfl, rfl⟩ := h12
        refine g_if_eq cx 73 d_X10_thing_44 (by decide) (fun zc44 => ?_) (fun zc44 => ?_)
        · refine g_iconst cx 0 (by decide) d_X10_thing_73 ?_
          refine g_istore cx [(7, .int 0), (0, .ref (ad 0)), (1, .int a), (2, .int b), (3, .int c), (4, .int d), (5, .int e), (6, .int f)] d_X10_thing_74 (by decide) rfl ?_
          refine g_iload cx 0 rfl d_X10_thing_76 ?_
          refine g_if_ne_f cx 83 d_X10_thing_78 (by decide) (by decide) ?_
          refine g_iconst cx 0 (by decide) d_X10_thing_81 ?_
          exact hret d_X10_thing_82 (Nat.le_of_ble_eq_true rfl) (Nat.le_of_ble_eq_true rfl) rfl ⟨F, R, rfl, hI, KX_rf F⟩
        · refine g_iload cx 5 rfl d_X10_thing_47 ?_
          refine g_iconst cx 1 (by decide) d_X10_thing_49 ?_
          refine g_bipush cx 60 (by decide) d_X10_thing_50 ?_
          refine g_cSiW cx [.int e, .int 1, .int 60] [] (c_X10_within l X _ e 1 60) ml_X10_82 yS_X10_within rfl d_X10_thing_52 (by unfold g_rr; decide) (by decide) rfl (Nat.le_of_ble_eq_true rfl) (fun r13 w14 h15 => ?_)
          obtain ⟨rfl, rfl⟩ := h15
          refine g_if_eq cx 73 d_X10_thing_55 (by decide) (fun zc55 => ?_) (fun zc55 => ?_)
          · refine g_iconst cx 0 (by decide) d_X10_thing_73 ?_
            refine g_istore cx [(7, .int 0), (0, .ref (ad 0)), (1, .int a), (2, .int b), (3, .int c), (4, .int d), (5, .int e), (6, .int f)] d_X10_thing_74 (by decide) rfl ?_
            refine g_iload cx 0 rfl d_X10_thing_76 ?_
            refine g_if_ne_f cx 83 d_X10_thing_78 (by decide) (by decide) ?_
            refine g_iconst cx 0 (by decide) d_X10_thing_81 ?_
            exact hret d_X10_thing_82 (Nat.le_of_ble_eq_true rfl) (Nat.le_of_ble_eq_true rfl) rfl ⟨F, R, rfl, hI, KX_rf F⟩
          · refine g_iload cx 6 rfl d_X10_thing_58 ?_
            refine g_iconst cx 1 (by decide) d_X10_thing_60 ?_
            refine g_bipush cx 99 (by decide) d_X10_thing_61 ?_
            refine g_cSiW cx [.int f, .int 1, .int 99] [] (c_X10_within l X _ f 1 99) ml_X10_82 yS_X10_within rfl d_X10_thing_63 (by unfold g_rr; decide) (by decide) rfl (Nat.le_of_ble_eq_true rfl) (fun r16 w17 h18 => ?_)
            obtain ⟨rfl, rfl⟩ := h18
            refine g_if_eq cx 73 d_X10_thing_66 (by decide) (fun zc66 => ?_) (fun zc66 => ?_)
            · refine g_iconst cx 0 (by decide) d_X10_thing_73 ?_
              refine g_istore cx [(7, .int 0), (0, .ref (ad 0)), (1, .int a), (2, .int b), (3, .int c), (4, .int d), (5, .int e), (6, .int f)] d_X10_thing_74 (by decide) rfl ?_
              refine g_iload cx 0 rfl d_X10_thing_76 ?_
              refine g_if_ne_f cx 83 d_X10_thing_78 (by decide) (by decide) ?_
              refine g_iconst cx 0 (by decide) d_X10_thing_81 ?_
              exact hret d_X10_thing_82 (Nat.le_of_ble_eq_true rfl) (Nat.le_of_ble_eq_true rfl) rfl ⟨F, R, rfl, hI, KX_rf F⟩
            · refine g_iconst cx 1 (by decide) d_X10_thing_69 ?_
              refine g_goto cx 74 d_X10_thing_70 (by decide) ?_
              refine g_istore cx [(7, .int 1), (0, .ref (ad 0)), (1, .int a), (2, .int b), (3, .int c), (4, .int d), (5, .int e), (6, .int f)] d_X10_thing_74 (by decide) rfl ?_
              refine g_iload cx 0 rfl d_X10_thing_76 ?_
              refine g_if_ne_t cx 83 d_X10_thing_78 (by decide) (by decide) ?_
              refine g_aload_n cx 1 rfl d_X10_thing_83 ?_
              refine g_get cx cl_X10 fl_X10_10 0 (.ref (ad 1)) d_X10_thing_84 rfl rfl ?_
              refine g_dup cx rfl d_X10_thing_87 ?_
              refine g_getN cx cl_X8 fn_X10_95 1 (.int (F 19)) d_X10_thing_88 rfl rfl ?_
              refine g_iconst cx 1 (by decide) d_X10_thing_91 ?_
              refine g_iload_n cx 2 rfl d_X10_thing_92 ?_
              refine g_ishl cx d_X10_thing_93 ?_
              refine g_ior cx d_X10_thing_94 ?_
              refine g_putN cx cl_X8 fn_X10_95 1 (wX X ad (upd F 19 ((F 19) ||| (1 <<< (a &&& 31)))) R) d_X10_thing_95 rfl rfl rfl rfl (Nat.le_of_ble_eq_true rfl) rfl ?_
              obtain ⟨zF19, hzF19⟩ : ∃ z, z = (upd F 19 ((F 19) ||| (1 <<< (a &&& 31)))) := ⟨_, rfl⟩
              rw [← hzF19]
              have hIzF19 : IX zF19 := by rw [hzF19]; exact IX_u (hI) rfl
              have hKzF19 : KX F zF19 := by rw [hzF19]; exact KX_u (KX_rf F) rfl
              refine g_aload_n cx 1 rfl d_X10_thing_98 ?_
              refine g_get cx cl_X10 fl_X10_10 0 (.ref (ad 1)) d_X10_thing_99 rfl rfl ?_
              refine g_iload_n cx 2 rfl d_X10_thing_102 ?_
              refine g_iconst cx 0 (by decide) d_X10_thing_103 ?_
              refine g_iload_n cx 3 rfl d_X10_thing_104 ?_
              refine g_cVv cx [.int a, .int 0, .int b] [] (c_X8_change l X (ad 1) (ad 2) (zF19 16) (zF19 17) (zF19 18) (zF19 19) (zF19 20) (R 2) a 0 b) ml_X10_98 yV_X8_change d_X10_thing_105 (by unfold g_rr; decide) (by decide) 0 rfl rfl [1, 2] rfl (by decide) rfl (Nat.le_of_ble_eq_true rfl) (by rintro _ ⟨_, rfl, _⟩; rfl) (fun w21 h22 => ?_)
              obtain ⟨g23, rfl, -⟩ := h22
              refine g_weq (wX X ad zF19 (g_u R 2 g23)) rfl ?_
              obtain ⟨zR24, hzR24⟩ : ∃ z, z = (g_u R 2 g23) := ⟨_, rfl⟩
              rw [← hzR24]
              refine g_aload_n cx 1 rfl d_X10_thing_108 ?_
              refine g_get cx cl_X10 fl_X10_10 0 (.ref (ad 1)) d_X10_thing_109 rfl rfl ?_
              refine g_iload_n cx 2 rfl d_X10_thing_112 ?_
              refine g_iconst cx 1 (by decide) d_X10_thing_113 ?_
              refine g_iload_n cx 4 rfl d_X10_thing_114 ?_
              refine g_cVv cx [.int a, .int 1, .int c] [] (c_X8_change l X (ad 1) (ad 2) (zF19 16) (zF19 17) (zF19 18) (zF19 19) (zF19 20) (zR24 2) a 1 c) ml_X10_98 yV_X8_change d_X10_thing_115 (by unfold g_rr; decide) (by decide) 0 rfl rfl [1, 2] rfl (by decide) rfl (Nat.le_of_ble_eq_true rfl) (by rintro _ ⟨_, rfl, _⟩; rfl) (fun w26 h27 => ?_)
              obtain ⟨g28, rfl, -⟩ := h27
              refine g_weq (wX X ad zF19 (g_u zR24 2 g28)) rfl ?_
              obtain ⟨zR29, hzR29⟩ : ∃ z, z = (g_u zR24 2 g28) := ⟨_, rfl⟩
              rw [← hzR29]
              refine g_aload_n cx 1 rfl d_X10_thing_118 ?_
              refine g_get cx cl_X10 fl_X10_10 0 (.ref (ad 1)) d_X10_thing_119 rfl rfl ?_
              refine g_iload_n cx 2 rfl d_X10_thing_122 ?_
              refine g_iconst cx 2 (by decide) d_X10_thing_123 ?_
              refine g_iload cx 5 rfl d_X10_thing_124 ?_
              refine g_cVv cx [.int a, .int 2, .int d] [] (c_X8_change l X (ad 1) (ad 2) (zF19 16) (zF19 17) (zF19 18) (zF19 19) (zF19 20) (zR29 2) a 2 d) ml_X10_98 yV_X8_change d_X10_thing_126 (by unfold g_rr; decide) (by decide) 0 rfl rfl [1, 2] rfl (by decide) rfl (Nat.le_of_ble_eq_true rfl) (by rintro _ ⟨_, rfl, _⟩; rfl) (fun w31 h32 => ?_)
              obtain ⟨g33, rfl, -⟩ := h32
              refine g_weq (wX X ad zF19 (g_u zR29 2 g33)) rfl ?_
              obtain ⟨zR34, hzR34⟩ : ∃ z, z = (g_u zR29 2 g33) := ⟨_, rfl⟩
              rw [← hzR34]
              refine g_aload_n cx 1 rfl d_X10_thing_129 ?_
              refine g_get cx cl_X10 fl_X10_10 0 (.ref (ad 1)) d_X10_thing_130 rfl rfl ?_
              refine g_iload_n cx 2 rfl d_X10_thing_133 ?_
              refine g_iconst cx 3 (by decide) d_X10_thing_134 ?_
              refine g_iload cx 6 rfl d_X10_thing_135 ?_
              refine g_cVv cx [.int a, .int 3, .int e] [] (c_X8_change l X (ad 1) (ad 2) (zF19 16) (zF19 17) (zF19 18) (zF19 19) (zF19 20) (zR34 2) a 3 e) ml_X10_98 yV_X8_change d_X10_thing_137 (by unfold g_rr; decide) (by decide) 0 rfl rfl [1, 2] rfl (by decide) rfl (Nat.le_of_ble_eq_true rfl) (by rintro _ ⟨_, rfl, _⟩; rfl) (fun w36 h37 => ?_)
              obtain ⟨g38, rfl, -⟩ := h37
              refine g_weq (wX X ad zF19 (g_u zR34 2 g38)) rfl ?_
              obtain ⟨zR39, hzR39⟩ : ∃ z, z = (g_u zR34 2 g38) := ⟨_, rfl⟩
              rw [← hzR39]
              refine g_aload_n cx 1 rfl d_X10_thing_140 ?_
              refine g_get cx cl_X10 fl_X10_10 0 (.ref (ad 1)) d_X10_thing_141 rfl rfl ?_
              refine g_iload_n cx 2 rfl d_X10_thing_144 ?_
              refine g_iconst cx 4 (by decide) d_X10_thing_145 ?_
              refine g_iload cx 7 rfl d_X10_thing_146 ?_
              refine g_cVv cx [.int a, .int 4, .int f] [] (c_X8_change l X (ad 1) (ad 2) (zF19 16) (zF19 17) (zF19 18) (zF19 19) (zF19 20) (zR39 2) a 4 f) ml_X10_98 yV_X8_change d_X10_thing_148 (by unfold g_rr; decide) (by decide) 0 rfl rfl [1, 2] rfl (by decide) rfl (Nat.le_of_ble_eq_true rfl) (by rintro _ ⟨_, rfl, _⟩; rfl) (fun w41 h42 => ?_)
              obtain ⟨g43, rfl, -⟩ := h42
              refine g_weq (wX X ad zF19 (g_u zR39 2 g43)) rfl ?_
              obtain ⟨zR44, hzR44⟩ : ∃ z, z = (g_u zR39 2 g43) := ⟨_, rfl⟩
              rw [← hzR44]
              refine g_aload_n cx 1 rfl d_X10_thing_151 ?_
              refine g_get cx cl_X10 fl_X10_10 0 (.ref (ad 1)) d_X10_thing_152 rfl rfl ?_
              refine g_iload_n cx 2 rfl d_X10_thing_155 ?_
              refine g_iconst cx 5 (by decide) d_X10_thing_156 ?_
              refine g_iconst cx 0 (by decide) d_X10_thing_157 ?_
              refine g_cVv cx [.int a, .int 5, .int 0] [] (c_X8_change l X (ad 1) (ad 2) (zF19 16) (zF19 17) (zF19 18) (zF19 19) (zF19 20) (zR44 2) a 5 0) ml_X10_98 yV_X8_change d_X10_thing_158 (by unfold g_rr; decide) (by decide) 0 rfl rfl [1, 2] rfl (by decide) rfl (Nat.le_of_ble_eq_true rfl) (by rintro _ ⟨_, rfl, _⟩; rfl) (fun w46 h47 => ?_)
              obtain ⟨g48, rfl, -⟩ := h47
              refine g_weq (wX X ad zF19 (g_u zR44 2 g48)) rfl ?_
              obtain ⟨zR49, hzR49⟩ : ∃ z, z = (g_u zR44 2 g48) := ⟨_, rfl⟩
              rw [← hzR49]
              refine g_aload_n cx 1 rfl d_X10_thing_161 ?_
              refine g_get cx cl_X10 fl_X10_10 0 (.ref (ad 1)) d_X10_thing_162 rfl rfl ?_
              refine g_iload_n cx 2 rfl d_X10_thing_165 ?_
              refine g_bipush cx 6 (by decide) d_X10_thing_166 ?_
              refine g_iconst cx 0 (by decide) d_X10_thing_168 ?_
              refine g_cVv cx [.int a, .int 6, .int 0] [] (c_X8_change l X (ad 1) (ad 2) (zF19 16) (zF19 17) (zF19 18) (zF19 19) (zF19 20) (zR49 2) a 6 0) ml_X10_98 yV_X8_change d_X10_thing_169 (by unfold g_rr; decide) (by decide) 0 rfl rfl [1, 2] rfl (by decide) rfl (Nat.le_of_ble_eq_true rfl) (by rintro _ ⟨_, rfl, _⟩; rfl) (fun w51 h52 => ?_)
              obtain ⟨g53, rfl, -⟩ := h52
              refine g_weq (wX X ad zF19 (g_u zR49 2 g53)) rfl ?_
              obtain ⟨zR54, hzR54⟩ : ∃ z, z = (g_u zR49 2 g53) := ⟨_, rfl⟩
              rw [← hzR54]
              refine g_aload_n cx 1 rfl d_X10_thing_172 ?_
              refine g_get cx cl_X10 fl_X10_10 0 (.ref (ad 1)) d_X10_thing_173 rfl rfl ?_
              refine g_iload_n cx 2 rfl d_X10_thing_176 ?_
              refine g_bipush cx 7 (by decide) d_X10_thing_177 ?_
              refine g_iconst cx 0 (by decide) d_X10_thing_179 ?_
              refine g_cVv cx [.int a, .int 7, .int 0] [] (c_X8_change l X (ad 1) (ad 2) (zF19 16) (zF19 17) (zF19 18) (zF19 19) (zF19 20) (zR54 2) a 7 0) ml_X10_98 yV_X8_change d_X10_thing_180 (by unfold g_rr; decide) (by decide) 0 rfl rfl [1, 2] rfl (by decide) rfl (Nat.le_of_ble_eq_true rfl) (by rintro _ ⟨_, rfl, _⟩; rfl) (fun w56 h57 => ?_)
              obtain ⟨g58, rfl, -⟩ := h57
              refine g_weq (wX X ad zF19 (g_u zR54 2 g58)) rfl ?_
              obtain ⟨zR59, hzR59⟩ : ∃ z, z = (g_u zR54 2 g58) := ⟨_, rfl⟩
              rw [← hzR59]
              refine g_iconst cx 1 (by decide) d_X10_thing_183 ?_
              exact hret d_X10_thing_184 (Nat.le_of_ble_eq_true rfl) (Nat.le_of_ble_eq_true rfl) rfl ⟨zF19, zR59, rfl, hIzF19, hKzF19⟩
theorem d_X10_more_0 : g_dc cX10_more 0 (.aload_n 0) 1 1 := ⟨by decide +kernel, rfl⟩
theorem d_X10_more_1 : g_dc cX10_more 1 (.getfield 10) 3 4 := ⟨by decide +kernel, rfl⟩
theorem d_X10_more_4 : g_dc cX10_more 4 (.iload_n 1) 1 5 := ⟨by decide +kernel, rfl⟩
theorem d_X10_more_5 : g_dc cX10_more 5 (.invokevirtual 102) 3 8 := ⟨by decide +kernel, rfl⟩
theorem d_X10_more_8 : g_dc cX10_more 8 (.ifCond .eq 35) 3 11 := ⟨by decide +kernel, rfl⟩
theorem d_X10_more_11 : g_dc cX10_more 11 (.iload_n 2) 1 12 := ⟨by decide +kernel, rfl⟩
theorem d_X10_more_12 : g_dc cX10_more 12 (.iconst 0) 1 13 := ⟨by decide +kernel, rfl⟩
theorem d_X10_more_13 : g_dc cX10_more 13 (.bipush 9) 2 15 := ⟨by decide +kernel, rfl⟩
theorem d_X10_more_15 : g_dc cX10_more 15 (.invokestatic 82) 3 18 := ⟨by decide +kernel, rfl⟩
theorem d_X10_more_18 : g_dc cX10_more 18 (.ifCond .eq 25) 3 21 := ⟨by decide +kernel, rfl⟩
theorem d_X10_more_21 : g_dc cX10_more 21 (.iload_n 3) 1 22 := ⟨by decide +kernel, rfl⟩
theorem d_X10_more_22 : g_dc cX10_more 22 (.iconst 0) 1 23 := ⟨by decide +kernel, rfl⟩
theorem d_X10_more_23 : g_dc cX10_more 23 (.bipush 9) 2 25 := ⟨by decide +kernel, rfl⟩
theorem d_X10_more_25 : g_dc cX10_more 25 (.invokestatic 82) 3 28 := ⟨by decide +kernel, rfl⟩
theorem d_X10_more_28 : g_dc cX10_more 28 (.ifCond .eq 15) 3 31 := ⟨by decide +kernel, rfl⟩
theorem d_X10_more_31 : g_dc cX10_more 31 (.iload 4) 2 33 := ⟨by decide +kernel, rfl⟩
theorem d_X10_more_33 : g_dc cX10_more 33 (.iconst 0) 1 34 := ⟨by decide +kernel, rfl⟩
theorem d_X10_more_34 : g_dc cX10_more 34 (.sipush 999) 3 37 := ⟨by decide +kernel, rfl⟩
theorem d_X10_more_37 : g_dc cX10_more 37 (.invokestatic 82) 3 40 := ⟨by decide +kernel, rfl⟩
theorem d_X10_more_40 : g_dc cX10_more 40 (.ifCond .ne 5) 3 43 := ⟨by decide +kernel, rfl⟩
theorem d_X10_more_43 : g_dc cX10_more 43 (.iconst 0) 1 44 := ⟨by decide +kernel, rfl⟩
theorem d_X10_more_44 : g_dc cX10_more 44 (.ireturn) 1 45 := ⟨by decide +kernel, rfl⟩
theorem d_X10_more_45 : g_dc cX10_more 45 (.aload_n 0) 1 46 := ⟨by decide +kernel, rfl⟩
theorem d_X10_more_46 : g_dc cX10_more 46 (.getfield 10) 3 49 := ⟨by decide +kernel, rfl⟩
theorem d_X10_more_49 : g_dc cX10_more 49 (.iload_n 1) 1 50 := ⟨by decide +kernel, rfl⟩
theorem d_X10_more_50 : g_dc cX10_more 50 (.iconst 5) 1 51 := ⟨by decide +kernel, rfl⟩
theorem d_X10_more_51 : g_dc cX10_more 51 (.iload_n 2) 1 52 := ⟨by decide +kernel, rfl⟩
theorem d_X10_more_52 : g_dc cX10_more 52 (.invokevirtual 98) 3 55 := ⟨by decide +kernel, rfl⟩
theorem d_X10_more_55 : g_dc cX10_more 55 (.aload_n 0) 1 56 := ⟨by decide +kernel, rfl⟩
theorem d_X10_more_56 : g_dc cX10_more 56 (.getfield 10) 3 59 := ⟨by decide +kernel, rfl⟩
theorem d_X10_more_59 : g_dc cX10_more 59 (.iload_n 1) 1 60 := ⟨by decide +kernel, rfl⟩
theorem d_X10_more_60 : g_dc cX10_more 60 (.bipush 6) 2 62 := ⟨by decide +kernel, rfl⟩
theorem d_X10_more_62 : g_dc cX10_more 62 (.iload_n 3) 1 63 := ⟨by decide +kernel, rfl⟩
theorem d_X10_more_63 : g_dc cX10_more 63 (.invokevirtual 98) 3 66 := ⟨by decide +kernel, rfl⟩
theorem d_X10_more_66 : g_dc cX10_more 66 (.aload_n 0) 1 67 := ⟨by decide +kernel, rfl⟩
theorem d_X10_more_67 : g_dc cX10_more 67 (.getfield 10) 3 70 := ⟨by decide +kernel, rfl⟩
theorem d_X10_more_70 : g_dc cX10_more 70 (.iload_n 1) 1 71 := ⟨by decide +kernel, rfl⟩
theorem d_X10_more_71 : g_dc cX10_more 71 (.bipush 7) 2 73 := ⟨by decide +kernel, rfl⟩
theorem d_X10_more_73 : g_dc cX10_more 73 (.iload 4) 2 75 := ⟨by decide +kernel, rfl⟩
theorem d_X10_more_75 : g_dc cX10_more 75 (.invokevirtual 98) 3 78 := ⟨by decide +kernel, rfl⟩
theorem d_X10_more_78 : g_dc cX10_more 78 (.iconst 1) 1 79 := ⟨by decide +kernel, rfl⟩
theorem d_X10_more_79 : g_dc cX10_more 79 (.ireturn) 1 80 := ⟨by decide +kernel, rfl⟩
set_option maxHeartbeats 4000000 in
set_option maxRecDepth 100000 in
theorem c_X10_more (l : Launch) (X : gX) (ad : Nat → Nat) (F : Nat → Int32) (R : Nat → Nat → Int32) (hI : IX F) (a b c d : Int32) : g_Ci l X yX10_more cX10_more 5 (some .boolean) 3 0 0 [.ref (ad 0), .int a, .int b, .int c, .int d] (wX X ad F R) (fun r w => ∃ (F' : Nat → Int32) (R' : Nat → Nat → Int32), w = wX X ad F' R' ∧ IX F' ∧ KX F F') := by
  refine g_mi (by decide +kernel) (Nat.le_of_ble_eq_true rfl) (fun E cx hret => ?_)
  refine g_aload_n cx 0 rfl d_X10_more_0 ?_
  refine g_get cx cl_X10 fl_X10_10 0 (.ref (ad 1)) d_X10_more_1 rfl rfl ?_
  refine g_iload_n cx 1 rfl d_X10_more_4 ?_
  refine g_cVi cx [.int a] [] (c_X8_has l X (ad 1) (ad 2) (F 16) (F 17) (F 18) (F 19) (F 20) (R 2) a) ml_X10_102 yV_X8_has d_X10_more_5 (by unfold g_rr; decide) (by decide) 0 rfl rfl [1, 2] rfl (by decide) rfl (Nat.le_of_ble_eq_true rfl) (by rintro _ _ ⟨rfl, _⟩; rfl) (fun r1 w2 h3 => ?_)
  obtain ⟨rfl, rfl⟩ := h3
  refine g_weq (wX X ad F R) (g_rep_same rfl) ?_
  refine g_if_eq cx 43 d_X10_more_8 (by decide) (fun zc8 => ?_) (fun zc8 => ?_)
  · refine g_iconst cx 0 (by decide) d_X10_more_43 ?_
    exact hret d_X10_more_44 (Nat.le_of_ble_eq_true rfl) (Nat.le_of_ble_eq_true rfl) rfl ⟨F, R, rfl, hI, KX_rf F⟩
  · refine g_iload_n cx 2 rfl d_X10_more_11 ?_
    refine g_iconst cx 0 (by decide) d_X10_more_12 ?_
    refine g_bipush cx 9 (by decide) d_X10_more_13 ?_
    refine g_cSiW cx [.int b, .int 0, .int 9] [] (c_X10_within l X _ b 0 9) ml_X10_82 yS_X10_within rfl d_X10_more_15 (by unfold g_rr; decide) (by decide) rfl (Nat.le_of_ble_eq_true rfl) (fun r4 w5 h6 => ?_)
    obtain ⟨rfl, rfl⟩ := h6
    refine g_if_eq cx 43 d_X10_more_18 (by decide) (fun zc18 => ?_) (fun zc18 => ?_)
    · refine g_iconst cx 0 (by decide) d_X10_more_43 ?_
      exact hret d_X10_more_44 (Nat.le_of_ble_eq_true rfl) (Nat.le_of_ble_eq_true rfl) rfl ⟨F, R, rfl, hI, KX_rf F⟩
    · refine g_iload_n cx 3 rfl d_X10_more_21 ?_
      refine g_iconst cx 0 (by decide) d_X10_more_22 ?_
      refine g_bipush cx 9 (by decide) d_X10_more_23 ?_
      refine g_cSiW cx [.int c, .int 0, .int 9] [] (c_X10_within l X _ c 0 9) ml_X10_82 yS_X10_within rfl d_X10_more_25 (by unfold g_rr; decide) (by decide) rfl (Nat.le_of_ble_eq_true rfl) (fun r7 w8 h9 => ?_)
      obtain ⟨rfl, rfl⟩ := h9
      refine g_if_eq cx 43 d_X10_more_28 (by decide) (fun zc28 => ?_) (fun zc28 => ?_)
      · refine g_iconst cx 0 (by decide) d_X10_more_43 ?_
        exact hret d_X10_more_44 (Nat.le_of_ble_eq_true rfl) (Nat.le_of_ble_eq_true rfl) rfl ⟨F, R, rfl, hI, KX_rf F⟩
      · refine g_iload cx 4 rfl d_X10_more_31 ?_
        refine g_iconst cx 0 (by decide) d_X10_more_33 ?_
        refine g_sipush cx 999 (by decide) d_X10_more_34 ?_
        refine g_cSiW cx [.int d, .int 0, .int 999] [] (c_X10_within l X _ d 0 999) ml_X10_82 yS_X10_within rfl d_X10_more_37 (by unfold g_rr; decide) (by decide) rfl (Nat.le_of_ble_eq_true rfl) (fun r10 w11 h12 => ?_)
        obtain ⟨rfl, rfl⟩ := h12
        refine g_if_ne cx 45 d_X10_more_40 (by decide) (fun zc40 => ?_) (fun zc40 => ?_)
        · refine g_aload_n cx 0 rfl d_X10_more_45 ?_
          refine g_get cx cl_X10 fl_X10_10 0 (.ref (ad 1)) d_X10_more_46 rfl rfl ?_
          refine g_iload_n cx 1 rfl d_X10_more_49 ?_
          refine g_iconst cx 5 (by decide) d_X10_more_50 ?_
          refine g_iload_n cx 2 rfl d_X10_more_51 ?_
          refine g_cVv cx [.int a, .int 5, .int b] [] (c_X8_change l X (ad 1) (ad 2) (F 16) (F 17) (F 18) (F 19) (F 20) (R 2) a 5 b) ml_X10_98 yV_X8_change d_X10_more_52 (by unfold g_rr; decide) (by decide) 0 rfl rfl [1, 2] rfl (by decide) rfl (Nat.le_of_ble_eq_true rfl) (by rintro _ ⟨_, rfl, _⟩; rfl) (fun w14 h15 => ?_)
          obtain ⟨g16, rfl, -⟩ := h15
          refine g_weq (wX X ad F (g_u R 2 g16)) rfl ?_
          obtain ⟨zR17, hzR17⟩ : ∃ z, z = (g_u R 2 g16) := ⟨_, rfl⟩
          rw [← hzR17]
          refine g_aload_n cx 0 rfl d_X10_more_55 ?_
          refine g_get cx cl_X10 fl_X10_10 0 (.ref (ad 1)) d_X10_more_56 rfl rfl ?_
          refine g_iload_n cx 1 rfl d_X10_more_59 ?_
          refine g_bipush cx 6 (by decide) d_X10_more_60 ?_
          refine g_iload_n cx 3 rfl d_X10_more_62 ?_
          refine g_cVv cx [.int a, .int 6, .int c] [] (c_X8_change l X (ad 1) (ad 2) (F 16) (F 17) (F 18) (F 19) (F 20) (zR17 2) a 6 c) ml_X10_98 yV_X8_change d_X10_more_63 (by unfold g_rr; decide) (by decide) 0 rfl rfl [1, 2] rfl (by decide) rfl (Nat.le_of_ble_eq_true rfl) (by rintro _ ⟨_, rfl, _⟩; rfl) (fun w19 h20 => ?_)
          obtain ⟨g21, rfl, -⟩ := h20
          refine g_weq (wX X ad F (g_u zR17 2 g21)) rfl ?_
          obtain ⟨zR22, hzR22⟩ : ∃ z, z = (g_u zR17 2 g21) := ⟨_, rfl⟩
          rw [← hzR22]
          refine g_aload_n cx 0 rfl d_X10_more_66 ?_
          refine g_get cx cl_X10 fl_X10_10 0 (.ref (ad 1)) d_X10_more_67 rfl rfl ?_
          refine g_iload_n cx 1 rfl d_X10_more_70 ?_
          refine g_bipush cx 7 (by decide) d_X10_more_71 ?_
          refine g_iload cx 4 rfl d_X10_more_73 ?_
          refine g_cVv cx [.int a, .int 7, .int d] [] (c_X8_change l X (ad 1) (ad 2) (F 16) (F 17) (F 18) (F 19) (F 20) (zR22 2) a 7 d) ml_X10_98 yV_X8_change d_X10_more_75 (by unfold g_rr; decide) (by decide) 0 rfl rfl [1, 2] rfl (by decide) rfl (Nat.le_of_ble_eq_true rfl) (by rintro _ ⟨_, rfl, _⟩; rfl) (fun w24 h25 => ?_)
          obtain ⟨g26, rfl, -⟩ := h25
          refine g_weq (wX X ad F (g_u zR22 2 g26)) rfl ?_
          obtain ⟨zR27, hzR27⟩ : ∃ z, z = (g_u zR22 2 g26) := ⟨_, rfl⟩
          rw [← hzR27]
          refine g_iconst cx 1 (by decide) d_X10_more_78 ?_
          exact hret d_X10_more_79 (Nat.le_of_ble_eq_true rfl) (Nat.le_of_ble_eq_true rfl) rfl ⟨F, zR27, rfl, hI, KX_rf F⟩
        · refine g_iconst cx 0 (by decide) d_X10_more_43 ?_
          exact hret d_X10_more_44 (Nat.le_of_ble_eq_true rfl) (Nat.le_of_ble_eq_true rfl) rfl ⟨F, R, rfl, hI, KX_rf F⟩
theorem d_X10_away_0 : g_dc cX10_away 0 (.aload_n 0) 1 1 := ⟨by decide +kernel, rfl⟩
theorem d_X10_away_1 : g_dc cX10_away 1 (.getfield 10) 3 4 := ⟨by decide +kernel, rfl⟩
theorem d_X10_away_4 : g_dc cX10_away 4 (.iload_n 1) 1 5 := ⟨by decide +kernel, rfl⟩
theorem d_X10_away_5 : g_dc cX10_away 5 (.invokevirtual 102) 3 8 := ⟨by decide +kernel, rfl⟩
theorem d_X10_away_8 : g_dc cX10_away 8 (.ifCond .ne 5) 3 11 := ⟨by decide +kernel, rfl⟩
theorem d_X10_away_11 : g_dc cX10_away 11 (.iconst 0) 1 12 := ⟨by decide +kernel, rfl⟩
theorem d_X10_away_12 : g_dc cX10_away 12 (.ireturn) 1 13 := ⟨by decide +kernel, rfl⟩
theorem d_X10_away_13 : g_dc cX10_away 13 (.aload_n 0) 1 14 := ⟨by decide +kernel, rfl⟩
theorem d_X10_away_14 : g_dc cX10_away 14 (.getfield 10) 3 17 := ⟨by decide +kernel, rfl⟩
theorem d_X10_away_17 : g_dc cX10_away 17 (.iload_n 1) 1 18 := ⟨by decide +kernel, rfl⟩
theorem d_X10_away_18 : g_dc cX10_away 18 (.invokevirtual 106) 3 21 := ⟨by decide +kernel, rfl⟩
theorem d_X10_away_21 : g_dc cX10_away 21 (.iconst 1) 1 22 := ⟨by decide +kernel, rfl⟩
theorem d_X10_away_22 : g_dc cX10_away 22 (.ireturn) 1 23 := ⟨by decide +kernel, rfl⟩
set_option maxHeartbeats 4000000 in
set_option maxRecDepth 100000 in
theorem c_X10_away (l : Launch) (X : gX) (ad : Nat → Nat) (F : Nat → Int32) (R : Nat → Nat → Int32) (hI : IX F) (a : Int32) : g_Ci l X yX10_away cX10_away 2 (some .boolean) 3 0 0 [.ref (ad 0), .int a] (wX X ad F R) (fun r w => ∃ (F' : Nat → Int32) (R' : Nat → Nat → Int32), w = wX X ad F' R' ∧ IX F' ∧ KX F F') := by
  refine g_mi (by decide +kernel) (Nat.le_of_ble_eq_true rfl) (fun E cx hret => ?_)
  refine g_aload_n cx 0 rfl d_X10_away_0 ?_
  refine g_get cx cl_X10 fl_X10_10 0 (.ref (ad 1)) d_X10_away_1 rfl rfl ?_
  refine g_iload_n cx 1 rfl d_X10_away_4 ?_
  refine g_cVi cx [.int a] [] (c_X8_has l X (ad 1) (ad 2) (F 16) (F 17) (F 18) (F 19) (F 20) (R 2) a) ml_X10_102 yV_X8_has d_X10_away_5 (by unfold g_rr; decide) (by decide) 0 rfl rfl [1, 2] rfl (by decide) rfl (Nat.le_of_ble_eq_true rfl) (by rintro _ _ ⟨rfl, _⟩; rfl) (fun r1 w2 h3 => ?_)
  obtain ⟨rfl, rfl⟩ := h3
  refine g_weq (wX X ad F R) (g_rep_same rfl) ?_
  refine g_if_ne cx 13 d_X10_away_8 (by decide) (fun zc8 => ?_) (fun zc8 => ?_)
  · refine g_aload_n cx 0 rfl d_X10_away_13 ?_
    refine g_get cx cl_X10 fl_X10_10 0 (.ref (ad 1)) d_X10_away_14 rfl rfl ?_
    refine g_iload_n cx 1 rfl d_X10_away_17 ?_
    refine g_cVv cx [.int a] [] (c_X8_take l X (ad 1) (ad 2) (F 16) (F 17) (F 18) (F 19) (F 20) (R 2) a) ml_X10_106 yV_X8_take d_X10_away_18 (by unfold g_rr; decide) (by decide) 0 rfl rfl [1, 2] rfl (by decide) rfl (Nat.le_of_ble_eq_true rfl) (by rintro _ ⟨_, rfl, _⟩; rfl) (fun w5 h6 => ?_)
    obtain ⟨z7, rfl, -⟩ := h6
    refine g_weq (wX X ad (upd F 19 z7) R) rfl ?_
    obtain ⟨zF8, hzF8⟩ : ∃ z, z = (upd F 19 z7) := ⟨_, rfl⟩
    rw [← hzF8]
    have hIzF8 : IX zF8 := by rw [hzF8]; exact IX_u (hI) rfl
    have hKzF8 : KX F zF8 := by rw [hzF8]; exact KX_u (KX_rf F) rfl
    refine g_iconst cx 1 (by decide) d_X10_away_21 ?_
    exact hret d_X10_away_22 (Nat.le_of_ble_eq_true rfl) (Nat.le_of_ble_eq_true rfl) rfl ⟨zF8, R, rfl, hIzF8, hKzF8⟩
  · refine g_iconst cx 0 (by decide) d_X10_away_11 ?_
    exact hret d_X10_away_12 (Nat.le_of_ble_eq_true rfl) (Nat.le_of_ble_eq_true rfl) rfl ⟨F, R, rfl, hI, KX_rf F⟩
theorem d_X10_thingIs_0 : g_dc cX10_thingIs 0 (.aload_n 0) 1 1 := ⟨by decide +kernel, rfl⟩
theorem d_X10_thingIs_1 : g_dc cX10_thingIs 1 (.getfield 10) 3 4 := ⟨by decide +kernel, rfl⟩
theorem d_X10_thingIs_4 : g_dc cX10_thingIs 4 (.iload_n 1) 1 5 := ⟨by decide +kernel, rfl⟩
theorem d_X10_thingIs_5 : g_dc cX10_thingIs 5 (.invokevirtual 102) 3 8 := ⟨by decide +kernel, rfl⟩
theorem d_X10_thingIs_8 : g_dc cX10_thingIs 8 (.ifCond .eq 25) 3 11 := ⟨by decide +kernel, rfl⟩
theorem d_X10_thingIs_11 : g_dc cX10_thingIs 11 (.iload_n 2) 1 12 := ⟨by decide +kernel, rfl⟩
theorem d_X10_thingIs_12 : g_dc cX10_thingIs 12 (.iconst 0) 1 13 := ⟨by decide +kernel, rfl⟩
theorem d_X10_thingIs_13 : g_dc cX10_thingIs 13 (.bipush 7) 2 15 := ⟨by decide +kernel, rfl⟩
theorem d_X10_thingIs_15 : g_dc cX10_thingIs 15 (.invokestatic 82) 3 18 := ⟨by decide +kernel, rfl⟩
theorem d_X10_thingIs_18 : g_dc cX10_thingIs 18 (.ifCond .eq 15) 3 21 := ⟨by decide +kernel, rfl⟩
theorem d_X10_thingIs_21 : g_dc cX10_thingIs 21 (.aload_n 0) 1 22 := ⟨by decide +kernel, rfl⟩
theorem d_X10_thingIs_22 : g_dc cX10_thingIs 22 (.getfield 10) 3 25 := ⟨by decide +kernel, rfl⟩
theorem d_X10_thingIs_25 : g_dc cX10_thingIs 25 (.iload_n 1) 1 26 := ⟨by decide +kernel, rfl⟩
theorem d_X10_thingIs_26 : g_dc cX10_thingIs 26 (.iload_n 2) 1 27 := ⟨by decide +kernel, rfl⟩
theorem d_X10_thingIs_27 : g_dc cX10_thingIs 27 (.invokevirtual 173) 3 30 := ⟨by decide +kernel, rfl⟩
theorem d_X10_thingIs_30 : g_dc cX10_thingIs 30 (.goto 4) 3 33 := ⟨by decide +kernel, rfl⟩
theorem d_X10_thingIs_33 : g_dc cX10_thingIs 33 (.iconst (-1)) 1 34 := ⟨by decide +kernel, rfl⟩
theorem d_X10_thingIs_34 : g_dc cX10_thingIs 34 (.ireturn) 1 35 := ⟨by decide +kernel, rfl⟩
set_option maxHeartbeats 4000000 in
set_option maxRecDepth 100000 in
theorem c_X10_thingIs (l : Launch) (X : gX) (ad : Nat → Nat) (F : Nat → Int32) (R : Nat → Nat → Int32) (hI : IX F) (a b : Int32) : g_Ci l X yX10_thingIs cX10_thingIs 3 (some .int) 3 0 0 [.ref (ad 0), .int a, .int b] (wX X ad F R) (fun r w => ∃ (F' : Nat → Int32) (R' : Nat → Nat → Int32), w = wX X ad F' R' ∧ IX F' ∧ KX F F') := by
  refine g_mi (by decide +kernel) (Nat.le_of_ble_eq_true rfl) (fun E cx hret => ?_)
  refine g_aload_n cx 0 rfl d_X10_thingIs_0 ?_
  refine g_get cx cl_X10 fl_X10_10 0 (.ref (ad 1)) d_X10_thingIs_1 rfl rfl ?_
  refine g_iload_n cx 1 rfl d_X10_thingIs_4 ?_
  refine g_cVi cx [.int a] [] (c_X8_has l X (ad 1) (ad 2) (F 16) (F 17) (F 18) (F 19) (F 20) (R 2) a) ml_X10_102 yV_X8_has d_X10_thingIs_5 (by unfold g_rr; decide) (by decide) 0 rfl rfl [1, 2] rfl (by decide) rfl (Nat.le_of_ble_eq_true rfl) (by rintro _ _ ⟨rfl, _⟩; rfl) (fun r1 w2 h3 => ?_)
  obtain ⟨rfl, rfl⟩ := h3
  refine g_weq (wX X ad F R) (g_rep_same rfl) ?_
  refine g_if_eq cx 33 d_X10_thingIs_8 (by decide) (fun zc8 => ?_) (fun zc8 => ?_)
  · refine g_iconst cx (-1) (by decide) d_X10_thingIs_33 ?_
    exact hret d_X10_thingIs_34 (Nat.le_of_ble_eq_true rfl) (Nat.le_of_ble_eq_true rfl) rfl ⟨F, R, rfl, hI, KX_rf F⟩
  · refine g_iload_n cx 2 rfl d_X10_thingIs_11 ?_
    refine g_iconst cx 0 (by decide) d_X10_thingIs_12 ?_
    refine g_bipush cx 7 (by decide) d_X10_thingIs_13 ?_
    refine g_cSiW cx [.int b, .int 0, .int 7] [] (c_X10_within l X _ b 0 7) ml_X10_82 yS_X10_within rfl d_X10_thingIs_15 (by unfold g_rr; decide) (by decide) rfl (Nat.le_of_ble_eq_true rfl) (fun r4 w5 h6 => ?_)
    obtain ⟨rfl, rfl⟩ := h6
    refine g_if_eq cx 33 d_X10_thingIs_18 (by decide) (fun zc18 => ?_) (fun zc18 => ?_)
    · refine g_iconst cx (-1) (by decide) d_X10_thingIs_33 ?_
      exact hret d_X10_thingIs_34 (Nat.le_of_ble_eq_true rfl) (Nat.le_of_ble_eq_true rfl) rfl ⟨F, R, rfl, hI, KX_rf F⟩
    · refine g_aload_n cx 0 rfl d_X10_thingIs_21 ?_
      refine g_get cx cl_X10 fl_X10_10 0 (.ref (ad 1)) d_X10_thingIs_22 rfl rfl ?_
      refine g_iload_n cx 1 rfl d_X10_thingIs_25 ?_
      refine g_iload_n cx 2 rfl d_X10_thingIs_26 ?_
      refine g_cVi cx [.int a, .int b] [] (c_X8_side l X (ad 1) (ad 2) (F 16) (F 17) (F 18) (F 19) (F 20) (R 2) a b) ml_X10_173 yV_X8_side d_X10_thingIs_27 (by unfold g_rr; decide) (by decide) 0 rfl rfl [1, 2] rfl (by decide) rfl (Nat.le_of_ble_eq_true rfl) (by rintro _ _ ⟨rfl, _⟩; rfl) (fun r7 w8 h9 => ?_)
      obtain ⟨rfl, rfl⟩ := h9
      refine g_weq (wX X ad F R) (g_rep_same rfl) ?_
      refine g_goto cx 34 d_X10_thingIs_30 (by decide) ?_
      exact hret d_X10_thingIs_34 (Nat.le_of_ble_eq_true rfl) (Nat.le_of_ble_eq_true rfl) rfl ⟨F, R, rfl, hI, KX_rf F⟩
