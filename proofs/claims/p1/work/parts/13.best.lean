theorem g_gtn {y : Int32} {n c : Nat} (hy : y = nI n) (hn : n < 2 ^ 31) (hc : c < 2 ^ 31) (h : nI c < y) : c < n := by
  rw [hy] at h
  exact (nI_ltI hc hn).mp h
theorem g_ngt {y : Int32} {n c : Nat} (hy : y = nI n) (hn : n < 2 ^ 31) (hc : c < 2 ^ 31) (h : ¬ nI c < y) : n ≤ c := by
  rw [hy] at h
  rcases Nat.lt_or_ge c n with q | q
  · exact absurd ((nI_ltI hc hn).mpr q) h
  · exact q
def B_5 (b : Nat → Int32) : Prop := b 0 = 1 ∧ b 1 = 1 ∧ b 2 = 1 ∧ b 3 = 0 ∧ b 4 = 0

theorem d_X7_bestPull_0 : g_dc cX7_bestPull 0 (.iload_n 1) 1 1 := ⟨by decide +kernel, rfl⟩
theorem d_X7_bestPull_1 : g_dc cX7_bestPull 1 (.aload_n 0) 1 2 := ⟨by decide +kernel, rfl⟩
theorem d_X7_bestPull_2 : g_dc cX7_bestPull 2 (.getfield 38) 3 5 := ⟨by decide +kernel, rfl⟩
theorem d_X7_bestPull_5 : g_dc cX7_bestPull 5 (.if_icmp .ne 18) 3 8 := ⟨by decide +kernel, rfl⟩
theorem d_X7_bestPull_23 : g_dc cX7_bestPull 23 (.aload_n 0) 1 24 := ⟨by decide +kernel, rfl⟩
theorem d_X7_bestPull_24 : g_dc cX7_bestPull 24 (.iload_n 1) 1 25 := ⟨by decide +kernel, rfl⟩
theorem d_X7_bestPull_25 : g_dc cX7_bestPull 25 (.putfield 38) 3 28 := ⟨by decide +kernel, rfl⟩
theorem d_X7_bestPull_28 : g_dc cX7_bestPull 28 (.aload_n 0) 1 29 := ⟨by decide +kernel, rfl⟩
theorem d_X7_bestPull_29 : g_dc cX7_bestPull 29 (.getfield 34) 3 32 := ⟨by decide +kernel, rfl⟩
theorem d_X7_bestPull_32 : g_dc cX7_bestPull 32 (.aload_n 0) 1 33 := ⟨by decide +kernel, rfl⟩
theorem d_X7_bestPull_33 : g_dc cX7_bestPull 33 (.getfield 53) 3 36 := ⟨by decide +kernel, rfl⟩
theorem d_X7_bestPull_36 : g_dc cX7_bestPull 36 (.invokevirtual 64) 3 39 := ⟨by decide +kernel, rfl⟩
theorem d_X7_bestPull_39 : g_dc cX7_bestPull 39 (.aload_n 0) 1 40 := ⟨by decide +kernel, rfl⟩
theorem d_X7_bestPull_40 : g_dc cX7_bestPull 40 (.iconst (-1)) 1 41 := ⟨by decide +kernel, rfl⟩
theorem d_X7_bestPull_41 : g_dc cX7_bestPull 41 (.putfield 9) 3 44 := ⟨by decide +kernel, rfl⟩
theorem d_X7_bestPull_44 : g_dc cX7_bestPull 44 (.iconst 1) 1 45 := ⟨by decide +kernel, rfl⟩
theorem d_X7_bestPull_45 : g_dc cX7_bestPull 45 (.istore_n 2) 1 46 := ⟨by decide +kernel, rfl⟩
theorem d_X7_bestPull_46 : g_dc cX7_bestPull 46 (.iload_n 2) 1 47 := ⟨by decide +kernel, rfl⟩
theorem d_X7_bestPull_47 : g_dc cX7_bestPull 47 (.bipush 12) 2 49 := ⟨by decide +kernel, rfl⟩
theorem d_X7_bestPull_49 : g_dc cX7_bestPull 49 (.if_icmp .gt 113) 3 52 := ⟨by decide +kernel, rfl⟩
theorem d_X7_bestPull_52 : g_dc cX7_bestPull 52 (.iconst 1) 1 53 := ⟨by decide +kernel, rfl⟩
theorem d_X7_bestPull_53 : g_dc cX7_bestPull 53 (.istore_n 3) 1 54 := ⟨by decide +kernel, rfl⟩
theorem d_X7_bestPull_54 : g_dc cX7_bestPull 54 (.iload_n 3) 1 55 := ⟨by decide +kernel, rfl⟩
theorem d_X7_bestPull_55 : g_dc cX7_bestPull 55 (.bipush 12) 2 57 := ⟨by decide +kernel, rfl⟩
theorem d_X7_bestPull_57 : g_dc cX7_bestPull 57 (.if_icmp .gt 99) 3 60 := ⟨by decide +kernel, rfl⟩
theorem d_X7_bestPull_60 : g_dc cX7_bestPull 60 (.iconst 1) 1 61 := ⟨by decide +kernel, rfl⟩
theorem d_X7_bestPull_61 : g_dc cX7_bestPull 61 (.istore 4) 2 63 := ⟨by decide +kernel, rfl⟩
theorem d_X7_bestPull_63 : g_dc cX7_bestPull 63 (.iload 4) 2 65 := ⟨by decide +kernel, rfl⟩
theorem d_X7_bestPull_65 : g_dc cX7_bestPull 65 (.bipush 6) 2 67 := ⟨by decide +kernel, rfl⟩
theorem d_X7_bestPull_67 : g_dc cX7_bestPull 67 (.if_icmp .gt 83) 3 70 := ⟨by decide +kernel, rfl⟩
theorem d_X7_bestPull_70 : g_dc cX7_bestPull 70 (.aload_n 0) 1 71 := ⟨by decide +kernel, rfl⟩
theorem d_X7_bestPull_71 : g_dc cX7_bestPull 71 (.getfield 58) 3 74 := ⟨by decide +kernel, rfl⟩
theorem d_X7_bestPull_74 : g_dc cX7_bestPull 74 (.iconst 0) 1 75 := ⟨by decide +kernel, rfl⟩
theorem d_X7_bestPull_75 : g_dc cX7_bestPull 75 (.putfield 111) 3 78 := ⟨by decide +kernel, rfl⟩
theorem d_X7_bestPull_78 : g_dc cX7_bestPull 78 (.aload_n 0) 1 79 := ⟨by decide +kernel, rfl⟩
theorem d_X7_bestPull_79 : g_dc cX7_bestPull 79 (.getfield 58) 3 82 := ⟨by decide +kernel, rfl⟩
theorem d_X7_bestPull_82 : g_dc cX7_bestPull 82 (.iload_n 2) 1 83 := ⟨by decide +kernel, rfl⟩
theorem d_X7_bestPull_83 : g_dc cX7_bestPull 83 (.iload 4) 2 85 := ⟨by decide +kernel, rfl⟩
theorem d_X7_bestPull_85 : g_dc cX7_bestPull 85 (.invokevirtual 114) 3 88 := ⟨by decide +kernel, rfl⟩
theorem d_X7_bestPull_88 : g_dc cX7_bestPull 88 (.aload_n 0) 1 89 := ⟨by decide +kernel, rfl⟩
theorem d_X7_bestPull_89 : g_dc cX7_bestPull 89 (.getfield 58) 3 92 := ⟨by decide +kernel, rfl⟩
theorem d_X7_bestPull_92 : g_dc cX7_bestPull 92 (.iload_n 3) 1 93 := ⟨by decide +kernel, rfl⟩
theorem d_X7_bestPull_93 : g_dc cX7_bestPull 93 (.aload_n 0) 1 94 := ⟨by decide +kernel, rfl⟩
theorem d_X7_bestPull_94 : g_dc cX7_bestPull 94 (.getfield 53) 3 97 := ⟨by decide +kernel, rfl⟩
theorem d_X7_bestPull_97 : g_dc cX7_bestPull 97 (.getfield 82) 3 100 := ⟨by decide +kernel, rfl⟩
theorem d_X7_bestPull_100 : g_dc cX7_bestPull 100 (.iload_n 2) 1 101 := ⟨by decide +kernel, rfl⟩
theorem d_X7_bestPull_101 : g_dc cX7_bestPull 101 (.iload 4) 2 103 := ⟨by decide +kernel, rfl⟩
theorem d_X7_bestPull_103 : g_dc cX7_bestPull 103 (.imul) 1 104 := ⟨by decide +kernel, rfl⟩
theorem d_X7_bestPull_104 : g_dc cX7_bestPull 104 (.isub) 1 105 := ⟨by decide +kernel, rfl⟩
theorem d_X7_bestPull_105 : g_dc cX7_bestPull 105 (.invokevirtual 117) 3 108 := ⟨by decide +kernel, rfl⟩
theorem d_X7_bestPull_108 : g_dc cX7_bestPull 108 (.aload_n 0) 1 109 := ⟨by decide +kernel, rfl⟩
theorem d_X7_bestPull_109 : g_dc cX7_bestPull 109 (.getfield 46) 3 112 := ⟨by decide +kernel, rfl⟩
theorem d_X7_bestPull_112 : g_dc cX7_bestPull 112 (.invokevirtual 89) 3 115 := ⟨by decide +kernel, rfl⟩
theorem d_X7_bestPull_115 : g_dc cX7_bestPull 115 (.aload_n 0) 1 116 := ⟨by decide +kernel, rfl⟩
theorem d_X7_bestPull_116 : g_dc cX7_bestPull 116 (.invokevirtual 120) 3 119 := ⟨by decide +kernel, rfl⟩
theorem d_X7_bestPull_119 : g_dc cX7_bestPull 119 (.ifCond .eq 25) 3 122 := ⟨by decide +kernel, rfl⟩
theorem d_X7_bestPull_122 : g_dc cX7_bestPull 122 (.aload_n 0) 1 123 := ⟨by decide +kernel, rfl⟩
theorem d_X7_bestPull_123 : g_dc cX7_bestPull 123 (.getfield 27) 3 126 := ⟨by decide +kernel, rfl⟩
theorem d_X7_bestPull_126 : g_dc cX7_bestPull 126 (.iconst 0) 1 127 := ⟨by decide +kernel, rfl⟩
theorem d_X7_bestPull_127 : g_dc cX7_bestPull 127 (.iload_n 2) 1 128 := ⟨by decide +kernel, rfl⟩
theorem d_X7_bestPull_128 : g_dc cX7_bestPull 128 (.iastore) 1 129 := ⟨by decide +kernel, rfl⟩
theorem d_X7_bestPull_129 : g_dc cX7_bestPull 129 (.aload_n 0) 1 130 := ⟨by decide +kernel, rfl⟩
theorem d_X7_bestPull_130 : g_dc cX7_bestPull 130 (.getfield 27) 3 133 := ⟨by decide +kernel, rfl⟩
theorem d_X7_bestPull_133 : g_dc cX7_bestPull 133 (.iconst 1) 1 134 := ⟨by decide +kernel, rfl⟩
theorem d_X7_bestPull_134 : g_dc cX7_bestPull 134 (.iload_n 3) 1 135 := ⟨by decide +kernel, rfl⟩
theorem d_X7_bestPull_135 : g_dc cX7_bestPull 135 (.iastore) 1 136 := ⟨by decide +kernel, rfl⟩
theorem d_X7_bestPull_136 : g_dc cX7_bestPull 136 (.aload_n 0) 1 137 := ⟨by decide +kernel, rfl⟩
theorem d_X7_bestPull_137 : g_dc cX7_bestPull 137 (.getfield 27) 3 140 := ⟨by decide +kernel, rfl⟩
theorem d_X7_bestPull_140 : g_dc cX7_bestPull 140 (.iconst 2) 1 141 := ⟨by decide +kernel, rfl⟩
theorem d_X7_bestPull_141 : g_dc cX7_bestPull 141 (.iload 4) 2 143 := ⟨by decide +kernel, rfl⟩
theorem d_X7_bestPull_143 : g_dc cX7_bestPull 143 (.iastore) 1 144 := ⟨by decide +kernel, rfl⟩
theorem d_X7_bestPull_144 : g_dc cX7_bestPull 144 (.iinc 4 1) 3 147 := ⟨by decide +kernel, rfl⟩
theorem d_X7_bestPull_147 : g_dc cX7_bestPull 147 (.goto (-84)) 3 150 := ⟨by decide +kernel, rfl⟩
theorem d_X7_bestPull_150 : g_dc cX7_bestPull 150 (.iinc 3 1) 3 153 := ⟨by decide +kernel, rfl⟩
theorem d_X7_bestPull_153 : g_dc cX7_bestPull 153 (.goto (-99)) 3 156 := ⟨by decide +kernel, rfl⟩
theorem d_X7_bestPull_156 : g_dc cX7_bestPull 156 (.iinc 2 1) 3 159 := ⟨by decide +kernel, rfl⟩
theorem d_X7_bestPull_159 : g_dc cX7_bestPull 159 (.goto (-113)) 3 162 := ⟨by decide +kernel, rfl⟩
theorem d_X7_bestPull_162 : g_dc cX7_bestPull 162 (.aload_n 0) 1 163 := ⟨by decide +kernel, rfl⟩
theorem d_X7_bestPull_163 : g_dc cX7_bestPull 163 (.getfield 27) 3 166 := ⟨by decide +kernel, rfl⟩
theorem d_X7_bestPull_166 : g_dc cX7_bestPull 166 (.iconst 3) 1 167 := ⟨by decide +kernel, rfl⟩
theorem d_X7_bestPull_167 : g_dc cX7_bestPull 167 (.aload_n 0) 1 168 := ⟨by decide +kernel, rfl⟩
theorem d_X7_bestPull_168 : g_dc cX7_bestPull 168 (.getfield 9) 3 171 := ⟨by decide +kernel, rfl⟩
theorem d_X7_bestPull_171 : g_dc cX7_bestPull 171 (.iastore) 1 172 := ⟨by decide +kernel, rfl⟩
theorem d_X7_bestPull_172 : g_dc cX7_bestPull 172 (.aload_n 0) 1 173 := ⟨by decide +kernel, rfl⟩
theorem d_X7_bestPull_173 : g_dc cX7_bestPull 173 (.getfield 27) 3 176 := ⟨by decide +kernel, rfl⟩
theorem d_X7_bestPull_176 : g_dc cX7_bestPull 176 (.iconst 4) 1 177 := ⟨by decide +kernel, rfl⟩
theorem d_X7_bestPull_177 : g_dc cX7_bestPull 177 (.aload_n 0) 1 178 := ⟨by decide +kernel, rfl⟩
theorem d_X7_bestPull_178 : g_dc cX7_bestPull 178 (.getfield 15) 3 181 := ⟨by decide +kernel, rfl⟩
theorem d_X7_bestPull_181 : g_dc cX7_bestPull 181 (.iastore) 1 182 := ⟨by decide +kernel, rfl⟩
theorem d_X7_bestPull_182 : g_dc cX7_bestPull 182 (.return_) 1 183 := ⟨by decide +kernel, rfl⟩
set_option maxHeartbeats 4000000 in
set_option maxRecDepth 100000 in
theorem c_X7_bestPull (l : Launch) (X : gX) (ad : Nat → Nat) (F : Nat → Int32) (R : Nat → Nat → Int32) (h82 : F 82 = 0) (h83 : F 83 = 0) (h672 : F 672 = 0) (h674 : F 674 = 0) (h571 : F 571 = -1) : g_Cv l X yX7_bestPull cX7_bestPull 5 6 0 0 [.ref (ad 35), .int 0] (wX X ad F R) (fun w => ∃ (F' : Nat → Int32) (R' : Nat → Nat → Int32), w = wX X ad F' R' ∧ B_5 (R' 36)) := by
  refine g_mv (by decide +kernel) (Nat.le_of_ble_eq_true rfl) (fun E cx hret => ?_)
  refine g_iload_n cx 1 rfl d_X7_bestPull_0 ?_
  refine g_aload_n cx 0 rfl d_X7_bestPull_1 ?_
  refine g_get cx cl_X7 fl_X7_38 35 (.int (F 571)) d_X7_bestPull_2 rfl rfl ?_
  refine g_toi (-1) (h571) ?_
  refine g_icmp_ne_t cx 23 d_X7_bestPull_5 (by decide) (by decide) ?_
  refine g_aload_n cx 0 rfl d_X7_bestPull_23 ?_
  refine g_iload_n cx 1 rfl d_X7_bestPull_24 ?_
  refine g_put cx cl_X7 fl_X7_38 35 (wX X ad (upd F 571 0) R) d_X7_bestPull_25 rfl rfl rfl rfl (Nat.le_of_ble_eq_true rfl) rfl ?_
  refine g_aload_n cx 0 rfl d_X7_bestPull_28 ?_
  refine g_get cx cl_X7 fl_X7_34 35 (.ref (ad 7)) d_X7_bestPull_29 rfl rfl ?_
  refine g_aload_n cx 0 rfl d_X7_bestPull_32 ?_
  refine g_get cx cl_X7 fl_X7_53 35 (.ref (ad 5)) d_X7_bestPull_33 rfl rfl ?_
  refine g_cVv cx [.ref (ad 5)] [] (c_X8_copy l X (ad 7) (ad 8) (F 112) (F 113) (F 114) (F 115) (F 116) (R 8) (ad 5) (ad 6) (F 80) (F 81) (F 82) (F 83) (F 84) (R 6)) ml_X7_64 yV_X8_copy d_X7_bestPull_36 (by unfold g_rr; decide) (by decide) 0 rfl rfl [7, 8, 5, 6] rfl (by decide) rfl (Nat.le_of_ble_eq_true rfl) (by rintro _ ⟨rfl, _⟩; rfl) (fun w2 h3 => ?_)
  obtain ⟨rfl, -⟩ := h3
  refine g_weq (wX X ad (upd (upd (upd (upd (upd (upd F 112 (F 80)) 113 (F 81)) 114 (F 82)) 115 (F 83)) 116 (F 84)) 571 0) (g_u R 8 (va_cpy (R 6) (R 8) 0 0 80))) rfl ?_
  refine g_aload_n cx 0 rfl d_X7_bestPull_39 ?_
  refine g_iconst cx (-1) (by decide) d_X7_bestPull_40 ?_
  refine g_put cx cl_X7 fl_X7_9 35 (wX X ad (upd (upd (upd (upd (upd (upd (upd F 112 (F 80)) 113 (F 81)) 114 (F 82)) 115 (F 83)) 116 (F 84)) 564 (-1)) 571 0) (g_u R 8 (va_cpy (R 6) (R 8) 0 0 80))) d_X7_bestPull_41 rfl rfl rfl rfl (Nat.le_of_ble_eq_true rfl) rfl ?_
  refine g_iconst cx 1 (by decide) d_X7_bestPull_44 ?_
  refine g_istore_n cx [(2, .int 1), (0, .ref (ad 35)), (1, .int 0)] d_X7_bestPull_45 (by decide) rfl ?_
  have L46 : ∀ (N : Nat) (i : Nat) (x2 : Int32) (zF : Nat → Int32) (zR : Nat → Nat → Int32), 13 - i < N → (x2 = nI i) → (1 ≤ i) → (i ≤ 13) → (zF 82 = 0) → (zF 83 = 0) → (zF 672 = 0) → (zF 674 = 0) → (zF 564 = -1 ∧ i = 1 ∨ B_ok zF (zR 36)) → G X E 5 0 0 (wX X ad zF zR) [(0, .ref (ad 35)), (1, .int 0), (2, .int x2)] 46 [] := by
    intro N
    induction N with
    | zero => intro i x2 zF zR hm; exact absurd hm (Nat.not_lt_zero _)
    | succ N ih46 =>
      intro i x2 zF zR hm hxi hi1 hi h82 h83 h672 h674 hb
      refine g_iload_n cx 2 rfl d_X7_bestPull_46 ?_
      refine g_bipush cx 12 (by decide) d_X7_bestPull_47 ?_
      refine g_icmp_gt cx 162 d_X7_bestPull_49 (by decide) (fun zc49 => ?_) (fun zc49 => ?_)
      · refine g_aload_n cx 0 rfl d_X7_bestPull_162 ?_
        refine g_get cx cl_X7 fl_X7_27 35 (.ref (ad 36)) d_X7_bestPull_163 rfl rfl ?_
        refine g_iconst cx 3 (by decide) d_X7_bestPull_166 ?_
        refine g_aload_n cx 0 rfl d_X7_bestPull_167 ?_
        refine g_get cx cl_X7 fl_X7_9 35 (.int (zF 564)) d_X7_bestPull_168 rfl rfl ?_
        refine g_iast cx 36 (wX X ad zF (g_u zR 36 (upd (zR 36) 3 (zF 564)))) d_X7_bestPull_171 rfl (by unfold vp_in; decide) rfl ?_
        refine g_aload_n cx 0 rfl d_X7_bestPull_172 ?_
        refine g_get cx cl_X7 fl_X7_27 35 (.ref (ad 36)) d_X7_bestPull_173 rfl rfl ?_
        refine g_iconst cx 4 (by decide) d_X7_bestPull_176 ?_
        refine g_aload_n cx 0 rfl d_X7_bestPull_177 ?_
        refine g_get cx cl_X7 fl_X7_15 35 (.int (zF 565)) d_X7_bestPull_178 rfl rfl ?_
        refine g_iast cx 36 (wX X ad zF (g_u zR 36 (upd (upd (zR 36) 3 (zF 564)) 4 (zF 565)))) d_X7_bestPull_181 rfl (by unfold vp_in; decide) rfl ?_
        exact hret d_X7_bestPull_182 (Nat.le_of_ble_eq_true rfl) (Nat.le_of_ble_eq_true rfl) ⟨zF, (g_u zR 36 (upd (upd (zR 36) 3 (zF 564)) 4 (zF 565))), rfl, (by have hB : B_ok zF (zR 36) := hb.elim (fun h => absurd h.2 (by have := g_gtn (c := 12) hxi (by omega) (by omega) zc49; omega)) id; exact ⟨hB.2.2.1, hB.2.2.2.1, hB.2.2.2.2, hB.1, hB.2.1⟩)⟩
      · refine g_iconst cx 1 (by decide) d_X7_bestPull_52 ?_
        refine g_istore_n cx [(3, .int 1), (0, .ref (ad 35)), (1, .int 0), (2, .int x2)] d_X7_bestPull_53 (by decide) rfl ?_
        have L54 : ∀ (N : Nat) (j : Nat) (x3 : Int32) (zG : Nat → Int32) (zS : Nat → Nat → Int32), 13 - j < N → (x3 = nI j) → (1 ≤ j) → (j ≤ 13) → (zG 82 = 0) → (zG 83 = 0) → (zG 672 = 0) → (zG 674 = 0) → (zG 564 = -1 ∧ i = 1 ∧ j = 1 ∨ B_ok zG (zS 36)) → G X E 5 0 0 (wX X ad zG zS) [(0, .ref (ad 35)), (1, .int 0), (2, .int x2), (3, .int x3)] 54 [] := by
          intro N
          induction N with
          | zero => intro j x3 zG zS hm; exact absurd hm (Nat.not_lt_zero _)
          | succ N ih54 =>
            intro j x3 zG zS hm hxj hj1 hj h82 h83 h672 h674 hb
            refine g_iload_n cx 3 rfl d_X7_bestPull_54 ?_
            refine g_bipush cx 12 (by decide) d_X7_bestPull_55 ?_
            refine g_icmp_gt cx 156 d_X7_bestPull_57 (by decide) (fun zc57 => ?_) (fun zc57 => ?_)
            · refine g_iinc cx (x2 + 1) [(2, .int (x2 + 1)), (0, .ref (ad 35)), (1, .int 0), (3, .int x3)] 2 d_X7_bestPull_156 rfl (rfl) (by decide) rfl ?_
              refine g_goto cx 46 d_X7_bestPull_159 (by decide) ?_
              refine g_lsub [1, 2, 0] [(0, .ref (ad 35)), (1, .int 0), (2, .int (x2 + 1))] rfl ?_
              exact ih46 (i + 1) (x2 + 1) zG zS (by have := g_ngt (c := 12) hxi (by omega) (by omega) zc49; omega) (by rw [hxi]; exact nI_1 i) (by omega) (by have := g_ngt (c := 12) hxi (by omega) (by omega) zc49; omega) h82 h83 h672 h674 (hb.elim (fun h => absurd h.2.2 (by have := g_gtn (c := 12) hxj (by omega) (by omega) zc57; omega)) Or.inr)
            · refine g_iconst cx 1 (by decide) d_X7_bestPull_60 ?_
              refine g_istore cx [(4, .int 1), (0, .ref (ad 35)), (1, .int 0), (2, .int x2), (3, .int x3)] d_X7_bestPull_61 (by decide) rfl ?_
              have L63 : ∀ (N : Nat) (m : Nat) (x4 : Int32) (zH : Nat → Int32) (zT : Nat → Nat → Int32), 7 - m < N → (x4 = nI m) → (1 ≤ m) → (m ≤ 7) → (zH 82 = 0) → (zH 83 = 0) → (zH 672 = 0) → (zH 674 = 0) → (zH 564 = -1 ∧ i = 1 ∧ j = 1 ∧ m = 1 ∨ B_ok zH (zT 36)) → G X E 5 0 0 (wX X ad zH zT) [(0, .ref (ad 35)), (1, .int 0), (2, .int x2), (3, .int x3), (4, .int x4)] 63 [] := by
                intro N
                induction N with
                | zero => intro m x4 zH zT hm; exact absurd hm (Nat.not_lt_zero _)
                | succ N ih63 =>
                  intro m x4 zH zT hm hxm hm1 hm7 h82 h83 h672 h674 hb
                  refine g_iload cx 4 rfl d_X7_bestPull_63 ?_
                  refine g_bipush cx 6 (by decide) d_X7_bestPull_65 ?_
                  refine g_icmp_gt cx 150 d_X7_bestPull_67 (by decide) (fun zc67 => ?_) (fun zc67 => ?_)
                  · refine g_iinc cx (x3 + 1) [(3, .int (x3 + 1)), (0, .ref (ad 35)), (1, .int 0), (2, .int x2), (4, .int x4)] 3 d_X7_bestPull_150 rfl (rfl) (by decide) rfl ?_
                    refine g_goto cx 54 d_X7_bestPull_153 (by decide) ?_
                    refine g_lsub [1, 2, 3, 0] [(0, .ref (ad 35)), (1, .int 0), (2, .int x2), (3, .int (x3 + 1))] rfl ?_
                    exact ih54 (j + 1) (x3 + 1) zH zT (by have := g_ngt (c := 12) hxj (by omega) (by omega) zc57; omega) (by rw [hxj]; exact nI_1 j) (by omega) (by have := g_ngt (c := 12) hxj (by omega) (by omega) zc57; omega) h82 h83 h672 h674 (hb.elim (fun h => absurd h.2.2.2 (by have := g_gtn (c := 6) hxm (by omega) (by omega) zc67; omega)) Or.inr)
                  · refine g_aload_n cx 0 rfl d_X7_bestPull_70 ?_
                    refine g_get cx cl_X7 fl_X7_58 35 (.ref (ad 15)) d_X7_bestPull_71 rfl rfl ?_
                    refine g_iconst cx 0 (by decide) d_X7_bestPull_74 ?_
                    refine g_putN cx cl_X5 fn_X7_111 15 (wX X ad (upd zH 241 0) zT) d_X7_bestPull_75 rfl rfl rfl rfl (Nat.le_of_ble_eq_true rfl) rfl ?_
                    refine g_aload_n cx 0 rfl d_X7_bestPull_78 ?_
                    refine g_get cx cl_X7 fl_X7_58 35 (.ref (ad 15)) d_X7_bestPull_79 rfl rfl ?_
                    refine g_iload_n cx 2 rfl d_X7_bestPull_82 ?_
                    refine g_iload cx 4 rfl d_X7_bestPull_83 ?_
                    refine g_cVv cx [.int x2, .int x4] [] (c_X5_add l X (ad 15) (ad 16) 0 (zT 16) x2 x4 0 (by decide) (by decide)) ml_X7_114 yV_X5_add d_X7_bestPull_85 (by unfold g_rr; decide) (by decide) 0 rfl rfl [15, 16] rfl (by decide) rfl (Nat.le_of_ble_eq_true rfl) (by rintro _ ⟨_, _, rfl, _⟩; rfl) (fun w5 h6 => ?_)
                    obtain ⟨t7, g8, rfl, h9⟩ := h6
                    refine g_weq (wX X ad (upd zH 241 (nI t7)) (g_u zT 16 g8)) rfl ?_
                    refine g_aload_n cx 0 rfl d_X7_bestPull_88 ?_
                    refine g_get cx cl_X7 fl_X7_58 35 (.ref (ad 15)) d_X7_bestPull_89 rfl rfl ?_
                    refine g_iload_n cx 3 rfl d_X7_bestPull_92 ?_
                    refine g_aload_n cx 0 rfl d_X7_bestPull_93 ?_
                    refine g_get cx cl_X7 fl_X7_53 35 (.ref (ad 5)) d_X7_bestPull_94 rfl rfl ?_
                    refine g_getN cx cl_X8 fn_X7_82 5 (.int (zH 81)) d_X7_bestPull_97 rfl rfl ?_
                    refine g_iload_n cx 2 rfl d_X7_bestPull_100 ?_
                    refine g_iload cx 4 rfl d_X7_bestPull_101 ?_
                    refine g_imul cx d_X7_bestPull_103 ?_
                    refine g_isub cx d_X7_bestPull_104 ?_
                    refine g_cVv cx [.int x3, .int ((zH 81) - (x2 * x4))] [] (c_X5_addTill l X (ad 15) (ad 16) (nI t7) g8 x3 ((zH 81) - (x2 * x4)) t7 rfl h9) ml_X7_117 yV_X5_addTill d_X7_bestPull_105 (by unfold g_rr; decide) (by decide) 0 rfl rfl [15, 16] rfl (by decide) rfl (Nat.le_of_ble_eq_true rfl) (by rintro _ ⟨_, _, rfl, _⟩; rfl) (fun w11 h12 => ?_)
                    obtain ⟨t13, g14, rfl, h15⟩ := h12
                    refine g_weq (wX X ad (upd zH 241 (nI t13)) (g_u zT 16 g14)) rfl ?_
                    refine g_aload_n cx 0 rfl d_X7_bestPull_108 ?_
                    refine g_get cx cl_X7 fl_X7_46 35 (.ref (ad 37)) d_X7_bestPull_109 rfl rfl ?_
                    refine g_cVvW cx [] [] (c_X0_run l X ad (upd zH 241 (nI t13)) (g_u zT 16 g14)  t13 rfl h15 h82 h83 (Or.inr ⟨h672, h674⟩)) ml_X7_89 yV_X0_run d_X7_bestPull_112 (by unfold g_rr; decide) (by decide) 37 rfl rfl rfl (Nat.le_of_ble_eq_true rfl) (fun w17 h18 => ?_)
                    obtain ⟨zF19, zR20, rfl, zp21⟩ := h18
                    rcases hb with hb | hb
                    · refine g_aload_n cx 0 rfl d_X7_bestPull_115 ?_
                      refine g_cViW cx [] [] (c1_X7_improves l X ad zF19 zR20 zp21.2.1 zp21.2.2.2.2.2.2.2.2.1 ((zp21.1 564 (by decide)).trans (hb.1))) ml_X7_120 yV_X7_improves d_X7_bestPull_116 (by unfold g_rr; decide) (by decide) 35 rfl rfl rfl (Nat.le_of_ble_eq_true rfl) (fun r22 w23 h24 => ?_)
                      obtain ⟨rfl, rfl⟩ := h24
                      refine g_weq (wX X ad (upd (upd zF19 564 0) 565 0) zR20) rfl ?_
                      refine g_if_eq_f cx 144 d_X7_bestPull_119 (by decide) (by decide) ?_
                      refine g_aload_n cx 0 rfl d_X7_bestPull_122 ?_
                      refine g_get cx cl_X7 fl_X7_27 35 (.ref (ad 36)) d_X7_bestPull_123 rfl rfl ?_
                      refine g_iconst cx 0 (by decide) d_X7_bestPull_126 ?_
                      refine g_iload_n cx 2 rfl d_X7_bestPull_127 ?_
                      refine g_iast cx 36 (wX X ad (upd (upd zF19 564 0) 565 0) (g_u zR20 36 (upd (zR20 36) 0 x2))) d_X7_bestPull_128 rfl (by unfold vp_in; decide) rfl ?_
                      refine g_aload_n cx 0 rfl d_X7_bestPull_129 ?_
                      refine g_get cx cl_X7 fl_X7_27 35 (.ref (ad 36)) d_X7_bestPull_130 rfl rfl ?_
                      refine g_iconst cx 1 (by decide) d_X7_bestPull_133 ?_
                      refine g_iload_n cx 3 rfl d_X7_bestPull_134 ?_
                      refine g_iast cx 36 (wX X ad (upd (upd zF19 564 0) 565 0) (g_u zR20 36 (upd (upd (zR20 36) 0 x2) 1 x3))) d_X7_bestPull_135 rfl (by unfold vp_in; decide) rfl ?_
                      refine g_aload_n cx 0 rfl d_X7_bestPull_136 ?_
                      refine g_get cx cl_X7 fl_X7_27 35 (.ref (ad 36)) d_X7_bestPull_137 rfl rfl ?_
                      refine g_iconst cx 2 (by decide) d_X7_bestPull_140 ?_
                      refine g_iload cx 4 rfl d_X7_bestPull_141 ?_
                      refine g_iast cx 36 (wX X ad (upd (upd zF19 564 0) 565 0) (g_u zR20 36 (upd (upd (upd (zR20 36) 0 x2) 1 x3) 2 x4))) d_X7_bestPull_143 rfl (by unfold vp_in; decide) rfl ?_
                      refine g_iinc cx (x4 + 1) [(4, .int (x4 + 1)), (0, .ref (ad 35)), (1, .int 0), (2, .int x2), (3, .int x3)] 4 d_X7_bestPull_144 rfl (rfl) (by decide) rfl ?_
                      refine g_goto cx 63 d_X7_bestPull_147 (by decide) ?_
                      refine g_lsub [1, 2, 3, 4, 0] [(0, .ref (ad 35)), (1, .int 0), (2, .int x2), (3, .int x3), (4, .int (x4 + 1))] rfl ?_
                      exact ih63 (m + 1) (x4 + 1) (upd (upd zF19 564 0) 565 0) (g_u zR20 36 (upd (upd (upd (zR20 36) 0 x2) 1 x3) 2 x4)) (by have := g_ngt (c := 6) hxm (by omega) (by omega) zc67; omega) (by rw [hxm]; exact nI_1 m) (by omega) (by have := g_ngt (c := 6) hxm (by omega) (by omega) zc67; omega) ((zp21.1 82 (by decide)).trans (h82)) ((zp21.1 83 (by decide)).trans (h83)) ((zp21.1 672 (by decide)).trans (h672)) ((zp21.1 674 (by decide)).trans (h674)) (Or.inr ⟨rfl, rfl, hxi.trans (by rw [hb.2.1]; rfl), hxj.trans (by rw [hb.2.2.1]; rfl), hxm.trans (by rw [hb.2.2.2]; rfl)⟩)
                    · refine g_aload_n cx 0 rfl d_X7_bestPull_115 ?_
                      refine g_cViW cx [] [] (c2_X7_improves l X ad zF19 zR20 zp21.2.1 zp21.2.2.2.2.2.2.2.2.1 ((zp21.1 564 (by decide)).trans (hb.1)) ((zp21.1 565 (by decide)).trans (hb.2.1))) ml_X7_120 yV_X7_improves d_X7_bestPull_116 (by unfold g_rr; decide) (by decide) 35 rfl rfl rfl (Nat.le_of_ble_eq_true rfl) (fun r25 w26 h27 => ?_)
                      obtain ⟨rfl, rfl⟩ := h27
                      refine g_if_eq_t cx 144 d_X7_bestPull_119 (by decide) (by decide) ?_
                      refine g_iinc cx (x4 + 1) [(4, .int (x4 + 1)), (0, .ref (ad 35)), (1, .int 0), (2, .int x2), (3, .int x3)] 4 d_X7_bestPull_144 rfl (rfl) (by decide) rfl ?_
                      refine g_goto cx 63 d_X7_bestPull_147 (by decide) ?_
                      refine g_lsub [1, 2, 3, 4, 0] [(0, .ref (ad 35)), (1, .int 0), (2, .int x2), (3, .int x3), (4, .int (x4 + 1))] rfl ?_
                      exact ih63 (m + 1) (x4 + 1) zF19 zR20 (by have := g_ngt (c := 6) hxm (by omega) (by omega) zc67; omega) (by rw [hxm]; exact nI_1 m) (by omega) (by have := g_ngt (c := 6) hxm (by omega) (by omega) zc67; omega) ((zp21.1 82 (by decide)).trans (h82)) ((zp21.1 83 (by decide)).trans (h83)) ((zp21.1 672 (by decide)).trans (h672)) ((zp21.1 674 (by decide)).trans (h674)) (Or.inr ⟨(zp21.1 564 (by decide)).trans (hb.1), (zp21.1 565 (by decide)).trans (hb.2.1), (congrFun (zp21.2.2.2.2.2.2.2.2.2 36 (by decide)) 0).trans hb.2.2.1, (congrFun (zp21.2.2.2.2.2.2.2.2.2 36 (by decide)) 1).trans hb.2.2.2.1, (congrFun (zp21.2.2.2.2.2.2.2.2.2 36 (by decide)) 2).trans hb.2.2.2.2⟩)
              refine g_lsub [1, 2, 3, 4, 0] [(0, .ref (ad 35)), (1, .int 0), (2, .int x2), (3, .int x3), (4, .int 1)] rfl ?_
              exact L63 _ 1 1 zG zS (Nat.lt_succ_self _) rfl (by omega) (by omega) h82 h83 h672 h674 (hb.elim (fun h => Or.inl ⟨h.1, h.2.1, h.2.2, rfl⟩) Or.inr)
        refine g_lsub [1, 2, 3, 0] [(0, .ref (ad 35)), (1, .int 0), (2, .int x2), (3, .int 1)] rfl ?_
        exact L54 _ 1 1 zF zR (Nat.lt_succ_self _) rfl (by omega) (by omega) h82 h83 h672 h674 (hb.elim (fun h => Or.inl ⟨h.1, h.2, rfl⟩) Or.inr)
  refine g_lsub [1, 2, 0] [(0, .ref (ad 35)), (1, .int 0), (2, .int 1)] rfl ?_
  exact L46 _ 1 1 (upd (upd (upd (upd (upd (upd (upd F 112 (F 80)) 113 (F 81)) 114 (F 82)) 115 (F 83)) 116 (F 84)) 564 (-1)) 571 0) (g_u R 8 (va_cpy (R 6) (R 8) 0 0 80)) (Nat.lt_succ_self _) rfl (by omega) (by omega) h82 h83 h672 h674 (Or.inl ⟨rfl, rfl⟩)
