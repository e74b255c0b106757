theorem S_table_1 {r a b : Int32} (h : r = g_in a 10 200) (c : r = 0) : 0 = S_table a b := by unfold S_table; rw [← h, if_pos c]
theorem S_table_2 {r s a b : Int32} (h : r = g_in a 10 200) (c : ¬ r = 0) (h2 : s = g_in b 0 63) (c2 : s = 0) : 0 = S_table a b := by unfold S_table; rw [← h, ← h2, if_neg c, if_pos c2]
theorem S_table_3 {r s a b : Int32} (h : r = g_in a 10 200) (c : ¬ r = 0) (h2 : s = g_in b 0 63) (c2 : ¬ s = 0) : 1 = S_table a b := by unfold S_table; rw [← h, ← h2, if_neg c, if_neg c2]
theorem g_in_0 {r a lo hi : Int32} (h : r = g_in a lo hi) (c : r = 0) : 0 = g_in a lo hi := by rw [← h, c]
theorem g_in_1 {r a lo hi : Int32} (h : r = g_in a lo hi) (c : ¬ r = 0) : 1 = g_in a lo hi := by
  rcases g_in_01 a lo hi with q | q
  · exact absurd (h.trans q) c
  · exact q.symm
theorem g_rel2 {rx rm x x' m m' v w : Int32} (e : rx = rm) (h0 : rx = 0 → x' = x) (h1 : ¬ rx = 0 → x' = v) (k0 : rm = 0 → m' = m) (k1 : ¬ rm = 0 → m' = w) (ev : v = w) (h : x = m) : x' = m' := by
  subst e
  by_cases q : rx = 0
  · exact (h0 q).trans (h.trans (k0 q).symm)
  · exact (h1 q).trans (ev.trans (k1 q).symm)
theorem g_rel3 {rx rm x x' m m' v w : Int32} (e : rx = rm) (h0 : rx = 0 → x' = x) (h1 : ¬ rx = 0 → x' = v) (k0 : rm = 0 → m' = m) (k1 : ¬ rm = 0 → m' = w) (ev : ¬ rx = 0 → v = w) (h : x = m) : x' = m' := by
  subst e
  by_cases q : rx = 0
  · exact (h0 q).trans (h.trans (k0 q).symm)
  · exact (h1 q).trans ((ev q).trans (k1 q).symm)
theorem g_01 {x : Int32} (h : jv 0 1 x) (c : ¬ x = 0) : 1 = x := by
  apply Int32.toInt_inj.mp
  have h1 := gc_ne c
  have h2 : (0 : Int32).toInt = 0 := rfl
  have h3 : (1 : Int32).toInt = 1 := rfl
  unfold jv at h
  omega
def S_thing (l i k p f h w : Int32) : Int32 := if g_in i 0 9 = 0 then 0 else if g_in k 0 3 = 0 then 0 else if g_in p 0 (l - 1) = 0 then 0 else if g_in f 1 40 = 0 then 0 else if g_in h 1 60 = 0 then 0 else if g_in w 1 99 = 0 then 0 else 1
def md_X10_thingb : List Nat := [19]
def mr_X10_thingb : List Nat := [2]
set_option maxHeartbeats 4000000 in
set_option maxRecDepth 100000 in
theorem w_X10_thingb (l : Launch) (X : gX) (ad : Nat → Nat) (F : Nat → Int32) (R : Nat → Nat → Int32) (hI : g_ok LK_wX F) (hA : g_okR LA_wX R) (a0 : Int32) (a1 : Int32) (a2 : Int32) (a3 : Int32) (a4 : Int32) (a5 : Int32) : g_Ci l X yX10_thing cX10_thing 8 (some .boolean) 3 0 0 [.ref (ad 0), .int a0, .int a1, .int a2, .int a3, .int a4, .int a5] (wX X ad F R) (fun r w => ∃ (F' : Nat → Int32) (R' : Nat → Nat → Int32), w = wX X ad F' R' ∧ g_ok LK_wX F' ∧ g_okR LA_wX R' ∧ g_fr md_X10_thingb F F' ∧ g_fr mr_X10_thingb R R' ∧ jv 0 1 r ∧ r = S_thing (F 16) a0 a1 a2 a3 a4 a5) := by
  refine g_mi (by decide +kernel) (Nat.le_of_ble_eq_true rfl) (fun E cx hret => ?_)
  refine g_iload_n cx 1 rfl e_X10_thing_0 ?_
  refine g_iconst cx 0 (by decide) e_X10_thing_1 ?_
  refine g_bipush cx 9 (by decide) e_X10_thing_2 ?_
  refine g_cSiW cx [.int a0, .int 0, .int 9] [] (c_X10_within l X (wX X ad F R) a0 0 9) ml_X10_82 yS_X10_within rfl e_X10_thing_4 (by unfold g_rr; decide) (by decide) rfl (Nat.le_of_ble_eq_true rfl) (fun r1 w2 h3 => ?_)
  obtain ⟨rfl, hr1⟩ := h3
  have pr1 : jv 0 1 r1 := by rw [hr1]; exact gi_01 _ _ _
  refine g_if_eq cx 73 e_X10_thing_7 (by decide) (fun zc4 => ?_) (fun zc4 => ?_)
  · have p5 := gn_eq 0 0 (gc_eq zc4) pr1 (jv_k (x := 0) 0 (by decide)) (by decide)
    refine g_iconst cx 0 (by decide) e_X10_thing_73 ?_
    refine g_istore cx [(7, .int 0), (0, .ref (ad 0)), (1, .int a0), (2, .int a1), (3, .int a2), (4, .int a3), (5, .int a4), (6, .int a5)] e_X10_thing_74 (by decide) rfl ?_
    refine g_iload cx 0 rfl e_X10_thing_76 ?_
    refine g_if_ne_f cx 83 e_X10_thing_78 (by decide) (by decide) ?_
    refine g_iconst cx 0 (by decide) e_X10_thing_81 ?_
    exact hret e_X10_thing_82 (Nat.le_of_ble_eq_true rfl) (Nat.le_of_ble_eq_true rfl) rfl ⟨F, R, rfl, hI, hA, (g_fr_rf F), (g_fr_rf R), (jv_w (jv_k (x := 0) 0 (by decide)) (by decide)), (by unfold S_thing; rw [← hr1, if_pos (by assumption)])⟩
  · have p6 := gn_neL 1 1 (gc_ne zc4) pr1 (jv_k (x := 0) 0 (by decide)) (by decide)
    have p7 := jv_i 0 9 (jv_t a0) (gi_in (A := 0) (B := 9) hr1 zc4 (by decide) (by decide)) (by decide)
    refine g_iload_n cx 2 rfl e_X10_thing_10 ?_
    refine g_iconst cx 0 (by decide) e_X10_thing_11 ?_
    refine g_iconst cx 3 (by decide) e_X10_thing_12 ?_
    refine g_cSiW cx [.int a1, .int 0, .int 3] [] (c_X10_within l X (wX X ad F R) a1 0 3) ml_X10_82 yS_X10_within rfl e_X10_thing_13 (by unfold g_rr; decide) (by decide) rfl (Nat.le_of_ble_eq_true rfl) (fun r8 w9 h10 => ?_)
    obtain ⟨rfl, hr8⟩ := h10
    have pr8 : jv 0 1 r8 := by rw [hr8]; exact gi_01 _ _ _
    refine g_if_eq cx 73 e_X10_thing_16 (by decide) (fun zc11 => ?_) (fun zc11 => ?_)
    · have p12 := gn_eq 0 0 (gc_eq zc11) pr8 (jv_k (x := 0) 0 (by decide)) (by decide)
      refine g_iconst cx 0 (by decide) e_X10_thing_73 ?_
      refine g_istore cx [(7, .int 0), (0, .ref (ad 0)), (1, .int a0), (2, .int a1), (3, .int a2), (4, .int a3), (5, .int a4), (6, .int a5)] e_X10_thing_74 (by decide) rfl ?_
      refine g_iload cx 0 rfl e_X10_thing_76 ?_
      refine g_if_ne_f cx 83 e_X10_thing_78 (by decide) (by decide) ?_
      refine g_iconst cx 0 (by decide) e_X10_thing_81 ?_
      exact hret e_X10_thing_82 (Nat.le_of_ble_eq_true rfl) (Nat.le_of_ble_eq_true rfl) rfl ⟨F, R, rfl, hI, hA, (g_fr_rf F), (g_fr_rf R), (jv_w (jv_k (x := 0) 0 (by decide)) (by decide)), (by unfold S_thing; rw [← hr1, if_neg (by assumption), ← hr8, if_pos (by assumption)])⟩
    · have p13 := gn_neL 1 1 (gc_ne zc11) pr8 (jv_k (x := 0) 0 (by decide)) (by decide)
      have p14 := jv_i 0 3 (jv_t a1) (gi_in (A := 0) (B := 3) hr8 zc11 (by decide) (by decide)) (by decide)
      refine g_iload_n cx 3 rfl e_X10_thing_19 ?_
      refine g_iconst cx 0 (by decide) e_X10_thing_20 ?_
      refine g_aload_n cx 0 rfl e_X10_thing_21 ?_
      refine g_get cx cl_X10 fl_X10_10 0 (.ref (ad 1)) e_X10_thing_22 rfl rfl ?_
      refine g_getN cx cl_X8 fn_X10_86 1 (.int (F 16)) e_X10_thing_25 rfl rfl ?_
      refine g_iconst cx 1 (by decide) e_X10_thing_28 ?_
      refine g_isub cx e_X10_thing_29 ?_
      refine g_topi (fun x15 ex15 => ?_)
      refine g_cSiW cx [.int a2, .int 0, .int x15] [] (c_X10_within l X (wX X ad F R) a2 0 x15) ml_X10_82 yS_X10_within rfl e_X10_thing_30 (by unfold g_rr; decide) (by decide) rfl (Nat.le_of_ble_eq_true rfl) (fun r16 w17 h18 => ?_)
      obtain ⟨rfl, hr16⟩ := h18
      have pr16 : jv 0 1 r16 := by rw [hr16]; exact gi_01 _ _ _
      refine g_if_eq cx 73 e_X10_thing_33 (by decide) (fun zc19 => ?_) (fun zc19 => ?_)
      · have p20 := gn_eq 0 0 (gc_eq zc19) pr16 (jv_k (x := 0) 0 (by decide)) (by decide)
        refine g_iconst cx 0 (by decide) e_X10_thing_73 ?_
        refine g_istore cx [(7, .int 0), (0, .ref (ad 0)), (1, .int a0), (2, .int a1), (3, .int a2), (4, .int a3), (5, .int a4), (6, .int a5)] e_X10_thing_74 (by decide) rfl ?_
        refine g_iload cx 0 rfl e_X10_thing_76 ?_
        refine g_if_ne_f cx 83 e_X10_thing_78 (by decide) (by decide) ?_
        refine g_iconst cx 0 (by decide) e_X10_thing_81 ?_
        exact hret e_X10_thing_82 (Nat.le_of_ble_eq_true rfl) (Nat.le_of_ble_eq_true rfl) rfl ⟨F, R, rfl, hI, hA, (g_fr_rf F), (g_fr_rf R), (jv_w (jv_k (x := 0) 0 (by decide)) (by decide)), (by unfold S_thing; rw [← ex15, ← hr1, if_neg (by assumption), ← hr8, if_neg (by assumption), ← hr16, if_pos (by assumption)])⟩
      · have p21 := gn_neL 1 1 (gc_ne zc19) pr16 (jv_k (x := 0) 0 (by decide)) (by decide)
        refine g_iload cx 4 rfl e_X10_thing_36 ?_
        refine g_iconst cx 1 (by decide) e_X10_thing_38 ?_
        refine g_bipush cx 40 (by decide) e_X10_thing_39 ?_
        refine g_cSiW cx [.int a3, .int 1, .int 40] [] (c_X10_within l X (wX X ad F R) a3 1 40) ml_X10_82 yS_X10_within rfl e_X10_thing_41 (by unfold g_rr; decide) (by decide) rfl (Nat.le_of_ble_eq_true rfl) (fun r22 w23 h24 => ?_)
        obtain ⟨rfl, hr22⟩ := h24
        have pr22 : jv 0 1 r22 := by rw [hr22]; exact gi_01 _ _ _
        refine g_if_eq cx 73 e_X10_thing_44 (by decide) (fun zc25 => ?_) (fun zc25 => ?_)
        · have p26 := gn_eq 0 0 (gc_eq zc25) pr22 (jv_k (x := 0) 0 (by decide)) (by decide)
          refine g_iconst cx 0 (by decide) e_X10_thing_73 ?_
          refine g_istore cx [(7, .int 0), (0, .ref (ad 0)), (1, .int a0), (2, .int a1), (3, .int a2), (4, .int a3), (5, .int a4), (6, .int a5)] e_X10_thing_74 (by decide) rfl ?_
          refine g_iload cx 0 rfl e_X10_thing_76 ?_
          refine g_if_ne_f cx 83 e_X10_thing_78 (by decide) (by decide) ?_
          refine g_iconst cx 0 (by decide) e_X10_thing_81 ?_
          exact hret e_X10_thing_82 (Nat.le_of_ble_eq_true rfl) (Nat.le_of_ble_eq_true rfl) rfl ⟨F, R, rfl, hI, hA, (g_fr_rf F), (g_fr_rf R), (jv_w (jv_k (x := 0) 0 (by decide)) (by decide)), (by unfold S_thing; rw [← ex15, ← hr1, if_neg (by assumption), ← hr8, if_neg (by assumption), ← hr16, if_neg (by assumption), ← hr22, if_pos (by assumption)])⟩
        · have p27 := gn_neL 1 1 (gc_ne zc25) pr22 (jv_k (x := 0) 0 (by decide)) (by decide)
          have p28 := jv_i 1 40 (jv_t a3) (gi_in (A := 1) (B := 40) hr22 zc25 (by decide) (by decide)) (by decide)
          refine g_iload cx 5 rfl e_X10_thing_47 ?_
          refine g_iconst cx 1 (by decide) e_X10_thing_49 ?_
          refine g_bipush cx 60 (by decide) e_X10_thing_50 ?_
          refine g_cSiW cx [.int a4, .int 1, .int 60] [] (c_X10_within l X (wX X ad F R) a4 1 60) ml_X10_82 yS_X10_within rfl e_X10_thing_52 (by unfold g_rr; decide) (by decide) rfl (Nat.le_of_ble_eq_true rfl) (fun r29 w30 h31 => ?_)
          obtain ⟨rfl, hr29⟩ := h31
          have pr29 : jv 0 1 r29 := by rw [hr29]; exact gi_01 _ _ _
          refine g_if_eq cx 73 e_X10_thing_55 (by decide) (fun zc32 => ?_) (fun zc32 => ?_)
          · have p33 := gn_eq 0 0 (gc_eq zc32) pr29 (jv_k (x := 0) 0 (by decide)) (by decide)
            refine g_iconst cx 0 (by decide) e_X10_thing_73 ?_
            refine g_istore cx [(7, .int 0), (0, .ref (ad 0)), (1, .int a0), (2, .int a1), (3, .int a2), (4, .int a3), (5, .int a4), (6, .int a5)] e_X10_thing_74 (by decide) rfl ?_
            refine g_iload cx 0 rfl e_X10_thing_76 ?_
            refine g_if_ne_f cx 83 e_X10_thing_78 (by decide) (by decide) ?_
            refine g_iconst cx 0 (by decide) e_X10_thing_81 ?_
            exact hret e_X10_thing_82 (Nat.le_of_ble_eq_true rfl) (Nat.le_of_ble_eq_true rfl) rfl ⟨F, R, rfl, hI, hA, (g_fr_rf F), (g_fr_rf R), (jv_w (jv_k (x := 0) 0 (by decide)) (by decide)), (by unfold S_thing; rw [← ex15, ← hr1, if_neg (by assumption), ← hr8, if_neg (by assumption), ← hr16, if_neg (by assumption), ← hr22, if_neg (by assumption), ← hr29, if_pos (by assumption)])⟩
          · have p34 := gn_neL 1 1 (gc_ne zc32) pr29 (jv_k (x := 0) 0 (by decide)) (by decide)
            have p35 := jv_i 1 60 (jv_t a4) (gi_in (A := 1) (B := 60) hr29 zc32 (by decide) (by decide)) (by decide)
            refine g_iload cx 6 rfl e_X10_thing_58 ?_
            refine g_iconst cx 1 (by decide) e_X10_thing_60 ?_
            refine g_bipush cx 99 (by decide) e_X10_thing_61 ?_
            refine g_cSiW cx [.int a5, .int 1, .int 99] [] (c_X10_within l X (wX X ad F R) a5 1 99) ml_X10_82 yS_X10_within rfl e_X10_thing_63 (by unfold g_rr; decide) (by decide) rfl (Nat.le_of_ble_eq_true rfl) (fun r36 w37 h38 => ?_)
            obtain ⟨rfl, hr36⟩ := h38
            have pr36 : jv 0 1 r36 := by rw [hr36]; exact gi_01 _ _ _
            refine g_if_eq cx 73 e_X10_thing_66 (by decide) (fun zc39 => ?_) (fun zc39 => ?_)
            · have p40 := gn_eq 0 0 (gc_eq zc39) pr36 (jv_k (x := 0) 0 (by decide)) (by decide)
              refine g_iconst cx 0 (by decide) e_X10_thing_73 ?_
              refine g_istore cx [(7, .int 0), (0, .ref (ad 0)), (1, .int a0), (2, .int a1), (3, .int a2), (4, .int a3), (5, .int a4), (6, .int a5)] e_X10_thing_74 (by decide) rfl ?_
              refine g_iload cx 0 rfl e_X10_thing_76 ?_
              refine g_if_ne_f cx 83 e_X10_thing_78 (by decide) (by decide) ?_
              refine g_iconst cx 0 (by decide) e_X10_thing_81 ?_
              exact hret e_X10_thing_82 (Nat.le_of_ble_eq_true rfl) (Nat.le_of_ble_eq_true rfl) rfl ⟨F, R, rfl, hI, hA, (g_fr_rf F), (g_fr_rf R), (jv_w (jv_k (x := 0) 0 (by decide)) (by decide)), (by unfold S_thing; rw [← ex15, ← hr1, if_neg (by assumption), ← hr8, if_neg (by assumption), ← hr16, if_neg (by assumption), ← hr22, if_neg (by assumption), ← hr29, if_neg (by assumption), ← hr36, if_pos (by assumption)])⟩
            · have p41 := gn_neL 1 1 (gc_ne zc39) pr36 (jv_k (x := 0) 0 (by decide)) (by decide)
              have p42 := jv_i 1 99 (jv_t a5) (gi_in (A := 1) (B := 99) hr36 zc39 (by decide) (by decide)) (by decide)
              refine g_iconst cx 1 (by decide) e_X10_thing_69 ?_
              refine g_goto cx 74 e_X10_thing_70 (by decide) ?_
              refine g_istore cx [(7, .int 1), (0, .ref (ad 0)), (1, .int a0), (2, .int a1), (3, .int a2), (4, .int a3), (5, .int a4), (6, .int a5)] e_X10_thing_74 (by decide) rfl ?_
              refine g_iload cx 0 rfl e_X10_thing_76 ?_
              refine g_if_ne_t cx 83 e_X10_thing_78 (by decide) (by decide) ?_
              refine g_aload_n cx 1 rfl e_X10_thing_83 ?_
              refine g_get cx cl_X10 fl_X10_10 0 (.ref (ad 1)) e_X10_thing_84 rfl rfl ?_
              refine g_dup cx rfl e_X10_thing_87 ?_
              refine g_getN cx cl_X8 fn_X10_95 1 (.int (F 19)) e_X10_thing_88 rfl rfl ?_
              refine g_iconst cx 1 (by decide) e_X10_thing_91 ?_
              refine g_iload_n cx 2 rfl e_X10_thing_92 ?_
              refine g_ishl cx e_X10_thing_93 ?_
              refine g_topi (fun x43 ex43 => ?_)
              refine g_ior cx e_X10_thing_94 ?_
              refine g_topi (fun x44 ex44 => ?_)
              refine g_putN cx cl_X8 fn_X10_95 1 (wX X ad (upd F 19 x44) R) e_X10_thing_95 rfl rfl rfl rfl (Nat.le_of_ble_eq_true rfl) rfl ?_
              obtain ⟨F45, hF45⟩ : ∃ z, z = upd F 19 x44 := ⟨_, rfl⟩
              rw [← hF45]
              have oF45 : g_ok LK_wX F45 := by rw [hF45]; exact g_ok_u hI rfl
              have fF45 : g_fr md_X10_thingb F F45 := by rw [hF45]; exact g_fr_u (g_fr_rf F) rfl
              refine g_aload_n cx 1 rfl e_X10_thing_98 ?_
              refine g_get cx cl_X10 fl_X10_10 0 (.ref (ad 1)) e_X10_thing_99 rfl rfl ?_
              refine g_iload_n cx 2 rfl e_X10_thing_102 ?_
              refine g_iconst cx 0 (by decide) e_X10_thing_103 ?_
              refine g_iload_n cx 3 rfl e_X10_thing_104 ?_
              refine g_cVvW cx [.int a0, .int 0, .int a1] [] (w_X8_change_1 l X ad F45 R oF45 hA a0 0 a1) ml_X10_98 yV_X8_change e_X10_thing_105 (by unfold g_rr; decide) (by decide) 1 rfl rfl rfl (Nat.le_of_ble_eq_true rfl) (fun w47 h48 => ?_)
              obtain ⟨F49, R50, rfl, oF49, oR50, cF49, cR50⟩ := h48
              have fF49 : g_fr md_X10_thingb F F49 := g_fr_c fF45 cF49 rfl
              have fR50 : g_fr mr_X10_thingb R R50 := g_fr_c (g_fr_rf R) cR50 rfl
              refine g_aload_n cx 1 rfl e_X10_thing_108 ?_
              refine g_get cx cl_X10 fl_X10_10 0 (.ref (ad 1)) e_X10_thing_109 rfl rfl ?_
              refine g_iload_n cx 2 rfl e_X10_thing_112 ?_
              refine g_iconst cx 1 (by decide) e_X10_thing_113 ?_
              refine g_iload_n cx 4 rfl e_X10_thing_114 ?_
              refine g_cVvW cx [.int a0, .int 1, .int a2] [] (w_X8_change_1 l X ad F49 R50 oF49 oR50 a0 1 a2) ml_X10_98 yV_X8_change e_X10_thing_115 (by unfold g_rr; decide) (by decide) 1 rfl rfl rfl (Nat.le_of_ble_eq_true rfl) (fun w52 h53 => ?_)
              obtain ⟨F54, R55, rfl, oF54, oR55, cF54, cR55⟩ := h53
              have fF54 : g_fr md_X10_thingb F F54 := g_fr_c fF49 cF54 rfl
              have fR55 : g_fr mr_X10_thingb R R55 := g_fr_c fR50 cR55 rfl
              refine g_aload_n cx 1 rfl e_X10_thing_118 ?_
              refine g_get cx cl_X10 fl_X10_10 0 (.ref (ad 1)) e_X10_thing_119 rfl rfl ?_
              refine g_iload_n cx 2 rfl e_X10_thing_122 ?_
              refine g_iconst cx 2 (by decide) e_X10_thing_123 ?_
              refine g_iload cx 5 rfl e_X10_thing_124 ?_
              refine g_cVvW cx [.int a0, .int 2, .int a3] [] (w_X8_change_1 l X ad F54 R55 oF54 oR55 a0 2 a3) ml_X10_98 yV_X8_change e_X10_thing_126 (by unfold g_rr; decide) (by decide) 1 rfl rfl rfl (Nat.le_of_ble_eq_true rfl) (fun w57 h58 => ?_)
              obtain ⟨F59, R60, rfl, oF59, oR60, cF59, cR60⟩ := h58
              have fF59 : g_fr md_X10_thingb F F59 := g_fr_c fF54 cF59 rfl
              have fR60 : g_fr mr_X10_thingb R R60 := g_fr_c fR55 cR60 rfl
              refine g_aload_n cx 1 rfl e_X10_thing_129 ?_
              refine g_get cx cl_X10 fl_X10_10 0 (.ref (ad 1)) e_X10_thing_130 rfl rfl ?_
              refine g_iload_n cx 2 rfl e_X10_thing_133 ?_
              refine g_iconst cx 3 (by decide) e_X10_thing_134 ?_
              refine g_iload cx 6 rfl e_X10_thing_135 ?_
              refine g_cVvW cx [.int a0, .int 3, .int a4] [] (w_X8_change_1 l X ad F59 R60 oF59 oR60 a0 3 a4) ml_X10_98 yV_X8_change e_X10_thing_137 (by unfold g_rr; decide) (by decide) 1 rfl rfl rfl (Nat.le_of_ble_eq_true rfl) (fun w62 h63 => ?_)
              obtain ⟨F64, R65, rfl, oF64, oR65, cF64, cR65⟩ := h63
              have fF64 : g_fr md_X10_thingb F F64 := g_fr_c fF59 cF64 rfl
              have fR65 : g_fr mr_X10_thingb R R65 := g_fr_c fR60 cR65 rfl
              refine g_aload_n cx 1 rfl e_X10_thing_140 ?_
              refine g_get cx cl_X10 fl_X10_10 0 (.ref (ad 1)) e_X10_thing_141 rfl rfl ?_
              refine g_iload_n cx 2 rfl e_X10_thing_144 ?_
              refine g_iconst cx 4 (by decide) e_X10_thing_145 ?_
              refine g_iload cx 7 rfl e_X10_thing_146 ?_
              refine g_cVvW cx [.int a0, .int 4, .int a5] [] (w_X8_change_1 l X ad F64 R65 oF64 oR65 a0 4 a5) ml_X10_98 yV_X8_change e_X10_thing_148 (by unfold g_rr; decide) (by decide) 1 rfl rfl rfl (Nat.le_of_ble_eq_true rfl) (fun w67 h68 => ?_)
              obtain ⟨F69, R70, rfl, oF69, oR70, cF69, cR70⟩ := h68
              have fF69 : g_fr md_X10_thingb F F69 := g_fr_c fF64 cF69 rfl
              have fR70 : g_fr mr_X10_thingb R R70 := g_fr_c fR65 cR70 rfl
              refine g_aload_n cx 1 rfl e_X10_thing_151 ?_
              refine g_get cx cl_X10 fl_X10_10 0 (.ref (ad 1)) e_X10_thing_152 rfl rfl ?_
              refine g_iload_n cx 2 rfl e_X10_thing_155 ?_
              refine g_iconst cx 5 (by decide) e_X10_thing_156 ?_
              refine g_iconst cx 0 (by decide) e_X10_thing_157 ?_
              refine g_cVvW cx [.int a0, .int 5, .int 0] [] (w_X8_change_1 l X ad F69 R70 oF69 oR70 a0 5 0) ml_X10_98 yV_X8_change e_X10_thing_158 (by unfold g_rr; decide) (by decide) 1 rfl rfl rfl (Nat.le_of_ble_eq_true rfl) (fun w72 h73 => ?_)
              obtain ⟨F74, R75, rfl, oF74, oR75, cF74, cR75⟩ := h73
              have fF74 : g_fr md_X10_thingb F F74 := g_fr_c fF69 cF74 rfl
              have fR75 : g_fr mr_X10_thingb R R75 := g_fr_c fR70 cR75 rfl
              refine g_aload_n cx 1 rfl e_X10_thing_161 ?_
              refine g_get cx cl_X10 fl_X10_10 0 (.ref (ad 1)) e_X10_thing_162 rfl rfl ?_
              refine g_iload_n cx 2 rfl e_X10_thing_165 ?_
              refine g_bipush cx 6 (by decide) e_X10_thing_166 ?_
              refine g_iconst cx 0 (by decide) e_X10_thing_168 ?_
              refine g_cVvW cx [.int a0, .int 6, .int 0] [] (w_X8_change_1 l X ad F74 R75 oF74 oR75 a0 6 0) ml_X10_98 yV_X8_change e_X10_thing_169 (by unfold g_rr; decide) (by decide) 1 rfl rfl rfl (Nat.le_of_ble_eq_true rfl) (fun w77 h78 => ?_)
              obtain ⟨F79, R80, rfl, oF79, oR80, cF79, cR80⟩ := h78
              have fF79 : g_fr md_X10_thingb F F79 := g_fr_c fF74 cF79 rfl
              have fR80 : g_fr mr_X10_thingb R R80 := g_fr_c fR75 cR80 rfl
              refine g_aload_n cx 1 rfl e_X10_thing_172 ?_
              refine g_get cx cl_X10 fl_X10_10 0 (.ref (ad 1)) e_X10_thing_173 rfl rfl ?_
              refine g_iload_n cx 2 rfl e_X10_thing_176 ?_
              refine g_bipush cx 7 (by decide) e_X10_thing_177 ?_
              refine g_iconst cx 0 (by decide) e_X10_thing_179 ?_
              refine g_cVvW cx [.int a0, .int 7, .int 0] [] (w_X8_change_1 l X ad F79 R80 oF79 oR80 a0 7 0) ml_X10_98 yV_X8_change e_X10_thing_180 (by unfold g_rr; decide) (by decide) 1 rfl rfl rfl (Nat.le_of_ble_eq_true rfl) (fun w82 h83 => ?_)
              obtain ⟨F84, R85, rfl, oF84, oR85, cF84, cR85⟩ := h83
              have fF84 : g_fr md_X10_thingb F F84 := g_fr_c fF79 cF84 rfl
              have fR85 : g_fr mr_X10_thingb R R85 := g_fr_c fR80 cR85 rfl
              refine g_iconst cx 1 (by decide) e_X10_thing_183 ?_
              exact hret e_X10_thing_184 (Nat.le_of_ble_eq_true rfl) (Nat.le_of_ble_eq_true rfl) rfl ⟨F84, R85, rfl, oF84, oR85, fF84, fR85, (jv_w (jv_k (x := 1) 1 (by decide)) (by decide)), (by unfold S_thing; rw [← ex15, ← hr1, if_neg (by assumption), ← hr8, if_neg (by assumption), ← hr16, if_neg (by assumption), ← hr22, if_neg (by assumption), ← hr29, if_neg (by assumption), ← hr36, if_neg (by assumption)])⟩
def md_X11_thingb : List Nat := [4]
def mr_X11_thingb : List Nat := [1, 2, 3, 4, 5, 6, 7, 8]
set_option maxHeartbeats 4000000 in
set_option maxRecDepth 100000 in
theorem w_X11_thingb (l : Launch) (X : gX) (ad : Nat → Nat) (F : Nat → Int32) (R : Nat → Nat → Int32) (hI : g_ok LK_wM F) (hA : g_okR LA_wM R) (hWT : WT F R) (hWC : WC F R) (a0 : Int32) (a1 : Int32) (a2 : Int32) (a3 : Int32) (a4 : Int32) (a5 : Int32) : g_Ci l X yX11_thing cX11_thing 7 (some .boolean) 2 0 0 [.ref (ad 0), .int a0, .int a1, .int a2, .int a3, .int a4, .int a5] (wM X ad F R) (fun r w => ∃ (F' : Nat → Int32) (R' : Nat → Nat → Int32), w = wM X ad F' R' ∧ g_ok LK_wM F' ∧ g_okR LA_wM R' ∧ WT F' R' ∧ WC F' R' ∧ g_fr md_X11_thingb F F' ∧ g_fr mr_X11_thingb R R' ∧ jv 0 1 r ∧ r = S_thing (F 0) a0 a1 a2 a3 a4 a5) := by
  refine g_mi (by decide +kernel) (Nat.le_of_ble_eq_true rfl) (fun E cx hret => ?_)
  refine g_iload_n cx 1 rfl e_X11_thing_0 ?_
  refine g_iconst cx 0 (by decide) e_X11_thing_1 ?_
  refine g_bipush cx 9 (by decide) e_X11_thing_2 ?_
  refine g_cSiW cx [.int a0, .int 0, .int 9] [] (c_X11_in l X (wM X ad F R) a0 0 9) ml_X11_165 yS_X11_in rfl e_X11_thing_4 (by unfold g_rr; decide) (by decide) rfl (Nat.le_of_ble_eq_true rfl) (fun r1 w2 h3 => ?_)
  obtain ⟨rfl, hr1⟩ := h3
  have pr1 : jv 0 1 r1 := by rw [hr1]; exact gi_01 _ _ _
  refine g_if_eq cx 66 e_X11_thing_7 (by decide) (fun zc4 => ?_) (fun zc4 => ?_)
  · have p5 := gn_eq 0 0 (gc_eq zc4) pr1 (jv_k (x := 0) 0 (by decide)) (by decide)
    refine g_iconst cx 0 (by decide) e_X11_thing_66 ?_
    exact hret e_X11_thing_67 (Nat.le_of_ble_eq_true rfl) (Nat.le_of_ble_eq_true rfl) rfl ⟨F, R, rfl, hI, hA, hWT, hWC, (g_fr_rf F), (g_fr_rf R), (jv_w (jv_k (x := 0) 0 (by decide)) (by decide)), (by unfold S_thing; rw [← hr1, if_pos (by assumption)])⟩
  · have p6 := gn_neL 1 1 (gc_ne zc4) pr1 (jv_k (x := 0) 0 (by decide)) (by decide)
    have p7 := jv_i 0 9 (jv_t a0) (gi_in (A := 0) (B := 9) hr1 zc4 (by decide) (by decide)) (by decide)
    refine g_iload_n cx 2 rfl e_X11_thing_10 ?_
    refine g_iconst cx 0 (by decide) e_X11_thing_11 ?_
    refine g_iconst cx 3 (by decide) e_X11_thing_12 ?_
    refine g_cSiW cx [.int a1, .int 0, .int 3] [] (c_X11_in l X (wM X ad F R) a1 0 3) ml_X11_165 yS_X11_in rfl e_X11_thing_13 (by unfold g_rr; decide) (by decide) rfl (Nat.le_of_ble_eq_true rfl) (fun r8 w9 h10 => ?_)
    obtain ⟨rfl, hr8⟩ := h10
    have pr8 : jv 0 1 r8 := by rw [hr8]; exact gi_01 _ _ _
    refine g_if_eq cx 66 e_X11_thing_16 (by decide) (fun zc11 => ?_) (fun zc11 => ?_)
    · have p12 := gn_eq 0 0 (gc_eq zc11) pr8 (jv_k (x := 0) 0 (by decide)) (by decide)
      refine g_iconst cx 0 (by decide) e_X11_thing_66 ?_
      exact hret e_X11_thing_67 (Nat.le_of_ble_eq_true rfl) (Nat.le_of_ble_eq_true rfl) rfl ⟨F, R, rfl, hI, hA, hWT, hWC, (g_fr_rf F), (g_fr_rf R), (jv_w (jv_k (x := 0) 0 (by decide)) (by decide)), (by unfold S_thing; rw [← hr1, if_neg (by assumption), ← hr8, if_pos (by assumption)])⟩
    · have p13 := gn_neL 1 1 (gc_ne zc11) pr8 (jv_k (x := 0) 0 (by decide)) (by decide)
      have p14 := jv_i 0 3 (jv_t a1) (gi_in (A := 0) (B := 3) hr8 zc11 (by decide) (by decide)) (by decide)
      refine g_iload_n cx 3 rfl e_X11_thing_19 ?_
      refine g_iconst cx 0 (by decide) e_X11_thing_20 ?_
      refine g_aload_n cx 0 rfl e_X11_thing_21 ?_
      refine g_get cx cl_X11 fl_X11_155 0 (.int (F 0)) e_X11_thing_22 rfl rfl ?_
      refine g_iconst cx 1 (by decide) e_X11_thing_25 ?_
      refine g_isub cx e_X11_thing_26 ?_
      refine g_topi (fun x15 ex15 => ?_)
      refine g_cSiW cx [.int a2, .int 0, .int x15] [] (c_X11_in l X (wM X ad F R) a2 0 x15) ml_X11_165 yS_X11_in rfl e_X11_thing_27 (by unfold g_rr; decide) (by decide) rfl (Nat.le_of_ble_eq_true rfl) (fun r16 w17 h18 => ?_)
      obtain ⟨rfl, hr16⟩ := h18
      have pr16 : jv 0 1 r16 := by rw [hr16]; exact gi_01 _ _ _
      refine g_if_eq cx 66 e_X11_thing_30 (by decide) (fun zc19 => ?_) (fun zc19 => ?_)
      · have p20 := gn_eq 0 0 (gc_eq zc19) pr16 (jv_k (x := 0) 0 (by decide)) (by decide)
        refine g_iconst cx 0 (by decide) e_X11_thing_66 ?_
        exact hret e_X11_thing_67 (Nat.le_of_ble_eq_true rfl) (Nat.le_of_ble_eq_true rfl) rfl ⟨F, R, rfl, hI, hA, hWT, hWC, (g_fr_rf F), (g_fr_rf R), (jv_w (jv_k (x := 0) 0 (by decide)) (by decide)), (by unfold S_thing; rw [← ex15, ← hr1, if_neg (by assumption), ← hr8, if_neg (by assumption), ← hr16, if_pos (by assumption)])⟩
      · have p21 := gn_neL 1 1 (gc_ne zc19) pr16 (jv_k (x := 0) 0 (by decide)) (by decide)
        have p22 := gn_ge 0 2147483647 (gi_le hr16 zc19).1 (jv_t a2) (jv_k (x := 0) 0 (by decide)) (by decide)
        have p23 := gn_ge 0 2147483647 (gi_le hr16 zc19).2 (jv_t x15) p22 (by decide)
        refine g_iload cx 4 rfl e_X11_thing_33 ?_
        refine g_iconst cx 1 (by decide) e_X11_thing_35 ?_
        refine g_bipush cx 40 (by decide) e_X11_thing_36 ?_
        refine g_cSiW cx [.int a3, .int 1, .int 40] [] (c_X11_in l X (wM X ad F R) a3 1 40) ml_X11_165 yS_X11_in rfl e_X11_thing_38 (by unfold g_rr; decide) (by decide) rfl (Nat.le_of_ble_eq_true rfl) (fun r24 w25 h26 => ?_)
        obtain ⟨rfl, hr24⟩ := h26
        have pr24 : jv 0 1 r24 := by rw [hr24]; exact gi_01 _ _ _
        refine g_if_eq cx 66 e_X11_thing_41 (by decide) (fun zc27 => ?_) (fun zc27 => ?_)
        · have p28 := gn_eq 0 0 (gc_eq zc27) pr24 (jv_k (x := 0) 0 (by decide)) (by decide)
          refine g_iconst cx 0 (by decide) e_X11_thing_66 ?_
          exact hret e_X11_thing_67 (Nat.le_of_ble_eq_true rfl) (Nat.le_of_ble_eq_true rfl) rfl ⟨F, R, rfl, hI, hA, hWT, hWC, (g_fr_rf F), (g_fr_rf R), (jv_w (jv_k (x := 0) 0 (by decide)) (by decide)), (by unfold S_thing; rw [← ex15, ← hr1, if_neg (by assumption), ← hr8, if_neg (by assumption), ← hr16, if_neg (by assumption), ← hr24, if_pos (by assumption)])⟩
        · have p29 := gn_neL 1 1 (gc_ne zc27) pr24 (jv_k (x := 0) 0 (by decide)) (by decide)
          have p30 := jv_i 1 40 (jv_t a3) (gi_in (A := 1) (B := 40) hr24 zc27 (by decide) (by decide)) (by decide)
          refine g_iload cx 5 rfl e_X11_thing_44 ?_
          refine g_iconst cx 1 (by decide) e_X11_thing_46 ?_
          refine g_bipush cx 60 (by decide) e_X11_thing_47 ?_
          refine g_cSiW cx [.int a4, .int 1, .int 60] [] (c_X11_in l X (wM X ad F R) a4 1 60) ml_X11_165 yS_X11_in rfl e_X11_thing_49 (by unfold g_rr; decide) (by decide) rfl (Nat.le_of_ble_eq_true rfl) (fun r31 w32 h33 => ?_)
          obtain ⟨rfl, hr31⟩ := h33
          have pr31 : jv 0 1 r31 := by rw [hr31]; exact gi_01 _ _ _
          refine g_if_eq cx 66 e_X11_thing_52 (by decide) (fun zc34 => ?_) (fun zc34 => ?_)
          · have p35 := gn_eq 0 0 (gc_eq zc34) pr31 (jv_k (x := 0) 0 (by decide)) (by decide)
            refine g_iconst cx 0 (by decide) e_X11_thing_66 ?_
            exact hret e_X11_thing_67 (Nat.le_of_ble_eq_true rfl) (Nat.le_of_ble_eq_true rfl) rfl ⟨F, R, rfl, hI, hA, hWT, hWC, (g_fr_rf F), (g_fr_rf R), (jv_w (jv_k (x := 0) 0 (by decide)) (by decide)), (by unfold S_thing; rw [← ex15, ← hr1, if_neg (by assumption), ← hr8, if_neg (by assumption), ← hr16, if_neg (by assumption), ← hr24, if_neg (by assumption), ← hr31, if_pos (by assumption)])⟩
          · have p36 := gn_neL 1 1 (gc_ne zc34) pr31 (jv_k (x := 0) 0 (by decide)) (by decide)
            have p37 := jv_i 1 60 (jv_t a4) (gi_in (A := 1) (B := 60) hr31 zc34 (by decide) (by decide)) (by decide)
            refine g_iload cx 6 rfl e_X11_thing_55 ?_
            refine g_iconst cx 1 (by decide) e_X11_thing_57 ?_
            refine g_bipush cx 99 (by decide) e_X11_thing_58 ?_
            refine g_cSiW cx [.int a5, .int 1, .int 99] [] (c_X11_in l X (wM X ad F R) a5 1 99) ml_X11_165 yS_X11_in rfl e_X11_thing_60 (by unfold g_rr; decide) (by decide) rfl (Nat.le_of_ble_eq_true rfl) (fun r38 w39 h40 => ?_)
            obtain ⟨rfl, hr38⟩ := h40
            have pr38 : jv 0 1 r38 := by rw [hr38]; exact gi_01 _ _ _
            refine g_if_ne cx 68 e_X11_thing_63 (by decide) (fun zc41 => ?_) (fun zc41 => ?_)
            · have p42 := gn_neL 1 1 (gc_ne zc41) pr38 (jv_k (x := 0) 0 (by decide)) (by decide)
              have p43 := jv_i 1 99 (jv_t a5) (gi_in (A := 1) (B := 99) hr38 zc41 (by decide) (by decide)) (by decide)
              refine g_aload_n cx 0 rfl e_X11_thing_68 ?_
              refine g_aload_n cx 0 rfl e_X11_thing_69 ?_
              refine g_get cx cl_X11 fl_X11_172 0 (.int (F 4)) e_X11_thing_70 rfl rfl ?_
              refine g_iconst cx 1 (by decide) e_X11_thing_73 ?_
              refine g_iload_n cx 1 rfl e_X11_thing_74 ?_
              refine g_ishl cx e_X11_thing_75 ?_
              refine g_topi (fun x44 ex44 => ?_)
              refine g_ior cx e_X11_thing_76 ?_
              refine g_topi (fun x45 ex45 => ?_)
              refine g_put cx cl_X11 fl_X11_172 0 (wM X ad (upd F 4 x45) R) e_X11_thing_77 rfl rfl rfl rfl (Nat.le_of_ble_eq_true rfl) rfl ?_
              obtain ⟨F46, hF46⟩ : ∃ z, z = upd F 4 x45 := ⟨_, rfl⟩
              rw [← hF46]
              have oF46 : g_ok LK_wM F46 := by rw [hF46]; exact g_ok_u hI rfl
              have fF46 : g_fr md_X11_thingb F F46 := by rw [hF46]; exact g_fr_u (g_fr_rf F) rfl
              have wCF46 : WC F46 R := by rw [hF46]; exact WC_u hWC rfl
              refine g_aload_n cx 0 rfl e_X11_thing_80 ?_
              refine g_get cx cl_X11 fl_X11_7 0 (.ref (ad 1)) e_X11_thing_81 rfl rfl ?_
              refine g_iload_n cx 1 rfl e_X11_thing_84 ?_
              refine g_iload_n cx 2 rfl e_X11_thing_85 ?_
              refine g_iast cx 1 (wM X ad F46 (g_u R 1 (upd (R 1) (Int32.toNatClampNeg a0) a1))) e_X11_thing_86 rfl (jv_ix 10 p7 (by decide)) rfl ?_
              obtain ⟨R47, hR47⟩ : ∃ z, z = g_u R 1 (upd (R 1) (Int32.toNatClampNeg a0) a1) := ⟨_, rfl⟩
              rw [← hR47]
              have oR47 : g_okR LA_wM R47 := by rw [hR47]; exact g_okR_u hA rfl
              have fR47 : g_fr mr_X11_thingb R R47 := by rw [hR47]; exact g_fr_r (g_fr_rf R) rfl
              have wCR47 : WC F46 R47 := by rw [hR47]; exact WC_r wCF46 rfl
              refine g_aload_n cx 0 rfl e_X11_thing_87 ?_
              refine g_get cx cl_X11 fl_X11_13 0 (.ref (ad 2)) e_X11_thing_88 rfl rfl ?_
              refine g_iload_n cx 1 rfl e_X11_thing_91 ?_
              refine g_iload_n cx 3 rfl e_X11_thing_92 ?_
              refine g_iast cx 2 (wM X ad F46 (g_u R47 2 (upd (R47 2) (Int32.toNatClampNeg a0) a2))) e_X11_thing_93 rfl (jv_ix 10 p7 (by decide)) rfl ?_
              obtain ⟨R48, hR48⟩ : ∃ z, z = g_u R47 2 (upd (R47 2) (Int32.toNatClampNeg a0) a2) := ⟨_, rfl⟩
              rw [← hR48]
              have oR48 : g_okR LA_wM R48 := by rw [hR48]; exact g_okR_u oR47 rfl
              have fR48 : g_fr mr_X11_thingb R R48 := by rw [hR48]; exact g_fr_r fR47 rfl
              have wCR48 : WC F46 R48 := by rw [hR48]; exact WC_r wCR47 rfl
              refine g_aload_n cx 0 rfl e_X11_thing_94 ?_
              refine g_get cx cl_X11 fl_X11_16 0 (.ref (ad 3)) e_X11_thing_95 rfl rfl ?_
              refine g_iload_n cx 1 rfl e_X11_thing_98 ?_
              refine g_iload cx 4 rfl e_X11_thing_99 ?_
              refine g_iast cx 3 (wM X ad F46 (g_u R48 3 (upd (R48 3) (Int32.toNatClampNeg a0) a3))) e_X11_thing_101 rfl (jv_ix 10 p7 (by decide)) rfl ?_
              obtain ⟨R49, hR49⟩ : ∃ z, z = g_u R48 3 (upd (R48 3) (Int32.toNatClampNeg a0) a3) := ⟨_, rfl⟩
              rw [← hR49]
              have oR49 : g_okR LA_wM R49 := by rw [hR49]; exact g_okR_p oR48 p30 rfl
              have fR49 : g_fr mr_X11_thingb R R49 := by rw [hR49]; exact g_fr_r fR48 rfl
              have wCR49 : WC F46 R49 := by rw [hR49]; exact WC_r wCR48 rfl
              refine g_aload_n cx 0 rfl e_X11_thing_102 ?_
              refine g_get cx cl_X11 fl_X11_19 0 (.ref (ad 4)) e_X11_thing_103 rfl rfl ?_
              refine g_iload_n cx 1 rfl e_X11_thing_106 ?_
              refine g_iload cx 5 rfl e_X11_thing_107 ?_
              refine g_iast cx 4 (wM X ad F46 (g_u R49 4 (upd (R49 4) (Int32.toNatClampNeg a0) a4))) e_X11_thing_109 rfl (jv_ix 10 p7 (by decide)) rfl ?_
              obtain ⟨R50, hR50⟩ : ∃ z, z = g_u R49 4 (upd (R49 4) (Int32.toNatClampNeg a0) a4) := ⟨_, rfl⟩
              rw [← hR50]
              have oR50 : g_okR LA_wM R50 := by rw [hR50]; exact g_okR_u oR49 rfl
              have fR50 : g_fr mr_X11_thingb R R50 := by rw [hR50]; exact g_fr_r fR49 rfl
              have wCR50 : WC F46 R50 := by rw [hR50]; exact WC_r wCR49 rfl
              refine g_aload_n cx 0 rfl e_X11_thing_110 ?_
              refine g_get cx cl_X11 fl_X11_22 0 (.ref (ad 5)) e_X11_thing_111 rfl rfl ?_
              refine g_iload_n cx 1 rfl e_X11_thing_114 ?_
              refine g_iload cx 6 rfl e_X11_thing_115 ?_
              refine g_iast cx 5 (wM X ad F46 (g_u R50 5 (upd (R50 5) (Int32.toNatClampNeg a0) a5))) e_X11_thing_117 rfl (jv_ix 10 p7 (by decide)) rfl ?_
              obtain ⟨R51, hR51⟩ : ∃ z, z = g_u R50 5 (upd (R50 5) (Int32.toNatClampNeg a0) a5) := ⟨_, rfl⟩
              rw [← hR51]
              have oR51 : g_okR LA_wM R51 := by rw [hR51]; exact g_okR_p oR50 p43 rfl
              have fR51 : g_fr mr_X11_thingb R R51 := by rw [hR51]; exact g_fr_r fR50 rfl
              have wCR51 : WC F46 R51 := by rw [hR51]; exact WC_r wCR50 rfl
              refine g_aload_n cx 0 rfl e_X11_thing_118 ?_
              refine g_get cx cl_X11 fl_X11_25 0 (.ref (ad 6)) e_X11_thing_119 rfl rfl ?_
              refine g_iload_n cx 1 rfl e_X11_thing_122 ?_
              refine g_iconst cx 0 (by decide) e_X11_thing_123 ?_
              refine g_iast cx 6 (wM X ad F46 (g_u R51 6 (upd (R51 6) (Int32.toNatClampNeg a0) 0))) e_X11_thing_124 rfl (jv_ix 10 p7 (by decide)) rfl ?_
              obtain ⟨R52, hR52⟩ : ∃ z, z = g_u R51 6 (upd (R51 6) (Int32.toNatClampNeg a0) 0) := ⟨_, rfl⟩
              rw [← hR52]
              have oR52 : g_okR LA_wM R52 := by rw [hR52]; exact g_okR_u oR51 rfl
              have fR52 : g_fr mr_X11_thingb R R52 := by rw [hR52]; exact g_fr_r fR51 rfl
              have wCR52 : WC F46 R52 := by rw [hR52]; exact WC_r wCR51 rfl
              refine g_aload_n cx 0 rfl e_X11_thing_125 ?_
              refine g_get cx cl_X11 fl_X11_28 0 (.ref (ad 7)) e_X11_thing_126 rfl rfl ?_
              refine g_iload_n cx 1 rfl e_X11_thing_129 ?_
              refine g_iconst cx 0 (by decide) e_X11_thing_130 ?_
              refine g_iast cx 7 (wM X ad F46 (g_u R52 7 (upd (R52 7) (Int32.toNatClampNeg a0) 0))) e_X11_thing_131 rfl (jv_ix 10 p7 (by decide)) rfl ?_
              obtain ⟨R53, hR53⟩ : ∃ z, z = g_u R52 7 (upd (R52 7) (Int32.toNatClampNeg a0) 0) := ⟨_, rfl⟩
              rw [← hR53]
              have oR53 : g_okR LA_wM R53 := by rw [hR53]; exact g_okR_u oR52 rfl
              have fR53 : g_fr mr_X11_thingb R R53 := by rw [hR53]; exact g_fr_r fR52 rfl
              have wCR53 : WC F46 R53 := by rw [hR53]; exact WC_r wCR52 rfl
              refine g_aload_n cx 0 rfl e_X11_thing_132 ?_
              refine g_get cx cl_X11 fl_X11_31 0 (.ref (ad 8)) e_X11_thing_133 rfl rfl ?_
              refine g_iload_n cx 1 rfl e_X11_thing_136 ?_
              refine g_iconst cx 0 (by decide) e_X11_thing_137 ?_
              refine g_iast cx 8 (wM X ad F46 (g_u R53 8 (upd (R53 8) (Int32.toNatClampNeg a0) 0))) e_X11_thing_138 rfl (jv_ix 10 p7 (by decide)) rfl ?_
              obtain ⟨R54, hR54⟩ : ∃ z, z = g_u R53 8 (upd (R53 8) (Int32.toNatClampNeg a0) 0) := ⟨_, rfl⟩
              rw [← hR54]
              have oR54 : g_okR LA_wM R54 := by rw [hR54]; exact g_okR_u oR53 rfl
              have fR54 : g_fr mr_X11_thingb R R54 := by rw [hR54]; exact g_fr_r fR53 rfl
              have wCR54 : WC F46 R54 := by rw [hR54]; exact WC_r wCR53 rfl
              refine g_iconst cx 1 (by decide) e_X11_thing_139 ?_
              exact hret e_X11_thing_140 (Nat.le_of_ble_eq_true rfl) (Nat.le_of_ble_eq_true rfl) rfl ⟨F46, R54, rfl, oF46, oR54, (WT_thing hWT p7 p30 p43 ((g_pu1 hF46).trans (ex45.trans (by rw [ex44]))) (g_pu2 hF46 rfl) (((((((g_ru2 hR54 rfl).trans (g_ru2 hR53 rfl)).trans (g_ru2 hR52 rfl)).trans (g_ru2 hR51 rfl)).trans (g_ru2 hR50 rfl)).trans (g_ru1 hR49)).trans (by rw [show R48 3 = R 3 from ((g_ru2 hR48 rfl).trans (g_ru2 hR47 rfl))])) (((((g_ru2 hR54 rfl).trans (g_ru2 hR53 rfl)).trans (g_ru2 hR52 rfl)).trans (g_ru1 hR51)).trans (by rw [show R50 5 = R 5 from ((((g_ru2 hR50 rfl).trans (g_ru2 hR49 rfl)).trans (g_ru2 hR48 rfl)).trans (g_ru2 hR47 rfl))])) ((((((((g_ru2 hR54 rfl).trans (g_ru2 hR53 rfl)).trans (g_ru2 hR52 rfl)).trans (g_ru2 hR51 rfl)).trans (g_ru2 hR50 rfl)).trans (g_ru2 hR49 rfl)).trans (g_ru2 hR48 rfl)).trans (g_ru2 hR47 rfl)) ((((((((g_ru2 hR54 rfl).trans (g_ru2 hR53 rfl)).trans (g_ru2 hR52 rfl)).trans (g_ru2 hR51 rfl)).trans (g_ru2 hR50 rfl)).trans (g_ru2 hR49 rfl)).trans (g_ru2 hR48 rfl)).trans (g_ru2 hR47 rfl))), wCR54, fF46, fR54, (jv_w (jv_k (x := 1) 1 (by decide)) (by decide)), (by unfold S_thing; rw [← ex15, ← hr1, if_neg (by assumption), ← hr8, if_neg (by assumption), ← hr16, if_neg (by assumption), ← hr24, if_neg (by assumption), ← hr31, if_neg (by assumption), ← hr38, if_neg (by assumption)])⟩
            · have p55 := gn_eq 0 0 (gc_eq zc41) pr38 (jv_k (x := 0) 0 (by decide)) (by decide)
              refine g_iconst cx 0 (by decide) e_X11_thing_66 ?_
              exact hret e_X11_thing_67 (Nat.le_of_ble_eq_true rfl) (Nat.le_of_ble_eq_true rfl) rfl ⟨F, R, rfl, hI, hA, hWT, hWC, (g_fr_rf F), (g_fr_rf R), (jv_w (jv_k (x := 0) 0 (by decide)) (by decide)), (by unfold S_thing; rw [← ex15, ← hr1, if_neg (by assumption), ← hr8, if_neg (by assumption), ← hr16, if_neg (by assumption), ← hr24, if_neg (by assumption), ← hr31, if_neg (by assumption), ← hr38, if_pos (by assumption)])⟩
def md_X10_tableb : List Nat := [16, 17, 18, 19]
def mr_X10_tableb : List Nat := []
set_option maxHeartbeats 4000000 in
set_option maxRecDepth 100000 in
theorem w_X10_tableb (l : Launch) (X : gX) (ad : Nat → Nat) (F : Nat → Int32) (R : Nat → Nat → Int32) (hI : g_ok LK_wX F) (hA : g_okR LA_wX R) (a0 : Int32) (a1 : Int32) : g_Ci l X yX10_table cX10_table 3 (some .boolean) 2 0 0 [.ref (ad 0), .int a0, .int a1] (wX X ad F R) (fun r w => ∃ (F' : Nat → Int32) (R' : Nat → Nat → Int32), w = wX X ad F' R' ∧ g_ok LK_wX F' ∧ g_okR LA_wX R' ∧ g_fr md_X10_tableb F F' ∧ g_fr mr_X10_tableb R R' ∧ jv 0 1 r ∧ r = S_table a0 a1 ∧ (r = 0 → F' 16 = F 16) ∧ (¬ r = 0 → F' 16 = a0)) := by
  refine g_mi (by decide +kernel) (Nat.le_of_ble_eq_true rfl) (fun E cx hret => ?_)
  refine g_iload_n cx 1 rfl e_X10_table_0 ?_
  refine g_bipush cx 10 (by decide) e_X10_table_1 ?_
  refine g_sipush cx 200 (by decide) e_X10_table_3 ?_
  refine g_cSiW cx [.int a0, .int 10, .int 200] [] (c_X10_within l X (wX X ad F R) a0 10 200) ml_X10_82 yS_X10_within rfl e_X10_table_6 (by unfold g_rr; decide) (by decide) rfl (Nat.le_of_ble_eq_true rfl) (fun r1 w2 h3 => ?_)
  obtain ⟨rfl, hr1⟩ := h3
  have pr1 : jv 0 1 r1 := by rw [hr1]; exact gi_01 _ _ _
  refine g_if_eq cx 22 e_X10_table_9 (by decide) (fun zc4 => ?_) (fun zc4 => ?_)
  · have p5 := gn_eq 0 0 (gc_eq zc4) pr1 (jv_k (x := 0) 0 (by decide)) (by decide)
    refine g_iconst cx 0 (by decide) e_X10_table_22 ?_
    exact hret e_X10_table_23 (Nat.le_of_ble_eq_true rfl) (Nat.le_of_ble_eq_true rfl) rfl ⟨F, R, rfl, hI, hA, (g_fr_rf F), (g_fr_rf R), (jv_w (jv_k (x := 0) 0 (by decide)) (by decide)), (by first | exact S_table_1 (by assumption) (by assumption) | exact S_table_2 (by assumption) (by assumption) (by assumption) (by assumption) | exact S_table_3 (by assumption) (by assumption) (by assumption) (by assumption)), (fun h0 => rfl), (fun h0 => absurd rfl h0)⟩
  · have p6 := gn_neL 1 1 (gc_ne zc4) pr1 (jv_k (x := 0) 0 (by decide)) (by decide)
    have p7 := jv_i 10 200 (jv_t a0) (gi_in (A := 10) (B := 200) hr1 zc4 (by decide) (by decide)) (by decide)
    refine g_iload_n cx 2 rfl e_X10_table_12 ?_
    refine g_iconst cx 0 (by decide) e_X10_table_13 ?_
    refine g_bipush cx 63 (by decide) e_X10_table_14 ?_
    refine g_cSiW cx [.int a1, .int 0, .int 63] [] (c_X10_within l X (wX X ad F R) a1 0 63) ml_X10_82 yS_X10_within rfl e_X10_table_16 (by unfold g_rr; decide) (by decide) rfl (Nat.le_of_ble_eq_true rfl) (fun r8 w9 h10 => ?_)
    obtain ⟨rfl, hr8⟩ := h10
    have pr8 : jv 0 1 r8 := by rw [hr8]; exact gi_01 _ _ _
    refine g_if_ne cx 24 e_X10_table_19 (by decide) (fun zc11 => ?_) (fun zc11 => ?_)
    · have p12 := gn_neL 1 1 (gc_ne zc11) pr8 (jv_k (x := 0) 0 (by decide)) (by decide)
      have p13 := jv_i 0 63 (jv_t a1) (gi_in (A := 0) (B := 63) hr8 zc11 (by decide) (by decide)) (by decide)
      refine g_aload_n cx 0 rfl e_X10_table_24 ?_
      refine g_get cx cl_X10 fl_X10_10 0 (.ref (ad 1)) e_X10_table_25 rfl rfl ?_
      refine g_iload_n cx 1 rfl e_X10_table_28 ?_
      refine g_putN cx cl_X8 fn_X10_86 1 (wX X ad (upd F 16 a0) R) e_X10_table_29 rfl rfl rfl rfl (Nat.le_of_ble_eq_true rfl) rfl ?_
      obtain ⟨F14, hF14⟩ : ∃ z, z = upd F 16 a0 := ⟨_, rfl⟩
      rw [← hF14]
      have oF14 : g_ok LK_wX F14 := by rw [hF14]; exact g_ok_u hI rfl
      have fF14 : g_fr md_X10_tableb F F14 := by rw [hF14]; exact g_fr_u (g_fr_rf F) rfl
      refine g_aload_n cx 0 rfl e_X10_table_32 ?_
      refine g_get cx cl_X10 fl_X10_10 0 (.ref (ad 1)) e_X10_table_33 rfl rfl ?_
      refine g_iload_n cx 1 rfl e_X10_table_36 ?_
      refine g_putN cx cl_X8 fn_X10_89 1 (wX X ad (upd F14 17 a0) R) e_X10_table_37 rfl rfl rfl rfl (Nat.le_of_ble_eq_true rfl) rfl ?_
      obtain ⟨F15, hF15⟩ : ∃ z, z = upd F14 17 a0 := ⟨_, rfl⟩
      rw [← hF15]
      have oF15 : g_ok LK_wX F15 := by rw [hF15]; exact g_ok_u oF14 rfl
      have fF15 : g_fr md_X10_tableb F F15 := by rw [hF15]; exact g_fr_u fF14 rfl
      refine g_aload_n cx 0 rfl e_X10_table_40 ?_
      refine g_get cx cl_X10 fl_X10_10 0 (.ref (ad 1)) e_X10_table_41 rfl rfl ?_
      refine g_iload_n cx 2 rfl e_X10_table_44 ?_
      refine g_putN cx cl_X8 fn_X10_92 1 (wX X ad (upd F15 18 a1) R) e_X10_table_45 rfl rfl rfl rfl (Nat.le_of_ble_eq_true rfl) rfl ?_
      obtain ⟨F16, hF16⟩ : ∃ z, z = upd F15 18 a1 := ⟨_, rfl⟩
      rw [← hF16]
      have oF16 : g_ok LK_wX F16 := by rw [hF16]; exact g_ok_u oF15 rfl
      have fF16 : g_fr md_X10_tableb F F16 := by rw [hF16]; exact g_fr_u fF15 rfl
      refine g_aload_n cx 0 rfl e_X10_table_48 ?_
      refine g_get cx cl_X10 fl_X10_10 0 (.ref (ad 1)) e_X10_table_49 rfl rfl ?_
      refine g_iconst cx 0 (by decide) e_X10_table_52 ?_
      refine g_putN cx cl_X8 fn_X10_95 1 (wX X ad (upd F16 19 0) R) e_X10_table_53 rfl rfl rfl rfl (Nat.le_of_ble_eq_true rfl) rfl ?_
      obtain ⟨F17, hF17⟩ : ∃ z, z = upd F16 19 0 := ⟨_, rfl⟩
      rw [← hF17]
      have oF17 : g_ok LK_wX F17 := by rw [hF17]; exact g_ok_u oF16 rfl
      have fF17 : g_fr md_X10_tableb F F17 := by rw [hF17]; exact g_fr_u fF16 rfl
      refine g_iconst cx 1 (by decide) e_X10_table_56 ?_
      exact hret e_X10_table_57 (Nat.le_of_ble_eq_true rfl) (Nat.le_of_ble_eq_true rfl) rfl ⟨F17, R, rfl, oF17, hA, fF17, (g_fr_rf R), (jv_w (jv_k (x := 1) 1 (by decide)) (by decide)), (by first | exact S_table_1 (by assumption) (by assumption) | exact S_table_2 (by assumption) (by assumption) (by assumption) (by assumption) | exact S_table_3 (by assumption) (by assumption) (by assumption) (by assumption)), (fun h0 => absurd h0 (by decide)), (fun h0 => ((((g_pu2 hF17 rfl).trans (g_pu2 hF16 rfl)).trans (g_pu2 hF15 rfl)).trans (g_pu1 hF14)))⟩
    · have p18 := gn_eq 0 0 (gc_eq zc11) pr8 (jv_k (x := 0) 0 (by decide)) (by decide)
      refine g_iconst cx 0 (by decide) e_X10_table_22 ?_
      exact hret e_X10_table_23 (Nat.le_of_ble_eq_true rfl) (Nat.le_of_ble_eq_true rfl) rfl ⟨F, R, rfl, hI, hA, (g_fr_rf F), (g_fr_rf R), (jv_w (jv_k (x := 0) 0 (by decide)) (by decide)), (by first | exact S_table_1 (by assumption) (by assumption) | exact S_table_2 (by assumption) (by assumption) (by assumption) (by assumption) | exact S_table_3 (by assumption) (by assumption) (by assumption) (by assumption)), (fun h0 => rfl), (fun h0 => absurd rfl h0)⟩
def md_X11_tableb : List Nat := [0, 1, 2, 4]
def mr_X11_tableb : List Nat := []
set_option maxHeartbeats 4000000 in
set_option maxRecDepth 100000 in
theorem w_X11_tableb (l : Launch) (X : gX) (ad : Nat → Nat) (F : Nat → Int32) (R : Nat → Nat → Int32) (hI : g_ok LK_wM F) (hA : g_okR LA_wM R) (hWT : WT F R) (hWC : WC F R) (a0 : Int32) (a1 : Int32) : g_Ci l X yX11_table cX11_table 3 (some .boolean) 2 0 0 [.ref (ad 0), .int a0, .int a1] (wM X ad F R) (fun r w => ∃ (F' : Nat → Int32) (R' : Nat → Nat → Int32), w = wM X ad F' R' ∧ g_ok LK_wM F' ∧ g_okR LA_wM R' ∧ WT F' R' ∧ WC F' R' ∧ g_fr md_X11_tableb F F' ∧ g_fr mr_X11_tableb R R' ∧ jv 0 1 r ∧ r = S_table a0 a1 ∧ (r = 0 → F' 0 = F 0) ∧ (¬ r = 0 → F' 0 = a0)) := by
  refine g_mi (by decide +kernel) (Nat.le_of_ble_eq_true rfl) (fun E cx hret => ?_)
  refine g_iload_n cx 1 rfl e_X11_table_0 ?_
  refine g_bipush cx 10 (by decide) e_X11_table_1 ?_
  refine g_sipush cx 200 (by decide) e_X11_table_3 ?_
  refine g_cSiW cx [.int a0, .int 10, .int 200] [] (c_X11_in l X (wM X ad F R) a0 10 200) ml_X11_165 yS_X11_in rfl e_X11_table_6 (by unfold g_rr; decide) (by decide) rfl (Nat.le_of_ble_eq_true rfl) (fun r1 w2 h3 => ?_)
  obtain ⟨rfl, hr1⟩ := h3
  have pr1 : jv 0 1 r1 := by rw [hr1]; exact gi_01 _ _ _
  refine g_if_eq cx 22 e_X11_table_9 (by decide) (fun zc4 => ?_) (fun zc4 => ?_)
  · have p5 := gn_eq 0 0 (gc_eq zc4) pr1 (jv_k (x := 0) 0 (by decide)) (by decide)
    refine g_iconst cx 0 (by decide) e_X11_table_22 ?_
    exact hret e_X11_table_23 (Nat.le_of_ble_eq_true rfl) (Nat.le_of_ble_eq_true rfl) rfl ⟨F, R, rfl, hI, hA, hWT, hWC, (g_fr_rf F), (g_fr_rf R), (jv_w (jv_k (x := 0) 0 (by decide)) (by decide)), (by first | exact S_table_1 (by assumption) (by assumption) | exact S_table_2 (by assumption) (by assumption) (by assumption) (by assumption) | exact S_table_3 (by assumption) (by assumption) (by assumption) (by assumption)), (fun h0 => rfl), (fun h0 => absurd rfl h0)⟩
  · have p6 := gn_neL 1 1 (gc_ne zc4) pr1 (jv_k (x := 0) 0 (by decide)) (by decide)
    have p7 := jv_i 10 200 (jv_t a0) (gi_in (A := 10) (B := 200) hr1 zc4 (by decide) (by decide)) (by decide)
    refine g_iload_n cx 2 rfl e_X11_table_12 ?_
    refine g_iconst cx 0 (by decide) e_X11_table_13 ?_
    refine g_bipush cx 63 (by decide) e_X11_table_14 ?_
    refine g_cSiW cx [.int a1, .int 0, .int 63] [] (c_X11_in l X (wM X ad F R) a1 0 63) ml_X11_165 yS_X11_in rfl e_X11_table_16 (by unfold g_rr; decide) (by decide) rfl (Nat.le_of_ble_eq_true rfl) (fun r8 w9 h10 => ?_)
    obtain ⟨rfl, hr8⟩ := h10
    have pr8 : jv 0 1 r8 := by rw [hr8]; exact gi_01 _ _ _
    refine g_if_ne cx 24 e_X11_table_19 (by decide) (fun zc11 => ?_) (fun zc11 => ?_)
    · have p12 := gn_neL 1 1 (gc_ne zc11) pr8 (jv_k (x := 0) 0 (by decide)) (by decide)
      have p13 := jv_i 0 63 (jv_t a1) (gi_in (A := 0) (B := 63) hr8 zc11 (by decide) (by decide)) (by decide)
      refine g_aload_n cx 0 rfl e_X11_table_24 ?_
      refine g_iload_n cx 1 rfl e_X11_table_25 ?_
      refine g_put cx cl_X11 fl_X11_155 0 (wM X ad (upd F 0 a0) R) e_X11_table_26 rfl rfl rfl rfl (Nat.le_of_ble_eq_true rfl) rfl ?_
      obtain ⟨F14, hF14⟩ : ∃ z, z = upd F 0 a0 := ⟨_, rfl⟩
      rw [← hF14]
      have oF14 : g_ok LK_wM F14 := by rw [hF14]; exact g_ok_u hI rfl
      have fF14 : g_fr md_X11_tableb F F14 := by rw [hF14]; exact g_fr_u (g_fr_rf F) rfl
      have wTF14 : WT F14 R := by rw [hF14]; exact WT_u hWT rfl
      have wCF14 : WC F14 R := by rw [hF14]; exact WC_u hWC rfl
      refine g_aload_n cx 0 rfl e_X11_table_29 ?_
      refine g_iload_n cx 1 rfl e_X11_table_30 ?_
      refine g_put cx cl_X11 fl_X11_159 0 (wM X ad (upd F14 1 a0) R) e_X11_table_31 rfl rfl rfl rfl (Nat.le_of_ble_eq_true rfl) rfl ?_
      obtain ⟨F15, hF15⟩ : ∃ z, z = upd F14 1 a0 := ⟨_, rfl⟩
      rw [← hF15]
      have oF15 : g_ok LK_wM F15 := by rw [hF15]; exact g_ok_u oF14 rfl
      have fF15 : g_fr md_X11_tableb F F15 := by rw [hF15]; exact g_fr_u fF14 rfl
      have wTF15 : WT F15 R := by rw [hF15]; exact WT_u wTF14 rfl
      have wCF15 : WC F15 R := by rw [hF15]; exact WC_u wCF14 rfl
      refine g_aload_n cx 0 rfl e_X11_table_34 ?_
      refine g_iload_n cx 2 rfl e_X11_table_35 ?_
      refine g_put cx cl_X11 fl_X11_169 0 (wM X ad (upd F15 2 a1) R) e_X11_table_36 rfl rfl rfl rfl (Nat.le_of_ble_eq_true rfl) rfl ?_
      obtain ⟨F16, hF16⟩ : ∃ z, z = upd F15 2 a1 := ⟨_, rfl⟩
      rw [← hF16]
      have oF16 : g_ok LK_wM F16 := by rw [hF16]; exact g_ok_u oF15 rfl
      have fF16 : g_fr md_X11_tableb F F16 := by rw [hF16]; exact g_fr_u fF15 rfl
      have wTF16 : WT F16 R := by rw [hF16]; exact WT_u wTF15 rfl
      have wCF16 : WC F16 R := by rw [hF16]; exact WC_u wCF15 rfl
      refine g_aload_n cx 0 rfl e_X11_table_39 ?_
      refine g_iconst cx 0 (by decide) e_X11_table_40 ?_
      refine g_put cx cl_X11 fl_X11_172 0 (wM X ad (upd F16 4 0) R) e_X11_table_41 rfl rfl rfl rfl (Nat.le_of_ble_eq_true rfl) rfl ?_
      obtain ⟨F17, hF17⟩ : ∃ z, z = upd F16 4 0 := ⟨_, rfl⟩
      rw [← hF17]
      have oF17 : g_ok LK_wM F17 := by rw [hF17]; exact g_ok_u oF16 rfl
      have fF17 : g_fr md_X11_tableb F F17 := by rw [hF17]; exact g_fr_u fF16 rfl
      have wTF17 : WT F17 R := by rw [hF17]; exact WT_0 wTF16
      have wCF17 : WC F17 R := by rw [hF17]; exact WC_u wCF16 rfl
      refine g_iconst cx 1 (by decide) e_X11_table_44 ?_
      exact hret e_X11_table_45 (Nat.le_of_ble_eq_true rfl) (Nat.le_of_ble_eq_true rfl) rfl ⟨F17, R, rfl, oF17, hA, wTF17, wCF17, fF17, (g_fr_rf R), (jv_w (jv_k (x := 1) 1 (by decide)) (by decide)), (by first | exact S_table_1 (by assumption) (by assumption) | exact S_table_2 (by assumption) (by assumption) (by assumption) (by assumption) | exact S_table_3 (by assumption) (by assumption) (by assumption) (by assumption)), (fun h0 => absurd h0 (by decide)), (fun h0 => ((((g_pu2 hF17 rfl).trans (g_pu2 hF16 rfl)).trans (g_pu2 hF15 rfl)).trans (g_pu1 hF14)))⟩
    · have p18 := gn_eq 0 0 (gc_eq zc11) pr8 (jv_k (x := 0) 0 (by decide)) (by decide)
      refine g_iconst cx 0 (by decide) e_X11_table_22 ?_
      exact hret e_X11_table_23 (Nat.le_of_ble_eq_true rfl) (Nat.le_of_ble_eq_true rfl) rfl ⟨F, R, rfl, hI, hA, hWT, hWC, (g_fr_rf F), (g_fr_rf R), (jv_w (jv_k (x := 0) 0 (by decide)) (by decide)), (by first | exact S_table_1 (by assumption) (by assumption) | exact S_table_2 (by assumption) (by assumption) (by assumption) (by assumption) | exact S_table_3 (by assumption) (by assumption) (by assumption) (by assumption)), (fun h0 => rfl), (fun h0 => absurd rfl h0)⟩
def md_X8_copy_1_r3b : List Nat := [16, 17, 18, 19, 20]
def mr_X8_copy_1_r3b : List Nat := [2]
set_option maxHeartbeats 4000000 in
set_option maxRecDepth 100000 in
theorem w_X8_copy_1_r3b (l : Launch) (X : gX) (ad : Nat → Nat) (F : Nat → Int32) (R : Nat → Nat → Int32) (hI : g_ok LK_wX F) (hA : g_okR LA_wX R) : g_Cv l X yX8_copy cX8_copy 2 1 0 0 [.ref (ad 1), .ref (ad 3)] (wX X ad F R) (fun w => ∃ (F' : Nat → Int32) (R' : Nat → Nat → Int32), w = wX X ad F' R' ∧ g_ok LK_wX F' ∧ g_okR LA_wX R' ∧ g_fr md_X8_copy_1_r3b F F' ∧ g_fr mr_X8_copy_1_r3b R R' ∧ F' 16 = F 48) := by
  refine g_mv (by decide +kernel) (Nat.le_of_ble_eq_true rfl) (fun E cx hret => ?_)
  refine g_aload_n cx 1 rfl e_X8_copy_0 ?_
  refine g_ifnonnull cx 5 e_X8_copy_1 (by decide) ?_
  refine g_aload_n cx 0 rfl e_X8_copy_5 ?_
  refine g_aload_n cx 1 rfl e_X8_copy_6 ?_
  refine g_get cx cl_X8 fl_X8_9 3 (.int (F 48)) e_X8_copy_7 rfl rfl ?_
  refine g_put cx cl_X8 fl_X8_9 1 (wX X ad (upd F 16 (F 48)) R) e_X8_copy_10 rfl rfl rfl rfl (Nat.le_of_ble_eq_true rfl) rfl ?_
  obtain ⟨F1, hF1⟩ : ∃ z, z = upd F 16 (F 48) := ⟨_, rfl⟩
  rw [← hF1]
  have oF1 : g_ok LK_wX F1 := by rw [hF1]; exact g_ok_u hI rfl
  have fF1 : g_fr md_X8_copy_1_r3b F F1 := by rw [hF1]; exact g_fr_u (g_fr_rf F) rfl
  refine g_aload_n cx 0 rfl e_X8_copy_13 ?_
  refine g_aload_n cx 1 rfl e_X8_copy_14 ?_
  refine g_get cx cl_X8 fl_X8_15 3 (.int (F1 49)) e_X8_copy_15 rfl rfl ?_
  refine g_toi (F 49) (g_pu2 hF1 rfl) ?_
  refine g_put cx cl_X8 fl_X8_15 1 (wX X ad (upd F1 17 (F 49)) R) e_X8_copy_18 rfl rfl rfl rfl (Nat.le_of_ble_eq_true rfl) rfl ?_
  obtain ⟨F2, hF2⟩ : ∃ z, z = upd F1 17 (F 49) := ⟨_, rfl⟩
  rw [← hF2]
  have oF2 : g_ok LK_wX F2 := by rw [hF2]; exact g_ok_u oF1 rfl
  have fF2 : g_fr md_X8_copy_1_r3b F F2 := by rw [hF2]; exact g_fr_u fF1 rfl
  refine g_aload_n cx 0 rfl e_X8_copy_21 ?_
  refine g_aload_n cx 1 rfl e_X8_copy_22 ?_
  refine g_get cx cl_X8 fl_X8_18 3 (.int (F2 50)) e_X8_copy_23 rfl rfl ?_
  refine g_toi (F 50) ((g_pu2 hF2 rfl).trans (g_pu2 hF1 rfl)) ?_
  refine g_put cx cl_X8 fl_X8_18 1 (wX X ad (upd F2 18 (F 50)) R) e_X8_copy_26 rfl rfl rfl rfl (Nat.le_of_ble_eq_true rfl) rfl ?_
  obtain ⟨F3, hF3⟩ : ∃ z, z = upd F2 18 (F 50) := ⟨_, rfl⟩
  rw [← hF3]
  have oF3 : g_ok LK_wX F3 := by rw [hF3]; exact g_ok_u oF2 rfl
  have fF3 : g_fr md_X8_copy_1_r3b F F3 := by rw [hF3]; exact g_fr_u fF2 rfl
  refine g_aload_n cx 0 rfl e_X8_copy_29 ?_
  refine g_aload_n cx 1 rfl e_X8_copy_30 ?_
  refine g_get cx cl_X8 fl_X8_21 3 (.int (F3 51)) e_X8_copy_31 rfl rfl ?_
  refine g_toi (F 51) (((g_pu2 hF3 rfl).trans (g_pu2 hF2 rfl)).trans (g_pu2 hF1 rfl)) ?_
  refine g_put cx cl_X8 fl_X8_21 1 (wX X ad (upd F3 19 (F 51)) R) e_X8_copy_34 rfl rfl rfl rfl (Nat.le_of_ble_eq_true rfl) rfl ?_
  obtain ⟨F4, hF4⟩ : ∃ z, z = upd F3 19 (F 51) := ⟨_, rfl⟩
  rw [← hF4]
  have oF4 : g_ok LK_wX F4 := by rw [hF4]; exact g_ok_u oF3 rfl
  have fF4 : g_fr md_X8_copy_1_r3b F F4 := by rw [hF4]; exact g_fr_u fF3 rfl
  refine g_aload_n cx 0 rfl e_X8_copy_37 ?_
  refine g_aload_n cx 1 rfl e_X8_copy_38 ?_
  refine g_get cx cl_X8 fl_X8_24 3 (.int (F4 52)) e_X8_copy_39 rfl rfl ?_
  refine g_toi (F 52) ((((g_pu2 hF4 rfl).trans (g_pu2 hF3 rfl)).trans (g_pu2 hF2 rfl)).trans (g_pu2 hF1 rfl)) ?_
  refine g_put cx cl_X8 fl_X8_24 1 (wX X ad (upd F4 20 (F 52)) R) e_X8_copy_42 rfl rfl rfl rfl (Nat.le_of_ble_eq_true rfl) rfl ?_
  obtain ⟨F5, hF5⟩ : ∃ z, z = upd F4 20 (F 52) := ⟨_, rfl⟩
  rw [← hF5]
  have oF5 : g_ok LK_wX F5 := by rw [hF5]; exact g_ok_u oF4 rfl
  have fF5 : g_fr md_X8_copy_1_r3b F F5 := by rw [hF5]; exact g_fr_u fF4 rfl
  refine g_aload_n cx 1 rfl e_X8_copy_45 ?_
  refine g_get cx cl_X8 fl_X8_27 3 (.ref (ad 4)) e_X8_copy_46 rfl rfl ?_
  refine g_iconst cx 0 (by decide) e_X8_copy_49 ?_
  refine g_aload_n cx 0 rfl e_X8_copy_50 ?_
  refine g_get cx cl_X8 fl_X8_27 1 (.ref (ad 2)) e_X8_copy_51 rfl rfl ?_
  refine g_iconst cx 0 (by decide) e_X8_copy_54 ?_
  refine g_aload_n cx 0 rfl e_X8_copy_55 ?_
  refine g_get cx cl_X8 fl_X8_27 1 (.ref (ad 2)) e_X8_copy_56 rfl rfl ?_
  refine g_alen cx 2 80 e_X8_copy_59 rfl (by decide) ?_
  refine g_copy cx 4 2 (wX X ad F5 (g_u R 2 (va_cpy (R 4) (R 2) 0 0 80))) ml_X8_39 e_X8_copy_60 rfl rfl (by decide) (by decide) (by decide) (by decide) rfl ?_
  obtain ⟨R6, hR6⟩ : ∃ z, z = g_u R 2 (va_cpy (R 4) (R 2) 0 0 80) := ⟨_, rfl⟩
  rw [← hR6]
  have oR6 : g_okR LA_wX R6 := by rw [hR6]; exact g_okR_u hA rfl
  have fR6 : g_fr mr_X8_copy_1_r3b R R6 := by rw [hR6]; exact g_fr_r (g_fr_rf R) rfl
  exact hret e_X8_copy_63 (Nat.le_of_ble_eq_true rfl) (Nat.le_of_ble_eq_true rfl) ⟨F5, R6, rfl, oF5, oR6, fF5, fR6, ((((((g_pu2 hF5 rfl).trans (g_pu2 hF4 rfl)).trans (g_pu2 hF3 rfl)).trans (g_pu2 hF2 rfl)).trans (g_pu1 hF1)))⟩
def md_X10_undob : List Nat := [16, 17, 18, 19, 20]
def mr_X10_undob : List Nat := [2]
set_option maxHeartbeats 4000000 in
set_option maxRecDepth 100000 in
theorem w_X10_undob (l : Launch) (X : gX) (ad : Nat → Nat) (F : Nat → Int32) (R : Nat → Nat → Int32) (hI : g_ok LK_wX F) (hA : g_okR LA_wX R) : g_Ci l X yX10_undo cX10_undo 1 (some .boolean) 2 0 0 [.ref (ad 0)] (wX X ad F R) (fun r w => ∃ (F' : Nat → Int32) (R' : Nat → Nat → Int32), w = wX X ad F' R' ∧ g_ok LK_wX F' ∧ g_okR LA_wX R' ∧ g_fr md_X10_undob F F' ∧ g_fr mr_X10_undob R R' ∧ jv 0 1 r ∧ r = F 11 ∧ (r = 0 → F' 16 = F 16) ∧ (¬ r = 0 → F' 16 = F 48)) := by
  refine g_mi (by decide +kernel) (Nat.le_of_ble_eq_true rfl) (fun E cx hret => ?_)
  refine g_aload_n cx 0 rfl e_X10_undo_0 ?_
  refine g_get cx cl_X10 fl_X10_74 0 (.int (F 11)) e_X10_undo_1 rfl rfl ?_
  refine g_if_ne cx 9 e_X10_undo_4 (by decide) (fun zc1 => ?_) (fun zc1 => ?_)
  · have p2 := gn_neL 1 1 (gc_ne zc1) (g_ok_g hI 0 rfl) (jv_k (x := 0) 0 (by decide)) (by decide)
    refine g_aload_n cx 0 rfl e_X10_undo_9 ?_
    refine g_get cx cl_X10 fl_X10_10 0 (.ref (ad 1)) e_X10_undo_10 rfl rfl ?_
    refine g_aload_n cx 0 rfl e_X10_undo_13 ?_
    refine g_get cx cl_X10 fl_X10_16 0 (.ref (ad 3)) e_X10_undo_14 rfl rfl ?_
    refine g_cVvW cx [.ref (ad 3)] [] (w_X8_copy_1_r3b l X ad F R hI hA) ml_X10_264 yV_X8_copy e_X10_undo_17 (by unfold g_rr; decide) (by decide) 1 rfl rfl rfl (Nat.le_of_ble_eq_true rfl) (fun w4 h5 => ?_)
    obtain ⟨F7, R8, rfl, oF7, oR8, cF7, cR8, zx6⟩ := h5
    have fF7 : g_fr md_X10_undob F F7 := g_fr_c (g_fr_rf F) cF7 rfl
    have fR8 : g_fr mr_X10_undob R R8 := g_fr_c (g_fr_rf R) cR8 rfl
    refine g_iconst cx 1 (by decide) e_X10_undo_20 ?_
    exact hret e_X10_undo_21 (Nat.le_of_ble_eq_true rfl) (Nat.le_of_ble_eq_true rfl) rfl ⟨F7, R8, rfl, oF7, oR8, fF7, fR8, (jv_w (jv_k (x := 1) 1 (by decide)) (by decide)), (by first | exact Eq.symm (by assumption) | exact g_01 (jv_w p2 (by decide)) (by assumption)), (fun h0 => absurd h0 (by decide)), (fun h0 => zx6)⟩
  · have p9 := gn_eq 0 0 (gc_eq zc1) (g_ok_g hI 0 rfl) (jv_k (x := 0) 0 (by decide)) (by decide)
    refine g_iconst cx 0 (by decide) e_X10_undo_7 ?_
    exact hret e_X10_undo_8 (Nat.le_of_ble_eq_true rfl) (Nat.le_of_ble_eq_true rfl) rfl ⟨F, R, rfl, hI, hA, (g_fr_rf F), (g_fr_rf R), (jv_w (jv_k (x := 0) 0 (by decide)) (by decide)), (by first | exact Eq.symm (by assumption) | exact g_01 (jv_w p9 (by decide)) (by assumption)), (fun h0 => rfl), (fun h0 => absurd rfl h0)⟩
def md_X11_undob : List Nat := [0, 1, 2, 3, 4]
def mr_X11_undob : List Nat := [1, 2, 3, 4, 5, 6, 7, 8]
set_option maxHeartbeats 4000000 in
set_option maxRecDepth 100000 in
theorem w_X11_undob (l : Launch) (X : gX) (ad : Nat → Nat) (F : Nat → Int32) (R : Nat → Nat → Int32) (hI : g_ok LK_wM F) (hA : g_okR LA_wM R) (hWT : WT F R) (hWC : WC F R) : g_Ci l X yX11_undo cX11_undo 1 (some .boolean) 2 0 0 [.ref (ad 0)] (wM X ad F R) (fun r w => ∃ (F' : Nat → Int32) (R' : Nat → Nat → Int32), w = wM X ad F' R' ∧ g_ok LK_wM F' ∧ g_okR LA_wM R' ∧ WT F' R' ∧ WC F' R' ∧ g_fr md_X11_undob F F' ∧ g_fr mr_X11_undob R R' ∧ jv 0 1 r ∧ r = F 77 ∧ (r = 0 → F' 0 = F 0) ∧ (¬ r = 0 → F' 0 = F 78)) := by
  refine g_mi (by decide +kernel) (Nat.le_of_ble_eq_true rfl) (fun E cx hret => ?_)
  refine g_aload_n cx 0 rfl e_X11_undo_0 ?_
  refine g_get cx cl_X11 fl_X11_491 0 (.int (F 77)) e_X11_undo_1 rfl rfl ?_
  refine g_if_ne cx 9 e_X11_undo_4 (by decide) (fun zc1 => ?_) (fun zc1 => ?_)
  · have p2 := gn_neL 1 1 (gc_ne zc1) (g_ok_g hI 15 rfl) (jv_k (x := 0) 0 (by decide)) (by decide)
    refine g_aload_n cx 0 rfl e_X11_undo_9 ?_
    refine g_aload_n cx 0 rfl e_X11_undo_10 ?_
    refine g_get cx cl_X11 fl_X11_494 0 (.int (F 78)) e_X11_undo_11 rfl rfl ?_
    refine g_put cx cl_X11 fl_X11_155 0 (wM X ad (upd F 0 (F 78)) R) e_X11_undo_14 rfl rfl rfl rfl (Nat.le_of_ble_eq_true rfl) rfl ?_
    obtain ⟨F3, hF3⟩ : ∃ z, z = upd F 0 (F 78) := ⟨_, rfl⟩
    rw [← hF3]
    have oF3 : g_ok LK_wM F3 := by rw [hF3]; exact g_ok_u hI rfl
    have fF3 : g_fr md_X11_undob F F3 := by rw [hF3]; exact g_fr_u (g_fr_rf F) rfl
    have wTF3 : WT F3 R := by rw [hF3]; exact WT_u hWT rfl
    have wCF3 : WC F3 R := by rw [hF3]; exact WC_u hWC rfl
    refine g_aload_n cx 0 rfl e_X11_undo_17 ?_
    refine g_aload_n cx 0 rfl e_X11_undo_18 ?_
    refine g_get cx cl_X11 fl_X11_497 0 (.int (F3 79)) e_X11_undo_19 rfl rfl ?_
    refine g_toi (F 79) (g_pu2 hF3 rfl) ?_
    refine g_put cx cl_X11 fl_X11_159 0 (wM X ad (upd F3 1 (F 79)) R) e_X11_undo_22 rfl rfl rfl rfl (Nat.le_of_ble_eq_true rfl) rfl ?_
    obtain ⟨F4, hF4⟩ : ∃ z, z = upd F3 1 (F 79) := ⟨_, rfl⟩
    rw [← hF4]
    have oF4 : g_ok LK_wM F4 := by rw [hF4]; exact g_ok_u oF3 rfl
    have fF4 : g_fr md_X11_undob F F4 := by rw [hF4]; exact g_fr_u fF3 rfl
    have wTF4 : WT F4 R := by rw [hF4]; exact WT_u wTF3 rfl
    have wCF4 : WC F4 R := by rw [hF4]; exact WC_u wCF3 rfl
    refine g_aload_n cx 0 rfl e_X11_undo_25 ?_
    refine g_aload_n cx 0 rfl e_X11_undo_26 ?_
    refine g_get cx cl_X11 fl_X11_500 0 (.int (F4 80)) e_X11_undo_27 rfl rfl ?_
    refine g_toi (F 80) ((g_pu2 hF4 rfl).trans (g_pu2 hF3 rfl)) ?_
    refine g_put cx cl_X11 fl_X11_169 0 (wM X ad (upd F4 2 (F 80)) R) e_X11_undo_30 rfl rfl rfl rfl (Nat.le_of_ble_eq_true rfl) rfl ?_
    obtain ⟨F5, hF5⟩ : ∃ z, z = upd F4 2 (F 80) := ⟨_, rfl⟩
    rw [← hF5]
    have oF5 : g_ok LK_wM F5 := by rw [hF5]; exact g_ok_u oF4 rfl
    have fF5 : g_fr md_X11_undob F F5 := by rw [hF5]; exact g_fr_u fF4 rfl
    have wTF5 : WT F5 R := by rw [hF5]; exact WT_u wTF4 rfl
    have wCF5 : WC F5 R := by rw [hF5]; exact WC_u wCF4 rfl
    refine g_aload_n cx 0 rfl e_X11_undo_33 ?_
    refine g_aload_n cx 0 rfl e_X11_undo_34 ?_
    refine g_get cx cl_X11 fl_X11_503 0 (.int (F5 81)) e_X11_undo_35 rfl rfl ?_
    refine g_toi (F 81) (((g_pu2 hF5 rfl).trans (g_pu2 hF4 rfl)).trans (g_pu2 hF3 rfl)) ?_
    refine g_put cx cl_X11 fl_X11_162 0 (wM X ad (upd F5 3 (F 81)) R) e_X11_undo_38 rfl rfl rfl rfl (Nat.le_of_ble_eq_true rfl) rfl ?_
    obtain ⟨F6, hF6⟩ : ∃ z, z = upd F5 3 (F 81) := ⟨_, rfl⟩
    rw [← hF6]
    have oF6 : g_ok LK_wM F6 := by rw [hF6]; exact g_ok_u oF5 rfl
    have fF6 : g_fr md_X11_undob F F6 := by rw [hF6]; exact g_fr_u fF5 rfl
    have wTF6 : WT F6 R := by rw [hF6]; exact WT_u wTF5 rfl
    have wCF6 : WC F6 R := by rw [hF6]; exact WC_u wCF5 rfl
    refine g_aload_n cx 0 rfl e_X11_undo_41 ?_
    refine g_aload_n cx 0 rfl e_X11_undo_42 ?_
    refine g_get cx cl_X11 fl_X11_506 0 (.int (F6 82)) e_X11_undo_43 rfl rfl ?_
    refine g_toi (F 82) ((((g_pu2 hF6 rfl).trans (g_pu2 hF5 rfl)).trans (g_pu2 hF4 rfl)).trans (g_pu2 hF3 rfl)) ?_
    refine g_put cx cl_X11 fl_X11_172 0 (wM X ad (upd F6 4 (F 82)) R) e_X11_undo_46 rfl rfl rfl rfl (Nat.le_of_ble_eq_true rfl) rfl ?_
    obtain ⟨F7, hF7⟩ : ∃ z, z = upd F6 4 (F 82) := ⟨_, rfl⟩
    rw [← hF7]
    have oF7 : g_ok LK_wM F7 := by rw [hF7]; exact g_ok_u oF6 rfl
    have fF7 : g_fr md_X11_undob F F7 := by rw [hF7]; exact g_fr_u fF6 rfl
    have wCF7 : WC F7 R := by rw [hF7]; exact WC_u wCF6 rfl
    refine g_aload_n cx 0 rfl e_X11_undo_49 ?_
    refine g_get cx cl_X11 fl_X11_131 0 (.ref (ad 41)) e_X11_undo_50 rfl rfl ?_
    refine g_aload_n cx 0 rfl e_X11_undo_53 ?_
    refine g_get cx cl_X11 fl_X11_7 0 (.ref (ad 1)) e_X11_undo_54 rfl rfl ?_
    refine g_cSvW cx [.ref (ad 41), .ref (ad 1)] [] (w_X11_copies_r41_r1 l X ad F7 R oF7 hA wCF7) ml_X11_509 yS_X11_copies rfl e_X11_undo_57 (by unfold g_rr; decide) (by decide) rfl (Nat.le_of_ble_eq_true rfl) (fun w9 h10 => ?_)
    obtain ⟨F12, R13, rfl, oF12, oR13, wCF12, cF12, cR13, zx11⟩ := h10
    have fF12 : g_fr md_X11_undob F F12 := g_fr_c fF7 cF12 rfl
    have fR13 : g_fr mr_X11_undob R R13 := g_fr_c (g_fr_rf R) cR13 rfl
    refine g_aload_n cx 0 rfl e_X11_undo_60 ?_
    refine g_get cx cl_X11 fl_X11_134 0 (.ref (ad 42)) e_X11_undo_61 rfl rfl ?_
    refine g_aload_n cx 0 rfl e_X11_undo_64 ?_
    refine g_get cx cl_X11 fl_X11_13 0 (.ref (ad 2)) e_X11_undo_65 rfl rfl ?_
    refine g_cSvW cx [.ref (ad 42), .ref (ad 2)] [] (w_X11_copies_r42_r2 l X ad F12 R13 oF12 oR13 wCF12) ml_X11_509 yS_X11_copies rfl e_X11_undo_68 (by unfold g_rr; decide) (by decide) rfl (Nat.le_of_ble_eq_true rfl) (fun w15 h16 => ?_)
    obtain ⟨F18, R19, rfl, oF18, oR19, wCF18, cF18, cR19, zx17⟩ := h16
    have fF18 : g_fr md_X11_undob F F18 := g_fr_c fF12 cF18 rfl
    have fR19 : g_fr mr_X11_undob R R19 := g_fr_c fR13 cR19 rfl
    refine g_aload_n cx 0 rfl e_X11_undo_71 ?_
    refine g_get cx cl_X11 fl_X11_137 0 (.ref (ad 43)) e_X11_undo_72 rfl rfl ?_
    refine g_aload_n cx 0 rfl e_X11_undo_75 ?_
    refine g_get cx cl_X11 fl_X11_16 0 (.ref (ad 3)) e_X11_undo_76 rfl rfl ?_
    refine g_cSvW cx [.ref (ad 43), .ref (ad 3)] [] (w_X11_copies_r43_r3 l X ad F18 R19 oF18 oR19 wCF18) ml_X11_509 yS_X11_copies rfl e_X11_undo_79 (by unfold g_rr; decide) (by decide) rfl (Nat.le_of_ble_eq_true rfl) (fun w21 h22 => ?_)
    obtain ⟨F24, R25, rfl, oF24, oR25, wCF24, cF24, cR25, zx23⟩ := h22
    have fF24 : g_fr md_X11_undob F F24 := g_fr_c fF18 cF24 rfl
    have fR25 : g_fr mr_X11_undob R R25 := g_fr_c fR19 cR25 rfl
    refine g_aload_n cx 0 rfl e_X11_undo_82 ?_
    refine g_get cx cl_X11 fl_X11_140 0 (.ref (ad 44)) e_X11_undo_83 rfl rfl ?_
    refine g_aload_n cx 0 rfl e_X11_undo_86 ?_
    refine g_get cx cl_X11 fl_X11_19 0 (.ref (ad 4)) e_X11_undo_87 rfl rfl ?_
    refine g_cSvW cx [.ref (ad 44), .ref (ad 4)] [] (w_X11_copies_r44_r4 l X ad F24 R25 oF24 oR25 wCF24) ml_X11_509 yS_X11_copies rfl e_X11_undo_90 (by unfold g_rr; decide) (by decide) rfl (Nat.le_of_ble_eq_true rfl) (fun w27 h28 => ?_)
    obtain ⟨F30, R31, rfl, oF30, oR31, wCF30, cF30, cR31, zx29⟩ := h28
    have fF30 : g_fr md_X11_undob F F30 := g_fr_c fF24 cF30 rfl
    have fR31 : g_fr mr_X11_undob R R31 := g_fr_c fR25 cR31 rfl
    refine g_aload_n cx 0 rfl e_X11_undo_93 ?_
    refine g_get cx cl_X11 fl_X11_143 0 (.ref (ad 45)) e_X11_undo_94 rfl rfl ?_
    refine g_aload_n cx 0 rfl e_X11_undo_97 ?_
    refine g_get cx cl_X11 fl_X11_22 0 (.ref (ad 5)) e_X11_undo_98 rfl rfl ?_
    refine g_cSvW cx [.ref (ad 45), .ref (ad 5)] [] (w_X11_copies_r45_r5 l X ad F30 R31 oF30 oR31 wCF30) ml_X11_509 yS_X11_copies rfl e_X11_undo_101 (by unfold g_rr; decide) (by decide) rfl (Nat.le_of_ble_eq_true rfl) (fun w33 h34 => ?_)
    obtain ⟨F36, R37, rfl, oF36, oR37, wCF36, cF36, cR37, zx35⟩ := h34
    have fF36 : g_fr md_X11_undob F F36 := g_fr_c fF30 cF36 rfl
    have fR37 : g_fr mr_X11_undob R R37 := g_fr_c fR31 cR37 rfl
    refine g_aload_n cx 0 rfl e_X11_undo_104 ?_
    refine g_get cx cl_X11 fl_X11_146 0 (.ref (ad 46)) e_X11_undo_105 rfl rfl ?_
    refine g_aload_n cx 0 rfl e_X11_undo_108 ?_
    refine g_get cx cl_X11 fl_X11_25 0 (.ref (ad 6)) e_X11_undo_109 rfl rfl ?_
    refine g_cSvW cx [.ref (ad 46), .ref (ad 6)] [] (w_X11_copies_r46_r6 l X ad F36 R37 oF36 oR37 wCF36) ml_X11_509 yS_X11_copies rfl e_X11_undo_112 (by unfold g_rr; decide) (by decide) rfl (Nat.le_of_ble_eq_true rfl) (fun w39 h40 => ?_)
    obtain ⟨F42, R43, rfl, oF42, oR43, wCF42, cF42, cR43, zx41⟩ := h40
    have fF42 : g_fr md_X11_undob F F42 := g_fr_c fF36 cF42 rfl
    have fR43 : g_fr mr_X11_undob R R43 := g_fr_c fR37 cR43 rfl
    refine g_aload_n cx 0 rfl e_X11_undo_115 ?_
    refine g_get cx cl_X11 fl_X11_149 0 (.ref (ad 47)) e_X11_undo_116 rfl rfl ?_
    refine g_aload_n cx 0 rfl e_X11_undo_119 ?_
    refine g_get cx cl_X11 fl_X11_28 0 (.ref (ad 7)) e_X11_undo_120 rfl rfl ?_
    refine g_cSvW cx [.ref (ad 47), .ref (ad 7)] [] (w_X11_copies_r47_r7 l X ad F42 R43 oF42 oR43 wCF42) ml_X11_509 yS_X11_copies rfl e_X11_undo_123 (by unfold g_rr; decide) (by decide) rfl (Nat.le_of_ble_eq_true rfl) (fun w45 h46 => ?_)
    obtain ⟨F48, R49, rfl, oF48, oR49, wCF48, cF48, cR49, zx47⟩ := h46
    have fF48 : g_fr md_X11_undob F F48 := g_fr_c fF42 cF48 rfl
    have fR49 : g_fr mr_X11_undob R R49 := g_fr_c fR43 cR49 rfl
    refine g_aload_n cx 0 rfl e_X11_undo_126 ?_
    refine g_get cx cl_X11 fl_X11_152 0 (.ref (ad 48)) e_X11_undo_127 rfl rfl ?_
    refine g_aload_n cx 0 rfl e_X11_undo_130 ?_
    refine g_get cx cl_X11 fl_X11_31 0 (.ref (ad 8)) e_X11_undo_131 rfl rfl ?_
    refine g_cSvW cx [.ref (ad 48), .ref (ad 8)] [] (w_X11_copies_r48_r8 l X ad F48 R49 oF48 oR49 wCF48) ml_X11_509 yS_X11_copies rfl e_X11_undo_134 (by unfold g_rr; decide) (by decide) rfl (Nat.le_of_ble_eq_true rfl) (fun w51 h52 => ?_)
    obtain ⟨F54, R55, rfl, oF54, oR55, wCF54, cF54, cR55, zx53⟩ := h52
    have fF54 : g_fr md_X11_undob F F54 := g_fr_c fF48 cF54 rfl
    have fR55 : g_fr mr_X11_undob R R55 := g_fr_c fR49 cR55 rfl
    refine g_iconst cx 1 (by decide) e_X11_undo_137 ?_
    exact hret e_X11_undo_138 (Nat.le_of_ble_eq_true rfl) (Nat.le_of_ble_eq_true rfl) rfl ⟨F54, R55, rfl, oF54, oR55, (WT_undo hWT (((((((((cF54 4 rfl).trans (cF48 4 rfl)).trans (cF42 4 rfl)).trans (cF36 4 rfl)).trans (cF30 4 rfl)).trans (cF24 4 rfl)).trans (cF18 4 rfl)).trans (cF12 4 rfl)).trans (g_pu1 hF7)) (((((((((((((cF54 82 rfl).trans (cF48 82 rfl)).trans (cF42 82 rfl)).trans (cF36 82 rfl)).trans (cF30 82 rfl)).trans (cF24 82 rfl)).trans (cF18 82 rfl)).trans (cF12 82 rfl)).trans (g_pu2 hF7 rfl)).trans (g_pu2 hF6 rfl)).trans (g_pu2 hF5 rfl)).trans (g_pu2 hF4 rfl)).trans (g_pu2 hF3 rfl)) ((((((((cR55 43 rfl).trans (cR49 43 rfl)).trans (cR43 43 rfl)).trans (cR37 43 rfl)).trans (cR31 43 rfl)).trans (cR25 43 rfl)).trans (cR19 43 rfl)).trans (cR13 43 rfl)) ((((((((cR55 45 rfl).trans (cR49 45 rfl)).trans (cR43 45 rfl)).trans (cR37 45 rfl)).trans (cR31 45 rfl)).trans (cR25 45 rfl)).trans (cR19 45 rfl)).trans (cR13 45 rfl)) (fun j hj => (congrFun (((((cR55 3 rfl).trans (cR49 3 rfl)).trans (cR43 3 rfl)).trans (cR37 3 rfl)).trans (cR31 3 rfl)) j).trans ((zx23 j hj).trans (congrFun ((cR19 43 rfl).trans (cR13 43 rfl)) j))) (fun j hj => (congrFun (((cR55 5 rfl).trans (cR49 5 rfl)).trans (cR43 5 rfl)) j).trans ((zx35 j hj).trans (congrFun ((((cR31 45 rfl).trans (cR25 45 rfl)).trans (cR19 45 rfl)).trans (cR13 45 rfl)) j)))), wCF54, fF54, fR55, (jv_w (jv_k (x := 1) 1 (by decide)) (by decide)), (by first | exact Eq.symm (by assumption) | exact g_01 (jv_w p2 (by decide)) (by assumption)), (fun h0 => absurd h0 (by decide)), (fun h0 => (((((((((((((cF54 0 rfl).trans (cF48 0 rfl)).trans (cF42 0 rfl)).trans (cF36 0 rfl)).trans (cF30 0 rfl)).trans (cF24 0 rfl)).trans (cF18 0 rfl)).trans (cF12 0 rfl)).trans (g_pu2 hF7 rfl)).trans (g_pu2 hF6 rfl)).trans (g_pu2 hF5 rfl)).trans (g_pu2 hF4 rfl)).trans (g_pu1 hF3)))⟩
  · have p56 := gn_eq 0 0 (gc_eq zc1) (g_ok_g hI 15 rfl) (jv_k (x := 0) 0 (by decide)) (by decide)
    refine g_iconst cx 0 (by decide) e_X11_undo_7 ?_
    exact hret e_X11_undo_8 (Nat.le_of_ble_eq_true rfl) (Nat.le_of_ble_eq_true rfl) rfl ⟨F, R, rfl, hI, hA, hWT, hWC, (g_fr_rf F), (g_fr_rf R), (jv_w (jv_k (x := 0) 0 (by decide)) (by decide)), (by first | exact Eq.symm (by assumption) | exact g_01 (jv_w p56 (by decide)) (by assumption)), (fun h0 => rfl), (fun h0 => absurd rfl h0)⟩
def md_X8_copy_3_r1b : List Nat := [48, 49, 50, 51, 52]
def mr_X8_copy_3_r1b : List Nat := [4]
set_option maxHeartbeats 4000000 in
set_option maxRecDepth 100000 in
theorem w_X8_copy_3_r1b (l : Launch) (X : gX) (ad : Nat → Nat) (F : Nat → Int32) (R : Nat → Nat → Int32) (hI : g_ok LK_wX F) (hA : g_okR LA_wX R) : g_Cv l X yX8_copy cX8_copy 2 1 0 0 [.ref (ad 3), .ref (ad 1)] (wX X ad F R) (fun w => ∃ (F' : Nat → Int32) (R' : Nat → Nat → Int32), w = wX X ad F' R' ∧ g_ok LK_wX F' ∧ g_okR LA_wX R' ∧ g_fr md_X8_copy_3_r1b F F' ∧ g_fr mr_X8_copy_3_r1b R R' ∧ F' 48 = F 16) := by
  refine g_mv (by decide +kernel) (Nat.le_of_ble_eq_true rfl) (fun E cx hret => ?_)
  refine g_aload_n cx 1 rfl e_X8_copy_0 ?_
  refine g_ifnonnull cx 5 e_X8_copy_1 (by decide) ?_
  refine g_aload_n cx 0 rfl e_X8_copy_5 ?_
  refine g_aload_n cx 1 rfl e_X8_copy_6 ?_
  refine g_get cx cl_X8 fl_X8_9 1 (.int (F 16)) e_X8_copy_7 rfl rfl ?_
  refine g_put cx cl_X8 fl_X8_9 3 (wX X ad (upd F 48 (F 16)) R) e_X8_copy_10 rfl rfl rfl rfl (Nat.le_of_ble_eq_true rfl) rfl ?_
  obtain ⟨F1, hF1⟩ : ∃ z, z = upd F 48 (F 16) := ⟨_, rfl⟩
  rw [← hF1]
  have oF1 : g_ok LK_wX F1 := by rw [hF1]; exact g_ok_u hI rfl
  have fF1 : g_fr md_X8_copy_3_r1b F F1 := by rw [hF1]; exact g_fr_u (g_fr_rf F) rfl
  refine g_aload_n cx 0 rfl e_X8_copy_13 ?_
  refine g_aload_n cx 1 rfl e_X8_copy_14 ?_
  refine g_get cx cl_X8 fl_X8_15 1 (.int (F1 17)) e_X8_copy_15 rfl rfl ?_
  refine g_toi (F 17) (g_pu2 hF1 rfl) ?_
  refine g_put cx cl_X8 fl_X8_15 3 (wX X ad (upd F1 49 (F 17)) R) e_X8_copy_18 rfl rfl rfl rfl (Nat.le_of_ble_eq_true rfl) rfl ?_
  obtain ⟨F2, hF2⟩ : ∃ z, z = upd F1 49 (F 17) := ⟨_, rfl⟩
  rw [← hF2]
  have oF2 : g_ok LK_wX F2 := by rw [hF2]; exact g_ok_u oF1 rfl
  have fF2 : g_fr md_X8_copy_3_r1b F F2 := by rw [hF2]; exact g_fr_u fF1 rfl
  refine g_aload_n cx 0 rfl e_X8_copy_21 ?_
  refine g_aload_n cx 1 rfl e_X8_copy_22 ?_
  refine g_get cx cl_X8 fl_X8_18 1 (.int (F2 18)) e_X8_copy_23 rfl rfl ?_
  refine g_toi (F 18) ((g_pu2 hF2 rfl).trans (g_pu2 hF1 rfl)) ?_
  refine g_put cx cl_X8 fl_X8_18 3 (wX X ad (upd F2 50 (F 18)) R) e_X8_copy_26 rfl rfl rfl rfl (Nat.le_of_ble_eq_true rfl) rfl ?_
  obtain ⟨F3, hF3⟩ : ∃ z, z = upd F2 50 (F 18) := ⟨_, rfl⟩
  rw [← hF3]
  have oF3 : g_ok LK_wX F3 := by rw [hF3]; exact g_ok_u oF2 rfl
  have fF3 : g_fr md_X8_copy_3_r1b F F3 := by rw [hF3]; exact g_fr_u fF2 rfl
  refine g_aload_n cx 0 rfl e_X8_copy_29 ?_
  refine g_aload_n cx 1 rfl e_X8_copy_30 ?_
  refine g_get cx cl_X8 fl_X8_21 1 (.int (F3 19)) e_X8_copy_31 rfl rfl ?_
  refine g_toi (F 19) (((g_pu2 hF3 rfl).trans (g_pu2 hF2 rfl)).trans (g_pu2 hF1 rfl)) ?_
  refine g_put cx cl_X8 fl_X8_21 3 (wX X ad (upd F3 51 (F 19)) R) e_X8_copy_34 rfl rfl rfl rfl (Nat.le_of_ble_eq_true rfl) rfl ?_
  obtain ⟨F4, hF4⟩ : ∃ z, z = upd F3 51 (F 19) := ⟨_, rfl⟩
  rw [← hF4]
  have oF4 : g_ok LK_wX F4 := by rw [hF4]; exact g_ok_u oF3 rfl
  have fF4 : g_fr md_X8_copy_3_r1b F F4 := by rw [hF4]; exact g_fr_u fF3 rfl
  refine g_aload_n cx 0 rfl e_X8_copy_37 ?_
  refine g_aload_n cx 1 rfl e_X8_copy_38 ?_
  refine g_get cx cl_X8 fl_X8_24 1 (.int (F4 20)) e_X8_copy_39 rfl rfl ?_
  refine g_toi (F 20) ((((g_pu2 hF4 rfl).trans (g_pu2 hF3 rfl)).trans (g_pu2 hF2 rfl)).trans (g_pu2 hF1 rfl)) ?_
  refine g_put cx cl_X8 fl_X8_24 3 (wX X ad (upd F4 52 (F 20)) R) e_X8_copy_42 rfl rfl rfl rfl (Nat.le_of_ble_eq_true rfl) rfl ?_
  obtain ⟨F5, hF5⟩ : ∃ z, z = upd F4 52 (F 20) := ⟨_, rfl⟩
  rw [← hF5]
  have oF5 : g_ok LK_wX F5 := by rw [hF5]; exact g_ok_u oF4 rfl
  have fF5 : g_fr md_X8_copy_3_r1b F F5 := by rw [hF5]; exact g_fr_u fF4 rfl
  refine g_aload_n cx 1 rfl e_X8_copy_45 ?_
  refine g_get cx cl_X8 fl_X8_27 1 (.ref (ad 2)) e_X8_copy_46 rfl rfl ?_
  refine g_iconst cx 0 (by decide) e_X8_copy_49 ?_
  refine g_aload_n cx 0 rfl e_X8_copy_50 ?_
  refine g_get cx cl_X8 fl_X8_27 3 (.ref (ad 4)) e_X8_copy_51 rfl rfl ?_
  refine g_iconst cx 0 (by decide) e_X8_copy_54 ?_
  refine g_aload_n cx 0 rfl e_X8_copy_55 ?_
  refine g_get cx cl_X8 fl_X8_27 3 (.ref (ad 4)) e_X8_copy_56 rfl rfl ?_
  refine g_alen cx 4 80 e_X8_copy_59 rfl (by decide) ?_
  refine g_copy cx 2 4 (wX X ad F5 (g_u R 4 (va_cpy (R 2) (R 4) 0 0 80))) ml_X8_39 e_X8_copy_60 rfl rfl (by decide) (by decide) (by decide) (by decide) rfl ?_
  obtain ⟨R6, hR6⟩ : ∃ z, z = g_u R 4 (va_cpy (R 2) (R 4) 0 0 80) := ⟨_, rfl⟩
  rw [← hR6]
  have oR6 : g_okR LA_wX R6 := by rw [hR6]; exact g_okR_u hA rfl
  have fR6 : g_fr mr_X8_copy_3_r1b R R6 := by rw [hR6]; exact g_fr_r (g_fr_rf R) rfl
  exact hret e_X8_copy_63 (Nat.le_of_ble_eq_true rfl) (Nat.le_of_ble_eq_true rfl) ⟨F5, R6, rfl, oF5, oR6, fF5, fR6, ((((((g_pu2 hF5 rfl).trans (g_pu2 hF4 rfl)).trans (g_pu2 hF3 rfl)).trans (g_pu2 hF2 rfl)).trans (g_pu1 hF1)))⟩
def md_X10_keepb : List Nat := [11, 48, 49, 50, 51, 52]
def mr_X10_keepb : List Nat := [4]
set_option maxHeartbeats 4000000 in
set_option maxRecDepth 100000 in
theorem w_X10_keepb (l : Launch) (X : gX) (ad : Nat → Nat) (F : Nat → Int32) (R : Nat → Nat → Int32) (hI : g_ok LK_wX F) (hA : g_okR LA_wX R) : g_Ci l X yX10_keep cX10_keep 1 (some .int) 2 0 0 [.ref (ad 0)] (wX X ad F R) (fun r w => ∃ (F' : Nat → Int32) (R' : Nat → Nat → Int32), w = wX X ad F' R' ∧ g_ok LK_wX F' ∧ g_okR LA_wX R' ∧ g_fr md_X10_keepb F F' ∧ g_fr mr_X10_keepb R R' ∧ jv (-2147483648) 2147483647 r ∧ F' 48 = F 16 ∧ F' 11 = 1) := by
  refine g_mi (by decide +kernel) (Nat.le_of_ble_eq_true rfl) (fun E cx hret => ?_)
  refine g_aload_n cx 0 rfl e_X10_keep_0 ?_
  refine g_get cx cl_X10 fl_X10_16 0 (.ref (ad 3)) e_X10_keep_1 rfl rfl ?_
  refine g_aload_n cx 0 rfl e_X10_keep_4 ?_
  refine g_get cx cl_X10 fl_X10_10 0 (.ref (ad 1)) e_X10_keep_5 rfl rfl ?_
  refine g_cVvW cx [.ref (ad 1)] [] (w_X8_copy_3_r1b l X ad F R hI hA) ml_X10_264 yV_X8_copy e_X10_keep_8 (by unfold g_rr; decide) (by decide) 3 rfl rfl rfl (Nat.le_of_ble_eq_true rfl) (fun w2 h3 => ?_)
  obtain ⟨F5, R6, rfl, oF5, oR6, cF5, cR6, zx4⟩ := h3
  have fF5 : g_fr md_X10_keepb F F5 := g_fr_c (g_fr_rf F) cF5 rfl
  have fR6 : g_fr mr_X10_keepb R R6 := g_fr_c (g_fr_rf R) cR6 rfl
  refine g_aload_n cx 0 rfl e_X10_keep_11 ?_
  refine g_iconst cx 1 (by decide) e_X10_keep_12 ?_
  refine g_put cx cl_X10 fl_X10_74 0 (wX X ad (upd F5 11 1) R6) e_X10_keep_13 rfl rfl rfl rfl (Nat.le_of_ble_eq_true rfl) rfl ?_
  obtain ⟨F7, hF7⟩ : ∃ z, z = upd F5 11 1 := ⟨_, rfl⟩
  rw [← hF7]
  have oF7 : g_ok LK_wX F7 := by rw [hF7]; exact g_ok_p oF5 (jv_k (x := 1) 1 (by decide)) rfl
  have fF7 : g_fr md_X10_keepb F F7 := by rw [hF7]; exact g_fr_u fF5 rfl
  refine g_aload_n cx 0 rfl e_X10_keep_16 ?_
  refine g_get cx cl_X10 fl_X10_10 0 (.ref (ad 1)) e_X10_keep_17 rfl rfl ?_
  refine g_getN cx cl_X8 fn_X10_95 1 (.int (F7 19)) e_X10_keep_20 rfl rfl ?_
  refine g_toi (F 19) ((g_pu2 hF7 rfl).trans (cF5 19 rfl)) ?_
  refine g_cOiW cx [.int (F 19)] [] (c_J6_bitCount_0f7a4 l X (wX X ad F7 R6) (F 19)) ml_X10_211 yS_J6_bitCount_0f7a4 e_X10_keep_23 (by unfold g_rr; decide) (by decide) rfl (Nat.le_of_ble_eq_true rfl) (fun r8 w9 h10 => ?_)
  obtain ⟨rfl, hr8⟩ := h10
  exact hret e_X10_keep_26 (Nat.le_of_ble_eq_true rfl) (Nat.le_of_ble_eq_true rfl) rfl ⟨F7, R6, rfl, oF7, oR6, fF7, fR6, (jv_t r8), (((g_pu2 hF7 rfl).trans zx4)), ((g_pu1 hF7))⟩
def md_X11_keepb : List Nat := [77, 78, 79, 80, 81, 82]
def mr_X11_keepb : List Nat := [41, 42, 43, 44, 45, 46, 47, 48]
set_option maxHeartbeats 4000000 in
set_option maxRecDepth 100000 in
theorem w_X11_keepb (l : Launch) (X : gX) (ad : Nat → Nat) (F : Nat → Int32) (R : Nat → Nat → Int32) (hI : g_ok LK_wM F) (hA : g_okR LA_wM R) (hWT : WT F R) (hWC : WC F R) : g_Ci l X yX11_keep cX11_keep 1 (some .int) 2 0 0 [.ref (ad 0)] (wM X ad F R) (fun r w => ∃ (F' : Nat → Int32) (R' : Nat → Nat → Int32), w = wM X ad F' R' ∧ g_ok LK_wM F' ∧ g_okR LA_wM R' ∧ WT F' R' ∧ WC F' R' ∧ g_fr md_X11_keepb F F' ∧ g_fr mr_X11_keepb R R' ∧ jv 0 10 r ∧ F' 78 = F 0 ∧ F' 77 = 1) := by
  refine g_mi (by decide +kernel) (Nat.le_of_ble_eq_true rfl) (fun E cx hret => ?_)
  refine g_aload_n cx 0 rfl e_X11_keep_0 ?_
  refine g_iconst cx 1 (by decide) e_X11_keep_1 ?_
  refine g_put cx cl_X11 fl_X11_491 0 (wM X ad (upd F 77 1) R) e_X11_keep_2 rfl rfl rfl rfl (Nat.le_of_ble_eq_true rfl) rfl ?_
  obtain ⟨F1, hF1⟩ : ∃ z, z = upd F 77 1 := ⟨_, rfl⟩
  rw [← hF1]
  have oF1 : g_ok LK_wM F1 := by rw [hF1]; exact g_ok_p hI (jv_k (x := 1) 1 (by decide)) rfl
  have fF1 : g_fr md_X11_keepb F F1 := by rw [hF1]; exact g_fr_u (g_fr_rf F) rfl
  have wTF1 : WT F1 R := by rw [hF1]; exact WT_u hWT rfl
  have wCF1 : WC F1 R := by rw [hF1]; exact WC_u hWC rfl
  refine g_aload_n cx 0 rfl e_X11_keep_5 ?_
  refine g_aload_n cx 0 rfl e_X11_keep_6 ?_
  refine g_get cx cl_X11 fl_X11_155 0 (.int (F1 0)) e_X11_keep_7 rfl rfl ?_
  refine g_toi (F 0) (g_pu2 hF1 rfl) ?_
  refine g_put cx cl_X11 fl_X11_494 0 (wM X ad (upd F1 78 (F 0)) R) e_X11_keep_10 rfl rfl rfl rfl (Nat.le_of_ble_eq_true rfl) rfl ?_
  obtain ⟨F2, hF2⟩ : ∃ z, z = upd F1 78 (F 0) := ⟨_, rfl⟩
  rw [← hF2]
  have oF2 : g_ok LK_wM F2 := by rw [hF2]; exact g_ok_u oF1 rfl
  have fF2 : g_fr md_X11_keepb F F2 := by rw [hF2]; exact g_fr_u fF1 rfl
  have wTF2 : WT F2 R := by rw [hF2]; exact WT_u wTF1 rfl
  have wCF2 : WC F2 R := by rw [hF2]; exact WC_u wCF1 rfl
  refine g_aload_n cx 0 rfl e_X11_keep_13 ?_
  refine g_aload_n cx 0 rfl e_X11_keep_14 ?_
  refine g_get cx cl_X11 fl_X11_159 0 (.int (F2 1)) e_X11_keep_15 rfl rfl ?_
  refine g_toi (F 1) ((g_pu2 hF2 rfl).trans (g_pu2 hF1 rfl)) ?_
  refine g_put cx cl_X11 fl_X11_497 0 (wM X ad (upd F2 79 (F 1)) R) e_X11_keep_18 rfl rfl rfl rfl (Nat.le_of_ble_eq_true rfl) rfl ?_
  obtain ⟨F3, hF3⟩ : ∃ z, z = upd F2 79 (F 1) := ⟨_, rfl⟩
  rw [← hF3]
  have oF3 : g_ok LK_wM F3 := by rw [hF3]; exact g_ok_u oF2 rfl
  have fF3 : g_fr md_X11_keepb F F3 := by rw [hF3]; exact g_fr_u fF2 rfl
  have wTF3 : WT F3 R := by rw [hF3]; exact WT_u wTF2 rfl
  have wCF3 : WC F3 R := by rw [hF3]; exact WC_u wCF2 rfl
  refine g_aload_n cx 0 rfl e_X11_keep_21 ?_
  refine g_aload_n cx 0 rfl e_X11_keep_22 ?_
  refine g_get cx cl_X11 fl_X11_169 0 (.int (F3 2)) e_X11_keep_23 rfl rfl ?_
  refine g_toi (F 2) (((g_pu2 hF3 rfl).trans (g_pu2 hF2 rfl)).trans (g_pu2 hF1 rfl)) ?_
  refine g_put cx cl_X11 fl_X11_500 0 (wM X ad (upd F3 80 (F 2)) R) e_X11_keep_26 rfl rfl rfl rfl (Nat.le_of_ble_eq_true rfl) rfl ?_
  obtain ⟨F4, hF4⟩ : ∃ z, z = upd F3 80 (F 2) := ⟨_, rfl⟩
  rw [← hF4]
  have oF4 : g_ok LK_wM F4 := by rw [hF4]; exact g_ok_u oF3 rfl
  have fF4 : g_fr md_X11_keepb F F4 := by rw [hF4]; exact g_fr_u fF3 rfl
  have wTF4 : WT F4 R := by rw [hF4]; exact WT_u wTF3 rfl
  have wCF4 : WC F4 R := by rw [hF4]; exact WC_u wCF3 rfl
  refine g_aload_n cx 0 rfl e_X11_keep_29 ?_
  refine g_aload_n cx 0 rfl e_X11_keep_30 ?_
  refine g_get cx cl_X11 fl_X11_162 0 (.int (F4 3)) e_X11_keep_31 rfl rfl ?_
  refine g_toi (F 3) ((((g_pu2 hF4 rfl).trans (g_pu2 hF3 rfl)).trans (g_pu2 hF2 rfl)).trans (g_pu2 hF1 rfl)) ?_
  refine g_put cx cl_X11 fl_X11_503 0 (wM X ad (upd F4 81 (F 3)) R) e_X11_keep_34 rfl rfl rfl rfl (Nat.le_of_ble_eq_true rfl) rfl ?_
  obtain ⟨F5, hF5⟩ : ∃ z, z = upd F4 81 (F 3) := ⟨_, rfl⟩
  rw [← hF5]
  have oF5 : g_ok LK_wM F5 := by rw [hF5]; exact g_ok_u oF4 rfl
  have fF5 : g_fr md_X11_keepb F F5 := by rw [hF5]; exact g_fr_u fF4 rfl
  have wTF5 : WT F5 R := by rw [hF5]; exact WT_u wTF4 rfl
  have wCF5 : WC F5 R := by rw [hF5]; exact WC_u wCF4 rfl
  refine g_aload_n cx 0 rfl e_X11_keep_37 ?_
  refine g_aload_n cx 0 rfl e_X11_keep_38 ?_
  refine g_get cx cl_X11 fl_X11_172 0 (.int (F5 4)) e_X11_keep_39 rfl rfl ?_
  refine g_toi (F 4) (((((g_pu2 hF5 rfl).trans (g_pu2 hF4 rfl)).trans (g_pu2 hF3 rfl)).trans (g_pu2 hF2 rfl)).trans (g_pu2 hF1 rfl)) ?_
  refine g_put cx cl_X11 fl_X11_506 0 (wM X ad (upd F5 82 (F 4)) R) e_X11_keep_42 rfl rfl rfl rfl (Nat.le_of_ble_eq_true rfl) rfl ?_
  obtain ⟨F6, hF6⟩ : ∃ z, z = upd F5 82 (F 4) := ⟨_, rfl⟩
  rw [← hF6]
  have oF6 : g_ok LK_wM F6 := by rw [hF6]; exact g_ok_u oF5 rfl
  have fF6 : g_fr md_X11_keepb F F6 := by rw [hF6]; exact g_fr_u fF5 rfl
  have wCF6 : WC F6 R := by rw [hF6]; exact WC_u wCF5 rfl
  refine g_aload_n cx 0 rfl e_X11_keep_45 ?_
  refine g_get cx cl_X11 fl_X11_7 0 (.ref (ad 1)) e_X11_keep_46 rfl rfl ?_
  refine g_aload_n cx 0 rfl e_X11_keep_49 ?_
  refine g_get cx cl_X11 fl_X11_131 0 (.ref (ad 41)) e_X11_keep_50 rfl rfl ?_
  refine g_cSvW cx [.ref (ad 1), .ref (ad 41)] [] (w_X11_copies_r1_r41 l X ad F6 R oF6 hA wCF6) ml_X11_509 yS_X11_copies rfl e_X11_keep_53 (by unfold g_rr; decide) (by decide) rfl (Nat.le_of_ble_eq_true rfl) (fun w8 h9 => ?_)
  obtain ⟨F11, R12, rfl, oF11, oR12, wCF11, cF11, cR12, zx10⟩ := h9
  have fF11 : g_fr md_X11_keepb F F11 := g_fr_c fF6 cF11 rfl
  have fR12 : g_fr mr_X11_keepb R R12 := g_fr_c (g_fr_rf R) cR12 rfl
  refine g_aload_n cx 0 rfl e_X11_keep_56 ?_
  refine g_get cx cl_X11 fl_X11_13 0 (.ref (ad 2)) e_X11_keep_57 rfl rfl ?_
  refine g_aload_n cx 0 rfl e_X11_keep_60 ?_
  refine g_get cx cl_X11 fl_X11_134 0 (.ref (ad 42)) e_X11_keep_61 rfl rfl ?_
  refine g_cSvW cx [.ref (ad 2), .ref (ad 42)] [] (w_X11_copies_r2_r42 l X ad F11 R12 oF11 oR12 wCF11) ml_X11_509 yS_X11_copies rfl e_X11_keep_64 (by unfold g_rr; decide) (by decide) rfl (Nat.le_of_ble_eq_true rfl) (fun w14 h15 => ?_)
  obtain ⟨F17, R18, rfl, oF17, oR18, wCF17, cF17, cR18, zx16⟩ := h15
  have fF17 : g_fr md_X11_keepb F F17 := g_fr_c fF11 cF17 rfl
  have fR18 : g_fr mr_X11_keepb R R18 := g_fr_c fR12 cR18 rfl
  refine g_aload_n cx 0 rfl e_X11_keep_67 ?_
  refine g_get cx cl_X11 fl_X11_16 0 (.ref (ad 3)) e_X11_keep_68 rfl rfl ?_
  refine g_aload_n cx 0 rfl e_X11_keep_71 ?_
  refine g_get cx cl_X11 fl_X11_137 0 (.ref (ad 43)) e_X11_keep_72 rfl rfl ?_
  refine g_cSvW cx [.ref (ad 3), .ref (ad 43)] [] (w_X11_copies_r3_r43 l X ad F17 R18 oF17 oR18 wCF17) ml_X11_509 yS_X11_copies rfl e_X11_keep_75 (by unfold g_rr; decide) (by decide) rfl (Nat.le_of_ble_eq_true rfl) (fun w20 h21 => ?_)
  obtain ⟨F23, R24, rfl, oF23, oR24, wCF23, cF23, cR24, zx22⟩ := h21
  have fF23 : g_fr md_X11_keepb F F23 := g_fr_c fF17 cF23 rfl
  have fR24 : g_fr mr_X11_keepb R R24 := g_fr_c fR18 cR24 rfl
  refine g_aload_n cx 0 rfl e_X11_keep_78 ?_
  refine g_get cx cl_X11 fl_X11_19 0 (.ref (ad 4)) e_X11_keep_79 rfl rfl ?_
  refine g_aload_n cx 0 rfl e_X11_keep_82 ?_
  refine g_get cx cl_X11 fl_X11_140 0 (.ref (ad 44)) e_X11_keep_83 rfl rfl ?_
  refine g_cSvW cx [.ref (ad 4), .ref (ad 44)] [] (w_X11_copies_r4_r44 l X ad F23 R24 oF23 oR24 wCF23) ml_X11_509 yS_X11_copies rfl e_X11_keep_86 (by unfold g_rr; decide) (by decide) rfl (Nat.le_of_ble_eq_true rfl) (fun w26 h27 => ?_)
  obtain ⟨F29, R30, rfl, oF29, oR30, wCF29, cF29, cR30, zx28⟩ := h27
  have fF29 : g_fr md_X11_keepb F F29 := g_fr_c fF23 cF29 rfl
  have fR30 : g_fr mr_X11_keepb R R30 := g_fr_c fR24 cR30 rfl
  refine g_aload_n cx 0 rfl e_X11_keep_89 ?_
  refine g_get cx cl_X11 fl_X11_22 0 (.ref (ad 5)) e_X11_keep_90 rfl rfl ?_
  refine g_aload_n cx 0 rfl e_X11_keep_93 ?_
  refine g_get cx cl_X11 fl_X11_143 0 (.ref (ad 45)) e_X11_keep_94 rfl rfl ?_
  refine g_cSvW cx [.ref (ad 5), .ref (ad 45)] [] (w_X11_copies_r5_r45 l X ad F29 R30 oF29 oR30 wCF29) ml_X11_509 yS_X11_copies rfl e_X11_keep_97 (by unfold g_rr; decide) (by decide) rfl (Nat.le_of_ble_eq_true rfl) (fun w32 h33 => ?_)
  obtain ⟨F35, R36, rfl, oF35, oR36, wCF35, cF35, cR36, zx34⟩ := h33
  have fF35 : g_fr md_X11_keepb F F35 := g_fr_c fF29 cF35 rfl
  have fR36 : g_fr mr_X11_keepb R R36 := g_fr_c fR30 cR36 rfl
  refine g_aload_n cx 0 rfl e_X11_keep_100 ?_
  refine g_get cx cl_X11 fl_X11_25 0 (.ref (ad 6)) e_X11_keep_101 rfl rfl ?_
  refine g_aload_n cx 0 rfl e_X11_keep_104 ?_
  refine g_get cx cl_X11 fl_X11_146 0 (.ref (ad 46)) e_X11_keep_105 rfl rfl ?_
  refine g_cSvW cx [.ref (ad 6), .ref (ad 46)] [] (w_X11_copies_r6_r46 l X ad F35 R36 oF35 oR36 wCF35) ml_X11_509 yS_X11_copies rfl e_X11_keep_108 (by unfold g_rr; decide) (by decide) rfl (Nat.le_of_ble_eq_true rfl) (fun w38 h39 => ?_)
  obtain ⟨F41, R42, rfl, oF41, oR42, wCF41, cF41, cR42, zx40⟩ := h39
  have fF41 : g_fr md_X11_keepb F F41 := g_fr_c fF35 cF41 rfl
  have fR42 : g_fr mr_X11_keepb R R42 := g_fr_c fR36 cR42 rfl
  refine g_aload_n cx 0 rfl e_X11_keep_111 ?_
  refine g_get cx cl_X11 fl_X11_28 0 (.ref (ad 7)) e_X11_keep_112 rfl rfl ?_
  refine g_aload_n cx 0 rfl e_X11_keep_115 ?_
  refine g_get cx cl_X11 fl_X11_149 0 (.ref (ad 47)) e_X11_keep_116 rfl rfl ?_
  refine g_cSvW cx [.ref (ad 7), .ref (ad 47)] [] (w_X11_copies_r7_r47 l X ad F41 R42 oF41 oR42 wCF41) ml_X11_509 yS_X11_copies rfl e_X11_keep_119 (by unfold g_rr; decide) (by decide) rfl (Nat.le_of_ble_eq_true rfl) (fun w44 h45 => ?_)
  obtain ⟨F47, R48, rfl, oF47, oR48, wCF47, cF47, cR48, zx46⟩ := h45
  have fF47 : g_fr md_X11_keepb F F47 := g_fr_c fF41 cF47 rfl
  have fR48 : g_fr mr_X11_keepb R R48 := g_fr_c fR42 cR48 rfl
  refine g_aload_n cx 0 rfl e_X11_keep_122 ?_
  refine g_get cx cl_X11 fl_X11_31 0 (.ref (ad 8)) e_X11_keep_123 rfl rfl ?_
  refine g_aload_n cx 0 rfl e_X11_keep_126 ?_
  refine g_get cx cl_X11 fl_X11_152 0 (.ref (ad 48)) e_X11_keep_127 rfl rfl ?_
  refine g_cSvW cx [.ref (ad 8), .ref (ad 48)] [] (w_X11_copies_r8_r48 l X ad F47 R48 oF47 oR48 wCF47) ml_X11_509 yS_X11_copies rfl e_X11_keep_130 (by unfold g_rr; decide) (by decide) rfl (Nat.le_of_ble_eq_true rfl) (fun w50 h51 => ?_)
  obtain ⟨F53, R54, rfl, oF53, oR54, wCF53, cF53, cR54, zx52⟩ := h51
  have fF53 : g_fr md_X11_keepb F F53 := g_fr_c fF47 cF53 rfl
  have fR54 : g_fr mr_X11_keepb R R54 := g_fr_c fR48 cR54 rfl
  refine g_aload_n cx 0 rfl e_X11_keep_133 ?_
  refine g_get cx cl_X11 fl_X11_172 0 (.int (F53 4)) e_X11_keep_134 rfl rfl ?_
  refine g_toi (F 4) ((((((((((((((cF53 4 rfl).trans (cF47 4 rfl)).trans (cF41 4 rfl)).trans (cF35 4 rfl)).trans (cF29 4 rfl)).trans (cF23 4 rfl)).trans (cF17 4 rfl)).trans (cF11 4 rfl)).trans (g_pu2 hF6 rfl)).trans (g_pu2 hF5 rfl)).trans (g_pu2 hF4 rfl)).trans (g_pu2 hF3 rfl)).trans (g_pu2 hF2 rfl)).trans (g_pu2 hF1 rfl)) ?_
  refine g_cSiW cx [.int (F 4)] [] (w_X11_bits2 l X ad F53 R54 oF53 oR54 (F 4)) ml_X11_410 yS_X11_bits rfl e_X11_keep_137 (by unfold g_rr; decide) (by decide) rfl (Nat.le_of_ble_eq_true rfl) (fun r55 w56 h57 => ?_)
  obtain ⟨rfl, pr55, zx58⟩ := h57
  exact hret e_X11_keep_140 (Nat.le_of_ble_eq_true rfl) (Nat.le_of_ble_eq_true rfl) rfl ⟨F53, R54, rfl, oF53, oR54, (WT_keep hWT ((((((((((((((cF53 4 rfl).trans (cF47 4 rfl)).trans (cF41 4 rfl)).trans (cF35 4 rfl)).trans (cF29 4 rfl)).trans (cF23 4 rfl)).trans (cF17 4 rfl)).trans (cF11 4 rfl)).trans (g_pu2 hF6 rfl)).trans (g_pu2 hF5 rfl)).trans (g_pu2 hF4 rfl)).trans (g_pu2 hF3 rfl)).trans (g_pu2 hF2 rfl)).trans (g_pu2 hF1 rfl)) (((((((((cF53 82 rfl).trans (cF47 82 rfl)).trans (cF41 82 rfl)).trans (cF35 82 rfl)).trans (cF29 82 rfl)).trans (cF23 82 rfl)).trans (cF17 82 rfl)).trans (cF11 82 rfl)).trans (g_pu1 hF6)) ((((((((cR54 3 rfl).trans (cR48 3 rfl)).trans (cR42 3 rfl)).trans (cR36 3 rfl)).trans (cR30 3 rfl)).trans (cR24 3 rfl)).trans (cR18 3 rfl)).trans (cR12 3 rfl)) ((((((((cR54 5 rfl).trans (cR48 5 rfl)).trans (cR42 5 rfl)).trans (cR36 5 rfl)).trans (cR30 5 rfl)).trans (cR24 5 rfl)).trans (cR18 5 rfl)).trans (cR12 5 rfl)) (fun j hj => (congrFun (((((cR54 43 rfl).trans (cR48 43 rfl)).trans (cR42 43 rfl)).trans (cR36 43 rfl)).trans (cR30 43 rfl)) j).trans ((zx22 j hj).trans (congrFun ((cR18 3 rfl).trans (cR12 3 rfl)) j))) (fun j hj => (congrFun (((cR54 45 rfl).trans (cR48 45 rfl)).trans (cR42 45 rfl)) j).trans ((zx34 j hj).trans (congrFun ((((cR30 5 rfl).trans (cR24 5 rfl)).trans (cR18 5 rfl)).trans (cR12 5 rfl)) j)))), wCF53, fF53, fR54, pr55, ((((((((((((((cF53 78 rfl).trans (cF47 78 rfl)).trans (cF41 78 rfl)).trans (cF35 78 rfl)).trans (cF29 78 rfl)).trans (cF23 78 rfl)).trans (cF17 78 rfl)).trans (cF11 78 rfl)).trans (g_pu2 hF6 rfl)).trans (g_pu2 hF5 rfl)).trans (g_pu2 hF4 rfl)).trans (g_pu2 hF3 rfl)).trans (g_pu1 hF2))), (((((((((((((((cF53 77 rfl).trans (cF47 77 rfl)).trans (cF41 77 rfl)).trans (cF35 77 rfl)).trans (cF29 77 rfl)).trans (cF23 77 rfl)).trans (cF17 77 rfl)).trans (cF11 77 rfl)).trans (g_pu2 hF6 rfl)).trans (g_pu2 hF5 rfl)).trans (g_pu2 hF4 rfl)).trans (g_pu2 hF3 rfl)).trans (g_pu2 hF2 rfl)).trans (g_pu1 hF1)))⟩
/-! THE CLAIM OUT OF ONE WALK OF THE LAW'S BODY. Your part is whole_start (and what it stands on); all else here is the same for every law, but numbers. -/
def R_law : String := "ClothPullLaw"
def lw_P (b : Addr) (xs : List Int32) (args : Array Value) (s : State) : Prop := args = #[.ref b] ∧ s.IntsAt b xs ∧ xs.length ≤ 3584 ∧ (Jvm.Cond.and given_1 narrow_1).before args s = true
def lw_Q (_ : Array Value) (s : State) (o : Outcome) (t : State) : Prop := o = .returned (some (.int 1)) ∧ Framed s o t [] 600000 7302250
def lw_Z (below : List Frame) (a : Array Value) (s : State) : State → Prop := fun t => ∃ o, t.status = .running ∧ Ended t below o ∧ lw_Q a s o t
/-- the law's own end, with 1 on the stack, nothing written that was there before, its room as the claim has it -/
theorem lw_ret {p : Program} {l : Launch} {e : Env} {s : State} {m : MethodId} {below : List Frame} {meth : Method} {c : Code} {b : Nat} (hx : p.tables.exec = Jvm.exec) (hb : c.code = code) (hr : meth.sig.returnType = ret) (hlocks : meth.locks = false) {pc : Nat} {H : Heap} {ls : Array Slot} (hdg : decode code pc = .ok (.ireturn, 1)) : W p l e room_1 s m #[Value.ref b] below meth c H [] 600000 7302250 (lw_Z below #[Value.ref b] s) (F0 m pc ls [.int 1]) := by
  intro T hT X
  obtain ⟨fs, hret, hrun, hended, hW, hframe⟩ := X.leave (v := some (.int 1)) (hlocks := hlocks) (fun h => by rw [hr] at h; cases h)
  have hmeth' : T.vm.method? m = some meth := X.method'
  refine ⟨T.setFrames fs, ?_, .returned (some (.int 1)), hrun, hended, rfl, ⟨_, rfl⟩, hW, hframe⟩
  jvm_step X.here [X.here.top, hx, hb, hdg, hmeth', hr, ret, narrow_b1]
  (try refine ⟨rfl, ?_⟩); (try refine ⟨rfl, ?_⟩)
  first | (intro acts; rw [hret _ acts rfl rfl rfl]) | rw [hret _ _ rfl rfl rfl]
  exact Steps.refl _
/-- what holds at the law's entry: the machine, the code, the tables' words (any of lw_tbl by 'hts w (by decide +kernel)'), the script of L ints xs at the cell b, what the Statement gives of the start (any of its parts by flat_of_before) -/
def lw_At (p : Program) (s : State) (m : MethodId) (meth : Method) (c : Code) (b L : Nat) (xs : Nat → Int32) : Prop :=
  p.tables.exec = Jvm.exec ∧ c.code = code ∧ meth.sig.returnType = ret ∧ c.maxLocals = 4 ∧ s.vm.findClass R_law = some m.cls ∧ (∀ w ∈ lw_tbl, w.before #[Value.ref b] s = true) ∧ va_X b L xs s s.heap ∧ b < s.heap.size ∧ meth.locks = false ∧ (Jvm.Cond.and given_1 narrow_1).before #[Value.ref b] s = true
theorem g_appl (wc wr : va_W) : (List.range wc.length).map (fun i => (wc ++ wr)[i]?) = wc.map some := by
  rw [← g_all wc]
  apply List.map_congr_left
  intro i hi
  rw [List.getElem?_append_left (List.mem_range.mp hi)]
theorem g_appr (wc wr : va_W) : ((List.range wr.length).map (· + wc.length)).map (fun i => (wc ++ wr)[i]?) = wr.map some := by
  rw [← g_all wr, List.map_map]
  apply List.map_congr_left
  intro i hi
  show (wc ++ wr)[i + wc.length]? = _
  rw [List.getElem?_append_right (by omega), Nat.add_sub_cancel]
theorem g_nda (n k : Nat) : va_nd ((List.range n).map (· + k)) = true := by
  refine g_nd_of _ (List.nodup_range.map _ ?_)
  intro a b hab h
  exact hab (by omega)
section GCH
variable {X : gX} {E : gE} {nL k n : Nat} {l : Launch} {R : Room} {cc : ByteArray} {own : String} {ini : Prop} {ws : va_W} {lv : List (Nat × Value)} {pc pc' : Nat} {st0 : List Value}
variable {y : MethodName} {b : ByteArray} {ml d mc ms idx : Nat} {wc : va_W}
theorem g_cViH {wr : va_W} {ret : Option FieldType} {post : Int32 → va_W → Prop} (cx : g_cx X E nL l R cc own ini) (As st : List Value) {a : Nat} (hM : g_Ci l X y b ml ret d mc ms (.ref a :: As) wc post) (hw : Cond.methodLink own idx y ∈ gT) (hy : g_yV y b ml ret As.length) (hd : g_dc cc pc (.invokevirtual idx) 3 pc') (hR : g_rr R d ml) (hf : k + mc ≤ R.cells ∧ n + ms ≤ R.slots) (q0 : Nat) {ci : Nat} {fs : List Value} {T : u_T} {N : Nat} (he : wc[q0]? = some (a, .inr (ci, fs))) (hc : vwCl[ci]? = some (y.cls, T, N)) (hws : ws = wc ++ wr) (hst : st0 = As.reverse ++ .ref a :: st) (hW : (st.map fun v => v.category).sum ≤ 8)
    (kk : ∀ r w, post r w → G X E nL (k + mc) (n + ms) (wr ++ w) lv pc' (.int r :: st)) : G X E nL k n ws lv pc st0 := by
  obtain ⟨p, e, s, args, below, meth, c, Q, hE, hx, hb, hml, hown, hts, hK, hN, hG, hA, hini⟩ := cx
  obtain ⟨hd, rfl⟩ := hd
  subst hst
  subst hws
  intro H locs ls hP hD hS hl
  rw [hE]
  have hC := g_appl wc wr
  have hPc : va_P X.1.1 vwCl wc H := g_P_of hC hP
  have hDc := hD.sub _ (g_ndr _) hC
  have hFc := va_free (wc := wc) hD hS hA (List.range wc.length) hC
  have hgood : GoodIn gT (wsV own idx y.cls y (gW y b ml ret)) := g_good (fun w h => by
    simp only [wsV, gW, List.mem_append, List.mem_cons, List.not_mem_nil, or_false] at h
    rcases h with (rfl | rfl | rfl | rfl) | rfl | h
    · exact hw
    · exact hy.1
    · exact hy.2.1
    · exact hy.2.2.1
    · exact hy.2.2.2.1
    · exact h)
  refine va_calli (va_runV (As := As) (rest := st) ⟨hx, hb, hml, hown, hts⟩ (hM H.size) (cwV As.length hts hgood rfl rfl rfl ⟨rfl, hy.2.2.2.2⟩ hR) ⟨g_pc_ok, va_recv hK hPc hc he, fun U hU hW => ⟨rfl, by rw [hU], by rw [hU]; exact hPc, va_K.moved hW.alike hK, hDc.weaken (fun _ _ _ _ => trivial), g_nf_warm hW hN, g_gl_call hG.2 hS hFc hU hW⟩⟩ rfl rfl hl.1 rfl (lv_room hW) hd hf) hS (fun q _ h => hFc q h) hFc (fun r w t H1 locs1 ht hvm hp hB hz hk1 hS1 => ?_)
  obtain ⟨hP1, hD1⟩ := hB
  rw [ht] at hP1
  obtain ⟨hP2, hD2⟩ := va_join hP hD (List.range wc.length) ((List.range wr.length).map (· + wc.length)) hC (g_appr wc wr) (g_nda _ _) (fun i hi q => by
    obtain ⟨j, -, rfl⟩ := List.mem_map.mp hi
    have := List.mem_range.mp q
    omega) hk1 hFc hP1 hD1
  have k1 := kk r w hp H1 locs1 ls hP2 hD2 hS1 hl
  rw [hE] at k1
  exact k1
end GCH
section GLAW
def g_cxs (X : gX) (E : gE) (nL : Nat) (l : Launch) (R : Room) (cc : ByteArray) (own : String) (b L : Nat) (xs : Nat → Int32) : Prop :=
  ∃ (p : Program) (e : Env) (s : State) (args : Array Value) (below : List Frame) (meth : Method) (c : Code) (Q : State → Prop),
    E.1 = (fun H locs k n g => W p l e R s E.2.1 args below meth c H locs k n Q g) ∧ p.tables.exec = Jvm.exec ∧ c.code = cc ∧ va_X b L xs s E.2.2.2 ∧ b < E.2.2.2.size ∧ ¬ E.2.2.1 b
variable {X : gX} {E : gE} {nL k n : Nat} {l : Launch} {R : Room} {cc : ByteArray} {own : String} {ws : va_W} {lv : List (Nat × Value)} {pc pc' : Nat} {st : List Value} {b L : Nat} {xs : Nat → Int32}
theorem g_sld (cx : g_cxs X E nL l R cc own b L xs) {i : Int32} (hd : g_dc cc pc .iaload 1 pc') (hin : vp_in i L) (kk : G X E nL k n ws lv pc' (.int (xs i.toNatClampNeg) :: st)) : G X E nL k n ws lv pc (.int i :: .ref b :: st) := by
  obtain ⟨p, e, s, args, below, meth, c, Q, hE, hx, hb, hX, hbl, hbA⟩ := cx
  obtain ⟨hd, rfl⟩ := hd
  intro H locs ls hP hD hS hl0
  have k1 := kk H locs ls hP hD hS hl0
  rw [hE] at k1 ⊢
  exact va_sld hx hb hX hbl hbA hS hin hd k1
theorem g_slen (cx : g_cxs X E nL l R cc own b L xs) (hd : g_dc cc pc .arraylength 1 pc') (kk : G X E nL k n ws lv pc' (.int (Int32.ofNat L) :: st)) : G X E nL k n ws lv pc (.ref b :: st) := by
  obtain ⟨p, e, s, args, below, meth, c, Q, hE, hx, hb, hX, hbl, hbA⟩ := cx
  obtain ⟨hd, rfl⟩ := hd
  intro H locs ls hP hD hS hl0
  have k1 := kk H locs ls hP hD hS hl0
  rw [hE] at k1 ⊢
  exact va_slen hx hb hX hbl hbA hS hd k1
end GLAW

theorem g_six {L : Nat} {i x : Int32} (k : Int32) {c : Int} (hL : L ≤ 3584) (hi : jv 0 3584 i) (hz : ¬ Int32.ofNat L - 7 < i) (ex : x = i + k) (hk : k.toInt = c) (hc : 0 ≤ c ∧ c ≤ 6) : vp_in x L := by
  have h1 := gc_nlt hz
  have h2 : (Int32.ofNat L).toInt = L := nI_toInt (by omega)
  have h3 := jv_sub (x := Int32.ofNat L) (y := 7) (z := Int32.ofNat L - 7) (-7) 3577 rfl (a := 0) (b := 3584) ⟨by omega, by omega⟩ (jv_k (x := 7) 7 (by decide)) (by decide)
  have h4 := jv_add (x := i) (y := k) (z := x) 0 3590 ex hi (a := 0) (b := 3584) (c := 0) (d := 6) ⟨by omega, by omega⟩ (by decide)
  have h5 := g_eq0 h3.1
  have h6 := g_eq0 h4.1
  have h7 : (7 : Int32).toInt = 7 := rfl
  rw [vp_in_iff]
  unfold jv at hi
  omega
theorem g_six0 {L : Nat} {i : Int32} (hL : L ≤ 3584) (hi : jv 0 3584 i) (hz : ¬ Int32.ofNat L - 7 < i) : vp_in i L := g_six (x := i) 0 hL hi hz (by simp) rfl (by decide)
theorem g_sinc {L : Nat} {i x : Int32} (hL : L ≤ 3584) (hi : jv 0 3584 i) (hz : ¬ Int32.ofNat L - 7 < i) (ex : x = i + 7) : jv 0 3584 x ∧ (4000 - x.toInt).toNat < (4000 - i.toInt).toNat := by
  have h1 := gc_nlt hz
  have h2 : (Int32.ofNat L).toInt = L := nI_toInt (by omega)
  have h3 := jv_sub (x := Int32.ofNat L) (y := 7) (z := Int32.ofNat L - 7) (-7) 3577 rfl (a := 0) (b := 3584) ⟨by omega, by omega⟩ (jv_k (x := 7) 7 (by decide)) (by decide)
  have h4 := jv_add (x := i) (y := 7) (z := x) 0 3591 ex hi (jv_k (x := 7) 7 (by decide)) (by decide)
  have h5 := g_eq0 h3.1
  have h6 := g_eq0 h4.1
  have h7 : (7 : Int32).toInt = 7 := rfl
  unfold jv at *
  omega
theorem g_ok_of {L : List (Nat × Int × Int)} {F : Nat → Int32} (h : L.all (fun q => decide (q.2.1 ≤ (F q.1).toInt) && decide ((F q.1).toInt ≤ q.2.2)) = true) : g_ok L F := by
  intro q hq
  have h1 := List.all_eq_true.mp h q hq
  simp only [Bool.and_eq_true, decide_eq_true_eq] at h1
  exact h1
theorem g_okR_0 {L : List (Nat × Nat × Int × Int)} (h : L.all (fun q => decide (q.2.2.1 ≤ 0) && decide (0 ≤ q.2.2.2)) = true) : g_okR L r0 := by
  intro q hq j _
  have h1 := List.all_eq_true.mp h q hq
  simp only [Bool.and_eq_true, decide_eq_true_eq] at h1
  exact ⟨h1.1, h1.2⟩
theorem WT_new : WT fM0 r0 := ⟨fun j hj q => absurd q (hb_0 hj), fun j hj q => absurd q (hb_0 hj)⟩
theorem WC_new : WC fM0 r0 := by
  intro j h
  have : (fM0 28).toInt = 0 := rfl
  omega
theorem d_law_0 : g_dc code 0 (.new 7) 3 3 := ⟨by decide +kernel, rfl⟩
theorem d_law_3 : g_dc code 3 (.dup) 1 4 := ⟨by decide +kernel, rfl⟩
theorem d_law_4 : g_dc code 4 (.invokespecial 9) 3 7 := ⟨by decide +kernel, rfl⟩
theorem d_law_7 : g_dc code 7 (.astore_n 1) 1 8 := ⟨by decide +kernel, rfl⟩
theorem d_law_8 : g_dc code 8 (.new 10) 3 11 := ⟨by decide +kernel, rfl⟩
theorem d_law_11 : g_dc code 11 (.dup) 1 12 := ⟨by decide +kernel, rfl⟩
theorem d_law_12 : g_dc code 12 (.invokespecial 12) 3 15 := ⟨by decide +kernel, rfl⟩
theorem d_law_15 : g_dc code 15 (.astore_n 2) 1 16 := ⟨by decide +kernel, rfl⟩
theorem d_law_16 : g_dc code 16 (.iconst 0) 1 17 := ⟨by decide +kernel, rfl⟩
theorem d_law_17 : g_dc code 17 (.istore_n 3) 1 18 := ⟨by decide +kernel, rfl⟩
theorem d_law_18 : g_dc code 18 (.iload_n 3) 1 19 := ⟨by decide +kernel, rfl⟩
theorem d_law_19 : g_dc code 19 (.aload_n 0) 1 20 := ⟨by decide +kernel, rfl⟩
theorem d_law_20 : g_dc code 20 (.arraylength) 1 21 := ⟨by decide +kernel, rfl⟩
theorem d_law_21 : g_dc code 21 (.bipush 7) 2 23 := ⟨by decide +kernel, rfl⟩
theorem d_law_23 : g_dc code 23 (.isub) 1 24 := ⟨by decide +kernel, rfl⟩
theorem d_law_24 : g_dc code 24 (.if_icmp .gt 931) 3 27 := ⟨by decide +kernel, rfl⟩
theorem d_law_27 : g_dc code 27 (.aload_n 0) 1 28 := ⟨by decide +kernel, rfl⟩
theorem d_law_28 : g_dc code 28 (.iload_n 3) 1 29 := ⟨by decide +kernel, rfl⟩
theorem d_law_29 : g_dc code 29 (.iaload) 1 30 := ⟨by decide +kernel, rfl⟩
theorem d_law_30 : g_dc code 30 (.bipush 31) 2 32 := ⟨by decide +kernel, rfl⟩
theorem d_law_32 : g_dc code 32 (.iand) 1 33 := ⟨by decide +kernel, rfl⟩
theorem d_law_33 : g_dc code 33 (.tableswitch 916 0 26 #[123, 156, 179, 254, 307, 330, 393, 416, 439, 462, 485, 498, 531, 544, 567, 600, 623, 656, 679, 702, 745, 778, 821, 844, 857, 870, 893]) 123 156 := ⟨by decide +kernel, rfl⟩
theorem d_law_156 : g_dc code 156 (.aload_n 1) 1 157 := ⟨by decide +kernel, rfl⟩
theorem d_law_157 : g_dc code 157 (.aload_n 0) 1 158 := ⟨by decide +kernel, rfl⟩
theorem d_law_158 : g_dc code 158 (.iload_n 3) 1 159 := ⟨by decide +kernel, rfl⟩
theorem d_law_159 : g_dc code 159 (.iconst 1) 1 160 := ⟨by decide +kernel, rfl⟩
theorem d_law_160 : g_dc code 160 (.iadd) 1 161 := ⟨by decide +kernel, rfl⟩
theorem d_law_161 : g_dc code 161 (.iaload) 1 162 := ⟨by decide +kernel, rfl⟩
theorem d_law_162 : g_dc code 162 (.aload_n 0) 1 163 := ⟨by decide +kernel, rfl⟩
theorem d_law_163 : g_dc code 163 (.iload_n 3) 1 164 := ⟨by decide +kernel, rfl⟩
theorem d_law_164 : g_dc code 164 (.iconst 2) 1 165 := ⟨by decide +kernel, rfl⟩
theorem d_law_165 : g_dc code 165 (.iadd) 1 166 := ⟨by decide +kernel, rfl⟩
theorem d_law_166 : g_dc code 166 (.iaload) 1 167 := ⟨by decide +kernel, rfl⟩
theorem d_law_167 : g_dc code 167 (.invokevirtual 13) 3 170 := ⟨by decide +kernel, rfl⟩
theorem d_law_170 : g_dc code 170 (.pop) 1 171 := ⟨by decide +kernel, rfl⟩
theorem d_law_171 : g_dc code 171 (.aload_n 2) 1 172 := ⟨by decide +kernel, rfl⟩
theorem d_law_172 : g_dc code 172 (.aload_n 0) 1 173 := ⟨by decide +kernel, rfl⟩
theorem d_law_173 : g_dc code 173 (.iload_n 3) 1 174 := ⟨by decide +kernel, rfl⟩
theorem d_law_174 : g_dc code 174 (.iconst 1) 1 175 := ⟨by decide +kernel, rfl⟩
theorem d_law_175 : g_dc code 175 (.iadd) 1 176 := ⟨by decide +kernel, rfl⟩
theorem d_law_176 : g_dc code 176 (.iaload) 1 177 := ⟨by decide +kernel, rfl⟩
theorem d_law_177 : g_dc code 177 (.aload_n 0) 1 178 := ⟨by decide +kernel, rfl⟩
theorem d_law_178 : g_dc code 178 (.iload_n 3) 1 179 := ⟨by decide +kernel, rfl⟩
theorem d_law_179 : g_dc code 179 (.iconst 2) 1 180 := ⟨by decide +kernel, rfl⟩
theorem d_law_180 : g_dc code 180 (.iadd) 1 181 := ⟨by decide +kernel, rfl⟩
theorem d_law_181 : g_dc code 181 (.iaload) 1 182 := ⟨by decide +kernel, rfl⟩
theorem d_law_182 : g_dc code 182 (.invokevirtual 17) 3 185 := ⟨by decide +kernel, rfl⟩
theorem d_law_185 : g_dc code 185 (.pop) 1 186 := ⟨by decide +kernel, rfl⟩
theorem d_law_186 : g_dc code 186 (.goto 763) 3 189 := ⟨by decide +kernel, rfl⟩
theorem d_law_189 : g_dc code 189 (.aload_n 1) 1 190 := ⟨by decide +kernel, rfl⟩
theorem d_law_190 : g_dc code 190 (.aload_n 0) 1 191 := ⟨by decide +kernel, rfl⟩
theorem d_law_191 : g_dc code 191 (.iload_n 3) 1 192 := ⟨by decide +kernel, rfl⟩
theorem d_law_192 : g_dc code 192 (.iconst 1) 1 193 := ⟨by decide +kernel, rfl⟩
theorem d_law_193 : g_dc code 193 (.iadd) 1 194 := ⟨by decide +kernel, rfl⟩
theorem d_law_194 : g_dc code 194 (.iaload) 1 195 := ⟨by decide +kernel, rfl⟩
theorem d_law_195 : g_dc code 195 (.invokevirtual 18) 3 198 := ⟨by decide +kernel, rfl⟩
theorem d_law_198 : g_dc code 198 (.pop) 1 199 := ⟨by decide +kernel, rfl⟩
theorem d_law_199 : g_dc code 199 (.aload_n 2) 1 200 := ⟨by decide +kernel, rfl⟩
theorem d_law_200 : g_dc code 200 (.aload_n 0) 1 201 := ⟨by decide +kernel, rfl⟩
theorem d_law_201 : g_dc code 201 (.iload_n 3) 1 202 := ⟨by decide +kernel, rfl⟩
theorem d_law_202 : g_dc code 202 (.iconst 1) 1 203 := ⟨by decide +kernel, rfl⟩
theorem d_law_203 : g_dc code 203 (.iadd) 1 204 := ⟨by decide +kernel, rfl⟩
theorem d_law_204 : g_dc code 204 (.iaload) 1 205 := ⟨by decide +kernel, rfl⟩
theorem d_law_205 : g_dc code 205 (.invokevirtual 22) 3 208 := ⟨by decide +kernel, rfl⟩
theorem d_law_208 : g_dc code 208 (.pop) 1 209 := ⟨by decide +kernel, rfl⟩
theorem d_law_209 : g_dc code 209 (.goto 740) 3 212 := ⟨by decide +kernel, rfl⟩
theorem d_law_212 : g_dc code 212 (.aload_n 1) 1 213 := ⟨by decide +kernel, rfl⟩
theorem d_law_213 : g_dc code 213 (.aload_n 0) 1 214 := ⟨by decide +kernel, rfl⟩
theorem d_law_214 : g_dc code 214 (.iload_n 3) 1 215 := ⟨by decide +kernel, rfl⟩
theorem d_law_215 : g_dc code 215 (.iconst 1) 1 216 := ⟨by decide +kernel, rfl⟩
theorem d_law_216 : g_dc code 216 (.iadd) 1 217 := ⟨by decide +kernel, rfl⟩
theorem d_law_217 : g_dc code 217 (.iaload) 1 218 := ⟨by decide +kernel, rfl⟩
theorem d_law_218 : g_dc code 218 (.aload_n 0) 1 219 := ⟨by decide +kernel, rfl⟩
theorem d_law_219 : g_dc code 219 (.iload_n 3) 1 220 := ⟨by decide +kernel, rfl⟩
theorem d_law_220 : g_dc code 220 (.iconst 2) 1 221 := ⟨by decide +kernel, rfl⟩
theorem d_law_221 : g_dc code 221 (.iadd) 1 222 := ⟨by decide +kernel, rfl⟩
theorem d_law_222 : g_dc code 222 (.iaload) 1 223 := ⟨by decide +kernel, rfl⟩
theorem d_law_223 : g_dc code 223 (.aload_n 0) 1 224 := ⟨by decide +kernel, rfl⟩
theorem d_law_224 : g_dc code 224 (.iload_n 3) 1 225 := ⟨by decide +kernel, rfl⟩
theorem d_law_225 : g_dc code 225 (.iconst 3) 1 226 := ⟨by decide +kernel, rfl⟩
theorem d_law_226 : g_dc code 226 (.iadd) 1 227 := ⟨by decide +kernel, rfl⟩
theorem d_law_227 : g_dc code 227 (.iaload) 1 228 := ⟨by decide +kernel, rfl⟩
theorem d_law_228 : g_dc code 228 (.aload_n 0) 1 229 := ⟨by decide +kernel, rfl⟩
theorem d_law_229 : g_dc code 229 (.iload_n 3) 1 230 := ⟨by decide +kernel, rfl⟩
theorem d_law_230 : g_dc code 230 (.iconst 4) 1 231 := ⟨by decide +kernel, rfl⟩
theorem d_law_231 : g_dc code 231 (.iadd) 1 232 := ⟨by decide +kernel, rfl⟩
theorem d_law_232 : g_dc code 232 (.iaload) 1 233 := ⟨by decide +kernel, rfl⟩
theorem d_law_233 : g_dc code 233 (.aload_n 0) 1 234 := ⟨by decide +kernel, rfl⟩
theorem d_law_234 : g_dc code 234 (.iload_n 3) 1 235 := ⟨by decide +kernel, rfl⟩
theorem d_law_235 : g_dc code 235 (.iconst 5) 1 236 := ⟨by decide +kernel, rfl⟩
theorem d_law_236 : g_dc code 236 (.iadd) 1 237 := ⟨by decide +kernel, rfl⟩
theorem d_law_237 : g_dc code 237 (.iaload) 1 238 := ⟨by decide +kernel, rfl⟩
theorem d_law_238 : g_dc code 238 (.aload_n 0) 1 239 := ⟨by decide +kernel, rfl⟩
theorem d_law_239 : g_dc code 239 (.iload_n 3) 1 240 := ⟨by decide +kernel, rfl⟩
theorem d_law_240 : g_dc code 240 (.bipush 6) 2 242 := ⟨by decide +kernel, rfl⟩
theorem d_law_242 : g_dc code 242 (.iadd) 1 243 := ⟨by decide +kernel, rfl⟩
theorem d_law_243 : g_dc code 243 (.iaload) 1 244 := ⟨by decide +kernel, rfl⟩
theorem d_law_244 : g_dc code 244 (.invokevirtual 23) 3 247 := ⟨by decide +kernel, rfl⟩
theorem d_law_247 : g_dc code 247 (.aload_n 2) 1 248 := ⟨by decide +kernel, rfl⟩
theorem d_law_248 : g_dc code 248 (.aload_n 0) 1 249 := ⟨by decide +kernel, rfl⟩
theorem d_law_249 : g_dc code 249 (.iload_n 3) 1 250 := ⟨by decide +kernel, rfl⟩
theorem d_law_250 : g_dc code 250 (.iconst 1) 1 251 := ⟨by decide +kernel, rfl⟩
theorem d_law_251 : g_dc code 251 (.iadd) 1 252 := ⟨by decide +kernel, rfl⟩
theorem d_law_252 : g_dc code 252 (.iaload) 1 253 := ⟨by decide +kernel, rfl⟩
theorem d_law_253 : g_dc code 253 (.aload_n 0) 1 254 := ⟨by decide +kernel, rfl⟩
theorem d_law_254 : g_dc code 254 (.iload_n 3) 1 255 := ⟨by decide +kernel, rfl⟩
theorem d_law_255 : g_dc code 255 (.iconst 2) 1 256 := ⟨by decide +kernel, rfl⟩
theorem d_law_256 : g_dc code 256 (.iadd) 1 257 := ⟨by decide +kernel, rfl⟩
theorem d_law_257 : g_dc code 257 (.iaload) 1 258 := ⟨by decide +kernel, rfl⟩
theorem d_law_258 : g_dc code 258 (.aload_n 0) 1 259 := ⟨by decide +kernel, rfl⟩
theorem d_law_259 : g_dc code 259 (.iload_n 3) 1 260 := ⟨by decide +kernel, rfl⟩
theorem d_law_260 : g_dc code 260 (.iconst 3) 1 261 := ⟨by decide +kernel, rfl⟩
theorem d_law_261 : g_dc code 261 (.iadd) 1 262 := ⟨by decide +kernel, rfl⟩
theorem d_law_262 : g_dc code 262 (.iaload) 1 263 := ⟨by decide +kernel, rfl⟩
theorem d_law_263 : g_dc code 263 (.aload_n 0) 1 264 := ⟨by decide +kernel, rfl⟩
theorem d_law_264 : g_dc code 264 (.iload_n 3) 1 265 := ⟨by decide +kernel, rfl⟩
theorem d_law_265 : g_dc code 265 (.iconst 4) 1 266 := ⟨by decide +kernel, rfl⟩
theorem d_law_266 : g_dc code 266 (.iadd) 1 267 := ⟨by decide +kernel, rfl⟩
theorem d_law_267 : g_dc code 267 (.iaload) 1 268 := ⟨by decide +kernel, rfl⟩
theorem d_law_268 : g_dc code 268 (.aload_n 0) 1 269 := ⟨by decide +kernel, rfl⟩
theorem d_law_269 : g_dc code 269 (.iload_n 3) 1 270 := ⟨by decide +kernel, rfl⟩
theorem d_law_270 : g_dc code 270 (.iconst 5) 1 271 := ⟨by decide +kernel, rfl⟩
theorem d_law_271 : g_dc code 271 (.iadd) 1 272 := ⟨by decide +kernel, rfl⟩
theorem d_law_272 : g_dc code 272 (.iaload) 1 273 := ⟨by decide +kernel, rfl⟩
theorem d_law_273 : g_dc code 273 (.aload_n 0) 1 274 := ⟨by decide +kernel, rfl⟩
theorem d_law_274 : g_dc code 274 (.iload_n 3) 1 275 := ⟨by decide +kernel, rfl⟩
theorem d_law_275 : g_dc code 275 (.bipush 6) 2 277 := ⟨by decide +kernel, rfl⟩
theorem d_law_277 : g_dc code 277 (.iadd) 1 278 := ⟨by decide +kernel, rfl⟩
theorem d_law_278 : g_dc code 278 (.iaload) 1 279 := ⟨by decide +kernel, rfl⟩
theorem d_law_279 : g_dc code 279 (.invokevirtual 27) 3 282 := ⟨by decide +kernel, rfl⟩
theorem d_law_282 : g_dc code 282 (.if_icmp .eq 667) 3 285 := ⟨by decide +kernel, rfl⟩
theorem d_law_287 : g_dc code 287 (.aload_n 1) 1 288 := ⟨by decide +kernel, rfl⟩
theorem d_law_288 : g_dc code 288 (.aload_n 0) 1 289 := ⟨by decide +kernel, rfl⟩
theorem d_law_289 : g_dc code 289 (.iload_n 3) 1 290 := ⟨by decide +kernel, rfl⟩
theorem d_law_290 : g_dc code 290 (.iconst 1) 1 291 := ⟨by decide +kernel, rfl⟩
theorem d_law_291 : g_dc code 291 (.iadd) 1 292 := ⟨by decide +kernel, rfl⟩
theorem d_law_292 : g_dc code 292 (.iaload) 1 293 := ⟨by decide +kernel, rfl⟩
theorem d_law_293 : g_dc code 293 (.aload_n 0) 1 294 := ⟨by decide +kernel, rfl⟩
theorem d_law_294 : g_dc code 294 (.iload_n 3) 1 295 := ⟨by decide +kernel, rfl⟩
theorem d_law_295 : g_dc code 295 (.iconst 2) 1 296 := ⟨by decide +kernel, rfl⟩
theorem d_law_296 : g_dc code 296 (.iadd) 1 297 := ⟨by decide +kernel, rfl⟩
theorem d_law_297 : g_dc code 297 (.iaload) 1 298 := ⟨by decide +kernel, rfl⟩
theorem d_law_298 : g_dc code 298 (.aload_n 0) 1 299 := ⟨by decide +kernel, rfl⟩
theorem d_law_299 : g_dc code 299 (.iload_n 3) 1 300 := ⟨by decide +kernel, rfl⟩
theorem d_law_300 : g_dc code 300 (.iconst 3) 1 301 := ⟨by decide +kernel, rfl⟩
theorem d_law_301 : g_dc code 301 (.iadd) 1 302 := ⟨by decide +kernel, rfl⟩
theorem d_law_302 : g_dc code 302 (.iaload) 1 303 := ⟨by decide +kernel, rfl⟩
theorem d_law_303 : g_dc code 303 (.aload_n 0) 1 304 := ⟨by decide +kernel, rfl⟩
theorem d_law_304 : g_dc code 304 (.iload_n 3) 1 305 := ⟨by decide +kernel, rfl⟩
theorem d_law_305 : g_dc code 305 (.iconst 4) 1 306 := ⟨by decide +kernel, rfl⟩
theorem d_law_306 : g_dc code 306 (.iadd) 1 307 := ⟨by decide +kernel, rfl⟩
theorem d_law_307 : g_dc code 307 (.iaload) 1 308 := ⟨by decide +kernel, rfl⟩
theorem d_law_308 : g_dc code 308 (.invokevirtual 28) 3 311 := ⟨by decide +kernel, rfl⟩
theorem d_law_311 : g_dc code 311 (.pop) 1 312 := ⟨by decide +kernel, rfl⟩
theorem d_law_312 : g_dc code 312 (.aload_n 2) 1 313 := ⟨by decide +kernel, rfl⟩
theorem d_law_313 : g_dc code 313 (.aload_n 0) 1 314 := ⟨by decide +kernel, rfl⟩
theorem d_law_314 : g_dc code 314 (.iload_n 3) 1 315 := ⟨by decide +kernel, rfl⟩
theorem d_law_315 : g_dc code 315 (.iconst 1) 1 316 := ⟨by decide +kernel, rfl⟩
theorem d_law_316 : g_dc code 316 (.iadd) 1 317 := ⟨by decide +kernel, rfl⟩
theorem d_law_317 : g_dc code 317 (.iaload) 1 318 := ⟨by decide +kernel, rfl⟩
theorem d_law_318 : g_dc code 318 (.aload_n 0) 1 319 := ⟨by decide +kernel, rfl⟩
theorem d_law_319 : g_dc code 319 (.iload_n 3) 1 320 := ⟨by decide +kernel, rfl⟩
theorem d_law_320 : g_dc code 320 (.iconst 2) 1 321 := ⟨by decide +kernel, rfl⟩
theorem d_law_321 : g_dc code 321 (.iadd) 1 322 := ⟨by decide +kernel, rfl⟩
theorem d_law_322 : g_dc code 322 (.iaload) 1 323 := ⟨by decide +kernel, rfl⟩
theorem d_law_323 : g_dc code 323 (.aload_n 0) 1 324 := ⟨by decide +kernel, rfl⟩
theorem d_law_324 : g_dc code 324 (.iload_n 3) 1 325 := ⟨by decide +kernel, rfl⟩
theorem d_law_325 : g_dc code 325 (.iconst 3) 1 326 := ⟨by decide +kernel, rfl⟩
theorem d_law_326 : g_dc code 326 (.iadd) 1 327 := ⟨by decide +kernel, rfl⟩
theorem d_law_327 : g_dc code 327 (.iaload) 1 328 := ⟨by decide +kernel, rfl⟩
theorem d_law_328 : g_dc code 328 (.aload_n 0) 1 329 := ⟨by decide +kernel, rfl⟩
theorem d_law_329 : g_dc code 329 (.iload_n 3) 1 330 := ⟨by decide +kernel, rfl⟩
theorem d_law_330 : g_dc code 330 (.iconst 4) 1 331 := ⟨by decide +kernel, rfl⟩
theorem d_law_331 : g_dc code 331 (.iadd) 1 332 := ⟨by decide +kernel, rfl⟩
theorem d_law_332 : g_dc code 332 (.iaload) 1 333 := ⟨by decide +kernel, rfl⟩
theorem d_law_333 : g_dc code 333 (.invokevirtual 32) 3 336 := ⟨by decide +kernel, rfl⟩
theorem d_law_336 : g_dc code 336 (.pop) 1 337 := ⟨by decide +kernel, rfl⟩
theorem d_law_337 : g_dc code 337 (.goto 612) 3 340 := ⟨by decide +kernel, rfl⟩
theorem d_law_340 : g_dc code 340 (.aload_n 1) 1 341 := ⟨by decide +kernel, rfl⟩
theorem d_law_341 : g_dc code 341 (.aload_n 0) 1 342 := ⟨by decide +kernel, rfl⟩
theorem d_law_342 : g_dc code 342 (.iload_n 3) 1 343 := ⟨by decide +kernel, rfl⟩
theorem d_law_343 : g_dc code 343 (.iconst 1) 1 344 := ⟨by decide +kernel, rfl⟩
theorem d_law_344 : g_dc code 344 (.iadd) 1 345 := ⟨by decide +kernel, rfl⟩
theorem d_law_345 : g_dc code 345 (.iaload) 1 346 := ⟨by decide +kernel, rfl⟩
theorem d_law_346 : g_dc code 346 (.invokevirtual 33) 3 349 := ⟨by decide +kernel, rfl⟩
theorem d_law_349 : g_dc code 349 (.pop) 1 350 := ⟨by decide +kernel, rfl⟩
theorem d_law_350 : g_dc code 350 (.aload_n 2) 1 351 := ⟨by decide +kernel, rfl⟩
theorem d_law_351 : g_dc code 351 (.aload_n 0) 1 352 := ⟨by decide +kernel, rfl⟩
theorem d_law_352 : g_dc code 352 (.iload_n 3) 1 353 := ⟨by decide +kernel, rfl⟩
theorem d_law_353 : g_dc code 353 (.iconst 1) 1 354 := ⟨by decide +kernel, rfl⟩
theorem d_law_354 : g_dc code 354 (.iadd) 1 355 := ⟨by decide +kernel, rfl⟩
theorem d_law_355 : g_dc code 355 (.iaload) 1 356 := ⟨by decide +kernel, rfl⟩
theorem d_law_356 : g_dc code 356 (.invokevirtual 36) 3 359 := ⟨by decide +kernel, rfl⟩
theorem d_law_359 : g_dc code 359 (.pop) 1 360 := ⟨by decide +kernel, rfl⟩
theorem d_law_360 : g_dc code 360 (.goto 589) 3 363 := ⟨by decide +kernel, rfl⟩
theorem d_law_363 : g_dc code 363 (.aload_n 1) 1 364 := ⟨by decide +kernel, rfl⟩
theorem d_law_364 : g_dc code 364 (.aload_n 0) 1 365 := ⟨by decide +kernel, rfl⟩
theorem d_law_365 : g_dc code 365 (.iload_n 3) 1 366 := ⟨by decide +kernel, rfl⟩
theorem d_law_366 : g_dc code 366 (.iconst 1) 1 367 := ⟨by decide +kernel, rfl⟩
theorem d_law_367 : g_dc code 367 (.iadd) 1 368 := ⟨by decide +kernel, rfl⟩
theorem d_law_368 : g_dc code 368 (.iaload) 1 369 := ⟨by decide +kernel, rfl⟩
theorem d_law_369 : g_dc code 369 (.aload_n 0) 1 370 := ⟨by decide +kernel, rfl⟩
theorem d_law_370 : g_dc code 370 (.iload_n 3) 1 371 := ⟨by decide +kernel, rfl⟩
theorem d_law_371 : g_dc code 371 (.iconst 2) 1 372 := ⟨by decide +kernel, rfl⟩
theorem d_law_372 : g_dc code 372 (.iadd) 1 373 := ⟨by decide +kernel, rfl⟩
theorem d_law_373 : g_dc code 373 (.iaload) 1 374 := ⟨by decide +kernel, rfl⟩
theorem d_law_374 : g_dc code 374 (.aload_n 0) 1 375 := ⟨by decide +kernel, rfl⟩
theorem d_law_375 : g_dc code 375 (.iload_n 3) 1 376 := ⟨by decide +kernel, rfl⟩
theorem d_law_376 : g_dc code 376 (.iconst 3) 1 377 := ⟨by decide +kernel, rfl⟩
theorem d_law_377 : g_dc code 377 (.iadd) 1 378 := ⟨by decide +kernel, rfl⟩
theorem d_law_378 : g_dc code 378 (.iaload) 1 379 := ⟨by decide +kernel, rfl⟩
theorem d_law_379 : g_dc code 379 (.aload_n 0) 1 380 := ⟨by decide +kernel, rfl⟩
theorem d_law_380 : g_dc code 380 (.iload_n 3) 1 381 := ⟨by decide +kernel, rfl⟩
theorem d_law_381 : g_dc code 381 (.iconst 4) 1 382 := ⟨by decide +kernel, rfl⟩
theorem d_law_382 : g_dc code 382 (.iadd) 1 383 := ⟨by decide +kernel, rfl⟩
theorem d_law_383 : g_dc code 383 (.iaload) 1 384 := ⟨by decide +kernel, rfl⟩
theorem d_law_384 : g_dc code 384 (.aload_n 0) 1 385 := ⟨by decide +kernel, rfl⟩
theorem d_law_385 : g_dc code 385 (.iload_n 3) 1 386 := ⟨by decide +kernel, rfl⟩
theorem d_law_386 : g_dc code 386 (.iconst 5) 1 387 := ⟨by decide +kernel, rfl⟩
theorem d_law_387 : g_dc code 387 (.iadd) 1 388 := ⟨by decide +kernel, rfl⟩
theorem d_law_388 : g_dc code 388 (.iaload) 1 389 := ⟨by decide +kernel, rfl⟩
theorem d_law_389 : g_dc code 389 (.invokevirtual 37) 3 392 := ⟨by decide +kernel, rfl⟩
theorem d_law_392 : g_dc code 392 (.pop) 1 393 := ⟨by decide +kernel, rfl⟩
theorem d_law_393 : g_dc code 393 (.aload_n 2) 1 394 := ⟨by decide +kernel, rfl⟩
theorem d_law_394 : g_dc code 394 (.aload_n 0) 1 395 := ⟨by decide +kernel, rfl⟩
theorem d_law_395 : g_dc code 395 (.iload_n 3) 1 396 := ⟨by decide +kernel, rfl⟩
theorem d_law_396 : g_dc code 396 (.iconst 1) 1 397 := ⟨by decide +kernel, rfl⟩
theorem d_law_397 : g_dc code 397 (.iadd) 1 398 := ⟨by decide +kernel, rfl⟩
theorem d_law_398 : g_dc code 398 (.iaload) 1 399 := ⟨by decide +kernel, rfl⟩
theorem d_law_399 : g_dc code 399 (.aload_n 0) 1 400 := ⟨by decide +kernel, rfl⟩
theorem d_law_400 : g_dc code 400 (.iload_n 3) 1 401 := ⟨by decide +kernel, rfl⟩
theorem d_law_401 : g_dc code 401 (.iconst 2) 1 402 := ⟨by decide +kernel, rfl⟩
theorem d_law_402 : g_dc code 402 (.iadd) 1 403 := ⟨by decide +kernel, rfl⟩
theorem d_law_403 : g_dc code 403 (.iaload) 1 404 := ⟨by decide +kernel, rfl⟩
theorem d_law_404 : g_dc code 404 (.aload_n 0) 1 405 := ⟨by decide +kernel, rfl⟩
theorem d_law_405 : g_dc code 405 (.iload_n 3) 1 406 := ⟨by decide +kernel, rfl⟩
theorem d_law_406 : g_dc code 406 (.iconst 3) 1 407 := ⟨by decide +kernel, rfl⟩
theorem d_law_407 : g_dc code 407 (.iadd) 1 408 := ⟨by decide +kernel, rfl⟩
theorem d_law_408 : g_dc code 408 (.iaload) 1 409 := ⟨by decide +kernel, rfl⟩
theorem d_law_409 : g_dc code 409 (.aload_n 0) 1 410 := ⟨by decide +kernel, rfl⟩
theorem d_law_410 : g_dc code 410 (.iload_n 3) 1 411 := ⟨by decide +kernel, rfl⟩
theorem d_law_411 : g_dc code 411 (.iconst 4) 1 412 := ⟨by decide +kernel, rfl⟩
theorem d_law_412 : g_dc code 412 (.iadd) 1 413 := ⟨by decide +kernel, rfl⟩
theorem d_law_413 : g_dc code 413 (.iaload) 1 414 := ⟨by decide +kernel, rfl⟩
theorem d_law_414 : g_dc code 414 (.aload_n 0) 1 415 := ⟨by decide +kernel, rfl⟩
theorem d_law_415 : g_dc code 415 (.iload_n 3) 1 416 := ⟨by decide +kernel, rfl⟩
theorem d_law_416 : g_dc code 416 (.iconst 5) 1 417 := ⟨by decide +kernel, rfl⟩
theorem d_law_417 : g_dc code 417 (.iadd) 1 418 := ⟨by decide +kernel, rfl⟩
theorem d_law_418 : g_dc code 418 (.iaload) 1 419 := ⟨by decide +kernel, rfl⟩
theorem d_law_419 : g_dc code 419 (.invokevirtual 41) 3 422 := ⟨by decide +kernel, rfl⟩
theorem d_law_422 : g_dc code 422 (.pop) 1 423 := ⟨by decide +kernel, rfl⟩
theorem d_law_423 : g_dc code 423 (.goto 526) 3 426 := ⟨by decide +kernel, rfl⟩
theorem d_law_426 : g_dc code 426 (.aload_n 1) 1 427 := ⟨by decide +kernel, rfl⟩
theorem d_law_427 : g_dc code 427 (.aload_n 0) 1 428 := ⟨by decide +kernel, rfl⟩
theorem d_law_428 : g_dc code 428 (.iload_n 3) 1 429 := ⟨by decide +kernel, rfl⟩
theorem d_law_429 : g_dc code 429 (.iconst 1) 1 430 := ⟨by decide +kernel, rfl⟩
theorem d_law_430 : g_dc code 430 (.iadd) 1 431 := ⟨by decide +kernel, rfl⟩
theorem d_law_431 : g_dc code 431 (.iaload) 1 432 := ⟨by decide +kernel, rfl⟩
theorem d_law_432 : g_dc code 432 (.invokevirtual 42) 3 435 := ⟨by decide +kernel, rfl⟩
theorem d_law_435 : g_dc code 435 (.pop) 1 436 := ⟨by decide +kernel, rfl⟩
theorem d_law_436 : g_dc code 436 (.aload_n 2) 1 437 := ⟨by decide +kernel, rfl⟩
theorem d_law_437 : g_dc code 437 (.aload_n 0) 1 438 := ⟨by decide +kernel, rfl⟩
theorem d_law_438 : g_dc code 438 (.iload_n 3) 1 439 := ⟨by decide +kernel, rfl⟩
theorem d_law_439 : g_dc code 439 (.iconst 1) 1 440 := ⟨by decide +kernel, rfl⟩
theorem d_law_440 : g_dc code 440 (.iadd) 1 441 := ⟨by decide +kernel, rfl⟩
theorem d_law_441 : g_dc code 441 (.iaload) 1 442 := ⟨by decide +kernel, rfl⟩
theorem d_law_442 : g_dc code 442 (.invokevirtual 46) 3 445 := ⟨by decide +kernel, rfl⟩
theorem d_law_445 : g_dc code 445 (.pop) 1 446 := ⟨by decide +kernel, rfl⟩
theorem d_law_446 : g_dc code 446 (.goto 503) 3 449 := ⟨by decide +kernel, rfl⟩
theorem d_law_449 : g_dc code 449 (.aload_n 1) 1 450 := ⟨by decide +kernel, rfl⟩
theorem d_law_450 : g_dc code 450 (.aload_n 0) 1 451 := ⟨by decide +kernel, rfl⟩
theorem d_law_451 : g_dc code 451 (.iload_n 3) 1 452 := ⟨by decide +kernel, rfl⟩
theorem d_law_452 : g_dc code 452 (.iconst 1) 1 453 := ⟨by decide +kernel, rfl⟩
theorem d_law_453 : g_dc code 453 (.iadd) 1 454 := ⟨by decide +kernel, rfl⟩
theorem d_law_454 : g_dc code 454 (.iaload) 1 455 := ⟨by decide +kernel, rfl⟩
theorem d_law_455 : g_dc code 455 (.invokevirtual 47) 3 458 := ⟨by decide +kernel, rfl⟩
theorem d_law_458 : g_dc code 458 (.pop) 1 459 := ⟨by decide +kernel, rfl⟩
theorem d_law_459 : g_dc code 459 (.aload_n 2) 1 460 := ⟨by decide +kernel, rfl⟩
theorem d_law_460 : g_dc code 460 (.aload_n 0) 1 461 := ⟨by decide +kernel, rfl⟩
theorem d_law_461 : g_dc code 461 (.iload_n 3) 1 462 := ⟨by decide +kernel, rfl⟩
theorem d_law_462 : g_dc code 462 (.iconst 1) 1 463 := ⟨by decide +kernel, rfl⟩
theorem d_law_463 : g_dc code 463 (.iadd) 1 464 := ⟨by decide +kernel, rfl⟩
theorem d_law_464 : g_dc code 464 (.iaload) 1 465 := ⟨by decide +kernel, rfl⟩
theorem d_law_465 : g_dc code 465 (.invokevirtual 50) 3 468 := ⟨by decide +kernel, rfl⟩
theorem d_law_468 : g_dc code 468 (.pop) 1 469 := ⟨by decide +kernel, rfl⟩
theorem d_law_469 : g_dc code 469 (.goto 480) 3 472 := ⟨by decide +kernel, rfl⟩
theorem d_law_472 : g_dc code 472 (.aload_n 1) 1 473 := ⟨by decide +kernel, rfl⟩
theorem d_law_473 : g_dc code 473 (.aload_n 0) 1 474 := ⟨by decide +kernel, rfl⟩
theorem d_law_474 : g_dc code 474 (.iload_n 3) 1 475 := ⟨by decide +kernel, rfl⟩
theorem d_law_475 : g_dc code 475 (.iconst 1) 1 476 := ⟨by decide +kernel, rfl⟩
theorem d_law_476 : g_dc code 476 (.iadd) 1 477 := ⟨by decide +kernel, rfl⟩
theorem d_law_477 : g_dc code 477 (.iaload) 1 478 := ⟨by decide +kernel, rfl⟩
theorem d_law_478 : g_dc code 478 (.invokevirtual 51) 3 481 := ⟨by decide +kernel, rfl⟩
theorem d_law_481 : g_dc code 481 (.pop) 1 482 := ⟨by decide +kernel, rfl⟩
theorem d_law_482 : g_dc code 482 (.aload_n 2) 1 483 := ⟨by decide +kernel, rfl⟩
theorem d_law_483 : g_dc code 483 (.aload_n 0) 1 484 := ⟨by decide +kernel, rfl⟩
theorem d_law_484 : g_dc code 484 (.iload_n 3) 1 485 := ⟨by decide +kernel, rfl⟩
theorem d_law_485 : g_dc code 485 (.iconst 1) 1 486 := ⟨by decide +kernel, rfl⟩
theorem d_law_486 : g_dc code 486 (.iadd) 1 487 := ⟨by decide +kernel, rfl⟩
theorem d_law_487 : g_dc code 487 (.iaload) 1 488 := ⟨by decide +kernel, rfl⟩
theorem d_law_488 : g_dc code 488 (.invokevirtual 54) 3 491 := ⟨by decide +kernel, rfl⟩
theorem d_law_491 : g_dc code 491 (.pop) 1 492 := ⟨by decide +kernel, rfl⟩
theorem d_law_492 : g_dc code 492 (.goto 457) 3 495 := ⟨by decide +kernel, rfl⟩
theorem d_law_495 : g_dc code 495 (.aload_n 1) 1 496 := ⟨by decide +kernel, rfl⟩
theorem d_law_496 : g_dc code 496 (.aload_n 0) 1 497 := ⟨by decide +kernel, rfl⟩
theorem d_law_497 : g_dc code 497 (.iload_n 3) 1 498 := ⟨by decide +kernel, rfl⟩
theorem d_law_498 : g_dc code 498 (.iconst 1) 1 499 := ⟨by decide +kernel, rfl⟩
theorem d_law_499 : g_dc code 499 (.iadd) 1 500 := ⟨by decide +kernel, rfl⟩
theorem d_law_500 : g_dc code 500 (.iaload) 1 501 := ⟨by decide +kernel, rfl⟩
theorem d_law_501 : g_dc code 501 (.invokevirtual 55) 3 504 := ⟨by decide +kernel, rfl⟩
theorem d_law_504 : g_dc code 504 (.pop) 1 505 := ⟨by decide +kernel, rfl⟩
theorem d_law_505 : g_dc code 505 (.aload_n 2) 1 506 := ⟨by decide +kernel, rfl⟩
theorem d_law_506 : g_dc code 506 (.aload_n 0) 1 507 := ⟨by decide +kernel, rfl⟩
theorem d_law_507 : g_dc code 507 (.iload_n 3) 1 508 := ⟨by decide +kernel, rfl⟩
theorem d_law_508 : g_dc code 508 (.iconst 1) 1 509 := ⟨by decide +kernel, rfl⟩
theorem d_law_509 : g_dc code 509 (.iadd) 1 510 := ⟨by decide +kernel, rfl⟩
theorem d_law_510 : g_dc code 510 (.iaload) 1 511 := ⟨by decide +kernel, rfl⟩
theorem d_law_511 : g_dc code 511 (.invokevirtual 58) 3 514 := ⟨by decide +kernel, rfl⟩
theorem d_law_514 : g_dc code 514 (.pop) 1 515 := ⟨by decide +kernel, rfl⟩
theorem d_law_515 : g_dc code 515 (.goto 434) 3 518 := ⟨by decide +kernel, rfl⟩
theorem d_law_518 : g_dc code 518 (.aload_n 1) 1 519 := ⟨by decide +kernel, rfl⟩
theorem d_law_519 : g_dc code 519 (.invokevirtual 59) 3 522 := ⟨by decide +kernel, rfl⟩
theorem d_law_522 : g_dc code 522 (.pop) 1 523 := ⟨by decide +kernel, rfl⟩
theorem d_law_523 : g_dc code 523 (.aload_n 2) 1 524 := ⟨by decide +kernel, rfl⟩
theorem d_law_524 : g_dc code 524 (.invokevirtual 63) 3 527 := ⟨by decide +kernel, rfl⟩
theorem d_law_527 : g_dc code 527 (.pop) 1 528 := ⟨by decide +kernel, rfl⟩
theorem d_law_528 : g_dc code 528 (.goto 421) 3 531 := ⟨by decide +kernel, rfl⟩
theorem d_law_531 : g_dc code 531 (.aload_n 1) 1 532 := ⟨by decide +kernel, rfl⟩
theorem d_law_532 : g_dc code 532 (.aload_n 0) 1 533 := ⟨by decide +kernel, rfl⟩
theorem d_law_533 : g_dc code 533 (.iload_n 3) 1 534 := ⟨by decide +kernel, rfl⟩
theorem d_law_534 : g_dc code 534 (.iconst 1) 1 535 := ⟨by decide +kernel, rfl⟩
theorem d_law_535 : g_dc code 535 (.iadd) 1 536 := ⟨by decide +kernel, rfl⟩
theorem d_law_536 : g_dc code 536 (.iaload) 1 537 := ⟨by decide +kernel, rfl⟩
theorem d_law_537 : g_dc code 537 (.aload_n 0) 1 538 := ⟨by decide +kernel, rfl⟩
theorem d_law_538 : g_dc code 538 (.iload_n 3) 1 539 := ⟨by decide +kernel, rfl⟩
theorem d_law_539 : g_dc code 539 (.iconst 2) 1 540 := ⟨by decide +kernel, rfl⟩
theorem d_law_540 : g_dc code 540 (.iadd) 1 541 := ⟨by decide +kernel, rfl⟩
theorem d_law_541 : g_dc code 541 (.iaload) 1 542 := ⟨by decide +kernel, rfl⟩
theorem d_law_542 : g_dc code 542 (.invokevirtual 64) 3 545 := ⟨by decide +kernel, rfl⟩
theorem d_law_545 : g_dc code 545 (.pop) 1 546 := ⟨by decide +kernel, rfl⟩
theorem d_law_546 : g_dc code 546 (.aload_n 2) 1 547 := ⟨by decide +kernel, rfl⟩
theorem d_law_547 : g_dc code 547 (.aload_n 0) 1 548 := ⟨by decide +kernel, rfl⟩
theorem d_law_548 : g_dc code 548 (.iload_n 3) 1 549 := ⟨by decide +kernel, rfl⟩
theorem d_law_549 : g_dc code 549 (.iconst 1) 1 550 := ⟨by decide +kernel, rfl⟩
theorem d_law_550 : g_dc code 550 (.iadd) 1 551 := ⟨by decide +kernel, rfl⟩
theorem d_law_551 : g_dc code 551 (.iaload) 1 552 := ⟨by decide +kernel, rfl⟩
theorem d_law_552 : g_dc code 552 (.aload_n 0) 1 553 := ⟨by decide +kernel, rfl⟩
theorem d_law_553 : g_dc code 553 (.iload_n 3) 1 554 := ⟨by decide +kernel, rfl⟩
theorem d_law_554 : g_dc code 554 (.iconst 2) 1 555 := ⟨by decide +kernel, rfl⟩
theorem d_law_555 : g_dc code 555 (.iadd) 1 556 := ⟨by decide +kernel, rfl⟩
theorem d_law_556 : g_dc code 556 (.iaload) 1 557 := ⟨by decide +kernel, rfl⟩
theorem d_law_557 : g_dc code 557 (.invokevirtual 68) 3 560 := ⟨by decide +kernel, rfl⟩
theorem d_law_560 : g_dc code 560 (.pop) 1 561 := ⟨by decide +kernel, rfl⟩
theorem d_law_561 : g_dc code 561 (.goto 388) 3 564 := ⟨by decide +kernel, rfl⟩
theorem d_law_564 : g_dc code 564 (.aload_n 1) 1 565 := ⟨by decide +kernel, rfl⟩
theorem d_law_565 : g_dc code 565 (.invokevirtual 69) 3 568 := ⟨by decide +kernel, rfl⟩
theorem d_law_568 : g_dc code 568 (.pop) 1 569 := ⟨by decide +kernel, rfl⟩
theorem d_law_569 : g_dc code 569 (.aload_n 2) 1 570 := ⟨by decide +kernel, rfl⟩
theorem d_law_570 : g_dc code 570 (.invokevirtual 72) 3 573 := ⟨by decide +kernel, rfl⟩
theorem d_law_573 : g_dc code 573 (.pop) 1 574 := ⟨by decide +kernel, rfl⟩
theorem d_law_574 : g_dc code 574 (.goto 375) 3 577 := ⟨by decide +kernel, rfl⟩
theorem d_law_577 : g_dc code 577 (.aload_n 1) 1 578 := ⟨by decide +kernel, rfl⟩
theorem d_law_578 : g_dc code 578 (.aload_n 0) 1 579 := ⟨by decide +kernel, rfl⟩
theorem d_law_579 : g_dc code 579 (.iload_n 3) 1 580 := ⟨by decide +kernel, rfl⟩
theorem d_law_580 : g_dc code 580 (.iconst 1) 1 581 := ⟨by decide +kernel, rfl⟩
theorem d_law_581 : g_dc code 581 (.iadd) 1 582 := ⟨by decide +kernel, rfl⟩
theorem d_law_582 : g_dc code 582 (.iaload) 1 583 := ⟨by decide +kernel, rfl⟩
theorem d_law_583 : g_dc code 583 (.invokevirtual 73) 3 586 := ⟨by decide +kernel, rfl⟩
theorem d_law_586 : g_dc code 586 (.pop) 1 587 := ⟨by decide +kernel, rfl⟩
theorem d_law_587 : g_dc code 587 (.aload_n 2) 1 588 := ⟨by decide +kernel, rfl⟩
theorem d_law_588 : g_dc code 588 (.aload_n 0) 1 589 := ⟨by decide +kernel, rfl⟩
theorem d_law_589 : g_dc code 589 (.iload_n 3) 1 590 := ⟨by decide +kernel, rfl⟩
theorem d_law_590 : g_dc code 590 (.iconst 1) 1 591 := ⟨by decide +kernel, rfl⟩
theorem d_law_591 : g_dc code 591 (.iadd) 1 592 := ⟨by decide +kernel, rfl⟩
theorem d_law_592 : g_dc code 592 (.iaload) 1 593 := ⟨by decide +kernel, rfl⟩
theorem d_law_593 : g_dc code 593 (.invokevirtual 76) 3 596 := ⟨by decide +kernel, rfl⟩
theorem d_law_596 : g_dc code 596 (.pop) 1 597 := ⟨by decide +kernel, rfl⟩
theorem d_law_597 : g_dc code 597 (.goto 352) 3 600 := ⟨by decide +kernel, rfl⟩
theorem d_law_600 : g_dc code 600 (.aload_n 1) 1 601 := ⟨by decide +kernel, rfl⟩
theorem d_law_601 : g_dc code 601 (.aload_n 0) 1 602 := ⟨by decide +kernel, rfl⟩
theorem d_law_602 : g_dc code 602 (.iload_n 3) 1 603 := ⟨by decide +kernel, rfl⟩
theorem d_law_603 : g_dc code 603 (.iconst 1) 1 604 := ⟨by decide +kernel, rfl⟩
theorem d_law_604 : g_dc code 604 (.iadd) 1 605 := ⟨by decide +kernel, rfl⟩
theorem d_law_605 : g_dc code 605 (.iaload) 1 606 := ⟨by decide +kernel, rfl⟩
theorem d_law_606 : g_dc code 606 (.aload_n 0) 1 607 := ⟨by decide +kernel, rfl⟩
theorem d_law_607 : g_dc code 607 (.iload_n 3) 1 608 := ⟨by decide +kernel, rfl⟩
theorem d_law_608 : g_dc code 608 (.iconst 2) 1 609 := ⟨by decide +kernel, rfl⟩
theorem d_law_609 : g_dc code 609 (.iadd) 1 610 := ⟨by decide +kernel, rfl⟩
theorem d_law_610 : g_dc code 610 (.iaload) 1 611 := ⟨by decide +kernel, rfl⟩
theorem d_law_611 : g_dc code 611 (.invokevirtual 77) 3 614 := ⟨by decide +kernel, rfl⟩
theorem d_law_614 : g_dc code 614 (.pop) 1 615 := ⟨by decide +kernel, rfl⟩
theorem d_law_615 : g_dc code 615 (.aload_n 2) 1 616 := ⟨by decide +kernel, rfl⟩
theorem d_law_616 : g_dc code 616 (.aload_n 0) 1 617 := ⟨by decide +kernel, rfl⟩
theorem d_law_617 : g_dc code 617 (.iload_n 3) 1 618 := ⟨by decide +kernel, rfl⟩
theorem d_law_618 : g_dc code 618 (.iconst 1) 1 619 := ⟨by decide +kernel, rfl⟩
theorem d_law_619 : g_dc code 619 (.iadd) 1 620 := ⟨by decide +kernel, rfl⟩
theorem d_law_620 : g_dc code 620 (.iaload) 1 621 := ⟨by decide +kernel, rfl⟩
theorem d_law_621 : g_dc code 621 (.aload_n 0) 1 622 := ⟨by decide +kernel, rfl⟩
theorem d_law_622 : g_dc code 622 (.iload_n 3) 1 623 := ⟨by decide +kernel, rfl⟩
theorem d_law_623 : g_dc code 623 (.iconst 2) 1 624 := ⟨by decide +kernel, rfl⟩
theorem d_law_624 : g_dc code 624 (.iadd) 1 625 := ⟨by decide +kernel, rfl⟩
theorem d_law_625 : g_dc code 625 (.iaload) 1 626 := ⟨by decide +kernel, rfl⟩
theorem d_law_626 : g_dc code 626 (.invokevirtual 80) 3 629 := ⟨by decide +kernel, rfl⟩
theorem d_law_629 : g_dc code 629 (.pop) 1 630 := ⟨by decide +kernel, rfl⟩
theorem d_law_630 : g_dc code 630 (.goto 319) 3 633 := ⟨by decide +kernel, rfl⟩
theorem d_law_633 : g_dc code 633 (.aload_n 1) 1 634 := ⟨by decide +kernel, rfl⟩
theorem d_law_634 : g_dc code 634 (.aload_n 0) 1 635 := ⟨by decide +kernel, rfl⟩
theorem d_law_635 : g_dc code 635 (.iload_n 3) 1 636 := ⟨by decide +kernel, rfl⟩
theorem d_law_636 : g_dc code 636 (.iconst 1) 1 637 := ⟨by decide +kernel, rfl⟩
theorem d_law_637 : g_dc code 637 (.iadd) 1 638 := ⟨by decide +kernel, rfl⟩
theorem d_law_638 : g_dc code 638 (.iaload) 1 639 := ⟨by decide +kernel, rfl⟩
theorem d_law_639 : g_dc code 639 (.invokevirtual 81) 3 642 := ⟨by decide +kernel, rfl⟩
theorem d_law_642 : g_dc code 642 (.pop) 1 643 := ⟨by decide +kernel, rfl⟩
theorem d_law_643 : g_dc code 643 (.aload_n 2) 1 644 := ⟨by decide +kernel, rfl⟩
theorem d_law_644 : g_dc code 644 (.aload_n 0) 1 645 := ⟨by decide +kernel, rfl⟩
theorem d_law_645 : g_dc code 645 (.iload_n 3) 1 646 := ⟨by decide +kernel, rfl⟩
theorem d_law_646 : g_dc code 646 (.iconst 1) 1 647 := ⟨by decide +kernel, rfl⟩
theorem d_law_647 : g_dc code 647 (.iadd) 1 648 := ⟨by decide +kernel, rfl⟩
theorem d_law_648 : g_dc code 648 (.iaload) 1 649 := ⟨by decide +kernel, rfl⟩
theorem d_law_649 : g_dc code 649 (.invokevirtual 84) 3 652 := ⟨by decide +kernel, rfl⟩
theorem d_law_652 : g_dc code 652 (.pop) 1 653 := ⟨by decide +kernel, rfl⟩
theorem d_law_653 : g_dc code 653 (.goto 296) 3 656 := ⟨by decide +kernel, rfl⟩
theorem d_law_656 : g_dc code 656 (.aload_n 1) 1 657 := ⟨by decide +kernel, rfl⟩
theorem d_law_657 : g_dc code 657 (.aload_n 0) 1 658 := ⟨by decide +kernel, rfl⟩
theorem d_law_658 : g_dc code 658 (.iload_n 3) 1 659 := ⟨by decide +kernel, rfl⟩
theorem d_law_659 : g_dc code 659 (.iconst 1) 1 660 := ⟨by decide +kernel, rfl⟩
theorem d_law_660 : g_dc code 660 (.iadd) 1 661 := ⟨by decide +kernel, rfl⟩
theorem d_law_661 : g_dc code 661 (.iaload) 1 662 := ⟨by decide +kernel, rfl⟩
theorem d_law_662 : g_dc code 662 (.aload_n 0) 1 663 := ⟨by decide +kernel, rfl⟩
theorem d_law_663 : g_dc code 663 (.iload_n 3) 1 664 := ⟨by decide +kernel, rfl⟩
theorem d_law_664 : g_dc code 664 (.iconst 2) 1 665 := ⟨by decide +kernel, rfl⟩
theorem d_law_665 : g_dc code 665 (.iadd) 1 666 := ⟨by decide +kernel, rfl⟩
theorem d_law_666 : g_dc code 666 (.iaload) 1 667 := ⟨by decide +kernel, rfl⟩
theorem d_law_667 : g_dc code 667 (.invokevirtual 85) 3 670 := ⟨by decide +kernel, rfl⟩
theorem d_law_670 : g_dc code 670 (.pop) 1 671 := ⟨by decide +kernel, rfl⟩
theorem d_law_671 : g_dc code 671 (.aload_n 2) 1 672 := ⟨by decide +kernel, rfl⟩
theorem d_law_672 : g_dc code 672 (.aload_n 0) 1 673 := ⟨by decide +kernel, rfl⟩
theorem d_law_673 : g_dc code 673 (.iload_n 3) 1 674 := ⟨by decide +kernel, rfl⟩
theorem d_law_674 : g_dc code 674 (.iconst 1) 1 675 := ⟨by decide +kernel, rfl⟩
theorem d_law_675 : g_dc code 675 (.iadd) 1 676 := ⟨by decide +kernel, rfl⟩
theorem d_law_676 : g_dc code 676 (.iaload) 1 677 := ⟨by decide +kernel, rfl⟩
theorem d_law_677 : g_dc code 677 (.aload_n 0) 1 678 := ⟨by decide +kernel, rfl⟩
theorem d_law_678 : g_dc code 678 (.iload_n 3) 1 679 := ⟨by decide +kernel, rfl⟩
theorem d_law_679 : g_dc code 679 (.iconst 2) 1 680 := ⟨by decide +kernel, rfl⟩
theorem d_law_680 : g_dc code 680 (.iadd) 1 681 := ⟨by decide +kernel, rfl⟩
theorem d_law_681 : g_dc code 681 (.iaload) 1 682 := ⟨by decide +kernel, rfl⟩
theorem d_law_682 : g_dc code 682 (.invokevirtual 88) 3 685 := ⟨by decide +kernel, rfl⟩
theorem d_law_685 : g_dc code 685 (.pop) 1 686 := ⟨by decide +kernel, rfl⟩
theorem d_law_686 : g_dc code 686 (.goto 263) 3 689 := ⟨by decide +kernel, rfl⟩
theorem d_law_689 : g_dc code 689 (.aload_n 1) 1 690 := ⟨by decide +kernel, rfl⟩
theorem d_law_690 : g_dc code 690 (.aload_n 0) 1 691 := ⟨by decide +kernel, rfl⟩
theorem d_law_691 : g_dc code 691 (.iload_n 3) 1 692 := ⟨by decide +kernel, rfl⟩
theorem d_law_692 : g_dc code 692 (.iconst 1) 1 693 := ⟨by decide +kernel, rfl⟩
theorem d_law_693 : g_dc code 693 (.iadd) 1 694 := ⟨by decide +kernel, rfl⟩
theorem d_law_694 : g_dc code 694 (.iaload) 1 695 := ⟨by decide +kernel, rfl⟩
theorem d_law_695 : g_dc code 695 (.invokevirtual 89) 3 698 := ⟨by decide +kernel, rfl⟩
theorem d_law_698 : g_dc code 698 (.pop) 1 699 := ⟨by decide +kernel, rfl⟩
theorem d_law_699 : g_dc code 699 (.aload_n 2) 1 700 := ⟨by decide +kernel, rfl⟩
theorem d_law_700 : g_dc code 700 (.aload_n 0) 1 701 := ⟨by decide +kernel, rfl⟩
theorem d_law_701 : g_dc code 701 (.iload_n 3) 1 702 := ⟨by decide +kernel, rfl⟩
theorem d_law_702 : g_dc code 702 (.iconst 1) 1 703 := ⟨by decide +kernel, rfl⟩
theorem d_law_703 : g_dc code 703 (.iadd) 1 704 := ⟨by decide +kernel, rfl⟩
theorem d_law_704 : g_dc code 704 (.iaload) 1 705 := ⟨by decide +kernel, rfl⟩
theorem d_law_705 : g_dc code 705 (.invokevirtual 92) 3 708 := ⟨by decide +kernel, rfl⟩
theorem d_law_708 : g_dc code 708 (.pop) 1 709 := ⟨by decide +kernel, rfl⟩
theorem d_law_709 : g_dc code 709 (.goto 240) 3 712 := ⟨by decide +kernel, rfl⟩
theorem d_law_712 : g_dc code 712 (.aload_n 1) 1 713 := ⟨by decide +kernel, rfl⟩
theorem d_law_713 : g_dc code 713 (.aload_n 0) 1 714 := ⟨by decide +kernel, rfl⟩
theorem d_law_714 : g_dc code 714 (.iload_n 3) 1 715 := ⟨by decide +kernel, rfl⟩
theorem d_law_715 : g_dc code 715 (.iconst 1) 1 716 := ⟨by decide +kernel, rfl⟩
theorem d_law_716 : g_dc code 716 (.iadd) 1 717 := ⟨by decide +kernel, rfl⟩
theorem d_law_717 : g_dc code 717 (.iaload) 1 718 := ⟨by decide +kernel, rfl⟩
theorem d_law_718 : g_dc code 718 (.invokevirtual 93) 3 721 := ⟨by decide +kernel, rfl⟩
theorem d_law_721 : g_dc code 721 (.pop) 1 722 := ⟨by decide +kernel, rfl⟩
theorem d_law_722 : g_dc code 722 (.aload_n 2) 1 723 := ⟨by decide +kernel, rfl⟩
theorem d_law_723 : g_dc code 723 (.aload_n 0) 1 724 := ⟨by decide +kernel, rfl⟩
theorem d_law_724 : g_dc code 724 (.iload_n 3) 1 725 := ⟨by decide +kernel, rfl⟩
theorem d_law_725 : g_dc code 725 (.iconst 1) 1 726 := ⟨by decide +kernel, rfl⟩
theorem d_law_726 : g_dc code 726 (.iadd) 1 727 := ⟨by decide +kernel, rfl⟩
theorem d_law_727 : g_dc code 727 (.iaload) 1 728 := ⟨by decide +kernel, rfl⟩
theorem d_law_728 : g_dc code 728 (.invokevirtual 96) 3 731 := ⟨by decide +kernel, rfl⟩
theorem d_law_731 : g_dc code 731 (.pop) 1 732 := ⟨by decide +kernel, rfl⟩
theorem d_law_732 : g_dc code 732 (.goto 217) 3 735 := ⟨by decide +kernel, rfl⟩
theorem d_law_735 : g_dc code 735 (.aload_n 1) 1 736 := ⟨by decide +kernel, rfl⟩
theorem d_law_736 : g_dc code 736 (.aload_n 0) 1 737 := ⟨by decide +kernel, rfl⟩
theorem d_law_737 : g_dc code 737 (.iload_n 3) 1 738 := ⟨by decide +kernel, rfl⟩
theorem d_law_738 : g_dc code 738 (.iconst 1) 1 739 := ⟨by decide +kernel, rfl⟩
theorem d_law_739 : g_dc code 739 (.iadd) 1 740 := ⟨by decide +kernel, rfl⟩
theorem d_law_740 : g_dc code 740 (.iaload) 1 741 := ⟨by decide +kernel, rfl⟩
theorem d_law_741 : g_dc code 741 (.aload_n 0) 1 742 := ⟨by decide +kernel, rfl⟩
theorem d_law_742 : g_dc code 742 (.iload_n 3) 1 743 := ⟨by decide +kernel, rfl⟩
theorem d_law_743 : g_dc code 743 (.iconst 2) 1 744 := ⟨by decide +kernel, rfl⟩
theorem d_law_744 : g_dc code 744 (.iadd) 1 745 := ⟨by decide +kernel, rfl⟩
theorem d_law_745 : g_dc code 745 (.iaload) 1 746 := ⟨by decide +kernel, rfl⟩
theorem d_law_746 : g_dc code 746 (.aload_n 0) 1 747 := ⟨by decide +kernel, rfl⟩
theorem d_law_747 : g_dc code 747 (.iload_n 3) 1 748 := ⟨by decide +kernel, rfl⟩
theorem d_law_748 : g_dc code 748 (.iconst 3) 1 749 := ⟨by decide +kernel, rfl⟩
theorem d_law_749 : g_dc code 749 (.iadd) 1 750 := ⟨by decide +kernel, rfl⟩
theorem d_law_750 : g_dc code 750 (.iaload) 1 751 := ⟨by decide +kernel, rfl⟩
theorem d_law_751 : g_dc code 751 (.invokevirtual 97) 3 754 := ⟨by decide +kernel, rfl⟩
theorem d_law_754 : g_dc code 754 (.pop) 1 755 := ⟨by decide +kernel, rfl⟩
theorem d_law_755 : g_dc code 755 (.aload_n 2) 1 756 := ⟨by decide +kernel, rfl⟩
theorem d_law_756 : g_dc code 756 (.aload_n 0) 1 757 := ⟨by decide +kernel, rfl⟩
theorem d_law_757 : g_dc code 757 (.iload_n 3) 1 758 := ⟨by decide +kernel, rfl⟩
theorem d_law_758 : g_dc code 758 (.iconst 1) 1 759 := ⟨by decide +kernel, rfl⟩
theorem d_law_759 : g_dc code 759 (.iadd) 1 760 := ⟨by decide +kernel, rfl⟩
theorem d_law_760 : g_dc code 760 (.iaload) 1 761 := ⟨by decide +kernel, rfl⟩
theorem d_law_761 : g_dc code 761 (.aload_n 0) 1 762 := ⟨by decide +kernel, rfl⟩
theorem d_law_762 : g_dc code 762 (.iload_n 3) 1 763 := ⟨by decide +kernel, rfl⟩
theorem d_law_763 : g_dc code 763 (.iconst 2) 1 764 := ⟨by decide +kernel, rfl⟩
theorem d_law_764 : g_dc code 764 (.iadd) 1 765 := ⟨by decide +kernel, rfl⟩
theorem d_law_765 : g_dc code 765 (.iaload) 1 766 := ⟨by decide +kernel, rfl⟩
theorem d_law_766 : g_dc code 766 (.aload_n 0) 1 767 := ⟨by decide +kernel, rfl⟩
theorem d_law_767 : g_dc code 767 (.iload_n 3) 1 768 := ⟨by decide +kernel, rfl⟩
theorem d_law_768 : g_dc code 768 (.iconst 3) 1 769 := ⟨by decide +kernel, rfl⟩
theorem d_law_769 : g_dc code 769 (.iadd) 1 770 := ⟨by decide +kernel, rfl⟩
theorem d_law_770 : g_dc code 770 (.iaload) 1 771 := ⟨by decide +kernel, rfl⟩
theorem d_law_771 : g_dc code 771 (.invokevirtual 101) 3 774 := ⟨by decide +kernel, rfl⟩
theorem d_law_774 : g_dc code 774 (.pop) 1 775 := ⟨by decide +kernel, rfl⟩
theorem d_law_775 : g_dc code 775 (.goto 174) 3 778 := ⟨by decide +kernel, rfl⟩
theorem d_law_778 : g_dc code 778 (.aload_n 1) 1 779 := ⟨by decide +kernel, rfl⟩
theorem d_law_779 : g_dc code 779 (.aload_n 0) 1 780 := ⟨by decide +kernel, rfl⟩
theorem d_law_780 : g_dc code 780 (.iload_n 3) 1 781 := ⟨by decide +kernel, rfl⟩
theorem d_law_781 : g_dc code 781 (.iconst 1) 1 782 := ⟨by decide +kernel, rfl⟩
theorem d_law_782 : g_dc code 782 (.iadd) 1 783 := ⟨by decide +kernel, rfl⟩
theorem d_law_783 : g_dc code 783 (.iaload) 1 784 := ⟨by decide +kernel, rfl⟩
theorem d_law_784 : g_dc code 784 (.aload_n 0) 1 785 := ⟨by decide +kernel, rfl⟩
theorem d_law_785 : g_dc code 785 (.iload_n 3) 1 786 := ⟨by decide +kernel, rfl⟩
theorem d_law_786 : g_dc code 786 (.iconst 2) 1 787 := ⟨by decide +kernel, rfl⟩
theorem d_law_787 : g_dc code 787 (.iadd) 1 788 := ⟨by decide +kernel, rfl⟩
theorem d_law_788 : g_dc code 788 (.iaload) 1 789 := ⟨by decide +kernel, rfl⟩
theorem d_law_789 : g_dc code 789 (.invokevirtual 102) 3 792 := ⟨by decide +kernel, rfl⟩
theorem d_law_792 : g_dc code 792 (.pop) 1 793 := ⟨by decide +kernel, rfl⟩
theorem d_law_793 : g_dc code 793 (.aload_n 2) 1 794 := ⟨by decide +kernel, rfl⟩
theorem d_law_794 : g_dc code 794 (.aload_n 0) 1 795 := ⟨by decide +kernel, rfl⟩
theorem d_law_795 : g_dc code 795 (.iload_n 3) 1 796 := ⟨by decide +kernel, rfl⟩
theorem d_law_796 : g_dc code 796 (.iconst 1) 1 797 := ⟨by decide +kernel, rfl⟩
theorem d_law_797 : g_dc code 797 (.iadd) 1 798 := ⟨by decide +kernel, rfl⟩
theorem d_law_798 : g_dc code 798 (.iaload) 1 799 := ⟨by decide +kernel, rfl⟩
theorem d_law_799 : g_dc code 799 (.aload_n 0) 1 800 := ⟨by decide +kernel, rfl⟩
theorem d_law_800 : g_dc code 800 (.iload_n 3) 1 801 := ⟨by decide +kernel, rfl⟩
theorem d_law_801 : g_dc code 801 (.iconst 2) 1 802 := ⟨by decide +kernel, rfl⟩
theorem d_law_802 : g_dc code 802 (.iadd) 1 803 := ⟨by decide +kernel, rfl⟩
theorem d_law_803 : g_dc code 803 (.iaload) 1 804 := ⟨by decide +kernel, rfl⟩
theorem d_law_804 : g_dc code 804 (.invokevirtual 105) 3 807 := ⟨by decide +kernel, rfl⟩
theorem d_law_807 : g_dc code 807 (.pop) 1 808 := ⟨by decide +kernel, rfl⟩
theorem d_law_808 : g_dc code 808 (.goto 141) 3 811 := ⟨by decide +kernel, rfl⟩
theorem d_law_811 : g_dc code 811 (.aload_n 1) 1 812 := ⟨by decide +kernel, rfl⟩
theorem d_law_812 : g_dc code 812 (.aload_n 0) 1 813 := ⟨by decide +kernel, rfl⟩
theorem d_law_813 : g_dc code 813 (.iload_n 3) 1 814 := ⟨by decide +kernel, rfl⟩
theorem d_law_814 : g_dc code 814 (.iconst 1) 1 815 := ⟨by decide +kernel, rfl⟩
theorem d_law_815 : g_dc code 815 (.iadd) 1 816 := ⟨by decide +kernel, rfl⟩
theorem d_law_816 : g_dc code 816 (.iaload) 1 817 := ⟨by decide +kernel, rfl⟩
theorem d_law_817 : g_dc code 817 (.aload_n 0) 1 818 := ⟨by decide +kernel, rfl⟩
theorem d_law_818 : g_dc code 818 (.iload_n 3) 1 819 := ⟨by decide +kernel, rfl⟩
theorem d_law_819 : g_dc code 819 (.iconst 2) 1 820 := ⟨by decide +kernel, rfl⟩
theorem d_law_820 : g_dc code 820 (.iadd) 1 821 := ⟨by decide +kernel, rfl⟩
theorem d_law_821 : g_dc code 821 (.iaload) 1 822 := ⟨by decide +kernel, rfl⟩
theorem d_law_822 : g_dc code 822 (.aload_n 0) 1 823 := ⟨by decide +kernel, rfl⟩
theorem d_law_823 : g_dc code 823 (.iload_n 3) 1 824 := ⟨by decide +kernel, rfl⟩
theorem d_law_824 : g_dc code 824 (.iconst 3) 1 825 := ⟨by decide +kernel, rfl⟩
theorem d_law_825 : g_dc code 825 (.iadd) 1 826 := ⟨by decide +kernel, rfl⟩
theorem d_law_826 : g_dc code 826 (.iaload) 1 827 := ⟨by decide +kernel, rfl⟩
theorem d_law_827 : g_dc code 827 (.invokevirtual 106) 3 830 := ⟨by decide +kernel, rfl⟩
theorem d_law_830 : g_dc code 830 (.pop) 1 831 := ⟨by decide +kernel, rfl⟩
theorem d_law_831 : g_dc code 831 (.aload_n 2) 1 832 := ⟨by decide +kernel, rfl⟩
theorem d_law_832 : g_dc code 832 (.aload_n 0) 1 833 := ⟨by decide +kernel, rfl⟩
theorem d_law_833 : g_dc code 833 (.iload_n 3) 1 834 := ⟨by decide +kernel, rfl⟩
theorem d_law_834 : g_dc code 834 (.iconst 1) 1 835 := ⟨by decide +kernel, rfl⟩
theorem d_law_835 : g_dc code 835 (.iadd) 1 836 := ⟨by decide +kernel, rfl⟩
theorem d_law_836 : g_dc code 836 (.iaload) 1 837 := ⟨by decide +kernel, rfl⟩
theorem d_law_837 : g_dc code 837 (.aload_n 0) 1 838 := ⟨by decide +kernel, rfl⟩
theorem d_law_838 : g_dc code 838 (.iload_n 3) 1 839 := ⟨by decide +kernel, rfl⟩
theorem d_law_839 : g_dc code 839 (.iconst 2) 1 840 := ⟨by decide +kernel, rfl⟩
theorem d_law_840 : g_dc code 840 (.iadd) 1 841 := ⟨by decide +kernel, rfl⟩
theorem d_law_841 : g_dc code 841 (.iaload) 1 842 := ⟨by decide +kernel, rfl⟩
theorem d_law_842 : g_dc code 842 (.aload_n 0) 1 843 := ⟨by decide +kernel, rfl⟩
theorem d_law_843 : g_dc code 843 (.iload_n 3) 1 844 := ⟨by decide +kernel, rfl⟩
theorem d_law_844 : g_dc code 844 (.iconst 3) 1 845 := ⟨by decide +kernel, rfl⟩
theorem d_law_845 : g_dc code 845 (.iadd) 1 846 := ⟨by decide +kernel, rfl⟩
theorem d_law_846 : g_dc code 846 (.iaload) 1 847 := ⟨by decide +kernel, rfl⟩
theorem d_law_847 : g_dc code 847 (.invokevirtual 109) 3 850 := ⟨by decide +kernel, rfl⟩
theorem d_law_850 : g_dc code 850 (.pop) 1 851 := ⟨by decide +kernel, rfl⟩
theorem d_law_851 : g_dc code 851 (.goto 98) 3 854 := ⟨by decide +kernel, rfl⟩
theorem d_law_854 : g_dc code 854 (.aload_n 1) 1 855 := ⟨by decide +kernel, rfl⟩
theorem d_law_855 : g_dc code 855 (.aload_n 0) 1 856 := ⟨by decide +kernel, rfl⟩
theorem d_law_856 : g_dc code 856 (.iload_n 3) 1 857 := ⟨by decide +kernel, rfl⟩
theorem d_law_857 : g_dc code 857 (.iconst 1) 1 858 := ⟨by decide +kernel, rfl⟩
theorem d_law_858 : g_dc code 858 (.iadd) 1 859 := ⟨by decide +kernel, rfl⟩
theorem d_law_859 : g_dc code 859 (.iaload) 1 860 := ⟨by decide +kernel, rfl⟩
theorem d_law_860 : g_dc code 860 (.invokevirtual 110) 3 863 := ⟨by decide +kernel, rfl⟩
theorem d_law_863 : g_dc code 863 (.pop) 1 864 := ⟨by decide +kernel, rfl⟩
theorem d_law_864 : g_dc code 864 (.aload_n 2) 1 865 := ⟨by decide +kernel, rfl⟩
theorem d_law_865 : g_dc code 865 (.aload_n 0) 1 866 := ⟨by decide +kernel, rfl⟩
theorem d_law_866 : g_dc code 866 (.iload_n 3) 1 867 := ⟨by decide +kernel, rfl⟩
theorem d_law_867 : g_dc code 867 (.iconst 1) 1 868 := ⟨by decide +kernel, rfl⟩
theorem d_law_868 : g_dc code 868 (.iadd) 1 869 := ⟨by decide +kernel, rfl⟩
theorem d_law_869 : g_dc code 869 (.iaload) 1 870 := ⟨by decide +kernel, rfl⟩
theorem d_law_870 : g_dc code 870 (.invokevirtual 113) 3 873 := ⟨by decide +kernel, rfl⟩
theorem d_law_873 : g_dc code 873 (.pop) 1 874 := ⟨by decide +kernel, rfl⟩
theorem d_law_874 : g_dc code 874 (.goto 75) 3 877 := ⟨by decide +kernel, rfl⟩
theorem d_law_877 : g_dc code 877 (.aload_n 1) 1 878 := ⟨by decide +kernel, rfl⟩
theorem d_law_878 : g_dc code 878 (.invokevirtual 114) 3 881 := ⟨by decide +kernel, rfl⟩
theorem d_law_881 : g_dc code 881 (.pop) 1 882 := ⟨by decide +kernel, rfl⟩
theorem d_law_882 : g_dc code 882 (.aload_n 2) 1 883 := ⟨by decide +kernel, rfl⟩
theorem d_law_883 : g_dc code 883 (.invokevirtual 117) 3 886 := ⟨by decide +kernel, rfl⟩
theorem d_law_886 : g_dc code 886 (.pop) 1 887 := ⟨by decide +kernel, rfl⟩
theorem d_law_887 : g_dc code 887 (.goto 62) 3 890 := ⟨by decide +kernel, rfl⟩
theorem d_law_890 : g_dc code 890 (.aload_n 1) 1 891 := ⟨by decide +kernel, rfl⟩
theorem d_law_891 : g_dc code 891 (.invokevirtual 118) 3 894 := ⟨by decide +kernel, rfl⟩
theorem d_law_894 : g_dc code 894 (.pop) 1 895 := ⟨by decide +kernel, rfl⟩
theorem d_law_895 : g_dc code 895 (.aload_n 2) 1 896 := ⟨by decide +kernel, rfl⟩
theorem d_law_896 : g_dc code 896 (.invokevirtual 122) 3 899 := ⟨by decide +kernel, rfl⟩
theorem d_law_899 : g_dc code 899 (.pop) 1 900 := ⟨by decide +kernel, rfl⟩
theorem d_law_900 : g_dc code 900 (.goto 49) 3 903 := ⟨by decide +kernel, rfl⟩
theorem d_law_903 : g_dc code 903 (.aload_n 1) 1 904 := ⟨by decide +kernel, rfl⟩
theorem d_law_904 : g_dc code 904 (.aload_n 0) 1 905 := ⟨by decide +kernel, rfl⟩
theorem d_law_905 : g_dc code 905 (.iload_n 3) 1 906 := ⟨by decide +kernel, rfl⟩
theorem d_law_906 : g_dc code 906 (.iconst 1) 1 907 := ⟨by decide +kernel, rfl⟩
theorem d_law_907 : g_dc code 907 (.iadd) 1 908 := ⟨by decide +kernel, rfl⟩
theorem d_law_908 : g_dc code 908 (.iaload) 1 909 := ⟨by decide +kernel, rfl⟩
theorem d_law_909 : g_dc code 909 (.invokevirtual 123) 3 912 := ⟨by decide +kernel, rfl⟩
theorem d_law_912 : g_dc code 912 (.pop) 1 913 := ⟨by decide +kernel, rfl⟩
theorem d_law_913 : g_dc code 913 (.aload_n 2) 1 914 := ⟨by decide +kernel, rfl⟩
theorem d_law_914 : g_dc code 914 (.aload_n 0) 1 915 := ⟨by decide +kernel, rfl⟩
theorem d_law_915 : g_dc code 915 (.iload_n 3) 1 916 := ⟨by decide +kernel, rfl⟩
theorem d_law_916 : g_dc code 916 (.iconst 1) 1 917 := ⟨by decide +kernel, rfl⟩
theorem d_law_917 : g_dc code 917 (.iadd) 1 918 := ⟨by decide +kernel, rfl⟩
theorem d_law_918 : g_dc code 918 (.iaload) 1 919 := ⟨by decide +kernel, rfl⟩
theorem d_law_919 : g_dc code 919 (.invokevirtual 126) 3 922 := ⟨by decide +kernel, rfl⟩
theorem d_law_922 : g_dc code 922 (.pop) 1 923 := ⟨by decide +kernel, rfl⟩
theorem d_law_923 : g_dc code 923 (.goto 26) 3 926 := ⟨by decide +kernel, rfl⟩
theorem d_law_926 : g_dc code 926 (.aload_n 1) 1 927 := ⟨by decide +kernel, rfl⟩
theorem d_law_927 : g_dc code 927 (.aload_n 0) 1 928 := ⟨by decide +kernel, rfl⟩
theorem d_law_928 : g_dc code 928 (.iload_n 3) 1 929 := ⟨by decide +kernel, rfl⟩
theorem d_law_929 : g_dc code 929 (.iconst 1) 1 930 := ⟨by decide +kernel, rfl⟩
theorem d_law_930 : g_dc code 930 (.iadd) 1 931 := ⟨by decide +kernel, rfl⟩
theorem d_law_931 : g_dc code 931 (.iaload) 1 932 := ⟨by decide +kernel, rfl⟩
theorem d_law_932 : g_dc code 932 (.invokevirtual 127) 3 935 := ⟨by decide +kernel, rfl⟩
theorem d_law_935 : g_dc code 935 (.pop) 1 936 := ⟨by decide +kernel, rfl⟩
theorem d_law_936 : g_dc code 936 (.aload_n 2) 1 937 := ⟨by decide +kernel, rfl⟩
theorem d_law_937 : g_dc code 937 (.aload_n 0) 1 938 := ⟨by decide +kernel, rfl⟩
theorem d_law_938 : g_dc code 938 (.iload_n 3) 1 939 := ⟨by decide +kernel, rfl⟩
theorem d_law_939 : g_dc code 939 (.iconst 1) 1 940 := ⟨by decide +kernel, rfl⟩
theorem d_law_940 : g_dc code 940 (.iadd) 1 941 := ⟨by decide +kernel, rfl⟩
theorem d_law_941 : g_dc code 941 (.iaload) 1 942 := ⟨by decide +kernel, rfl⟩
theorem d_law_942 : g_dc code 942 (.invokevirtual 130) 3 945 := ⟨by decide +kernel, rfl⟩
theorem d_law_945 : g_dc code 945 (.pop) 1 946 := ⟨by decide +kernel, rfl⟩
theorem d_law_946 : g_dc code 946 (.goto 3) 3 949 := ⟨by decide +kernel, rfl⟩
theorem d_law_949 : g_dc code 949 (.iinc 3 7) 3 952 := ⟨by decide +kernel, rfl⟩
theorem d_law_952 : g_dc code 952 (.goto (-934)) 3 955 := ⟨by decide +kernel, rfl⟩
theorem d_law_955 : g_dc code 955 (.iconst 1) 1 956 := ⟨by decide +kernel, rfl⟩
theorem d_law_956 : g_dc code 956 (.ireturn) 1 957 := ⟨by decide +kernel, rfl⟩
set_option maxHeartbeats 8000000 in
set_option maxRecDepth 100000 in
theorem g_law {l : Launch} {X : gX} {E : gE} {b L : Nat} {xs : Nat → Int32} (hL : L ≤ 3584) (cx : g_cx X E 4 l room_1 code RL False) (sx : g_cxs X E 4 l room_1 code RL b L xs) (hend : ∀ {pc pc' k n : Nat} {ws : va_W} {lv : List (Nat × Value)}, g_dc code pc .ireturn 1 pc' → k ≤ 600000 → n ≤ 7302250 → G X E 4 k n ws lv pc [.int 1]) : G X E 4 0 0 [] (lv_args 0 [.ref b]) 0 [] := by
  refine g_new cx cl_X10 [.null, .null, .null, .null, .null, .null, .null, .null, .null, .null, .null, .int 0, .int 0] kl_L_7 d_law_0 (by intro j hj; revert j; decide) (Nat.le_of_ble_eq_true rfl) (Nat.le_of_ble_eq_true rfl) (fun q1 => ?_)
  refine g_weq ([(q1, .inr (10, [.null, .null, .null, .null, .null, .null, .null, .null, .null, .null, .null, .int 0, .int 0]))]) rfl ?_
  refine g_dup cx rfl d_law_3 ?_
  refine g_cIL cx [] [.ref q1] (c_X10_init l X q1) ml_L_9 yI_X10_init d_law_4 (by unfold g_rr; decide) (by decide) (pre := []) rfl rfl (Nat.le_of_ble_eq_true rfl) (fun w3 h4 => ?_)
  obtain ⟨adx, rfl, rfl⟩ := h4
  refine g_astore_n cx [(1, .ref (adx 0)), (0, .ref b)] d_law_7 (by decide) rfl ?_
  refine g_new cx cl_X11 [.int 0, .int 0, .int 0, .int 0, .int 0, .null, .null, .null, .null, .null, .null, .null, .null, .null, .int 0, .int 0, .int 0, .int 0, .int 0, .int 0, .int 0, .int 0, .null, .null, .int 0, .int 0, .int 0, .int 0, .int 0, .null, .null, .null, .null, .null, .null, .null, .null, .null, .null, .null, .null, .null, .int 0, .int 0, .int 0, .int 0, .int 0, .int 0, .int 0, .int 0, .int 0, .int 0, .null, .null, .null, .null, .null, .null, .null, .null, .null, .null, .null, .null, .null, .int 0, .int 0, .int 0, .int 0, .int 0, .int 0, .int 0, .int 0, .null, .null, .int 0, .null, .int 0, .int 0, .int 0, .int 0, .int 0, .int 0, .null, .null, .null, .null, .null, .null, .null, .null] kl_L_10 d_law_8 (by intro j hj; revert j; decide) (Nat.le_of_ble_eq_true rfl) (Nat.le_of_ble_eq_true rfl) (fun q5 => ?_)
  refine g_weq (wX X adx fX0 r0 ++ [(q5, .inr (11, [.int 0, .int 0, .int 0, .int 0, .int 0, .null, .null, .null, .null, .null, .null, .null, .null, .null, .int 0, .int 0, .int 0, .int 0, .int 0, .int 0, .int 0, .int 0, .null, .null, .int 0, .int 0, .int 0, .int 0, .int 0, .null, .null, .null, .null, .null, .null, .null, .null, .null, .null, .null, .null, .null, .int 0, .int 0, .int 0, .int 0, .int 0, .int 0, .int 0, .int 0, .int 0, .int 0, .null, .null, .null, .null, .null, .null, .null, .null, .null, .null, .null, .null, .null, .int 0, .int 0, .int 0, .int 0, .int 0, .int 0, .int 0, .int 0, .null, .null, .int 0, .null, .int 0, .int 0, .int 0, .int 0, .int 0, .int 0, .null, .null, .null, .null, .null, .null, .null, .null]))]) rfl ?_
  refine g_dup cx rfl d_law_11 ?_
  refine g_cIL cx [] [.ref q5] (c_X11_init l X q5) ml_L_12 yI_X11_init d_law_12 (by unfold g_rr; decide) (by decide) (pre := wX X adx fX0 r0) rfl rfl (Nat.le_of_ble_eq_true rfl) (fun w7 h8 => ?_)
  obtain ⟨adm, rfl, rfl⟩ := h8
  refine g_astore_n cx [(2, .ref (adm 0)), (1, .ref (adx 0)), (0, .ref b)] d_law_15 (by decide) rfl ?_
  refine g_iconst cx 0 (by decide) d_law_16 ?_
  refine g_istore_n cx [(3, .int 0), (2, .ref (adm 0)), (1, .ref (adx 0)), (0, .ref b)] d_law_17 (by decide) rfl ?_
  have J18 : ∀ (N : Nat) (F : Nat → Int32) (R : Nat → Nat → Int32) (G0 : Nat → Int32) (S : Nat → Nat → Int32) (zi : Int32), g_ok LK_wX F → g_okR LA_wX R → g_ok LK_wM G0 → g_okR LA_wM S → WT G0 S → WC G0 S → F 16 = G0 0 → (¬ F 11 = 0 → F 48 = G0 78) → F 11 = G0 77 → jv 0 3584 zi → (4000 - zi.toInt).toNat < N → G X E 4 100 4131 (wX X adx F R ++ wM X adm G0 S) [(3, .int zi), (2, .ref (adm 0)), (1, .ref (adx 0)), (0, .ref b)] 18 [] := by
    intro N
    induction N with
    | zero => intro F R G0 S zi _ _ _ _ _ _ _ _ _ _ hm; exact absurd hm (Nat.not_lt_zero _)
    | succ N ih =>
      intro F R G0 S zi hI hA kI kA kT kC hr0 hr1 hr2 pi hm
      refine g_iload_n cx 0 rfl d_law_18 ?_
      refine g_aload_n cx 3 rfl d_law_19 ?_
      refine g_slen sx d_law_20 ?_
      refine g_bipush cx 7 (by decide) d_law_21 ?_
      refine g_isub cx d_law_23 ?_
      refine g_icmp_gt cx 955 d_law_24 (by decide) (fun zc => ?_) (fun zc => ?_)
      · refine g_iconst cx 1 (by decide) d_law_955 ?_
        exact hend d_law_956 (Nat.le_of_ble_eq_true rfl) (Nat.le_of_ble_eq_true rfl)
      · refine g_aload_n cx 3 rfl d_law_27 ?_
        refine g_iload_n cx 0 rfl d_law_28 ?_
        refine g_sld sx d_law_29 (g_six0 hL pi zc) ?_
        refine g_bipush cx 31 (by decide) d_law_30 ?_
        refine g_iand cx d_law_32 ?_
        refine g_topi (fun zy ezy => ?_)
        rcases g_sw 0 26 zy with ⟨zwn, zwh, zwe⟩ | zw
        · have zwd : zwn = 0 ∨ zwn = 1 ∨ zwn = 2 ∨ zwn = 3 ∨ zwn = 4 ∨ zwn = 5 ∨ zwn = 6 ∨ zwn = 7 ∨ zwn = 8 ∨ zwn = 9 ∨ zwn = 10 ∨ zwn = 11 ∨ zwn = 12 ∨ zwn = 13 ∨ zwn = 14 ∨ zwn = 15 ∨ zwn = 16 ∨ zwn = 17 ∨ zwn = 18 ∨ zwn = 19 ∨ zwn = 20 ∨ zwn = 21 ∨ zwn = 22 ∨ zwn = 23 ∨ zwn = 24 ∨ zwn = 25 ∨ zwn = 26 := by omega
          rcases zwd with rfl | rfl | rfl | rfl | rfl | rfl | rfl | rfl | rfl | rfl | rfl | rfl | rfl | rfl | rfl | rfl | rfl | rfl | rfl | rfl | rfl | rfl | rfl | rfl | rfl | rfl | rfl
          · refine g_tableIn cx 156 d_law_33 (by rw [zwe]; decide) (by rw [zwe]; decide) (by rw [zwe]; rfl) (by decide) ?_
            refine g_aload_n cx 2 rfl d_law_156 ?_
            refine g_aload_n cx 3 rfl d_law_157 ?_
            refine g_iload_n cx 0 rfl d_law_158 ?_
            refine g_iconst cx 1 (by decide) d_law_159 ?_
            refine g_iadd cx d_law_160 ?_
            refine g_sld sx d_law_161 (g_six 1 hL pi zc rfl (by decide : Int32.toInt 1 = 1) (by decide)) ?_
            refine g_topi (fun x1 ex1 => ?_)
            refine g_aload_n cx 3 rfl d_law_162 ?_
            refine g_iload_n cx 0 rfl d_law_163 ?_
            refine g_iconst cx 2 (by decide) d_law_164 ?_
            refine g_iadd cx d_law_165 ?_
            refine g_sld sx d_law_166 (g_six 2 hL pi zc rfl (by decide : Int32.toInt 2 = 2) (by decide)) ?_
            refine g_topi (fun x2 ex2 => ?_)
            refine g_cViH cx [.int x1, .int x2] [] (w_X10_tableb l X adx F R hI hA x1 x2) ml_L_13 yV_X10_table d_law_167 (by unfold g_rr; decide) (by decide) 0 rfl rfl (wr := wM X adm G0 S) (wc := wX X adx F R) rfl rfl (Nat.le_of_ble_eq_true rfl) (fun r3 w4 h5 => ?_)
            obtain ⟨F6, R7, rfl, oF6, oR7, cF6, cR7, pr3, zx8, zx9, zx10⟩ := h5
            refine g_pop cx rfl d_law_170 ?_
            refine g_aload_n cx 1 rfl d_law_171 ?_
            refine g_aload_n cx 3 rfl d_law_172 ?_
            refine g_iload_n cx 0 rfl d_law_173 ?_
            refine g_iconst cx 1 (by decide) d_law_174 ?_
            refine g_iadd cx d_law_175 ?_
            refine g_sld sx d_law_176 (g_six 1 hL pi zc rfl (by decide : Int32.toInt 1 = 1) (by decide)) ?_
            refine g_topi (fun x11 ex11 => ?_)
            refine g_aload_n cx 3 rfl d_law_177 ?_
            refine g_iload_n cx 0 rfl d_law_178 ?_
            refine g_iconst cx 2 (by decide) d_law_179 ?_
            refine g_iadd cx d_law_180 ?_
            refine g_sld sx d_law_181 (g_six 2 hL pi zc rfl (by decide : Int32.toInt 2 = 2) (by decide)) ?_
            refine g_topi (fun x12 ex12 => ?_)
            refine g_cViH cx [.int x11, .int x12] [] (w_X11_tableb l X adm G0 S kI kA kT kC x11 x12) ml_L_17 yV_X11_table d_law_182 (by unfold g_rr; decide) (by decide) 0 rfl rfl (wr := wX X adx F6 R7) (wc := wM X adm G0 S) rfl rfl (Nat.le_of_ble_eq_true rfl) (fun r13 w14 h15 => ?_)
            obtain ⟨F16, R17, rfl, oF16, oR17, wTF16, wCF16, cF16, cR17, pr13, zx18, zx19, zx20⟩ := h15
            refine g_pop cx rfl d_law_185 ?_
            refine g_goto cx 949 d_law_186 (by decide) ?_
            obtain ⟨zn, ezn⟩ : ∃ z : Int32, z = zi + Int32.ofInt 7 := ⟨_, rfl⟩
            have zs := g_sinc hL pi zc (show zn = zi + 7 from ezn)
            refine g_iinc cx zn [(3, .int zn), (2, .ref (adm 0)), (1, .ref (adx 0)), (0, .ref b)] 0 d_law_949 rfl ezn.symm (by decide) rfl ?_
            refine g_goto cx 18 d_law_952 (by decide) ?_
            exact ih _ _ _ _ zn oF6 oR7 oF16 oR17 wTF16 wCF16 (g_rel2 (by rw [zx8, zx18, ex1, ex2, ex11, ex12]) zx9 zx10 zx19 zx20 (ex1.trans ex11.symm) hr0) (fun z => (((cF6 48 rfl).trans (hr1 (fun w => z ((cF6 11 rfl).trans w)))).trans (cF16 78 rfl).symm)) (((cF6 11 rfl).trans hr2).trans (cF16 77 rfl).symm) zs.1 (Nat.lt_of_lt_of_le zs.2 (Nat.le_of_lt_succ hm))
          · refine g_tableIn cx 189 d_law_33 (by rw [zwe]; decide) (by rw [zwe]; decide) (by rw [zwe]; rfl) (by decide) ?_
            refine g_aload_n cx 2 rfl d_law_189 ?_
            refine g_aload_n cx 3 rfl d_law_190 ?_
            refine g_iload_n cx 0 rfl d_law_191 ?_
            refine g_iconst cx 1 (by decide) d_law_192 ?_
            refine g_iadd cx d_law_193 ?_
            refine g_sld sx d_law_194 (g_six 1 hL pi zc rfl (by decide : Int32.toInt 1 = 1) (by decide)) ?_
            refine g_topi (fun x21 ex21 => ?_)
            refine g_cViH cx [.int x21] [] (w_X10_cloth l X adx F R hI hA x21) ml_L_18 yV_X10_cloth d_law_195 (by unfold g_rr; decide) (by decide) 0 rfl rfl (wr := wM X adm G0 S) (wc := wX X adx F R) rfl rfl (Nat.le_of_ble_eq_true rfl) (fun r22 w23 h24 => ?_)
            obtain ⟨F25, R26, rfl, oF25, oR26, cF25, cR26, pr22⟩ := h24
            refine g_pop cx rfl d_law_198 ?_
            refine g_aload_n cx 1 rfl d_law_199 ?_
            refine g_aload_n cx 3 rfl d_law_200 ?_
            refine g_iload_n cx 0 rfl d_law_201 ?_
            refine g_iconst cx 1 (by decide) d_law_202 ?_
            refine g_iadd cx d_law_203 ?_
            refine g_sld sx d_law_204 (g_six 1 hL pi zc rfl (by decide : Int32.toInt 1 = 1) (by decide)) ?_
            refine g_topi (fun x27 ex27 => ?_)
            refine g_cViH cx [.int x27] [] (w_X11_cloth l X adm G0 S kI kA kT kC x27) ml_L_22 yV_X11_cloth d_law_205 (by unfold g_rr; decide) (by decide) 0 rfl rfl (wr := wX X adx F25 R26) (wc := wM X adm G0 S) rfl rfl (Nat.le_of_ble_eq_true rfl) (fun r28 w29 h30 => ?_)
            obtain ⟨F31, R32, rfl, oF31, oR32, wTF31, wCF31, cF31, cR32, pr28⟩ := h30
            refine g_pop cx rfl d_law_208 ?_
            refine g_goto cx 949 d_law_209 (by decide) ?_
            obtain ⟨zn, ezn⟩ : ∃ z : Int32, z = zi + Int32.ofInt 7 := ⟨_, rfl⟩
            have zs := g_sinc hL pi zc (show zn = zi + 7 from ezn)
            refine g_iinc cx zn [(3, .int zn), (2, .ref (adm 0)), (1, .ref (adx 0)), (0, .ref b)] 0 d_law_949 rfl ezn.symm (by decide) rfl ?_
            refine g_goto cx 18 d_law_952 (by decide) ?_
            exact ih _ _ _ _ zn oF25 oR26 oF31 oR32 wTF31 wCF31 (((cF25 16 rfl).trans hr0).trans (cF31 0 rfl).symm) (fun z => (((cF25 48 rfl).trans (hr1 (fun w => z ((cF25 11 rfl).trans w)))).trans (cF31 78 rfl).symm)) (((cF25 11 rfl).trans hr2).trans (cF31 77 rfl).symm) zs.1 (Nat.lt_of_lt_of_le zs.2 (Nat.le_of_lt_succ hm))
          · refine g_tableIn cx 212 d_law_33 (by rw [zwe]; decide) (by rw [zwe]; decide) (by rw [zwe]; rfl) (by decide) ?_
            refine g_aload_n cx 2 rfl d_law_212 ?_
            refine g_aload_n cx 3 rfl d_law_213 ?_
            refine g_iload_n cx 0 rfl d_law_214 ?_
            refine g_iconst cx 1 (by decide) d_law_215 ?_
            refine g_iadd cx d_law_216 ?_
            refine g_sld sx d_law_217 (g_six 1 hL pi zc rfl (by decide : Int32.toInt 1 = 1) (by decide)) ?_
            refine g_topi (fun x33 ex33 => ?_)
            refine g_aload_n cx 3 rfl d_law_218 ?_
            refine g_iload_n cx 0 rfl d_law_219 ?_
            refine g_iconst cx 2 (by decide) d_law_220 ?_
            refine g_iadd cx d_law_221 ?_
            refine g_sld sx d_law_222 (g_six 2 hL pi zc rfl (by decide : Int32.toInt 2 = 2) (by decide)) ?_
            refine g_topi (fun x34 ex34 => ?_)
            refine g_aload_n cx 3 rfl d_law_223 ?_
            refine g_iload_n cx 0 rfl d_law_224 ?_
            refine g_iconst cx 3 (by decide) d_law_225 ?_
            refine g_iadd cx d_law_226 ?_
            refine g_sld sx d_law_227 (g_six 3 hL pi zc rfl (by decide : Int32.toInt 3 = 3) (by decide)) ?_
            refine g_topi (fun x35 ex35 => ?_)
            refine g_aload_n cx 3 rfl d_law_228 ?_
            refine g_iload_n cx 0 rfl d_law_229 ?_
            refine g_iconst cx 4 (by decide) d_law_230 ?_
            refine g_iadd cx d_law_231 ?_
            refine g_sld sx d_law_232 (g_six 4 hL pi zc rfl (by decide : Int32.toInt 4 = 4) (by decide)) ?_
            refine g_topi (fun x36 ex36 => ?_)
            refine g_aload_n cx 3 rfl d_law_233 ?_
            refine g_iload_n cx 0 rfl d_law_234 ?_
            refine g_iconst cx 5 (by decide) d_law_235 ?_
            refine g_iadd cx d_law_236 ?_
            refine g_sld sx d_law_237 (g_six 5 hL pi zc rfl (by decide : Int32.toInt 5 = 5) (by decide)) ?_
            refine g_topi (fun x37 ex37 => ?_)
            refine g_aload_n cx 3 rfl d_law_238 ?_
            refine g_iload_n cx 0 rfl d_law_239 ?_
            refine g_bipush cx 6 (by decide) d_law_240 ?_
            refine g_iadd cx d_law_242 ?_
            refine g_sld sx d_law_243 (g_six 6 hL pi zc rfl (by decide : Int32.toInt 6 = 6) (by decide)) ?_
            refine g_topi (fun x38 ex38 => ?_)
            refine g_cViH cx [.int x33, .int x34, .int x35, .int x36, .int x37, .int x38] [] (w_X10_thingb l X adx F R hI hA x33 x34 x35 x36 x37 x38) ml_L_23 yV_X10_thing d_law_244 (by unfold g_rr; decide) (by decide) 0 rfl rfl (wr := wM X adm G0 S) (wc := wX X adx F R) rfl rfl (Nat.le_of_ble_eq_true rfl) (fun r39 w40 h41 => ?_)
            obtain ⟨F42, R43, rfl, oF42, oR43, cF42, cR43, pr39, zx44⟩ := h41
            refine g_aload_n cx 1 rfl d_law_247 ?_
            refine g_aload_n cx 3 rfl d_law_248 ?_
            refine g_iload_n cx 0 rfl d_law_249 ?_
            refine g_iconst cx 1 (by decide) d_law_250 ?_
            refine g_iadd cx d_law_251 ?_
            refine g_sld sx d_law_252 (g_six 1 hL pi zc rfl (by decide : Int32.toInt 1 = 1) (by decide)) ?_
            refine g_topi (fun x45 ex45 => ?_)
            refine g_aload_n cx 3 rfl d_law_253 ?_
            refine g_iload_n cx 0 rfl d_law_254 ?_
            refine g_iconst cx 2 (by decide) d_law_255 ?_
            refine g_iadd cx d_law_256 ?_
            refine g_sld sx d_law_257 (g_six 2 hL pi zc rfl (by decide : Int32.toInt 2 = 2) (by decide)) ?_
            refine g_topi (fun x46 ex46 => ?_)
            refine g_aload_n cx 3 rfl d_law_258 ?_
            refine g_iload_n cx 0 rfl d_law_259 ?_
            refine g_iconst cx 3 (by decide) d_law_260 ?_
            refine g_iadd cx d_law_261 ?_
            refine g_sld sx d_law_262 (g_six 3 hL pi zc rfl (by decide : Int32.toInt 3 = 3) (by decide)) ?_
            refine g_topi (fun x47 ex47 => ?_)
            refine g_aload_n cx 3 rfl d_law_263 ?_
            refine g_iload_n cx 0 rfl d_law_264 ?_
            refine g_iconst cx 4 (by decide) d_law_265 ?_
            refine g_iadd cx d_law_266 ?_
            refine g_sld sx d_law_267 (g_six 4 hL pi zc rfl (by decide : Int32.toInt 4 = 4) (by decide)) ?_
            refine g_topi (fun x48 ex48 => ?_)
            refine g_aload_n cx 3 rfl d_law_268 ?_
            refine g_iload_n cx 0 rfl d_law_269 ?_
            refine g_iconst cx 5 (by decide) d_law_270 ?_
            refine g_iadd cx d_law_271 ?_
            refine g_sld sx d_law_272 (g_six 5 hL pi zc rfl (by decide : Int32.toInt 5 = 5) (by decide)) ?_
            refine g_topi (fun x49 ex49 => ?_)
            refine g_aload_n cx 3 rfl d_law_273 ?_
            refine g_iload_n cx 0 rfl d_law_274 ?_
            refine g_bipush cx 6 (by decide) d_law_275 ?_
            refine g_iadd cx d_law_277 ?_
            refine g_sld sx d_law_278 (g_six 6 hL pi zc rfl (by decide : Int32.toInt 6 = 6) (by decide)) ?_
            refine g_topi (fun x50 ex50 => ?_)
            refine g_cViH cx [.int x45, .int x46, .int x47, .int x48, .int x49, .int x50] [.int r39] (w_X11_thingb l X adm G0 S kI kA kT kC x45 x46 x47 x48 x49 x50) ml_L_27 yV_X11_thing d_law_279 (by unfold g_rr; decide) (by decide) 0 rfl rfl (wr := wX X adx F42 R43) (wc := wM X adm G0 S) rfl rfl (Nat.le_of_ble_eq_true rfl) (fun r51 w52 h53 => ?_)
            obtain ⟨F54, R55, rfl, oF54, oR55, wTF54, wCF54, cF54, cR55, pr51, zx56⟩ := h53
            refine g_icmp_eq_t cx 949 d_law_282 (by decide) (by rw [zx44, zx56, ex33, ex34, ex35, ex36, ex37, ex38, ex45, ex46, ex47, ex48, ex49, ex50, hr0]) ?_
            obtain ⟨zn, ezn⟩ : ∃ z : Int32, z = zi + Int32.ofInt 7 := ⟨_, rfl⟩
            have zs := g_sinc hL pi zc (show zn = zi + 7 from ezn)
            refine g_iinc cx zn [(3, .int zn), (2, .ref (adm 0)), (1, .ref (adx 0)), (0, .ref b)] 0 d_law_949 rfl ezn.symm (by decide) rfl ?_
            refine g_goto cx 18 d_law_952 (by decide) ?_
            exact ih _ _ _ _ zn oF42 oR43 oF54 oR55 wTF54 wCF54 (((cF42 16 rfl).trans hr0).trans (cF54 0 rfl).symm) (fun z => (((cF42 48 rfl).trans (hr1 (fun w => z ((cF42 11 rfl).trans w)))).trans (cF54 78 rfl).symm)) (((cF42 11 rfl).trans hr2).trans (cF54 77 rfl).symm) zs.1 (Nat.lt_of_lt_of_le zs.2 (Nat.le_of_lt_succ hm))
          · refine g_tableIn cx 287 d_law_33 (by rw [zwe]; decide) (by rw [zwe]; decide) (by rw [zwe]; rfl) (by decide) ?_
            refine g_aload_n cx 2 rfl d_law_287 ?_
            refine g_aload_n cx 3 rfl d_law_288 ?_
            refine g_iload_n cx 0 rfl d_law_289 ?_
            refine g_iconst cx 1 (by decide) d_law_290 ?_
            refine g_iadd cx d_law_291 ?_
            refine g_sld sx d_law_292 (g_six 1 hL pi zc rfl (by decide : Int32.toInt 1 = 1) (by decide)) ?_
            refine g_topi (fun x57 ex57 => ?_)
            refine g_aload_n cx 3 rfl d_law_293 ?_
            refine g_iload_n cx 0 rfl d_law_294 ?_
            refine g_iconst cx 2 (by decide) d_law_295 ?_
            refine g_iadd cx d_law_296 ?_
            refine g_sld sx d_law_297 (g_six 2 hL pi zc rfl (by decide : Int32.toInt 2 = 2) (by decide)) ?_
            refine g_topi (fun x58 ex58 => ?_)
            refine g_aload_n cx 3 rfl d_law_298 ?_
            refine g_iload_n cx 0 rfl d_law_299 ?_
            refine g_iconst cx 3 (by decide) d_law_300 ?_
            refine g_iadd cx d_law_301 ?_
            refine g_sld sx d_law_302 (g_six 3 hL pi zc rfl (by decide : Int32.toInt 3 = 3) (by decide)) ?_
            refine g_topi (fun x59 ex59 => ?_)
            refine g_aload_n cx 3 rfl d_law_303 ?_
            refine g_iload_n cx 0 rfl d_law_304 ?_
            refine g_iconst cx 4 (by decide) d_law_305 ?_
            refine g_iadd cx d_law_306 ?_
            refine g_sld sx d_law_307 (g_six 4 hL pi zc rfl (by decide : Int32.toInt 4 = 4) (by decide)) ?_
            refine g_topi (fun x60 ex60 => ?_)
            refine g_cViH cx [.int x57, .int x58, .int x59, .int x60] [] (w_X10_more l X adx F R hI hA x57 x58 x59 x60) ml_L_28 yV_X10_more d_law_308 (by unfold g_rr; decide) (by decide) 0 rfl rfl (wr := wM X adm G0 S) (wc := wX X adx F R) rfl rfl (Nat.le_of_ble_eq_true rfl) (fun r61 w62 h63 => ?_)
            obtain ⟨F64, R65, rfl, oF64, oR65, cF64, cR65, pr61⟩ := h63
            refine g_pop cx rfl d_law_311 ?_
            refine g_aload_n cx 1 rfl d_law_312 ?_
            refine g_aload_n cx 3 rfl d_law_313 ?_
            refine g_iload_n cx 0 rfl d_law_314 ?_
            refine g_iconst cx 1 (by decide) d_law_315 ?_
            refine g_iadd cx d_law_316 ?_
            refine g_sld sx d_law_317 (g_six 1 hL pi zc rfl (by decide : Int32.toInt 1 = 1) (by decide)) ?_
            refine g_topi (fun x66 ex66 => ?_)
            refine g_aload_n cx 3 rfl d_law_318 ?_
            refine g_iload_n cx 0 rfl d_law_319 ?_
            refine g_iconst cx 2 (by decide) d_law_320 ?_
            refine g_iadd cx d_law_321 ?_
            refine g_sld sx d_law_322 (g_six 2 hL pi zc rfl (by decide : Int32.toInt 2 = 2) (by decide)) ?_
            refine g_topi (fun x67 ex67 => ?_)
            refine g_aload_n cx 3 rfl d_law_323 ?_
            refine g_iload_n cx 0 rfl d_law_324 ?_
            refine g_iconst cx 3 (by decide) d_law_325 ?_
            refine g_iadd cx d_law_326 ?_
            refine g_sld sx d_law_327 (g_six 3 hL pi zc rfl (by decide : Int32.toInt 3 = 3) (by decide)) ?_
            refine g_topi (fun x68 ex68 => ?_)
            refine g_aload_n cx 3 rfl d_law_328 ?_
            refine g_iload_n cx 0 rfl d_law_329 ?_
            refine g_iconst cx 4 (by decide) d_law_330 ?_
            refine g_iadd cx d_law_331 ?_
            refine g_sld sx d_law_332 (g_six 4 hL pi zc rfl (by decide : Int32.toInt 4 = 4) (by decide)) ?_
            refine g_topi (fun x69 ex69 => ?_)
            refine g_cViH cx [.int x66, .int x67, .int x68, .int x69] [] (w_X11_more l X adm G0 S kI kA kT kC x66 x67 x68 x69) ml_L_32 yV_X11_more d_law_333 (by unfold g_rr; decide) (by decide) 0 rfl rfl (wr := wX X adx F64 R65) (wc := wM X adm G0 S) rfl rfl (Nat.le_of_ble_eq_true rfl) (fun r70 w71 h72 => ?_)
            obtain ⟨F73, R74, rfl, oF73, oR74, wTF73, wCF73, cF73, cR74, pr70⟩ := h72
            refine g_pop cx rfl d_law_336 ?_
            refine g_goto cx 949 d_law_337 (by decide) ?_
            obtain ⟨zn, ezn⟩ : ∃ z : Int32, z = zi + Int32.ofInt 7 := ⟨_, rfl⟩
            have zs := g_sinc hL pi zc (show zn = zi + 7 from ezn)
            refine g_iinc cx zn [(3, .int zn), (2, .ref (adm 0)), (1, .ref (adx 0)), (0, .ref b)] 0 d_law_949 rfl ezn.symm (by decide) rfl ?_
            refine g_goto cx 18 d_law_952 (by decide) ?_
            exact ih _ _ _ _ zn oF64 oR65 oF73 oR74 wTF73 wCF73 (((cF64 16 rfl).trans hr0).trans (cF73 0 rfl).symm) (fun z => (((cF64 48 rfl).trans (hr1 (fun w => z ((cF64 11 rfl).trans w)))).trans (cF73 78 rfl).symm)) (((cF64 11 rfl).trans hr2).trans (cF73 77 rfl).symm) zs.1 (Nat.lt_of_lt_of_le zs.2 (Nat.le_of_lt_succ hm))
          · refine g_tableIn cx 340 d_law_33 (by rw [zwe]; decide) (by rw [zwe]; decide) (by rw [zwe]; rfl) (by decide) ?_
            refine g_aload_n cx 2 rfl d_law_340 ?_
            refine g_aload_n cx 3 rfl d_law_341 ?_
            refine g_iload_n cx 0 rfl d_law_342 ?_
            refine g_iconst cx 1 (by decide) d_law_343 ?_
            refine g_iadd cx d_law_344 ?_
            refine g_sld sx d_law_345 (g_six 1 hL pi zc rfl (by decide : Int32.toInt 1 = 1) (by decide)) ?_
            refine g_topi (fun x75 ex75 => ?_)
            refine g_cViH cx [.int x75] [] (w_X10_away l X adx F R hI hA x75) ml_L_33 yV_X10_away d_law_346 (by unfold g_rr; decide) (by decide) 0 rfl rfl (wr := wM X adm G0 S) (wc := wX X adx F R) rfl rfl (Nat.le_of_ble_eq_true rfl) (fun r76 w77 h78 => ?_)
            obtain ⟨F79, R80, rfl, oF79, oR80, cF79, cR80, pr76⟩ := h78
            refine g_pop cx rfl d_law_349 ?_
            refine g_aload_n cx 1 rfl d_law_350 ?_
            refine g_aload_n cx 3 rfl d_law_351 ?_
            refine g_iload_n cx 0 rfl d_law_352 ?_
            refine g_iconst cx 1 (by decide) d_law_353 ?_
            refine g_iadd cx d_law_354 ?_
            refine g_sld sx d_law_355 (g_six 1 hL pi zc rfl (by decide : Int32.toInt 1 = 1) (by decide)) ?_
            refine g_topi (fun x81 ex81 => ?_)
            refine g_cViH cx [.int x81] [] (w_X11_away l X adm G0 S kI kA kT kC x81) ml_L_36 yV_X11_away d_law_356 (by unfold g_rr; decide) (by decide) 0 rfl rfl (wr := wX X adx F79 R80) (wc := wM X adm G0 S) rfl rfl (Nat.le_of_ble_eq_true rfl) (fun r82 w83 h84 => ?_)
            obtain ⟨F85, R86, rfl, oF85, oR86, wTF85, wCF85, cF85, cR86, pr82⟩ := h84
            refine g_pop cx rfl d_law_359 ?_
            refine g_goto cx 949 d_law_360 (by decide) ?_
            obtain ⟨zn, ezn⟩ : ∃ z : Int32, z = zi + Int32.ofInt 7 := ⟨_, rfl⟩
            have zs := g_sinc hL pi zc (show zn = zi + 7 from ezn)
            refine g_iinc cx zn [(3, .int zn), (2, .ref (adm 0)), (1, .ref (adx 0)), (0, .ref b)] 0 d_law_949 rfl ezn.symm (by decide) rfl ?_
            refine g_goto cx 18 d_law_952 (by decide) ?_
            exact ih _ _ _ _ zn oF79 oR80 oF85 oR86 wTF85 wCF85 (((cF79 16 rfl).trans hr0).trans (cF85 0 rfl).symm) (fun z => (((cF79 48 rfl).trans (hr1 (fun w => z ((cF79 11 rfl).trans w)))).trans (cF85 78 rfl).symm)) (((cF79 11 rfl).trans hr2).trans (cF85 77 rfl).symm) zs.1 (Nat.lt_of_lt_of_le zs.2 (Nat.le_of_lt_succ hm))
          · refine g_tableIn cx 363 d_law_33 (by rw [zwe]; decide) (by rw [zwe]; decide) (by rw [zwe]; rfl) (by decide) ?_
            refine g_aload_n cx 2 rfl d_law_363 ?_
            refine g_aload_n cx 3 rfl d_law_364 ?_
            refine g_iload_n cx 0 rfl d_law_365 ?_
            refine g_iconst cx 1 (by decide) d_law_366 ?_
            refine g_iadd cx d_law_367 ?_
            refine g_sld sx d_law_368 (g_six 1 hL pi zc rfl (by decide : Int32.toInt 1 = 1) (by decide)) ?_
            refine g_topi (fun x87 ex87 => ?_)
            refine g_aload_n cx 3 rfl d_law_369 ?_
            refine g_iload_n cx 0 rfl d_law_370 ?_
            refine g_iconst cx 2 (by decide) d_law_371 ?_
            refine g_iadd cx d_law_372 ?_
            refine g_sld sx d_law_373 (g_six 2 hL pi zc rfl (by decide : Int32.toInt 2 = 2) (by decide)) ?_
            refine g_topi (fun x88 ex88 => ?_)
            refine g_aload_n cx 3 rfl d_law_374 ?_
            refine g_iload_n cx 0 rfl d_law_375 ?_
            refine g_iconst cx 3 (by decide) d_law_376 ?_
            refine g_iadd cx d_law_377 ?_
            refine g_sld sx d_law_378 (g_six 3 hL pi zc rfl (by decide : Int32.toInt 3 = 3) (by decide)) ?_
            refine g_topi (fun x89 ex89 => ?_)
            refine g_aload_n cx 3 rfl d_law_379 ?_
            refine g_iload_n cx 0 rfl d_law_380 ?_
            refine g_iconst cx 4 (by decide) d_law_381 ?_
            refine g_iadd cx d_law_382 ?_
            refine g_sld sx d_law_383 (g_six 4 hL pi zc rfl (by decide : Int32.toInt 4 = 4) (by decide)) ?_
            refine g_topi (fun x90 ex90 => ?_)
            refine g_aload_n cx 3 rfl d_law_384 ?_
            refine g_iload_n cx 0 rfl d_law_385 ?_
            refine g_iconst cx 5 (by decide) d_law_386 ?_
            refine g_iadd cx d_law_387 ?_
            refine g_sld sx d_law_388 (g_six 5 hL pi zc rfl (by decide : Int32.toInt 5 = 5) (by decide)) ?_
            refine g_topi (fun x91 ex91 => ?_)
            refine g_cViH cx [.int x87, .int x88, .int x89, .int x90, .int x91] [] (w_X10_feed l X adx F R hI hA x87 x88 x89 x90 x91) ml_L_37 yV_X10_feed d_law_389 (by unfold g_rr; decide) (by decide) 0 rfl rfl (wr := wM X adm G0 S) (wc := wX X adx F R) rfl rfl (Nat.le_of_ble_eq_true rfl) (fun r92 w93 h94 => ?_)
            obtain ⟨F95, R96, rfl, oF95, oR96, cF95, cR96, pr92⟩ := h94
            refine g_pop cx rfl d_law_392 ?_
            refine g_aload_n cx 1 rfl d_law_393 ?_
            refine g_aload_n cx 3 rfl d_law_394 ?_
            refine g_iload_n cx 0 rfl d_law_395 ?_
            refine g_iconst cx 1 (by decide) d_law_396 ?_
            refine g_iadd cx d_law_397 ?_
            refine g_sld sx d_law_398 (g_six 1 hL pi zc rfl (by decide : Int32.toInt 1 = 1) (by decide)) ?_
            refine g_topi (fun x97 ex97 => ?_)
            refine g_aload_n cx 3 rfl d_law_399 ?_
            refine g_iload_n cx 0 rfl d_law_400 ?_
            refine g_iconst cx 2 (by decide) d_law_401 ?_
            refine g_iadd cx d_law_402 ?_
            refine g_sld sx d_law_403 (g_six 2 hL pi zc rfl (by decide : Int32.toInt 2 = 2) (by decide)) ?_
            refine g_topi (fun x98 ex98 => ?_)
            refine g_aload_n cx 3 rfl d_law_404 ?_
            refine g_iload_n cx 0 rfl d_law_405 ?_
            refine g_iconst cx 3 (by decide) d_law_406 ?_
            refine g_iadd cx d_law_407 ?_
            refine g_sld sx d_law_408 (g_six 3 hL pi zc rfl (by decide : Int32.toInt 3 = 3) (by decide)) ?_
            refine g_topi (fun x99 ex99 => ?_)
            refine g_aload_n cx 3 rfl d_law_409 ?_
            refine g_iload_n cx 0 rfl d_law_410 ?_
            refine g_iconst cx 4 (by decide) d_law_411 ?_
            refine g_iadd cx d_law_412 ?_
            refine g_sld sx d_law_413 (g_six 4 hL pi zc rfl (by decide : Int32.toInt 4 = 4) (by decide)) ?_
            refine g_topi (fun x100 ex100 => ?_)
            refine g_aload_n cx 3 rfl d_law_414 ?_
            refine g_iload_n cx 0 rfl d_law_415 ?_
            refine g_iconst cx 5 (by decide) d_law_416 ?_
            refine g_iadd cx d_law_417 ?_
            refine g_sld sx d_law_418 (g_six 5 hL pi zc rfl (by decide : Int32.toInt 5 = 5) (by decide)) ?_
            refine g_topi (fun x101 ex101 => ?_)
            refine g_cViH cx [.int x97, .int x98, .int x99, .int x100, .int x101] [] (w_X11_feed l X adm G0 S kI kA kT kC x97 x98 x99 x100 x101) ml_L_41 yV_X11_feed d_law_419 (by unfold g_rr; decide) (by decide) 0 rfl rfl (wr := wX X adx F95 R96) (wc := wM X adm G0 S) rfl rfl (Nat.le_of_ble_eq_true rfl) (fun r102 w103 h104 => ?_)
            obtain ⟨F105, R106, rfl, oF105, oR106, wTF105, wCF105, cF105, cR106, pr102⟩ := h104
            refine g_pop cx rfl d_law_422 ?_
            refine g_goto cx 949 d_law_423 (by decide) ?_
            obtain ⟨zn, ezn⟩ : ∃ z : Int32, z = zi + Int32.ofInt 7 := ⟨_, rfl⟩
            have zs := g_sinc hL pi zc (show zn = zi + 7 from ezn)
            refine g_iinc cx zn [(3, .int zn), (2, .ref (adm 0)), (1, .ref (adx 0)), (0, .ref b)] 0 d_law_949 rfl ezn.symm (by decide) rfl ?_
            refine g_goto cx 18 d_law_952 (by decide) ?_
            exact ih _ _ _ _ zn oF95 oR96 oF105 oR106 wTF105 wCF105 (((cF95 16 rfl).trans hr0).trans (cF105 0 rfl).symm) (fun z => (((cF95 48 rfl).trans (hr1 (fun w => z ((cF95 11 rfl).trans w)))).trans (cF105 78 rfl).symm)) (((cF95 11 rfl).trans hr2).trans (cF105 77 rfl).symm) zs.1 (Nat.lt_of_lt_of_le zs.2 (Nat.le_of_lt_succ hm))
          · refine g_tableIn cx 426 d_law_33 (by rw [zwe]; decide) (by rw [zwe]; decide) (by rw [zwe]; rfl) (by decide) ?_
            refine g_aload_n cx 2 rfl d_law_426 ?_
            refine g_aload_n cx 3 rfl d_law_427 ?_
            refine g_iload_n cx 0 rfl d_law_428 ?_
            refine g_iconst cx 1 (by decide) d_law_429 ?_
            refine g_iadd cx d_law_430 ?_
            refine g_sld sx d_law_431 (g_six 1 hL pi zc rfl (by decide : Int32.toInt 1 = 1) (by decide)) ?_
            refine g_topi (fun x107 ex107 => ?_)
            refine g_cViH cx [.int x107] [] (w_X10_pull l X adx F R hI hA x107) ml_L_42 yV_X10_pull d_law_432 (by unfold g_rr; decide) (by decide) 0 rfl rfl (wr := wM X adm G0 S) (wc := wX X adx F R) rfl rfl (Nat.le_of_ble_eq_true rfl) (fun r108 w109 h110 => ?_)
            obtain ⟨F111, R112, rfl, oF111, oR112, cF111, cR112, pr108⟩ := h110
            refine g_pop cx rfl d_law_435 ?_
            refine g_aload_n cx 1 rfl d_law_436 ?_
            refine g_aload_n cx 3 rfl d_law_437 ?_
            refine g_iload_n cx 0 rfl d_law_438 ?_
            refine g_iconst cx 1 (by decide) d_law_439 ?_
            refine g_iadd cx d_law_440 ?_
            refine g_sld sx d_law_441 (g_six 1 hL pi zc rfl (by decide : Int32.toInt 1 = 1) (by decide)) ?_
            refine g_topi (fun x113 ex113 => ?_)
            refine g_cViH cx [.int x113] [] (w_X11_pull l X adm G0 S kI kA kT kC x113) ml_L_46 yV_X11_pull d_law_442 (by unfold g_rr; decide) (by decide) 0 rfl rfl (wr := wX X adx F111 R112) (wc := wM X adm G0 S) rfl rfl (Nat.le_of_ble_eq_true rfl) (fun r114 w115 h116 => ?_)
            obtain ⟨F117, R118, rfl, oF117, oR118, wTF117, wCF117, cF117, cR118, pr114⟩ := h116
            refine g_pop cx rfl d_law_445 ?_
            refine g_goto cx 949 d_law_446 (by decide) ?_
            obtain ⟨zn, ezn⟩ : ∃ z : Int32, z = zi + Int32.ofInt 7 := ⟨_, rfl⟩
            have zs := g_sinc hL pi zc (show zn = zi + 7 from ezn)
            refine g_iinc cx zn [(3, .int zn), (2, .ref (adm 0)), (1, .ref (adx 0)), (0, .ref b)] 0 d_law_949 rfl ezn.symm (by decide) rfl ?_
            refine g_goto cx 18 d_law_952 (by decide) ?_
            exact ih _ _ _ _ zn oF111 oR112 oF117 oR118 wTF117 wCF117 (((cF111 16 rfl).trans hr0).trans (cF117 0 rfl).symm) (fun z => (((cF111 48 rfl).trans (hr1 (fun w => z ((cF111 11 rfl).trans w)))).trans (cF117 78 rfl).symm)) (((cF111 11 rfl).trans hr2).trans (cF117 77 rfl).symm) zs.1 (Nat.lt_of_lt_of_le zs.2 (Nat.le_of_lt_succ hm))
          · refine g_tableIn cx 449 d_law_33 (by rw [zwe]; decide) (by rw [zwe]; decide) (by rw [zwe]; rfl) (by decide) ?_
            refine g_aload_n cx 2 rfl d_law_449 ?_
            refine g_aload_n cx 3 rfl d_law_450 ?_
            refine g_iload_n cx 0 rfl d_law_451 ?_
            refine g_iconst cx 1 (by decide) d_law_452 ?_
            refine g_iadd cx d_law_453 ?_
            refine g_sld sx d_law_454 (g_six 1 hL pi zc rfl (by decide : Int32.toInt 1 = 1) (by decide)) ?_
            refine g_topi (fun x119 ex119 => ?_)
            refine g_cViH cx [.int x119] [] (w_X10_law l X adx F R hI hA x119) ml_L_47 yV_X10_law d_law_455 (by unfold g_rr; decide) (by decide) 0 rfl rfl (wr := wM X adm G0 S) (wc := wX X adx F R) rfl rfl (Nat.le_of_ble_eq_true rfl) (fun r120 w121 h122 => ?_)
            obtain ⟨F123, R124, rfl, oF123, oR124, cF123, cR124, pr120⟩ := h122
            refine g_pop cx rfl d_law_458 ?_
            refine g_aload_n cx 1 rfl d_law_459 ?_
            refine g_aload_n cx 3 rfl d_law_460 ?_
            refine g_iload_n cx 0 rfl d_law_461 ?_
            refine g_iconst cx 1 (by decide) d_law_462 ?_
            refine g_iadd cx d_law_463 ?_
            refine g_sld sx d_law_464 (g_six 1 hL pi zc rfl (by decide : Int32.toInt 1 = 1) (by decide)) ?_
            refine g_topi (fun x125 ex125 => ?_)
            refine g_cViH cx [.int x125] [] (w_X11_law l X adm G0 S kI kA kT kC x125) ml_L_50 yV_X11_law d_law_465 (by unfold g_rr; decide) (by decide) 0 rfl rfl (wr := wX X adx F123 R124) (wc := wM X adm G0 S) rfl rfl (Nat.le_of_ble_eq_true rfl) (fun r126 w127 h128 => ?_)
            obtain ⟨F129, R130, rfl, oF129, oR130, wTF129, wCF129, cF129, cR130, pr126⟩ := h128
            refine g_pop cx rfl d_law_468 ?_
            refine g_goto cx 949 d_law_469 (by decide) ?_
            obtain ⟨zn, ezn⟩ : ∃ z : Int32, z = zi + Int32.ofInt 7 := ⟨_, rfl⟩
            have zs := g_sinc hL pi zc (show zn = zi + 7 from ezn)
            refine g_iinc cx zn [(3, .int zn), (2, .ref (adm 0)), (1, .ref (adx 0)), (0, .ref b)] 0 d_law_949 rfl ezn.symm (by decide) rfl ?_
            refine g_goto cx 18 d_law_952 (by decide) ?_
            exact ih _ _ _ _ zn oF123 oR124 oF129 oR130 wTF129 wCF129 (((cF123 16 rfl).trans hr0).trans (cF129 0 rfl).symm) (fun z => (((cF123 48 rfl).trans (hr1 (fun w => z ((cF123 11 rfl).trans w)))).trans (cF129 78 rfl).symm)) (((cF123 11 rfl).trans hr2).trans (cF129 77 rfl).symm) zs.1 (Nat.lt_of_lt_of_le zs.2 (Nat.le_of_lt_succ hm))
          · refine g_tableIn cx 472 d_law_33 (by rw [zwe]; decide) (by rw [zwe]; decide) (by rw [zwe]; rfl) (by decide) ?_
            refine g_aload_n cx 2 rfl d_law_472 ?_
            refine g_aload_n cx 3 rfl d_law_473 ?_
            refine g_iload_n cx 0 rfl d_law_474 ?_
            refine g_iconst cx 1 (by decide) d_law_475 ?_
            refine g_iadd cx d_law_476 ?_
            refine g_sld sx d_law_477 (g_six 1 hL pi zc rfl (by decide : Int32.toInt 1 = 1) (by decide)) ?_
            refine g_topi (fun x131 ex131 => ?_)
            refine g_cViH cx [.int x131] [] (w_X10_tried l X adx F R hI hA x131) ml_L_51 yV_X10_tried d_law_478 (by unfold g_rr; decide) (by decide) 0 rfl rfl (wr := wM X adm G0 S) (wc := wX X adx F R) rfl rfl (Nat.le_of_ble_eq_true rfl) (fun r132 w133 h134 => ?_)
            obtain ⟨F135, R136, rfl, oF135, oR136, cF135, cR136, pr132⟩ := h134
            refine g_pop cx rfl d_law_481 ?_
            refine g_aload_n cx 1 rfl d_law_482 ?_
            refine g_aload_n cx 3 rfl d_law_483 ?_
            refine g_iload_n cx 0 rfl d_law_484 ?_
            refine g_iconst cx 1 (by decide) d_law_485 ?_
            refine g_iadd cx d_law_486 ?_
            refine g_sld sx d_law_487 (g_six 1 hL pi zc rfl (by decide : Int32.toInt 1 = 1) (by decide)) ?_
            refine g_topi (fun x137 ex137 => ?_)
            refine g_cViH cx [.int x137] [] (w_X11_tried l X adm G0 S kI kA kT kC x137) ml_L_54 yV_X11_tried d_law_488 (by unfold g_rr; decide) (by decide) 0 rfl rfl (wr := wX X adx F135 R136) (wc := wM X adm G0 S) rfl rfl (Nat.le_of_ble_eq_true rfl) (fun r138 w139 h140 => ?_)
            obtain ⟨F141, R142, rfl, oF141, oR142, wTF141, wCF141, cF141, cR142, pr138⟩ := h140
            refine g_pop cx rfl d_law_491 ?_
            refine g_goto cx 949 d_law_492 (by decide) ?_
            obtain ⟨zn, ezn⟩ : ∃ z : Int32, z = zi + Int32.ofInt 7 := ⟨_, rfl⟩
            have zs := g_sinc hL pi zc (show zn = zi + 7 from ezn)
            refine g_iinc cx zn [(3, .int zn), (2, .ref (adm 0)), (1, .ref (adx 0)), (0, .ref b)] 0 d_law_949 rfl ezn.symm (by decide) rfl ?_
            refine g_goto cx 18 d_law_952 (by decide) ?_
            exact ih _ _ _ _ zn oF135 oR136 oF141 oR142 wTF141 wCF141 (((cF135 16 rfl).trans hr0).trans (cF141 0 rfl).symm) (fun z => (((cF135 48 rfl).trans (hr1 (fun w => z ((cF135 11 rfl).trans w)))).trans (cF141 78 rfl).symm)) (((cF135 11 rfl).trans hr2).trans (cF141 77 rfl).symm) zs.1 (Nat.lt_of_lt_of_le zs.2 (Nat.le_of_lt_succ hm))
          · refine g_tableIn cx 495 d_law_33 (by rw [zwe]; decide) (by rw [zwe]; decide) (by rw [zwe]; rfl) (by decide) ?_
            refine g_aload_n cx 2 rfl d_law_495 ?_
            refine g_aload_n cx 3 rfl d_law_496 ?_
            refine g_iload_n cx 0 rfl d_law_497 ?_
            refine g_iconst cx 1 (by decide) d_law_498 ?_
            refine g_iadd cx d_law_499 ?_
            refine g_sld sx d_law_500 (g_six 1 hL pi zc rfl (by decide : Int32.toInt 1 = 1) (by decide)) ?_
            refine g_topi (fun x143 ex143 => ?_)
            refine g_cViH cx [.int x143] [] (w_X10_still l X adx F R hI hA x143) ml_L_55 yV_X10_still d_law_501 (by unfold g_rr; decide) (by decide) 0 rfl rfl (wr := wM X adm G0 S) (wc := wX X adx F R) rfl rfl (Nat.le_of_ble_eq_true rfl) (fun r144 w145 h146 => ?_)
            obtain ⟨F147, R148, rfl, oF147, oR148, cF147, cR148, pr144⟩ := h146
            refine g_pop cx rfl d_law_504 ?_
            refine g_aload_n cx 1 rfl d_law_505 ?_
            refine g_aload_n cx 3 rfl d_law_506 ?_
            refine g_iload_n cx 0 rfl d_law_507 ?_
            refine g_iconst cx 1 (by decide) d_law_508 ?_
            refine g_iadd cx d_law_509 ?_
            refine g_sld sx d_law_510 (g_six 1 hL pi zc rfl (by decide : Int32.toInt 1 = 1) (by decide)) ?_
            refine g_topi (fun x149 ex149 => ?_)
            refine g_cViH cx [.int x149] [] (w_X11_still l X adm G0 S kI kA kT kC x149) ml_L_58 yV_X11_still d_law_511 (by unfold g_rr; decide) (by decide) 0 rfl rfl (wr := wX X adx F147 R148) (wc := wM X adm G0 S) rfl rfl (Nat.le_of_ble_eq_true rfl) (fun r150 w151 h152 => ?_)
            obtain ⟨F153, R154, rfl, oF153, oR154, wTF153, wCF153, cF153, cR154, pr150⟩ := h152
            refine g_pop cx rfl d_law_514 ?_
            refine g_goto cx 949 d_law_515 (by decide) ?_
            obtain ⟨zn, ezn⟩ : ∃ z : Int32, z = zi + Int32.ofInt 7 := ⟨_, rfl⟩
            have zs := g_sinc hL pi zc (show zn = zi + 7 from ezn)
            refine g_iinc cx zn [(3, .int zn), (2, .ref (adm 0)), (1, .ref (adx 0)), (0, .ref b)] 0 d_law_949 rfl ezn.symm (by decide) rfl ?_
            refine g_goto cx 18 d_law_952 (by decide) ?_
            exact ih _ _ _ _ zn oF147 oR148 oF153 oR154 wTF153 wCF153 (((cF147 16 rfl).trans hr0).trans (cF153 0 rfl).symm) (fun z => (((cF147 48 rfl).trans (hr1 (fun w => z ((cF147 11 rfl).trans w)))).trans (cF153 78 rfl).symm)) (((cF147 11 rfl).trans hr2).trans (cF153 77 rfl).symm) zs.1 (Nat.lt_of_lt_of_le zs.2 (Nat.le_of_lt_succ hm))
          · refine g_tableIn cx 518 d_law_33 (by rw [zwe]; decide) (by rw [zwe]; decide) (by rw [zwe]; rfl) (by decide) ?_
            refine g_aload_n cx 2 rfl d_law_518 ?_
            refine g_cViH cx [] [] (w_X10_done l X adx F R hI hA ) ml_L_59 yV_X10_done d_law_519 (by unfold g_rr; decide) (by decide) 0 rfl rfl (wr := wM X adm G0 S) (wc := wX X adx F R) rfl rfl (Nat.le_of_ble_eq_true rfl) (fun r155 w156 h157 => ?_)
            obtain ⟨F158, R159, rfl, oF158, oR159, cF158, cR159, pr155⟩ := h157
            refine g_pop cx rfl d_law_522 ?_
            refine g_aload_n cx 1 rfl d_law_523 ?_
            refine g_cViH cx [] [] (w_X11_done l X adm G0 S kI kA kT kC ) ml_L_63 yV_X11_done d_law_524 (by unfold g_rr; decide) (by decide) 0 rfl rfl (wr := wX X adx F158 R159) (wc := wM X adm G0 S) rfl rfl (Nat.le_of_ble_eq_true rfl) (fun r160 w161 h162 => ?_)
            obtain ⟨F163, R164, rfl, oF163, oR164, wTF163, wCF163, cF163, cR164, pr160⟩ := h162
            refine g_pop cx rfl d_law_527 ?_
            refine g_goto cx 949 d_law_528 (by decide) ?_
            obtain ⟨zn, ezn⟩ : ∃ z : Int32, z = zi + Int32.ofInt 7 := ⟨_, rfl⟩
            have zs := g_sinc hL pi zc (show zn = zi + 7 from ezn)
            refine g_iinc cx zn [(3, .int zn), (2, .ref (adm 0)), (1, .ref (adx 0)), (0, .ref b)] 0 d_law_949 rfl ezn.symm (by decide) rfl ?_
            refine g_goto cx 18 d_law_952 (by decide) ?_
            exact ih _ _ _ _ zn oF158 oR159 oF163 oR164 wTF163 wCF163 (((cF158 16 rfl).trans hr0).trans (cF163 0 rfl).symm) (fun z => (((cF158 48 rfl).trans (hr1 (fun w => z ((cF158 11 rfl).trans w)))).trans (cF163 78 rfl).symm)) (((cF158 11 rfl).trans hr2).trans (cF163 77 rfl).symm) zs.1 (Nat.lt_of_lt_of_le zs.2 (Nat.le_of_lt_succ hm))
          · refine g_tableIn cx 531 d_law_33 (by rw [zwe]; decide) (by rw [zwe]; decide) (by rw [zwe]; rfl) (by decide) ?_
            refine g_aload_n cx 2 rfl d_law_531 ?_
            refine g_aload_n cx 3 rfl d_law_532 ?_
            refine g_iload_n cx 0 rfl d_law_533 ?_
            refine g_iconst cx 1 (by decide) d_law_534 ?_
            refine g_iadd cx d_law_535 ?_
            refine g_sld sx d_law_536 (g_six 1 hL pi zc rfl (by decide : Int32.toInt 1 = 1) (by decide)) ?_
            refine g_topi (fun x165 ex165 => ?_)
            refine g_aload_n cx 3 rfl d_law_537 ?_
            refine g_iload_n cx 0 rfl d_law_538 ?_
            refine g_iconst cx 2 (by decide) d_law_539 ?_
            refine g_iadd cx d_law_540 ?_
            refine g_sld sx d_law_541 (g_six 2 hL pi zc rfl (by decide : Int32.toInt 2 = 2) (by decide)) ?_
            refine g_topi (fun x166 ex166 => ?_)
            refine g_cViH cx [.int x165, .int x166] [] (w_X10_thingIs l X adx F R hI hA x165 x166) ml_L_64 yV_X10_thingIs d_law_542 (by unfold g_rr; decide) (by decide) 0 rfl rfl (wr := wM X adm G0 S) (wc := wX X adx F R) rfl rfl (Nat.le_of_ble_eq_true rfl) (fun r167 w168 h169 => ?_)
            obtain ⟨rfl, zx170⟩ := h169
            refine g_pop cx rfl d_law_545 ?_
            refine g_aload_n cx 1 rfl d_law_546 ?_
            refine g_aload_n cx 3 rfl d_law_547 ?_
            refine g_iload_n cx 0 rfl d_law_548 ?_
            refine g_iconst cx 1 (by decide) d_law_549 ?_
            refine g_iadd cx d_law_550 ?_
            refine g_sld sx d_law_551 (g_six 1 hL pi zc rfl (by decide : Int32.toInt 1 = 1) (by decide)) ?_
            refine g_topi (fun x171 ex171 => ?_)
            refine g_aload_n cx 3 rfl d_law_552 ?_
            refine g_iload_n cx 0 rfl d_law_553 ?_
            refine g_iconst cx 2 (by decide) d_law_554 ?_
            refine g_iadd cx d_law_555 ?_
            refine g_sld sx d_law_556 (g_six 2 hL pi zc rfl (by decide : Int32.toInt 2 = 2) (by decide)) ?_
            refine g_topi (fun x172 ex172 => ?_)
            refine g_cViH cx [.int x171, .int x172] [] (w_X11_thingIs l X adm G0 S kI kA kT kC x171 x172) ml_L_68 yV_X11_thingIs d_law_557 (by unfold g_rr; decide) (by decide) 0 rfl rfl (wr := wX X adx F R) (wc := wM X adm G0 S) rfl rfl (Nat.le_of_ble_eq_true rfl) (fun r173 w174 h175 => ?_)
            obtain ⟨rfl, zx176⟩ := h175
            refine g_pop cx rfl d_law_560 ?_
            refine g_goto cx 949 d_law_561 (by decide) ?_
            obtain ⟨zn, ezn⟩ : ∃ z : Int32, z = zi + Int32.ofInt 7 := ⟨_, rfl⟩
            have zs := g_sinc hL pi zc (show zn = zi + 7 from ezn)
            refine g_iinc cx zn [(3, .int zn), (2, .ref (adm 0)), (1, .ref (adx 0)), (0, .ref b)] 0 d_law_949 rfl ezn.symm (by decide) rfl ?_
            refine g_goto cx 18 d_law_952 (by decide) ?_
            exact ih _ _ _ _ zn hI hA kI kA kT kC hr0 (fun z => (hr1 (fun w => z w))) hr2 zs.1 (Nat.lt_of_lt_of_le zs.2 (Nat.le_of_lt_succ hm))
          · refine g_tableIn cx 564 d_law_33 (by rw [zwe]; decide) (by rw [zwe]; decide) (by rw [zwe]; rfl) (by decide) ?_
            refine g_aload_n cx 2 rfl d_law_564 ?_
            refine g_cViH cx [] [] (w_X10_pace l X adx F R hI hA ) ml_L_69 yV_X10_pace d_law_565 (by unfold g_rr; decide) (by decide) 0 rfl rfl (wr := wM X adm G0 S) (wc := wX X adx F R) rfl rfl (Nat.le_of_ble_eq_true rfl) (fun r177 w178 h179 => ?_)
            obtain ⟨F180, R181, rfl, oF180, oR181, cF180, cR181, pr177⟩ := h179
            refine g_pop cx rfl d_law_568 ?_
            refine g_aload_n cx 1 rfl d_law_569 ?_
            refine g_cViH cx [] [] (w_X11_pace l X adm G0 S kI kA kT kC ) ml_L_72 yV_X11_pace d_law_570 (by unfold g_rr; decide) (by decide) 0 rfl rfl (wr := wX X adx F180 R181) (wc := wM X adm G0 S) rfl rfl (Nat.le_of_ble_eq_true rfl) (fun r182 w183 h184 => ?_)
            obtain ⟨F185, R186, rfl, oF185, oR186, wTF185, wCF185, cF185, cR186, pr182⟩ := h184
            refine g_pop cx rfl d_law_573 ?_
            refine g_goto cx 949 d_law_574 (by decide) ?_
            obtain ⟨zn, ezn⟩ : ∃ z : Int32, z = zi + Int32.ofInt 7 := ⟨_, rfl⟩
            have zs := g_sinc hL pi zc (show zn = zi + 7 from ezn)
            refine g_iinc cx zn [(3, .int zn), (2, .ref (adm 0)), (1, .ref (adx 0)), (0, .ref b)] 0 d_law_949 rfl ezn.symm (by decide) rfl ?_
            refine g_goto cx 18 d_law_952 (by decide) ?_
            exact ih _ _ _ _ zn oF180 oR181 oF185 oR186 wTF185 wCF185 (((cF180 16 rfl).trans hr0).trans (cF185 0 rfl).symm) (fun z => (((cF180 48 rfl).trans (hr1 (fun w => z ((cF180 11 rfl).trans w)))).trans (cF185 78 rfl).symm)) (((cF180 11 rfl).trans hr2).trans (cF185 77 rfl).symm) zs.1 (Nat.lt_of_lt_of_le zs.2 (Nat.le_of_lt_succ hm))
          · refine g_tableIn cx 577 d_law_33 (by rw [zwe]; decide) (by rw [zwe]; decide) (by rw [zwe]; rfl) (by decide) ?_
            refine g_aload_n cx 2 rfl d_law_577 ?_
            refine g_aload_n cx 3 rfl d_law_578 ?_
            refine g_iload_n cx 0 rfl d_law_579 ?_
            refine g_iconst cx 1 (by decide) d_law_580 ?_
            refine g_iadd cx d_law_581 ?_
            refine g_sld sx d_law_582 (g_six 1 hL pi zc rfl (by decide : Int32.toInt 1 = 1) (by decide)) ?_
            refine g_topi (fun x187 ex187 => ?_)
            refine g_cViH cx [.int x187] [] (w_X10_best l X adx F R hI hA x187) ml_L_73 yV_X10_best d_law_583 (by unfold g_rr; decide) (by decide) 0 rfl rfl (wr := wM X adm G0 S) (wc := wX X adx F R) rfl rfl (Nat.le_of_ble_eq_true rfl) (fun r188 w189 h190 => ?_)
            obtain ⟨F191, R192, rfl, oF191, oR192, cF191, cR192, pr188⟩ := h190
            refine g_pop cx rfl d_law_586 ?_
            refine g_aload_n cx 1 rfl d_law_587 ?_
            refine g_aload_n cx 3 rfl d_law_588 ?_
            refine g_iload_n cx 0 rfl d_law_589 ?_
            refine g_iconst cx 1 (by decide) d_law_590 ?_
            refine g_iadd cx d_law_591 ?_
            refine g_sld sx d_law_592 (g_six 1 hL pi zc rfl (by decide : Int32.toInt 1 = 1) (by decide)) ?_
            refine g_topi (fun x193 ex193 => ?_)
            refine g_cViH cx [.int x193] [] (w_X11_best l X adm G0 S kI kA kT kC x193) ml_L_76 yV_X11_best d_law_593 (by unfold g_rr; decide) (by decide) 0 rfl rfl (wr := wX X adx F191 R192) (wc := wM X adm G0 S) rfl rfl (Nat.le_of_ble_eq_true rfl) (fun r194 w195 h196 => ?_)
            obtain ⟨F197, R198, rfl, oF197, oR198, wTF197, wCF197, cF197, cR198, pr194⟩ := h196
            refine g_pop cx rfl d_law_596 ?_
            refine g_goto cx 949 d_law_597 (by decide) ?_
            obtain ⟨zn, ezn⟩ : ∃ z : Int32, z = zi + Int32.ofInt 7 := ⟨_, rfl⟩
            have zs := g_sinc hL pi zc (show zn = zi + 7 from ezn)
            refine g_iinc cx zn [(3, .int zn), (2, .ref (adm 0)), (1, .ref (adx 0)), (0, .ref b)] 0 d_law_949 rfl ezn.symm (by decide) rfl ?_
            refine g_goto cx 18 d_law_952 (by decide) ?_
            exact ih _ _ _ _ zn oF191 oR192 oF197 oR198 wTF197 wCF197 (((cF191 16 rfl).trans hr0).trans (cF197 0 rfl).symm) (fun z => (((cF191 48 rfl).trans (hr1 (fun w => z ((cF191 11 rfl).trans w)))).trans (cF197 78 rfl).symm)) (((cF191 11 rfl).trans hr2).trans (cF197 77 rfl).symm) zs.1 (Nat.lt_of_lt_of_le zs.2 (Nat.le_of_lt_succ hm))
          · refine g_tableIn cx 600 d_law_33 (by rw [zwe]; decide) (by rw [zwe]; decide) (by rw [zwe]; rfl) (by decide) ?_
            refine g_aload_n cx 2 rfl d_law_600 ?_
            refine g_aload_n cx 3 rfl d_law_601 ?_
            refine g_iload_n cx 0 rfl d_law_602 ?_
            refine g_iconst cx 1 (by decide) d_law_603 ?_
            refine g_iadd cx d_law_604 ?_
            refine g_sld sx d_law_605 (g_six 1 hL pi zc rfl (by decide : Int32.toInt 1 = 1) (by decide)) ?_
            refine g_topi (fun x199 ex199 => ?_)
            refine g_aload_n cx 3 rfl d_law_606 ?_
            refine g_iload_n cx 0 rfl d_law_607 ?_
            refine g_iconst cx 2 (by decide) d_law_608 ?_
            refine g_iadd cx d_law_609 ?_
            refine g_sld sx d_law_610 (g_six 2 hL pi zc rfl (by decide : Int32.toInt 2 = 2) (by decide)) ?_
            refine g_topi (fun x200 ex200 => ?_)
            refine g_cViH cx [.int x199, .int x200] [] (w_X10_put l X adx F R hI hA x199 x200) ml_L_77 yV_X10_put d_law_611 (by unfold g_rr; decide) (by decide) 0 rfl rfl (wr := wM X adm G0 S) (wc := wX X adx F R) rfl rfl (Nat.le_of_ble_eq_true rfl) (fun r201 w202 h203 => ?_)
            obtain ⟨F204, R205, rfl, oF204, oR205, cF204, cR205, pr201⟩ := h203
            refine g_pop cx rfl d_law_614 ?_
            refine g_aload_n cx 1 rfl d_law_615 ?_
            refine g_aload_n cx 3 rfl d_law_616 ?_
            refine g_iload_n cx 0 rfl d_law_617 ?_
            refine g_iconst cx 1 (by decide) d_law_618 ?_
            refine g_iadd cx d_law_619 ?_
            refine g_sld sx d_law_620 (g_six 1 hL pi zc rfl (by decide : Int32.toInt 1 = 1) (by decide)) ?_
            refine g_topi (fun x206 ex206 => ?_)
            refine g_aload_n cx 3 rfl d_law_621 ?_
            refine g_iload_n cx 0 rfl d_law_622 ?_
            refine g_iconst cx 2 (by decide) d_law_623 ?_
            refine g_iadd cx d_law_624 ?_
            refine g_sld sx d_law_625 (g_six 2 hL pi zc rfl (by decide : Int32.toInt 2 = 2) (by decide)) ?_
            refine g_topi (fun x207 ex207 => ?_)
            refine g_cViH cx [.int x206, .int x207] [] (w_X11_put l X adm G0 S kI kA kT kC x206 x207) ml_L_80 yV_X11_put d_law_626 (by unfold g_rr; decide) (by decide) 0 rfl rfl (wr := wX X adx F204 R205) (wc := wM X adm G0 S) rfl rfl (Nat.le_of_ble_eq_true rfl) (fun r208 w209 h210 => ?_)
            obtain ⟨F211, R212, rfl, oF211, oR212, wTF211, wCF211, cF211, cR212, pr208⟩ := h210
            refine g_pop cx rfl d_law_629 ?_
            refine g_goto cx 949 d_law_630 (by decide) ?_
            obtain ⟨zn, ezn⟩ : ∃ z : Int32, z = zi + Int32.ofInt 7 := ⟨_, rfl⟩
            have zs := g_sinc hL pi zc (show zn = zi + 7 from ezn)
            refine g_iinc cx zn [(3, .int zn), (2, .ref (adm 0)), (1, .ref (adx 0)), (0, .ref b)] 0 d_law_949 rfl ezn.symm (by decide) rfl ?_
            refine g_goto cx 18 d_law_952 (by decide) ?_
            exact ih _ _ _ _ zn oF204 oR205 oF211 oR212 wTF211 wCF211 (((cF204 16 rfl).trans hr0).trans (cF211 0 rfl).symm) (fun z => (((cF204 48 rfl).trans (hr1 (fun w => z ((cF204 11 rfl).trans w)))).trans (cF211 78 rfl).symm)) (((cF204 11 rfl).trans hr2).trans (cF211 77 rfl).symm) zs.1 (Nat.lt_of_lt_of_le zs.2 (Nat.le_of_lt_succ hm))
          · refine g_tableIn cx 633 d_law_33 (by rw [zwe]; decide) (by rw [zwe]; decide) (by rw [zwe]; rfl) (by decide) ?_
            refine g_aload_n cx 2 rfl d_law_633 ?_
            refine g_aload_n cx 3 rfl d_law_634 ?_
            refine g_iload_n cx 0 rfl d_law_635 ?_
            refine g_iconst cx 1 (by decide) d_law_636 ?_
            refine g_iadd cx d_law_637 ?_
            refine g_sld sx d_law_638 (g_six 1 hL pi zc rfl (by decide : Int32.toInt 1 = 1) (by decide)) ?_
            refine g_topi (fun x213 ex213 => ?_)
            refine g_cViH cx [.int x213] [] (w_X10_most l X adx F R hI hA x213) ml_L_81 yV_X10_most d_law_639 (by unfold g_rr; decide) (by decide) 0 rfl rfl (wr := wM X adm G0 S) (wc := wX X adx F R) rfl rfl (Nat.le_of_ble_eq_true rfl) (fun r214 w215 h216 => ?_)
            obtain ⟨F217, R218, rfl, oF217, oR218, cF217, cR218, pr214⟩ := h216
            refine g_pop cx rfl d_law_642 ?_
            refine g_aload_n cx 1 rfl d_law_643 ?_
            refine g_aload_n cx 3 rfl d_law_644 ?_
            refine g_iload_n cx 0 rfl d_law_645 ?_
            refine g_iconst cx 1 (by decide) d_law_646 ?_
            refine g_iadd cx d_law_647 ?_
            refine g_sld sx d_law_648 (g_six 1 hL pi zc rfl (by decide : Int32.toInt 1 = 1) (by decide)) ?_
            refine g_topi (fun x219 ex219 => ?_)
            refine g_cViH cx [.int x219] [] (w_X11_most l X adm G0 S kI kA kT kC x219) ml_L_84 yV_X11_most d_law_649 (by unfold g_rr; decide) (by decide) 0 rfl rfl (wr := wX X adx F217 R218) (wc := wM X adm G0 S) rfl rfl (Nat.le_of_ble_eq_true rfl) (fun r220 w221 h222 => ?_)
            obtain ⟨F223, R224, rfl, oF223, oR224, wTF223, wCF223, cF223, cR224, pr220⟩ := h222
            refine g_pop cx rfl d_law_652 ?_
            refine g_goto cx 949 d_law_653 (by decide) ?_
            obtain ⟨zn, ezn⟩ : ∃ z : Int32, z = zi + Int32.ofInt 7 := ⟨_, rfl⟩
            have zs := g_sinc hL pi zc (show zn = zi + 7 from ezn)
            refine g_iinc cx zn [(3, .int zn), (2, .ref (adm 0)), (1, .ref (adx 0)), (0, .ref b)] 0 d_law_949 rfl ezn.symm (by decide) rfl ?_
            refine g_goto cx 18 d_law_952 (by decide) ?_
            exact ih _ _ _ _ zn oF217 oR218 oF223 oR224 wTF223 wCF223 (((cF217 16 rfl).trans hr0).trans (cF223 0 rfl).symm) (fun z => (((cF217 48 rfl).trans (hr1 (fun w => z ((cF217 11 rfl).trans w)))).trans (cF223 78 rfl).symm)) (((cF217 11 rfl).trans hr2).trans (cF223 77 rfl).symm) zs.1 (Nat.lt_of_lt_of_le zs.2 (Nat.le_of_lt_succ hm))
          · refine g_tableIn cx 656 d_law_33 (by rw [zwe]; decide) (by rw [zwe]; decide) (by rw [zwe]; rfl) (by decide) ?_
            refine g_aload_n cx 2 rfl d_law_656 ?_
            refine g_aload_n cx 3 rfl d_law_657 ?_
            refine g_iload_n cx 0 rfl d_law_658 ?_
            refine g_iconst cx 1 (by decide) d_law_659 ?_
            refine g_iadd cx d_law_660 ?_
            refine g_sld sx d_law_661 (g_six 1 hL pi zc rfl (by decide : Int32.toInt 1 = 1) (by decide)) ?_
            refine g_topi (fun x225 ex225 => ?_)
            refine g_aload_n cx 3 rfl d_law_662 ?_
            refine g_iload_n cx 0 rfl d_law_663 ?_
            refine g_iconst cx 2 (by decide) d_law_664 ?_
            refine g_iadd cx d_law_665 ?_
            refine g_sld sx d_law_666 (g_six 2 hL pi zc rfl (by decide : Int32.toInt 2 = 2) (by decide)) ?_
            refine g_topi (fun x226 ex226 => ?_)
            refine g_cViH cx [.int x225, .int x226] [] (w_X10_worth l X adx F R hI hA x225 x226) ml_L_85 yV_X10_worth d_law_667 (by unfold g_rr; decide) (by decide) 0 rfl rfl (wr := wM X adm G0 S) (wc := wX X adx F R) rfl rfl (Nat.le_of_ble_eq_true rfl) (fun r227 w228 h229 => ?_)
            obtain ⟨F230, R231, rfl, oF230, oR231, cF230, cR231, pr227⟩ := h229
            refine g_pop cx rfl d_law_670 ?_
            refine g_aload_n cx 1 rfl d_law_671 ?_
            refine g_aload_n cx 3 rfl d_law_672 ?_
            refine g_iload_n cx 0 rfl d_law_673 ?_
            refine g_iconst cx 1 (by decide) d_law_674 ?_
            refine g_iadd cx d_law_675 ?_
            refine g_sld sx d_law_676 (g_six 1 hL pi zc rfl (by decide : Int32.toInt 1 = 1) (by decide)) ?_
            refine g_topi (fun x232 ex232 => ?_)
            refine g_aload_n cx 3 rfl d_law_677 ?_
            refine g_iload_n cx 0 rfl d_law_678 ?_
            refine g_iconst cx 2 (by decide) d_law_679 ?_
            refine g_iadd cx d_law_680 ?_
            refine g_sld sx d_law_681 (g_six 2 hL pi zc rfl (by decide : Int32.toInt 2 = 2) (by decide)) ?_
            refine g_topi (fun x233 ex233 => ?_)
            refine g_cViH cx [.int x232, .int x233] [] (w_X11_worth l X adm G0 S kI kA kT kC x232 x233) ml_L_88 yV_X11_worth d_law_682 (by unfold g_rr; decide) (by decide) 0 rfl rfl (wr := wX X adx F230 R231) (wc := wM X adm G0 S) rfl rfl (Nat.le_of_ble_eq_true rfl) (fun r234 w235 h236 => ?_)
            obtain ⟨F237, R238, rfl, oF237, oR238, wTF237, wCF237, cF237, cR238, pr234⟩ := h236
            refine g_pop cx rfl d_law_685 ?_
            refine g_goto cx 949 d_law_686 (by decide) ?_
            obtain ⟨zn, ezn⟩ : ∃ z : Int32, z = zi + Int32.ofInt 7 := ⟨_, rfl⟩
            have zs := g_sinc hL pi zc (show zn = zi + 7 from ezn)
            refine g_iinc cx zn [(3, .int zn), (2, .ref (adm 0)), (1, .ref (adx 0)), (0, .ref b)] 0 d_law_949 rfl ezn.symm (by decide) rfl ?_
            refine g_goto cx 18 d_law_952 (by decide) ?_
            exact ih _ _ _ _ zn oF230 oR231 oF237 oR238 wTF237 wCF237 (((cF230 16 rfl).trans hr0).trans (cF237 0 rfl).symm) (fun z => (((cF230 48 rfl).trans (hr1 (fun w => z ((cF230 11 rfl).trans w)))).trans (cF237 78 rfl).symm)) (((cF230 11 rfl).trans hr2).trans (cF237 77 rfl).symm) zs.1 (Nat.lt_of_lt_of_le zs.2 (Nat.le_of_lt_succ hm))
          · refine g_tableIn cx 689 d_law_33 (by rw [zwe]; decide) (by rw [zwe]; decide) (by rw [zwe]; rfl) (by decide) ?_
            refine g_aload_n cx 2 rfl d_law_689 ?_
            refine g_aload_n cx 3 rfl d_law_690 ?_
            refine g_iload_n cx 0 rfl d_law_691 ?_
            refine g_iconst cx 1 (by decide) d_law_692 ?_
            refine g_iadd cx d_law_693 ?_
            refine g_sld sx d_law_694 (g_six 1 hL pi zc rfl (by decide : Int32.toInt 1 = 1) (by decide)) ?_
            refine g_topi (fun x239 ex239 => ?_)
            refine g_cViH cx [.int x239] [] (w_X10_wasWet l X adx F R hI hA x239) ml_L_89 yV_X10_wasWet d_law_695 (by unfold g_rr; decide) (by decide) 0 rfl rfl (wr := wM X adm G0 S) (wc := wX X adx F R) rfl rfl (Nat.le_of_ble_eq_true rfl) (fun r240 w241 h242 => ?_)
            obtain ⟨F243, R244, rfl, oF243, oR244, cF243, cR244, pr240⟩ := h242
            refine g_pop cx rfl d_law_698 ?_
            refine g_aload_n cx 1 rfl d_law_699 ?_
            refine g_aload_n cx 3 rfl d_law_700 ?_
            refine g_iload_n cx 0 rfl d_law_701 ?_
            refine g_iconst cx 1 (by decide) d_law_702 ?_
            refine g_iadd cx d_law_703 ?_
            refine g_sld sx d_law_704 (g_six 1 hL pi zc rfl (by decide : Int32.toInt 1 = 1) (by decide)) ?_
            refine g_topi (fun x245 ex245 => ?_)
            refine g_cViH cx [.int x245] [] (w_X11_wasWet l X adm G0 S kI kA kT kC x245) ml_L_92 yV_X11_wasWet d_law_705 (by unfold g_rr; decide) (by decide) 0 rfl rfl (wr := wX X adx F243 R244) (wc := wM X adm G0 S) rfl rfl (Nat.le_of_ble_eq_true rfl) (fun r246 w247 h248 => ?_)
            obtain ⟨F249, R250, rfl, oF249, oR250, wTF249, wCF249, cF249, cR250, pr246⟩ := h248
            refine g_pop cx rfl d_law_708 ?_
            refine g_goto cx 949 d_law_709 (by decide) ?_
            obtain ⟨zn, ezn⟩ : ∃ z : Int32, z = zi + Int32.ofInt 7 := ⟨_, rfl⟩
            have zs := g_sinc hL pi zc (show zn = zi + 7 from ezn)
            refine g_iinc cx zn [(3, .int zn), (2, .ref (adm 0)), (1, .ref (adx 0)), (0, .ref b)] 0 d_law_949 rfl ezn.symm (by decide) rfl ?_
            refine g_goto cx 18 d_law_952 (by decide) ?_
            exact ih _ _ _ _ zn oF243 oR244 oF249 oR250 wTF249 wCF249 (((cF243 16 rfl).trans hr0).trans (cF249 0 rfl).symm) (fun z => (((cF243 48 rfl).trans (hr1 (fun w => z ((cF243 11 rfl).trans w)))).trans (cF249 78 rfl).symm)) (((cF243 11 rfl).trans hr2).trans (cF249 77 rfl).symm) zs.1 (Nat.lt_of_lt_of_le zs.2 (Nat.le_of_lt_succ hm))
          · refine g_tableIn cx 712 d_law_33 (by rw [zwe]; decide) (by rw [zwe]; decide) (by rw [zwe]; rfl) (by decide) ?_
            refine g_aload_n cx 2 rfl d_law_712 ?_
            refine g_aload_n cx 3 rfl d_law_713 ?_
            refine g_iload_n cx 0 rfl d_law_714 ?_
            refine g_iconst cx 1 (by decide) d_law_715 ?_
            refine g_iadd cx d_law_716 ?_
            refine g_sld sx d_law_717 (g_six 1 hL pi zc rfl (by decide : Int32.toInt 1 = 1) (by decide)) ?_
            refine g_topi (fun x251 ex251 => ?_)
            refine g_cViH cx [.int x251] [] (w_X10_howQuick l X adx F R hI hA x251) ml_L_93 yV_X10_howQuick d_law_718 (by unfold g_rr; decide) (by decide) 0 rfl rfl (wr := wM X adm G0 S) (wc := wX X adx F R) rfl rfl (Nat.le_of_ble_eq_true rfl) (fun r252 w253 h254 => ?_)
            obtain ⟨F255, R256, rfl, oF255, oR256, cF255, cR256, pr252⟩ := h254
            refine g_pop cx rfl d_law_721 ?_
            refine g_aload_n cx 1 rfl d_law_722 ?_
            refine g_aload_n cx 3 rfl d_law_723 ?_
            refine g_iload_n cx 0 rfl d_law_724 ?_
            refine g_iconst cx 1 (by decide) d_law_725 ?_
            refine g_iadd cx d_law_726 ?_
            refine g_sld sx d_law_727 (g_six 1 hL pi zc rfl (by decide : Int32.toInt 1 = 1) (by decide)) ?_
            refine g_topi (fun x257 ex257 => ?_)
            refine g_cViH cx [.int x257] [] (w_X11_howQuick l X adm G0 S kI kA kT kC x257) ml_L_96 yV_X11_howQuick d_law_728 (by unfold g_rr; decide) (by decide) 0 rfl rfl (wr := wX X adx F255 R256) (wc := wM X adm G0 S) rfl rfl (Nat.le_of_ble_eq_true rfl) (fun r258 w259 h260 => ?_)
            obtain ⟨F261, R262, rfl, oF261, oR262, wTF261, wCF261, cF261, cR262, pr258⟩ := h260
            refine g_pop cx rfl d_law_731 ?_
            refine g_goto cx 949 d_law_732 (by decide) ?_
            obtain ⟨zn, ezn⟩ : ∃ z : Int32, z = zi + Int32.ofInt 7 := ⟨_, rfl⟩
            have zs := g_sinc hL pi zc (show zn = zi + 7 from ezn)
            refine g_iinc cx zn [(3, .int zn), (2, .ref (adm 0)), (1, .ref (adx 0)), (0, .ref b)] 0 d_law_949 rfl ezn.symm (by decide) rfl ?_
            refine g_goto cx 18 d_law_952 (by decide) ?_
            exact ih _ _ _ _ zn oF255 oR256 oF261 oR262 wTF261 wCF261 (((cF255 16 rfl).trans hr0).trans (cF261 0 rfl).symm) (fun z => (((cF255 48 rfl).trans (hr1 (fun w => z ((cF255 11 rfl).trans w)))).trans (cF261 78 rfl).symm)) (((cF255 11 rfl).trans hr2).trans (cF261 77 rfl).symm) zs.1 (Nat.lt_of_lt_of_le zs.2 (Nat.le_of_lt_succ hm))
          · refine g_tableIn cx 735 d_law_33 (by rw [zwe]; decide) (by rw [zwe]; decide) (by rw [zwe]; rfl) (by decide) ?_
            refine g_aload_n cx 2 rfl d_law_735 ?_
            refine g_aload_n cx 3 rfl d_law_736 ?_
            refine g_iload_n cx 0 rfl d_law_737 ?_
            refine g_iconst cx 1 (by decide) d_law_738 ?_
            refine g_iadd cx d_law_739 ?_
            refine g_sld sx d_law_740 (g_six 1 hL pi zc rfl (by decide : Int32.toInt 1 = 1) (by decide)) ?_
            refine g_topi (fun x263 ex263 => ?_)
            refine g_aload_n cx 3 rfl d_law_741 ?_
            refine g_iload_n cx 0 rfl d_law_742 ?_
            refine g_iconst cx 2 (by decide) d_law_743 ?_
            refine g_iadd cx d_law_744 ?_
            refine g_sld sx d_law_745 (g_six 2 hL pi zc rfl (by decide : Int32.toInt 2 = 2) (by decide)) ?_
            refine g_topi (fun x264 ex264 => ?_)
            refine g_aload_n cx 3 rfl d_law_746 ?_
            refine g_iload_n cx 0 rfl d_law_747 ?_
            refine g_iconst cx 3 (by decide) d_law_748 ?_
            refine g_iadd cx d_law_749 ?_
            refine g_sld sx d_law_750 (g_six 3 hL pi zc rfl (by decide : Int32.toInt 3 = 3) (by decide)) ?_
            refine g_topi (fun x265 ex265 => ?_)
            refine g_cViH cx [.int x263, .int x264, .int x265] [] (w_X10_odds l X adx F R hI hA x263 x264 x265) ml_L_97 yV_X10_odds d_law_751 (by unfold g_rr; decide) (by decide) 0 rfl rfl (wr := wM X adm G0 S) (wc := wX X adx F R) rfl rfl (Nat.le_of_ble_eq_true rfl) (fun r266 w267 h268 => ?_)
            obtain ⟨F269, R270, rfl, oF269, oR270, cF269, cR270, pr266⟩ := h268
            refine g_pop cx rfl d_law_754 ?_
            refine g_aload_n cx 1 rfl d_law_755 ?_
            refine g_aload_n cx 3 rfl d_law_756 ?_
            refine g_iload_n cx 0 rfl d_law_757 ?_
            refine g_iconst cx 1 (by decide) d_law_758 ?_
            refine g_iadd cx d_law_759 ?_
            refine g_sld sx d_law_760 (g_six 1 hL pi zc rfl (by decide : Int32.toInt 1 = 1) (by decide)) ?_
            refine g_topi (fun x271 ex271 => ?_)
            refine g_aload_n cx 3 rfl d_law_761 ?_
            refine g_iload_n cx 0 rfl d_law_762 ?_
            refine g_iconst cx 2 (by decide) d_law_763 ?_
            refine g_iadd cx d_law_764 ?_
            refine g_sld sx d_law_765 (g_six 2 hL pi zc rfl (by decide : Int32.toInt 2 = 2) (by decide)) ?_
            refine g_topi (fun x272 ex272 => ?_)
            refine g_aload_n cx 3 rfl d_law_766 ?_
            refine g_iload_n cx 0 rfl d_law_767 ?_
            refine g_iconst cx 3 (by decide) d_law_768 ?_
            refine g_iadd cx d_law_769 ?_
            refine g_sld sx d_law_770 (g_six 3 hL pi zc rfl (by decide : Int32.toInt 3 = 3) (by decide)) ?_
            refine g_topi (fun x273 ex273 => ?_)
            refine g_cViH cx [.int x271, .int x272, .int x273] [] (w_X11_odds l X adm G0 S kI kA kT kC x271 x272 x273) ml_L_101 yV_X11_odds d_law_771 (by unfold g_rr; decide) (by decide) 0 rfl rfl (wr := wX X adx F269 R270) (wc := wM X adm G0 S) rfl rfl (Nat.le_of_ble_eq_true rfl) (fun r274 w275 h276 => ?_)
            obtain ⟨F277, R278, rfl, oF277, oR278, wTF277, wCF277, cF277, cR278, pr274⟩ := h276
            refine g_pop cx rfl d_law_774 ?_
            refine g_goto cx 949 d_law_775 (by decide) ?_
            obtain ⟨zn, ezn⟩ : ∃ z : Int32, z = zi + Int32.ofInt 7 := ⟨_, rfl⟩
            have zs := g_sinc hL pi zc (show zn = zi + 7 from ezn)
            refine g_iinc cx zn [(3, .int zn), (2, .ref (adm 0)), (1, .ref (adx 0)), (0, .ref b)] 0 d_law_949 rfl ezn.symm (by decide) rfl ?_
            refine g_goto cx 18 d_law_952 (by decide) ?_
            exact ih _ _ _ _ zn oF269 oR270 oF277 oR278 wTF277 wCF277 (((cF269 16 rfl).trans hr0).trans (cF277 0 rfl).symm) (fun z => (((cF269 48 rfl).trans (hr1 (fun w => z ((cF269 11 rfl).trans w)))).trans (cF277 78 rfl).symm)) (((cF269 11 rfl).trans hr2).trans (cF277 77 rfl).symm) zs.1 (Nat.lt_of_lt_of_le zs.2 (Nat.le_of_lt_succ hm))
          · refine g_tableIn cx 778 d_law_33 (by rw [zwe]; decide) (by rw [zwe]; decide) (by rw [zwe]; rfl) (by decide) ?_
            refine g_aload_n cx 2 rfl d_law_778 ?_
            refine g_aload_n cx 3 rfl d_law_779 ?_
            refine g_iload_n cx 0 rfl d_law_780 ?_
            refine g_iconst cx 1 (by decide) d_law_781 ?_
            refine g_iadd cx d_law_782 ?_
            refine g_sld sx d_law_783 (g_six 1 hL pi zc rfl (by decide : Int32.toInt 1 = 1) (by decide)) ?_
            refine g_topi (fun x279 ex279 => ?_)
            refine g_aload_n cx 3 rfl d_law_784 ?_
            refine g_iload_n cx 0 rfl d_law_785 ?_
            refine g_iconst cx 2 (by decide) d_law_786 ?_
            refine g_iadd cx d_law_787 ?_
            refine g_sld sx d_law_788 (g_six 2 hL pi zc rfl (by decide : Int32.toInt 2 = 2) (by decide)) ?_
            refine g_topi (fun x280 ex280 => ?_)
            refine g_cViH cx [.int x279, .int x280] [] (w_X10_should l X adx F R hI hA x279 x280) ml_L_102 yV_X10_should d_law_789 (by unfold g_rr; decide) (by decide) 0 rfl rfl (wr := wM X adm G0 S) (wc := wX X adx F R) rfl rfl (Nat.le_of_ble_eq_true rfl) (fun r281 w282 h283 => ?_)
            obtain ⟨F284, R285, rfl, oF284, oR285, cF284, cR285, pr281⟩ := h283
            refine g_pop cx rfl d_law_792 ?_
            refine g_aload_n cx 1 rfl d_law_793 ?_
            refine g_aload_n cx 3 rfl d_law_794 ?_
            refine g_iload_n cx 0 rfl d_law_795 ?_
            refine g_iconst cx 1 (by decide) d_law_796 ?_
            refine g_iadd cx d_law_797 ?_
            refine g_sld sx d_law_798 (g_six 1 hL pi zc rfl (by decide : Int32.toInt 1 = 1) (by decide)) ?_
            refine g_topi (fun x286 ex286 => ?_)
            refine g_aload_n cx 3 rfl d_law_799 ?_
            refine g_iload_n cx 0 rfl d_law_800 ?_
            refine g_iconst cx 2 (by decide) d_law_801 ?_
            refine g_iadd cx d_law_802 ?_
            refine g_sld sx d_law_803 (g_six 2 hL pi zc rfl (by decide : Int32.toInt 2 = 2) (by decide)) ?_
            refine g_topi (fun x287 ex287 => ?_)
            refine g_cViH cx [.int x286, .int x287] [] (w_X11_should l X adm G0 S kI kA kT kC x286 x287) ml_L_105 yV_X11_should d_law_804 (by unfold g_rr; decide) (by decide) 0 rfl rfl (wr := wX X adx F284 R285) (wc := wM X adm G0 S) rfl rfl (Nat.le_of_ble_eq_true rfl) (fun r288 w289 h290 => ?_)
            obtain ⟨F291, R292, rfl, oF291, oR292, wTF291, wCF291, cF291, cR292, pr288⟩ := h290
            refine g_pop cx rfl d_law_807 ?_
            refine g_goto cx 949 d_law_808 (by decide) ?_
            obtain ⟨zn, ezn⟩ : ∃ z : Int32, z = zi + Int32.ofInt 7 := ⟨_, rfl⟩
            have zs := g_sinc hL pi zc (show zn = zi + 7 from ezn)
            refine g_iinc cx zn [(3, .int zn), (2, .ref (adm 0)), (1, .ref (adx 0)), (0, .ref b)] 0 d_law_949 rfl ezn.symm (by decide) rfl ?_
            refine g_goto cx 18 d_law_952 (by decide) ?_
            exact ih _ _ _ _ zn oF284 oR285 oF291 oR292 wTF291 wCF291 (((cF284 16 rfl).trans hr0).trans (cF291 0 rfl).symm) (fun z => (((cF284 48 rfl).trans (hr1 (fun w => z ((cF284 11 rfl).trans w)))).trans (cF291 78 rfl).symm)) (((cF284 11 rfl).trans hr2).trans (cF291 77 rfl).symm) zs.1 (Nat.lt_of_lt_of_le zs.2 (Nat.le_of_lt_succ hm))
          · refine g_tableIn cx 811 d_law_33 (by rw [zwe]; decide) (by rw [zwe]; decide) (by rw [zwe]; rfl) (by decide) ?_
            refine g_aload_n cx 2 rfl d_law_811 ?_
            refine g_aload_n cx 3 rfl d_law_812 ?_
            refine g_iload_n cx 0 rfl d_law_813 ?_
            refine g_iconst cx 1 (by decide) d_law_814 ?_
            refine g_iadd cx d_law_815 ?_
            refine g_sld sx d_law_816 (g_six 1 hL pi zc rfl (by decide : Int32.toInt 1 = 1) (by decide)) ?_
            refine g_topi (fun x293 ex293 => ?_)
            refine g_aload_n cx 3 rfl d_law_817 ?_
            refine g_iload_n cx 0 rfl d_law_818 ?_
            refine g_iconst cx 2 (by decide) d_law_819 ?_
            refine g_iadd cx d_law_820 ?_
            refine g_sld sx d_law_821 (g_six 2 hL pi zc rfl (by decide : Int32.toInt 2 = 2) (by decide)) ?_
            refine g_topi (fun x294 ex294 => ?_)
            refine g_aload_n cx 3 rfl d_law_822 ?_
            refine g_iload_n cx 0 rfl d_law_823 ?_
            refine g_iconst cx 3 (by decide) d_law_824 ?_
            refine g_iadd cx d_law_825 ?_
            refine g_sld sx d_law_826 (g_six 3 hL pi zc rfl (by decide : Int32.toInt 3 = 3) (by decide)) ?_
            refine g_topi (fun x295 ex295 => ?_)
            refine g_cViH cx [.int x293, .int x294, .int x295] [] (w_X10_practice l X adx F R x293 x294 x295) ml_L_106 yV_X10_practice d_law_827 (by unfold g_rr; decide) (by decide) 0 rfl rfl (wr := wM X adm G0 S) (wc := wX X adx F R) rfl rfl (Nat.le_of_ble_eq_true rfl) (fun r296 w297 h298 => ?_)
            obtain ⟨rfl, zx299⟩ := h298
            refine g_pop cx rfl d_law_830 ?_
            refine g_aload_n cx 1 rfl d_law_831 ?_
            refine g_aload_n cx 3 rfl d_law_832 ?_
            refine g_iload_n cx 0 rfl d_law_833 ?_
            refine g_iconst cx 1 (by decide) d_law_834 ?_
            refine g_iadd cx d_law_835 ?_
            refine g_sld sx d_law_836 (g_six 1 hL pi zc rfl (by decide : Int32.toInt 1 = 1) (by decide)) ?_
            refine g_topi (fun x300 ex300 => ?_)
            refine g_aload_n cx 3 rfl d_law_837 ?_
            refine g_iload_n cx 0 rfl d_law_838 ?_
            refine g_iconst cx 2 (by decide) d_law_839 ?_
            refine g_iadd cx d_law_840 ?_
            refine g_sld sx d_law_841 (g_six 2 hL pi zc rfl (by decide : Int32.toInt 2 = 2) (by decide)) ?_
            refine g_topi (fun x301 ex301 => ?_)
            refine g_aload_n cx 3 rfl d_law_842 ?_
            refine g_iload_n cx 0 rfl d_law_843 ?_
            refine g_iconst cx 3 (by decide) d_law_844 ?_
            refine g_iadd cx d_law_845 ?_
            refine g_sld sx d_law_846 (g_six 3 hL pi zc rfl (by decide : Int32.toInt 3 = 3) (by decide)) ?_
            refine g_topi (fun x302 ex302 => ?_)
            refine g_cViH cx [.int x300, .int x301, .int x302] [] (w_X11_practice l X adm G0 S x300 x301 x302) ml_L_109 yV_X11_practice d_law_847 (by unfold g_rr; decide) (by decide) 0 rfl rfl (wr := wX X adx F R) (wc := wM X adm G0 S) rfl rfl (Nat.le_of_ble_eq_true rfl) (fun r303 w304 h305 => ?_)
            obtain ⟨rfl, zx306⟩ := h305
            refine g_pop cx rfl d_law_850 ?_
            refine g_goto cx 949 d_law_851 (by decide) ?_
            obtain ⟨zn, ezn⟩ : ∃ z : Int32, z = zi + Int32.ofInt 7 := ⟨_, rfl⟩
            have zs := g_sinc hL pi zc (show zn = zi + 7 from ezn)
            refine g_iinc cx zn [(3, .int zn), (2, .ref (adm 0)), (1, .ref (adx 0)), (0, .ref b)] 0 d_law_949 rfl ezn.symm (by decide) rfl ?_
            refine g_goto cx 18 d_law_952 (by decide) ?_
            exact ih _ _ _ _ zn hI hA kI kA kT kC hr0 (fun z => (hr1 (fun w => z w))) hr2 zs.1 (Nat.lt_of_lt_of_le zs.2 (Nat.le_of_lt_succ hm))
          · refine g_tableIn cx 854 d_law_33 (by rw [zwe]; decide) (by rw [zwe]; decide) (by rw [zwe]; rfl) (by decide) ?_
            refine g_aload_n cx 2 rfl d_law_854 ?_
            refine g_aload_n cx 3 rfl d_law_855 ?_
            refine g_iload_n cx 0 rfl d_law_856 ?_
            refine g_iconst cx 1 (by decide) d_law_857 ?_
            refine g_iadd cx d_law_858 ?_
            refine g_sld sx d_law_859 (g_six 1 hL pi zc rfl (by decide : Int32.toInt 1 = 1) (by decide)) ?_
            refine g_topi (fun x307 ex307 => ?_)
            refine g_cViH cx [.int x307] [] (w_X10_seed l X adx F R hI hA x307) ml_L_110 yV_X10_seed d_law_860 (by unfold g_rr; decide) (by decide) 0 rfl rfl (wr := wM X adm G0 S) (wc := wX X adx F R) rfl rfl (Nat.le_of_ble_eq_true rfl) (fun r308 w309 h310 => ?_)
            obtain ⟨F311, R312, rfl, oF311, oR312, cF311, cR312, pr308⟩ := h310
            refine g_pop cx rfl d_law_863 ?_
            refine g_aload_n cx 1 rfl d_law_864 ?_
            refine g_aload_n cx 3 rfl d_law_865 ?_
            refine g_iload_n cx 0 rfl d_law_866 ?_
            refine g_iconst cx 1 (by decide) d_law_867 ?_
            refine g_iadd cx d_law_868 ?_
            refine g_sld sx d_law_869 (g_six 1 hL pi zc rfl (by decide : Int32.toInt 1 = 1) (by decide)) ?_
            refine g_topi (fun x313 ex313 => ?_)
            refine g_cViH cx [.int x313] [] (w_X11_seed l X adm G0 S kI kA kT kC x313) ml_L_113 yV_X11_seed d_law_870 (by unfold g_rr; decide) (by decide) 0 rfl rfl (wr := wX X adx F311 R312) (wc := wM X adm G0 S) rfl rfl (Nat.le_of_ble_eq_true rfl) (fun r314 w315 h316 => ?_)
            obtain ⟨F317, R318, rfl, oF317, oR318, wTF317, wCF317, cF317, cR318, pr314⟩ := h316
            refine g_pop cx rfl d_law_873 ?_
            refine g_goto cx 949 d_law_874 (by decide) ?_
            obtain ⟨zn, ezn⟩ : ∃ z : Int32, z = zi + Int32.ofInt 7 := ⟨_, rfl⟩
            have zs := g_sinc hL pi zc (show zn = zi + 7 from ezn)
            refine g_iinc cx zn [(3, .int zn), (2, .ref (adm 0)), (1, .ref (adx 0)), (0, .ref b)] 0 d_law_949 rfl ezn.symm (by decide) rfl ?_
            refine g_goto cx 18 d_law_952 (by decide) ?_
            exact ih _ _ _ _ zn oF311 oR312 oF317 oR318 wTF317 wCF317 (((cF311 16 rfl).trans hr0).trans (cF317 0 rfl).symm) (fun z => (((cF311 48 rfl).trans (hr1 (fun w => z ((cF311 11 rfl).trans w)))).trans (cF317 78 rfl).symm)) (((cF311 11 rfl).trans hr2).trans (cF317 77 rfl).symm) zs.1 (Nat.lt_of_lt_of_le zs.2 (Nat.le_of_lt_succ hm))
          · refine g_tableIn cx 877 d_law_33 (by rw [zwe]; decide) (by rw [zwe]; decide) (by rw [zwe]; rfl) (by decide) ?_
            refine g_aload_n cx 2 rfl d_law_877 ?_
            refine g_cViH cx [] [] (w_X10_keepb l X adx F R hI hA ) ml_L_114 yV_X10_keep d_law_878 (by unfold g_rr; decide) (by decide) 0 rfl rfl (wr := wM X adm G0 S) (wc := wX X adx F R) rfl rfl (Nat.le_of_ble_eq_true rfl) (fun r319 w320 h321 => ?_)
            obtain ⟨F322, R323, rfl, oF322, oR323, cF322, cR323, pr319, zx324, zx325⟩ := h321
            refine g_pop cx rfl d_law_881 ?_
            refine g_aload_n cx 1 rfl d_law_882 ?_
            refine g_cViH cx [] [] (w_X11_keepb l X adm G0 S kI kA kT kC ) ml_L_117 yV_X11_keep d_law_883 (by unfold g_rr; decide) (by decide) 0 rfl rfl (wr := wX X adx F322 R323) (wc := wM X adm G0 S) rfl rfl (Nat.le_of_ble_eq_true rfl) (fun r326 w327 h328 => ?_)
            obtain ⟨F329, R330, rfl, oF329, oR330, wTF329, wCF329, cF329, cR330, pr326, zx331, zx332⟩ := h328
            refine g_pop cx rfl d_law_886 ?_
            refine g_goto cx 949 d_law_887 (by decide) ?_
            obtain ⟨zn, ezn⟩ : ∃ z : Int32, z = zi + Int32.ofInt 7 := ⟨_, rfl⟩
            have zs := g_sinc hL pi zc (show zn = zi + 7 from ezn)
            refine g_iinc cx zn [(3, .int zn), (2, .ref (adm 0)), (1, .ref (adx 0)), (0, .ref b)] 0 d_law_949 rfl ezn.symm (by decide) rfl ?_
            refine g_goto cx 18 d_law_952 (by decide) ?_
            exact ih _ _ _ _ zn oF322 oR323 oF329 oR330 wTF329 wCF329 (((cF322 16 rfl).trans hr0).trans (cF329 0 rfl).symm) (fun _ => (zx324.trans (hr0.trans zx331.symm))) (zx325.trans (zx332.symm)) zs.1 (Nat.lt_of_lt_of_le zs.2 (Nat.le_of_lt_succ hm))
          · refine g_tableIn cx 890 d_law_33 (by rw [zwe]; decide) (by rw [zwe]; decide) (by rw [zwe]; rfl) (by decide) ?_
            refine g_aload_n cx 2 rfl d_law_890 ?_
            refine g_cViH cx [] [] (w_X10_undob l X adx F R hI hA ) ml_L_118 yV_X10_undo d_law_891 (by unfold g_rr; decide) (by decide) 0 rfl rfl (wr := wM X adm G0 S) (wc := wX X adx F R) rfl rfl (Nat.le_of_ble_eq_true rfl) (fun r333 w334 h335 => ?_)
            obtain ⟨F336, R337, rfl, oF336, oR337, cF336, cR337, pr333, zx338, zx339, zx340⟩ := h335
            refine g_pop cx rfl d_law_894 ?_
            refine g_aload_n cx 1 rfl d_law_895 ?_
            refine g_cViH cx [] [] (w_X11_undob l X adm G0 S kI kA kT kC ) ml_L_122 yV_X11_undo d_law_896 (by unfold g_rr; decide) (by decide) 0 rfl rfl (wr := wX X adx F336 R337) (wc := wM X adm G0 S) rfl rfl (Nat.le_of_ble_eq_true rfl) (fun r341 w342 h343 => ?_)
            obtain ⟨F344, R345, rfl, oF344, oR345, wTF344, wCF344, cF344, cR345, pr341, zx346, zx347, zx348⟩ := h343
            refine g_pop cx rfl d_law_899 ?_
            refine g_goto cx 949 d_law_900 (by decide) ?_
            obtain ⟨zn, ezn⟩ : ∃ z : Int32, z = zi + Int32.ofInt 7 := ⟨_, rfl⟩
            have zs := g_sinc hL pi zc (show zn = zi + 7 from ezn)
            refine g_iinc cx zn [(3, .int zn), (2, .ref (adm 0)), (1, .ref (adx 0)), (0, .ref b)] 0 d_law_949 rfl ezn.symm (by decide) rfl ?_
            refine g_goto cx 18 d_law_952 (by decide) ?_
            exact ih _ _ _ _ zn oF336 oR337 oF344 oR345 wTF344 wCF344 (g_rel3 (by rw [zx338, zx346, hr2]) zx339 zx340 zx347 zx348 (fun z => hr1 (fun w => z (zx338.trans w))) hr0) (fun z => (((cF336 48 rfl).trans (hr1 (fun w => z ((cF336 11 rfl).trans w)))).trans (cF344 78 rfl).symm)) (((cF336 11 rfl).trans hr2).trans (cF344 77 rfl).symm) zs.1 (Nat.lt_of_lt_of_le zs.2 (Nat.le_of_lt_succ hm))
          · refine g_tableIn cx 903 d_law_33 (by rw [zwe]; decide) (by rw [zwe]; decide) (by rw [zwe]; rfl) (by decide) ?_
            refine g_aload_n cx 2 rfl d_law_903 ?_
            refine g_aload_n cx 3 rfl d_law_904 ?_
            refine g_iload_n cx 0 rfl d_law_905 ?_
            refine g_iconst cx 1 (by decide) d_law_906 ?_
            refine g_iadd cx d_law_907 ?_
            refine g_sld sx d_law_908 (g_six 1 hL pi zc rfl (by decide : Int32.toInt 1 = 1) (by decide)) ?_
            refine g_topi (fun x349 ex349 => ?_)
            refine g_cViH cx [.int x349] [] (w_X10_check l X adx F R hI hA x349) ml_L_123 yV_X10_check d_law_909 (by unfold g_rr; decide) (by decide) 0 rfl rfl (wr := wM X adm G0 S) (wc := wX X adx F R) rfl rfl (Nat.le_of_ble_eq_true rfl) (fun r350 w351 h352 => ?_)
            obtain ⟨F353, R354, rfl, oF353, oR354, cF353, cR354, pr350⟩ := h352
            refine g_pop cx rfl d_law_912 ?_
            refine g_aload_n cx 1 rfl d_law_913 ?_
            refine g_aload_n cx 3 rfl d_law_914 ?_
            refine g_iload_n cx 0 rfl d_law_915 ?_
            refine g_iconst cx 1 (by decide) d_law_916 ?_
            refine g_iadd cx d_law_917 ?_
            refine g_sld sx d_law_918 (g_six 1 hL pi zc rfl (by decide : Int32.toInt 1 = 1) (by decide)) ?_
            refine g_topi (fun x355 ex355 => ?_)
            refine g_cViH cx [.int x355] [] (w_X11_check l X adm G0 S kI kA kT kC x355) ml_L_126 yV_X11_check d_law_919 (by unfold g_rr; decide) (by decide) 0 rfl rfl (wr := wX X adx F353 R354) (wc := wM X adm G0 S) rfl rfl (Nat.le_of_ble_eq_true rfl) (fun r356 w357 h358 => ?_)
            obtain ⟨F359, R360, rfl, oF359, oR360, wTF359, wCF359, cF359, cR360, pr356⟩ := h358
            refine g_pop cx rfl d_law_922 ?_
            refine g_goto cx 949 d_law_923 (by decide) ?_
            obtain ⟨zn, ezn⟩ : ∃ z : Int32, z = zi + Int32.ofInt 7 := ⟨_, rfl⟩
            have zs := g_sinc hL pi zc (show zn = zi + 7 from ezn)
            refine g_iinc cx zn [(3, .int zn), (2, .ref (adm 0)), (1, .ref (adx 0)), (0, .ref b)] 0 d_law_949 rfl ezn.symm (by decide) rfl ?_
            refine g_goto cx 18 d_law_952 (by decide) ?_
            exact ih _ _ _ _ zn oF353 oR354 oF359 oR360 wTF359 wCF359 (((cF353 16 rfl).trans hr0).trans (cF359 0 rfl).symm) (fun z => (((cF353 48 rfl).trans (hr1 (fun w => z ((cF353 11 rfl).trans w)))).trans (cF359 78 rfl).symm)) (((cF353 11 rfl).trans hr2).trans (cF359 77 rfl).symm) zs.1 (Nat.lt_of_lt_of_le zs.2 (Nat.le_of_lt_succ hm))
          · refine g_tableIn cx 926 d_law_33 (by rw [zwe]; decide) (by rw [zwe]; decide) (by rw [zwe]; rfl) (by decide) ?_
            refine g_aload_n cx 2 rfl d_law_926 ?_
            refine g_aload_n cx 3 rfl d_law_927 ?_
            refine g_iload_n cx 0 rfl d_law_928 ?_
            refine g_iconst cx 1 (by decide) d_law_929 ?_
            refine g_iadd cx d_law_930 ?_
            refine g_sld sx d_law_931 (g_six 1 hL pi zc rfl (by decide : Int32.toInt 1 = 1) (by decide)) ?_
            refine g_topi (fun x361 ex361 => ?_)
            refine g_cViH cx [.int x361] [] (w_X10_count l X adx F R hI hA x361) ml_L_127 yV_X10_count d_law_932 (by unfold g_rr; decide) (by decide) 0 rfl rfl (wr := wM X adm G0 S) (wc := wX X adx F R) rfl rfl (Nat.le_of_ble_eq_true rfl) (fun r362 w363 h364 => ?_)
            obtain ⟨rfl, zx365⟩ := h364
            refine g_pop cx rfl d_law_935 ?_
            refine g_aload_n cx 1 rfl d_law_936 ?_
            refine g_aload_n cx 3 rfl d_law_937 ?_
            refine g_iload_n cx 0 rfl d_law_938 ?_
            refine g_iconst cx 1 (by decide) d_law_939 ?_
            refine g_iadd cx d_law_940 ?_
            refine g_sld sx d_law_941 (g_six 1 hL pi zc rfl (by decide : Int32.toInt 1 = 1) (by decide)) ?_
            refine g_topi (fun x366 ex366 => ?_)
            refine g_cViH cx [.int x366] [] (w_X11_count l X adm G0 S kI kA kT kC x366) ml_L_130 yV_X11_count d_law_942 (by unfold g_rr; decide) (by decide) 0 rfl rfl (wr := wX X adx F R) (wc := wM X adm G0 S) rfl rfl (Nat.le_of_ble_eq_true rfl) (fun r367 w368 h369 => ?_)
            obtain ⟨rfl, zx370⟩ := h369
            refine g_pop cx rfl d_law_945 ?_
            refine g_goto cx 949 d_law_946 (by decide) ?_
            obtain ⟨zn, ezn⟩ : ∃ z : Int32, z = zi + Int32.ofInt 7 := ⟨_, rfl⟩
            have zs := g_sinc hL pi zc (show zn = zi + 7 from ezn)
            refine g_iinc cx zn [(3, .int zn), (2, .ref (adm 0)), (1, .ref (adx 0)), (0, .ref b)] 0 d_law_949 rfl ezn.symm (by decide) rfl ?_
            refine g_goto cx 18 d_law_952 (by decide) ?_
            exact ih _ _ _ _ zn hI hA kI kA kT kC hr0 (fun z => (hr1 (fun w => z w))) hr2 zs.1 (Nat.lt_of_lt_of_le zs.2 (Nat.le_of_lt_succ hm))
        · refine g_tableOut cx 949 d_law_33 zw (by decide) ?_
          obtain ⟨zn, ezn⟩ : ∃ z : Int32, z = zi + Int32.ofInt 7 := ⟨_, rfl⟩
          have zs := g_sinc hL pi zc (show zn = zi + 7 from ezn)
          refine g_iinc cx zn [(3, .int zn), (2, .ref (adm 0)), (1, .ref (adx 0)), (0, .ref b)] 0 d_law_949 rfl ezn.symm (by decide) rfl ?_
          refine g_goto cx 18 d_law_952 (by decide) ?_
          exact ih _ _ _ _ zn hI hA kI kA kT kC hr0 hr1 hr2 zs.1 (Nat.lt_of_lt_of_le zs.2 (Nat.le_of_lt_succ hm))
  refine g_lsub [0, 1, 2, 3] [(3, .int 0), (2, .ref (adm 0)), (1, .ref (adx 0)), (0, .ref b)] rfl ?_
  exact J18 _ _ _ _ _ 0 (g_ok_of (by decide +kernel)) (g_okR_0 (by decide +kernel)) (g_ok_of (by decide +kernel)) (g_okR_0 (by decide +kernel)) WT_new WC_new rfl (fun z => absurd rfl z) rfl (jv_w (jv_k (x := 0) 0 (by decide)) (by decide)) (Nat.lt_succ_self _)
