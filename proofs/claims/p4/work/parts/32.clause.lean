/-! ===== the reader of laws: clauses, the law ===== -/
/-- what is said of the clauses so far -/
def WD (F : Nat → Int32) (R : Nat → Nat → Int32) : Prop := ∀ j : Nat, (j : Int) < (F 27).toInt → ∃ a b c : Nat, (R 15 j).toInt = a ∧ (R 16 j).toInt = b ∧ (R 17 j).toInt = c ∧ a ≤ b ∧ b ≤ c ∧ (c : Int) ≤ (F 25).toInt ∧ g_wf (R 12) a b ∧ g_wf (R 12) b c
theorem WD_0 {F : Nat → Int32} (R : Nat → Nat → Int32) (h : F 27 = 0) : WD F R := by
  intro j hj
  rw [h] at hj
  have : (0 : Int32).toInt = 0 := rfl
  omega
theorem WD_e {F F' : Nat → Int32} {R R' : Nat → Nat → Int32} (h : WD F R) (e27 : F' 27 = F 27) (e25 : F' 25 = F 25) (e12 : R' 12 = R 12) (e15 : R' 15 = R 15) (e16 : R' 16 = R 16) (e17 : R' 17 = R 17) : WD F' R' := by
  unfold WD at *
  rw [e27, e25, e12, e15, e16, e17]
  exact h
theorem WD_add {F F' : Nat → Int32} {R R' : Nat → Nat → Int32} {b c : Nat} {x y z : Int32} (h : WD F R) (hm : 0 ≤ (F 27).toInt) (e27 : (F' 27).toInt = (F 27).toInt + 1) (e15 : R' 15 = upd (R 15) (F 27).toNatClampNeg x) (e16 : R' 16 = upd (R 16) (F 27).toNatClampNeg y) (e17 : R' 17 = upd (R 17) (F 27).toNatClampNeg z) (h25 : 0 ≤ (F 25).toInt) (hx : x.toInt = (F 25).toInt) (hy : y.toInt = b) (hz : z.toInt = c) (hab : (F 25).toInt ≤ b) (hbc : b ≤ c) (h25' : (F' 25).toInt = c) (w1 : g_wf (R' 12) (F 25).toInt.toNat b) (w2 : g_wf (R' 12) b c) (hr : ∀ k, k < (F 25).toInt.toNat → R' 12 k = R 12 k) : WD F' R' := by
  have hc : (F 27).toNatClampNeg = (F 27).toInt.toNat := rfl
  intro j hj
  by_cases e : (F 27).toInt.toNat = j
  · refine ⟨(F 25).toInt.toNat, b, c, ?_, ?_, ?_, by omega, hbc, by omega, w1, w2⟩
    · rw [e15, hc, e, g_us]; omega
    · rw [e16, hc, e, g_us]; omega
    · rw [e17, hc, e, g_us]; omega
  · obtain ⟨a, b2, c2, h1, h2, h3, h4, h5, h6, h7, h8⟩ := h j (by omega)
    have hn : ∀ (f : Nat → Int32) (v : Int32), upd f (F 27).toNatClampNeg v j = f j := fun f v => g_un (by rw [bne_iff_ne, hc]; exact e)
    refine ⟨a, b2, c2, by rw [e15, hn]; exact h1, by rw [e16, hn]; exact h2, by rw [e17, hn]; exact h3, h4, h5, by omega, g_wf_eq (fun k _ q => hr k (by omega)) h7, g_wf_eq (fun k _ q => hr k (by omega)) h8⟩
/-- the copied law -/
theorem WC_of {F F' : Nat → Int32} {R R' : Nat → Nat → Int32} (h : WD F R) (h25 : (F 25).toInt ≤ 220) (e28 : F' 28 = F 27) (c18 : ∀ j : Nat, (j : Int) < (F 25).toInt → R' 18 j = R 12 j) (c20 : ∀ j : Nat, (j : Int) < (F 27).toInt → R' 20 j = R 15 j) (c21 : ∀ j : Nat, (j : Int) < (F 27).toInt → R' 21 j = R 16 j) (c22 : ∀ j : Nat, (j : Int) < (F 27).toInt → R' 22 j = R 17 j) : WC F' R' := by
  intro j hj
  rw [e28] at hj
  obtain ⟨a, b, c, h1, h2, h3, h4, h5, h6, h7, h8⟩ := h j hj
  exact ⟨a, b, c, by rw [c20 j hj]; exact h1, by rw [c21 j hj]; exact h2, by rw [c22 j hj]; exact h3, h4, h5, by omega, g_wf_eq (fun k _ q => c18 k (by omega)) h7, g_wf_eq (fun k _ q => c18 k (by omega)) h8⟩

theorem e_X11_isClause_0 : g_dc cX11_isClause 0 (.iload_n 0) 1 1 := ⟨by decide +kernel, rfl⟩
theorem e_X11_isClause_1 : g_dc cX11_isClause 1 (.bipush 97) 2 3 := ⟨by decide +kernel, rfl⟩
theorem e_X11_isClause_3 : g_dc cX11_isClause 3 (.if_icmp .eq 33) 3 6 := ⟨by decide +kernel, rfl⟩
theorem e_X11_isClause_6 : g_dc cX11_isClause 6 (.iload_n 0) 1 7 := ⟨by decide +kernel, rfl⟩
theorem e_X11_isClause_7 : g_dc cX11_isClause 7 (.bipush 115) 2 9 := ⟨by decide +kernel, rfl⟩
theorem e_X11_isClause_9 : g_dc cX11_isClause 9 (.if_icmp .eq 27) 3 12 := ⟨by decide +kernel, rfl⟩
theorem e_X11_isClause_12 : g_dc cX11_isClause 12 (.iload_n 0) 1 13 := ⟨by decide +kernel, rfl⟩
theorem e_X11_isClause_13 : g_dc cX11_isClause 13 (.bipush 104) 2 15 := ⟨by decide +kernel, rfl⟩
theorem e_X11_isClause_15 : g_dc cX11_isClause 15 (.if_icmp .eq 21) 3 18 := ⟨by decide +kernel, rfl⟩
theorem e_X11_isClause_18 : g_dc cX11_isClause 18 (.iload_n 0) 1 19 := ⟨by decide +kernel, rfl⟩
theorem e_X11_isClause_19 : g_dc cX11_isClause 19 (.bipush 106) 2 21 := ⟨by decide +kernel, rfl⟩
theorem e_X11_isClause_21 : g_dc cX11_isClause 21 (.if_icmp .eq 15) 3 24 := ⟨by decide +kernel, rfl⟩
theorem e_X11_isClause_24 : g_dc cX11_isClause 24 (.iload_n 0) 1 25 := ⟨by decide +kernel, rfl⟩
theorem e_X11_isClause_25 : g_dc cX11_isClause 25 (.bipush 98) 2 27 := ⟨by decide +kernel, rfl⟩
theorem e_X11_isClause_27 : g_dc cX11_isClause 27 (.if_icmp .eq 9) 3 30 := ⟨by decide +kernel, rfl⟩
theorem e_X11_isClause_30 : g_dc cX11_isClause 30 (.iload_n 0) 1 31 := ⟨by decide +kernel, rfl⟩
theorem e_X11_isClause_31 : g_dc cX11_isClause 31 (.bipush 122) 2 33 := ⟨by decide +kernel, rfl⟩
theorem e_X11_isClause_33 : g_dc cX11_isClause 33 (.if_icmp .ne 7) 3 36 := ⟨by decide +kernel, rfl⟩
theorem e_X11_isClause_36 : g_dc cX11_isClause 36 (.iconst 1) 1 37 := ⟨by decide +kernel, rfl⟩
theorem e_X11_isClause_37 : g_dc cX11_isClause 37 (.goto 4) 3 40 := ⟨by decide +kernel, rfl⟩
theorem e_X11_isClause_40 : g_dc cX11_isClause 40 (.iconst 0) 1 41 := ⟨by decide +kernel, rfl⟩
theorem e_X11_isClause_41 : g_dc cX11_isClause 41 (.ireturn) 1 42 := ⟨by decide +kernel, rfl⟩
set_option maxHeartbeats 4000000 in
set_option maxRecDepth 100000 in
theorem w_X11_isClause (l : Launch) (X : gX) (ad : Nat → Nat) (F : Nat → Int32) (R : Nat → Nat → Int32) (hI : g_ok LK_wM F) (hA : g_okR LA_wM R) (a0 : Int32) : g_Ci l X yX11_isClause cX11_isClause 1 (some .boolean) 1 0 0 [.int a0] (wM X ad F R) (fun r w => w = wM X ad F R ∧ jv 0 1 r ∧ (¬ r = 0 → 0 ≤ a0.toInt)) := by
  refine g_mi (by decide +kernel) (Nat.le_of_ble_eq_true rfl) (fun E cx hret => ?_)
  refine g_iload_n cx 0 rfl e_X11_isClause_0 ?_
  refine g_bipush cx 97 (by decide) e_X11_isClause_1 ?_
  refine g_icmp_eq cx 36 e_X11_isClause_3 (by decide) (fun zc1 => ?_) (fun zc1 => ?_)
  · have p2 := gn_eq 97 97 (gc_eq zc1) (jv_t a0) (jv_k (x := 97) 97 (by decide)) (by decide)
    refine g_iconst cx 1 (by decide) e_X11_isClause_36 ?_
    refine g_goto cx 41 e_X11_isClause_37 (by decide) ?_
    exact hret e_X11_isClause_41 (Nat.le_of_ble_eq_true rfl) (Nat.le_of_ble_eq_true rfl) rfl ⟨rfl, (jv_w (jv_k (x := 1) 1 (by decide)) (by decide)), (fun _ => by have q0 := (jv_k (x := 97) 97 (by decide)).1; have q1 := (jv_k (x := 97) 97 (by decide)).2; have q2 := p2.1; have q3 := p2.2; have q4 := (gc_eq zc1); omega)⟩
  · refine g_iload_n cx 0 rfl e_X11_isClause_6 ?_
    refine g_bipush cx 115 (by decide) e_X11_isClause_7 ?_
    refine g_icmp_eq cx 36 e_X11_isClause_9 (by decide) (fun zc3 => ?_) (fun zc3 => ?_)
    · have p4 := gn_eq 115 115 (gc_eq zc3) (jv_t a0) (jv_k (x := 115) 115 (by decide)) (by decide)
      refine g_iconst cx 1 (by decide) e_X11_isClause_36 ?_
      refine g_goto cx 41 e_X11_isClause_37 (by decide) ?_
      exact hret e_X11_isClause_41 (Nat.le_of_ble_eq_true rfl) (Nat.le_of_ble_eq_true rfl) rfl ⟨rfl, (jv_w (jv_k (x := 1) 1 (by decide)) (by decide)), (fun _ => by have q0 := (jv_k (x := 115) 115 (by decide)).1; have q1 := (jv_k (x := 115) 115 (by decide)).2; have q2 := (jv_k (x := 97) 97 (by decide)).1; have q3 := (jv_k (x := 97) 97 (by decide)).2; have q4 := p4.1; have q5 := p4.2; have q6 := (gc_ne zc1); have q7 := (gc_eq zc3); omega)⟩
    · refine g_iload_n cx 0 rfl e_X11_isClause_12 ?_
      refine g_bipush cx 104 (by decide) e_X11_isClause_13 ?_
      refine g_icmp_eq cx 36 e_X11_isClause_15 (by decide) (fun zc5 => ?_) (fun zc5 => ?_)
      · have p6 := gn_eq 104 104 (gc_eq zc5) (jv_t a0) (jv_k (x := 104) 104 (by decide)) (by decide)
        refine g_iconst cx 1 (by decide) e_X11_isClause_36 ?_
        refine g_goto cx 41 e_X11_isClause_37 (by decide) ?_
        exact hret e_X11_isClause_41 (Nat.le_of_ble_eq_true rfl) (Nat.le_of_ble_eq_true rfl) rfl ⟨rfl, (jv_w (jv_k (x := 1) 1 (by decide)) (by decide)), (fun _ => by have q0 := (jv_k (x := 104) 104 (by decide)).1; have q1 := (jv_k (x := 104) 104 (by decide)).2; have q2 := (jv_k (x := 115) 115 (by decide)).1; have q3 := (jv_k (x := 115) 115 (by decide)).2; have q4 := (jv_k (x := 97) 97 (by decide)).1; have q5 := (jv_k (x := 97) 97 (by decide)).2; have q6 := p6.1; have q7 := p6.2; have q8 := (gc_ne zc1); have q9 := (gc_ne zc3); have q10 := (gc_eq zc5); omega)⟩
      · refine g_iload_n cx 0 rfl e_X11_isClause_18 ?_
        refine g_bipush cx 106 (by decide) e_X11_isClause_19 ?_
        refine g_icmp_eq cx 36 e_X11_isClause_21 (by decide) (fun zc7 => ?_) (fun zc7 => ?_)
        · have p8 := gn_eq 106 106 (gc_eq zc7) (jv_t a0) (jv_k (x := 106) 106 (by decide)) (by decide)
          refine g_iconst cx 1 (by decide) e_X11_isClause_36 ?_
          refine g_goto cx 41 e_X11_isClause_37 (by decide) ?_
          exact hret e_X11_isClause_41 (Nat.le_of_ble_eq_true rfl) (Nat.le_of_ble_eq_true rfl) rfl ⟨rfl, (jv_w (jv_k (x := 1) 1 (by decide)) (by decide)), (fun _ => by have q0 := (jv_k (x := 104) 104 (by decide)).1; have q1 := (jv_k (x := 104) 104 (by decide)).2; have q2 := (jv_k (x := 106) 106 (by decide)).1; have q3 := (jv_k (x := 106) 106 (by decide)).2; have q4 := (jv_k (x := 115) 115 (by decide)).1; have q5 := (jv_k (x := 115) 115 (by decide)).2; have q6 := (jv_k (x := 97) 97 (by decide)).1; have q7 := (jv_k (x := 97) 97 (by decide)).2; have q8 := p8.1; have q9 := p8.2; have q10 := (gc_ne zc1); have q11 := (gc_ne zc3); have q12 := (gc_ne zc5); have q13 := (gc_eq zc7); omega)⟩
        · refine g_iload_n cx 0 rfl e_X11_isClause_24 ?_
          refine g_bipush cx 98 (by decide) e_X11_isClause_25 ?_
          refine g_icmp_eq cx 36 e_X11_isClause_27 (by decide) (fun zc9 => ?_) (fun zc9 => ?_)
          · have p10 := gn_eq 98 98 (gc_eq zc9) (jv_t a0) (jv_k (x := 98) 98 (by decide)) (by decide)
            refine g_iconst cx 1 (by decide) e_X11_isClause_36 ?_
            refine g_goto cx 41 e_X11_isClause_37 (by decide) ?_
            exact hret e_X11_isClause_41 (Nat.le_of_ble_eq_true rfl) (Nat.le_of_ble_eq_true rfl) rfl ⟨rfl, (jv_w (jv_k (x := 1) 1 (by decide)) (by decide)), (fun _ => by have q0 := (jv_k (x := 104) 104 (by decide)).1; have q1 := (jv_k (x := 104) 104 (by decide)).2; have q2 := (jv_k (x := 106) 106 (by decide)).1; have q3 := (jv_k (x := 106) 106 (by decide)).2; have q4 := (jv_k (x := 115) 115 (by decide)).1; have q5 := (jv_k (x := 115) 115 (by decide)).2; have q6 := (jv_k (x := 97) 97 (by decide)).1; have q7 := (jv_k (x := 97) 97 (by decide)).2; have q8 := (jv_k (x := 98) 98 (by decide)).1; have q9 := (jv_k (x := 98) 98 (by decide)).2; have q10 := p10.1; have q11 := p10.2; have q12 := (gc_ne zc1); have q13 := (gc_ne zc3); have q14 := (gc_ne zc5); have q15 := (gc_ne zc7); have q16 := (gc_eq zc9); omega)⟩
          · refine g_iload_n cx 0 rfl e_X11_isClause_30 ?_
            refine g_bipush cx 122 (by decide) e_X11_isClause_31 ?_
            refine g_icmp_ne cx 40 e_X11_isClause_33 (by decide) (fun zc11 => ?_) (fun zc11 => ?_)
            · refine g_iconst cx 0 (by decide) e_X11_isClause_40 ?_
              exact hret e_X11_isClause_41 (Nat.le_of_ble_eq_true rfl) (Nat.le_of_ble_eq_true rfl) rfl ⟨rfl, (jv_w (jv_k (x := 0) 0 (by decide)) (by decide)), (fun h0 => absurd rfl h0)⟩
            · have p12 := gn_eq 122 122 (gc_eq zc11) (jv_t a0) (jv_k (x := 122) 122 (by decide)) (by decide)
              refine g_iconst cx 1 (by decide) e_X11_isClause_36 ?_
              refine g_goto cx 41 e_X11_isClause_37 (by decide) ?_
              exact hret e_X11_isClause_41 (Nat.le_of_ble_eq_true rfl) (Nat.le_of_ble_eq_true rfl) rfl ⟨rfl, (jv_w (jv_k (x := 1) 1 (by decide)) (by decide)), (fun _ => by have q0 := (jv_k (x := 104) 104 (by decide)).1; have q1 := (jv_k (x := 104) 104 (by decide)).2; have q2 := (jv_k (x := 106) 106 (by decide)).1; have q3 := (jv_k (x := 106) 106 (by decide)).2; have q4 := (jv_k (x := 115) 115 (by decide)).1; have q5 := (jv_k (x := 115) 115 (by decide)).2; have q6 := (jv_k (x := 122) 122 (by decide)).1; have q7 := (jv_k (x := 122) 122 (by decide)).2; have q8 := (jv_k (x := 97) 97 (by decide)).1; have q9 := (jv_k (x := 97) 97 (by decide)).2; have q10 := (jv_k (x := 98) 98 (by decide)).1; have q11 := (jv_k (x := 98) 98 (by decide)).2; have q12 := p12.1; have q13 := p12.2; have q14 := (gc_ne zc1); have q15 := (gc_ne zc3); have q16 := (gc_ne zc5); have q17 := (gc_ne zc7); have q18 := (gc_ne zc9); have q19 := (gc_eq zc11); omega)⟩
theorem e_X11_readsClause_0 : g_dc cX11_readsClause 0 (.aload_n 0) 1 1 := ⟨by decide +kernel, rfl⟩
theorem e_X11_readsClause_1 : g_dc cX11_readsClause 1 (.invokevirtual 200) 3 4 := ⟨by decide +kernel, rfl⟩
theorem e_X11_readsClause_4 : g_dc cX11_readsClause 4 (.istore_n 1) 1 5 := ⟨by decide +kernel, rfl⟩
theorem e_X11_readsClause_5 : g_dc cX11_readsClause 5 (.iload_n 1) 1 6 := ⟨by decide +kernel, rfl⟩
theorem e_X11_readsClause_6 : g_dc cX11_readsClause 6 (.invokestatic 286) 3 9 := ⟨by decide +kernel, rfl⟩
theorem e_X11_readsClause_9 : g_dc cX11_readsClause 9 (.ifCond .ne 13) 3 12 := ⟨by decide +kernel, rfl⟩
theorem e_X11_readsClause_12 : g_dc cX11_readsClause 12 (.aload_n 0) 1 13 := ⟨by decide +kernel, rfl⟩
theorem e_X11_readsClause_13 : g_dc cX11_readsClause 13 (.iconst 1) 1 14 := ⟨by decide +kernel, rfl⟩
theorem e_X11_readsClause_14 : g_dc cX11_readsClause 14 (.aload_n 0) 1 15 := ⟨by decide +kernel, rfl⟩
theorem e_X11_readsClause_15 : g_dc cX11_readsClause 15 (.getfield 190) 3 18 := ⟨by decide +kernel, rfl⟩
theorem e_X11_readsClause_18 : g_dc cX11_readsClause 18 (.invokevirtual 204) 3 21 := ⟨by decide +kernel, rfl⟩
theorem e_X11_readsClause_21 : g_dc cX11_readsClause 21 (.ireturn) 1 22 := ⟨by decide +kernel, rfl⟩
theorem e_X11_readsClause_22 : g_dc cX11_readsClause 22 (.aload_n 0) 1 23 := ⟨by decide +kernel, rfl⟩
theorem e_X11_readsClause_23 : g_dc cX11_readsClause 23 (.getfield 289) 3 26 := ⟨by decide +kernel, rfl⟩
theorem e_X11_readsClause_26 : g_dc cX11_readsClause 26 (.bipush 14) 2 28 := ⟨by decide +kernel, rfl⟩
theorem e_X11_readsClause_28 : g_dc cX11_readsClause 28 (.if_icmp .ne 13) 3 31 := ⟨by decide +kernel, rfl⟩
theorem e_X11_readsClause_31 : g_dc cX11_readsClause 31 (.aload_n 0) 1 32 := ⟨by decide +kernel, rfl⟩
theorem e_X11_readsClause_32 : g_dc cX11_readsClause 32 (.iconst 4) 1 33 := ⟨by decide +kernel, rfl⟩
theorem e_X11_readsClause_33 : g_dc cX11_readsClause 33 (.aload_n 0) 1 34 := ⟨by decide +kernel, rfl⟩
theorem e_X11_readsClause_34 : g_dc cX11_readsClause 34 (.getfield 190) 3 37 := ⟨by decide +kernel, rfl⟩
theorem e_X11_readsClause_37 : g_dc cX11_readsClause 37 (.invokevirtual 204) 3 40 := ⟨by decide +kernel, rfl⟩
theorem e_X11_readsClause_40 : g_dc cX11_readsClause 40 (.ireturn) 1 41 := ⟨by decide +kernel, rfl⟩
theorem e_X11_readsClause_41 : g_dc cX11_readsClause 41 (.aload_n 0) 1 42 := ⟨by decide +kernel, rfl⟩
theorem e_X11_readsClause_42 : g_dc cX11_readsClause 42 (.getfield 50) 3 45 := ⟨by decide +kernel, rfl⟩
theorem e_X11_readsClause_45 : g_dc cX11_readsClause 45 (.aload_n 0) 1 46 := ⟨by decide +kernel, rfl⟩
theorem e_X11_readsClause_46 : g_dc cX11_readsClause 46 (.getfield 289) 3 49 := ⟨by decide +kernel, rfl⟩
theorem e_X11_readsClause_49 : g_dc cX11_readsClause 49 (.iload_n 1) 1 50 := ⟨by decide +kernel, rfl⟩
theorem e_X11_readsClause_50 : g_dc cX11_readsClause 50 (.iastore) 1 51 := ⟨by decide +kernel, rfl⟩
theorem e_X11_readsClause_51 : g_dc cX11_readsClause 51 (.aload_n 0) 1 52 := ⟨by decide +kernel, rfl⟩
theorem e_X11_readsClause_52 : g_dc cX11_readsClause 52 (.aload_n 0) 1 53 := ⟨by decide +kernel, rfl⟩
theorem e_X11_readsClause_53 : g_dc cX11_readsClause 53 (.getfield 190) 3 56 := ⟨by decide +kernel, rfl⟩
theorem e_X11_readsClause_56 : g_dc cX11_readsClause 56 (.iconst 1) 1 57 := ⟨by decide +kernel, rfl⟩
theorem e_X11_readsClause_57 : g_dc cX11_readsClause 57 (.iadd) 1 58 := ⟨by decide +kernel, rfl⟩
theorem e_X11_readsClause_58 : g_dc cX11_readsClause 58 (.putfield 190) 3 61 := ⟨by decide +kernel, rfl⟩
theorem e_X11_readsClause_61 : g_dc cX11_readsClause 61 (.aload_n 0) 1 62 := ⟨by decide +kernel, rfl⟩
theorem e_X11_readsClause_62 : g_dc cX11_readsClause 62 (.getfield 53) 3 65 := ⟨by decide +kernel, rfl⟩
theorem e_X11_readsClause_65 : g_dc cX11_readsClause 65 (.aload_n 0) 1 66 := ⟨by decide +kernel, rfl⟩
theorem e_X11_readsClause_66 : g_dc cX11_readsClause 66 (.getfield 289) 3 69 := ⟨by decide +kernel, rfl⟩
theorem e_X11_readsClause_69 : g_dc cX11_readsClause 69 (.aload_n 0) 1 70 := ⟨by decide +kernel, rfl⟩
theorem e_X11_readsClause_70 : g_dc cX11_readsClause 70 (.getfield 231) 3 73 := ⟨by decide +kernel, rfl⟩
theorem e_X11_readsClause_73 : g_dc cX11_readsClause 73 (.iastore) 1 74 := ⟨by decide +kernel, rfl⟩
theorem e_X11_readsClause_74 : g_dc cX11_readsClause 74 (.aload_n 0) 1 75 := ⟨by decide +kernel, rfl⟩
theorem e_X11_readsClause_75 : g_dc cX11_readsClause 75 (.iconst 0) 1 76 := ⟨by decide +kernel, rfl⟩
theorem e_X11_readsClause_76 : g_dc cX11_readsClause 76 (.putfield 235) 3 79 := ⟨by decide +kernel, rfl⟩
theorem e_X11_readsClause_79 : g_dc cX11_readsClause 79 (.aload_n 0) 1 80 := ⟨by decide +kernel, rfl⟩
theorem e_X11_readsClause_80 : g_dc cX11_readsClause 80 (.iconst 0) 1 81 := ⟨by decide +kernel, rfl⟩
theorem e_X11_readsClause_81 : g_dc cX11_readsClause 81 (.putfield 238) 3 84 := ⟨by decide +kernel, rfl⟩
theorem e_X11_readsClause_84 : g_dc cX11_readsClause 84 (.aload_n 0) 1 85 := ⟨by decide +kernel, rfl⟩
theorem e_X11_readsClause_85 : g_dc cX11_readsClause 85 (.invokevirtual 271) 3 88 := ⟨by decide +kernel, rfl⟩
theorem e_X11_readsClause_88 : g_dc cX11_readsClause 88 (.ifCond .ne 5) 3 91 := ⟨by decide +kernel, rfl⟩
theorem e_X11_readsClause_91 : g_dc cX11_readsClause 91 (.iconst 0) 1 92 := ⟨by decide +kernel, rfl⟩
theorem e_X11_readsClause_92 : g_dc cX11_readsClause 92 (.ireturn) 1 93 := ⟨by decide +kernel, rfl⟩
theorem e_X11_readsClause_93 : g_dc cX11_readsClause 93 (.aload_n 0) 1 94 := ⟨by decide +kernel, rfl⟩
theorem e_X11_readsClause_94 : g_dc cX11_readsClause 94 (.getfield 56) 3 97 := ⟨by decide +kernel, rfl⟩
theorem e_X11_readsClause_97 : g_dc cX11_readsClause 97 (.aload_n 0) 1 98 := ⟨by decide +kernel, rfl⟩
theorem e_X11_readsClause_98 : g_dc cX11_readsClause 98 (.getfield 289) 3 101 := ⟨by decide +kernel, rfl⟩
theorem e_X11_readsClause_101 : g_dc cX11_readsClause 101 (.aload_n 0) 1 102 := ⟨by decide +kernel, rfl⟩
theorem e_X11_readsClause_102 : g_dc cX11_readsClause 102 (.getfield 231) 3 105 := ⟨by decide +kernel, rfl⟩
theorem e_X11_readsClause_105 : g_dc cX11_readsClause 105 (.iastore) 1 106 := ⟨by decide +kernel, rfl⟩
theorem e_X11_readsClause_106 : g_dc cX11_readsClause 106 (.aload_n 0) 1 107 := ⟨by decide +kernel, rfl⟩
theorem e_X11_readsClause_107 : g_dc cX11_readsClause 107 (.invokevirtual 292) 3 110 := ⟨by decide +kernel, rfl⟩
theorem e_X11_readsClause_110 : g_dc cX11_readsClause 110 (.ifCond .ne 5) 3 113 := ⟨by decide +kernel, rfl⟩
theorem e_X11_readsClause_113 : g_dc cX11_readsClause 113 (.iconst 0) 1 114 := ⟨by decide +kernel, rfl⟩
theorem e_X11_readsClause_114 : g_dc cX11_readsClause 114 (.ireturn) 1 115 := ⟨by decide +kernel, rfl⟩
theorem e_X11_readsClause_115 : g_dc cX11_readsClause 115 (.aload_n 0) 1 116 := ⟨by decide +kernel, rfl⟩
theorem e_X11_readsClause_116 : g_dc cX11_readsClause 116 (.getfield 59) 3 119 := ⟨by decide +kernel, rfl⟩
theorem e_X11_readsClause_119 : g_dc cX11_readsClause 119 (.aload_n 0) 1 120 := ⟨by decide +kernel, rfl⟩
theorem e_X11_readsClause_120 : g_dc cX11_readsClause 120 (.getfield 289) 3 123 := ⟨by decide +kernel, rfl⟩
theorem e_X11_readsClause_123 : g_dc cX11_readsClause 123 (.aload_n 0) 1 124 := ⟨by decide +kernel, rfl⟩
theorem e_X11_readsClause_124 : g_dc cX11_readsClause 124 (.getfield 231) 3 127 := ⟨by decide +kernel, rfl⟩
theorem e_X11_readsClause_127 : g_dc cX11_readsClause 127 (.iastore) 1 128 := ⟨by decide +kernel, rfl⟩
theorem e_X11_readsClause_128 : g_dc cX11_readsClause 128 (.aload_n 0) 1 129 := ⟨by decide +kernel, rfl⟩
theorem e_X11_readsClause_129 : g_dc cX11_readsClause 129 (.aload_n 0) 1 130 := ⟨by decide +kernel, rfl⟩
theorem e_X11_readsClause_130 : g_dc cX11_readsClause 130 (.getfield 289) 3 133 := ⟨by decide +kernel, rfl⟩
theorem e_X11_readsClause_133 : g_dc cX11_readsClause 133 (.iconst 1) 1 134 := ⟨by decide +kernel, rfl⟩
theorem e_X11_readsClause_134 : g_dc cX11_readsClause 134 (.iadd) 1 135 := ⟨by decide +kernel, rfl⟩
theorem e_X11_readsClause_135 : g_dc cX11_readsClause 135 (.putfield 289) 3 138 := ⟨by decide +kernel, rfl⟩
theorem e_X11_readsClause_138 : g_dc cX11_readsClause 138 (.iconst 1) 1 139 := ⟨by decide +kernel, rfl⟩
theorem e_X11_readsClause_139 : g_dc cX11_readsClause 139 (.ireturn) 1 140 := ⟨by decide +kernel, rfl⟩
def md_X11_readsClause : List Nat := [15, 17, 18, 24, 25, 26, 27]
def mr_X11_readsClause : List Nat := [12, 13, 14, 15, 16, 17]
set_option maxHeartbeats 4000000 in
set_option maxRecDepth 100000 in
theorem w_X11_readsClause (l : Launch) (X : gX) (ad : Nat → Nat) (F : Nat → Int32) (R : Nat → Nat → Int32) (hI : g_ok LK_wM F) (hA : g_okR LA_wM R) (hWT : WT F R) (hWC : WC F R) (hwd : WD F R) (hcp : (F 25).toInt ≤ (F 15).toInt) : g_Ci l X yX11_readsClause cX11_readsClause 2 (some .boolean) 8 0 0 [.ref (ad 0)] (wM X ad F R) (fun r w => ∃ (F' : Nat → Int32) (R' : Nat → Nat → Int32), w = wM X ad F' R' ∧ g_ok LK_wM F' ∧ g_okR LA_wM R' ∧ WT F' R' ∧ WC F' R' ∧ g_fr md_X11_readsClause F F' ∧ g_fr mr_X11_readsClause R R' ∧ jv 0 1 r ∧ (¬ r = 0 → WD F' R' ∧ (F' 25).toInt ≤ (F' 15).toInt ∧ (F 15).toInt ≤ (F' 15).toInt)) := by
  refine g_mi (by decide +kernel) (Nat.le_of_ble_eq_true rfl) (fun E cx hret => ?_)
  refine g_aload_n cx 0 rfl e_X11_readsClause_0 ?_
  refine g_cViW cx [] [] (w_X11_here l X ad F R hI hA hWT hWC) ml_X11_200 yV_X11_here e_X11_readsClause_1 (by unfold g_rr; decide) (by decide) 0 rfl rfl rfl (Nat.le_of_ble_eq_true rfl) (fun r1 w2 h3 => ?_)
  obtain ⟨rfl, pr1, zx4⟩ := h3
  refine g_istore_n cx [(1, .int r1), (0, .ref (ad 0))] e_X11_readsClause_4 (by decide) rfl ?_
  refine g_iload_n cx 0 rfl e_X11_readsClause_5 ?_
  refine g_cSiW cx [.int r1] [] (w_X11_isClause l X ad F R hI hA r1) ml_X11_286 yS_X11_isClause rfl e_X11_readsClause_6 (by unfold g_rr; decide) (by decide) rfl (Nat.le_of_ble_eq_true rfl) (fun r5 w6 h7 => ?_)
  obtain ⟨rfl, pr5, zx8⟩ := h7
  refine g_if_ne cx 22 e_X11_readsClause_9 (by decide) (fun zc9 => ?_) (fun zc9 => ?_)
  · have p10 := gn_neL 1 1 (gc_ne zc9) pr5 (jv_k (x := 0) 0 (by decide)) (by decide)
    refine g_aload_n cx 1 rfl e_X11_readsClause_22 ?_
    refine g_get cx cl_X11 fl_X11_289 0 (.int (F 27)) e_X11_readsClause_23 rfl rfl ?_
    refine g_bipush cx 14 (by decide) e_X11_readsClause_26 ?_
    refine g_icmp_ne cx 41 e_X11_readsClause_28 (by decide) (fun zc11 => ?_) (fun zc11 => ?_)
    · have p12 := gn_neH 0 13 (gc_ne zc11) (g_ok_g hI 9 rfl) (jv_k (x := 14) 14 (by decide)) (by decide)
      refine g_aload_n cx 1 rfl e_X11_readsClause_41 ?_
      refine g_get cx cl_X11 fl_X11_50 0 (.ref (ad 14)) e_X11_readsClause_42 rfl rfl ?_
      refine g_aload_n cx 1 rfl e_X11_readsClause_45 ?_
      refine g_get cx cl_X11 fl_X11_289 0 (.int (F 27)) e_X11_readsClause_46 rfl rfl ?_
      refine g_iload_n cx 0 rfl e_X11_readsClause_49 ?_
      refine g_iast cx 14 (wM X ad F (g_u R 14 (upd (R 14) (Int32.toNatClampNeg (F 27)) r1))) e_X11_readsClause_50 rfl (jv_ix 14 p12 (by decide)) rfl ?_
      obtain ⟨R13, hR13⟩ : ∃ z, z = g_u R 14 (upd (R 14) (Int32.toNatClampNeg (F 27)) r1) := ⟨_, rfl⟩
      rw [← hR13]
      have oR13 : g_okR LA_wM R13 := by rw [hR13]; exact g_okR_u hA rfl
      have fR13 : g_fr mr_X11_readsClause R R13 := by rw [hR13]; exact g_fr_r (g_fr_rf R) rfl
      have wTR13 : WT F R13 := by rw [hR13]; exact WT_r hWT rfl
      have wCR13 : WC F R13 := by rw [hR13]; exact WC_r hWC rfl
      refine g_aload_n cx 1 rfl e_X11_readsClause_51 ?_
      refine g_aload_n cx 1 rfl e_X11_readsClause_52 ?_
      refine g_get cx cl_X11 fl_X11_190 0 (.int (F 15)) e_X11_readsClause_53 rfl rfl ?_
      refine g_iconst cx 1 (by decide) e_X11_readsClause_56 ?_
      refine g_iadd cx e_X11_readsClause_57 ?_
      refine g_topi (fun x14 ex14 => ?_)
      have zx14 := jv_add 1 221 ex14 (g_ok_g hI 1 rfl) (jv_k (x := 1) 1 (by decide)) (by decide)
      refine g_put cx cl_X11 fl_X11_190 0 (wM X ad (upd F 15 x14) R13) e_X11_readsClause_58 rfl rfl rfl rfl (Nat.le_of_ble_eq_true rfl) rfl ?_
      obtain ⟨F15, hF15⟩ : ∃ z, z = upd F 15 x14 := ⟨_, rfl⟩
      rw [← hF15]
      have oF15 : g_ok LK_wM F15 := by rw [hF15]; exact g_ok_p hI (show jv 0 220 _ from ⟨by have q0 := (g_here_iv F R).1; have q1 := (g_here_iv F R).2; have q2 := (jv_k (x := 1) 1 (by decide)).1; have q3 := (jv_k (x := 1) 1 (by decide)).2; have q4 := (g_ok_g hI 1 rfl).1; have q5 := (g_ok_g hI 1 rfl).2; have q6 := (g_ok_g hI 2 rfl).1; have q7 := (g_ok_g hI 2 rfl).2; have q8 := pr1.1; have q9 := pr1.2; have q10 := zx14.2.1; have q11 := zx14.2.2; have q12 := (congrArg Int32.toInt zx4); have q13 := (@g_here_lt F R); have q14 := (zx8 zc9); have q15 := (g_eq0 zx14.1); omega, by have q0 := (g_here_iv F R).1; have q1 := (g_here_iv F R).2; have q2 := (jv_k (x := 1) 1 (by decide)).1; have q3 := (jv_k (x := 1) 1 (by decide)).2; have q4 := (g_ok_g hI 1 rfl).1; have q5 := (g_ok_g hI 1 rfl).2; have q6 := (g_ok_g hI 2 rfl).1; have q7 := (g_ok_g hI 2 rfl).2; have q8 := pr1.1; have q9 := pr1.2; have q10 := zx14.2.1; have q11 := zx14.2.2; have q12 := (congrArg Int32.toInt zx4); have q13 := (@g_here_lt F R); have q14 := (zx8 zc9); have q15 := (g_eq0 zx14.1); omega⟩) rfl
      have fF15 : g_fr md_X11_readsClause F F15 := by rw [hF15]; exact g_fr_u (g_fr_rf F) rfl
      have wTF15 : WT F15 R13 := by rw [hF15]; exact WT_u wTR13 rfl
      have wCF15 : WC F15 R13 := by rw [hF15]; exact WC_u wCR13 rfl
      refine g_aload_n cx 1 rfl e_X11_readsClause_61 ?_
      refine g_get cx cl_X11 fl_X11_53 0 (.ref (ad 15)) e_X11_readsClause_62 rfl rfl ?_
      refine g_aload_n cx 1 rfl e_X11_readsClause_65 ?_
      refine g_get cx cl_X11 fl_X11_289 0 (.int (F15 27)) e_X11_readsClause_66 rfl rfl ?_
      refine g_toi (F 27) (g_pu2 hF15 rfl) ?_
      refine g_aload_n cx 1 rfl e_X11_readsClause_69 ?_
      refine g_get cx cl_X11 fl_X11_231 0 (.int (F15 25)) e_X11_readsClause_70 rfl rfl ?_
      refine g_toi (F 25) (g_pu2 hF15 rfl) ?_
      refine g_iast cx 15 (wM X ad F15 (g_u R13 15 (upd (R13 15) (Int32.toNatClampNeg (F 27)) (F 25)))) e_X11_readsClause_73 rfl (jv_ix 14 p12 (by decide)) rfl ?_
      obtain ⟨R16, hR16⟩ : ∃ z, z = g_u R13 15 (upd (R13 15) (Int32.toNatClampNeg (F 27)) (F 25)) := ⟨_, rfl⟩
      rw [← hR16]
      have oR16 : g_okR LA_wM R16 := by rw [hR16]; exact g_okR_u oR13 rfl
      have fR16 : g_fr mr_X11_readsClause R R16 := by rw [hR16]; exact g_fr_r fR13 rfl
      have wTR16 : WT F15 R16 := by rw [hR16]; exact WT_r wTF15 rfl
      have wCR16 : WC F15 R16 := by rw [hR16]; exact WC_r wCF15 rfl
      refine g_aload_n cx 1 rfl e_X11_readsClause_74 ?_
      refine g_iconst cx 0 (by decide) e_X11_readsClause_75 ?_
      refine g_put cx cl_X11 fl_X11_235 0 (wM X ad (upd F15 24 0) R16) e_X11_readsClause_76 rfl rfl rfl rfl (Nat.le_of_ble_eq_true rfl) rfl ?_
      obtain ⟨F17, hF17⟩ : ∃ z, z = upd F15 24 0 := ⟨_, rfl⟩
      rw [← hF17]
      have oF17 : g_ok LK_wM F17 := by rw [hF17]; exact g_ok_p oF15 (jv_k (x := 0) 0 (by decide)) rfl
      have fF17 : g_fr md_X11_readsClause F F17 := by rw [hF17]; exact g_fr_u fF15 rfl
      have wTF17 : WT F17 R16 := by rw [hF17]; exact WT_u wTR16 rfl
      have wCF17 : WC F17 R16 := by rw [hF17]; exact WC_u wCR16 rfl
      refine g_aload_n cx 1 rfl e_X11_readsClause_79 ?_
      refine g_iconst cx 0 (by decide) e_X11_readsClause_80 ?_
      refine g_put cx cl_X11 fl_X11_238 0 (wM X ad (upd F17 26 0) R16) e_X11_readsClause_81 rfl rfl rfl rfl (Nat.le_of_ble_eq_true rfl) rfl ?_
      obtain ⟨F18, hF18⟩ : ∃ z, z = upd F17 26 0 := ⟨_, rfl⟩
      rw [← hF18]
      have oF18 : g_ok LK_wM F18 := by rw [hF18]; exact g_ok_p oF17 (jv_k (x := 0) 0 (by decide)) rfl
      have fF18 : g_fr md_X11_readsClause F F18 := by rw [hF18]; exact g_fr_u fF17 rfl
      have wTF18 : WT F18 R16 := by rw [hF18]; exact WT_u wTF17 rfl
      have wCF18 : WC F18 R16 := by rw [hF18]; exact WC_u wCF17 rfl
      have ps84 : PS F18 R16 ((F 25).toInt.toNat, 0) [] 0 := PS_new (by have q := g_ok_g hI 7 rfl; exact q.1) (((g_pu2 hF18 rfl).trans (g_pu2 hF17 rfl)).trans (g_pu2 hF15 rfl)) (g_pu1 hF18) (by have q0 := (g_here_iv F R).1; have q1 := (g_here_iv F R).2; have q2 := (jv_k (x := 1) 1 (by decide)).1; have q3 := (jv_k (x := 1) 1 (by decide)).2; have q4 := (g_ok_g hI 1 rfl).1; have q5 := (g_ok_g hI 1 rfl).2; have q6 := (g_ok_g hI 2 rfl).1; have q7 := (g_ok_g hI 2 rfl).2; have q8 := (g_ok_g hI 7 rfl).1; have q9 := (g_ok_g hI 7 rfl).2; have q10 := (g_ok_g oF18 1 rfl).1; have q11 := (g_ok_g oF18 1 rfl).2; have q12 := pr1.1; have q13 := pr1.2; have q14 := zx14.2.1; have q15 := zx14.2.2; have q16 := (congrArg Int32.toInt zx4); have q17 := (@g_here_lt F R); have q18 := (zx8 zc9); have q19 := (g_eq0 zx14.1); have q20 := (congrArg Int32.toInt (show F18 15 = x14 from (((g_pu2 hF18 rfl).trans (g_pu2 hF17 rfl)).trans (g_pu1 hF15)))); have q21 := hcp; omega)
      refine g_aload_n cx 1 rfl e_X11_readsClause_84 ?_
      refine g_cViW cx [] [] (w_X11_readsSum l X ad F18 R16 oF18 oR16 wTF18 wCF18 ((F 25).toInt.toNat, 0) ([]) (0) ps84 rfl (by omega)) ml_X11_271 yV_X11_readsSum e_X11_readsClause_85 (by unfold g_rr; decide) (by decide) 0 rfl rfl rfl (Nat.le_of_ble_eq_true rfl) (fun r19 w20 h21 => ?_)
      obtain ⟨F23, R24, rfl, oF23, oR24, wTF23, wCF23, cF23, cR24, pr19, zx22⟩ := h21
      have fF23 : g_fr md_X11_readsClause F F23 := g_fr_c fF18 cF23 rfl
      have fR24 : g_fr mr_X11_readsClause R R24 := g_fr_c fR16 cR24 rfl
      refine g_if_ne cx 93 e_X11_readsClause_88 (by decide) (fun zc25 => ?_) (fun zc25 => ?_)
      · have p26 := gn_neL 1 1 (gc_ne zc25) pr19 (jv_k (x := 0) 0 (by decide)) (by decide)
        obtain ⟨psk27, fkk27⟩ := (zx22 zc25)
        have p5k27 := psk27.2.2.2.2.1
        have cgk27 := cg_0 ([] : List (Int × Nat))
        have p25k27 : (F23 25).toInt ≤ (F23 15).toInt := by simp only at p5k27; omega
        have pak27 : (F 25).toInt ≤ (F23 25).toInt := by have q0 := (g_here_iv F R).1; have q1 := (g_here_iv F R).2; have q2 := (jv_k (x := 1) 1 (by decide)).1; have q3 := (jv_k (x := 1) 1 (by decide)).2; have q4 := (g_ok_g hI 1 rfl).1; have q5 := (g_ok_g hI 1 rfl).2; have q6 := (g_ok_g hI 2 rfl).1; have q7 := (g_ok_g hI 2 rfl).2; have q8 := (g_ok_g hI 7 rfl).1; have q9 := (g_ok_g hI 7 rfl).2; have q10 := (g_ok_g oF18 1 rfl).1; have q11 := (g_ok_g oF18 1 rfl).2; have q12 := (g_ok_g oF18 7 rfl).1; have q13 := (g_ok_g oF18 7 rfl).2; have q14 := (g_ok_g oF23 1 rfl).1; have q15 := (g_ok_g oF23 1 rfl).2; have q16 := (g_ok_g oF23 7 rfl).1; have q17 := (g_ok_g oF23 7 rfl).2; have q18 := pr1.1; have q19 := pr1.2; have q20 := zx14.2.1; have q21 := zx14.2.2; have q22 := (congrArg Int32.toInt zx4); have q23 := (@g_here_lt F R); have q24 := (zx8 zc9); have q25 := (g_eq0 zx14.1); have q26 := (congrArg Int32.toInt (show F18 15 = x14 from (((g_pu2 hF18 rfl).trans (g_pu2 hF17 rfl)).trans (g_pu1 hF15)))); have q27 := fkk27.2.2; have q28 := fkk27.2.1; have q29 := (congrArg Int32.toInt (show F18 15 = x14 from (((g_pu2 hF18 rfl).trans (g_pu2 hF17 rfl)).trans (g_pu1 hF15)))); have q30 := (congrArg Int32.toInt (show F18 25 = F 25 from (((g_pu2 hF18 rfl).trans (g_pu2 hF17 rfl)).trans (g_pu2 hF15 rfl)))); have q31 := p25k27; omega
        refine g_aload_n cx 1 rfl e_X11_readsClause_93 ?_
        refine g_get cx cl_X11 fl_X11_56 0 (.ref (ad 16)) e_X11_readsClause_94 rfl rfl ?_
        refine g_aload_n cx 1 rfl e_X11_readsClause_97 ?_
        refine g_get cx cl_X11 fl_X11_289 0 (.int (F23 27)) e_X11_readsClause_98 rfl rfl ?_
        refine g_toi (F 27) ((((cF23 27 rfl).trans (g_pu2 hF18 rfl)).trans (g_pu2 hF17 rfl)).trans (g_pu2 hF15 rfl)) ?_
        refine g_aload_n cx 1 rfl e_X11_readsClause_101 ?_
        refine g_get cx cl_X11 fl_X11_231 0 (.int (F23 25)) e_X11_readsClause_102 rfl rfl ?_
        refine g_iast cx 16 (wM X ad F23 (g_u R24 16 (upd (R24 16) (Int32.toNatClampNeg (F 27)) (F23 25)))) e_X11_readsClause_105 rfl (jv_ix 14 p12 (by decide)) rfl ?_
        obtain ⟨R28, hR28⟩ : ∃ z, z = g_u R24 16 (upd (R24 16) (Int32.toNatClampNeg (F 27)) (F23 25)) := ⟨_, rfl⟩
        rw [← hR28]
        have oR28 : g_okR LA_wM R28 := by rw [hR28]; exact g_okR_u oR24 rfl
        have fR28 : g_fr mr_X11_readsClause R R28 := by rw [hR28]; exact g_fr_r fR24 rfl
        have wTR28 : WT F23 R28 := by rw [hR28]; exact WT_r wTF23 rfl
        have wCR28 : WC F23 R28 := by rw [hR28]; exact WC_r wCF23 rfl
        refine g_aload_n cx 1 rfl e_X11_readsClause_106 ?_
        refine g_cViW cx [] [] (w_X11_readsCondition l X ad F23 R28 oF23 oR28 wTR28 wCR28 (by have q0 := (g_here_iv F R).1; have q1 := (g_here_iv F R).2; have q2 := (jv_k (x := 1) 1 (by decide)).1; have q3 := (jv_k (x := 1) 1 (by decide)).2; have q4 := (g_ok_g hI 1 rfl).1; have q5 := (g_ok_g hI 1 rfl).2; have q6 := (g_ok_g hI 2 rfl).1; have q7 := (g_ok_g hI 2 rfl).2; have q8 := (g_ok_g hI 7 rfl).1; have q9 := (g_ok_g hI 7 rfl).2; have q10 := (g_ok_g oF18 1 rfl).1; have q11 := (g_ok_g oF18 1 rfl).2; have q12 := (g_ok_g oF18 7 rfl).1; have q13 := (g_ok_g oF18 7 rfl).2; have q14 := (g_ok_g oF23 1 rfl).1; have q15 := (g_ok_g oF23 1 rfl).2; have q16 := (g_ok_g oF23 7 rfl).1; have q17 := (g_ok_g oF23 7 rfl).2; have q18 := pr1.1; have q19 := pr1.2; have q20 := zx14.2.1; have q21 := zx14.2.2; have q22 := (congrArg Int32.toInt zx4); have q23 := (@g_here_lt F R); have q24 := (zx8 zc9); have q25 := (g_eq0 zx14.1); have q26 := (congrArg Int32.toInt (show F18 15 = x14 from (((g_pu2 hF18 rfl).trans (g_pu2 hF17 rfl)).trans (g_pu1 hF15)))); have q27 := fkk27.2.2; have q28 := fkk27.2.1; have q29 := (congrArg Int32.toInt (show F18 15 = x14 from (((g_pu2 hF18 rfl).trans (g_pu2 hF17 rfl)).trans (g_pu1 hF15)))); have q30 := (congrArg Int32.toInt (show F18 25 = F 25 from (((g_pu2 hF18 rfl).trans (g_pu2 hF17 rfl)).trans (g_pu2 hF15 rfl)))); have q31 := p25k27; omega)) ml_X11_292 yV_X11_readsCondition e_X11_readsClause_107 (by unfold g_rr; decide) (by decide) 0 rfl rfl rfl (Nat.le_of_ble_eq_true rfl) (fun r29 w30 h31 => ?_)
        obtain ⟨F33, R34, rfl, oF33, oR34, wTF33, wCF33, cF33, cR34, pr29, zx32⟩ := h31
        have fF33 : g_fr md_X11_readsClause F F33 := g_fr_c fF23 cF33 rfl
        have fR34 : g_fr mr_X11_readsClause R R34 := g_fr_c fR28 cR34 rfl
        refine g_if_ne cx 115 e_X11_readsClause_110 (by decide) (fun zc35 => ?_) (fun zc35 => ?_)
        · have p36 := gn_neL 1 1 (gc_ne zc35) pr29 (jv_k (x := 0) 0 (by decide)) (by decide)
          obtain ⟨wfk37, lek37, fkk37⟩ := (zx32 zc35)
          refine g_aload_n cx 1 rfl e_X11_readsClause_115 ?_
          refine g_get cx cl_X11 fl_X11_59 0 (.ref (ad 17)) e_X11_readsClause_116 rfl rfl ?_
          refine g_aload_n cx 1 rfl e_X11_readsClause_119 ?_
          refine g_get cx cl_X11 fl_X11_289 0 (.int (F33 27)) e_X11_readsClause_120 rfl rfl ?_
          refine g_toi (F 27) (((((cF33 27 rfl).trans (cF23 27 rfl)).trans (g_pu2 hF18 rfl)).trans (g_pu2 hF17 rfl)).trans (g_pu2 hF15 rfl)) ?_
          refine g_aload_n cx 1 rfl e_X11_readsClause_123 ?_
          refine g_get cx cl_X11 fl_X11_231 0 (.int (F33 25)) e_X11_readsClause_124 rfl rfl ?_
          refine g_iast cx 17 (wM X ad F33 (g_u R34 17 (upd (R34 17) (Int32.toNatClampNeg (F 27)) (F33 25)))) e_X11_readsClause_127 rfl (jv_ix 14 p12 (by decide)) rfl ?_
          obtain ⟨R38, hR38⟩ : ∃ z, z = g_u R34 17 (upd (R34 17) (Int32.toNatClampNeg (F 27)) (F33 25)) := ⟨_, rfl⟩
          rw [← hR38]
          have oR38 : g_okR LA_wM R38 := by rw [hR38]; exact g_okR_u oR34 rfl
          have fR38 : g_fr mr_X11_readsClause R R38 := by rw [hR38]; exact g_fr_r fR34 rfl
          have wTR38 : WT F33 R38 := by rw [hR38]; exact WT_r wTF33 rfl
          have wCR38 : WC F33 R38 := by rw [hR38]; exact WC_r wCF33 rfl
          refine g_aload_n cx 1 rfl e_X11_readsClause_128 ?_
          refine g_aload_n cx 1 rfl e_X11_readsClause_129 ?_
          refine g_get cx cl_X11 fl_X11_289 0 (.int (F33 27)) e_X11_readsClause_130 rfl rfl ?_
          refine g_toi (F 27) (((((cF33 27 rfl).trans (cF23 27 rfl)).trans (g_pu2 hF18 rfl)).trans (g_pu2 hF17 rfl)).trans (g_pu2 hF15 rfl)) ?_
          refine g_iconst cx 1 (by decide) e_X11_readsClause_133 ?_
          refine g_iadd cx e_X11_readsClause_134 ?_
          refine g_topi (fun x39 ex39 => ?_)
          have zx39 := jv_add 1 14 ex39 p12 (jv_k (x := 1) 1 (by decide)) (by decide)
          refine g_put cx cl_X11 fl_X11_289 0 (wM X ad (upd F33 27 x39) R38) e_X11_readsClause_135 rfl rfl rfl rfl (Nat.le_of_ble_eq_true rfl) rfl ?_
          obtain ⟨F40, hF40⟩ : ∃ z, z = upd F33 27 x39 := ⟨_, rfl⟩
          rw [← hF40]
          have oF40 : g_ok LK_wM F40 := by rw [hF40]; exact g_ok_p oF33 zx39.2 rfl
          have fF40 : g_fr md_X11_readsClause F F40 := by rw [hF40]; exact g_fr_u fF33 rfl
          have wTF40 : WT F40 R38 := by rw [hF40]; exact WT_u wTR38 rfl
          have wCF40 : WC F40 R38 := by rw [hF40]; exact WC_u wCR38 rfl
          refine g_iconst cx 1 (by decide) e_X11_readsClause_138 ?_
          exact hret e_X11_readsClause_139 (Nat.le_of_ble_eq_true rfl) (Nat.le_of_ble_eq_true rfl) rfl ⟨F40, R38, rfl, oF40, oR38, wTF40, wCF40, fF40, fR38, (jv_w (jv_k (x := 1) 1 (by decide)) (by decide)), (fun _ => ⟨(by
      have e12 : R38 12 = R34 12 := (g_ru2 hR38 rfl)
      have c0 : ∀ q, q < (F23 25).toInt.toNat → R34 12 q = R24 12 q := fun q hq => (fkk37.1 q (by rw [show (F23 25) = (F23 25) from rfl]; exact hq)).trans (congrFun (show R28 12 = R24 12 from (g_ru2 hR28 rfl)) q)
      have s0 : ∀ q, q < (F 25).toInt.toNat → R24 12 q = R 12 q := fun q hq => (fkk27.1 q (by rw [show F18 25 = F 25 from (((g_pu2 hF18 rfl).trans (g_pu2 hF17 rfl)).trans (g_pu2 hF15 rfl))]; exact hq)).trans (congrFun (show R16 12 = R 12 from ((g_ru2 hR16 rfl).trans (g_ru2 hR13 rfl))) q)
      have wa := PS_end psk27 ((by have q := psk27.2.2.1; simp only [List.length_nil] at q; omega))
      have wb := wfk37
      rw [show F23 25 = F23 25 from rfl] at wb
      refine WD_add (b := (F23 25).toInt.toNat) (c := (F33 25).toInt.toNat) (x := F 25) (y := F23 25) (z := F33 25) hwd (by have q0 := (g_here_iv F R).1; have q1 := (g_here_iv F R).2; have q2 := (jv_k (x := 1) 1 (by decide)).1; have q3 := (jv_k (x := 1) 1 (by decide)).2; have q4 := (jv_k (x := 14) 14 (by decide)).1; have q5 := (jv_k (x := 14) 14 (by decide)).2; have q6 := (g_ok_g hI 1 rfl).1; have q7 := (g_ok_g hI 1 rfl).2; have q8 := (g_ok_g hI 2 rfl).1; have q9 := (g_ok_g hI 2 rfl).2; have q10 := (g_ok_g hI 7 rfl).1; have q11 := (g_ok_g hI 7 rfl).2; have q12 := p12.1; have q13 := p12.2; have q14 := (g_ok_g oF18 1 rfl).1; have q15 := (g_ok_g oF18 1 rfl).2; have q16 := (g_ok_g oF18 7 rfl).1; have q17 := (g_ok_g oF18 7 rfl).2; have q18 := (g_ok_g oF23 1 rfl).1; have q19 := (g_ok_g oF23 1 rfl).2; have q20 := (g_ok_g oF23 7 rfl).1; have q21 := (g_ok_g oF23 7 rfl).2; have q22 := (g_ok_g oF33 1 rfl).1; have q23 := (g_ok_g oF33 1 rfl).2; have q24 := (g_ok_g oF33 7 rfl).1; have q25 := (g_ok_g oF33 7 rfl).2; have q26 := pr1.1; have q27 := pr1.2; have q28 := zx14.2.1; have q29 := zx14.2.2; have q30 := zx39.2.1; have q31 := zx39.2.2; have q32 := (congrArg Int32.toInt zx4); have q33 := (@g_here_lt F R); have q34 := (zx8 zc9); have q35 := (gc_ne zc11); have q36 := (g_eq0 zx14.1); have q37 := (congrArg Int32.toInt (show F18 15 = x14 from (((g_pu2 hF18 rfl).trans (g_pu2 hF17 rfl)).trans (g_pu1 hF15)))); have q38 := fkk27.2.2; have q39 := fkk27.2.1; have q40 := (congrArg Int32.toInt (show F18 15 = x14 from (((g_pu2 hF18 rfl).trans (g_pu2 hF17 rfl)).trans (g_pu1 hF15)))); have q41 := (congrArg Int32.toInt (show F18 25 = F 25 from (((g_pu2 hF18 rfl).trans (g_pu2 hF17 rfl)).trans (g_pu2 hF15 rfl)))); have q42 := p25k27; have q43 := lek37; have q44 := fkk37.2.2; have q45 := fkk37.2.1; have q46 := (g_eq0 zx39.1); omega) (by have q0 := (g_here_iv F R).1; have q1 := (g_here_iv F R).2; have q2 := (jv_k (x := 1) 1 (by decide)).1; have q3 := (jv_k (x := 1) 1 (by decide)).2; have q4 := (jv_k (x := 14) 14 (by decide)).1; have q5 := (jv_k (x := 14) 14 (by decide)).2; have q6 := (g_ok_g hI 1 rfl).1; have q7 := (g_ok_g hI 1 rfl).2; have q8 := (g_ok_g hI 2 rfl).1; have q9 := (g_ok_g hI 2 rfl).2; have q10 := (g_ok_g hI 7 rfl).1; have q11 := (g_ok_g hI 7 rfl).2; have q12 := p12.1; have q13 := p12.2; have q14 := (g_ok_g oF18 1 rfl).1; have q15 := (g_ok_g oF18 1 rfl).2; have q16 := (g_ok_g oF18 7 rfl).1; have q17 := (g_ok_g oF18 7 rfl).2; have q18 := (g_ok_g oF23 1 rfl).1; have q19 := (g_ok_g oF23 1 rfl).2; have q20 := (g_ok_g oF23 7 rfl).1; have q21 := (g_ok_g oF23 7 rfl).2; have q22 := (g_ok_g oF33 1 rfl).1; have q23 := (g_ok_g oF33 1 rfl).2; have q24 := (g_ok_g oF33 7 rfl).1; have q25 := (g_ok_g oF33 7 rfl).2; have q26 := (g_ok_g oF40 9 rfl).1; have q27 := (g_ok_g oF40 9 rfl).2; have q28 := pr1.1; have q29 := pr1.2; have q30 := zx14.2.1; have q31 := zx14.2.2; have q32 := zx39.2.1; have q33 := zx39.2.2; have q34 := (congrArg Int32.toInt zx4); have q35 := (@g_here_lt F R); have q36 := (zx8 zc9); have q37 := (gc_ne zc11); have q38 := (g_eq0 zx14.1); have q39 := (congrArg Int32.toInt (show F18 15 = x14 from (((g_pu2 hF18 rfl).trans (g_pu2 hF17 rfl)).trans (g_pu1 hF15)))); have q40 := fkk27.2.2; have q41 := fkk27.2.1; have q42 := (congrArg Int32.toInt (show F18 15 = x14 from (((g_pu2 hF18 rfl).trans (g_pu2 hF17 rfl)).trans (g_pu1 hF15)))); have q43 := (congrArg Int32.toInt (show F18 25 = F 25 from (((g_pu2 hF18 rfl).trans (g_pu2 hF17 rfl)).trans (g_pu2 hF15 rfl)))); have q44 := p25k27; have q45 := lek37; have q46 := fkk37.2.2; have q47 := fkk37.2.1; have q48 := (g_eq0 zx39.1); have q49 := (congrArg Int32.toInt (show F40 27 = x39 from (g_pu1 hF40))); omega) ((((((g_ru2 hR38 rfl).trans (cR34 15 rfl)).trans (g_ru2 hR28 rfl)).trans (cR24 15 rfl)).trans (g_ru1 hR16)).trans (by rw [show R13 15 = R 15 from (g_ru2 hR13 rfl), show F 27 = F 27 from rfl])) ((((g_ru2 hR38 rfl).trans (cR34 16 rfl)).trans (g_ru1 hR28)).trans (by rw [show R24 16 = R 16 from (((cR24 16 rfl).trans (g_ru2 hR16 rfl)).trans (g_ru2 hR13 rfl)), show F 27 = F 27 from rfl])) ((g_ru1 hR38).trans (by rw [show R34 17 = R 17 from (((((cR34 17 rfl).trans (g_ru2 hR28 rfl)).trans (cR24 17 rfl)).trans (g_ru2 hR16 rfl)).trans (g_ru2 hR13 rfl)), show F 27 = F 27 from rfl])) (by have q0 := (g_here_iv F R).1; have q1 := (g_here_iv F R).2; have q2 := (jv_k (x := 1) 1 (by decide)).1; have q3 := (jv_k (x := 1) 1 (by decide)).2; have q4 := (g_ok_g hI 1 rfl).1; have q5 := (g_ok_g hI 1 rfl).2; have q6 := (g_ok_g hI 2 rfl).1; have q7 := (g_ok_g hI 2 rfl).2; have q8 := (g_ok_g hI 7 rfl).1; have q9 := (g_ok_g hI 7 rfl).2; have q10 := p12.1; have q11 := p12.2; have q12 := (g_ok_g oF18 1 rfl).1; have q13 := (g_ok_g oF18 1 rfl).2; have q14 := (g_ok_g oF18 7 rfl).1; have q15 := (g_ok_g oF18 7 rfl).2; have q16 := (g_ok_g oF23 1 rfl).1; have q17 := (g_ok_g oF23 1 rfl).2; have q18 := (g_ok_g oF23 7 rfl).1; have q19 := (g_ok_g oF23 7 rfl).2; have q20 := (g_ok_g oF33 1 rfl).1; have q21 := (g_ok_g oF33 1 rfl).2; have q22 := (g_ok_g oF33 7 rfl).1; have q23 := (g_ok_g oF33 7 rfl).2; have q24 := zx14.2.1; have q25 := zx14.2.2; have q26 := zx39.2.1; have q27 := zx39.2.2; have q28 := (@g_here_lt F R); have q29 := (g_eq0 zx14.1); have q30 := (congrArg Int32.toInt (show F18 15 = x14 from (((g_pu2 hF18 rfl).trans (g_pu2 hF17 rfl)).trans (g_pu1 hF15)))); have q31 := fkk27.2.2; have q32 := fkk27.2.1; have q33 := (congrArg Int32.toInt (show F18 15 = x14 from (((g_pu2 hF18 rfl).trans (g_pu2 hF17 rfl)).trans (g_pu1 hF15)))); have q34 := (congrArg Int32.toInt (show F18 25 = F 25 from (((g_pu2 hF18 rfl).trans (g_pu2 hF17 rfl)).trans (g_pu2 hF15 rfl)))); have q35 := p25k27; have q36 := lek37; have q37 := fkk37.2.2; have q38 := fkk37.2.1; have q39 := (g_eq0 zx39.1); omega) (by have q0 := (g_here_iv F R).1; have q1 := (g_here_iv F R).2; have q2 := (jv_k (x := 1) 1 (by decide)).1; have q3 := (jv_k (x := 1) 1 (by decide)).2; have q4 := (g_ok_g hI 1 rfl).1; have q5 := (g_ok_g hI 1 rfl).2; have q6 := (g_ok_g hI 2 rfl).1; have q7 := (g_ok_g hI 2 rfl).2; have q8 := (g_ok_g hI 7 rfl).1; have q9 := (g_ok_g hI 7 rfl).2; have q10 := p12.1; have q11 := p12.2; have q12 := (g_ok_g oF18 1 rfl).1; have q13 := (g_ok_g oF18 1 rfl).2; have q14 := (g_ok_g oF18 7 rfl).1; have q15 := (g_ok_g oF18 7 rfl).2; have q16 := (g_ok_g oF23 1 rfl).1; have q17 := (g_ok_g oF23 1 rfl).2; have q18 := (g_ok_g oF23 7 rfl).1; have q19 := (g_ok_g oF23 7 rfl).2; have q20 := (g_ok_g oF33 1 rfl).1; have q21 := (g_ok_g oF33 1 rfl).2; have q22 := (g_ok_g oF33 7 rfl).1; have q23 := (g_ok_g oF33 7 rfl).2; have q24 := zx14.2.1; have q25 := zx14.2.2; have q26 := zx39.2.1; have q27 := zx39.2.2; have q28 := (@g_here_lt F R); have q29 := (g_eq0 zx14.1); have q30 := (congrArg Int32.toInt (show F18 15 = x14 from (((g_pu2 hF18 rfl).trans (g_pu2 hF17 rfl)).trans (g_pu1 hF15)))); have q31 := fkk27.2.2; have q32 := fkk27.2.1; have q33 := (congrArg Int32.toInt (show F18 15 = x14 from (((g_pu2 hF18 rfl).trans (g_pu2 hF17 rfl)).trans (g_pu1 hF15)))); have q34 := (congrArg Int32.toInt (show F18 25 = F 25 from (((g_pu2 hF18 rfl).trans (g_pu2 hF17 rfl)).trans (g_pu2 hF15 rfl)))); have q35 := p25k27; have q36 := lek37; have q37 := fkk37.2.2; have q38 := fkk37.2.1; have q39 := (g_eq0 zx39.1); omega) (by have q0 := (g_here_iv F R).1; have q1 := (g_here_iv F R).2; have q2 := (jv_k (x := 1) 1 (by decide)).1; have q3 := (jv_k (x := 1) 1 (by decide)).2; have q4 := (jv_k (x := 14) 14 (by decide)).1; have q5 := (jv_k (x := 14) 14 (by decide)).2; have q6 := (g_ok_g hI 1 rfl).1; have q7 := (g_ok_g hI 1 rfl).2; have q8 := (g_ok_g hI 2 rfl).1; have q9 := (g_ok_g hI 2 rfl).2; have q10 := (g_ok_g hI 7 rfl).1; have q11 := (g_ok_g hI 7 rfl).2; have q12 := p12.1; have q13 := p12.2; have q14 := (g_ok_g oF18 1 rfl).1; have q15 := (g_ok_g oF18 1 rfl).2; have q16 := (g_ok_g oF18 7 rfl).1; have q17 := (g_ok_g oF18 7 rfl).2; have q18 := (g_ok_g oF23 1 rfl).1; have q19 := (g_ok_g oF23 1 rfl).2; have q20 := (g_ok_g oF23 7 rfl).1; have q21 := (g_ok_g oF23 7 rfl).2; have q22 := (g_ok_g oF33 1 rfl).1; have q23 := (g_ok_g oF33 1 rfl).2; have q24 := (g_ok_g oF33 7 rfl).1; have q25 := (g_ok_g oF33 7 rfl).2; have q26 := (g_ok_g oF40 9 rfl).1; have q27 := (g_ok_g oF40 9 rfl).2; have q28 := pr1.1; have q29 := pr1.2; have q30 := zx14.2.1; have q31 := zx14.2.2; have q32 := zx39.2.1; have q33 := zx39.2.2; have q34 := (congrArg Int32.toInt zx4); have q35 := (@g_here_lt F R); have q36 := (zx8 zc9); have q37 := (gc_ne zc11); have q38 := (g_eq0 zx14.1); have q39 := (congrArg Int32.toInt (show F18 15 = x14 from (((g_pu2 hF18 rfl).trans (g_pu2 hF17 rfl)).trans (g_pu1 hF15)))); have q40 := fkk27.2.2; have q41 := fkk27.2.1; have q42 := (congrArg Int32.toInt (show F18 15 = x14 from (((g_pu2 hF18 rfl).trans (g_pu2 hF17 rfl)).trans (g_pu1 hF15)))); have q43 := (congrArg Int32.toInt (show F18 25 = F 25 from (((g_pu2 hF18 rfl).trans (g_pu2 hF17 rfl)).trans (g_pu2 hF15 rfl)))); have q44 := p25k27; have q45 := lek37; have q46 := fkk37.2.2; have q47 := fkk37.2.1; have q48 := (g_eq0 zx39.1); have q49 := (congrArg Int32.toInt (show F40 27 = x39 from (g_pu1 hF40))); omega) (by have q0 := (g_here_iv F R).1; have q1 := (g_here_iv F R).2; have q2 := (jv_k (x := 1) 1 (by decide)).1; have q3 := (jv_k (x := 1) 1 (by decide)).2; have q4 := (jv_k (x := 14) 14 (by decide)).1; have q5 := (jv_k (x := 14) 14 (by decide)).2; have q6 := (g_ok_g hI 1 rfl).1; have q7 := (g_ok_g hI 1 rfl).2; have q8 := (g_ok_g hI 2 rfl).1; have q9 := (g_ok_g hI 2 rfl).2; have q10 := (g_ok_g hI 7 rfl).1; have q11 := (g_ok_g hI 7 rfl).2; have q12 := p12.1; have q13 := p12.2; have q14 := (g_ok_g oF18 1 rfl).1; have q15 := (g_ok_g oF18 1 rfl).2; have q16 := (g_ok_g oF18 7 rfl).1; have q17 := (g_ok_g oF18 7 rfl).2; have q18 := (g_ok_g oF23 1 rfl).1; have q19 := (g_ok_g oF23 1 rfl).2; have q20 := (g_ok_g oF23 7 rfl).1; have q21 := (g_ok_g oF23 7 rfl).2; have q22 := (g_ok_g oF33 1 rfl).1; have q23 := (g_ok_g oF33 1 rfl).2; have q24 := (g_ok_g oF33 7 rfl).1; have q25 := (g_ok_g oF33 7 rfl).2; have q26 := (g_ok_g oF40 9 rfl).1; have q27 := (g_ok_g oF40 9 rfl).2; have q28 := pr1.1; have q29 := pr1.2; have q30 := zx14.2.1; have q31 := zx14.2.2; have q32 := zx39.2.1; have q33 := zx39.2.2; have q34 := (congrArg Int32.toInt zx4); have q35 := (@g_here_lt F R); have q36 := (gc_ne zc11); have q37 := (g_eq0 zx14.1); have q38 := (congrArg Int32.toInt (show F18 15 = x14 from (((g_pu2 hF18 rfl).trans (g_pu2 hF17 rfl)).trans (g_pu1 hF15)))); have q39 := fkk27.2.2; have q40 := fkk27.2.1; have q41 := (congrArg Int32.toInt (show F18 15 = x14 from (((g_pu2 hF18 rfl).trans (g_pu2 hF17 rfl)).trans (g_pu1 hF15)))); have q42 := (congrArg Int32.toInt (show F18 25 = F 25 from (((g_pu2 hF18 rfl).trans (g_pu2 hF17 rfl)).trans (g_pu2 hF15 rfl)))); have q43 := p25k27; have q44 := lek37; have q45 := fkk37.2.2; have q46 := fkk37.2.1; have q47 := (g_eq0 zx39.1); have q48 := (congrArg Int32.toInt (show F40 27 = x39 from (g_pu1 hF40))); omega) (by have q0 := (g_here_iv F R).1; have q1 := (g_here_iv F R).2; have q2 := (jv_k (x := 1) 1 (by decide)).1; have q3 := (jv_k (x := 1) 1 (by decide)).2; have q4 := (jv_k (x := 14) 14 (by decide)).1; have q5 := (jv_k (x := 14) 14 (by decide)).2; have q6 := (g_ok_g hI 1 rfl).1; have q7 := (g_ok_g hI 1 rfl).2; have q8 := (g_ok_g hI 2 rfl).1; have q9 := (g_ok_g hI 2 rfl).2; have q10 := (g_ok_g hI 7 rfl).1; have q11 := (g_ok_g hI 7 rfl).2; have q12 := p12.1; have q13 := p12.2; have q14 := (g_ok_g oF18 1 rfl).1; have q15 := (g_ok_g oF18 1 rfl).2; have q16 := (g_ok_g oF18 7 rfl).1; have q17 := (g_ok_g oF18 7 rfl).2; have q18 := (g_ok_g oF23 1 rfl).1; have q19 := (g_ok_g oF23 1 rfl).2; have q20 := (g_ok_g oF23 7 rfl).1; have q21 := (g_ok_g oF23 7 rfl).2; have q22 := (g_ok_g oF33 1 rfl).1; have q23 := (g_ok_g oF33 1 rfl).2; have q24 := (g_ok_g oF33 7 rfl).1; have q25 := (g_ok_g oF33 7 rfl).2; have q26 := (g_ok_g oF40 9 rfl).1; have q27 := (g_ok_g oF40 9 rfl).2; have q28 := pr1.1; have q29 := pr1.2; have q30 := zx14.2.1; have q31 := zx14.2.2; have q32 := zx39.2.1; have q33 := zx39.2.2; have q34 := (congrArg Int32.toInt zx4); have q35 := (@g_here_lt F R); have q36 := (zx8 zc9); have q37 := (gc_ne zc11); have q38 := (g_eq0 zx14.1); have q39 := (congrArg Int32.toInt (show F18 15 = x14 from (((g_pu2 hF18 rfl).trans (g_pu2 hF17 rfl)).trans (g_pu1 hF15)))); have q40 := fkk27.2.2; have q41 := fkk27.2.1; have q42 := (congrArg Int32.toInt (show F18 15 = x14 from (((g_pu2 hF18 rfl).trans (g_pu2 hF17 rfl)).trans (g_pu1 hF15)))); have q43 := (congrArg Int32.toInt (show F18 25 = F 25 from (((g_pu2 hF18 rfl).trans (g_pu2 hF17 rfl)).trans (g_pu2 hF15 rfl)))); have q44 := p25k27; have q45 := lek37; have q46 := fkk37.2.2; have q47 := fkk37.2.1; have q48 := (g_eq0 zx39.1); have q49 := (congrArg Int32.toInt (show F40 27 = x39 from (g_pu1 hF40))); omega) (by have q0 := (g_here_iv F R).1; have q1 := (g_here_iv F R).2; have q2 := (jv_k (x := 1) 1 (by decide)).1; have q3 := (jv_k (x := 1) 1 (by decide)).2; have q4 := (jv_k (x := 14) 14 (by decide)).1; have q5 := (jv_k (x := 14) 14 (by decide)).2; have q6 := (g_ok_g hI 1 rfl).1; have q7 := (g_ok_g hI 1 rfl).2; have q8 := (g_ok_g hI 2 rfl).1; have q9 := (g_ok_g hI 2 rfl).2; have q10 := (g_ok_g hI 7 rfl).1; have q11 := (g_ok_g hI 7 rfl).2; have q12 := p12.1; have q13 := p12.2; have q14 := (g_ok_g oF18 1 rfl).1; have q15 := (g_ok_g oF18 1 rfl).2; have q16 := (g_ok_g oF18 7 rfl).1; have q17 := (g_ok_g oF18 7 rfl).2; have q18 := (g_ok_g oF23 1 rfl).1; have q19 := (g_ok_g oF23 1 rfl).2; have q20 := (g_ok_g oF23 7 rfl).1; have q21 := (g_ok_g oF23 7 rfl).2; have q22 := (g_ok_g oF33 1 rfl).1; have q23 := (g_ok_g oF33 1 rfl).2; have q24 := (g_ok_g oF33 7 rfl).1; have q25 := (g_ok_g oF33 7 rfl).2; have q26 := (g_ok_g oF40 9 rfl).1; have q27 := (g_ok_g oF40 9 rfl).2; have q28 := pr1.1; have q29 := pr1.2; have q30 := zx14.2.1; have q31 := zx14.2.2; have q32 := zx39.2.1; have q33 := zx39.2.2; have q34 := (congrArg Int32.toInt zx4); have q35 := (@g_here_lt F R); have q36 := (zx8 zc9); have q37 := (gc_ne zc11); have q38 := (g_eq0 zx14.1); have q39 := (congrArg Int32.toInt (show F18 15 = x14 from (((g_pu2 hF18 rfl).trans (g_pu2 hF17 rfl)).trans (g_pu1 hF15)))); have q40 := fkk27.2.2; have q41 := fkk27.2.1; have q42 := (congrArg Int32.toInt (show F18 15 = x14 from (((g_pu2 hF18 rfl).trans (g_pu2 hF17 rfl)).trans (g_pu1 hF15)))); have q43 := (congrArg Int32.toInt (show F18 25 = F 25 from (((g_pu2 hF18 rfl).trans (g_pu2 hF17 rfl)).trans (g_pu2 hF15 rfl)))); have q44 := p25k27; have q45 := lek37; have q46 := fkk37.2.2; have q47 := fkk37.2.1; have q48 := (g_eq0 zx39.1); have q49 := (congrArg Int32.toInt (show F40 27 = x39 from (g_pu1 hF40))); omega) (by have q0 := (g_here_iv F R).1; have q1 := (g_here_iv F R).2; have q2 := (jv_k (x := 1) 1 (by decide)).1; have q3 := (jv_k (x := 1) 1 (by decide)).2; have q4 := (jv_k (x := 14) 14 (by decide)).1; have q5 := (jv_k (x := 14) 14 (by decide)).2; have q6 := (g_ok_g hI 1 rfl).1; have q7 := (g_ok_g hI 1 rfl).2; have q8 := (g_ok_g hI 2 rfl).1; have q9 := (g_ok_g hI 2 rfl).2; have q10 := (g_ok_g hI 7 rfl).1; have q11 := (g_ok_g hI 7 rfl).2; have q12 := p12.1; have q13 := p12.2; have q14 := (g_ok_g oF18 1 rfl).1; have q15 := (g_ok_g oF18 1 rfl).2; have q16 := (g_ok_g oF18 7 rfl).1; have q17 := (g_ok_g oF18 7 rfl).2; have q18 := (g_ok_g oF23 1 rfl).1; have q19 := (g_ok_g oF23 1 rfl).2; have q20 := (g_ok_g oF23 7 rfl).1; have q21 := (g_ok_g oF23 7 rfl).2; have q22 := (g_ok_g oF33 1 rfl).1; have q23 := (g_ok_g oF33 1 rfl).2; have q24 := (g_ok_g oF33 7 rfl).1; have q25 := (g_ok_g oF33 7 rfl).2; have q26 := (g_ok_g oF40 7 rfl).1; have q27 := (g_ok_g oF40 7 rfl).2; have q28 := (g_ok_g oF40 9 rfl).1; have q29 := (g_ok_g oF40 9 rfl).2; have q30 := pr1.1; have q31 := pr1.2; have q32 := zx14.2.1; have q33 := zx14.2.2; have q34 := zx39.2.1; have q35 := zx39.2.2; have q36 := (congrArg Int32.toInt zx4); have q37 := (@g_here_lt F R); have q38 := (gc_ne zc11); have q39 := (g_eq0 zx14.1); have q40 := (congrArg Int32.toInt (show F18 15 = x14 from (((g_pu2 hF18 rfl).trans (g_pu2 hF17 rfl)).trans (g_pu1 hF15)))); have q41 := fkk27.2.2; have q42 := fkk27.2.1; have q43 := (congrArg Int32.toInt (show F18 15 = x14 from (((g_pu2 hF18 rfl).trans (g_pu2 hF17 rfl)).trans (g_pu1 hF15)))); have q44 := (congrArg Int32.toInt (show F18 25 = F 25 from (((g_pu2 hF18 rfl).trans (g_pu2 hF17 rfl)).trans (g_pu2 hF15 rfl)))); have q45 := p25k27; have q46 := lek37; have q47 := fkk37.2.2; have q48 := fkk37.2.1; have q49 := (g_eq0 zx39.1); have q50 := (congrArg Int32.toInt (show F40 27 = x39 from (g_pu1 hF40))); have q51 := (congrArg Int32.toInt (show F40 25 = F33 25 from (g_pu2 hF40 rfl))); omega) ?_ ?_ ?_
      · rw [e12]; exact g_wf_eq (fun q _ hq => c0 q hq) wa
      · rw [e12]; exact wb
      · intro q hq; rw [e12]; exact (c0 q (by omega)).trans (s0 q hq)), by have q0 := (g_here_iv F R).1; have q1 := (g_here_iv F R).2; have q2 := (jv_k (x := 1) 1 (by decide)).1; have q3 := (jv_k (x := 1) 1 (by decide)).2; have q4 := (jv_k (x := 14) 14 (by decide)).1; have q5 := (jv_k (x := 14) 14 (by decide)).2; have q6 := (g_ok_g hI 1 rfl).1; have q7 := (g_ok_g hI 1 rfl).2; have q8 := (g_ok_g hI 2 rfl).1; have q9 := (g_ok_g hI 2 rfl).2; have q10 := (g_ok_g hI 7 rfl).1; have q11 := (g_ok_g hI 7 rfl).2; have q12 := p12.1; have q13 := p12.2; have q14 := (g_ok_g oF18 1 rfl).1; have q15 := (g_ok_g oF18 1 rfl).2; have q16 := (g_ok_g oF18 7 rfl).1; have q17 := (g_ok_g oF18 7 rfl).2; have q18 := (g_ok_g oF23 1 rfl).1; have q19 := (g_ok_g oF23 1 rfl).2; have q20 := (g_ok_g oF23 7 rfl).1; have q21 := (g_ok_g oF23 7 rfl).2; have q22 := (g_ok_g oF33 1 rfl).1; have q23 := (g_ok_g oF33 1 rfl).2; have q24 := (g_ok_g oF33 7 rfl).1; have q25 := (g_ok_g oF33 7 rfl).2; have q26 := (g_ok_g oF40 1 rfl).1; have q27 := (g_ok_g oF40 1 rfl).2; have q28 := (g_ok_g oF40 7 rfl).1; have q29 := (g_ok_g oF40 7 rfl).2; have q30 := (g_ok_g oF40 9 rfl).1; have q31 := (g_ok_g oF40 9 rfl).2; have q32 := pr1.1; have q33 := pr1.2; have q34 := zx14.2.1; have q35 := zx14.2.2; have q36 := zx39.2.1; have q37 := zx39.2.2; have q38 := (congrArg Int32.toInt zx4); have q39 := (@g_here_lt F R); have q40 := (gc_ne zc11); have q41 := (g_eq0 zx14.1); have q42 := (congrArg Int32.toInt (show F18 15 = x14 from (((g_pu2 hF18 rfl).trans (g_pu2 hF17 rfl)).trans (g_pu1 hF15)))); have q43 := fkk27.2.2; have q44 := fkk27.2.1; have q45 := (congrArg Int32.toInt (show F18 15 = x14 from (((g_pu2 hF18 rfl).trans (g_pu2 hF17 rfl)).trans (g_pu1 hF15)))); have q46 := (congrArg Int32.toInt (show F18 25 = F 25 from (((g_pu2 hF18 rfl).trans (g_pu2 hF17 rfl)).trans (g_pu2 hF15 rfl)))); have q47 := p25k27; have q48 := lek37; have q49 := fkk37.2.2; have q50 := fkk37.2.1; have q51 := (g_eq0 zx39.1); have q52 := (congrArg Int32.toInt (show F40 27 = x39 from (g_pu1 hF40))); have q53 := (congrArg Int32.toInt (show F40 25 = F33 25 from (g_pu2 hF40 rfl))); have q54 := (congrArg Int32.toInt (show F40 25 = F33 25 from (g_pu2 hF40 rfl))); have q55 := (congrArg Int32.toInt (show F40 15 = F33 15 from (g_pu2 hF40 rfl))); omega, by have q0 := (g_here_iv F R).1; have q1 := (g_here_iv F R).2; have q2 := (jv_k (x := 1) 1 (by decide)).1; have q3 := (jv_k (x := 1) 1 (by decide)).2; have q4 := (jv_k (x := 14) 14 (by decide)).1; have q5 := (jv_k (x := 14) 14 (by decide)).2; have q6 := (g_ok_g hI 1 rfl).1; have q7 := (g_ok_g hI 1 rfl).2; have q8 := (g_ok_g hI 2 rfl).1; have q9 := (g_ok_g hI 2 rfl).2; have q10 := (g_ok_g hI 7 rfl).1; have q11 := (g_ok_g hI 7 rfl).2; have q12 := p12.1; have q13 := p12.2; have q14 := (g_ok_g oF18 1 rfl).1; have q15 := (g_ok_g oF18 1 rfl).2; have q16 := (g_ok_g oF18 7 rfl).1; have q17 := (g_ok_g oF18 7 rfl).2; have q18 := (g_ok_g oF23 1 rfl).1; have q19 := (g_ok_g oF23 1 rfl).2; have q20 := (g_ok_g oF23 7 rfl).1; have q21 := (g_ok_g oF23 7 rfl).2; have q22 := (g_ok_g oF33 1 rfl).1; have q23 := (g_ok_g oF33 1 rfl).2; have q24 := (g_ok_g oF33 7 rfl).1; have q25 := (g_ok_g oF33 7 rfl).2; have q26 := (g_ok_g oF40 1 rfl).1; have q27 := (g_ok_g oF40 1 rfl).2; have q28 := (g_ok_g oF40 7 rfl).1; have q29 := (g_ok_g oF40 7 rfl).2; have q30 := (g_ok_g oF40 9 rfl).1; have q31 := (g_ok_g oF40 9 rfl).2; have q32 := pr1.1; have q33 := pr1.2; have q34 := zx14.2.1; have q35 := zx14.2.2; have q36 := zx39.2.1; have q37 := zx39.2.2; have q38 := (congrArg Int32.toInt zx4); have q39 := (@g_here_lt F R); have q40 := (zx8 zc9); have q41 := (gc_ne zc11); have q42 := (g_eq0 zx14.1); have q43 := (congrArg Int32.toInt (show F18 15 = x14 from (((g_pu2 hF18 rfl).trans (g_pu2 hF17 rfl)).trans (g_pu1 hF15)))); have q44 := fkk27.2.2; have q45 := fkk27.2.1; have q46 := (congrArg Int32.toInt (show F18 15 = x14 from (((g_pu2 hF18 rfl).trans (g_pu2 hF17 rfl)).trans (g_pu1 hF15)))); have q47 := (congrArg Int32.toInt (show F18 25 = F 25 from (((g_pu2 hF18 rfl).trans (g_pu2 hF17 rfl)).trans (g_pu2 hF15 rfl)))); have q48 := p25k27; have q49 := lek37; have q50 := fkk37.2.2; have q51 := fkk37.2.1; have q52 := (g_eq0 zx39.1); have q53 := (congrArg Int32.toInt (show F40 27 = x39 from (g_pu1 hF40))); have q54 := (congrArg Int32.toInt (show F40 25 = F33 25 from (g_pu2 hF40 rfl))); have q55 := (congrArg Int32.toInt (show F40 25 = F33 25 from (g_pu2 hF40 rfl))); have q56 := (congrArg Int32.toInt (show F40 15 = F33 15 from (g_pu2 hF40 rfl))); have q57 := (congrArg Int32.toInt (show F40 15 = F33 15 from (g_pu2 hF40 rfl))); omega⟩)⟩
        · have p41 := gn_eq 0 0 (gc_eq zc35) pr29 (jv_k (x := 0) 0 (by decide)) (by decide)
          refine g_iconst cx 0 (by decide) e_X11_readsClause_113 ?_
          exact hret e_X11_readsClause_114 (Nat.le_of_ble_eq_true rfl) (Nat.le_of_ble_eq_true rfl) rfl ⟨F33, R34, rfl, oF33, oR34, wTF33, wCF33, fF33, fR34, (jv_w (jv_k (x := 0) 0 (by decide)) (by decide)), (fun h0 => absurd (by first | rfl | exact jv_c 0 (jv_k (x := 0) 0 (by decide)) (by decide)) h0)⟩
      · have p42 := gn_eq 0 0 (gc_eq zc25) pr19 (jv_k (x := 0) 0 (by decide)) (by decide)
        refine g_iconst cx 0 (by decide) e_X11_readsClause_91 ?_
        exact hret e_X11_readsClause_92 (Nat.le_of_ble_eq_true rfl) (Nat.le_of_ble_eq_true rfl) rfl ⟨F23, R24, rfl, oF23, oR24, wTF23, wCF23, fF23, fR24, (jv_w (jv_k (x := 0) 0 (by decide)) (by decide)), (fun h0 => absurd (by first | rfl | exact jv_c 0 (jv_k (x := 0) 0 (by decide)) (by decide)) h0)⟩
    · have p43 := gn_eq 14 14 (gc_eq zc11) (g_ok_g hI 9 rfl) (jv_k (x := 14) 14 (by decide)) (by decide)
      refine g_aload_n cx 1 rfl e_X11_readsClause_31 ?_
      refine g_iconst cx 4 (by decide) e_X11_readsClause_32 ?_
      refine g_aload_n cx 1 rfl e_X11_readsClause_33 ?_
      refine g_get cx cl_X11 fl_X11_190 0 (.int (F 15)) e_X11_readsClause_34 rfl rfl ?_
      refine g_cViW cx [.int 4, .int (F 15)] [] (w_X11_wrongAt l X ad F R hI hA hWT hWC 4 (F 15)) ml_X11_204 yV_X11_wrongAt e_X11_readsClause_37 (by unfold g_rr; decide) (by decide) 0 rfl rfl rfl (Nat.le_of_ble_eq_true rfl) (fun r44 w45 h46 => ?_)
      obtain ⟨F47, R48, rfl, oF47, oR48, wTF47, wCF47, cF47, cR48, pr44⟩ := h46
      have fF47 : g_fr md_X11_readsClause F F47 := g_fr_c (g_fr_rf F) cF47 rfl
      have fR48 : g_fr mr_X11_readsClause R R48 := g_fr_c (g_fr_rf R) cR48 rfl
      exact hret e_X11_readsClause_40 (Nat.le_of_ble_eq_true rfl) (Nat.le_of_ble_eq_true rfl) (g_narb (jv_w pr44 (by decide))) ⟨F47, R48, rfl, oF47, oR48, wTF47, wCF47, fF47, fR48, (jv_w pr44 (by decide)), (fun h0 => absurd (by first | rfl | exact jv_c 0 pr44 (by decide)) h0)⟩
  · have p49 := gn_eq 0 0 (gc_eq zc9) pr5 (jv_k (x := 0) 0 (by decide)) (by decide)
    refine g_aload_n cx 1 rfl e_X11_readsClause_12 ?_
    refine g_iconst cx 1 (by decide) e_X11_readsClause_13 ?_
    refine g_aload_n cx 1 rfl e_X11_readsClause_14 ?_
    refine g_get cx cl_X11 fl_X11_190 0 (.int (F 15)) e_X11_readsClause_15 rfl rfl ?_
    refine g_cViW cx [.int 1, .int (F 15)] [] (w_X11_wrongAt l X ad F R hI hA hWT hWC 1 (F 15)) ml_X11_204 yV_X11_wrongAt e_X11_readsClause_18 (by unfold g_rr; decide) (by decide) 0 rfl rfl rfl (Nat.le_of_ble_eq_true rfl) (fun r50 w51 h52 => ?_)
    obtain ⟨F53, R54, rfl, oF53, oR54, wTF53, wCF53, cF53, cR54, pr50⟩ := h52
    have fF53 : g_fr md_X11_readsClause F F53 := g_fr_c (g_fr_rf F) cF53 rfl
    have fR54 : g_fr mr_X11_readsClause R R54 := g_fr_c (g_fr_rf R) cR54 rfl
    exact hret e_X11_readsClause_21 (Nat.le_of_ble_eq_true rfl) (Nat.le_of_ble_eq_true rfl) (g_narb (jv_w pr50 (by decide))) ⟨F53, R54, rfl, oF53, oR54, wTF53, wCF53, fF53, fR54, (jv_w pr50 (by decide)), (fun h0 => absurd (by first | rfl | exact jv_c 0 pr50 (by decide)) h0)⟩
