/-! ===== the reader of laws: clauses, the law ===== -/
/-- what is said of the clauses so far -/
def WD (F : Nat → Int32) (R : Nat → Nat → Int32) : Prop := ∀ j : Nat, (j : Int) < (F 27).toInt → ∃ a b c : Nat, (R 15 j).toInt = a ∧ (R 16 j).toInt = b ∧ (R 17 j).toInt = c ∧ a ≤ b ∧ b ≤ c ∧ (c : Int) ≤ (F 25).toInt ∧ g_wf (R 12) a b ∧ g_wf (R 12) b c
theorem WD_0 {F : Nat → Int32} (R : Nat → Nat → Int32) (h : F 27 = 0) : WD F R := by
  intro j hj
  rw [h] at hj
  have : (0 : Int32).toInt = 0 := rfl
  omega
theorem WD_e {F F' : Nat → Int32} {R R' : Nat → Nat → Int32} (h : WD F R) (e27 : F' 27 = F 27) (e25 : F' 25 = F 25) (e12 : R' 12 = R 12) (e15 : R' 15 = R 15) (e16 : R' 16 = R 16) (e17 : R' 17 = R 17) : WD F' R' := by
  unfold WD at *
  rw [e27, e25, e12, e15, e16, e17]
  exact h
theorem WD_add {F F' : Nat → Int32} {R R' : Nat → Nat → Int32} {b c : Nat} {x y z : Int32} (h : WD F R) (hm : 0 ≤ (F 27).toInt) (e27 : (F' 27).toInt = (F 27).toInt + 1) (e15 : R' 15 = upd (R 15) (F 27).toNatClampNeg x) (e16 : R' 16 = upd (R 16) (F 27).toNatClampNeg y) (e17 : R' 17 = upd (R 17) (F 27).toNatClampNeg z) (h25 : 0 ≤ (F 25).toInt) (hx : x.toInt = (F 25).toInt) (hy : y.toInt = b) (hz : z.toInt = c) (hab : (F 25).toInt ≤ b) (hbc : b ≤ c) (h25' : (F' 25).toInt = c) (w1 : g_wf (R' 12) (F 25).toInt.toNat b) (w2 : g_wf (R' 12) b c) (hr : ∀ k, k < (F 25).toInt.toNat → R' 12 k = R 12 k) : WD F' R' := by
  have hc : (F 27).toNatClampNeg = (F 27).toInt.toNat := rfl
  intro j hj
  by_cases e : (F 27).toInt.toNat = j
  · refine ⟨(F 25).toInt.toNat, b, c, ?_, ?_, ?_, by omega, hbc, by omega, w1, w2⟩
    · rw [e15, hc, e, g_us]; omega
    · rw [e16, hc, e, g_us]; omega
    · rw [e17, hc, e, g_us]; omega
  · obtain ⟨a, b2, c2, h1, h2, h3, h4, h5, h6, h7, h8⟩ := h j (by omega)
    have hn : ∀ (f : Nat → Int32) (v : Int32), upd f (F 27).toNatClampNeg v j = f j := fun f v => g_un (by rw [bne_iff_ne, hc]; exact e)
    refine ⟨a, b2, c2, by rw [e15, hn]; exact h1, by rw [e16, hn]; exact h2, by rw [e17, hn]; exact h3, h4, h5, by omega, g_wf_eq (fun k _ q => hr k (by omega)) h7, g_wf_eq (fun k _ q => hr k (by omega)) h8⟩
/-- the copied law -/
theorem WC_of {F F' : Nat → Int32} {R R' : Nat → Nat → Int32} (h : WD F R) (h25 : (F 25).toInt ≤ 220) (e28 : F' 28 = F 27) (c18 : ∀ j : Nat, (j : Int) < (F 25).toInt → R' 18 j = R 12 j) (c20 : ∀ j : Nat, (j : Int) < (F 27).toInt → R' 20 j = R 15 j) (c21 : ∀ j : Nat, (j : Int) < (F 27).toInt → R' 21 j = R 16 j) (c22 : ∀ j : Nat, (j : Int) < (F 27).toInt → R' 22 j = R 17 j) : WC F' R' := by
  intro j hj
  rw [e28] at hj
  obtain ⟨a, b, c, h1, h2, h3, h4, h5, h6, h7, h8⟩ := h j hj
  exact ⟨a, b, c, by rw [c20 j hj]; exact h1, by rw [c21 j hj]; exact h2, by rw [c22 j hj]; exact h3, h4, h5, by omega, g_wf_eq (fun k _ q => c18 k (by omega)) h7, g_wf_eq (fun k _ q => c18 k (by omega)) h8⟩

def sp_X11_isClause (F : Nat → Int32) (R : Nat → Nat → Int32) (a0 : Int32) : Int32 :=
  if a0 = 97 then 1 else if a0 = 115 then 1 else if a0 = 104 then 1 else if a0 = 106 then 1 else if a0 = 98 then 1 else if a0 = 122 then 1 else 0
theorem e_X11_isClause_0 : g_dc cX11_isClause 0 (.iload_n 0) 1 1 := ⟨by decide +kernel, rfl⟩
theorem e_X11_isClause_1 : g_dc cX11_isClause 1 (.bipush 97) 2 3 := ⟨by decide +kernel, rfl⟩
theorem e_X11_isClause_3 : g_dc cX11_isClause 3 (.if_icmp .eq 33) 3 6 := ⟨by decide +kernel, rfl⟩
theorem e_X11_isClause_6 : g_dc cX11_isClause 6 (.iload_n 0) 1 7 := ⟨by decide +kernel, rfl⟩
theorem e_X11_isClause_7 : g_dc cX11_isClause 7 (.bipush 115) 2 9 := ⟨by decide +kernel, rfl⟩
theorem e_X11_isClause_9 : g_dc cX11_isClause 9 (.if_icmp .eq 27) 3 12 := ⟨by decide +kernel, rfl⟩
theorem e_X11_isClause_12 : g_dc cX11_isClause 12 (.iload_n 0) 1 13 := ⟨by decide +kernel, rfl⟩
theorem e_X11_isClause_13 : g_dc cX11_isClause 13 (.bipush 104) 2 15 := ⟨by decide +kernel, rfl⟩
theorem e_X11_isClause_15 : g_dc cX11_isClause 15 (.if_icmp .eq 21) 3 18 := ⟨by decide +kernel, rfl⟩
theorem e_X11_isClause_18 : g_dc cX11_isClause 18 (.iload_n 0) 1 19 := ⟨by decide +kernel, rfl⟩
theorem e_X11_isClause_19 : g_dc cX11_isClause 19 (.bipush 106) 2 21 := ⟨by decide +kernel, rfl⟩
theorem e_X11_isClause_21 : g_dc cX11_isClause 21 (.if_icmp .eq 15) 3 24 := ⟨by decide +kernel, rfl⟩
theorem e_X11_isClause_24 : g_dc cX11_isClause 24 (.iload_n 0) 1 25 := ⟨by decide +kernel, rfl⟩
theorem e_X11_isClause_25 : g_dc cX11_isClause 25 (.bipush 98) 2 27 := ⟨by decide +kernel, rfl⟩
theorem e_X11_isClause_27 : g_dc cX11_isClause 27 (.if_icmp .eq 9) 3 30 := ⟨by decide +kernel, rfl⟩
theorem e_X11_isClause_30 : g_dc cX11_isClause 30 (.iload_n 0) 1 31 := ⟨by decide +kernel, rfl⟩
theorem e_X11_isClause_31 : g_dc cX11_isClause 31 (.bipush 122) 2 33 := ⟨by decide +kernel, rfl⟩
theorem e_X11_isClause_33 : g_dc cX11_isClause 33 (.if_icmp .ne 7) 3 36 := ⟨by decide +kernel, rfl⟩
theorem e_X11_isClause_36 : g_dc cX11_isClause 36 (.iconst 1) 1 37 := ⟨by decide +kernel, rfl⟩
theorem e_X11_isClause_37 : g_dc cX11_isClause 37 (.goto 4) 3 40 := ⟨by decide +kernel, rfl⟩
theorem e_X11_isClause_40 : g_dc cX11_isClause 40 (.iconst 0) 1 41 := ⟨by decide +kernel, rfl⟩
theorem e_X11_isClause_41 : g_dc cX11_isClause 41 (.ireturn) 1 42 := ⟨by decide +kernel, rfl⟩
set_option maxHeartbeats 4000000 in
set_option maxRecDepth 100000 in
theorem w_X11_isClause (l : Launch) (X : gX) (ad : Nat → Nat) (F : Nat → Int32) (R : Nat → Nat → Int32) (hI : g_ok LK_wM F) (hA : g_okR LA_wM R) (a0 : Int32) : g_Ci l X yX11_isClause cX11_isClause 1 (some .boolean) 1 0 0 [.int a0] (wM X ad F R) (fun r w => w = wM X ad F R ∧ jv 0 1 r ∧ (¬ r = 0 → 0 ≤ a0.toInt) ∧ r = sp_X11_isClause F R a0) := by
  refine g_mi (by decide +kernel) (Nat.le_of_ble_eq_true rfl) (fun E cx hret => ?_)
  obtain ⟨SP, hSP⟩ : ∃ z, z = sp_X11_isClause F R a0 := ⟨_, rfl⟩
  have hk0 := hSP
  unfold sp_X11_isClause at hk0
  refine g_iload_n cx 0 rfl e_X11_isClause_0 ?_
  refine g_bipush cx 97 (by decide) e_X11_isClause_1 ?_
  refine g_icmp_eq cx 36 e_X11_isClause_3 (by decide) (fun zc1 => ?_) (fun zc1 => ?_)
  · have p2 := gn_eq 97 97 (gc_eq zc1) (jv_t a0) (jv_k (x := 97) 97 (by decide)) (by decide)
    have hk3 := hk0.trans (if_pos zc1)
    refine g_iconst cx 1 (by decide) e_X11_isClause_36 ?_
    refine g_goto cx 41 e_X11_isClause_37 (by decide) ?_
    exact hret e_X11_isClause_41 (Nat.le_of_ble_eq_true rfl) (Nat.le_of_ble_eq_true rfl) rfl ⟨rfl, (jv_w (jv_k (x := 1) 1 (by decide)) (by decide)), (fun _ => by have q0 := (jv_k (x := 97) 97 (by decide)).1; have q1 := (jv_k (x := 97) 97 (by decide)).2; have q2 := p2.1; have q3 := p2.2; have q4 := (gc_eq zc1); omega), (hk3.symm.trans hSP)⟩
  · have hk4 := hk0.trans (if_neg zc1)
    refine g_iload_n cx 0 rfl e_X11_isClause_6 ?_
    refine g_bipush cx 115 (by decide) e_X11_isClause_7 ?_
    refine g_icmp_eq cx 36 e_X11_isClause_9 (by decide) (fun zc5 => ?_) (fun zc5 => ?_)
    · have p6 := gn_eq 115 115 (gc_eq zc5) (jv_t a0) (jv_k (x := 115) 115 (by decide)) (by decide)
      have hk7 := hk4.trans (if_pos zc5)
      refine g_iconst cx 1 (by decide) e_X11_isClause_36 ?_
      refine g_goto cx 41 e_X11_isClause_37 (by decide) ?_
      exact hret e_X11_isClause_41 (Nat.le_of_ble_eq_true rfl) (Nat.le_of_ble_eq_true rfl) rfl ⟨rfl, (jv_w (jv_k (x := 1) 1 (by decide)) (by decide)), (fun _ => by have q0 := (jv_k (x := 115) 115 (by decide)).1; have q1 := (jv_k (x := 115) 115 (by decide)).2; have q2 := (jv_k (x := 97) 97 (by decide)).1; have q3 := (jv_k (x := 97) 97 (by decide)).2; have q4 := p6.1; have q5 := p6.2; have q6 := (gc_ne zc1); have q7 := (gc_eq zc5); omega), (hk7.symm.trans hSP)⟩
    · have hk8 := hk4.trans (if_neg zc5)
      refine g_iload_n cx 0 rfl e_X11_isClause_12 ?_
      refine g_bipush cx 104 (by decide) e_X11_isClause_13 ?_
      refine g_icmp_eq cx 36 e_X11_isClause_15 (by decide) (fun zc9 => ?_) (fun zc9 => ?_)
      · have p10 := gn_eq 104 104 (gc_eq zc9) (jv_t a0) (jv_k (x := 104) 104 (by decide)) (by decide)
        have hk11 := hk8.trans (if_pos zc9)
        refine g_iconst cx 1 (by decide) e_X11_isClause_36 ?_
        refine g_goto cx 41 e_X11_isClause_37 (by decide) ?_
        exact hret e_X11_isClause_41 (Nat.le_of_ble_eq_true rfl) (Nat.le_of_ble_eq_true rfl) rfl ⟨rfl, (jv_w (jv_k (x := 1) 1 (by decide)) (by decide)), (fun _ => by have q0 := (jv_k (x := 104) 104 (by decide)).1; have q1 := (jv_k (x := 104) 104 (by decide)).2; have q2 := (jv_k (x := 115) 115 (by decide)).1; have q3 := (jv_k (x := 115) 115 (by decide)).2; have q4 := (jv_k (x := 97) 97 (by decide)).1; have q5 := (jv_k (x := 97) 97 (by decide)).2; have q6 := p10.1; have q7 := p10.2; have q8 := (gc_ne zc1); have q9 := (gc_ne zc5); have q10 := (gc_eq zc9); omega), (hk11.symm.trans hSP)⟩
      · have hk12 := hk8.trans (if_neg zc9)
        refine g_iload_n cx 0 rfl e_X11_isClause_18 ?_
        refine g_bipush cx 106 (by decide) e_X11_isClause_19 ?_
        refine g_icmp_eq cx 36 e_X11_isClause_21 (by decide) (fun zc13 => ?_) (fun zc13 => ?_)
        · have p14 := gn_eq 106 106 (gc_eq zc13) (jv_t a0) (jv_k (x := 106) 106 (by decide)) (by decide)
          have hk15 := hk12.trans (if_pos zc13)
          refine g_iconst cx 1 (by decide) e_X11_isClause_36 ?_
          refine g_goto cx 41 e_X11_isClause_37 (by decide) ?_
          exact hret e_X11_isClause_41 (Nat.le_of_ble_eq_true rfl) (Nat.le_of_ble_eq_true rfl) rfl ⟨rfl, (jv_w (jv_k (x := 1) 1 (by decide)) (by decide)), (fun _ => by have q0 := (jv_k (x := 104) 104 (by decide)).1; have q1 := (jv_k (x := 104) 104 (by decide)).2; have q2 := (jv_k (x := 106) 106 (by decide)).1; have q3 := (jv_k (x := 106) 106 (by decide)).2; have q4 := (jv_k (x := 115) 115 (by decide)).1; have q5 := (jv_k (x := 115) 115 (by decide)).2; have q6 := (jv_k (x := 97) 97 (by decide)).1; have q7 := (jv_k (x := 97) 97 (by decide)).2; have q8 := p14.1; have q9 := p14.2; have q10 := (gc_ne zc1); have q11 := (gc_ne zc5); have q12 := (gc_ne zc9); have q13 := (gc_eq zc13); omega), (hk15.symm.trans hSP)⟩
        · have hk16 := hk12.trans (if_neg zc13)
          refine g_iload_n cx 0 rfl e_X11_isClause_24 ?_
          refine g_bipush cx 98 (by decide) e_X11_isClause_25 ?_
          refine g_icmp_eq cx 36 e_X11_isClause_27 (by decide) (fun zc17 => ?_) (fun zc17 => ?_)
          · have p18 := gn_eq 98 98 (gc_eq zc17) (jv_t a0) (jv_k (x := 98) 98 (by decide)) (by decide)
            have hk19 := hk16.trans (if_pos zc17)
            refine g_iconst cx 1 (by decide) e_X11_isClause_36 ?_
            refine g_goto cx 41 e_X11_isClause_37 (by decide) ?_
            exact hret e_X11_isClause_41 (Nat.le_of_ble_eq_true rfl) (Nat.le_of_ble_eq_true rfl) rfl ⟨rfl, (jv_w (jv_k (x := 1) 1 (by decide)) (by decide)), (fun _ => by have q0 := (jv_k (x := 104) 104 (by decide)).1; have q1 := (jv_k (x := 104) 104 (by decide)).2; have q2 := (jv_k (x := 106) 106 (by decide)).1; have q3 := (jv_k (x := 106) 106 (by decide)).2; have q4 := (jv_k (x := 115) 115 (by decide)).1; have q5 := (jv_k (x := 115) 115 (by decide)).2; have q6 := (jv_k (x := 97) 97 (by decide)).1; have q7 := (jv_k (x := 97) 97 (by decide)).2; have q8 := (jv_k (x := 98) 98 (by decide)).1; have q9 := (jv_k (x := 98) 98 (by decide)).2; have q10 := p18.1; have q11 := p18.2; have q12 := (gc_ne zc1); have q13 := (gc_ne zc5); have q14 := (gc_ne zc9); have q15 := (gc_ne zc13); have q16 := (gc_eq zc17); omega), (hk19.symm.trans hSP)⟩
          · have hk20 := hk16.trans (if_neg zc17)
            refine g_iload_n cx 0 rfl e_X11_isClause_30 ?_
            refine g_bipush cx 122 (by decide) e_X11_isClause_31 ?_
            refine g_icmp_ne cx 40 e_X11_isClause_33 (by decide) (fun zc21 => ?_) (fun zc21 => ?_)
            · have hk22 := hk20.trans (if_neg zc21)
              refine g_iconst cx 0 (by decide) e_X11_isClause_40 ?_
              exact hret e_X11_isClause_41 (Nat.le_of_ble_eq_true rfl) (Nat.le_of_ble_eq_true rfl) rfl ⟨rfl, (jv_w (jv_k (x := 0) 0 (by decide)) (by decide)), (fun h0 => absurd rfl h0), (hk22.symm.trans hSP)⟩
            · have p23 := gn_eq 122 122 (gc_eq zc21) (jv_t a0) (jv_k (x := 122) 122 (by decide)) (by decide)
              have hk24 := hk20.trans (if_pos zc21)
              refine g_iconst cx 1 (by decide) e_X11_isClause_36 ?_
              refine g_goto cx 41 e_X11_isClause_37 (by decide) ?_
              exact hret e_X11_isClause_41 (Nat.le_of_ble_eq_true rfl) (Nat.le_of_ble_eq_true rfl) rfl ⟨rfl, (jv_w (jv_k (x := 1) 1 (by decide)) (by decide)), (fun _ => by have q0 := (jv_k (x := 104) 104 (by decide)).1; have q1 := (jv_k (x := 104) 104 (by decide)).2; have q2 := (jv_k (x := 106) 106 (by decide)).1; have q3 := (jv_k (x := 106) 106 (by decide)).2; have q4 := (jv_k (x := 115) 115 (by decide)).1; have q5 := (jv_k (x := 115) 115 (by decide)).2; have q6 := (jv_k (x := 122) 122 (by decide)).1; have q7 := (jv_k (x := 122) 122 (by decide)).2; have q8 := (jv_k (x := 97) 97 (by decide)).1; have q9 := (jv_k (x := 97) 97 (by decide)).2; have q10 := (jv_k (x := 98) 98 (by decide)).1; have q11 := (jv_k (x := 98) 98 (by decide)).2; have q12 := p23.1; have q13 := p23.2; have q14 := (gc_ne zc1); have q15 := (gc_ne zc5); have q16 := (gc_ne zc9); have q17 := (gc_ne zc13); have q18 := (gc_ne zc17); have q19 := (gc_eq zc21); omega), (hk24.symm.trans hSP)⟩
def sp_X11_readsClause (F : Nat → Int32) (R : Nat → Nat → Int32) : Int32 × (Nat → Int32) × (Nat → Nat → Int32) :=
  k_lt (sp_X11_here F R) (fun r1 => k_lt (sp_X11_isClause F R r1) (fun r7 => if r7 = 0 then k_lt3 (sp_X11_wrongAt F R 1 (F 15)) (fun r78 F82 R83 => (r78, F82, R83)) else if (F 27) = 14 then k_lt3 (sp_X11_wrongAt F R 4 (F 15)) (fun r69 F73 R74 => (r69, F73, R74)) else k_lt (g_u R 14 (upd (R 14) (Int32.toNatClampNeg (F 27)) r1)) (fun R19 => k_lt ((F 15) + 1) (fun x21 => k_lt (upd F 15 x21) (fun F23 => k_lt (g_u R19 15 (upd (R19 15) (Int32.toNatClampNeg (F 27)) (F 25))) (fun R25 => k_lt (upd F23 24 0) (fun F27 => k_lt (upd F27 26 0) (fun F29 => k_lt3 (sp_X11_readsSum F29 R25) (fun r31 F36 R37 => if r31 = 0 then (0, F36, R37) else k_lt (g_u R37 16 (upd (R37 16) (Int32.toNatClampNeg (F 27)) (F36 25))) (fun R43 => k_lt3 (sp_X11_readsCondition F36 R43) (fun r45 F50 R51 => if r45 = 0 then (0, F50, R51) else k_lt (g_u R51 17 (upd (R51 17) (Int32.toNatClampNeg (F 27)) (F50 25))) (fun R57 => k_lt ((F 27) + 1) (fun x59 => k_lt (upd F50 27 x59) (fun F61 => (1, F61, R57)))))))))))))))
theorem e_X11_readsClause_0 : g_dc cX11_readsClause 0 (.aload_n 0) 1 1 := ⟨by decide +kernel, rfl⟩
theorem e_X11_readsClause_1 : g_dc cX11_readsClause 1 (.invokevirtual 200) 3 4 := ⟨by decide +kernel, rfl⟩
theorem e_X11_readsClause_4 : g_dc cX11_readsClause 4 (.istore_n 1) 1 5 := ⟨by decide +kernel, rfl⟩
theorem e_X11_readsClause_5 : g_dc cX11_readsClause 5 (.iload_n 1) 1 6 := ⟨by decide +kernel, rfl⟩
theorem e_X11_readsClause_6 : g_dc cX11_readsClause 6 (.invokestatic 286) 3 9 := ⟨by decide +kernel, rfl⟩
theorem e_X11_readsClause_9 : g_dc cX11_readsClause 9 (.ifCond .ne 13) 3 12 := ⟨by decide +kernel, rfl⟩
theorem e_X11_readsClause_12 : g_dc cX11_readsClause 12 (.aload_n 0) 1 13 := ⟨by decide +kernel, rfl⟩
theorem e_X11_readsClause_13 : g_dc cX11_readsClause 13 (.iconst 1) 1 14 := ⟨by decide +kernel, rfl⟩
theorem e_X11_readsClause_14 : g_dc cX11_readsClause 14 (.aload_n 0) 1 15 := ⟨by decide +kernel, rfl⟩
theorem e_X11_readsClause_15 : g_dc cX11_readsClause 15 (.getfield 190) 3 18 := ⟨by decide +kernel, rfl⟩
theorem e_X11_readsClause_18 : g_dc cX11_readsClause 18 (.invokevirtual 204) 3 21 := ⟨by decide +kernel, rfl⟩
theorem e_X11_readsClause_21 : g_dc cX11_readsClause 21 (.ireturn) 1 22 := ⟨by decide +kernel, rfl⟩
theorem e_X11_readsClause_22 : g_dc cX11_readsClause 22 (.aload_n 0) 1 23 := ⟨by decide +kernel, rfl⟩
theorem e_X11_readsClause_23 : g_dc cX11_readsClause 23 (.getfield 289) 3 26 := ⟨by decide +kernel, rfl⟩
theorem e_X11_readsClause_26 : g_dc cX11_readsClause 26 (.bipush 14) 2 28 := ⟨by decide +kernel, rfl⟩
theorem e_X11_readsClause_28 : g_dc cX11_readsClause 28 (.if_icmp .ne 13) 3 31 := ⟨by decide +kernel, rfl⟩
theorem e_X11_readsClause_31 : g_dc cX11_readsClause 31 (.aload_n 0) 1 32 := ⟨by decide +kernel, rfl⟩
theorem e_X11_readsClause_32 : g_dc cX11_readsClause 32 (.iconst 4) 1 33 := ⟨by decide +kernel, rfl⟩
theorem e_X11_readsClause_33 : g_dc cX11_readsClause 33 (.aload_n 0) 1 34 := ⟨by decide +kernel, rfl⟩
theorem e_X11_readsClause_34 : g_dc cX11_readsClause 34 (.getfield 190) 3 37 := ⟨by decide +kernel, rfl⟩
theorem e_X11_readsClause_37 : g_dc cX11_readsClause 37 (.invokevirtual 204) 3 40 := ⟨by decide +kernel, rfl⟩
theorem e_X11_readsClause_40 : g_dc cX11_readsClause 40 (.ireturn) 1 41 := ⟨by decide +kernel, rfl⟩
theorem e_X11_readsClause_41 : g_dc cX11_readsClause 41 (.aload_n 0) 1 42 := ⟨by decide +kernel, rfl⟩
theorem e_X11_readsClause_42 : g_dc cX11_readsClause 42 (.getfield 50) 3 45 := ⟨by decide +kernel, rfl⟩
theorem e_X11_readsClause_45 : g_dc cX11_readsClause 45 (.aload_n 0) 1 46 := ⟨by decide +kernel, rfl⟩
theorem e_X11_readsClause_46 : g_dc cX11_readsClause 46 (.getfield 289) 3 49 := ⟨by decide +kernel, rfl⟩
theorem e_X11_readsClause_49 : g_dc cX11_readsClause 49 (.iload_n 1) 1 50 := ⟨by decide +kernel, rfl⟩
theorem e_X11_readsClause_50 : g_dc cX11_readsClause 50 (.iastore) 1 51 := ⟨by decide +kernel, rfl⟩
theorem e_X11_readsClause_51 : g_dc cX11_readsClause 51 (.aload_n 0) 1 52 := ⟨by decide +kernel, rfl⟩
theorem e_X11_readsClause_52 : g_dc cX11_readsClause 52 (.aload_n 0) 1 53 := ⟨by decide +kernel, rfl⟩
theorem e_X11_readsClause_53 : g_dc cX11_readsClause 53 (.getfield 190) 3 56 := ⟨by decide +kernel, rfl⟩
theorem e_X11_readsClause_56 : g_dc cX11_readsClause 56 (.iconst 1) 1 57 := ⟨by decide +kernel, rfl⟩
theorem e_X11_readsClause_57 : g_dc cX11_readsClause 57 (.iadd) 1 58 := ⟨by decide +kernel, rfl⟩
theorem e_X11_readsClause_58 : g_dc cX11_readsClause 58 (.putfield 190) 3 61 := ⟨by decide +kernel, rfl⟩
theorem e_X11_readsClause_61 : g_dc cX11_readsClause 61 (.aload_n 0) 1 62 := ⟨by decide +kernel, rfl⟩
theorem e_X11_readsClause_62 : g_dc cX11_readsClause 62 (.getfield 53) 3 65 := ⟨by decide +kernel, rfl⟩
theorem e_X11_readsClause_65 : g_dc cX11_readsClause 65 (.aload_n 0) 1 66 := ⟨by decide +kernel, rfl⟩
theorem e_X11_readsClause_66 : g_dc cX11_readsClause 66 (.getfield 289) 3 69 := ⟨by decide +kernel, rfl⟩
theorem e_X11_readsClause_69 : g_dc cX11_readsClause 69 (.aload_n 0) 1 70 := ⟨by decide +kernel, rfl⟩
theorem e_X11_readsClause_70 : g_dc cX11_readsClause 70 (.getfield 231) 3 73 := ⟨by decide +kernel, rfl⟩
theorem e_X11_readsClause_73 : g_dc cX11_readsClause 73 (.iastore) 1 74 := ⟨by decide +kernel, rfl⟩
theorem e_X11_readsClause_74 : g_dc cX11_readsClause 74 (.aload_n 0) 1 75 := ⟨by decide +kernel, rfl⟩
theorem e_X11_readsClause_75 : g_dc cX11_readsClause 75 (.iconst 0) 1 76 := ⟨by decide +kernel, rfl⟩
theorem e_X11_readsClause_76 : g_dc cX11_readsClause 76 (.putfield 235) 3 79 := ⟨by decide +kernel, rfl⟩
theorem e_X11_readsClause_79 : g_dc cX11_readsClause 79 (.aload_n 0) 1 80 := ⟨by decide +kernel, rfl⟩
theorem e_X11_readsClause_80 : g_dc cX11_readsClause 80 (.iconst 0) 1 81 := ⟨by decide +kernel, rfl⟩
theorem e_X11_readsClause_81 : g_dc cX11_readsClause 81 (.putfield 238) 3 84 := ⟨by decide +kernel, rfl⟩
theorem e_X11_readsClause_84 : g_dc cX11_readsClause 84 (.aload_n 0) 1 85 := ⟨by decide +kernel, rfl⟩
theorem e_X11_readsClause_85 : g_dc cX11_readsClause 85 (.invokevirtual 271) 3 88 := ⟨by decide +kernel, rfl⟩
theorem e_X11_readsClause_88 : g_dc cX11_readsClause 88 (.ifCond .ne 5) 3 91 := ⟨by decide +kernel, rfl⟩
theorem e_X11_readsClause_91 : g_dc cX11_readsClause 91 (.iconst 0) 1 92 := ⟨by decide +kernel, rfl⟩
theorem e_X11_readsClause_92 : g_dc cX11_readsClause 92 (.ireturn) 1 93 := ⟨by decide +kernel, rfl⟩
theorem e_X11_readsClause_93 : g_dc cX11_readsClause 93 (.aload_n 0) 1 94 := ⟨by decide +kernel, rfl⟩
theorem e_X11_readsClause_94 : g_dc cX11_readsClause 94 (.getfield 56) 3 97 := ⟨by decide +kernel, rfl⟩
theorem e_X11_readsClause_97 : g_dc cX11_readsClause 97 (.aload_n 0) 1 98 := ⟨by decide +kernel, rfl⟩
theorem e_X11_readsClause_98 : g_dc cX11_readsClause 98 (.getfield 289) 3 101 := ⟨by decide +kernel, rfl⟩
theorem e_X11_readsClause_101 : g_dc cX11_readsClause 101 (.aload_n 0) 1 102 := ⟨by decide +kernel, rfl⟩
theorem e_X11_readsClause_102 : g_dc cX11_readsClause 102 (.getfield 231) 3 105 := ⟨by decide +kernel, rfl⟩
theorem e_X11_readsClause_105 : g_dc cX11_readsClause 105 (.iastore) 1 106 := ⟨by decide +kernel, rfl⟩
theorem e_X11_readsClause_106 : g_dc cX11_readsClause 106 (.aload_n 0) 1 107 := ⟨by decide +kernel, rfl⟩
theorem e_X11_readsClause_107 : g_dc cX11_readsClause 107 (.invokevirtual 292) 3 110 := ⟨by decide +kernel, rfl⟩
theorem e_X11_readsClause_110 : g_dc cX11_readsClause 110 (.ifCond .ne 5) 3 113 := ⟨by decide +kernel, rfl⟩
theorem e_X11_readsClause_113 : g_dc cX11_readsClause 113 (.iconst 0) 1 114 := ⟨by decide +kernel, rfl⟩
theorem e_X11_readsClause_114 : g_dc cX11_readsClause 114 (.ireturn) 1 115 := ⟨by decide +kernel, rfl⟩
theorem e_X11_readsClause_115 : g_dc cX11_readsClause 115 (.aload_n 0) 1 116 := ⟨by decide +kernel, rfl⟩
theorem e_X11_readsClause_116 : g_dc cX11_readsClause 116 (.getfield 59) 3 119 := ⟨by decide +kernel, rfl⟩
theorem e_X11_readsClause_119 : g_dc cX11_readsClause 119 (.aload_n 0) 1 120 := ⟨by decide +kernel, rfl⟩
theorem e_X11_readsClause_120 : g_dc cX11_readsClause 120 (.getfield 289) 3 123 := ⟨by decide +kernel, rfl⟩
theorem e_X11_readsClause_123 : g_dc cX11_readsClause 123 (.aload_n 0) 1 124 := ⟨by decide +kernel, rfl⟩
theorem e_X11_readsClause_124 : g_dc cX11_readsClause 124 (.getfield 231) 3 127 := ⟨by decide +kernel, rfl⟩
theorem e_X11_readsClause_127 : g_dc cX11_readsClause 127 (.iastore) 1 128 := ⟨by decide +kernel, rfl⟩
theorem e_X11_readsClause_128 : g_dc cX11_readsClause 128 (.aload_n 0) 1 129 := ⟨by decide +kernel, rfl⟩
theorem e_X11_readsClause_129 : g_dc cX11_readsClause 129 (.aload_n 0) 1 130 := ⟨by decide +kernel, rfl⟩
theorem e_X11_readsClause_130 : g_dc cX11_readsClause 130 (.getfield 289) 3 133 := ⟨by decide +kernel, rfl⟩
theorem e_X11_readsClause_133 : g_dc cX11_readsClause 133 (.iconst 1) 1 134 := ⟨by decide +kernel, rfl⟩
theorem e_X11_readsClause_134 : g_dc cX11_readsClause 134 (.iadd) 1 135 := ⟨by decide +kernel, rfl⟩
theorem e_X11_readsClause_135 : g_dc cX11_readsClause 135 (.putfield 289) 3 138 := ⟨by decide +kernel, rfl⟩
theorem e_X11_readsClause_138 : g_dc cX11_readsClause 138 (.iconst 1) 1 139 := ⟨by decide +kernel, rfl⟩
theorem e_X11_readsClause_139 : g_dc cX11_readsClause 139 (.ireturn) 1 140 := ⟨by decide +kernel, rfl⟩
def md_X11_readsClause : List Nat := [15, 17, 18, 24, 25, 26, 27]
def mr_X11_readsClause : List Nat := [12, 13, 14, 15, 16, 17]
set_option maxHeartbeats 4000000 in
set_option maxRecDepth 100000 in
theorem w_X11_readsClause (l : Launch) (X : gX) (ad : Nat → Nat) (F : Nat → Int32) (R : Nat → Nat → Int32) (hI : g_ok LK_wM F) (hA : g_okR LA_wM R) (hWT : WT F R) (hWC : WC F R) (hwd : WD F R) (hcp : (F 25).toInt ≤ (F 15).toInt) : g_Ci l X yX11_readsClause cX11_readsClause 2 (some .boolean) 8 0 0 [.ref (ad 0)] (wM X ad F R) (fun r w => ∃ (F' : Nat → Int32) (R' : Nat → Nat → Int32), w = wM X ad F' R' ∧ g_ok LK_wM F' ∧ g_okR LA_wM R' ∧ WT F' R' ∧ WC F' R' ∧ g_fr md_X11_readsClause F F' ∧ g_fr mr_X11_readsClause R R' ∧ jv 0 1 r ∧ (¬ r = 0 → WD F' R' ∧ (F' 25).toInt ≤ (F' 15).toInt ∧ (F 15).toInt ≤ (F' 15).toInt) ∧ (r, F', R') = sp_X11_readsClause F R) := by
  refine g_mi (by decide +kernel) (Nat.le_of_ble_eq_true rfl) (fun E cx hret => ?_)
  obtain ⟨SP, hSP⟩ : ∃ z, z = sp_X11_readsClause F R := ⟨_, rfl⟩
  have hk0 := hSP
  unfold sp_X11_readsClause at hk0
  refine g_aload_n cx 0 rfl e_X11_readsClause_0 ?_
  refine g_cViW cx [] [] (w_X11_here l X ad F R hI hA hWT hWC) ml_X11_200 yV_X11_here e_X11_readsClause_1 (by unfold g_rr; decide) (by decide) 0 rfl rfl rfl (Nat.le_of_ble_eq_true rfl) (fun r1 w2 h3 => ?_)
  obtain ⟨rfl, pr1, zx4, hx5⟩ := h3
  have hk6 := k_ls hk0 hx5
  refine g_istore_n cx [(1, .int r1), (0, .ref (ad 0))] e_X11_readsClause_4 (by decide) rfl ?_
  refine g_iload_n cx 0 rfl e_X11_readsClause_5 ?_
  refine g_cSiW cx [.int r1] [] (w_X11_isClause l X ad F R hI hA r1) ml_X11_286 yS_X11_isClause rfl e_X11_readsClause_6 (by unfold g_rr; decide) (by decide) rfl (Nat.le_of_ble_eq_true rfl) (fun r7 w8 h9 => ?_)
  obtain ⟨rfl, pr7, zx10, hx11⟩ := h9
  have hk12 := k_ls hk6 hx11
  refine g_if_ne cx 22 e_X11_readsClause_9 (by decide) (fun zc13 => ?_) (fun zc13 => ?_)
  · have p14 := gn_neL 1 1 (gc_ne zc13) pr7 (jv_k (x := 0) 0 (by decide)) (by decide)
    have hk15 := hk12.trans (if_neg zc13)
    refine g_aload_n cx 1 rfl e_X11_readsClause_22 ?_
    refine g_get cx cl_X11 fl_X11_289 0 (.int (F 27)) e_X11_readsClause_23 rfl rfl ?_
    refine g_bipush cx 14 (by decide) e_X11_readsClause_26 ?_
    refine g_icmp_ne cx 41 e_X11_readsClause_28 (by decide) (fun zc16 => ?_) (fun zc16 => ?_)
    · have p17 := gn_neH 0 13 (gc_ne zc16) (g_ok_g hI 9 rfl) (jv_k (x := 14) 14 (by decide)) (by decide)
      have hk18 := hk15.trans (if_neg zc16)
      refine g_aload_n cx 1 rfl e_X11_readsClause_41 ?_
      refine g_get cx cl_X11 fl_X11_50 0 (.ref (ad 14)) e_X11_readsClause_42 rfl rfl ?_
      refine g_aload_n cx 1 rfl e_X11_readsClause_45 ?_
      refine g_get cx cl_X11 fl_X11_289 0 (.int (F 27)) e_X11_readsClause_46 rfl rfl ?_
      refine g_iload_n cx 0 rfl e_X11_readsClause_49 ?_
      refine g_iast cx 14 (wM X ad F (g_u R 14 (upd (R 14) (Int32.toNatClampNeg (F 27)) r1))) e_X11_readsClause_50 rfl (jv_ix 14 p17 (by decide)) rfl ?_
      obtain ⟨R19, hR19⟩ : ∃ z, z = g_u R 14 (upd (R 14) (Int32.toNatClampNeg (F 27)) r1) := ⟨_, rfl⟩
      rw [← hR19]
      have hk20 := k_ls hk18 hR19
      have oR19 : g_okR LA_wM R19 := by rw [hR19]; exact g_okR_u hA rfl
      have fR19 : g_fr mr_X11_readsClause R R19 := by rw [hR19]; exact g_fr_r (g_fr_rf R) rfl
      have wTR19 : WT F R19 := by rw [hR19]; exact WT_r hWT rfl
      have wCR19 : WC F R19 := by rw [hR19]; exact WC_r hWC rfl
      refine g_aload_n cx 1 rfl e_X11_readsClause_51 ?_
      refine g_aload_n cx 1 rfl e_X11_readsClause_52 ?_
      refine g_get cx cl_X11 fl_X11_190 0 (.int (F 15)) e_X11_readsClause_53 rfl rfl ?_
      refine g_iconst cx 1 (by decide) e_X11_readsClause_56 ?_
      refine g_iadd cx e_X11_readsClause_57 ?_
      refine g_topi (fun x21 ex21 => ?_)
      have hk22 := k_ls hk20 ex21
      have zx21 := jv_add 1 221 ex21 (g_ok_g hI 1 rfl) (jv_k (x := 1) 1 (by decide)) (by decide)
      refine g_put cx cl_X11 fl_X11_190 0 (wM X ad (upd F 15 x21) R19) e_X11_readsClause_58 rfl rfl rfl rfl (Nat.le_of_ble_eq_true rfl) rfl ?_
      obtain ⟨F23, hF23⟩ : ∃ z, z = upd F 15 x21 := ⟨_, rfl⟩
      rw [← hF23]
      have hk24 := k_ls hk22 hF23
      have oF23 : g_ok LK_wM F23 := by rw [hF23]; exact g_ok_p hI (show jv 0 220 _ from ⟨by have q0 := (g_here_iv F R).1; have q1 := (g_here_iv F R).2; have q2 := (jv_k (x := 1) 1 (by decide)).1; have q3 := (jv_k (x := 1) 1 (by decide)).2; have q4 := (g_ok_g hI 1 rfl).1; have q5 := (g_ok_g hI 1 rfl).2; have q6 := (g_ok_g hI 2 rfl).1; have q7 := (g_ok_g hI 2 rfl).2; have q8 := pr1.1; have q9 := pr1.2; have q10 := zx21.2.1; have q11 := zx21.2.2; have q12 := (congrArg Int32.toInt zx4); have q13 := (@g_here_lt F R); have q14 := (zx10 zc13); have q15 := (g_eq0 zx21.1); omega, by have q0 := (g_here_iv F R).1; have q1 := (g_here_iv F R).2; have q2 := (jv_k (x := 1) 1 (by decide)).1; have q3 := (jv_k (x := 1) 1 (by decide)).2; have q4 := (g_ok_g hI 1 rfl).1; have q5 := (g_ok_g hI 1 rfl).2; have q6 := (g_ok_g hI 2 rfl).1; have q7 := (g_ok_g hI 2 rfl).2; have q8 := pr1.1; have q9 := pr1.2; have q10 := zx21.2.1; have q11 := zx21.2.2; have q12 := (congrArg Int32.toInt zx4); have q13 := (@g_here_lt F R); have q14 := (zx10 zc13); have q15 := (g_eq0 zx21.1); omega⟩) rfl
      have fF23 : g_fr md_X11_readsClause F F23 := by rw [hF23]; exact g_fr_u (g_fr_rf F) rfl
      have wTF23 : WT F23 R19 := by rw [hF23]; exact WT_u wTR19 rfl
      have wCF23 : WC F23 R19 := by rw [hF23]; exact WC_u wCR19 rfl
      refine g_aload_n cx 1 rfl e_X11_readsClause_61 ?_
      refine g_get cx cl_X11 fl_X11_53 0 (.ref (ad 15)) e_X11_readsClause_62 rfl rfl ?_
      refine g_aload_n cx 1 rfl e_X11_readsClause_65 ?_
      refine g_get cx cl_X11 fl_X11_289 0 (.int (F23 27)) e_X11_readsClause_66 rfl rfl ?_
      refine g_toi (F 27) (g_pu2 hF23 rfl) ?_
      refine g_aload_n cx 1 rfl e_X11_readsClause_69 ?_
      refine g_get cx cl_X11 fl_X11_231 0 (.int (F23 25)) e_X11_readsClause_70 rfl rfl ?_
      refine g_toi (F 25) (g_pu2 hF23 rfl) ?_
      refine g_iast cx 15 (wM X ad F23 (g_u R19 15 (upd (R19 15) (Int32.toNatClampNeg (F 27)) (F 25)))) e_X11_readsClause_73 rfl (jv_ix 14 p17 (by decide)) rfl ?_
      obtain ⟨R25, hR25⟩ : ∃ z, z = g_u R19 15 (upd (R19 15) (Int32.toNatClampNeg (F 27)) (F 25)) := ⟨_, rfl⟩
      rw [← hR25]
      have hk26 := k_ls hk24 hR25
      have oR25 : g_okR LA_wM R25 := by rw [hR25]; exact g_okR_u oR19 rfl
      have fR25 : g_fr mr_X11_readsClause R R25 := by rw [hR25]; exact g_fr_r fR19 rfl
      have wTR25 : WT F23 R25 := by rw [hR25]; exact WT_r wTF23 rfl
      have wCR25 : WC F23 R25 := by rw [hR25]; exact WC_r wCF23 rfl
      refine g_aload_n cx 1 rfl e_X11_readsClause_74 ?_
      refine g_iconst cx 0 (by decide) e_X11_readsClause_75 ?_
      refine g_put cx cl_X11 fl_X11_235 0 (wM X ad (upd F23 24 0) R25) e_X11_readsClause_76 rfl rfl rfl rfl (Nat.le_of_ble_eq_true rfl) rfl ?_
      obtain ⟨F27, hF27⟩ : ∃ z, z = upd F23 24 0 := ⟨_, rfl⟩
      rw [← hF27]
      have hk28 := k_ls hk26 hF27
      have oF27 : g_ok LK_wM F27 := by rw [hF27]; exact g_ok_p oF23 (jv_k (x := 0) 0 (by decide)) rfl
      have fF27 : g_fr md_X11_readsClause F F27 := by rw [hF27]; exact g_fr_u fF23 rfl
      have wTF27 : WT F27 R25 := by rw [hF27]; exact WT_u wTR25 rfl
      have wCF27 : WC F27 R25 := by rw [hF27]; exact WC_u wCR25 rfl
      refine g_aload_n cx 1 rfl e_X11_readsClause_79 ?_
      refine g_iconst cx 0 (by decide) e_X11_readsClause_80 ?_
      refine g_put cx cl_X11 fl_X11_238 0 (wM X ad (upd F27 26 0) R25) e_X11_readsClause_81 rfl rfl rfl rfl (Nat.le_of_ble_eq_true rfl) rfl ?_
      obtain ⟨F29, hF29⟩ : ∃ z, z = upd F27 26 0 := ⟨_, rfl⟩
      rw [← hF29]
      have hk30 := k_ls hk28 hF29
      have oF29 : g_ok LK_wM F29 := by rw [hF29]; exact g_ok_p oF27 (jv_k (x := 0) 0 (by decide)) rfl
      have fF29 : g_fr md_X11_readsClause F F29 := by rw [hF29]; exact g_fr_u fF27 rfl
      have wTF29 : WT F29 R25 := by rw [hF29]; exact WT_u wTF27 rfl
      have wCF29 : WC F29 R25 := by rw [hF29]; exact WC_u wCF27 rfl
      have ps84 : PS F29 R25 ((F 25).toInt.toNat, 0) [] 0 := PS_new (by have q := g_ok_g hI 7 rfl; exact q.1) (((g_pu2 hF29 rfl).trans (g_pu2 hF27 rfl)).trans (g_pu2 hF23 rfl)) (g_pu1 hF29) (by have q0 := (g_here_iv F R).1; have q1 := (g_here_iv F R).2; have q2 := (jv_k (x := 1) 1 (by decide)).1; have q3 := (jv_k (x := 1) 1 (by decide)).2; have q4 := (g_ok_g hI 1 rfl).1; have q5 := (g_ok_g hI 1 rfl).2; have q6 := (g_ok_g hI 2 rfl).1; have q7 := (g_ok_g hI 2 rfl).2; have q8 := (g_ok_g hI 7 rfl).1; have q9 := (g_ok_g hI 7 rfl).2; have q10 := (g_ok_g oF29 1 rfl).1; have q11 := (g_ok_g oF29 1 rfl).2; have q12 := pr1.1; have q13 := pr1.2; have q14 := zx21.2.1; have q15 := zx21.2.2; have q16 := (congrArg Int32.toInt zx4); have q17 := (@g_here_lt F R); have q18 := (zx10 zc13); have q19 := (g_eq0 zx21.1); have q20 := (congrArg Int32.toInt (show F29 15 = x21 from (((g_pu2 hF29 rfl).trans (g_pu2 hF27 rfl)).trans (g_pu1 hF23)))); have q21 := hcp; omega)
      refine g_aload_n cx 1 rfl e_X11_readsClause_84 ?_
      refine g_cViW cx [] [] (w_X11_readsSum l X ad F29 R25 oF29 oR25 wTF29 wCF29 ((F 25).toInt.toNat, 0) ([]) (0) ps84 rfl (by omega)) ml_X11_271 yV_X11_readsSum e_X11_readsClause_85 (by unfold g_rr; decide) (by decide) 0 rfl rfl rfl (Nat.le_of_ble_eq_true rfl) (fun r31 w32 h33 => ?_)
      obtain ⟨F36, R37, rfl, oF36, oR37, wTF36, wCF36, cF36, cR37, pr31, zx34, hx35⟩ := h33
      have hk38 := k_ls3 hk30 hx35
      have fF36 : g_fr md_X11_readsClause F F36 := g_fr_c fF29 cF36 rfl
      have fR37 : g_fr mr_X11_readsClause R R37 := g_fr_c fR25 cR37 rfl
      refine g_if_ne cx 93 e_X11_readsClause_88 (by decide) (fun zc39 => ?_) (fun zc39 => ?_)
      · have p40 := gn_neL 1 1 (gc_ne zc39) pr31 (jv_k (x := 0) 0 (by decide)) (by decide)
        obtain ⟨psk41, fkk41⟩ := (zx34 zc39)
        have hk42 := hk38.trans (if_neg zc39)
        have p5k41 := psk41.2.2.2.2.1
        have cgk41 := cg_0 ([] : List (Int × Nat))
        have p25k41 : (F36 25).toInt ≤ (F36 15).toInt := by simp only at p5k41; omega
        have pak41 : (F 25).toInt ≤ (F36 25).toInt := by have q0 := (g_here_iv F R).1; have q1 := (g_here_iv F R).2; have q2 := (jv_k (x := 1) 1 (by decide)).1; have q3 := (jv_k (x := 1) 1 (by decide)).2; have q4 := (g_ok_g hI 1 rfl).1; have q5 := (g_ok_g hI 1 rfl).2; have q6 := (g_ok_g hI 2 rfl).1; have q7 := (g_ok_g hI 2 rfl).2; have q8 := (g_ok_g hI 7 rfl).1; have q9 := (g_ok_g hI 7 rfl).2; have q10 := (g_ok_g oF29 1 rfl).1; have q11 := (g_ok_g oF29 1 rfl).2; have q12 := (g_ok_g oF29 7 rfl).1; have q13 := (g_ok_g oF29 7 rfl).2; have q14 := (g_ok_g oF36 1 rfl).1; have q15 := (g_ok_g oF36 1 rfl).2; have q16 := (g_ok_g oF36 7 rfl).1; have q17 := (g_ok_g oF36 7 rfl).2; have q18 := pr1.1; have q19 := pr1.2; have q20 := zx21.2.1; have q21 := zx21.2.2; have q22 := (congrArg Int32.toInt zx4); have q23 := (@g_here_lt F R); have q24 := (zx10 zc13); have q25 := (g_eq0 zx21.1); have q26 := (congrArg Int32.toInt (show F29 15 = x21 from (((g_pu2 hF29 rfl).trans (g_pu2 hF27 rfl)).trans (g_pu1 hF23)))); have q27 := fkk41.2.2; have q28 := fkk41.2.1; have q29 := (congrArg Int32.toInt (show F29 15 = x21 from (((g_pu2 hF29 rfl).trans (g_pu2 hF27 rfl)).trans (g_pu1 hF23)))); have q30 := (congrArg Int32.toInt (show F29 25 = F 25 from (((g_pu2 hF29 rfl).trans (g_pu2 hF27 rfl)).trans (g_pu2 hF23 rfl)))); have q31 := p25k41; omega
        refine g_aload_n cx 1 rfl e_X11_readsClause_93 ?_
        refine g_get cx cl_X11 fl_X11_56 0 (.ref (ad 16)) e_X11_readsClause_94 rfl rfl ?_
        refine g_aload_n cx 1 rfl e_X11_readsClause_97 ?_
        refine g_get cx cl_X11 fl_X11_289 0 (.int (F36 27)) e_X11_readsClause_98 rfl rfl ?_
        refine g_toi (F 27) ((((cF36 27 rfl).trans (g_pu2 hF29 rfl)).trans (g_pu2 hF27 rfl)).trans (g_pu2 hF23 rfl)) ?_
        refine g_aload_n cx 1 rfl e_X11_readsClause_101 ?_
        refine g_get cx cl_X11 fl_X11_231 0 (.int (F36 25)) e_X11_readsClause_102 rfl rfl ?_
        refine g_iast cx 16 (wM X ad F36 (g_u R37 16 (upd (R37 16) (Int32.toNatClampNeg (F 27)) (F36 25)))) e_X11_readsClause_105 rfl (jv_ix 14 p17 (by decide)) rfl ?_
        obtain ⟨R43, hR43⟩ : ∃ z, z = g_u R37 16 (upd (R37 16) (Int32.toNatClampNeg (F 27)) (F36 25)) := ⟨_, rfl⟩
        rw [← hR43]
        have hk44 := k_ls hk42 hR43
        have oR43 : g_okR LA_wM R43 := by rw [hR43]; exact g_okR_u oR37 rfl
        have fR43 : g_fr mr_X11_readsClause R R43 := by rw [hR43]; exact g_fr_r fR37 rfl
        have wTR43 : WT F36 R43 := by rw [hR43]; exact WT_r wTF36 rfl
        have wCR43 : WC F36 R43 := by rw [hR43]; exact WC_r wCF36 rfl
        refine g_aload_n cx 1 rfl e_X11_readsClause_106 ?_
        refine g_cViW cx [] [] (w_X11_readsCondition l X ad F36 R43 oF36 oR43 wTR43 wCR43 (by have q0 := (g_here_iv F R).1; have q1 := (g_here_iv F R).2; have q2 := (jv_k (x := 1) 1 (by decide)).1; have q3 := (jv_k (x := 1) 1 (by decide)).2; have q4 := (g_ok_g hI 1 rfl).1; have q5 := (g_ok_g hI 1 rfl).2; have q6 := (g_ok_g hI 2 rfl).1; have q7 := (g_ok_g hI 2 rfl).2; have q8 := (g_ok_g hI 7 rfl).1; have q9 := (g_ok_g hI 7 rfl).2; have q10 := (g_ok_g oF29 1 rfl).1; have q11 := (g_ok_g oF29 1 rfl).2; have q12 := (g_ok_g oF29 7 rfl).1; have q13 := (g_ok_g oF29 7 rfl).2; have q14 := (g_ok_g oF36 1 rfl).1; have q15 := (g_ok_g oF36 1 rfl).2; have q16 := (g_ok_g oF36 7 rfl).1; have q17 := (g_ok_g oF36 7 rfl).2; have q18 := pr1.1; have q19 := pr1.2; have q20 := zx21.2.1; have q21 := zx21.2.2; have q22 := (congrArg Int32.toInt zx4); have q23 := (@g_here_lt F R); have q24 := (zx10 zc13); have q25 := (g_eq0 zx21.1); have q26 := (congrArg Int32.toInt (show F29 15 = x21 from (((g_pu2 hF29 rfl).trans (g_pu2 hF27 rfl)).trans (g_pu1 hF23)))); have q27 := fkk41.2.2; have q28 := fkk41.2.1; have q29 := (congrArg Int32.toInt (show F29 15 = x21 from (((g_pu2 hF29 rfl).trans (g_pu2 hF27 rfl)).trans (g_pu1 hF23)))); have q30 := (congrArg Int32.toInt (show F29 25 = F 25 from (((g_pu2 hF29 rfl).trans (g_pu2 hF27 rfl)).trans (g_pu2 hF23 rfl)))); have q31 := p25k41; omega)) ml_X11_292 yV_X11_readsCondition e_X11_readsClause_107 (by unfold g_rr; decide) (by decide) 0 rfl rfl rfl (Nat.le_of_ble_eq_true rfl) (fun r45 w46 h47 => ?_)
        obtain ⟨F50, R51, rfl, oF50, oR51, wTF50, wCF50, cF50, cR51, pr45, zx48, hx49⟩ := h47
        have hk52 := k_ls3 hk44 hx49
        have fF50 : g_fr md_X11_readsClause F F50 := g_fr_c fF36 cF50 rfl
        have fR51 : g_fr mr_X11_readsClause R R51 := g_fr_c fR43 cR51 rfl
        refine g_if_ne cx 115 e_X11_readsClause_110 (by decide) (fun zc53 => ?_) (fun zc53 => ?_)
        · have p54 := gn_neL 1 1 (gc_ne zc53) pr45 (jv_k (x := 0) 0 (by decide)) (by decide)
          obtain ⟨wfk55, lek55, fkk55⟩ := (zx48 zc53)
          have hk56 := hk52.trans (if_neg zc53)
          refine g_aload_n cx 1 rfl e_X11_readsClause_115 ?_
          refine g_get cx cl_X11 fl_X11_59 0 (.ref (ad 17)) e_X11_readsClause_116 rfl rfl ?_
          refine g_aload_n cx 1 rfl e_X11_readsClause_119 ?_
          refine g_get cx cl_X11 fl_X11_289 0 (.int (F50 27)) e_X11_readsClause_120 rfl rfl ?_
          refine g_toi (F 27) (((((cF50 27 rfl).trans (cF36 27 rfl)).trans (g_pu2 hF29 rfl)).trans (g_pu2 hF27 rfl)).trans (g_pu2 hF23 rfl)) ?_
          refine g_aload_n cx 1 rfl e_X11_readsClause_123 ?_
          refine g_get cx cl_X11 fl_X11_231 0 (.int (F50 25)) e_X11_readsClause_124 rfl rfl ?_
          refine g_iast cx 17 (wM X ad F50 (g_u R51 17 (upd (R51 17) (Int32.toNatClampNeg (F 27)) (F50 25)))) e_X11_readsClause_127 rfl (jv_ix 14 p17 (by decide)) rfl ?_
          obtain ⟨R57, hR57⟩ : ∃ z, z = g_u R51 17 (upd (R51 17) (Int32.toNatClampNeg (F 27)) (F50 25)) := ⟨_, rfl⟩
          rw [← hR57]
          have hk58 := k_ls hk56 hR57
          have oR57 : g_okR LA_wM R57 := by rw [hR57]; exact g_okR_u oR51 rfl
          have fR57 : g_fr mr_X11_readsClause R R57 := by rw [hR57]; exact g_fr_r fR51 rfl
          have wTR57 : WT F50 R57 := by rw [hR57]; exact WT_r wTF50 rfl
          have wCR57 : WC F50 R57 := by rw [hR57]; exact WC_r wCF50 rfl
          refine g_aload_n cx 1 rfl e_X11_readsClause_128 ?_
          refine g_aload_n cx 1 rfl e_X11_readsClause_129 ?_
          refine g_get cx cl_X11 fl_X11_289 0 (.int (F50 27)) e_X11_readsClause_130 rfl rfl ?_
          refine g_toi (F 27) (((((cF50 27 rfl).trans (cF36 27 rfl)).trans (g_pu2 hF29 rfl)).trans (g_pu2 hF27 rfl)).trans (g_pu2 hF23 rfl)) ?_
          refine g_iconst cx 1 (by decide) e_X11_readsClause_133 ?_
          refine g_iadd cx e_X11_readsClause_134 ?_
          refine g_topi (fun x59 ex59 => ?_)
          have hk60 := k_ls hk58 ex59
          have zx59 := jv_add 1 14 ex59 p17 (jv_k (x := 1) 1 (by decide)) (by decide)
          refine g_put cx cl_X11 fl_X11_289 0 (wM X ad (upd F50 27 x59) R57) e_X11_readsClause_135 rfl rfl rfl rfl (Nat.le_of_ble_eq_true rfl) rfl ?_
          obtain ⟨F61, hF61⟩ : ∃ z, z = upd F50 27 x59 := ⟨_, rfl⟩
          rw [← hF61]
          have hk62 := k_ls hk60 hF61
          have oF61 : g_ok LK_wM F61 := by rw [hF61]; exact g_ok_p oF50 zx59.2 rfl
          have fF61 : g_fr md_X11_readsClause F F61 := by rw [hF61]; exact g_fr_u fF50 rfl
          have wTF61 : WT F61 R57 := by rw [hF61]; exact WT_u wTR57 rfl
          have wCF61 : WC F61 R57 := by rw [hF61]; exact WC_u wCR57 rfl
          refine g_iconst cx 1 (by decide) e_X11_readsClause_138 ?_
          exact hret e_X11_readsClause_139 (Nat.le_of_ble_eq_true rfl) (Nat.le_of_ble_eq_true rfl) rfl ⟨F61, R57, rfl, oF61, oR57, wTF61, wCF61, fF61, fR57, (jv_w (jv_k (x := 1) 1 (by decide)) (by decide)), (fun _ => ⟨(by
      have e12 : R57 12 = R51 12 := (g_ru2 hR57 rfl)
      have c0 : ∀ q, q < (F36 25).toInt.toNat → R51 12 q = R37 12 q := fun q hq => (fkk55.1 q (by rw [show (F36 25) = (F36 25) from rfl]; exact hq)).trans (congrFun (show R43 12 = R37 12 from (g_ru2 hR43 rfl)) q)
      have s0 : ∀ q, q < (F 25).toInt.toNat → R37 12 q = R 12 q := fun q hq => (fkk41.1 q (by rw [show F29 25 = F 25 from (((g_pu2 hF29 rfl).trans (g_pu2 hF27 rfl)).trans (g_pu2 hF23 rfl))]; exact hq)).trans (congrFun (show R25 12 = R 12 from ((g_ru2 hR25 rfl).trans (g_ru2 hR19 rfl))) q)
      have wa := PS_end psk41 ((by have q := psk41.2.2.1; simp only [List.length_nil] at q; omega))
      have wb := wfk55
      rw [show F36 25 = F36 25 from rfl] at wb
      refine WD_add (b := (F36 25).toInt.toNat) (c := (F50 25).toInt.toNat) (x := F 25) (y := F36 25) (z := F50 25) hwd (by have q0 := (g_here_iv F R).1; have q1 := (g_here_iv F R).2; have q2 := (jv_k (x := 1) 1 (by decide)).1; have q3 := (jv_k (x := 1) 1 (by decide)).2; have q4 := (jv_k (x := 14) 14 (by decide)).1; have q5 := (jv_k (x := 14) 14 (by decide)).2; have q6 := (g_ok_g hI 1 rfl).1; have q7 := (g_ok_g hI 1 rfl).2; have q8 := (g_ok_g hI 2 rfl).1; have q9 := (g_ok_g hI 2 rfl).2; have q10 := (g_ok_g hI 7 rfl).1; have q11 := (g_ok_g hI 7 rfl).2; have q12 := p17.1; have q13 := p17.2; have q14 := (g_ok_g oF29 1 rfl).1; have q15 := (g_ok_g oF29 1 rfl).2; have q16 := (g_ok_g oF29 7 rfl).1; have q17 := (g_ok_g oF29 7 rfl).2; have q18 := (g_ok_g oF36 1 rfl).1; have q19 := (g_ok_g oF36 1 rfl).2; have q20 := (g_ok_g oF36 7 rfl).1; have q21 := (g_ok_g oF36 7 rfl).2; have q22 := (g_ok_g oF50 1 rfl).1; have q23 := (g_ok_g oF50 1 rfl).2; have q24 := (g_ok_g oF50 7 rfl).1; have q25 := (g_ok_g oF50 7 rfl).2; have q26 := pr1.1; have q27 := pr1.2; have q28 := zx21.2.1; have q29 := zx21.2.2; have q30 := zx59.2.1; have q31 := zx59.2.2; have q32 := (congrArg Int32.toInt zx4); have q33 := (@g_here_lt F R); have q34 := (zx10 zc13); have q35 := (gc_ne zc16); have q36 := (g_eq0 zx21.1); have q37 := (congrArg Int32.toInt (show F29 15 = x21 from (((g_pu2 hF29 rfl).trans (g_pu2 hF27 rfl)).trans (g_pu1 hF23)))); have q38 := fkk41.2.2; have q39 := fkk41.2.1; have q40 := (congrArg Int32.toInt (show F29 15 = x21 from (((g_pu2 hF29 rfl).trans (g_pu2 hF27 rfl)).trans (g_pu1 hF23)))); have q41 := (congrArg Int32.toInt (show F29 25 = F 25 from (((g_pu2 hF29 rfl).trans (g_pu2 hF27 rfl)).trans (g_pu2 hF23 rfl)))); have q42 := p25k41; have q43 := lek55; have q44 := fkk55.2.2; have q45 := fkk55.2.1; have q46 := (g_eq0 zx59.1); omega) (by have q0 := (g_here_iv F R).1; have q1 := (g_here_iv F R).2; have q2 := (jv_k (x := 1) 1 (by decide)).1; have q3 := (jv_k (x := 1) 1 (by decide)).2; have q4 := (jv_k (x := 14) 14 (by decide)).1; have q5 := (jv_k (x := 14) 14 (by decide)).2; have q6 := (g_ok_g hI 1 rfl).1; have q7 := (g_ok_g hI 1 rfl).2; have q8 := (g_ok_g hI 2 rfl).1; have q9 := (g_ok_g hI 2 rfl).2; have q10 := (g_ok_g hI 7 rfl).1; have q11 := (g_ok_g hI 7 rfl).2; have q12 := p17.1; have q13 := p17.2; have q14 := (g_ok_g oF29 1 rfl).1; have q15 := (g_ok_g oF29 1 rfl).2; have q16 := (g_ok_g oF29 7 rfl).1; have q17 := (g_ok_g oF29 7 rfl).2; have q18 := (g_ok_g oF36 1 rfl).1; have q19 := (g_ok_g oF36 1 rfl).2; have q20 := (g_ok_g oF36 7 rfl).1; have q21 := (g_ok_g oF36 7 rfl).2; have q22 := (g_ok_g oF50 1 rfl).1; have q23 := (g_ok_g oF50 1 rfl).2; have q24 := (g_ok_g oF50 7 rfl).1; have q25 := (g_ok_g oF50 7 rfl).2; have q26 := (g_ok_g oF61 9 rfl).1; have q27 := (g_ok_g oF61 9 rfl).2; have q28 := pr1.1; have q29 := pr1.2; have q30 := zx21.2.1; have q31 := zx21.2.2; have q32 := zx59.2.1; have q33 := zx59.2.2; have q34 := (congrArg Int32.toInt zx4); have q35 := (@g_here_lt F R); have q36 := (zx10 zc13); have q37 := (gc_ne zc16); have q38 := (g_eq0 zx21.1); have q39 := (congrArg Int32.toInt (show F29 15 = x21 from (((g_pu2 hF29 rfl).trans (g_pu2 hF27 rfl)).trans (g_pu1 hF23)))); have q40 := fkk41.2.2; have q41 := fkk41.2.1; have q42 := (congrArg Int32.toInt (show F29 15 = x21 from (((g_pu2 hF29 rfl).trans (g_pu2 hF27 rfl)).trans (g_pu1 hF23)))); have q43 := (congrArg Int32.toInt (show F29 25 = F 25 from (((g_pu2 hF29 rfl).trans (g_pu2 hF27 rfl)).trans (g_pu2 hF23 rfl)))); have q44 := p25k41; have q45 := lek55; have q46 := fkk55.2.2; have q47 := fkk55.2.1; have q48 := (g_eq0 zx59.1); have q49 := (congrArg Int32.toInt (show F61 27 = x59 from (g_pu1 hF61))); omega) ((((((g_ru2 hR57 rfl).trans (cR51 15 rfl)).trans (g_ru2 hR43 rfl)).trans (cR37 15 rfl)).trans (g_ru1 hR25)).trans (by rw [show R19 15 = R 15 from (g_ru2 hR19 rfl), show F 27 = F 27 from rfl])) ((((g_ru2 hR57 rfl).trans (cR51 16 rfl)).trans (g_ru1 hR43)).trans (by rw [show R37 16 = R 16 from (((cR37 16 rfl).trans (g_ru2 hR25 rfl)).trans (g_ru2 hR19 rfl)), show F 27 = F 27 from rfl])) ((g_ru1 hR57).trans (by rw [show R51 17 = R 17 from (((((cR51 17 rfl).trans (g_ru2 hR43 rfl)).trans (cR37 17 rfl)).trans (g_ru2 hR25 rfl)).trans (g_ru2 hR19 rfl)), show F 27 = F 27 from rfl])) (by have q0 := (g_here_iv F R).1; have q1 := (g_here_iv F R).2; have q2 := (jv_k (x := 1) 1 (by decide)).1; have q3 := (jv_k (x := 1) 1 (by decide)).2; have q4 := (g_ok_g hI 1 rfl).1; have q5 := (g_ok_g hI 1 rfl).2; have q6 := (g_ok_g hI 2 rfl).1; have q7 := (g_ok_g hI 2 rfl).2; have q8 := (g_ok_g hI 7 rfl).1; have q9 := (g_ok_g hI 7 rfl).2; have q10 := p17.1; have q11 := p17.2; have q12 := (g_ok_g oF29 1 rfl).1; have q13 := (g_ok_g oF29 1 rfl).2; have q14 := (g_ok_g oF29 7 rfl).1; have q15 := (g_ok_g oF29 7 rfl).2; have q16 := (g_ok_g oF36 1 rfl).1; have q17 := (g_ok_g oF36 1 rfl).2; have q18 := (g_ok_g oF36 7 rfl).1; have q19 := (g_ok_g oF36 7 rfl).2; have q20 := (g_ok_g oF50 1 rfl).1; have q21 := (g_ok_g oF50 1 rfl).2; have q22 := (g_ok_g oF50 7 rfl).1; have q23 := (g_ok_g oF50 7 rfl).2; have q24 := zx21.2.1; have q25 := zx21.2.2; have q26 := zx59.2.1; have q27 := zx59.2.2; have q28 := (@g_here_lt F R); have q29 := (g_eq0 zx21.1); have q30 := (congrArg Int32.toInt (show F29 15 = x21 from (((g_pu2 hF29 rfl).trans (g_pu2 hF27 rfl)).trans (g_pu1 hF23)))); have q31 := fkk41.2.2; have q32 := fkk41.2.1; have q33 := (congrArg Int32.toInt (show F29 15 = x21 from (((g_pu2 hF29 rfl).trans (g_pu2 hF27 rfl)).trans (g_pu1 hF23)))); have q34 := (congrArg Int32.toInt (show F29 25 = F 25 from (((g_pu2 hF29 rfl).trans (g_pu2 hF27 rfl)).trans (g_pu2 hF23 rfl)))); have q35 := p25k41; have q36 := lek55; have q37 := fkk55.2.2; have q38 := fkk55.2.1; have q39 := (g_eq0 zx59.1); omega) (by have q0 := (g_here_iv F R).1; have q1 := (g_here_iv F R).2; have q2 := (jv_k (x := 1) 1 (by decide)).1; have q3 := (jv_k (x := 1) 1 (by decide)).2; have q4 := (g_ok_g hI 1 rfl).1; have q5 := (g_ok_g hI 1 rfl).2; have q6 := (g_ok_g hI 2 rfl).1; have q7 := (g_ok_g hI 2 rfl).2; have q8 := (g_ok_g hI 7 rfl).1; have q9 := (g_ok_g hI 7 rfl).2; have q10 := p17.1; have q11 := p17.2; have q12 := (g_ok_g oF29 1 rfl).1; have q13 := (g_ok_g oF29 1 rfl).2; have q14 := (g_ok_g oF29 7 rfl).1; have q15 := (g_ok_g oF29 7 rfl).2; have q16 := (g_ok_g oF36 1 rfl).1; have q17 := (g_ok_g oF36 1 rfl).2; have q18 := (g_ok_g oF36 7 rfl).1; have q19 := (g_ok_g oF36 7 rfl).2; have q20 := (g_ok_g oF50 1 rfl).1; have q21 := (g_ok_g oF50 1 rfl).2; have q22 := (g_ok_g oF50 7 rfl).1; have q23 := (g_ok_g oF50 7 rfl).2; have q24 := zx21.2.1; have q25 := zx21.2.2; have q26 := zx59.2.1; have q27 := zx59.2.2; have q28 := (@g_here_lt F R); have q29 := (g_eq0 zx21.1); have q30 := (congrArg Int32.toInt (show F29 15 = x21 from (((g_pu2 hF29 rfl).trans (g_pu2 hF27 rfl)).trans (g_pu1 hF23)))); have q31 := fkk41.2.2; have q32 := fkk41.2.1; have q33 := (congrArg Int32.toInt (show F29 15 = x21 from (((g_pu2 hF29 rfl).trans (g_pu2 hF27 rfl)).trans (g_pu1 hF23)))); have q34 := (congrArg Int32.toInt (show F29 25 = F 25 from (((g_pu2 hF29 rfl).trans (g_pu2 hF27 rfl)).trans (g_pu2 hF23 rfl)))); have q35 := p25k41; have q36 := lek55; have q37 := fkk55.2.2; have q38 := fkk55.2.1; have q39 := (g_eq0 zx59.1); omega) (by have q0 := (g_here_iv F R).1; have q1 := (g_here_iv F R).2; have q2 := (jv_k (x := 1) 1 (by decide)).1; have q3 := (jv_k (x := 1) 1 (by decide)).2; have q4 := (jv_k (x := 14) 14 (by decide)).1; have q5 := (jv_k (x := 14) 14 (by decide)).2; have q6 := (g_ok_g hI 1 rfl).1; have q7 := (g_ok_g hI 1 rfl).2; have q8 := (g_ok_g hI 2 rfl).1; have q9 := (g_ok_g hI 2 rfl).2; have q10 := (g_ok_g hI 7 rfl).1; have q11 := (g_ok_g hI 7 rfl).2; have q12 := p17.1; have q13 := p17.2; have q14 := (g_ok_g oF29 1 rfl).1; have q15 := (g_ok_g oF29 1 rfl).2; have q16 := (g_ok_g oF29 7 rfl).1; have q17 := (g_ok_g oF29 7 rfl).2; have q18 := (g_ok_g oF36 1 rfl).1; have q19 := (g_ok_g oF36 1 rfl).2; have q20 := (g_ok_g oF36 7 rfl).1; have q21 := (g_ok_g oF36 7 rfl).2; have q22 := (g_ok_g oF50 1 rfl).1; have q23 := (g_ok_g oF50 1 rfl).2; have q24 := (g_ok_g oF50 7 rfl).1; have q25 := (g_ok_g oF50 7 rfl).2; have q26 := (g_ok_g oF61 9 rfl).1; have q27 := (g_ok_g oF61 9 rfl).2; have q28 := pr1.1; have q29 := pr1.2; have q30 := zx21.2.1; have q31 := zx21.2.2; have q32 := zx59.2.1; have q33 := zx59.2.2; have q34 := (congrArg Int32.toInt zx4); have q35 := (@g_here_lt F R); have q36 := (zx10 zc13); have q37 := (gc_ne zc16); have q38 := (g_eq0 zx21.1); have q39 := (congrArg Int32.toInt (show F29 15 = x21 from (((g_pu2 hF29 rfl).trans (g_pu2 hF27 rfl)).trans (g_pu1 hF23)))); have q40 := fkk41.2.2; have q41 := fkk41.2.1; have q42 := (congrArg Int32.toInt (show F29 15 = x21 from (((g_pu2 hF29 rfl).trans (g_pu2 hF27 rfl)).trans (g_pu1 hF23)))); have q43 := (congrArg Int32.toInt (show F29 25 = F 25 from (((g_pu2 hF29 rfl).trans (g_pu2 hF27 rfl)).trans (g_pu2 hF23 rfl)))); have q44 := p25k41; have q45 := lek55; have q46 := fkk55.2.2; have q47 := fkk55.2.1; have q48 := (g_eq0 zx59.1); have q49 := (congrArg Int32.toInt (show F61 27 = x59 from (g_pu1 hF61))); omega) (by have q0 := (g_here_iv F R).1; have q1 := (g_here_iv F R).2; have q2 := (jv_k (x := 1) 1 (by decide)).1; have q3 := (jv_k (x := 1) 1 (by decide)).2; have q4 := (jv_k (x := 14) 14 (by decide)).1; have q5 := (jv_k (x := 14) 14 (by decide)).2; have q6 := (g_ok_g hI 1 rfl).1; have q7 := (g_ok_g hI 1 rfl).2; have q8 := (g_ok_g hI 2 rfl).1; have q9 := (g_ok_g hI 2 rfl).2; have q10 := (g_ok_g hI 7 rfl).1; have q11 := (g_ok_g hI 7 rfl).2; have q12 := p17.1; have q13 := p17.2; have q14 := (g_ok_g oF29 1 rfl).1; have q15 := (g_ok_g oF29 1 rfl).2; have q16 := (g_ok_g oF29 7 rfl).1; have q17 := (g_ok_g oF29 7 rfl).2; have q18 := (g_ok_g oF36 1 rfl).1; have q19 := (g_ok_g oF36 1 rfl).2; have q20 := (g_ok_g oF36 7 rfl).1; have q21 := (g_ok_g oF36 7 rfl).2; have q22 := (g_ok_g oF50 1 rfl).1; have q23 := (g_ok_g oF50 1 rfl).2; have q24 := (g_ok_g oF50 7 rfl).1; have q25 := (g_ok_g oF50 7 rfl).2; have q26 := (g_ok_g oF61 9 rfl).1; have q27 := (g_ok_g oF61 9 rfl).2; have q28 := pr1.1; have q29 := pr1.2; have q30 := zx21.2.1; have q31 := zx21.2.2; have q32 := zx59.2.1; have q33 := zx59.2.2; have q34 := (congrArg Int32.toInt zx4); have q35 := (@g_here_lt F R); have q36 := (gc_ne zc16); have q37 := (g_eq0 zx21.1); have q38 := (congrArg Int32.toInt (show F29 15 = x21 from (((g_pu2 hF29 rfl).trans (g_pu2 hF27 rfl)).trans (g_pu1 hF23)))); have q39 := fkk41.2.2; have q40 := fkk41.2.1; have q41 := (congrArg Int32.toInt (show F29 15 = x21 from (((g_pu2 hF29 rfl).trans (g_pu2 hF27 rfl)).trans (g_pu1 hF23)))); have q42 := (congrArg Int32.toInt (show F29 25 = F 25 from (((g_pu2 hF29 rfl).trans (g_pu2 hF27 rfl)).trans (g_pu2 hF23 rfl)))); have q43 := p25k41; have q44 := lek55; have q45 := fkk55.2.2; have q46 := fkk55.2.1; have q47 := (g_eq0 zx59.1); have q48 := (congrArg Int32.toInt (show F61 27 = x59 from (g_pu1 hF61))); omega) (by have q0 := (g_here_iv F R).1; have q1 := (g_here_iv F R).2; have q2 := (jv_k (x := 1) 1 (by decide)).1; have q3 := (jv_k (x := 1) 1 (by decide)).2; have q4 := (jv_k (x := 14) 14 (by decide)).1; have q5 := (jv_k (x := 14) 14 (by decide)).2; have q6 := (g_ok_g hI 1 rfl).1; have q7 := (g_ok_g hI 1 rfl).2; have q8 := (g_ok_g hI 2 rfl).1; have q9 := (g_ok_g hI 2 rfl).2; have q10 := (g_ok_g hI 7 rfl).1; have q11 := (g_ok_g hI 7 rfl).2; have q12 := p17.1; have q13 := p17.2; have q14 := (g_ok_g oF29 1 rfl).1; have q15 := (g_ok_g oF29 1 rfl).2; have q16 := (g_ok_g oF29 7 rfl).1; have q17 := (g_ok_g oF29 7 rfl).2; have q18 := (g_ok_g oF36 1 rfl).1; have q19 := (g_ok_g oF36 1 rfl).2; have q20 := (g_ok_g oF36 7 rfl).1; have q21 := (g_ok_g oF36 7 rfl).2; have q22 := (g_ok_g oF50 1 rfl).1; have q23 := (g_ok_g oF50 1 rfl).2; have q24 := (g_ok_g oF50 7 rfl).1; have q25 := (g_ok_g oF50 7 rfl).2; have q26 := (g_ok_g oF61 9 rfl).1; have q27 := (g_ok_g oF61 9 rfl).2; have q28 := pr1.1; have q29 := pr1.2; have q30 := zx21.2.1; have q31 := zx21.2.2; have q32 := zx59.2.1; have q33 := zx59.2.2; have q34 := (congrArg Int32.toInt zx4); have q35 := (@g_here_lt F R); have q36 := (zx10 zc13); have q37 := (gc_ne zc16); have q38 := (g_eq0 zx21.1); have q39 := (congrArg Int32.toInt (show F29 15 = x21 from (((g_pu2 hF29 rfl).trans (g_pu2 hF27 rfl)).trans (g_pu1 hF23)))); have q40 := fkk41.2.2; have q41 := fkk41.2.1; have q42 := (congrArg Int32.toInt (show F29 15 = x21 from (((g_pu2 hF29 rfl).trans (g_pu2 hF27 rfl)).trans (g_pu1 hF23)))); have q43 := (congrArg Int32.toInt (show F29 25 = F 25 from (((g_pu2 hF29 rfl).trans (g_pu2 hF27 rfl)).trans (g_pu2 hF23 rfl)))); have q44 := p25k41; have q45 := lek55; have q46 := fkk55.2.2; have q47 := fkk55.2.1; have q48 := (g_eq0 zx59.1); have q49 := (congrArg Int32.toInt (show F61 27 = x59 from (g_pu1 hF61))); omega) (by have q0 := (g_here_iv F R).1; have q1 := (g_here_iv F R).2; have q2 := (jv_k (x := 1) 1 (by decide)).1; have q3 := (jv_k (x := 1) 1 (by decide)).2; have q4 := (jv_k (x := 14) 14 (by decide)).1; have q5 := (jv_k (x := 14) 14 (by decide)).2; have q6 := (g_ok_g hI 1 rfl).1; have q7 := (g_ok_g hI 1 rfl).2; have q8 := (g_ok_g hI 2 rfl).1; have q9 := (g_ok_g hI 2 rfl).2; have q10 := (g_ok_g hI 7 rfl).1; have q11 := (g_ok_g hI 7 rfl).2; have q12 := p17.1; have q13 := p17.2; have q14 := (g_ok_g oF29 1 rfl).1; have q15 := (g_ok_g oF29 1 rfl).2; have q16 := (g_ok_g oF29 7 rfl).1; have q17 := (g_ok_g oF29 7 rfl).2; have q18 := (g_ok_g oF36 1 rfl).1; have q19 := (g_ok_g oF36 1 rfl).2; have q20 := (g_ok_g oF36 7 rfl).1; have q21 := (g_ok_g oF36 7 rfl).2; have q22 := (g_ok_g oF50 1 rfl).1; have q23 := (g_ok_g oF50 1 rfl).2; have q24 := (g_ok_g oF50 7 rfl).1; have q25 := (g_ok_g oF50 7 rfl).2; have q26 := (g_ok_g oF61 9 rfl).1; have q27 := (g_ok_g oF61 9 rfl).2; have q28 := pr1.1; have q29 := pr1.2; have q30 := zx21.2.1; have q31 := zx21.2.2; have q32 := zx59.2.1; have q33 := zx59.2.2; have q34 := (congrArg Int32.toInt zx4); have q35 := (@g_here_lt F R); have q36 := (zx10 zc13); have q37 := (gc_ne zc16); have q38 := (g_eq0 zx21.1); have q39 := (congrArg Int32.toInt (show F29 15 = x21 from (((g_pu2 hF29 rfl).trans (g_pu2 hF27 rfl)).trans (g_pu1 hF23)))); have q40 := fkk41.2.2; have q41 := fkk41.2.1; have q42 := (congrArg Int32.toInt (show F29 15 = x21 from (((g_pu2 hF29 rfl).trans (g_pu2 hF27 rfl)).trans (g_pu1 hF23)))); have q43 := (congrArg Int32.toInt (show F29 25 = F 25 from (((g_pu2 hF29 rfl).trans (g_pu2 hF27 rfl)).trans (g_pu2 hF23 rfl)))); have q44 := p25k41; have q45 := lek55; have q46 := fkk55.2.2; have q47 := fkk55.2.1; have q48 := (g_eq0 zx59.1); have q49 := (congrArg Int32.toInt (show F61 27 = x59 from (g_pu1 hF61))); omega) (by have q0 := (g_here_iv F R).1; have q1 := (g_here_iv F R).2; have q2 := (jv_k (x := 1) 1 (by decide)).1; have q3 := (jv_k (x := 1) 1 (by decide)).2; have q4 := (jv_k (x := 14) 14 (by decide)).1; have q5 := (jv_k (x := 14) 14 (by decide)).2; have q6 := (g_ok_g hI 1 rfl).1; have q7 := (g_ok_g hI 1 rfl).2; have q8 := (g_ok_g hI 2 rfl).1; have q9 := (g_ok_g hI 2 rfl).2; have q10 := (g_ok_g hI 7 rfl).1; have q11 := (g_ok_g hI 7 rfl).2; have q12 := p17.1; have q13 := p17.2; have q14 := (g_ok_g oF29 1 rfl).1; have q15 := (g_ok_g oF29 1 rfl).2; have q16 := (g_ok_g oF29 7 rfl).1; have q17 := (g_ok_g oF29 7 rfl).2; have q18 := (g_ok_g oF36 1 rfl).1; have q19 := (g_ok_g oF36 1 rfl).2; have q20 := (g_ok_g oF36 7 rfl).1; have q21 := (g_ok_g oF36 7 rfl).2; have q22 := (g_ok_g oF50 1 rfl).1; have q23 := (g_ok_g oF50 1 rfl).2; have q24 := (g_ok_g oF50 7 rfl).1; have q25 := (g_ok_g oF50 7 rfl).2; have q26 := (g_ok_g oF61 7 rfl).1; have q27 := (g_ok_g oF61 7 rfl).2; have q28 := (g_ok_g oF61 9 rfl).1; have q29 := (g_ok_g oF61 9 rfl).2; have q30 := pr1.1; have q31 := pr1.2; have q32 := zx21.2.1; have q33 := zx21.2.2; have q34 := zx59.2.1; have q35 := zx59.2.2; have q36 := (congrArg Int32.toInt zx4); have q37 := (@g_here_lt F R); have q38 := (gc_ne zc16); have q39 := (g_eq0 zx21.1); have q40 := (congrArg Int32.toInt (show F29 15 = x21 from (((g_pu2 hF29 rfl).trans (g_pu2 hF27 rfl)).trans (g_pu1 hF23)))); have q41 := fkk41.2.2; have q42 := fkk41.2.1; have q43 := (congrArg Int32.toInt (show F29 15 = x21 from (((g_pu2 hF29 rfl).trans (g_pu2 hF27 rfl)).trans (g_pu1 hF23)))); have q44 := (congrArg Int32.toInt (show F29 25 = F 25 from (((g_pu2 hF29 rfl).trans (g_pu2 hF27 rfl)).trans (g_pu2 hF23 rfl)))); have q45 := p25k41; have q46 := lek55; have q47 := fkk55.2.2; have q48 := fkk55.2.1; have q49 := (g_eq0 zx59.1); have q50 := (congrArg Int32.toInt (show F61 27 = x59 from (g_pu1 hF61))); have q51 := (congrArg Int32.toInt (show F61 25 = F50 25 from (g_pu2 hF61 rfl))); omega) ?_ ?_ ?_
      · rw [e12]; exact g_wf_eq (fun q _ hq => c0 q hq) wa
      · rw [e12]; exact wb
      · intro q hq; rw [e12]; exact (c0 q (by omega)).trans (s0 q hq)), by have q0 := (g_here_iv F R).1; have q1 := (g_here_iv F R).2; have q2 := (jv_k (x := 1) 1 (by decide)).1; have q3 := (jv_k (x := 1) 1 (by decide)).2; have q4 := (jv_k (x := 14) 14 (by decide)).1; have q5 := (jv_k (x := 14) 14 (by decide)).2; have q6 := (g_ok_g hI 1 rfl).1; have q7 := (g_ok_g hI 1 rfl).2; have q8 := (g_ok_g hI 2 rfl).1; have q9 := (g_ok_g hI 2 rfl).2; have q10 := (g_ok_g hI 7 rfl).1; have q11 := (g_ok_g hI 7 rfl).2; have q12 := p17.1; have q13 := p17.2; have q14 := (g_ok_g oF29 1 rfl).1; have q15 := (g_ok_g oF29 1 rfl).2; have q16 := (g_ok_g oF29 7 rfl).1; have q17 := (g_ok_g oF29 7 rfl).2; have q18 := (g_ok_g oF36 1 rfl).1; have q19 := (g_ok_g oF36 1 rfl).2; have q20 := (g_ok_g oF36 7 rfl).1; have q21 := (g_ok_g oF36 7 rfl).2; have q22 := (g_ok_g oF50 1 rfl).1; have q23 := (g_ok_g oF50 1 rfl).2; have q24 := (g_ok_g oF50 7 rfl).1; have q25 := (g_ok_g oF50 7 rfl).2; have q26 := (g_ok_g oF61 1 rfl).1; have q27 := (g_ok_g oF61 1 rfl).2; have q28 := (g_ok_g oF61 7 rfl).1; have q29 := (g_ok_g oF61 7 rfl).2; have q30 := (g_ok_g oF61 9 rfl).1; have q31 := (g_ok_g oF61 9 rfl).2; have q32 := pr1.1; have q33 := pr1.2; have q34 := zx21.2.1; have q35 := zx21.2.2; have q36 := zx59.2.1; have q37 := zx59.2.2; have q38 := (congrArg Int32.toInt zx4); have q39 := (@g_here_lt F R); have q40 := (gc_ne zc16); have q41 := (g_eq0 zx21.1); have q42 := (congrArg Int32.toInt (show F29 15 = x21 from (((g_pu2 hF29 rfl).trans (g_pu2 hF27 rfl)).trans (g_pu1 hF23)))); have q43 := fkk41.2.2; have q44 := fkk41.2.1; have q45 := (congrArg Int32.toInt (show F29 15 = x21 from (((g_pu2 hF29 rfl).trans (g_pu2 hF27 rfl)).trans (g_pu1 hF23)))); have q46 := (congrArg Int32.toInt (show F29 25 = F 25 from (((g_pu2 hF29 rfl).trans (g_pu2 hF27 rfl)).trans (g_pu2 hF23 rfl)))); have q47 := p25k41; have q48 := lek55; have q49 := fkk55.2.2; have q50 := fkk55.2.1; have q51 := (g_eq0 zx59.1); have q52 := (congrArg Int32.toInt (show F61 27 = x59 from (g_pu1 hF61))); have q53 := (congrArg Int32.toInt (show F61 25 = F50 25 from (g_pu2 hF61 rfl))); have q54 := (congrArg Int32.toInt (show F61 25 = F50 25 from (g_pu2 hF61 rfl))); have q55 := (congrArg Int32.toInt (show F61 15 = F50 15 from (g_pu2 hF61 rfl))); omega, by have q0 := (g_here_iv F R).1; have q1 := (g_here_iv F R).2; have q2 := (jv_k (x := 1) 1 (by decide)).1; have q3 := (jv_k (x := 1) 1 (by decide)).2; have q4 := (jv_k (x := 14) 14 (by decide)).1; have q5 := (jv_k (x := 14) 14 (by decide)).2; have q6 := (g_ok_g hI 1 rfl).1; have q7 := (g_ok_g hI 1 rfl).2; have q8 := (g_ok_g hI 2 rfl).1; have q9 := (g_ok_g hI 2 rfl).2; have q10 := (g_ok_g hI 7 rfl).1; have q11 := (g_ok_g hI 7 rfl).2; have q12 := p17.1; have q13 := p17.2; have q14 := (g_ok_g oF29 1 rfl).1; have q15 := (g_ok_g oF29 1 rfl).2; have q16 := (g_ok_g oF29 7 rfl).1; have q17 := (g_ok_g oF29 7 rfl).2; have q18 := (g_ok_g oF36 1 rfl).1; have q19 := (g_ok_g oF36 1 rfl).2; have q20 := (g_ok_g oF36 7 rfl).1; have q21 := (g_ok_g oF36 7 rfl).2; have q22 := (g_ok_g oF50 1 rfl).1; have q23 := (g_ok_g oF50 1 rfl).2; have q24 := (g_ok_g oF50 7 rfl).1; have q25 := (g_ok_g oF50 7 rfl).2; have q26 := (g_ok_g oF61 1 rfl).1; have q27 := (g_ok_g oF61 1 rfl).2; have q28 := (g_ok_g oF61 7 rfl).1; have q29 := (g_ok_g oF61 7 rfl).2; have q30 := (g_ok_g oF61 9 rfl).1; have q31 := (g_ok_g oF61 9 rfl).2; have q32 := pr1.1; have q33 := pr1.2; have q34 := zx21.2.1; have q35 := zx21.2.2; have q36 := zx59.2.1; have q37 := zx59.2.2; have q38 := (congrArg Int32.toInt zx4); have q39 := (@g_here_lt F R); have q40 := (zx10 zc13); have q41 := (gc_ne zc16); have q42 := (g_eq0 zx21.1); have q43 := (congrArg Int32.toInt (show F29 15 = x21 from (((g_pu2 hF29 rfl).trans (g_pu2 hF27 rfl)).trans (g_pu1 hF23)))); have q44 := fkk41.2.2; have q45 := fkk41.2.1; have q46 := (congrArg Int32.toInt (show F29 15 = x21 from (((g_pu2 hF29 rfl).trans (g_pu2 hF27 rfl)).trans (g_pu1 hF23)))); have q47 := (congrArg Int32.toInt (show F29 25 = F 25 from (((g_pu2 hF29 rfl).trans (g_pu2 hF27 rfl)).trans (g_pu2 hF23 rfl)))); have q48 := p25k41; have q49 := lek55; have q50 := fkk55.2.2; have q51 := fkk55.2.1; have q52 := (g_eq0 zx59.1); have q53 := (congrArg Int32.toInt (show F61 27 = x59 from (g_pu1 hF61))); have q54 := (congrArg Int32.toInt (show F61 25 = F50 25 from (g_pu2 hF61 rfl))); have q55 := (congrArg Int32.toInt (show F61 25 = F50 25 from (g_pu2 hF61 rfl))); have q56 := (congrArg Int32.toInt (show F61 15 = F50 15 from (g_pu2 hF61 rfl))); have q57 := (congrArg Int32.toInt (show F61 15 = F50 15 from (g_pu2 hF61 rfl))); omega⟩), (hk62.symm.trans hSP)⟩
        · have p63 := gn_eq 0 0 (gc_eq zc53) pr45 (jv_k (x := 0) 0 (by decide)) (by decide)
          have hk64 := hk52.trans (if_pos zc53)
          refine g_iconst cx 0 (by decide) e_X11_readsClause_113 ?_
          exact hret e_X11_readsClause_114 (Nat.le_of_ble_eq_true rfl) (Nat.le_of_ble_eq_true rfl) rfl ⟨F50, R51, rfl, oF50, oR51, wTF50, wCF50, fF50, fR51, (jv_w (jv_k (x := 0) 0 (by decide)) (by decide)), (fun h0 => absurd (by first | rfl | exact jv_c 0 (jv_k (x := 0) 0 (by decide)) (by decide)) h0), (hk64.symm.trans hSP)⟩
      · have p65 := gn_eq 0 0 (gc_eq zc39) pr31 (jv_k (x := 0) 0 (by decide)) (by decide)
        have hk66 := hk38.trans (if_pos zc39)
        refine g_iconst cx 0 (by decide) e_X11_readsClause_91 ?_
        exact hret e_X11_readsClause_92 (Nat.le_of_ble_eq_true rfl) (Nat.le_of_ble_eq_true rfl) rfl ⟨F36, R37, rfl, oF36, oR37, wTF36, wCF36, fF36, fR37, (jv_w (jv_k (x := 0) 0 (by decide)) (by decide)), (fun h0 => absurd (by first | rfl | exact jv_c 0 (jv_k (x := 0) 0 (by decide)) (by decide)) h0), (hk66.symm.trans hSP)⟩
    · have p67 := gn_eq 14 14 (gc_eq zc16) (g_ok_g hI 9 rfl) (jv_k (x := 14) 14 (by decide)) (by decide)
      have hk68 := hk15.trans (if_pos zc16)
      refine g_aload_n cx 1 rfl e_X11_readsClause_31 ?_
      refine g_iconst cx 4 (by decide) e_X11_readsClause_32 ?_
      refine g_aload_n cx 1 rfl e_X11_readsClause_33 ?_
      refine g_get cx cl_X11 fl_X11_190 0 (.int (F 15)) e_X11_readsClause_34 rfl rfl ?_
      refine g_cViW cx [.int 4, .int (F 15)] [] (w_X11_wrongAt l X ad F R hI hA hWT hWC 4 (F 15)) ml_X11_204 yV_X11_wrongAt e_X11_readsClause_37 (by unfold g_rr; decide) (by decide) 0 rfl rfl rfl (Nat.le_of_ble_eq_true rfl) (fun r69 w70 h71 => ?_)
      obtain ⟨F73, R74, rfl, oF73, oR74, wTF73, wCF73, cF73, cR74, pr69, hx72⟩ := h71
      have hk75 := k_ls3 hk68 hx72
      have fF73 : g_fr md_X11_readsClause F F73 := g_fr_c (g_fr_rf F) cF73 rfl
      have fR74 : g_fr mr_X11_readsClause R R74 := g_fr_c (g_fr_rf R) cR74 rfl
      exact hret e_X11_readsClause_40 (Nat.le_of_ble_eq_true rfl) (Nat.le_of_ble_eq_true rfl) (g_narb (jv_w pr69 (by decide))) ⟨F73, R74, rfl, oF73, oR74, wTF73, wCF73, fF73, fR74, (jv_w pr69 (by decide)), (fun h0 => absurd (by first | rfl | exact jv_c 0 pr69 (by decide)) h0), (hk75.symm.trans hSP)⟩
  · have p76 := gn_eq 0 0 (gc_eq zc13) pr7 (jv_k (x := 0) 0 (by decide)) (by decide)
    have hk77 := hk12.trans (if_pos zc13)
    refine g_aload_n cx 1 rfl e_X11_readsClause_12 ?_
    refine g_iconst cx 1 (by decide) e_X11_readsClause_13 ?_
    refine g_aload_n cx 1 rfl e_X11_readsClause_14 ?_
    refine g_get cx cl_X11 fl_X11_190 0 (.int (F 15)) e_X11_readsClause_15 rfl rfl ?_
    refine g_cViW cx [.int 1, .int (F 15)] [] (w_X11_wrongAt l X ad F R hI hA hWT hWC 1 (F 15)) ml_X11_204 yV_X11_wrongAt e_X11_readsClause_18 (by unfold g_rr; decide) (by decide) 0 rfl rfl rfl (Nat.le_of_ble_eq_true rfl) (fun r78 w79 h80 => ?_)
    obtain ⟨F82, R83, rfl, oF82, oR83, wTF82, wCF82, cF82, cR83, pr78, hx81⟩ := h80
    have hk84 := k_ls3 hk77 hx81
    have fF82 : g_fr md_X11_readsClause F F82 := g_fr_c (g_fr_rf F) cF82 rfl
    have fR83 : g_fr mr_X11_readsClause R R83 := g_fr_c (g_fr_rf R) cR83 rfl
    exact hret e_X11_readsClause_21 (Nat.le_of_ble_eq_true rfl) (Nat.le_of_ble_eq_true rfl) (g_narb (jv_w pr78 (by decide))) ⟨F82, R83, rfl, oF82, oR83, wTF82, wCF82, fF82, fR83, (jv_w pr78 (by decide)), (fun h0 => absurd (by first | rfl | exact jv_c 0 pr78 (by decide)) h0), (hk84.symm.trans hSP)⟩
