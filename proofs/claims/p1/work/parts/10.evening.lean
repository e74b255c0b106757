theorem g_hf0 {len e folds q : Int32} (h : folds = 0) : g_hf len e folds q = 0 := by
  unfold g_hf
  rw [h, Int32.zero_and]
  simp
theorem g_has0 {told i : Int32} (h : told = 0) : g_has told i = 0 := by
  unfold g_has
  rw [h, Int32.zero_and]
  simp
def P_ob (F F' : Nat → Int32) (R R' : Nat → Nat → Int32) : Prop := (∀ k, k < 691 ∨ 699 ≤ k → F' k = F k) ∧ F' 691 = F 83 ∧ F' 692 = 0 ∧ F' 693 = 0 ∧ F' 694 = 0 ∧ F' 695 = 0 ∧ F' 696 = 0 ∧ F' 697 = 0 ∧ F' 698 = F 81 ∧ (∀ j, j < 30 → R' 46 j = 0) ∧ (∀ c, c < 44 ∨ 47 ≤ c → R' c = R c)
def P_eb (F F' : Nat → Int32) (R R' : Nat → Nat → Int32) : Prop := (∀ k, k < 600 ∨ 607 < k ∧ k < 691 ∨ 699 ≤ k → F' k = F k) ∧ F' 691 = F 83 ∧ F' 692 = 0 ∧ F' 693 = 0 ∧ F' 694 = 0 ∧ F' 695 = 0 ∧ F' 696 = 0 ∧ F' 697 = 0 ∧ F' 698 = F 81 ∧ (∀ j, j < 30 → R' 46 j = 0) ∧ (∀ c, c < 38 ∨ 38 < c ∧ c < 44 ∨ 47 ≤ c → R' c = R c)
def P_pc (F F' : Nat → Int32) (R R' : Nat → Nat → Int32) : Prop := (∀ k, k < 603 ∨ 604 < k ∧ k < 698 ∨ 699 ≤ k → F' k = F k) ∧ (∀ c, c < 23 ∨ 23 < c → R' c = R c)
def P_tk (F F' : Nat → Int32) (R R' : Nat → Nat → Int32) : Prop := (∀ k, k < 600 ∨ 607 < k ∧ k < 698 ∨ 699 ≤ k → F' k = F k) ∧ (∀ c, c < 23 ∨ 23 < c → R' c = R c)
def P_rn (F F' : Nat → Int32) (R R' : Nat → Nat → Int32) : Prop := (∀ k, k < 600 ∨ 607 < k ∧ k < 691 ∨ 699 ≤ k → F' k = F k) ∧ F' 691 = 0 ∧ F' 692 = 0 ∧ F' 693 = 0 ∧ F' 694 = 0 ∧ F' 695 = 0 ∧ F' 696 = 0 ∧ (F 241 = 0 → F' 697 = 0 ∧ F' 698 = F 81) ∧ (∀ j, j < 30 → R' 46 j = 0) ∧ (∀ c, c < 23 ∨ 23 < c ∧ c < 38 ∨ 38 < c ∧ c < 44 ∨ 47 ≤ c → R' c = R c)

theorem d_X4_begin_0 : g_dc cX4_begin 0 (.aload_n 1) 1 1 := ⟨by decide +kernel, rfl⟩
theorem d_X4_begin_1 : g_dc cX4_begin 1 (.ifnonnull 4) 3 4 := ⟨by decide +kernel, rfl⟩
theorem d_X4_begin_5 : g_dc cX4_begin 5 (.iconst 0) 1 6 := ⟨by decide +kernel, rfl⟩
theorem d_X4_begin_6 : g_dc cX4_begin 6 (.istore_n 2) 1 7 := ⟨by decide +kernel, rfl⟩
theorem d_X4_begin_7 : g_dc cX4_begin 7 (.iload_n 2) 1 8 := ⟨by decide +kernel, rfl⟩
theorem d_X4_begin_8 : g_dc cX4_begin 8 (.bipush 10) 2 10 := ⟨by decide +kernel, rfl⟩
theorem d_X4_begin_10 : g_dc cX4_begin 10 (.if_icmp .ge 34) 3 13 := ⟨by decide +kernel, rfl⟩
theorem d_X4_begin_13 : g_dc cX4_begin 13 (.aload_n 0) 1 14 := ⟨by decide +kernel, rfl⟩
theorem d_X4_begin_14 : g_dc cX4_begin 14 (.getfield 9) 3 17 := ⟨by decide +kernel, rfl⟩
theorem d_X4_begin_17 : g_dc cX4_begin 17 (.iload_n 2) 1 18 := ⟨by decide +kernel, rfl⟩
theorem d_X4_begin_18 : g_dc cX4_begin 18 (.aload_n 1) 1 19 := ⟨by decide +kernel, rfl⟩
theorem d_X4_begin_19 : g_dc cX4_begin 19 (.iload_n 2) 1 20 := ⟨by decide +kernel, rfl⟩
theorem d_X4_begin_20 : g_dc cX4_begin 20 (.iconst 1) 1 21 := ⟨by decide +kernel, rfl⟩
theorem d_X4_begin_21 : g_dc cX4_begin 21 (.invokevirtual 46) 3 24 := ⟨by decide +kernel, rfl⟩
theorem d_X4_begin_24 : g_dc cX4_begin 24 (.iastore) 1 25 := ⟨by decide +kernel, rfl⟩
theorem d_X4_begin_25 : g_dc cX4_begin 25 (.aload_n 0) 1 26 := ⟨by decide +kernel, rfl⟩
theorem d_X4_begin_26 : g_dc cX4_begin 26 (.getfield 15) 3 29 := ⟨by decide +kernel, rfl⟩
theorem d_X4_begin_29 : g_dc cX4_begin 29 (.iload_n 2) 1 30 := ⟨by decide +kernel, rfl⟩
theorem d_X4_begin_30 : g_dc cX4_begin 30 (.aload_n 1) 1 31 := ⟨by decide +kernel, rfl⟩
theorem d_X4_begin_31 : g_dc cX4_begin 31 (.iload_n 2) 1 32 := ⟨by decide +kernel, rfl⟩
theorem d_X4_begin_32 : g_dc cX4_begin 32 (.bipush 6) 2 34 := ⟨by decide +kernel, rfl⟩
theorem d_X4_begin_34 : g_dc cX4_begin 34 (.invokevirtual 46) 3 37 := ⟨by decide +kernel, rfl⟩
theorem d_X4_begin_37 : g_dc cX4_begin 37 (.iastore) 1 38 := ⟨by decide +kernel, rfl⟩
theorem d_X4_begin_38 : g_dc cX4_begin 38 (.iinc 2 1) 3 41 := ⟨by decide +kernel, rfl⟩
theorem d_X4_begin_41 : g_dc cX4_begin 41 (.goto (-34)) 3 44 := ⟨by decide +kernel, rfl⟩
theorem d_X4_begin_44 : g_dc cX4_begin 44 (.iconst 0) 1 45 := ⟨by decide +kernel, rfl⟩
theorem d_X4_begin_45 : g_dc cX4_begin 45 (.istore_n 2) 1 46 := ⟨by decide +kernel, rfl⟩
theorem d_X4_begin_46 : g_dc cX4_begin 46 (.iload_n 2) 1 47 := ⟨by decide +kernel, rfl⟩
theorem d_X4_begin_47 : g_dc cX4_begin 47 (.aload_n 0) 1 48 := ⟨by decide +kernel, rfl⟩
theorem d_X4_begin_48 : g_dc cX4_begin 48 (.getfield 18) 3 51 := ⟨by decide +kernel, rfl⟩
theorem d_X4_begin_51 : g_dc cX4_begin 51 (.arraylength) 1 52 := ⟨by decide +kernel, rfl⟩
theorem d_X4_begin_52 : g_dc cX4_begin 52 (.if_icmp .ge 16) 3 55 := ⟨by decide +kernel, rfl⟩
theorem d_X4_begin_55 : g_dc cX4_begin 55 (.aload_n 0) 1 56 := ⟨by decide +kernel, rfl⟩
theorem d_X4_begin_56 : g_dc cX4_begin 56 (.getfield 18) 3 59 := ⟨by decide +kernel, rfl⟩
theorem d_X4_begin_59 : g_dc cX4_begin 59 (.iload_n 2) 1 60 := ⟨by decide +kernel, rfl⟩
theorem d_X4_begin_60 : g_dc cX4_begin 60 (.iconst 0) 1 61 := ⟨by decide +kernel, rfl⟩
theorem d_X4_begin_61 : g_dc cX4_begin 61 (.iastore) 1 62 := ⟨by decide +kernel, rfl⟩
theorem d_X4_begin_62 : g_dc cX4_begin 62 (.iinc 2 1) 3 65 := ⟨by decide +kernel, rfl⟩
theorem d_X4_begin_65 : g_dc cX4_begin 65 (.goto (-19)) 3 68 := ⟨by decide +kernel, rfl⟩
theorem d_X4_begin_68 : g_dc cX4_begin 68 (.aload_n 0) 1 69 := ⟨by decide +kernel, rfl⟩
theorem d_X4_begin_69 : g_dc cX4_begin 69 (.aload_n 1) 1 70 := ⟨by decide +kernel, rfl⟩
theorem d_X4_begin_70 : g_dc cX4_begin 70 (.getfield 52) 3 73 := ⟨by decide +kernel, rfl⟩
theorem d_X4_begin_73 : g_dc cX4_begin 73 (.putfield 21) 3 76 := ⟨by decide +kernel, rfl⟩
theorem d_X4_begin_76 : g_dc cX4_begin 76 (.aload_n 0) 1 77 := ⟨by decide +kernel, rfl⟩
theorem d_X4_begin_77 : g_dc cX4_begin 77 (.iconst 0) 1 78 := ⟨by decide +kernel, rfl⟩
theorem d_X4_begin_78 : g_dc cX4_begin 78 (.putfield 25) 3 81 := ⟨by decide +kernel, rfl⟩
theorem d_X4_begin_81 : g_dc cX4_begin 81 (.aload_n 0) 1 82 := ⟨by decide +kernel, rfl⟩
theorem d_X4_begin_82 : g_dc cX4_begin 82 (.iconst 0) 1 83 := ⟨by decide +kernel, rfl⟩
theorem d_X4_begin_83 : g_dc cX4_begin 83 (.putfield 28) 3 86 := ⟨by decide +kernel, rfl⟩
theorem d_X4_begin_86 : g_dc cX4_begin 86 (.aload_n 0) 1 87 := ⟨by decide +kernel, rfl⟩
theorem d_X4_begin_87 : g_dc cX4_begin 87 (.iconst 0) 1 88 := ⟨by decide +kernel, rfl⟩
theorem d_X4_begin_88 : g_dc cX4_begin 88 (.putfield 31) 3 91 := ⟨by decide +kernel, rfl⟩
theorem d_X4_begin_91 : g_dc cX4_begin 91 (.aload_n 0) 1 92 := ⟨by decide +kernel, rfl⟩
theorem d_X4_begin_92 : g_dc cX4_begin 92 (.iconst 0) 1 93 := ⟨by decide +kernel, rfl⟩
theorem d_X4_begin_93 : g_dc cX4_begin 93 (.putfield 34) 3 96 := ⟨by decide +kernel, rfl⟩
theorem d_X4_begin_96 : g_dc cX4_begin 96 (.aload_n 0) 1 97 := ⟨by decide +kernel, rfl⟩
theorem d_X4_begin_97 : g_dc cX4_begin 97 (.iconst 0) 1 98 := ⟨by decide +kernel, rfl⟩
theorem d_X4_begin_98 : g_dc cX4_begin 98 (.putfield 37) 3 101 := ⟨by decide +kernel, rfl⟩
theorem d_X4_begin_101 : g_dc cX4_begin 101 (.aload_n 0) 1 102 := ⟨by decide +kernel, rfl⟩
theorem d_X4_begin_102 : g_dc cX4_begin 102 (.iconst 0) 1 103 := ⟨by decide +kernel, rfl⟩
theorem d_X4_begin_103 : g_dc cX4_begin 103 (.putfield 40) 3 106 := ⟨by decide +kernel, rfl⟩
theorem d_X4_begin_106 : g_dc cX4_begin 106 (.aload_n 0) 1 107 := ⟨by decide +kernel, rfl⟩
theorem d_X4_begin_107 : g_dc cX4_begin 107 (.aload_n 1) 1 108 := ⟨by decide +kernel, rfl⟩
theorem d_X4_begin_108 : g_dc cX4_begin 108 (.getfield 53) 3 111 := ⟨by decide +kernel, rfl⟩
theorem d_X4_begin_111 : g_dc cX4_begin 111 (.putfield 43) 3 114 := ⟨by decide +kernel, rfl⟩
theorem d_X4_begin_114 : g_dc cX4_begin 114 (.return_) 1 115 := ⟨by decide +kernel, rfl⟩
set_option maxHeartbeats 4000000 in
set_option maxRecDepth 100000 in
theorem c_X4_begin (l : Launch) (X : gX) (ad : Nat → Nat) (F : Nat → Int32) (R : Nat → Nat → Int32) : g_Cv l X yX4_begin cX4_begin 3 3 0 0 [.ref (ad 43), .ref (ad 5)] (wX X ad F R) (fun w => ∃ (F' : Nat → Int32) (R' : Nat → Nat → Int32), w = wX X ad F' R' ∧ P_ob F F' R R') := by
  refine g_mv (by decide +kernel) (Nat.le_of_ble_eq_true rfl) (fun E cx hret => ?_)
  refine g_aload_n cx 1 rfl d_X4_begin_0 ?_
  refine g_ifnonnull cx 5 d_X4_begin_1 (by decide) ?_
  refine g_iconst cx 0 (by decide) d_X4_begin_5 ?_
  refine g_istore_n cx [(2, .int 0), (0, .ref (ad 43)), (1, .ref (ad 5))] d_X4_begin_6 (by decide) rfl ?_
  have L7 : ∀ (N : Nat) (i : Nat) (x2 : Int32) (za zb : Nat → Int32), 10 - i < N → (x2 = nI i) → (i ≤ 10) → G X E 3 0 0 (wX X ad F (g_u (g_u R 44 za) 45 zb)) [(0, .ref (ad 43)), (1, .ref (ad 5)), (2, .int x2)] 7 [] := by
    intro N
    induction N with
    | zero => intro i x2 za zb hm; exact absurd hm (Nat.not_lt_zero _)
    | succ N ih7 =>
      intro i x2 za zb hm hx hi
      refine g_iload_n cx 2 rfl d_X4_begin_7 ?_
      refine g_bipush cx 10 (by decide) d_X4_begin_8 ?_
      refine g_icmp_ge cx 44 d_X4_begin_10 (by decide) (fun zc10 => ?_) (fun zc10 => ?_)
      · refine g_iconst cx 0 (by decide) d_X4_begin_44 ?_
        refine g_istore_n cx [(2, .int 0), (0, .ref (ad 43)), (1, .ref (ad 5))] d_X4_begin_45 (by decide) rfl ?_
        have L46 : ∀ (N : Nat) (i : Nat) (x2 : Int32) (zc : Nat → Int32), 30 - i < N → (x2 = nI i) → (i ≤ 30) → (∀ j, j < i → zc j = 0) → G X E 3 0 0 (wX X ad F (g_u (g_u (g_u R 44 za) 45 zb) 46 zc)) [(0, .ref (ad 43)), (1, .ref (ad 5)), (2, .int x2)] 46 [] := by
          intro N
          induction N with
          | zero => intro i x2 zc hm; exact absurd hm (Nat.not_lt_zero _)
          | succ N ih46 =>
            intro i x2 zc hm hx hi hz
            refine g_iload_n cx 2 rfl d_X4_begin_46 ?_
            refine g_aload_n cx 0 rfl d_X4_begin_47 ?_
            refine g_get cx cl_X4 fl_X4_18 43 (.ref (ad 46)) d_X4_begin_48 rfl rfl ?_
            refine g_alen cx 46 30 d_X4_begin_51 rfl (by decide) ?_
            refine g_icmp_ge cx 68 d_X4_begin_52 (by decide) (fun zc52 => ?_) (fun zc52 => ?_)
            · refine g_aload_n cx 0 rfl d_X4_begin_68 ?_
              refine g_aload_n cx 1 rfl d_X4_begin_69 ?_
              refine g_getN cx cl_X8 fn_X4_52 5 (.int (F 83)) d_X4_begin_70 rfl rfl ?_
              refine g_put cx cl_X4 fl_X4_21 43 (wX X ad (upd F 691 (F 83)) (g_u (g_u (g_u R 44 za) 45 zb) 46 zc)) d_X4_begin_73 rfl rfl rfl rfl (Nat.le_of_ble_eq_true rfl) rfl ?_
              refine g_aload_n cx 0 rfl d_X4_begin_76 ?_
              refine g_iconst cx 0 (by decide) d_X4_begin_77 ?_
              refine g_put cx cl_X4 fl_X4_25 43 (wX X ad (upd (upd F 691 (F 83)) 692 0) (g_u (g_u (g_u R 44 za) 45 zb) 46 zc)) d_X4_begin_78 rfl rfl rfl rfl (Nat.le_of_ble_eq_true rfl) rfl ?_
              refine g_aload_n cx 0 rfl d_X4_begin_81 ?_
              refine g_iconst cx 0 (by decide) d_X4_begin_82 ?_
              refine g_put cx cl_X4 fl_X4_28 43 (wX X ad (upd (upd (upd F 691 (F 83)) 692 0) 693 0) (g_u (g_u (g_u R 44 za) 45 zb) 46 zc)) d_X4_begin_83 rfl rfl rfl rfl (Nat.le_of_ble_eq_true rfl) rfl ?_
              refine g_aload_n cx 0 rfl d_X4_begin_86 ?_
              refine g_iconst cx 0 (by decide) d_X4_begin_87 ?_
              refine g_put cx cl_X4 fl_X4_31 43 (wX X ad (upd (upd (upd (upd F 691 (F 83)) 692 0) 693 0) 694 0) (g_u (g_u (g_u R 44 za) 45 zb) 46 zc)) d_X4_begin_88 rfl rfl rfl rfl (Nat.le_of_ble_eq_true rfl) rfl ?_
              refine g_aload_n cx 0 rfl d_X4_begin_91 ?_
              refine g_iconst cx 0 (by decide) d_X4_begin_92 ?_
              refine g_put cx cl_X4 fl_X4_34 43 (wX X ad (upd (upd (upd (upd (upd F 691 (F 83)) 692 0) 693 0) 694 0) 695 0) (g_u (g_u (g_u R 44 za) 45 zb) 46 zc)) d_X4_begin_93 rfl rfl rfl rfl (Nat.le_of_ble_eq_true rfl) rfl ?_
              refine g_aload_n cx 0 rfl d_X4_begin_96 ?_
              refine g_iconst cx 0 (by decide) d_X4_begin_97 ?_
              refine g_put cx cl_X4 fl_X4_37 43 (wX X ad (upd (upd (upd (upd (upd (upd F 691 (F 83)) 692 0) 693 0) 694 0) 695 0) 696 0) (g_u (g_u (g_u R 44 za) 45 zb) 46 zc)) d_X4_begin_98 rfl rfl rfl rfl (Nat.le_of_ble_eq_true rfl) rfl ?_
              refine g_aload_n cx 0 rfl d_X4_begin_101 ?_
              refine g_iconst cx 0 (by decide) d_X4_begin_102 ?_
              refine g_put cx cl_X4 fl_X4_40 43 (wX X ad (upd (upd (upd (upd (upd (upd (upd F 691 (F 83)) 692 0) 693 0) 694 0) 695 0) 696 0) 697 0) (g_u (g_u (g_u R 44 za) 45 zb) 46 zc)) d_X4_begin_103 rfl rfl rfl rfl (Nat.le_of_ble_eq_true rfl) rfl ?_
              refine g_aload_n cx 0 rfl d_X4_begin_106 ?_
              refine g_aload_n cx 1 rfl d_X4_begin_107 ?_
              refine g_getN cx cl_X8 fn_X4_53 5 (.int (F 81)) d_X4_begin_108 rfl rfl ?_
              refine g_put cx cl_X4 fl_X4_43 43 (wX X ad (upd (upd (upd (upd (upd (upd (upd (upd F 691 (F 83)) 692 0) 693 0) 694 0) 695 0) 696 0) 697 0) 698 (F 81)) (g_u (g_u (g_u R 44 za) 45 zb) 46 zc)) d_X4_begin_111 rfl rfl rfl rfl (Nat.le_of_ble_eq_true rfl) rfl ?_
              exact hret d_X4_begin_114 (Nat.le_of_ble_eq_true rfl) (Nat.le_of_ble_eq_true rfl) ⟨(upd (upd (upd (upd (upd (upd (upd (upd F 691 (F 83)) 692 0) 693 0) 694 0) 695 0) 696 0) 697 0) 698 (F 81)), (g_u (g_u (g_u R 44 za) 45 zb) 46 zc), rfl, ⟨by intro k hk; simp only [upd]; repeat rw [if_neg (by omega)], rfl, rfl, rfl, rfl, rfl, rfl, rfl, rfl, (by have h30 := g_le (c := 30) (by decide) (hx ▸ zc52) (by omega); intro j hj; exact hz j (by omega)), by intro c hc; simp only [g_u]; repeat rw [if_neg (by omega)]⟩⟩
            · refine g_aload_n cx 0 rfl d_X4_begin_55 ?_
              refine g_get cx cl_X4 fl_X4_18 43 (.ref (ad 46)) d_X4_begin_56 rfl rfl ?_
              refine g_iload_n cx 2 rfl d_X4_begin_59 ?_
              refine g_iconst cx 0 (by decide) d_X4_begin_60 ?_
              refine g_iast cx 46 (wX X ad F (g_u (g_u (g_u R 44 za) 45 zb) 46 (upd zc (Int32.toNatClampNeg x2) 0))) d_X4_begin_61 rfl (by rw [hx]; exact vp_in_nI (g_lt10 (n := 30) hx (by omega) zc52) (by decide)) rfl ?_
              refine g_iinc cx (x2 + 1) [(2, .int (x2 + 1)), (0, .ref (ad 43)), (1, .ref (ad 5))] 2 d_X4_begin_62 rfl (rfl) (by decide) rfl ?_
              refine g_goto cx 46 d_X4_begin_65 (by decide) ?_
              refine g_lsub [1, 2, 0] [(0, .ref (ad 43)), (1, .ref (ad 5)), (2, .int (x2 + 1))] rfl ?_
              exact ih46 (i + 1) (x2 + 1) (upd zc (Int32.toNatClampNeg x2) 0) (by have := g_lt10 (n := 30) hx (by omega) zc52; omega) (by rw [hx]; exact nI_1 i) (by have := g_lt10 (n := 30) hx (by omega) zc52; omega) (g_z hz hx (by omega))
        refine g_weq (wX X ad F (g_u (g_u (g_u R 44 za) 45 zb) 46 (R 46))) rfl ?_
        refine g_lsub [1, 2, 0] [(0, .ref (ad 43)), (1, .ref (ad 5)), (2, .int 0)] rfl ?_
        exact L46 _ 0 0 (R 46) (Nat.lt_succ_self _) nI_0.symm (by omega) (fun j hj => absurd hj (Nat.not_lt_zero j))
      · refine g_aload_n cx 0 rfl d_X4_begin_13 ?_
        refine g_get cx cl_X4 fl_X4_9 43 (.ref (ad 44)) d_X4_begin_14 rfl rfl ?_
        refine g_iload_n cx 2 rfl d_X4_begin_17 ?_
        refine g_aload_n cx 1 rfl d_X4_begin_18 ?_
        refine g_iload_n cx 2 rfl d_X4_begin_19 ?_
        refine g_iconst cx 1 (by decide) d_X4_begin_20 ?_
        refine g_cVi cx [.int x2, .int 1] [.int x2, .ref (ad 44)] (c_X8_side l X (ad 5) (ad 6) (F 80) (F 81) (F 82) (F 83) (F 84) (R 6) x2 1) ml_X4_46 yV_X8_side d_X4_begin_21 (by unfold g_rr; decide) (by decide) 0 rfl rfl [5, 6] rfl (by decide) rfl (Nat.le_of_ble_eq_true rfl) (by rintro _ _ ⟨rfl, _⟩; rfl) (fun r1 w2 h3 => ?_)
        obtain ⟨rfl, rfl⟩ := h3
        refine g_weq (wX X ad F (g_u (g_u R 44 za) 45 zb)) (g_rep_same rfl) ?_
        refine g_iast cx 44 (wX X ad F (g_u (g_u R 44 (upd za (Int32.toNatClampNeg x2) (g_side (R 6) x2 1))) 45 zb)) d_X4_begin_24 rfl (by rw [hx]; exact vp_in_nI (g_lt10 (n := 10) hx (by omega) zc10) (by decide)) rfl ?_
        refine g_aload_n cx 0 rfl d_X4_begin_25 ?_
        refine g_get cx cl_X4 fl_X4_15 43 (.ref (ad 45)) d_X4_begin_26 rfl rfl ?_
        refine g_iload_n cx 2 rfl d_X4_begin_29 ?_
        refine g_aload_n cx 1 rfl d_X4_begin_30 ?_
        refine g_iload_n cx 2 rfl d_X4_begin_31 ?_
        refine g_bipush cx 6 (by decide) d_X4_begin_32 ?_
        refine g_cVi cx [.int x2, .int 6] [.int x2, .ref (ad 45)] (c_X8_side l X (ad 5) (ad 6) (F 80) (F 81) (F 82) (F 83) (F 84) (R 6) x2 6) ml_X4_46 yV_X8_side d_X4_begin_34 (by unfold g_rr; decide) (by decide) 0 rfl rfl [5, 6] rfl (by decide) rfl (Nat.le_of_ble_eq_true rfl) (by rintro _ _ ⟨rfl, _⟩; rfl) (fun r4 w5 h6 => ?_)
        obtain ⟨rfl, rfl⟩ := h6
        refine g_weq (wX X ad F (g_u (g_u R 44 (upd za (Int32.toNatClampNeg x2) (g_side (R 6) x2 1))) 45 zb)) (g_rep_same rfl) ?_
        refine g_iast cx 45 (wX X ad F (g_u (g_u R 44 (upd za (Int32.toNatClampNeg x2) (g_side (R 6) x2 1))) 45 (upd zb (Int32.toNatClampNeg x2) (g_side (R 6) x2 6)))) d_X4_begin_37 rfl (by rw [hx]; exact vp_in_nI (g_lt10 (n := 10) hx (by omega) zc10) (by decide)) rfl ?_
        refine g_iinc cx (x2 + 1) [(2, .int (x2 + 1)), (0, .ref (ad 43)), (1, .ref (ad 5))] 2 d_X4_begin_38 rfl (rfl) (by decide) rfl ?_
        refine g_goto cx 7 d_X4_begin_41 (by decide) ?_
        refine g_lsub [1, 2, 0] [(0, .ref (ad 43)), (1, .ref (ad 5)), (2, .int (x2 + 1))] rfl ?_
        exact ih7 (i + 1) (x2 + 1) (upd za (Int32.toNatClampNeg x2) (g_side (R 6) x2 1)) (upd zb (Int32.toNatClampNeg x2) (g_side (R 6) x2 6)) (by have := g_lt10 (n := 10) hx (by omega) zc10; omega) (by rw [hx]; exact nI_1 i) (by have := g_lt10 (n := 10) hx (by omega) zc10; omega)
  refine g_weq (wX X ad F (g_u (g_u R 44 (R 44)) 45 (R 45))) rfl ?_
  refine g_lsub [1, 2, 0] [(0, .ref (ad 43)), (1, .ref (ad 5)), (2, .int 0)] rfl ?_
  exact L7 _ 0 0 (R 44) (R 45) (Nat.lt_succ_self _) nI_0.symm (by omega)
theorem d_X0_begin_0 : g_dc cX0_begin 0 (.aload_n 0) 1 1 := ⟨by decide +kernel, rfl⟩
theorem d_X0_begin_1 : g_dc cX0_begin 1 (.getfield 35) 3 4 := ⟨by decide +kernel, rfl⟩
theorem d_X0_begin_4 : g_dc cX0_begin 4 (.aload_n 0) 1 5 := ⟨by decide +kernel, rfl⟩
theorem d_X0_begin_5 : g_dc cX0_begin 5 (.getfield 12) 3 8 := ⟨by decide +kernel, rfl⟩
theorem d_X0_begin_8 : g_dc cX0_begin 8 (.invokevirtual 90) 3 11 := ⟨by decide +kernel, rfl⟩
theorem d_X0_begin_11 : g_dc cX0_begin 11 (.aload_n 0) 1 12 := ⟨by decide +kernel, rfl⟩
theorem d_X0_begin_12 : g_dc cX0_begin 12 (.iconst 0) 1 13 := ⟨by decide +kernel, rfl⟩
theorem d_X0_begin_13 : g_dc cX0_begin 13 (.putfield 59) 3 16 := ⟨by decide +kernel, rfl⟩
theorem d_X0_begin_16 : g_dc cX0_begin 16 (.iconst 0) 1 17 := ⟨by decide +kernel, rfl⟩
theorem d_X0_begin_17 : g_dc cX0_begin 17 (.istore_n 1) 1 18 := ⟨by decide +kernel, rfl⟩
theorem d_X0_begin_18 : g_dc cX0_begin 18 (.iload_n 1) 1 19 := ⟨by decide +kernel, rfl⟩
theorem d_X0_begin_19 : g_dc cX0_begin 19 (.bipush 10) 2 21 := ⟨by decide +kernel, rfl⟩
theorem d_X0_begin_21 : g_dc cX0_begin 21 (.if_icmp .ge 16) 3 24 := ⟨by decide +kernel, rfl⟩
theorem d_X0_begin_24 : g_dc cX0_begin 24 (.aload_n 0) 1 25 := ⟨by decide +kernel, rfl⟩
theorem d_X0_begin_25 : g_dc cX0_begin 25 (.getfield 39) 3 28 := ⟨by decide +kernel, rfl⟩
theorem d_X0_begin_28 : g_dc cX0_begin 28 (.iload_n 1) 1 29 := ⟨by decide +kernel, rfl⟩
theorem d_X0_begin_29 : g_dc cX0_begin 29 (.iconst 0) 1 30 := ⟨by decide +kernel, rfl⟩
theorem d_X0_begin_30 : g_dc cX0_begin 30 (.iastore) 1 31 := ⟨by decide +kernel, rfl⟩
theorem d_X0_begin_31 : g_dc cX0_begin 31 (.iinc 1 1) 3 34 := ⟨by decide +kernel, rfl⟩
theorem d_X0_begin_34 : g_dc cX0_begin 34 (.goto (-16)) 3 37 := ⟨by decide +kernel, rfl⟩
theorem d_X0_begin_37 : g_dc cX0_begin 37 (.aload_n 0) 1 38 := ⟨by decide +kernel, rfl⟩
theorem d_X0_begin_38 : g_dc cX0_begin 38 (.iconst 0) 1 39 := ⟨by decide +kernel, rfl⟩
theorem d_X0_begin_39 : g_dc cX0_begin 39 (.putfield 52) 3 42 := ⟨by decide +kernel, rfl⟩
theorem d_X0_begin_42 : g_dc cX0_begin 42 (.iconst 0) 1 43 := ⟨by decide +kernel, rfl⟩
theorem d_X0_begin_43 : g_dc cX0_begin 43 (.istore_n 1) 1 44 := ⟨by decide +kernel, rfl⟩
theorem d_X0_begin_44 : g_dc cX0_begin 44 (.iload_n 1) 1 45 := ⟨by decide +kernel, rfl⟩
theorem d_X0_begin_45 : g_dc cX0_begin 45 (.bipush 6) 2 47 := ⟨by decide +kernel, rfl⟩
theorem d_X0_begin_47 : g_dc cX0_begin 47 (.if_icmp .ge 47) 3 50 := ⟨by decide +kernel, rfl⟩
theorem d_X0_begin_50 : g_dc cX0_begin 50 (.aload_n 0) 1 51 := ⟨by decide +kernel, rfl⟩
theorem d_X0_begin_51 : g_dc cX0_begin 51 (.getfield 12) 3 54 := ⟨by decide +kernel, rfl⟩
theorem d_X0_begin_54 : g_dc cX0_begin 54 (.iload_n 1) 1 55 := ⟨by decide +kernel, rfl⟩
theorem d_X0_begin_55 : g_dc cX0_begin 55 (.invokevirtual 93) 3 58 := ⟨by decide +kernel, rfl⟩
theorem d_X0_begin_58 : g_dc cX0_begin 58 (.ifCond .eq 30) 3 61 := ⟨by decide +kernel, rfl⟩
theorem d_X0_begin_88 : g_dc cX0_begin 88 (.iinc 1 1) 3 91 := ⟨by decide +kernel, rfl⟩
theorem d_X0_begin_91 : g_dc cX0_begin 91 (.goto (-47)) 3 94 := ⟨by decide +kernel, rfl⟩
theorem d_X0_begin_94 : g_dc cX0_begin 94 (.return_) 1 95 := ⟨by decide +kernel, rfl⟩
set_option maxHeartbeats 4000000 in
set_option maxRecDepth 100000 in
theorem c_X0_begin (l : Launch) (X : gX) (ad : Nat → Nat) (F : Nat → Int32) (R : Nat → Nat → Int32) (h82 : F 82 = 0) : g_Cv l X yX0_begin cX0_begin 2 4 0 0 [.ref (ad 37)] (wX X ad F R) (fun w => ∃ (F' : Nat → Int32) (R' : Nat → Nat → Int32), w = wX X ad F' R' ∧ P_eb F F' R R') := by
  refine g_mv (by decide +kernel) (Nat.le_of_ble_eq_true rfl) (fun E cx hret => ?_)
  refine g_aload_n cx 0 rfl d_X0_begin_0 ?_
  refine g_get cx cl_X0 fl_X0_35 37 (.ref (ad 43)) d_X0_begin_1 rfl rfl ?_
  refine g_aload_n cx 0 rfl d_X0_begin_4 ?_
  refine g_get cx cl_X0 fl_X0_12 37 (.ref (ad 5)) d_X0_begin_5 rfl rfl ?_
  refine g_cVvW cx [.ref (ad 5)] [] (c_X4_begin l X ad F R  ) ml_X0_90 yV_X4_begin d_X0_begin_8 (by unfold g_rr; decide) (by decide) 43 rfl rfl rfl (Nat.le_of_ble_eq_true rfl) (fun w2 h3 => ?_)
  obtain ⟨zF4, zR5, rfl, zp6⟩ := h3
  refine g_aload_n cx 0 rfl d_X0_begin_11 ?_
  refine g_iconst cx 0 (by decide) d_X0_begin_12 ?_
  refine g_put cx cl_X0 fl_X0_59 37 (wX X ad (upd zF4 603 0) zR5) d_X0_begin_13 rfl rfl rfl rfl (Nat.le_of_ble_eq_true rfl) rfl ?_
  refine g_iconst cx 0 (by decide) d_X0_begin_16 ?_
  refine g_istore_n cx [(1, .int 0), (0, .ref (ad 37))] d_X0_begin_17 (by decide) rfl ?_
  refine g_iload_n cx 0 rfl d_X0_begin_18 ?_
  refine g_bipush cx 10 (by decide) d_X0_begin_19 ?_
  refine g_icmp_ge_f cx 37 d_X0_begin_21 (by decide) (by decide) ?_
  refine g_aload_n cx 1 rfl d_X0_begin_24 ?_
  refine g_get cx cl_X0 fl_X0_39 37 (.ref (ad 38)) d_X0_begin_25 rfl rfl ?_
  refine g_iload_n cx 0 rfl d_X0_begin_28 ?_
  refine g_iconst cx 0 (by decide) d_X0_begin_29 ?_
  refine g_iast cx 38 (wX X ad (upd zF4 603 0) (g_u zR5 38 (upd (zR5 38) 0 0))) d_X0_begin_30 rfl (by unfold vp_in; decide) rfl ?_
  refine g_iinc cx 1 [(1, .int 1), (0, .ref (ad 37))] 0 d_X0_begin_31 rfl (by decide) (by decide) rfl ?_
  refine g_goto cx 18 d_X0_begin_34 (by decide) ?_
  refine g_iload_n cx 0 rfl d_X0_begin_18 ?_
  refine g_bipush cx 10 (by decide) d_X0_begin_19 ?_
  refine g_icmp_ge_f cx 37 d_X0_begin_21 (by decide) (by decide) ?_
  refine g_aload_n cx 1 rfl d_X0_begin_24 ?_
  refine g_get cx cl_X0 fl_X0_39 37 (.ref (ad 38)) d_X0_begin_25 rfl rfl ?_
  refine g_iload_n cx 0 rfl d_X0_begin_28 ?_
  refine g_iconst cx 0 (by decide) d_X0_begin_29 ?_
  refine g_iast cx 38 (wX X ad (upd zF4 603 0) (g_u zR5 38 (upd (upd (zR5 38) 0 0) 1 0))) d_X0_begin_30 rfl (by unfold vp_in; decide) rfl ?_
  refine g_iinc cx 2 [(1, .int 2), (0, .ref (ad 37))] 0 d_X0_begin_31 rfl (by decide) (by decide) rfl ?_
  refine g_goto cx 18 d_X0_begin_34 (by decide) ?_
  refine g_iload_n cx 0 rfl d_X0_begin_18 ?_
  refine g_bipush cx 10 (by decide) d_X0_begin_19 ?_
  refine g_icmp_ge_f cx 37 d_X0_begin_21 (by decide) (by decide) ?_
  refine g_aload_n cx 1 rfl d_X0_begin_24 ?_
  refine g_get cx cl_X0 fl_X0_39 37 (.ref (ad 38)) d_X0_begin_25 rfl rfl ?_
  refine g_iload_n cx 0 rfl d_X0_begin_28 ?_
  refine g_iconst cx 0 (by decide) d_X0_begin_29 ?_
  refine g_iast cx 38 (wX X ad (upd zF4 603 0) (g_u zR5 38 (upd (upd (upd (zR5 38) 0 0) 1 0) 2 0))) d_X0_begin_30 rfl (by unfold vp_in; decide) rfl ?_
  refine g_iinc cx 3 [(1, .int 3), (0, .ref (ad 37))] 0 d_X0_begin_31 rfl (by decide) (by decide) rfl ?_
  refine g_goto cx 18 d_X0_begin_34 (by decide) ?_
  refine g_iload_n cx 0 rfl d_X0_begin_18 ?_
  refine g_bipush cx 10 (by decide) d_X0_begin_19 ?_
  refine g_icmp_ge_f cx 37 d_X0_begin_21 (by decide) (by decide) ?_
  refine g_aload_n cx 1 rfl d_X0_begin_24 ?_
  refine g_get cx cl_X0 fl_X0_39 37 (.ref (ad 38)) d_X0_begin_25 rfl rfl ?_
  refine g_iload_n cx 0 rfl d_X0_begin_28 ?_
  refine g_iconst cx 0 (by decide) d_X0_begin_29 ?_
  refine g_iast cx 38 (wX X ad (upd zF4 603 0) (g_u zR5 38 (upd (upd (upd (upd (zR5 38) 0 0) 1 0) 2 0) 3 0))) d_X0_begin_30 rfl (by unfold vp_in; decide) rfl ?_
  refine g_iinc cx 4 [(1, .int 4), (0, .ref (ad 37))] 0 d_X0_begin_31 rfl (by decide) (by decide) rfl ?_
  refine g_goto cx 18 d_X0_begin_34 (by decide) ?_
  refine g_iload_n cx 0 rfl d_X0_begin_18 ?_
  refine g_bipush cx 10 (by decide) d_X0_begin_19 ?_
  refine g_icmp_ge_f cx 37 d_X0_begin_21 (by decide) (by decide) ?_
  refine g_aload_n cx 1 rfl d_X0_begin_24 ?_
  refine g_get cx cl_X0 fl_X0_39 37 (.ref (ad 38)) d_X0_begin_25 rfl rfl ?_
  refine g_iload_n cx 0 rfl d_X0_begin_28 ?_
  refine g_iconst cx 0 (by decide) d_X0_begin_29 ?_
  refine g_iast cx 38 (wX X ad (upd zF4 603 0) (g_u zR5 38 (upd (upd (upd (upd (upd (zR5 38) 0 0) 1 0) 2 0) 3 0) 4 0))) d_X0_begin_30 rfl (by unfold vp_in; decide) rfl ?_
  refine g_iinc cx 5 [(1, .int 5), (0, .ref (ad 37))] 0 d_X0_begin_31 rfl (by decide) (by decide) rfl ?_
  refine g_goto cx 18 d_X0_begin_34 (by decide) ?_
  refine g_iload_n cx 0 rfl d_X0_begin_18 ?_
  refine g_bipush cx 10 (by decide) d_X0_begin_19 ?_
  refine g_icmp_ge_f cx 37 d_X0_begin_21 (by decide) (by decide) ?_
  refine g_aload_n cx 1 rfl d_X0_begin_24 ?_
  refine g_get cx cl_X0 fl_X0_39 37 (.ref (ad 38)) d_X0_begin_25 rfl rfl ?_
  refine g_iload_n cx 0 rfl d_X0_begin_28 ?_
  refine g_iconst cx 0 (by decide) d_X0_begin_29 ?_
  refine g_iast cx 38 (wX X ad (upd zF4 603 0) (g_u zR5 38 (upd (upd (upd (upd (upd (upd (zR5 38) 0 0) 1 0) 2 0) 3 0) 4 0) 5 0))) d_X0_begin_30 rfl (by unfold vp_in; decide) rfl ?_
  refine g_iinc cx 6 [(1, .int 6), (0, .ref (ad 37))] 0 d_X0_begin_31 rfl (by decide) (by decide) rfl ?_
  refine g_goto cx 18 d_X0_begin_34 (by decide) ?_
  refine g_iload_n cx 0 rfl d_X0_begin_18 ?_
  refine g_bipush cx 10 (by decide) d_X0_begin_19 ?_
  refine g_icmp_ge_f cx 37 d_X0_begin_21 (by decide) (by decide) ?_
  refine g_aload_n cx 1 rfl d_X0_begin_24 ?_
  refine g_get cx cl_X0 fl_X0_39 37 (.ref (ad 38)) d_X0_begin_25 rfl rfl ?_
  refine g_iload_n cx 0 rfl d_X0_begin_28 ?_
  refine g_iconst cx 0 (by decide) d_X0_begin_29 ?_
  refine g_iast cx 38 (wX X ad (upd zF4 603 0) (g_u zR5 38 (upd (upd (upd (upd (upd (upd (upd (zR5 38) 0 0) 1 0) 2 0) 3 0) 4 0) 5 0) 6 0))) d_X0_begin_30 rfl (by unfold vp_in; decide) rfl ?_
  refine g_iinc cx 7 [(1, .int 7), (0, .ref (ad 37))] 0 d_X0_begin_31 rfl (by decide) (by decide) rfl ?_
  refine g_goto cx 18 d_X0_begin_34 (by decide) ?_
  refine g_iload_n cx 0 rfl d_X0_begin_18 ?_
  refine g_bipush cx 10 (by decide) d_X0_begin_19 ?_
  refine g_icmp_ge_f cx 37 d_X0_begin_21 (by decide) (by decide) ?_
  refine g_aload_n cx 1 rfl d_X0_begin_24 ?_
  refine g_get cx cl_X0 fl_X0_39 37 (.ref (ad 38)) d_X0_begin_25 rfl rfl ?_
  refine g_iload_n cx 0 rfl d_X0_begin_28 ?_
  refine g_iconst cx 0 (by decide) d_X0_begin_29 ?_
  refine g_iast cx 38 (wX X ad (upd zF4 603 0) (g_u zR5 38 (upd (upd (upd (upd (upd (upd (upd (upd (zR5 38) 0 0) 1 0) 2 0) 3 0) 4 0) 5 0) 6 0) 7 0))) d_X0_begin_30 rfl (by unfold vp_in; decide) rfl ?_
  refine g_iinc cx 8 [(1, .int 8), (0, .ref (ad 37))] 0 d_X0_begin_31 rfl (by decide) (by decide) rfl ?_
  refine g_goto cx 18 d_X0_begin_34 (by decide) ?_
  refine g_iload_n cx 0 rfl d_X0_begin_18 ?_
  refine g_bipush cx 10 (by decide) d_X0_begin_19 ?_
  refine g_icmp_ge_f cx 37 d_X0_begin_21 (by decide) (by decide) ?_
  refine g_aload_n cx 1 rfl d_X0_begin_24 ?_
  refine g_get cx cl_X0 fl_X0_39 37 (.ref (ad 38)) d_X0_begin_25 rfl rfl ?_
  refine g_iload_n cx 0 rfl d_X0_begin_28 ?_
  refine g_iconst cx 0 (by decide) d_X0_begin_29 ?_
  refine g_iast cx 38 (wX X ad (upd zF4 603 0) (g_u zR5 38 (upd (upd (upd (upd (upd (upd (upd (upd (upd (zR5 38) 0 0) 1 0) 2 0) 3 0) 4 0) 5 0) 6 0) 7 0) 8 0))) d_X0_begin_30 rfl (by unfold vp_in; decide) rfl ?_
  refine g_iinc cx 9 [(1, .int 9), (0, .ref (ad 37))] 0 d_X0_begin_31 rfl (by decide) (by decide) rfl ?_
  refine g_goto cx 18 d_X0_begin_34 (by decide) ?_
  refine g_iload_n cx 0 rfl d_X0_begin_18 ?_
  refine g_bipush cx 10 (by decide) d_X0_begin_19 ?_
  refine g_icmp_ge_f cx 37 d_X0_begin_21 (by decide) (by decide) ?_
  refine g_aload_n cx 1 rfl d_X0_begin_24 ?_
  refine g_get cx cl_X0 fl_X0_39 37 (.ref (ad 38)) d_X0_begin_25 rfl rfl ?_
  refine g_iload_n cx 0 rfl d_X0_begin_28 ?_
  refine g_iconst cx 0 (by decide) d_X0_begin_29 ?_
  refine g_iast cx 38 (wX X ad (upd zF4 603 0) (g_u zR5 38 (upd (upd (upd (upd (upd (upd (upd (upd (upd (upd (zR5 38) 0 0) 1 0) 2 0) 3 0) 4 0) 5 0) 6 0) 7 0) 8 0) 9 0))) d_X0_begin_30 rfl (by unfold vp_in; decide) rfl ?_
  refine g_iinc cx 10 [(1, .int 10), (0, .ref (ad 37))] 0 d_X0_begin_31 rfl (by decide) (by decide) rfl ?_
  refine g_goto cx 18 d_X0_begin_34 (by decide) ?_
  refine g_iload_n cx 0 rfl d_X0_begin_18 ?_
  refine g_bipush cx 10 (by decide) d_X0_begin_19 ?_
  refine g_icmp_ge_t cx 37 d_X0_begin_21 (by decide) (by decide) ?_
  refine g_aload_n cx 1 rfl d_X0_begin_37 ?_
  refine g_iconst cx 0 (by decide) d_X0_begin_38 ?_
  refine g_put cx cl_X0 fl_X0_52 37 (wX X ad (upd (upd zF4 601 0) 603 0) (g_u zR5 38 (upd (upd (upd (upd (upd (upd (upd (upd (upd (upd (zR5 38) 0 0) 1 0) 2 0) 3 0) 4 0) 5 0) 6 0) 7 0) 8 0) 9 0))) d_X0_begin_39 rfl rfl rfl rfl (Nat.le_of_ble_eq_true rfl) rfl ?_
  refine g_iconst cx 0 (by decide) d_X0_begin_42 ?_
  refine g_istore_n cx [(1, .int 0), (0, .ref (ad 37))] d_X0_begin_43 (by decide) rfl ?_
  refine g_iload_n cx 0 rfl d_X0_begin_44 ?_
  refine g_bipush cx 6 (by decide) d_X0_begin_45 ?_
  refine g_icmp_ge_f cx 94 d_X0_begin_47 (by decide) (by decide) ?_
  refine g_aload_n cx 1 rfl d_X0_begin_50 ?_
  refine g_get cx cl_X0 fl_X0_12 37 (.ref (ad 5)) d_X0_begin_51 rfl rfl ?_
  refine g_iload_n cx 0 rfl d_X0_begin_54 ?_
  refine g_cVi cx [.int 0] [] (c_X8_hasFold l X (ad 5) (ad 6) (zF4 80) (zF4 81) (zF4 82) (zF4 83) (zF4 84) (zR5 6) 0) ml_X0_93 yV_X8_hasFold d_X0_begin_55 (by unfold g_rr; decide) (by decide) 0 rfl rfl [5, 6] rfl (by decide) rfl (Nat.le_of_ble_eq_true rfl) (by rintro _ _ ⟨rfl, _⟩; rfl) (fun r7 w8 h9 => ?_)
  obtain ⟨rfl, rfl⟩ := h9
  refine g_weq (wX X ad (upd (upd zF4 601 0) 603 0) (g_u zR5 38 (upd (upd (upd (upd (upd (upd (upd (upd (upd (upd (zR5 38) 0 0) 1 0) 2 0) 3 0) 4 0) 5 0) 6 0) 7 0) 8 0) 9 0))) (g_rep_same rfl) ?_
  refine g_toi 0 (g_hf0 ((zp6.1 82 (by decide)).trans (h82))) ?_
  refine g_if_eq_t cx 88 d_X0_begin_58 (by decide) (by decide) ?_
  refine g_iinc cx 1 [(1, .int 1), (0, .ref (ad 37))] 0 d_X0_begin_88 rfl (by decide) (by decide) rfl ?_
  refine g_goto cx 44 d_X0_begin_91 (by decide) ?_
  refine g_iload_n cx 0 rfl d_X0_begin_44 ?_
  refine g_bipush cx 6 (by decide) d_X0_begin_45 ?_
  refine g_icmp_ge_f cx 94 d_X0_begin_47 (by decide) (by decide) ?_
  refine g_aload_n cx 1 rfl d_X0_begin_50 ?_
  refine g_get cx cl_X0 fl_X0_12 37 (.ref (ad 5)) d_X0_begin_51 rfl rfl ?_
  refine g_iload_n cx 0 rfl d_X0_begin_54 ?_
  refine g_cVi cx [.int 1] [] (c_X8_hasFold l X (ad 5) (ad 6) (zF4 80) (zF4 81) (zF4 82) (zF4 83) (zF4 84) (zR5 6) 1) ml_X0_93 yV_X8_hasFold d_X0_begin_55 (by unfold g_rr; decide) (by decide) 0 rfl rfl [5, 6] rfl (by decide) rfl (Nat.le_of_ble_eq_true rfl) (by rintro _ _ ⟨rfl, _⟩; rfl) (fun r10 w11 h12 => ?_)
  obtain ⟨rfl, rfl⟩ := h12
  refine g_weq (wX X ad (upd (upd zF4 601 0) 603 0) (g_u zR5 38 (upd (upd (upd (upd (upd (upd (upd (upd (upd (upd (zR5 38) 0 0) 1 0) 2 0) 3 0) 4 0) 5 0) 6 0) 7 0) 8 0) 9 0))) (g_rep_same rfl) ?_
  refine g_toi 0 (g_hf0 ((zp6.1 82 (by decide)).trans (h82))) ?_
  refine g_if_eq_t cx 88 d_X0_begin_58 (by decide) (by decide) ?_
  refine g_iinc cx 2 [(1, .int 2), (0, .ref (ad 37))] 0 d_X0_begin_88 rfl (by decide) (by decide) rfl ?_
  refine g_goto cx 44 d_X0_begin_91 (by decide) ?_
  refine g_iload_n cx 0 rfl d_X0_begin_44 ?_
  refine g_bipush cx 6 (by decide) d_X0_begin_45 ?_
  refine g_icmp_ge_f cx 94 d_X0_begin_47 (by decide) (by decide) ?_
  refine g_aload_n cx 1 rfl d_X0_begin_50 ?_
  refine g_get cx cl_X0 fl_X0_12 37 (.ref (ad 5)) d_X0_begin_51 rfl rfl ?_
  refine g_iload_n cx 0 rfl d_X0_begin_54 ?_
  refine g_cVi cx [.int 2] [] (c_X8_hasFold l X (ad 5) (ad 6) (zF4 80) (zF4 81) (zF4 82) (zF4 83) (zF4 84) (zR5 6) 2) ml_X0_93 yV_X8_hasFold d_X0_begin_55 (by unfold g_rr; decide) (by decide) 0 rfl rfl [5, 6] rfl (by decide) rfl (Nat.le_of_ble_eq_true rfl) (by rintro _ _ ⟨rfl, _⟩; rfl) (fun r13 w14 h15 => ?_)
  obtain ⟨rfl, rfl⟩ := h15
  refine g_weq (wX X ad (upd (upd zF4 601 0) 603 0) (g_u zR5 38 (upd (upd (upd (upd (upd (upd (upd (upd (upd (upd (zR5 38) 0 0) 1 0) 2 0) 3 0) 4 0) 5 0) 6 0) 7 0) 8 0) 9 0))) (g_rep_same rfl) ?_
  refine g_toi 0 (g_hf0 ((zp6.1 82 (by decide)).trans (h82))) ?_
  refine g_if_eq_t cx 88 d_X0_begin_58 (by decide) (by decide) ?_
  refine g_iinc cx 3 [(1, .int 3), (0, .ref (ad 37))] 0 d_X0_begin_88 rfl (by decide) (by decide) rfl ?_
  refine g_goto cx 44 d_X0_begin_91 (by decide) ?_
  refine g_iload_n cx 0 rfl d_X0_begin_44 ?_
  refine g_bipush cx 6 (by decide) d_X0_begin_45 ?_
  refine g_icmp_ge_f cx 94 d_X0_begin_47 (by decide) (by decide) ?_
  refine g_aload_n cx 1 rfl d_X0_begin_50 ?_
  refine g_get cx cl_X0 fl_X0_12 37 (.ref (ad 5)) d_X0_begin_51 rfl rfl ?_
  refine g_iload_n cx 0 rfl d_X0_begin_54 ?_
  refine g_cVi cx [.int 3] [] (c_X8_hasFold l X (ad 5) (ad 6) (zF4 80) (zF4 81) (zF4 82) (zF4 83) (zF4 84) (zR5 6) 3) ml_X0_93 yV_X8_hasFold d_X0_begin_55 (by unfold g_rr; decide) (by decide) 0 rfl rfl [5, 6] rfl (by decide) rfl (Nat.le_of_ble_eq_true rfl) (by rintro _ _ ⟨rfl, _⟩; rfl) (fun r16 w17 h18 => ?_)
  obtain ⟨rfl, rfl⟩ := h18
  refine g_weq (wX X ad (upd (upd zF4 601 0) 603 0) (g_u zR5 38 (upd (upd (upd (upd (upd (upd (upd (upd (upd (upd (zR5 38) 0 0) 1 0) 2 0) 3 0) 4 0) 5 0) 6 0) 7 0) 8 0) 9 0))) (g_rep_same rfl) ?_
  refine g_toi 0 (g_hf0 ((zp6.1 82 (by decide)).trans (h82))) ?_
  refine g_if_eq_t cx 88 d_X0_begin_58 (by decide) (by decide) ?_
  refine g_iinc cx 4 [(1, .int 4), (0, .ref (ad 37))] 0 d_X0_begin_88 rfl (by decide) (by decide) rfl ?_
  refine g_goto cx 44 d_X0_begin_91 (by decide) ?_
  refine g_iload_n cx 0 rfl d_X0_begin_44 ?_
  refine g_bipush cx 6 (by decide) d_X0_begin_45 ?_
  refine g_icmp_ge_f cx 94 d_X0_begin_47 (by decide) (by decide) ?_
  refine g_aload_n cx 1 rfl d_X0_begin_50 ?_
  refine g_get cx cl_X0 fl_X0_12 37 (.ref (ad 5)) d_X0_begin_51 rfl rfl ?_
  refine g_iload_n cx 0 rfl d_X0_begin_54 ?_
  refine g_cVi cx [.int 4] [] (c_X8_hasFold l X (ad 5) (ad 6) (zF4 80) (zF4 81) (zF4 82) (zF4 83) (zF4 84) (zR5 6) 4) ml_X0_93 yV_X8_hasFold d_X0_begin_55 (by unfold g_rr; decide) (by decide) 0 rfl rfl [5, 6] rfl (by decide) rfl (Nat.le_of_ble_eq_true rfl) (by rintro _ _ ⟨rfl, _⟩; rfl) (fun r19 w20 h21 => ?_)
  obtain ⟨rfl, rfl⟩ := h21
  refine g_weq (wX X ad (upd (upd zF4 601 0) 603 0) (g_u zR5 38 (upd (upd (upd (upd (upd (upd (upd (upd (upd (upd (zR5 38) 0 0) 1 0) 2 0) 3 0) 4 0) 5 0) 6 0) 7 0) 8 0) 9 0))) (g_rep_same rfl) ?_
  refine g_toi 0 (g_hf0 ((zp6.1 82 (by decide)).trans (h82))) ?_
  refine g_if_eq_t cx 88 d_X0_begin_58 (by decide) (by decide) ?_
  refine g_iinc cx 5 [(1, .int 5), (0, .ref (ad 37))] 0 d_X0_begin_88 rfl (by decide) (by decide) rfl ?_
  refine g_goto cx 44 d_X0_begin_91 (by decide) ?_
  refine g_iload_n cx 0 rfl d_X0_begin_44 ?_
  refine g_bipush cx 6 (by decide) d_X0_begin_45 ?_
  refine g_icmp_ge_f cx 94 d_X0_begin_47 (by decide) (by decide) ?_
  refine g_aload_n cx 1 rfl d_X0_begin_50 ?_
  refine g_get cx cl_X0 fl_X0_12 37 (.ref (ad 5)) d_X0_begin_51 rfl rfl ?_
  refine g_iload_n cx 0 rfl d_X0_begin_54 ?_
  refine g_cVi cx [.int 5] [] (c_X8_hasFold l X (ad 5) (ad 6) (zF4 80) (zF4 81) (zF4 82) (zF4 83) (zF4 84) (zR5 6) 5) ml_X0_93 yV_X8_hasFold d_X0_begin_55 (by unfold g_rr; decide) (by decide) 0 rfl rfl [5, 6] rfl (by decide) rfl (Nat.le_of_ble_eq_true rfl) (by rintro _ _ ⟨rfl, _⟩; rfl) (fun r22 w23 h24 => ?_)
  obtain ⟨rfl, rfl⟩ := h24
  refine g_weq (wX X ad (upd (upd zF4 601 0) 603 0) (g_u zR5 38 (upd (upd (upd (upd (upd (upd (upd (upd (upd (upd (zR5 38) 0 0) 1 0) 2 0) 3 0) 4 0) 5 0) 6 0) 7 0) 8 0) 9 0))) (g_rep_same rfl) ?_
  refine g_toi 0 (g_hf0 ((zp6.1 82 (by decide)).trans (h82))) ?_
  refine g_if_eq_t cx 88 d_X0_begin_58 (by decide) (by decide) ?_
  refine g_iinc cx 6 [(1, .int 6), (0, .ref (ad 37))] 0 d_X0_begin_88 rfl (by decide) (by decide) rfl ?_
  refine g_goto cx 44 d_X0_begin_91 (by decide) ?_
  refine g_iload_n cx 0 rfl d_X0_begin_44 ?_
  refine g_bipush cx 6 (by decide) d_X0_begin_45 ?_
  refine g_icmp_ge_t cx 94 d_X0_begin_47 (by decide) (by decide) ?_
  exact hret d_X0_begin_94 (Nat.le_of_ble_eq_true rfl) (Nat.le_of_ble_eq_true rfl) ⟨(upd (upd zF4 601 0) 603 0), (g_u zR5 38 (upd (upd (upd (upd (upd (upd (upd (upd (upd (upd (zR5 38) 0 0) 1 0) 2 0) 3 0) 4 0) 5 0) 6 0) 7 0) 8 0) 9 0)), rfl, ⟨(by intro k hk; simp only [upd]; repeat (first | rw [if_neg (by omega)] | exact zp6.1 k (by omega))), zp6.2.1, zp6.2.2.1, zp6.2.2.2.1, zp6.2.2.2.2.1, zp6.2.2.2.2.2.1, zp6.2.2.2.2.2.2.1, zp6.2.2.2.2.2.2.2.1, zp6.2.2.2.2.2.2.2.2.1, zp6.2.2.2.2.2.2.2.2.2.1, (by intro c hc; simp only [g_u]; repeat (first | rw [if_neg (by omega)] | exact zp6.2.2.2.2.2.2.2.2.2.2 c (by omega)))⟩⟩
theorem d_X0_moves_0 : g_dc cX0_moves 0 (.aload_n 0) 1 1 := ⟨by decide +kernel, rfl⟩
theorem d_X0_moves_1 : g_dc cX0_moves 1 (.getfield 35) 3 4 := ⟨by decide +kernel, rfl⟩
theorem d_X0_moves_4 : g_dc cX0_moves 4 (.invokevirtual 101) 3 7 := ⟨by decide +kernel, rfl⟩
theorem d_X0_moves_7 : g_dc cX0_moves 7 (.istore_n 1) 1 8 := ⟨by decide +kernel, rfl⟩
theorem d_X0_moves_8 : g_dc cX0_moves 8 (.iconst 0) 1 9 := ⟨by decide +kernel, rfl⟩
theorem d_X0_moves_9 : g_dc cX0_moves 9 (.istore_n 2) 1 10 := ⟨by decide +kernel, rfl⟩
theorem d_X0_moves_10 : g_dc cX0_moves 10 (.iload_n 2) 1 11 := ⟨by decide +kernel, rfl⟩
theorem d_X0_moves_11 : g_dc cX0_moves 11 (.bipush 10) 2 13 := ⟨by decide +kernel, rfl⟩
theorem d_X0_moves_13 : g_dc cX0_moves 13 (.if_icmp .ge 28) 3 16 := ⟨by decide +kernel, rfl⟩
theorem d_X0_moves_16 : g_dc cX0_moves 16 (.aload_n 0) 1 17 := ⟨by decide +kernel, rfl⟩
theorem d_X0_moves_17 : g_dc cX0_moves 17 (.getfield 39) 3 20 := ⟨by decide +kernel, rfl⟩
theorem d_X0_moves_20 : g_dc cX0_moves 20 (.iload_n 2) 1 21 := ⟨by decide +kernel, rfl⟩
theorem d_X0_moves_21 : g_dc cX0_moves 21 (.iaload) 1 22 := ⟨by decide +kernel, rfl⟩
theorem d_X0_moves_22 : g_dc cX0_moves 22 (.ifCond .le 13) 3 25 := ⟨by decide +kernel, rfl⟩
theorem d_X0_moves_25 : g_dc cX0_moves 25 (.iload_n 1) 1 26 := ⟨by decide +kernel, rfl⟩
theorem d_X0_moves_26 : g_dc cX0_moves 26 (.iconst 1) 1 27 := ⟨by decide +kernel, rfl⟩
theorem d_X0_moves_27 : g_dc cX0_moves 27 (.iload_n 2) 1 28 := ⟨by decide +kernel, rfl⟩
theorem d_X0_moves_28 : g_dc cX0_moves 28 (.ishl) 1 29 := ⟨by decide +kernel, rfl⟩
theorem d_X0_moves_29 : g_dc cX0_moves 29 (.iand) 1 30 := ⟨by decide +kernel, rfl⟩
theorem d_X0_moves_30 : g_dc cX0_moves 30 (.ifCond .eq 5) 3 33 := ⟨by decide +kernel, rfl⟩
theorem d_X0_moves_35 : g_dc cX0_moves 35 (.iinc 2 1) 3 38 := ⟨by decide +kernel, rfl⟩
theorem d_X0_moves_38 : g_dc cX0_moves 38 (.goto (-28)) 3 41 := ⟨by decide +kernel, rfl⟩
theorem d_X0_moves_41 : g_dc cX0_moves 41 (.iconst 0) 1 42 := ⟨by decide +kernel, rfl⟩
theorem d_X0_moves_42 : g_dc cX0_moves 42 (.ireturn) 1 43 := ⟨by decide +kernel, rfl⟩
set_option maxHeartbeats 4000000 in
set_option maxRecDepth 100000 in
theorem c_X0_moves (l : Launch) (X : gX) (ad : Nat → Nat) (F : Nat → Int32) (R : Nat → Nat → Int32) (h691 : F 691 = 0) : g_Ci l X yX0_moves cX0_moves 3 (some .boolean) 2 0 0 [.ref (ad 37)] (wX X ad F R) (fun r w => w = wX X ad F R ∧ r = 0) := by
  refine g_mi (by decide +kernel) (Nat.le_of_ble_eq_true rfl) (fun E cx hret => ?_)
  refine g_aload_n cx 0 rfl d_X0_moves_0 ?_
  refine g_get cx cl_X0 fl_X0_35 37 (.ref (ad 43)) d_X0_moves_1 rfl rfl ?_
  refine g_cViW cx [] [] (c_X4_standingSet l X ad F R  ) ml_X0_101 yV_X4_standingSet d_X0_moves_4 (by unfold g_rr; decide) (by decide) 43 rfl rfl rfl (Nat.le_of_ble_eq_true rfl) (fun r1 w2 h3 => ?_)
  obtain ⟨rfl, rfl⟩ := h3
  refine g_toi 0 (g_ss0 (h691)) ?_
  refine g_istore_n cx [(1, .int 0), (0, .ref (ad 37))] d_X0_moves_7 (by decide) rfl ?_
  refine g_iconst cx 0 (by decide) d_X0_moves_8 ?_
  refine g_istore_n cx [(2, .int 0), (1, .int 0), (0, .ref (ad 37))] d_X0_moves_9 (by decide) rfl ?_
  have L10 : ∀ (N : Nat) (i : Nat) (x2 : Int32), 10 - i < N → (x2 = nI i) → (i ≤ 10) → G X E 3 0 0 (wX X ad F R) [(0, .ref (ad 37)), (1, .int 0), (2, .int x2)] 10 [] := by
    intro N
    induction N with
    | zero => intro i x2 hm; exact absurd hm (Nat.not_lt_zero _)
    | succ N ih10 =>
      intro i x2 hm hx hi
      refine g_iload_n cx 2 rfl d_X0_moves_10 ?_
      refine g_bipush cx 10 (by decide) d_X0_moves_11 ?_
      refine g_icmp_ge cx 41 d_X0_moves_13 (by decide) (fun zc13 => ?_) (fun zc13 => ?_)
      · refine g_iconst cx 0 (by decide) d_X0_moves_41 ?_
        exact hret d_X0_moves_42 (Nat.le_of_ble_eq_true rfl) (Nat.le_of_ble_eq_true rfl) rfl (⟨rfl, rfl⟩)
      · refine g_aload_n cx 0 rfl d_X0_moves_16 ?_
        refine g_get cx cl_X0 fl_X0_39 37 (.ref (ad 38)) d_X0_moves_17 rfl rfl ?_
        refine g_iload_n cx 2 rfl d_X0_moves_20 ?_
        refine g_iald cx 38 d_X0_moves_21 rfl (by rw [hx]; exact vp_in_nI (g_lt10 (n := 10) hx (by omega) zc13) (by decide)) ?_
        refine g_if_le cx 35 d_X0_moves_22 (by decide) (fun zc22 => ?_) (fun zc22 => ?_)
        · refine g_iinc cx (x2 + 1) [(2, .int (x2 + 1)), (0, .ref (ad 37)), (1, .int 0)] 2 d_X0_moves_35 rfl (rfl) (by decide) rfl ?_
          refine g_goto cx 10 d_X0_moves_38 (by decide) ?_
          refine g_lsub [1, 2, 0] [(0, .ref (ad 37)), (1, .int 0), (2, .int (x2 + 1))] rfl ?_
          exact ih10 (i + 1) (x2 + 1) (by have := g_lt10 (n := 10) hx (by omega) zc13; omega) (by rw [hx]; exact nI_1 i) (by have := g_lt10 (n := 10) hx (by omega) zc13; omega)
        · refine g_iload_n cx 1 rfl d_X0_moves_25 ?_
          refine g_iconst cx 1 (by decide) d_X0_moves_26 ?_
          refine g_iload_n cx 2 rfl d_X0_moves_27 ?_
          refine g_ishl cx d_X0_moves_28 ?_
          refine g_iand cx d_X0_moves_29 ?_
          refine g_toi 0 (by simp) ?_
          refine g_if_eq_t cx 35 d_X0_moves_30 (by decide) (by decide) ?_
          refine g_iinc cx (x2 + 1) [(2, .int (x2 + 1)), (0, .ref (ad 37)), (1, .int 0)] 2 d_X0_moves_35 rfl (rfl) (by decide) rfl ?_
          refine g_goto cx 10 d_X0_moves_38 (by decide) ?_
          refine g_lsub [1, 2, 0] [(0, .ref (ad 37)), (1, .int 0), (2, .int (x2 + 1))] rfl ?_
          exact ih10 (i + 1) (x2 + 1) (by have := g_lt10 (n := 10) hx (by omega) zc13; omega) (by rw [hx]; exact nI_1 i) (by have := g_lt10 (n := 10) hx (by omega) zc13; omega)
  refine g_lsub [2, 1, 0] [(0, .ref (ad 37)), (1, .int 0), (2, .int 0)] rfl ?_
  exact L10 _ 0 0 (Nat.lt_succ_self _) nI_0.symm (by omega)
theorem d_X0_pullCloth_0 : g_dc cX0_pullCloth 0 (.aload_n 0) 1 1 := ⟨by decide +kernel, rfl⟩
theorem d_X0_pullCloth_1 : g_dc cX0_pullCloth 1 (.getfield 21) 3 4 := ⟨by decide +kernel, rfl⟩
theorem d_X0_pullCloth_4 : g_dc cX0_pullCloth 4 (.iload_n 1) 1 5 := ⟨by decide +kernel, rfl⟩
theorem d_X0_pullCloth_5 : g_dc cX0_pullCloth 5 (.invokevirtual 135) 3 8 := ⟨by decide +kernel, rfl⟩
theorem d_X0_pullCloth_8 : g_dc cX0_pullCloth 8 (.istore_n 2) 1 9 := ⟨by decide +kernel, rfl⟩
theorem d_X0_pullCloth_9 : g_dc cX0_pullCloth 9 (.iload_n 1) 1 10 := ⟨by decide +kernel, rfl⟩
theorem d_X0_pullCloth_10 : g_dc cX0_pullCloth 10 (.aload_n 0) 1 11 := ⟨by decide +kernel, rfl⟩
theorem d_X0_pullCloth_11 : g_dc cX0_pullCloth 11 (.getfield 21) 3 14 := ⟨by decide +kernel, rfl⟩
theorem d_X0_pullCloth_14 : g_dc cX0_pullCloth 14 (.getfield 78) 3 17 := ⟨by decide +kernel, rfl⟩
theorem d_X0_pullCloth_17 : g_dc cX0_pullCloth 17 (.if_icmp .ge 14) 3 20 := ⟨by decide +kernel, rfl⟩
theorem d_X0_pullCloth_20 : g_dc cX0_pullCloth 20 (.aload_n 0) 1 21 := ⟨by decide +kernel, rfl⟩
theorem d_X0_pullCloth_21 : g_dc cX0_pullCloth 21 (.getfield 28) 3 24 := ⟨by decide +kernel, rfl⟩
theorem d_X0_pullCloth_24 : g_dc cX0_pullCloth 24 (.iload_n 1) 1 25 := ⟨by decide +kernel, rfl⟩
theorem d_X0_pullCloth_25 : g_dc cX0_pullCloth 25 (.invokevirtual 138) 3 28 := ⟨by decide +kernel, rfl⟩
theorem d_X0_pullCloth_28 : g_dc cX0_pullCloth 28 (.goto 4) 3 31 := ⟨by decide +kernel, rfl⟩
theorem d_X0_pullCloth_31 : g_dc cX0_pullCloth 31 (.iconst (-1)) 1 32 := ⟨by decide +kernel, rfl⟩
theorem d_X0_pullCloth_32 : g_dc cX0_pullCloth 32 (.istore_n 3) 1 33 := ⟨by decide +kernel, rfl⟩
theorem d_X0_pullCloth_33 : g_dc cX0_pullCloth 33 (.iconst 0) 1 34 := ⟨by decide +kernel, rfl⟩
theorem d_X0_pullCloth_34 : g_dc cX0_pullCloth 34 (.istore 4) 2 36 := ⟨by decide +kernel, rfl⟩
theorem d_X0_pullCloth_36 : g_dc cX0_pullCloth 36 (.aload_n 0) 1 37 := ⟨by decide +kernel, rfl⟩
theorem d_X0_pullCloth_37 : g_dc cX0_pullCloth 37 (.getfield 71) 3 40 := ⟨by decide +kernel, rfl⟩
theorem d_X0_pullCloth_40 : g_dc cX0_pullCloth 40 (.invokevirtual 141) 3 43 := ⟨by decide +kernel, rfl⟩
theorem d_X0_pullCloth_43 : g_dc cX0_pullCloth 43 (.aload_n 0) 1 44 := ⟨by decide +kernel, rfl⟩
theorem d_X0_pullCloth_44 : g_dc cX0_pullCloth 44 (.getfield 71) 3 47 := ⟨by decide +kernel, rfl⟩
theorem d_X0_pullCloth_47 : g_dc cX0_pullCloth 47 (.getfield 146) 3 50 := ⟨by decide +kernel, rfl⟩
theorem d_X0_pullCloth_50 : g_dc cX0_pullCloth 50 (.iconst 0) 1 51 := ⟨by decide +kernel, rfl⟩
theorem d_X0_pullCloth_51 : g_dc cX0_pullCloth 51 (.iload_n 1) 1 52 := ⟨by decide +kernel, rfl⟩
theorem d_X0_pullCloth_52 : g_dc cX0_pullCloth 52 (.iastore) 1 53 := ⟨by decide +kernel, rfl⟩
theorem d_X0_pullCloth_53 : g_dc cX0_pullCloth 53 (.aload_n 0) 1 54 := ⟨by decide +kernel, rfl⟩
theorem d_X0_pullCloth_54 : g_dc cX0_pullCloth 54 (.getfield 71) 3 57 := ⟨by decide +kernel, rfl⟩
theorem d_X0_pullCloth_57 : g_dc cX0_pullCloth 57 (.getfield 146) 3 60 := ⟨by decide +kernel, rfl⟩
theorem d_X0_pullCloth_60 : g_dc cX0_pullCloth 60 (.iconst 1) 1 61 := ⟨by decide +kernel, rfl⟩
theorem d_X0_pullCloth_61 : g_dc cX0_pullCloth 61 (.iload_n 2) 1 62 := ⟨by decide +kernel, rfl⟩
theorem d_X0_pullCloth_62 : g_dc cX0_pullCloth 62 (.iastore) 1 63 := ⟨by decide +kernel, rfl⟩
theorem d_X0_pullCloth_63 : g_dc cX0_pullCloth 63 (.iload_n 3) 1 64 := ⟨by decide +kernel, rfl⟩
theorem d_X0_pullCloth_64 : g_dc cX0_pullCloth 64 (.iconst (-1)) 1 65 := ⟨by decide +kernel, rfl⟩
theorem d_X0_pullCloth_65 : g_dc cX0_pullCloth 65 (.if_icmp .eq 33) 3 68 := ⟨by decide +kernel, rfl⟩
theorem d_X0_pullCloth_98 : g_dc cX0_pullCloth 98 (.aload_n 0) 1 99 := ⟨by decide +kernel, rfl⟩
theorem d_X0_pullCloth_99 : g_dc cX0_pullCloth 99 (.iconst 0) 1 100 := ⟨by decide +kernel, rfl⟩
theorem d_X0_pullCloth_100 : g_dc cX0_pullCloth 100 (.iload_n 2) 1 101 := ⟨by decide +kernel, rfl⟩
theorem d_X0_pullCloth_101 : g_dc cX0_pullCloth 101 (.iload 4) 2 103 := ⟨by decide +kernel, rfl⟩
theorem d_X0_pullCloth_103 : g_dc cX0_pullCloth 103 (.isub) 1 104 := ⟨by decide +kernel, rfl⟩
theorem d_X0_pullCloth_104 : g_dc cX0_pullCloth 104 (.invokestatic 152) 3 107 := ⟨by decide +kernel, rfl⟩
theorem d_X0_pullCloth_107 : g_dc cX0_pullCloth 107 (.putfield 62) 3 110 := ⟨by decide +kernel, rfl⟩
theorem d_X0_pullCloth_110 : g_dc cX0_pullCloth 110 (.aload_n 0) 1 111 := ⟨by decide +kernel, rfl⟩
theorem d_X0_pullCloth_111 : g_dc cX0_pullCloth 111 (.dup) 1 112 := ⟨by decide +kernel, rfl⟩
theorem d_X0_pullCloth_112 : g_dc cX0_pullCloth 112 (.getfield 59) 3 115 := ⟨by decide +kernel, rfl⟩
theorem d_X0_pullCloth_115 : g_dc cX0_pullCloth 115 (.aload_n 0) 1 116 := ⟨by decide +kernel, rfl⟩
theorem d_X0_pullCloth_116 : g_dc cX0_pullCloth 116 (.getfield 62) 3 119 := ⟨by decide +kernel, rfl⟩
theorem d_X0_pullCloth_119 : g_dc cX0_pullCloth 119 (.iadd) 1 120 := ⟨by decide +kernel, rfl⟩
theorem d_X0_pullCloth_120 : g_dc cX0_pullCloth 120 (.putfield 59) 3 123 := ⟨by decide +kernel, rfl⟩
theorem d_X0_pullCloth_123 : g_dc cX0_pullCloth 123 (.aload_n 0) 1 124 := ⟨by decide +kernel, rfl⟩
theorem d_X0_pullCloth_124 : g_dc cX0_pullCloth 124 (.getfield 35) 3 127 := ⟨by decide +kernel, rfl⟩
theorem d_X0_pullCloth_127 : g_dc cX0_pullCloth 127 (.iconst 0) 1 128 := ⟨by decide +kernel, rfl⟩
theorem d_X0_pullCloth_128 : g_dc cX0_pullCloth 128 (.aload_n 0) 1 129 := ⟨by decide +kernel, rfl⟩
theorem d_X0_pullCloth_129 : g_dc cX0_pullCloth 129 (.getfield 35) 3 132 := ⟨by decide +kernel, rfl⟩
theorem d_X0_pullCloth_132 : g_dc cX0_pullCloth 132 (.getfield 156) 3 135 := ⟨by decide +kernel, rfl⟩
theorem d_X0_pullCloth_135 : g_dc cX0_pullCloth 135 (.aload_n 0) 1 136 := ⟨by decide +kernel, rfl⟩
theorem d_X0_pullCloth_136 : g_dc cX0_pullCloth 136 (.getfield 62) 3 139 := ⟨by decide +kernel, rfl⟩
theorem d_X0_pullCloth_139 : g_dc cX0_pullCloth 139 (.isub) 1 140 := ⟨by decide +kernel, rfl⟩
theorem d_X0_pullCloth_140 : g_dc cX0_pullCloth 140 (.invokestatic 152) 3 143 := ⟨by decide +kernel, rfl⟩
theorem d_X0_pullCloth_143 : g_dc cX0_pullCloth 143 (.putfield 156) 3 146 := ⟨by decide +kernel, rfl⟩
theorem d_X0_pullCloth_146 : g_dc cX0_pullCloth 146 (.return_) 1 147 := ⟨by decide +kernel, rfl⟩
set_option maxHeartbeats 4000000 in
set_option maxRecDepth 100000 in
theorem c_X0_pullCloth (l : Launch) (X : gX) (ad : Nat → Nat) (F : Nat → Int32) (R : Nat → Nat → Int32) (t : Int32) (h0 : ¬ t < 0) (h672 : F 672 = 0) (h674 : F 674 = 0) : g_Cv l X yX0_pullCloth cX0_pullCloth 5 2 0 0 [.ref (ad 37), .int t] (wX X ad F R) (fun w => ∃ (F' : Nat → Int32) (R' : Nat → Nat → Int32), w = wX X ad F' R' ∧ P_pc F F' R R') := by
  refine g_mv (by decide +kernel) (Nat.le_of_ble_eq_true rfl) (fun E cx hret => ?_)
  refine g_aload_n cx 0 rfl d_X0_pullCloth_0 ?_
  refine g_get cx cl_X0 fl_X0_21 37 (.ref (ad 15)) d_X0_pullCloth_1 rfl rfl ?_
  refine g_iload_n cx 1 rfl d_X0_pullCloth_4 ?_
  refine g_cVi cx [.int t] [] (c_X5_paceAt l X (ad 15) (ad 16) (F 241) (R 16) t) ml_X0_135 yV_X5_paceAt d_X0_pullCloth_5 (by unfold g_rr; decide) (by decide) 0 rfl rfl [15, 16] rfl (by decide) rfl (Nat.le_of_ble_eq_true rfl) (by rintro _ _ ⟨rfl, _⟩; rfl) (fun r1 w2 h3 => ?_)
  obtain ⟨rfl, rfl⟩ := h3
  refine g_weq (wX X ad F R) (g_rep_same rfl) ?_
  refine g_istore_n cx [(2, .int (g_pa (R 16) (F 241) t)), (0, .ref (ad 37)), (1, .int t)] d_X0_pullCloth_8 (by decide) rfl ?_
  refine g_iload_n cx 2 rfl d_X0_pullCloth_9 ?_
  refine g_aload_n cx 1 rfl d_X0_pullCloth_10 ?_
  refine g_get cx cl_X0 fl_X0_21 37 (.ref (ad 15)) d_X0_pullCloth_11 rfl rfl ?_
  refine g_getN cx cl_X5 fn_X0_78 15 (.int (F 241)) d_X0_pullCloth_14 rfl rfl ?_
  refine g_icmp_ge cx 31 d_X0_pullCloth_17 (by decide) (fun zc17 => ?_) (fun zc17 => ?_)
  · refine g_iconst cx (-1) (by decide) d_X0_pullCloth_31 ?_
    refine g_istore_n cx [(3, .int (-1)), (2, .int (g_pa (R 16) (F 241) t)), (0, .ref (ad 37)), (1, .int t)] d_X0_pullCloth_32 (by decide) rfl ?_
    refine g_iconst cx 0 (by decide) d_X0_pullCloth_33 ?_
    refine g_istore cx [(4, .int 0), (3, .int (-1)), (2, .int (g_pa (R 16) (F 241) t)), (0, .ref (ad 37)), (1, .int t)] d_X0_pullCloth_34 (by decide) rfl ?_
    refine g_aload_n cx 3 rfl d_X0_pullCloth_36 ?_
    refine g_get cx cl_X0 fl_X0_71 37 (.ref (ad 17)) d_X0_pullCloth_37 rfl rfl ?_
    refine g_cVv cx [] [] (c_X2_forget l X (ad 17) (ad 18) (ad 19) (ad 20) (ad 21) (ad 22) (ad 23) (ad 24) (F 274) (F 278) (R 23)) ml_X0_141 yV_X2_forget d_X0_pullCloth_40 (by unfold g_rr; decide) (by decide) 0 rfl rfl [17, 23] rfl (by decide) rfl (Nat.le_of_ble_eq_true rfl) (by rintro _ ⟨_, rfl, _⟩; rfl) (fun w5 h6 => ?_)
    obtain ⟨g7, rfl, -⟩ := h6
    refine g_weq (wX X ad F (g_u R 23 g7)) rfl ?_
    refine g_aload_n cx 3 rfl d_X0_pullCloth_43 ?_
    refine g_get cx cl_X0 fl_X0_71 37 (.ref (ad 17)) d_X0_pullCloth_44 rfl rfl ?_
    refine g_getN cx cl_X2 fn_X0_146 17 (.ref (ad 23)) d_X0_pullCloth_47 rfl rfl ?_
    refine g_iconst cx 0 (by decide) d_X0_pullCloth_50 ?_
    refine g_iload_n cx 4 rfl d_X0_pullCloth_51 ?_
    refine g_iast cx 23 (wX X ad F (g_u R 23 (upd g7 0 t))) d_X0_pullCloth_52 rfl (by unfold vp_in; decide) rfl ?_
    refine g_aload_n cx 3 rfl d_X0_pullCloth_53 ?_
    refine g_get cx cl_X0 fl_X0_71 37 (.ref (ad 17)) d_X0_pullCloth_54 rfl rfl ?_
    refine g_getN cx cl_X2 fn_X0_146 17 (.ref (ad 23)) d_X0_pullCloth_57 rfl rfl ?_
    refine g_iconst cx 1 (by decide) d_X0_pullCloth_60 ?_
    refine g_iload_n cx 2 rfl d_X0_pullCloth_61 ?_
    refine g_iast cx 23 (wX X ad F (g_u R 23 (upd (upd g7 0 t) 1 (g_pa (R 16) (F 241) t)))) d_X0_pullCloth_62 rfl (by unfold vp_in; decide) rfl ?_
    refine g_iload_n cx 1 rfl d_X0_pullCloth_63 ?_
    refine g_iconst cx (-1) (by decide) d_X0_pullCloth_64 ?_
    refine g_icmp_eq_t cx 98 d_X0_pullCloth_65 (by decide) (by decide) ?_
    refine g_aload_n cx 3 rfl d_X0_pullCloth_98 ?_
    refine g_iconst cx 0 (by decide) d_X0_pullCloth_99 ?_
    refine g_iload_n cx 2 rfl d_X0_pullCloth_100 ?_
    refine g_iload cx 0 rfl d_X0_pullCloth_101 ?_
    refine g_isub cx d_X0_pullCloth_103 ?_
    refine g_toi (g_pa (R 16) (F 241) t) (by simp) ?_
    refine g_mmax cx ml_X0_152 d_X0_pullCloth_104 ⟨Nat.le_of_ble_eq_true rfl, Nat.le_of_ble_eq_true rfl⟩ (by decide) ?_
    refine g_topi (fun x8 ex8 => ?_)
    refine g_put cx cl_X0 fl_X0_62 37 (wX X ad (upd F 604 x8) (g_u R 23 (upd (upd g7 0 t) 1 (g_pa (R 16) (F 241) t)))) d_X0_pullCloth_107 rfl rfl rfl rfl (Nat.le_of_ble_eq_true rfl) rfl ?_
    refine g_aload_n cx 3 rfl d_X0_pullCloth_110 ?_
    refine g_dup cx rfl d_X0_pullCloth_111 ?_
    refine g_get cx cl_X0 fl_X0_59 37 (.int (F 603)) d_X0_pullCloth_112 rfl rfl ?_
    refine g_aload_n cx 3 rfl d_X0_pullCloth_115 ?_
    refine g_get cx cl_X0 fl_X0_62 37 (.int x8) d_X0_pullCloth_116 rfl rfl ?_
    refine g_iadd cx d_X0_pullCloth_119 ?_
    refine g_put cx cl_X0 fl_X0_59 37 (wX X ad (upd (upd F 603 ((F 603) + x8)) 604 x8) (g_u R 23 (upd (upd g7 0 t) 1 (g_pa (R 16) (F 241) t)))) d_X0_pullCloth_120 rfl rfl rfl rfl (Nat.le_of_ble_eq_true rfl) rfl ?_
    refine g_aload_n cx 3 rfl d_X0_pullCloth_123 ?_
    refine g_get cx cl_X0 fl_X0_35 37 (.ref (ad 43)) d_X0_pullCloth_124 rfl rfl ?_
    refine g_iconst cx 0 (by decide) d_X0_pullCloth_127 ?_
    refine g_aload_n cx 3 rfl d_X0_pullCloth_128 ?_
    refine g_get cx cl_X0 fl_X0_35 37 (.ref (ad 43)) d_X0_pullCloth_129 rfl rfl ?_
    refine g_getN cx cl_X4 fn_X0_156 43 (.int (F 698)) d_X0_pullCloth_132 rfl rfl ?_
    refine g_aload_n cx 3 rfl d_X0_pullCloth_135 ?_
    refine g_get cx cl_X0 fl_X0_62 37 (.int x8) d_X0_pullCloth_136 rfl rfl ?_
    refine g_isub cx d_X0_pullCloth_139 ?_
    refine g_mmax cx ml_X0_152 d_X0_pullCloth_140 ⟨Nat.le_of_ble_eq_true rfl, Nat.le_of_ble_eq_true rfl⟩ (by decide) ?_
    refine g_topi (fun x9 ex9 => ?_)
    refine g_putN cx cl_X4 fn_X0_156 43 (wX X ad (upd (upd (upd F 603 ((F 603) + x8)) 604 x8) 698 x9) (g_u R 23 (upd (upd g7 0 t) 1 (g_pa (R 16) (F 241) t)))) d_X0_pullCloth_143 rfl rfl rfl rfl (Nat.le_of_ble_eq_true rfl) rfl ?_
    exact hret d_X0_pullCloth_146 (Nat.le_of_ble_eq_true rfl) (Nat.le_of_ble_eq_true rfl) ⟨(upd (upd (upd F 603 ((F 603) + x8)) 604 x8) 698 x9), (g_u R 23 (upd (upd g7 0 t) 1 (g_pa (R 16) (F 241) t))), rfl, ⟨(by intro k hk; simp only [upd]; repeat rw [if_neg (by omega)]), (by intro c hc; simp only [g_u]; repeat rw [if_neg (by omega)])⟩⟩
  · refine g_aload_n cx 1 rfl d_X0_pullCloth_20 ?_
    refine g_get cx cl_X0 fl_X0_28 37 (.ref (ad 42)) d_X0_pullCloth_21 rfl rfl ?_
    refine g_iload_n cx 2 rfl d_X0_pullCloth_24 ?_
    refine g_cVi cx [.int t] [] (c0_X1_draw l X (ad 42) (F 672) (F 673) (F 674) (F 675) t h672 h674 h0) ml_X0_138 yV_X1_draw d_X0_pullCloth_25 (by unfold g_rr; decide) (by decide) 0 rfl rfl [42] rfl (by decide) rfl (Nat.le_of_ble_eq_true rfl) (by rintro _ _ ⟨rfl, _⟩; rfl) (fun r10 w11 h12 => ?_)
    obtain ⟨rfl, rfl⟩ := h12
    refine g_weq (wX X ad F R) (g_rep_same rfl) ?_
    refine g_toi (-1) (rfl) ?_
    refine g_goto cx 32 d_X0_pullCloth_28 (by decide) ?_
    refine g_istore_n cx [(3, .int (-1)), (2, .int (g_pa (R 16) (F 241) t)), (0, .ref (ad 37)), (1, .int t)] d_X0_pullCloth_32 (by decide) rfl ?_
    refine g_iconst cx 0 (by decide) d_X0_pullCloth_33 ?_
    refine g_istore cx [(4, .int 0), (3, .int (-1)), (2, .int (g_pa (R 16) (F 241) t)), (0, .ref (ad 37)), (1, .int t)] d_X0_pullCloth_34 (by decide) rfl ?_
    refine g_aload_n cx 3 rfl d_X0_pullCloth_36 ?_
    refine g_get cx cl_X0 fl_X0_71 37 (.ref (ad 17)) d_X0_pullCloth_37 rfl rfl ?_
    refine g_cVv cx [] [] (c_X2_forget l X (ad 17) (ad 18) (ad 19) (ad 20) (ad 21) (ad 22) (ad 23) (ad 24) (F 274) (F 278) (R 23)) ml_X0_141 yV_X2_forget d_X0_pullCloth_40 (by unfold g_rr; decide) (by decide) 0 rfl rfl [17, 23] rfl (by decide) rfl (Nat.le_of_ble_eq_true rfl) (by rintro _ ⟨_, rfl, _⟩; rfl) (fun w14 h15 => ?_)
    obtain ⟨g16, rfl, -⟩ := h15
    refine g_weq (wX X ad F (g_u R 23 g16)) rfl ?_
    refine g_aload_n cx 3 rfl d_X0_pullCloth_43 ?_
    refine g_get cx cl_X0 fl_X0_71 37 (.ref (ad 17)) d_X0_pullCloth_44 rfl rfl ?_
    refine g_getN cx cl_X2 fn_X0_146 17 (.ref (ad 23)) d_X0_pullCloth_47 rfl rfl ?_
    refine g_iconst cx 0 (by decide) d_X0_pullCloth_50 ?_
    refine g_iload_n cx 4 rfl d_X0_pullCloth_51 ?_
    refine g_iast cx 23 (wX X ad F (g_u R 23 (upd g16 0 t))) d_X0_pullCloth_52 rfl (by unfold vp_in; decide) rfl ?_
    refine g_aload_n cx 3 rfl d_X0_pullCloth_53 ?_
    refine g_get cx cl_X0 fl_X0_71 37 (.ref (ad 17)) d_X0_pullCloth_54 rfl rfl ?_
    refine g_getN cx cl_X2 fn_X0_146 17 (.ref (ad 23)) d_X0_pullCloth_57 rfl rfl ?_
    refine g_iconst cx 1 (by decide) d_X0_pullCloth_60 ?_
    refine g_iload_n cx 2 rfl d_X0_pullCloth_61 ?_
    refine g_iast cx 23 (wX X ad F (g_u R 23 (upd (upd g16 0 t) 1 (g_pa (R 16) (F 241) t)))) d_X0_pullCloth_62 rfl (by unfold vp_in; decide) rfl ?_
    refine g_iload_n cx 1 rfl d_X0_pullCloth_63 ?_
    refine g_iconst cx (-1) (by decide) d_X0_pullCloth_64 ?_
    refine g_icmp_eq_t cx 98 d_X0_pullCloth_65 (by decide) (by decide) ?_
    refine g_aload_n cx 3 rfl d_X0_pullCloth_98 ?_
    refine g_iconst cx 0 (by decide) d_X0_pullCloth_99 ?_
    refine g_iload_n cx 2 rfl d_X0_pullCloth_100 ?_
    refine g_iload cx 0 rfl d_X0_pullCloth_101 ?_
    refine g_isub cx d_X0_pullCloth_103 ?_
    refine g_toi (g_pa (R 16) (F 241) t) (by simp) ?_
    refine g_mmax cx ml_X0_152 d_X0_pullCloth_104 ⟨Nat.le_of_ble_eq_true rfl, Nat.le_of_ble_eq_true rfl⟩ (by decide) ?_
    refine g_topi (fun x17 ex17 => ?_)
    refine g_put cx cl_X0 fl_X0_62 37 (wX X ad (upd F 604 x17) (g_u R 23 (upd (upd g16 0 t) 1 (g_pa (R 16) (F 241) t)))) d_X0_pullCloth_107 rfl rfl rfl rfl (Nat.le_of_ble_eq_true rfl) rfl ?_
    refine g_aload_n cx 3 rfl d_X0_pullCloth_110 ?_
    refine g_dup cx rfl d_X0_pullCloth_111 ?_
    refine g_get cx cl_X0 fl_X0_59 37 (.int (F 603)) d_X0_pullCloth_112 rfl rfl ?_
    refine g_aload_n cx 3 rfl d_X0_pullCloth_115 ?_
    refine g_get cx cl_X0 fl_X0_62 37 (.int x17) d_X0_pullCloth_116 rfl rfl ?_
    refine g_iadd cx d_X0_pullCloth_119 ?_
    refine g_put cx cl_X0 fl_X0_59 37 (wX X ad (upd (upd F 603 ((F 603) + x17)) 604 x17) (g_u R 23 (upd (upd g16 0 t) 1 (g_pa (R 16) (F 241) t)))) d_X0_pullCloth_120 rfl rfl rfl rfl (Nat.le_of_ble_eq_true rfl) rfl ?_
    refine g_aload_n cx 3 rfl d_X0_pullCloth_123 ?_
    refine g_get cx cl_X0 fl_X0_35 37 (.ref (ad 43)) d_X0_pullCloth_124 rfl rfl ?_
    refine g_iconst cx 0 (by decide) d_X0_pullCloth_127 ?_
    refine g_aload_n cx 3 rfl d_X0_pullCloth_128 ?_
    refine g_get cx cl_X0 fl_X0_35 37 (.ref (ad 43)) d_X0_pullCloth_129 rfl rfl ?_
    refine g_getN cx cl_X4 fn_X0_156 43 (.int (F 698)) d_X0_pullCloth_132 rfl rfl ?_
    refine g_aload_n cx 3 rfl d_X0_pullCloth_135 ?_
    refine g_get cx cl_X0 fl_X0_62 37 (.int x17) d_X0_pullCloth_136 rfl rfl ?_
    refine g_isub cx d_X0_pullCloth_139 ?_
    refine g_mmax cx ml_X0_152 d_X0_pullCloth_140 ⟨Nat.le_of_ble_eq_true rfl, Nat.le_of_ble_eq_true rfl⟩ (by decide) ?_
    refine g_topi (fun x18 ex18 => ?_)
    refine g_putN cx cl_X4 fn_X0_156 43 (wX X ad (upd (upd (upd F 603 ((F 603) + x17)) 604 x17) 698 x18) (g_u R 23 (upd (upd g16 0 t) 1 (g_pa (R 16) (F 241) t)))) d_X0_pullCloth_143 rfl rfl rfl rfl (Nat.le_of_ble_eq_true rfl) rfl ?_
    exact hret d_X0_pullCloth_146 (Nat.le_of_ble_eq_true rfl) (Nat.le_of_ble_eq_true rfl) ⟨(upd (upd (upd F 603 ((F 603) + x17)) 604 x17) 698 x18), (g_u R 23 (upd (upd g16 0 t) 1 (g_pa (R 16) (F 241) t))), rfl, ⟨(by intro k hk; simp only [upd]; repeat rw [if_neg (by omega)]), (by intro c hc; simp only [g_u]; repeat rw [if_neg (by omega)])⟩⟩
theorem d_X0_lineUp_0 : g_dc cX0_lineUp 0 (.aload_n 0) 1 1 := ⟨by decide +kernel, rfl⟩
theorem d_X0_lineUp_1 : g_dc cX0_lineUp 1 (.iconst 0) 1 2 := ⟨by decide +kernel, rfl⟩
theorem d_X0_lineUp_2 : g_dc cX0_lineUp 2 (.putfield 56) 3 5 := ⟨by decide +kernel, rfl⟩
theorem d_X0_lineUp_5 : g_dc cX0_lineUp 5 (.aload_n 0) 1 6 := ⟨by decide +kernel, rfl⟩
theorem d_X0_lineUp_6 : g_dc cX0_lineUp 6 (.getfield 35) 3 9 := ⟨by decide +kernel, rfl⟩
theorem d_X0_lineUp_9 : g_dc cX0_lineUp 9 (.invokevirtual 101) 3 12 := ⟨by decide +kernel, rfl⟩
theorem d_X0_lineUp_12 : g_dc cX0_lineUp 12 (.istore_n 1) 1 13 := ⟨by decide +kernel, rfl⟩
theorem d_X0_lineUp_13 : g_dc cX0_lineUp 13 (.iconst 0) 1 14 := ⟨by decide +kernel, rfl⟩
theorem d_X0_lineUp_14 : g_dc cX0_lineUp 14 (.istore_n 2) 1 15 := ⟨by decide +kernel, rfl⟩
theorem d_X0_lineUp_15 : g_dc cX0_lineUp 15 (.iload_n 2) 1 16 := ⟨by decide +kernel, rfl⟩
theorem d_X0_lineUp_16 : g_dc cX0_lineUp 16 (.bipush 10) 2 18 := ⟨by decide +kernel, rfl⟩
theorem d_X0_lineUp_18 : g_dc cX0_lineUp 18 (.if_icmp .ge 106) 3 21 := ⟨by decide +kernel, rfl⟩
theorem d_X0_lineUp_21 : g_dc cX0_lineUp 21 (.iload_n 1) 1 22 := ⟨by decide +kernel, rfl⟩
theorem d_X0_lineUp_22 : g_dc cX0_lineUp 22 (.iconst 1) 1 23 := ⟨by decide +kernel, rfl⟩
theorem d_X0_lineUp_23 : g_dc cX0_lineUp 23 (.iload_n 2) 1 24 := ⟨by decide +kernel, rfl⟩
theorem d_X0_lineUp_24 : g_dc cX0_lineUp 24 (.ishl) 1 25 := ⟨by decide +kernel, rfl⟩
theorem d_X0_lineUp_25 : g_dc cX0_lineUp 25 (.iand) 1 26 := ⟨by decide +kernel, rfl⟩
theorem d_X0_lineUp_26 : g_dc cX0_lineUp 26 (.ifCond .eq 92) 3 29 := ⟨by decide +kernel, rfl⟩
theorem d_X0_lineUp_118 : g_dc cX0_lineUp 118 (.iinc 2 1) 3 121 := ⟨by decide +kernel, rfl⟩
theorem d_X0_lineUp_121 : g_dc cX0_lineUp 121 (.goto (-106)) 3 124 := ⟨by decide +kernel, rfl⟩
theorem d_X0_lineUp_124 : g_dc cX0_lineUp 124 (.return_) 1 125 := ⟨by decide +kernel, rfl⟩
set_option maxHeartbeats 4000000 in
set_option maxRecDepth 100000 in
theorem c_X0_lineUp (l : Launch) (X : gX) (ad : Nat → Nat) (F : Nat → Int32) (R : Nat → Nat → Int32) (h691 : F 691 = 0) : g_Cv l X yX0_lineUp cX0_lineUp 4 2 0 0 [.ref (ad 37)] (wX X ad F R) (fun w => w = wX X ad (upd F 602 0) R ∧ True) := by
  refine g_mv (by decide +kernel) (Nat.le_of_ble_eq_true rfl) (fun E cx hret => ?_)
  refine g_aload_n cx 0 rfl d_X0_lineUp_0 ?_
  refine g_iconst cx 0 (by decide) d_X0_lineUp_1 ?_
  refine g_put cx cl_X0 fl_X0_56 37 (wX X ad (upd F 602 0) R) d_X0_lineUp_2 rfl rfl rfl rfl (Nat.le_of_ble_eq_true rfl) rfl ?_
  refine g_aload_n cx 0 rfl d_X0_lineUp_5 ?_
  refine g_get cx cl_X0 fl_X0_35 37 (.ref (ad 43)) d_X0_lineUp_6 rfl rfl ?_
  refine g_cViW cx [] [] (c_X4_standingSet l X ad (upd F 602 0) R  ) ml_X0_101 yV_X4_standingSet d_X0_lineUp_9 (by unfold g_rr; decide) (by decide) 43 rfl rfl rfl (Nat.le_of_ble_eq_true rfl) (fun r1 w2 h3 => ?_)
  obtain ⟨rfl, rfl⟩ := h3
  refine g_toi 0 (g_ss0 (h691)) ?_
  refine g_istore_n cx [(1, .int 0), (0, .ref (ad 37))] d_X0_lineUp_12 (by decide) rfl ?_
  refine g_iconst cx 0 (by decide) d_X0_lineUp_13 ?_
  refine g_istore_n cx [(2, .int 0), (1, .int 0), (0, .ref (ad 37))] d_X0_lineUp_14 (by decide) rfl ?_
  refine g_iload_n cx 0 rfl d_X0_lineUp_15 ?_
  refine g_bipush cx 10 (by decide) d_X0_lineUp_16 ?_
  refine g_icmp_ge_f cx 124 d_X0_lineUp_18 (by decide) (by decide) ?_
  refine g_iload_n cx 1 rfl d_X0_lineUp_21 ?_
  refine g_iconst cx 1 (by decide) d_X0_lineUp_22 ?_
  refine g_iload_n cx 0 rfl d_X0_lineUp_23 ?_
  refine g_ishl cx d_X0_lineUp_24 ?_
  refine g_toi 1 (by decide) ?_
  refine g_iand cx d_X0_lineUp_25 ?_
  refine g_toi 0 (by decide) ?_
  refine g_if_eq_t cx 118 d_X0_lineUp_26 (by decide) (by decide) ?_
  refine g_iinc cx 1 [(2, .int 1), (1, .int 0), (0, .ref (ad 37))] 0 d_X0_lineUp_118 rfl (by decide) (by decide) rfl ?_
  refine g_goto cx 15 d_X0_lineUp_121 (by decide) ?_
  refine g_iload_n cx 0 rfl d_X0_lineUp_15 ?_
  refine g_bipush cx 10 (by decide) d_X0_lineUp_16 ?_
  refine g_icmp_ge_f cx 124 d_X0_lineUp_18 (by decide) (by decide) ?_
  refine g_iload_n cx 1 rfl d_X0_lineUp_21 ?_
  refine g_iconst cx 1 (by decide) d_X0_lineUp_22 ?_
  refine g_iload_n cx 0 rfl d_X0_lineUp_23 ?_
  refine g_ishl cx d_X0_lineUp_24 ?_
  refine g_toi 2 (by decide) ?_
  refine g_iand cx d_X0_lineUp_25 ?_
  refine g_toi 0 (by decide) ?_
  refine g_if_eq_t cx 118 d_X0_lineUp_26 (by decide) (by decide) ?_
  refine g_iinc cx 2 [(2, .int 2), (1, .int 0), (0, .ref (ad 37))] 0 d_X0_lineUp_118 rfl (by decide) (by decide) rfl ?_
  refine g_goto cx 15 d_X0_lineUp_121 (by decide) ?_
  refine g_iload_n cx 0 rfl d_X0_lineUp_15 ?_
  refine g_bipush cx 10 (by decide) d_X0_lineUp_16 ?_
  refine g_icmp_ge_f cx 124 d_X0_lineUp_18 (by decide) (by decide) ?_
  refine g_iload_n cx 1 rfl d_X0_lineUp_21 ?_
  refine g_iconst cx 1 (by decide) d_X0_lineUp_22 ?_
  refine g_iload_n cx 0 rfl d_X0_lineUp_23 ?_
  refine g_ishl cx d_X0_lineUp_24 ?_
  refine g_toi 4 (by decide) ?_
  refine g_iand cx d_X0_lineUp_25 ?_
  refine g_toi 0 (by decide) ?_
  refine g_if_eq_t cx 118 d_X0_lineUp_26 (by decide) (by decide) ?_
  refine g_iinc cx 3 [(2, .int 3), (1, .int 0), (0, .ref (ad 37))] 0 d_X0_lineUp_118 rfl (by decide) (by decide) rfl ?_
  refine g_goto cx 15 d_X0_lineUp_121 (by decide) ?_
  refine g_iload_n cx 0 rfl d_X0_lineUp_15 ?_
  refine g_bipush cx 10 (by decide) d_X0_lineUp_16 ?_
  refine g_icmp_ge_f cx 124 d_X0_lineUp_18 (by decide) (by decide) ?_
  refine g_iload_n cx 1 rfl d_X0_lineUp_21 ?_
  refine g_iconst cx 1 (by decide) d_X0_lineUp_22 ?_
  refine g_iload_n cx 0 rfl d_X0_lineUp_23 ?_
  refine g_ishl cx d_X0_lineUp_24 ?_
  refine g_toi 8 (by decide) ?_
  refine g_iand cx d_X0_lineUp_25 ?_
  refine g_toi 0 (by decide) ?_
  refine g_if_eq_t cx 118 d_X0_lineUp_26 (by decide) (by decide) ?_
  refine g_iinc cx 4 [(2, .int 4), (1, .int 0), (0, .ref (ad 37))] 0 d_X0_lineUp_118 rfl (by decide) (by decide) rfl ?_
  refine g_goto cx 15 d_X0_lineUp_121 (by decide) ?_
  refine g_iload_n cx 0 rfl d_X0_lineUp_15 ?_
  refine g_bipush cx 10 (by decide) d_X0_lineUp_16 ?_
  refine g_icmp_ge_f cx 124 d_X0_lineUp_18 (by decide) (by decide) ?_
  refine g_iload_n cx 1 rfl d_X0_lineUp_21 ?_
  refine g_iconst cx 1 (by decide) d_X0_lineUp_22 ?_
  refine g_iload_n cx 0 rfl d_X0_lineUp_23 ?_
  refine g_ishl cx d_X0_lineUp_24 ?_
  refine g_toi 16 (by decide) ?_
  refine g_iand cx d_X0_lineUp_25 ?_
  refine g_toi 0 (by decide) ?_
  refine g_if_eq_t cx 118 d_X0_lineUp_26 (by decide) (by decide) ?_
  refine g_iinc cx 5 [(2, .int 5), (1, .int 0), (0, .ref (ad 37))] 0 d_X0_lineUp_118 rfl (by decide) (by decide) rfl ?_
  refine g_goto cx 15 d_X0_lineUp_121 (by decide) ?_
  refine g_iload_n cx 0 rfl d_X0_lineUp_15 ?_
  refine g_bipush cx 10 (by decide) d_X0_lineUp_16 ?_
  refine g_icmp_ge_f cx 124 d_X0_lineUp_18 (by decide) (by decide) ?_
  refine g_iload_n cx 1 rfl d_X0_lineUp_21 ?_
  refine g_iconst cx 1 (by decide) d_X0_lineUp_22 ?_
  refine g_iload_n cx 0 rfl d_X0_lineUp_23 ?_
  refine g_ishl cx d_X0_lineUp_24 ?_
  refine g_toi 32 (by decide) ?_
  refine g_iand cx d_X0_lineUp_25 ?_
  refine g_toi 0 (by decide) ?_
  refine g_if_eq_t cx 118 d_X0_lineUp_26 (by decide) (by decide) ?_
  refine g_iinc cx 6 [(2, .int 6), (1, .int 0), (0, .ref (ad 37))] 0 d_X0_lineUp_118 rfl (by decide) (by decide) rfl ?_
  refine g_goto cx 15 d_X0_lineUp_121 (by decide) ?_
  refine g_iload_n cx 0 rfl d_X0_lineUp_15 ?_
  refine g_bipush cx 10 (by decide) d_X0_lineUp_16 ?_
  refine g_icmp_ge_f cx 124 d_X0_lineUp_18 (by decide) (by decide) ?_
  refine g_iload_n cx 1 rfl d_X0_lineUp_21 ?_
  refine g_iconst cx 1 (by decide) d_X0_lineUp_22 ?_
  refine g_iload_n cx 0 rfl d_X0_lineUp_23 ?_
  refine g_ishl cx d_X0_lineUp_24 ?_
  refine g_toi 64 (by decide) ?_
  refine g_iand cx d_X0_lineUp_25 ?_
  refine g_toi 0 (by decide) ?_
  refine g_if_eq_t cx 118 d_X0_lineUp_26 (by decide) (by decide) ?_
  refine g_iinc cx 7 [(2, .int 7), (1, .int 0), (0, .ref (ad 37))] 0 d_X0_lineUp_118 rfl (by decide) (by decide) rfl ?_
  refine g_goto cx 15 d_X0_lineUp_121 (by decide) ?_
  refine g_iload_n cx 0 rfl d_X0_lineUp_15 ?_
  refine g_bipush cx 10 (by decide) d_X0_lineUp_16 ?_
  refine g_icmp_ge_f cx 124 d_X0_lineUp_18 (by decide) (by decide) ?_
  refine g_iload_n cx 1 rfl d_X0_lineUp_21 ?_
  refine g_iconst cx 1 (by decide) d_X0_lineUp_22 ?_
  refine g_iload_n cx 0 rfl d_X0_lineUp_23 ?_
  refine g_ishl cx d_X0_lineUp_24 ?_
  refine g_toi 128 (by decide) ?_
  refine g_iand cx d_X0_lineUp_25 ?_
  refine g_toi 0 (by decide) ?_
  refine g_if_eq_t cx 118 d_X0_lineUp_26 (by decide) (by decide) ?_
  refine g_iinc cx 8 [(2, .int 8), (1, .int 0), (0, .ref (ad 37))] 0 d_X0_lineUp_118 rfl (by decide) (by decide) rfl ?_
  refine g_goto cx 15 d_X0_lineUp_121 (by decide) ?_
  refine g_iload_n cx 0 rfl d_X0_lineUp_15 ?_
  refine g_bipush cx 10 (by decide) d_X0_lineUp_16 ?_
  refine g_icmp_ge_f cx 124 d_X0_lineUp_18 (by decide) (by decide) ?_
  refine g_iload_n cx 1 rfl d_X0_lineUp_21 ?_
  refine g_iconst cx 1 (by decide) d_X0_lineUp_22 ?_
  refine g_iload_n cx 0 rfl d_X0_lineUp_23 ?_
  refine g_ishl cx d_X0_lineUp_24 ?_
  refine g_toi 256 (by decide) ?_
  refine g_iand cx d_X0_lineUp_25 ?_
  refine g_toi 0 (by decide) ?_
  refine g_if_eq_t cx 118 d_X0_lineUp_26 (by decide) (by decide) ?_
  refine g_iinc cx 9 [(2, .int 9), (1, .int 0), (0, .ref (ad 37))] 0 d_X0_lineUp_118 rfl (by decide) (by decide) rfl ?_
  refine g_goto cx 15 d_X0_lineUp_121 (by decide) ?_
  refine g_iload_n cx 0 rfl d_X0_lineUp_15 ?_
  refine g_bipush cx 10 (by decide) d_X0_lineUp_16 ?_
  refine g_icmp_ge_f cx 124 d_X0_lineUp_18 (by decide) (by decide) ?_
  refine g_iload_n cx 1 rfl d_X0_lineUp_21 ?_
  refine g_iconst cx 1 (by decide) d_X0_lineUp_22 ?_
  refine g_iload_n cx 0 rfl d_X0_lineUp_23 ?_
  refine g_ishl cx d_X0_lineUp_24 ?_
  refine g_toi 512 (by decide) ?_
  refine g_iand cx d_X0_lineUp_25 ?_
  refine g_toi 0 (by decide) ?_
  refine g_if_eq_t cx 118 d_X0_lineUp_26 (by decide) (by decide) ?_
  refine g_iinc cx 10 [(2, .int 10), (1, .int 0), (0, .ref (ad 37))] 0 d_X0_lineUp_118 rfl (by decide) (by decide) rfl ?_
  refine g_goto cx 15 d_X0_lineUp_121 (by decide) ?_
  refine g_iload_n cx 0 rfl d_X0_lineUp_15 ?_
  refine g_bipush cx 10 (by decide) d_X0_lineUp_16 ?_
  refine g_icmp_ge_t cx 124 d_X0_lineUp_18 (by decide) (by decide) ?_
  exact hret d_X0_lineUp_124 (Nat.le_of_ble_eq_true rfl) (Nat.le_of_ble_eq_true rfl) (⟨rfl, trivial⟩)
theorem d_X0_tick_0 : g_dc cX0_tick 0 (.aload_n 0) 1 1 := ⟨by decide +kernel, rfl⟩
theorem d_X0_tick_1 : g_dc cX0_tick 1 (.iload_n 1) 1 2 := ⟨by decide +kernel, rfl⟩
theorem d_X0_tick_2 : g_dc cX0_tick 2 (.invokevirtual 105) 3 5 := ⟨by decide +kernel, rfl⟩
theorem d_X0_tick_5 : g_dc cX0_tick 5 (.aload_n 0) 1 6 := ⟨by decide +kernel, rfl⟩
theorem d_X0_tick_6 : g_dc cX0_tick 6 (.iconst 0) 1 7 := ⟨by decide +kernel, rfl⟩
theorem d_X0_tick_7 : g_dc cX0_tick 7 (.putfield 65) 3 10 := ⟨by decide +kernel, rfl⟩
theorem d_X0_tick_10 : g_dc cX0_tick 10 (.aload_n 0) 1 11 := ⟨by decide +kernel, rfl⟩
theorem d_X0_tick_11 : g_dc cX0_tick 11 (.iconst 0) 1 12 := ⟨by decide +kernel, rfl⟩
theorem d_X0_tick_12 : g_dc cX0_tick 12 (.putfield 68) 3 15 := ⟨by decide +kernel, rfl⟩
theorem d_X0_tick_15 : g_dc cX0_tick 15 (.aload_n 0) 1 16 := ⟨by decide +kernel, rfl⟩
theorem d_X0_tick_16 : g_dc cX0_tick 16 (.getfield 35) 3 19 := ⟨by decide +kernel, rfl⟩
theorem d_X0_tick_19 : g_dc cX0_tick 19 (.invokevirtual 101) 3 22 := ⟨by decide +kernel, rfl⟩
theorem d_X0_tick_22 : g_dc cX0_tick 22 (.istore_n 2) 1 23 := ⟨by decide +kernel, rfl⟩
theorem d_X0_tick_23 : g_dc cX0_tick 23 (.iconst 0) 1 24 := ⟨by decide +kernel, rfl⟩
theorem d_X0_tick_24 : g_dc cX0_tick 24 (.istore_n 3) 1 25 := ⟨by decide +kernel, rfl⟩
theorem d_X0_tick_25 : g_dc cX0_tick 25 (.iload_n 3) 1 26 := ⟨by decide +kernel, rfl⟩
theorem d_X0_tick_26 : g_dc cX0_tick 26 (.bipush 10) 2 28 := ⟨by decide +kernel, rfl⟩
theorem d_X0_tick_28 : g_dc cX0_tick 28 (.if_icmp .ge 47) 3 31 := ⟨by decide +kernel, rfl⟩
theorem d_X0_tick_31 : g_dc cX0_tick 31 (.iload_n 2) 1 32 := ⟨by decide +kernel, rfl⟩
theorem d_X0_tick_32 : g_dc cX0_tick 32 (.iconst 1) 1 33 := ⟨by decide +kernel, rfl⟩
theorem d_X0_tick_33 : g_dc cX0_tick 33 (.iload_n 3) 1 34 := ⟨by decide +kernel, rfl⟩
theorem d_X0_tick_34 : g_dc cX0_tick 34 (.ishl) 1 35 := ⟨by decide +kernel, rfl⟩
theorem d_X0_tick_35 : g_dc cX0_tick 35 (.iand) 1 36 := ⟨by decide +kernel, rfl⟩
theorem d_X0_tick_36 : g_dc cX0_tick 36 (.ifCond .eq 33) 3 39 := ⟨by decide +kernel, rfl⟩
theorem d_X0_tick_69 : g_dc cX0_tick 69 (.iinc 3 1) 3 72 := ⟨by decide +kernel, rfl⟩
theorem d_X0_tick_72 : g_dc cX0_tick 72 (.goto (-47)) 3 75 := ⟨by decide +kernel, rfl⟩
theorem d_X0_tick_75 : g_dc cX0_tick 75 (.aload_n 0) 1 76 := ⟨by decide +kernel, rfl⟩
theorem d_X0_tick_76 : g_dc cX0_tick 76 (.getfield 35) 3 79 := ⟨by decide +kernel, rfl⟩
theorem d_X0_tick_79 : g_dc cX0_tick 79 (.invokevirtual 101) 3 82 := ⟨by decide +kernel, rfl⟩
theorem d_X0_tick_82 : g_dc cX0_tick 82 (.istore_n 2) 1 83 := ⟨by decide +kernel, rfl⟩
theorem d_X0_tick_83 : g_dc cX0_tick 83 (.iconst 0) 1 84 := ⟨by decide +kernel, rfl⟩
theorem d_X0_tick_84 : g_dc cX0_tick 84 (.istore_n 3) 1 85 := ⟨by decide +kernel, rfl⟩
theorem d_X0_tick_85 : g_dc cX0_tick 85 (.iload_n 3) 1 86 := ⟨by decide +kernel, rfl⟩
theorem d_X0_tick_86 : g_dc cX0_tick 86 (.bipush 10) 2 88 := ⟨by decide +kernel, rfl⟩
theorem d_X0_tick_88 : g_dc cX0_tick 88 (.if_icmp .ge 22) 3 91 := ⟨by decide +kernel, rfl⟩
theorem d_X0_tick_91 : g_dc cX0_tick 91 (.iload_n 2) 1 92 := ⟨by decide +kernel, rfl⟩
theorem d_X0_tick_92 : g_dc cX0_tick 92 (.iconst 1) 1 93 := ⟨by decide +kernel, rfl⟩
theorem d_X0_tick_93 : g_dc cX0_tick 93 (.iload_n 3) 1 94 := ⟨by decide +kernel, rfl⟩
theorem d_X0_tick_94 : g_dc cX0_tick 94 (.ishl) 1 95 := ⟨by decide +kernel, rfl⟩
theorem d_X0_tick_95 : g_dc cX0_tick 95 (.iand) 1 96 := ⟨by decide +kernel, rfl⟩
theorem d_X0_tick_96 : g_dc cX0_tick 96 (.ifCond .eq 8) 3 99 := ⟨by decide +kernel, rfl⟩
theorem d_X0_tick_104 : g_dc cX0_tick 104 (.iinc 3 1) 3 107 := ⟨by decide +kernel, rfl⟩
theorem d_X0_tick_107 : g_dc cX0_tick 107 (.goto (-22)) 3 110 := ⟨by decide +kernel, rfl⟩
theorem d_X0_tick_110 : g_dc cX0_tick 110 (.aload_n 0) 1 111 := ⟨by decide +kernel, rfl⟩
theorem d_X0_tick_111 : g_dc cX0_tick 111 (.invokevirtual 123) 3 114 := ⟨by decide +kernel, rfl⟩
theorem d_X0_tick_114 : g_dc cX0_tick 114 (.iconst 0) 1 115 := ⟨by decide +kernel, rfl⟩
theorem d_X0_tick_115 : g_dc cX0_tick 115 (.istore_n 3) 1 116 := ⟨by decide +kernel, rfl⟩
theorem d_X0_tick_116 : g_dc cX0_tick 116 (.iload_n 3) 1 117 := ⟨by decide +kernel, rfl⟩
theorem d_X0_tick_117 : g_dc cX0_tick 117 (.iconst 1) 1 118 := ⟨by decide +kernel, rfl⟩
theorem d_X0_tick_118 : g_dc cX0_tick 118 (.iadd) 1 119 := ⟨by decide +kernel, rfl⟩
theorem d_X0_tick_119 : g_dc cX0_tick 119 (.aload_n 0) 1 120 := ⟨by decide +kernel, rfl⟩
theorem d_X0_tick_120 : g_dc cX0_tick 120 (.getfield 56) 3 123 := ⟨by decide +kernel, rfl⟩
theorem d_X0_tick_123 : g_dc cX0_tick 123 (.if_icmp .ge 35) 3 126 := ⟨by decide +kernel, rfl⟩
theorem d_X0_tick_158 : g_dc cX0_tick 158 (.aload_n 0) 1 159 := ⟨by decide +kernel, rfl⟩
theorem d_X0_tick_159 : g_dc cX0_tick 159 (.getfield 35) 3 162 := ⟨by decide +kernel, rfl⟩
theorem d_X0_tick_162 : g_dc cX0_tick 162 (.invokevirtual 101) 3 165 := ⟨by decide +kernel, rfl⟩
theorem d_X0_tick_165 : g_dc cX0_tick 165 (.istore_n 2) 1 166 := ⟨by decide +kernel, rfl⟩
theorem d_X0_tick_166 : g_dc cX0_tick 166 (.iconst 0) 1 167 := ⟨by decide +kernel, rfl⟩
theorem d_X0_tick_167 : g_dc cX0_tick 167 (.istore_n 3) 1 168 := ⟨by decide +kernel, rfl⟩
theorem d_X0_tick_168 : g_dc cX0_tick 168 (.iload_n 3) 1 169 := ⟨by decide +kernel, rfl⟩
theorem d_X0_tick_169 : g_dc cX0_tick 169 (.bipush 10) 2 171 := ⟨by decide +kernel, rfl⟩
theorem d_X0_tick_171 : g_dc cX0_tick 171 (.if_icmp .ge 22) 3 174 := ⟨by decide +kernel, rfl⟩
theorem d_X0_tick_174 : g_dc cX0_tick 174 (.iload_n 2) 1 175 := ⟨by decide +kernel, rfl⟩
theorem d_X0_tick_175 : g_dc cX0_tick 175 (.iconst 1) 1 176 := ⟨by decide +kernel, rfl⟩
theorem d_X0_tick_176 : g_dc cX0_tick 176 (.iload_n 3) 1 177 := ⟨by decide +kernel, rfl⟩
theorem d_X0_tick_177 : g_dc cX0_tick 177 (.ishl) 1 178 := ⟨by decide +kernel, rfl⟩
theorem d_X0_tick_178 : g_dc cX0_tick 178 (.iand) 1 179 := ⟨by decide +kernel, rfl⟩
theorem d_X0_tick_179 : g_dc cX0_tick 179 (.ifCond .eq 8) 3 182 := ⟨by decide +kernel, rfl⟩
theorem d_X0_tick_187 : g_dc cX0_tick 187 (.iinc 3 1) 3 190 := ⟨by decide +kernel, rfl⟩
theorem d_X0_tick_190 : g_dc cX0_tick 190 (.goto (-22)) 3 193 := ⟨by decide +kernel, rfl⟩
theorem d_X0_tick_193 : g_dc cX0_tick 193 (.aload_n 0) 1 194 := ⟨by decide +kernel, rfl⟩
theorem d_X0_tick_194 : g_dc cX0_tick 194 (.getfield 35) 3 197 := ⟨by decide +kernel, rfl⟩
theorem d_X0_tick_197 : g_dc cX0_tick 197 (.dup) 1 198 := ⟨by decide +kernel, rfl⟩
theorem d_X0_tick_198 : g_dc cX0_tick 198 (.getfield 132) 3 201 := ⟨by decide +kernel, rfl⟩
theorem d_X0_tick_201 : g_dc cX0_tick 201 (.aload_n 0) 1 202 := ⟨by decide +kernel, rfl⟩
theorem d_X0_tick_202 : g_dc cX0_tick 202 (.getfield 68) 3 205 := ⟨by decide +kernel, rfl⟩
theorem d_X0_tick_205 : g_dc cX0_tick 205 (.ior) 1 206 := ⟨by decide +kernel, rfl⟩
theorem d_X0_tick_206 : g_dc cX0_tick 206 (.putfield 132) 3 209 := ⟨by decide +kernel, rfl⟩
theorem d_X0_tick_209 : g_dc cX0_tick 209 (.return_) 1 210 := ⟨by decide +kernel, rfl⟩
set_option maxHeartbeats 4000000 in
set_option maxRecDepth 100000 in
theorem c_X0_tick (l : Launch) (X : gX) (ad : Nat → Nat) (F : Nat → Int32) (R : Nat → Nat → Int32) (t : Int32) (h0 : ¬ t < 0) (h695 : F 695 = 0) (h691 : F 691 = 0) (h672 : F 672 = 0) (h674 : F 674 = 0) : g_Cv l X yX0_tick cX0_tick 5 3 0 0 [.ref (ad 37), .int t] (wX X ad F R) (fun w => ∃ (F' : Nat → Int32) (R' : Nat → Nat → Int32), w = wX X ad F' R' ∧ P_tk F F' R R') := by
  refine g_mv (by decide +kernel) (Nat.le_of_ble_eq_true rfl) (fun E cx hret => ?_)
  refine g_aload_n cx 0 rfl d_X0_tick_0 ?_
  refine g_iload_n cx 1 rfl d_X0_tick_1 ?_
  refine g_cVvW cx [.int t] [] (c_X0_pullCloth l X ad F R t h0 h672 h674) ml_X0_105 yV_X0_pullCloth d_X0_tick_2 (by unfold g_rr; decide) (by decide) 37 rfl rfl rfl (Nat.le_of_ble_eq_true rfl) (fun w2 h3 => ?_)
  obtain ⟨zF4, zR5, rfl, zp6⟩ := h3
  refine g_aload_n cx 0 rfl d_X0_tick_5 ?_
  refine g_iconst cx 0 (by decide) d_X0_tick_6 ?_
  refine g_put cx cl_X0 fl_X0_65 37 (wX X ad (upd zF4 605 0) zR5) d_X0_tick_7 rfl rfl rfl rfl (Nat.le_of_ble_eq_true rfl) rfl ?_
  refine g_aload_n cx 0 rfl d_X0_tick_10 ?_
  refine g_iconst cx 0 (by decide) d_X0_tick_11 ?_
  refine g_put cx cl_X0 fl_X0_68 37 (wX X ad (upd (upd zF4 605 0) 606 0) zR5) d_X0_tick_12 rfl rfl rfl rfl (Nat.le_of_ble_eq_true rfl) rfl ?_
  refine g_aload_n cx 0 rfl d_X0_tick_15 ?_
  refine g_get cx cl_X0 fl_X0_35 37 (.ref (ad 43)) d_X0_tick_16 rfl rfl ?_
  refine g_cViW cx [] [] (c_X4_standingSet l X ad (upd (upd zF4 605 0) 606 0) zR5  ) ml_X0_101 yV_X4_standingSet d_X0_tick_19 (by unfold g_rr; decide) (by decide) 43 rfl rfl rfl (Nat.le_of_ble_eq_true rfl) (fun r7 w8 h9 => ?_)
  obtain ⟨rfl, rfl⟩ := h9
  refine g_toi 0 (g_ss0 ((zp6.1 691 (by decide)).trans (h691))) ?_
  refine g_istore_n cx [(2, .int 0), (0, .ref (ad 37)), (1, .int t)] d_X0_tick_22 (by decide) rfl ?_
  refine g_iconst cx 0 (by decide) d_X0_tick_23 ?_
  refine g_istore_n cx [(3, .int 0), (2, .int 0), (0, .ref (ad 37)), (1, .int t)] d_X0_tick_24 (by decide) rfl ?_
  refine g_iload_n cx 0 rfl d_X0_tick_25 ?_
  refine g_bipush cx 10 (by decide) d_X0_tick_26 ?_
  refine g_icmp_ge_f cx 75 d_X0_tick_28 (by decide) (by decide) ?_
  refine g_iload_n cx 1 rfl d_X0_tick_31 ?_
  refine g_iconst cx 1 (by decide) d_X0_tick_32 ?_
  refine g_iload_n cx 0 rfl d_X0_tick_33 ?_
  refine g_ishl cx d_X0_tick_34 ?_
  refine g_toi 1 (by decide) ?_
  refine g_iand cx d_X0_tick_35 ?_
  refine g_toi 0 (by decide) ?_
  refine g_if_eq_t cx 69 d_X0_tick_36 (by decide) (by decide) ?_
  refine g_iinc cx 1 [(3, .int 1), (2, .int 0), (0, .ref (ad 37)), (1, .int t)] 0 d_X0_tick_69 rfl (by decide) (by decide) rfl ?_
  refine g_goto cx 25 d_X0_tick_72 (by decide) ?_
  refine g_iload_n cx 0 rfl d_X0_tick_25 ?_
  refine g_bipush cx 10 (by decide) d_X0_tick_26 ?_
  refine g_icmp_ge_f cx 75 d_X0_tick_28 (by decide) (by decide) ?_
  refine g_iload_n cx 1 rfl d_X0_tick_31 ?_
  refine g_iconst cx 1 (by decide) d_X0_tick_32 ?_
  refine g_iload_n cx 0 rfl d_X0_tick_33 ?_
  refine g_ishl cx d_X0_tick_34 ?_
  refine g_toi 2 (by decide) ?_
  refine g_iand cx d_X0_tick_35 ?_
  refine g_toi 0 (by decide) ?_
  refine g_if_eq_t cx 69 d_X0_tick_36 (by decide) (by decide) ?_
  refine g_iinc cx 2 [(3, .int 2), (2, .int 0), (0, .ref (ad 37)), (1, .int t)] 0 d_X0_tick_69 rfl (by decide) (by decide) rfl ?_
  refine g_goto cx 25 d_X0_tick_72 (by decide) ?_
  refine g_iload_n cx 0 rfl d_X0_tick_25 ?_
  refine g_bipush cx 10 (by decide) d_X0_tick_26 ?_
  refine g_icmp_ge_f cx 75 d_X0_tick_28 (by decide) (by decide) ?_
  refine g_iload_n cx 1 rfl d_X0_tick_31 ?_
  refine g_iconst cx 1 (by decide) d_X0_tick_32 ?_
  refine g_iload_n cx 0 rfl d_X0_tick_33 ?_
  refine g_ishl cx d_X0_tick_34 ?_
  refine g_toi 4 (by decide) ?_
  refine g_iand cx d_X0_tick_35 ?_
  refine g_toi 0 (by decide) ?_
  refine g_if_eq_t cx 69 d_X0_tick_36 (by decide) (by decide) ?_
  refine g_iinc cx 3 [(3, .int 3), (2, .int 0), (0, .ref (ad 37)), (1, .int t)] 0 d_X0_tick_69 rfl (by decide) (by decide) rfl ?_
  refine g_goto cx 25 d_X0_tick_72 (by decide) ?_
  refine g_iload_n cx 0 rfl d_X0_tick_25 ?_
  refine g_bipush cx 10 (by decide) d_X0_tick_26 ?_
  refine g_icmp_ge_f cx 75 d_X0_tick_28 (by decide) (by decide) ?_
  refine g_iload_n cx 1 rfl d_X0_tick_31 ?_
  refine g_iconst cx 1 (by decide) d_X0_tick_32 ?_
  refine g_iload_n cx 0 rfl d_X0_tick_33 ?_
  refine g_ishl cx d_X0_tick_34 ?_
  refine g_toi 8 (by decide) ?_
  refine g_iand cx d_X0_tick_35 ?_
  refine g_toi 0 (by decide) ?_
  refine g_if_eq_t cx 69 d_X0_tick_36 (by decide) (by decide) ?_
  refine g_iinc cx 4 [(3, .int 4), (2, .int 0), (0, .ref (ad 37)), (1, .int t)] 0 d_X0_tick_69 rfl (by decide) (by decide) rfl ?_
  refine g_goto cx 25 d_X0_tick_72 (by decide) ?_
  refine g_iload_n cx 0 rfl d_X0_tick_25 ?_
  refine g_bipush cx 10 (by decide) d_X0_tick_26 ?_
  refine g_icmp_ge_f cx 75 d_X0_tick_28 (by decide) (by decide) ?_
  refine g_iload_n cx 1 rfl d_X0_tick_31 ?_
  refine g_iconst cx 1 (by decide) d_X0_tick_32 ?_
  refine g_iload_n cx 0 rfl d_X0_tick_33 ?_
  refine g_ishl cx d_X0_tick_34 ?_
  refine g_toi 16 (by decide) ?_
  refine g_iand cx d_X0_tick_35 ?_
  refine g_toi 0 (by decide) ?_
  refine g_if_eq_t cx 69 d_X0_tick_36 (by decide) (by decide) ?_
  refine g_iinc cx 5 [(3, .int 5), (2, .int 0), (0, .ref (ad 37)), (1, .int t)] 0 d_X0_tick_69 rfl (by decide) (by decide) rfl ?_
  refine g_goto cx 25 d_X0_tick_72 (by decide) ?_
  refine g_iload_n cx 0 rfl d_X0_tick_25 ?_
  refine g_bipush cx 10 (by decide) d_X0_tick_26 ?_
  refine g_icmp_ge_f cx 75 d_X0_tick_28 (by decide) (by decide) ?_
  refine g_iload_n cx 1 rfl d_X0_tick_31 ?_
  refine g_iconst cx 1 (by decide) d_X0_tick_32 ?_
  refine g_iload_n cx 0 rfl d_X0_tick_33 ?_
  refine g_ishl cx d_X0_tick_34 ?_
  refine g_toi 32 (by decide) ?_
  refine g_iand cx d_X0_tick_35 ?_
  refine g_toi 0 (by decide) ?_
  refine g_if_eq_t cx 69 d_X0_tick_36 (by decide) (by decide) ?_
  refine g_iinc cx 6 [(3, .int 6), (2, .int 0), (0, .ref (ad 37)), (1, .int t)] 0 d_X0_tick_69 rfl (by decide) (by decide) rfl ?_
  refine g_goto cx 25 d_X0_tick_72 (by decide) ?_
  refine g_iload_n cx 0 rfl d_X0_tick_25 ?_
  refine g_bipush cx 10 (by decide) d_X0_tick_26 ?_
  refine g_icmp_ge_f cx 75 d_X0_tick_28 (by decide) (by decide) ?_
  refine g_iload_n cx 1 rfl d_X0_tick_31 ?_
  refine g_iconst cx 1 (by decide) d_X0_tick_32 ?_
  refine g_iload_n cx 0 rfl d_X0_tick_33 ?_
  refine g_ishl cx d_X0_tick_34 ?_
  refine g_toi 64 (by decide) ?_
  refine g_iand cx d_X0_tick_35 ?_
  refine g_toi 0 (by decide) ?_
  refine g_if_eq_t cx 69 d_X0_tick_36 (by decide) (by decide) ?_
  refine g_iinc cx 7 [(3, .int 7), (2, .int 0), (0, .ref (ad 37)), (1, .int t)] 0 d_X0_tick_69 rfl (by decide) (by decide) rfl ?_
  refine g_goto cx 25 d_X0_tick_72 (by decide) ?_
  refine g_iload_n cx 0 rfl d_X0_tick_25 ?_
  refine g_bipush cx 10 (by decide) d_X0_tick_26 ?_
  refine g_icmp_ge_f cx 75 d_X0_tick_28 (by decide) (by decide) ?_
  refine g_iload_n cx 1 rfl d_X0_tick_31 ?_
  refine g_iconst cx 1 (by decide) d_X0_tick_32 ?_
  refine g_iload_n cx 0 rfl d_X0_tick_33 ?_
  refine g_ishl cx d_X0_tick_34 ?_
  refine g_toi 128 (by decide) ?_
  refine g_iand cx d_X0_tick_35 ?_
  refine g_toi 0 (by decide) ?_
  refine g_if_eq_t cx 69 d_X0_tick_36 (by decide) (by decide) ?_
  refine g_iinc cx 8 [(3, .int 8), (2, .int 0), (0, .ref (ad 37)), (1, .int t)] 0 d_X0_tick_69 rfl (by decide) (by decide) rfl ?_
  refine g_goto cx 25 d_X0_tick_72 (by decide) ?_
  refine g_iload_n cx 0 rfl d_X0_tick_25 ?_
  refine g_bipush cx 10 (by decide) d_X0_tick_26 ?_
  refine g_icmp_ge_f cx 75 d_X0_tick_28 (by decide) (by decide) ?_
  refine g_iload_n cx 1 rfl d_X0_tick_31 ?_
  refine g_iconst cx 1 (by decide) d_X0_tick_32 ?_
  refine g_iload_n cx 0 rfl d_X0_tick_33 ?_
  refine g_ishl cx d_X0_tick_34 ?_
  refine g_toi 256 (by decide) ?_
  refine g_iand cx d_X0_tick_35 ?_
  refine g_toi 0 (by decide) ?_
  refine g_if_eq_t cx 69 d_X0_tick_36 (by decide) (by decide) ?_
  refine g_iinc cx 9 [(3, .int 9), (2, .int 0), (0, .ref (ad 37)), (1, .int t)] 0 d_X0_tick_69 rfl (by decide) (by decide) rfl ?_
  refine g_goto cx 25 d_X0_tick_72 (by decide) ?_
  refine g_iload_n cx 0 rfl d_X0_tick_25 ?_
  refine g_bipush cx 10 (by decide) d_X0_tick_26 ?_
  refine g_icmp_ge_f cx 75 d_X0_tick_28 (by decide) (by decide) ?_
  refine g_iload_n cx 1 rfl d_X0_tick_31 ?_
  refine g_iconst cx 1 (by decide) d_X0_tick_32 ?_
  refine g_iload_n cx 0 rfl d_X0_tick_33 ?_
  refine g_ishl cx d_X0_tick_34 ?_
  refine g_toi 512 (by decide) ?_
  refine g_iand cx d_X0_tick_35 ?_
  refine g_toi 0 (by decide) ?_
  refine g_if_eq_t cx 69 d_X0_tick_36 (by decide) (by decide) ?_
  refine g_iinc cx 10 [(3, .int 10), (2, .int 0), (0, .ref (ad 37)), (1, .int t)] 0 d_X0_tick_69 rfl (by decide) (by decide) rfl ?_
  refine g_goto cx 25 d_X0_tick_72 (by decide) ?_
  refine g_iload_n cx 0 rfl d_X0_tick_25 ?_
  refine g_bipush cx 10 (by decide) d_X0_tick_26 ?_
  refine g_icmp_ge_t cx 75 d_X0_tick_28 (by decide) (by decide) ?_
  refine g_aload_n cx 2 rfl d_X0_tick_75 ?_
  refine g_get cx cl_X0 fl_X0_35 37 (.ref (ad 43)) d_X0_tick_76 rfl rfl ?_
  refine g_cViW cx [] [] (c_X4_standingSet l X ad (upd (upd zF4 605 0) 606 0) zR5  ) ml_X0_101 yV_X4_standingSet d_X0_tick_79 (by unfold g_rr; decide) (by decide) 43 rfl rfl rfl (Nat.le_of_ble_eq_true rfl) (fun r10 w11 h12 => ?_)
  obtain ⟨rfl, rfl⟩ := h12
  refine g_toi 0 (g_ss0 ((zp6.1 691 (by decide)).trans (h691))) ?_
  refine g_istore_n cx [(2, .int 0), (3, .int 10), (0, .ref (ad 37)), (1, .int t)] d_X0_tick_82 (by decide) rfl ?_
  refine g_iconst cx 0 (by decide) d_X0_tick_83 ?_
  refine g_istore_n cx [(3, .int 0), (2, .int 0), (0, .ref (ad 37)), (1, .int t)] d_X0_tick_84 (by decide) rfl ?_
  refine g_iload_n cx 0 rfl d_X0_tick_85 ?_
  refine g_bipush cx 10 (by decide) d_X0_tick_86 ?_
  refine g_icmp_ge_f cx 110 d_X0_tick_88 (by decide) (by decide) ?_
  refine g_iload_n cx 1 rfl d_X0_tick_91 ?_
  refine g_iconst cx 1 (by decide) d_X0_tick_92 ?_
  refine g_iload_n cx 0 rfl d_X0_tick_93 ?_
  refine g_ishl cx d_X0_tick_94 ?_
  refine g_toi 1 (by decide) ?_
  refine g_iand cx d_X0_tick_95 ?_
  refine g_toi 0 (by decide) ?_
  refine g_if_eq_t cx 104 d_X0_tick_96 (by decide) (by decide) ?_
  refine g_iinc cx 1 [(3, .int 1), (2, .int 0), (0, .ref (ad 37)), (1, .int t)] 0 d_X0_tick_104 rfl (by decide) (by decide) rfl ?_
  refine g_goto cx 85 d_X0_tick_107 (by decide) ?_
  refine g_iload_n cx 0 rfl d_X0_tick_85 ?_
  refine g_bipush cx 10 (by decide) d_X0_tick_86 ?_
  refine g_icmp_ge_f cx 110 d_X0_tick_88 (by decide) (by decide) ?_
  refine g_iload_n cx 1 rfl d_X0_tick_91 ?_
  refine g_iconst cx 1 (by decide) d_X0_tick_92 ?_
  refine g_iload_n cx 0 rfl d_X0_tick_93 ?_
  refine g_ishl cx d_X0_tick_94 ?_
  refine g_toi 2 (by decide) ?_
  refine g_iand cx d_X0_tick_95 ?_
  refine g_toi 0 (by decide) ?_
  refine g_if_eq_t cx 104 d_X0_tick_96 (by decide) (by decide) ?_
  refine g_iinc cx 2 [(3, .int 2), (2, .int 0), (0, .ref (ad 37)), (1, .int t)] 0 d_X0_tick_104 rfl (by decide) (by decide) rfl ?_
  refine g_goto cx 85 d_X0_tick_107 (by decide) ?_
  refine g_iload_n cx 0 rfl d_X0_tick_85 ?_
  refine g_bipush cx 10 (by decide) d_X0_tick_86 ?_
  refine g_icmp_ge_f cx 110 d_X0_tick_88 (by decide) (by decide) ?_
  refine g_iload_n cx 1 rfl d_X0_tick_91 ?_
  refine g_iconst cx 1 (by decide) d_X0_tick_92 ?_
  refine g_iload_n cx 0 rfl d_X0_tick_93 ?_
  refine g_ishl cx d_X0_tick_94 ?_
  refine g_toi 4 (by decide) ?_
  refine g_iand cx d_X0_tick_95 ?_
  refine g_toi 0 (by decide) ?_
  refine g_if_eq_t cx 104 d_X0_tick_96 (by decide) (by decide) ?_
  refine g_iinc cx 3 [(3, .int 3), (2, .int 0), (0, .ref (ad 37)), (1, .int t)] 0 d_X0_tick_104 rfl (by decide) (by decide) rfl ?_
  refine g_goto cx 85 d_X0_tick_107 (by decide) ?_
  refine g_iload_n cx 0 rfl d_X0_tick_85 ?_
  refine g_bipush cx 10 (by decide) d_X0_tick_86 ?_
  refine g_icmp_ge_f cx 110 d_X0_tick_88 (by decide) (by decide) ?_
  refine g_iload_n cx 1 rfl d_X0_tick_91 ?_
  refine g_iconst cx 1 (by decide) d_X0_tick_92 ?_
  refine g_iload_n cx 0 rfl d_X0_tick_93 ?_
  refine g_ishl cx d_X0_tick_94 ?_
  refine g_toi 8 (by decide) ?_
  refine g_iand cx d_X0_tick_95 ?_
  refine g_toi 0 (by decide) ?_
  refine g_if_eq_t cx 104 d_X0_tick_96 (by decide) (by decide) ?_
  refine g_iinc cx 4 [(3, .int 4), (2, .int 0), (0, .ref (ad 37)), (1, .int t)] 0 d_X0_tick_104 rfl (by decide) (by decide) rfl ?_
  refine g_goto cx 85 d_X0_tick_107 (by decide) ?_
  refine g_iload_n cx 0 rfl d_X0_tick_85 ?_
  refine g_bipush cx 10 (by decide) d_X0_tick_86 ?_
  refine g_icmp_ge_f cx 110 d_X0_tick_88 (by decide) (by decide) ?_
  refine g_iload_n cx 1 rfl d_X0_tick_91 ?_
  refine g_iconst cx 1 (by decide) d_X0_tick_92 ?_
  refine g_iload_n cx 0 rfl d_X0_tick_93 ?_
  refine g_ishl cx d_X0_tick_94 ?_
  refine g_toi 16 (by decide) ?_
  refine g_iand cx d_X0_tick_95 ?_
  refine g_toi 0 (by decide) ?_
  refine g_if_eq_t cx 104 d_X0_tick_96 (by decide) (by decide) ?_
  refine g_iinc cx 5 [(3, .int 5), (2, .int 0), (0, .ref (ad 37)), (1, .int t)] 0 d_X0_tick_104 rfl (by decide) (by decide) rfl ?_
  refine g_goto cx 85 d_X0_tick_107 (by decide) ?_
  refine g_iload_n cx 0 rfl d_X0_tick_85 ?_
  refine g_bipush cx 10 (by decide) d_X0_tick_86 ?_
  refine g_icmp_ge_f cx 110 d_X0_tick_88 (by decide) (by decide) ?_
  refine g_iload_n cx 1 rfl d_X0_tick_91 ?_
  refine g_iconst cx 1 (by decide) d_X0_tick_92 ?_
  refine g_iload_n cx 0 rfl d_X0_tick_93 ?_
  refine g_ishl cx d_X0_tick_94 ?_
  refine g_toi 32 (by decide) ?_
  refine g_iand cx d_X0_tick_95 ?_
  refine g_toi 0 (by decide) ?_
  refine g_if_eq_t cx 104 d_X0_tick_96 (by decide) (by decide) ?_
  refine g_iinc cx 6 [(3, .int 6), (2, .int 0), (0, .ref (ad 37)), (1, .int t)] 0 d_X0_tick_104 rfl (by decide) (by decide) rfl ?_
  refine g_goto cx 85 d_X0_tick_107 (by decide) ?_
  refine g_iload_n cx 0 rfl d_X0_tick_85 ?_
  refine g_bipush cx 10 (by decide) d_X0_tick_86 ?_
  refine g_icmp_ge_f cx 110 d_X0_tick_88 (by decide) (by decide) ?_
  refine g_iload_n cx 1 rfl d_X0_tick_91 ?_
  refine g_iconst cx 1 (by decide) d_X0_tick_92 ?_
  refine g_iload_n cx 0 rfl d_X0_tick_93 ?_
  refine g_ishl cx d_X0_tick_94 ?_
  refine g_toi 64 (by decide) ?_
  refine g_iand cx d_X0_tick_95 ?_
  refine g_toi 0 (by decide) ?_
  refine g_if_eq_t cx 104 d_X0_tick_96 (by decide) (by decide) ?_
  refine g_iinc cx 7 [(3, .int 7), (2, .int 0), (0, .ref (ad 37)), (1, .int t)] 0 d_X0_tick_104 rfl (by decide) (by decide) rfl ?_
  refine g_goto cx 85 d_X0_tick_107 (by decide) ?_
  refine g_iload_n cx 0 rfl d_X0_tick_85 ?_
  refine g_bipush cx 10 (by decide) d_X0_tick_86 ?_
  refine g_icmp_ge_f cx 110 d_X0_tick_88 (by decide) (by decide) ?_
  refine g_iload_n cx 1 rfl d_X0_tick_91 ?_
  refine g_iconst cx 1 (by decide) d_X0_tick_92 ?_
  refine g_iload_n cx 0 rfl d_X0_tick_93 ?_
  refine g_ishl cx d_X0_tick_94 ?_
  refine g_toi 128 (by decide) ?_
  refine g_iand cx d_X0_tick_95 ?_
  refine g_toi 0 (by decide) ?_
  refine g_if_eq_t cx 104 d_X0_tick_96 (by decide) (by decide) ?_
  refine g_iinc cx 8 [(3, .int 8), (2, .int 0), (0, .ref (ad 37)), (1, .int t)] 0 d_X0_tick_104 rfl (by decide) (by decide) rfl ?_
  refine g_goto cx 85 d_X0_tick_107 (by decide) ?_
  refine g_iload_n cx 0 rfl d_X0_tick_85 ?_
  refine g_bipush cx 10 (by decide) d_X0_tick_86 ?_
  refine g_icmp_ge_f cx 110 d_X0_tick_88 (by decide) (by decide) ?_
  refine g_iload_n cx 1 rfl d_X0_tick_91 ?_
  refine g_iconst cx 1 (by decide) d_X0_tick_92 ?_
  refine g_iload_n cx 0 rfl d_X0_tick_93 ?_
  refine g_ishl cx d_X0_tick_94 ?_
  refine g_toi 256 (by decide) ?_
  refine g_iand cx d_X0_tick_95 ?_
  refine g_toi 0 (by decide) ?_
  refine g_if_eq_t cx 104 d_X0_tick_96 (by decide) (by decide) ?_
  refine g_iinc cx 9 [(3, .int 9), (2, .int 0), (0, .ref (ad 37)), (1, .int t)] 0 d_X0_tick_104 rfl (by decide) (by decide) rfl ?_
  refine g_goto cx 85 d_X0_tick_107 (by decide) ?_
  refine g_iload_n cx 0 rfl d_X0_tick_85 ?_
  refine g_bipush cx 10 (by decide) d_X0_tick_86 ?_
  refine g_icmp_ge_f cx 110 d_X0_tick_88 (by decide) (by decide) ?_
  refine g_iload_n cx 1 rfl d_X0_tick_91 ?_
  refine g_iconst cx 1 (by decide) d_X0_tick_92 ?_
  refine g_iload_n cx 0 rfl d_X0_tick_93 ?_
  refine g_ishl cx d_X0_tick_94 ?_
  refine g_toi 512 (by decide) ?_
  refine g_iand cx d_X0_tick_95 ?_
  refine g_toi 0 (by decide) ?_
  refine g_if_eq_t cx 104 d_X0_tick_96 (by decide) (by decide) ?_
  refine g_iinc cx 10 [(3, .int 10), (2, .int 0), (0, .ref (ad 37)), (1, .int t)] 0 d_X0_tick_104 rfl (by decide) (by decide) rfl ?_
  refine g_goto cx 85 d_X0_tick_107 (by decide) ?_
  refine g_iload_n cx 0 rfl d_X0_tick_85 ?_
  refine g_bipush cx 10 (by decide) d_X0_tick_86 ?_
  refine g_icmp_ge_t cx 110 d_X0_tick_88 (by decide) (by decide) ?_
  refine g_aload_n cx 2 rfl d_X0_tick_110 ?_
  refine g_cVvW cx [] [] (c_X0_lineUp l X ad (upd (upd zF4 605 0) 606 0) zR5  ((zp6.1 691 (by decide)).trans (h691))) ml_X0_123 yV_X0_lineUp d_X0_tick_111 (by unfold g_rr; decide) (by decide) 37 rfl rfl rfl (Nat.le_of_ble_eq_true rfl) (fun w14 h15 => ?_)
  obtain ⟨rfl, -⟩ := h15
  refine g_weq (wX X ad (upd (upd (upd zF4 602 0) 605 0) 606 0) zR5) rfl ?_
  refine g_iconst cx 0 (by decide) d_X0_tick_114 ?_
  refine g_istore_n cx [(3, .int 0), (2, .int 0), (0, .ref (ad 37)), (1, .int t)] d_X0_tick_115 (by decide) rfl ?_
  refine g_iload_n cx 0 rfl d_X0_tick_116 ?_
  refine g_iconst cx 1 (by decide) d_X0_tick_117 ?_
  refine g_iadd cx d_X0_tick_118 ?_
  refine g_toi 1 (by decide) ?_
  refine g_aload_n cx 2 rfl d_X0_tick_119 ?_
  refine g_get cx cl_X0 fl_X0_56 37 (.int 0) d_X0_tick_120 rfl rfl ?_
  refine g_icmp_ge_t cx 158 d_X0_tick_123 (by decide) (by decide) ?_
  refine g_aload_n cx 2 rfl d_X0_tick_158 ?_
  refine g_get cx cl_X0 fl_X0_35 37 (.ref (ad 43)) d_X0_tick_159 rfl rfl ?_
  refine g_cViW cx [] [] (c_X4_standingSet l X ad (upd (upd (upd zF4 602 0) 605 0) 606 0) zR5  ) ml_X0_101 yV_X4_standingSet d_X0_tick_162 (by unfold g_rr; decide) (by decide) 43 rfl rfl rfl (Nat.le_of_ble_eq_true rfl) (fun r16 w17 h18 => ?_)
  obtain ⟨rfl, rfl⟩ := h18
  refine g_toi 0 (g_ss0 ((zp6.1 691 (by decide)).trans (h691))) ?_
  refine g_istore_n cx [(2, .int 0), (3, .int 0), (0, .ref (ad 37)), (1, .int t)] d_X0_tick_165 (by decide) rfl ?_
  refine g_iconst cx 0 (by decide) d_X0_tick_166 ?_
  refine g_istore_n cx [(3, .int 0), (2, .int 0), (0, .ref (ad 37)), (1, .int t)] d_X0_tick_167 (by decide) rfl ?_
  refine g_iload_n cx 0 rfl d_X0_tick_168 ?_
  refine g_bipush cx 10 (by decide) d_X0_tick_169 ?_
  refine g_icmp_ge_f cx 193 d_X0_tick_171 (by decide) (by decide) ?_
  refine g_iload_n cx 1 rfl d_X0_tick_174 ?_
  refine g_iconst cx 1 (by decide) d_X0_tick_175 ?_
  refine g_iload_n cx 0 rfl d_X0_tick_176 ?_
  refine g_ishl cx d_X0_tick_177 ?_
  refine g_toi 1 (by decide) ?_
  refine g_iand cx d_X0_tick_178 ?_
  refine g_toi 0 (by decide) ?_
  refine g_if_eq_t cx 187 d_X0_tick_179 (by decide) (by decide) ?_
  refine g_iinc cx 1 [(3, .int 1), (2, .int 0), (0, .ref (ad 37)), (1, .int t)] 0 d_X0_tick_187 rfl (by decide) (by decide) rfl ?_
  refine g_goto cx 168 d_X0_tick_190 (by decide) ?_
  refine g_iload_n cx 0 rfl d_X0_tick_168 ?_
  refine g_bipush cx 10 (by decide) d_X0_tick_169 ?_
  refine g_icmp_ge_f cx 193 d_X0_tick_171 (by decide) (by decide) ?_
  refine g_iload_n cx 1 rfl d_X0_tick_174 ?_
  refine g_iconst cx 1 (by decide) d_X0_tick_175 ?_
  refine g_iload_n cx 0 rfl d_X0_tick_176 ?_
  refine g_ishl cx d_X0_tick_177 ?_
  refine g_toi 2 (by decide) ?_
  refine g_iand cx d_X0_tick_178 ?_
  refine g_toi 0 (by decide) ?_
  refine g_if_eq_t cx 187 d_X0_tick_179 (by decide) (by decide) ?_
  refine g_iinc cx 2 [(3, .int 2), (2, .int 0), (0, .ref (ad 37)), (1, .int t)] 0 d_X0_tick_187 rfl (by decide) (by decide) rfl ?_
  refine g_goto cx 168 d_X0_tick_190 (by decide) ?_
  refine g_iload_n cx 0 rfl d_X0_tick_168 ?_
  refine g_bipush cx 10 (by decide) d_X0_tick_169 ?_
  refine g_icmp_ge_f cx 193 d_X0_tick_171 (by decide) (by decide) ?_
  refine g_iload_n cx 1 rfl d_X0_tick_174 ?_
  refine g_iconst cx 1 (by decide) d_X0_tick_175 ?_
  refine g_iload_n cx 0 rfl d_X0_tick_176 ?_
  refine g_ishl cx d_X0_tick_177 ?_
  refine g_toi 4 (by decide) ?_
  refine g_iand cx d_X0_tick_178 ?_
  refine g_toi 0 (by decide) ?_
  refine g_if_eq_t cx 187 d_X0_tick_179 (by decide) (by decide) ?_
  refine g_iinc cx 3 [(3, .int 3), (2, .int 0), (0, .ref (ad 37)), (1, .int t)] 0 d_X0_tick_187 rfl (by decide) (by decide) rfl ?_
  refine g_goto cx 168 d_X0_tick_190 (by decide) ?_
  refine g_iload_n cx 0 rfl d_X0_tick_168 ?_
  refine g_bipush cx 10 (by decide) d_X0_tick_169 ?_
  refine g_icmp_ge_f cx 193 d_X0_tick_171 (by decide) (by decide) ?_
  refine g_iload_n cx 1 rfl d_X0_tick_174 ?_
  refine g_iconst cx 1 (by decide) d_X0_tick_175 ?_
  refine g_iload_n cx 0 rfl d_X0_tick_176 ?_
  refine g_ishl cx d_X0_tick_177 ?_
  refine g_toi 8 (by decide) ?_
  refine g_iand cx d_X0_tick_178 ?_
  refine g_toi 0 (by decide) ?_
  refine g_if_eq_t cx 187 d_X0_tick_179 (by decide) (by decide) ?_
  refine g_iinc cx 4 [(3, .int 4), (2, .int 0), (0, .ref (ad 37)), (1, .int t)] 0 d_X0_tick_187 rfl (by decide) (by decide) rfl ?_
  refine g_goto cx 168 d_X0_tick_190 (by decide) ?_
  refine g_iload_n cx 0 rfl d_X0_tick_168 ?_
  refine g_bipush cx 10 (by decide) d_X0_tick_169 ?_
  refine g_icmp_ge_f cx 193 d_X0_tick_171 (by decide) (by decide) ?_
  refine g_iload_n cx 1 rfl d_X0_tick_174 ?_
  refine g_iconst cx 1 (by decide) d_X0_tick_175 ?_
  refine g_iload_n cx 0 rfl d_X0_tick_176 ?_
  refine g_ishl cx d_X0_tick_177 ?_
  refine g_toi 16 (by decide) ?_
  refine g_iand cx d_X0_tick_178 ?_
  refine g_toi 0 (by decide) ?_
  refine g_if_eq_t cx 187 d_X0_tick_179 (by decide) (by decide) ?_
  refine g_iinc cx 5 [(3, .int 5), (2, .int 0), (0, .ref (ad 37)), (1, .int t)] 0 d_X0_tick_187 rfl (by decide) (by decide) rfl ?_
  refine g_goto cx 168 d_X0_tick_190 (by decide) ?_
  refine g_iload_n cx 0 rfl d_X0_tick_168 ?_
  refine g_bipush cx 10 (by decide) d_X0_tick_169 ?_
  refine g_icmp_ge_f cx 193 d_X0_tick_171 (by decide) (by decide) ?_
  refine g_iload_n cx 1 rfl d_X0_tick_174 ?_
  refine g_iconst cx 1 (by decide) d_X0_tick_175 ?_
  refine g_iload_n cx 0 rfl d_X0_tick_176 ?_
  refine g_ishl cx d_X0_tick_177 ?_
  refine g_toi 32 (by decide) ?_
  refine g_iand cx d_X0_tick_178 ?_
  refine g_toi 0 (by decide) ?_
  refine g_if_eq_t cx 187 d_X0_tick_179 (by decide) (by decide) ?_
  refine g_iinc cx 6 [(3, .int 6), (2, .int 0), (0, .ref (ad 37)), (1, .int t)] 0 d_X0_tick_187 rfl (by decide) (by decide) rfl ?_
  refine g_goto cx 168 d_X0_tick_190 (by decide) ?_
  refine g_iload_n cx 0 rfl d_X0_tick_168 ?_
  refine g_bipush cx 10 (by decide) d_X0_tick_169 ?_
  refine g_icmp_ge_f cx 193 d_X0_tick_171 (by decide) (by decide) ?_
  refine g_iload_n cx 1 rfl d_X0_tick_174 ?_
  refine g_iconst cx 1 (by decide) d_X0_tick_175 ?_
  refine g_iload_n cx 0 rfl d_X0_tick_176 ?_
  refine g_ishl cx d_X0_tick_177 ?_
  refine g_toi 64 (by decide) ?_
  refine g_iand cx d_X0_tick_178 ?_
  refine g_toi 0 (by decide) ?_
  refine g_if_eq_t cx 187 d_X0_tick_179 (by decide) (by decide) ?_
  refine g_iinc cx 7 [(3, .int 7), (2, .int 0), (0, .ref (ad 37)), (1, .int t)] 0 d_X0_tick_187 rfl (by decide) (by decide) rfl ?_
  refine g_goto cx 168 d_X0_tick_190 (by decide) ?_
  refine g_iload_n cx 0 rfl d_X0_tick_168 ?_
  refine g_bipush cx 10 (by decide) d_X0_tick_169 ?_
  refine g_icmp_ge_f cx 193 d_X0_tick_171 (by decide) (by decide) ?_
  refine g_iload_n cx 1 rfl d_X0_tick_174 ?_
  refine g_iconst cx 1 (by decide) d_X0_tick_175 ?_
  refine g_iload_n cx 0 rfl d_X0_tick_176 ?_
  refine g_ishl cx d_X0_tick_177 ?_
  refine g_toi 128 (by decide) ?_
  refine g_iand cx d_X0_tick_178 ?_
  refine g_toi 0 (by decide) ?_
  refine g_if_eq_t cx 187 d_X0_tick_179 (by decide) (by decide) ?_
  refine g_iinc cx 8 [(3, .int 8), (2, .int 0), (0, .ref (ad 37)), (1, .int t)] 0 d_X0_tick_187 rfl (by decide) (by decide) rfl ?_
  refine g_goto cx 168 d_X0_tick_190 (by decide) ?_
  refine g_iload_n cx 0 rfl d_X0_tick_168 ?_
  refine g_bipush cx 10 (by decide) d_X0_tick_169 ?_
  refine g_icmp_ge_f cx 193 d_X0_tick_171 (by decide) (by decide) ?_
  refine g_iload_n cx 1 rfl d_X0_tick_174 ?_
  refine g_iconst cx 1 (by decide) d_X0_tick_175 ?_
  refine g_iload_n cx 0 rfl d_X0_tick_176 ?_
  refine g_ishl cx d_X0_tick_177 ?_
  refine g_toi 256 (by decide) ?_
  refine g_iand cx d_X0_tick_178 ?_
  refine g_toi 0 (by decide) ?_
  refine g_if_eq_t cx 187 d_X0_tick_179 (by decide) (by decide) ?_
  refine g_iinc cx 9 [(3, .int 9), (2, .int 0), (0, .ref (ad 37)), (1, .int t)] 0 d_X0_tick_187 rfl (by decide) (by decide) rfl ?_
  refine g_goto cx 168 d_X0_tick_190 (by decide) ?_
  refine g_iload_n cx 0 rfl d_X0_tick_168 ?_
  refine g_bipush cx 10 (by decide) d_X0_tick_169 ?_
  refine g_icmp_ge_f cx 193 d_X0_tick_171 (by decide) (by decide) ?_
  refine g_iload_n cx 1 rfl d_X0_tick_174 ?_
  refine g_iconst cx 1 (by decide) d_X0_tick_175 ?_
  refine g_iload_n cx 0 rfl d_X0_tick_176 ?_
  refine g_ishl cx d_X0_tick_177 ?_
  refine g_toi 512 (by decide) ?_
  refine g_iand cx d_X0_tick_178 ?_
  refine g_toi 0 (by decide) ?_
  refine g_if_eq_t cx 187 d_X0_tick_179 (by decide) (by decide) ?_
  refine g_iinc cx 10 [(3, .int 10), (2, .int 0), (0, .ref (ad 37)), (1, .int t)] 0 d_X0_tick_187 rfl (by decide) (by decide) rfl ?_
  refine g_goto cx 168 d_X0_tick_190 (by decide) ?_
  refine g_iload_n cx 0 rfl d_X0_tick_168 ?_
  refine g_bipush cx 10 (by decide) d_X0_tick_169 ?_
  refine g_icmp_ge_t cx 193 d_X0_tick_171 (by decide) (by decide) ?_
  refine g_aload_n cx 2 rfl d_X0_tick_193 ?_
  refine g_get cx cl_X0 fl_X0_35 37 (.ref (ad 43)) d_X0_tick_194 rfl rfl ?_
  refine g_dup cx rfl d_X0_tick_197 ?_
  refine g_getN cx cl_X4 fn_X0_132 43 (.int (zF4 695)) d_X0_tick_198 rfl rfl ?_
  refine g_toi (F 695) (zp6.1 695 (by decide)) ?_
  refine g_toi 0 (h695) ?_
  refine g_aload_n cx 2 rfl d_X0_tick_201 ?_
  refine g_get cx cl_X0 fl_X0_68 37 (.int 0) d_X0_tick_202 rfl rfl ?_
  refine g_ior cx d_X0_tick_205 ?_
  refine g_toi 0 (by decide) ?_
  refine g_putN cx cl_X4 fn_X0_132 43 (wX X ad (upd (upd (upd (upd zF4 602 0) 605 0) 606 0) 695 0) zR5) d_X0_tick_206 rfl rfl rfl rfl (Nat.le_of_ble_eq_true rfl) rfl ?_
  exact hret d_X0_tick_209 (Nat.le_of_ble_eq_true rfl) (Nat.le_of_ble_eq_true rfl) ⟨(upd (upd (upd (upd zF4 602 0) 605 0) 606 0) 695 0), zR5, rfl, ⟨(by intro k hk; by_cases h5 : k = 695; (subst h5; exact h695.symm); (simp only [upd]; repeat (first | rw [if_neg (by omega)] | exact zp6.1 k (by omega)))), (by intro c hc; exact zp6.2 c hc)⟩⟩
