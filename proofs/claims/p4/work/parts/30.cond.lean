/-! ===== the reader of laws: conditions ===== -/
/-- the first that waits is the ( of the clause -/
def bt : List (Int × Nat) → Prop
  | [] => False
  | [q] => q.1 = 13
  | _ :: q :: L => bt (q :: L)
theorem bt_ne {L : List (Int × Nat)} (h : bt L) : ∃ (o : Int) (r : Nat) (L2 : List (Int × Nat)), L = (o, r) :: L2 := by
  cases L with
  | nil => exact h.elim
  | cons q L2 => exact ⟨q.1, q.2, L2, rfl⟩
theorem bt_cons {L : List (Int × Nat)} (q : Int × Nat) (h : bt L) : bt (q :: L) := by
  cases L with
  | nil => exact h.elim
  | cons p L2 => exact h
theorem bt_pop {L : List (Int × Nat)} {q : Int × Nat} (h : bt (q :: L)) (hq : q.1 ≠ 13) : bt L := by
  cases L with
  | nil => exact absurd h hq
  | cons p L2 => exact h
theorem bt_pop2 {L : List (Int × Nat)} {q : Int × Nat} (h : bt (q :: L)) (hl : 1 ≤ L.length) : bt L := by
  cases L with
  | nil => exact absurd hl (by decide)
  | cons p L2 => exact h
theorem cb_tl {L : List (Int × Nat)} {q : Int × Nat} (h : cb (q :: L) = 0) : cb L = 0 := by
  have h1 := cg_0 L
  simp only [cb] at h
  split at h <;> omega
theorem cb_hd {L : List (Int × Nat)} {q : Int × Nat} (h : cb L = 0) (hq : 7 ≤ q.1) : cb (q :: L) = 0 := by
  simp only [cb]
  rw [if_neg (by omega), h]
  rfl
/-- what a reader of conditions leaves alone -/
def FA (A : Nat × Nat) (F : Nat → Int32) (R : Nat → Nat → Int32) (F' : Nat → Int32) (R' : Nat → Nat → Int32) : Prop := (∀ k, k < A.1 → R' 12 k = R 12 k) ∧ (F 25).toInt ≤ (F' 25).toInt ∧ (F 15).toInt ≤ (F' 15).toInt
theorem FA_rf (A : Nat × Nat) (F : Nat → Int32) (R : Nat → Nat → Int32) : FA A F R F R := ⟨fun _ _ => rfl, Int.le_refl _, Int.le_refl _⟩
theorem FA_tr {A : Nat × Nat} {F F1 F2 : Nat → Int32} {R R1 R2 : Nat → Nat → Int32} (h : FA A F R F1 R1) (h2 : FA A F1 R1 F2 R2) : FA A F R F2 R2 :=
  ⟨fun k hk => (h2.1 k hk).trans (h.1 k hk), Int.le_trans h.2.1 h2.2.1, Int.le_trans h.2.2 h2.2.2⟩
theorem FA_e {A : Nat × Nat} {F F1 F2 : Nat → Int32} {R R1 R2 : Nat → Nat → Int32} (h : FA A F R F1 R1) (e25 : F2 25 = F1 25) (e15 : (F1 15).toInt ≤ (F2 15).toInt) (e12 : R2 12 = R1 12) : FA A F R F2 R2 :=
  FA_tr h ⟨fun k _ => by rw [e12], by rw [e25]; exact Int.le_refl _, e15⟩
theorem FA_k {A : Nat × Nat} {F F1 : Nat → Int32} {R R1 : Nat → Nat → Int32} {L : List (Int × Nat)} {h : Int} (p : PS F R A L h) (hk : FK F R F1 R1) : FA A F R F1 R1 :=
  ⟨fun k q => hk.1 k (Nat.lt_of_lt_of_le q p.1.1), hk.2.1, hk.2.2⟩
/-- a NOT is said, and waits no more -/
theorem PS_not {F F' : Nat → Int32} {R R' : Nat → Nat → Int32} {A : Nat × Nat} {L : List (Int × Nat)} {h : Int} {r : Nat} {x : Int32} (p : PS F R A ((10, r) :: L) h) (hh : 1 ≤ h) (h0 : 0 ≤ (F 25).toInt) (hx : x.toInt = 1048576 * 10) (e25 : (F' 25).toInt = (F 25).toInt + 1) (e26 : (F' 26).toInt = (F 26).toInt - 1) (e15 : F' 15 = F 15) (e12 : R' 12 = upd (R 12) (F 25).toInt.toNat x) (e13 : R' 13 = R 13) : PS F' R' A L h := by
  have hop : g_op x = 10 := by unfold g_op; omega
  obtain ⟨p1, p2, p3, p4, p5, p6⟩ := p
  simp only [cg] at p5
  rw [if_pos (Or.inr trivial)] at p5
  simp only [List.length_cons] at p3 p6
  have e : (F' 25).toInt.toNat = (F 25).toInt.toNat + 1 := by omega
  have hA := p1.1
  refine ⟨?_, ?_, by omega, ?_, by rw [e15]; omega, by rw [e15]; omega⟩
  · rw [e12, e]
    exact PC_note (PC_pop p1 (by omega)) ⟨fun q => absurd q (by omega), fun _ => by rw [p4]; omega, fun _ q => absurd q (by omega)⟩ (by omega)
  · rw [e13]
    exact p2.2.2.2.2
  · rw [e12, e, show (F 25).toInt.toNat + 1 - A.1 = ((F 25).toInt.toNat - A.1) + 1 from by omega, g_ht, g_ht_u (by omega), p4, show A.1 + ((F 25).toInt.toNat - A.1) = (F 25).toInt.toNat from by omega, g_us]
    have := g_dl_c x
    omega
/-- room for one more -/
theorem PS_slack {F F' : Nat → Int32} {R R' : Nat → Nat → Int32} {A : Nat × Nat} {L : List (Int × Nat)} {h : Int} (p : PS F R A L h) (e25 : F' 25 = F 25) (e26 : F' 26 = F 26) (e15 : (F' 15).toInt = (F 15).toInt + 1) (e12 : R' 12 = R 12) (e13 : R' 13 = R 13) : PS F' R' (A.1, A.2 + 1) L h := by
  obtain ⟨p1, p2, p3, p4, p5, p6⟩ := p
  unfold PS
  rw [e25, e26, e12, e13]
  exact ⟨p1, p2, p3, p4, by simp only; omega, by omega⟩
theorem PS_room2 {F : Nat → Int32} {R : Nat → Nat → Int32} {A : Nat × Nat} {L : List (Int × Nat)} {h : Int} (p : PS F R (A.1, A.2 + 1) L h) : (F 25).toInt + 1 ≤ (F 15).toInt := by
  have h1 := p.2.2.2.2.1
  have h2 := cg_0 L
  simp only at h1
  omega
theorem PS_how {F F' : Nat → Int32} {R R' : Nat → Nat → Int32} {A : Nat × Nat} {L : List (Int × Nat)} {h o : Int} {x : Int32} (p : PS F R (A.1, A.2 + 1) L h) (hh : 2 ≤ h) (ho : 7 ≤ o ∧ o ≤ 9) (h0 : 0 ≤ (F 25).toInt) (hx : x.toInt = 1048576 * o) (e25 : (F' 25).toInt = (F 25).toInt + 1) (e26 : F' 26 = F 26) (e15 : F' 15 = F 15) (e12 : R' 12 = upd (R 12) (F 25).toInt.toNat x) (e13 : R' 13 = R 13) : PS F' R' A L (h - 1) := by
  have hop : g_op x = o := by unfold g_op; omega
  obtain ⟨p1, p2, p3, p4, p5, p6⟩ := p
  simp only at p1 p4 p5
  have e : (F' 25).toInt.toNat = (F 25).toInt.toNat + 1 := by omega
  have hA := p1.1
  refine ⟨?_, ?_, by rw [e26]; exact p3, ?_, by rw [e15]; omega, by rw [e15]; omega⟩
  · rw [e12, e]
    exact PC_note p1 ⟨fun q => absurd q (by omega), fun _ => by rw [p4]; omega, fun _ _ => by rw [p4]; omega⟩ (by omega)
  · rw [e13]
    exact p2
  · rw [e12, e, show (F 25).toInt.toNat + 1 - A.1 = ((F 25).toInt.toNat - A.1) + 1 from by omega, g_ht, g_ht_u (by omega), p4, show A.1 + ((F 25).toInt.toNat - A.1) = (F 25).toInt.toNat from by omega, g_us]
    have := g_dl_c x
    omega
theorem PS_new {F F' : Nat → Int32} {R' : Nat → Nat → Int32} (h0 : 0 ≤ (F 25).toInt) (e25 : F' 25 = F 25) (e26 : F' 26 = 0) (e15 : (F 25).toInt ≤ (F' 15).toInt) : PS F' R' ((F 25).toInt.toNat, 0) [] 0 := by
  unfold PS
  rw [e25, e26]
  refine ⟨PC_0 _ _ (fun q hq => absurd hq List.not_mem_nil), trivial, rfl, ?_, ?_, ?_⟩
  · simp only [Nat.sub_self]
    rfl
  · simp only [cg]
    omega
  · simp only [List.length_nil]
    omega
/-- a jump that waits: where it stands -/
theorem WS_at {F : Nat → Int32} {w : Nat → Int32} {L : List (Int × Nat)} {o : Int} {r : Nat} {i x y : Int32} (h : WS w ((o, r) :: L)) (hl : (((o, r) :: L).length : Int) = (F 26).toInt) (ei : i.toInt = (F 26).toInt - 1) (ex : x = w i.toNatClampNeg) (ey : y.toInt = x.toInt % 1048576) : y.toInt = r := by
  have h1 := (WS_top h).2
  have e : i.toNatClampNeg = L.length := by
    have : i.toNatClampNeg = i.toInt.toNat := rfl
    simp only [List.length_cons] at hl
    omega
  rw [ex, e] at ey
  exact ey.trans h1
theorem PS_end {F : Nat → Int32} {R : Nat → Nat → Int32} {A : Nat × Nat} {L : List (Int × Nat)} {h : Int} (p : PS F R A L h) (e : (F 26).toInt = 0) : g_wf (R 12) A.1 (F 25).toInt.toNat := by
  have h3 := p.2.2.1
  cases L with
  | nil => exact PC_end p.1
  | cons q L => simp only [List.length_cons] at h3; omega

theorem e_X11_endsPiece_0 : g_dc cX11_endsPiece 0 (.aload_n 0) 1 1 := ⟨by decide +kernel, rfl⟩
theorem e_X11_endsPiece_1 : g_dc cX11_endsPiece 1 (.invokevirtual 241) 3 4 := ⟨by decide +kernel, rfl⟩
theorem e_X11_endsPiece_4 : g_dc cX11_endsPiece 4 (.bipush 10) 2 6 := ⟨by decide +kernel, rfl⟩
theorem e_X11_endsPiece_6 : g_dc cX11_endsPiece 6 (.if_icmp .ne 33) 3 9 := ⟨by decide +kernel, rfl⟩
theorem e_X11_endsPiece_9 : g_dc cX11_endsPiece 9 (.aload_n 0) 1 10 := ⟨by decide +kernel, rfl⟩
theorem e_X11_endsPiece_10 : g_dc cX11_endsPiece 10 (.bipush 10) 2 12 := ⟨by decide +kernel, rfl⟩
theorem e_X11_endsPiece_12 : g_dc cX11_endsPiece 12 (.iconst 0) 1 13 := ⟨by decide +kernel, rfl⟩
theorem e_X11_endsPiece_13 : g_dc cX11_endsPiece 13 (.invokevirtual 244) 3 16 := ⟨by decide +kernel, rfl⟩
theorem e_X11_endsPiece_16 : g_dc cX11_endsPiece 16 (.aload_n 0) 1 17 := ⟨by decide +kernel, rfl⟩
theorem e_X11_endsPiece_17 : g_dc cX11_endsPiece 17 (.aload_n 0) 1 18 := ⟨by decide +kernel, rfl⟩
theorem e_X11_endsPiece_18 : g_dc cX11_endsPiece 18 (.getfield 238) 3 21 := ⟨by decide +kernel, rfl⟩
theorem e_X11_endsPiece_21 : g_dc cX11_endsPiece 21 (.iconst 1) 1 22 := ⟨by decide +kernel, rfl⟩
theorem e_X11_endsPiece_22 : g_dc cX11_endsPiece 22 (.isub) 1 23 := ⟨by decide +kernel, rfl⟩
theorem e_X11_endsPiece_23 : g_dc cX11_endsPiece 23 (.putfield 238) 3 26 := ⟨by decide +kernel, rfl⟩
theorem e_X11_endsPiece_26 : g_dc cX11_endsPiece 26 (.aload_n 0) 1 27 := ⟨by decide +kernel, rfl⟩
theorem e_X11_endsPiece_27 : g_dc cX11_endsPiece 27 (.aload_n 0) 1 28 := ⟨by decide +kernel, rfl⟩
theorem e_X11_endsPiece_28 : g_dc cX11_endsPiece 28 (.getfield 235) 3 31 := ⟨by decide +kernel, rfl⟩
theorem e_X11_endsPiece_31 : g_dc cX11_endsPiece 31 (.iconst 1) 1 32 := ⟨by decide +kernel, rfl⟩
theorem e_X11_endsPiece_32 : g_dc cX11_endsPiece 32 (.isub) 1 33 := ⟨by decide +kernel, rfl⟩
theorem e_X11_endsPiece_33 : g_dc cX11_endsPiece 33 (.putfield 235) 3 36 := ⟨by decide +kernel, rfl⟩
theorem e_X11_endsPiece_36 : g_dc cX11_endsPiece 36 (.goto (-36)) 3 39 := ⟨by decide +kernel, rfl⟩
theorem e_X11_endsPiece_39 : g_dc cX11_endsPiece 39 (.return_) 1 40 := ⟨by decide +kernel, rfl⟩
def md_X11_endsPiece : List Nat := [24, 25, 26]
def mr_X11_endsPiece : List Nat := [12]
set_option maxHeartbeats 4000000 in
set_option maxRecDepth 100000 in
theorem w_X11_endsPiece (l : Launch) (X : gX) (ad : Nat → Nat) (F : Nat → Int32) (R : Nat → Nat → Int32) (hI : g_ok LK_wM F) (hA : g_okR LA_wM R) (hWT : WT F R) (hWC : WC F R) (A : Nat × Nat) (L : List (Int × Nat)) (h : Int) (hps : PS F R A L h) (hh : 1 ≤ h) (hcb : cb L = 0) (hbt : bt L) : g_Cv l X yX11_endsPiece cX11_endsPiece 1 2 0 0 [.ref (ad 0)] (wM X ad F R) (fun w => ∃ (F' : Nat → Int32) (R' : Nat → Nat → Int32), w = wM X ad F' R' ∧ g_ok LK_wM F' ∧ g_okR LA_wM R' ∧ WT F' R' ∧ WC F' R' ∧ g_fr md_X11_endsPiece F F' ∧ g_fr mr_X11_endsPiece R R' ∧ (∃ L1 : List (Int × Nat), PS F' R' A L1 h ∧ cb L1 = 0 ∧ bt L1 ∧ FK F R F' R')) := by
  refine g_mv (by decide +kernel) (Nat.le_of_ble_eq_true rfl) (fun E cx hret => ?_)
  have J0 : ∀ (N : Nat) (F1 : Nat → Int32) (R2 : Nat → Nat → Int32), (g_ok LK_wM F1) → (g_fr md_X11_endsPiece F F1) → (g_okR LA_wM R2) → (g_fr mr_X11_endsPiece R R2) → (WT F1 R2) → (WC F1 R2) → (∃ L1 : List (Int × Nat), PS F1 R2 A L1 h ∧ cb L1 = 0 ∧ bt L1 ∧ FK F R F1 R2) → (F1 26).toInt.toNat < N → G X E 1 0 0 (wM X ad F1 R2) [(0, .ref (ad 0))] 0 [] := by
    intro N
    induction N with
    | zero => intro F1 R2 oF1 fF1 oR2 fR2 wTF1R2 wCF1R2 zq0_0 hm; exact absurd hm (Nat.not_lt_zero _)
    | succ N ih0 =>
      intro F1 R2 oF1 fF1 oR2 fR2 wTF1R2 wCF1R2 zq0_0 hm0
      obtain ⟨L1, ps, hc, hb, fk⟩ := zq0_0
      refine g_aload_n cx 0 rfl e_X11_endsPiece_0 ?_
      refine g_cViW cx [] [] (w_X11_waitTop l X ad F1 R2 oF1 oR2 (L1) ps.2.1 ps.2.2.1) ml_X11_241 yV_X11_waitTop e_X11_endsPiece_1 (by unfold g_rr; decide) (by decide) 0 rfl rfl rfl (Nat.le_of_ble_eq_true rfl) (fun r3 w4 h5 => ?_)
      obtain ⟨rfl, pr3, zx6⟩ := h5
      refine g_bipush cx 10 (by decide) e_X11_endsPiece_4 ?_
      refine g_icmp_ne cx 39 e_X11_endsPiece_6 (by decide) (fun zc7 => ?_) (fun zc7 => ?_)
      · exact hret e_X11_endsPiece_39 (Nat.le_of_ble_eq_true rfl) (Nat.le_of_ble_eq_true rfl) ⟨F1, R2, rfl, oF1, oR2, wTF1R2, wCF1R2, fF1, fR2, ⟨L1, ps, hc, hb, fk⟩⟩
      · have p8 := gn_eq 10 10 (gc_eq zc7) pr3 (jv_k (x := 10) 10 (by decide)) (by decide)
        obtain ⟨o, r, L2, rfl⟩ := tp_cons (L := L1) (by have q0 := (jv_k (x := 10) 10 (by decide)).1; have q1 := (jv_k (x := 10) 10 (by decide)).2; have q2 := (g_ok_g oF1 8 rfl).1; have q3 := (g_ok_g oF1 8 rfl).2; have q4 := p8.1; have q5 := p8.2; have q6 := zx6; have q7 := (gc_eq zc7); omega)
        obtain rfl : o = 10 := (show tp ((o, r) :: L2) = 10 from by have q0 := (jv_k (x := 10) 10 (by decide)).1; have q1 := (jv_k (x := 10) 10 (by decide)).2; have q2 := (g_ok_g oF1 8 rfl).1; have q3 := (g_ok_g oF1 8 rfl).2; have q4 := p8.1; have q5 := p8.2; have q6 := zx6; have q7 := (gc_eq zc7); omega)
        have hroom := PS_room ps (Or.inr rfl)
        have hlen : 1 ≤ (F1 26).toInt := by have q := ps.2.2.1; simp only [List.length_cons] at q; omega
        refine g_aload_n cx 0 rfl e_X11_endsPiece_9 ?_
        refine g_bipush cx 10 (by decide) e_X11_endsPiece_10 ?_
        refine g_iconst cx 0 (by decide) e_X11_endsPiece_12 ?_
        refine g_cVvW cx [.int 10, .int 0] [] (w_X11_notes l X ad F1 R2 oF1 oR2 wTF1R2 wCF1R2 10 0 (jv_w (jv_k (x := 10) 10 (by decide)) (by decide)) (jv_w (jv_k (x := 0) 0 (by decide)) (by decide)) (by have q0 := (g_ok_g oF1 1 rfl).1; have q1 := (g_ok_g oF1 1 rfl).2; have q2 := (g_ok_g oF1 7 rfl).1; have q3 := (g_ok_g oF1 7 rfl).2; have q4 := hroom; omega)) ml_X11_244 yV_X11_notes e_X11_endsPiece_13 (by unfold g_rr; decide) (by decide) 0 rfl rfl rfl (Nat.le_of_ble_eq_true rfl) (fun w10 h11 => ?_)
        obtain ⟨F14, R15, rfl, oF14, oR15, wTF14, wCF14, cF14, cR15, zx12, zx13⟩ := h11
        have fF14 : g_fr md_X11_endsPiece F F14 := g_fr_c fF1 cF14 rfl
        have fR15 : g_fr mr_X11_endsPiece R R15 := g_fr_c fR2 cR15 rfl
        refine g_aload_n cx 0 rfl e_X11_endsPiece_16 ?_
        refine g_aload_n cx 0 rfl e_X11_endsPiece_17 ?_
        refine g_get cx cl_X11 fl_X11_238 0 (.int (F14 26)) e_X11_endsPiece_18 rfl rfl ?_
        refine g_toi (F1 26) (cF14 26 rfl) ?_
        refine g_iconst cx 1 (by decide) e_X11_endsPiece_21 ?_
        refine g_isub cx e_X11_endsPiece_22 ?_
        refine g_topi (fun x16 ex16 => ?_)
        have zx16 := jv_sub (-1) 219 ex16 (g_ok_g oF1 8 rfl) (jv_k (x := 1) 1 (by decide)) (by decide)
        refine g_put cx cl_X11 fl_X11_238 0 (wM X ad (upd F14 26 x16) R15) e_X11_endsPiece_23 rfl rfl rfl rfl (Nat.le_of_ble_eq_true rfl) rfl ?_
        obtain ⟨F17, hF17⟩ : ∃ z, z = upd F14 26 x16 := ⟨_, rfl⟩
        rw [← hF17]
        have oF17 : g_ok LK_wM F17 := by rw [hF17]; exact g_ok_p oF14 (show jv 0 220 _ from ⟨by have q0 := (jv_k (x := 1) 1 (by decide)).1; have q1 := (jv_k (x := 1) 1 (by decide)).2; have q2 := (jv_k (x := 10) 10 (by decide)).1; have q3 := (jv_k (x := 10) 10 (by decide)).2; have q4 := (g_ok_g oF1 8 rfl).1; have q5 := (g_ok_g oF1 8 rfl).2; have q6 := p8.1; have q7 := p8.2; have q8 := zx16.2.1; have q9 := zx16.2.2; have q10 := zx6; have q11 := (gc_eq zc7); have q12 := hlen; have q13 := (g_eq0 zx16.1); omega, by have q0 := (jv_k (x := 1) 1 (by decide)).1; have q1 := (jv_k (x := 1) 1 (by decide)).2; have q2 := (jv_k (x := 10) 10 (by decide)).1; have q3 := (jv_k (x := 10) 10 (by decide)).2; have q4 := (g_ok_g oF1 8 rfl).1; have q5 := (g_ok_g oF1 8 rfl).2; have q6 := p8.1; have q7 := p8.2; have q8 := zx16.2.1; have q9 := zx16.2.2; have q10 := zx6; have q11 := (gc_eq zc7); have q12 := hlen; have q13 := (g_eq0 zx16.1); omega⟩) rfl
        have fF17 : g_fr md_X11_endsPiece F F17 := by rw [hF17]; exact g_fr_u fF14 rfl
        have wTF17 : WT F17 R15 := by rw [hF17]; exact WT_u wTF14 rfl
        have wCF17 : WC F17 R15 := by rw [hF17]; exact WC_u wCF14 rfl
        refine g_aload_n cx 0 rfl e_X11_endsPiece_26 ?_
        refine g_aload_n cx 0 rfl e_X11_endsPiece_27 ?_
        refine g_get cx cl_X11 fl_X11_235 0 (.int (F17 24)) e_X11_endsPiece_28 rfl rfl ?_
        refine g_toi (F1 24) ((g_pu2 hF17 rfl).trans (cF14 24 rfl)) ?_
        refine g_iconst cx 1 (by decide) e_X11_endsPiece_31 ?_
        refine g_isub cx e_X11_endsPiece_32 ?_
        refine g_topi (fun x18 ex18 => ?_)
        refine g_put cx cl_X11 fl_X11_235 0 (wM X ad (upd F17 24 x18) R15) e_X11_endsPiece_33 rfl rfl rfl rfl (Nat.le_of_ble_eq_true rfl) rfl ?_
        obtain ⟨F19, hF19⟩ : ∃ z, z = upd F17 24 x18 := ⟨_, rfl⟩
        rw [← hF19]
        have oF19 : g_ok LK_wM F19 := by rw [hF19]; exact g_ok_p oF17 (jv_t x18) rfl
        have fF19 : g_fr md_X11_endsPiece F F19 := by rw [hF19]; exact g_fr_u fF17 rfl
        have wTF19 : WT F19 R15 := by rw [hF19]; exact WT_u wTF17 rfl
        have wCF19 : WC F19 R15 := by rw [hF19]; exact WC_u wCF17 rfl
        refine g_goto cx 0 e_X11_endsPiece_36 (by decide) ?_
        exact ih0 F19 R15 oF19 fF19 oR15 fR15 wTF19 wCF19 ((by
        obtain ⟨x, hx, e12⟩ := zx13
        have e12 : R15 12 = upd (R2 12) (F1 25).toInt.toNat x := (e12.trans (by rw [show R2 12 = R2 12 from rfl, show (F1 25) = (F1 25) from rfl]))
        have e25 : (F19 25).toInt = (F1 25).toInt + 1 := by have q0 := (g_ok_g oF1 1 rfl).1; have q1 := (g_ok_g oF1 1 rfl).2; have q2 := (g_ok_g oF1 7 rfl).1; have q3 := (g_ok_g oF1 7 rfl).2; have q4 := (g_ok_g oF14 7 rfl).1; have q5 := (g_ok_g oF14 7 rfl).2; have q6 := (g_ok_g oF19 7 rfl).1; have q7 := (g_ok_g oF19 7 rfl).2; have q8 := hroom; have q9 := zx12; have q10 := (congrArg Int32.toInt (show F19 25 = F14 25 from ((g_pu2 hF19 rfl).trans (g_pu2 hF17 rfl)))); omega
        exact ⟨L2, PS_not ps hh (by have q0 := (g_ok_g oF1 1 rfl).1; have q1 := (g_ok_g oF1 1 rfl).2; have q2 := (g_ok_g oF1 7 rfl).1; have q3 := (g_ok_g oF1 7 rfl).2; have q4 := (g_ok_g oF14 7 rfl).1; have q5 := (g_ok_g oF14 7 rfl).2; have q6 := (g_ok_g oF19 7 rfl).1; have q7 := (g_ok_g oF19 7 rfl).2; have q8 := hroom; have q9 := zx12; have q10 := (congrArg Int32.toInt (show F19 25 = F14 25 from ((g_pu2 hF19 rfl).trans (g_pu2 hF17 rfl)))); omega) (by rw [hx]; have z0 : (0 : Int32).toInt = 0 := rfl; have z1 : (10 : Int32).toInt = 10 := rfl; omega) e25 (by have q0 := (jv_k (x := 1) 1 (by decide)).1; have q1 := (jv_k (x := 1) 1 (by decide)).2; have q2 := (jv_k (x := 10) 10 (by decide)).1; have q3 := (jv_k (x := 10) 10 (by decide)).2; have q4 := (g_ok_g oF1 8 rfl).1; have q5 := (g_ok_g oF1 8 rfl).2; have q6 := (g_ok_g oF19 8 rfl).1; have q7 := (g_ok_g oF19 8 rfl).2; have q8 := p8.1; have q9 := p8.2; have q10 := zx16.2.1; have q11 := zx16.2.2; have q12 := zx6; have q13 := (gc_eq zc7); have q14 := hlen; have q15 := (g_eq0 zx16.1); have q16 := (congrArg Int32.toInt (show F19 26 = x16 from ((g_pu2 hF19 rfl).trans (g_pu1 hF17)))); omega) (((((g_pu2 hF19 rfl).trans (g_pu2 hF17 rfl)).trans (cF14 15 rfl)).trans (fF1 15 rfl)).trans (fF1 15 rfl).symm) e12 (cR15 13 rfl), cb_tl hc, bt_pop hb (by simp), FK_tr fk ⟨fun k hk => by rw [e12, g_un (by rw [bne_iff_ne]; intro q; omega)], by omega, (Int.le_of_eq (congrArg Int32.toInt (((((g_pu2 hF19 rfl).trans (g_pu2 hF17 rfl)).trans (cF14 15 rfl)).trans (fF1 15 rfl)).trans (fF1 15 rfl).symm)).symm)⟩⟩)) (Nat.lt_of_lt_of_le (show (F19 26).toInt.toNat < (F1 26).toInt.toNat from by have q0 := (jv_k (x := 1) 1 (by decide)).1; have q1 := (jv_k (x := 1) 1 (by decide)).2; have q2 := (jv_k (x := 10) 10 (by decide)).1; have q3 := (jv_k (x := 10) 10 (by decide)).2; have q4 := (g_ok_g oF1 8 rfl).1; have q5 := (g_ok_g oF1 8 rfl).2; have q6 := (g_ok_g oF19 8 rfl).1; have q7 := (g_ok_g oF19 8 rfl).2; have q8 := p8.1; have q9 := p8.2; have q10 := zx16.2.1; have q11 := zx16.2.2; have q12 := zx6; have q13 := (gc_eq zc7); have q14 := hlen; have q15 := (g_eq0 zx16.1); have q16 := (congrArg Int32.toInt (show F19 26 = x16 from ((g_pu2 hF19 rfl).trans (g_pu1 hF17)))); have q17 := (congrArg Int32.toInt (show F19 26 = x16 from ((g_pu2 hF19 rfl).trans (g_pu1 hF17)))); have q18 := (congrArg Int32.toInt (show F19 26 = x16 from ((g_pu2 hF19 rfl).trans (g_pu1 hF17)))); omega) (Nat.le_of_lt_succ hm0))
  exact J0 _ F R hI (g_fr_rf F) hA (g_fr_rf R) hWT hWC (⟨L, hps, hcb, hbt, FK_rf F R⟩) (Nat.lt_succ_self _)
theorem e_X11_lands_0 : g_dc cX11_lands 0 (.aload_n 0) 1 1 := ⟨by decide +kernel, rfl⟩
theorem e_X11_lands_1 : g_dc cX11_lands 1 (.invokevirtual 241) 3 4 := ⟨by decide +kernel, rfl⟩
theorem e_X11_lands_4 : g_dc cX11_lands 4 (.bipush 11) 2 6 := ⟨by decide +kernel, rfl⟩
theorem e_X11_lands_6 : g_dc cX11_lands 6 (.if_icmp .eq 16) 3 9 := ⟨by decide +kernel, rfl⟩
theorem e_X11_lands_9 : g_dc cX11_lands 9 (.iload_n 1) 1 10 := ⟨by decide +kernel, rfl⟩
theorem e_X11_lands_10 : g_dc cX11_lands 10 (.ifCond .eq 63) 3 13 := ⟨by decide +kernel, rfl⟩
theorem e_X11_lands_13 : g_dc cX11_lands 13 (.aload_n 0) 1 14 := ⟨by decide +kernel, rfl⟩
theorem e_X11_lands_14 : g_dc cX11_lands 14 (.invokevirtual 241) 3 17 := ⟨by decide +kernel, rfl⟩
theorem e_X11_lands_17 : g_dc cX11_lands 17 (.bipush 12) 2 19 := ⟨by decide +kernel, rfl⟩
theorem e_X11_lands_19 : g_dc cX11_lands 19 (.if_icmp .ne 54) 3 22 := ⟨by decide +kernel, rfl⟩
theorem e_X11_lands_22 : g_dc cX11_lands 22 (.aload_n 0) 1 23 := ⟨by decide +kernel, rfl⟩
theorem e_X11_lands_23 : g_dc cX11_lands 23 (.getfield 47) 3 26 := ⟨by decide +kernel, rfl⟩
theorem e_X11_lands_26 : g_dc cX11_lands 26 (.aload_n 0) 1 27 := ⟨by decide +kernel, rfl⟩
theorem e_X11_lands_27 : g_dc cX11_lands 27 (.getfield 238) 3 30 := ⟨by decide +kernel, rfl⟩
theorem e_X11_lands_30 : g_dc cX11_lands 30 (.iconst 1) 1 31 := ⟨by decide +kernel, rfl⟩
theorem e_X11_lands_31 : g_dc cX11_lands 31 (.isub) 1 32 := ⟨by decide +kernel, rfl⟩
theorem e_X11_lands_32 : g_dc cX11_lands 32 (.iaload) 1 33 := ⟨by decide +kernel, rfl⟩
theorem e_X11_lands_33 : g_dc cX11_lands 33 (.ldc 234) 2 35 := ⟨by decide +kernel, rfl⟩
theorem e_X11_lands_35 : g_dc cX11_lands 35 (.irem) 1 36 := ⟨by decide +kernel, rfl⟩
theorem e_X11_lands_36 : g_dc cX11_lands 36 (.istore_n 2) 1 37 := ⟨by decide +kernel, rfl⟩
theorem e_X11_lands_37 : g_dc cX11_lands 37 (.aload_n 0) 1 38 := ⟨by decide +kernel, rfl⟩
theorem e_X11_lands_38 : g_dc cX11_lands 38 (.getfield 44) 3 41 := ⟨by decide +kernel, rfl⟩
theorem e_X11_lands_41 : g_dc cX11_lands 41 (.iload_n 2) 1 42 := ⟨by decide +kernel, rfl⟩
theorem e_X11_lands_42 : g_dc cX11_lands 42 (.ldc 234) 2 44 := ⟨by decide +kernel, rfl⟩
theorem e_X11_lands_44 : g_dc cX11_lands 44 (.aload_n 0) 1 45 := ⟨by decide +kernel, rfl⟩
theorem e_X11_lands_45 : g_dc cX11_lands 45 (.getfield 44) 3 48 := ⟨by decide +kernel, rfl⟩
theorem e_X11_lands_48 : g_dc cX11_lands 48 (.iload_n 2) 1 49 := ⟨by decide +kernel, rfl⟩
theorem e_X11_lands_49 : g_dc cX11_lands 49 (.iaload) 1 50 := ⟨by decide +kernel, rfl⟩
theorem e_X11_lands_50 : g_dc cX11_lands 50 (.ldc 234) 2 52 := ⟨by decide +kernel, rfl⟩
theorem e_X11_lands_52 : g_dc cX11_lands 52 (.idiv) 1 53 := ⟨by decide +kernel, rfl⟩
theorem e_X11_lands_53 : g_dc cX11_lands 53 (.imul) 1 54 := ⟨by decide +kernel, rfl⟩
theorem e_X11_lands_54 : g_dc cX11_lands 54 (.aload_n 0) 1 55 := ⟨by decide +kernel, rfl⟩
theorem e_X11_lands_55 : g_dc cX11_lands 55 (.getfield 231) 3 58 := ⟨by decide +kernel, rfl⟩
theorem e_X11_lands_58 : g_dc cX11_lands 58 (.iadd) 1 59 := ⟨by decide +kernel, rfl⟩
theorem e_X11_lands_59 : g_dc cX11_lands 59 (.iastore) 1 60 := ⟨by decide +kernel, rfl⟩
theorem e_X11_lands_60 : g_dc cX11_lands 60 (.aload_n 0) 1 61 := ⟨by decide +kernel, rfl⟩
theorem e_X11_lands_61 : g_dc cX11_lands 61 (.aload_n 0) 1 62 := ⟨by decide +kernel, rfl⟩
theorem e_X11_lands_62 : g_dc cX11_lands 62 (.getfield 238) 3 65 := ⟨by decide +kernel, rfl⟩
theorem e_X11_lands_65 : g_dc cX11_lands 65 (.iconst 1) 1 66 := ⟨by decide +kernel, rfl⟩
theorem e_X11_lands_66 : g_dc cX11_lands 66 (.isub) 1 67 := ⟨by decide +kernel, rfl⟩
theorem e_X11_lands_67 : g_dc cX11_lands 67 (.putfield 238) 3 70 := ⟨by decide +kernel, rfl⟩
theorem e_X11_lands_70 : g_dc cX11_lands 70 (.goto (-70)) 3 73 := ⟨by decide +kernel, rfl⟩
theorem e_X11_lands_73 : g_dc cX11_lands 73 (.return_) 1 74 := ⟨by decide +kernel, rfl⟩
def md_X11_lands : List Nat := [26]
def mr_X11_lands : List Nat := [12]
set_option maxHeartbeats 4000000 in
set_option maxRecDepth 100000 in
theorem w_X11_lands (l : Launch) (X : gX) (ad : Nat → Nat) (F : Nat → Int32) (R : Nat → Nat → Int32) (hI : g_ok LK_wM F) (hA : g_okR LA_wM R) (hWT : WT F R) (hWC : WC F R) (a0 : Int32) (pa0 : jv 0 1 a0) (A : Nat × Nat) (L : List (Int × Nat)) (hps : PS F R A L 1) (hcb : cb L = 0) (hbt : bt L) : g_Cv l X yX11_lands cX11_lands 3 2 0 0 [.ref (ad 0), .int a0] (wM X ad F R) (fun w => ∃ (F' : Nat → Int32) (R' : Nat → Nat → Int32), w = wM X ad F' R' ∧ g_ok LK_wM F' ∧ g_okR LA_wM R' ∧ WT F' R' ∧ WC F' R' ∧ g_fr md_X11_lands F F' ∧ g_fr mr_X11_lands R R' ∧ (∃ L1 : List (Int × Nat), PS F' R' A L1 1 ∧ cb L1 = 0 ∧ bt L1 ∧ tp L1 ≠ 11 ∧ (¬ a0 = 0 → tp L1 ≠ 12) ∧ (∀ k, k < A.1 → R' 12 k = R 12 k))) := by
  refine g_mv (by decide +kernel) (Nat.le_of_ble_eq_true rfl) (fun E cx hret => ?_)
  have J0 : ∀ (N : Nat) (F1 : Nat → Int32) (R2 : Nat → Nat → Int32), (g_ok LK_wM F1) → (g_fr md_X11_lands F F1) → (g_okR LA_wM R2) → (g_fr mr_X11_lands R R2) → (WT F1 R2) → (WC F1 R2) → (∃ L1 : List (Int × Nat), PS F1 R2 A L1 1 ∧ cb L1 = 0 ∧ bt L1 ∧ (∀ k, k < A.1 → R2 12 k = R 12 k)) → (F1 26).toInt.toNat < N → G X E 3 0 0 (wM X ad F1 R2) [(0, .ref (ad 0)), (1, .int a0)] 0 [] := by
    intro N
    induction N with
    | zero => intro F1 R2 oF1 fF1 oR2 fR2 wTF1R2 wCF1R2 zq0_0 hm; exact absurd hm (Nat.not_lt_zero _)
    | succ N ih0 =>
      intro F1 R2 oF1 fF1 oR2 fR2 wTF1R2 wCF1R2 zq0_0 hm0
      obtain ⟨L1, ps, hc, hb, hk⟩ := zq0_0
      refine g_aload_n cx 0 rfl e_X11_lands_0 ?_
      refine g_cViW cx [] [] (w_X11_waitTop l X ad F1 R2 oF1 oR2 (L1) ps.2.1 ps.2.2.1) ml_X11_241 yV_X11_waitTop e_X11_lands_1 (by unfold g_rr; decide) (by decide) 0 rfl rfl rfl (Nat.le_of_ble_eq_true rfl) (fun r3 w4 h5 => ?_)
      obtain ⟨rfl, pr3, zx6⟩ := h5
      refine g_bipush cx 11 (by decide) e_X11_lands_4 ?_
      refine g_icmp_eq cx 22 e_X11_lands_6 (by decide) (fun zc7 => ?_) (fun zc7 => ?_)
      · have p8 := gn_eq 11 11 (gc_eq zc7) pr3 (jv_k (x := 11) 11 (by decide)) (by decide)
        obtain ⟨o, r, L2, rfl⟩ := tp_cons (L := L1) (by have q0 := (jv_k (x := 11) 11 (by decide)).1; have q1 := (jv_k (x := 11) 11 (by decide)).2; have q2 := (g_ok_g oF1 8 rfl).1; have q3 := (g_ok_g oF1 8 rfl).2; have q4 := p8.1; have q5 := p8.2; have q6 := zx6; have q7 := (gc_eq zc7); omega)
        have ho : o = 11 ∨ o = 12 := (show tp ((o, r) :: L2) = 11 ∨ tp ((o, r) :: L2) = 12 from by have q0 := (jv_k (x := 11) 11 (by decide)).1; have q1 := (jv_k (x := 11) 11 (by decide)).2; have q2 := (g_ok_g oF1 8 rfl).1; have q3 := (g_ok_g oF1 8 rfl).2; have q4 := p8.1; have q5 := p8.2; have q6 := zx6; have q7 := (gc_eq zc7); omega)
        have hat := PS_at ps (by omega)
        have hlen : 1 ≤ (F1 26).toInt := by have q := ps.2.2.1; simp only [List.length_cons] at q; omega
        refine g_aload_n cx 0 rfl e_X11_lands_22 ?_
        refine g_get cx cl_X11 fl_X11_47 0 (.ref (ad 13)) e_X11_lands_23 rfl rfl ?_
        refine g_aload_n cx 0 rfl e_X11_lands_26 ?_
        refine g_get cx cl_X11 fl_X11_238 0 (.int (F1 26)) e_X11_lands_27 rfl rfl ?_
        refine g_iconst cx 1 (by decide) e_X11_lands_30 ?_
        refine g_isub cx e_X11_lands_31 ?_
        refine g_topi (fun x9 ex9 => ?_)
        have zx9 := jv_sub (-1) 219 ex9 (g_ok_g oF1 8 rfl) (jv_k (x := 1) 1 (by decide)) (by decide)
        have p10 : jv 0 219 x9 := ⟨by have q0 := (jv_k (x := 1) 1 (by decide)).1; have q1 := (jv_k (x := 1) 1 (by decide)).2; have q2 := (jv_k (x := 11) 11 (by decide)).1; have q3 := (jv_k (x := 11) 11 (by decide)).2; have q4 := (g_ok_g oF1 8 rfl).1; have q5 := (g_ok_g oF1 8 rfl).2; have q6 := p8.1; have q7 := p8.2; have q8 := zx9.2.1; have q9 := zx9.2.2; have q10 := zx6; have q11 := (gc_eq zc7); have q12 := hlen; have q13 := (g_eq0 zx9.1); omega, by have q0 := (jv_k (x := 1) 1 (by decide)).1; have q1 := (jv_k (x := 1) 1 (by decide)).2; have q2 := (jv_k (x := 11) 11 (by decide)).1; have q3 := (jv_k (x := 11) 11 (by decide)).2; have q4 := (g_ok_g oF1 8 rfl).1; have q5 := (g_ok_g oF1 8 rfl).2; have q6 := p8.1; have q7 := p8.2; have q8 := zx9.2.1; have q9 := zx9.2.2; have q10 := zx6; have q11 := (gc_eq zc7); have q12 := hlen; have q13 := (g_eq0 zx9.1); omega⟩
        refine g_iald cx 13 e_X11_lands_32 rfl (jv_ix 220 p10 (by decide)) ?_
        refine g_topi (fun x11 ex11 => ?_)
        have p12 : jv 0 15728639 x11 := by rw [ex11]; exact g_okR_g oR2 1 rfl (jv_cl 220 p10 (by decide))
        refine g_ldc cx 1048576 kc_X11_234 e_X11_lands_33 ?_
        refine g_irem cx (by decide) e_X11_lands_35 ?_
        refine g_topi (fun x13 ex13 => ?_)
        have zx13 := jv_rem 0 1048575 ex13 p12 (jv_k (x := 1048576) 1048576 (by decide)) (by decide)
        have hfr : (x13 : Int32).toInt = (r : Int) := WS_at ps.2.1 ps.2.2.1 (by have q0 := (jv_k (x := 1) 1 (by decide)).1; have q1 := (jv_k (x := 1) 1 (by decide)).2; have q2 := (jv_k (x := 11) 11 (by decide)).1; have q3 := (jv_k (x := 11) 11 (by decide)).2; have q4 := (g_ok_g oF1 8 rfl).1; have q5 := (g_ok_g oF1 8 rfl).2; have q6 := p8.1; have q7 := p8.2; have q8 := p10.1; have q9 := p10.2; have q10 := zx6; have q11 := (gc_eq zc7); have q12 := hlen; have q13 := (g_eq0 zx9.1); omega) ex11 (by have q0 := p12.1; have q1 := p12.2; have q2 := zx13.2.1; have q3 := zx13.2.2; have q4 := (g_er zx13.1 (by decide : Int32.toInt 1048576 = 1048576)); omega)
        have p14 : jv 0 219 x13 := ⟨by have q0 := (g_ok_g oF1 7 rfl).1; have q1 := (g_ok_g oF1 7 rfl).2; have q2 := p12.1; have q3 := p12.2; have q4 := zx13.2.1; have q5 := zx13.2.2; have q6 := hat.2; have q7 := (g_er zx13.1 (by decide : Int32.toInt 1048576 = 1048576)); have q8 := hfr; omega, by have q0 := (g_ok_g oF1 7 rfl).1; have q1 := (g_ok_g oF1 7 rfl).2; have q2 := p12.1; have q3 := p12.2; have q4 := zx13.2.1; have q5 := zx13.2.2; have q6 := hat.2; have q7 := (g_er zx13.1 (by decide : Int32.toInt 1048576 = 1048576)); have q8 := hfr; omega⟩
        refine g_istore_n cx [(2, .int x13), (0, .ref (ad 0)), (1, .int a0)] e_X11_lands_36 (by decide) rfl ?_
        refine g_aload_n cx 1 rfl e_X11_lands_37 ?_
        refine g_get cx cl_X11 fl_X11_44 0 (.ref (ad 12)) e_X11_lands_38 rfl rfl ?_
        refine g_iload_n cx 0 rfl e_X11_lands_41 ?_
        refine g_ldc cx 1048576 kc_X11_234 e_X11_lands_42 ?_
        refine g_aload_n cx 1 rfl e_X11_lands_44 ?_
        refine g_get cx cl_X11 fl_X11_44 0 (.ref (ad 12)) e_X11_lands_45 rfl rfl ?_
        refine g_iload_n cx 0 rfl e_X11_lands_48 ?_
        refine g_iald cx 12 e_X11_lands_49 rfl (jv_ix 220 p14 (by decide)) ?_
        refine g_topi (fun x15 ex15 => ?_)
        have p16 : jv 0 13631487 x15 := by rw [ex15]; exact g_okR_g oR2 0 rfl (jv_cl 220 p14 (by decide))
        refine g_ldc cx 1048576 kc_X11_234 e_X11_lands_50 ?_
        refine g_idiv cx (by decide) e_X11_lands_52 ?_
        refine g_topi (fun x17 ex17 => ?_)
        have zx17 := jv_div 0 12 ex17 p16 (jv_k (x := 1048576) 1048576 (by decide)) (by decide)
        refine g_imul cx e_X11_lands_53 ?_
        refine g_topi (fun x18 ex18 => ?_)
        have zx18 := jv_mul 0 12582912 ex18 (jv_k (x := 1048576) 1048576 (by decide)) zx17.2 (by decide)
        refine g_aload_n cx 1 rfl e_X11_lands_54 ?_
        refine g_get cx cl_X11 fl_X11_231 0 (.int (F1 25)) e_X11_lands_55 rfl rfl ?_
        refine g_toi (F 25) (fF1 25 rfl) ?_
        refine g_iadd cx e_X11_lands_58 ?_
        refine g_topi (fun x19 ex19 => ?_)
        have zx19 := jv_add 0 12583132 ex19 zx18.2 (g_ok_g hI 7 rfl) (by decide)
        refine g_iast cx 12 (wM X ad F1 (g_u R2 12 (upd (R2 12) (Int32.toNatClampNeg x13) x19))) e_X11_lands_59 rfl (jv_ix 220 p14 (by decide)) rfl ?_
        obtain ⟨R20, hR20⟩ : ∃ z, z = g_u R2 12 (upd (R2 12) (Int32.toNatClampNeg x13) x19) := ⟨_, rfl⟩
        rw [← hR20]
        have oR20 : g_okR LA_wM R20 := by rw [hR20]; exact g_okR_p oR2 zx19.2 rfl
        have fR20 : g_fr mr_X11_lands R R20 := by rw [hR20]; exact g_fr_r fR2 rfl
        have wTR20 : WT F1 R20 := by rw [hR20]; exact WT_r wTF1R2 rfl
        have wCR20 : WC F1 R20 := by rw [hR20]; exact WC_r wCF1R2 rfl
        refine g_aload_n cx 1 rfl e_X11_lands_60 ?_
        refine g_aload_n cx 1 rfl e_X11_lands_61 ?_
        refine g_get cx cl_X11 fl_X11_238 0 (.int (F1 26)) e_X11_lands_62 rfl rfl ?_
        refine g_iconst cx 1 (by decide) e_X11_lands_65 ?_
        refine g_isub cx e_X11_lands_66 ?_
        refine g_topi (fun x21 ex21 => ?_)
        have zx21 := jv_sub (-1) 219 ex21 (g_ok_g oF1 8 rfl) (jv_k (x := 1) 1 (by decide)) (by decide)
        refine g_put cx cl_X11 fl_X11_238 0 (wM X ad (upd F1 26 x21) R20) e_X11_lands_67 rfl rfl rfl rfl (Nat.le_of_ble_eq_true rfl) rfl ?_
        obtain ⟨F22, hF22⟩ : ∃ z, z = upd F1 26 x21 := ⟨_, rfl⟩
        rw [← hF22]
        have oF22 : g_ok LK_wM F22 := by rw [hF22]; exact g_ok_p oF1 (show jv 0 220 _ from ⟨by have q0 := (jv_k (x := 1) 1 (by decide)).1; have q1 := (jv_k (x := 1) 1 (by decide)).2; have q2 := (jv_k (x := 11) 11 (by decide)).1; have q3 := (jv_k (x := 11) 11 (by decide)).2; have q4 := (g_ok_g oF1 8 rfl).1; have q5 := (g_ok_g oF1 8 rfl).2; have q6 := p8.1; have q7 := p8.2; have q8 := zx21.2.1; have q9 := zx21.2.2; have q10 := p10.1; have q11 := p10.2; have q12 := zx6; have q13 := (gc_eq zc7); have q14 := hlen; have q15 := (g_eq0 zx9.1); have q16 := (g_eq0 zx21.1); omega, by have q0 := (jv_k (x := 1) 1 (by decide)).1; have q1 := (jv_k (x := 1) 1 (by decide)).2; have q2 := (jv_k (x := 11) 11 (by decide)).1; have q3 := (jv_k (x := 11) 11 (by decide)).2; have q4 := (g_ok_g oF1 8 rfl).1; have q5 := (g_ok_g oF1 8 rfl).2; have q6 := p8.1; have q7 := p8.2; have q8 := zx21.2.1; have q9 := zx21.2.2; have q10 := p10.1; have q11 := p10.2; have q12 := zx6; have q13 := (gc_eq zc7); have q14 := hlen; have q15 := (g_eq0 zx9.1); have q16 := (g_eq0 zx21.1); omega⟩) rfl
        have fF22 : g_fr md_X11_lands F F22 := by rw [hF22]; exact g_fr_u fF1 rfl
        have wTF22 : WT F22 R20 := by rw [hF22]; exact WT_u wTR20 rfl
        have wCF22 : WC F22 R20 := by rw [hF22]; exact WC_u wCR20 rfl
        refine g_goto cx 0 e_X11_lands_70 (by decide) ?_
        refine g_lsub [1, 2] [(0, .ref (ad 0)), (1, .int a0)] rfl ?_
        exact ih0 F22 R20 oF22 fF22 oR20 fR20 wTF22 wCF22 ((by
        have hrc : x13.toNatClampNeg = r := g_clm (k := x13) (m := r) hfr
        have e12 : R20 12 = upd (R2 12) r x19 := (g_ru1 hR20).trans (by rw [hrc])
        have hy : g_op (R2 12 r) = (x15 : Int32).toInt / 1048576 := by rw [g_opd, ex15, hrc]
        exact ⟨L2, PS_land ps (by have q0 := (g_ok_g hI 7 rfl).1; have q1 := (g_ok_g hI 7 rfl).2; have q2 := (g_ok_g oF1 7 rfl).1; have q3 := (g_ok_g oF1 7 rfl).2; have q4 := (g_ok_g oF22 7 rfl).1; have q5 := (g_ok_g oF22 7 rfl).2; have q6 := p12.1; have q7 := p12.2; have q8 := p14.1; have q9 := p14.2; have q10 := p16.1; have q11 := p16.2; have q12 := zx17.2.1; have q13 := zx17.2.2; have q14 := zx18.2.1; have q15 := zx18.2.2; have q16 := zx19.2.1; have q17 := zx19.2.2; have q18 := hat.2; have q19 := (g_er zx13.1 (by decide : Int32.toInt 1048576 = 1048576)); have q20 := hfr; have q21 := (g_ed zx17.1 (by decide : Int32.toInt 1048576 = 1048576)); have q22 := (g_em2 zx18.1 (by decide : Int32.toInt 1048576 = 1048576)); have q23 := (g_eq0 zx19.1); have q24 := (congrArg Int32.toInt (show F1 25 = F 25 from (fF1 25 rfl))); have q25 := (congrArg Int32.toInt (show F22 25 = F 25 from ((g_pu2 hF22 rfl).trans (fF1 25 rfl)))); omega) ho (by rw [hy]; have q0 := (g_ok_g hI 7 rfl).1; have q1 := (g_ok_g hI 7 rfl).2; have q2 := (g_ok_g oF1 7 rfl).1; have q3 := (g_ok_g oF1 7 rfl).2; have q4 := (g_ok_g oF22 7 rfl).1; have q5 := (g_ok_g oF22 7 rfl).2; have q6 := p12.1; have q7 := p12.2; have q8 := p14.1; have q9 := p14.2; have q10 := p16.1; have q11 := p16.2; have q12 := zx17.2.1; have q13 := zx17.2.2; have q14 := zx18.2.1; have q15 := zx18.2.2; have q16 := zx19.2.1; have q17 := zx19.2.2; have q18 := hat.2; have q19 := (g_er zx13.1 (by decide : Int32.toInt 1048576 = 1048576)); have q20 := hfr; have q21 := (g_ed zx17.1 (by decide : Int32.toInt 1048576 = 1048576)); have q22 := (g_em2 zx18.1 (by decide : Int32.toInt 1048576 = 1048576)); have q23 := (g_eq0 zx19.1); have q24 := (congrArg Int32.toInt (show F1 25 = F 25 from (fF1 25 rfl))); have q25 := (congrArg Int32.toInt (show F22 25 = F 25 from ((g_pu2 hF22 rfl).trans (fF1 25 rfl)))); omega) (by have q0 := (g_ok_g hI 7 rfl).1; have q1 := (g_ok_g hI 7 rfl).2; have q2 := (g_ok_g oF1 7 rfl).1; have q3 := (g_ok_g oF1 7 rfl).2; have q4 := (g_ok_g oF22 7 rfl).1; have q5 := (g_ok_g oF22 7 rfl).2; have q6 := p12.1; have q7 := p12.2; have q8 := p14.1; have q9 := p14.2; have q10 := p16.1; have q11 := p16.2; have q12 := zx17.2.1; have q13 := zx17.2.2; have q14 := zx18.2.1; have q15 := zx18.2.2; have q16 := zx19.2.1; have q17 := zx19.2.2; have q18 := hat.2; have q19 := (g_er zx13.1 (by decide : Int32.toInt 1048576 = 1048576)); have q20 := hfr; have q21 := (g_ed zx17.1 (by decide : Int32.toInt 1048576 = 1048576)); have q22 := (g_em2 zx18.1 (by decide : Int32.toInt 1048576 = 1048576)); have q23 := (g_eq0 zx19.1); have q24 := (congrArg Int32.toInt (show F1 25 = F 25 from (fF1 25 rfl))); have q25 := (congrArg Int32.toInt (show F22 25 = F 25 from ((g_pu2 hF22 rfl).trans (fF1 25 rfl)))); omega) (((g_pu2 hF22 rfl).trans (fF1 25 rfl)).trans (fF1 25 rfl).symm) (by have q0 := (jv_k (x := 1) 1 (by decide)).1; have q1 := (jv_k (x := 1) 1 (by decide)).2; have q2 := (jv_k (x := 11) 11 (by decide)).1; have q3 := (jv_k (x := 11) 11 (by decide)).2; have q4 := (g_ok_g oF1 8 rfl).1; have q5 := (g_ok_g oF1 8 rfl).2; have q6 := (g_ok_g oF22 8 rfl).1; have q7 := (g_ok_g oF22 8 rfl).2; have q8 := p8.1; have q9 := p8.2; have q10 := zx21.2.1; have q11 := zx21.2.2; have q12 := p10.1; have q13 := p10.2; have q14 := zx6; have q15 := (gc_eq zc7); have q16 := hlen; have q17 := (g_eq0 zx9.1); have q18 := (g_eq0 zx21.1); have q19 := (congrArg Int32.toInt (show F22 26 = x21 from (g_pu1 hF22))); omega) (((g_pu2 hF22 rfl).trans (fF1 15 rfl)).trans (fF1 15 rfl).symm) e12 (g_ru2 hR20 rfl), cb_tl hc, bt_pop hb (by simp only; omega), fun k q => by rw [e12, g_un (by rw [bne_iff_ne]; intro e; omega)]; exact hk k q⟩)) (Nat.lt_of_lt_of_le (show (F22 26).toInt.toNat < (F1 26).toInt.toNat from by have q0 := (jv_k (x := 1) 1 (by decide)).1; have q1 := (jv_k (x := 1) 1 (by decide)).2; have q2 := (jv_k (x := 11) 11 (by decide)).1; have q3 := (jv_k (x := 11) 11 (by decide)).2; have q4 := (g_ok_g oF1 8 rfl).1; have q5 := (g_ok_g oF1 8 rfl).2; have q6 := (g_ok_g oF22 8 rfl).1; have q7 := (g_ok_g oF22 8 rfl).2; have q8 := p8.1; have q9 := p8.2; have q10 := zx21.2.1; have q11 := zx21.2.2; have q12 := p10.1; have q13 := p10.2; have q14 := zx6; have q15 := (gc_eq zc7); have q16 := hlen; have q17 := (g_eq0 zx9.1); have q18 := (g_eq0 zx21.1); have q19 := (congrArg Int32.toInt (show F22 26 = x21 from (g_pu1 hF22))); have q20 := (congrArg Int32.toInt (show F22 26 = x21 from (g_pu1 hF22))); have q21 := (congrArg Int32.toInt (show F22 26 = x21 from (g_pu1 hF22))); omega) (Nat.le_of_lt_succ hm0))
      · refine g_iload_n cx 1 rfl e_X11_lands_9 ?_
        refine g_if_eq cx 73 e_X11_lands_10 (by decide) (fun zc23 => ?_) (fun zc23 => ?_)
        · have p24 := gn_eq 0 0 (gc_eq zc23) pa0 (jv_k (x := 0) 0 (by decide)) (by decide)
          exact hret e_X11_lands_73 (Nat.le_of_ble_eq_true rfl) (Nat.le_of_ble_eq_true rfl) ⟨F1, R2, rfl, oF1, oR2, wTF1R2, wCF1R2, fF1, fR2, ⟨L1, ps, hc, hb, by have q0 := (jv_k (x := 11) 11 (by decide)).1; have q1 := (jv_k (x := 11) 11 (by decide)).2; have q2 := (g_ok_g oF1 8 rfl).1; have q3 := (g_ok_g oF1 8 rfl).2; have q4 := pr3.1; have q5 := pr3.2; have q6 := zx6; have q7 := (gc_ne zc7); omega, (by first | exact fun h0 => absurd (by assumption) h0 | exact fun _ => (by have q0 := (jv_k (x := 11) 11 (by decide)).1; have q1 := (jv_k (x := 11) 11 (by decide)).2; have q2 := (g_ok_g oF1 8 rfl).1; have q3 := (g_ok_g oF1 8 rfl).2; have q4 := pr3.1; have q5 := pr3.2; have q6 := zx6; have q7 := (gc_ne zc7); omega)), hk⟩⟩
        · have p25 := gn_neL 1 1 (gc_ne zc23) pa0 (jv_k (x := 0) 0 (by decide)) (by decide)
          refine g_aload_n cx 0 rfl e_X11_lands_13 ?_
          refine g_cViW cx [] [] (w_X11_waitTop l X ad F1 R2 oF1 oR2 (L1) ps.2.1 ps.2.2.1) ml_X11_241 yV_X11_waitTop e_X11_lands_14 (by unfold g_rr; decide) (by decide) 0 rfl rfl rfl (Nat.le_of_ble_eq_true rfl) (fun r26 w27 h28 => ?_)
          obtain ⟨rfl, pr26, zx29⟩ := h28
          refine g_bipush cx 12 (by decide) e_X11_lands_17 ?_
          refine g_icmp_ne cx 73 e_X11_lands_19 (by decide) (fun zc30 => ?_) (fun zc30 => ?_)
          · exact hret e_X11_lands_73 (Nat.le_of_ble_eq_true rfl) (Nat.le_of_ble_eq_true rfl) ⟨F1, R2, rfl, oF1, oR2, wTF1R2, wCF1R2, fF1, fR2, ⟨L1, ps, hc, hb, by have q0 := (jv_k (x := 11) 11 (by decide)).1; have q1 := (jv_k (x := 11) 11 (by decide)).2; have q2 := (jv_k (x := 12) 12 (by decide)).1; have q3 := (jv_k (x := 12) 12 (by decide)).2; have q4 := (g_ok_g oF1 8 rfl).1; have q5 := (g_ok_g oF1 8 rfl).2; have q6 := pr26.1; have q7 := pr26.2; have q8 := pr3.1; have q9 := pr3.2; have q10 := zx6; have q11 := (gc_ne zc7); have q12 := zx29; have q13 := (gc_ne zc30); omega, (by first | exact fun h0 => absurd (by assumption) h0 | exact fun _ => (by have q0 := (jv_k (x := 11) 11 (by decide)).1; have q1 := (jv_k (x := 11) 11 (by decide)).2; have q2 := (jv_k (x := 12) 12 (by decide)).1; have q3 := (jv_k (x := 12) 12 (by decide)).2; have q4 := (g_ok_g oF1 8 rfl).1; have q5 := (g_ok_g oF1 8 rfl).2; have q6 := pr26.1; have q7 := pr26.2; have q8 := pr3.1; have q9 := pr3.2; have q10 := zx6; have q11 := (gc_ne zc7); have q12 := zx29; have q13 := (gc_ne zc30); omega)), hk⟩⟩
          · have p31 := gn_eq 12 12 (gc_eq zc30) pr26 (jv_k (x := 12) 12 (by decide)) (by decide)
            obtain ⟨o, r, L2, rfl⟩ := tp_cons (L := L1) (by have q0 := (jv_k (x := 11) 11 (by decide)).1; have q1 := (jv_k (x := 11) 11 (by decide)).2; have q2 := (jv_k (x := 12) 12 (by decide)).1; have q3 := (jv_k (x := 12) 12 (by decide)).2; have q4 := (g_ok_g oF1 8 rfl).1; have q5 := (g_ok_g oF1 8 rfl).2; have q6 := p31.1; have q7 := p31.2; have q8 := pr3.1; have q9 := pr3.2; have q10 := zx6; have q11 := (gc_ne zc7); have q12 := zx29; have q13 := (gc_eq zc30); omega)
            have ho : o = 11 ∨ o = 12 := (show tp ((o, r) :: L2) = 11 ∨ tp ((o, r) :: L2) = 12 from by have q0 := (jv_k (x := 11) 11 (by decide)).1; have q1 := (jv_k (x := 11) 11 (by decide)).2; have q2 := (jv_k (x := 12) 12 (by decide)).1; have q3 := (jv_k (x := 12) 12 (by decide)).2; have q4 := (g_ok_g oF1 8 rfl).1; have q5 := (g_ok_g oF1 8 rfl).2; have q6 := p31.1; have q7 := p31.2; have q8 := pr3.1; have q9 := pr3.2; have q10 := zx6; have q11 := (gc_ne zc7); have q12 := zx29; have q13 := (gc_eq zc30); omega)
            have hat := PS_at ps (by omega)
            have hlen : 1 ≤ (F1 26).toInt := by have q := ps.2.2.1; simp only [List.length_cons] at q; omega
            refine g_aload_n cx 0 rfl e_X11_lands_22 ?_
            refine g_get cx cl_X11 fl_X11_47 0 (.ref (ad 13)) e_X11_lands_23 rfl rfl ?_
            refine g_aload_n cx 0 rfl e_X11_lands_26 ?_
            refine g_get cx cl_X11 fl_X11_238 0 (.int (F1 26)) e_X11_lands_27 rfl rfl ?_
            refine g_iconst cx 1 (by decide) e_X11_lands_30 ?_
            refine g_isub cx e_X11_lands_31 ?_
            refine g_topi (fun x32 ex32 => ?_)
            have zx32 := jv_sub (-1) 219 ex32 (g_ok_g oF1 8 rfl) (jv_k (x := 1) 1 (by decide)) (by decide)
            have p33 : jv 0 219 x32 := ⟨by have q0 := (jv_k (x := 1) 1 (by decide)).1; have q1 := (jv_k (x := 1) 1 (by decide)).2; have q2 := (jv_k (x := 11) 11 (by decide)).1; have q3 := (jv_k (x := 11) 11 (by decide)).2; have q4 := (jv_k (x := 12) 12 (by decide)).1; have q5 := (jv_k (x := 12) 12 (by decide)).2; have q6 := (g_ok_g oF1 8 rfl).1; have q7 := (g_ok_g oF1 8 rfl).2; have q8 := p31.1; have q9 := p31.2; have q10 := pr3.1; have q11 := pr3.2; have q12 := zx32.2.1; have q13 := zx32.2.2; have q14 := zx6; have q15 := (gc_ne zc7); have q16 := zx29; have q17 := (gc_eq zc30); have q18 := hlen; have q19 := (g_eq0 zx32.1); omega, by have q0 := (jv_k (x := 1) 1 (by decide)).1; have q1 := (jv_k (x := 1) 1 (by decide)).2; have q2 := (jv_k (x := 11) 11 (by decide)).1; have q3 := (jv_k (x := 11) 11 (by decide)).2; have q4 := (jv_k (x := 12) 12 (by decide)).1; have q5 := (jv_k (x := 12) 12 (by decide)).2; have q6 := (g_ok_g oF1 8 rfl).1; have q7 := (g_ok_g oF1 8 rfl).2; have q8 := p31.1; have q9 := p31.2; have q10 := pr3.1; have q11 := pr3.2; have q12 := zx32.2.1; have q13 := zx32.2.2; have q14 := zx6; have q15 := (gc_ne zc7); have q16 := zx29; have q17 := (gc_eq zc30); have q18 := hlen; have q19 := (g_eq0 zx32.1); omega⟩
            refine g_iald cx 13 e_X11_lands_32 rfl (jv_ix 220 p33 (by decide)) ?_
            refine g_topi (fun x34 ex34 => ?_)
            have p35 : jv 0 15728639 x34 := by rw [ex34]; exact g_okR_g oR2 1 rfl (jv_cl 220 p33 (by decide))
            refine g_ldc cx 1048576 kc_X11_234 e_X11_lands_33 ?_
            refine g_irem cx (by decide) e_X11_lands_35 ?_
            refine g_topi (fun x36 ex36 => ?_)
            have zx36 := jv_rem 0 1048575 ex36 p35 (jv_k (x := 1048576) 1048576 (by decide)) (by decide)
            have hfr : (x36 : Int32).toInt = (r : Int) := WS_at ps.2.1 ps.2.2.1 (by have q0 := (jv_k (x := 1) 1 (by decide)).1; have q1 := (jv_k (x := 1) 1 (by decide)).2; have q2 := (jv_k (x := 11) 11 (by decide)).1; have q3 := (jv_k (x := 11) 11 (by decide)).2; have q4 := (jv_k (x := 12) 12 (by decide)).1; have q5 := (jv_k (x := 12) 12 (by decide)).2; have q6 := (g_ok_g oF1 8 rfl).1; have q7 := (g_ok_g oF1 8 rfl).2; have q8 := p31.1; have q9 := p31.2; have q10 := pr3.1; have q11 := pr3.2; have q12 := p33.1; have q13 := p33.2; have q14 := zx6; have q15 := (gc_ne zc7); have q16 := zx29; have q17 := (gc_eq zc30); have q18 := hlen; have q19 := (g_eq0 zx32.1); omega) ex34 (by have q0 := p35.1; have q1 := p35.2; have q2 := zx36.2.1; have q3 := zx36.2.2; have q4 := (g_er zx36.1 (by decide : Int32.toInt 1048576 = 1048576)); omega)
            have p37 : jv 0 219 x36 := ⟨by have q0 := (g_ok_g oF1 7 rfl).1; have q1 := (g_ok_g oF1 7 rfl).2; have q2 := p35.1; have q3 := p35.2; have q4 := zx36.2.1; have q5 := zx36.2.2; have q6 := hat.2; have q7 := (g_er zx36.1 (by decide : Int32.toInt 1048576 = 1048576)); have q8 := hfr; omega, by have q0 := (g_ok_g oF1 7 rfl).1; have q1 := (g_ok_g oF1 7 rfl).2; have q2 := p35.1; have q3 := p35.2; have q4 := zx36.2.1; have q5 := zx36.2.2; have q6 := hat.2; have q7 := (g_er zx36.1 (by decide : Int32.toInt 1048576 = 1048576)); have q8 := hfr; omega⟩
            refine g_istore_n cx [(2, .int x36), (0, .ref (ad 0)), (1, .int a0)] e_X11_lands_36 (by decide) rfl ?_
            refine g_aload_n cx 1 rfl e_X11_lands_37 ?_
            refine g_get cx cl_X11 fl_X11_44 0 (.ref (ad 12)) e_X11_lands_38 rfl rfl ?_
            refine g_iload_n cx 0 rfl e_X11_lands_41 ?_
            refine g_ldc cx 1048576 kc_X11_234 e_X11_lands_42 ?_
            refine g_aload_n cx 1 rfl e_X11_lands_44 ?_
            refine g_get cx cl_X11 fl_X11_44 0 (.ref (ad 12)) e_X11_lands_45 rfl rfl ?_
            refine g_iload_n cx 0 rfl e_X11_lands_48 ?_
            refine g_iald cx 12 e_X11_lands_49 rfl (jv_ix 220 p37 (by decide)) ?_
            refine g_topi (fun x38 ex38 => ?_)
            have p39 : jv 0 13631487 x38 := by rw [ex38]; exact g_okR_g oR2 0 rfl (jv_cl 220 p37 (by decide))
            refine g_ldc cx 1048576 kc_X11_234 e_X11_lands_50 ?_
            refine g_idiv cx (by decide) e_X11_lands_52 ?_
            refine g_topi (fun x40 ex40 => ?_)
            have zx40 := jv_div 0 12 ex40 p39 (jv_k (x := 1048576) 1048576 (by decide)) (by decide)
            refine g_imul cx e_X11_lands_53 ?_
            refine g_topi (fun x41 ex41 => ?_)
            have zx41 := jv_mul 0 12582912 ex41 (jv_k (x := 1048576) 1048576 (by decide)) zx40.2 (by decide)
            refine g_aload_n cx 1 rfl e_X11_lands_54 ?_
            refine g_get cx cl_X11 fl_X11_231 0 (.int (F1 25)) e_X11_lands_55 rfl rfl ?_
            refine g_toi (F 25) (fF1 25 rfl) ?_
            refine g_iadd cx e_X11_lands_58 ?_
            refine g_topi (fun x42 ex42 => ?_)
            have zx42 := jv_add 0 12583132 ex42 zx41.2 (g_ok_g hI 7 rfl) (by decide)
            refine g_iast cx 12 (wM X ad F1 (g_u R2 12 (upd (R2 12) (Int32.toNatClampNeg x36) x42))) e_X11_lands_59 rfl (jv_ix 220 p37 (by decide)) rfl ?_
            obtain ⟨R43, hR43⟩ : ∃ z, z = g_u R2 12 (upd (R2 12) (Int32.toNatClampNeg x36) x42) := ⟨_, rfl⟩
            rw [← hR43]
            have oR43 : g_okR LA_wM R43 := by rw [hR43]; exact g_okR_p oR2 zx42.2 rfl
            have fR43 : g_fr mr_X11_lands R R43 := by rw [hR43]; exact g_fr_r fR2 rfl
            have wTR43 : WT F1 R43 := by rw [hR43]; exact WT_r wTF1R2 rfl
            have wCR43 : WC F1 R43 := by rw [hR43]; exact WC_r wCF1R2 rfl
            refine g_aload_n cx 1 rfl e_X11_lands_60 ?_
            refine g_aload_n cx 1 rfl e_X11_lands_61 ?_
            refine g_get cx cl_X11 fl_X11_238 0 (.int (F1 26)) e_X11_lands_62 rfl rfl ?_
            refine g_iconst cx 1 (by decide) e_X11_lands_65 ?_
            refine g_isub cx e_X11_lands_66 ?_
            refine g_topi (fun x44 ex44 => ?_)
            have zx44 := jv_sub (-1) 219 ex44 (g_ok_g oF1 8 rfl) (jv_k (x := 1) 1 (by decide)) (by decide)
            refine g_put cx cl_X11 fl_X11_238 0 (wM X ad (upd F1 26 x44) R43) e_X11_lands_67 rfl rfl rfl rfl (Nat.le_of_ble_eq_true rfl) rfl ?_
            obtain ⟨F45, hF45⟩ : ∃ z, z = upd F1 26 x44 := ⟨_, rfl⟩
            rw [← hF45]
            have oF45 : g_ok LK_wM F45 := by rw [hF45]; exact g_ok_p oF1 (show jv 0 220 _ from ⟨by have q0 := (jv_k (x := 1) 1 (by decide)).1; have q1 := (jv_k (x := 1) 1 (by decide)).2; have q2 := (jv_k (x := 11) 11 (by decide)).1; have q3 := (jv_k (x := 11) 11 (by decide)).2; have q4 := (jv_k (x := 12) 12 (by decide)).1; have q5 := (jv_k (x := 12) 12 (by decide)).2; have q6 := (g_ok_g oF1 8 rfl).1; have q7 := (g_ok_g oF1 8 rfl).2; have q8 := p31.1; have q9 := p31.2; have q10 := pr3.1; have q11 := pr3.2; have q12 := p33.1; have q13 := p33.2; have q14 := zx44.2.1; have q15 := zx44.2.2; have q16 := zx6; have q17 := (gc_ne zc7); have q18 := zx29; have q19 := (gc_eq zc30); have q20 := hlen; have q21 := (g_eq0 zx32.1); have q22 := (g_eq0 zx44.1); omega, by have q0 := (jv_k (x := 1) 1 (by decide)).1; have q1 := (jv_k (x := 1) 1 (by decide)).2; have q2 := (jv_k (x := 11) 11 (by decide)).1; have q3 := (jv_k (x := 11) 11 (by decide)).2; have q4 := (jv_k (x := 12) 12 (by decide)).1; have q5 := (jv_k (x := 12) 12 (by decide)).2; have q6 := (g_ok_g oF1 8 rfl).1; have q7 := (g_ok_g oF1 8 rfl).2; have q8 := p31.1; have q9 := p31.2; have q10 := pr3.1; have q11 := pr3.2; have q12 := p33.1; have q13 := p33.2; have q14 := zx44.2.1; have q15 := zx44.2.2; have q16 := zx6; have q17 := (gc_ne zc7); have q18 := zx29; have q19 := (gc_eq zc30); have q20 := hlen; have q21 := (g_eq0 zx32.1); have q22 := (g_eq0 zx44.1); omega⟩) rfl
            have fF45 : g_fr md_X11_lands F F45 := by rw [hF45]; exact g_fr_u fF1 rfl
            have wTF45 : WT F45 R43 := by rw [hF45]; exact WT_u wTR43 rfl
            have wCF45 : WC F45 R43 := by rw [hF45]; exact WC_u wCR43 rfl
            refine g_goto cx 0 e_X11_lands_70 (by decide) ?_
            refine g_lsub [1, 2] [(0, .ref (ad 0)), (1, .int a0)] rfl ?_
            exact ih0 F45 R43 oF45 fF45 oR43 fR43 wTF45 wCF45 ((by
        have hrc : x36.toNatClampNeg = r := g_clm (k := x36) (m := r) hfr
        have e12 : R43 12 = upd (R2 12) r x42 := (g_ru1 hR43).trans (by rw [hrc])
        have hy : g_op (R2 12 r) = (x38 : Int32).toInt / 1048576 := by rw [g_opd, ex38, hrc]
        exact ⟨L2, PS_land ps (by have q0 := (g_ok_g hI 7 rfl).1; have q1 := (g_ok_g hI 7 rfl).2; have q2 := (g_ok_g oF1 7 rfl).1; have q3 := (g_ok_g oF1 7 rfl).2; have q4 := (g_ok_g oF45 7 rfl).1; have q5 := (g_ok_g oF45 7 rfl).2; have q6 := p35.1; have q7 := p35.2; have q8 := p37.1; have q9 := p37.2; have q10 := p39.1; have q11 := p39.2; have q12 := zx40.2.1; have q13 := zx40.2.2; have q14 := zx41.2.1; have q15 := zx41.2.2; have q16 := zx42.2.1; have q17 := zx42.2.2; have q18 := hat.2; have q19 := (g_er zx36.1 (by decide : Int32.toInt 1048576 = 1048576)); have q20 := hfr; have q21 := (g_ed zx40.1 (by decide : Int32.toInt 1048576 = 1048576)); have q22 := (g_em2 zx41.1 (by decide : Int32.toInt 1048576 = 1048576)); have q23 := (g_eq0 zx42.1); have q24 := (congrArg Int32.toInt (show F1 25 = F 25 from (fF1 25 rfl))); have q25 := (congrArg Int32.toInt (show F45 25 = F 25 from ((g_pu2 hF45 rfl).trans (fF1 25 rfl)))); omega) ho (by rw [hy]; have q0 := (g_ok_g hI 7 rfl).1; have q1 := (g_ok_g hI 7 rfl).2; have q2 := (g_ok_g oF1 7 rfl).1; have q3 := (g_ok_g oF1 7 rfl).2; have q4 := (g_ok_g oF45 7 rfl).1; have q5 := (g_ok_g oF45 7 rfl).2; have q6 := p35.1; have q7 := p35.2; have q8 := p37.1; have q9 := p37.2; have q10 := p39.1; have q11 := p39.2; have q12 := zx40.2.1; have q13 := zx40.2.2; have q14 := zx41.2.1; have q15 := zx41.2.2; have q16 := zx42.2.1; have q17 := zx42.2.2; have q18 := hat.2; have q19 := (g_er zx36.1 (by decide : Int32.toInt 1048576 = 1048576)); have q20 := hfr; have q21 := (g_ed zx40.1 (by decide : Int32.toInt 1048576 = 1048576)); have q22 := (g_em2 zx41.1 (by decide : Int32.toInt 1048576 = 1048576)); have q23 := (g_eq0 zx42.1); have q24 := (congrArg Int32.toInt (show F1 25 = F 25 from (fF1 25 rfl))); have q25 := (congrArg Int32.toInt (show F45 25 = F 25 from ((g_pu2 hF45 rfl).trans (fF1 25 rfl)))); omega) (by have q0 := (g_ok_g hI 7 rfl).1; have q1 := (g_ok_g hI 7 rfl).2; have q2 := (g_ok_g oF1 7 rfl).1; have q3 := (g_ok_g oF1 7 rfl).2; have q4 := (g_ok_g oF45 7 rfl).1; have q5 := (g_ok_g oF45 7 rfl).2; have q6 := p35.1; have q7 := p35.2; have q8 := p37.1; have q9 := p37.2; have q10 := p39.1; have q11 := p39.2; have q12 := zx40.2.1; have q13 := zx40.2.2; have q14 := zx41.2.1; have q15 := zx41.2.2; have q16 := zx42.2.1; have q17 := zx42.2.2; have q18 := hat.2; have q19 := (g_er zx36.1 (by decide : Int32.toInt 1048576 = 1048576)); have q20 := hfr; have q21 := (g_ed zx40.1 (by decide : Int32.toInt 1048576 = 1048576)); have q22 := (g_em2 zx41.1 (by decide : Int32.toInt 1048576 = 1048576)); have q23 := (g_eq0 zx42.1); have q24 := (congrArg Int32.toInt (show F1 25 = F 25 from (fF1 25 rfl))); have q25 := (congrArg Int32.toInt (show F45 25 = F 25 from ((g_pu2 hF45 rfl).trans (fF1 25 rfl)))); omega) (((g_pu2 hF45 rfl).trans (fF1 25 rfl)).trans (fF1 25 rfl).symm) (by have q0 := (jv_k (x := 1) 1 (by decide)).1; have q1 := (jv_k (x := 1) 1 (by decide)).2; have q2 := (jv_k (x := 11) 11 (by decide)).1; have q3 := (jv_k (x := 11) 11 (by decide)).2; have q4 := (jv_k (x := 12) 12 (by decide)).1; have q5 := (jv_k (x := 12) 12 (by decide)).2; have q6 := (g_ok_g oF1 8 rfl).1; have q7 := (g_ok_g oF1 8 rfl).2; have q8 := (g_ok_g oF45 8 rfl).1; have q9 := (g_ok_g oF45 8 rfl).2; have q10 := p31.1; have q11 := p31.2; have q12 := pr3.1; have q13 := pr3.2; have q14 := p33.1; have q15 := p33.2; have q16 := zx44.2.1; have q17 := zx44.2.2; have q18 := zx6; have q19 := (gc_ne zc7); have q20 := zx29; have q21 := (gc_eq zc30); have q22 := hlen; have q23 := (g_eq0 zx32.1); have q24 := (g_eq0 zx44.1); have q25 := (congrArg Int32.toInt (show F45 26 = x44 from (g_pu1 hF45))); omega) (((g_pu2 hF45 rfl).trans (fF1 15 rfl)).trans (fF1 15 rfl).symm) e12 (g_ru2 hR43 rfl), cb_tl hc, bt_pop hb (by simp only; omega), fun k q => by rw [e12, g_un (by rw [bne_iff_ne]; intro e; omega)]; exact hk k q⟩)) (Nat.lt_of_lt_of_le (show (F45 26).toInt.toNat < (F1 26).toInt.toNat from by have q0 := (jv_k (x := 1) 1 (by decide)).1; have q1 := (jv_k (x := 1) 1 (by decide)).2; have q2 := (jv_k (x := 11) 11 (by decide)).1; have q3 := (jv_k (x := 11) 11 (by decide)).2; have q4 := (jv_k (x := 12) 12 (by decide)).1; have q5 := (jv_k (x := 12) 12 (by decide)).2; have q6 := (g_ok_g oF1 8 rfl).1; have q7 := (g_ok_g oF1 8 rfl).2; have q8 := (g_ok_g oF45 8 rfl).1; have q9 := (g_ok_g oF45 8 rfl).2; have q10 := p31.1; have q11 := p31.2; have q12 := pr3.1; have q13 := pr3.2; have q14 := p33.1; have q15 := p33.2; have q16 := zx44.2.1; have q17 := zx44.2.2; have q18 := zx6; have q19 := (gc_ne zc7); have q20 := zx29; have q21 := (gc_eq zc30); have q22 := hlen; have q23 := (g_eq0 zx32.1); have q24 := (g_eq0 zx44.1); have q25 := (congrArg Int32.toInt (show F45 26 = x44 from (g_pu1 hF45))); have q26 := (congrArg Int32.toInt (show F45 26 = x44 from (g_pu1 hF45))); have q27 := (congrArg Int32.toInt (show F45 26 = x44 from (g_pu1 hF45))); omega) (Nat.le_of_lt_succ hm0))
  exact J0 _ F R hI (g_fr_rf F) hA (g_fr_rf R) hWT hWC (⟨L, hps, hcb, hbt, fun _ _ => rfl⟩) (Nat.lt_succ_self _)
theorem e_X11_jumps_0 : g_dc cX11_jumps 0 (.aload_n 0) 1 1 := ⟨by decide +kernel, rfl⟩
theorem e_X11_jumps_1 : g_dc cX11_jumps 1 (.getfield 47) 3 4 := ⟨by decide +kernel, rfl⟩
theorem e_X11_jumps_4 : g_dc cX11_jumps 4 (.aload_n 0) 1 5 := ⟨by decide +kernel, rfl⟩
theorem e_X11_jumps_5 : g_dc cX11_jumps 5 (.getfield 238) 3 8 := ⟨by decide +kernel, rfl⟩
theorem e_X11_jumps_8 : g_dc cX11_jumps 8 (.ldc 234) 2 10 := ⟨by decide +kernel, rfl⟩
theorem e_X11_jumps_10 : g_dc cX11_jumps 10 (.iload_n 1) 1 11 := ⟨by decide +kernel, rfl⟩
theorem e_X11_jumps_11 : g_dc cX11_jumps 11 (.imul) 1 12 := ⟨by decide +kernel, rfl⟩
theorem e_X11_jumps_12 : g_dc cX11_jumps 12 (.aload_n 0) 1 13 := ⟨by decide +kernel, rfl⟩
theorem e_X11_jumps_13 : g_dc cX11_jumps 13 (.getfield 231) 3 16 := ⟨by decide +kernel, rfl⟩
theorem e_X11_jumps_16 : g_dc cX11_jumps 16 (.iadd) 1 17 := ⟨by decide +kernel, rfl⟩
theorem e_X11_jumps_17 : g_dc cX11_jumps 17 (.iastore) 1 18 := ⟨by decide +kernel, rfl⟩
theorem e_X11_jumps_18 : g_dc cX11_jumps 18 (.aload_n 0) 1 19 := ⟨by decide +kernel, rfl⟩
theorem e_X11_jumps_19 : g_dc cX11_jumps 19 (.aload_n 0) 1 20 := ⟨by decide +kernel, rfl⟩
theorem e_X11_jumps_20 : g_dc cX11_jumps 20 (.getfield 238) 3 23 := ⟨by decide +kernel, rfl⟩
theorem e_X11_jumps_23 : g_dc cX11_jumps 23 (.iconst 1) 1 24 := ⟨by decide +kernel, rfl⟩
theorem e_X11_jumps_24 : g_dc cX11_jumps 24 (.iadd) 1 25 := ⟨by decide +kernel, rfl⟩
theorem e_X11_jumps_25 : g_dc cX11_jumps 25 (.putfield 238) 3 28 := ⟨by decide +kernel, rfl⟩
theorem e_X11_jumps_28 : g_dc cX11_jumps 28 (.aload_n 0) 1 29 := ⟨by decide +kernel, rfl⟩
theorem e_X11_jumps_29 : g_dc cX11_jumps 29 (.iload_n 1) 1 30 := ⟨by decide +kernel, rfl⟩
theorem e_X11_jumps_30 : g_dc cX11_jumps 30 (.iconst 0) 1 31 := ⟨by decide +kernel, rfl⟩
theorem e_X11_jumps_31 : g_dc cX11_jumps 31 (.invokevirtual 244) 3 34 := ⟨by decide +kernel, rfl⟩
theorem e_X11_jumps_34 : g_dc cX11_jumps 34 (.aload_n 0) 1 35 := ⟨by decide +kernel, rfl⟩
theorem e_X11_jumps_35 : g_dc cX11_jumps 35 (.aload_n 0) 1 36 := ⟨by decide +kernel, rfl⟩
theorem e_X11_jumps_36 : g_dc cX11_jumps 36 (.getfield 190) 3 39 := ⟨by decide +kernel, rfl⟩
theorem e_X11_jumps_39 : g_dc cX11_jumps 39 (.iconst 1) 1 40 := ⟨by decide +kernel, rfl⟩
theorem e_X11_jumps_40 : g_dc cX11_jumps 40 (.iadd) 1 41 := ⟨by decide +kernel, rfl⟩
theorem e_X11_jumps_41 : g_dc cX11_jumps 41 (.putfield 190) 3 44 := ⟨by decide +kernel, rfl⟩
theorem e_X11_jumps_44 : g_dc cX11_jumps 44 (.return_) 1 45 := ⟨by decide +kernel, rfl⟩
def md_X11_jumps : List Nat := [15, 25, 26]
def mr_X11_jumps : List Nat := [12, 13]
set_option maxHeartbeats 4000000 in
set_option maxRecDepth 100000 in
theorem w_X11_jumps (l : Launch) (X : gX) (ad : Nat → Nat) (F : Nat → Int32) (R : Nat → Nat → Int32) (hI : g_ok LK_wM F) (hA : g_okR LA_wM R) (hWT : WT F R) (hWC : WC F R) (a0 : Int32) (pa0 : jv 11 12 a0) (A : Nat × Nat) (L : List (Int × Nat)) (hps : PS F R A L 1) (hlt : (F 15).toInt < (F 16).toInt) : g_Cv l X yX11_jumps cX11_jumps 2 2 0 0 [.ref (ad 0), .int a0] (wM X ad F R) (fun w => ∃ (F' : Nat → Int32) (R' : Nat → Nat → Int32), w = wM X ad F' R' ∧ g_ok LK_wM F' ∧ g_okR LA_wM R' ∧ WT F' R' ∧ WC F' R' ∧ g_fr md_X11_jumps F F' ∧ g_fr mr_X11_jumps R R' ∧ PS F' R' A ((a0.toInt, (F 25).toInt.toNat) :: L) 0 ∧ (F' 15).toInt = (F 15).toInt + 1 ∧ (F' 25).toInt = (F 25).toInt + 1 ∧ (∀ k, k < A.1 → R' 12 k = R 12 k)) := by
  refine g_mv (by decide +kernel) (Nat.le_of_ble_eq_true rfl) (fun E cx hret => ?_)
  refine g_aload_n cx 0 rfl e_X11_jumps_0 ?_
  refine g_get cx cl_X11 fl_X11_47 0 (.ref (ad 13)) e_X11_jumps_1 rfl rfl ?_
  refine g_aload_n cx 0 rfl e_X11_jumps_4 ?_
  refine g_get cx cl_X11 fl_X11_238 0 (.int (F 26)) e_X11_jumps_5 rfl rfl ?_
  refine g_ldc cx 1048576 kc_X11_234 e_X11_jumps_8 ?_
  refine g_iload_n cx 1 rfl e_X11_jumps_10 ?_
  refine g_imul cx e_X11_jumps_11 ?_
  refine g_topi (fun x1 ex1 => ?_)
  have zx1 := jv_mul 11534336 12582912 ex1 (jv_k (x := 1048576) 1048576 (by decide)) pa0 (by decide)
  refine g_aload_n cx 0 rfl e_X11_jumps_12 ?_
  refine g_get cx cl_X11 fl_X11_231 0 (.int (F 25)) e_X11_jumps_13 rfl rfl ?_
  refine g_iadd cx e_X11_jumps_16 ?_
  refine g_topi (fun x2 ex2 => ?_)
  have zx2 := jv_add 11534336 12583132 ex2 zx1.2 (g_ok_g hI 7 rfl) (by decide)
  refine g_iast cx 13 (wM X ad F (g_u R 13 (upd (R 13) (Int32.toNatClampNeg (F 26)) x2))) e_X11_jumps_17 rfl (vp_in_iff.mpr ⟨by have q0 := (g_ok_g hI 1 rfl).1; have q1 := (g_ok_g hI 1 rfl).2; have q2 := (g_ok_g hI 2 rfl).1; have q3 := (g_ok_g hI 2 rfl).2; have q4 := (g_ok_g hI 7 rfl).1; have q5 := (g_ok_g hI 7 rfl).2; have q6 := (g_ok_g hI 8 rfl).1; have q7 := (g_ok_g hI 8 rfl).2; have q8 := pa0.1; have q9 := pa0.2; have q10 := zx1.2.1; have q11 := zx1.2.2; have q12 := zx2.2.1; have q13 := zx2.2.2; have q14 := hlt; have q15 := hps.2.2.2.2.2; have q16 := hps.2.2.1; have q17 := hps.2.2.2.2.1; have q18 := (cg_0 L); have q19 := (g_em2 zx1.1 (by decide : Int32.toInt 1048576 = 1048576)); have q20 := (g_eq0 zx2.1); omega, by have q0 := (g_ok_g hI 1 rfl).1; have q1 := (g_ok_g hI 1 rfl).2; have q2 := (g_ok_g hI 2 rfl).1; have q3 := (g_ok_g hI 2 rfl).2; have q4 := (g_ok_g hI 7 rfl).1; have q5 := (g_ok_g hI 7 rfl).2; have q6 := (g_ok_g hI 8 rfl).1; have q7 := (g_ok_g hI 8 rfl).2; have q8 := pa0.1; have q9 := pa0.2; have q10 := zx1.2.1; have q11 := zx1.2.2; have q12 := zx2.2.1; have q13 := zx2.2.2; have q14 := hlt; have q15 := hps.2.2.2.2.2; have q16 := hps.2.2.1; have q17 := hps.2.2.2.2.1; have q18 := (cg_0 L); have q19 := (g_em2 zx1.1 (by decide : Int32.toInt 1048576 = 1048576)); have q20 := (g_eq0 zx2.1); omega⟩) rfl ?_
  obtain ⟨R3, hR3⟩ : ∃ z, z = g_u R 13 (upd (R 13) (Int32.toNatClampNeg (F 26)) x2) := ⟨_, rfl⟩
  rw [← hR3]
  have oR3 : g_okR LA_wM R3 := by rw [hR3]; exact g_okR_p hA zx2.2 rfl
  have fR3 : g_fr mr_X11_jumps R R3 := by rw [hR3]; exact g_fr_r (g_fr_rf R) rfl
  have wTR3 : WT F R3 := by rw [hR3]; exact WT_r hWT rfl
  have wCR3 : WC F R3 := by rw [hR3]; exact WC_r hWC rfl
  refine g_aload_n cx 0 rfl e_X11_jumps_18 ?_
  refine g_aload_n cx 0 rfl e_X11_jumps_19 ?_
  refine g_get cx cl_X11 fl_X11_238 0 (.int (F 26)) e_X11_jumps_20 rfl rfl ?_
  refine g_iconst cx 1 (by decide) e_X11_jumps_23 ?_
  refine g_iadd cx e_X11_jumps_24 ?_
  refine g_topi (fun x4 ex4 => ?_)
  have zx4 := jv_add 1 221 ex4 (g_ok_g hI 8 rfl) (jv_k (x := 1) 1 (by decide)) (by decide)
  refine g_put cx cl_X11 fl_X11_238 0 (wM X ad (upd F 26 x4) R3) e_X11_jumps_25 rfl rfl rfl rfl (Nat.le_of_ble_eq_true rfl) rfl ?_
  obtain ⟨F5, hF5⟩ : ∃ z, z = upd F 26 x4 := ⟨_, rfl⟩
  rw [← hF5]
  have oF5 : g_ok LK_wM F5 := by rw [hF5]; exact g_ok_p hI (show jv 0 220 _ from ⟨by have q0 := (jv_k (x := 1) 1 (by decide)).1; have q1 := (jv_k (x := 1) 1 (by decide)).2; have q2 := (g_ok_g hI 1 rfl).1; have q3 := (g_ok_g hI 1 rfl).2; have q4 := (g_ok_g hI 2 rfl).1; have q5 := (g_ok_g hI 2 rfl).2; have q6 := (g_ok_g hI 7 rfl).1; have q7 := (g_ok_g hI 7 rfl).2; have q8 := (g_ok_g hI 8 rfl).1; have q9 := (g_ok_g hI 8 rfl).2; have q10 := pa0.1; have q11 := pa0.2; have q12 := zx1.2.1; have q13 := zx1.2.2; have q14 := zx2.2.1; have q15 := zx2.2.2; have q16 := zx4.2.1; have q17 := zx4.2.2; have q18 := hlt; have q19 := hps.2.2.2.2.2; have q20 := hps.2.2.1; have q21 := hps.2.2.2.2.1; have q22 := (cg_0 L); have q23 := (g_em2 zx1.1 (by decide : Int32.toInt 1048576 = 1048576)); have q24 := (g_eq0 zx2.1); have q25 := (g_eq0 zx4.1); omega, by have q0 := (jv_k (x := 1) 1 (by decide)).1; have q1 := (jv_k (x := 1) 1 (by decide)).2; have q2 := (g_ok_g hI 1 rfl).1; have q3 := (g_ok_g hI 1 rfl).2; have q4 := (g_ok_g hI 2 rfl).1; have q5 := (g_ok_g hI 2 rfl).2; have q6 := (g_ok_g hI 7 rfl).1; have q7 := (g_ok_g hI 7 rfl).2; have q8 := (g_ok_g hI 8 rfl).1; have q9 := (g_ok_g hI 8 rfl).2; have q10 := pa0.1; have q11 := pa0.2; have q12 := zx1.2.1; have q13 := zx1.2.2; have q14 := zx2.2.1; have q15 := zx2.2.2; have q16 := zx4.2.1; have q17 := zx4.2.2; have q18 := hlt; have q19 := hps.2.2.2.2.2; have q20 := hps.2.2.1; have q21 := hps.2.2.2.2.1; have q22 := (cg_0 L); have q23 := (g_em2 zx1.1 (by decide : Int32.toInt 1048576 = 1048576)); have q24 := (g_eq0 zx2.1); have q25 := (g_eq0 zx4.1); omega⟩) rfl
  have fF5 : g_fr md_X11_jumps F F5 := by rw [hF5]; exact g_fr_u (g_fr_rf F) rfl
  have wTF5 : WT F5 R3 := by rw [hF5]; exact WT_u wTR3 rfl
  have wCF5 : WC F5 R3 := by rw [hF5]; exact WC_u wCR3 rfl
  refine g_aload_n cx 0 rfl e_X11_jumps_28 ?_
  refine g_iload_n cx 1 rfl e_X11_jumps_29 ?_
  refine g_iconst cx 0 (by decide) e_X11_jumps_30 ?_
  refine g_cVvW cx [.int a0, .int 0] [] (w_X11_notes l X ad F5 R3 oF5 oR3 wTF5 wCF5 a0 0 (jv_w pa0 (by decide)) (jv_w (jv_k (x := 0) 0 (by decide)) (by decide)) (by have q0 := (jv_k (x := 1) 1 (by decide)).1; have q1 := (jv_k (x := 1) 1 (by decide)).2; have q2 := (g_ok_g hI 1 rfl).1; have q3 := (g_ok_g hI 1 rfl).2; have q4 := (g_ok_g hI 2 rfl).1; have q5 := (g_ok_g hI 2 rfl).2; have q6 := (g_ok_g hI 7 rfl).1; have q7 := (g_ok_g hI 7 rfl).2; have q8 := (g_ok_g hI 8 rfl).1; have q9 := (g_ok_g hI 8 rfl).2; have q10 := (g_ok_g oF5 7 rfl).1; have q11 := (g_ok_g oF5 7 rfl).2; have q12 := pa0.1; have q13 := pa0.2; have q14 := zx1.2.1; have q15 := zx1.2.2; have q16 := zx2.2.1; have q17 := zx2.2.2; have q18 := zx4.2.1; have q19 := zx4.2.2; have q20 := hlt; have q21 := hps.2.2.2.2.2; have q22 := hps.2.2.1; have q23 := hps.2.2.2.2.1; have q24 := (cg_0 L); have q25 := (g_em2 zx1.1 (by decide : Int32.toInt 1048576 = 1048576)); have q26 := (g_eq0 zx2.1); have q27 := (g_eq0 zx4.1); have q28 := (congrArg Int32.toInt (show F5 25 = F 25 from (g_pu2 hF5 rfl))); omega)) ml_X11_244 yV_X11_notes e_X11_jumps_31 (by unfold g_rr; decide) (by decide) 0 rfl rfl rfl (Nat.le_of_ble_eq_true rfl) (fun w7 h8 => ?_)
  obtain ⟨F11, R12, rfl, oF11, oR12, wTF11, wCF11, cF11, cR12, zx9, zx10⟩ := h8
  have fF11 : g_fr md_X11_jumps F F11 := g_fr_c fF5 cF11 rfl
  have fR12 : g_fr mr_X11_jumps R R12 := g_fr_c fR3 cR12 rfl
  refine g_aload_n cx 0 rfl e_X11_jumps_34 ?_
  refine g_aload_n cx 0 rfl e_X11_jumps_35 ?_
  refine g_get cx cl_X11 fl_X11_190 0 (.int (F11 15)) e_X11_jumps_36 rfl rfl ?_
  refine g_toi (F 15) ((cF11 15 rfl).trans (g_pu2 hF5 rfl)) ?_
  refine g_iconst cx 1 (by decide) e_X11_jumps_39 ?_
  refine g_iadd cx e_X11_jumps_40 ?_
  refine g_topi (fun x13 ex13 => ?_)
  have zx13 := jv_add 1 221 ex13 (g_ok_g hI 1 rfl) (jv_k (x := 1) 1 (by decide)) (by decide)
  refine g_put cx cl_X11 fl_X11_190 0 (wM X ad (upd F11 15 x13) R12) e_X11_jumps_41 rfl rfl rfl rfl (Nat.le_of_ble_eq_true rfl) rfl ?_
  obtain ⟨F14, hF14⟩ : ∃ z, z = upd F11 15 x13 := ⟨_, rfl⟩
  rw [← hF14]
  have oF14 : g_ok LK_wM F14 := by rw [hF14]; exact g_ok_p oF11 (show jv 0 220 _ from ⟨by have q0 := (jv_k (x := 1) 1 (by decide)).1; have q1 := (jv_k (x := 1) 1 (by decide)).2; have q2 := (g_ok_g hI 1 rfl).1; have q3 := (g_ok_g hI 1 rfl).2; have q4 := (g_ok_g hI 2 rfl).1; have q5 := (g_ok_g hI 2 rfl).2; have q6 := (g_ok_g hI 7 rfl).1; have q7 := (g_ok_g hI 7 rfl).2; have q8 := (g_ok_g hI 8 rfl).1; have q9 := (g_ok_g hI 8 rfl).2; have q10 := (g_ok_g oF11 7 rfl).1; have q11 := (g_ok_g oF11 7 rfl).2; have q12 := (g_ok_g oF5 7 rfl).1; have q13 := (g_ok_g oF5 7 rfl).2; have q14 := pa0.1; have q15 := pa0.2; have q16 := zx1.2.1; have q17 := zx1.2.2; have q18 := zx13.2.1; have q19 := zx13.2.2; have q20 := zx2.2.1; have q21 := zx2.2.2; have q22 := zx4.2.1; have q23 := zx4.2.2; have q24 := hlt; have q25 := hps.2.2.2.2.2; have q26 := hps.2.2.1; have q27 := hps.2.2.2.2.1; have q28 := (cg_0 L); have q29 := (g_em2 zx1.1 (by decide : Int32.toInt 1048576 = 1048576)); have q30 := (g_eq0 zx2.1); have q31 := (g_eq0 zx4.1); have q32 := (congrArg Int32.toInt (show F5 25 = F 25 from (g_pu2 hF5 rfl))); have q33 := zx9; have q34 := (congrArg Int32.toInt (show F5 25 = F 25 from (g_pu2 hF5 rfl))); have q35 := (g_eq0 zx13.1); omega, by have q0 := (jv_k (x := 1) 1 (by decide)).1; have q1 := (jv_k (x := 1) 1 (by decide)).2; have q2 := (g_ok_g hI 1 rfl).1; have q3 := (g_ok_g hI 1 rfl).2; have q4 := (g_ok_g hI 2 rfl).1; have q5 := (g_ok_g hI 2 rfl).2; have q6 := (g_ok_g hI 7 rfl).1; have q7 := (g_ok_g hI 7 rfl).2; have q8 := (g_ok_g hI 8 rfl).1; have q9 := (g_ok_g hI 8 rfl).2; have q10 := (g_ok_g oF11 7 rfl).1; have q11 := (g_ok_g oF11 7 rfl).2; have q12 := (g_ok_g oF5 7 rfl).1; have q13 := (g_ok_g oF5 7 rfl).2; have q14 := pa0.1; have q15 := pa0.2; have q16 := zx1.2.1; have q17 := zx1.2.2; have q18 := zx13.2.1; have q19 := zx13.2.2; have q20 := zx2.2.1; have q21 := zx2.2.2; have q22 := zx4.2.1; have q23 := zx4.2.2; have q24 := hlt; have q25 := hps.2.2.2.2.2; have q26 := hps.2.2.1; have q27 := hps.2.2.2.2.1; have q28 := (cg_0 L); have q29 := (g_em2 zx1.1 (by decide : Int32.toInt 1048576 = 1048576)); have q30 := (g_eq0 zx2.1); have q31 := (g_eq0 zx4.1); have q32 := (congrArg Int32.toInt (show F5 25 = F 25 from (g_pu2 hF5 rfl))); have q33 := zx9; have q34 := (congrArg Int32.toInt (show F5 25 = F 25 from (g_pu2 hF5 rfl))); have q35 := (g_eq0 zx13.1); omega⟩) rfl
  have fF14 : g_fr md_X11_jumps F F14 := by rw [hF14]; exact g_fr_u fF11 rfl
  have wTF14 : WT F14 R12 := by rw [hF14]; exact WT_u wTF11 rfl
  have wCF14 : WC F14 R12 := by rw [hF14]; exact WC_u wCF11 rfl
  exact hret e_X11_jumps_44 (Nat.le_of_ble_eq_true rfl) (Nat.le_of_ble_eq_true rfl) ⟨F14, R12, rfl, oF14, oR12, wTF14, wCF14, fF14, fR12, (by
      obtain ⟨z, hz, e12⟩ := zx10
      have z0 : (0 : Int32).toInt = 0 := rfl
      have e12 : R12 12 = upd (R 12) (F 25).toInt.toNat z := (e12.trans (by rw [show R3 12 = R 12 from (g_ru2 hR3 rfl), show F5 25 = F 25 from (g_pu2 hF5 rfl)]))
      exact ⟨PS_jump (v := x2) hps ⟨by have q0 := (jv_k (x := 1) 1 (by decide)).1; have q1 := (jv_k (x := 1) 1 (by decide)).2; have q2 := (g_ok_g hI 1 rfl).1; have q3 := (g_ok_g hI 1 rfl).2; have q4 := (g_ok_g hI 2 rfl).1; have q5 := (g_ok_g hI 2 rfl).2; have q6 := (g_ok_g hI 7 rfl).1; have q7 := (g_ok_g hI 7 rfl).2; have q8 := (g_ok_g hI 8 rfl).1; have q9 := (g_ok_g hI 8 rfl).2; have q10 := (g_ok_g oF11 7 rfl).1; have q11 := (g_ok_g oF11 7 rfl).2; have q12 := (g_ok_g oF5 7 rfl).1; have q13 := (g_ok_g oF5 7 rfl).2; have q14 := pa0.1; have q15 := pa0.2; have q16 := zx1.2.1; have q17 := zx1.2.2; have q18 := zx13.2.1; have q19 := zx13.2.2; have q20 := zx2.2.1; have q21 := zx2.2.2; have q22 := zx4.2.1; have q23 := zx4.2.2; have q24 := hlt; have q25 := hps.2.2.2.2.2; have q26 := hps.2.2.1; have q27 := hps.2.2.2.2.1; have q28 := (cg_0 L); have q29 := (g_em2 zx1.1 (by decide : Int32.toInt 1048576 = 1048576)); have q30 := (g_eq0 zx2.1); have q31 := (g_eq0 zx4.1); have q32 := (congrArg Int32.toInt (show F5 25 = F 25 from (g_pu2 hF5 rfl))); have q33 := zx9; have q34 := (congrArg Int32.toInt (show F5 25 = F 25 from (g_pu2 hF5 rfl))); have q35 := (g_eq0 zx13.1); omega, by have q0 := (jv_k (x := 1) 1 (by decide)).1; have q1 := (jv_k (x := 1) 1 (by decide)).2; have q2 := (g_ok_g hI 1 rfl).1; have q3 := (g_ok_g hI 1 rfl).2; have q4 := (g_ok_g hI 2 rfl).1; have q5 := (g_ok_g hI 2 rfl).2; have q6 := (g_ok_g hI 7 rfl).1; have q7 := (g_ok_g hI 7 rfl).2; have q8 := (g_ok_g hI 8 rfl).1; have q9 := (g_ok_g hI 8 rfl).2; have q10 := (g_ok_g oF11 7 rfl).1; have q11 := (g_ok_g oF11 7 rfl).2; have q12 := (g_ok_g oF5 7 rfl).1; have q13 := (g_ok_g oF5 7 rfl).2; have q14 := pa0.1; have q15 := pa0.2; have q16 := zx1.2.1; have q17 := zx1.2.2; have q18 := zx13.2.1; have q19 := zx13.2.2; have q20 := zx2.2.1; have q21 := zx2.2.2; have q22 := zx4.2.1; have q23 := zx4.2.2; have q24 := hlt; have q25 := hps.2.2.2.2.2; have q26 := hps.2.2.1; have q27 := hps.2.2.2.2.1; have q28 := (cg_0 L); have q29 := (g_em2 zx1.1 (by decide : Int32.toInt 1048576 = 1048576)); have q30 := (g_eq0 zx2.1); have q31 := (g_eq0 zx4.1); have q32 := (congrArg Int32.toInt (show F5 25 = F 25 from (g_pu2 hF5 rfl))); have q33 := zx9; have q34 := (congrArg Int32.toInt (show F5 25 = F 25 from (g_pu2 hF5 rfl))); have q35 := (g_eq0 zx13.1); omega⟩ (by have q0 := (jv_k (x := 1) 1 (by decide)).1; have q1 := (jv_k (x := 1) 1 (by decide)).2; have q2 := (g_ok_g hI 1 rfl).1; have q3 := (g_ok_g hI 1 rfl).2; have q4 := (g_ok_g hI 2 rfl).1; have q5 := (g_ok_g hI 2 rfl).2; have q6 := (g_ok_g hI 7 rfl).1; have q7 := (g_ok_g hI 7 rfl).2; have q8 := (g_ok_g hI 8 rfl).1; have q9 := (g_ok_g hI 8 rfl).2; have q10 := (g_ok_g oF11 7 rfl).1; have q11 := (g_ok_g oF11 7 rfl).2; have q12 := (g_ok_g oF5 7 rfl).1; have q13 := (g_ok_g oF5 7 rfl).2; have q14 := pa0.1; have q15 := pa0.2; have q16 := zx1.2.1; have q17 := zx1.2.2; have q18 := zx13.2.1; have q19 := zx13.2.2; have q20 := zx2.2.1; have q21 := zx2.2.2; have q22 := zx4.2.1; have q23 := zx4.2.2; have q24 := hlt; have q25 := hps.2.2.2.2.2; have q26 := hps.2.2.1; have q27 := hps.2.2.2.2.1; have q28 := (cg_0 L); have q29 := (g_em2 zx1.1 (by decide : Int32.toInt 1048576 = 1048576)); have q30 := (g_eq0 zx2.1); have q31 := (g_eq0 zx4.1); have q32 := (congrArg Int32.toInt (show F5 25 = F 25 from (g_pu2 hF5 rfl))); have q33 := zx9; have q34 := (congrArg Int32.toInt (show F5 25 = F 25 from (g_pu2 hF5 rfl))); have q35 := (g_eq0 zx13.1); omega) (by have q0 := (jv_k (x := 1) 1 (by decide)).1; have q1 := (jv_k (x := 1) 1 (by decide)).2; have q2 := (g_ok_g hI 1 rfl).1; have q3 := (g_ok_g hI 1 rfl).2; have q4 := (g_ok_g hI 2 rfl).1; have q5 := (g_ok_g hI 2 rfl).2; have q6 := (g_ok_g hI 7 rfl).1; have q7 := (g_ok_g hI 7 rfl).2; have q8 := (g_ok_g hI 8 rfl).1; have q9 := (g_ok_g hI 8 rfl).2; have q10 := (g_ok_g oF11 7 rfl).1; have q11 := (g_ok_g oF11 7 rfl).2; have q12 := (g_ok_g oF5 7 rfl).1; have q13 := (g_ok_g oF5 7 rfl).2; have q14 := pa0.1; have q15 := pa0.2; have q16 := zx1.2.1; have q17 := zx1.2.2; have q18 := zx13.2.1; have q19 := zx13.2.2; have q20 := zx2.2.1; have q21 := zx2.2.2; have q22 := zx4.2.1; have q23 := zx4.2.2; have q24 := hlt; have q25 := hps.2.2.2.2.2; have q26 := hps.2.2.1; have q27 := hps.2.2.2.2.1; have q28 := (cg_0 L); have q29 := (g_em2 zx1.1 (by decide : Int32.toInt 1048576 = 1048576)); have q30 := (g_eq0 zx2.1); have q31 := (g_eq0 zx4.1); have q32 := (congrArg Int32.toInt (show F5 25 = F 25 from (g_pu2 hF5 rfl))); have q33 := zx9; have q34 := (congrArg Int32.toInt (show F5 25 = F 25 from (g_pu2 hF5 rfl))); have q35 := (g_eq0 zx13.1); omega) (by rw [hz]; omega) (by have q0 := (jv_k (x := 1) 1 (by decide)).1; have q1 := (jv_k (x := 1) 1 (by decide)).2; have q2 := (g_ok_g hI 1 rfl).1; have q3 := (g_ok_g hI 1 rfl).2; have q4 := (g_ok_g hI 2 rfl).1; have q5 := (g_ok_g hI 2 rfl).2; have q6 := (g_ok_g hI 7 rfl).1; have q7 := (g_ok_g hI 7 rfl).2; have q8 := (g_ok_g hI 8 rfl).1; have q9 := (g_ok_g hI 8 rfl).2; have q10 := (g_ok_g oF11 7 rfl).1; have q11 := (g_ok_g oF11 7 rfl).2; have q12 := (g_ok_g oF14 7 rfl).1; have q13 := (g_ok_g oF14 7 rfl).2; have q14 := (g_ok_g oF5 7 rfl).1; have q15 := (g_ok_g oF5 7 rfl).2; have q16 := pa0.1; have q17 := pa0.2; have q18 := zx1.2.1; have q19 := zx1.2.2; have q20 := zx13.2.1; have q21 := zx13.2.2; have q22 := zx2.2.1; have q23 := zx2.2.2; have q24 := zx4.2.1; have q25 := zx4.2.2; have q26 := hlt; have q27 := hps.2.2.2.2.2; have q28 := hps.2.2.1; have q29 := hps.2.2.2.2.1; have q30 := (cg_0 L); have q31 := (g_em2 zx1.1 (by decide : Int32.toInt 1048576 = 1048576)); have q32 := (g_eq0 zx2.1); have q33 := (g_eq0 zx4.1); have q34 := (congrArg Int32.toInt (show F5 25 = F 25 from (g_pu2 hF5 rfl))); have q35 := zx9; have q36 := (congrArg Int32.toInt (show F5 25 = F 25 from (g_pu2 hF5 rfl))); have q37 := (g_eq0 zx13.1); have q38 := (congrArg Int32.toInt (show F14 25 = F11 25 from (g_pu2 hF14 rfl))); omega) (by have q0 := (jv_k (x := 1) 1 (by decide)).1; have q1 := (jv_k (x := 1) 1 (by decide)).2; have q2 := (g_ok_g hI 1 rfl).1; have q3 := (g_ok_g hI 1 rfl).2; have q4 := (g_ok_g hI 2 rfl).1; have q5 := (g_ok_g hI 2 rfl).2; have q6 := (g_ok_g hI 7 rfl).1; have q7 := (g_ok_g hI 7 rfl).2; have q8 := (g_ok_g hI 8 rfl).1; have q9 := (g_ok_g hI 8 rfl).2; have q10 := (g_ok_g oF11 7 rfl).1; have q11 := (g_ok_g oF11 7 rfl).2; have q12 := (g_ok_g oF14 7 rfl).1; have q13 := (g_ok_g oF14 7 rfl).2; have q14 := (g_ok_g oF14 8 rfl).1; have q15 := (g_ok_g oF14 8 rfl).2; have q16 := (g_ok_g oF5 7 rfl).1; have q17 := (g_ok_g oF5 7 rfl).2; have q18 := pa0.1; have q19 := pa0.2; have q20 := zx1.2.1; have q21 := zx1.2.2; have q22 := zx13.2.1; have q23 := zx13.2.2; have q24 := zx2.2.1; have q25 := zx2.2.2; have q26 := zx4.2.1; have q27 := zx4.2.2; have q28 := hlt; have q29 := hps.2.2.2.2.2; have q30 := hps.2.2.1; have q31 := hps.2.2.2.2.1; have q32 := (cg_0 L); have q33 := (g_em2 zx1.1 (by decide : Int32.toInt 1048576 = 1048576)); have q34 := (g_eq0 zx2.1); have q35 := (g_eq0 zx4.1); have q36 := (congrArg Int32.toInt (show F5 25 = F 25 from (g_pu2 hF5 rfl))); have q37 := zx9; have q38 := (congrArg Int32.toInt (show F5 25 = F 25 from (g_pu2 hF5 rfl))); have q39 := (g_eq0 zx13.1); have q40 := (congrArg Int32.toInt (show F14 25 = F11 25 from (g_pu2 hF14 rfl))); have q41 := (congrArg Int32.toInt (show F14 26 = x4 from (((g_pu2 hF14 rfl).trans (cF11 26 rfl)).trans (g_pu1 hF5)))); omega) (by have q0 := (jv_k (x := 1) 1 (by decide)).1; have q1 := (jv_k (x := 1) 1 (by decide)).2; have q2 := (g_ok_g hI 1 rfl).1; have q3 := (g_ok_g hI 1 rfl).2; have q4 := (g_ok_g hI 2 rfl).1; have q5 := (g_ok_g hI 2 rfl).2; have q6 := (g_ok_g hI 7 rfl).1; have q7 := (g_ok_g hI 7 rfl).2; have q8 := (g_ok_g hI 8 rfl).1; have q9 := (g_ok_g hI 8 rfl).2; have q10 := (g_ok_g oF11 7 rfl).1; have q11 := (g_ok_g oF11 7 rfl).2; have q12 := (g_ok_g oF14 1 rfl).1; have q13 := (g_ok_g oF14 1 rfl).2; have q14 := (g_ok_g oF14 7 rfl).1; have q15 := (g_ok_g oF14 7 rfl).2; have q16 := (g_ok_g oF14 8 rfl).1; have q17 := (g_ok_g oF14 8 rfl).2; have q18 := (g_ok_g oF5 7 rfl).1; have q19 := (g_ok_g oF5 7 rfl).2; have q20 := pa0.1; have q21 := pa0.2; have q22 := zx1.2.1; have q23 := zx1.2.2; have q24 := zx13.2.1; have q25 := zx13.2.2; have q26 := zx2.2.1; have q27 := zx2.2.2; have q28 := zx4.2.1; have q29 := zx4.2.2; have q30 := hlt; have q31 := hps.2.2.2.2.2; have q32 := hps.2.2.1; have q33 := hps.2.2.2.2.1; have q34 := (cg_0 L); have q35 := (g_em2 zx1.1 (by decide : Int32.toInt 1048576 = 1048576)); have q36 := (g_eq0 zx2.1); have q37 := (g_eq0 zx4.1); have q38 := (congrArg Int32.toInt (show F5 25 = F 25 from (g_pu2 hF5 rfl))); have q39 := zx9; have q40 := (congrArg Int32.toInt (show F5 25 = F 25 from (g_pu2 hF5 rfl))); have q41 := (g_eq0 zx13.1); have q42 := (congrArg Int32.toInt (show F14 25 = F11 25 from (g_pu2 hF14 rfl))); have q43 := (congrArg Int32.toInt (show F14 26 = x4 from (((g_pu2 hF14 rfl).trans (cF11 26 rfl)).trans (g_pu1 hF5)))); have q44 := (congrArg Int32.toInt (show F14 15 = x13 from (g_pu1 hF14))); omega) e12 ((cR12 13 rfl).trans (g_ru1 hR3)), by have q0 := (jv_k (x := 1) 1 (by decide)).1; have q1 := (jv_k (x := 1) 1 (by decide)).2; have q2 := (g_ok_g hI 1 rfl).1; have q3 := (g_ok_g hI 1 rfl).2; have q4 := (g_ok_g hI 2 rfl).1; have q5 := (g_ok_g hI 2 rfl).2; have q6 := (g_ok_g hI 7 rfl).1; have q7 := (g_ok_g hI 7 rfl).2; have q8 := (g_ok_g hI 8 rfl).1; have q9 := (g_ok_g hI 8 rfl).2; have q10 := (g_ok_g oF11 7 rfl).1; have q11 := (g_ok_g oF11 7 rfl).2; have q12 := (g_ok_g oF14 1 rfl).1; have q13 := (g_ok_g oF14 1 rfl).2; have q14 := (g_ok_g oF14 7 rfl).1; have q15 := (g_ok_g oF14 7 rfl).2; have q16 := (g_ok_g oF14 8 rfl).1; have q17 := (g_ok_g oF14 8 rfl).2; have q18 := (g_ok_g oF5 7 rfl).1; have q19 := (g_ok_g oF5 7 rfl).2; have q20 := pa0.1; have q21 := pa0.2; have q22 := zx1.2.1; have q23 := zx1.2.2; have q24 := zx13.2.1; have q25 := zx13.2.2; have q26 := zx2.2.1; have q27 := zx2.2.2; have q28 := zx4.2.1; have q29 := zx4.2.2; have q30 := hlt; have q31 := hps.2.2.2.2.2; have q32 := hps.2.2.1; have q33 := hps.2.2.2.2.1; have q34 := (cg_0 L); have q35 := (g_em2 zx1.1 (by decide : Int32.toInt 1048576 = 1048576)); have q36 := (g_eq0 zx2.1); have q37 := (g_eq0 zx4.1); have q38 := (congrArg Int32.toInt (show F5 25 = F 25 from (g_pu2 hF5 rfl))); have q39 := zx9; have q40 := (congrArg Int32.toInt (show F5 25 = F 25 from (g_pu2 hF5 rfl))); have q41 := (g_eq0 zx13.1); have q42 := (congrArg Int32.toInt (show F14 25 = F11 25 from (g_pu2 hF14 rfl))); have q43 := (congrArg Int32.toInt (show F14 26 = x4 from (((g_pu2 hF14 rfl).trans (cF11 26 rfl)).trans (g_pu1 hF5)))); have q44 := (congrArg Int32.toInt (show F14 15 = x13 from (g_pu1 hF14))); have q45 := (congrArg Int32.toInt (show F14 15 = x13 from (g_pu1 hF14))); omega, by have q0 := (jv_k (x := 1) 1 (by decide)).1; have q1 := (jv_k (x := 1) 1 (by decide)).2; have q2 := (g_ok_g hI 1 rfl).1; have q3 := (g_ok_g hI 1 rfl).2; have q4 := (g_ok_g hI 2 rfl).1; have q5 := (g_ok_g hI 2 rfl).2; have q6 := (g_ok_g hI 7 rfl).1; have q7 := (g_ok_g hI 7 rfl).2; have q8 := (g_ok_g hI 8 rfl).1; have q9 := (g_ok_g hI 8 rfl).2; have q10 := (g_ok_g oF11 7 rfl).1; have q11 := (g_ok_g oF11 7 rfl).2; have q12 := (g_ok_g oF14 1 rfl).1; have q13 := (g_ok_g oF14 1 rfl).2; have q14 := (g_ok_g oF14 7 rfl).1; have q15 := (g_ok_g oF14 7 rfl).2; have q16 := (g_ok_g oF14 8 rfl).1; have q17 := (g_ok_g oF14 8 rfl).2; have q18 := (g_ok_g oF5 7 rfl).1; have q19 := (g_ok_g oF5 7 rfl).2; have q20 := pa0.1; have q21 := pa0.2; have q22 := zx1.2.1; have q23 := zx1.2.2; have q24 := zx13.2.1; have q25 := zx13.2.2; have q26 := zx2.2.1; have q27 := zx2.2.2; have q28 := zx4.2.1; have q29 := zx4.2.2; have q30 := hlt; have q31 := hps.2.2.2.2.2; have q32 := hps.2.2.1; have q33 := hps.2.2.2.2.1; have q34 := (cg_0 L); have q35 := (g_em2 zx1.1 (by decide : Int32.toInt 1048576 = 1048576)); have q36 := (g_eq0 zx2.1); have q37 := (g_eq0 zx4.1); have q38 := (congrArg Int32.toInt (show F5 25 = F 25 from (g_pu2 hF5 rfl))); have q39 := zx9; have q40 := (congrArg Int32.toInt (show F5 25 = F 25 from (g_pu2 hF5 rfl))); have q41 := (g_eq0 zx13.1); have q42 := (congrArg Int32.toInt (show F14 25 = F11 25 from (g_pu2 hF14 rfl))); have q43 := (congrArg Int32.toInt (show F14 26 = x4 from (((g_pu2 hF14 rfl).trans (cF11 26 rfl)).trans (g_pu1 hF5)))); have q44 := (congrArg Int32.toInt (show F14 15 = x13 from (g_pu1 hF14))); have q45 := (congrArg Int32.toInt (show F14 15 = x13 from (g_pu1 hF14))); have q46 := (congrArg Int32.toInt (show F14 25 = F11 25 from (g_pu2 hF14 rfl))); omega, fun k q => by rw [e12, g_un (by rw [bne_iff_ne]; intro e; have := hps.1.1; omega)]⟩)⟩
theorem e_X11_readsCompared_0 : g_dc cX11_readsCompared 0 (.aload_n 0) 1 1 := ⟨by decide +kernel, rfl⟩
theorem e_X11_readsCompared_1 : g_dc cX11_readsCompared 1 (.invokevirtual 271) 3 4 := ⟨by decide +kernel, rfl⟩
theorem e_X11_readsCompared_4 : g_dc cX11_readsCompared 4 (.ifCond .ne 5) 3 7 := ⟨by decide +kernel, rfl⟩
theorem e_X11_readsCompared_7 : g_dc cX11_readsCompared 7 (.iconst 0) 1 8 := ⟨by decide +kernel, rfl⟩
theorem e_X11_readsCompared_8 : g_dc cX11_readsCompared 8 (.ireturn) 1 9 := ⟨by decide +kernel, rfl⟩
theorem e_X11_readsCompared_9 : g_dc cX11_readsCompared 9 (.aload_n 0) 1 10 := ⟨by decide +kernel, rfl⟩
theorem e_X11_readsCompared_10 : g_dc cX11_readsCompared 10 (.invokevirtual 200) 3 13 := ⟨by decide +kernel, rfl⟩
theorem e_X11_readsCompared_13 : g_dc cX11_readsCompared 13 (.bipush 60) 2 15 := ⟨by decide +kernel, rfl⟩
theorem e_X11_readsCompared_15 : g_dc cX11_readsCompared 15 (.if_icmp .ne 8) 3 18 := ⟨by decide +kernel, rfl⟩
theorem e_X11_readsCompared_18 : g_dc cX11_readsCompared 18 (.bipush 7) 2 20 := ⟨by decide +kernel, rfl⟩
theorem e_X11_readsCompared_20 : g_dc cX11_readsCompared 20 (.goto 32) 3 23 := ⟨by decide +kernel, rfl⟩
theorem e_X11_readsCompared_23 : g_dc cX11_readsCompared 23 (.aload_n 0) 1 24 := ⟨by decide +kernel, rfl⟩
theorem e_X11_readsCompared_24 : g_dc cX11_readsCompared 24 (.invokevirtual 200) 3 27 := ⟨by decide +kernel, rfl⟩
theorem e_X11_readsCompared_27 : g_dc cX11_readsCompared 27 (.bipush 62) 2 29 := ⟨by decide +kernel, rfl⟩
theorem e_X11_readsCompared_29 : g_dc cX11_readsCompared 29 (.if_icmp .ne 8) 3 32 := ⟨by decide +kernel, rfl⟩
theorem e_X11_readsCompared_32 : g_dc cX11_readsCompared 32 (.bipush 8) 2 34 := ⟨by decide +kernel, rfl⟩
theorem e_X11_readsCompared_34 : g_dc cX11_readsCompared 34 (.goto 18) 3 37 := ⟨by decide +kernel, rfl⟩
theorem e_X11_readsCompared_37 : g_dc cX11_readsCompared 37 (.aload_n 0) 1 38 := ⟨by decide +kernel, rfl⟩
theorem e_X11_readsCompared_38 : g_dc cX11_readsCompared 38 (.invokevirtual 200) 3 41 := ⟨by decide +kernel, rfl⟩
theorem e_X11_readsCompared_41 : g_dc cX11_readsCompared 41 (.bipush 61) 2 43 := ⟨by decide +kernel, rfl⟩
theorem e_X11_readsCompared_43 : g_dc cX11_readsCompared 43 (.if_icmp .ne 8) 3 46 := ⟨by decide +kernel, rfl⟩
theorem e_X11_readsCompared_46 : g_dc cX11_readsCompared 46 (.bipush 9) 2 48 := ⟨by decide +kernel, rfl⟩
theorem e_X11_readsCompared_48 : g_dc cX11_readsCompared 48 (.goto 4) 3 51 := ⟨by decide +kernel, rfl⟩
theorem e_X11_readsCompared_51 : g_dc cX11_readsCompared 51 (.iconst (-1)) 1 52 := ⟨by decide +kernel, rfl⟩
theorem e_X11_readsCompared_52 : g_dc cX11_readsCompared 52 (.istore_n 1) 1 53 := ⟨by decide +kernel, rfl⟩
theorem e_X11_readsCompared_53 : g_dc cX11_readsCompared 53 (.iload_n 1) 1 54 := ⟨by decide +kernel, rfl⟩
theorem e_X11_readsCompared_54 : g_dc cX11_readsCompared 54 (.iconst (-1)) 1 55 := ⟨by decide +kernel, rfl⟩
theorem e_X11_readsCompared_55 : g_dc cX11_readsCompared 55 (.if_icmp .ne 13) 3 58 := ⟨by decide +kernel, rfl⟩
theorem e_X11_readsCompared_58 : g_dc cX11_readsCompared 58 (.aload_n 0) 1 59 := ⟨by decide +kernel, rfl⟩
theorem e_X11_readsCompared_59 : g_dc cX11_readsCompared 59 (.iconst 1) 1 60 := ⟨by decide +kernel, rfl⟩
theorem e_X11_readsCompared_60 : g_dc cX11_readsCompared 60 (.aload_n 0) 1 61 := ⟨by decide +kernel, rfl⟩
theorem e_X11_readsCompared_61 : g_dc cX11_readsCompared 61 (.getfield 190) 3 64 := ⟨by decide +kernel, rfl⟩
theorem e_X11_readsCompared_64 : g_dc cX11_readsCompared 64 (.invokevirtual 204) 3 67 := ⟨by decide +kernel, rfl⟩
theorem e_X11_readsCompared_67 : g_dc cX11_readsCompared 67 (.ireturn) 1 68 := ⟨by decide +kernel, rfl⟩
theorem e_X11_readsCompared_68 : g_dc cX11_readsCompared 68 (.aload_n 0) 1 69 := ⟨by decide +kernel, rfl⟩
theorem e_X11_readsCompared_69 : g_dc cX11_readsCompared 69 (.aload_n 0) 1 70 := ⟨by decide +kernel, rfl⟩
theorem e_X11_readsCompared_70 : g_dc cX11_readsCompared 70 (.getfield 190) 3 73 := ⟨by decide +kernel, rfl⟩
theorem e_X11_readsCompared_73 : g_dc cX11_readsCompared 73 (.iconst 1) 1 74 := ⟨by decide +kernel, rfl⟩
theorem e_X11_readsCompared_74 : g_dc cX11_readsCompared 74 (.iadd) 1 75 := ⟨by decide +kernel, rfl⟩
theorem e_X11_readsCompared_75 : g_dc cX11_readsCompared 75 (.putfield 190) 3 78 := ⟨by decide +kernel, rfl⟩
theorem e_X11_readsCompared_78 : g_dc cX11_readsCompared 78 (.aload_n 0) 1 79 := ⟨by decide +kernel, rfl⟩
theorem e_X11_readsCompared_79 : g_dc cX11_readsCompared 79 (.invokevirtual 271) 3 82 := ⟨by decide +kernel, rfl⟩
theorem e_X11_readsCompared_82 : g_dc cX11_readsCompared 82 (.ifCond .ne 5) 3 85 := ⟨by decide +kernel, rfl⟩
theorem e_X11_readsCompared_85 : g_dc cX11_readsCompared 85 (.iconst 0) 1 86 := ⟨by decide +kernel, rfl⟩
theorem e_X11_readsCompared_86 : g_dc cX11_readsCompared 86 (.ireturn) 1 87 := ⟨by decide +kernel, rfl⟩
theorem e_X11_readsCompared_87 : g_dc cX11_readsCompared 87 (.aload_n 0) 1 88 := ⟨by decide +kernel, rfl⟩
theorem e_X11_readsCompared_88 : g_dc cX11_readsCompared 88 (.iload_n 1) 1 89 := ⟨by decide +kernel, rfl⟩
theorem e_X11_readsCompared_89 : g_dc cX11_readsCompared 89 (.iconst 0) 1 90 := ⟨by decide +kernel, rfl⟩
theorem e_X11_readsCompared_90 : g_dc cX11_readsCompared 90 (.invokevirtual 244) 3 93 := ⟨by decide +kernel, rfl⟩
theorem e_X11_readsCompared_93 : g_dc cX11_readsCompared 93 (.aload_n 0) 1 94 := ⟨by decide +kernel, rfl⟩
theorem e_X11_readsCompared_94 : g_dc cX11_readsCompared 94 (.invokevirtual 274) 3 97 := ⟨by decide +kernel, rfl⟩
theorem e_X11_readsCompared_97 : g_dc cX11_readsCompared 97 (.iconst 1) 1 98 := ⟨by decide +kernel, rfl⟩
theorem e_X11_readsCompared_98 : g_dc cX11_readsCompared 98 (.ireturn) 1 99 := ⟨by decide +kernel, rfl⟩
def md_X11_readsCompared : List Nat := [15, 17, 18, 24, 25, 26]
def mr_X11_readsCompared : List Nat := [12, 13]
set_option maxHeartbeats 4000000 in
set_option maxRecDepth 100000 in
theorem w_X11_readsCompared (l : Launch) (X : gX) (ad : Nat → Nat) (F : Nat → Int32) (R : Nat → Nat → Int32) (hI : g_ok LK_wM F) (hA : g_okR LA_wM R) (hWT : WT F R) (hWC : WC F R) (A : Nat × Nat) (L : List (Int × Nat)) (hps : PS F R A L 0) (hcb : cb L = 0) (hbt : bt L) : g_Ci l X yX11_readsCompared cX11_readsCompared 2 (some .boolean) 6 0 0 [.ref (ad 0)] (wM X ad F R) (fun r w => ∃ (F' : Nat → Int32) (R' : Nat → Nat → Int32), w = wM X ad F' R' ∧ g_ok LK_wM F' ∧ g_okR LA_wM R' ∧ WT F' R' ∧ WC F' R' ∧ g_fr md_X11_readsCompared F F' ∧ g_fr mr_X11_readsCompared R R' ∧ jv 0 1 r ∧ (¬ r = 0 → ∃ L1 : List (Int × Nat), PS F' R' A L1 1 ∧ cb L1 = 0 ∧ bt L1 ∧ FK F R F' R')) := by
  refine g_mi (by decide +kernel) (Nat.le_of_ble_eq_true rfl) (fun E cx hret => ?_)
  refine g_aload_n cx 0 rfl e_X11_readsCompared_0 ?_
  refine g_cViW cx [] [] (w_X11_readsSum l X ad F R hI hA hWT hWC A (L) (0) hps hcb (by omega)) ml_X11_271 yV_X11_readsSum e_X11_readsCompared_1 (by unfold g_rr; decide) (by decide) 0 rfl rfl rfl (Nat.le_of_ble_eq_true rfl) (fun r1 w2 h3 => ?_)
  obtain ⟨F5, R6, rfl, oF5, oR6, wTF5, wCF5, cF5, cR6, pr1, zx4⟩ := h3
  have fF5 : g_fr md_X11_readsCompared F F5 := g_fr_c (g_fr_rf F) cF5 rfl
  have fR6 : g_fr mr_X11_readsCompared R R6 := g_fr_c (g_fr_rf R) cR6 rfl
  refine g_if_ne cx 9 e_X11_readsCompared_4 (by decide) (fun zc7 => ?_) (fun zc7 => ?_)
  · have p8 := gn_neL 1 1 (gc_ne zc7) pr1 (jv_k (x := 0) 0 (by decide)) (by decide)
    obtain ⟨psk9, fkk9⟩ := (zx4 zc7)
    refine g_aload_n cx 0 rfl e_X11_readsCompared_9 ?_
    refine g_cViW cx [] [] (w_X11_here l X ad F5 R6 oF5 oR6 wTF5 wCF5) ml_X11_200 yV_X11_here e_X11_readsCompared_10 (by unfold g_rr; decide) (by decide) 0 rfl rfl rfl (Nat.le_of_ble_eq_true rfl) (fun r10 w11 h12 => ?_)
    obtain ⟨rfl, pr10, zx13⟩ := h12
    refine g_bipush cx 60 (by decide) e_X11_readsCompared_13 ?_
    have J52 : ∀ (y14 : Int32), (jv (-1) 9 y14) → ((y14 : Int32).toInt = -1 ∨ (7 ≤ (y14 : Int32).toInt ∧ (y14 : Int32).toInt ≤ 9 ∧ (F5 15).toInt < (F5 16).toInt)) → G X E 2 0 0 (wM X ad F5 R6) [(0, .ref (ad 0))] 52 [.int y14] := by
      intro y14 py14 zi52_0
      refine g_istore_n cx [(1, .int y14), (0, .ref (ad 0))] e_X11_readsCompared_52 (by decide) rfl ?_
      refine g_iload_n cx 0 rfl e_X11_readsCompared_53 ?_
      refine g_iconst cx (-1) (by decide) e_X11_readsCompared_54 ?_
      refine g_icmp_ne cx 68 e_X11_readsCompared_55 (by decide) (fun zc15 => ?_) (fun zc15 => ?_)
      · have p16 := gn_neL 0 9 (gc_ne zc15) py14 (jv_k (x := (-1)) (-1) (by decide)) (by decide)
        refine g_aload_n cx 1 rfl e_X11_readsCompared_68 ?_
        refine g_aload_n cx 1 rfl e_X11_readsCompared_69 ?_
        refine g_get cx cl_X11 fl_X11_190 0 (.int (F5 15)) e_X11_readsCompared_70 rfl rfl ?_
        refine g_iconst cx 1 (by decide) e_X11_readsCompared_73 ?_
        refine g_iadd cx e_X11_readsCompared_74 ?_
        refine g_topi (fun x17 ex17 => ?_)
        have zx17 := jv_add 1 221 ex17 (g_ok_g oF5 1 rfl) (jv_k (x := 1) 1 (by decide)) (by decide)
        refine g_put cx cl_X11 fl_X11_190 0 (wM X ad (upd F5 15 x17) R6) e_X11_readsCompared_75 rfl rfl rfl rfl (Nat.le_of_ble_eq_true rfl) rfl ?_
        obtain ⟨F18, hF18⟩ : ∃ z, z = upd F5 15 x17 := ⟨_, rfl⟩
        rw [← hF18]
        have oF18 : g_ok LK_wM F18 := by rw [hF18]; exact g_ok_p oF5 (show jv 0 220 _ from ⟨by have q0 := (jv_k (x := (-1)) (-1) (by decide)).1; have q1 := (jv_k (x := (-1)) (-1) (by decide)).2; have q2 := (g_here_iv F5 R6).1; have q3 := (g_here_iv F5 R6).2; have q4 := (jv_k (x := 1) 1 (by decide)).1; have q5 := (jv_k (x := 1) 1 (by decide)).2; have q6 := (g_ok_g hI 1 rfl).1; have q7 := (g_ok_g hI 1 rfl).2; have q8 := (g_ok_g hI 2 rfl).1; have q9 := (g_ok_g hI 2 rfl).2; have q10 := (g_ok_g oF5 1 rfl).1; have q11 := (g_ok_g oF5 1 rfl).2; have q12 := (g_ok_g oF5 2 rfl).1; have q13 := (g_ok_g oF5 2 rfl).2; have q14 := pr10.1; have q15 := pr10.2; have q16 := zx17.2.1; have q17 := zx17.2.2; have q18 := p16.1; have q19 := p16.2; have q20 := fkk9.2.2; have q21 := (congrArg Int32.toInt zx13); have q22 := (@g_here_lt F5 R6); have q23 := (congrArg Int32.toInt (show F5 16 = F 16 from (cF5 16 rfl))); have q24 := (congrArg Int32.toInt (show F5 16 = F 16 from (cF5 16 rfl))); have q25 := zi52_0; have q26 := (gc_ne zc15); have q27 := (g_eq0 zx17.1); omega, by have q0 := (jv_k (x := (-1)) (-1) (by decide)).1; have q1 := (jv_k (x := (-1)) (-1) (by decide)).2; have q2 := (g_here_iv F5 R6).1; have q3 := (g_here_iv F5 R6).2; have q4 := (jv_k (x := 1) 1 (by decide)).1; have q5 := (jv_k (x := 1) 1 (by decide)).2; have q6 := (g_ok_g hI 1 rfl).1; have q7 := (g_ok_g hI 1 rfl).2; have q8 := (g_ok_g hI 2 rfl).1; have q9 := (g_ok_g hI 2 rfl).2; have q10 := (g_ok_g oF5 1 rfl).1; have q11 := (g_ok_g oF5 1 rfl).2; have q12 := (g_ok_g oF5 2 rfl).1; have q13 := (g_ok_g oF5 2 rfl).2; have q14 := pr10.1; have q15 := pr10.2; have q16 := zx17.2.1; have q17 := zx17.2.2; have q18 := p16.1; have q19 := p16.2; have q20 := fkk9.2.2; have q21 := (congrArg Int32.toInt zx13); have q22 := (@g_here_lt F5 R6); have q23 := (congrArg Int32.toInt (show F5 16 = F 16 from (cF5 16 rfl))); have q24 := (congrArg Int32.toInt (show F5 16 = F 16 from (cF5 16 rfl))); have q25 := zi52_0; have q26 := (gc_ne zc15); have q27 := (g_eq0 zx17.1); omega⟩) rfl
        have fF18 : g_fr md_X11_readsCompared F F18 := by rw [hF18]; exact g_fr_u fF5 rfl
        have wTF18 : WT F18 R6 := by rw [hF18]; exact WT_u wTF5 rfl
        have wCF18 : WC F18 R6 := by rw [hF18]; exact WC_u wCF5 rfl
        have ps78 : PS F18 R6 (A.1, A.2 + 1) L (0 + 1) := PS_slack psk9 (g_pu2 hF18 rfl) (g_pu2 hF18 rfl) (by have q0 := (jv_k (x := (-1)) (-1) (by decide)).1; have q1 := (jv_k (x := (-1)) (-1) (by decide)).2; have q2 := (g_here_iv F5 R6).1; have q3 := (g_here_iv F5 R6).2; have q4 := (jv_k (x := 1) 1 (by decide)).1; have q5 := (jv_k (x := 1) 1 (by decide)).2; have q6 := (g_ok_g hI 1 rfl).1; have q7 := (g_ok_g hI 1 rfl).2; have q8 := (g_ok_g hI 2 rfl).1; have q9 := (g_ok_g hI 2 rfl).2; have q10 := (g_ok_g oF18 1 rfl).1; have q11 := (g_ok_g oF18 1 rfl).2; have q12 := (g_ok_g oF5 1 rfl).1; have q13 := (g_ok_g oF5 1 rfl).2; have q14 := (g_ok_g oF5 2 rfl).1; have q15 := (g_ok_g oF5 2 rfl).2; have q16 := pr10.1; have q17 := pr10.2; have q18 := zx17.2.1; have q19 := zx17.2.2; have q20 := p16.1; have q21 := p16.2; have q22 := fkk9.2.2; have q23 := (congrArg Int32.toInt zx13); have q24 := (@g_here_lt F5 R6); have q25 := (congrArg Int32.toInt (show F5 16 = F 16 from (cF5 16 rfl))); have q26 := (congrArg Int32.toInt (show F5 16 = F 16 from (cF5 16 rfl))); have q27 := zi52_0; have q28 := (gc_ne zc15); have q29 := (g_eq0 zx17.1); have q30 := (congrArg Int32.toInt (show F18 15 = x17 from (g_pu1 hF18))); omega) (rfl : R6 12 = R6 12) (rfl : R6 13 = R6 13)
        have fk78 : FK F R F18 R6 := FK_e fkk9 (g_pu2 hF18 rfl) (by have q0 := (jv_k (x := (-1)) (-1) (by decide)).1; have q1 := (jv_k (x := (-1)) (-1) (by decide)).2; have q2 := (g_here_iv F5 R6).1; have q3 := (g_here_iv F5 R6).2; have q4 := (jv_k (x := 1) 1 (by decide)).1; have q5 := (jv_k (x := 1) 1 (by decide)).2; have q6 := (g_ok_g hI 1 rfl).1; have q7 := (g_ok_g hI 1 rfl).2; have q8 := (g_ok_g hI 2 rfl).1; have q9 := (g_ok_g hI 2 rfl).2; have q10 := (g_ok_g oF18 1 rfl).1; have q11 := (g_ok_g oF18 1 rfl).2; have q12 := (g_ok_g oF5 1 rfl).1; have q13 := (g_ok_g oF5 1 rfl).2; have q14 := (g_ok_g oF5 2 rfl).1; have q15 := (g_ok_g oF5 2 rfl).2; have q16 := pr10.1; have q17 := pr10.2; have q18 := zx17.2.1; have q19 := zx17.2.2; have q20 := p16.1; have q21 := p16.2; have q22 := fkk9.2.2; have q23 := (congrArg Int32.toInt zx13); have q24 := (@g_here_lt F5 R6); have q25 := (congrArg Int32.toInt (show F5 16 = F 16 from (cF5 16 rfl))); have q26 := (congrArg Int32.toInt (show F5 16 = F 16 from (cF5 16 rfl))); have q27 := zi52_0; have q28 := (gc_ne zc15); have q29 := (g_eq0 zx17.1); have q30 := (congrArg Int32.toInt (show F18 15 = x17 from (g_pu1 hF18))); have q31 := (congrArg Int32.toInt (show F18 15 = x17 from (g_pu1 hF18))); omega) (rfl : R6 12 = R6 12)
        refine g_aload_n cx 1 rfl e_X11_readsCompared_78 ?_
        refine g_cViW cx [] [] (w_X11_readsSum l X ad F18 R6 oF18 oR6 wTF18 wCF18 (A.1, A.2 + 1) (L) ((0 + 1)) ps78 hcb (by omega)) ml_X11_271 yV_X11_readsSum e_X11_readsCompared_79 (by unfold g_rr; decide) (by decide) 0 rfl rfl rfl (Nat.le_of_ble_eq_true rfl) (fun r19 w20 h21 => ?_)
        obtain ⟨F23, R24, rfl, oF23, oR24, wTF23, wCF23, cF23, cR24, pr19, zx22⟩ := h21
        have fF23 : g_fr md_X11_readsCompared F F23 := g_fr_c fF18 cF23 rfl
        have fR24 : g_fr mr_X11_readsCompared R R24 := g_fr_c fR6 cR24 rfl
        refine g_if_ne cx 87 e_X11_readsCompared_82 (by decide) (fun zc25 => ?_) (fun zc25 => ?_)
        · have p26 := gn_neL 1 1 (gc_ne zc25) pr19 (jv_k (x := 0) 0 (by decide)) (by decide)
          obtain ⟨psk27, fkk27⟩ := (zx22 zc25)
          have room := PS_room2 psk27
          refine g_aload_n cx 1 rfl e_X11_readsCompared_87 ?_
          refine g_iload_n cx 0 rfl e_X11_readsCompared_88 ?_
          refine g_iconst cx 0 (by decide) e_X11_readsCompared_89 ?_
          refine g_cVvW cx [.int y14, .int 0] [] (w_X11_notes l X ad F23 R24 oF23 oR24 wTF23 wCF23 y14 0 (jv_w p16 (by decide)) (jv_w (jv_k (x := 0) 0 (by decide)) (by decide)) (by have q0 := (jv_k (x := (-1)) (-1) (by decide)).1; have q1 := (jv_k (x := (-1)) (-1) (by decide)).2; have q2 := (g_here_iv F5 R6).1; have q3 := (g_here_iv F5 R6).2; have q4 := (jv_k (x := 1) 1 (by decide)).1; have q5 := (jv_k (x := 1) 1 (by decide)).2; have q6 := (g_ok_g hI 1 rfl).1; have q7 := (g_ok_g hI 1 rfl).2; have q8 := (g_ok_g hI 2 rfl).1; have q9 := (g_ok_g hI 2 rfl).2; have q10 := (g_ok_g hI 7 rfl).1; have q11 := (g_ok_g hI 7 rfl).2; have q12 := (g_ok_g oF18 1 rfl).1; have q13 := (g_ok_g oF18 1 rfl).2; have q14 := (g_ok_g oF18 7 rfl).1; have q15 := (g_ok_g oF18 7 rfl).2; have q16 := (g_ok_g oF23 1 rfl).1; have q17 := (g_ok_g oF23 1 rfl).2; have q18 := (g_ok_g oF23 7 rfl).1; have q19 := (g_ok_g oF23 7 rfl).2; have q20 := (g_ok_g oF5 1 rfl).1; have q21 := (g_ok_g oF5 1 rfl).2; have q22 := (g_ok_g oF5 2 rfl).1; have q23 := (g_ok_g oF5 2 rfl).2; have q24 := (g_ok_g oF5 7 rfl).1; have q25 := (g_ok_g oF5 7 rfl).2; have q26 := pr10.1; have q27 := pr10.2; have q28 := zx17.2.1; have q29 := zx17.2.2; have q30 := p16.1; have q31 := p16.2; have q32 := fkk9.2.2; have q33 := fkk9.2.1; have q34 := (congrArg Int32.toInt zx13); have q35 := (@g_here_lt F5 R6); have q36 := (congrArg Int32.toInt (show F5 16 = F 16 from (cF5 16 rfl))); have q37 := (congrArg Int32.toInt (show F5 16 = F 16 from (cF5 16 rfl))); have q38 := zi52_0; have q39 := (gc_ne zc15); have q40 := (g_eq0 zx17.1); have q41 := (congrArg Int32.toInt (show F18 15 = x17 from (g_pu1 hF18))); have q42 := (congrArg Int32.toInt (show F18 15 = x17 from (g_pu1 hF18))); have q43 := fkk27.2.2; have q44 := fkk27.2.1; have q45 := (congrArg Int32.toInt (show F18 15 = x17 from (g_pu1 hF18))); have q46 := (congrArg Int32.toInt (show F18 25 = F5 25 from (g_pu2 hF18 rfl))); have q47 := room; omega)) ml_X11_244 yV_X11_notes e_X11_readsCompared_90 (by unfold g_rr; decide) (by decide) 0 rfl rfl rfl (Nat.le_of_ble_eq_true rfl) (fun w29 h30 => ?_)
          obtain ⟨F33, R34, rfl, oF33, oR34, wTF33, wCF33, cF33, cR34, zx31, zx32⟩ := h30
          have fF33 : g_fr md_X11_readsCompared F F33 := g_fr_c fF23 cF33 rfl
          have fR34 : g_fr mr_X11_readsCompared R R34 := g_fr_c fR24 cR34 rfl
          obtain ⟨x, hx, e12⟩ := zx32
          have e12 : R34 12 = upd (R24 12) (F23 25).toInt.toNat x := (e12.trans (by rw [show R24 12 = R24 12 from rfl, show F23 25 = F23 25 from rfl]))
          have hhow : 7 ≤ (y14 : Int32).toInt ∧ (y14 : Int32).toInt ≤ 9 := ⟨by have q0 := (jv_k (x := (-1)) (-1) (by decide)).1; have q1 := (jv_k (x := (-1)) (-1) (by decide)).2; have q2 := (g_here_iv F5 R6).1; have q3 := (g_here_iv F5 R6).2; have q4 := (jv_k (x := 1) 1 (by decide)).1; have q5 := (jv_k (x := 1) 1 (by decide)).2; have q6 := (g_ok_g hI 1 rfl).1; have q7 := (g_ok_g hI 1 rfl).2; have q8 := (g_ok_g hI 2 rfl).1; have q9 := (g_ok_g hI 2 rfl).2; have q10 := (g_ok_g oF18 1 rfl).1; have q11 := (g_ok_g oF18 1 rfl).2; have q12 := (g_ok_g oF18 7 rfl).1; have q13 := (g_ok_g oF18 7 rfl).2; have q14 := (g_ok_g oF23 1 rfl).1; have q15 := (g_ok_g oF23 1 rfl).2; have q16 := (g_ok_g oF23 7 rfl).1; have q17 := (g_ok_g oF23 7 rfl).2; have q18 := (g_ok_g oF33 7 rfl).1; have q19 := (g_ok_g oF33 7 rfl).2; have q20 := (g_ok_g oF5 1 rfl).1; have q21 := (g_ok_g oF5 1 rfl).2; have q22 := (g_ok_g oF5 2 rfl).1; have q23 := (g_ok_g oF5 2 rfl).2; have q24 := (g_ok_g oF5 7 rfl).1; have q25 := (g_ok_g oF5 7 rfl).2; have q26 := pr10.1; have q27 := pr10.2; have q28 := zx17.2.1; have q29 := zx17.2.2; have q30 := p16.1; have q31 := p16.2; have q32 := fkk9.2.2; have q33 := (congrArg Int32.toInt zx13); have q34 := (@g_here_lt F5 R6); have q35 := (congrArg Int32.toInt (show F5 16 = F 16 from (cF5 16 rfl))); have q36 := (congrArg Int32.toInt (show F5 16 = F 16 from (cF5 16 rfl))); have q37 := zi52_0; have q38 := (gc_ne zc15); have q39 := (g_eq0 zx17.1); have q40 := (congrArg Int32.toInt (show F18 15 = x17 from (g_pu1 hF18))); have q41 := (congrArg Int32.toInt (show F18 15 = x17 from (g_pu1 hF18))); have q42 := fkk27.2.2; have q43 := fkk27.2.1; have q44 := (congrArg Int32.toInt (show F18 15 = x17 from (g_pu1 hF18))); have q45 := (congrArg Int32.toInt (show F18 25 = F5 25 from (g_pu2 hF18 rfl))); have q46 := room; have q47 := zx31; omega, by have q0 := (jv_k (x := (-1)) (-1) (by decide)).1; have q1 := (jv_k (x := (-1)) (-1) (by decide)).2; have q2 := (g_here_iv F5 R6).1; have q3 := (g_here_iv F5 R6).2; have q4 := (jv_k (x := 1) 1 (by decide)).1; have q5 := (jv_k (x := 1) 1 (by decide)).2; have q6 := (g_ok_g hI 1 rfl).1; have q7 := (g_ok_g hI 1 rfl).2; have q8 := (g_ok_g hI 2 rfl).1; have q9 := (g_ok_g hI 2 rfl).2; have q10 := (g_ok_g oF18 1 rfl).1; have q11 := (g_ok_g oF18 1 rfl).2; have q12 := (g_ok_g oF18 7 rfl).1; have q13 := (g_ok_g oF18 7 rfl).2; have q14 := (g_ok_g oF23 1 rfl).1; have q15 := (g_ok_g oF23 1 rfl).2; have q16 := (g_ok_g oF23 7 rfl).1; have q17 := (g_ok_g oF23 7 rfl).2; have q18 := (g_ok_g oF33 7 rfl).1; have q19 := (g_ok_g oF33 7 rfl).2; have q20 := (g_ok_g oF5 1 rfl).1; have q21 := (g_ok_g oF5 1 rfl).2; have q22 := (g_ok_g oF5 2 rfl).1; have q23 := (g_ok_g oF5 2 rfl).2; have q24 := (g_ok_g oF5 7 rfl).1; have q25 := (g_ok_g oF5 7 rfl).2; have q26 := pr10.1; have q27 := pr10.2; have q28 := zx17.2.1; have q29 := zx17.2.2; have q30 := p16.1; have q31 := p16.2; have q32 := fkk9.2.2; have q33 := (congrArg Int32.toInt zx13); have q34 := (@g_here_lt F5 R6); have q35 := (congrArg Int32.toInt (show F5 16 = F 16 from (cF5 16 rfl))); have q36 := (congrArg Int32.toInt (show F5 16 = F 16 from (cF5 16 rfl))); have q37 := zi52_0; have q38 := (gc_ne zc15); have q39 := (g_eq0 zx17.1); have q40 := (congrArg Int32.toInt (show F18 15 = x17 from (g_pu1 hF18))); have q41 := (congrArg Int32.toInt (show F18 15 = x17 from (g_pu1 hF18))); have q42 := fkk27.2.2; have q43 := fkk27.2.1; have q44 := (congrArg Int32.toInt (show F18 15 = x17 from (g_pu1 hF18))); have q45 := (congrArg Int32.toInt (show F18 25 = F5 25 from (g_pu2 hF18 rfl))); have q46 := room; have q47 := zx31; omega⟩
          have ps93 : PS F33 R34 A L 1 := PS_how psk27 (by omega) hhow (by have q0 := (jv_k (x := (-1)) (-1) (by decide)).1; have q1 := (jv_k (x := (-1)) (-1) (by decide)).2; have q2 := (g_here_iv F5 R6).1; have q3 := (g_here_iv F5 R6).2; have q4 := (jv_k (x := 1) 1 (by decide)).1; have q5 := (jv_k (x := 1) 1 (by decide)).2; have q6 := (g_ok_g hI 1 rfl).1; have q7 := (g_ok_g hI 1 rfl).2; have q8 := (g_ok_g hI 2 rfl).1; have q9 := (g_ok_g hI 2 rfl).2; have q10 := (g_ok_g hI 7 rfl).1; have q11 := (g_ok_g hI 7 rfl).2; have q12 := (g_ok_g oF18 1 rfl).1; have q13 := (g_ok_g oF18 1 rfl).2; have q14 := (g_ok_g oF18 7 rfl).1; have q15 := (g_ok_g oF18 7 rfl).2; have q16 := (g_ok_g oF23 1 rfl).1; have q17 := (g_ok_g oF23 1 rfl).2; have q18 := (g_ok_g oF23 7 rfl).1; have q19 := (g_ok_g oF23 7 rfl).2; have q20 := (g_ok_g oF33 7 rfl).1; have q21 := (g_ok_g oF33 7 rfl).2; have q22 := (g_ok_g oF5 1 rfl).1; have q23 := (g_ok_g oF5 1 rfl).2; have q24 := (g_ok_g oF5 2 rfl).1; have q25 := (g_ok_g oF5 2 rfl).2; have q26 := (g_ok_g oF5 7 rfl).1; have q27 := (g_ok_g oF5 7 rfl).2; have q28 := pr10.1; have q29 := pr10.2; have q30 := zx17.2.1; have q31 := zx17.2.2; have q32 := p16.1; have q33 := p16.2; have q34 := fkk9.2.2; have q35 := fkk9.2.1; have q36 := (congrArg Int32.toInt zx13); have q37 := (@g_here_lt F5 R6); have q38 := (congrArg Int32.toInt (show F5 16 = F 16 from (cF5 16 rfl))); have q39 := (congrArg Int32.toInt (show F5 16 = F 16 from (cF5 16 rfl))); have q40 := zi52_0; have q41 := (gc_ne zc15); have q42 := (g_eq0 zx17.1); have q43 := (congrArg Int32.toInt (show F18 15 = x17 from (g_pu1 hF18))); have q44 := (congrArg Int32.toInt (show F18 15 = x17 from (g_pu1 hF18))); have q45 := fkk27.2.2; have q46 := fkk27.2.1; have q47 := (congrArg Int32.toInt (show F18 15 = x17 from (g_pu1 hF18))); have q48 := (congrArg Int32.toInt (show F18 25 = F5 25 from (g_pu2 hF18 rfl))); have q49 := room; have q50 := zx31; omega) (by rw [hx]; have z0 : (0 : Int32).toInt = 0 := rfl; omega) (by have q0 := (jv_k (x := (-1)) (-1) (by decide)).1; have q1 := (jv_k (x := (-1)) (-1) (by decide)).2; have q2 := (g_here_iv F5 R6).1; have q3 := (g_here_iv F5 R6).2; have q4 := (jv_k (x := 1) 1 (by decide)).1; have q5 := (jv_k (x := 1) 1 (by decide)).2; have q6 := (g_ok_g hI 1 rfl).1; have q7 := (g_ok_g hI 1 rfl).2; have q8 := (g_ok_g hI 2 rfl).1; have q9 := (g_ok_g hI 2 rfl).2; have q10 := (g_ok_g hI 7 rfl).1; have q11 := (g_ok_g hI 7 rfl).2; have q12 := (g_ok_g oF18 1 rfl).1; have q13 := (g_ok_g oF18 1 rfl).2; have q14 := (g_ok_g oF18 7 rfl).1; have q15 := (g_ok_g oF18 7 rfl).2; have q16 := (g_ok_g oF23 1 rfl).1; have q17 := (g_ok_g oF23 1 rfl).2; have q18 := (g_ok_g oF23 7 rfl).1; have q19 := (g_ok_g oF23 7 rfl).2; have q20 := (g_ok_g oF33 7 rfl).1; have q21 := (g_ok_g oF33 7 rfl).2; have q22 := (g_ok_g oF5 1 rfl).1; have q23 := (g_ok_g oF5 1 rfl).2; have q24 := (g_ok_g oF5 2 rfl).1; have q25 := (g_ok_g oF5 2 rfl).2; have q26 := (g_ok_g oF5 7 rfl).1; have q27 := (g_ok_g oF5 7 rfl).2; have q28 := pr10.1; have q29 := pr10.2; have q30 := zx17.2.1; have q31 := zx17.2.2; have q32 := p16.1; have q33 := p16.2; have q34 := fkk9.2.2; have q35 := fkk9.2.1; have q36 := (congrArg Int32.toInt zx13); have q37 := (@g_here_lt F5 R6); have q38 := (congrArg Int32.toInt (show F5 16 = F 16 from (cF5 16 rfl))); have q39 := (congrArg Int32.toInt (show F5 16 = F 16 from (cF5 16 rfl))); have q40 := zi52_0; have q41 := (gc_ne zc15); have q42 := (g_eq0 zx17.1); have q43 := (congrArg Int32.toInt (show F18 15 = x17 from (g_pu1 hF18))); have q44 := (congrArg Int32.toInt (show F18 15 = x17 from (g_pu1 hF18))); have q45 := fkk27.2.2; have q46 := fkk27.2.1; have q47 := (congrArg Int32.toInt (show F18 15 = x17 from (g_pu1 hF18))); have q48 := (congrArg Int32.toInt (show F18 25 = F5 25 from (g_pu2 hF18 rfl))); have q49 := room; have q50 := zx31; omega) (cF33 26 rfl) (cF33 15 rfl) e12 (cR34 13 rfl)
          have fk93 : FK F R F33 R34 := FK_tr (FK_tr fk78 fkk27) ⟨fun k hk => by rw [e12, g_un (by rw [bne_iff_ne]; intro q; omega)], by have q0 := (jv_k (x := (-1)) (-1) (by decide)).1; have q1 := (jv_k (x := (-1)) (-1) (by decide)).2; have q2 := (g_here_iv F5 R6).1; have q3 := (g_here_iv F5 R6).2; have q4 := (jv_k (x := 1) 1 (by decide)).1; have q5 := (jv_k (x := 1) 1 (by decide)).2; have q6 := (g_ok_g hI 1 rfl).1; have q7 := (g_ok_g hI 1 rfl).2; have q8 := (g_ok_g hI 2 rfl).1; have q9 := (g_ok_g hI 2 rfl).2; have q10 := (g_ok_g hI 7 rfl).1; have q11 := (g_ok_g hI 7 rfl).2; have q12 := (g_ok_g oF18 1 rfl).1; have q13 := (g_ok_g oF18 1 rfl).2; have q14 := (g_ok_g oF18 7 rfl).1; have q15 := (g_ok_g oF18 7 rfl).2; have q16 := (g_ok_g oF23 1 rfl).1; have q17 := (g_ok_g oF23 1 rfl).2; have q18 := (g_ok_g oF23 7 rfl).1; have q19 := (g_ok_g oF23 7 rfl).2; have q20 := (g_ok_g oF33 7 rfl).1; have q21 := (g_ok_g oF33 7 rfl).2; have q22 := (g_ok_g oF5 1 rfl).1; have q23 := (g_ok_g oF5 1 rfl).2; have q24 := (g_ok_g oF5 2 rfl).1; have q25 := (g_ok_g oF5 2 rfl).2; have q26 := (g_ok_g oF5 7 rfl).1; have q27 := (g_ok_g oF5 7 rfl).2; have q28 := pr10.1; have q29 := pr10.2; have q30 := zx17.2.1; have q31 := zx17.2.2; have q32 := p16.1; have q33 := p16.2; have q34 := fkk9.2.2; have q35 := fkk9.2.1; have q36 := (congrArg Int32.toInt zx13); have q37 := (@g_here_lt F5 R6); have q38 := (congrArg Int32.toInt (show F5 16 = F 16 from (cF5 16 rfl))); have q39 := (congrArg Int32.toInt (show F5 16 = F 16 from (cF5 16 rfl))); have q40 := zi52_0; have q41 := (gc_ne zc15); have q42 := (g_eq0 zx17.1); have q43 := (congrArg Int32.toInt (show F18 15 = x17 from (g_pu1 hF18))); have q44 := (congrArg Int32.toInt (show F18 15 = x17 from (g_pu1 hF18))); have q45 := fkk27.2.2; have q46 := fkk27.2.1; have q47 := (congrArg Int32.toInt (show F18 15 = x17 from (g_pu1 hF18))); have q48 := (congrArg Int32.toInt (show F18 25 = F5 25 from (g_pu2 hF18 rfl))); have q49 := room; have q50 := zx31; omega, (Int.le_of_eq (congrArg Int32.toInt (cF33 15 rfl)).symm)⟩
          refine g_aload_n cx 1 rfl e_X11_readsCompared_93 ?_
          refine g_cVvW cx [] [] (w_X11_endsPiece l X ad F33 R34 oF33 oR34 wTF33 wCF33 A (L) (1) ps93 (by omega) hcb hbt) ml_X11_274 yV_X11_endsPiece e_X11_readsCompared_94 (by unfold g_rr; decide) (by decide) 0 rfl rfl rfl (Nat.le_of_ble_eq_true rfl) (fun w36 h37 => ?_)
          obtain ⟨F39, R40, rfl, oF39, oR40, wTF39, wCF39, cF39, cR40, zx38⟩ := h37
          have fF39 : g_fr md_X11_readsCompared F F39 := g_fr_c fF33 cF39 rfl
          have fR40 : g_fr mr_X11_readsCompared R R40 := g_fr_c fR34 cR40 rfl
          obtain ⟨Ln41, psn41, hcn41, hbn41, fkn41⟩ := zx38
          refine g_iconst cx 1 (by decide) e_X11_readsCompared_97 ?_
          exact hret e_X11_readsCompared_98 (Nat.le_of_ble_eq_true rfl) (Nat.le_of_ble_eq_true rfl) rfl ⟨F39, R40, rfl, oF39, oR40, wTF39, wCF39, fF39, fR40, (jv_w (jv_k (x := 1) 1 (by decide)) (by decide)), (fun _ => ⟨Ln41, psn41, hcn41, hbn41, FK_tr fk93 fkn41⟩)⟩
        · have p42 := gn_eq 0 0 (gc_eq zc25) pr19 (jv_k (x := 0) 0 (by decide)) (by decide)
          refine g_iconst cx 0 (by decide) e_X11_readsCompared_85 ?_
          exact hret e_X11_readsCompared_86 (Nat.le_of_ble_eq_true rfl) (Nat.le_of_ble_eq_true rfl) rfl ⟨F23, R24, rfl, oF23, oR24, wTF23, wCF23, fF23, fR24, (jv_w (jv_k (x := 0) 0 (by decide)) (by decide)), (fun h0 => absurd (by first | rfl | exact jv_c 0 (jv_k (x := 0) 0 (by decide)) (by decide)) h0)⟩
      · have p43 := gn_eq (-1) (-1) (gc_eq zc15) py14 (jv_k (x := (-1)) (-1) (by decide)) (by decide)
        refine g_aload_n cx 1 rfl e_X11_readsCompared_58 ?_
        refine g_iconst cx 1 (by decide) e_X11_readsCompared_59 ?_
        refine g_aload_n cx 1 rfl e_X11_readsCompared_60 ?_
        refine g_get cx cl_X11 fl_X11_190 0 (.int (F5 15)) e_X11_readsCompared_61 rfl rfl ?_
        refine g_cViW cx [.int 1, .int (F5 15)] [] (w_X11_wrongAt l X ad F5 R6 oF5 oR6 wTF5 wCF5 1 (F5 15)) ml_X11_204 yV_X11_wrongAt e_X11_readsCompared_64 (by unfold g_rr; decide) (by decide) 0 rfl rfl rfl (Nat.le_of_ble_eq_true rfl) (fun r44 w45 h46 => ?_)
        obtain ⟨F47, R48, rfl, oF47, oR48, wTF47, wCF47, cF47, cR48, pr44⟩ := h46
        have fF47 : g_fr md_X11_readsCompared F F47 := g_fr_c fF5 cF47 rfl
        have fR48 : g_fr mr_X11_readsCompared R R48 := g_fr_c fR6 cR48 rfl
        exact hret e_X11_readsCompared_67 (Nat.le_of_ble_eq_true rfl) (Nat.le_of_ble_eq_true rfl) (g_narb (jv_w pr44 (by decide))) ⟨F47, R48, rfl, oF47, oR48, wTF47, wCF47, fF47, fR48, (jv_w pr44 (by decide)), (fun h0 => absurd (by first | rfl | exact jv_c 0 pr44 (by decide)) h0)⟩
    refine g_icmp_ne cx 23 e_X11_readsCompared_15 (by decide) (fun zc49 => ?_) (fun zc49 => ?_)
    · refine g_aload_n cx 0 rfl e_X11_readsCompared_23 ?_
      refine g_cViW cx [] [] (w_X11_here l X ad F5 R6 oF5 oR6 wTF5 wCF5) ml_X11_200 yV_X11_here e_X11_readsCompared_24 (by unfold g_rr; decide) (by decide) 0 rfl rfl rfl (Nat.le_of_ble_eq_true rfl) (fun r50 w51 h52 => ?_)
      obtain ⟨rfl, pr50, zx53⟩ := h52
      refine g_bipush cx 62 (by decide) e_X11_readsCompared_27 ?_
      refine g_icmp_ne cx 37 e_X11_readsCompared_29 (by decide) (fun zc54 => ?_) (fun zc54 => ?_)
      · refine g_aload_n cx 0 rfl e_X11_readsCompared_37 ?_
        refine g_cViW cx [] [] (w_X11_here l X ad F5 R6 oF5 oR6 wTF5 wCF5) ml_X11_200 yV_X11_here e_X11_readsCompared_38 (by unfold g_rr; decide) (by decide) 0 rfl rfl rfl (Nat.le_of_ble_eq_true rfl) (fun r55 w56 h57 => ?_)
        obtain ⟨rfl, pr55, zx58⟩ := h57
        refine g_bipush cx 61 (by decide) e_X11_readsCompared_41 ?_
        refine g_icmp_ne cx 51 e_X11_readsCompared_43 (by decide) (fun zc59 => ?_) (fun zc59 => ?_)
        · refine g_iconst cx (-1) (by decide) e_X11_readsCompared_51 ?_
          exact J52 (-1) (jv_w (jv_k (x := (-1)) (-1) (by decide)) (by decide)) (by have q0 := (jv_k (x := (-1)) (-1) (by decide)).1; have q1 := (jv_k (x := (-1)) (-1) (by decide)).2; have q2 := (g_here_iv F5 R6).1; have q3 := (g_here_iv F5 R6).2; have q4 := (jv_k (x := 60) 60 (by decide)).1; have q5 := (jv_k (x := 60) 60 (by decide)).2; have q6 := (jv_k (x := 61) 61 (by decide)).1; have q7 := (jv_k (x := 61) 61 (by decide)).2; have q8 := (jv_k (x := 62) 62 (by decide)).1; have q9 := (jv_k (x := 62) 62 (by decide)).2; have q10 := (g_ok_g hI 1 rfl).1; have q11 := (g_ok_g hI 1 rfl).2; have q12 := (g_ok_g hI 2 rfl).1; have q13 := (g_ok_g hI 2 rfl).2; have q14 := (g_ok_g oF5 1 rfl).1; have q15 := (g_ok_g oF5 1 rfl).2; have q16 := (g_ok_g oF5 2 rfl).1; have q17 := (g_ok_g oF5 2 rfl).2; have q18 := pr10.1; have q19 := pr10.2; have q20 := pr50.1; have q21 := pr50.2; have q22 := pr55.1; have q23 := pr55.2; have q24 := fkk9.2.2; have q25 := (congrArg Int32.toInt zx13); have q26 := (@g_here_lt F5 R6); have q27 := (congrArg Int32.toInt (show F5 16 = F 16 from (cF5 16 rfl))); have q28 := (gc_ne zc49); have q29 := (congrArg Int32.toInt zx53); have q30 := (@g_here_lt F5 R6); have q31 := (congrArg Int32.toInt (show F5 16 = F 16 from (cF5 16 rfl))); have q32 := (gc_ne zc54); have q33 := (congrArg Int32.toInt zx58); have q34 := (@g_here_lt F5 R6); have q35 := (congrArg Int32.toInt (show F5 16 = F 16 from (cF5 16 rfl))); have q36 := (gc_ne zc59); have q37 := (congrArg Int32.toInt (show F5 16 = F 16 from (cF5 16 rfl))); omega)
        · have p60 := gn_eq 61 61 (gc_eq zc59) pr55 (jv_k (x := 61) 61 (by decide)) (by decide)
          refine g_bipush cx 9 (by decide) e_X11_readsCompared_46 ?_
          refine g_goto cx 52 e_X11_readsCompared_48 (by decide) ?_
          exact J52 9 (jv_w (jv_k (x := 9) 9 (by decide)) (by decide)) (by have q0 := (g_here_iv F5 R6).1; have q1 := (g_here_iv F5 R6).2; have q2 := (jv_k (x := 60) 60 (by decide)).1; have q3 := (jv_k (x := 60) 60 (by decide)).2; have q4 := (jv_k (x := 61) 61 (by decide)).1; have q5 := (jv_k (x := 61) 61 (by decide)).2; have q6 := (jv_k (x := 62) 62 (by decide)).1; have q7 := (jv_k (x := 62) 62 (by decide)).2; have q8 := (jv_k (x := 9) 9 (by decide)).1; have q9 := (jv_k (x := 9) 9 (by decide)).2; have q10 := (g_ok_g hI 1 rfl).1; have q11 := (g_ok_g hI 1 rfl).2; have q12 := (g_ok_g hI 2 rfl).1; have q13 := (g_ok_g hI 2 rfl).2; have q14 := (g_ok_g oF5 1 rfl).1; have q15 := (g_ok_g oF5 1 rfl).2; have q16 := (g_ok_g oF5 2 rfl).1; have q17 := (g_ok_g oF5 2 rfl).2; have q18 := pr10.1; have q19 := pr10.2; have q20 := pr50.1; have q21 := pr50.2; have q22 := p60.1; have q23 := p60.2; have q24 := fkk9.2.2; have q25 := (congrArg Int32.toInt zx13); have q26 := (@g_here_lt F5 R6); have q27 := (congrArg Int32.toInt (show F5 16 = F 16 from (cF5 16 rfl))); have q28 := (gc_ne zc49); have q29 := (congrArg Int32.toInt zx53); have q30 := (@g_here_lt F5 R6); have q31 := (congrArg Int32.toInt (show F5 16 = F 16 from (cF5 16 rfl))); have q32 := (gc_ne zc54); have q33 := (congrArg Int32.toInt zx58); have q34 := (@g_here_lt F5 R6); have q35 := (congrArg Int32.toInt (show F5 16 = F 16 from (cF5 16 rfl))); have q36 := (gc_eq zc59); have q37 := (congrArg Int32.toInt (show F5 16 = F 16 from (cF5 16 rfl))); omega)
      · have p61 := gn_eq 62 62 (gc_eq zc54) pr50 (jv_k (x := 62) 62 (by decide)) (by decide)
        refine g_bipush cx 8 (by decide) e_X11_readsCompared_32 ?_
        refine g_goto cx 52 e_X11_readsCompared_34 (by decide) ?_
        exact J52 8 (jv_w (jv_k (x := 8) 8 (by decide)) (by decide)) (by have q0 := (g_here_iv F5 R6).1; have q1 := (g_here_iv F5 R6).2; have q2 := (jv_k (x := 60) 60 (by decide)).1; have q3 := (jv_k (x := 60) 60 (by decide)).2; have q4 := (jv_k (x := 62) 62 (by decide)).1; have q5 := (jv_k (x := 62) 62 (by decide)).2; have q6 := (jv_k (x := 8) 8 (by decide)).1; have q7 := (jv_k (x := 8) 8 (by decide)).2; have q8 := (g_ok_g hI 1 rfl).1; have q9 := (g_ok_g hI 1 rfl).2; have q10 := (g_ok_g hI 2 rfl).1; have q11 := (g_ok_g hI 2 rfl).2; have q12 := (g_ok_g oF5 1 rfl).1; have q13 := (g_ok_g oF5 1 rfl).2; have q14 := (g_ok_g oF5 2 rfl).1; have q15 := (g_ok_g oF5 2 rfl).2; have q16 := pr10.1; have q17 := pr10.2; have q18 := p61.1; have q19 := p61.2; have q20 := fkk9.2.2; have q21 := (congrArg Int32.toInt zx13); have q22 := (@g_here_lt F5 R6); have q23 := (congrArg Int32.toInt (show F5 16 = F 16 from (cF5 16 rfl))); have q24 := (gc_ne zc49); have q25 := (congrArg Int32.toInt zx53); have q26 := (@g_here_lt F5 R6); have q27 := (congrArg Int32.toInt (show F5 16 = F 16 from (cF5 16 rfl))); have q28 := (gc_eq zc54); have q29 := (congrArg Int32.toInt (show F5 16 = F 16 from (cF5 16 rfl))); omega)
    · have p62 := gn_eq 60 60 (gc_eq zc49) pr10 (jv_k (x := 60) 60 (by decide)) (by decide)
      refine g_bipush cx 7 (by decide) e_X11_readsCompared_18 ?_
      refine g_goto cx 52 e_X11_readsCompared_20 (by decide) ?_
      exact J52 7 (jv_w (jv_k (x := 7) 7 (by decide)) (by decide)) (by have q0 := (g_here_iv F5 R6).1; have q1 := (g_here_iv F5 R6).2; have q2 := (jv_k (x := 60) 60 (by decide)).1; have q3 := (jv_k (x := 60) 60 (by decide)).2; have q4 := (jv_k (x := 7) 7 (by decide)).1; have q5 := (jv_k (x := 7) 7 (by decide)).2; have q6 := (g_ok_g hI 1 rfl).1; have q7 := (g_ok_g hI 1 rfl).2; have q8 := (g_ok_g hI 2 rfl).1; have q9 := (g_ok_g hI 2 rfl).2; have q10 := (g_ok_g oF5 1 rfl).1; have q11 := (g_ok_g oF5 1 rfl).2; have q12 := (g_ok_g oF5 2 rfl).1; have q13 := (g_ok_g oF5 2 rfl).2; have q14 := p62.1; have q15 := p62.2; have q16 := fkk9.2.2; have q17 := (congrArg Int32.toInt zx13); have q18 := (@g_here_lt F5 R6); have q19 := (congrArg Int32.toInt (show F5 16 = F 16 from (cF5 16 rfl))); have q20 := (gc_eq zc49); have q21 := (congrArg Int32.toInt (show F5 16 = F 16 from (cF5 16 rfl))); omega)
  · have p63 := gn_eq 0 0 (gc_eq zc7) pr1 (jv_k (x := 0) 0 (by decide)) (by decide)
    refine g_iconst cx 0 (by decide) e_X11_readsCompared_7 ?_
    exact hret e_X11_readsCompared_8 (Nat.le_of_ble_eq_true rfl) (Nat.le_of_ble_eq_true rfl) rfl ⟨F5, R6, rfl, oF5, oR6, wTF5, wCF5, fF5, fR6, (jv_w (jv_k (x := 0) 0 (by decide)) (by decide)), (fun h0 => absurd (by first | rfl | exact jv_c 0 (jv_k (x := 0) 0 (by decide)) (by decide)) h0)⟩
