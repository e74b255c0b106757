/-! ===== the reader of laws: conditions ===== -/
/-- the first that waits is the ( of the clause -/
def bt : List (Int × Nat) → Prop
  | [] => False
  | [q] => q.1 = 13
  | _ :: q :: L => bt (q :: L)
theorem bt_ne {L : List (Int × Nat)} (h : bt L) : ∃ (o : Int) (r : Nat) (L2 : List (Int × Nat)), L = (o, r) :: L2 := by
  cases L with
  | nil => exact h.elim
  | cons q L2 => exact ⟨q.1, q.2, L2, rfl⟩
theorem bt_cons {L : List (Int × Nat)} (q : Int × Nat) (h : bt L) : bt (q :: L) := by
  cases L with
  | nil => exact h.elim
  | cons p L2 => exact h
theorem bt_pop {L : List (Int × Nat)} {q : Int × Nat} (h : bt (q :: L)) (hq : q.1 ≠ 13) : bt L := by
  cases L with
  | nil => exact absurd h hq
  | cons p L2 => exact h
theorem bt_pop2 {L : List (Int × Nat)} {q : Int × Nat} (h : bt (q :: L)) (hl : 1 ≤ L.length) : bt L := by
  cases L with
  | nil => exact absurd hl (by decide)
  | cons p L2 => exact h
theorem cb_tl {L : List (Int × Nat)} {q : Int × Nat} (h : cb (q :: L) = 0) : cb L = 0 := by
  have h1 := cg_0 L
  simp only [cb] at h
  split at h <;> omega
theorem cb_hd {L : List (Int × Nat)} {q : Int × Nat} (h : cb L = 0) (hq : 7 ≤ q.1) : cb (q :: L) = 0 := by
  simp only [cb]
  rw [if_neg (by omega), h]
  rfl
/-- what a reader of conditions leaves alone -/
def FA (A : Nat × Nat) (F : Nat → Int32) (R : Nat → Nat → Int32) (F' : Nat → Int32) (R' : Nat → Nat → Int32) : Prop := (∀ k, k < A.1 → R' 12 k = R 12 k) ∧ (F 25).toInt ≤ (F' 25).toInt ∧ (F 15).toInt ≤ (F' 15).toInt
theorem FA_rf (A : Nat × Nat) (F : Nat → Int32) (R : Nat → Nat → Int32) : FA A F R F R := ⟨fun _ _ => rfl, Int.le_refl _, Int.le_refl _⟩
theorem FA_tr {A : Nat × Nat} {F F1 F2 : Nat → Int32} {R R1 R2 : Nat → Nat → Int32} (h : FA A F R F1 R1) (h2 : FA A F1 R1 F2 R2) : FA A F R F2 R2 :=
  ⟨fun k hk => (h2.1 k hk).trans (h.1 k hk), Int.le_trans h.2.1 h2.2.1, Int.le_trans h.2.2 h2.2.2⟩
theorem FA_e {A : Nat × Nat} {F F1 F2 : Nat → Int32} {R R1 R2 : Nat → Nat → Int32} (h : FA A F R F1 R1) (e25 : F2 25 = F1 25) (e15 : (F1 15).toInt ≤ (F2 15).toInt) (e12 : R2 12 = R1 12) : FA A F R F2 R2 :=
  FA_tr h ⟨fun k _ => by rw [e12], by rw [e25]; exact Int.le_refl _, e15⟩
theorem FA_k {A : Nat × Nat} {F F1 : Nat → Int32} {R R1 : Nat → Nat → Int32} {L : List (Int × Nat)} {h : Int} (p : PS F R A L h) (hk : FK F R F1 R1) : FA A F R F1 R1 :=
  ⟨fun k q => hk.1 k (Nat.lt_of_lt_of_le q p.1.1), hk.2.1, hk.2.2⟩
/-- a NOT is said, and waits no more -/
theorem PS_not {F F' : Nat → Int32} {R R' : Nat → Nat → Int32} {A : Nat × Nat} {L : List (Int × Nat)} {h : Int} {r : Nat} {x : Int32} (p : PS F R A ((10, r) :: L) h) (hh : 1 ≤ h) (h0 : 0 ≤ (F 25).toInt) (hx : x.toInt = 1048576 * 10) (e25 : (F' 25).toInt = (F 25).toInt + 1) (e26 : (F' 26).toInt = (F 26).toInt - 1) (e15 : F' 15 = F 15) (e12 : R' 12 = upd (R 12) (F 25).toInt.toNat x) (e13 : R' 13 = R 13) : PS F' R' A L h := by
  have hop : g_op x = 10 := by unfold g_op; omega
  obtain ⟨p1, p2, p3, p4, p5, p6⟩ := p
  simp only [cg] at p5
  rw [if_pos (Or.inr trivial)] at p5
  simp only [List.length_cons] at p3 p6
  have e : (F' 25).toInt.toNat = (F 25).toInt.toNat + 1 := by omega
  have hA := p1.1
  refine ⟨?_, ?_, by omega, ?_, by rw [e15]; omega, by rw [e15]; omega⟩
  · rw [e12, e]
    exact PC_note (PC_pop p1 (by omega)) ⟨fun q => absurd q (by omega), fun _ => by rw [p4]; omega, fun _ q => absurd q (by omega)⟩ (by omega)
  · rw [e13]
    exact p2.2.2.2.2
  · rw [e12, e, show (F 25).toInt.toNat + 1 - A.1 = ((F 25).toInt.toNat - A.1) + 1 from by omega, g_ht, g_ht_u (by omega), p4, show A.1 + ((F 25).toInt.toNat - A.1) = (F 25).toInt.toNat from by omega, g_us]
    have := g_dl_c x
    omega
/-- room for one more -/
theorem PS_slack {F F' : Nat → Int32} {R R' : Nat → Nat → Int32} {A : Nat × Nat} {L : List (Int × Nat)} {h : Int} (p : PS F R A L h) (e25 : F' 25 = F 25) (e26 : F' 26 = F 26) (e15 : (F' 15).toInt = (F 15).toInt + 1) (e12 : R' 12 = R 12) (e13 : R' 13 = R 13) : PS F' R' (A.1, A.2 + 1) L h := by
  obtain ⟨p1, p2, p3, p4, p5, p6⟩ := p
  unfold PS
  rw [e25, e26, e12, e13]
  exact ⟨p1, p2, p3, p4, by simp only; omega, by omega⟩
theorem PS_room2 {F : Nat → Int32} {R : Nat → Nat → Int32} {A : Nat × Nat} {L : List (Int × Nat)} {h : Int} (p : PS F R (A.1, A.2 + 1) L h) : (F 25).toInt + 1 ≤ (F 15).toInt := by
  have h1 := p.2.2.2.2.1
  have h2 := cg_0 L
  simp only at h1
  omega
theorem PS_how {F F' : Nat → Int32} {R R' : Nat → Nat → Int32} {A : Nat × Nat} {L : List (Int × Nat)} {h o : Int} {x : Int32} (p : PS F R (A.1, A.2 + 1) L h) (hh : 2 ≤ h) (ho : 7 ≤ o ∧ o ≤ 9) (h0 : 0 ≤ (F 25).toInt) (hx : x.toInt = 1048576 * o) (e25 : (F' 25).toInt = (F 25).toInt + 1) (e26 : F' 26 = F 26) (e15 : F' 15 = F 15) (e12 : R' 12 = upd (R 12) (F 25).toInt.toNat x) (e13 : R' 13 = R 13) : PS F' R' A L (h - 1) := by
  have hop : g_op x = o := by unfold g_op; omega
  obtain ⟨p1, p2, p3, p4, p5, p6⟩ := p
  simp only at p1 p4 p5
  have e : (F' 25).toInt.toNat = (F 25).toInt.toNat + 1 := by omega
  have hA := p1.1
  refine ⟨?_, ?_, by rw [e26]; exact p3, ?_, by rw [e15]; omega, by rw [e15]; omega⟩
  · rw [e12, e]
    exact PC_note p1 ⟨fun q => absurd q (by omega), fun _ => by rw [p4]; omega, fun _ _ => by rw [p4]; omega⟩ (by omega)
  · rw [e13]
    exact p2
  · rw [e12, e, show (F 25).toInt.toNat + 1 - A.1 = ((F 25).toInt.toNat - A.1) + 1 from by omega, g_ht, g_ht_u (by omega), p4, show A.1 + ((F 25).toInt.toNat - A.1) = (F 25).toInt.toNat from by omega, g_us]
    have := g_dl_c x
    omega
theorem PS_new {F F' : Nat → Int32} {R' : Nat → Nat → Int32} (h0 : 0 ≤ (F 25).toInt) (e25 : F' 25 = F 25) (e26 : F' 26 = 0) (e15 : (F 25).toInt ≤ (F' 15).toInt) : PS F' R' ((F 25).toInt.toNat, 0) [] 0 := by
  unfold PS
  rw [e25, e26]
  refine ⟨PC_0 _ _ (fun q hq => absurd hq List.not_mem_nil), trivial, rfl, ?_, ?_, ?_⟩
  · simp only [Nat.sub_self]
    rfl
  · simp only [cg]
    omega
  · simp only [List.length_nil]
    omega
/-- a jump that waits: where it stands -/
theorem WS_at {F : Nat → Int32} {w : Nat → Int32} {L : List (Int × Nat)} {o : Int} {r : Nat} {i x y : Int32} (h : WS w ((o, r) :: L)) (hl : (((o, r) :: L).length : Int) = (F 26).toInt) (ei : i.toInt = (F 26).toInt - 1) (ex : x = w i.toNatClampNeg) (ey : y.toInt = x.toInt % 1048576) : y.toInt = r := by
  have h1 := (WS_top h).2
  have e : i.toNatClampNeg = L.length := by
    have : i.toNatClampNeg = i.toInt.toNat := rfl
    simp only [List.length_cons] at hl
    omega
  rw [ex, e] at ey
  exact ey.trans h1
theorem PS_end {F : Nat → Int32} {R : Nat → Nat → Int32} {A : Nat × Nat} {L : List (Int × Nat)} {h : Int} (p : PS F R A L h) (e : (F 26).toInt = 0) : g_wf (R 12) A.1 (F 25).toInt.toNat := by
  have h3 := p.2.2.1
  cases L with
  | nil => exact PC_end p.1
  | cons q L => simp only [List.length_cons] at h3; omega

def KB_X11_endsPiece_0 (b0 : (Nat → Int32) → (Nat → Nat → Int32) → (Nat → Int32) × (Nat → Nat → Int32))  (F1 : Nat → Int32) (R2 : Nat → Nat → Int32) : (Nat → Int32) × (Nat → Nat → Int32) :=
  k_lt (sp_X11_waitTop F1 R2) (fun r3 => if r3 = 10 then k_lt2 (sp_X11_notes F1 R2 10 0) (fun F19 R20 => k_lt ((F1 26) - 1) (fun x22 => k_lt (upd F19 26 x22) (fun F24 => k_lt ((F1 24) - 1) (fun x26 => k_lt (upd F24 24 x26) (fun F28 => b0 F28 R20))))) else (F1, R2))
def K_X11_endsPiece_0  : Nat → (Nat → Int32) → (Nat → Nat → Int32) → (Nat → Int32) × (Nat → Nat → Int32)
  | 0 => fun F1 R2 => (F1, R2)
  | n + 1 => KB_X11_endsPiece_0 (K_X11_endsPiece_0 n)
def sp_X11_endsPiece (F : Nat → Int32) (R : Nat → Nat → Int32) : (Nat → Int32) × (Nat → Nat → Int32) :=
  K_X11_endsPiece_0 8589934592 F R
theorem e_X11_endsPiece_0 : g_dc cX11_endsPiece 0 (.aload_n 0) 1 1 := ⟨by decide +kernel, rfl⟩
theorem e_X11_endsPiece_1 : g_dc cX11_endsPiece 1 (.invokevirtual 241) 3 4 := ⟨by decide +kernel, rfl⟩
theorem e_X11_endsPiece_4 : g_dc cX11_endsPiece 4 (.bipush 10) 2 6 := ⟨by decide +kernel, rfl⟩
theorem e_X11_endsPiece_6 : g_dc cX11_endsPiece 6 (.if_icmp .ne 33) 3 9 := ⟨by decide +kernel, rfl⟩
theorem e_X11_endsPiece_9 : g_dc cX11_endsPiece 9 (.aload_n 0) 1 10 := ⟨by decide +kernel, rfl⟩
theorem e_X11_endsPiece_10 : g_dc cX11_endsPiece 10 (.bipush 10) 2 12 := ⟨by decide +kernel, rfl⟩
theorem e_X11_endsPiece_12 : g_dc cX11_endsPiece 12 (.iconst 0) 1 13 := ⟨by decide +kernel, rfl⟩
theorem e_X11_endsPiece_13 : g_dc cX11_endsPiece 13 (.invokevirtual 244) 3 16 := ⟨by decide +kernel, rfl⟩
theorem e_X11_endsPiece_16 : g_dc cX11_endsPiece 16 (.aload_n 0) 1 17 := ⟨by decide +kernel, rfl⟩
theorem e_X11_endsPiece_17 : g_dc cX11_endsPiece 17 (.aload_n 0) 1 18 := ⟨by decide +kernel, rfl⟩
theorem e_X11_endsPiece_18 : g_dc cX11_endsPiece 18 (.getfield 238) 3 21 := ⟨by decide +kernel, rfl⟩
theorem e_X11_endsPiece_21 : g_dc cX11_endsPiece 21 (.iconst 1) 1 22 := ⟨by decide +kernel, rfl⟩
theorem e_X11_endsPiece_22 : g_dc cX11_endsPiece 22 (.isub) 1 23 := ⟨by decide +kernel, rfl⟩
theorem e_X11_endsPiece_23 : g_dc cX11_endsPiece 23 (.putfield 238) 3 26 := ⟨by decide +kernel, rfl⟩
theorem e_X11_endsPiece_26 : g_dc cX11_endsPiece 26 (.aload_n 0) 1 27 := ⟨by decide +kernel, rfl⟩
theorem e_X11_endsPiece_27 : g_dc cX11_endsPiece 27 (.aload_n 0) 1 28 := ⟨by decide +kernel, rfl⟩
theorem e_X11_endsPiece_28 : g_dc cX11_endsPiece 28 (.getfield 235) 3 31 := ⟨by decide +kernel, rfl⟩
theorem e_X11_endsPiece_31 : g_dc cX11_endsPiece 31 (.iconst 1) 1 32 := ⟨by decide +kernel, rfl⟩
theorem e_X11_endsPiece_32 : g_dc cX11_endsPiece 32 (.isub) 1 33 := ⟨by decide +kernel, rfl⟩
theorem e_X11_endsPiece_33 : g_dc cX11_endsPiece 33 (.putfield 235) 3 36 := ⟨by decide +kernel, rfl⟩
theorem e_X11_endsPiece_36 : g_dc cX11_endsPiece 36 (.goto (-36)) 3 39 := ⟨by decide +kernel, rfl⟩
theorem e_X11_endsPiece_39 : g_dc cX11_endsPiece 39 (.return_) 1 40 := ⟨by decide +kernel, rfl⟩
def md_X11_endsPiece : List Nat := [24, 25, 26]
def mr_X11_endsPiece : List Nat := [12]
set_option maxHeartbeats 4000000 in
set_option maxRecDepth 100000 in
theorem w_X11_endsPiece (l : Launch) (X : gX) (ad : Nat → Nat) (F : Nat → Int32) (R : Nat → Nat → Int32) (hI : g_ok LK_wM F) (hA : g_okR LA_wM R) (hWT : WT F R) (hWC : WC F R) (A : Nat × Nat) (L : List (Int × Nat)) (h : Int) (hps : PS F R A L h) (hh : 1 ≤ h) (hcb : cb L = 0) (hbt : bt L) : g_Cv l X yX11_endsPiece cX11_endsPiece 1 2 0 0 [.ref (ad 0)] (wM X ad F R) (fun w => ∃ (F' : Nat → Int32) (R' : Nat → Nat → Int32), w = wM X ad F' R' ∧ g_ok LK_wM F' ∧ g_okR LA_wM R' ∧ WT F' R' ∧ WC F' R' ∧ g_fr md_X11_endsPiece F F' ∧ g_fr mr_X11_endsPiece R R' ∧ (∃ L1 : List (Int × Nat), PS F' R' A L1 h ∧ cb L1 = 0 ∧ bt L1 ∧ FK F R F' R') ∧ (F', R') = sp_X11_endsPiece F R) := by
  refine g_mv (by decide +kernel) (Nat.le_of_ble_eq_true rfl) (fun E cx hret => ?_)
  obtain ⟨SP, hSP⟩ : ∃ z, z = sp_X11_endsPiece F R := ⟨_, rfl⟩
  have hk0 := hSP
  unfold sp_X11_endsPiece at hk0
  have J0 : ∀ (N : Nat) (F1 : Nat → Int32) (R2 : Nat → Nat → Int32), (g_ok LK_wM F1) → (g_fr md_X11_endsPiece F F1) → (g_okR LA_wM R2) → (g_fr mr_X11_endsPiece R R2) → (WT F1 R2) → (WC F1 R2) → (∃ L1 : List (Int × Nat), PS F1 R2 A L1 h ∧ cb L1 = 0 ∧ bt L1 ∧ FK F R F1 R2) → (SP = K_X11_endsPiece_0 N F1 R2) → (F1 26).toInt.toNat < N → G X E 1 0 0 (wM X ad F1 R2) [(0, .ref (ad 0))] 0 [] := by
    intro N
    induction N with
    | zero => intro F1 R2 oF1 fF1 oR2 fR2 wTF1R2 wCF1R2 zq0_0 hkJ0 hm; exact absurd hm (Nat.not_lt_zero _)
    | succ N ih0 =>
      intro F1 R2 oF1 fF1 oR2 fR2 wTF1R2 wCF1R2 zq0_0 hkJ0 hm0
      have hkK0 : SP = KB_X11_endsPiece_0 (K_X11_endsPiece_0 N) F1 R2 := hkJ0
      obtain ⟨b0, hb0⟩ : ∃ z, z = K_X11_endsPiece_0 N := ⟨_, rfl⟩
      rw [← hb0] at hkK0
      unfold KB_X11_endsPiece_0 at hkK0
      obtain ⟨L1, ps, hc, hb, fk⟩ := zq0_0
      refine g_aload_n cx 0 rfl e_X11_endsPiece_0 ?_
      refine g_cViW cx [] [] (w_X11_waitTop l X ad F1 R2 oF1 oR2 (L1) ps.2.1 ps.2.2.1) ml_X11_241 yV_X11_waitTop e_X11_endsPiece_1 (by unfold g_rr; decide) (by decide) 0 rfl rfl rfl (Nat.le_of_ble_eq_true rfl) (fun r3 w4 h5 => ?_)
      obtain ⟨rfl, pr3, zx6, hx7⟩ := h5
      have hk8 := k_ls hkK0 hx7
      refine g_bipush cx 10 (by decide) e_X11_endsPiece_4 ?_
      refine g_icmp_ne cx 39 e_X11_endsPiece_6 (by decide) (fun zc9 => ?_) (fun zc9 => ?_)
      · have hk10 := hk8.trans (if_neg zc9)
        exact hret e_X11_endsPiece_39 (Nat.le_of_ble_eq_true rfl) (Nat.le_of_ble_eq_true rfl) ⟨F1, R2, rfl, oF1, oR2, wTF1R2, wCF1R2, fF1, fR2, ⟨L1, ps, hc, hb, fk⟩, (hk10.symm.trans hSP)⟩
      · have p11 := gn_eq 10 10 (gc_eq zc9) pr3 (jv_k (x := 10) 10 (by decide)) (by decide)
        have hk12 := hk8.trans (if_pos zc9)
        obtain ⟨o, r, L2, rfl⟩ := tp_cons (L := L1) (by have q0 := (jv_k (x := 10) 10 (by decide)).1; have q1 := (jv_k (x := 10) 10 (by decide)).2; have q2 := (g_ok_g oF1 8 rfl).1; have q3 := (g_ok_g oF1 8 rfl).2; have q4 := p11.1; have q5 := p11.2; have q6 := zx6; have q7 := (gc_eq zc9); omega)
        obtain rfl : o = 10 := (show tp ((o, r) :: L2) = 10 from by have q0 := (jv_k (x := 10) 10 (by decide)).1; have q1 := (jv_k (x := 10) 10 (by decide)).2; have q2 := (g_ok_g oF1 8 rfl).1; have q3 := (g_ok_g oF1 8 rfl).2; have q4 := p11.1; have q5 := p11.2; have q6 := zx6; have q7 := (gc_eq zc9); omega)
        have hroom := PS_room ps (Or.inr rfl)
        have hlen : 1 ≤ (F1 26).toInt := by have q := ps.2.2.1; simp only [List.length_cons] at q; omega
        refine g_aload_n cx 0 rfl e_X11_endsPiece_9 ?_
        refine g_bipush cx 10 (by decide) e_X11_endsPiece_10 ?_
        refine g_iconst cx 0 (by decide) e_X11_endsPiece_12 ?_
        refine g_cVvW cx [.int 10, .int 0] [] (w_X11_notes l X ad F1 R2 oF1 oR2 wTF1R2 wCF1R2 10 0 (jv_w (jv_k (x := 10) 10 (by decide)) (by decide)) (jv_w (jv_k (x := 0) 0 (by decide)) (by decide)) (by have q0 := (g_ok_g oF1 1 rfl).1; have q1 := (g_ok_g oF1 1 rfl).2; have q2 := (g_ok_g oF1 7 rfl).1; have q3 := (g_ok_g oF1 7 rfl).2; have q4 := hroom; omega)) ml_X11_244 yV_X11_notes e_X11_endsPiece_13 (by unfold g_rr; decide) (by decide) 0 rfl rfl rfl (Nat.le_of_ble_eq_true rfl) (fun w14 h15 => ?_)
        obtain ⟨F19, R20, rfl, oF19, oR20, wTF19, wCF19, cF19, cR20, zx16, zx17, hx18⟩ := h15
        have hk21 := k_ls2 hk12 hx18
        have fF19 : g_fr md_X11_endsPiece F F19 := g_fr_c fF1 cF19 rfl
        have fR20 : g_fr mr_X11_endsPiece R R20 := g_fr_c fR2 cR20 rfl
        refine g_aload_n cx 0 rfl e_X11_endsPiece_16 ?_
        refine g_aload_n cx 0 rfl e_X11_endsPiece_17 ?_
        refine g_get cx cl_X11 fl_X11_238 0 (.int (F19 26)) e_X11_endsPiece_18 rfl rfl ?_
        refine g_toi (F1 26) (cF19 26 rfl) ?_
        refine g_iconst cx 1 (by decide) e_X11_endsPiece_21 ?_
        refine g_isub cx e_X11_endsPiece_22 ?_
        refine g_topi (fun x22 ex22 => ?_)
        have hk23 := k_ls hk21 ex22
        have zx22 := jv_sub (-1) 219 ex22 (g_ok_g oF1 8 rfl) (jv_k (x := 1) 1 (by decide)) (by decide)
        refine g_put cx cl_X11 fl_X11_238 0 (wM X ad (upd F19 26 x22) R20) e_X11_endsPiece_23 rfl rfl rfl rfl (Nat.le_of_ble_eq_true rfl) rfl ?_
        obtain ⟨F24, hF24⟩ : ∃ z, z = upd F19 26 x22 := ⟨_, rfl⟩
        rw [← hF24]
        have hk25 := k_ls hk23 hF24
        have oF24 : g_ok LK_wM F24 := by rw [hF24]; exact g_ok_p oF19 (show jv 0 220 _ from ⟨by have q0 := (jv_k (x := 1) 1 (by decide)).1; have q1 := (jv_k (x := 1) 1 (by decide)).2; have q2 := (jv_k (x := 10) 10 (by decide)).1; have q3 := (jv_k (x := 10) 10 (by decide)).2; have q4 := (g_ok_g oF1 8 rfl).1; have q5 := (g_ok_g oF1 8 rfl).2; have q6 := p11.1; have q7 := p11.2; have q8 := zx22.2.1; have q9 := zx22.2.2; have q10 := zx6; have q11 := (gc_eq zc9); have q12 := hlen; have q13 := (g_eq0 zx22.1); omega, by have q0 := (jv_k (x := 1) 1 (by decide)).1; have q1 := (jv_k (x := 1) 1 (by decide)).2; have q2 := (jv_k (x := 10) 10 (by decide)).1; have q3 := (jv_k (x := 10) 10 (by decide)).2; have q4 := (g_ok_g oF1 8 rfl).1; have q5 := (g_ok_g oF1 8 rfl).2; have q6 := p11.1; have q7 := p11.2; have q8 := zx22.2.1; have q9 := zx22.2.2; have q10 := zx6; have q11 := (gc_eq zc9); have q12 := hlen; have q13 := (g_eq0 zx22.1); omega⟩) rfl
        have fF24 : g_fr md_X11_endsPiece F F24 := by rw [hF24]; exact g_fr_u fF19 rfl
        have wTF24 : WT F24 R20 := by rw [hF24]; exact WT_u wTF19 rfl
        have wCF24 : WC F24 R20 := by rw [hF24]; exact WC_u wCF19 rfl
        refine g_aload_n cx 0 rfl e_X11_endsPiece_26 ?_
        refine g_aload_n cx 0 rfl e_X11_endsPiece_27 ?_
        refine g_get cx cl_X11 fl_X11_235 0 (.int (F24 24)) e_X11_endsPiece_28 rfl rfl ?_
        refine g_toi (F1 24) ((g_pu2 hF24 rfl).trans (cF19 24 rfl)) ?_
        refine g_iconst cx 1 (by decide) e_X11_endsPiece_31 ?_
        refine g_isub cx e_X11_endsPiece_32 ?_
        refine g_topi (fun x26 ex26 => ?_)
        have hk27 := k_ls hk25 ex26
        refine g_put cx cl_X11 fl_X11_235 0 (wM X ad (upd F24 24 x26) R20) e_X11_endsPiece_33 rfl rfl rfl rfl (Nat.le_of_ble_eq_true rfl) rfl ?_
        obtain ⟨F28, hF28⟩ : ∃ z, z = upd F24 24 x26 := ⟨_, rfl⟩
        rw [← hF28]
        have hk29 := k_ls hk27 hF28
        have oF28 : g_ok LK_wM F28 := by rw [hF28]; exact g_ok_p oF24 (jv_t x26) rfl
        have fF28 : g_fr md_X11_endsPiece F F28 := by rw [hF28]; exact g_fr_u fF24 rfl
        have wTF28 : WT F28 R20 := by rw [hF28]; exact WT_u wTF24 rfl
        have wCF28 : WC F28 R20 := by rw [hF28]; exact WC_u wCF24 rfl
        refine g_goto cx 0 e_X11_endsPiece_36 (by decide) ?_
        exact ih0 F28 R20 oF28 fF28 oR20 fR20 wTF28 wCF28 ((by
        obtain ⟨x, hx, e12⟩ := zx17
        have e12 : R20 12 = upd (R2 12) (F1 25).toInt.toNat x := (e12.trans (by rw [show R2 12 = R2 12 from rfl, show (F1 25) = (F1 25) from rfl]))
        have e25 : (F28 25).toInt = (F1 25).toInt + 1 := by have q0 := (g_ok_g oF1 1 rfl).1; have q1 := (g_ok_g oF1 1 rfl).2; have q2 := (g_ok_g oF1 7 rfl).1; have q3 := (g_ok_g oF1 7 rfl).2; have q4 := (g_ok_g oF19 7 rfl).1; have q5 := (g_ok_g oF19 7 rfl).2; have q6 := (g_ok_g oF28 7 rfl).1; have q7 := (g_ok_g oF28 7 rfl).2; have q8 := hroom; have q9 := zx16; have q10 := (congrArg Int32.toInt (show F28 25 = F19 25 from ((g_pu2 hF28 rfl).trans (g_pu2 hF24 rfl)))); omega
        exact ⟨L2, PS_not ps hh (by have q0 := (g_ok_g oF1 1 rfl).1; have q1 := (g_ok_g oF1 1 rfl).2; have q2 := (g_ok_g oF1 7 rfl).1; have q3 := (g_ok_g oF1 7 rfl).2; have q4 := (g_ok_g oF19 7 rfl).1; have q5 := (g_ok_g oF19 7 rfl).2; have q6 := (g_ok_g oF28 7 rfl).1; have q7 := (g_ok_g oF28 7 rfl).2; have q8 := hroom; have q9 := zx16; have q10 := (congrArg Int32.toInt (show F28 25 = F19 25 from ((g_pu2 hF28 rfl).trans (g_pu2 hF24 rfl)))); omega) (by rw [hx]; have z0 : (0 : Int32).toInt = 0 := rfl; have z1 : (10 : Int32).toInt = 10 := rfl; omega) e25 (by have q0 := (jv_k (x := 1) 1 (by decide)).1; have q1 := (jv_k (x := 1) 1 (by decide)).2; have q2 := (jv_k (x := 10) 10 (by decide)).1; have q3 := (jv_k (x := 10) 10 (by decide)).2; have q4 := (g_ok_g oF1 8 rfl).1; have q5 := (g_ok_g oF1 8 rfl).2; have q6 := (g_ok_g oF28 8 rfl).1; have q7 := (g_ok_g oF28 8 rfl).2; have q8 := p11.1; have q9 := p11.2; have q10 := zx22.2.1; have q11 := zx22.2.2; have q12 := zx6; have q13 := (gc_eq zc9); have q14 := hlen; have q15 := (g_eq0 zx22.1); have q16 := (congrArg Int32.toInt (show F28 26 = x22 from ((g_pu2 hF28 rfl).trans (g_pu1 hF24)))); omega) (((((g_pu2 hF28 rfl).trans (g_pu2 hF24 rfl)).trans (cF19 15 rfl)).trans (fF1 15 rfl)).trans (fF1 15 rfl).symm) e12 (cR20 13 rfl), cb_tl hc, bt_pop hb (by simp), FK_tr fk ⟨fun k hk => by rw [e12, g_un (by rw [bne_iff_ne]; intro q; omega)], by omega, (Int.le_of_eq (congrArg Int32.toInt (((((g_pu2 hF28 rfl).trans (g_pu2 hF24 rfl)).trans (cF19 15 rfl)).trans (fF1 15 rfl)).trans (fF1 15 rfl).symm)).symm)⟩⟩)) (hk29.trans (by rw [hb0])) (Nat.lt_of_lt_of_le (show (F28 26).toInt.toNat < (F1 26).toInt.toNat from by have q0 := (jv_k (x := 1) 1 (by decide)).1; have q1 := (jv_k (x := 1) 1 (by decide)).2; have q2 := (jv_k (x := 10) 10 (by decide)).1; have q3 := (jv_k (x := 10) 10 (by decide)).2; have q4 := (g_ok_g oF1 8 rfl).1; have q5 := (g_ok_g oF1 8 rfl).2; have q6 := (g_ok_g oF28 8 rfl).1; have q7 := (g_ok_g oF28 8 rfl).2; have q8 := p11.1; have q9 := p11.2; have q10 := zx22.2.1; have q11 := zx22.2.2; have q12 := zx6; have q13 := (gc_eq zc9); have q14 := hlen; have q15 := (g_eq0 zx22.1); have q16 := (congrArg Int32.toInt (show F28 26 = x22 from ((g_pu2 hF28 rfl).trans (g_pu1 hF24)))); have q17 := (congrArg Int32.toInt (show F28 26 = x22 from ((g_pu2 hF28 rfl).trans (g_pu1 hF24)))); have q18 := (congrArg Int32.toInt (show F28 26 = x22 from ((g_pu2 hF28 rfl).trans (g_pu1 hF24)))); omega) (Nat.le_of_lt_succ hm0))
  exact J0 8589934592 F R hI (g_fr_rf F) hA (g_fr_rf R) hWT hWC (⟨L, hps, hcb, hbt, FK_rf F R⟩) hk0 (show (F 26).toInt.toNat < 8589934592 from by have q0 := (g_ok_g hI 8 rfl).1; have q1 := (g_ok_g hI 8 rfl).2; omega)
def KB_X11_lands_0 (b0 : (Nat → Int32) → (Nat → Nat → Int32) → (Nat → Int32) × (Nat → Nat → Int32)) (F : Nat → Int32) (a0 : Int32) (F1 : Nat → Int32) (R2 : Nat → Nat → Int32) : (Nat → Int32) × (Nat → Nat → Int32) :=
  k_lt (sp_X11_waitTop F1 R2) (fun r3 => if r3 = 11 then k_lt ((F1 26) - 1) (fun x12 => k_lt (R2 13 (Int32.toNatClampNeg x12)) (fun x15 => k_lt (x15 - x15 / 1048576 * 1048576) (fun x18 => k_lt (R2 12 (Int32.toNatClampNeg x18)) (fun x21 => k_lt (x21 / 1048576) (fun x24 => k_lt (1048576 * x24) (fun x26 => k_lt (x26 + (F 25)) (fun x28 => k_lt (g_u R2 12 (upd (R2 12) (Int32.toNatClampNeg x18) x28)) (fun R30 => k_lt ((F1 26) - 1) (fun x32 => k_lt (upd F1 26 x32) (fun F34 => b0 F34 R30)))))))))) else if a0 = 0 then (F1, R2) else k_lt (sp_X11_waitTop F1 R2) (fun r42 => if r42 = 12 then k_lt ((F1 26) - 1) (fun x52 => k_lt (R2 13 (Int32.toNatClampNeg x52)) (fun x55 => k_lt (x55 - x55 / 1048576 * 1048576) (fun x58 => k_lt (R2 12 (Int32.toNatClampNeg x58)) (fun x61 => k_lt (x61 / 1048576) (fun x64 => k_lt (1048576 * x64) (fun x66 => k_lt (x66 + (F 25)) (fun x68 => k_lt (g_u R2 12 (upd (R2 12) (Int32.toNatClampNeg x58) x68)) (fun R70 => k_lt ((F1 26) - 1) (fun x72 => k_lt (upd F1 26 x72) (fun F74 => b0 F74 R70)))))))))) else (F1, R2)))
def K_X11_lands_0 (F : Nat → Int32) (a0 : Int32) : Nat → (Nat → Int32) → (Nat → Nat → Int32) → (Nat → Int32) × (Nat → Nat → Int32)
  | 0 => fun F1 R2 => (F1, R2)
  | n + 1 => KB_X11_lands_0 (K_X11_lands_0 F a0 n) F a0
def sp_X11_lands (F : Nat → Int32) (R : Nat → Nat → Int32) (a0 : Int32) : (Nat → Int32) × (Nat → Nat → Int32) :=
  K_X11_lands_0 F a0 8589934592 F R
theorem e_X11_lands_0 : g_dc cX11_lands 0 (.aload_n 0) 1 1 := ⟨by decide +kernel, rfl⟩
theorem e_X11_lands_1 : g_dc cX11_lands 1 (.invokevirtual 241) 3 4 := ⟨by decide +kernel, rfl⟩
theorem e_X11_lands_4 : g_dc cX11_lands 4 (.bipush 11) 2 6 := ⟨by decide +kernel, rfl⟩
theorem e_X11_lands_6 : g_dc cX11_lands 6 (.if_icmp .eq 16) 3 9 := ⟨by decide +kernel, rfl⟩
theorem e_X11_lands_9 : g_dc cX11_lands 9 (.iload_n 1) 1 10 := ⟨by decide +kernel, rfl⟩
theorem e_X11_lands_10 : g_dc cX11_lands 10 (.ifCond .eq 63) 3 13 := ⟨by decide +kernel, rfl⟩
theorem e_X11_lands_13 : g_dc cX11_lands 13 (.aload_n 0) 1 14 := ⟨by decide +kernel, rfl⟩
theorem e_X11_lands_14 : g_dc cX11_lands 14 (.invokevirtual 241) 3 17 := ⟨by decide +kernel, rfl⟩
theorem e_X11_lands_17 : g_dc cX11_lands 17 (.bipush 12) 2 19 := ⟨by decide +kernel, rfl⟩
theorem e_X11_lands_19 : g_dc cX11_lands 19 (.if_icmp .ne 54) 3 22 := ⟨by decide +kernel, rfl⟩
theorem e_X11_lands_22 : g_dc cX11_lands 22 (.aload_n 0) 1 23 := ⟨by decide +kernel, rfl⟩
theorem e_X11_lands_23 : g_dc cX11_lands 23 (.getfield 47) 3 26 := ⟨by decide +kernel, rfl⟩
theorem e_X11_lands_26 : g_dc cX11_lands 26 (.aload_n 0) 1 27 := ⟨by decide +kernel, rfl⟩
theorem e_X11_lands_27 : g_dc cX11_lands 27 (.getfield 238) 3 30 := ⟨by decide +kernel, rfl⟩
theorem e_X11_lands_30 : g_dc cX11_lands 30 (.iconst 1) 1 31 := ⟨by decide +kernel, rfl⟩
theorem e_X11_lands_31 : g_dc cX11_lands 31 (.isub) 1 32 := ⟨by decide +kernel, rfl⟩
theorem e_X11_lands_32 : g_dc cX11_lands 32 (.iaload) 1 33 := ⟨by decide +kernel, rfl⟩
theorem e_X11_lands_33 : g_dc cX11_lands 33 (.ldc 234) 2 35 := ⟨by decide +kernel, rfl⟩
theorem e_X11_lands_35 : g_dc cX11_lands 35 (.irem) 1 36 := ⟨by decide +kernel, rfl⟩
theorem e_X11_lands_36 : g_dc cX11_lands 36 (.istore_n 2) 1 37 := ⟨by decide +kernel, rfl⟩
theorem e_X11_lands_37 : g_dc cX11_lands 37 (.aload_n 0) 1 38 := ⟨by decide +kernel, rfl⟩
theorem e_X11_lands_38 : g_dc cX11_lands 38 (.getfield 44) 3 41 := ⟨by decide +kernel, rfl⟩
theorem e_X11_lands_41 : g_dc cX11_lands 41 (.iload_n 2) 1 42 := ⟨by decide +kernel, rfl⟩
theorem e_X11_lands_42 : g_dc cX11_lands 42 (.ldc 234) 2 44 := ⟨by decide +kernel, rfl⟩
theorem e_X11_lands_44 : g_dc cX11_lands 44 (.aload_n 0) 1 45 := ⟨by decide +kernel, rfl⟩
theorem e_X11_lands_45 : g_dc cX11_lands 45 (.getfield 44) 3 48 := ⟨by decide +kernel, rfl⟩
theorem e_X11_lands_48 : g_dc cX11_lands 48 (.iload_n 2) 1 49 := ⟨by decide +kernel, rfl⟩
theorem e_X11_lands_49 : g_dc cX11_lands 49 (.iaload) 1 50 := ⟨by decide +kernel, rfl⟩
theorem e_X11_lands_50 : g_dc cX11_lands 50 (.ldc 234) 2 52 := ⟨by decide +kernel, rfl⟩
theorem e_X11_lands_52 : g_dc cX11_lands 52 (.idiv) 1 53 := ⟨by decide +kernel, rfl⟩
theorem e_X11_lands_53 : g_dc cX11_lands 53 (.imul) 1 54 := ⟨by decide +kernel, rfl⟩
theorem e_X11_lands_54 : g_dc cX11_lands 54 (.aload_n 0) 1 55 := ⟨by decide +kernel, rfl⟩
theorem e_X11_lands_55 : g_dc cX11_lands 55 (.getfield 231) 3 58 := ⟨by decide +kernel, rfl⟩
theorem e_X11_lands_58 : g_dc cX11_lands 58 (.iadd) 1 59 := ⟨by decide +kernel, rfl⟩
theorem e_X11_lands_59 : g_dc cX11_lands 59 (.iastore) 1 60 := ⟨by decide +kernel, rfl⟩
theorem e_X11_lands_60 : g_dc cX11_lands 60 (.aload_n 0) 1 61 := ⟨by decide +kernel, rfl⟩
theorem e_X11_lands_61 : g_dc cX11_lands 61 (.aload_n 0) 1 62 := ⟨by decide +kernel, rfl⟩
theorem e_X11_lands_62 : g_dc cX11_lands 62 (.getfield 238) 3 65 := ⟨by decide +kernel, rfl⟩
theorem e_X11_lands_65 : g_dc cX11_lands 65 (.iconst 1) 1 66 := ⟨by decide +kernel, rfl⟩
theorem e_X11_lands_66 : g_dc cX11_lands 66 (.isub) 1 67 := ⟨by decide +kernel, rfl⟩
theorem e_X11_lands_67 : g_dc cX11_lands 67 (.putfield 238) 3 70 := ⟨by decide +kernel, rfl⟩
theorem e_X11_lands_70 : g_dc cX11_lands 70 (.goto (-70)) 3 73 := ⟨by decide +kernel, rfl⟩
theorem e_X11_lands_73 : g_dc cX11_lands 73 (.return_) 1 74 := ⟨by decide +kernel, rfl⟩
def md_X11_lands : List Nat := [26]
def mr_X11_lands : List Nat := [12]
set_option maxHeartbeats 4000000 in
set_option maxRecDepth 100000 in
theorem w_X11_lands (l : Launch) (X : gX) (ad : Nat → Nat) (F : Nat → Int32) (R : Nat → Nat → Int32) (hI : g_ok LK_wM F) (hA : g_okR LA_wM R) (hWT : WT F R) (hWC : WC F R) (a0 : Int32) (pa0 : jv 0 1 a0) (A : Nat × Nat) (L : List (Int × Nat)) (hps : PS F R A L 1) (hcb : cb L = 0) (hbt : bt L) : g_Cv l X yX11_lands cX11_lands 3 2 0 0 [.ref (ad 0), .int a0] (wM X ad F R) (fun w => ∃ (F' : Nat → Int32) (R' : Nat → Nat → Int32), w = wM X ad F' R' ∧ g_ok LK_wM F' ∧ g_okR LA_wM R' ∧ WT F' R' ∧ WC F' R' ∧ g_fr md_X11_lands F F' ∧ g_fr mr_X11_lands R R' ∧ (∃ L1 : List (Int × Nat), PS F' R' A L1 1 ∧ cb L1 = 0 ∧ bt L1 ∧ tp L1 ≠ 11 ∧ (¬ a0 = 0 → tp L1 ≠ 12) ∧ (∀ k, k < A.1 → R' 12 k = R 12 k)) ∧ (F', R') = sp_X11_lands F R a0) := by
  refine g_mv (by decide +kernel) (Nat.le_of_ble_eq_true rfl) (fun E cx hret => ?_)
  obtain ⟨SP, hSP⟩ : ∃ z, z = sp_X11_lands F R a0 := ⟨_, rfl⟩
  have hk0 := hSP
  unfold sp_X11_lands at hk0
  have J0 : ∀ (N : Nat) (F1 : Nat → Int32) (R2 : Nat → Nat → Int32), (g_ok LK_wM F1) → (g_fr md_X11_lands F F1) → (g_okR LA_wM R2) → (g_fr mr_X11_lands R R2) → (WT F1 R2) → (WC F1 R2) → (∃ L1 : List (Int × Nat), PS F1 R2 A L1 1 ∧ cb L1 = 0 ∧ bt L1 ∧ (∀ k, k < A.1 → R2 12 k = R 12 k)) → (SP = K_X11_lands_0 F a0 N F1 R2) → (F1 26).toInt.toNat < N → G X E 3 0 0 (wM X ad F1 R2) [(0, .ref (ad 0)), (1, .int a0)] 0 [] := by
    intro N
    induction N with
    | zero => intro F1 R2 oF1 fF1 oR2 fR2 wTF1R2 wCF1R2 zq0_0 hkJ0 hm; exact absurd hm (Nat.not_lt_zero _)
    | succ N ih0 =>
      intro F1 R2 oF1 fF1 oR2 fR2 wTF1R2 wCF1R2 zq0_0 hkJ0 hm0
      have hkK0 : SP = KB_X11_lands_0 (K_X11_lands_0 F a0 N) F a0 F1 R2 := hkJ0
      obtain ⟨b0, hb0⟩ : ∃ z, z = K_X11_lands_0 F a0 N := ⟨_, rfl⟩
      rw [← hb0] at hkK0
      unfold KB_X11_lands_0 at hkK0
      obtain ⟨L1, ps, hc, hb, hk⟩ := zq0_0
      refine g_aload_n cx 0 rfl e_X11_lands_0 ?_
      refine g_cViW cx [] [] (w_X11_waitTop l X ad F1 R2 oF1 oR2 (L1) ps.2.1 ps.2.2.1) ml_X11_241 yV_X11_waitTop e_X11_lands_1 (by unfold g_rr; decide) (by decide) 0 rfl rfl rfl (Nat.le_of_ble_eq_true rfl) (fun r3 w4 h5 => ?_)
      obtain ⟨rfl, pr3, zx6, hx7⟩ := h5
      have hk8 := k_ls hkK0 hx7
      refine g_bipush cx 11 (by decide) e_X11_lands_4 ?_
      refine g_icmp_eq cx 22 e_X11_lands_6 (by decide) (fun zc9 => ?_) (fun zc9 => ?_)
      · have p10 := gn_eq 11 11 (gc_eq zc9) pr3 (jv_k (x := 11) 11 (by decide)) (by decide)
        have hk11 := hk8.trans (if_pos zc9)
        obtain ⟨o, r, L2, rfl⟩ := tp_cons (L := L1) (by have q0 := (jv_k (x := 11) 11 (by decide)).1; have q1 := (jv_k (x := 11) 11 (by decide)).2; have q2 := (g_ok_g oF1 8 rfl).1; have q3 := (g_ok_g oF1 8 rfl).2; have q4 := p10.1; have q5 := p10.2; have q6 := zx6; have q7 := (gc_eq zc9); omega)
        have ho : o = 11 ∨ o = 12 := (show tp ((o, r) :: L2) = 11 ∨ tp ((o, r) :: L2) = 12 from by have q0 := (jv_k (x := 11) 11 (by decide)).1; have q1 := (jv_k (x := 11) 11 (by decide)).2; have q2 := (g_ok_g oF1 8 rfl).1; have q3 := (g_ok_g oF1 8 rfl).2; have q4 := p10.1; have q5 := p10.2; have q6 := zx6; have q7 := (gc_eq zc9); omega)
        have hat := PS_at ps (by omega)
        have hlen : 1 ≤ (F1 26).toInt := by have q := ps.2.2.1; simp only [List.length_cons] at q; omega
        refine g_aload_n cx 0 rfl e_X11_lands_22 ?_
        refine g_get cx cl_X11 fl_X11_47 0 (.ref (ad 13)) e_X11_lands_23 rfl rfl ?_
        refine g_aload_n cx 0 rfl e_X11_lands_26 ?_
        refine g_get cx cl_X11 fl_X11_238 0 (.int (F1 26)) e_X11_lands_27 rfl rfl ?_
        refine g_iconst cx 1 (by decide) e_X11_lands_30 ?_
        refine g_isub cx e_X11_lands_31 ?_
        refine g_topi (fun x12 ex12 => ?_)
        have hk13 := k_ls hk11 ex12
        have zx12 := jv_sub (-1) 219 ex12 (g_ok_g oF1 8 rfl) (jv_k (x := 1) 1 (by decide)) (by decide)
        have p14 : jv 0 219 x12 := ⟨by have q0 := (jv_k (x := 1) 1 (by decide)).1; have q1 := (jv_k (x := 1) 1 (by decide)).2; have q2 := (jv_k (x := 11) 11 (by decide)).1; have q3 := (jv_k (x := 11) 11 (by decide)).2; have q4 := (g_ok_g oF1 8 rfl).1; have q5 := (g_ok_g oF1 8 rfl).2; have q6 := p10.1; have q7 := p10.2; have q8 := zx12.2.1; have q9 := zx12.2.2; have q10 := zx6; have q11 := (gc_eq zc9); have q12 := hlen; have q13 := (g_eq0 zx12.1); omega, by have q0 := (jv_k (x := 1) 1 (by decide)).1; have q1 := (jv_k (x := 1) 1 (by decide)).2; have q2 := (jv_k (x := 11) 11 (by decide)).1; have q3 := (jv_k (x := 11) 11 (by decide)).2; have q4 := (g_ok_g oF1 8 rfl).1; have q5 := (g_ok_g oF1 8 rfl).2; have q6 := p10.1; have q7 := p10.2; have q8 := zx12.2.1; have q9 := zx12.2.2; have q10 := zx6; have q11 := (gc_eq zc9); have q12 := hlen; have q13 := (g_eq0 zx12.1); omega⟩
        refine g_iald cx 13 e_X11_lands_32 rfl (jv_ix 220 p14 (by decide)) ?_
        refine g_topi (fun x15 ex15 => ?_)
        have hk16 := k_ls hk13 ex15
        have p17 : jv 0 15728639 x15 := by rw [ex15]; exact g_okR_g oR2 1 rfl (jv_cl 220 p14 (by decide))
        refine g_ldc cx 1048576 kc_X11_234 e_X11_lands_33 ?_
        refine g_irem cx (by decide) e_X11_lands_35 ?_
        refine g_topi (fun x18 ex18 => ?_)
        have hk19 := k_ls hk16 ex18
        have zx18 := jv_rem 0 1048575 ex18 p17 (jv_k (x := 1048576) 1048576 (by decide)) (by decide)
        have hfr : (x18 : Int32).toInt = (r : Int) := WS_at ps.2.1 ps.2.2.1 (by have q0 := (jv_k (x := 1) 1 (by decide)).1; have q1 := (jv_k (x := 1) 1 (by decide)).2; have q2 := (jv_k (x := 11) 11 (by decide)).1; have q3 := (jv_k (x := 11) 11 (by decide)).2; have q4 := (g_ok_g oF1 8 rfl).1; have q5 := (g_ok_g oF1 8 rfl).2; have q6 := p10.1; have q7 := p10.2; have q8 := p14.1; have q9 := p14.2; have q10 := zx6; have q11 := (gc_eq zc9); have q12 := hlen; have q13 := (g_eq0 zx12.1); omega) ex15 (by have q0 := p17.1; have q1 := p17.2; have q2 := zx18.2.1; have q3 := zx18.2.2; have q4 := (g_er zx18.1 (by decide : Int32.toInt 1048576 = 1048576)); omega)
        have p20 : jv 0 219 x18 := ⟨by have q0 := (g_ok_g oF1 7 rfl).1; have q1 := (g_ok_g oF1 7 rfl).2; have q2 := p17.1; have q3 := p17.2; have q4 := zx18.2.1; have q5 := zx18.2.2; have q6 := hat.2; have q7 := (g_er zx18.1 (by decide : Int32.toInt 1048576 = 1048576)); have q8 := hfr; omega, by have q0 := (g_ok_g oF1 7 rfl).1; have q1 := (g_ok_g oF1 7 rfl).2; have q2 := p17.1; have q3 := p17.2; have q4 := zx18.2.1; have q5 := zx18.2.2; have q6 := hat.2; have q7 := (g_er zx18.1 (by decide : Int32.toInt 1048576 = 1048576)); have q8 := hfr; omega⟩
        refine g_istore_n cx [(2, .int x18), (0, .ref (ad 0)), (1, .int a0)] e_X11_lands_36 (by decide) rfl ?_
        refine g_aload_n cx 1 rfl e_X11_lands_37 ?_
        refine g_get cx cl_X11 fl_X11_44 0 (.ref (ad 12)) e_X11_lands_38 rfl rfl ?_
        refine g_iload_n cx 0 rfl e_X11_lands_41 ?_
        refine g_ldc cx 1048576 kc_X11_234 e_X11_lands_42 ?_
        refine g_aload_n cx 1 rfl e_X11_lands_44 ?_
        refine g_get cx cl_X11 fl_X11_44 0 (.ref (ad 12)) e_X11_lands_45 rfl rfl ?_
        refine g_iload_n cx 0 rfl e_X11_lands_48 ?_
        refine g_iald cx 12 e_X11_lands_49 rfl (jv_ix 220 p20 (by decide)) ?_
        refine g_topi (fun x21 ex21 => ?_)
        have hk22 := k_ls hk19 ex21
        have p23 : jv 0 13631487 x21 := by rw [ex21]; exact g_okR_g oR2 0 rfl (jv_cl 220 p20 (by decide))
        refine g_ldc cx 1048576 kc_X11_234 e_X11_lands_50 ?_
        refine g_idiv cx (by decide) e_X11_lands_52 ?_
        refine g_topi (fun x24 ex24 => ?_)
        have hk25 := k_ls hk22 ex24
        have zx24 := jv_div 0 12 ex24 p23 (jv_k (x := 1048576) 1048576 (by decide)) (by decide)
        refine g_imul cx e_X11_lands_53 ?_
        refine g_topi (fun x26 ex26 => ?_)
        have hk27 := k_ls hk25 ex26
        have zx26 := jv_mul 0 12582912 ex26 (jv_k (x := 1048576) 1048576 (by decide)) zx24.2 (by decide)
        refine g_aload_n cx 1 rfl e_X11_lands_54 ?_
        refine g_get cx cl_X11 fl_X11_231 0 (.int (F1 25)) e_X11_lands_55 rfl rfl ?_
        refine g_toi (F 25) (fF1 25 rfl) ?_
        refine g_iadd cx e_X11_lands_58 ?_
        refine g_topi (fun x28 ex28 => ?_)
        have hk29 := k_ls hk27 ex28
        have zx28 := jv_add 0 12583132 ex28 zx26.2 (g_ok_g hI 7 rfl) (by decide)
        refine g_iast cx 12 (wM X ad F1 (g_u R2 12 (upd (R2 12) (Int32.toNatClampNeg x18) x28))) e_X11_lands_59 rfl (jv_ix 220 p20 (by decide)) rfl ?_
        obtain ⟨R30, hR30⟩ : ∃ z, z = g_u R2 12 (upd (R2 12) (Int32.toNatClampNeg x18) x28) := ⟨_, rfl⟩
        rw [← hR30]
        have hk31 := k_ls hk29 hR30
        have oR30 : g_okR LA_wM R30 := by rw [hR30]; exact g_okR_p oR2 zx28.2 rfl
        have fR30 : g_fr mr_X11_lands R R30 := by rw [hR30]; exact g_fr_r fR2 rfl
        have wTR30 : WT F1 R30 := by rw [hR30]; exact WT_r wTF1R2 rfl
        have wCR30 : WC F1 R30 := by rw [hR30]; exact WC_r wCF1R2 rfl
        refine g_aload_n cx 1 rfl e_X11_lands_60 ?_
        refine g_aload_n cx 1 rfl e_X11_lands_61 ?_
        refine g_get cx cl_X11 fl_X11_238 0 (.int (F1 26)) e_X11_lands_62 rfl rfl ?_
        refine g_iconst cx 1 (by decide) e_X11_lands_65 ?_
        refine g_isub cx e_X11_lands_66 ?_
        refine g_topi (fun x32 ex32 => ?_)
        have hk33 := k_ls hk31 ex32
        have zx32 := jv_sub (-1) 219 ex32 (g_ok_g oF1 8 rfl) (jv_k (x := 1) 1 (by decide)) (by decide)
        refine g_put cx cl_X11 fl_X11_238 0 (wM X ad (upd F1 26 x32) R30) e_X11_lands_67 rfl rfl rfl rfl (Nat.le_of_ble_eq_true rfl) rfl ?_
        obtain ⟨F34, hF34⟩ : ∃ z, z = upd F1 26 x32 := ⟨_, rfl⟩
        rw [← hF34]
        have hk35 := k_ls hk33 hF34
        have oF34 : g_ok LK_wM F34 := by rw [hF34]; exact g_ok_p oF1 (show jv 0 220 _ from ⟨by have q0 := (jv_k (x := 1) 1 (by decide)).1; have q1 := (jv_k (x := 1) 1 (by decide)).2; have q2 := (jv_k (x := 11) 11 (by decide)).1; have q3 := (jv_k (x := 11) 11 (by decide)).2; have q4 := (g_ok_g oF1 8 rfl).1; have q5 := (g_ok_g oF1 8 rfl).2; have q6 := p10.1; have q7 := p10.2; have q8 := p14.1; have q9 := p14.2; have q10 := zx32.2.1; have q11 := zx32.2.2; have q12 := zx6; have q13 := (gc_eq zc9); have q14 := hlen; have q15 := (g_eq0 zx12.1); have q16 := (g_eq0 zx32.1); omega, by have q0 := (jv_k (x := 1) 1 (by decide)).1; have q1 := (jv_k (x := 1) 1 (by decide)).2; have q2 := (jv_k (x := 11) 11 (by decide)).1; have q3 := (jv_k (x := 11) 11 (by decide)).2; have q4 := (g_ok_g oF1 8 rfl).1; have q5 := (g_ok_g oF1 8 rfl).2; have q6 := p10.1; have q7 := p10.2; have q8 := p14.1; have q9 := p14.2; have q10 := zx32.2.1; have q11 := zx32.2.2; have q12 := zx6; have q13 := (gc_eq zc9); have q14 := hlen; have q15 := (g_eq0 zx12.1); have q16 := (g_eq0 zx32.1); omega⟩) rfl
        have fF34 : g_fr md_X11_lands F F34 := by rw [hF34]; exact g_fr_u fF1 rfl
        have wTF34 : WT F34 R30 := by rw [hF34]; exact WT_u wTR30 rfl
        have wCF34 : WC F34 R30 := by rw [hF34]; exact WC_u wCR30 rfl
        refine g_goto cx 0 e_X11_lands_70 (by decide) ?_
        refine g_lsub [1, 2] [(0, .ref (ad 0)), (1, .int a0)] rfl ?_
        exact ih0 F34 R30 oF34 fF34 oR30 fR30 wTF34 wCF34 ((by
        have hrc : x18.toNatClampNeg = r := g_clm (k := x18) (m := r) hfr
        have e12 : R30 12 = upd (R2 12) r x28 := (g_ru1 hR30).trans (by rw [hrc])
        have hy : g_op (R2 12 r) = (x21 : Int32).toInt / 1048576 := by rw [g_opd, ex21, hrc]
        exact ⟨L2, PS_land ps (by have q0 := (g_ok_g hI 7 rfl).1; have q1 := (g_ok_g hI 7 rfl).2; have q2 := (g_ok_g oF1 7 rfl).1; have q3 := (g_ok_g oF1 7 rfl).2; have q4 := (g_ok_g oF34 7 rfl).1; have q5 := (g_ok_g oF34 7 rfl).2; have q6 := p17.1; have q7 := p17.2; have q8 := p20.1; have q9 := p20.2; have q10 := p23.1; have q11 := p23.2; have q12 := zx24.2.1; have q13 := zx24.2.2; have q14 := zx26.2.1; have q15 := zx26.2.2; have q16 := zx28.2.1; have q17 := zx28.2.2; have q18 := hat.2; have q19 := (g_er zx18.1 (by decide : Int32.toInt 1048576 = 1048576)); have q20 := hfr; have q21 := (g_ed zx24.1 (by decide : Int32.toInt 1048576 = 1048576)); have q22 := (g_em2 zx26.1 (by decide : Int32.toInt 1048576 = 1048576)); have q23 := (g_eq0 zx28.1); have q24 := (congrArg Int32.toInt (show F1 25 = F 25 from (fF1 25 rfl))); have q25 := (congrArg Int32.toInt (show F34 25 = F 25 from ((g_pu2 hF34 rfl).trans (fF1 25 rfl)))); omega) ho (by rw [hy]; have q0 := (g_ok_g hI 7 rfl).1; have q1 := (g_ok_g hI 7 rfl).2; have q2 := (g_ok_g oF1 7 rfl).1; have q3 := (g_ok_g oF1 7 rfl).2; have q4 := (g_ok_g oF34 7 rfl).1; have q5 := (g_ok_g oF34 7 rfl).2; have q6 := p17.1; have q7 := p17.2; have q8 := p20.1; have q9 := p20.2; have q10 := p23.1; have q11 := p23.2; have q12 := zx24.2.1; have q13 := zx24.2.2; have q14 := zx26.2.1; have q15 := zx26.2.2; have q16 := zx28.2.1; have q17 := zx28.2.2; have q18 := hat.2; have q19 := (g_er zx18.1 (by decide : Int32.toInt 1048576 = 1048576)); have q20 := hfr; have q21 := (g_ed zx24.1 (by decide : Int32.toInt 1048576 = 1048576)); have q22 := (g_em2 zx26.1 (by decide : Int32.toInt 1048576 = 1048576)); have q23 := (g_eq0 zx28.1); have q24 := (congrArg Int32.toInt (show F1 25 = F 25 from (fF1 25 rfl))); have q25 := (congrArg Int32.toInt (show F34 25 = F 25 from ((g_pu2 hF34 rfl).trans (fF1 25 rfl)))); omega) (by have q0 := (g_ok_g hI 7 rfl).1; have q1 := (g_ok_g hI 7 rfl).2; have q2 := (g_ok_g oF1 7 rfl).1; have q3 := (g_ok_g oF1 7 rfl).2; have q4 := (g_ok_g oF34 7 rfl).1; have q5 := (g_ok_g oF34 7 rfl).2; have q6 := p17.1; have q7 := p17.2; have q8 := p20.1; have q9 := p20.2; have q10 := p23.1; have q11 := p23.2; have q12 := zx24.2.1; have q13 := zx24.2.2; have q14 := zx26.2.1; have q15 := zx26.2.2; have q16 := zx28.2.1; have q17 := zx28.2.2; have q18 := hat.2; have q19 := (g_er zx18.1 (by decide : Int32.toInt 1048576 = 1048576)); have q20 := hfr; have q21 := (g_ed zx24.1 (by decide : Int32.toInt 1048576 = 1048576)); have q22 := (g_em2 zx26.1 (by decide : Int32.toInt 1048576 = 1048576)); have q23 := (g_eq0 zx28.1); have q24 := (congrArg Int32.toInt (show F1 25 = F 25 from (fF1 25 rfl))); have q25 := (congrArg Int32.toInt (show F34 25 = F 25 from ((g_pu2 hF34 rfl).trans (fF1 25 rfl)))); omega) (((g_pu2 hF34 rfl).trans (fF1 25 rfl)).trans (fF1 25 rfl).symm) (by have q0 := (jv_k (x := 1) 1 (by decide)).1; have q1 := (jv_k (x := 1) 1 (by decide)).2; have q2 := (jv_k (x := 11) 11 (by decide)).1; have q3 := (jv_k (x := 11) 11 (by decide)).2; have q4 := (g_ok_g oF1 8 rfl).1; have q5 := (g_ok_g oF1 8 rfl).2; have q6 := (g_ok_g oF34 8 rfl).1; have q7 := (g_ok_g oF34 8 rfl).2; have q8 := p10.1; have q9 := p10.2; have q10 := p14.1; have q11 := p14.2; have q12 := zx32.2.1; have q13 := zx32.2.2; have q14 := zx6; have q15 := (gc_eq zc9); have q16 := hlen; have q17 := (g_eq0 zx12.1); have q18 := (g_eq0 zx32.1); have q19 := (congrArg Int32.toInt (show F34 26 = x32 from (g_pu1 hF34))); omega) (((g_pu2 hF34 rfl).trans (fF1 15 rfl)).trans (fF1 15 rfl).symm) e12 (g_ru2 hR30 rfl), cb_tl hc, bt_pop hb (by simp only; omega), fun k q => by rw [e12, g_un (by rw [bne_iff_ne]; intro e; omega)]; exact hk k q⟩)) (hk35.trans (by rw [hb0])) (Nat.lt_of_lt_of_le (show (F34 26).toInt.toNat < (F1 26).toInt.toNat from by have q0 := (jv_k (x := 1) 1 (by decide)).1; have q1 := (jv_k (x := 1) 1 (by decide)).2; have q2 := (jv_k (x := 11) 11 (by decide)).1; have q3 := (jv_k (x := 11) 11 (by decide)).2; have q4 := (g_ok_g oF1 8 rfl).1; have q5 := (g_ok_g oF1 8 rfl).2; have q6 := (g_ok_g oF34 8 rfl).1; have q7 := (g_ok_g oF34 8 rfl).2; have q8 := p10.1; have q9 := p10.2; have q10 := p14.1; have q11 := p14.2; have q12 := zx32.2.1; have q13 := zx32.2.2; have q14 := zx6; have q15 := (gc_eq zc9); have q16 := hlen; have q17 := (g_eq0 zx12.1); have q18 := (g_eq0 zx32.1); have q19 := (congrArg Int32.toInt (show F34 26 = x32 from (g_pu1 hF34))); have q20 := (congrArg Int32.toInt (show F34 26 = x32 from (g_pu1 hF34))); have q21 := (congrArg Int32.toInt (show F34 26 = x32 from (g_pu1 hF34))); omega) (Nat.le_of_lt_succ hm0))
      · have hk36 := hk8.trans (if_neg zc9)
        refine g_iload_n cx 1 rfl e_X11_lands_9 ?_
        refine g_if_eq cx 73 e_X11_lands_10 (by decide) (fun zc37 => ?_) (fun zc37 => ?_)
        · have p38 := gn_eq 0 0 (gc_eq zc37) pa0 (jv_k (x := 0) 0 (by decide)) (by decide)
          have hk39 := hk36.trans (if_pos zc37)
          exact hret e_X11_lands_73 (Nat.le_of_ble_eq_true rfl) (Nat.le_of_ble_eq_true rfl) ⟨F1, R2, rfl, oF1, oR2, wTF1R2, wCF1R2, fF1, fR2, ⟨L1, ps, hc, hb, by have q0 := (jv_k (x := 11) 11 (by decide)).1; have q1 := (jv_k (x := 11) 11 (by decide)).2; have q2 := (g_ok_g oF1 8 rfl).1; have q3 := (g_ok_g oF1 8 rfl).2; have q4 := pr3.1; have q5 := pr3.2; have q6 := zx6; have q7 := (gc_ne zc9); omega, (by first | exact fun h0 => absurd (by assumption) h0 | exact fun _ => (by have q0 := (jv_k (x := 11) 11 (by decide)).1; have q1 := (jv_k (x := 11) 11 (by decide)).2; have q2 := (g_ok_g oF1 8 rfl).1; have q3 := (g_ok_g oF1 8 rfl).2; have q4 := pr3.1; have q5 := pr3.2; have q6 := zx6; have q7 := (gc_ne zc9); omega)), hk⟩, (hk39.symm.trans hSP)⟩
        · have p40 := gn_neL 1 1 (gc_ne zc37) pa0 (jv_k (x := 0) 0 (by decide)) (by decide)
          have hk41 := hk36.trans (if_neg zc37)
          refine g_aload_n cx 0 rfl e_X11_lands_13 ?_
          refine g_cViW cx [] [] (w_X11_waitTop l X ad F1 R2 oF1 oR2 (L1) ps.2.1 ps.2.2.1) ml_X11_241 yV_X11_waitTop e_X11_lands_14 (by unfold g_rr; decide) (by decide) 0 rfl rfl rfl (Nat.le_of_ble_eq_true rfl) (fun r42 w43 h44 => ?_)
          obtain ⟨rfl, pr42, zx45, hx46⟩ := h44
          have hk47 := k_ls hk41 hx46
          refine g_bipush cx 12 (by decide) e_X11_lands_17 ?_
          refine g_icmp_ne cx 73 e_X11_lands_19 (by decide) (fun zc48 => ?_) (fun zc48 => ?_)
          · have hk49 := hk47.trans (if_neg zc48)
            exact hret e_X11_lands_73 (Nat.le_of_ble_eq_true rfl) (Nat.le_of_ble_eq_true rfl) ⟨F1, R2, rfl, oF1, oR2, wTF1R2, wCF1R2, fF1, fR2, ⟨L1, ps, hc, hb, by have q0 := (jv_k (x := 11) 11 (by decide)).1; have q1 := (jv_k (x := 11) 11 (by decide)).2; have q2 := (jv_k (x := 12) 12 (by decide)).1; have q3 := (jv_k (x := 12) 12 (by decide)).2; have q4 := (g_ok_g oF1 8 rfl).1; have q5 := (g_ok_g oF1 8 rfl).2; have q6 := pr3.1; have q7 := pr3.2; have q8 := pr42.1; have q9 := pr42.2; have q10 := zx6; have q11 := (gc_ne zc9); have q12 := zx45; have q13 := (gc_ne zc48); omega, (by first | exact fun h0 => absurd (by assumption) h0 | exact fun _ => (by have q0 := (jv_k (x := 11) 11 (by decide)).1; have q1 := (jv_k (x := 11) 11 (by decide)).2; have q2 := (jv_k (x := 12) 12 (by decide)).1; have q3 := (jv_k (x := 12) 12 (by decide)).2; have q4 := (g_ok_g oF1 8 rfl).1; have q5 := (g_ok_g oF1 8 rfl).2; have q6 := pr3.1; have q7 := pr3.2; have q8 := pr42.1; have q9 := pr42.2; have q10 := zx6; have q11 := (gc_ne zc9); have q12 := zx45; have q13 := (gc_ne zc48); omega)), hk⟩, (hk49.symm.trans hSP)⟩
          · have p50 := gn_eq 12 12 (gc_eq zc48) pr42 (jv_k (x := 12) 12 (by decide)) (by decide)
            have hk51 := hk47.trans (if_pos zc48)
            obtain ⟨o, r, L2, rfl⟩ := tp_cons (L := L1) (by have q0 := (jv_k (x := 11) 11 (by decide)).1; have q1 := (jv_k (x := 11) 11 (by decide)).2; have q2 := (jv_k (x := 12) 12 (by decide)).1; have q3 := (jv_k (x := 12) 12 (by decide)).2; have q4 := (g_ok_g oF1 8 rfl).1; have q5 := (g_ok_g oF1 8 rfl).2; have q6 := pr3.1; have q7 := pr3.2; have q8 := p50.1; have q9 := p50.2; have q10 := zx6; have q11 := (gc_ne zc9); have q12 := zx45; have q13 := (gc_eq zc48); omega)
            have ho : o = 11 ∨ o = 12 := (show tp ((o, r) :: L2) = 11 ∨ tp ((o, r) :: L2) = 12 from by have q0 := (jv_k (x := 11) 11 (by decide)).1; have q1 := (jv_k (x := 11) 11 (by decide)).2; have q2 := (jv_k (x := 12) 12 (by decide)).1; have q3 := (jv_k (x := 12) 12 (by decide)).2; have q4 := (g_ok_g oF1 8 rfl).1; have q5 := (g_ok_g oF1 8 rfl).2; have q6 := pr3.1; have q7 := pr3.2; have q8 := p50.1; have q9 := p50.2; have q10 := zx6; have q11 := (gc_ne zc9); have q12 := zx45; have q13 := (gc_eq zc48); omega)
            have hat := PS_at ps (by omega)
            have hlen : 1 ≤ (F1 26).toInt := by have q := ps.2.2.1; simp only [List.length_cons] at q; omega
            refine g_aload_n cx 0 rfl e_X11_lands_22 ?_
            refine g_get cx cl_X11 fl_X11_47 0 (.ref (ad 13)) e_X11_lands_23 rfl rfl ?_
            refine g_aload_n cx 0 rfl e_X11_lands_26 ?_
            refine g_get cx cl_X11 fl_X11_238 0 (.int (F1 26)) e_X11_lands_27 rfl rfl ?_
            refine g_iconst cx 1 (by decide) e_X11_lands_30 ?_
            refine g_isub cx e_X11_lands_31 ?_
            refine g_topi (fun x52 ex52 => ?_)
            have hk53 := k_ls hk51 ex52
            have zx52 := jv_sub (-1) 219 ex52 (g_ok_g oF1 8 rfl) (jv_k (x := 1) 1 (by decide)) (by decide)
            have p54 : jv 0 219 x52 := ⟨by have q0 := (jv_k (x := 1) 1 (by decide)).1; have q1 := (jv_k (x := 1) 1 (by decide)).2; have q2 := (jv_k (x := 11) 11 (by decide)).1; have q3 := (jv_k (x := 11) 11 (by decide)).2; have q4 := (jv_k (x := 12) 12 (by decide)).1; have q5 := (jv_k (x := 12) 12 (by decide)).2; have q6 := (g_ok_g oF1 8 rfl).1; have q7 := (g_ok_g oF1 8 rfl).2; have q8 := pr3.1; have q9 := pr3.2; have q10 := p50.1; have q11 := p50.2; have q12 := zx52.2.1; have q13 := zx52.2.2; have q14 := zx6; have q15 := (gc_ne zc9); have q16 := zx45; have q17 := (gc_eq zc48); have q18 := hlen; have q19 := (g_eq0 zx52.1); omega, by have q0 := (jv_k (x := 1) 1 (by decide)).1; have q1 := (jv_k (x := 1) 1 (by decide)).2; have q2 := (jv_k (x := 11) 11 (by decide)).1; have q3 := (jv_k (x := 11) 11 (by decide)).2; have q4 := (jv_k (x := 12) 12 (by decide)).1; have q5 := (jv_k (x := 12) 12 (by decide)).2; have q6 := (g_ok_g oF1 8 rfl).1; have q7 := (g_ok_g oF1 8 rfl).2; have q8 := pr3.1; have q9 := pr3.2; have q10 := p50.1; have q11 := p50.2; have q12 := zx52.2.1; have q13 := zx52.2.2; have q14 := zx6; have q15 := (gc_ne zc9); have q16 := zx45; have q17 := (gc_eq zc48); have q18 := hlen; have q19 := (g_eq0 zx52.1); omega⟩
            refine g_iald cx 13 e_X11_lands_32 rfl (jv_ix 220 p54 (by decide)) ?_
            refine g_topi (fun x55 ex55 => ?_)
            have hk56 := k_ls hk53 ex55
            have p57 : jv 0 15728639 x55 := by rw [ex55]; exact g_okR_g oR2 1 rfl (jv_cl 220 p54 (by decide))
            refine g_ldc cx 1048576 kc_X11_234 e_X11_lands_33 ?_
            refine g_irem cx (by decide) e_X11_lands_35 ?_
            refine g_topi (fun x58 ex58 => ?_)
            have hk59 := k_ls hk56 ex58
            have zx58 := jv_rem 0 1048575 ex58 p57 (jv_k (x := 1048576) 1048576 (by decide)) (by decide)
            have hfr : (x58 : Int32).toInt = (r : Int) := WS_at ps.2.1 ps.2.2.1 (by have q0 := (jv_k (x := 1) 1 (by decide)).1; have q1 := (jv_k (x := 1) 1 (by decide)).2; have q2 := (jv_k (x := 11) 11 (by decide)).1; have q3 := (jv_k (x := 11) 11 (by decide)).2; have q4 := (jv_k (x := 12) 12 (by decide)).1; have q5 := (jv_k (x := 12) 12 (by decide)).2; have q6 := (g_ok_g oF1 8 rfl).1; have q7 := (g_ok_g oF1 8 rfl).2; have q8 := pr3.1; have q9 := pr3.2; have q10 := p50.1; have q11 := p50.2; have q12 := p54.1; have q13 := p54.2; have q14 := zx6; have q15 := (gc_ne zc9); have q16 := zx45; have q17 := (gc_eq zc48); have q18 := hlen; have q19 := (g_eq0 zx52.1); omega) ex55 (by have q0 := p57.1; have q1 := p57.2; have q2 := zx58.2.1; have q3 := zx58.2.2; have q4 := (g_er zx58.1 (by decide : Int32.toInt 1048576 = 1048576)); omega)
            have p60 : jv 0 219 x58 := ⟨by have q0 := (g_ok_g oF1 7 rfl).1; have q1 := (g_ok_g oF1 7 rfl).2; have q2 := p57.1; have q3 := p57.2; have q4 := zx58.2.1; have q5 := zx58.2.2; have q6 := hat.2; have q7 := (g_er zx58.1 (by decide : Int32.toInt 1048576 = 1048576)); have q8 := hfr; omega, by have q0 := (g_ok_g oF1 7 rfl).1; have q1 := (g_ok_g oF1 7 rfl).2; have q2 := p57.1; have q3 := p57.2; have q4 := zx58.2.1; have q5 := zx58.2.2; have q6 := hat.2; have q7 := (g_er zx58.1 (by decide : Int32.toInt 1048576 = 1048576)); have q8 := hfr; omega⟩
            refine g_istore_n cx [(2, .int x58), (0, .ref (ad 0)), (1, .int a0)] e_X11_lands_36 (by decide) rfl ?_
            refine g_aload_n cx 1 rfl e_X11_lands_37 ?_
            refine g_get cx cl_X11 fl_X11_44 0 (.ref (ad 12)) e_X11_lands_38 rfl rfl ?_
            refine g_iload_n cx 0 rfl e_X11_lands_41 ?_
            refine g_ldc cx 1048576 kc_X11_234 e_X11_lands_42 ?_
            refine g_aload_n cx 1 rfl e_X11_lands_44 ?_
            refine g_get cx cl_X11 fl_X11_44 0 (.ref (ad 12)) e_X11_lands_45 rfl rfl ?_
            refine g_iload_n cx 0 rfl e_X11_lands_48 ?_
            refine g_iald cx 12 e_X11_lands_49 rfl (jv_ix 220 p60 (by decide)) ?_
            refine g_topi (fun x61 ex61 => ?_)
            have hk62 := k_ls hk59 ex61
            have p63 : jv 0 13631487 x61 := by rw [ex61]; exact g_okR_g oR2 0 rfl (jv_cl 220 p60 (by decide))
            refine g_ldc cx 1048576 kc_X11_234 e_X11_lands_50 ?_
            refine g_idiv cx (by decide) e_X11_lands_52 ?_
            refine g_topi (fun x64 ex64 => ?_)
            have hk65 := k_ls hk62 ex64
            have zx64 := jv_div 0 12 ex64 p63 (jv_k (x := 1048576) 1048576 (by decide)) (by decide)
            refine g_imul cx e_X11_lands_53 ?_
            refine g_topi (fun x66 ex66 => ?_)
            have hk67 := k_ls hk65 ex66
            have zx66 := jv_mul 0 12582912 ex66 (jv_k (x := 1048576) 1048576 (by decide)) zx64.2 (by decide)
            refine g_aload_n cx 1 rfl e_X11_lands_54 ?_
            refine g_get cx cl_X11 fl_X11_231 0 (.int (F1 25)) e_X11_lands_55 rfl rfl ?_
            refine g_toi (F 25) (fF1 25 rfl) ?_
            refine g_iadd cx e_X11_lands_58 ?_
            refine g_topi (fun x68 ex68 => ?_)
            have hk69 := k_ls hk67 ex68
            have zx68 := jv_add 0 12583132 ex68 zx66.2 (g_ok_g hI 7 rfl) (by decide)
            refine g_iast cx 12 (wM X ad F1 (g_u R2 12 (upd (R2 12) (Int32.toNatClampNeg x58) x68))) e_X11_lands_59 rfl (jv_ix 220 p60 (by decide)) rfl ?_
            obtain ⟨R70, hR70⟩ : ∃ z, z = g_u R2 12 (upd (R2 12) (Int32.toNatClampNeg x58) x68) := ⟨_, rfl⟩
            rw [← hR70]
            have hk71 := k_ls hk69 hR70
            have oR70 : g_okR LA_wM R70 := by rw [hR70]; exact g_okR_p oR2 zx68.2 rfl
            have fR70 : g_fr mr_X11_lands R R70 := by rw [hR70]; exact g_fr_r fR2 rfl
            have wTR70 : WT F1 R70 := by rw [hR70]; exact WT_r wTF1R2 rfl
            have wCR70 : WC F1 R70 := by rw [hR70]; exact WC_r wCF1R2 rfl
            refine g_aload_n cx 1 rfl e_X11_lands_60 ?_
            refine g_aload_n cx 1 rfl e_X11_lands_61 ?_
            refine g_get cx cl_X11 fl_X11_238 0 (.int (F1 26)) e_X11_lands_62 rfl rfl ?_
            refine g_iconst cx 1 (by decide) e_X11_lands_65 ?_
            refine g_isub cx e_X11_lands_66 ?_
            refine g_topi (fun x72 ex72 => ?_)
            have hk73 := k_ls hk71 ex72
            have zx72 := jv_sub (-1) 219 ex72 (g_ok_g oF1 8 rfl) (jv_k (x := 1) 1 (by decide)) (by decide)
            refine g_put cx cl_X11 fl_X11_238 0 (wM X ad (upd F1 26 x72) R70) e_X11_lands_67 rfl rfl rfl rfl (Nat.le_of_ble_eq_true rfl) rfl ?_
            obtain ⟨F74, hF74⟩ : ∃ z, z = upd F1 26 x72 := ⟨_, rfl⟩
            rw [← hF74]
            have hk75 := k_ls hk73 hF74
            have oF74 : g_ok LK_wM F74 := by rw [hF74]; exact g_ok_p oF1 (show jv 0 220 _ from ⟨by have q0 := (jv_k (x := 1) 1 (by decide)).1; have q1 := (jv_k (x := 1) 1 (by decide)).2; have q2 := (jv_k (x := 11) 11 (by decide)).1; have q3 := (jv_k (x := 11) 11 (by decide)).2; have q4 := (jv_k (x := 12) 12 (by decide)).1; have q5 := (jv_k (x := 12) 12 (by decide)).2; have q6 := (g_ok_g oF1 8 rfl).1; have q7 := (g_ok_g oF1 8 rfl).2; have q8 := pr3.1; have q9 := pr3.2; have q10 := p50.1; have q11 := p50.2; have q12 := p54.1; have q13 := p54.2; have q14 := zx72.2.1; have q15 := zx72.2.2; have q16 := zx6; have q17 := (gc_ne zc9); have q18 := zx45; have q19 := (gc_eq zc48); have q20 := hlen; have q21 := (g_eq0 zx52.1); have q22 := (g_eq0 zx72.1); omega, by have q0 := (jv_k (x := 1) 1 (by decide)).1; have q1 := (jv_k (x := 1) 1 (by decide)).2; have q2 := (jv_k (x := 11) 11 (by decide)).1; have q3 := (jv_k (x := 11) 11 (by decide)).2; have q4 := (jv_k (x := 12) 12 (by decide)).1; have q5 := (jv_k (x := 12) 12 (by decide)).2; have q6 := (g_ok_g oF1 8 rfl).1; have q7 := (g_ok_g oF1 8 rfl).2; have q8 := pr3.1; have q9 := pr3.2; have q10 := p50.1; have q11 := p50.2; have q12 := p54.1; have q13 := p54.2; have q14 := zx72.2.1; have q15 := zx72.2.2; have q16 := zx6; have q17 := (gc_ne zc9); have q18 := zx45; have q19 := (gc_eq zc48); have q20 := hlen; have q21 := (g_eq0 zx52.1); have q22 := (g_eq0 zx72.1); omega⟩) rfl
            have fF74 : g_fr md_X11_lands F F74 := by rw [hF74]; exact g_fr_u fF1 rfl
            have wTF74 : WT F74 R70 := by rw [hF74]; exact WT_u wTR70 rfl
            have wCF74 : WC F74 R70 := by rw [hF74]; exact WC_u wCR70 rfl
            refine g_goto cx 0 e_X11_lands_70 (by decide) ?_
            refine g_lsub [1, 2] [(0, .ref (ad 0)), (1, .int a0)] rfl ?_
            exact ih0 F74 R70 oF74 fF74 oR70 fR70 wTF74 wCF74 ((by
        have hrc : x58.toNatClampNeg = r := g_clm (k := x58) (m := r) hfr
        have e12 : R70 12 = upd (R2 12) r x68 := (g_ru1 hR70).trans (by rw [hrc])
        have hy : g_op (R2 12 r) = (x61 : Int32).toInt / 1048576 := by rw [g_opd, ex61, hrc]
        exact ⟨L2, PS_land ps (by have q0 := (g_ok_g hI 7 rfl).1; have q1 := (g_ok_g hI 7 rfl).2; have q2 := (g_ok_g oF1 7 rfl).1; have q3 := (g_ok_g oF1 7 rfl).2; have q4 := (g_ok_g oF74 7 rfl).1; have q5 := (g_ok_g oF74 7 rfl).2; have q6 := p57.1; have q7 := p57.2; have q8 := p60.1; have q9 := p60.2; have q10 := p63.1; have q11 := p63.2; have q12 := zx64.2.1; have q13 := zx64.2.2; have q14 := zx66.2.1; have q15 := zx66.2.2; have q16 := zx68.2.1; have q17 := zx68.2.2; have q18 := hat.2; have q19 := (g_er zx58.1 (by decide : Int32.toInt 1048576 = 1048576)); have q20 := hfr; have q21 := (g_ed zx64.1 (by decide : Int32.toInt 1048576 = 1048576)); have q22 := (g_em2 zx66.1 (by decide : Int32.toInt 1048576 = 1048576)); have q23 := (g_eq0 zx68.1); have q24 := (congrArg Int32.toInt (show F1 25 = F 25 from (fF1 25 rfl))); have q25 := (congrArg Int32.toInt (show F74 25 = F 25 from ((g_pu2 hF74 rfl).trans (fF1 25 rfl)))); omega) ho (by rw [hy]; have q0 := (g_ok_g hI 7 rfl).1; have q1 := (g_ok_g hI 7 rfl).2; have q2 := (g_ok_g oF1 7 rfl).1; have q3 := (g_ok_g oF1 7 rfl).2; have q4 := (g_ok_g oF74 7 rfl).1; have q5 := (g_ok_g oF74 7 rfl).2; have q6 := p57.1; have q7 := p57.2; have q8 := p60.1; have q9 := p60.2; have q10 := p63.1; have q11 := p63.2; have q12 := zx64.2.1; have q13 := zx64.2.2; have q14 := zx66.2.1; have q15 := zx66.2.2; have q16 := zx68.2.1; have q17 := zx68.2.2; have q18 := hat.2; have q19 := (g_er zx58.1 (by decide : Int32.toInt 1048576 = 1048576)); have q20 := hfr; have q21 := (g_ed zx64.1 (by decide : Int32.toInt 1048576 = 1048576)); have q22 := (g_em2 zx66.1 (by decide : Int32.toInt 1048576 = 1048576)); have q23 := (g_eq0 zx68.1); have q24 := (congrArg Int32.toInt (show F1 25 = F 25 from (fF1 25 rfl))); have q25 := (congrArg Int32.toInt (show F74 25 = F 25 from ((g_pu2 hF74 rfl).trans (fF1 25 rfl)))); omega) (by have q0 := (g_ok_g hI 7 rfl).1; have q1 := (g_ok_g hI 7 rfl).2; have q2 := (g_ok_g oF1 7 rfl).1; have q3 := (g_ok_g oF1 7 rfl).2; have q4 := (g_ok_g oF74 7 rfl).1; have q5 := (g_ok_g oF74 7 rfl).2; have q6 := p57.1; have q7 := p57.2; have q8 := p60.1; have q9 := p60.2; have q10 := p63.1; have q11 := p63.2; have q12 := zx64.2.1; have q13 := zx64.2.2; have q14 := zx66.2.1; have q15 := zx66.2.2; have q16 := zx68.2.1; have q17 := zx68.2.2; have q18 := hat.2; have q19 := (g_er zx58.1 (by decide : Int32.toInt 1048576 = 1048576)); have q20 := hfr; have q21 := (g_ed zx64.1 (by decide : Int32.toInt 1048576 = 1048576)); have q22 := (g_em2 zx66.1 (by decide : Int32.toInt 1048576 = 1048576)); have q23 := (g_eq0 zx68.1); have q24 := (congrArg Int32.toInt (show F1 25 = F 25 from (fF1 25 rfl))); have q25 := (congrArg Int32.toInt (show F74 25 = F 25 from ((g_pu2 hF74 rfl).trans (fF1 25 rfl)))); omega) (((g_pu2 hF74 rfl).trans (fF1 25 rfl)).trans (fF1 25 rfl).symm) (by have q0 := (jv_k (x := 1) 1 (by decide)).1; have q1 := (jv_k (x := 1) 1 (by decide)).2; have q2 := (jv_k (x := 11) 11 (by decide)).1; have q3 := (jv_k (x := 11) 11 (by decide)).2; have q4 := (jv_k (x := 12) 12 (by decide)).1; have q5 := (jv_k (x := 12) 12 (by decide)).2; have q6 := (g_ok_g oF1 8 rfl).1; have q7 := (g_ok_g oF1 8 rfl).2; have q8 := (g_ok_g oF74 8 rfl).1; have q9 := (g_ok_g oF74 8 rfl).2; have q10 := pr3.1; have q11 := pr3.2; have q12 := p50.1; have q13 := p50.2; have q14 := p54.1; have q15 := p54.2; have q16 := zx72.2.1; have q17 := zx72.2.2; have q18 := zx6; have q19 := (gc_ne zc9); have q20 := zx45; have q21 := (gc_eq zc48); have q22 := hlen; have q23 := (g_eq0 zx52.1); have q24 := (g_eq0 zx72.1); have q25 := (congrArg Int32.toInt (show F74 26 = x72 from (g_pu1 hF74))); omega) (((g_pu2 hF74 rfl).trans (fF1 15 rfl)).trans (fF1 15 rfl).symm) e12 (g_ru2 hR70 rfl), cb_tl hc, bt_pop hb (by simp only; omega), fun k q => by rw [e12, g_un (by rw [bne_iff_ne]; intro e; omega)]; exact hk k q⟩)) (hk75.trans (by rw [hb0])) (Nat.lt_of_lt_of_le (show (F74 26).toInt.toNat < (F1 26).toInt.toNat from by have q0 := (jv_k (x := 1) 1 (by decide)).1; have q1 := (jv_k (x := 1) 1 (by decide)).2; have q2 := (jv_k (x := 11) 11 (by decide)).1; have q3 := (jv_k (x := 11) 11 (by decide)).2; have q4 := (jv_k (x := 12) 12 (by decide)).1; have q5 := (jv_k (x := 12) 12 (by decide)).2; have q6 := (g_ok_g oF1 8 rfl).1; have q7 := (g_ok_g oF1 8 rfl).2; have q8 := (g_ok_g oF74 8 rfl).1; have q9 := (g_ok_g oF74 8 rfl).2; have q10 := pr3.1; have q11 := pr3.2; have q12 := p50.1; have q13 := p50.2; have q14 := p54.1; have q15 := p54.2; have q16 := zx72.2.1; have q17 := zx72.2.2; have q18 := zx6; have q19 := (gc_ne zc9); have q20 := zx45; have q21 := (gc_eq zc48); have q22 := hlen; have q23 := (g_eq0 zx52.1); have q24 := (g_eq0 zx72.1); have q25 := (congrArg Int32.toInt (show F74 26 = x72 from (g_pu1 hF74))); have q26 := (congrArg Int32.toInt (show F74 26 = x72 from (g_pu1 hF74))); have q27 := (congrArg Int32.toInt (show F74 26 = x72 from (g_pu1 hF74))); omega) (Nat.le_of_lt_succ hm0))
  exact J0 8589934592 F R hI (g_fr_rf F) hA (g_fr_rf R) hWT hWC (⟨L, hps, hcb, hbt, fun _ _ => rfl⟩) hk0 (show (F 26).toInt.toNat < 8589934592 from by have q0 := (g_ok_g hI 8 rfl).1; have q1 := (g_ok_g hI 8 rfl).2; omega)
def sp_X11_jumps (F : Nat → Int32) (R : Nat → Nat → Int32) (a0 : Int32) : (Nat → Int32) × (Nat → Nat → Int32) :=
  k_lt (1048576 * a0) (fun x1 => k_lt (x1 + (F 25)) (fun x3 => k_lt (g_u R 13 (upd (R 13) (Int32.toNatClampNeg (F 26)) x3)) (fun R5 => k_lt ((F 26) + 1) (fun x7 => k_lt (upd F 26 x7) (fun F9 => k_lt2 (sp_X11_notes F9 R5 a0 0) (fun F17 R18 => k_lt ((F 15) + 1) (fun x20 => k_lt (upd F17 15 x20) (fun F22 => (F22, R18)))))))))
theorem e_X11_jumps_0 : g_dc cX11_jumps 0 (.aload_n 0) 1 1 := ⟨by decide +kernel, rfl⟩
theorem e_X11_jumps_1 : g_dc cX11_jumps 1 (.getfield 47) 3 4 := ⟨by decide +kernel, rfl⟩
theorem e_X11_jumps_4 : g_dc cX11_jumps 4 (.aload_n 0) 1 5 := ⟨by decide +kernel, rfl⟩
theorem e_X11_jumps_5 : g_dc cX11_jumps 5 (.getfield 238) 3 8 := ⟨by decide +kernel, rfl⟩
theorem e_X11_jumps_8 : g_dc cX11_jumps 8 (.ldc 234) 2 10 := ⟨by decide +kernel, rfl⟩
theorem e_X11_jumps_10 : g_dc cX11_jumps 10 (.iload_n 1) 1 11 := ⟨by decide +kernel, rfl⟩
theorem e_X11_jumps_11 : g_dc cX11_jumps 11 (.imul) 1 12 := ⟨by decide +kernel, rfl⟩
theorem e_X11_jumps_12 : g_dc cX11_jumps 12 (.aload_n 0) 1 13 := ⟨by decide +kernel, rfl⟩
theorem e_X11_jumps_13 : g_dc cX11_jumps 13 (.getfield 231) 3 16 := ⟨by decide +kernel, rfl⟩
theorem e_X11_jumps_16 : g_dc cX11_jumps 16 (.iadd) 1 17 := ⟨by decide +kernel, rfl⟩
theorem e_X11_jumps_17 : g_dc cX11_jumps 17 (.iastore) 1 18 := ⟨by decide +kernel, rfl⟩
theorem e_X11_jumps_18 : g_dc cX11_jumps 18 (.aload_n 0) 1 19 := ⟨by decide +kernel, rfl⟩
theorem e_X11_jumps_19 : g_dc cX11_jumps 19 (.aload_n 0) 1 20 := ⟨by decide +kernel, rfl⟩
theorem e_X11_jumps_20 : g_dc cX11_jumps 20 (.getfield 238) 3 23 := ⟨by decide +kernel, rfl⟩
theorem e_X11_jumps_23 : g_dc cX11_jumps 23 (.iconst 1) 1 24 := ⟨by decide +kernel, rfl⟩
theorem e_X11_jumps_24 : g_dc cX11_jumps 24 (.iadd) 1 25 := ⟨by decide +kernel, rfl⟩
theorem e_X11_jumps_25 : g_dc cX11_jumps 25 (.putfield 238) 3 28 := ⟨by decide +kernel, rfl⟩
theorem e_X11_jumps_28 : g_dc cX11_jumps 28 (.aload_n 0) 1 29 := ⟨by decide +kernel, rfl⟩
theorem e_X11_jumps_29 : g_dc cX11_jumps 29 (.iload_n 1) 1 30 := ⟨by decide +kernel, rfl⟩
theorem e_X11_jumps_30 : g_dc cX11_jumps 30 (.iconst 0) 1 31 := ⟨by decide +kernel, rfl⟩
theorem e_X11_jumps_31 : g_dc cX11_jumps 31 (.invokevirtual 244) 3 34 := ⟨by decide +kernel, rfl⟩
theorem e_X11_jumps_34 : g_dc cX11_jumps 34 (.aload_n 0) 1 35 := ⟨by decide +kernel, rfl⟩
theorem e_X11_jumps_35 : g_dc cX11_jumps 35 (.aload_n 0) 1 36 := ⟨by decide +kernel, rfl⟩
theorem e_X11_jumps_36 : g_dc cX11_jumps 36 (.getfield 190) 3 39 := ⟨by decide +kernel, rfl⟩
theorem e_X11_jumps_39 : g_dc cX11_jumps 39 (.iconst 1) 1 40 := ⟨by decide +kernel, rfl⟩
theorem e_X11_jumps_40 : g_dc cX11_jumps 40 (.iadd) 1 41 := ⟨by decide +kernel, rfl⟩
theorem e_X11_jumps_41 : g_dc cX11_jumps 41 (.putfield 190) 3 44 := ⟨by decide +kernel, rfl⟩
theorem e_X11_jumps_44 : g_dc cX11_jumps 44 (.return_) 1 45 := ⟨by decide +kernel, rfl⟩
def md_X11_jumps : List Nat := [15, 25, 26]
def mr_X11_jumps : List Nat := [12, 13]
set_option maxHeartbeats 4000000 in
set_option maxRecDepth 100000 in
theorem w_X11_jumps (l : Launch) (X : gX) (ad : Nat → Nat) (F : Nat → Int32) (R : Nat → Nat → Int32) (hI : g_ok LK_wM F) (hA : g_okR LA_wM R) (hWT : WT F R) (hWC : WC F R) (a0 : Int32) (pa0 : jv 11 12 a0) (A : Nat × Nat) (L : List (Int × Nat)) (hps : PS F R A L 1) (hlt : (F 15).toInt < (F 16).toInt) : g_Cv l X yX11_jumps cX11_jumps 2 2 0 0 [.ref (ad 0), .int a0] (wM X ad F R) (fun w => ∃ (F' : Nat → Int32) (R' : Nat → Nat → Int32), w = wM X ad F' R' ∧ g_ok LK_wM F' ∧ g_okR LA_wM R' ∧ WT F' R' ∧ WC F' R' ∧ g_fr md_X11_jumps F F' ∧ g_fr mr_X11_jumps R R' ∧ (PS F' R' A ((a0.toInt, (F 25).toInt.toNat) :: L) 0 ∧ (F' 15).toInt = (F 15).toInt + 1 ∧ (F' 25).toInt = (F 25).toInt + 1 ∧ (∀ k, k < A.1 → R' 12 k = R 12 k)) ∧ (F', R') = sp_X11_jumps F R a0) := by
  refine g_mv (by decide +kernel) (Nat.le_of_ble_eq_true rfl) (fun E cx hret => ?_)
  obtain ⟨SP, hSP⟩ : ∃ z, z = sp_X11_jumps F R a0 := ⟨_, rfl⟩
  have hk0 := hSP
  unfold sp_X11_jumps at hk0
  refine g_aload_n cx 0 rfl e_X11_jumps_0 ?_
  refine g_get cx cl_X11 fl_X11_47 0 (.ref (ad 13)) e_X11_jumps_1 rfl rfl ?_
  refine g_aload_n cx 0 rfl e_X11_jumps_4 ?_
  refine g_get cx cl_X11 fl_X11_238 0 (.int (F 26)) e_X11_jumps_5 rfl rfl ?_
  refine g_ldc cx 1048576 kc_X11_234 e_X11_jumps_8 ?_
  refine g_iload_n cx 1 rfl e_X11_jumps_10 ?_
  refine g_imul cx e_X11_jumps_11 ?_
  refine g_topi (fun x1 ex1 => ?_)
  have hk2 := k_ls hk0 ex1
  have zx1 := jv_mul 11534336 12582912 ex1 (jv_k (x := 1048576) 1048576 (by decide)) pa0 (by decide)
  refine g_aload_n cx 0 rfl e_X11_jumps_12 ?_
  refine g_get cx cl_X11 fl_X11_231 0 (.int (F 25)) e_X11_jumps_13 rfl rfl ?_
  refine g_iadd cx e_X11_jumps_16 ?_
  refine g_topi (fun x3 ex3 => ?_)
  have hk4 := k_ls hk2 ex3
  have zx3 := jv_add 11534336 12583132 ex3 zx1.2 (g_ok_g hI 7 rfl) (by decide)
  refine g_iast cx 13 (wM X ad F (g_u R 13 (upd (R 13) (Int32.toNatClampNeg (F 26)) x3))) e_X11_jumps_17 rfl (vp_in_iff.mpr ⟨by have q0 := (g_ok_g hI 1 rfl).1; have q1 := (g_ok_g hI 1 rfl).2; have q2 := (g_ok_g hI 2 rfl).1; have q3 := (g_ok_g hI 2 rfl).2; have q4 := (g_ok_g hI 7 rfl).1; have q5 := (g_ok_g hI 7 rfl).2; have q6 := (g_ok_g hI 8 rfl).1; have q7 := (g_ok_g hI 8 rfl).2; have q8 := pa0.1; have q9 := pa0.2; have q10 := zx1.2.1; have q11 := zx1.2.2; have q12 := zx3.2.1; have q13 := zx3.2.2; have q14 := hlt; have q15 := hps.2.2.2.2.2; have q16 := hps.2.2.1; have q17 := hps.2.2.2.2.1; have q18 := (cg_0 L); have q19 := (g_em2 zx1.1 (by decide : Int32.toInt 1048576 = 1048576)); have q20 := (g_eq0 zx3.1); omega, by have q0 := (g_ok_g hI 1 rfl).1; have q1 := (g_ok_g hI 1 rfl).2; have q2 := (g_ok_g hI 2 rfl).1; have q3 := (g_ok_g hI 2 rfl).2; have q4 := (g_ok_g hI 7 rfl).1; have q5 := (g_ok_g hI 7 rfl).2; have q6 := (g_ok_g hI 8 rfl).1; have q7 := (g_ok_g hI 8 rfl).2; have q8 := pa0.1; have q9 := pa0.2; have q10 := zx1.2.1; have q11 := zx1.2.2; have q12 := zx3.2.1; have q13 := zx3.2.2; have q14 := hlt; have q15 := hps.2.2.2.2.2; have q16 := hps.2.2.1; have q17 := hps.2.2.2.2.1; have q18 := (cg_0 L); have q19 := (g_em2 zx1.1 (by decide : Int32.toInt 1048576 = 1048576)); have q20 := (g_eq0 zx3.1); omega⟩) rfl ?_
  obtain ⟨R5, hR5⟩ : ∃ z, z = g_u R 13 (upd (R 13) (Int32.toNatClampNeg (F 26)) x3) := ⟨_, rfl⟩
  rw [← hR5]
  have hk6 := k_ls hk4 hR5
  have oR5 : g_okR LA_wM R5 := by rw [hR5]; exact g_okR_p hA zx3.2 rfl
  have fR5 : g_fr mr_X11_jumps R R5 := by rw [hR5]; exact g_fr_r (g_fr_rf R) rfl
  have wTR5 : WT F R5 := by rw [hR5]; exact WT_r hWT rfl
  have wCR5 : WC F R5 := by rw [hR5]; exact WC_r hWC rfl
  refine g_aload_n cx 0 rfl e_X11_jumps_18 ?_
  refine g_aload_n cx 0 rfl e_X11_jumps_19 ?_
  refine g_get cx cl_X11 fl_X11_238 0 (.int (F 26)) e_X11_jumps_20 rfl rfl ?_
  refine g_iconst cx 1 (by decide) e_X11_jumps_23 ?_
  refine g_iadd cx e_X11_jumps_24 ?_
  refine g_topi (fun x7 ex7 => ?_)
  have hk8 := k_ls hk6 ex7
  have zx7 := jv_add 1 221 ex7 (g_ok_g hI 8 rfl) (jv_k (x := 1) 1 (by decide)) (by decide)
  refine g_put cx cl_X11 fl_X11_238 0 (wM X ad (upd F 26 x7) R5) e_X11_jumps_25 rfl rfl rfl rfl (Nat.le_of_ble_eq_true rfl) rfl ?_
  obtain ⟨F9, hF9⟩ : ∃ z, z = upd F 26 x7 := ⟨_, rfl⟩
  rw [← hF9]
  have hk10 := k_ls hk8 hF9
  have oF9 : g_ok LK_wM F9 := by rw [hF9]; exact g_ok_p hI (show jv 0 220 _ from ⟨by have q0 := (jv_k (x := 1) 1 (by decide)).1; have q1 := (jv_k (x := 1) 1 (by decide)).2; have q2 := (g_ok_g hI 1 rfl).1; have q3 := (g_ok_g hI 1 rfl).2; have q4 := (g_ok_g hI 2 rfl).1; have q5 := (g_ok_g hI 2 rfl).2; have q6 := (g_ok_g hI 7 rfl).1; have q7 := (g_ok_g hI 7 rfl).2; have q8 := (g_ok_g hI 8 rfl).1; have q9 := (g_ok_g hI 8 rfl).2; have q10 := pa0.1; have q11 := pa0.2; have q12 := zx1.2.1; have q13 := zx1.2.2; have q14 := zx3.2.1; have q15 := zx3.2.2; have q16 := zx7.2.1; have q17 := zx7.2.2; have q18 := hlt; have q19 := hps.2.2.2.2.2; have q20 := hps.2.2.1; have q21 := hps.2.2.2.2.1; have q22 := (cg_0 L); have q23 := (g_em2 zx1.1 (by decide : Int32.toInt 1048576 = 1048576)); have q24 := (g_eq0 zx3.1); have q25 := (g_eq0 zx7.1); omega, by have q0 := (jv_k (x := 1) 1 (by decide)).1; have q1 := (jv_k (x := 1) 1 (by decide)).2; have q2 := (g_ok_g hI 1 rfl).1; have q3 := (g_ok_g hI 1 rfl).2; have q4 := (g_ok_g hI 2 rfl).1; have q5 := (g_ok_g hI 2 rfl).2; have q6 := (g_ok_g hI 7 rfl).1; have q7 := (g_ok_g hI 7 rfl).2; have q8 := (g_ok_g hI 8 rfl).1; have q9 := (g_ok_g hI 8 rfl).2; have q10 := pa0.1; have q11 := pa0.2; have q12 := zx1.2.1; have q13 := zx1.2.2; have q14 := zx3.2.1; have q15 := zx3.2.2; have q16 := zx7.2.1; have q17 := zx7.2.2; have q18 := hlt; have q19 := hps.2.2.2.2.2; have q20 := hps.2.2.1; have q21 := hps.2.2.2.2.1; have q22 := (cg_0 L); have q23 := (g_em2 zx1.1 (by decide : Int32.toInt 1048576 = 1048576)); have q24 := (g_eq0 zx3.1); have q25 := (g_eq0 zx7.1); omega⟩) rfl
  have fF9 : g_fr md_X11_jumps F F9 := by rw [hF9]; exact g_fr_u (g_fr_rf F) rfl
  have wTF9 : WT F9 R5 := by rw [hF9]; exact WT_u wTR5 rfl
  have wCF9 : WC F9 R5 := by rw [hF9]; exact WC_u wCR5 rfl
  refine g_aload_n cx 0 rfl e_X11_jumps_28 ?_
  refine g_iload_n cx 1 rfl e_X11_jumps_29 ?_
  refine g_iconst cx 0 (by decide) e_X11_jumps_30 ?_
  refine g_cVvW cx [.int a0, .int 0] [] (w_X11_notes l X ad F9 R5 oF9 oR5 wTF9 wCF9 a0 0 (jv_w pa0 (by decide)) (jv_w (jv_k (x := 0) 0 (by decide)) (by decide)) (by have q0 := (jv_k (x := 1) 1 (by decide)).1; have q1 := (jv_k (x := 1) 1 (by decide)).2; have q2 := (g_ok_g hI 1 rfl).1; have q3 := (g_ok_g hI 1 rfl).2; have q4 := (g_ok_g hI 2 rfl).1; have q5 := (g_ok_g hI 2 rfl).2; have q6 := (g_ok_g hI 7 rfl).1; have q7 := (g_ok_g hI 7 rfl).2; have q8 := (g_ok_g hI 8 rfl).1; have q9 := (g_ok_g hI 8 rfl).2; have q10 := (g_ok_g oF9 7 rfl).1; have q11 := (g_ok_g oF9 7 rfl).2; have q12 := pa0.1; have q13 := pa0.2; have q14 := zx1.2.1; have q15 := zx1.2.2; have q16 := zx3.2.1; have q17 := zx3.2.2; have q18 := zx7.2.1; have q19 := zx7.2.2; have q20 := hlt; have q21 := hps.2.2.2.2.2; have q22 := hps.2.2.1; have q23 := hps.2.2.2.2.1; have q24 := (cg_0 L); have q25 := (g_em2 zx1.1 (by decide : Int32.toInt 1048576 = 1048576)); have q26 := (g_eq0 zx3.1); have q27 := (g_eq0 zx7.1); have q28 := (congrArg Int32.toInt (show F9 25 = F 25 from (g_pu2 hF9 rfl))); omega)) ml_X11_244 yV_X11_notes e_X11_jumps_31 (by unfold g_rr; decide) (by decide) 0 rfl rfl rfl (Nat.le_of_ble_eq_true rfl) (fun w12 h13 => ?_)
  obtain ⟨F17, R18, rfl, oF17, oR18, wTF17, wCF17, cF17, cR18, zx14, zx15, hx16⟩ := h13
  have hk19 := k_ls2 hk10 hx16
  have fF17 : g_fr md_X11_jumps F F17 := g_fr_c fF9 cF17 rfl
  have fR18 : g_fr mr_X11_jumps R R18 := g_fr_c fR5 cR18 rfl
  refine g_aload_n cx 0 rfl e_X11_jumps_34 ?_
  refine g_aload_n cx 0 rfl e_X11_jumps_35 ?_
  refine g_get cx cl_X11 fl_X11_190 0 (.int (F17 15)) e_X11_jumps_36 rfl rfl ?_
  refine g_toi (F 15) ((cF17 15 rfl).trans (g_pu2 hF9 rfl)) ?_
  refine g_iconst cx 1 (by decide) e_X11_jumps_39 ?_
  refine g_iadd cx e_X11_jumps_40 ?_
  refine g_topi (fun x20 ex20 => ?_)
  have hk21 := k_ls hk19 ex20
  have zx20 := jv_add 1 221 ex20 (g_ok_g hI 1 rfl) (jv_k (x := 1) 1 (by decide)) (by decide)
  refine g_put cx cl_X11 fl_X11_190 0 (wM X ad (upd F17 15 x20) R18) e_X11_jumps_41 rfl rfl rfl rfl (Nat.le_of_ble_eq_true rfl) rfl ?_
  obtain ⟨F22, hF22⟩ : ∃ z, z = upd F17 15 x20 := ⟨_, rfl⟩
  rw [← hF22]
  have hk23 := k_ls hk21 hF22
  have oF22 : g_ok LK_wM F22 := by rw [hF22]; exact g_ok_p oF17 (show jv 0 220 _ from ⟨by have q0 := (jv_k (x := 1) 1 (by decide)).1; have q1 := (jv_k (x := 1) 1 (by decide)).2; have q2 := (g_ok_g hI 1 rfl).1; have q3 := (g_ok_g hI 1 rfl).2; have q4 := (g_ok_g hI 2 rfl).1; have q5 := (g_ok_g hI 2 rfl).2; have q6 := (g_ok_g hI 7 rfl).1; have q7 := (g_ok_g hI 7 rfl).2; have q8 := (g_ok_g hI 8 rfl).1; have q9 := (g_ok_g hI 8 rfl).2; have q10 := (g_ok_g oF17 7 rfl).1; have q11 := (g_ok_g oF17 7 rfl).2; have q12 := (g_ok_g oF9 7 rfl).1; have q13 := (g_ok_g oF9 7 rfl).2; have q14 := pa0.1; have q15 := pa0.2; have q16 := zx1.2.1; have q17 := zx1.2.2; have q18 := zx20.2.1; have q19 := zx20.2.2; have q20 := zx3.2.1; have q21 := zx3.2.2; have q22 := zx7.2.1; have q23 := zx7.2.2; have q24 := hlt; have q25 := hps.2.2.2.2.2; have q26 := hps.2.2.1; have q27 := hps.2.2.2.2.1; have q28 := (cg_0 L); have q29 := (g_em2 zx1.1 (by decide : Int32.toInt 1048576 = 1048576)); have q30 := (g_eq0 zx3.1); have q31 := (g_eq0 zx7.1); have q32 := (congrArg Int32.toInt (show F9 25 = F 25 from (g_pu2 hF9 rfl))); have q33 := zx14; have q34 := (congrArg Int32.toInt (show F9 25 = F 25 from (g_pu2 hF9 rfl))); have q35 := (g_eq0 zx20.1); omega, by have q0 := (jv_k (x := 1) 1 (by decide)).1; have q1 := (jv_k (x := 1) 1 (by decide)).2; have q2 := (g_ok_g hI 1 rfl).1; have q3 := (g_ok_g hI 1 rfl).2; have q4 := (g_ok_g hI 2 rfl).1; have q5 := (g_ok_g hI 2 rfl).2; have q6 := (g_ok_g hI 7 rfl).1; have q7 := (g_ok_g hI 7 rfl).2; have q8 := (g_ok_g hI 8 rfl).1; have q9 := (g_ok_g hI 8 rfl).2; have q10 := (g_ok_g oF17 7 rfl).1; have q11 := (g_ok_g oF17 7 rfl).2; have q12 := (g_ok_g oF9 7 rfl).1; have q13 := (g_ok_g oF9 7 rfl).2; have q14 := pa0.1; have q15 := pa0.2; have q16 := zx1.2.1; have q17 := zx1.2.2; have q18 := zx20.2.1; have q19 := zx20.2.2; have q20 := zx3.2.1; have q21 := zx3.2.2; have q22 := zx7.2.1; have q23 := zx7.2.2; have q24 := hlt; have q25 := hps.2.2.2.2.2; have q26 := hps.2.2.1; have q27 := hps.2.2.2.2.1; have q28 := (cg_0 L); have q29 := (g_em2 zx1.1 (by decide : Int32.toInt 1048576 = 1048576)); have q30 := (g_eq0 zx3.1); have q31 := (g_eq0 zx7.1); have q32 := (congrArg Int32.toInt (show F9 25 = F 25 from (g_pu2 hF9 rfl))); have q33 := zx14; have q34 := (congrArg Int32.toInt (show F9 25 = F 25 from (g_pu2 hF9 rfl))); have q35 := (g_eq0 zx20.1); omega⟩) rfl
  have fF22 : g_fr md_X11_jumps F F22 := by rw [hF22]; exact g_fr_u fF17 rfl
  have wTF22 : WT F22 R18 := by rw [hF22]; exact WT_u wTF17 rfl
  have wCF22 : WC F22 R18 := by rw [hF22]; exact WC_u wCF17 rfl
  exact hret e_X11_jumps_44 (Nat.le_of_ble_eq_true rfl) (Nat.le_of_ble_eq_true rfl) ⟨F22, R18, rfl, oF22, oR18, wTF22, wCF22, fF22, fR18, (by
      obtain ⟨z, hz, e12⟩ := zx15
      have z0 : (0 : Int32).toInt = 0 := rfl
      have e12 : R18 12 = upd (R 12) (F 25).toInt.toNat z := (e12.trans (by rw [show R5 12 = R 12 from (g_ru2 hR5 rfl), show F9 25 = F 25 from (g_pu2 hF9 rfl)]))
      exact ⟨PS_jump (v := x3) hps ⟨by have q0 := (jv_k (x := 1) 1 (by decide)).1; have q1 := (jv_k (x := 1) 1 (by decide)).2; have q2 := (g_ok_g hI 1 rfl).1; have q3 := (g_ok_g hI 1 rfl).2; have q4 := (g_ok_g hI 2 rfl).1; have q5 := (g_ok_g hI 2 rfl).2; have q6 := (g_ok_g hI 7 rfl).1; have q7 := (g_ok_g hI 7 rfl).2; have q8 := (g_ok_g hI 8 rfl).1; have q9 := (g_ok_g hI 8 rfl).2; have q10 := (g_ok_g oF17 7 rfl).1; have q11 := (g_ok_g oF17 7 rfl).2; have q12 := (g_ok_g oF9 7 rfl).1; have q13 := (g_ok_g oF9 7 rfl).2; have q14 := pa0.1; have q15 := pa0.2; have q16 := zx1.2.1; have q17 := zx1.2.2; have q18 := zx20.2.1; have q19 := zx20.2.2; have q20 := zx3.2.1; have q21 := zx3.2.2; have q22 := zx7.2.1; have q23 := zx7.2.2; have q24 := hlt; have q25 := hps.2.2.2.2.2; have q26 := hps.2.2.1; have q27 := hps.2.2.2.2.1; have q28 := (cg_0 L); have q29 := (g_em2 zx1.1 (by decide : Int32.toInt 1048576 = 1048576)); have q30 := (g_eq0 zx3.1); have q31 := (g_eq0 zx7.1); have q32 := (congrArg Int32.toInt (show F9 25 = F 25 from (g_pu2 hF9 rfl))); have q33 := zx14; have q34 := (congrArg Int32.toInt (show F9 25 = F 25 from (g_pu2 hF9 rfl))); have q35 := (g_eq0 zx20.1); omega, by have q0 := (jv_k (x := 1) 1 (by decide)).1; have q1 := (jv_k (x := 1) 1 (by decide)).2; have q2 := (g_ok_g hI 1 rfl).1; have q3 := (g_ok_g hI 1 rfl).2; have q4 := (g_ok_g hI 2 rfl).1; have q5 := (g_ok_g hI 2 rfl).2; have q6 := (g_ok_g hI 7 rfl).1; have q7 := (g_ok_g hI 7 rfl).2; have q8 := (g_ok_g hI 8 rfl).1; have q9 := (g_ok_g hI 8 rfl).2; have q10 := (g_ok_g oF17 7 rfl).1; have q11 := (g_ok_g oF17 7 rfl).2; have q12 := (g_ok_g oF9 7 rfl).1; have q13 := (g_ok_g oF9 7 rfl).2; have q14 := pa0.1; have q15 := pa0.2; have q16 := zx1.2.1; have q17 := zx1.2.2; have q18 := zx20.2.1; have q19 := zx20.2.2; have q20 := zx3.2.1; have q21 := zx3.2.2; have q22 := zx7.2.1; have q23 := zx7.2.2; have q24 := hlt; have q25 := hps.2.2.2.2.2; have q26 := hps.2.2.1; have q27 := hps.2.2.2.2.1; have q28 := (cg_0 L); have q29 := (g_em2 zx1.1 (by decide : Int32.toInt 1048576 = 1048576)); have q30 := (g_eq0 zx3.1); have q31 := (g_eq0 zx7.1); have q32 := (congrArg Int32.toInt (show F9 25 = F 25 from (g_pu2 hF9 rfl))); have q33 := zx14; have q34 := (congrArg Int32.toInt (show F9 25 = F 25 from (g_pu2 hF9 rfl))); have q35 := (g_eq0 zx20.1); omega⟩ (by have q0 := (jv_k (x := 1) 1 (by decide)).1; have q1 := (jv_k (x := 1) 1 (by decide)).2; have q2 := (g_ok_g hI 1 rfl).1; have q3 := (g_ok_g hI 1 rfl).2; have q4 := (g_ok_g hI 2 rfl).1; have q5 := (g_ok_g hI 2 rfl).2; have q6 := (g_ok_g hI 7 rfl).1; have q7 := (g_ok_g hI 7 rfl).2; have q8 := (g_ok_g hI 8 rfl).1; have q9 := (g_ok_g hI 8 rfl).2; have q10 := (g_ok_g oF17 7 rfl).1; have q11 := (g_ok_g oF17 7 rfl).2; have q12 := (g_ok_g oF9 7 rfl).1; have q13 := (g_ok_g oF9 7 rfl).2; have q14 := pa0.1; have q15 := pa0.2; have q16 := zx1.2.1; have q17 := zx1.2.2; have q18 := zx20.2.1; have q19 := zx20.2.2; have q20 := zx3.2.1; have q21 := zx3.2.2; have q22 := zx7.2.1; have q23 := zx7.2.2; have q24 := hlt; have q25 := hps.2.2.2.2.2; have q26 := hps.2.2.1; have q27 := hps.2.2.2.2.1; have q28 := (cg_0 L); have q29 := (g_em2 zx1.1 (by decide : Int32.toInt 1048576 = 1048576)); have q30 := (g_eq0 zx3.1); have q31 := (g_eq0 zx7.1); have q32 := (congrArg Int32.toInt (show F9 25 = F 25 from (g_pu2 hF9 rfl))); have q33 := zx14; have q34 := (congrArg Int32.toInt (show F9 25 = F 25 from (g_pu2 hF9 rfl))); have q35 := (g_eq0 zx20.1); omega) (by have q0 := (jv_k (x := 1) 1 (by decide)).1; have q1 := (jv_k (x := 1) 1 (by decide)).2; have q2 := (g_ok_g hI 1 rfl).1; have q3 := (g_ok_g hI 1 rfl).2; have q4 := (g_ok_g hI 2 rfl).1; have q5 := (g_ok_g hI 2 rfl).2; have q6 := (g_ok_g hI 7 rfl).1; have q7 := (g_ok_g hI 7 rfl).2; have q8 := (g_ok_g hI 8 rfl).1; have q9 := (g_ok_g hI 8 rfl).2; have q10 := (g_ok_g oF17 7 rfl).1; have q11 := (g_ok_g oF17 7 rfl).2; have q12 := (g_ok_g oF9 7 rfl).1; have q13 := (g_ok_g oF9 7 rfl).2; have q14 := pa0.1; have q15 := pa0.2; have q16 := zx1.2.1; have q17 := zx1.2.2; have q18 := zx20.2.1; have q19 := zx20.2.2; have q20 := zx3.2.1; have q21 := zx3.2.2; have q22 := zx7.2.1; have q23 := zx7.2.2; have q24 := hlt; have q25 := hps.2.2.2.2.2; have q26 := hps.2.2.1; have q27 := hps.2.2.2.2.1; have q28 := (cg_0 L); have q29 := (g_em2 zx1.1 (by decide : Int32.toInt 1048576 = 1048576)); have q30 := (g_eq0 zx3.1); have q31 := (g_eq0 zx7.1); have q32 := (congrArg Int32.toInt (show F9 25 = F 25 from (g_pu2 hF9 rfl))); have q33 := zx14; have q34 := (congrArg Int32.toInt (show F9 25 = F 25 from (g_pu2 hF9 rfl))); have q35 := (g_eq0 zx20.1); omega) (by rw [hz]; omega) (by have q0 := (jv_k (x := 1) 1 (by decide)).1; have q1 := (jv_k (x := 1) 1 (by decide)).2; have q2 := (g_ok_g hI 1 rfl).1; have q3 := (g_ok_g hI 1 rfl).2; have q4 := (g_ok_g hI 2 rfl).1; have q5 := (g_ok_g hI 2 rfl).2; have q6 := (g_ok_g hI 7 rfl).1; have q7 := (g_ok_g hI 7 rfl).2; have q8 := (g_ok_g hI 8 rfl).1; have q9 := (g_ok_g hI 8 rfl).2; have q10 := (g_ok_g oF17 7 rfl).1; have q11 := (g_ok_g oF17 7 rfl).2; have q12 := (g_ok_g oF22 7 rfl).1; have q13 := (g_ok_g oF22 7 rfl).2; have q14 := (g_ok_g oF9 7 rfl).1; have q15 := (g_ok_g oF9 7 rfl).2; have q16 := pa0.1; have q17 := pa0.2; have q18 := zx1.2.1; have q19 := zx1.2.2; have q20 := zx20.2.1; have q21 := zx20.2.2; have q22 := zx3.2.1; have q23 := zx3.2.2; have q24 := zx7.2.1; have q25 := zx7.2.2; have q26 := hlt; have q27 := hps.2.2.2.2.2; have q28 := hps.2.2.1; have q29 := hps.2.2.2.2.1; have q30 := (cg_0 L); have q31 := (g_em2 zx1.1 (by decide : Int32.toInt 1048576 = 1048576)); have q32 := (g_eq0 zx3.1); have q33 := (g_eq0 zx7.1); have q34 := (congrArg Int32.toInt (show F9 25 = F 25 from (g_pu2 hF9 rfl))); have q35 := zx14; have q36 := (congrArg Int32.toInt (show F9 25 = F 25 from (g_pu2 hF9 rfl))); have q37 := (g_eq0 zx20.1); have q38 := (congrArg Int32.toInt (show F22 25 = F17 25 from (g_pu2 hF22 rfl))); omega) (by have q0 := (jv_k (x := 1) 1 (by decide)).1; have q1 := (jv_k (x := 1) 1 (by decide)).2; have q2 := (g_ok_g hI 1 rfl).1; have q3 := (g_ok_g hI 1 rfl).2; have q4 := (g_ok_g hI 2 rfl).1; have q5 := (g_ok_g hI 2 rfl).2; have q6 := (g_ok_g hI 7 rfl).1; have q7 := (g_ok_g hI 7 rfl).2; have q8 := (g_ok_g hI 8 rfl).1; have q9 := (g_ok_g hI 8 rfl).2; have q10 := (g_ok_g oF17 7 rfl).1; have q11 := (g_ok_g oF17 7 rfl).2; have q12 := (g_ok_g oF22 7 rfl).1; have q13 := (g_ok_g oF22 7 rfl).2; have q14 := (g_ok_g oF22 8 rfl).1; have q15 := (g_ok_g oF22 8 rfl).2; have q16 := (g_ok_g oF9 7 rfl).1; have q17 := (g_ok_g oF9 7 rfl).2; have q18 := pa0.1; have q19 := pa0.2; have q20 := zx1.2.1; have q21 := zx1.2.2; have q22 := zx20.2.1; have q23 := zx20.2.2; have q24 := zx3.2.1; have q25 := zx3.2.2; have q26 := zx7.2.1; have q27 := zx7.2.2; have q28 := hlt; have q29 := hps.2.2.2.2.2; have q30 := hps.2.2.1; have q31 := hps.2.2.2.2.1; have q32 := (cg_0 L); have q33 := (g_em2 zx1.1 (by decide : Int32.toInt 1048576 = 1048576)); have q34 := (g_eq0 zx3.1); have q35 := (g_eq0 zx7.1); have q36 := (congrArg Int32.toInt (show F9 25 = F 25 from (g_pu2 hF9 rfl))); have q37 := zx14; have q38 := (congrArg Int32.toInt (show F9 25 = F 25 from (g_pu2 hF9 rfl))); have q39 := (g_eq0 zx20.1); have q40 := (congrArg Int32.toInt (show F22 25 = F17 25 from (g_pu2 hF22 rfl))); have q41 := (congrArg Int32.toInt (show F22 26 = x7 from (((g_pu2 hF22 rfl).trans (cF17 26 rfl)).trans (g_pu1 hF9)))); omega) (by have q0 := (jv_k (x := 1) 1 (by decide)).1; have q1 := (jv_k (x := 1) 1 (by decide)).2; have q2 := (g_ok_g hI 1 rfl).1; have q3 := (g_ok_g hI 1 rfl).2; have q4 := (g_ok_g hI 2 rfl).1; have q5 := (g_ok_g hI 2 rfl).2; have q6 := (g_ok_g hI 7 rfl).1; have q7 := (g_ok_g hI 7 rfl).2; have q8 := (g_ok_g hI 8 rfl).1; have q9 := (g_ok_g hI 8 rfl).2; have q10 := (g_ok_g oF17 7 rfl).1; have q11 := (g_ok_g oF17 7 rfl).2; have q12 := (g_ok_g oF22 1 rfl).1; have q13 := (g_ok_g oF22 1 rfl).2; have q14 := (g_ok_g oF22 7 rfl).1; have q15 := (g_ok_g oF22 7 rfl).2; have q16 := (g_ok_g oF22 8 rfl).1; have q17 := (g_ok_g oF22 8 rfl).2; have q18 := (g_ok_g oF9 7 rfl).1; have q19 := (g_ok_g oF9 7 rfl).2; have q20 := pa0.1; have q21 := pa0.2; have q22 := zx1.2.1; have q23 := zx1.2.2; have q24 := zx20.2.1; have q25 := zx20.2.2; have q26 := zx3.2.1; have q27 := zx3.2.2; have q28 := zx7.2.1; have q29 := zx7.2.2; have q30 := hlt; have q31 := hps.2.2.2.2.2; have q32 := hps.2.2.1; have q33 := hps.2.2.2.2.1; have q34 := (cg_0 L); have q35 := (g_em2 zx1.1 (by decide : Int32.toInt 1048576 = 1048576)); have q36 := (g_eq0 zx3.1); have q37 := (g_eq0 zx7.1); have q38 := (congrArg Int32.toInt (show F9 25 = F 25 from (g_pu2 hF9 rfl))); have q39 := zx14; have q40 := (congrArg Int32.toInt (show F9 25 = F 25 from (g_pu2 hF9 rfl))); have q41 := (g_eq0 zx20.1); have q42 := (congrArg Int32.toInt (show F22 25 = F17 25 from (g_pu2 hF22 rfl))); have q43 := (congrArg Int32.toInt (show F22 26 = x7 from (((g_pu2 hF22 rfl).trans (cF17 26 rfl)).trans (g_pu1 hF9)))); have q44 := (congrArg Int32.toInt (show F22 15 = x20 from (g_pu1 hF22))); omega) e12 ((cR18 13 rfl).trans (g_ru1 hR5)), by have q0 := (jv_k (x := 1) 1 (by decide)).1; have q1 := (jv_k (x := 1) 1 (by decide)).2; have q2 := (g_ok_g hI 1 rfl).1; have q3 := (g_ok_g hI 1 rfl).2; have q4 := (g_ok_g hI 2 rfl).1; have q5 := (g_ok_g hI 2 rfl).2; have q6 := (g_ok_g hI 7 rfl).1; have q7 := (g_ok_g hI 7 rfl).2; have q8 := (g_ok_g hI 8 rfl).1; have q9 := (g_ok_g hI 8 rfl).2; have q10 := (g_ok_g oF17 7 rfl).1; have q11 := (g_ok_g oF17 7 rfl).2; have q12 := (g_ok_g oF22 1 rfl).1; have q13 := (g_ok_g oF22 1 rfl).2; have q14 := (g_ok_g oF22 7 rfl).1; have q15 := (g_ok_g oF22 7 rfl).2; have q16 := (g_ok_g oF22 8 rfl).1; have q17 := (g_ok_g oF22 8 rfl).2; have q18 := (g_ok_g oF9 7 rfl).1; have q19 := (g_ok_g oF9 7 rfl).2; have q20 := pa0.1; have q21 := pa0.2; have q22 := zx1.2.1; have q23 := zx1.2.2; have q24 := zx20.2.1; have q25 := zx20.2.2; have q26 := zx3.2.1; have q27 := zx3.2.2; have q28 := zx7.2.1; have q29 := zx7.2.2; have q30 := hlt; have q31 := hps.2.2.2.2.2; have q32 := hps.2.2.1; have q33 := hps.2.2.2.2.1; have q34 := (cg_0 L); have q35 := (g_em2 zx1.1 (by decide : Int32.toInt 1048576 = 1048576)); have q36 := (g_eq0 zx3.1); have q37 := (g_eq0 zx7.1); have q38 := (congrArg Int32.toInt (show F9 25 = F 25 from (g_pu2 hF9 rfl))); have q39 := zx14; have q40 := (congrArg Int32.toInt (show F9 25 = F 25 from (g_pu2 hF9 rfl))); have q41 := (g_eq0 zx20.1); have q42 := (congrArg Int32.toInt (show F22 25 = F17 25 from (g_pu2 hF22 rfl))); have q43 := (congrArg Int32.toInt (show F22 26 = x7 from (((g_pu2 hF22 rfl).trans (cF17 26 rfl)).trans (g_pu1 hF9)))); have q44 := (congrArg Int32.toInt (show F22 15 = x20 from (g_pu1 hF22))); have q45 := (congrArg Int32.toInt (show F22 15 = x20 from (g_pu1 hF22))); omega, by have q0 := (jv_k (x := 1) 1 (by decide)).1; have q1 := (jv_k (x := 1) 1 (by decide)).2; have q2 := (g_ok_g hI 1 rfl).1; have q3 := (g_ok_g hI 1 rfl).2; have q4 := (g_ok_g hI 2 rfl).1; have q5 := (g_ok_g hI 2 rfl).2; have q6 := (g_ok_g hI 7 rfl).1; have q7 := (g_ok_g hI 7 rfl).2; have q8 := (g_ok_g hI 8 rfl).1; have q9 := (g_ok_g hI 8 rfl).2; have q10 := (g_ok_g oF17 7 rfl).1; have q11 := (g_ok_g oF17 7 rfl).2; have q12 := (g_ok_g oF22 1 rfl).1; have q13 := (g_ok_g oF22 1 rfl).2; have q14 := (g_ok_g oF22 7 rfl).1; have q15 := (g_ok_g oF22 7 rfl).2; have q16 := (g_ok_g oF22 8 rfl).1; have q17 := (g_ok_g oF22 8 rfl).2; have q18 := (g_ok_g oF9 7 rfl).1; have q19 := (g_ok_g oF9 7 rfl).2; have q20 := pa0.1; have q21 := pa0.2; have q22 := zx1.2.1; have q23 := zx1.2.2; have q24 := zx20.2.1; have q25 := zx20.2.2; have q26 := zx3.2.1; have q27 := zx3.2.2; have q28 := zx7.2.1; have q29 := zx7.2.2; have q30 := hlt; have q31 := hps.2.2.2.2.2; have q32 := hps.2.2.1; have q33 := hps.2.2.2.2.1; have q34 := (cg_0 L); have q35 := (g_em2 zx1.1 (by decide : Int32.toInt 1048576 = 1048576)); have q36 := (g_eq0 zx3.1); have q37 := (g_eq0 zx7.1); have q38 := (congrArg Int32.toInt (show F9 25 = F 25 from (g_pu2 hF9 rfl))); have q39 := zx14; have q40 := (congrArg Int32.toInt (show F9 25 = F 25 from (g_pu2 hF9 rfl))); have q41 := (g_eq0 zx20.1); have q42 := (congrArg Int32.toInt (show F22 25 = F17 25 from (g_pu2 hF22 rfl))); have q43 := (congrArg Int32.toInt (show F22 26 = x7 from (((g_pu2 hF22 rfl).trans (cF17 26 rfl)).trans (g_pu1 hF9)))); have q44 := (congrArg Int32.toInt (show F22 15 = x20 from (g_pu1 hF22))); have q45 := (congrArg Int32.toInt (show F22 15 = x20 from (g_pu1 hF22))); have q46 := (congrArg Int32.toInt (show F22 25 = F17 25 from (g_pu2 hF22 rfl))); omega, fun k q => by rw [e12, g_un (by rw [bne_iff_ne]; intro e; have := hps.1.1; omega)]⟩), (hk23.symm.trans hSP)⟩
def K_X11_readsCompared_52 (F6 : Nat → Int32) (R7 : Nat → Nat → Int32) (y19 : Int32) : Int32 × (Nat → Int32) × (Nat → Nat → Int32) :=
  if y19 = (-1) then k_lt3 (sp_X11_wrongAt F6 R7 1 (F6 15)) (fun r61 F65 R66 => (r61, F65, R66)) else k_lt ((F6 15) + 1) (fun x23 => k_lt (upd F6 15 x23) (fun F25 => k_lt3 (sp_X11_readsSum F25 R7) (fun r27 F32 R33 => if r27 = 0 then (0, F32, R33) else k_lt2 (sp_X11_notes F32 R33 y19 0) (fun F45 R46 => k_lt2 (sp_X11_endsPiece F45 R46) (fun F53 R54 => (1, F53, R54))))))
def sp_X11_readsCompared (F : Nat → Int32) (R : Nat → Nat → Int32) : Int32 × (Nat → Int32) × (Nat → Nat → Int32) :=
  k_lt3 (sp_X11_readsSum F R) (fun r1 F6 R7 => if r1 = 0 then (0, F6, R7) else k_lt (sp_X11_here F6 R7) (fun r13 => if r13 = 60 then K_X11_readsCompared_52 F6 R7 7 else k_lt (sp_X11_here F6 R7) (fun r70 => if r70 = 62 then K_X11_readsCompared_52 F6 R7 8 else k_lt (sp_X11_here F6 R7) (fun r78 => if r78 = 61 then K_X11_readsCompared_52 F6 R7 9 else K_X11_readsCompared_52 F6 R7 (-1)))))
theorem e_X11_readsCompared_0 : g_dc cX11_readsCompared 0 (.aload_n 0) 1 1 := ⟨by decide +kernel, rfl⟩
theorem e_X11_readsCompared_1 : g_dc cX11_readsCompared 1 (.invokevirtual 271) 3 4 := ⟨by decide +kernel, rfl⟩
theorem e_X11_readsCompared_4 : g_dc cX11_readsCompared 4 (.ifCond .ne 5) 3 7 := ⟨by decide +kernel, rfl⟩
theorem e_X11_readsCompared_7 : g_dc cX11_readsCompared 7 (.iconst 0) 1 8 := ⟨by decide +kernel, rfl⟩
theorem e_X11_readsCompared_8 : g_dc cX11_readsCompared 8 (.ireturn) 1 9 := ⟨by decide +kernel, rfl⟩
theorem e_X11_readsCompared_9 : g_dc cX11_readsCompared 9 (.aload_n 0) 1 10 := ⟨by decide +kernel, rfl⟩
theorem e_X11_readsCompared_10 : g_dc cX11_readsCompared 10 (.invokevirtual 200) 3 13 := ⟨by decide +kernel, rfl⟩
theorem e_X11_readsCompared_13 : g_dc cX11_readsCompared 13 (.bipush 60) 2 15 := ⟨by decide +kernel, rfl⟩
theorem e_X11_readsCompared_15 : g_dc cX11_readsCompared 15 (.if_icmp .ne 8) 3 18 := ⟨by decide +kernel, rfl⟩
theorem e_X11_readsCompared_18 : g_dc cX11_readsCompared 18 (.bipush 7) 2 20 := ⟨by decide +kernel, rfl⟩
theorem e_X11_readsCompared_20 : g_dc cX11_readsCompared 20 (.goto 32) 3 23 := ⟨by decide +kernel, rfl⟩
theorem e_X11_readsCompared_23 : g_dc cX11_readsCompared 23 (.aload_n 0) 1 24 := ⟨by decide +kernel, rfl⟩
theorem e_X11_readsCompared_24 : g_dc cX11_readsCompared 24 (.invokevirtual 200) 3 27 := ⟨by decide +kernel, rfl⟩
theorem e_X11_readsCompared_27 : g_dc cX11_readsCompared 27 (.bipush 62) 2 29 := ⟨by decide +kernel, rfl⟩
theorem e_X11_readsCompared_29 : g_dc cX11_readsCompared 29 (.if_icmp .ne 8) 3 32 := ⟨by decide +kernel, rfl⟩
theorem e_X11_readsCompared_32 : g_dc cX11_readsCompared 32 (.bipush 8) 2 34 := ⟨by decide +kernel, rfl⟩
theorem e_X11_readsCompared_34 : g_dc cX11_readsCompared 34 (.goto 18) 3 37 := ⟨by decide +kernel, rfl⟩
theorem e_X11_readsCompared_37 : g_dc cX11_readsCompared 37 (.aload_n 0) 1 38 := ⟨by decide +kernel, rfl⟩
theorem e_X11_readsCompared_38 : g_dc cX11_readsCompared 38 (.invokevirtual 200) 3 41 := ⟨by decide +kernel, rfl⟩
theorem e_X11_readsCompared_41 : g_dc cX11_readsCompared 41 (.bipush 61) 2 43 := ⟨by decide +kernel, rfl⟩
theorem e_X11_readsCompared_43 : g_dc cX11_readsCompared 43 (.if_icmp .ne 8) 3 46 := ⟨by decide +kernel, rfl⟩
theorem e_X11_readsCompared_46 : g_dc cX11_readsCompared 46 (.bipush 9) 2 48 := ⟨by decide +kernel, rfl⟩
theorem e_X11_readsCompared_48 : g_dc cX11_readsCompared 48 (.goto 4) 3 51 := ⟨by decide +kernel, rfl⟩
theorem e_X11_readsCompared_51 : g_dc cX11_readsCompared 51 (.iconst (-1)) 1 52 := ⟨by decide +kernel, rfl⟩
theorem e_X11_readsCompared_52 : g_dc cX11_readsCompared 52 (.istore_n 1) 1 53 := ⟨by decide +kernel, rfl⟩
theorem e_X11_readsCompared_53 : g_dc cX11_readsCompared 53 (.iload_n 1) 1 54 := ⟨by decide +kernel, rfl⟩
theorem e_X11_readsCompared_54 : g_dc cX11_readsCompared 54 (.iconst (-1)) 1 55 := ⟨by decide +kernel, rfl⟩
theorem e_X11_readsCompared_55 : g_dc cX11_readsCompared 55 (.if_icmp .ne 13) 3 58 := ⟨by decide +kernel, rfl⟩
theorem e_X11_readsCompared_58 : g_dc cX11_readsCompared 58 (.aload_n 0) 1 59 := ⟨by decide +kernel, rfl⟩
theorem e_X11_readsCompared_59 : g_dc cX11_readsCompared 59 (.iconst 1) 1 60 := ⟨by decide +kernel, rfl⟩
theorem e_X11_readsCompared_60 : g_dc cX11_readsCompared 60 (.aload_n 0) 1 61 := ⟨by decide +kernel, rfl⟩
theorem e_X11_readsCompared_61 : g_dc cX11_readsCompared 61 (.getfield 190) 3 64 := ⟨by decide +kernel, rfl⟩
theorem e_X11_readsCompared_64 : g_dc cX11_readsCompared 64 (.invokevirtual 204) 3 67 := ⟨by decide +kernel, rfl⟩
theorem e_X11_readsCompared_67 : g_dc cX11_readsCompared 67 (.ireturn) 1 68 := ⟨by decide +kernel, rfl⟩
theorem e_X11_readsCompared_68 : g_dc cX11_readsCompared 68 (.aload_n 0) 1 69 := ⟨by decide +kernel, rfl⟩
theorem e_X11_readsCompared_69 : g_dc cX11_readsCompared 69 (.aload_n 0) 1 70 := ⟨by decide +kernel, rfl⟩
theorem e_X11_readsCompared_70 : g_dc cX11_readsCompared 70 (.getfield 190) 3 73 := ⟨by decide +kernel, rfl⟩
theorem e_X11_readsCompared_73 : g_dc cX11_readsCompared 73 (.iconst 1) 1 74 := ⟨by decide +kernel, rfl⟩
theorem e_X11_readsCompared_74 : g_dc cX11_readsCompared 74 (.iadd) 1 75 := ⟨by decide +kernel, rfl⟩
theorem e_X11_readsCompared_75 : g_dc cX11_readsCompared 75 (.putfield 190) 3 78 := ⟨by decide +kernel, rfl⟩
theorem e_X11_readsCompared_78 : g_dc cX11_readsCompared 78 (.aload_n 0) 1 79 := ⟨by decide +kernel, rfl⟩
theorem e_X11_readsCompared_79 : g_dc cX11_readsCompared 79 (.invokevirtual 271) 3 82 := ⟨by decide +kernel, rfl⟩
theorem e_X11_readsCompared_82 : g_dc cX11_readsCompared 82 (.ifCond .ne 5) 3 85 := ⟨by decide +kernel, rfl⟩
theorem e_X11_readsCompared_85 : g_dc cX11_readsCompared 85 (.iconst 0) 1 86 := ⟨by decide +kernel, rfl⟩
theorem e_X11_readsCompared_86 : g_dc cX11_readsCompared 86 (.ireturn) 1 87 := ⟨by decide +kernel, rfl⟩
theorem e_X11_readsCompared_87 : g_dc cX11_readsCompared 87 (.aload_n 0) 1 88 := ⟨by decide +kernel, rfl⟩
theorem e_X11_readsCompared_88 : g_dc cX11_readsCompared 88 (.iload_n 1) 1 89 := ⟨by decide +kernel, rfl⟩
theorem e_X11_readsCompared_89 : g_dc cX11_readsCompared 89 (.iconst 0) 1 90 := ⟨by decide +kernel, rfl⟩
theorem e_X11_readsCompared_90 : g_dc cX11_readsCompared 90 (.invokevirtual 244) 3 93 := ⟨by decide +kernel, rfl⟩
theorem e_X11_readsCompared_93 : g_dc cX11_readsCompared 93 (.aload_n 0) 1 94 := ⟨by decide +kernel, rfl⟩
theorem e_X11_readsCompared_94 : g_dc cX11_readsCompared 94 (.invokevirtual 274) 3 97 := ⟨by decide +kernel, rfl⟩
theorem e_X11_readsCompared_97 : g_dc cX11_readsCompared 97 (.iconst 1) 1 98 := ⟨by decide +kernel, rfl⟩
theorem e_X11_readsCompared_98 : g_dc cX11_readsCompared 98 (.ireturn) 1 99 := ⟨by decide +kernel, rfl⟩
def md_X11_readsCompared : List Nat := [15, 17, 18, 24, 25, 26]
def mr_X11_readsCompared : List Nat := [12, 13]
set_option maxHeartbeats 4000000 in
set_option maxRecDepth 100000 in
theorem w_X11_readsCompared (l : Launch) (X : gX) (ad : Nat → Nat) (F : Nat → Int32) (R : Nat → Nat → Int32) (hI : g_ok LK_wM F) (hA : g_okR LA_wM R) (hWT : WT F R) (hWC : WC F R) (A : Nat × Nat) (L : List (Int × Nat)) (hps : PS F R A L 0) (hcb : cb L = 0) (hbt : bt L) : g_Ci l X yX11_readsCompared cX11_readsCompared 2 (some .boolean) 6 0 0 [.ref (ad 0)] (wM X ad F R) (fun r w => ∃ (F' : Nat → Int32) (R' : Nat → Nat → Int32), w = wM X ad F' R' ∧ g_ok LK_wM F' ∧ g_okR LA_wM R' ∧ WT F' R' ∧ WC F' R' ∧ g_fr md_X11_readsCompared F F' ∧ g_fr mr_X11_readsCompared R R' ∧ jv 0 1 r ∧ (¬ r = 0 → ∃ L1 : List (Int × Nat), PS F' R' A L1 1 ∧ cb L1 = 0 ∧ bt L1 ∧ FK F R F' R') ∧ (r, F', R') = sp_X11_readsCompared F R) := by
  refine g_mi (by decide +kernel) (Nat.le_of_ble_eq_true rfl) (fun E cx hret => ?_)
  obtain ⟨SP, hSP⟩ : ∃ z, z = sp_X11_readsCompared F R := ⟨_, rfl⟩
  have hk0 := hSP
  unfold sp_X11_readsCompared at hk0
  refine g_aload_n cx 0 rfl e_X11_readsCompared_0 ?_
  refine g_cViW cx [] [] (w_X11_readsSum l X ad F R hI hA hWT hWC A (L) (0) hps hcb (by omega)) ml_X11_271 yV_X11_readsSum e_X11_readsCompared_1 (by unfold g_rr; decide) (by decide) 0 rfl rfl rfl (Nat.le_of_ble_eq_true rfl) (fun r1 w2 h3 => ?_)
  obtain ⟨F6, R7, rfl, oF6, oR7, wTF6, wCF6, cF6, cR7, pr1, zx4, hx5⟩ := h3
  have hk8 := k_ls3 hk0 hx5
  have fF6 : g_fr md_X11_readsCompared F F6 := g_fr_c (g_fr_rf F) cF6 rfl
  have fR7 : g_fr mr_X11_readsCompared R R7 := g_fr_c (g_fr_rf R) cR7 rfl
  refine g_if_ne cx 9 e_X11_readsCompared_4 (by decide) (fun zc9 => ?_) (fun zc9 => ?_)
  · have p10 := gn_neL 1 1 (gc_ne zc9) pr1 (jv_k (x := 0) 0 (by decide)) (by decide)
    obtain ⟨psk11, fkk11⟩ := (zx4 zc9)
    have hk12 := hk8.trans (if_neg zc9)
    refine g_aload_n cx 0 rfl e_X11_readsCompared_9 ?_
    refine g_cViW cx [] [] (w_X11_here l X ad F6 R7 oF6 oR7 wTF6 wCF6) ml_X11_200 yV_X11_here e_X11_readsCompared_10 (by unfold g_rr; decide) (by decide) 0 rfl rfl rfl (Nat.le_of_ble_eq_true rfl) (fun r13 w14 h15 => ?_)
    obtain ⟨rfl, pr13, zx16, hx17⟩ := h15
    have hk18 := k_ls hk12 hx17
    refine g_bipush cx 60 (by decide) e_X11_readsCompared_13 ?_
    have J52 : ∀ (y19 : Int32), (jv (-1) 9 y19) → ((y19 : Int32).toInt = -1 ∨ (7 ≤ (y19 : Int32).toInt ∧ (y19 : Int32).toInt ≤ 9 ∧ (F6 15).toInt < (F6 16).toInt)) → (SP = K_X11_readsCompared_52 F6 R7 y19) → G X E 2 0 0 (wM X ad F6 R7) [(0, .ref (ad 0))] 52 [.int y19] := by
      intro y19 py19 zi52_0 hkJ52
      unfold K_X11_readsCompared_52 at hkJ52
      refine g_istore_n cx [(1, .int y19), (0, .ref (ad 0))] e_X11_readsCompared_52 (by decide) rfl ?_
      refine g_iload_n cx 0 rfl e_X11_readsCompared_53 ?_
      refine g_iconst cx (-1) (by decide) e_X11_readsCompared_54 ?_
      refine g_icmp_ne cx 68 e_X11_readsCompared_55 (by decide) (fun zc20 => ?_) (fun zc20 => ?_)
      · have p21 := gn_neL 0 9 (gc_ne zc20) py19 (jv_k (x := (-1)) (-1) (by decide)) (by decide)
        have hk22 := hkJ52.trans (if_neg zc20)
        refine g_aload_n cx 1 rfl e_X11_readsCompared_68 ?_
        refine g_aload_n cx 1 rfl e_X11_readsCompared_69 ?_
        refine g_get cx cl_X11 fl_X11_190 0 (.int (F6 15)) e_X11_readsCompared_70 rfl rfl ?_
        refine g_iconst cx 1 (by decide) e_X11_readsCompared_73 ?_
        refine g_iadd cx e_X11_readsCompared_74 ?_
        refine g_topi (fun x23 ex23 => ?_)
        have hk24 := k_ls hk22 ex23
        have zx23 := jv_add 1 221 ex23 (g_ok_g oF6 1 rfl) (jv_k (x := 1) 1 (by decide)) (by decide)
        refine g_put cx cl_X11 fl_X11_190 0 (wM X ad (upd F6 15 x23) R7) e_X11_readsCompared_75 rfl rfl rfl rfl (Nat.le_of_ble_eq_true rfl) rfl ?_
        obtain ⟨F25, hF25⟩ : ∃ z, z = upd F6 15 x23 := ⟨_, rfl⟩
        rw [← hF25]
        have hk26 := k_ls hk24 hF25
        have oF25 : g_ok LK_wM F25 := by rw [hF25]; exact g_ok_p oF6 (show jv 0 220 _ from ⟨by have q0 := (jv_k (x := (-1)) (-1) (by decide)).1; have q1 := (jv_k (x := (-1)) (-1) (by decide)).2; have q2 := (g_here_iv F6 R7).1; have q3 := (g_here_iv F6 R7).2; have q4 := (jv_k (x := 1) 1 (by decide)).1; have q5 := (jv_k (x := 1) 1 (by decide)).2; have q6 := (g_ok_g hI 1 rfl).1; have q7 := (g_ok_g hI 1 rfl).2; have q8 := (g_ok_g hI 2 rfl).1; have q9 := (g_ok_g hI 2 rfl).2; have q10 := (g_ok_g oF6 1 rfl).1; have q11 := (g_ok_g oF6 1 rfl).2; have q12 := (g_ok_g oF6 2 rfl).1; have q13 := (g_ok_g oF6 2 rfl).2; have q14 := pr13.1; have q15 := pr13.2; have q16 := zx23.2.1; have q17 := zx23.2.2; have q18 := p21.1; have q19 := p21.2; have q20 := fkk11.2.2; have q21 := (congrArg Int32.toInt zx16); have q22 := (@g_here_lt F6 R7); have q23 := (congrArg Int32.toInt (show F6 16 = F 16 from (cF6 16 rfl))); have q24 := (congrArg Int32.toInt (show F6 16 = F 16 from (cF6 16 rfl))); have q25 := zi52_0; have q26 := (gc_ne zc20); have q27 := (g_eq0 zx23.1); omega, by have q0 := (jv_k (x := (-1)) (-1) (by decide)).1; have q1 := (jv_k (x := (-1)) (-1) (by decide)).2; have q2 := (g_here_iv F6 R7).1; have q3 := (g_here_iv F6 R7).2; have q4 := (jv_k (x := 1) 1 (by decide)).1; have q5 := (jv_k (x := 1) 1 (by decide)).2; have q6 := (g_ok_g hI 1 rfl).1; have q7 := (g_ok_g hI 1 rfl).2; have q8 := (g_ok_g hI 2 rfl).1; have q9 := (g_ok_g hI 2 rfl).2; have q10 := (g_ok_g oF6 1 rfl).1; have q11 := (g_ok_g oF6 1 rfl).2; have q12 := (g_ok_g oF6 2 rfl).1; have q13 := (g_ok_g oF6 2 rfl).2; have q14 := pr13.1; have q15 := pr13.2; have q16 := zx23.2.1; have q17 := zx23.2.2; have q18 := p21.1; have q19 := p21.2; have q20 := fkk11.2.2; have q21 := (congrArg Int32.toInt zx16); have q22 := (@g_here_lt F6 R7); have q23 := (congrArg Int32.toInt (show F6 16 = F 16 from (cF6 16 rfl))); have q24 := (congrArg Int32.toInt (show F6 16 = F 16 from (cF6 16 rfl))); have q25 := zi52_0; have q26 := (gc_ne zc20); have q27 := (g_eq0 zx23.1); omega⟩) rfl
        have fF25 : g_fr md_X11_readsCompared F F25 := by rw [hF25]; exact g_fr_u fF6 rfl
        have wTF25 : WT F25 R7 := by rw [hF25]; exact WT_u wTF6 rfl
        have wCF25 : WC F25 R7 := by rw [hF25]; exact WC_u wCF6 rfl
        have ps78 : PS F25 R7 (A.1, A.2 + 1) L (0 + 1) := PS_slack psk11 (g_pu2 hF25 rfl) (g_pu2 hF25 rfl) (by have q0 := (jv_k (x := (-1)) (-1) (by decide)).1; have q1 := (jv_k (x := (-1)) (-1) (by decide)).2; have q2 := (g_here_iv F6 R7).1; have q3 := (g_here_iv F6 R7).2; have q4 := (jv_k (x := 1) 1 (by decide)).1; have q5 := (jv_k (x := 1) 1 (by decide)).2; have q6 := (g_ok_g hI 1 rfl).1; have q7 := (g_ok_g hI 1 rfl).2; have q8 := (g_ok_g hI 2 rfl).1; have q9 := (g_ok_g hI 2 rfl).2; have q10 := (g_ok_g oF25 1 rfl).1; have q11 := (g_ok_g oF25 1 rfl).2; have q12 := (g_ok_g oF6 1 rfl).1; have q13 := (g_ok_g oF6 1 rfl).2; have q14 := (g_ok_g oF6 2 rfl).1; have q15 := (g_ok_g oF6 2 rfl).2; have q16 := pr13.1; have q17 := pr13.2; have q18 := zx23.2.1; have q19 := zx23.2.2; have q20 := p21.1; have q21 := p21.2; have q22 := fkk11.2.2; have q23 := (congrArg Int32.toInt zx16); have q24 := (@g_here_lt F6 R7); have q25 := (congrArg Int32.toInt (show F6 16 = F 16 from (cF6 16 rfl))); have q26 := (congrArg Int32.toInt (show F6 16 = F 16 from (cF6 16 rfl))); have q27 := zi52_0; have q28 := (gc_ne zc20); have q29 := (g_eq0 zx23.1); have q30 := (congrArg Int32.toInt (show F25 15 = x23 from (g_pu1 hF25))); omega) (rfl : R7 12 = R7 12) (rfl : R7 13 = R7 13)
        have fk78 : FK F R F25 R7 := FK_e fkk11 (g_pu2 hF25 rfl) (by have q0 := (jv_k (x := (-1)) (-1) (by decide)).1; have q1 := (jv_k (x := (-1)) (-1) (by decide)).2; have q2 := (g_here_iv F6 R7).1; have q3 := (g_here_iv F6 R7).2; have q4 := (jv_k (x := 1) 1 (by decide)).1; have q5 := (jv_k (x := 1) 1 (by decide)).2; have q6 := (g_ok_g hI 1 rfl).1; have q7 := (g_ok_g hI 1 rfl).2; have q8 := (g_ok_g hI 2 rfl).1; have q9 := (g_ok_g hI 2 rfl).2; have q10 := (g_ok_g oF25 1 rfl).1; have q11 := (g_ok_g oF25 1 rfl).2; have q12 := (g_ok_g oF6 1 rfl).1; have q13 := (g_ok_g oF6 1 rfl).2; have q14 := (g_ok_g oF6 2 rfl).1; have q15 := (g_ok_g oF6 2 rfl).2; have q16 := pr13.1; have q17 := pr13.2; have q18 := zx23.2.1; have q19 := zx23.2.2; have q20 := p21.1; have q21 := p21.2; have q22 := fkk11.2.2; have q23 := (congrArg Int32.toInt zx16); have q24 := (@g_here_lt F6 R7); have q25 := (congrArg Int32.toInt (show F6 16 = F 16 from (cF6 16 rfl))); have q26 := (congrArg Int32.toInt (show F6 16 = F 16 from (cF6 16 rfl))); have q27 := zi52_0; have q28 := (gc_ne zc20); have q29 := (g_eq0 zx23.1); have q30 := (congrArg Int32.toInt (show F25 15 = x23 from (g_pu1 hF25))); have q31 := (congrArg Int32.toInt (show F25 15 = x23 from (g_pu1 hF25))); omega) (rfl : R7 12 = R7 12)
        refine g_aload_n cx 1 rfl e_X11_readsCompared_78 ?_
        refine g_cViW cx [] [] (w_X11_readsSum l X ad F25 R7 oF25 oR7 wTF25 wCF25 (A.1, A.2 + 1) (L) ((0 + 1)) ps78 hcb (by omega)) ml_X11_271 yV_X11_readsSum e_X11_readsCompared_79 (by unfold g_rr; decide) (by decide) 0 rfl rfl rfl (Nat.le_of_ble_eq_true rfl) (fun r27 w28 h29 => ?_)
        obtain ⟨F32, R33, rfl, oF32, oR33, wTF32, wCF32, cF32, cR33, pr27, zx30, hx31⟩ := h29
        have hk34 := k_ls3 hk26 hx31
        have fF32 : g_fr md_X11_readsCompared F F32 := g_fr_c fF25 cF32 rfl
        have fR33 : g_fr mr_X11_readsCompared R R33 := g_fr_c fR7 cR33 rfl
        refine g_if_ne cx 87 e_X11_readsCompared_82 (by decide) (fun zc35 => ?_) (fun zc35 => ?_)
        · have p36 := gn_neL 1 1 (gc_ne zc35) pr27 (jv_k (x := 0) 0 (by decide)) (by decide)
          obtain ⟨psk37, fkk37⟩ := (zx30 zc35)
          have hk38 := hk34.trans (if_neg zc35)
          have room := PS_room2 psk37
          refine g_aload_n cx 1 rfl e_X11_readsCompared_87 ?_
          refine g_iload_n cx 0 rfl e_X11_readsCompared_88 ?_
          refine g_iconst cx 0 (by decide) e_X11_readsCompared_89 ?_
          refine g_cVvW cx [.int y19, .int 0] [] (w_X11_notes l X ad F32 R33 oF32 oR33 wTF32 wCF32 y19 0 (jv_w p21 (by decide)) (jv_w (jv_k (x := 0) 0 (by decide)) (by decide)) (by have q0 := (jv_k (x := (-1)) (-1) (by decide)).1; have q1 := (jv_k (x := (-1)) (-1) (by decide)).2; have q2 := (g_here_iv F6 R7).1; have q3 := (g_here_iv F6 R7).2; have q4 := (jv_k (x := 1) 1 (by decide)).1; have q5 := (jv_k (x := 1) 1 (by decide)).2; have q6 := (g_ok_g hI 1 rfl).1; have q7 := (g_ok_g hI 1 rfl).2; have q8 := (g_ok_g hI 2 rfl).1; have q9 := (g_ok_g hI 2 rfl).2; have q10 := (g_ok_g hI 7 rfl).1; have q11 := (g_ok_g hI 7 rfl).2; have q12 := (g_ok_g oF25 1 rfl).1; have q13 := (g_ok_g oF25 1 rfl).2; have q14 := (g_ok_g oF25 7 rfl).1; have q15 := (g_ok_g oF25 7 rfl).2; have q16 := (g_ok_g oF32 1 rfl).1; have q17 := (g_ok_g oF32 1 rfl).2; have q18 := (g_ok_g oF32 7 rfl).1; have q19 := (g_ok_g oF32 7 rfl).2; have q20 := (g_ok_g oF6 1 rfl).1; have q21 := (g_ok_g oF6 1 rfl).2; have q22 := (g_ok_g oF6 2 rfl).1; have q23 := (g_ok_g oF6 2 rfl).2; have q24 := (g_ok_g oF6 7 rfl).1; have q25 := (g_ok_g oF6 7 rfl).2; have q26 := pr13.1; have q27 := pr13.2; have q28 := zx23.2.1; have q29 := zx23.2.2; have q30 := p21.1; have q31 := p21.2; have q32 := fkk11.2.2; have q33 := fkk11.2.1; have q34 := (congrArg Int32.toInt zx16); have q35 := (@g_here_lt F6 R7); have q36 := (congrArg Int32.toInt (show F6 16 = F 16 from (cF6 16 rfl))); have q37 := (congrArg Int32.toInt (show F6 16 = F 16 from (cF6 16 rfl))); have q38 := zi52_0; have q39 := (gc_ne zc20); have q40 := (g_eq0 zx23.1); have q41 := (congrArg Int32.toInt (show F25 15 = x23 from (g_pu1 hF25))); have q42 := (congrArg Int32.toInt (show F25 15 = x23 from (g_pu1 hF25))); have q43 := fkk37.2.2; have q44 := fkk37.2.1; have q45 := (congrArg Int32.toInt (show F25 15 = x23 from (g_pu1 hF25))); have q46 := (congrArg Int32.toInt (show F25 25 = F6 25 from (g_pu2 hF25 rfl))); have q47 := room; omega)) ml_X11_244 yV_X11_notes e_X11_readsCompared_90 (by unfold g_rr; decide) (by decide) 0 rfl rfl rfl (Nat.le_of_ble_eq_true rfl) (fun w40 h41 => ?_)
          obtain ⟨F45, R46, rfl, oF45, oR46, wTF45, wCF45, cF45, cR46, zx42, zx43, hx44⟩ := h41
          have hk47 := k_ls2 hk38 hx44
          have fF45 : g_fr md_X11_readsCompared F F45 := g_fr_c fF32 cF45 rfl
          have fR46 : g_fr mr_X11_readsCompared R R46 := g_fr_c fR33 cR46 rfl
          obtain ⟨x, hx, e12⟩ := zx43
          have e12 : R46 12 = upd (R33 12) (F32 25).toInt.toNat x := (e12.trans (by rw [show R33 12 = R33 12 from rfl, show F32 25 = F32 25 from rfl]))
          have hhow : 7 ≤ (y19 : Int32).toInt ∧ (y19 : Int32).toInt ≤ 9 := ⟨by have q0 := (jv_k (x := (-1)) (-1) (by decide)).1; have q1 := (jv_k (x := (-1)) (-1) (by decide)).2; have q2 := (g_here_iv F6 R7).1; have q3 := (g_here_iv F6 R7).2; have q4 := (jv_k (x := 1) 1 (by decide)).1; have q5 := (jv_k (x := 1) 1 (by decide)).2; have q6 := (g_ok_g hI 1 rfl).1; have q7 := (g_ok_g hI 1 rfl).2; have q8 := (g_ok_g hI 2 rfl).1; have q9 := (g_ok_g hI 2 rfl).2; have q10 := (g_ok_g oF25 1 rfl).1; have q11 := (g_ok_g oF25 1 rfl).2; have q12 := (g_ok_g oF25 7 rfl).1; have q13 := (g_ok_g oF25 7 rfl).2; have q14 := (g_ok_g oF32 1 rfl).1; have q15 := (g_ok_g oF32 1 rfl).2; have q16 := (g_ok_g oF32 7 rfl).1; have q17 := (g_ok_g oF32 7 rfl).2; have q18 := (g_ok_g oF45 7 rfl).1; have q19 := (g_ok_g oF45 7 rfl).2; have q20 := (g_ok_g oF6 1 rfl).1; have q21 := (g_ok_g oF6 1 rfl).2; have q22 := (g_ok_g oF6 2 rfl).1; have q23 := (g_ok_g oF6 2 rfl).2; have q24 := (g_ok_g oF6 7 rfl).1; have q25 := (g_ok_g oF6 7 rfl).2; have q26 := pr13.1; have q27 := pr13.2; have q28 := zx23.2.1; have q29 := zx23.2.2; have q30 := p21.1; have q31 := p21.2; have q32 := fkk11.2.2; have q33 := (congrArg Int32.toInt zx16); have q34 := (@g_here_lt F6 R7); have q35 := (congrArg Int32.toInt (show F6 16 = F 16 from (cF6 16 rfl))); have q36 := (congrArg Int32.toInt (show F6 16 = F 16 from (cF6 16 rfl))); have q37 := zi52_0; have q38 := (gc_ne zc20); have q39 := (g_eq0 zx23.1); have q40 := (congrArg Int32.toInt (show F25 15 = x23 from (g_pu1 hF25))); have q41 := (congrArg Int32.toInt (show F25 15 = x23 from (g_pu1 hF25))); have q42 := fkk37.2.2; have q43 := fkk37.2.1; have q44 := (congrArg Int32.toInt (show F25 15 = x23 from (g_pu1 hF25))); have q45 := (congrArg Int32.toInt (show F25 25 = F6 25 from (g_pu2 hF25 rfl))); have q46 := room; have q47 := zx42; omega, by have q0 := (jv_k (x := (-1)) (-1) (by decide)).1; have q1 := (jv_k (x := (-1)) (-1) (by decide)).2; have q2 := (g_here_iv F6 R7).1; have q3 := (g_here_iv F6 R7).2; have q4 := (jv_k (x := 1) 1 (by decide)).1; have q5 := (jv_k (x := 1) 1 (by decide)).2; have q6 := (g_ok_g hI 1 rfl).1; have q7 := (g_ok_g hI 1 rfl).2; have q8 := (g_ok_g hI 2 rfl).1; have q9 := (g_ok_g hI 2 rfl).2; have q10 := (g_ok_g oF25 1 rfl).1; have q11 := (g_ok_g oF25 1 rfl).2; have q12 := (g_ok_g oF25 7 rfl).1; have q13 := (g_ok_g oF25 7 rfl).2; have q14 := (g_ok_g oF32 1 rfl).1; have q15 := (g_ok_g oF32 1 rfl).2; have q16 := (g_ok_g oF32 7 rfl).1; have q17 := (g_ok_g oF32 7 rfl).2; have q18 := (g_ok_g oF45 7 rfl).1; have q19 := (g_ok_g oF45 7 rfl).2; have q20 := (g_ok_g oF6 1 rfl).1; have q21 := (g_ok_g oF6 1 rfl).2; have q22 := (g_ok_g oF6 2 rfl).1; have q23 := (g_ok_g oF6 2 rfl).2; have q24 := (g_ok_g oF6 7 rfl).1; have q25 := (g_ok_g oF6 7 rfl).2; have q26 := pr13.1; have q27 := pr13.2; have q28 := zx23.2.1; have q29 := zx23.2.2; have q30 := p21.1; have q31 := p21.2; have q32 := fkk11.2.2; have q33 := (congrArg Int32.toInt zx16); have q34 := (@g_here_lt F6 R7); have q35 := (congrArg Int32.toInt (show F6 16 = F 16 from (cF6 16 rfl))); have q36 := (congrArg Int32.toInt (show F6 16 = F 16 from (cF6 16 rfl))); have q37 := zi52_0; have q38 := (gc_ne zc20); have q39 := (g_eq0 zx23.1); have q40 := (congrArg Int32.toInt (show F25 15 = x23 from (g_pu1 hF25))); have q41 := (congrArg Int32.toInt (show F25 15 = x23 from (g_pu1 hF25))); have q42 := fkk37.2.2; have q43 := fkk37.2.1; have q44 := (congrArg Int32.toInt (show F25 15 = x23 from (g_pu1 hF25))); have q45 := (congrArg Int32.toInt (show F25 25 = F6 25 from (g_pu2 hF25 rfl))); have q46 := room; have q47 := zx42; omega⟩
          have ps93 : PS F45 R46 A L 1 := PS_how psk37 (by omega) hhow (by have q0 := (jv_k (x := (-1)) (-1) (by decide)).1; have q1 := (jv_k (x := (-1)) (-1) (by decide)).2; have q2 := (g_here_iv F6 R7).1; have q3 := (g_here_iv F6 R7).2; have q4 := (jv_k (x := 1) 1 (by decide)).1; have q5 := (jv_k (x := 1) 1 (by decide)).2; have q6 := (g_ok_g hI 1 rfl).1; have q7 := (g_ok_g hI 1 rfl).2; have q8 := (g_ok_g hI 2 rfl).1; have q9 := (g_ok_g hI 2 rfl).2; have q10 := (g_ok_g hI 7 rfl).1; have q11 := (g_ok_g hI 7 rfl).2; have q12 := (g_ok_g oF25 1 rfl).1; have q13 := (g_ok_g oF25 1 rfl).2; have q14 := (g_ok_g oF25 7 rfl).1; have q15 := (g_ok_g oF25 7 rfl).2; have q16 := (g_ok_g oF32 1 rfl).1; have q17 := (g_ok_g oF32 1 rfl).2; have q18 := (g_ok_g oF32 7 rfl).1; have q19 := (g_ok_g oF32 7 rfl).2; have q20 := (g_ok_g oF45 7 rfl).1; have q21 := (g_ok_g oF45 7 rfl).2; have q22 := (g_ok_g oF6 1 rfl).1; have q23 := (g_ok_g oF6 1 rfl).2; have q24 := (g_ok_g oF6 2 rfl).1; have q25 := (g_ok_g oF6 2 rfl).2; have q26 := (g_ok_g oF6 7 rfl).1; have q27 := (g_ok_g oF6 7 rfl).2; have q28 := pr13.1; have q29 := pr13.2; have q30 := zx23.2.1; have q31 := zx23.2.2; have q32 := p21.1; have q33 := p21.2; have q34 := fkk11.2.2; have q35 := fkk11.2.1; have q36 := (congrArg Int32.toInt zx16); have q37 := (@g_here_lt F6 R7); have q38 := (congrArg Int32.toInt (show F6 16 = F 16 from (cF6 16 rfl))); have q39 := (congrArg Int32.toInt (show F6 16 = F 16 from (cF6 16 rfl))); have q40 := zi52_0; have q41 := (gc_ne zc20); have q42 := (g_eq0 zx23.1); have q43 := (congrArg Int32.toInt (show F25 15 = x23 from (g_pu1 hF25))); have q44 := (congrArg Int32.toInt (show F25 15 = x23 from (g_pu1 hF25))); have q45 := fkk37.2.2; have q46 := fkk37.2.1; have q47 := (congrArg Int32.toInt (show F25 15 = x23 from (g_pu1 hF25))); have q48 := (congrArg Int32.toInt (show F25 25 = F6 25 from (g_pu2 hF25 rfl))); have q49 := room; have q50 := zx42; omega) (by rw [hx]; have z0 : (0 : Int32).toInt = 0 := rfl; omega) (by have q0 := (jv_k (x := (-1)) (-1) (by decide)).1; have q1 := (jv_k (x := (-1)) (-1) (by decide)).2; have q2 := (g_here_iv F6 R7).1; have q3 := (g_here_iv F6 R7).2; have q4 := (jv_k (x := 1) 1 (by decide)).1; have q5 := (jv_k (x := 1) 1 (by decide)).2; have q6 := (g_ok_g hI 1 rfl).1; have q7 := (g_ok_g hI 1 rfl).2; have q8 := (g_ok_g hI 2 rfl).1; have q9 := (g_ok_g hI 2 rfl).2; have q10 := (g_ok_g hI 7 rfl).1; have q11 := (g_ok_g hI 7 rfl).2; have q12 := (g_ok_g oF25 1 rfl).1; have q13 := (g_ok_g oF25 1 rfl).2; have q14 := (g_ok_g oF25 7 rfl).1; have q15 := (g_ok_g oF25 7 rfl).2; have q16 := (g_ok_g oF32 1 rfl).1; have q17 := (g_ok_g oF32 1 rfl).2; have q18 := (g_ok_g oF32 7 rfl).1; have q19 := (g_ok_g oF32 7 rfl).2; have q20 := (g_ok_g oF45 7 rfl).1; have q21 := (g_ok_g oF45 7 rfl).2; have q22 := (g_ok_g oF6 1 rfl).1; have q23 := (g_ok_g oF6 1 rfl).2; have q24 := (g_ok_g oF6 2 rfl).1; have q25 := (g_ok_g oF6 2 rfl).2; have q26 := (g_ok_g oF6 7 rfl).1; have q27 := (g_ok_g oF6 7 rfl).2; have q28 := pr13.1; have q29 := pr13.2; have q30 := zx23.2.1; have q31 := zx23.2.2; have q32 := p21.1; have q33 := p21.2; have q34 := fkk11.2.2; have q35 := fkk11.2.1; have q36 := (congrArg Int32.toInt zx16); have q37 := (@g_here_lt F6 R7); have q38 := (congrArg Int32.toInt (show F6 16 = F 16 from (cF6 16 rfl))); have q39 := (congrArg Int32.toInt (show F6 16 = F 16 from (cF6 16 rfl))); have q40 := zi52_0; have q41 := (gc_ne zc20); have q42 := (g_eq0 zx23.1); have q43 := (congrArg Int32.toInt (show F25 15 = x23 from (g_pu1 hF25))); have q44 := (congrArg Int32.toInt (show F25 15 = x23 from (g_pu1 hF25))); have q45 := fkk37.2.2; have q46 := fkk37.2.1; have q47 := (congrArg Int32.toInt (show F25 15 = x23 from (g_pu1 hF25))); have q48 := (congrArg Int32.toInt (show F25 25 = F6 25 from (g_pu2 hF25 rfl))); have q49 := room; have q50 := zx42; omega) (cF45 26 rfl) (cF45 15 rfl) e12 (cR46 13 rfl)
          have fk93 : FK F R F45 R46 := FK_tr (FK_tr fk78 fkk37) ⟨fun k hk => by rw [e12, g_un (by rw [bne_iff_ne]; intro q; omega)], by have q0 := (jv_k (x := (-1)) (-1) (by decide)).1; have q1 := (jv_k (x := (-1)) (-1) (by decide)).2; have q2 := (g_here_iv F6 R7).1; have q3 := (g_here_iv F6 R7).2; have q4 := (jv_k (x := 1) 1 (by decide)).1; have q5 := (jv_k (x := 1) 1 (by decide)).2; have q6 := (g_ok_g hI 1 rfl).1; have q7 := (g_ok_g hI 1 rfl).2; have q8 := (g_ok_g hI 2 rfl).1; have q9 := (g_ok_g hI 2 rfl).2; have q10 := (g_ok_g hI 7 rfl).1; have q11 := (g_ok_g hI 7 rfl).2; have q12 := (g_ok_g oF25 1 rfl).1; have q13 := (g_ok_g oF25 1 rfl).2; have q14 := (g_ok_g oF25 7 rfl).1; have q15 := (g_ok_g oF25 7 rfl).2; have q16 := (g_ok_g oF32 1 rfl).1; have q17 := (g_ok_g oF32 1 rfl).2; have q18 := (g_ok_g oF32 7 rfl).1; have q19 := (g_ok_g oF32 7 rfl).2; have q20 := (g_ok_g oF45 7 rfl).1; have q21 := (g_ok_g oF45 7 rfl).2; have q22 := (g_ok_g oF6 1 rfl).1; have q23 := (g_ok_g oF6 1 rfl).2; have q24 := (g_ok_g oF6 2 rfl).1; have q25 := (g_ok_g oF6 2 rfl).2; have q26 := (g_ok_g oF6 7 rfl).1; have q27 := (g_ok_g oF6 7 rfl).2; have q28 := pr13.1; have q29 := pr13.2; have q30 := zx23.2.1; have q31 := zx23.2.2; have q32 := p21.1; have q33 := p21.2; have q34 := fkk11.2.2; have q35 := fkk11.2.1; have q36 := (congrArg Int32.toInt zx16); have q37 := (@g_here_lt F6 R7); have q38 := (congrArg Int32.toInt (show F6 16 = F 16 from (cF6 16 rfl))); have q39 := (congrArg Int32.toInt (show F6 16 = F 16 from (cF6 16 rfl))); have q40 := zi52_0; have q41 := (gc_ne zc20); have q42 := (g_eq0 zx23.1); have q43 := (congrArg Int32.toInt (show F25 15 = x23 from (g_pu1 hF25))); have q44 := (congrArg Int32.toInt (show F25 15 = x23 from (g_pu1 hF25))); have q45 := fkk37.2.2; have q46 := fkk37.2.1; have q47 := (congrArg Int32.toInt (show F25 15 = x23 from (g_pu1 hF25))); have q48 := (congrArg Int32.toInt (show F25 25 = F6 25 from (g_pu2 hF25 rfl))); have q49 := room; have q50 := zx42; omega, (Int.le_of_eq (congrArg Int32.toInt (cF45 15 rfl)).symm)⟩
          refine g_aload_n cx 1 rfl e_X11_readsCompared_93 ?_
          refine g_cVvW cx [] [] (w_X11_endsPiece l X ad F45 R46 oF45 oR46 wTF45 wCF45 A (L) (1) ps93 (by omega) hcb hbt) ml_X11_274 yV_X11_endsPiece e_X11_readsCompared_94 (by unfold g_rr; decide) (by decide) 0 rfl rfl rfl (Nat.le_of_ble_eq_true rfl) (fun w49 h50 => ?_)
          obtain ⟨F53, R54, rfl, oF53, oR54, wTF53, wCF53, cF53, cR54, zx51, hx52⟩ := h50
          have hk55 := k_ls2 hk47 hx52
          have fF53 : g_fr md_X11_readsCompared F F53 := g_fr_c fF45 cF53 rfl
          have fR54 : g_fr mr_X11_readsCompared R R54 := g_fr_c fR46 cR54 rfl
          obtain ⟨Ln56, psn56, hcn56, hbn56, fkn56⟩ := zx51
          refine g_iconst cx 1 (by decide) e_X11_readsCompared_97 ?_
          exact hret e_X11_readsCompared_98 (Nat.le_of_ble_eq_true rfl) (Nat.le_of_ble_eq_true rfl) rfl ⟨F53, R54, rfl, oF53, oR54, wTF53, wCF53, fF53, fR54, (jv_w (jv_k (x := 1) 1 (by decide)) (by decide)), (fun _ => ⟨Ln56, psn56, hcn56, hbn56, FK_tr fk93 fkn56⟩), (hk55.symm.trans hSP)⟩
        · have p57 := gn_eq 0 0 (gc_eq zc35) pr27 (jv_k (x := 0) 0 (by decide)) (by decide)
          have hk58 := hk34.trans (if_pos zc35)
          refine g_iconst cx 0 (by decide) e_X11_readsCompared_85 ?_
          exact hret e_X11_readsCompared_86 (Nat.le_of_ble_eq_true rfl) (Nat.le_of_ble_eq_true rfl) rfl ⟨F32, R33, rfl, oF32, oR33, wTF32, wCF32, fF32, fR33, (jv_w (jv_k (x := 0) 0 (by decide)) (by decide)), (fun h0 => absurd (by first | rfl | exact jv_c 0 (jv_k (x := 0) 0 (by decide)) (by decide)) h0), (hk58.symm.trans hSP)⟩
      · have p59 := gn_eq (-1) (-1) (gc_eq zc20) py19 (jv_k (x := (-1)) (-1) (by decide)) (by decide)
        have hk60 := hkJ52.trans (if_pos zc20)
        refine g_aload_n cx 1 rfl e_X11_readsCompared_58 ?_
        refine g_iconst cx 1 (by decide) e_X11_readsCompared_59 ?_
        refine g_aload_n cx 1 rfl e_X11_readsCompared_60 ?_
        refine g_get cx cl_X11 fl_X11_190 0 (.int (F6 15)) e_X11_readsCompared_61 rfl rfl ?_
        refine g_cViW cx [.int 1, .int (F6 15)] [] (w_X11_wrongAt l X ad F6 R7 oF6 oR7 wTF6 wCF6 1 (F6 15)) ml_X11_204 yV_X11_wrongAt e_X11_readsCompared_64 (by unfold g_rr; decide) (by decide) 0 rfl rfl rfl (Nat.le_of_ble_eq_true rfl) (fun r61 w62 h63 => ?_)
        obtain ⟨F65, R66, rfl, oF65, oR66, wTF65, wCF65, cF65, cR66, pr61, hx64⟩ := h63
        have hk67 := k_ls3 hk60 hx64
        have fF65 : g_fr md_X11_readsCompared F F65 := g_fr_c fF6 cF65 rfl
        have fR66 : g_fr mr_X11_readsCompared R R66 := g_fr_c fR7 cR66 rfl
        exact hret e_X11_readsCompared_67 (Nat.le_of_ble_eq_true rfl) (Nat.le_of_ble_eq_true rfl) (g_narb (jv_w pr61 (by decide))) ⟨F65, R66, rfl, oF65, oR66, wTF65, wCF65, fF65, fR66, (jv_w pr61 (by decide)), (fun h0 => absurd (by first | rfl | exact jv_c 0 pr61 (by decide)) h0), (hk67.symm.trans hSP)⟩
    refine g_icmp_ne cx 23 e_X11_readsCompared_15 (by decide) (fun zc68 => ?_) (fun zc68 => ?_)
    · have hk69 := hk18.trans (if_neg zc68)
      refine g_aload_n cx 0 rfl e_X11_readsCompared_23 ?_
      refine g_cViW cx [] [] (w_X11_here l X ad F6 R7 oF6 oR7 wTF6 wCF6) ml_X11_200 yV_X11_here e_X11_readsCompared_24 (by unfold g_rr; decide) (by decide) 0 rfl rfl rfl (Nat.le_of_ble_eq_true rfl) (fun r70 w71 h72 => ?_)
      obtain ⟨rfl, pr70, zx73, hx74⟩ := h72
      have hk75 := k_ls hk69 hx74
      refine g_bipush cx 62 (by decide) e_X11_readsCompared_27 ?_
      refine g_icmp_ne cx 37 e_X11_readsCompared_29 (by decide) (fun zc76 => ?_) (fun zc76 => ?_)
      · have hk77 := hk75.trans (if_neg zc76)
        refine g_aload_n cx 0 rfl e_X11_readsCompared_37 ?_
        refine g_cViW cx [] [] (w_X11_here l X ad F6 R7 oF6 oR7 wTF6 wCF6) ml_X11_200 yV_X11_here e_X11_readsCompared_38 (by unfold g_rr; decide) (by decide) 0 rfl rfl rfl (Nat.le_of_ble_eq_true rfl) (fun r78 w79 h80 => ?_)
        obtain ⟨rfl, pr78, zx81, hx82⟩ := h80
        have hk83 := k_ls hk77 hx82
        refine g_bipush cx 61 (by decide) e_X11_readsCompared_41 ?_
        refine g_icmp_ne cx 51 e_X11_readsCompared_43 (by decide) (fun zc84 => ?_) (fun zc84 => ?_)
        · have hk85 := hk83.trans (if_neg zc84)
          refine g_iconst cx (-1) (by decide) e_X11_readsCompared_51 ?_
          exact J52 (-1) (jv_w (jv_k (x := (-1)) (-1) (by decide)) (by decide)) (by have q0 := (jv_k (x := (-1)) (-1) (by decide)).1; have q1 := (jv_k (x := (-1)) (-1) (by decide)).2; have q2 := (g_here_iv F6 R7).1; have q3 := (g_here_iv F6 R7).2; have q4 := (jv_k (x := 60) 60 (by decide)).1; have q5 := (jv_k (x := 60) 60 (by decide)).2; have q6 := (jv_k (x := 61) 61 (by decide)).1; have q7 := (jv_k (x := 61) 61 (by decide)).2; have q8 := (jv_k (x := 62) 62 (by decide)).1; have q9 := (jv_k (x := 62) 62 (by decide)).2; have q10 := (g_ok_g hI 1 rfl).1; have q11 := (g_ok_g hI 1 rfl).2; have q12 := (g_ok_g hI 2 rfl).1; have q13 := (g_ok_g hI 2 rfl).2; have q14 := (g_ok_g oF6 1 rfl).1; have q15 := (g_ok_g oF6 1 rfl).2; have q16 := (g_ok_g oF6 2 rfl).1; have q17 := (g_ok_g oF6 2 rfl).2; have q18 := pr13.1; have q19 := pr13.2; have q20 := pr70.1; have q21 := pr70.2; have q22 := pr78.1; have q23 := pr78.2; have q24 := fkk11.2.2; have q25 := (congrArg Int32.toInt zx16); have q26 := (@g_here_lt F6 R7); have q27 := (congrArg Int32.toInt (show F6 16 = F 16 from (cF6 16 rfl))); have q28 := (gc_ne zc68); have q29 := (congrArg Int32.toInt zx73); have q30 := (@g_here_lt F6 R7); have q31 := (congrArg Int32.toInt (show F6 16 = F 16 from (cF6 16 rfl))); have q32 := (gc_ne zc76); have q33 := (congrArg Int32.toInt zx81); have q34 := (@g_here_lt F6 R7); have q35 := (congrArg Int32.toInt (show F6 16 = F 16 from (cF6 16 rfl))); have q36 := (gc_ne zc84); have q37 := (congrArg Int32.toInt (show F6 16 = F 16 from (cF6 16 rfl))); omega) hk85
        · have p86 := gn_eq 61 61 (gc_eq zc84) pr78 (jv_k (x := 61) 61 (by decide)) (by decide)
          have hk87 := hk83.trans (if_pos zc84)
          refine g_bipush cx 9 (by decide) e_X11_readsCompared_46 ?_
          refine g_goto cx 52 e_X11_readsCompared_48 (by decide) ?_
          exact J52 9 (jv_w (jv_k (x := 9) 9 (by decide)) (by decide)) (by have q0 := (g_here_iv F6 R7).1; have q1 := (g_here_iv F6 R7).2; have q2 := (jv_k (x := 60) 60 (by decide)).1; have q3 := (jv_k (x := 60) 60 (by decide)).2; have q4 := (jv_k (x := 61) 61 (by decide)).1; have q5 := (jv_k (x := 61) 61 (by decide)).2; have q6 := (jv_k (x := 62) 62 (by decide)).1; have q7 := (jv_k (x := 62) 62 (by decide)).2; have q8 := (jv_k (x := 9) 9 (by decide)).1; have q9 := (jv_k (x := 9) 9 (by decide)).2; have q10 := (g_ok_g hI 1 rfl).1; have q11 := (g_ok_g hI 1 rfl).2; have q12 := (g_ok_g hI 2 rfl).1; have q13 := (g_ok_g hI 2 rfl).2; have q14 := (g_ok_g oF6 1 rfl).1; have q15 := (g_ok_g oF6 1 rfl).2; have q16 := (g_ok_g oF6 2 rfl).1; have q17 := (g_ok_g oF6 2 rfl).2; have q18 := pr13.1; have q19 := pr13.2; have q20 := pr70.1; have q21 := pr70.2; have q22 := p86.1; have q23 := p86.2; have q24 := fkk11.2.2; have q25 := (congrArg Int32.toInt zx16); have q26 := (@g_here_lt F6 R7); have q27 := (congrArg Int32.toInt (show F6 16 = F 16 from (cF6 16 rfl))); have q28 := (gc_ne zc68); have q29 := (congrArg Int32.toInt zx73); have q30 := (@g_here_lt F6 R7); have q31 := (congrArg Int32.toInt (show F6 16 = F 16 from (cF6 16 rfl))); have q32 := (gc_ne zc76); have q33 := (congrArg Int32.toInt zx81); have q34 := (@g_here_lt F6 R7); have q35 := (congrArg Int32.toInt (show F6 16 = F 16 from (cF6 16 rfl))); have q36 := (gc_eq zc84); have q37 := (congrArg Int32.toInt (show F6 16 = F 16 from (cF6 16 rfl))); omega) hk87
      · have p88 := gn_eq 62 62 (gc_eq zc76) pr70 (jv_k (x := 62) 62 (by decide)) (by decide)
        have hk89 := hk75.trans (if_pos zc76)
        refine g_bipush cx 8 (by decide) e_X11_readsCompared_32 ?_
        refine g_goto cx 52 e_X11_readsCompared_34 (by decide) ?_
        exact J52 8 (jv_w (jv_k (x := 8) 8 (by decide)) (by decide)) (by have q0 := (g_here_iv F6 R7).1; have q1 := (g_here_iv F6 R7).2; have q2 := (jv_k (x := 60) 60 (by decide)).1; have q3 := (jv_k (x := 60) 60 (by decide)).2; have q4 := (jv_k (x := 62) 62 (by decide)).1; have q5 := (jv_k (x := 62) 62 (by decide)).2; have q6 := (jv_k (x := 8) 8 (by decide)).1; have q7 := (jv_k (x := 8) 8 (by decide)).2; have q8 := (g_ok_g hI 1 rfl).1; have q9 := (g_ok_g hI 1 rfl).2; have q10 := (g_ok_g hI 2 rfl).1; have q11 := (g_ok_g hI 2 rfl).2; have q12 := (g_ok_g oF6 1 rfl).1; have q13 := (g_ok_g oF6 1 rfl).2; have q14 := (g_ok_g oF6 2 rfl).1; have q15 := (g_ok_g oF6 2 rfl).2; have q16 := pr13.1; have q17 := pr13.2; have q18 := p88.1; have q19 := p88.2; have q20 := fkk11.2.2; have q21 := (congrArg Int32.toInt zx16); have q22 := (@g_here_lt F6 R7); have q23 := (congrArg Int32.toInt (show F6 16 = F 16 from (cF6 16 rfl))); have q24 := (gc_ne zc68); have q25 := (congrArg Int32.toInt zx73); have q26 := (@g_here_lt F6 R7); have q27 := (congrArg Int32.toInt (show F6 16 = F 16 from (cF6 16 rfl))); have q28 := (gc_eq zc76); have q29 := (congrArg Int32.toInt (show F6 16 = F 16 from (cF6 16 rfl))); omega) hk89
    · have p90 := gn_eq 60 60 (gc_eq zc68) pr13 (jv_k (x := 60) 60 (by decide)) (by decide)
      have hk91 := hk18.trans (if_pos zc68)
      refine g_bipush cx 7 (by decide) e_X11_readsCompared_18 ?_
      refine g_goto cx 52 e_X11_readsCompared_20 (by decide) ?_
      exact J52 7 (jv_w (jv_k (x := 7) 7 (by decide)) (by decide)) (by have q0 := (g_here_iv F6 R7).1; have q1 := (g_here_iv F6 R7).2; have q2 := (jv_k (x := 60) 60 (by decide)).1; have q3 := (jv_k (x := 60) 60 (by decide)).2; have q4 := (jv_k (x := 7) 7 (by decide)).1; have q5 := (jv_k (x := 7) 7 (by decide)).2; have q6 := (g_ok_g hI 1 rfl).1; have q7 := (g_ok_g hI 1 rfl).2; have q8 := (g_ok_g hI 2 rfl).1; have q9 := (g_ok_g hI 2 rfl).2; have q10 := (g_ok_g oF6 1 rfl).1; have q11 := (g_ok_g oF6 1 rfl).2; have q12 := (g_ok_g oF6 2 rfl).1; have q13 := (g_ok_g oF6 2 rfl).2; have q14 := p90.1; have q15 := p90.2; have q16 := fkk11.2.2; have q17 := (congrArg Int32.toInt zx16); have q18 := (@g_here_lt F6 R7); have q19 := (congrArg Int32.toInt (show F6 16 = F 16 from (cF6 16 rfl))); have q20 := (gc_eq zc68); have q21 := (congrArg Int32.toInt (show F6 16 = F 16 from (cF6 16 rfl))); omega) hk91
  · have p92 := gn_eq 0 0 (gc_eq zc9) pr1 (jv_k (x := 0) 0 (by decide)) (by decide)
    have hk93 := hk8.trans (if_pos zc9)
    refine g_iconst cx 0 (by decide) e_X11_readsCompared_7 ?_
    exact hret e_X11_readsCompared_8 (Nat.le_of_ble_eq_true rfl) (Nat.le_of_ble_eq_true rfl) rfl ⟨F6, R7, rfl, oF6, oR7, wTF6, wCF6, fF6, fR7, (jv_w (jv_k (x := 0) 0 (by decide)) (by decide)), (fun h0 => absurd (by first | rfl | exact jv_c 0 (jv_k (x := 0) 0 (by decide)) (by decide)) h0), (hk93.symm.trans hSP)⟩
