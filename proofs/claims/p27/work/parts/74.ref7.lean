/-! ===== the reference's reader: pieces and parts ===== -/
section RM8
variable {u : Nat → Nat} {N : Nat} {o i : Nat}
theorem tops_app {Q : Nat × Nat → Prop} {X W : List (Nat × Nat)} (h : ∀ x, x ∈ X → ¬ Q x) (hW : tops Q W) : tops Q (X ++ W) := by
  cases X with
  | nil => exact hW
  | cons x X => exact tops_c (h x List.mem_cons_self)
theorem head_app {X W : List (Nat × Nat)} {w r : Nat} {W' : List (Nat × Nat)} (hW : W = (w, r) :: W') : ∃ q R, X ++ W = q :: R ∧ (q ∈ X ∨ q = (w, r)) := by
  cases X with
  | nil => exact ⟨(w, r), W', hW, Or.inr rfl⟩
  | cons x X => exact ⟨x, X ++ W, rfl, Or.inl List.mem_cons_self⟩
/-- a piece, and what stands behind it -/
theorem ps_in {j : Nat} {P : List Cd} (hu : HU u N) (ih : PMP u N o i j P) {G : Nat → Int32} {S : Nat → Nat → Int32} {c : Nat} {X W : List (Nat × Nat)} {n w r : Nat} {W' : List (Nat × Nat)} (hW : W = (w, r) :: W') (hw : w = 12 ∨ w = 13) (h : MSt u N G S i o c (X ++ W)) (hX : ∀ x, x ∈ X → x.1 = 11 ∧ x.2 < c) (hO : OpAt (S 12) X) (hfn : 200 < n + i) : ∃ (n' m' : Nat) (G' : Nat → Int32) (S' : Nat → Nat → Int32), K_X11_readsCondition_40 n G S = K_X11_readsCondition_92 (K_X11_readsCondition_40 n') m' G' S' ∧ 200 < n' + j ∧ 200 < m' + j ∧ MSt u N G' S' j o (c + P.length) (X ++ W) ∧ CodeM (S' 12) c P ∧ (∀ k, k < c → S' 12 k = S 12 k) ∧ OpAt (S' 12) X := by
  have hN := hu.1
  have hq : tops Qa (X ++ W) := tops_app (fun x hx => nQa (by rw [(hX x hx).1]; omega)) (by rw [hW]; exact tops_c (nQa (by show 7 ≤ w; omega)))
  have hne : X ++ W ≠ [] := by rw [hW]; simp
  obtain ⟨k', n', m', G', S', b1, b2, b3, b4, b5, b6, b7⟩ := ih G S c (X ++ W) n hq hne h hfn
  obtain ⟨k', rfl⟩ : ∃ n', k' = n' + 1 := ⟨k' - 1, by omega⟩
  refine ⟨n', m', G', S', ?_, b3, b4, b5, b6, b7, fun x hx => ?_⟩
  · rw [b1]
    obtain ⟨q, R, e1, e2⟩ := head_app (X := X) hW
    have h10 : q.1 ≠ 10 := by
      rcases e2 with z | z
      · have := (hX q z).1
        omega
      · rw [z]
        show w ≠ 10
        omega
    have b5' : MSt u N G' S' j o (c + P.length) (q :: R) := by rw [← e1]; exact b5
    unfold EPc
    rw [m_ends0 hN b5' h10, k_t2]
  · obtain ⟨a1, v, a2, a3⟩ := hO x hx
    exact ⟨a1, v, a2, by rw [b7 x.2 (hX x hx).2]; exact a3⟩
theorem pm_ps0 (hu : HU u N) {j : Nat} {C : List Cd} (ih : PMP u N o i j C) : PMS u N o i j C.length C := by
  intro G S c X W n w r W' hW hw h hX hO hfn
  obtain ⟨n', m', G', S', b1, b2, b3, b4, b5, b6, b7⟩ := ps_in hu ih hW hw h hX hO hfn
  refine ⟨n', m', X, G', S', b1, b2, b3, b4, fun y hy => ⟨(hX y hy).1, by have := (hX y hy).2; omega, Or.inr hy⟩, b7, fun k hk _ => b6 k hk, fun w' hw' => ⟨?_, fun x hx => ?_, fun k hk hk2 => ?_⟩⟩
  · refine CodeM_eq C c (fun k k1 k2 => hw'.2 k (fun y hy => ?_)) b5
    have := (hX y hy).2
    omega
  · rw [hw'.1 x hx, (hX x hx).1]
  · rw [hw'.2 k hk2, b6 k hk]
theorem pm_ps1 (hu : HU u N) {j j2 a2 : Nat} {P C2 : List Cd} (hlen : i + P.length ≤ j) (ih1 : PMP u N o i j P) (hj : u j = 38) (ih2 : PMS u N o (j + 1) j2 a2 C2) : PMS u N o i j2 P.length (P ++ (11, 1 + a2, 1 + C2.length) :: C2) := by
  intro G S c X W n w r W' hW hw h hX hO hfn
  have hN := hu.1
  obtain ⟨n', m', G', S', b1, b2, b3, b4, b5, b6, b7⟩ := ps_in hu ih1 hW hw h hX hO hfn
  have hjN := b4.2.2.2.2.2.2.2.1
  obtain ⟨m', rfl⟩ : ∃ t, m' = t + 1 := ⟨m' - 1, by omega⟩
  have b4' : MSt u N G' S' j o (c + P.length) (X ++ (w, r) :: W') := by rw [← hW]; exact b4
  obtain ⟨G1, S1, S0, d1, d2, d3, d4⟩ := m_and (op := 11) (P := fun n => n = 11) (b := K_X11_readsCondition_40 n') (m := m') (q := (w, r)) (W := W') hu (Or.inl ⟨hj, rfl, rfl⟩) (by show ¬ w = 11; omega) (fun y hy => (hX y hy).1) b7 b4'
  have hO2 : OpAt (S1 12) [(11, c + P.length)] := by
    intro y hy
    rw [List.mem_singleton.mp hy]
    exact ⟨by show 11 ≤ 14; omega, 0, by omega, by rw [d4, uu, if_pos rfl]⟩
  have d2' : MSt u N G1 S1 (j + 1) o (c + P.length + 1) ([(11, c + P.length)] ++ W) := by rw [hW]; exact d2
  obtain ⟨n3, m3, Y, G3, S3, f1, f2, f3, f4, f5, f6, f7, f8⟩ := ih2 G1 S1 (c + P.length + 1) [(11, c + P.length)] W n' w r W' hW hw d2' (fun x hx => by rw [List.mem_singleton.mp hx]; exact ⟨rfl, by show c + P.length < c + P.length + 1; omega⟩) hO2 (by omega)
  have el : (P ++ (11, 1 + a2, 1 + C2.length) :: C2).length = P.length + (1 + C2.length) := by simp; omega
  have ec : c + (P ++ (11, 1 + a2, 1 + C2.length) :: C2).length = c + P.length + 1 + C2.length := by rw [el]; omega
  have hne : ∀ k, k < c + P.length → ∀ x : Nat × Nat, x ∈ [(11, c + P.length)] → x.2 ≠ k := by
    intro k hk x hx
    rw [List.mem_singleton.mp hx]
    show c + P.length ≠ k
    omega
  have hS0 : ∀ k, k < c + P.length → S1 12 k = S0 k := by
    intro k hk
    rw [d4, uu, if_neg (by omega)]
  refine ⟨n3, m3, Y, G3, S3, b1.trans (d1.trans f1), f2, f3, by rw [ec]; exact f4, fun y hy => ?_, f6, fun k hk hk2 => ?_, fun w' hw' => ?_⟩
  · obtain ⟨y1, y2, y3⟩ := f5 y hy
    refine ⟨y1, by rw [ec]; exact y2, Or.inl ?_⟩
    rcases y3 with y3 | y3
    · omega
    · rw [List.mem_singleton.mp y3]
      show c ≤ c + P.length
      omega
  · rw [f7 k (by omega) (hne k (by omega)), hS0 k (by omega), d3.2 k hk2, b6 k hk]
  · rw [ec] at hw'
    obtain ⟨g1, g2, g3⟩ := f8 w' hw'
    refine ⟨?_, fun x hx => ?_, fun k hk hk2 => ?_⟩
    · rw [CodeM_app]
      refine ⟨CodeM_eq P c (fun k k1 k2 => ?_) b5, ?_, g1⟩
      · rw [g3 k (by omega) (hne k k2), hS0 k k2, d3.2 k (fun y hy => by have := (hX y hy).2; omega)]
      · have e := g2 (11, c + P.length) (List.mem_singleton.mpr rfl)
        show w' (c + P.length) = _
        rw [e]
        unfold cvM
        rw [if_neg (by show ¬ (11 : Nat) ≤ 1; omega), if_neg (by show ¬ (11 : Nat) ≤ 10; omega)]
        show nI (1048576 * 11 + (c + P.length + 1 + a2)) = nI (1048576 * 11 + (c + P.length + (1 + a2)))
        rw [show c + P.length + 1 + a2 = c + P.length + (1 + a2) from by omega]
    · have hx2 := (hX x hx).2
      rw [g3 x.2 (by omega) (hne x.2 (by omega)), hS0 x.2 (by omega), d3.1 x hx, (hX x hx).1]
    · rw [g3 k (by omega) (hne k (by omega)), hS0 k (by omega), d3.2 k hk2, b6 k hk]
theorem pf_ps {f : Int32} (ih : PFP u N o i f) : PFS u N o i f := by
  intro G S c X W n w r W' hW hw h hX hO hfn
  have hq : tops Qa (X ++ W) := tops_app (fun x hx => nQa (by rw [(hX x hx).1]; omega)) (by rw [hW]; exact tops_c (nQa (by show 7 ≤ w; omega)))
  have hne : X ++ W ≠ [] := by rw [hW]; simp
  exact ih G S c (X ++ W) n hq hne h hfn
theorem pf_ps2 (hu : HU u N) {j : Nat} {P : List Cd} {f : Int32} (ih1 : PMP u N o i j P) (hj : u j = 38) (ih2 : PFS u N o (j + 1) f) : PFS u N o i f := by
  intro G S c X W n w r W' hW hw h hX hO hfn
  have hN := hu.1
  obtain ⟨n', m', G', S', b1, b2, b3, b4, b5, b6, b7⟩ := ps_in hu ih1 hW hw h hX hO hfn
  have hjN := b4.2.2.2.2.2.2.2.1
  obtain ⟨m', rfl⟩ : ∃ t, m' = t + 1 := ⟨m' - 1, by omega⟩
  have b4' : MSt u N G' S' j o (c + P.length) (X ++ (w, r) :: W') := by rw [← hW]; exact b4
  obtain ⟨G1, S1, S0, d1, d2, d3, d4⟩ := m_and (op := 11) (P := fun n => n = 11) (b := K_X11_readsCondition_40 n') (m := m') (q := (w, r)) (W := W') hu (Or.inl ⟨hj, rfl, rfl⟩) (by show ¬ w = 11; omega) (fun y hy => (hX y hy).1) b7 b4'
  have hO2 : OpAt (S1 12) [(11, c + P.length)] := by
    intro y hy
    rw [List.mem_singleton.mp hy]
    exact ⟨by show 11 ≤ 14; omega, 0, by omega, by rw [d4, uu, if_pos rfl]⟩
  have d2' : MSt u N G1 S1 (j + 1) o (c + P.length + 1) ([(11, c + P.length)] ++ W) := by rw [hW]; exact d2
  obtain ⟨G3, S3, f1, f2⟩ := ih2 G1 S1 (c + P.length + 1) [(11, c + P.length)] W n' w r W' hW hw d2' (fun x hx => by rw [List.mem_singleton.mp hx]; exact ⟨rfl, by show c + P.length < c + P.length + 1; omega⟩) hO2 (by omega)
  exact ⟨G3, S3, b1.trans (d1.trans f1), f2⟩
/-- pieces, as the first of parts or behind a | -/
theorem pt_in {j a : Nat} {C : List Cd} (ih : PMS u N o i j a C) {G : Nat → Int32} {S : Nat → Nat → Int32} {c : Nat} {X W : List (Nat × Nat)} {n : Nat} (h : MSt u N G S i o c (X ++ (13, 0) :: W)) (hX : ∀ x, x ∈ X → x.1 = 12 ∧ x.2 < c) (hO : OpAt (S 12) X) (hfn : 200 < n + i) : ∃ (n' m' : Nat) (Y : List (Nat × Nat)) (G' : Nat → Int32) (S' : Nat → Nat → Int32), K_X11_readsCondition_40 n G S = K_X11_readsCondition_92 (K_X11_readsCondition_40 n') m' G' S' ∧ 200 < n' + j ∧ 200 < m' + j ∧ MSt u N G' S' j o (c + C.length) ((Y ++ X) ++ (13, 0) :: W) ∧ (∀ y, y ∈ Y → y.1 = 11 ∧ y.2 < c + C.length ∧ c ≤ y.2) ∧ OpAt (S' 12) (Y ++ X) ∧ (∀ w', Lnd (S' 12) w' (Y ++ X) (c + C.length) → CodeM w' c C ∧ (∀ x, x ∈ X → w' x.2 = nI (1048576 * 12 + (c + C.length))) ∧ (∀ k, k < c → (∀ x, x ∈ X → x.2 ≠ k) → w' k = S 12 k)) := by
  have hw : ∃ w r W', X ++ (13, 0) :: W = (w, r) :: W' ∧ (w = 12 ∨ w = 13) := by
    obtain ⟨q, R, e1, e2⟩ := head_app (X := X) (W := (13, 0) :: W) rfl
    refine ⟨q.1, q.2, R, e1, ?_⟩
    rcases e2 with z | z
    · exact Or.inl (hX q z).1
    · rw [z]
      exact Or.inr rfl
  obtain ⟨w, r, W', hw1, hw2⟩ := hw
  obtain ⟨n', m', Y, G', S', b1, b2, b3, b4, b5, b6, b7, b8⟩ := ih G S c [] (X ++ (13, 0) :: W) n w r W' hw1 hw2 h (fun x hx => by cases hx) (fun x hx => by cases hx) hfn
  have hY : ∀ y, y ∈ Y → y.1 = 11 ∧ y.2 < c + C.length ∧ c ≤ y.2 := by
    intro y hy
    obtain ⟨y1, y2, y3⟩ := b5 y hy
    rcases y3 with y3 | y3
    · exact ⟨y1, y2, y3⟩
    · cases y3
  have hlow : ∀ k, k < c → S' 12 k = S 12 k := fun k hk => b7 k hk (fun x hx => by cases hx)
  refine ⟨n', m', Y, G', S', b1, b2, b3, ?_, hY, fun y hy => ?_, fun w' hw' => ?_⟩
  · rw [List.append_assoc]
    exact b4
  · rcases List.mem_append.mp hy with z | z
    · exact b6 y z
    · obtain ⟨a1, v, a2, a3⟩ := hO y z
      exact ⟨a1, v, a2, by rw [hlow y.2 (hX y z).2]; exact a3⟩
  · -- only what this one left open
    have L2 : Lnd (S' 12) (fun k => if k < c then S' 12 k else w' k) Y (c + C.length) := by
      refine ⟨fun y hy => ?_, fun k hk => ?_⟩
      · have := (hY y hy).2.2
        dsimp only
        rw [if_neg (by omega)]
        exact hw'.1 y (List.mem_append.mpr (Or.inl hy))
      · dsimp only
        by_cases z : k < c
        · rw [if_pos z]
        · rw [if_neg z]
          refine hw'.2 k (fun y hy => ?_)
          rcases List.mem_append.mp hy with t | t
          · exact hk y t
          · have := (hX y t).2
            omega
    obtain ⟨g1, g2, g3⟩ := b8 _ L2
    refine ⟨CodeM_eq C c (fun k k1 k2 => by rw [if_neg (by omega)]) g1, fun x hx => ?_, fun k hk hk2 => ?_⟩
    · rw [hw'.1 x (List.mem_append.mpr (Or.inr hx)), (hX x hx).1]
    · rw [hw'.2 k (fun y hy => ?_), hlow k hk]
      rcases List.mem_append.mp hy with t | t
      · have := (hY y t).2.2
        omega
      · exact hk2 y t
theorem pm_pt0 {j a : Nat} {C : List Cd} (ih : PMS u N o i j a C) : PMT u N o i j C.length C := by
  intro G S c X W n h hX hO hfn
  obtain ⟨n', m', Y, G', S', b1, b2, b3, b4, b5, b6, b7⟩ := pt_in ih h hX hO hfn
  refine ⟨n', m', Y ++ X, G', S', b1, b2, b3, b4, fun y hy => ?_, b6, b7⟩
  rcases List.mem_append.mp hy with z | z
  · obtain ⟨y1, y2, y3⟩ := b5 y z
    exact ⟨Or.inl y1, y2, Or.inl y3⟩
  · obtain ⟨x1, x2⟩ := hX y z
    exact ⟨Or.inr x1, by omega, Or.inr z⟩
theorem pt_or (hu : HU u N) {j a : Nat} {C : List Cd} (ih : PMS u N o i j a C) (hj : u j = 124) {G : Nat → Int32} {S : Nat → Nat → Int32} {c : Nat} {X W : List (Nat × Nat)} {n : Nat} (h : MSt u N G S i o c (X ++ (13, 0) :: W)) (hX : ∀ x, x ∈ X → x.1 = 12 ∧ x.2 < c) (hO : OpAt (S 12) X) (hfn : 200 < n + i) : ∃ (n' : Nat) (G1 : Nat → Int32) (S1 : Nat → Nat → Int32), K_X11_readsCondition_40 n G S = K_X11_readsCondition_40 n' G1 S1 ∧ 200 < n' + (j + 1) ∧ MSt u N G1 S1 (j + 1) o (c + C.length + 1) ([(12, c + C.length)] ++ (13, 0) :: W) ∧ OpAt (S1 12) [(12, c + C.length)] ∧ CodeM (S1 12) c C ∧ (∀ x, x ∈ X → S1 12 x.2 = nI (1048576 * 12 + (c + C.length))) ∧ (∀ k, k < c → (∀ x, x ∈ X → x.2 ≠ k) → S1 12 k = S 12 k) := by
  have hN := hu.1
  obtain ⟨n', m', Y, G', S', b1, b2, b3, b4, b5, b6, b7⟩ := pt_in ih h hX hO hfn
  have hjN := b4.2.2.2.2.2.2.2.1
  obtain ⟨m', rfl⟩ : ∃ t, m' = t + 1 := ⟨m' - 1, by omega⟩
  obtain ⟨G1, S1, S0, d1, d2, d3, d4⟩ := m_and (op := 12) (P := fun n => n = 11 ∨ n = 12) (b := K_X11_readsCondition_40 n') (m := m') (q := (13, 0)) (W := W) hu (Or.inr ⟨hj, rfl, rfl⟩) (by show ¬ (13 = 11 ∨ 13 = 12); omega) (fun y hy => by
    rcases List.mem_append.mp hy with z | z
    · exact Or.inl (b5 y z).1
    · exact Or.inr (hX y z).1) b6 b4
  obtain ⟨g1, g2, g3⟩ := b7 S0 d3
  have hS0 : ∀ k, k < c + C.length → S1 12 k = S0 k := by
    intro k hk
    rw [d4, uu, if_neg (by omega)]
  refine ⟨n', G1, S1, b1.trans d1, by omega, d2, fun y hy => ?_, CodeM_eq C c (fun k k1 k2 => hS0 k k2) g1, fun x hx => ?_, fun k hk hk2 => ?_⟩
  · rw [List.mem_singleton.mp hy]
    exact ⟨by show 12 ≤ 14; omega, 0, by omega, by rw [d4, uu, if_pos rfl]⟩
  · have := (hX x hx).2
    rw [hS0 x.2 (by omega), g2 x hx]
  · rw [hS0 k (by omega), g3 k hk hk2]
theorem pm_pt1 (hu : HU u N) {j j2 a a2 : Nat} {C C2 : List Cd} (ih1 : PMS u N o i j a C) (hj : u j = 124) (ih2 : PMT u N o (j + 1) j2 a2 C2) : PMT u N o i j2 C.length (C ++ (12, 1 + a2, 1 + C2.length) :: C2) := by
  intro G S c X W n h hX hO hfn
  obtain ⟨n', G1, S1, d1, d2, d3, d4, d5, d6, d7⟩ := pt_or hu ih1 hj h hX hO hfn
  obtain ⟨n3, m3, Y, G3, S3, f1, f2, f3, f4, f5, f6, f7⟩ := ih2 G1 S1 (c + C.length + 1) [(12, c + C.length)] W n' d3 (fun x hx => by rw [List.mem_singleton.mp hx]; exact ⟨rfl, by show c + C.length < c + C.length + 1; omega⟩) d4 d2
  have el : (C ++ (12, 1 + a2, 1 + C2.length) :: C2).length = C.length + (1 + C2.length) := by simp; omega
  have ec : c + (C ++ (12, 1 + a2, 1 + C2.length) :: C2).length = c + C.length + 1 + C2.length := by rw [el]; omega
  have hne : ∀ k, k < c + C.length → ∀ x : Nat × Nat, x ∈ [(12, c + C.length)] → x.2 ≠ k := by
    intro k hk x hx
    rw [List.mem_singleton.mp hx]
    show c + C.length ≠ k
    omega
  refine ⟨n3, m3, Y, G3, S3, d1.trans f1, f2, f3, by rw [ec]; exact f4, fun y hy => ?_, f6, fun w' hw' => ?_⟩
  · obtain ⟨y1, y2, y3⟩ := f5 y hy
    refine ⟨y1, by rw [ec]; exact y2, Or.inl ?_⟩
    rcases y3 with y3 | y3
    · omega
    · rw [List.mem_singleton.mp y3]
      show c ≤ c + C.length
      omega
  · rw [ec] at hw'
    obtain ⟨g1, g2, g3⟩ := f7 w' hw'
    refine ⟨?_, fun x hx => ?_, fun k hk hk2 => ?_⟩
    · rw [CodeM_app]
      refine ⟨CodeM_eq C c (fun k k1 k2 => g3 k (by omega) (hne k k2)) d5, ?_, g1⟩
      have e := g2 (12, c + C.length) (List.mem_singleton.mpr rfl)
      show w' (c + C.length) = _
      rw [e]
      unfold cvM
      rw [if_neg (by show ¬ (12 : Nat) ≤ 1; omega), if_neg (by show ¬ (12 : Nat) ≤ 10; omega)]
      show nI (1048576 * 12 + (c + C.length + 1 + a2)) = nI (1048576 * 12 + (c + C.length + (1 + a2)))
      rw [show c + C.length + 1 + a2 = c + C.length + (1 + a2) from by omega]
    · have hx2 := (hX x hx).2
      rw [g3 x.2 (by omega) (hne x.2 (by omega)), d6 x hx]
    · rw [g3 k (by omega) (hne k (by omega)), d7 k hk hk2]
theorem pf_pt {f : Int32} (ih : PFS u N o i f) : PFT u N o i f := by
  intro G S c X W n h hX hO hfn
  have hw : ∃ w r W', X ++ (13, 0) :: W = (w, r) :: W' ∧ (w = 12 ∨ w = 13) := by
    obtain ⟨q, R, e1, e2⟩ := head_app (X := X) (W := (13, 0) :: W) rfl
    refine ⟨q.1, q.2, R, e1, ?_⟩
    rcases e2 with z | z
    · exact Or.inl (hX q z).1
    · rw [z]
      exact Or.inr rfl
  obtain ⟨w, r, W', hw1, hw2⟩ := hw
  exact ih G S c [] (X ++ (13, 0) :: W) n w r W' hw1 hw2 h (fun x hx => by cases hx) (fun x hx => by cases hx) hfn
theorem pf_pt2 (hu : HU u N) {j a : Nat} {C : List Cd} {f : Int32} (ih1 : PMS u N o i j a C) (hj : u j = 124) (ih2 : PFT u N o (j + 1) f) : PFT u N o i f := by
  intro G S c X W n h hX hO hfn
  obtain ⟨n', G1, S1, d1, d2, d3, d4, d5, d6, d7⟩ := pt_or hu ih1 hj h hX hO hfn
  obtain ⟨G3, S3, f1, f2⟩ := ih2 G1 S1 (c + C.length + 1) [(12, c + C.length)] W n' d3 (fun x hx => by rw [List.mem_singleton.mp hx]; exact ⟨rfl, by show c + C.length < c + C.length + 1; omega⟩) d4 d2
  exact ⟨G3, S3, d1.trans f1, f2⟩
/-- a ) is passed -/
theorem m_out (hu : HU u N) {b : (Nat → Int32) → (Nat → Nat → Int32) → Int32 × (Nat → Int32) × (Nat → Nat → Int32)} {m c : Nat} {Y W : List (Nat × Nat)} {G : Nat → Int32} {S : Nat → Nat → Int32} (hi : u i = 41) (hY : ∀ y, y ∈ Y → y.1 = 11 ∨ y.1 = 12) (hO : OpAt (S 12) Y) (h : MSt u N G S i (o + 1) c (Y ++ (13, 0) :: W)) : ∃ G1 S1, K_X11_readsCondition_92 b (m + 1) G S = (if W = [] then (1, G1, S1) else k_lt2 (sp_X11_endsPiece G1 S1) (fun F R => K_X11_readsCondition_92 b m F R)) ∧ MSt u N G1 S1 (i + 1) o c W ∧ Lnd (S 12) (S1 12) Y c := by
  have hN := hu.1
  have hle := HU_le hu i
  have hiN := h.2.2.2.2.2.2.2.1
  have hc := h.2.2.2.2.2.2.2.2.2
  have hl := h.2.2.2.2.2.2.2.2.1
  rw [List.length_append, List.length_cons] at hl
  have hi2 : u i ≠ 256 := by omega
  have hlt := HU_in hu hi2
  obtain ⟨G2, S2, r1, r2, r3⟩ := m_lands (a0 := 1) (P := fun n => n = 11 ∨ n = 12) (q := (13, 0)) (W := W) (F0 := G) hu (Or.inr ⟨rfl, rfl⟩) (by show ¬ (13 = 11 ∨ 13 = 12); omega) h.2.2.2.1 (by omega) Y 8589934592 G S (by omega) hY hO h
  have p := m_pop r2
  have e26 : G2 26 - 1 = nI W.length := by
    rw [r2.2.2.2.2.1]
    exact nI_pred _
  refine ⟨upd (upd (upd G2 26 (G2 26 - 1)) 24 (G 24 - 1)) 15 (G 15 + 1), S2, ?_, ?_, r3⟩
  · have r1' : sp_X11_lands G S 1 = (G2, S2) := r1
    rw [K92_e]
    unfold KB_X11_readsCondition_92
    simp only [k_e]
    rw [m_here hu h, if_sg 41 41 rfl hle (by omega), if_pos hi, r1']
    simp only [k_t2]
    rw [e26]
    by_cases z : W = []
    · rw [if_pos z, if_pos (by rw [z]; rfl)]
    · have h0 : 0 < W.length := List.length_pos_iff.mpr z
      rw [if_neg z, if_neg (nI_ne0 h0 (by omega))]
  · obtain ⟨h1, h2, h3, h4, h5, h6, h7, h8, h9, h10⟩ := p
    refine ⟨?_, ?_, ?_, ?_, ?_, h6, h7, by omega, by omega, by omega⟩
    · rw [uu, if_pos rfl, h.1, nI_1]
    · simp (decide := true) only [uu, if_false] at h2 ⊢; exact h2
    · rw [uu, if_neg (by decide), uu, if_pos rfl, h.2.2.1, nI_pred]
    · simp (decide := true) only [uu, if_false] at h4 ⊢; exact h4
    · rw [uu, if_neg (by decide), uu, if_neg (by decide)]; exact h5
theorem pm_par (hu : HU u N) {j a : Nat} {C : List Cd} (q : u i = 40) (ho : o < 6) (ih : PMT u N (o + 1) (i + 1) j a C) (hj : u j = 41) : PMP u N o i (j + 1) C := by
  intro G S c W n hW hW0 h hfn
  have hN := hu.1
  have hiN := h.2.2.2.2.2.2.2.1
  obtain ⟨n, rfl⟩ : ∃ n', n = n' + 1 := ⟨n - 1, by omega⟩
  obtain ⟨G1, S1, a1, a2, a3⟩ := (m_in (n := n) hu h ho).2 q
  obtain ⟨n', m', Y, G2, S2, b1, b2, b3, b4, b5, b6, b7⟩ := ih G1 S1 c [] W n a2 (fun x hx => by cases hx) (fun x hx => by cases hx) (by omega)
  have hjN := b4.2.2.2.2.2.2.2.1
  obtain ⟨m', rfl⟩ : ∃ t, m' = t + 1 := ⟨m' - 1, by omega⟩
  obtain ⟨G3, S3, d1, d2, d3⟩ := m_out (b := K_X11_readsCondition_40 n') (m := m') hu hj (fun y hy => (b5 y hy).1) b6 b4
  obtain ⟨g1, g2, g3⟩ := b7 (S3 12) d3
  have hl := d2.2.2.2.2.2.2.2.2.1
  have hjlt := d2.2.2.2.2.2.2.2.1
  refine ⟨8589934592, n', m', G3, S3, ?_, by omega, by omega, by omega, d2, g1, fun k hk => ?_⟩
  · rw [a1, b1, d1, if_neg hW0]
    rfl
  · rw [g3 k hk (fun x hx => by cases hx), a3]
theorem pf_parF (hu : HU u N) {j a : Nat} {C : List Cd} (q : u i = 40) (ho : o < 6) (ih : PMT u N (o + 1) (i + 1) j a C) (h41 : u j ≠ 41) (h38 : u j ≠ 38) (h124 : u j ≠ 124) : PFP u N o i (ft 1 j) := by
  intro G S c W n hW hW0 h hfn
  have hN := hu.1
  have hiN := h.2.2.2.2.2.2.2.1
  obtain ⟨n, rfl⟩ : ∃ n', n = n' + 1 := ⟨n - 1, by omega⟩
  obtain ⟨G1, S1, a1, a2, a3⟩ := (m_in (n := n) hu h ho).2 q
  obtain ⟨n', m', Y, G2, S2, b1, b2, b3, b4, b5, b6, b7⟩ := ih G1 S1 c [] W n a2 (fun x hx => by cases hx) (fun x hx => by cases hx) (by omega)
  have hjN := b4.2.2.2.2.2.2.2.1
  have hle := HU_le hu j
  obtain ⟨m', rfl⟩ : ∃ t, m' = t + 1 := ⟨m' - 1, by omega⟩
  refine ⟨upd G2 17 (ft 1 j), S2, ?_, by rw [uu, if_pos rfl]⟩
  rw [a1, b1, K92_e]
  unfold KB_X11_readsCondition_92
  simp only [k_e]
  rw [m_here hu b4, if_sg 41 41 rfl hle (by omega), if_neg h41, if_sg 38 38 rfl hle (by omega), if_neg h38, if_sg 124 124 rfl hle (by omega), if_neg h124, m_wrong b4]
  simp only [k_t3]
theorem pf_parG (hu : HU u N) {f : Int32} (q : u i = 40) (ho : o < 6) (ih : PFT u N (o + 1) (i + 1) f) : PFP u N o i f := by
  intro G S c W n hW hW0 h hfn
  have hN := hu.1
  have hiN := h.2.2.2.2.2.2.2.1
  obtain ⟨n, rfl⟩ : ∃ n', n = n' + 1 := ⟨n - 1, by omega⟩
  obtain ⟨G1, S1, a1, a2, a3⟩ := (m_in (n := n) hu h ho).2 q
  obtain ⟨G2, S2, b1, b2⟩ := ih G1 S1 c [] W n a2 (fun x hx => by cases hx) (fun x hx => by cases hx) (by omega)
  exact ⟨G2, S2, a1.trans b1, b2⟩
end RM8
