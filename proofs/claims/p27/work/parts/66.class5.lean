/-! ===== the class's reader: & and | ===== -/
section RC5
variable {u : Nat → Nat} {N : Nat} {Ps : PsT} {Pf : PfT} {o : Nat}
theorem c_raw {F : Nat → Int32} {R : Nat → Nat → Int32} {i p : Nat} {x y : Int32} (hu : HU u N) (h : CSt u N F R i p) (hp : p + 1 ≤ i) : CSt u N (sp_X2_emit_25 F R x y).2.1 (sp_X2_emit_25 F R x y).2.2 i (p + 1) ∧ ((sp_X2_emit_25 F R x y).2.2 26 p = x ∧ (sp_X2_emit_25 F R x y).2.2 27 p = y) ∧ (∀ q, q ≠ p → (sp_X2_emit_25 F R x y).2.2 26 q = R 26 q ∧ (sp_X2_emit_25 F R x y).2.2 27 q = R 27 q) := by
  have hN := hu.1
  have hi : i ≤ N := h.2.2.2.2.1
  rw [c_emit h.2.2.1 (by omega)]
  refine ⟨c_emit_st h hp, ?_, ?_⟩
  · dsimp only
    rw [c_emit_r.1, c_emit_r.2, uu, uu, if_pos rfl, if_pos rfl]
    exact ⟨rfl, rfl⟩
  · intro q hq
    dsimp only
    rw [c_emit_r.1, c_emit_r.2, uu, uu, if_neg hq, if_neg hq]
    exact ⟨rfl, rfl⟩
theorem c_chain (hu : HU u N) {k k' : Nat} {E : Nat → Prop} {sub : MM} {L : Nat → ML2} {c oc : Nat} {sgn op : Int32} (hsg : sgn = nI c) (hc : c < 256) (hop : op = nI (uo oc)) (hoc : 11 ≤ oc) (hs : CC u N Ps Pf k o E sub) (fkL : ∀ n F R h y, ¬ F 532 = 0 → (L n F R h y).1 532 = F 532) (hL : ∀ n F R y z, L (n + 1) F R y z = chB sub sgn op (L n) F R y z) (r0 : ∀ i j a L, Ps k o i j a L → E (u j) → u j ≠ c → Ps k' o i j L.length L) (rF : ∀ i f, Pf k o i f → Pf k' o i f) (r1 : ∀ i j j2 a a2 L L2, Ps k o i j a L → E (u j) → u j = c → Ps k' o (j + 1) j2 a2 L2 → Ps k' o i j2 L.length (L ++ (oc, 1 + a2, 1 + L2.length) :: L2)) (rG : ∀ i j a L f, Ps k o i j a L → E (u j) → u j = c → Pf k' o (j + 1) f → Pf k' o i f) :
    ∀ d i, 200 ≤ i + d → ∀ (n p y : Nat) (F : Nat → Int32) (R : Nat → Nat → Int32) (h : Int32) (xs : List Nat), d < n → CSt u N F R i p → y ≤ i → Chn (R 27) h xs → (∀ x, x ∈ xs → x < p) → xs.length ≤ i →
      (∃ f, ¬ f = 0 ∧ Pf k' o i f ∧ (L n (sub F R).1 (sub F R).2 h (nI y)).1 532 = f) ∨ ∃ (j a : Nat) (C : List Cd), Ps k' o i j a C ∧ (E (u j) ∧ u j ≠ c) ∧ i + C.length ≤ j ∧ CSt u N (L n (sub F R).1 (sub F R).2 h (nI y)).1 (L n (sub F R).1 (sub F R).2 h (nI y)).2 j (p + C.length) ∧ CodeC ((L n (sub F R).1 (sub F R).2 h (nI y)).2 26) ((L n (sub F R).1 (sub F R).2 h (nI y)).2 27) p C ∧ (∀ q, q < p → (L n (sub F R).1 (sub F R).2 h (nI y)).2 26 q = R 26 q ∧ (q ∉ xs → (L n (sub F R).1 (sub F R).2 h (nI y)).2 27 q = R 27 q)) ∧ (∀ x, x ∈ xs → (L n (sub F R).1 (sub F R).2 h (nI y)).2 27 x = nI (p + C.length)) := by
  intro d
  induction d using Nat.strongRecOn with
  | _ d ih =>
    intro i hi n p y F R h xs hn hst hy hch hxs hlen
    obtain ⟨n, rfl⟩ : ∃ n', n = n' + 1 := ⟨n - 1, by omega⟩
    have hN := hu.1
    have hpi := hst.2.2.2.1
    have hiN := hst.2.2.2.2.1
    rcases hs F R i p hst with ⟨f, f1, f2, f3⟩ | ⟨j, a, P, g1, g2, g3, g4, g5, g6⟩
    · refine Or.inl ⟨f, f1, rF i f f2, ?_⟩
      rw [fkL _ _ _ _ _ (by rw [f3]; exact f1)]
      exact f3
    · have hle := HU_le hu j
      have hjN := g4.2.2.2.2.1
      have ch1 : Chn ((sub F R).2 27) h xs := Chn_eq xs h (fun w hw => (g6 w (hxs w hw)).2) hch
      rw [hL]
      by_cases q : u j = c
      · have q2 : u j ≠ 256 := by omega
        have hj := HU_in hu q2
        have C1 := c_adv hu g4 q2
        have C := c_raw (x := op) (y := h) hu C1 (by omega)
        · have hem := c_emit (R := (sub F R).2) (x := op) (y := h) C1.2.2.1 (by omega)
          have ex : chB sub sgn op (L n) (sub F R).1 (sub F R).2 h (nI y) = L n (sub (sp_X2_emit_25 (upd (sub F R).1 531 ((sub F R).1 531 + 1)) (sub F R).2 op h).2.1 (sp_X2_emit_25 (upd (sub F R).1 531 ((sub F R).1 531 + 1)) (sub F R).2 op h).2.2).1 (sub (sp_X2_emit_25 (upd (sub F R).1 531 ((sub F R).1 531 + 1)) (sub F R).2 op h).2.1 (sp_X2_emit_25 (upd (sub F R).1 531 ((sub F R).1 531 + 1)) (sub F R).2 op h).2.2).2 (nI (p + P.length)) (nI (y + 1)) := by
            unfold chB
            simp only [k_e, k_e2, k_e3]
            rw [if_neg (show ¬ (200 : Int32) ≤ nI y from nI_ge (a := y) (b := 200) (by omega) (by omega)), c_sign hu g4, if_sg sgn c hsg hle hc, if_pos q, nI_1, hem]
          rw [ex]
          have h27 := C.2.1.2
          have hch2 : Chn ((sp_X2_emit_25 (upd (sub F R).1 531 ((sub F R).1 531 + 1)) (sub F R).2 op h).2.2 27) (nI (p + P.length)) ((p + P.length) :: xs) := by
            refine ⟨rfl, by omega, fun w hw => by have := hxs w hw; omega, ?_⟩
            rw [h27]
            exact Chn_eq xs h (fun w hw => (C.2.2 w (by have := hxs w hw; omega)).2) ch1
          rcases ih (d - 1) (by omega) (j + 1) (by omega) n (p + P.length + 1) (y + 1) _ _ (nI (p + P.length)) ((p + P.length) :: xs) (by omega) C.1 (by omega) hch2 (fun w hw => by rcases List.mem_cons.mp hw with e | e; omega; have := hxs w e; omega) (by simp only [List.length_cons]; omega) with ⟨f, f1, f2, f3⟩ | ⟨j2, a2, C2, l1, l2, l3, l4, l5, l6, l7⟩
          · exact Or.inl ⟨f, f1, rG i j a P f g1 g2 q f2, f3⟩
          · have el : (P ++ (oc, 1 + a2, 1 + C2.length) :: C2).length = P.length + 1 + C2.length := by simp; omega
            refine Or.inr ⟨j2, P.length, _, r1 i j j2 a a2 P C2 g1 g2 q l1, l2, by omega, ?_, ?_, fun z hz => ⟨?_, fun hz2 => ?_⟩, fun x hx => ?_⟩
            · rw [el, ← Nat.add_assoc, ← Nat.add_assoc]
              exact l4
            · rw [CodeC_app]
              refine ⟨CodeC_eq P p (fun z z1 z2 => ⟨?_, ?_⟩) g5, ⟨?_, fun _ => ?_, l5⟩⟩
              · exact (l6 z (by omega)).1.trans (C.2.2 z (by omega)).1
              · refine ((l6 z (by omega)).2 ?_).trans (C.2.2 z (by omega)).2
                intro hm
                rcases List.mem_cons.mp hm with e | e
                · omega
                · have := hxs z e
                  omega
              · exact (l6 _ (by omega)).1.trans (C.2.1.1.trans hop)
              · rw [l7 _ List.mem_cons_self]
                unfold cvC
                rw [if_neg (by show ¬ oc ≤ 1; omega)]
                show nI (p + P.length + 1 + C2.length) = nI (p + P.length + (1 + C2.length))
                rw [Nat.add_assoc]
            · exact (l6 z (by omega)).1.trans ((C.2.2 z (by omega)).1.trans (g6 z hz).1)
            · refine ((l6 z (by omega)).2 ?_).trans ((C.2.2 z (by omega)).2.trans (g6 z hz).2)
              intro hm
              rcases List.mem_cons.mp hm with e | e
              · omega
              · exact hz2 e
            · rw [l7 x (List.mem_cons_of_mem _ hx), el]
              congr 1
              omega
      · have ex : chB sub sgn op (L n) (sub F R).1 (sub F R).2 h (nI y) = sp_X2_landHere_25 (sub F R).1 (sub F R).2 h := by
          unfold chB chB56
          simp only [k_e, k_e2]
          rw [c_sign hu g4, if_sg sgn c hsg hle hc, if_neg q]
          split <;> rfl
        rw [ex]
        have e1 := c_land_f (F := (sub F R).1) 8589934592 (sub F R).2 h 0
        have e2 := c_land (F := (sub F R).1) xs 8589934592 0 (sub F R).2 h (by omega) (by omega) ch1
        have e3 : sp_X2_landHere_25 (sub F R).1 (sub F R).2 h = K_X2_landHere_25_4 (sub F R).1 8589934592 (sub F R).2 h (nI 0) := rfl
        have e4 : (sp_X2_landHere_25 (sub F R).1 (sub F R).2 h).1 = (sub F R).1 := e1
        rw [← e3] at e2
        have hnx : ∀ z, p ≤ z → z ∉ xs := fun z hz hm => by have := hxs z hm; omega
        refine Or.inr ⟨j, P.length, P, r0 i j a P g1 g2 q, ⟨g2, q⟩, g3, ?_, ?_, fun z hz => ⟨?_, fun hz2 => ?_⟩, fun x hx => ?_⟩
        · rw [e4]
          obtain ⟨t1, t2, t3, t4, t5, t6, t7⟩ := g4
          refine ⟨t1, t2, t3, t4, t5, t6, ?_⟩
          rw [e2.1 34 (by omega)]
          exact t7
        · refine CodeC_eq P p (fun z z1 z2 => ⟨?_, ?_⟩) g5
          · rw [e2.1 26 (by omega)]
          · rw [e2.2 z, if_neg (hnx z z1)]
        · rw [e2.1 26 (by omega)]
          exact (g6 z hz).1
        · rw [e2.2 z, if_neg hz2]
          exact (g6 z hz).2
        · rw [e2.2 x, if_pos hx]
          exact g4.2.2.1
theorem c_both (hu : HU u N) {k k' : Nat} {E : Nat → Prop} {sub : MM} {L : Nat → ML2} {c oc : Nat} {sgn op : Int32} (hsg : sgn = nI c) (hc : c < 256) (hop : op = nI (uo oc)) (hoc : 11 ≤ oc) (hs : CC u N Ps Pf k o E sub) (hL : ∀ n F R y z, L (n + 1) F R y z = chB sub sgn op (L n) F R y z) (hL0 : ∀ F R y z, L 0 F R y z = (F, R)) (r0 : ∀ i j a L, Ps k o i j a L → E (u j) → u j ≠ c → Ps k' o i j L.length L) (rF : ∀ i f, Pf k o i f → Pf k' o i f) (r1 : ∀ i j j2 a a2 L L2, Ps k o i j a L → E (u j) → u j = c → Ps k' o (j + 1) j2 a2 L2 → Ps k' o i j2 L.length (L ++ (oc, 1 + a2, 1 + L2.length) :: L2)) (rG : ∀ i j a L f, Ps k o i j a L → E (u j) → u j = c → Pf k' o (j + 1) f → Pf k' o i f) : CC u N Ps Pf k' o (fun v => E v ∧ v ≠ c) (fun F R => k_lt2 (sub F R) (fun F5 R6 => L 8589934592 F5 R6 (-1) 0)) := by
  have fkL : ∀ n F R h y, ¬ F 532 = 0 → (L n F R h y).1 532 = F 532 := by
    intro n F R h y hz
    cases n with
    | zero => rw [hL0]
    | succ n =>
      rw [hL]
      unfold chB chB56 sp_X2_landHere_25
      simp only [k_e, k_e2]
      have n1 : ¬ (-1 : Int32) = sgn := by
        rw [hsg]
        intro z
        have := (sg_c (n := 256) (by omega) c hc).mp z
        omega
      rw [c_none hz, if_neg n1]
      split
      · rw [c_land_f]
      · rw [c_land_f]
  intro F R i p h
  have I := c_chain hu hsg hc hop hoc hs fkL hL r0 rF r1 rG 200 i (by omega) 8589934592 p 0 F R (-1) [] (by omega) h (by omega) rfl (fun x hx => by cases hx) (by simp)
  dsimp only
  rw [k_e2]
  rcases I with z | ⟨j, a, C, l1, l2, l3, l4, l5, l6, l7⟩
  · exact Or.inl z
  · exact Or.inr ⟨j, a, C, l1, l2, l3, l4, l5, fun q hq => ⟨(l6 q hq).1, (l6 q hq).2 (by simp)⟩⟩
end RC5
