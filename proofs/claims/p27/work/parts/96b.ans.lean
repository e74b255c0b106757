/-! ===== calls: the answers, and the relation behind them ===== -/
theorem ans_table {F G : Nat → Int32} {R S : Nat → Nat → Int32} (h : URel F R G S) (a0 a1 : Int32) : UAns URel (sp_X10_table F R a0 a1) (sp_X11_table G S a0 a1) := by
  have u := tab_table h.1 a0 a1
  have c := fr_sp_X10_table F R a0 a1
  have m := fr_sp_X11_table G S a0 a1
  exact ⟨u.1, urel_tab h u.2 (rng_table h.2.2.2.2 a0 a1) (fun k hk => c.1 k (by simp [md_X10_table] <;> omega)) (fun k hk => m.1 k (by simp [md_X11_table] <;> omega)) (fun k hk => c.2 k (by simp [mr_X10_table] <;> omega)) (fun k hk => m.2 k (by simp [mr_X11_table] <;> omega))⟩
theorem ans_cloth {F G : Nat → Int32} {R S : Nat → Nat → Int32} (h : URel F R G S) (a0 : Int32) : UAns URel (sp_X10_cloth F R a0) (sp_X11_cloth G S a0) := by
  have u := tab_cloth h.1 a0
  have c := fr_sp_X10_cloth F R a0
  have m := fr_sp_X11_cloth G S a0
  exact ⟨u.1, urel_tab h u.2 (rng_cloth h.2.2.2.2 a0) (fun k hk => c.1 k (by simp [md_X10_cloth] <;> omega)) (fun k hk => m.1 k (by simp [md_X11_cloth] <;> omega)) (fun k hk => c.2 k (by simp [mr_X10_cloth] <;> omega)) (fun k hk => m.2 k (by simp [mr_X11_cloth] <;> omega))⟩
theorem ans_thing {F G : Nat → Int32} {R S : Nat → Nat → Int32} (h : URel F R G S) (a0 a1 a2 a3 a4 a5 : Int32) : UAns URel (sp_X10_thing F R a0 a1 a2 a3 a4 a5) (sp_X11_thing G S a0 a1 a2 a3 a4 a5) := by
  have u := tab_thing h.1 a0 a1 a2 a3 a4 a5
  have c := fr_sp_X10_thing F R a0 a1 a2 a3 a4 a5
  have m := fr_sp_X11_thing G S a0 a1 a2 a3 a4 a5
  exact ⟨u.1, urel_tab h u.2 (rng_thing h.2.2.2.2 a0 a1 a2 a3 a4 a5) (fun k hk => c.1 k (by simp [md_X10_thing] <;> omega)) (fun k hk => m.1 k (by simp [md_X11_thing] <;> omega)) (fun k hk => c.2 k (by simp [mr_X10_thing] <;> omega)) (fun k hk => m.2 k (by simp [mr_X11_thing] <;> omega))⟩
theorem ans_more {F G : Nat → Int32} {R S : Nat → Nat → Int32} (h : URel F R G S) (a0 a1 a2 a3 : Int32) : UAns URel (sp_X10_more F R a0 a1 a2 a3) (sp_X11_more G S a0 a1 a2 a3) := by
  have u := tab_more h.1 a0 a1 a2 a3
  have c := fr_sp_X10_more F R a0 a1 a2 a3
  have m := fr_sp_X11_more G S a0 a1 a2 a3
  exact ⟨u.1, urel_tab h u.2 (rng_more h.2.2.2.2 a0 a1 a2 a3) (fun k hk => c.1 k (by simp [md_X10_more] <;> omega)) (fun k hk => m.1 k (by simp [md_X11_more] <;> omega)) (fun k hk => c.2 k (by simp [mr_X10_more] <;> omega)) (fun k hk => m.2 k (by simp [mr_X11_more] <;> omega))⟩
theorem ans_away {F G : Nat → Int32} {R S : Nat → Nat → Int32} (h : URel F R G S) (a0 : Int32) : UAns URel (sp_X10_away F R a0) (sp_X11_away G S a0) := by
  have u := tab_away h.1 a0
  have c := fr_sp_X10_away F R a0
  have m := fr_sp_X11_away G S a0
  exact ⟨u.1, urel_tab h u.2 (rng_away h.2.2.2.2 a0) (fun k hk => c.1 k (by simp [md_X10_away] <;> omega)) (fun k hk => m.1 k (by simp [md_X11_away] <;> omega)) (fun k hk => c.2 k (by simp [mr_X10_away] <;> omega)) (fun k hk => m.2 k (by simp [mr_X11_away] <;> omega))⟩
theorem ans_seed {F G : Nat → Int32} {R S : Nat → Nat → Int32} (h : URel F R G S) (a0 : Int32) : UAns URel (sp_X10_seed F R a0) (sp_X11_seed G S a0) := by
  have u := tab_seed h.1 a0
  have c := fr_sp_X10_seed F R a0
  have m := fr_sp_X11_seed G S a0
  exact ⟨u.1, urel_tab h u.2 (rng_seed h.2.2.2.2 a0) (fun k hk => c.1 k (by simp [md_X10_seed] <;> omega)) (fun k hk => m.1 k (by simp [md_X11_seed] <;> omega)) (fun k hk => c.2 k (by simp [mr_X10_seed] <;> omega)) (fun k hk => m.2 k (by simp [mr_X11_seed] <;> omega))⟩
theorem ans_keep {F G : Nat → Int32} {R S : Nat → Nat → Int32} (h : URel F R G S) : UAns URel (sp_X10_keep F R) (sp_X11_keep G S) := by
  have u := tab_keep h.1
  have c := fr_sp_X10_keep F R
  have m := fr_sp_X11_keep G S
  exact ⟨u.1, urel_tab h u.2 (rng_keep h.2.2.2.2) (fun k hk => c.1 k (by simp [md_X10_keep] <;> omega)) (fun k hk => m.1 k (by simp [md_X11_keep] <;> omega)) (fun k hk => c.2 k (by simp [mr_X10_keep] <;> omega)) (fun k hk => m.2 k (by simp [mr_X11_keep] <;> omega))⟩
theorem ans_undo {F G : Nat → Int32} {R S : Nat → Nat → Int32} (h : URel F R G S) : UAns URel (sp_X10_undo F R) (sp_X11_undo G S) := by
  have u := tab_undo h.1
  have c := fr_sp_X10_undo F R
  have m := fr_sp_X11_undo G S
  exact ⟨u.1, urel_tab h u.2 (rng_undo h.2.2.2.2) (fun k hk => c.1 k (by simp [md_X10_undo] <;> omega)) (fun k hk => m.1 k (by simp [md_X11_undo] <;> omega)) (fun k hk => c.2 k (by simp [mr_X10_undo] <;> omega)) (fun k hk => m.2 k (by simp [mr_X11_undo] <;> omega))⟩
theorem ans_feed {F G : Nat → Int32} {R S : Nat → Nat → Int32} (h : URel F R G S) (a b c d e : Int32) : UAns URel (sp_X10_feed F R a b c d e) (sp_X11_feed G S a b c d e) := by
  have u := feed_rel h.2.1 a b c d e
  have x := fr_sp_X10_feed F R a b c d e
  have m := fr_sp_X11_feed G S a b c d e
  obtain ⟨h1, h2, h3, h4, h5⟩ := h
  exact ⟨u.1, UTab_e h1 (fun k hk => x.1 k (by simp [md_X10_feed] <;> omega)) (fun k hk => m.1 k (by simp [md_X11_feed] <;> omega)) (fun k hk => x.2 k (by simp [mr_X10_feed] <;> omega)) (fun k hk => m.2 k (by simp [mr_X11_feed] <;> omega)), u.2, ULaw_e h3 (x.1 274 rfl) (x.1 278 rfl) (m.1 28 rfl) (fun k k1 k2 => x.2 k (by simp [mr_X10_feed] <;> omega)) (fun k k1 k2 => m.2 k (by simp [mr_X11_feed] <;> omega)), UPull_e h4 (x.1 177 rfl) (m.1 19 rfl) (x.2 12 rfl) (m.2 10 rfl), URng_e h5 (fun k hk => m.1 k (by simp [md_X11_feed] <;> omega)) (fun k hk => m.2 k (by simp [mr_X11_feed] <;> omega))⟩
theorem ans_pull {F G : Nat → Int32} {R S : Nat → Nat → Int32} (h : URel F R G S) (a : Int32) : UAns URel (sp_X10_pull F R a) (sp_X11_pull G S a) := by
  have u := pull_rel h.2.1 h.2.2.2.1 a
  have x := fr_sp_X10_pull F R a
  have m := fr_sp_X11_pull G S a
  obtain ⟨h1, h2, h3, h4, h5⟩ := h
  exact ⟨u.1, UTab_e h1 (fun k hk => x.1 k (by simp [md_X10_pull] <;> omega)) (fun k hk => m.1 k (by simp [md_X11_pull] <;> omega)) (fun k hk => x.2 k (by simp [mr_X10_pull] <;> omega)) (fun k hk => m.2 k (by simp [mr_X11_pull] <;> omega)), u.2.1, ULaw_e h3 (x.1 274 rfl) (x.1 278 rfl) (m.1 28 rfl) (fun k k1 k2 => x.2 k (by simp [mr_X10_pull] <;> omega)) (fun k k1 k2 => m.2 k (by simp [mr_X11_pull] <;> omega)), u.2.2, URng_e h5 (fun k hk => m.1 k (by simp [md_X11_pull] <;> omega)) (fun k hk => m.2 k (by simp [mr_X11_pull] <;> omega))⟩
theorem ans_law {F G : Nat → Int32} {R S : Nat → Nat → Int32} (h : URel F R G S) (a : Int32) : UAns URel (sp_X10_law F R a) (sp_X11_law G S a) := by
  have u := law_rel h.2.1 h.2.2.1 a
  have x := fr_sp_X10_law F R a
  have m := fr_sp_X11_law G S a
  obtain ⟨h1, h2, h3, h4, h5⟩ := h
  exact ⟨u.1, UTab_e h1 (fun k hk => x.1 k (by simp [md_X10_law] <;> omega)) (fun k hk => m.1 k (by simp [md_X11_law] <;> omega)) (fun k hk => x.2 k (by simp [mr_X10_law] <;> omega)) (fun k hk => m.2 k (by simp [mr_X11_law] <;> omega)), u.2.1, u.2.2, UPull_e h4 (x.1 177 rfl) (m.1 19 rfl) (x.2 12 rfl) (m.2 10 rfl), URng_e h5 (fun k hk => m.1 k (by simp [md_X11_law] <;> omega)) (fun k hk => m.2 k (by simp [mr_X11_law] <;> omega))⟩
theorem ans_done {F G : Nat → Int32} {R S : Nat → Nat → Int32} (h : URel F R G S) : UAns URel (sp_X10_done F R) (sp_X11_done G S) := done_rel h
theorem ans_put {F G : Nat → Int32} {R S : Nat → Nat → Int32} (h : URel F R G S) (a b : Int32) : UAns URel (sp_X10_put F R a b) (sp_X11_put G S a b) := put_rel h a b
theorem fr2_pace {F G : Nat → Int32} {R S : Nat → Nat → Int32} (h : URel F R G S) : URel (sp_X10_pace F R).2.1 (sp_X10_pace F R).2.2 (sp_X11_pace G S).2.1 (sp_X11_pace G S).2.2 := by
  have c := fr_sp_X10_pace F R
  have m := fr_sp_X11_pace G S
  have t : (sp_X11_pace G S).2.1 3 = G 3 := kt_sp_X11_pace G G S rfl
  refine URel_e h (fun k hk => c.1 k (by unfold cF at hk; simp [md_X10_pace] <;> omega)) (fun k hk => ?_) (fun k hk => c.2 k (by unfold cR at hk; simp [mr_X10_pace] <;> omega)) (fun k hk => m.2 k (by unfold cS at hk; simp [mr_X11_pace] <;> omega))
  by_cases z : k = 3
  · rw [z]; exact t
  · exact m.1 k (by unfold cG at hk; simp [md_X11_pace] <;> omega)
theorem fr2_best {F G : Nat → Int32} {R S : Nat → Nat → Int32} (h : URel F R G S) (a0 : Int32) : URel (sp_X10_best F R a0).2.1 (sp_X10_best F R a0).2.2 (sp_X11_best G S a0).2.1 (sp_X11_best G S a0).2.2 := by
  have c := fr_sp_X10_best F R a0
  have m := fr_sp_X11_best G S a0
  have t : (sp_X11_best G S a0).2.1 3 = G 3 := kt_sp_X11_best G G S a0 rfl
  refine URel_e h (fun k hk => c.1 k (by unfold cF at hk; simp [md_X10_best] <;> omega)) (fun k hk => ?_) (fun k hk => c.2 k (by unfold cR at hk; simp [mr_X10_best] <;> omega)) (fun k hk => m.2 k (by unfold cS at hk; simp [mr_X11_best] <;> omega))
  by_cases z : k = 3
  · rw [z]; exact t
  · exact m.1 k (by unfold cG at hk; simp [md_X11_best] <;> omega)
theorem fr2_most {F G : Nat → Int32} {R S : Nat → Nat → Int32} (h : URel F R G S) (a0 : Int32) : URel (sp_X10_most F R a0).2.1 (sp_X10_most F R a0).2.2 (sp_X11_most G S a0).2.1 (sp_X11_most G S a0).2.2 := by
  have c := fr_sp_X10_most F R a0
  have m := fr_sp_X11_most G S a0
  have t : (sp_X11_most G S a0).2.1 3 = G 3 := kt_sp_X11_most G G S a0 rfl
  refine URel_e h (fun k hk => c.1 k (by unfold cF at hk; simp [md_X10_most] <;> omega)) (fun k hk => ?_) (fun k hk => c.2 k (by unfold cR at hk; simp [mr_X10_most] <;> omega)) (fun k hk => m.2 k (by unfold cS at hk; simp [mr_X11_most] <;> omega))
  by_cases z : k = 3
  · rw [z]; exact t
  · exact m.1 k (by unfold cG at hk; simp [md_X11_most] <;> omega)
theorem fr2_worth {F G : Nat → Int32} {R S : Nat → Nat → Int32} (h : URel F R G S) (a0 a1 : Int32) : URel (sp_X10_worth F R a0 a1).2.1 (sp_X10_worth F R a0 a1).2.2 (sp_X11_worth G S a0 a1).2.1 (sp_X11_worth G S a0 a1).2.2 := by
  have c := fr_sp_X10_worth F R a0 a1
  have m := fr_sp_X11_worth G S a0 a1
  have t : (sp_X11_worth G S a0 a1).2.1 3 = G 3 := kt_sp_X11_worth G G S a0 a1 rfl
  refine URel_e h (fun k hk => c.1 k (by unfold cF at hk; simp [md_X10_worth] <;> omega)) (fun k hk => ?_) (fun k hk => c.2 k (by unfold cR at hk; simp [mr_X10_worth] <;> omega)) (fun k hk => m.2 k (by unfold cS at hk; simp [mr_X11_worth] <;> omega))
  by_cases z : k = 3
  · rw [z]; exact t
  · exact m.1 k (by unfold cG at hk; simp [md_X11_worth] <;> omega)
theorem fr2_odds {F G : Nat → Int32} {R S : Nat → Nat → Int32} (h : URel F R G S) (a0 a1 a2 : Int32) : URel (sp_X10_odds F R a0 a1 a2).2.1 (sp_X10_odds F R a0 a1 a2).2.2 (sp_X11_odds G S a0 a1 a2).2.1 (sp_X11_odds G S a0 a1 a2).2.2 := by
  have c := fr_sp_X10_odds F R a0 a1 a2
  have m := fr_sp_X11_odds G S a0 a1 a2
  have t : (sp_X11_odds G S a0 a1 a2).2.1 3 = G 3 := kt_sp_X11_odds G G S a0 a1 a2 rfl
  refine URel_e h (fun k hk => c.1 k (by unfold cF at hk; simp [md_X10_odds] <;> omega)) (fun k hk => ?_) (fun k hk => c.2 k (by unfold cR at hk; simp [mr_X10_odds] <;> omega)) (fun k hk => m.2 k (by unfold cS at hk; simp [mr_X11_odds] <;> omega))
  by_cases z : k = 3
  · rw [z]; exact t
  · exact m.1 k (by unfold cG at hk; simp [md_X11_odds] <;> omega)
theorem fr2_should {F G : Nat → Int32} {R S : Nat → Nat → Int32} (h : URel F R G S) (a0 a1 : Int32) : URel (sp_X10_should F R a0 a1).2.1 (sp_X10_should F R a0 a1).2.2 (sp_X11_should G S a0 a1).2.1 (sp_X11_should G S a0 a1).2.2 := by
  have c := fr_sp_X10_should F R a0 a1
  have m := fr_sp_X11_should G S a0 a1
  have t : (sp_X11_should G S a0 a1).2.1 3 = G 3 := kt_sp_X11_should G G S a0 a1 rfl
  refine URel_e h (fun k hk => c.1 k (by unfold cF at hk; simp [md_X10_should] <;> omega)) (fun k hk => ?_) (fun k hk => c.2 k (by unfold cR at hk; simp [mr_X10_should] <;> omega)) (fun k hk => m.2 k (by unfold cS at hk; simp [mr_X11_should] <;> omega))
  by_cases z : k = 3
  · rw [z]; exact t
  · exact m.1 k (by unfold cG at hk; simp [md_X11_should] <;> omega)
