section
-- ===== PART A: goes FIRST, ahead of the names: the tables' words, and 'selects' of the private methods out of them =====
/-- a private method of a class that the tables say can be made, by its rows of tables_1 -/
def lw_okq (q : MethodName × Nat) : Prop := (q.1.cls ≠ "java/lang/invoke/MethodHandle" ∧ q.1.cls ≠ "java/lang/invoke/VarHandle") ∧ Cond.instantiable q.1.cls q.2 ∈ tables_1 ∧ Cond.privateMethod q.1 ∈ tables_1 ∧ Cond.instanceMethod q.1 ∈ tables_1
theorem lw_p0 : lw_okq (⟨"ClothPull$LawReader", "clause", "()V"⟩, 5) := ⟨⟨by decide +kernel, by decide +kernel⟩, List.mem_of_getElem? (i := 133) (by decide +kernel), List.mem_of_getElem? (i := 485) (by decide +kernel), List.mem_of_getElem? (i := 486) (by decide +kernel)⟩
theorem lw_p1 : lw_okq (⟨"ClothPull$LawReader", "sign", "()I"⟩, 5) := ⟨⟨by decide +kernel, by decide +kernel⟩, List.mem_of_getElem? (i := 133) (by decide +kernel), List.mem_of_getElem? (i := 489) (by decide +kernel), List.mem_of_getElem? (i := 490) (by decide +kernel)⟩
theorem lw_p2 : lw_okq (⟨"ClothPull$LawReader", "fail", "(I)V"⟩, 5) := ⟨⟨by decide +kernel, by decide +kernel⟩, List.mem_of_getElem? (i := 133) (by decide +kernel), List.mem_of_getElem? (i := 580) (by decide +kernel), List.mem_of_getElem? (i := 581) (by decide +kernel)⟩
theorem lw_p3 : lw_okq (⟨"ClothPull$LawReader", "sum", "(I)V"⟩, 5) := ⟨⟨by decide +kernel, by decide +kernel⟩, List.mem_of_getElem? (i := 133) (by decide +kernel), List.mem_of_getElem? (i := 584) (by decide +kernel), List.mem_of_getElem? (i := 585) (by decide +kernel)⟩
theorem lw_p4 : lw_okq (⟨"ClothPull$LawReader", "product", "(I)V"⟩, 5) := ⟨⟨by decide +kernel, by decide +kernel⟩, List.mem_of_getElem? (i := 133) (by decide +kernel), List.mem_of_getElem? (i := 588) (by decide +kernel), List.mem_of_getElem? (i := 589) (by decide +kernel)⟩
theorem lw_p5 : lw_okq (⟨"ClothPull$LawReader", "factor", "(I)V"⟩, 5) := ⟨⟨by decide +kernel, by decide +kernel⟩, List.mem_of_getElem? (i := 133) (by decide +kernel), List.mem_of_getElem? (i := 592) (by decide +kernel), List.mem_of_getElem? (i := 593) (by decide +kernel)⟩
theorem lw_p6 : lw_okq (⟨"ClothPull$LawReader", "opens", "(I)Z"⟩, 5) := ⟨⟨by decide +kernel, by decide +kernel⟩, List.mem_of_getElem? (i := 133) (by decide +kernel), List.mem_of_getElem? (i := 596) (by decide +kernel), List.mem_of_getElem? (i := 597) (by decide +kernel)⟩
theorem lw_p7 : lw_okq (⟨"ClothPull$LawReader", "pass", "(I)V"⟩, 5) := ⟨⟨by decide +kernel, by decide +kernel⟩, List.mem_of_getElem? (i := 133) (by decide +kernel), List.mem_of_getElem? (i := 600) (by decide +kernel), List.mem_of_getElem? (i := 601) (by decide +kernel)⟩
theorem lw_p8 : lw_okq (⟨"ClothPull$LawReader", "number", "()V"⟩, 5) := ⟨⟨by decide +kernel, by decide +kernel⟩, List.mem_of_getElem? (i := 133) (by decide +kernel), List.mem_of_getElem? (i := 605) (by decide +kernel), List.mem_of_getElem? (i := 606) (by decide +kernel)⟩
theorem lw_p9 : lw_okq (⟨"ClothPull$LawReader", "parts", "(I)V"⟩, 5) := ⟨⟨by decide +kernel, by decide +kernel⟩, List.mem_of_getElem? (i := 133) (by decide +kernel), List.mem_of_getElem? (i := 614) (by decide +kernel), List.mem_of_getElem? (i := 615) (by decide +kernel)⟩
theorem lw_p10 : lw_okq (⟨"ClothPull$LawReader", "pieces", "(I)V"⟩, 5) := ⟨⟨by decide +kernel, by decide +kernel⟩, List.mem_of_getElem? (i := 133) (by decide +kernel), List.mem_of_getElem? (i := 618) (by decide +kernel), List.mem_of_getElem? (i := 619) (by decide +kernel)⟩
theorem lw_p11 : lw_okq (⟨"ClothPull$LawReader", "piece", "(I)V"⟩, 5) := ⟨⟨by decide +kernel, by decide +kernel⟩, List.mem_of_getElem? (i := 133) (by decide +kernel), List.mem_of_getElem? (i := 622) (by decide +kernel), List.mem_of_getElem? (i := 623) (by decide +kernel)⟩
theorem lw_p12 : lw_okq (⟨"ClothPull$LawReader", "comparison", "(I)V"⟩, 5) := ⟨⟨by decide +kernel, by decide +kernel⟩, List.mem_of_getElem? (i := 133) (by decide +kernel), List.mem_of_getElem? (i := 626) (by decide +kernel), List.mem_of_getElem? (i := 627) (by decide +kernel)⟩
theorem lw_p13 : lw_okq (⟨"ClothPull", "tryDrawn", "()V"⟩, 13) := ⟨⟨by decide +kernel, by decide +kernel⟩, List.mem_of_getElem? (i := 22) (by decide +kernel), List.mem_of_getElem? (i := 648) (by decide +kernel), List.mem_of_getElem? (i := 649) (by decide +kernel)⟩
theorem lw_p14 : lw_okq (⟨"ClothPull$Evening", "begin", "()V"⟩, 15) := ⟨⟨by decide +kernel, by decide +kernel⟩, List.mem_of_getElem? (i := 163) (by decide +kernel), List.mem_of_getElem? (i := 674) (by decide +kernel), List.mem_of_getElem? (i := 675) (by decide +kernel)⟩
theorem lw_p15 : lw_okq (⟨"ClothPull$Evening", "moves", "()Z"⟩, 15) := ⟨⟨by decide +kernel, by decide +kernel⟩, List.mem_of_getElem? (i := 163) (by decide +kernel), List.mem_of_getElem? (i := 695) (by decide +kernel), List.mem_of_getElem? (i := 696) (by decide +kernel)⟩
def lw_privs_1 : List (MethodName × Nat) := [(⟨"ClothPull$LawReader", "clause", "()V"⟩, 5), (⟨"ClothPull$LawReader", "sign", "()I"⟩, 5), (⟨"ClothPull$LawReader", "fail", "(I)V"⟩, 5), (⟨"ClothPull$LawReader", "sum", "(I)V"⟩, 5), (⟨"ClothPull$LawReader", "product", "(I)V"⟩, 5), (⟨"ClothPull$LawReader", "factor", "(I)V"⟩, 5), (⟨"ClothPull$LawReader", "opens", "(I)Z"⟩, 5), (⟨"ClothPull$LawReader", "pass", "(I)V"⟩, 5), (⟨"ClothPull$LawReader", "number", "()V"⟩, 5), (⟨"ClothPull$LawReader", "parts", "(I)V"⟩, 5), (⟨"ClothPull$LawReader", "pieces", "(I)V"⟩, 5), (⟨"ClothPull$LawReader", "piece", "(I)V"⟩, 5), (⟨"ClothPull$LawReader", "comparison", "(I)V"⟩, 5), (⟨"ClothPull", "tryDrawn", "()V"⟩, 13), (⟨"ClothPull$Evening", "begin", "()V"⟩, 15), (⟨"ClothPull$Evening", "moves", "()Z"⟩, 15)]
theorem lw_r1 : ∀ q ∈ lw_privs_1, lw_okq q := List.forall_mem_cons.mpr ⟨lw_p0, List.forall_mem_cons.mpr ⟨lw_p1, List.forall_mem_cons.mpr ⟨lw_p2, List.forall_mem_cons.mpr ⟨lw_p3, List.forall_mem_cons.mpr ⟨lw_p4, List.forall_mem_cons.mpr ⟨lw_p5, List.forall_mem_cons.mpr ⟨lw_p6, List.forall_mem_cons.mpr ⟨lw_p7, List.forall_mem_cons.mpr ⟨lw_p8, List.forall_mem_cons.mpr ⟨lw_p9, List.forall_mem_cons.mpr ⟨lw_p10, List.forall_mem_cons.mpr ⟨lw_p11, List.forall_mem_cons.mpr ⟨lw_p12, List.forall_mem_cons.mpr ⟨lw_p13, List.forall_mem_cons.mpr ⟨lw_p14, List.forall_mem_cons.mpr ⟨lw_p15, fun _ h => absurd h List.not_mem_nil⟩⟩⟩⟩⟩⟩⟩⟩⟩⟩⟩⟩⟩⟩⟩⟩
theorem lw_p16 : lw_okq (⟨"ClothPull$Evening", "tick", "(I)V"⟩, 15) := ⟨⟨by decide +kernel, by decide +kernel⟩, List.mem_of_getElem? (i := 163) (by decide +kernel), List.mem_of_getElem? (i := 703) (by decide +kernel), List.mem_of_getElem? (i := 704) (by decide +kernel)⟩
theorem lw_p17 : lw_okq (⟨"ClothPull$Evening", "pullCloth", "(I)V"⟩, 15) := ⟨⟨by decide +kernel, by decide +kernel⟩, List.mem_of_getElem? (i := 163) (by decide +kernel), List.mem_of_getElem? (i := 707) (by decide +kernel), List.mem_of_getElem? (i := 708) (by decide +kernel)⟩
theorem lw_p18 : lw_okq (⟨"ClothPull$Law", "reckon", "(I)I"⟩, 9) := ⟨⟨by decide +kernel, by decide +kernel⟩, List.mem_of_getElem? (i := 95) (by decide +kernel), List.mem_of_getElem? (i := 729) (by decide +kernel), List.mem_of_getElem? (i := 730) (by decide +kernel)⟩
theorem lw_p19 : lw_okq (⟨"ClothPull$Law", "toldOf", "(I)I"⟩, 9) := ⟨⟨by decide +kernel, by decide +kernel⟩, List.mem_of_getElem? (i := 95) (by decide +kernel), List.mem_of_getElem? (i := 733) (by decide +kernel), List.mem_of_getElem? (i := 734) (by decide +kernel)⟩
theorem lw_p20 : lw_okq (⟨"ClothPull$Evening", "feelCloth", "(I)V"⟩, 15) := ⟨⟨by decide +kernel, by decide +kernel⟩, List.mem_of_getElem? (i := 163) (by decide +kernel), List.mem_of_getElem? (i := 747) (by decide +kernel), List.mem_of_getElem? (i := 748) (by decide +kernel)⟩
theorem lw_p21 : lw_okq (⟨"ClothPull$Evening", "foldPassed", "(I)Z"⟩, 15) := ⟨⟨by decide +kernel, by decide +kernel⟩, List.mem_of_getElem? (i := 163) (by decide +kernel), List.mem_of_getElem? (i := 751) (by decide +kernel), List.mem_of_getElem? (i := 752) (by decide +kernel)⟩
theorem lw_p22 : lw_okq (⟨"ClothPull$Evening", "describe", "(I)V"⟩, 15) := ⟨⟨by decide +kernel, by decide +kernel⟩, List.mem_of_getElem? (i := 163) (by decide +kernel), List.mem_of_getElem? (i := 755) (by decide +kernel), List.mem_of_getElem? (i := 756) (by decide +kernel)⟩
theorem lw_p23 : lw_okq (⟨"ClothPull$Evening", "shake", "(II)V"⟩, 15) := ⟨⟨by decide +kernel, by decide +kernel⟩, List.mem_of_getElem? (i := 163) (by decide +kernel), List.mem_of_getElem? (i := 764) (by decide +kernel), List.mem_of_getElem? (i := 765) (by decide +kernel)⟩
theorem lw_p24 : lw_okq (⟨"ClothPull$Evening", "slide", "(I)V"⟩, 15) := ⟨⟨by decide +kernel, by decide +kernel⟩, List.mem_of_getElem? (i := 163) (by decide +kernel), List.mem_of_getElem? (i := 768) (by decide +kernel), List.mem_of_getElem? (i := 769) (by decide +kernel)⟩
theorem lw_p25 : lw_okq (⟨"ClothPull$Evening", "lead", "(I)V"⟩, 15) := ⟨⟨by decide +kernel, by decide +kernel⟩, List.mem_of_getElem? (i := 163) (by decide +kernel), List.mem_of_getElem? (i := 772) (by decide +kernel), List.mem_of_getElem? (i := 773) (by decide +kernel)⟩
theorem lw_p26 : lw_okq (⟨"ClothPull$Evening", "lineUp", "()V"⟩, 15) := ⟨⟨by decide +kernel, by decide +kernel⟩, List.mem_of_getElem? (i := 163) (by decide +kernel), List.mem_of_getElem? (i := 781) (by decide +kernel), List.mem_of_getElem? (i := 782) (by decide +kernel)⟩
theorem lw_p27 : lw_okq (⟨"ClothPull$Evening", "touch", "(II)V"⟩, 15) := ⟨⟨by decide +kernel, by decide +kernel⟩, List.mem_of_getElem? (i := 163) (by decide +kernel), List.mem_of_getElem? (i := 789) (by decide +kernel), List.mem_of_getElem? (i := 790) (by decide +kernel)⟩
theorem lw_p28 : lw_okq (⟨"ClothPull$Outcome", "tellThing", "(II)I"⟩, 11) := ⟨⟨by decide +kernel, by decide +kernel⟩, List.mem_of_getElem? (i := 193) (by decide +kernel), List.mem_of_getElem? (i := 813) (by decide +kernel), List.mem_of_getElem? (i := 814) (by decide +kernel)⟩
theorem lw_p29 : lw_okq (⟨"ClothPull$Outcome", "isOver", "(I)Z"⟩, 11) := ⟨⟨by decide +kernel, by decide +kernel⟩, List.mem_of_getElem? (i := 193) (by decide +kernel), List.mem_of_getElem? (i := 817) (by decide +kernel), List.mem_of_getElem? (i := 818) (by decide +kernel)⟩
theorem lw_p30 : lw_okq (⟨"ClothPull$Search", "improves", "()Z"⟩, 12) := ⟨⟨by decide +kernel, by decide +kernel⟩, List.mem_of_getElem? (i := 155) (by decide +kernel), List.mem_of_getElem? (i := 877) (by decide +kernel), List.mem_of_getElem? (i := 878) (by decide +kernel)⟩
theorem lw_p31 : lw_okq (⟨"ClothPull$Row", "swap", "(II)V"⟩, 4) := ⟨⟨by decide +kernel, by decide +kernel⟩, List.mem_of_getElem? (i := 338) (by decide +kernel), List.mem_of_getElem? (i := 918) (by decide +kernel), List.mem_of_getElem? (i := 919) (by decide +kernel)⟩
def lw_privs_2 : List (MethodName × Nat) := [(⟨"ClothPull$Evening", "tick", "(I)V"⟩, 15), (⟨"ClothPull$Evening", "pullCloth", "(I)V"⟩, 15), (⟨"ClothPull$Law", "reckon", "(I)I"⟩, 9), (⟨"ClothPull$Law", "toldOf", "(I)I"⟩, 9), (⟨"ClothPull$Evening", "feelCloth", "(I)V"⟩, 15), (⟨"ClothPull$Evening", "foldPassed", "(I)Z"⟩, 15), (⟨"ClothPull$Evening", "describe", "(I)V"⟩, 15), (⟨"ClothPull$Evening", "shake", "(II)V"⟩, 15), (⟨"ClothPull$Evening", "slide", "(I)V"⟩, 15), (⟨"ClothPull$Evening", "lead", "(I)V"⟩, 15), (⟨"ClothPull$Evening", "lineUp", "()V"⟩, 15), (⟨"ClothPull$Evening", "touch", "(II)V"⟩, 15), (⟨"ClothPull$Outcome", "tellThing", "(II)I"⟩, 11), (⟨"ClothPull$Outcome", "isOver", "(I)Z"⟩, 11), (⟨"ClothPull$Search", "improves", "()Z"⟩, 12), (⟨"ClothPull$Row", "swap", "(II)V"⟩, 4)]
theorem lw_r2 : ∀ q ∈ lw_privs_2, lw_okq q := List.forall_mem_cons.mpr ⟨lw_p16, List.forall_mem_cons.mpr ⟨lw_p17, List.forall_mem_cons.mpr ⟨lw_p18, List.forall_mem_cons.mpr ⟨lw_p19, List.forall_mem_cons.mpr ⟨lw_p20, List.forall_mem_cons.mpr ⟨lw_p21, List.forall_mem_cons.mpr ⟨lw_p22, List.forall_mem_cons.mpr ⟨lw_p23, List.forall_mem_cons.mpr ⟨lw_p24, List.forall_mem_cons.mpr ⟨lw_p25, List.forall_mem_cons.mpr ⟨lw_p26, List.forall_mem_cons.mpr ⟨lw_p27, List.forall_mem_cons.mpr ⟨lw_p28, List.forall_mem_cons.mpr ⟨lw_p29, List.forall_mem_cons.mpr ⟨lw_p30, List.forall_mem_cons.mpr ⟨lw_p31, fun _ h => absurd h List.not_mem_nil⟩⟩⟩⟩⟩⟩⟩⟩⟩⟩⟩⟩⟩⟩⟩⟩
theorem lw_p32 : lw_okq (⟨"ClothPull", "canCompare", "()Z"⟩, 13) := ⟨⟨by decide +kernel, by decide +kernel⟩, List.mem_of_getElem? (i := 22) (by decide +kernel), List.mem_of_getElem? (i := 952) (by decide +kernel), List.mem_of_getElem? (i := 953) (by decide +kernel)⟩
theorem lw_p33 : lw_okq (⟨"ClothPull$Search", "noteFit", "(LClothPull$Tape;II)V"⟩, 12) := ⟨⟨by decide +kernel, by decide +kernel⟩, List.mem_of_getElem? (i := 155) (by decide +kernel), List.mem_of_getElem? (i := 963) (by decide +kernel), List.mem_of_getElem? (i := 964) (by decide +kernel)⟩
theorem lw_p34 : lw_okq (⟨"ClothPullModel", "isTold", "(I)Z"⟩, 91) := ⟨⟨by decide +kernel, by decide +kernel⟩, List.mem_of_getElem? (i := 1047) (by decide +kernel), List.mem_of_getElem? (i := 1346) (by decide +kernel), List.mem_of_getElem? (i := 1347) (by decide +kernel)⟩
theorem lw_p35 : lw_okq (⟨"ClothPullModel", "types", "(I)V"⟩, 91) := ⟨⟨by decide +kernel, by decide +kernel⟩, List.mem_of_getElem? (i := 1047) (by decide +kernel), List.mem_of_getElem? (i := 1361) (by decide +kernel), List.mem_of_getElem? (i := 1362) (by decide +kernel)⟩
theorem lw_p36 : lw_okq (⟨"ClothPullModel", "readsStep", "()Z"⟩, 91) := ⟨⟨by decide +kernel, by decide +kernel⟩, List.mem_of_getElem? (i := 1047) (by decide +kernel), List.mem_of_getElem? (i := 1369) (by decide +kernel), List.mem_of_getElem? (i := 1370) (by decide +kernel)⟩
theorem lw_p37 : lw_okq (⟨"ClothPullModel", "isDigit", "()Z"⟩, 91) := ⟨⟨by decide +kernel, by decide +kernel⟩, List.mem_of_getElem? (i := 1047) (by decide +kernel), List.mem_of_getElem? (i := 1373) (by decide +kernel), List.mem_of_getElem? (i := 1374) (by decide +kernel)⟩
theorem lw_p38 : lw_okq (⟨"ClothPullModel", "here", "()I"⟩, 91) := ⟨⟨by decide +kernel, by decide +kernel⟩, List.mem_of_getElem? (i := 1047) (by decide +kernel), List.mem_of_getElem? (i := 1377) (by decide +kernel), List.mem_of_getElem? (i := 1378) (by decide +kernel)⟩
theorem lw_p39 : lw_okq (⟨"ClothPullModel", "wrongAt", "(II)Z"⟩, 91) := ⟨⟨by decide +kernel, by decide +kernel⟩, List.mem_of_getElem? (i := 1047) (by decide +kernel), List.mem_of_getElem? (i := 1381) (by decide +kernel), List.mem_of_getElem? (i := 1382) (by decide +kernel)⟩
theorem lw_p40 : lw_okq (⟨"ClothPullModel", "readsPace", "()Z"⟩, 91) := ⟨⟨by decide +kernel, by decide +kernel⟩, List.mem_of_getElem? (i := 1047) (by decide +kernel), List.mem_of_getElem? (i := 1385) (by decide +kernel), List.mem_of_getElem? (i := 1386) (by decide +kernel)⟩
theorem lw_p41 : lw_okq (⟨"ClothPullModel", "takes", "(I)Z"⟩, 91) := ⟨⟨by decide +kernel, by decide +kernel⟩, List.mem_of_getElem? (i := 1047) (by decide +kernel), List.mem_of_getElem? (i := 1389) (by decide +kernel), List.mem_of_getElem? (i := 1390) (by decide +kernel)⟩
theorem lw_p42 : lw_okq (⟨"ClothPullModel", "readsClause", "()Z"⟩, 91) := ⟨⟨by decide +kernel, by decide +kernel⟩, List.mem_of_getElem? (i := 1047) (by decide +kernel), List.mem_of_getElem? (i := 1397) (by decide +kernel), List.mem_of_getElem? (i := 1398) (by decide +kernel)⟩
theorem lw_p43 : lw_okq (⟨"ClothPullModel", "readsSum", "()Z"⟩, 91) := ⟨⟨by decide +kernel, by decide +kernel⟩, List.mem_of_getElem? (i := 1047) (by decide +kernel), List.mem_of_getElem? (i := 1404) (by decide +kernel), List.mem_of_getElem? (i := 1405) (by decide +kernel)⟩
theorem lw_p44 : lw_okq (⟨"ClothPullModel", "readsFactor", "()Z"⟩, 91) := ⟨⟨by decide +kernel, by decide +kernel⟩, List.mem_of_getElem? (i := 1047) (by decide +kernel), List.mem_of_getElem? (i := 1408) (by decide +kernel), List.mem_of_getElem? (i := 1409) (by decide +kernel)⟩
theorem lw_p45 : lw_okq (⟨"ClothPullModel", "opens", "(I)Z"⟩, 91) := ⟨⟨by decide +kernel, by decide +kernel⟩, List.mem_of_getElem? (i := 1047) (by decide +kernel), List.mem_of_getElem? (i := 1412) (by decide +kernel), List.mem_of_getElem? (i := 1413) (by decide +kernel)⟩
theorem lw_p46 : lw_okq (⟨"ClothPullModel", "readsNumber", "()Z"⟩, 91) := ⟨⟨by decide +kernel, by decide +kernel⟩, List.mem_of_getElem? (i := 1047) (by decide +kernel), List.mem_of_getElem? (i := 1417) (by decide +kernel), List.mem_of_getElem? (i := 1418) (by decide +kernel)⟩
theorem lw_p47 : lw_okq (⟨"ClothPullModel", "notes", "(II)V"⟩, 91) := ⟨⟨by decide +kernel, by decide +kernel⟩, List.mem_of_getElem? (i := 1047) (by decide +kernel), List.mem_of_getElem? (i := 1421) (by decide +kernel), List.mem_of_getElem? (i := 1422) (by decide +kernel)⟩
def lw_privs_3 : List (MethodName × Nat) := [(⟨"ClothPull", "canCompare", "()Z"⟩, 13), (⟨"ClothPull$Search", "noteFit", "(LClothPull$Tape;II)V"⟩, 12), (⟨"ClothPullModel", "isTold", "(I)Z"⟩, 91), (⟨"ClothPullModel", "types", "(I)V"⟩, 91), (⟨"ClothPullModel", "readsStep", "()Z"⟩, 91), (⟨"ClothPullModel", "isDigit", "()Z"⟩, 91), (⟨"ClothPullModel", "here", "()I"⟩, 91), (⟨"ClothPullModel", "wrongAt", "(II)Z"⟩, 91), (⟨"ClothPullModel", "readsPace", "()Z"⟩, 91), (⟨"ClothPullModel", "takes", "(I)Z"⟩, 91), (⟨"ClothPullModel", "readsClause", "()Z"⟩, 91), (⟨"ClothPullModel", "readsSum", "()Z"⟩, 91), (⟨"ClothPullModel", "readsFactor", "()Z"⟩, 91), (⟨"ClothPullModel", "opens", "(I)Z"⟩, 91), (⟨"ClothPullModel", "readsNumber", "()Z"⟩, 91), (⟨"ClothPullModel", "notes", "(II)V"⟩, 91)]
theorem lw_r3 : ∀ q ∈ lw_privs_3, lw_okq q := List.forall_mem_cons.mpr ⟨lw_p32, List.forall_mem_cons.mpr ⟨lw_p33, List.forall_mem_cons.mpr ⟨lw_p34, List.forall_mem_cons.mpr ⟨lw_p35, List.forall_mem_cons.mpr ⟨lw_p36, List.forall_mem_cons.mpr ⟨lw_p37, List.forall_mem_cons.mpr ⟨lw_p38, List.forall_mem_cons.mpr ⟨lw_p39, List.forall_mem_cons.mpr ⟨lw_p40, List.forall_mem_cons.mpr ⟨lw_p41, List.forall_mem_cons.mpr ⟨lw_p42, List.forall_mem_cons.mpr ⟨lw_p43, List.forall_mem_cons.mpr ⟨lw_p44, List.forall_mem_cons.mpr ⟨lw_p45, List.forall_mem_cons.mpr ⟨lw_p46, List.forall_mem_cons.mpr ⟨lw_p47, fun _ h => absurd h List.not_mem_nil⟩⟩⟩⟩⟩⟩⟩⟩⟩⟩⟩⟩⟩⟩⟩⟩
theorem lw_p48 : lw_okq (⟨"ClothPullModel", "closesSums", "(Z)V"⟩, 91) := ⟨⟨by decide +kernel, by decide +kernel⟩, List.mem_of_getElem? (i := 1047) (by decide +kernel), List.mem_of_getElem? (i := 1431) (by decide +kernel), List.mem_of_getElem? (i := 1432) (by decide +kernel)⟩
theorem lw_p49 : lw_okq (⟨"ClothPullModel", "waitTop", "()I"⟩, 91) := ⟨⟨by decide +kernel, by decide +kernel⟩, List.mem_of_getElem? (i := 1047) (by decide +kernel), List.mem_of_getElem? (i := 1435) (by decide +kernel), List.mem_of_getElem? (i := 1436) (by decide +kernel)⟩
theorem lw_p50 : lw_okq (⟨"ClothPullModel", "hasOpenSum", "(I)Z"⟩, 91) := ⟨⟨by decide +kernel, by decide +kernel⟩, List.mem_of_getElem? (i := 1047) (by decide +kernel), List.mem_of_getElem? (i := 1439) (by decide +kernel), List.mem_of_getElem? (i := 1440) (by decide +kernel)⟩
theorem lw_p51 : lw_okq (⟨"ClothPullModel", "readsCondition", "()Z"⟩, 91) := ⟨⟨by decide +kernel, by decide +kernel⟩, List.mem_of_getElem? (i := 1047) (by decide +kernel), List.mem_of_getElem? (i := 1443) (by decide +kernel), List.mem_of_getElem? (i := 1444) (by decide +kernel)⟩
theorem lw_p52 : lw_okq (⟨"ClothPullModel", "readsCompared", "()Z"⟩, 91) := ⟨⟨by decide +kernel, by decide +kernel⟩, List.mem_of_getElem? (i := 1047) (by decide +kernel), List.mem_of_getElem? (i := 1447) (by decide +kernel), List.mem_of_getElem? (i := 1448) (by decide +kernel)⟩
theorem lw_p53 : lw_okq (⟨"ClothPullModel", "endsPiece", "()V"⟩, 91) := ⟨⟨by decide +kernel, by decide +kernel⟩, List.mem_of_getElem? (i := 1047) (by decide +kernel), List.mem_of_getElem? (i := 1451) (by decide +kernel), List.mem_of_getElem? (i := 1452) (by decide +kernel)⟩
theorem lw_p54 : lw_okq (⟨"ClothPullModel", "lands", "(Z)V"⟩, 91) := ⟨⟨by decide +kernel, by decide +kernel⟩, List.mem_of_getElem? (i := 1047) (by decide +kernel), List.mem_of_getElem? (i := 1455) (by decide +kernel), List.mem_of_getElem? (i := 1456) (by decide +kernel)⟩
theorem lw_p55 : lw_okq (⟨"ClothPullModel", "jumps", "(I)V"⟩, 91) := ⟨⟨by decide +kernel, by decide +kernel⟩, List.mem_of_getElem? (i := 1047) (by decide +kernel), List.mem_of_getElem? (i := 1459) (by decide +kernel), List.mem_of_getElem? (i := 1460) (by decide +kernel)⟩
theorem lw_p56 : lw_okq (⟨"ClothPullModel", "isAsked", "(I)Z"⟩, 91) := ⟨⟨by decide +kernel, by decide +kernel⟩, List.mem_of_getElem? (i := 1047) (by decide +kernel), List.mem_of_getElem? (i := 1467) (by decide +kernel), List.mem_of_getElem? (i := 1468) (by decide +kernel)⟩
theorem lw_p57 : lw_okq (⟨"ClothPullModel", "runsDrawn", "()V"⟩, 91) := ⟨⟨by decide +kernel, by decide +kernel⟩, List.mem_of_getElem? (i := 1047) (by decide +kernel), List.mem_of_getElem? (i := 1471) (by decide +kernel), List.mem_of_getElem? (i := 1472) (by decide +kernel)⟩
theorem lw_p58 : lw_okq (⟨"ClothPullModel", "laysPull", "()V"⟩, 91) := ⟨⟨by decide +kernel, by decide +kernel⟩, List.mem_of_getElem? (i := 1047) (by decide +kernel), List.mem_of_getElem? (i := 1475) (by decide +kernel), List.mem_of_getElem? (i := 1476) (by decide +kernel)⟩
theorem lw_p59 : lw_okq (⟨"ClothPullModel", "laysThings", "()V"⟩, 91) := ⟨⟨by decide +kernel, by decide +kernel⟩, List.mem_of_getElem? (i := 1047) (by decide +kernel), List.mem_of_getElem? (i := 1479) (by decide +kernel), List.mem_of_getElem? (i := 1480) (by decide +kernel)⟩
theorem lw_p60 : lw_okq (⟨"ClothPullModel", "runs", "()V"⟩, 91) := ⟨⟨by decide +kernel, by decide +kernel⟩, List.mem_of_getElem? (i := 1047) (by decide +kernel), List.mem_of_getElem? (i := 1483) (by decide +kernel), List.mem_of_getElem? (i := 1484) (by decide +kernel)⟩
theorem lw_p61 : lw_okq (⟨"ClothPullModel", "begins", "()V"⟩, 91) := ⟨⟨by decide +kernel, by decide +kernel⟩, List.mem_of_getElem? (i := 1047) (by decide +kernel), List.mem_of_getElem? (i := 1487) (by decide +kernel), List.mem_of_getElem? (i := 1488) (by decide +kernel)⟩
theorem lw_p62 : lw_okq (⟨"ClothPullModel", "someMove", "()Z"⟩, 91) := ⟨⟨by decide +kernel, by decide +kernel⟩, List.mem_of_getElem? (i := 1047) (by decide +kernel), List.mem_of_getElem? (i := 1491) (by decide +kernel), List.mem_of_getElem? (i := 1492) (by decide +kernel)⟩
theorem lw_p63 : lw_okq (⟨"ClothPullModel", "stands", "(I)Z"⟩, 91) := ⟨⟨by decide +kernel, by decide +kernel⟩, List.mem_of_getElem? (i := 1047) (by decide +kernel), List.mem_of_getElem? (i := 1495) (by decide +kernel), List.mem_of_getElem? (i := 1496) (by decide +kernel)⟩
def lw_privs_4 : List (MethodName × Nat) := [(⟨"ClothPullModel", "closesSums", "(Z)V"⟩, 91), (⟨"ClothPullModel", "waitTop", "()I"⟩, 91), (⟨"ClothPullModel", "hasOpenSum", "(I)Z"⟩, 91), (⟨"ClothPullModel", "readsCondition", "()Z"⟩, 91), (⟨"ClothPullModel", "readsCompared", "()Z"⟩, 91), (⟨"ClothPullModel", "endsPiece", "()V"⟩, 91), (⟨"ClothPullModel", "lands", "(Z)V"⟩, 91), (⟨"ClothPullModel", "jumps", "(I)V"⟩, 91), (⟨"ClothPullModel", "isAsked", "(I)Z"⟩, 91), (⟨"ClothPullModel", "runsDrawn", "()V"⟩, 91), (⟨"ClothPullModel", "laysPull", "()V"⟩, 91), (⟨"ClothPullModel", "laysThings", "()V"⟩, 91), (⟨"ClothPullModel", "runs", "()V"⟩, 91), (⟨"ClothPullModel", "begins", "()V"⟩, 91), (⟨"ClothPullModel", "someMove", "()Z"⟩, 91), (⟨"ClothPullModel", "stands", "(I)Z"⟩, 91)]
theorem lw_r4 : ∀ q ∈ lw_privs_4, lw_okq q := List.forall_mem_cons.mpr ⟨lw_p48, List.forall_mem_cons.mpr ⟨lw_p49, List.forall_mem_cons.mpr ⟨lw_p50, List.forall_mem_cons.mpr ⟨lw_p51, List.forall_mem_cons.mpr ⟨lw_p52, List.forall_mem_cons.mpr ⟨lw_p53, List.forall_mem_cons.mpr ⟨lw_p54, List.forall_mem_cons.mpr ⟨lw_p55, List.forall_mem_cons.mpr ⟨lw_p56, List.forall_mem_cons.mpr ⟨lw_p57, List.forall_mem_cons.mpr ⟨lw_p58, List.forall_mem_cons.mpr ⟨lw_p59, List.forall_mem_cons.mpr ⟨lw_p60, List.forall_mem_cons.mpr ⟨lw_p61, List.forall_mem_cons.mpr ⟨lw_p62, List.forall_mem_cons.mpr ⟨lw_p63, fun _ h => absurd h List.not_mem_nil⟩⟩⟩⟩⟩⟩⟩⟩⟩⟩⟩⟩⟩⟩⟩⟩
theorem lw_p64 : lw_okq (⟨"ClothPullModel", "ticks", "()V"⟩, 91) := ⟨⟨by decide +kernel, by decide +kernel⟩, List.mem_of_getElem? (i := 1047) (by decide +kernel), List.mem_of_getElem? (i := 1499) (by decide +kernel), List.mem_of_getElem? (i := 1500) (by decide +kernel)⟩
theorem lw_p65 : lw_okq (⟨"ClothPullModel", "paceNow", "()I"⟩, 91) := ⟨⟨by decide +kernel, by decide +kernel⟩, List.mem_of_getElem? (i := 1047) (by decide +kernel), List.mem_of_getElem? (i := 1503) (by decide +kernel), List.mem_of_getElem? (i := 1504) (by decide +kernel)⟩
theorem lw_p66 : lw_okq (⟨"ClothPullModel", "slipsNow", "()I"⟩, 91) := ⟨⟨by decide +kernel, by decide +kernel⟩, List.mem_of_getElem? (i := 1047) (by decide +kernel), List.mem_of_getElem? (i := 1507) (by decide +kernel), List.mem_of_getElem? (i := 1508) (by decide +kernel)⟩
theorem lw_p67 : lw_okq (⟨"ClothPullModel", "byLaw", "(III)I"⟩, 91) := ⟨⟨by decide +kernel, by decide +kernel⟩, List.mem_of_getElem? (i := 1047) (by decide +kernel), List.mem_of_getElem? (i := 1512) (by decide +kernel), List.mem_of_getElem? (i := 1513) (by decide +kernel)⟩
theorem lw_p68 : lw_okq (⟨"ClothPullModel", "comesTo", "(II)I"⟩, 91) := ⟨⟨by decide +kernel, by decide +kernel⟩, List.mem_of_getElem? (i := 1047) (by decide +kernel), List.mem_of_getElem? (i := 1516) (by decide +kernel), List.mem_of_getElem? (i := 1517) (by decide +kernel)⟩
theorem lw_p69 : lw_okq (⟨"ClothPullModel", "hurries", "(I)V"⟩, 91) := ⟨⟨by decide +kernel, by decide +kernel⟩, List.mem_of_getElem? (i := 1047) (by decide +kernel), List.mem_of_getElem? (i := 1526) (by decide +kernel), List.mem_of_getElem? (i := 1527) (by decide +kernel)⟩
theorem lw_p70 : lw_okq (⟨"ClothPullModel", "feels", "(I)V"⟩, 91) := ⟨⟨by decide +kernel, by decide +kernel⟩, List.mem_of_getElem? (i := 1047) (by decide +kernel), List.mem_of_getElem? (i := 1530) (by decide +kernel), List.mem_of_getElem? (i := 1531) (by decide +kernel)⟩
theorem lw_p71 : lw_okq (⟨"ClothPullModel", "foldPasses", "(I)Z"⟩, 91) := ⟨⟨by decide +kernel, by decide +kernel⟩, List.mem_of_getElem? (i := 1047) (by decide +kernel), List.mem_of_getElem? (i := 1537) (by decide +kernel), List.mem_of_getElem? (i := 1538) (by decide +kernel)⟩
theorem lw_p72 : lw_okq (⟨"ClothPullModel", "goes", "(I)V"⟩, 91) := ⟨⟨by decide +kernel, by decide +kernel⟩, List.mem_of_getElem? (i := 1047) (by decide +kernel), List.mem_of_getElem? (i := 1544) (by decide +kernel), List.mem_of_getElem? (i := 1545) (by decide +kernel)⟩
theorem lw_p73 : lw_okq (⟨"ClothPullModel", "laysOrder", "()I"⟩, 91) := ⟨⟨by decide +kernel, by decide +kernel⟩, List.mem_of_getElem? (i := 1047) (by decide +kernel), List.mem_of_getElem? (i := 1548) (by decide +kernel), List.mem_of_getElem? (i := 1549) (by decide +kernel)⟩
theorem lw_p74 : lw_okq (⟨"ClothPullModel", "meet", "(II)V"⟩, 91) := ⟨⟨by decide +kernel, by decide +kernel⟩, List.mem_of_getElem? (i := 1047) (by decide +kernel), List.mem_of_getElem? (i := 1552) (by decide +kernel), List.mem_of_getElem? (i := 1553) (by decide +kernel)⟩
theorem lw_p75 : lw_okq (⟨"ClothPullModel", "counts", "(I)V"⟩, 91) := ⟨⟨by decide +kernel, by decide +kernel⟩, List.mem_of_getElem? (i := 1047) (by decide +kernel), List.mem_of_getElem? (i := 1556) (by decide +kernel), List.mem_of_getElem? (i := 1557) (by decide +kernel)⟩
theorem lw_p76 : lw_okq (⟨"ClothPullModel", "told", "(I)I"⟩, 91) := ⟨⟨by decide +kernel, by decide +kernel⟩, List.mem_of_getElem? (i := 1047) (by decide +kernel), List.mem_of_getElem? (i := 1560) (by decide +kernel), List.mem_of_getElem? (i := 1561) (by decide +kernel)⟩
theorem lw_p77 : lw_okq (⟨"ClothPullModel", "standing", "()I"⟩, 91) := ⟨⟨by decide +kernel, by decide +kernel⟩, List.mem_of_getElem? (i := 1047) (by decide +kernel), List.mem_of_getElem? (i := 1564) (by decide +kernel), List.mem_of_getElem? (i := 1565) (by decide +kernel)⟩
theorem lw_p78 : lw_okq (⟨"ClothPullModel", "inchesAll", "()I"⟩, 91) := ⟨⟨by decide +kernel, by decide +kernel⟩, List.mem_of_getElem? (i := 1047) (by decide +kernel), List.mem_of_getElem? (i := 1571) (by decide +kernel), List.mem_of_getElem? (i := 1572) (by decide +kernel)⟩
theorem lw_p79 : lw_okq (⟨"ClothPullModel", "stateBits", "(I)I"⟩, 91) := ⟨⟨by decide +kernel, by decide +kernel⟩, List.mem_of_getElem? (i := 1047) (by decide +kernel), List.mem_of_getElem? (i := 1575) (by decide +kernel), List.mem_of_getElem? (i := 1576) (by decide +kernel)⟩
def lw_privs_5 : List (MethodName × Nat) := [(⟨"ClothPullModel", "ticks", "()V"⟩, 91), (⟨"ClothPullModel", "paceNow", "()I"⟩, 91), (⟨"ClothPullModel", "slipsNow", "()I"⟩, 91), (⟨"ClothPullModel", "byLaw", "(III)I"⟩, 91), (⟨"ClothPullModel", "comesTo", "(II)I"⟩, 91), (⟨"ClothPullModel", "hurries", "(I)V"⟩, 91), (⟨"ClothPullModel", "feels", "(I)V"⟩, 91), (⟨"ClothPullModel", "foldPasses", "(I)Z"⟩, 91), (⟨"ClothPullModel", "goes", "(I)V"⟩, 91), (⟨"ClothPullModel", "laysOrder", "()I"⟩, 91), (⟨"ClothPullModel", "meet", "(II)V"⟩, 91), (⟨"ClothPullModel", "counts", "(I)V"⟩, 91), (⟨"ClothPullModel", "told", "(I)I"⟩, 91), (⟨"ClothPullModel", "standing", "()I"⟩, 91), (⟨"ClothPullModel", "inchesAll", "()I"⟩, 91), (⟨"ClothPullModel", "stateBits", "(I)I"⟩, 91)]
theorem lw_r5 : ∀ q ∈ lw_privs_5, lw_okq q := List.forall_mem_cons.mpr ⟨lw_p64, List.forall_mem_cons.mpr ⟨lw_p65, List.forall_mem_cons.mpr ⟨lw_p66, List.forall_mem_cons.mpr ⟨lw_p67, List.forall_mem_cons.mpr ⟨lw_p68, List.forall_mem_cons.mpr ⟨lw_p69, List.forall_mem_cons.mpr ⟨lw_p70, List.forall_mem_cons.mpr ⟨lw_p71, List.forall_mem_cons.mpr ⟨lw_p72, List.forall_mem_cons.mpr ⟨lw_p73, List.forall_mem_cons.mpr ⟨lw_p74, List.forall_mem_cons.mpr ⟨lw_p75, List.forall_mem_cons.mpr ⟨lw_p76, List.forall_mem_cons.mpr ⟨lw_p77, List.forall_mem_cons.mpr ⟨lw_p78, List.forall_mem_cons.mpr ⟨lw_p79, fun _ h => absurd h List.not_mem_nil⟩⟩⟩⟩⟩⟩⟩⟩⟩⟩⟩⟩⟩⟩⟩⟩
theorem lw_p80 : lw_okq (⟨"ClothPullModel", "endsAt", "(I)I"⟩, 91) := ⟨⟨by decide +kernel, by decide +kernel⟩, List.mem_of_getElem? (i := 1047) (by decide +kernel), List.mem_of_getElem? (i := 1579) (by decide +kernel), List.mem_of_getElem? (i := 1580) (by decide +kernel)⟩
theorem lw_p81 : lw_okq (⟨"ClothPullModel", "runsStill", "()V"⟩, 91) := ⟨⟨by decide +kernel, by decide +kernel⟩, List.mem_of_getElem? (i := 1047) (by decide +kernel), List.mem_of_getElem? (i := 1587) (by decide +kernel), List.mem_of_getElem? (i := 1588) (by decide +kernel)⟩
theorem lw_p82 : lw_okq (⟨"ClothPullModel", "runsEven", "(I)V"⟩, 91) := ⟨⟨by decide +kernel, by decide +kernel⟩, List.mem_of_getElem? (i := 1047) (by decide +kernel), List.mem_of_getElem? (i := 1603) (by decide +kernel), List.mem_of_getElem? (i := 1604) (by decide +kernel)⟩
theorem lw_p83 : lw_okq (⟨"ClothPullModel", "laysPaces", "(II)V"⟩, 91) := ⟨⟨by decide +kernel, by decide +kernel⟩, List.mem_of_getElem? (i := 1047) (by decide +kernel), List.mem_of_getElem? (i := 1607) (by decide +kernel), List.mem_of_getElem? (i := 1608) (by decide +kernel)⟩
theorem lw_p84 : lw_okq (⟨"ClothPullModel", "forgetsBest", "()V"⟩, 91) := ⟨⟨by decide +kernel, by decide +kernel⟩, List.mem_of_getElem? (i := 1047) (by decide +kernel), List.mem_of_getElem? (i := 1615) (by decide +kernel), List.mem_of_getElem? (i := 1616) (by decide +kernel)⟩
theorem lw_p85 : lw_okq (⟨"ClothPullModel", "better", "(I)V"⟩, 91) := ⟨⟨by decide +kernel, by decide +kernel⟩, List.mem_of_getElem? (i := 1047) (by decide +kernel), List.mem_of_getElem? (i := 1619) (by decide +kernel), List.mem_of_getElem? (i := 1620) (by decide +kernel)⟩
theorem lw_p86 : lw_okq (⟨"ClothPullModel", "readsRow", "(I)Z"⟩, 91) := ⟨⟨by decide +kernel, by decide +kernel⟩, List.mem_of_getElem? (i := 1047) (by decide +kernel), List.mem_of_getElem? (i := 1627) (by decide +kernel), List.mem_of_getElem? (i := 1628) (by decide +kernel)⟩
theorem lw_p87 : lw_okq (⟨"ClothPullModel", "takesPlaces", "()Z"⟩, 91) := ⟨⟨by decide +kernel, by decide +kernel⟩, List.mem_of_getElem? (i := 1047) (by decide +kernel), List.mem_of_getElem? (i := 1644) (by decide +kernel), List.mem_of_getElem? (i := 1645) (by decide +kernel)⟩
theorem lw_p88 : lw_okq (⟨"ClothPullModel", "fits", "()Z"⟩, 91) := ⟨⟨by decide +kernel, by decide +kernel⟩, List.mem_of_getElem? (i := 1047) (by decide +kernel), List.mem_of_getElem? (i := 1648) (by decide +kernel), List.mem_of_getElem? (i := 1649) (by decide +kernel)⟩
theorem lw_p89 : lw_okq (⟨"ClothPullModel", "rowsOf", "(I)I"⟩, 91) := ⟨⟨by decide +kernel, by decide +kernel⟩, List.mem_of_getElem? (i := 1047) (by decide +kernel), List.mem_of_getElem? (i := 1660) (by decide +kernel), List.mem_of_getElem? (i := 1661) (by decide +kernel)⟩
theorem lw_p90 : lw_okq (⟨"ClothPullModel", "runsBy", "(II)V"⟩, 91) := ⟨⟨by decide +kernel, by decide +kernel⟩, List.mem_of_getElem? (i := 1047) (by decide +kernel), List.mem_of_getElem? (i := 1664) (by decide +kernel), List.mem_of_getElem? (i := 1665) (by decide +kernel)⟩
theorem lw_p91 : lw_okq (⟨"ClothPullModel", "tapeNumber", "(I)I"⟩, 91) := ⟨⟨by decide +kernel, by decide +kernel⟩, List.mem_of_getElem? (i := 1047) (by decide +kernel), List.mem_of_getElem? (i := 1702) (by decide +kernel), List.mem_of_getElem? (i := 1703) (by decide +kernel)⟩
def lw_privs_6 : List (MethodName × Nat) := [(⟨"ClothPullModel", "endsAt", "(I)I"⟩, 91), (⟨"ClothPullModel", "runsStill", "()V"⟩, 91), (⟨"ClothPullModel", "runsEven", "(I)V"⟩, 91), (⟨"ClothPullModel", "laysPaces", "(II)V"⟩, 91), (⟨"ClothPullModel", "forgetsBest", "()V"⟩, 91), (⟨"ClothPullModel", "better", "(I)V"⟩, 91), (⟨"ClothPullModel", "readsRow", "(I)Z"⟩, 91), (⟨"ClothPullModel", "takesPlaces", "()Z"⟩, 91), (⟨"ClothPullModel", "fits", "()Z"⟩, 91), (⟨"ClothPullModel", "rowsOf", "(I)I"⟩, 91), (⟨"ClothPullModel", "runsBy", "(II)V"⟩, 91), (⟨"ClothPullModel", "tapeNumber", "(I)I"⟩, 91)]
theorem lw_r6 : ∀ q ∈ lw_privs_6, lw_okq q := List.forall_mem_cons.mpr ⟨lw_p80, List.forall_mem_cons.mpr ⟨lw_p81, List.forall_mem_cons.mpr ⟨lw_p82, List.forall_mem_cons.mpr ⟨lw_p83, List.forall_mem_cons.mpr ⟨lw_p84, List.forall_mem_cons.mpr ⟨lw_p85, List.forall_mem_cons.mpr ⟨lw_p86, List.forall_mem_cons.mpr ⟨lw_p87, List.forall_mem_cons.mpr ⟨lw_p88, List.forall_mem_cons.mpr ⟨lw_p89, List.forall_mem_cons.mpr ⟨lw_p90, List.forall_mem_cons.mpr ⟨lw_p91, fun _ h => absurd h List.not_mem_nil⟩⟩⟩⟩⟩⟩⟩⟩⟩⟩⟩⟩
def lw_privs : List (MethodName × Nat) := lw_privs_1 ++ (lw_privs_2 ++ (lw_privs_3 ++ (lw_privs_4 ++ (lw_privs_5 ++ (lw_privs_6)))))
def lw_tbl : List Cond := k2_sels lw_privs ++ tables_1
theorem lw_privs_ok : ∀ q ∈ lw_privs, lw_okq q := by
  show ∀ q ∈ lw_privs_1 ++ (lw_privs_2 ++ (lw_privs_3 ++ (lw_privs_4 ++ (lw_privs_5 ++ (lw_privs_6))))), lw_okq q
  exact List.forall_mem_append.mpr ⟨lw_r1, List.forall_mem_append.mpr ⟨lw_r2, List.forall_mem_append.mpr ⟨lw_r3, List.forall_mem_append.mpr ⟨lw_r4, List.forall_mem_append.mpr ⟨lw_r5, lw_r6⟩⟩⟩⟩⟩
end
section
def RX0 : String := "ClothPull$Evening"
def TX0 : u_T := fun k => match k with
  | 0 => ("ClothPull$Evening", "table", "LClothPull$Table;", true)
  | 1 => ("ClothPull$Evening", "pull", "LClothPull$Pull;", true)
  | 2 => ("ClothPull$Evening", "hand", "LClothPull$Hand;", true)
  | 3 => ("ClothPull$Evening", "out", "LClothPull$Outcome;", true)
  | 4 => ("ClothPull$Evening", "law", "LClothPull$Law;", true)
  | 5 => ("ClothPull$Evening", "speed", "[I", true)
  | 6 => ("ClothPull$Evening", "ahead", "[I", true)
  | 7 => ("ClothPull$Evening", "line", "[I", true)
  | 8 => ("ClothPull$Evening", "folds", "[I", true)
  | 9 => ("ClothPull$Evening", "foldCount", "I", false)
  | 10 => ("ClothPull$Evening", "inLine", "I", false)
  | 11 => ("ClothPull$Evening", "gone", "I", false)
  | 12 => ("ClothPull$Evening", "quick", "I", false)
  | 13 => ("ClothPull$Evening", "onCloth", "I", false)
  | _ => ("ClothPull$Evening", "touching", "I", false)
def tyX0 : Nat → FieldType := fun k => match k with
  | 0 => .object "ClothPull$Table"
  | 1 => .object "ClothPull$Pull"
  | 2 => .object "ClothPull$Hand"
  | 3 => .object "ClothPull$Outcome"
  | 4 => .object "ClothPull$Law"
  | 5 => .array .int
  | 6 => .array .int
  | 7 => .array .int
  | 8 => .array .int
  | 9 => .int
  | 10 => .int
  | 11 => .int
  | 12 => .int
  | 13 => .int
  | _ => .int
theorem nmX0 : ∀ a, a < 15 → ∀ b, b < 15 → a ≠ b → (TX0 a).2.1 ≠ (TX0 b).2.1 := by decide +kernel
theorem tyX0_ok : ∀ k, k < 15 → parseFieldDescriptor (TX0 k).2.2.1 = some (tyX0 k) := by decide +kernel
abbrev cX0_init : ByteArray := prog_2_method_1_code
def yX0_init : MethodName := ⟨RX0, "<init>", "(LClothPull$Law;)V"⟩
abbrev cX0_run : ByteArray := prog_2_method_2_code
def yX0_run : MethodName := ⟨RX0, "run", "()V"⟩
abbrev cX0_begin : ByteArray := prog_2_method_3_code
def yX0_begin : MethodName := ⟨RX0, "begin", "()V"⟩
abbrev cX0_moves : ByteArray := prog_2_method_4_code
def yX0_moves : MethodName := ⟨RX0, "moves", "()Z"⟩
abbrev cX0_tick : ByteArray := prog_2_method_5_code
def yX0_tick : MethodName := ⟨RX0, "tick", "(I)V"⟩
abbrev cX0_pullCloth : ByteArray := prog_2_method_6_code
def yX0_pullCloth : MethodName := ⟨RX0, "pullCloth", "(I)V"⟩
abbrev cX0_feelCloth : ByteArray := prog_2_method_7_code
def yX0_feelCloth : MethodName := ⟨RX0, "feelCloth", "(I)V"⟩
abbrev cX0_describe : ByteArray := prog_2_method_8_code
def yX0_describe : MethodName := ⟨RX0, "describe", "(I)V"⟩
abbrev cX0_foldPassed : ByteArray := prog_2_method_9_code
def yX0_foldPassed : MethodName := ⟨RX0, "foldPassed", "(I)Z"⟩
abbrev cX0_shake : ByteArray := prog_2_method_10_code
def yX0_shake : MethodName := ⟨RX0, "shake", "(II)V"⟩
abbrev cX0_slide : ByteArray := prog_2_method_11_code
def yX0_slide : MethodName := ⟨RX0, "slide", "(I)V"⟩
abbrev cX0_lineUp : ByteArray := prog_2_method_12_code
def yX0_lineUp : MethodName := ⟨RX0, "lineUp", "()V"⟩
abbrev cX0_touch : ByteArray := prog_2_method_13_code
def yX0_touch : MethodName := ⟨RX0, "touch", "(II)V"⟩
abbrev cX0_lead : ByteArray := prog_2_method_14_code
def yX0_lead : MethodName := ⟨RX0, "lead", "(I)V"⟩
def RX1 : String := "ClothPull$Hand"
def TX1 : u_T := fun k => match k with
  | 0 => ("ClothPull$Hand", "draws", "Z", false)
  | 1 => ("ClothPull$Hand", "x", "I", false)
  | 2 => ("ClothPull$Hand", "toldTicks", "I", false)
  | _ => ("ClothPull$Hand", "toldDraws", "I", false)
def tyX1 : Nat → FieldType := fun k => match k with
  | 0 => .boolean
  | 1 => .int
  | 2 => .int
  | _ => .int
theorem nmX1 : ∀ a, a < 4 → ∀ b, b < 4 → a ≠ b → (TX1 a).2.1 ≠ (TX1 b).2.1 := by decide +kernel
theorem tyX1_ok : ∀ k, k < 4 → parseFieldDescriptor (TX1 k).2.2.1 = some (tyX1 k) := by decide +kernel
abbrev cX1_init : ByteArray := prog_3_method_1_code
def yX1_init : MethodName := ⟨RX1, "<init>", "()V"⟩
abbrev cX1_holdStill : ByteArray := prog_3_method_2_code
def yX1_holdStill : MethodName := ⟨RX1, "holdStill", "()V"⟩
abbrev cX1_drawFrom : ByteArray := prog_3_method_3_code
def yX1_drawFrom : MethodName := ⟨RX1, "drawFrom", "(I)V"⟩
abbrev cX1_drawTold : ByteArray := prog_3_method_4_code
def yX1_drawTold : MethodName := ⟨RX1, "drawTold", "(II)V"⟩
abbrev cX1_draw : ByteArray := prog_3_method_5_code
def yX1_draw : MethodName := ⟨RX1, "draw", "(I)I"⟩
def RX2 : String := "ClothPull$Law"
def TX2 : u_T := fun k => match k with
  | 0 => ("ClothPull$Law", "ops", "[I", true)
  | 1 => ("ClothPull$Law", "args", "[I", true)
  | 2 => ("ClothPull$Law", "size", "I", false)
  | 3 => ("ClothPull$Law", "letters", "[I", true)
  | 4 => ("ClothPull$Law", "amounts", "[I", true)
  | 5 => ("ClothPull$Law", "conditions", "[I", true)
  | 6 => ("ClothPull$Law", "clauses", "I", false)
  | 7 => ("ClothPull$Law", "told", "[I", true)
  | _ => ("ClothPull$Law", "stack", "[I", true)
def tyX2 : Nat → FieldType := fun k => match k with
  | 0 => .array .int
  | 1 => .array .int
  | 2 => .int
  | 3 => .array .int
  | 4 => .array .int
  | 5 => .array .int
  | 6 => .int
  | 7 => .array .int
  | _ => .array .int
theorem nmX2 : ∀ a, a < 9 → ∀ b, b < 9 → a ≠ b → (TX2 a).2.1 ≠ (TX2 b).2.1 := by decide +kernel
theorem tyX2_ok : ∀ k, k < 9 → parseFieldDescriptor (TX2 k).2.2.1 = some (tyX2 k) := by decide +kernel
abbrev cX2_init : ByteArray := prog_4_method_1_code
def yX2_init : MethodName := ⟨RX2, "<init>", "()V"⟩
abbrev cX2_clear : ByteArray := prog_4_method_2_code
def yX2_clear : MethodName := ⟨RX2, "clear", "()V"⟩
abbrev cX2_forget : ByteArray := prog_4_method_3_code
def yX2_forget : MethodName := ⟨RX2, "forget", "()V"⟩
abbrev cX2_copy : ByteArray := prog_4_method_4_code
def yX2_copy : MethodName := ⟨RX2, "copy", "(LClothPull$Law;)V"⟩
abbrev cX2_emit : ByteArray := prog_4_method_5_code
def yX2_emit : MethodName := ⟨RX2, "emit", "(II)I"⟩
abbrev cX2_landHere : ByteArray := prog_4_method_6_code
def yX2_landHere : MethodName := ⟨RX2, "landHere", "(I)V"⟩
abbrev cX2_addClause : ByteArray := prog_4_method_7_code
def yX2_addClause : MethodName := ⟨RX2, "addClause", "(III)V"⟩
abbrev cX2_ask : ByteArray := prog_4_method_8_code
def yX2_ask : MethodName := ⟨RX2, "ask", "(I)I"⟩
abbrev cX2_reckon : ByteArray := prog_4_method_9_code
def yX2_reckon : MethodName := ⟨RX2, "reckon", "(I)I"⟩
abbrev cX2_toldOf : ByteArray := prog_4_method_10_code
def yX2_toldOf : MethodName := ⟨RX2, "toldOf", "(I)I"⟩
abbrev cX2_join : ByteArray := prog_4_method_11_code
def yX2_join : MethodName := ⟨RX2, "join", "(III)I"⟩
def RX3 : String := "ClothPull$LawReader"
def TX3 : u_T := fun k => match k with
  | 0 => ("ClothPull$LawReader", "into", "LClothPull$Law;", true)
  | 1 => ("ClothPull$LawReader", "text", "[I", true)
  | 2 => ("ClothPull$LawReader", "length", "I", false)
  | 3 => ("ClothPull$LawReader", "at", "I", false)
  | _ => ("ClothPull$LawReader", "fault", "I", false)
def tyX3 : Nat → FieldType := fun k => match k with
  | 0 => .object "ClothPull$Law"
  | 1 => .array .int
  | 2 => .int
  | 3 => .int
  | _ => .int
theorem nmX3 : ∀ a, a < 5 → ∀ b, b < 5 → a ≠ b → (TX3 a).2.1 ≠ (TX3 b).2.1 := by decide +kernel
theorem tyX3_ok : ∀ k, k < 5 → parseFieldDescriptor (TX3 k).2.2.1 = some (tyX3 k) := by decide +kernel
abbrev cX3_init : ByteArray := prog_5_method_1_code
def yX3_init : MethodName := ⟨RX3, "<init>", "(LClothPull$Law;)V"⟩
abbrev cX3_read : ByteArray := prog_5_method_2_code
def yX3_read : MethodName := ⟨RX3, "read", "(LClothPull$Tape;I)I"⟩
abbrev cX3_sign : ByteArray := prog_5_method_3_code
def yX3_sign : MethodName := ⟨RX3, "sign", "()I"⟩
abbrev cX3_fail : ByteArray := prog_5_method_4_code
def yX3_fail : MethodName := ⟨RX3, "fail", "(I)V"⟩
abbrev cX3_pass : ByteArray := prog_5_method_5_code
def yX3_pass : MethodName := ⟨RX3, "pass", "(I)V"⟩
abbrev cX3_opens : ByteArray := prog_5_method_6_code
def yX3_opens : MethodName := ⟨RX3, "opens", "(I)Z"⟩
abbrev cX3_clause : ByteArray := prog_5_method_7_code
def yX3_clause : MethodName := ⟨RX3, "clause", "()V"⟩
abbrev cX3_parts : ByteArray := prog_5_method_8_code
def yX3_parts : MethodName := ⟨RX3, "parts", "(I)V"⟩
abbrev cX3_pieces : ByteArray := prog_5_method_9_code
def yX3_pieces : MethodName := ⟨RX3, "pieces", "(I)V"⟩
abbrev cX3_piece : ByteArray := prog_5_method_10_code
def yX3_piece : MethodName := ⟨RX3, "piece", "(I)V"⟩
abbrev cX3_comparison : ByteArray := prog_5_method_11_code
def yX3_comparison : MethodName := ⟨RX3, "comparison", "(I)V"⟩
abbrev cX3_sum : ByteArray := prog_5_method_12_code
def yX3_sum : MethodName := ⟨RX3, "sum", "(I)V"⟩
abbrev cX3_product : ByteArray := prog_5_method_13_code
def yX3_product : MethodName := ⟨RX3, "product", "(I)V"⟩
abbrev cX3_factor : ByteArray := prog_5_method_14_code
def yX3_factor : MethodName := ⟨RX3, "factor", "(I)V"⟩
abbrev cX3_number : ByteArray := prog_5_method_15_code
def yX3_number : MethodName := ⟨RX3, "number", "()V"⟩
def RX4 : String := "ClothPull$Outcome"
def TX4 : u_T := fun k => match k with
  | 0 => ("ClothPull$Outcome", "place", "[I", true)
  | 1 => ("ClothPull$Outcome", "filled", "[I", true)
  | 2 => ("ClothPull$Outcome", "led", "[I", true)
  | 3 => ("ClothPull$Outcome", "told", "I", false)
  | 4 => ("ClothPull$Outcome", "fallen", "I", false)
  | 5 => ("ClothPull$Outcome", "over", "I", false)
  | 6 => ("ClothPull$Outcome", "rocked", "I", false)
  | 7 => ("ClothPull$Outcome", "touched", "I", false)
  | 8 => ("ClothPull$Outcome", "spilt", "I", false)
  | 9 => ("ClothPull$Outcome", "ticks", "I", false)
  | _ => ("ClothPull$Outcome", "end", "I", false)
def tyX4 : Nat → FieldType := fun k => match k with
  | 0 => .array .int
  | 1 => .array .int
  | 2 => .array .int
  | 3 => .int
  | 4 => .int
  | 5 => .int
  | 6 => .int
  | 7 => .int
  | 8 => .int
  | 9 => .int
  | _ => .int
theorem nmX4 : ∀ a, a < 11 → ∀ b, b < 11 → a ≠ b → (TX4 a).2.1 ≠ (TX4 b).2.1 := by decide +kernel
theorem tyX4_ok : ∀ k, k < 11 → parseFieldDescriptor (TX4 k).2.2.1 = some (tyX4 k) := by decide +kernel
abbrev cX4_init : ByteArray := prog_6_method_1_code
def yX4_init : MethodName := ⟨RX4, "<init>", "()V"⟩
abbrev cX4_begin : ByteArray := prog_6_method_2_code
def yX4_begin : MethodName := ⟨RX4, "begin", "(LClothPull$Table;)V"⟩
abbrev cX4_lead : ByteArray := prog_6_method_3_code
def yX4_lead : MethodName := ⟨RX4, "lead", "(III)V"⟩
abbrev cX4_placeOf : ByteArray := prog_6_method_4_code
def yX4_placeOf : MethodName := ⟨RX4, "placeOf", "(I)I"⟩
abbrev cX4_standingSet : ByteArray := prog_6_method_5_code
def yX4_standingSet : MethodName := ⟨RX4, "standingSet", "()I"⟩
abbrev cX4_standing : ByteArray := prog_6_method_6_code
def yX4_standing : MethodName := ⟨RX4, "standing", "()I"⟩
abbrev cX4_allStand : ByteArray := prog_6_method_7_code
def yX4_allStand : MethodName := ⟨RX4, "allStand", "()Z"⟩
abbrev cX4_inches : ByteArray := prog_6_method_8_code
def yX4_inches : MethodName := ⟨RX4, "inches", "()I"⟩
abbrev cX4_tell : ByteArray := prog_6_method_9_code
def yX4_tell : MethodName := ⟨RX4, "tell", "(I)I"⟩
abbrev cX4_tellThing : ByteArray := prog_6_method_10_code
def yX4_tellThing : MethodName := ⟨RX4, "tellThing", "(II)I"⟩
abbrev cX4_isOver : ByteArray := prog_6_method_11_code
def yX4_isOver : MethodName := ⟨RX4, "isOver", "(I)Z"⟩
abbrev cX4_isAsTold : ByteArray := prog_6_method_12_code
def yX4_isAsTold : MethodName := ⟨RX4, "isAsTold", "(LClothPull$Tape;)Z"⟩
abbrev cX4_loss : ByteArray := prog_6_method_13_code
def yX4_loss : MethodName := ⟨RX4, "loss", "(LClothPull$Table;)I"⟩
abbrev cX4_leave : ByteArray := prog_6_method_14_code
def yX4_leave : MethodName := ⟨RX4, "leave", "(LClothPull$Table;)V"⟩
def RX5 : String := "ClothPull$Pull"
def TX5 : u_T := fun k => match k with
  | 0 => ("ClothPull$Pull", "paces", "[I", true)
  | _ => ("ClothPull$Pull", "ticks", "I", false)
def tyX5 : Nat → FieldType := fun k => match k with
  | 0 => .array .int
  | _ => .int
theorem nmX5 : ∀ a, a < 2 → ∀ b, b < 2 → a ≠ b → (TX5 a).2.1 ≠ (TX5 b).2.1 := by decide +kernel
theorem tyX5_ok : ∀ k, k < 2 → parseFieldDescriptor (TX5 k).2.2.1 = some (tyX5 k) := by decide +kernel
abbrev cX5_init : ByteArray := prog_7_method_1_code
def yX5_init : MethodName := ⟨RX5, "<init>", "()V"⟩
abbrev cX5_paceAt : ByteArray := prog_7_method_2_code
def yX5_paceAt : MethodName := ⟨RX5, "paceAt", "(I)I"⟩
abbrev cX5_copy : ByteArray := prog_7_method_3_code
def yX5_copy : MethodName := ⟨RX5, "copy", "(LClothPull$Pull;)V"⟩
abbrev cX5_add : ByteArray := prog_7_method_4_code
def yX5_add : MethodName := ⟨RX5, "add", "(II)V"⟩
abbrev cX5_addTill : ByteArray := prog_7_method_5_code
def yX5_addTill : MethodName := ⟨RX5, "addTill", "(II)V"⟩
abbrev cX5_even : ByteArray := prog_7_method_6_code
def yX5_even : MethodName := ⟨RX5, "even", "(II)V"⟩
abbrev cX5_read : ByteArray := prog_7_method_7_code
def yX5_read : MethodName := ⟨RX5, "read", "(LClothPull$Tape;I)I"⟩
abbrev cX5_digit : ByteArray := prog_7_method_8_code
def yX5_digit : MethodName := ⟨RX5, "digit", "(LClothPull$Tape;II)I"⟩
abbrev cX5_fault : ByteArray := prog_7_method_9_code
def yX5_fault : MethodName := ⟨RX5, "fault", "(II)I"⟩
def RX6 : String := "ClothPull$Row"
def TX6 : u_T := fun k => match k with
  | 0 => ("ClothPull$Row", "members", "[I", true)
  | 1 => ("ClothPull$Row", "gets", "[I", true)
  | 2 => ("ClothPull$Row", "bestGets", "[I", true)
  | _ => ("ClothPull$Row", "size", "I", false)
def tyX6 : Nat → FieldType := fun k => match k with
  | 0 => .array .int
  | 1 => .array .int
  | 2 => .array .int
  | _ => .int
theorem nmX6 : ∀ a, a < 4 → ∀ b, b < 4 → a ≠ b → (TX6 a).2.1 ≠ (TX6 b).2.1 := by decide +kernel
theorem tyX6_ok : ∀ k, k < 4 → parseFieldDescriptor (TX6 k).2.2.1 = some (tyX6 k) := by decide +kernel
abbrev cX6_init : ByteArray := prog_8_method_1_code
def yX6_init : MethodName := ⟨RX6, "<init>", "()V"⟩
abbrev cX6_take : ByteArray := prog_8_method_2_code
def yX6_take : MethodName := ⟨RX6, "take", "(II)Z"⟩
abbrev cX6_change : ByteArray := prog_8_method_3_code
def yX6_change : MethodName := ⟨RX6, "change", "(LClothPull$Table;LClothPull$Table;)V"⟩
abbrev cX6_markBest : ByteArray := prog_8_method_4_code
def yX6_markBest : MethodName := ⟨RX6, "markBest", "()V"⟩
abbrev cX6_chooseBest : ByteArray := prog_8_method_5_code
def yX6_chooseBest : MethodName := ⟨RX6, "chooseBest", "()V"⟩
abbrev cX6_whose : ByteArray := prog_8_method_6_code
def yX6_whose : MethodName := ⟨RX6, "whose", "(I)I"⟩
abbrev cX6_next : ByteArray := prog_8_method_7_code
def yX6_next : MethodName := ⟨RX6, "next", "()Z"⟩
abbrev cX6_swap : ByteArray := prog_8_method_8_code
def yX6_swap : MethodName := ⟨RX6, "swap", "(II)V"⟩
def RX7 : String := "ClothPull$Search"
def TX7 : u_T := fun k => match k with
  | 0 => ("ClothPull$Search", "evening", "LClothPull$Evening;", true)
  | 1 => ("ClothPull$Search", "table", "LClothPull$Table;", true)
  | 2 => ("ClothPull$Search", "pull", "LClothPull$Pull;", true)
  | 3 => ("ClothPull$Search", "out", "LClothPull$Outcome;", true)
  | 4 => ("ClothPull$Search", "standing", "I", false)
  | 5 => ("ClothPull$Search", "inches", "I", false)
  | 6 => ("ClothPull$Search", "first", "I", false)
  | 7 => ("ClothPull$Search", "second", "I", false)
  | 8 => ("ClothPull$Search", "fits", "I", false)
  | 9 => ("ClothPull$Search", "best", "[I", true)
  | 10 => ("ClothPull$Search", "bestTable", "LClothPull$Table;", true)
  | _ => ("ClothPull$Search", "bestLaw", "I", false)
def tyX7 : Nat → FieldType := fun k => match k with
  | 0 => .object "ClothPull$Evening"
  | 1 => .object "ClothPull$Table"
  | 2 => .object "ClothPull$Pull"
  | 3 => .object "ClothPull$Outcome"
  | 4 => .int
  | 5 => .int
  | 6 => .int
  | 7 => .int
  | 8 => .int
  | 9 => .array .int
  | 10 => .object "ClothPull$Table"
  | _ => .int
theorem nmX7 : ∀ a, a < 12 → ∀ b, b < 12 → a ≠ b → (TX7 a).2.1 ≠ (TX7 b).2.1 := by decide +kernel
theorem tyX7_ok : ∀ k, k < 12 → parseFieldDescriptor (TX7 k).2.2.1 = some (tyX7 k) := by decide +kernel
abbrev cX7_init : ByteArray := prog_9_method_1_code
def yX7_init : MethodName := ⟨RX7, "<init>", "(LClothPull$Law;)V"⟩
abbrev cX7_lay : ByteArray := prog_9_method_2_code
def yX7_lay : MethodName := ⟨RX7, "lay", "(LClothPull$Table;LClothPull$Pull;)V"⟩
abbrev cX7_leastPace : ByteArray := prog_9_method_3_code
def yX7_leastPace : MethodName := ⟨RX7, "leastPace", "()I"⟩
abbrev cX7_improves : ByteArray := prog_9_method_4_code
def yX7_improves : MethodName := ⟨RX7, "improves", "()Z"⟩
abbrev cX7_bestIs : ByteArray := prog_9_method_5_code
def yX7_bestIs : MethodName := ⟨RX7, "bestIs", "(I)I"⟩
abbrev cX7_bestPull : ByteArray := prog_9_method_6_code
def yX7_bestPull : MethodName := ⟨RX7, "bestPull", "(I)V"⟩
abbrev cX7_bestRow : ByteArray := prog_9_method_7_code
def yX7_bestRow : MethodName := ⟨RX7, "bestRow", "(LClothPull$Row;LClothPull$Table;)V"⟩
abbrev cX7_largestStanding : ByteArray := prog_9_method_8_code
def yX7_largestStanding : MethodName := ⟨RX7, "largestStanding", "()I"⟩
abbrev cX7_findWet : ByteArray := prog_9_method_9_code
def yX7_findWet : MethodName := ⟨RX7, "findWet", "(LClothPull$Tape;)V"⟩
abbrev cX7_findPaces : ByteArray := prog_9_method_10_code
def yX7_findPaces : MethodName := ⟨RX7, "findPaces", "(LClothPull$Tape;)V"⟩
abbrev cX7_noteFit : ByteArray := prog_9_method_11_code
def yX7_noteFit : MethodName := ⟨RX7, "noteFit", "(LClothPull$Tape;II)V"⟩
abbrev cX7_countHands : ByteArray := prog_9_method_12_code
def yX7_countHands : MethodName := ⟨RX7, "countHands", "(III)I"⟩
abbrev cX7_sumHands : ByteArray := prog_9_method_13_code
def yX7_sumHands : MethodName := ⟨RX7, "sumHands", "(III)I"⟩
def RX8 : String := "ClothPull$Table"
def TX8 : u_T := fun k => match k with
  | 0 => ("ClothPull$Table", "length", "I", false)
  | 1 => ("ClothPull$Table", "end", "I", false)
  | 2 => ("ClothPull$Table", "folds", "I", false)
  | 3 => ("ClothPull$Table", "told", "I", false)
  | 4 => ("ClothPull$Table", "x", "I", false)
  | _ => ("ClothPull$Table", "sides", "[I", true)
def tyX8 : Nat → FieldType := fun k => match k with
  | 0 => .int
  | 1 => .int
  | 2 => .int
  | 3 => .int
  | 4 => .int
  | _ => .array .int
theorem nmX8 : ∀ a, a < 6 → ∀ b, b < 6 → a ≠ b → (TX8 a).2.1 ≠ (TX8 b).2.1 := by decide +kernel
theorem tyX8_ok : ∀ k, k < 6 → parseFieldDescriptor (TX8 k).2.2.1 = some (tyX8 k) := by decide +kernel
abbrev cX8_init : ByteArray := prog_10_method_1_code
def yX8_init : MethodName := ⟨RX8, "<init>", "()V"⟩
abbrev cX8_has : ByteArray := prog_10_method_2_code
def yX8_has : MethodName := ⟨RX8, "has", "(I)Z"⟩
abbrev cX8_side : ByteArray := prog_10_method_3_code
def yX8_side : MethodName := ⟨RX8, "side", "(II)I"⟩
abbrev cX8_change : ByteArray := prog_10_method_4_code
def yX8_change : MethodName := ⟨RX8, "change", "(III)V"⟩
abbrev cX8_take : ByteArray := prog_10_method_5_code
def yX8_take : MethodName := ⟨RX8, "take", "(I)V"⟩
abbrev cX8_foldPlace : ByteArray := prog_10_method_6_code
def yX8_foldPlace : MethodName := ⟨RX8, "foldPlace", "(I)I"⟩
abbrev cX8_hasFold : ByteArray := prog_10_method_7_code
def yX8_hasFold : MethodName := ⟨RX8, "hasFold", "(I)Z"⟩
abbrev cX8_isAs : ByteArray := prog_10_method_8_code
def yX8_isAs : MethodName := ⟨RX8, "isAs", "(LClothPull$Table;)Z"⟩
abbrev cX8_copy : ByteArray := prog_10_method_9_code
def yX8_copy : MethodName := ⟨RX8, "copy", "(LClothPull$Table;)V"⟩
def RX9 : String := "ClothPull$Tape"
def TX9 : u_T := fun k => match k with
  | 0 => ("ClothPull$Tape", "bytes", "[I", true)
  | _ => ("ClothPull$Tape", "size", "I", false)
def tyX9 : Nat → FieldType := fun k => match k with
  | 0 => .array .int
  | _ => .int
theorem nmX9 : ∀ a, a < 2 → ∀ b, b < 2 → a ≠ b → (TX9 a).2.1 ≠ (TX9 b).2.1 := by decide +kernel
theorem tyX9_ok : ∀ k, k < 2 → parseFieldDescriptor (TX9 k).2.2.1 = some (tyX9 k) := by decide +kernel
abbrev cX9_init : ByteArray := prog_11_method_1_code
def yX9_init : MethodName := ⟨RX9, "<init>", "()V"⟩
abbrev cX9_add : ByteArray := prog_11_method_2_code
def yX9_add : MethodName := ⟨RX9, "add", "(I)V"⟩
abbrev cX9_at : ByteArray := prog_11_method_3_code
def yX9_at : MethodName := ⟨RX9, "at", "(I)I"⟩
abbrev cX9_number : ByteArray := prog_11_method_4_code
def yX9_number : MethodName := ⟨RX9, "number", "(I)I"⟩
def RX10 : String := "ClothPull"
def TX10 : u_T := fun k => match k with
  | 0 => ("ClothPull", "table", "LClothPull$Table;", true)
  | 1 => ("ClothPull", "kept", "LClothPull$Table;", true)
  | 2 => ("ClothPull", "tape", "LClothPull$Tape;", true)
  | 3 => ("ClothPull", "drawn", "LClothPull$Pull;", true)
  | 4 => ("ClothPull", "newPull", "LClothPull$Pull;", true)
  | 5 => ("ClothPull", "rules", "LClothPull$Law;", true)
  | 6 => ("ClothPull", "newRules", "LClothPull$Law;", true)
  | 7 => ("ClothPull", "reader", "LClothPull$LawReader;", true)
  | 8 => ("ClothPull", "search", "LClothPull$Search;", true)
  | 9 => ("ClothPull", "evening", "LClothPull$Evening;", true)
  | 10 => ("ClothPull", "row", "LClothPull$Row;", true)
  | 11 => ("ClothPull", "isKept", "Z", false)
  | _ => ("ClothPull", "lawsRead", "I", false)
def tyX10 : Nat → FieldType := fun k => match k with
  | 0 => .object "ClothPull$Table"
  | 1 => .object "ClothPull$Table"
  | 2 => .object "ClothPull$Tape"
  | 3 => .object "ClothPull$Pull"
  | 4 => .object "ClothPull$Pull"
  | 5 => .object "ClothPull$Law"
  | 6 => .object "ClothPull$Law"
  | 7 => .object "ClothPull$LawReader"
  | 8 => .object "ClothPull$Search"
  | 9 => .object "ClothPull$Evening"
  | 10 => .object "ClothPull$Row"
  | 11 => .boolean
  | _ => .int
theorem nmX10 : ∀ a, a < 13 → ∀ b, b < 13 → a ≠ b → (TX10 a).2.1 ≠ (TX10 b).2.1 := by decide +kernel
theorem tyX10_ok : ∀ k, k < 13 → parseFieldDescriptor (TX10 k).2.2.1 = some (tyX10 k) := by decide +kernel
abbrev cX10_init : ByteArray := prog_1_method_1_code
def yX10_init : MethodName := ⟨RX10, "<init>", "()V"⟩
abbrev cX10_table : ByteArray := prog_1_method_2_code
def yX10_table : MethodName := ⟨RX10, "table", "(II)Z"⟩
abbrev cX10_cloth : ByteArray := prog_1_method_3_code
def yX10_cloth : MethodName := ⟨RX10, "cloth", "(I)Z"⟩
abbrev cX10_thing : ByteArray := prog_1_method_4_code
def yX10_thing : MethodName := ⟨RX10, "thing", "(IIIIII)Z"⟩
abbrev cX10_more : ByteArray := prog_1_method_5_code
def yX10_more : MethodName := ⟨RX10, "more", "(IIII)Z"⟩
abbrev cX10_away : ByteArray := prog_1_method_6_code
def yX10_away : MethodName := ⟨RX10, "away", "(I)Z"⟩
abbrev cX10_feed : ByteArray := prog_1_method_7_code
def yX10_feed : MethodName := ⟨RX10, "feed", "(IIIII)I"⟩
abbrev cX10_pull : ByteArray := prog_1_method_8_code
def yX10_pull : MethodName := ⟨RX10, "pull", "(I)I"⟩
abbrev cX10_law : ByteArray := prog_1_method_9_code
def yX10_law : MethodName := ⟨RX10, "law", "(I)I"⟩
abbrev cX10_tried : ByteArray := prog_1_method_10_code
def yX10_tried : MethodName := ⟨RX10, "tried", "(I)I"⟩
abbrev cX10_still : ByteArray := prog_1_method_11_code
def yX10_still : MethodName := ⟨RX10, "still", "(I)I"⟩
abbrev cX10_done : ByteArray := prog_1_method_12_code
def yX10_done : MethodName := ⟨RX10, "done", "()I"⟩
abbrev cX10_thingIs : ByteArray := prog_1_method_13_code
def yX10_thingIs : MethodName := ⟨RX10, "thingIs", "(II)I"⟩
abbrev cX10_pace : ByteArray := prog_1_method_14_code
def yX10_pace : MethodName := ⟨RX10, "pace", "()I"⟩
abbrev cX10_best : ByteArray := prog_1_method_15_code
def yX10_best : MethodName := ⟨RX10, "best", "(I)I"⟩
abbrev cX10_put : ByteArray := prog_1_method_16_code
def yX10_put : MethodName := ⟨RX10, "put", "(II)I"⟩
abbrev cX10_most : ByteArray := prog_1_method_17_code
def yX10_most : MethodName := ⟨RX10, "most", "(I)I"⟩
abbrev cX10_worth : ByteArray := prog_1_method_18_code
def yX10_worth : MethodName := ⟨RX10, "worth", "(II)I"⟩
abbrev cX10_wasWet : ByteArray := prog_1_method_19_code
def yX10_wasWet : MethodName := ⟨RX10, "wasWet", "(I)I"⟩
abbrev cX10_howQuick : ByteArray := prog_1_method_20_code
def yX10_howQuick : MethodName := ⟨RX10, "howQuick", "(I)I"⟩
abbrev cX10_odds : ByteArray := prog_1_method_21_code
def yX10_odds : MethodName := ⟨RX10, "odds", "(III)I"⟩
abbrev cX10_should : ByteArray := prog_1_method_22_code
def yX10_should : MethodName := ⟨RX10, "should", "(II)I"⟩
abbrev cX10_practice : ByteArray := prog_1_method_23_code
def yX10_practice : MethodName := ⟨RX10, "practice", "(III)I"⟩
abbrev cX10_seed : ByteArray := prog_1_method_24_code
def yX10_seed : MethodName := ⟨RX10, "seed", "(I)Z"⟩
abbrev cX10_keep : ByteArray := prog_1_method_25_code
def yX10_keep : MethodName := ⟨RX10, "keep", "()I"⟩
abbrev cX10_undo : ByteArray := prog_1_method_26_code
def yX10_undo : MethodName := ⟨RX10, "undo", "()Z"⟩
abbrev cX10_check : ByteArray := prog_1_method_27_code
def yX10_check : MethodName := ⟨RX10, "check", "(I)I"⟩
abbrev cX10_count : ByteArray := prog_1_method_28_code
def yX10_count : MethodName := ⟨RX10, "count", "(I)I"⟩
abbrev cX10_tryDrawn : ByteArray := prog_1_method_29_code
def yX10_tryDrawn : MethodName := ⟨RX10, "tryDrawn", "()V"⟩
abbrev cX10_canCompare : ByteArray := prog_1_method_30_code
def yX10_canCompare : MethodName := ⟨RX10, "canCompare", "()Z"⟩
abbrev cX10_within : ByteArray := prog_1_method_31_code
def yX10_within : MethodName := ⟨RX10, "within", "(III)Z"⟩
abbrev cX10_hands : ByteArray := prog_1_method_32_code
def yX10_hands : MethodName := ⟨RX10, "hands", "(I)I"⟩
abbrev cX10_commonDivisor : ByteArray := prog_1_method_33_code
def yX10_commonDivisor : MethodName := ⟨RX10, "commonDivisor", "(II)I"⟩
def RX11 : String := "ClothPullModel"
def TX11 : u_T := fun k => match k with
  | 0 => ("ClothPullModel", "long0", "I", false)
  | 1 => ("ClothPullModel", "end0", "I", false)
  | 2 => ("ClothPullModel", "folds0", "I", false)
  | 3 => ("ClothPullModel", "x0", "I", false)
  | 4 => ("ClothPullModel", "told0", "I", false)
  | 5 => ("ClothPullModel", "kindOf", "[I", true)
  | 6 => ("ClothPullModel", "placeOf", "[I", true)
  | 7 => ("ClothPullModel", "footOf", "[I", true)
  | 8 => ("ClothPullModel", "heightOf", "[I", true)
  | 9 => ("ClothPullModel", "weightOf", "[I", true)
  | 10 => ("ClothPullModel", "wetOf", "[I", true)
  | 11 => ("ClothPullModel", "filledOf", "[I", true)
  | 12 => ("ClothPullModel", "worthOf", "[I", true)
  | 13 => ("ClothPullModel", "tape", "[B", true)
  | 14 => ("ClothPullModel", "taped", "I", false)
  | 15 => ("ClothPullModel", "place0", "I", false)
  | 16 => ("ClothPullModel", "length0", "I", false)
  | 17 => ("ClothPullModel", "fault", "I", false)
  | 18 => ("ClothPullModel", "number0", "I", false)
  | 19 => ("ClothPullModel", "ticks0", "I", false)
  | 20 => ("ClothPullModel", "newTicks", "I", false)
  | 21 => ("ClothPullModel", "newSteps", "I", false)
  | 22 => ("ClothPullModel", "paceOf", "[I", true)
  | 23 => ("ClothPullModel", "newPace", "[I", true)
  | 24 => ("ClothPullModel", "open", "I", false)
  | 25 => ("ClothPullModel", "codeMany", "I", false)
  | 26 => ("ClothPullModel", "waiting", "I", false)
  | 27 => ("ClothPullModel", "saidMany", "I", false)
  | 28 => ("ClothPullModel", "clauses", "I", false)
  | 29 => ("ClothPullModel", "said", "[I", true)
  | 30 => ("ClothPullModel", "waits", "[I", true)
  | 31 => ("ClothPullModel", "saidLetter", "[I", true)
  | 32 => ("ClothPullModel", "saidFrom", "[I", true)
  | 33 => ("ClothPullModel", "saidHalf", "[I", true)
  | 34 => ("ClothPullModel", "saidTo", "[I", true)
  | 35 => ("ClothPullModel", "codes", "[I", true)
  | 36 => ("ClothPullModel", "clauseOf", "[I", true)
  | 37 => ("ClothPullModel", "codeFrom", "[I", true)
  | 38 => ("ClothPullModel", "codeHalf", "[I", true)
  | 39 => ("ClothPullModel", "codeTo", "[I", true)
  | 40 => ("ClothPullModel", "stack", "[I", true)
  | 41 => ("ClothPullModel", "facts", "[I", true)
  | 42 => ("ClothPullModel", "there", "I", false)
  | 43 => ("ClothPullModel", "foldSet", "I", false)
  | 44 => ("ClothPullModel", "pullTicks", "I", false)
  | 45 => ("ClothPullModel", "tick", "I", false)
  | 46 => ("ClothPullModel", "went0", "I", false)
  | 47 => ("ClothPullModel", "cloth1", "I", false)
  | 48 => ("ClothPullModel", "end1", "I", false)
  | 49 => ("ClothPullModel", "slipTicks", "I", false)
  | 50 => ("ClothPullModel", "drawRow", "I", false)
  | 51 => ("ClothPullModel", "isDrawn", "Z", false)
  | 52 => ("ClothPullModel", "pullPace", "[I", true)
  | 53 => ("ClothPullModel", "at", "[I", true)
  | 54 => ("ClothPullModel", "speed", "[I", true)
  | 55 => ("ClothPullModel", "state", "[I", true)
  | 56 => ("ClothPullModel", "full", "[I", true)
  | 57 => ("ClothPullModel", "wet", "[I", true)
  | 58 => ("ClothPullModel", "tall", "[I", true)
  | 59 => ("ClothPullModel", "inches", "[I", true)
  | 60 => ("ClothPullModel", "onCloth", "[I", true)
  | 61 => ("ClothPullModel", "onWood", "[I", true)
  | 62 => ("ClothPullModel", "byTouch", "[I", true)
  | 63 => ("ClothPullModel", "ahead", "[I", true)
  | 64 => ("ClothPullModel", "order", "[I", true)
  | 65 => ("ClothPullModel", "rocked", "I", false)
  | 66 => ("ClothPullModel", "touched", "I", false)
  | 67 => ("ClothPullModel", "spilt", "I", false)
  | 68 => ("ClothPullModel", "touchedNow", "I", false)
  | 69 => ("ClothPullModel", "clothNow", "I", false)
  | 70 => ("ClothPullModel", "bestMany", "I", false)
  | 71 => ("ClothPullModel", "bestInches", "I", false)
  | 72 => ("ClothPullModel", "bestCode", "I", false)
  | 73 => ("ClothPullModel", "whoPut", "[I", true)
  | 74 => ("ClothPullModel", "putBy", "[I", true)
  | 75 => ("ClothPullModel", "putMany", "I", false)
  | 76 => ("ClothPullModel", "toldAt", "[I", true)
  | 77 => ("ClothPullModel", "isKept", "Z", false)
  | 78 => ("ClothPullModel", "keptLong", "I", false)
  | 79 => ("ClothPullModel", "keptEnd", "I", false)
  | 80 => ("ClothPullModel", "keptFolds", "I", false)
  | 81 => ("ClothPullModel", "keptX", "I", false)
  | 82 => ("ClothPullModel", "keptTold", "I", false)
  | 83 => ("ClothPullModel", "keptKind", "[I", true)
  | 84 => ("ClothPullModel", "keptPlace", "[I", true)
  | 85 => ("ClothPullModel", "keptFoot", "[I", true)
  | 86 => ("ClothPullModel", "keptHeight", "[I", true)
  | 87 => ("ClothPullModel", "keptWeight", "[I", true)
  | 88 => ("ClothPullModel", "keptWet", "[I", true)
  | 89 => ("ClothPullModel", "keptFilled", "[I", true)
  | _ => ("ClothPullModel", "keptWorth", "[I", true)
def tyX11 : Nat → FieldType := fun k => match k with
  | 0 => .int
  | 1 => .int
  | 2 => .int
  | 3 => .int
  | 4 => .int
  | 5 => .array .int
  | 6 => .array .int
  | 7 => .array .int
  | 8 => .array .int
  | 9 => .array .int
  | 10 => .array .int
  | 11 => .array .int
  | 12 => .array .int
  | 13 => .array .byte
  | 14 => .int
  | 15 => .int
  | 16 => .int
  | 17 => .int
  | 18 => .int
  | 19 => .int
  | 20 => .int
  | 21 => .int
  | 22 => .array .int
  | 23 => .array .int
  | 24 => .int
  | 25 => .int
  | 26 => .int
  | 27 => .int
  | 28 => .int
  | 29 => .array .int
  | 30 => .array .int
  | 31 => .array .int
  | 32 => .array .int
  | 33 => .array .int
  | 34 => .array .int
  | 35 => .array .int
  | 36 => .array .int
  | 37 => .array .int
  | 38 => .array .int
  | 39 => .array .int
  | 40 => .array .int
  | 41 => .array .int
  | 42 => .int
  | 43 => .int
  | 44 => .int
  | 45 => .int
  | 46 => .int
  | 47 => .int
  | 48 => .int
  | 49 => .int
  | 50 => .int
  | 51 => .boolean
  | 52 => .array .int
  | 53 => .array .int
  | 54 => .array .int
  | 55 => .array .int
  | 56 => .array .int
  | 57 => .array .int
  | 58 => .array .int
  | 59 => .array .int
  | 60 => .array .int
  | 61 => .array .int
  | 62 => .array .int
  | 63 => .array .int
  | 64 => .array .int
  | 65 => .int
  | 66 => .int
  | 67 => .int
  | 68 => .int
  | 69 => .int
  | 70 => .int
  | 71 => .int
  | 72 => .int
  | 73 => .array .int
  | 74 => .array .int
  | 75 => .int
  | 76 => .array .int
  | 77 => .boolean
  | 78 => .int
  | 79 => .int
  | 80 => .int
  | 81 => .int
  | 82 => .int
  | 83 => .array .int
  | 84 => .array .int
  | 85 => .array .int
  | 86 => .array .int
  | 87 => .array .int
  | 88 => .array .int
  | 89 => .array .int
  | _ => .array .int
theorem nmX11 : ∀ a, a < 91 → ∀ b, b < 91 → a ≠ b → (TX11 a).2.1 ≠ (TX11 b).2.1 := by decide +kernel
theorem tyX11_ok : ∀ k, k < 91 → parseFieldDescriptor (TX11 k).2.2.1 = some (tyX11 k) := by decide +kernel
abbrev cX11_init : ByteArray := prog_13_method_1_code
def yX11_init : MethodName := ⟨RX11, "<init>", "()V"⟩
abbrev cX11_in : ByteArray := prog_13_method_2_code
def yX11_in : MethodName := ⟨RX11, "in", "(III)Z"⟩
abbrev cX11_min : ByteArray := prog_13_method_3_code
def yX11_min : MethodName := ⟨RX11, "min", "(II)I"⟩
abbrev cX11_max : ByteArray := prog_13_method_4_code
def yX11_max : MethodName := ⟨RX11, "max", "(II)I"⟩
abbrev cX11_size : ByteArray := prog_13_method_5_code
def yX11_size : MethodName := ⟨RX11, "size", "(I)I"⟩
abbrev cX11_has : ByteArray := prog_13_method_6_code
def yX11_has : MethodName := ⟨RX11, "has", "(II)Z"⟩
abbrev cX11_bits : ByteArray := prog_13_method_7_code
def yX11_bits : MethodName := ⟨RX11, "bits", "(I)I"⟩
abbrev cX11_table : ByteArray := prog_13_method_8_code
def yX11_table : MethodName := ⟨RX11, "table", "(II)Z"⟩
abbrev cX11_cloth : ByteArray := prog_13_method_9_code
def yX11_cloth : MethodName := ⟨RX11, "cloth", "(I)Z"⟩
abbrev cX11_isTold : ByteArray := prog_13_method_10_code
def yX11_isTold : MethodName := ⟨RX11, "isTold", "(I)Z"⟩
abbrev cX11_thing : ByteArray := prog_13_method_11_code
def yX11_thing : MethodName := ⟨RX11, "thing", "(IIIIII)Z"⟩
abbrev cX11_more : ByteArray := prog_13_method_12_code
def yX11_more : MethodName := ⟨RX11, "more", "(IIII)Z"⟩
abbrev cX11_away : ByteArray := prog_13_method_13_code
def yX11_away : MethodName := ⟨RX11, "away", "(I)Z"⟩
abbrev cX11_types : ByteArray := prog_13_method_14_code
def yX11_types : MethodName := ⟨RX11, "types", "(I)V"⟩
abbrev cX11_feed : ByteArray := prog_13_method_15_code
def yX11_feed : MethodName := ⟨RX11, "feed", "(IIIII)I"⟩
abbrev cX11_readsPace : ByteArray := prog_13_method_16_code
def yX11_readsPace : MethodName := ⟨RX11, "readsPace", "()Z"⟩
abbrev cX11_readsStep : ByteArray := prog_13_method_17_code
def yX11_readsStep : MethodName := ⟨RX11, "readsStep", "()Z"⟩
abbrev cX11_pull : ByteArray := prog_13_method_18_code
def yX11_pull : MethodName := ⟨RX11, "pull", "(I)I"⟩
abbrev cX11_here : ByteArray := prog_13_method_19_code
def yX11_here : MethodName := ⟨RX11, "here", "()I"⟩
abbrev cX11_isDigit : ByteArray := prog_13_method_20_code
def yX11_isDigit : MethodName := ⟨RX11, "isDigit", "()Z"⟩
abbrev cX11_wrongAt : ByteArray := prog_13_method_21_code
def yX11_wrongAt : MethodName := ⟨RX11, "wrongAt", "(II)Z"⟩
abbrev cX11_takes : ByteArray := prog_13_method_22_code
def yX11_takes : MethodName := ⟨RX11, "takes", "(I)Z"⟩
abbrev cX11_readsNumber : ByteArray := prog_13_method_23_code
def yX11_readsNumber : MethodName := ⟨RX11, "readsNumber", "()Z"⟩
abbrev cX11_notes : ByteArray := prog_13_method_24_code
def yX11_notes : MethodName := ⟨RX11, "notes", "(II)V"⟩
abbrev cX11_opens : ByteArray := prog_13_method_25_code
def yX11_opens : MethodName := ⟨RX11, "opens", "(I)Z"⟩
abbrev cX11_waitTop : ByteArray := prog_13_method_26_code
def yX11_waitTop : MethodName := ⟨RX11, "waitTop", "()I"⟩
abbrev cX11_factOf : ByteArray := prog_13_method_27_code
def yX11_factOf : MethodName := ⟨RX11, "factOf", "(I)I"⟩
abbrev cX11_sumSign : ByteArray := prog_13_method_28_code
def yX11_sumSign : MethodName := ⟨RX11, "sumSign", "(I)I"⟩
abbrev cX11_closesSums : ByteArray := prog_13_method_29_code
def yX11_closesSums : MethodName := ⟨RX11, "closesSums", "(Z)V"⟩
abbrev cX11_readsFactor : ByteArray := prog_13_method_30_code
def yX11_readsFactor : MethodName := ⟨RX11, "readsFactor", "()Z"⟩
abbrev cX11_hasOpenSum : ByteArray := prog_13_method_31_code
def yX11_hasOpenSum : MethodName := ⟨RX11, "hasOpenSum", "(I)Z"⟩
abbrev cX11_readsSum : ByteArray := prog_13_method_32_code
def yX11_readsSum : MethodName := ⟨RX11, "readsSum", "()Z"⟩
abbrev cX11_endsPiece : ByteArray := prog_13_method_33_code
def yX11_endsPiece : MethodName := ⟨RX11, "endsPiece", "()V"⟩
abbrev cX11_lands : ByteArray := prog_13_method_34_code
def yX11_lands : MethodName := ⟨RX11, "lands", "(Z)V"⟩
abbrev cX11_jumps : ByteArray := prog_13_method_35_code
def yX11_jumps : MethodName := ⟨RX11, "jumps", "(I)V"⟩
abbrev cX11_readsCompared : ByteArray := prog_13_method_36_code
def yX11_readsCompared : MethodName := ⟨RX11, "readsCompared", "()Z"⟩
abbrev cX11_readsCondition : ByteArray := prog_13_method_37_code
def yX11_readsCondition : MethodName := ⟨RX11, "readsCondition", "()Z"⟩
abbrev cX11_isClause : ByteArray := prog_13_method_38_code
def yX11_isClause : MethodName := ⟨RX11, "isClause", "(I)Z"⟩
abbrev cX11_readsClause : ByteArray := prog_13_method_39_code
def yX11_readsClause : MethodName := ⟨RX11, "readsClause", "()Z"⟩
abbrev cX11_law : ByteArray := prog_13_method_40_code
def yX11_law : MethodName := ⟨RX11, "law", "(I)I"⟩
abbrev cX11_reckon : ByteArray := prog_13_method_41_code
def yX11_reckon : MethodName := ⟨RX11, "reckon", "(III)I"⟩
abbrev cX11_comesTo : ByteArray := prog_13_method_42_code
def yX11_comesTo : MethodName := ⟨RX11, "comesTo", "(II)I"⟩
abbrev cX11_byLaw : ByteArray := prog_13_method_43_code
def yX11_byLaw : MethodName := ⟨RX11, "byLaw", "(III)I"⟩
abbrev cX11_laysPull : ByteArray := prog_13_method_44_code
def yX11_laysPull : MethodName := ⟨RX11, "laysPull", "()V"⟩
abbrev cX11_laysThings : ByteArray := prog_13_method_45_code
def yX11_laysThings : MethodName := ⟨RX11, "laysThings", "()V"⟩
abbrev cX11_begins : ByteArray := prog_13_method_46_code
def yX11_begins : MethodName := ⟨RX11, "begins", "()V"⟩
abbrev cX11_stands : ByteArray := prog_13_method_47_code
def yX11_stands : MethodName := ⟨RX11, "stands", "(I)Z"⟩
abbrev cX11_someMove : ByteArray := prog_13_method_48_code
def yX11_someMove : MethodName := ⟨RX11, "someMove", "()Z"⟩
abbrev cX11_paceNow : ByteArray := prog_13_method_49_code
def yX11_paceNow : MethodName := ⟨RX11, "paceNow", "()I"⟩
abbrev cX11_slipsNow : ByteArray := prog_13_method_50_code
def yX11_slipsNow : MethodName := ⟨RX11, "slipsNow", "()I"⟩
abbrev cX11_feels : ByteArray := prog_13_method_51_code
def yX11_feels : MethodName := ⟨RX11, "feels", "(I)V"⟩
abbrev cX11_foldPasses : ByteArray := prog_13_method_52_code
def yX11_foldPasses : MethodName := ⟨RX11, "foldPasses", "(I)Z"⟩
abbrev cX11_hurries : ByteArray := prog_13_method_53_code
def yX11_hurries : MethodName := ⟨RX11, "hurries", "(I)V"⟩
abbrev cX11_goes : ByteArray := prog_13_method_54_code
def yX11_goes : MethodName := ⟨RX11, "goes", "(I)V"⟩
abbrev cX11_laysOrder : ByteArray := prog_13_method_55_code
def yX11_laysOrder : MethodName := ⟨RX11, "laysOrder", "()I"⟩
abbrev cX11_meet : ByteArray := prog_13_method_56_code
def yX11_meet : MethodName := ⟨RX11, "meet", "(II)V"⟩
abbrev cX11_counts : ByteArray := prog_13_method_57_code
def yX11_counts : MethodName := ⟨RX11, "counts", "(I)V"⟩
abbrev cX11_ticks : ByteArray := prog_13_method_58_code
def yX11_ticks : MethodName := ⟨RX11, "ticks", "()V"⟩
abbrev cX11_runs : ByteArray := prog_13_method_59_code
def yX11_runs : MethodName := ⟨RX11, "runs", "()V"⟩
abbrev cX11_standing : ByteArray := prog_13_method_60_code
def yX11_standing : MethodName := ⟨RX11, "standing", "()I"⟩
abbrev cX11_inchesAll : ByteArray := prog_13_method_61_code
def yX11_inchesAll : MethodName := ⟨RX11, "inchesAll", "()I"⟩
abbrev cX11_stateBits : ByteArray := prog_13_method_62_code
def yX11_stateBits : MethodName := ⟨RX11, "stateBits", "(I)I"⟩
abbrev cX11_endsAt : ByteArray := prog_13_method_63_code
def yX11_endsAt : MethodName := ⟨RX11, "endsAt", "(I)I"⟩
abbrev cX11_isAsked : ByteArray := prog_13_method_64_code
def yX11_isAsked : MethodName := ⟨RX11, "isAsked", "(I)Z"⟩
abbrev cX11_told : ByteArray := prog_13_method_65_code
def yX11_told : MethodName := ⟨RX11, "told", "(I)I"⟩
abbrev cX11_runsStill : ByteArray := prog_13_method_66_code
def yX11_runsStill : MethodName := ⟨RX11, "runsStill", "()V"⟩
abbrev cX11_runsDrawn : ByteArray := prog_13_method_67_code
def yX11_runsDrawn : MethodName := ⟨RX11, "runsDrawn", "()V"⟩
abbrev cX11_tried : ByteArray := prog_13_method_68_code
def yX11_tried : MethodName := ⟨RX11, "tried", "(I)I"⟩
abbrev cX11_still : ByteArray := prog_13_method_69_code
def yX11_still : MethodName := ⟨RX11, "still", "(I)I"⟩
abbrev cX11_done : ByteArray := prog_13_method_70_code
def yX11_done : MethodName := ⟨RX11, "done", "()I"⟩
abbrev cX11_thingIs : ByteArray := prog_13_method_71_code
def yX11_thingIs : MethodName := ⟨RX11, "thingIs", "(II)I"⟩
abbrev cX11_laysPaces : ByteArray := prog_13_method_72_code
def yX11_laysPaces : MethodName := ⟨RX11, "laysPaces", "(II)V"⟩
abbrev cX11_runsEven : ByteArray := prog_13_method_73_code
def yX11_runsEven : MethodName := ⟨RX11, "runsEven", "(I)V"⟩
abbrev cX11_pace : ByteArray := prog_13_method_74_code
def yX11_pace : MethodName := ⟨RX11, "pace", "()I"⟩
abbrev cX11_better : ByteArray := prog_13_method_75_code
def yX11_better : MethodName := ⟨RX11, "better", "(I)V"⟩
abbrev cX11_forgetsBest : ByteArray := prog_13_method_76_code
def yX11_forgetsBest : MethodName := ⟨RX11, "forgetsBest", "()V"⟩
abbrev cX11_best : ByteArray := prog_13_method_77_code
def yX11_best : MethodName := ⟨RX11, "best", "(I)I"⟩
abbrev cX11_readsRow : ByteArray := prog_13_method_78_code
def yX11_readsRow : MethodName := ⟨RX11, "readsRow", "(I)Z"⟩
abbrev cX11_put : ByteArray := prog_13_method_79_code
def yX11_put : MethodName := ⟨RX11, "put", "(II)I"⟩
abbrev cX11_most : ByteArray := prog_13_method_80_code
def yX11_most : MethodName := ⟨RX11, "most", "(I)I"⟩
abbrev cX11_worth : ByteArray := prog_13_method_81_code
def yX11_worth : MethodName := ⟨RX11, "worth", "(II)I"⟩
abbrev cX11_takesPlaces : ByteArray := prog_13_method_82_code
def yX11_takesPlaces : MethodName := ⟨RX11, "takesPlaces", "()Z"⟩
abbrev cX11_fits : ByteArray := prog_13_method_83_code
def yX11_fits : MethodName := ⟨RX11, "fits", "()Z"⟩
abbrev cX11_wasWet : ByteArray := prog_13_method_84_code
def yX11_wasWet : MethodName := ⟨RX11, "wasWet", "(I)I"⟩
abbrev cX11_howQuick : ByteArray := prog_13_method_85_code
def yX11_howQuick : MethodName := ⟨RX11, "howQuick", "(I)I"⟩
abbrev cX11_rowsOf : ByteArray := prog_13_method_86_code
def yX11_rowsOf : MethodName := ⟨RX11, "rowsOf", "(I)I"⟩
abbrev cX11_runsBy : ByteArray := prog_13_method_87_code
def yX11_runsBy : MethodName := ⟨RX11, "runsBy", "(II)V"⟩
abbrev cX11_gcd : ByteArray := prog_13_method_88_code
def yX11_gcd : MethodName := ⟨RX11, "gcd", "(II)I"⟩
abbrev cX11_odds : ByteArray := prog_13_method_89_code
def yX11_odds : MethodName := ⟨RX11, "odds", "(III)I"⟩
abbrev cX11_should : ByteArray := prog_13_method_90_code
def yX11_should : MethodName := ⟨RX11, "should", "(II)I"⟩
abbrev cX11_practice : ByteArray := prog_13_method_91_code
def yX11_practice : MethodName := ⟨RX11, "practice", "(III)I"⟩
abbrev cX11_seed : ByteArray := prog_13_method_92_code
def yX11_seed : MethodName := ⟨RX11, "seed", "(I)Z"⟩
abbrev cX11_copies : ByteArray := prog_13_method_93_code
def yX11_copies : MethodName := ⟨RX11, "copies", "([I[I)V"⟩
abbrev cX11_keep : ByteArray := prog_13_method_94_code
def yX11_keep : MethodName := ⟨RX11, "keep", "()I"⟩
abbrev cX11_undo : ByteArray := prog_13_method_95_code
def yX11_undo : MethodName := ⟨RX11, "undo", "()Z"⟩
abbrev cX11_tapeNumber : ByteArray := prog_13_method_96_code
def yX11_tapeNumber : MethodName := ⟨RX11, "tapeNumber", "(I)I"⟩
abbrev cX11_check : ByteArray := prog_13_method_97_code
def yX11_check : MethodName := ⟨RX11, "check", "(I)I"⟩
abbrev cX11_count : ByteArray := prog_13_method_98_code
def yX11_count : MethodName := ⟨RX11, "count", "(I)I"⟩
def RJ6 : String := "java/lang/Integer"
abbrev cJ6_bitCount_0f7a4 : ByteArray := prog_15_method_49_code
def yJ6_bitCount_0f7a4 : MethodName := ⟨RJ6, "bitCount", "(I)I"⟩
def RJ9 : String := "java/lang/Math"
abbrev cJ9_abs_0f7a4 : ByteArray := prog_16_method_59_code
def yJ9_abs_0f7a4 : MethodName := ⟨RJ9, "abs", "(I)I"⟩
abbrev cJ9_max_7cf53 : ByteArray := prog_16_method_65_code
def yJ9_max_7cf53 : MethodName := ⟨RJ9, "max", "(II)I"⟩
abbrev cJ9_min_7cf53 : ByteArray := prog_16_method_69_code
def yJ9_min_7cf53 : MethodName := ⟨RJ9, "min", "(II)I"⟩
def RJ10 : String := "java/lang/System"
def RL : String := "ClothPullLaw"
abbrev cL_law : ByteArray := code
def yL_law : MethodName := ⟨RL, "law", "([I)Z"⟩
abbrev vwCl : List vw_C := [(RX0, TX0, 15), (RX1, TX1, 4), (RX2, TX2, 9), (RX3, TX3, 5), (RX4, TX4, 11), (RX5, TX5, 2), (RX6, TX6, 4), (RX7, TX7, 12), (RX8, TX8, 6), (RX9, TX9, 2), (RX10, TX10, 13), (RX11, TX11, 91)]
end
section
/-! ===== the words that every method is given: the tables' good ones; nest words ride in the start ===== -/
def gT : List Cond := lw_tbl.filter goodWord
theorem g_w {w : Cond} (i : Nat) (h : lw_tbl[i]? = some w) (hg : goodWord w = true) : w ∈ gT := List.mem_filter.mpr ⟨List.mem_of_getElem? h, hg⟩
theorem gT_good : ∀ w ∈ gT, goodWord w = true := fun _ h => (List.mem_filter.mp h).2
theorem gT_in : ∀ w ∈ gT, w ∈ lw_tbl := fun _ h => (List.mem_filter.mp h).1
theorem g_good {ws : List Cond} (h : ∀ w ∈ ws, w ∈ gT) : GoodIn gT ws := fun w hw => ⟨h w hw, good_of_word (gT_good w (h w hw))⟩
theorem g_ps (ws : List Cond) (ps : List Nat) (h : ws = ps.filterMap (fun i => lw_tbl[i]?)) (hg : ws.all goodWord = true) : ∀ w ∈ ws, w ∈ gT := by
  intro w hw
  have h1 := List.all_eq_true.mp hg w hw
  rw [h] at hw
  obtain ⟨i, -, hi⟩ := List.mem_filterMap.mp hw
  exact List.mem_filter.mpr ⟨List.mem_of_getElem? hi, h1⟩
def g_nest : Cond → Bool
  | .fieldLinkNest .. => true
  | .methodLinkNest .. => true
  | _ => false
def g_nf (U : State) : Prop := ∀ w ∈ lw_tbl, g_nest w = true → va_Nw w U
theorem g_nf_warm {s U : State} (hW : s.WarmedH U.vm) (h : g_nf s) : g_nf U := by
  intro w hw hn
  have h1 := h w hw hn
  cases w <;> first | exact Bool.noConfusion hn | exact va_Nw.warmF hW h1 | exact va_Nw.warmM hW h1
theorem g_nf_vm {u U : State} (hv : u.vm = U.vm) (h : g_nf u) : g_nf U := by
  intro w hw hn
  have h1 := h w hw hn
  cases w <;> first | exact Bool.noConfusion hn | exact va_Nw.same rfl hv h1
abbrev gX : Type := va_G × ClassId × ClassId
def g_ty (X : gX) : List (ClassId × FieldType) := [(X.2.1, .int), (X.2.2, .byte)]
def g_K (X : gX) (U : State) : Prop := va_K X.1 vwCl (g_ty X) U
def g_Pre (X : gX) (sz : Nat) (ws : va_W) (U : State) : Prop := U.heap.size = sz ∧ va_P X.1 vwCl ws U.heap ∧ g_K X U ∧ va_D (fun _ => True) ws ∧ g_nf U
def g_B (X : gX) (A : Nat → Prop) (w : va_W) (t : State) : Prop := va_P X.1 vwCl w t.heap ∧ va_D A w
def g_rm (d mc ms : Nat) : Room := { frames := d, cells := mc, slots := ms, locals := 40 * d }
abbrev gW (y : MethodName) (b : ByteArray) (ml : Nat) (ret : Option FieldType) : List Cond := .code y b ml ret :: gT
/-- a contract of an int (boolean) method: from the world ws with the arguments av it answers r, and leaves w, with 'post r w' -/
def g_Ci (l : Launch) (X : gX) (y : MethodName) (b : ByteArray) (ml : Nat) (ret : Option FieldType) (d mc ms : Nat) (av : List Value) (ws : va_W) (post : Int32 → va_W → Prop) : Prop :=
  ∀ sz, Met l y (gW y b ml ret) (g_rm d mc ms) (va_Pc av (g_Pre X sz ws)) (va_Qi post (fun w t => g_B X (va_A ws sz) w t) (va_A ws sz)) mc ms (va_A ws sz)
def g_Cv (l : Launch) (X : gX) (y : MethodName) (b : ByteArray) (ml : Nat) (d mc ms : Nat) (av : List Value) (ws : va_W) (post : va_W → Prop) : Prop :=
  ∀ sz, Met l y (gW y b ml none) (g_rm d mc ms) (va_Pc av (g_Pre X sz ws)) (va_Qv post (fun w t => g_B X (va_A ws sz) w t) (va_A ws sz)) mc ms (va_A ws sz)
/-- where a method stands: its machine as one predicate, its number, its cells, the heap at its start -/
abbrev gE : Type := (Heap → List Loc → Nat → Nat → JFrame → Prop) × MethodId × (Nat → Prop) × Heap
/-- from the world ws, the locals lv, the stack st at pc the machine comes to the method's end -/
def G (X : gX) (E : gE) (nL k n : Nat) (ws : va_W) (lv : List (Nat × Value)) (pc : Nat) (st : List Value) : Prop :=
  ∀ (H : Heap) (locs : List Loc) (ls : Array Slot), va_P X.1 vwCl ws H → va_D E.2.2.1 ws → va_S E.2.2.1 E.2.2.2 H locs → lv_has ls nL lv → E.1 H locs k n (F0 E.2.1 pc ls st)
def g_cx (X : gX) (E : gE) (nL : Nat) (l : Launch) (R : Room) (cc : ByteArray) (own : String) (ini : Prop) : Prop :=
  ∃ (p : Program) (e : Env) (s : State) (args : Array Value) (below : List Frame) (meth : Method) (c : Code) (Q : State → Prop),
    E.1 = (fun H locs k n g => W p l e R s E.2.1 args below meth c H locs k n Q g) ∧ p.tables.exec = Jvm.exec ∧ c.code = cc ∧ c.maxLocals = nL ∧ s.vm.findClass own = some E.2.1.cls ∧ (∀ w ∈ gT, w.before args s = true) ∧ g_K X s ∧ g_nf s ∧ (∀ q, E.2.2.2.size ≤ q → E.2.2.1 q) ∧ (ini → meth.name = "<init>")
def g_dc (cc : ByteArray) (pc : Nat) (i : Instr) (n pc' : Nat) : Prop := decode cc pc = .ok (i, n) ∧ pc + n = pc'
def g_at (ws : va_W) (is : List Nat) : va_W := is.filterMap (fun i => ws[i]?)
theorem g_at_ok {ws : va_W} : ∀ {is : List Nat}, is.all (fun i => decide (i < ws.length)) = true → is.map (fun i => ws[i]?) = (g_at ws is).map some
  | [], _ => rfl
  | i :: is, h => by
    simp only [List.all_cons, Bool.and_eq_true, decide_eq_true_eq] at h
    have h1 : ws[i]? = some (ws[i]'h.1) := List.getElem?_eq_getElem h.1
    have ih := g_at_ok (ws := ws) (is := is) h.2
    simp only [g_at, List.map_cons, List.filterMap_cons, h1] at ih ⊢
    rw [ih]

section GL
variable {X : gX} {E : gE} {nL k n : Nat} {l : Launch} {R : Room} {cc : ByteArray} {own : String} {ini : Prop} {ws : va_W} {lv : List (Nat × Value)} {pc pc' : Nat} {st : List Value}

theorem g_iconst (cx : g_cx X E nL l R cc own ini) {z : Int} (v : Int32) (hv : Int32.ofInt z = v) (hd : g_dc cc pc (.iconst z) 1 pc') (kk : G X E nL k n ws lv pc' (.int v :: st)) : G X E nL k n ws lv pc (st) := by
  obtain ⟨p, e, s, args, below, meth, c, Q, hE, hx, hb, hml, hown, hts, hK, hN, hA, hini⟩ := cx
  obtain ⟨hd, rfl⟩ := hd
  intro H locs ls hP hD hS hl0
  have k1 := kk H locs ls hP hD hS hl0
  rw [hE] at k1 ⊢
  exact lv_iconst hx hb hd hv k1
theorem g_bipush (cx : g_cx X E nL l R cc own ini) {z : Int} (v : Int32) (hv : (Int8.ofInt z).toInt32 = v) (hd : g_dc cc pc (.bipush z) 2 pc') (kk : G X E nL k n ws lv pc' (.int v :: st)) : G X E nL k n ws lv pc (st) := by
  obtain ⟨p, e, s, args, below, meth, c, Q, hE, hx, hb, hml, hown, hts, hK, hN, hA, hini⟩ := cx
  obtain ⟨hd, rfl⟩ := hd
  intro H locs ls hP hD hS hl0
  have k1 := kk H locs ls hP hD hS hl0
  rw [hE] at k1 ⊢
  exact lv_bipush hx hb hd hv k1
theorem g_sipush (cx : g_cx X E nL l R cc own ini) {z : Int} (v : Int32) (hv : (Int16.ofInt z).toInt32 = v) (hd : g_dc cc pc (.sipush z) 3 pc') (kk : G X E nL k n ws lv pc' (.int v :: st)) : G X E nL k n ws lv pc (st) := by
  obtain ⟨p, e, s, args, below, meth, c, Q, hE, hx, hb, hml, hown, hts, hK, hN, hA, hini⟩ := cx
  obtain ⟨hd, rfl⟩ := hd
  intro H locs ls hP hD hS hl0
  have k1 := kk H locs ls hP hD hS hl0
  rw [hE] at k1 ⊢
  exact lv_sipush hx hb hd hv k1
theorem g_ldc (cx : g_cx X E nL l R cc own ini) {i : Nat} (v : Int32) (hw : Cond.constant own i v ∈ gT) (hd : g_dc cc pc (.ldc i) 2 pc') (kk : G X E nL k n ws lv pc' (.int v :: st)) : G X E nL k n ws lv pc (st) := by
  obtain ⟨p, e, s, args, below, meth, c, Q, hE, hx, hb, hml, hown, hts, hK, hN, hA, hini⟩ := cx
  obtain ⟨hd, rfl⟩ := hd
  intro H locs ls hP hD hS hl0
  have k1 := kk H locs ls hP hD hS hl0
  rw [hE] at k1 ⊢
  exact lv_ldc hx hb hown (hts _ hw) hd k1
theorem g_ldcw (cx : g_cx X E nL l R cc own ini) {i : Nat} (v : Int32) (hw : Cond.constant own i v ∈ gT) (hd : g_dc cc pc (.ldc_w i) 3 pc') (kk : G X E nL k n ws lv pc' (.int v :: st)) : G X E nL k n ws lv pc (st) := by
  obtain ⟨p, e, s, args, below, meth, c, Q, hE, hx, hb, hml, hown, hts, hK, hN, hA, hini⟩ := cx
  obtain ⟨hd, rfl⟩ := hd
  intro H locs ls hP hD hS hl0
  have k1 := kk H locs ls hP hD hS hl0
  rw [hE] at k1 ⊢
  exact lv_ldcw hx hb hown (hts _ hw) hd k1
theorem g_ldc2 (cx : g_cx X E nL l R cc own ini) {i : Nat} (v : Int64) (hw : Cond.constantLong own i v ∈ gT) (hd : g_dc cc pc (.ldc2_w i) 3 pc') (kk : G X E nL k n ws lv pc' (.long v :: st)) : G X E nL k n ws lv pc (st) := by
  obtain ⟨p, e, s, args, below, meth, c, Q, hE, hx, hb, hml, hown, hts, hK, hN, hA, hini⟩ := cx
  obtain ⟨hd, rfl⟩ := hd
  intro H locs ls hP hD hS hl0
  have k1 := kk H locs ls hP hD hS hl0
  rw [hE] at k1 ⊢
  exact lv_ldc2 hx hb hown (hts _ hw) hd k1
theorem g_iload_n (cx : g_cx X E nL l R cc own ini) (q : Nat) {i : Fin 4} {x : Int32} (hl : lv[q]? = some ((i : Nat), .int x)) (hd : g_dc cc pc (.iload_n i) 1 pc') (kk : G X E nL k n ws lv pc' (.int x :: st)) : G X E nL k n ws lv pc (st) := by
  obtain ⟨p, e, s, args, below, meth, c, Q, hE, hx, hb, hml, hown, hts, hK, hN, hA, hini⟩ := cx
  obtain ⟨hd, rfl⟩ := hd
  intro H locs ls hP hD hS hl0
  have k1 := kk H locs ls hP hD hS hl0
  rw [hE] at k1 ⊢
  exact lv_iload_n hx hb hd rfl (lv_at hl0 q hl) k1
theorem g_iload (cx : g_cx X E nL l R cc own ini) (q : Nat) {i : Nat} {x : Int32} (hl : lv[q]? = some (i, .int x)) (hd : g_dc cc pc (.iload i) 2 pc') (kk : G X E nL k n ws lv pc' (.int x :: st)) : G X E nL k n ws lv pc (st) := by
  obtain ⟨p, e, s, args, below, meth, c, Q, hE, hx, hb, hml, hown, hts, hK, hN, hA, hini⟩ := cx
  obtain ⟨hd, rfl⟩ := hd
  intro H locs ls hP hD hS hl0
  have k1 := kk H locs ls hP hD hS hl0
  rw [hE] at k1 ⊢
  exact lv_iload hx hb hd (lv_at hl0 q hl) k1
theorem g_lload_n (cx : g_cx X E nL l R cc own ini) (q : Nat) {i : Fin 4} {x : Int64} (hl : lv[q]? = some ((i : Nat), .long x)) (hd : g_dc cc pc (.lload_n i) 1 pc') (kk : G X E nL k n ws lv pc' (.long x :: st)) : G X E nL k n ws lv pc (st) := by
  obtain ⟨p, e, s, args, below, meth, c, Q, hE, hx, hb, hml, hown, hts, hK, hN, hA, hini⟩ := cx
  obtain ⟨hd, rfl⟩ := hd
  intro H locs ls hP hD hS hl0
  have k1 := kk H locs ls hP hD hS hl0
  rw [hE] at k1 ⊢
  exact lv_lload_n hx hb hd rfl (lv_at hl0 q hl) k1
theorem g_lload (cx : g_cx X E nL l R cc own ini) (q : Nat) {i : Nat} {x : Int64} (hl : lv[q]? = some (i, .long x)) (hd : g_dc cc pc (.lload i) 2 pc') (kk : G X E nL k n ws lv pc' (.long x :: st)) : G X E nL k n ws lv pc (st) := by
  obtain ⟨p, e, s, args, below, meth, c, Q, hE, hx, hb, hml, hown, hts, hK, hN, hA, hini⟩ := cx
  obtain ⟨hd, rfl⟩ := hd
  intro H locs ls hP hD hS hl0
  have k1 := kk H locs ls hP hD hS hl0
  rw [hE] at k1 ⊢
  exact lv_lload hx hb hd (lv_at hl0 q hl) k1
theorem g_aload_n (cx : g_cx X E nL l R cc own ini) (q : Nat) {i : Fin 4} {x : Nat} (hl : lv[q]? = some ((i : Nat), .ref x)) (hd : g_dc cc pc (.aload_n i) 1 pc') (kk : G X E nL k n ws lv pc' (.ref x :: st)) : G X E nL k n ws lv pc (st) := by
  obtain ⟨p, e, s, args, below, meth, c, Q, hE, hx, hb, hml, hown, hts, hK, hN, hA, hini⟩ := cx
  obtain ⟨hd, rfl⟩ := hd
  intro H locs ls hP hD hS hl0
  have k1 := kk H locs ls hP hD hS hl0
  rw [hE] at k1 ⊢
  exact lv_aload_n hx hb hd rfl (lv_at hl0 q hl) k1
theorem g_aload (cx : g_cx X E nL l R cc own ini) (q : Nat) {i : Nat} {x : Nat} (hl : lv[q]? = some (i, .ref x)) (hd : g_dc cc pc (.aload i) 2 pc') (kk : G X E nL k n ws lv pc' (.ref x :: st)) : G X E nL k n ws lv pc (st) := by
  obtain ⟨p, e, s, args, below, meth, c, Q, hE, hx, hb, hml, hown, hts, hK, hN, hA, hini⟩ := cx
  obtain ⟨hd, rfl⟩ := hd
  intro H locs ls hP hD hS hl0
  have k1 := kk H locs ls hP hD hS hl0
  rw [hE] at k1 ⊢
  exact lv_aload hx hb hd (lv_at hl0 q hl) k1
theorem g_istore_n (cx : g_cx X E nL l R cc own ini) (lv' : List (Nat × Value)) {i : Fin 4} {x : Int32} (hd : g_dc cc pc (.istore_n i) 1 pc') (hn : (i : Nat) < nL) (hl : ((i : Nat), Value.int x) :: lv.filter (fun q => !(q.1 == (i : Nat)) && !(q.1 + 1 == (i : Nat) && q.2.category == 2)) = lv') (kk : G X E nL k n ws lv' pc' st) : G X E nL k n ws lv pc (.int x :: st) := by
  obtain ⟨p, e, s, args, below, meth, c, Q, hE, hx, hb, hml, hown, hts, hK, hN, hA, hini⟩ := cx
  obtain ⟨hd, rfl⟩ := hd
  intro H locs ls hP hD hS hl0
  rw [hE]
  refine lv_istore_n hx hb hd rfl hl0 hn hl (fun ls2 hl2 => ?_)
  have k1 := kk H locs ls2 hP hD hS hl2
  rw [hE] at k1
  exact k1
theorem g_istore (cx : g_cx X E nL l R cc own ini) (lv' : List (Nat × Value)) {i : Nat} {x : Int32} (hd : g_dc cc pc (.istore i) 2 pc') (hn : i < nL) (hl : (i, Value.int x) :: lv.filter (fun q => !(q.1 == i) && !(q.1 + 1 == i && q.2.category == 2)) = lv') (kk : G X E nL k n ws lv' pc' st) : G X E nL k n ws lv pc (.int x :: st) := by
  obtain ⟨p, e, s, args, below, meth, c, Q, hE, hx, hb, hml, hown, hts, hK, hN, hA, hini⟩ := cx
  obtain ⟨hd, rfl⟩ := hd
  intro H locs ls hP hD hS hl0
  rw [hE]
  refine lv_istore hx hb hd hl0 hn hl (fun ls2 hl2 => ?_)
  have k1 := kk H locs ls2 hP hD hS hl2
  rw [hE] at k1
  exact k1
theorem g_astore_n (cx : g_cx X E nL l R cc own ini) (lv' : List (Nat × Value)) {i : Fin 4} {x : Nat} (hd : g_dc cc pc (.astore_n i) 1 pc') (hn : (i : Nat) < nL) (hl : ((i : Nat), Value.ref x) :: lv.filter (fun q => !(q.1 == (i : Nat)) && !(q.1 + 1 == (i : Nat) && q.2.category == 2)) = lv') (kk : G X E nL k n ws lv' pc' st) : G X E nL k n ws lv pc (.ref x :: st) := by
  obtain ⟨p, e, s, args, below, meth, c, Q, hE, hx, hb, hml, hown, hts, hK, hN, hA, hini⟩ := cx
  obtain ⟨hd, rfl⟩ := hd
  intro H locs ls hP hD hS hl0
  rw [hE]
  refine lv_astore_n hx hb hd rfl hl0 hn hl (fun ls2 hl2 => ?_)
  have k1 := kk H locs ls2 hP hD hS hl2
  rw [hE] at k1
  exact k1
theorem g_astore (cx : g_cx X E nL l R cc own ini) (lv' : List (Nat × Value)) {i : Nat} {x : Nat} (hd : g_dc cc pc (.astore i) 2 pc') (hn : i < nL) (hl : (i, Value.ref x) :: lv.filter (fun q => !(q.1 == i) && !(q.1 + 1 == i && q.2.category == 2)) = lv') (kk : G X E nL k n ws lv' pc' st) : G X E nL k n ws lv pc (.ref x :: st) := by
  obtain ⟨p, e, s, args, below, meth, c, Q, hE, hx, hb, hml, hown, hts, hK, hN, hA, hini⟩ := cx
  obtain ⟨hd, rfl⟩ := hd
  intro H locs ls hP hD hS hl0
  rw [hE]
  refine lv_astore hx hb hd hl0 hn hl (fun ls2 hl2 => ?_)
  have k1 := kk H locs ls2 hP hD hS hl2
  rw [hE] at k1
  exact k1
theorem g_lstore_n (cx : g_cx X E nL l R cc own ini) (lv' : List (Nat × Value)) {i : Fin 4} {x : Int64} (hd : g_dc cc pc (.lstore_n i) 1 pc') (hn : (i : Nat) + 1 < nL) (hl : ((i : Nat), Value.long x) :: lv.filter (fun q => !(q.1 == (i : Nat)) && (!(q.1 == (i : Nat) + 1) && !(q.1 + 1 == (i : Nat) && q.2.category == 2))) = lv') (kk : G X E nL k n ws lv' pc' st) : G X E nL k n ws lv pc (.long x :: st) := by
  obtain ⟨p, e, s, args, below, meth, c, Q, hE, hx, hb, hml, hown, hts, hK, hN, hA, hini⟩ := cx
  obtain ⟨hd, rfl⟩ := hd
  intro H locs ls hP hD hS hl0
  rw [hE]
  refine lv_lstore_n hx hb hd rfl hl0 hn hl (fun ls2 hl2 => ?_)
  have k1 := kk H locs ls2 hP hD hS hl2
  rw [hE] at k1
  exact k1
theorem g_lstore (cx : g_cx X E nL l R cc own ini) (lv' : List (Nat × Value)) {i : Nat} {x : Int64} (hd : g_dc cc pc (.lstore i) 2 pc') (hn : i + 1 < nL) (hl : (i, Value.long x) :: lv.filter (fun q => !(q.1 == i) && (!(q.1 == i + 1) && !(q.1 + 1 == i && q.2.category == 2))) = lv') (kk : G X E nL k n ws lv' pc' st) : G X E nL k n ws lv pc (.long x :: st) := by
  obtain ⟨p, e, s, args, below, meth, c, Q, hE, hx, hb, hml, hown, hts, hK, hN, hA, hini⟩ := cx
  obtain ⟨hd, rfl⟩ := hd
  intro H locs ls hP hD hS hl0
  rw [hE]
  refine lv_lstore hx hb hd hl0 hn hl (fun ls2 hl2 => ?_)
  have k1 := kk H locs ls2 hP hD hS hl2
  rw [hE] at k1
  exact k1
theorem g_iinc (cx : g_cx X E nL l R cc own ini) (v : Int32) (lv' : List (Nat × Value)) (q : Nat) {i : Nat} {z : Int} {x : Int32} (hd : g_dc cc pc (.iinc i z) 3 pc') (hk : lv[q]? = some (i, .int x)) (hv : x + Int32.ofInt z = v) (hn : i < nL) (hl : (i, Value.int v) :: lv.filter (fun q => !(q.1 == i) && !(q.1 + 1 == i && q.2.category == 2)) = lv') (kk : G X E nL k n ws lv' pc' st) : G X E nL k n ws lv pc st := by
  obtain ⟨p, e, s, args, below, meth, c, Q, hE, hx, hb, hml, hown, hts, hK, hN, hA, hini⟩ := cx
  obtain ⟨hd, rfl⟩ := hd
  intro H locs ls hP hD hS hl0
  rw [hE]
  refine lv_iinc hx hb hd hl0 hk hv hn hl (fun ls2 hl2 => ?_)
  have k1 := kk H locs ls2 hP hD hS hl2
  rw [hE] at k1
  exact k1
theorem g_iadd (cx : g_cx X E nL l R cc own ini) {x y : Int32} (hd : g_dc cc pc (.iadd) 1 pc') (kk : G X E nL k n ws lv pc' (.int (x + y) :: st)) : G X E nL k n ws lv pc (.int y :: .int x :: st) := by
  obtain ⟨p, e, s, args, below, meth, c, Q, hE, hx, hb, hml, hown, hts, hK, hN, hA, hini⟩ := cx
  obtain ⟨hd, rfl⟩ := hd
  intro H locs ls hP hD hS hl0
  have k1 := kk H locs ls hP hD hS hl0
  rw [hE] at k1 ⊢
  exact lv_iadd hx hb hd k1
theorem g_isub (cx : g_cx X E nL l R cc own ini) {x y : Int32} (hd : g_dc cc pc (.isub) 1 pc') (kk : G X E nL k n ws lv pc' (.int (x - y) :: st)) : G X E nL k n ws lv pc (.int y :: .int x :: st) := by
  obtain ⟨p, e, s, args, below, meth, c, Q, hE, hx, hb, hml, hown, hts, hK, hN, hA, hini⟩ := cx
  obtain ⟨hd, rfl⟩ := hd
  intro H locs ls hP hD hS hl0
  have k1 := kk H locs ls hP hD hS hl0
  rw [hE] at k1 ⊢
  exact lv_isub hx hb hd k1
theorem g_imul (cx : g_cx X E nL l R cc own ini) {x y : Int32} (hd : g_dc cc pc (.imul) 1 pc') (kk : G X E nL k n ws lv pc' (.int (x * y) :: st)) : G X E nL k n ws lv pc (.int y :: .int x :: st) := by
  obtain ⟨p, e, s, args, below, meth, c, Q, hE, hx, hb, hml, hown, hts, hK, hN, hA, hini⟩ := cx
  obtain ⟨hd, rfl⟩ := hd
  intro H locs ls hP hD hS hl0
  have k1 := kk H locs ls hP hD hS hl0
  rw [hE] at k1 ⊢
  exact lv_imul hx hb hd k1
theorem g_iand (cx : g_cx X E nL l R cc own ini) {x y : Int32} (hd : g_dc cc pc (.iand) 1 pc') (kk : G X E nL k n ws lv pc' (.int (x &&& y) :: st)) : G X E nL k n ws lv pc (.int y :: .int x :: st) := by
  obtain ⟨p, e, s, args, below, meth, c, Q, hE, hx, hb, hml, hown, hts, hK, hN, hA, hini⟩ := cx
  obtain ⟨hd, rfl⟩ := hd
  intro H locs ls hP hD hS hl0
  have k1 := kk H locs ls hP hD hS hl0
  rw [hE] at k1 ⊢
  exact lv_iand hx hb hd k1
theorem g_ior (cx : g_cx X E nL l R cc own ini) {x y : Int32} (hd : g_dc cc pc (.ior) 1 pc') (kk : G X E nL k n ws lv pc' (.int (x ||| y) :: st)) : G X E nL k n ws lv pc (.int y :: .int x :: st) := by
  obtain ⟨p, e, s, args, below, meth, c, Q, hE, hx, hb, hml, hown, hts, hK, hN, hA, hini⟩ := cx
  obtain ⟨hd, rfl⟩ := hd
  intro H locs ls hP hD hS hl0
  have k1 := kk H locs ls hP hD hS hl0
  rw [hE] at k1 ⊢
  exact lv_ior hx hb hd k1
theorem g_ixor (cx : g_cx X E nL l R cc own ini) {x y : Int32} (hd : g_dc cc pc (.ixor) 1 pc') (kk : G X E nL k n ws lv pc' (.int (x ^^^ y) :: st)) : G X E nL k n ws lv pc (.int y :: .int x :: st) := by
  obtain ⟨p, e, s, args, below, meth, c, Q, hE, hx, hb, hml, hown, hts, hK, hN, hA, hini⟩ := cx
  obtain ⟨hd, rfl⟩ := hd
  intro H locs ls hP hD hS hl0
  have k1 := kk H locs ls hP hD hS hl0
  rw [hE] at k1 ⊢
  exact lv_ixor hx hb hd k1
theorem g_ishl (cx : g_cx X E nL l R cc own ini) {x y : Int32} (hd : g_dc cc pc (.ishl) 1 pc') (kk : G X E nL k n ws lv pc' (.int (x <<< (y &&& 31)) :: st)) : G X E nL k n ws lv pc (.int y :: .int x :: st) := by
  obtain ⟨p, e, s, args, below, meth, c, Q, hE, hx, hb, hml, hown, hts, hK, hN, hA, hini⟩ := cx
  obtain ⟨hd, rfl⟩ := hd
  intro H locs ls hP hD hS hl0
  have k1 := kk H locs ls hP hD hS hl0
  rw [hE] at k1 ⊢
  exact lv_ishl hx hb hd k1
theorem g_ishr (cx : g_cx X E nL l R cc own ini) {x y : Int32} (hd : g_dc cc pc (.ishr) 1 pc') (kk : G X E nL k n ws lv pc' (.int (x >>> (y &&& 31)) :: st)) : G X E nL k n ws lv pc (.int y :: .int x :: st) := by
  obtain ⟨p, e, s, args, below, meth, c, Q, hE, hx, hb, hml, hown, hts, hK, hN, hA, hini⟩ := cx
  obtain ⟨hd, rfl⟩ := hd
  intro H locs ls hP hD hS hl0
  have k1 := kk H locs ls hP hD hS hl0
  rw [hE] at k1 ⊢
  exact lv_ishr hx hb hd k1
theorem g_idiv (cx : g_cx X E nL l R cc own ini) {x y : Int32} (hne : ¬ y = 0) (hd : g_dc cc pc (.idiv) 1 pc') (kk : G X E nL k n ws lv pc' (.int (x / y) :: st)) : G X E nL k n ws lv pc (.int y :: .int x :: st) := by
  obtain ⟨p, e, s, args, below, meth, c, Q, hE, hx, hb, hml, hown, hts, hK, hN, hA, hini⟩ := cx
  obtain ⟨hd, rfl⟩ := hd
  intro H locs ls hP hD hS hl0
  have k1 := kk H locs ls hP hD hS hl0
  rw [hE] at k1 ⊢
  exact lv_idiv hx hb hd hne k1
theorem g_irem (cx : g_cx X E nL l R cc own ini) {x y : Int32} (hne : ¬ y = 0) (hd : g_dc cc pc (.irem) 1 pc') (kk : G X E nL k n ws lv pc' (.int (x - x / y * y) :: st)) : G X E nL k n ws lv pc (.int y :: .int x :: st) := by
  obtain ⟨p, e, s, args, below, meth, c, Q, hE, hx, hb, hml, hown, hts, hK, hN, hA, hini⟩ := cx
  obtain ⟨hd, rfl⟩ := hd
  intro H locs ls hP hD hS hl0
  have k1 := kk H locs ls hP hD hS hl0
  rw [hE] at k1 ⊢
  exact lv_irem hx hb hd hne k1
theorem g_ldiv (cx : g_cx X E nL l R cc own ini) {x y : Int64} (hne : ¬ y = 0) (hd : g_dc cc pc (.ldiv) 1 pc') (kk : G X E nL k n ws lv pc' (.long (x / y) :: st)) : G X E nL k n ws lv pc (.long y :: .long x :: st) := by
  obtain ⟨p, e, s, args, below, meth, c, Q, hE, hx, hb, hml, hown, hts, hK, hN, hA, hini⟩ := cx
  obtain ⟨hd, rfl⟩ := hd
  intro H locs ls hP hD hS hl0
  have k1 := kk H locs ls hP hD hS hl0
  rw [hE] at k1 ⊢
  exact lv_ldiv hx hb hd hne k1
theorem g_lmul (cx : g_cx X E nL l R cc own ini) {x y : Int64} (hd : g_dc cc pc (.lmul) 1 pc') (kk : G X E nL k n ws lv pc' (.long (x * y) :: st)) : G X E nL k n ws lv pc (.long y :: .long x :: st) := by
  obtain ⟨p, e, s, args, below, meth, c, Q, hE, hx, hb, hml, hown, hts, hK, hN, hA, hini⟩ := cx
  obtain ⟨hd, rfl⟩ := hd
  intro H locs ls hP hD hS hl0
  have k1 := kk H locs ls hP hD hS hl0
  rw [hE] at k1 ⊢
  exact lv_lmul hx hb hd k1
theorem g_lcmp (cx : g_cx X E nL l R cc own ini) {x y : Int64} (hd : g_dc cc pc (.lcmp) 1 pc') (kk : G X E nL k n ws lv pc' (.int (lg_cmp x y) :: st)) : G X E nL k n ws lv pc (.long y :: .long x :: st) := by
  obtain ⟨p, e, s, args, below, meth, c, Q, hE, hx, hb, hml, hown, hts, hK, hN, hA, hini⟩ := cx
  obtain ⟨hd, rfl⟩ := hd
  intro H locs ls hP hD hS hl0
  have k1 := kk H locs ls hP hD hS hl0
  rw [hE] at k1 ⊢
  exact W.lcmp hx hb hd k1
theorem g_ineg (cx : g_cx X E nL l R cc own ini) {x : Int32} (hd : g_dc cc pc (.ineg) 1 pc') (kk : G X E nL k n ws lv pc' (.int (-x) :: st)) : G X E nL k n ws lv pc (.int x :: st) := by
  obtain ⟨p, e, s, args, below, meth, c, Q, hE, hx, hb, hml, hown, hts, hK, hN, hA, hini⟩ := cx
  obtain ⟨hd, rfl⟩ := hd
  intro H locs ls hP hD hS hl0
  have k1 := kk H locs ls hP hD hS hl0
  rw [hE] at k1 ⊢
  exact lv_ineg hx hb hd k1
theorem g_i2l (cx : g_cx X E nL l R cc own ini) {x : Int32} (hd : g_dc cc pc (.i2l) 1 pc') (kk : G X E nL k n ws lv pc' (.long x.toInt64 :: st)) : G X E nL k n ws lv pc (.int x :: st) := by
  obtain ⟨p, e, s, args, below, meth, c, Q, hE, hx, hb, hml, hown, hts, hK, hN, hA, hini⟩ := cx
  obtain ⟨hd, rfl⟩ := hd
  intro H locs ls hP hD hS hl0
  have k1 := kk H locs ls hP hD hS hl0
  rw [hE] at k1 ⊢
  exact lv_i2l hx hb hd rfl k1
theorem g_i2b (cx : g_cx X E nL l R cc own ini) {x : Int32} (hd : g_dc cc pc (.i2b) 1 pc') (kk : G X E nL k n ws lv pc' (.int x.toInt8.toInt32 :: st)) : G X E nL k n ws lv pc (.int x :: st) := by
  obtain ⟨p, e, s, args, below, meth, c, Q, hE, hx, hb, hml, hown, hts, hK, hN, hA, hini⟩ := cx
  obtain ⟨hd, rfl⟩ := hd
  intro H locs ls hP hD hS hl0
  have k1 := kk H locs ls hP hD hS hl0
  rw [hE] at k1 ⊢
  exact lv_i2b hx hb hd rfl k1
theorem g_i2c (cx : g_cx X E nL l R cc own ini) {x : Int32} (hd : g_dc cc pc (.i2c) 1 pc') (kk : G X E nL k n ws lv pc' (.int (x.toUInt32 % 65536).toInt32 :: st)) : G X E nL k n ws lv pc (.int x :: st) := by
  obtain ⟨p, e, s, args, below, meth, c, Q, hE, hx, hb, hml, hown, hts, hK, hN, hA, hini⟩ := cx
  obtain ⟨hd, rfl⟩ := hd
  intro H locs ls hP hD hS hl0
  have k1 := kk H locs ls hP hD hS hl0
  rw [hE] at k1 ⊢
  exact lv_i2c hx hb hd rfl k1
theorem g_iushr (cx : g_cx X E nL l R cc own ini) {x y : Int32} (hd : g_dc cc pc (.iushr) 1 pc') (kk : G X E nL k n ws lv pc' (.int (x.toUInt32 >>> (y.toUInt32 &&& Int32.toUInt32 31)).toInt32 :: st)) : G X E nL k n ws lv pc (.int y :: .int x :: st) := by
  obtain ⟨p, e, s, args, below, meth, c, Q, hE, hx, hb, hml, hown, hts, hK, hN, hA, hini⟩ := cx
  obtain ⟨hd, rfl⟩ := hd
  intro H locs ls hP hD hS hl0
  have k1 := kk H locs ls hP hD hS hl0
  rw [hE] at k1 ⊢
  exact lv_iushr hx hb hd rfl k1
theorem g_dup (cx : g_cx X E nL l R cc own ini) {va : Value} (hva : va.category = 1) (hd : g_dc cc pc (.dup) 1 pc') (kk : G X E nL k n ws lv pc' (va :: va :: st)) : G X E nL k n ws lv pc (va :: st) := by
  obtain ⟨p, e, s, args, below, meth, c, Q, hE, hx, hb, hml, hown, hts, hK, hN, hA, hini⟩ := cx
  obtain ⟨hd, rfl⟩ := hd
  intro H locs ls hP hD hS hl0
  have k1 := kk H locs ls hP hD hS hl0
  rw [hE] at k1 ⊢
  exact lv_dup hx hb hd hva k1
theorem g_pop (cx : g_cx X E nL l R cc own ini) {va : Value} (hva : va.category = 1) (hd : g_dc cc pc (.pop) 1 pc') (kk : G X E nL k n ws lv pc' (st)) : G X E nL k n ws lv pc (va :: st) := by
  obtain ⟨p, e, s, args, below, meth, c, Q, hE, hx, hb, hml, hown, hts, hK, hN, hA, hini⟩ := cx
  obtain ⟨hd, rfl⟩ := hd
  intro H locs ls hP hD hS hl0
  have k1 := kk H locs ls hP hD hS hl0
  rw [hE] at k1 ⊢
  exact lv_pop hx hb hd hva k1
theorem g_dup2 (cx : g_cx X E nL l R cc own ini) {va vb : Value} (hva : va.category = 1) (hvb : vb.category = 1) (hd : g_dc cc pc (.dup2) 1 pc') (kk : G X E nL k n ws lv pc' (va :: vb :: va :: vb :: st)) : G X E nL k n ws lv pc (va :: vb :: st) := by
  obtain ⟨p, e, s, args, below, meth, c, Q, hE, hx, hb, hml, hown, hts, hK, hN, hA, hini⟩ := cx
  obtain ⟨hd, rfl⟩ := hd
  intro H locs ls hP hD hS hl0
  have k1 := kk H locs ls hP hD hS hl0
  rw [hE] at k1 ⊢
  exact lv_dup2_11 hx hb hd hva hvb k1
theorem g_if_eq (cx : g_cx X E nL l R cc own ini) {x : Int32} {off : Int} (tgt : Nat) (hd : g_dc cc pc (.ifCond .eq off) 3 pc') (ht : (pc : Int) + off = (tgt : Int)) (kt : x = 0 → G X E nL k n ws lv tgt st) (kf : ¬ x = 0 → G X E nL k n ws lv pc' st) : G X E nL k n ws lv pc (.int x :: st) := by
  obtain ⟨p, e, s, args, below, meth, c, Q, hE, hx, hb, hml, hown, hts, hK, hN, hA, hini⟩ := cx
  obtain ⟨hd, rfl⟩ := hd
  intro H locs ls hP hD hS hl0
  rw [hE]
  refine lv_if_eq hx hb hd ht (fun h => ?_) (fun h => ?_)
  · have k1 := kt h H locs ls hP hD hS hl0
    rw [hE] at k1
    exact k1
  · have k1 := kf h H locs ls hP hD hS hl0
    rw [hE] at k1
    exact k1
theorem g_if_eq_t (cx : g_cx X E nL l R cc own ini) {x : Int32} {off : Int} (tgt : Nat) (hd : g_dc cc pc (.ifCond .eq off) 3 pc') (ht : (pc : Int) + off = (tgt : Int)) (h : x = 0) (kk : G X E nL k n ws lv tgt st) : G X E nL k n ws lv pc (.int x :: st) := g_if_eq cx tgt hd ht (fun _ => kk) (fun q => absurd h q)
theorem g_if_eq_f (cx : g_cx X E nL l R cc own ini) {x : Int32} {off : Int} (tgt : Nat) (hd : g_dc cc pc (.ifCond .eq off) 3 pc') (ht : (pc : Int) + off = (tgt : Int)) (h : ¬ x = 0) (kk : G X E nL k n ws lv pc' st) : G X E nL k n ws lv pc (.int x :: st) := g_if_eq cx tgt hd ht (fun q => absurd q h) (fun _ => kk)
theorem g_icmp_eq (cx : g_cx X E nL l R cc own ini) {x y : Int32} {off : Int} (tgt : Nat) (hd : g_dc cc pc (.if_icmp .eq off) 3 pc') (ht : (pc : Int) + off = (tgt : Int)) (kt : x = y → G X E nL k n ws lv tgt st) (kf : ¬ x = y → G X E nL k n ws lv pc' st) : G X E nL k n ws lv pc (.int y :: .int x :: st) := by
  obtain ⟨p, e, s, args, below, meth, c, Q, hE, hx, hb, hml, hown, hts, hK, hN, hA, hini⟩ := cx
  obtain ⟨hd, rfl⟩ := hd
  intro H locs ls hP hD hS hl0
  rw [hE]
  refine lv_icmp_eq hx hb hd ht (fun h => ?_) (fun h => ?_)
  · have k1 := kt h H locs ls hP hD hS hl0
    rw [hE] at k1
    exact k1
  · have k1 := kf h H locs ls hP hD hS hl0
    rw [hE] at k1
    exact k1
theorem g_icmp_eq_t (cx : g_cx X E nL l R cc own ini) {x y : Int32} {off : Int} (tgt : Nat) (hd : g_dc cc pc (.if_icmp .eq off) 3 pc') (ht : (pc : Int) + off = (tgt : Int)) (h : x = y) (kk : G X E nL k n ws lv tgt st) : G X E nL k n ws lv pc (.int y :: .int x :: st) := g_icmp_eq cx tgt hd ht (fun _ => kk) (fun q => absurd h q)
theorem g_icmp_eq_f (cx : g_cx X E nL l R cc own ini) {x y : Int32} {off : Int} (tgt : Nat) (hd : g_dc cc pc (.if_icmp .eq off) 3 pc') (ht : (pc : Int) + off = (tgt : Int)) (h : ¬ x = y) (kk : G X E nL k n ws lv pc' st) : G X E nL k n ws lv pc (.int y :: .int x :: st) := g_icmp_eq cx tgt hd ht (fun q => absurd q h) (fun _ => kk)
theorem g_if_ne (cx : g_cx X E nL l R cc own ini) {x : Int32} {off : Int} (tgt : Nat) (hd : g_dc cc pc (.ifCond .ne off) 3 pc') (ht : (pc : Int) + off = (tgt : Int)) (kt : ¬ x = 0 → G X E nL k n ws lv tgt st) (kf : x = 0 → G X E nL k n ws lv pc' st) : G X E nL k n ws lv pc (.int x :: st) := by
  obtain ⟨p, e, s, args, below, meth, c, Q, hE, hx, hb, hml, hown, hts, hK, hN, hA, hini⟩ := cx
  obtain ⟨hd, rfl⟩ := hd
  intro H locs ls hP hD hS hl0
  rw [hE]
  refine lv_if_ne hx hb hd ht (fun h => ?_) (fun h => ?_)
  · have k1 := kt h H locs ls hP hD hS hl0
    rw [hE] at k1
    exact k1
  · have k1 := kf h H locs ls hP hD hS hl0
    rw [hE] at k1
    exact k1
theorem g_if_ne_t (cx : g_cx X E nL l R cc own ini) {x : Int32} {off : Int} (tgt : Nat) (hd : g_dc cc pc (.ifCond .ne off) 3 pc') (ht : (pc : Int) + off = (tgt : Int)) (h : ¬ x = 0) (kk : G X E nL k n ws lv tgt st) : G X E nL k n ws lv pc (.int x :: st) := g_if_ne cx tgt hd ht (fun _ => kk) (fun q => absurd q h)
theorem g_if_ne_f (cx : g_cx X E nL l R cc own ini) {x : Int32} {off : Int} (tgt : Nat) (hd : g_dc cc pc (.ifCond .ne off) 3 pc') (ht : (pc : Int) + off = (tgt : Int)) (h : x = 0) (kk : G X E nL k n ws lv pc' st) : G X E nL k n ws lv pc (.int x :: st) := g_if_ne cx tgt hd ht (fun q => absurd h q) (fun _ => kk)
theorem g_icmp_ne (cx : g_cx X E nL l R cc own ini) {x y : Int32} {off : Int} (tgt : Nat) (hd : g_dc cc pc (.if_icmp .ne off) 3 pc') (ht : (pc : Int) + off = (tgt : Int)) (kt : ¬ x = y → G X E nL k n ws lv tgt st) (kf : x = y → G X E nL k n ws lv pc' st) : G X E nL k n ws lv pc (.int y :: .int x :: st) := by
  obtain ⟨p, e, s, args, below, meth, c, Q, hE, hx, hb, hml, hown, hts, hK, hN, hA, hini⟩ := cx
  obtain ⟨hd, rfl⟩ := hd
  intro H locs ls hP hD hS hl0
  rw [hE]
  refine lv_icmp_ne hx hb hd ht (fun h => ?_) (fun h => ?_)
  · have k1 := kt h H locs ls hP hD hS hl0
    rw [hE] at k1
    exact k1
  · have k1 := kf h H locs ls hP hD hS hl0
    rw [hE] at k1
    exact k1
theorem g_icmp_ne_t (cx : g_cx X E nL l R cc own ini) {x y : Int32} {off : Int} (tgt : Nat) (hd : g_dc cc pc (.if_icmp .ne off) 3 pc') (ht : (pc : Int) + off = (tgt : Int)) (h : ¬ x = y) (kk : G X E nL k n ws lv tgt st) : G X E nL k n ws lv pc (.int y :: .int x :: st) := g_icmp_ne cx tgt hd ht (fun _ => kk) (fun q => absurd q h)
theorem g_icmp_ne_f (cx : g_cx X E nL l R cc own ini) {x y : Int32} {off : Int} (tgt : Nat) (hd : g_dc cc pc (.if_icmp .ne off) 3 pc') (ht : (pc : Int) + off = (tgt : Int)) (h : x = y) (kk : G X E nL k n ws lv pc' st) : G X E nL k n ws lv pc (.int y :: .int x :: st) := g_icmp_ne cx tgt hd ht (fun q => absurd h q) (fun _ => kk)
theorem g_if_lt (cx : g_cx X E nL l R cc own ini) {x : Int32} {off : Int} (tgt : Nat) (hd : g_dc cc pc (.ifCond .lt off) 3 pc') (ht : (pc : Int) + off = (tgt : Int)) (kt : x < 0 → G X E nL k n ws lv tgt st) (kf : ¬ x < 0 → G X E nL k n ws lv pc' st) : G X E nL k n ws lv pc (.int x :: st) := by
  obtain ⟨p, e, s, args, below, meth, c, Q, hE, hx, hb, hml, hown, hts, hK, hN, hA, hini⟩ := cx
  obtain ⟨hd, rfl⟩ := hd
  intro H locs ls hP hD hS hl0
  rw [hE]
  refine lv_if_lt hx hb hd ht (fun h => ?_) (fun h => ?_)
  · have k1 := kt h H locs ls hP hD hS hl0
    rw [hE] at k1
    exact k1
  · have k1 := kf h H locs ls hP hD hS hl0
    rw [hE] at k1
    exact k1
theorem g_if_lt_t (cx : g_cx X E nL l R cc own ini) {x : Int32} {off : Int} (tgt : Nat) (hd : g_dc cc pc (.ifCond .lt off) 3 pc') (ht : (pc : Int) + off = (tgt : Int)) (h : x < 0) (kk : G X E nL k n ws lv tgt st) : G X E nL k n ws lv pc (.int x :: st) := g_if_lt cx tgt hd ht (fun _ => kk) (fun q => absurd h q)
theorem g_if_lt_f (cx : g_cx X E nL l R cc own ini) {x : Int32} {off : Int} (tgt : Nat) (hd : g_dc cc pc (.ifCond .lt off) 3 pc') (ht : (pc : Int) + off = (tgt : Int)) (h : ¬ x < 0) (kk : G X E nL k n ws lv pc' st) : G X E nL k n ws lv pc (.int x :: st) := g_if_lt cx tgt hd ht (fun q => absurd q h) (fun _ => kk)
theorem g_icmp_lt (cx : g_cx X E nL l R cc own ini) {x y : Int32} {off : Int} (tgt : Nat) (hd : g_dc cc pc (.if_icmp .lt off) 3 pc') (ht : (pc : Int) + off = (tgt : Int)) (kt : x < y → G X E nL k n ws lv tgt st) (kf : ¬ x < y → G X E nL k n ws lv pc' st) : G X E nL k n ws lv pc (.int y :: .int x :: st) := by
  obtain ⟨p, e, s, args, below, meth, c, Q, hE, hx, hb, hml, hown, hts, hK, hN, hA, hini⟩ := cx
  obtain ⟨hd, rfl⟩ := hd
  intro H locs ls hP hD hS hl0
  rw [hE]
  refine lv_icmp_lt hx hb hd ht (fun h => ?_) (fun h => ?_)
  · have k1 := kt h H locs ls hP hD hS hl0
    rw [hE] at k1
    exact k1
  · have k1 := kf h H locs ls hP hD hS hl0
    rw [hE] at k1
    exact k1
theorem g_icmp_lt_t (cx : g_cx X E nL l R cc own ini) {x y : Int32} {off : Int} (tgt : Nat) (hd : g_dc cc pc (.if_icmp .lt off) 3 pc') (ht : (pc : Int) + off = (tgt : Int)) (h : x < y) (kk : G X E nL k n ws lv tgt st) : G X E nL k n ws lv pc (.int y :: .int x :: st) := g_icmp_lt cx tgt hd ht (fun _ => kk) (fun q => absurd h q)
theorem g_icmp_lt_f (cx : g_cx X E nL l R cc own ini) {x y : Int32} {off : Int} (tgt : Nat) (hd : g_dc cc pc (.if_icmp .lt off) 3 pc') (ht : (pc : Int) + off = (tgt : Int)) (h : ¬ x < y) (kk : G X E nL k n ws lv pc' st) : G X E nL k n ws lv pc (.int y :: .int x :: st) := g_icmp_lt cx tgt hd ht (fun q => absurd q h) (fun _ => kk)
theorem g_if_ge (cx : g_cx X E nL l R cc own ini) {x : Int32} {off : Int} (tgt : Nat) (hd : g_dc cc pc (.ifCond .ge off) 3 pc') (ht : (pc : Int) + off = (tgt : Int)) (kt : 0 ≤ x → G X E nL k n ws lv tgt st) (kf : ¬ 0 ≤ x → G X E nL k n ws lv pc' st) : G X E nL k n ws lv pc (.int x :: st) := by
  obtain ⟨p, e, s, args, below, meth, c, Q, hE, hx, hb, hml, hown, hts, hK, hN, hA, hini⟩ := cx
  obtain ⟨hd, rfl⟩ := hd
  intro H locs ls hP hD hS hl0
  rw [hE]
  refine lv_if_ge hx hb hd ht (fun h => ?_) (fun h => ?_)
  · have k1 := kt h H locs ls hP hD hS hl0
    rw [hE] at k1
    exact k1
  · have k1 := kf h H locs ls hP hD hS hl0
    rw [hE] at k1
    exact k1
theorem g_if_ge_t (cx : g_cx X E nL l R cc own ini) {x : Int32} {off : Int} (tgt : Nat) (hd : g_dc cc pc (.ifCond .ge off) 3 pc') (ht : (pc : Int) + off = (tgt : Int)) (h : 0 ≤ x) (kk : G X E nL k n ws lv tgt st) : G X E nL k n ws lv pc (.int x :: st) := g_if_ge cx tgt hd ht (fun _ => kk) (fun q => absurd h q)
theorem g_if_ge_f (cx : g_cx X E nL l R cc own ini) {x : Int32} {off : Int} (tgt : Nat) (hd : g_dc cc pc (.ifCond .ge off) 3 pc') (ht : (pc : Int) + off = (tgt : Int)) (h : ¬ 0 ≤ x) (kk : G X E nL k n ws lv pc' st) : G X E nL k n ws lv pc (.int x :: st) := g_if_ge cx tgt hd ht (fun q => absurd q h) (fun _ => kk)
theorem g_icmp_ge (cx : g_cx X E nL l R cc own ini) {x y : Int32} {off : Int} (tgt : Nat) (hd : g_dc cc pc (.if_icmp .ge off) 3 pc') (ht : (pc : Int) + off = (tgt : Int)) (kt : y ≤ x → G X E nL k n ws lv tgt st) (kf : ¬ y ≤ x → G X E nL k n ws lv pc' st) : G X E nL k n ws lv pc (.int y :: .int x :: st) := by
  obtain ⟨p, e, s, args, below, meth, c, Q, hE, hx, hb, hml, hown, hts, hK, hN, hA, hini⟩ := cx
  obtain ⟨hd, rfl⟩ := hd
  intro H locs ls hP hD hS hl0
  rw [hE]
  refine lv_icmp_ge hx hb hd ht (fun h => ?_) (fun h => ?_)
  · have k1 := kt h H locs ls hP hD hS hl0
    rw [hE] at k1
    exact k1
  · have k1 := kf h H locs ls hP hD hS hl0
    rw [hE] at k1
    exact k1
theorem g_icmp_ge_t (cx : g_cx X E nL l R cc own ini) {x y : Int32} {off : Int} (tgt : Nat) (hd : g_dc cc pc (.if_icmp .ge off) 3 pc') (ht : (pc : Int) + off = (tgt : Int)) (h : y ≤ x) (kk : G X E nL k n ws lv tgt st) : G X E nL k n ws lv pc (.int y :: .int x :: st) := g_icmp_ge cx tgt hd ht (fun _ => kk) (fun q => absurd h q)
theorem g_icmp_ge_f (cx : g_cx X E nL l R cc own ini) {x y : Int32} {off : Int} (tgt : Nat) (hd : g_dc cc pc (.if_icmp .ge off) 3 pc') (ht : (pc : Int) + off = (tgt : Int)) (h : ¬ y ≤ x) (kk : G X E nL k n ws lv pc' st) : G X E nL k n ws lv pc (.int y :: .int x :: st) := g_icmp_ge cx tgt hd ht (fun q => absurd q h) (fun _ => kk)
theorem g_if_gt (cx : g_cx X E nL l R cc own ini) {x : Int32} {off : Int} (tgt : Nat) (hd : g_dc cc pc (.ifCond .gt off) 3 pc') (ht : (pc : Int) + off = (tgt : Int)) (kt : 0 < x → G X E nL k n ws lv tgt st) (kf : ¬ 0 < x → G X E nL k n ws lv pc' st) : G X E nL k n ws lv pc (.int x :: st) := by
  obtain ⟨p, e, s, args, below, meth, c, Q, hE, hx, hb, hml, hown, hts, hK, hN, hA, hini⟩ := cx
  obtain ⟨hd, rfl⟩ := hd
  intro H locs ls hP hD hS hl0
  rw [hE]
  refine lv_if_gt hx hb hd ht (fun h => ?_) (fun h => ?_)
  · have k1 := kt h H locs ls hP hD hS hl0
    rw [hE] at k1
    exact k1
  · have k1 := kf h H locs ls hP hD hS hl0
    rw [hE] at k1
    exact k1
theorem g_if_gt_t (cx : g_cx X E nL l R cc own ini) {x : Int32} {off : Int} (tgt : Nat) (hd : g_dc cc pc (.ifCond .gt off) 3 pc') (ht : (pc : Int) + off = (tgt : Int)) (h : 0 < x) (kk : G X E nL k n ws lv tgt st) : G X E nL k n ws lv pc (.int x :: st) := g_if_gt cx tgt hd ht (fun _ => kk) (fun q => absurd h q)
theorem g_if_gt_f (cx : g_cx X E nL l R cc own ini) {x : Int32} {off : Int} (tgt : Nat) (hd : g_dc cc pc (.ifCond .gt off) 3 pc') (ht : (pc : Int) + off = (tgt : Int)) (h : ¬ 0 < x) (kk : G X E nL k n ws lv pc' st) : G X E nL k n ws lv pc (.int x :: st) := g_if_gt cx tgt hd ht (fun q => absurd q h) (fun _ => kk)
theorem g_icmp_gt (cx : g_cx X E nL l R cc own ini) {x y : Int32} {off : Int} (tgt : Nat) (hd : g_dc cc pc (.if_icmp .gt off) 3 pc') (ht : (pc : Int) + off = (tgt : Int)) (kt : y < x → G X E nL k n ws lv tgt st) (kf : ¬ y < x → G X E nL k n ws lv pc' st) : G X E nL k n ws lv pc (.int y :: .int x :: st) := by
  obtain ⟨p, e, s, args, below, meth, c, Q, hE, hx, hb, hml, hown, hts, hK, hN, hA, hini⟩ := cx
  obtain ⟨hd, rfl⟩ := hd
  intro H locs ls hP hD hS hl0
  rw [hE]
  refine lv_icmp_gt hx hb hd ht (fun h => ?_) (fun h => ?_)
  · have k1 := kt h H locs ls hP hD hS hl0
    rw [hE] at k1
    exact k1
  · have k1 := kf h H locs ls hP hD hS hl0
    rw [hE] at k1
    exact k1
theorem g_icmp_gt_t (cx : g_cx X E nL l R cc own ini) {x y : Int32} {off : Int} (tgt : Nat) (hd : g_dc cc pc (.if_icmp .gt off) 3 pc') (ht : (pc : Int) + off = (tgt : Int)) (h : y < x) (kk : G X E nL k n ws lv tgt st) : G X E nL k n ws lv pc (.int y :: .int x :: st) := g_icmp_gt cx tgt hd ht (fun _ => kk) (fun q => absurd h q)
theorem g_icmp_gt_f (cx : g_cx X E nL l R cc own ini) {x y : Int32} {off : Int} (tgt : Nat) (hd : g_dc cc pc (.if_icmp .gt off) 3 pc') (ht : (pc : Int) + off = (tgt : Int)) (h : ¬ y < x) (kk : G X E nL k n ws lv pc' st) : G X E nL k n ws lv pc (.int y :: .int x :: st) := g_icmp_gt cx tgt hd ht (fun q => absurd q h) (fun _ => kk)
theorem g_if_le (cx : g_cx X E nL l R cc own ini) {x : Int32} {off : Int} (tgt : Nat) (hd : g_dc cc pc (.ifCond .le off) 3 pc') (ht : (pc : Int) + off = (tgt : Int)) (kt : x ≤ 0 → G X E nL k n ws lv tgt st) (kf : ¬ x ≤ 0 → G X E nL k n ws lv pc' st) : G X E nL k n ws lv pc (.int x :: st) := by
  obtain ⟨p, e, s, args, below, meth, c, Q, hE, hx, hb, hml, hown, hts, hK, hN, hA, hini⟩ := cx
  obtain ⟨hd, rfl⟩ := hd
  intro H locs ls hP hD hS hl0
  rw [hE]
  refine lv_if_le hx hb hd ht (fun h => ?_) (fun h => ?_)
  · have k1 := kt h H locs ls hP hD hS hl0
    rw [hE] at k1
    exact k1
  · have k1 := kf h H locs ls hP hD hS hl0
    rw [hE] at k1
    exact k1
theorem g_if_le_t (cx : g_cx X E nL l R cc own ini) {x : Int32} {off : Int} (tgt : Nat) (hd : g_dc cc pc (.ifCond .le off) 3 pc') (ht : (pc : Int) + off = (tgt : Int)) (h : x ≤ 0) (kk : G X E nL k n ws lv tgt st) : G X E nL k n ws lv pc (.int x :: st) := g_if_le cx tgt hd ht (fun _ => kk) (fun q => absurd h q)
theorem g_if_le_f (cx : g_cx X E nL l R cc own ini) {x : Int32} {off : Int} (tgt : Nat) (hd : g_dc cc pc (.ifCond .le off) 3 pc') (ht : (pc : Int) + off = (tgt : Int)) (h : ¬ x ≤ 0) (kk : G X E nL k n ws lv pc' st) : G X E nL k n ws lv pc (.int x :: st) := g_if_le cx tgt hd ht (fun q => absurd q h) (fun _ => kk)
theorem g_icmp_le (cx : g_cx X E nL l R cc own ini) {x y : Int32} {off : Int} (tgt : Nat) (hd : g_dc cc pc (.if_icmp .le off) 3 pc') (ht : (pc : Int) + off = (tgt : Int)) (kt : x ≤ y → G X E nL k n ws lv tgt st) (kf : ¬ x ≤ y → G X E nL k n ws lv pc' st) : G X E nL k n ws lv pc (.int y :: .int x :: st) := by
  obtain ⟨p, e, s, args, below, meth, c, Q, hE, hx, hb, hml, hown, hts, hK, hN, hA, hini⟩ := cx
  obtain ⟨hd, rfl⟩ := hd
  intro H locs ls hP hD hS hl0
  rw [hE]
  refine lv_icmp_le hx hb hd ht (fun h => ?_) (fun h => ?_)
  · have k1 := kt h H locs ls hP hD hS hl0
    rw [hE] at k1
    exact k1
  · have k1 := kf h H locs ls hP hD hS hl0
    rw [hE] at k1
    exact k1
theorem g_icmp_le_t (cx : g_cx X E nL l R cc own ini) {x y : Int32} {off : Int} (tgt : Nat) (hd : g_dc cc pc (.if_icmp .le off) 3 pc') (ht : (pc : Int) + off = (tgt : Int)) (h : x ≤ y) (kk : G X E nL k n ws lv tgt st) : G X E nL k n ws lv pc (.int y :: .int x :: st) := g_icmp_le cx tgt hd ht (fun _ => kk) (fun q => absurd h q)
theorem g_icmp_le_f (cx : g_cx X E nL l R cc own ini) {x y : Int32} {off : Int} (tgt : Nat) (hd : g_dc cc pc (.if_icmp .le off) 3 pc') (ht : (pc : Int) + off = (tgt : Int)) (h : ¬ x ≤ y) (kk : G X E nL k n ws lv pc' st) : G X E nL k n ws lv pc (.int y :: .int x :: st) := g_icmp_le cx tgt hd ht (fun q => absurd q h) (fun _ => kk)
theorem g_goto (cx : g_cx X E nL l R cc own ini) {off : Int} (tgt : Nat) (hd : g_dc cc pc (.goto off) 3 pc') (ht : (pc : Int) + off = (tgt : Int)) (kk : G X E nL k n ws lv tgt st) : G X E nL k n ws lv pc st := by
  obtain ⟨p, e, s, args, below, meth, c, Q, hE, hx, hb, hml, hown, hts, hK, hN, hA, hini⟩ := cx
  obtain ⟨hd, rfl⟩ := hd
  intro H locs ls hP hD hS hl0
  have k1 := kk H locs ls hP hD hS hl0
  rw [hE] at k1 ⊢
  exact lv_goto hx hb hd ht k1
theorem g_ifnonnull (cx : g_cx X E nL l R cc own ini) {x : Nat} {off : Int} (tgt : Nat) (hd : g_dc cc pc (.ifnonnull off) 3 pc') (ht : (pc : Int) + off = (tgt : Int)) (kk : G X E nL k n ws lv tgt st) : G X E nL k n ws lv pc (.ref x :: st) := by
  obtain ⟨p, e, s, args, below, meth, c, Q, hE, hx, hb, hml, hown, hts, hK, hN, hA, hini⟩ := cx
  obtain ⟨hd, rfl⟩ := hd
  intro H locs ls hP hD hS hl0
  have k1 := kk H locs ls hP hD hS hl0
  rw [hE] at k1 ⊢
  exact lv_ifnonnull hx hb hd ht k1
theorem g_ifnull (cx : g_cx X E nL l R cc own ini) {x : Nat} {off : Int} (hd : g_dc cc pc (.ifnull off) 3 pc') (kk : G X E nL k n ws lv pc' (st)) : G X E nL k n ws lv pc (.ref x :: st) := by
  obtain ⟨p, e, s, args, below, meth, c, Q, hE, hx, hb, hml, hown, hts, hK, hN, hA, hini⟩ := cx
  obtain ⟨hd, rfl⟩ := hd
  intro H locs ls hP hD hS hl0
  have k1 := kk H locs ls hP hD hS hl0
  rw [hE] at k1 ⊢
  exact lv_ifnull hx hb hd k1
theorem g_tableOut (cx : g_cx X E nL l R cc own ini) {dflt lo hi : Int} {offs : Array Int} {len : Nat} {x : Int32} (tgt : Nat) (hd : g_dc cc pc (.tableswitch dflt lo hi offs) len pc') (h : x.toInt < lo ∨ hi < x.toInt) (ht : (pc : Int) + dflt = (tgt : Int)) (kk : G X E nL k n ws lv tgt st) : G X E nL k n ws lv pc (.int x :: st) := by
  obtain ⟨p, e, s, args, below, meth, c, Q, hE, hx, hb, hml, hown, hts, hK, hN, hA, hini⟩ := cx
  obtain ⟨hd, rfl⟩ := hd
  intro H locs ls hP hD hS hl0
  have k1 := kk H locs ls hP hD hS hl0
  rw [hE] at k1 ⊢
  exact lv_tableOut hx hb hd h ht k1
theorem g_tableIn (cx : g_cx X E nL l R cc own ini) {dflt lo hi : Int} {offs : Array Int} {len : Nat} {x : Int32} {off : Int} (tgt : Nat) (hd : g_dc cc pc (.tableswitch dflt lo hi offs) len pc') (h1 : ¬ x.toInt < lo) (h2 : ¬ hi < x.toInt) (ho : offs[(x.toInt - lo).toNat]? = some off) (ht : (pc : Int) + off = (tgt : Int)) (kk : G X E nL k n ws lv tgt st) : G X E nL k n ws lv pc (.int x :: st) := by
  obtain ⟨p, e, s, args, below, meth, c, Q, hE, hx, hb, hml, hown, hts, hK, hN, hA, hini⟩ := cx
  obtain ⟨hd, rfl⟩ := hd
  intro H locs ls hP hD hS hl0
  have k1 := kk H locs ls hP hD hS hl0
  rw [hE] at k1 ⊢
  exact lv_tableIn hx hb hd h1 h2 ho ht k1
theorem g_topi {x : Int32} (kk : ∀ y : Int32, y = x → G X E nL k n ws lv pc (.int y :: st)) : G X E nL k n ws lv pc (.int x :: st) := kk x rfl
theorem g_topl {x : Int64} (kk : ∀ y : Int64, y = x → G X E nL k n ws lv pc (.long y :: st)) : G X E nL k n ws lv pc (.long x :: st) := kk x rfl
theorem g_toi {x : Int32} (y : Int32) (h : x = y) (kk : G X E nL k n ws lv pc (.int y :: st)) : G X E nL k n ws lv pc (.int x :: st) := h ▸ kk
theorem g_lsub (is : List Nat) (lv' : List (Nat × Value)) (h : lv_pick lv is = lv') (kk : G X E nL k n ws lv' pc st) : G X E nL k n ws lv pc st := fun H locs ls hP hD hS hl => kk H locs ls hP hD hS (lv_sub hl is h)
theorem g_ws (is : List Nat) (ws' : va_W) (hn : va_nd is = true) (h : is.map (fun i => ws[i]?) = ws'.map some) (kk : G X E nL k n ws' lv pc st) : G X E nL k n ws lv pc st := by
  intro H locs ls hP hD hS hl
  refine kk H locs ls (hP.sub is ?_) (hD.sub is hn h) hS hl
  have h1 : is.filterMap (fun i => ws[i]?) = (is.map (fun i => ws[i]?)).filterMap id := by rw [List.filterMap_map]; rfl
  rw [h1, h, List.filterMap_map]
  simp
theorem g_weq (ws' : va_W) (h : ws = ws') (kk : G X E nL k n ws' lv pc st) : G X E nL k n ws lv pc st := h ▸ kk
theorem g_wid {k' n' : Nat} (cx : g_cx X E nL l R cc own ini) (hk : k ≤ k') (hn : n ≤ n') (kk : G X E nL k' n' ws lv pc st) : G X E nL k n ws lv pc st := by
  obtain ⟨p, e, s, args, below, meth, c, Q, hE, hx, hb, hml, hown, hts, hK, hN, hA, hini⟩ := cx
  intro H locs ls hP hD hS hl
  have k1 := kk H locs ls hP hD hS hl
  rw [hE] at k1 ⊢
  exact W.widen hk hn k1
/-- a class of vwCl, as the field rows want it -/
def g_cl (ci : Nat) (C : String) (T : u_T) (N : Nat) (ty : Nat → FieldType) : Prop := vwCl[ci]? = some (C, T, N) ∧ (∀ w ∈ u_ws C T N, w ∈ gT) ∧ (∀ k, k < N → parseFieldDescriptor (T k).2.2.1 = some (ty k)) ∧ (∀ a, a < N → ∀ b, b < N → a ≠ b → (T a).2.1 ≠ (T b).2.1) ∧ Cond.instantiable C N ∈ gT ∧ Cond.initialized C ∈ gT
/-- a field's place, its link from own (plain or by the nest) -/
def g_fl (own : String) (i : Nat) (C : String) (T : u_T) (N j : Nat) (ty : FieldType) : Prop := j < N ∧ parseFieldDescriptor (T j).2.2.1 = some ty ∧ (T j).1 = C ∧ Cond.fieldLink own i C (T j).2.1 (T j).2.2.1 ∈ gT
def g_fn (own : String) (i : Nat) (C : String) (T : u_T) (N j : Nat) (ty : FieldType) : Prop := j < N ∧ parseFieldDescriptor (T j).2.2.1 = some ty ∧ (T j).1 = C ∧ ∃ host, Cond.fieldLinkNest own i C (T j).2.1 (T j).2.2.1 host ∈ lw_tbl
theorem g_get (cx : g_cx X E nL l R cc own ini) {ci : Nat} {C : String} {T : u_T} {N : Nat} {ty : Nat → FieldType} (hc : g_cl ci C T N ty) {i j : Nat} {tj : FieldType} (hf : g_fl own i C T N j tj) (q : Nat) {a : Nat} {fs : List Value} (v : Value) (hd : g_dc cc pc (.getfield i) 3 pc') (he : ws[q]? = some (a, .inr (ci, fs))) (hv : fs[j]? = some v) (kk : G X E nL k n ws lv pc' (v :: st)) : G X E nL k n ws lv pc (.ref a :: st) := by
  obtain ⟨p, e, s, args, below, meth, c, Q, hE, hx, hb, hml, hown, hts, hK, hN, hA, hini⟩ := cx
  obtain ⟨hd, rfl⟩ := hd
  intro H locs ls hP hD hS hl0
  have k1 := kk H locs ls hP hD hS hl0
  rw [hE] at k1 ⊢
  exact va_get hx hb hts hc.2.1 hown hK hP q he hc.1 j hf.1 (hts _ hf.2.2.2) (fun x h => by rw [hf.2.2.1] at h; exact h) hv hd k1
theorem g_put (cx : g_cx X E nL l R cc own ini) {ci : Nat} {C : String} {T : u_T} {N : Nat} {ty : Nat → FieldType} (hc : g_cl ci C T N ty) {i j : Nat} {tj : FieldType} (hf : g_fl own i C T N j tj) (q : Nat) {a : Nat} {fs : List Value} {v : Value} (ws' : va_W) (hd : g_dc cc pc (.putfield i) 3 pc') (hfin : (T j).2.2.2 = false) (he : ws[q]? = some (a, .inr (ci, fs))) (hn : narrow tj v = v) (hfit : fits tj v = true) (hl : j < fs.length) (hw : ws.set q (a, .inr (ci, fs.set j v)) = ws') (kk : G X E nL k n ws' lv pc' st) : G X E nL k n ws lv pc (v :: .ref a :: st) := by
  obtain ⟨p, e, s, args, below, meth, c, Q, hE, hx, hb, hml, hown, hts, hK, hN, hA, hini⟩ := cx
  obtain ⟨hd, rfl⟩ := hd
  intro H locs ls hP hD hS hl0
  rw [hE]
  refine va_put hx hb hts hc.2.1 ty hc.2.2.1 hc.2.2.2.1 hown hK hP hD hS q he hc.1 j hf.1 (hts _ hf.2.2.2) (fun x h => by rw [hf.2.2.1] at h; exact h) hfin hf.2.1 hn hfit hl hd (fun H1 locs1 hP1 hD1 hS1 => ?_)
  rw [hw] at hP1 hD1
  have k1 := kk H1 locs1 ls hP1 hD1 hS1 hl0
  rw [hE] at k1
  exact k1
theorem g_getN (cx : g_cx X E nL l R cc own ini) {ci : Nat} {C : String} {T : u_T} {N : Nat} {ty : Nat → FieldType} (hc : g_cl ci C T N ty) {i j : Nat} {tj : FieldType} (hf : g_fn own i C T N j tj) (q : Nat) {a : Nat} {fs : List Value} (v : Value) (hd : g_dc cc pc (.getfield i) 3 pc') (he : ws[q]? = some (a, .inr (ci, fs))) (hv : fs[j]? = some v) (kk : G X E nL k n ws lv pc' (v :: st)) : G X E nL k n ws lv pc (.ref a :: st) := by
  obtain ⟨p, e, s, args, below, meth, c, Q, hE, hx, hb, hml, hown, hts, hK, hN, hA, hini⟩ := cx
  obtain ⟨hd, rfl⟩ := hd
  obtain ⟨host, hnw⟩ := hf.2.2.2
  intro H locs ls hP hD hS hl0
  have k1 := kk H locs ls hP hD hS hl0
  rw [hE] at k1 ⊢
  exact va_getN hx hb hts hc.2.1 hown hK hP q he hc.1 j hf.1 (va_Nw.use rfl (hN _ hnw rfl)) (fun x h => by rw [hf.2.2.1] at h; exact h) hv hd k1
theorem g_putN (cx : g_cx X E nL l R cc own ini) {ci : Nat} {C : String} {T : u_T} {N : Nat} {ty : Nat → FieldType} (hc : g_cl ci C T N ty) {i j : Nat} {tj : FieldType} (hf : g_fn own i C T N j tj) (q : Nat) {a : Nat} {fs : List Value} {v : Value} (ws' : va_W) (hd : g_dc cc pc (.putfield i) 3 pc') (hfin : (T j).2.2.2 = false) (he : ws[q]? = some (a, .inr (ci, fs))) (hn : narrow tj v = v) (hfit : fits tj v = true) (hl : j < fs.length) (hw : ws.set q (a, .inr (ci, fs.set j v)) = ws') (kk : G X E nL k n ws' lv pc' st) : G X E nL k n ws lv pc (v :: .ref a :: st) := by
  obtain ⟨p, e, s, args, below, meth, c, Q, hE, hx, hb, hml, hown, hts, hK, hN, hA, hini⟩ := cx
  obtain ⟨hd, rfl⟩ := hd
  obtain ⟨host, hnw⟩ := hf.2.2.2
  intro H locs ls hP hD hS hl0
  rw [hE]
  refine va_putN hx hb hts hc.2.1 ty hc.2.2.1 hc.2.2.2.1 hown hK hP hD hS q he hc.1 j hf.1 (va_Nw.use rfl (hN _ hnw rfl)) (fun x h => by rw [hf.2.2.1] at h; exact h) hfin hf.2.1 hn hfit hl hd (fun H1 locs1 hP1 hD1 hS1 => ?_)
  rw [hw] at hP1 hD1
  have k1 := kk H1 locs1 ls hP1 hD1 hS1 hl0
  rw [hE] at k1
  exact k1
theorem g_putF (cx : g_cx X E nL l R cc own ini) (hi : ini) {ci : Nat} {C : String} {T : u_T} {N : Nat} {ty : Nat → FieldType} (hc : g_cl ci C T N ty) {i j : Nat} {tj : FieldType} (hf : g_fl own i C T N j tj) (q : Nat) {a : Nat} {fs : List Value} {v : Value} (ws' : va_W) (hd : g_dc cc pc (.putfield i) 3 pc') (hfin : (T j).2.2.2 = true) (hdecl : C = own) (he : ws[q]? = some (a, .inr (ci, fs))) (hn : narrow tj v = v) (hfit : fits tj v = true) (hl : j < fs.length) (hw : ws.set q (a, .inr (ci, fs.set j v)) = ws') (kk : G X E nL k n ws' lv pc' st) : G X E nL k n ws lv pc (v :: .ref a :: st) := by
  obtain ⟨p, e, s, args, below, meth, c, Q, hE, hx, hb, hml, hown, hts, hK, hN, hA, hini⟩ := cx
  obtain ⟨hd, rfl⟩ := hd
  intro H locs ls hP hD hS hl0
  rw [hE]
  refine va_putF hx hb hts hc.2.1 ty hc.2.2.1 hc.2.2.2.1 hown hK hP hD hS q he hc.1 j hf.1 (hts _ hf.2.2.2) (fun x h => by rw [hf.2.2.1] at h; exact h) hfin (hini hi) (hf.2.2.1.trans hdecl) hf.2.1 hn hfit hl hd (fun H1 locs1 hP1 hD1 hS1 => ?_)
  rw [hw] at hP1 hD1
  have k1 := kk H1 locs1 ls hP1 hD1 hS1 hl0
  rw [hE] at k1
  exact k1
theorem g_iald (cx : g_cx X E nL l R cc own ini) (q : Nat) {a N : Nat} {f : Nat → Int32} {i : Int32} (hd : g_dc cc pc .iaload 1 pc') (ha : ws[q]? = some (a, .inl (X.2.1, N, .inl f))) (hin : vp_in i N) (kk : G X E nL k n ws lv pc' (.int (f i.toNatClampNeg) :: st)) : G X E nL k n ws lv pc (.int i :: .ref a :: st) := by
  obtain ⟨p, e, s, args, below, meth, c, Q, hE, hx, hb, hml, hown, hts, hK, hN, hA, hini⟩ := cx
  obtain ⟨hd, rfl⟩ := hd
  intro H locs ls hP hD hS hl0
  have k1 := kk H locs ls hP hD hS hl0
  rw [hE] at k1 ⊢
  exact va_iald hx hb hK hP q 0 ha rfl hin hd k1
theorem g_iast (cx : g_cx X E nL l R cc own ini) (q : Nat) {a N : Nat} {f : Nat → Int32} {i x : Int32} (ws' : va_W) (hd : g_dc cc pc .iastore 1 pc') (ha : ws[q]? = some (a, .inl (X.2.1, N, .inl f))) (hin : vp_in i N) (hw : ws.set q (a, .inl (X.2.1, N, .inl (upd f i.toNatClampNeg (x)))) = ws') (kk : G X E nL k n ws' lv pc' st) : G X E nL k n ws lv pc (.int x :: .int i :: .ref a :: st) := by
  obtain ⟨p, e, s, args, below, meth, c, Q, hE, hx, hb, hml, hown, hts, hK, hN, hA, hini⟩ := cx
  obtain ⟨hd, rfl⟩ := hd
  intro H locs ls hP hD hS hl0
  rw [hE]
  refine va_iast hx hb hK hP hD hS q 0 ha rfl hin hd (fun H1 locs1 hP1 hD1 hS1 => ?_)
  rw [hw] at hP1 hD1
  have k1 := kk H1 locs1 ls hP1 hD1 hS1 hl0
  rw [hE] at k1
  exact k1
theorem g_bald (cx : g_cx X E nL l R cc own ini) (q : Nat) {a N : Nat} {f : Nat → Int32} {i : Int32} (hd : g_dc cc pc .baload 1 pc') (ha : ws[q]? = some (a, .inl (X.2.2, N, .inl f))) (hin : vp_in i N) (kk : G X E nL k n ws lv pc' (.int (f i.toNatClampNeg) :: st)) : G X E nL k n ws lv pc (.int i :: .ref a :: st) := by
  obtain ⟨p, e, s, args, below, meth, c, Q, hE, hx, hb, hml, hown, hts, hK, hN, hA, hini⟩ := cx
  obtain ⟨hd, rfl⟩ := hd
  intro H locs ls hP hD hS hl0
  have k1 := kk H locs ls hP hD hS hl0
  rw [hE] at k1 ⊢
  exact va_bald hx hb hK hP q 1 ha rfl hin hd k1
theorem g_bast (cx : g_cx X E nL l R cc own ini) (q : Nat) {a N : Nat} {f : Nat → Int32} {i x : Int32} (ws' : va_W) (hd : g_dc cc pc .bastore 1 pc') (ha : ws[q]? = some (a, .inl (X.2.2, N, .inl f))) (hin : vp_in i N) (hw : ws.set q (a, .inl (X.2.2, N, .inl (upd f i.toNatClampNeg (vp_nar .byte x)))) = ws') (kk : G X E nL k n ws' lv pc' st) : G X E nL k n ws lv pc (.int x :: .int i :: .ref a :: st) := by
  obtain ⟨p, e, s, args, below, meth, c, Q, hE, hx, hb, hml, hown, hts, hK, hN, hA, hini⟩ := cx
  obtain ⟨hd, rfl⟩ := hd
  intro H locs ls hP hD hS hl0
  rw [hE]
  refine va_bast hx hb hK hP hD hS q 1 ha rfl hin hd (fun H1 locs1 hP1 hD1 hS1 => ?_)
  rw [hw] at hP1 hD1
  have k1 := kk H1 locs1 ls hP1 hD1 hS1 hl0
  rw [hE] at k1
  exact k1
theorem g_alen (cx : g_cx X E nL l R cc own ini) (q : Nat) {a N : Nat} {f : Nat → Int32} (v : Int32) (hd : g_dc cc pc .arraylength 1 pc') (ha : ws[q]? = some (a, .inl (X.2.1, N, .inl f))) (hv : Int32.ofNat N = v) (kk : G X E nL k n ws lv pc' (.int v :: st)) : G X E nL k n ws lv pc (.ref a :: st) := by
  obtain ⟨p, e, s, args, below, meth, c, Q, hE, hx, hb, hml, hown, hts, hK, hN, hA, hini⟩ := cx
  obtain ⟨hd, rfl⟩ := hd
  intro H locs ls hP hD hS hl0
  have k1 := kk H locs ls hP hD hS hl0
  rw [hE] at k1 ⊢
  exact va_alen hx hb hK hP q 0 ha (ty := .int) rfl hv hd k1
theorem g_newa_int (cx : g_cx X E nL l R cc own ini) (N : Nat) {z : Int32} (hw : Cond.arrayClass .int ∈ gT) (hd : g_dc cc pc (.newarray .int) 2 pc') (hz : ¬ z < 0) (hZ : z.toNatClampNeg = N) (hby : N * componentBytes .int ≤ 536870912) (hk : k + 1 ≤ R.cells) (hn : n + N ≤ R.slots) (kk : ∀ q : Nat, G X E nL (k + 1) (n + N) (ws ++ [(q, .inl (X.2.1, N, .inl (fun _ => 0)))]) lv pc' (.ref q :: st)) : G X E nL k n ws lv pc (.int z :: st) := by
  obtain ⟨p, e, s, args, below, meth, c, Q, hE, hx, hb, hml, hown, hts, hK, hN, hA, hini⟩ := cx
  obtain ⟨hd, rfl⟩ := hd
  intro H locs ls hP hD hS hl0
  rw [hE]
  refine va_newa (atype := .int) (ty := .int) (N' := N) (a0 := (N, .inl (fun _ => 0))) hx hb (hts _ hw) rfl hK hP hD hS hA (fun cA => rfl) hz hZ hby hk hn hd (fun q cA H1 hK1 hP1 hD1 hS1 => ?_)
  have e1 := (hK1.2 2 (cA, .int) rfl).2
  have e2 := (hK1.2 0 (X.2.1, .int) rfl).2
  have e3 : cA = X.2.1 := Option.some.inj (Eq.trans (Eq.symm e1) e2)
  subst e3
  have k1 := kk q H1 locs ls hP1 hD1 hS1 hl0
  rw [hE] at k1
  exact k1
theorem g_newa_byte (cx : g_cx X E nL l R cc own ini) (N : Nat) {z : Int32} (hw : Cond.arrayClass .byte ∈ gT) (hd : g_dc cc pc (.newarray .byte) 2 pc') (hz : ¬ z < 0) (hZ : z.toNatClampNeg = N) (hby : N * componentBytes .byte ≤ 536870912) (hk : k + 1 ≤ R.cells) (hn : n + N ≤ R.slots) (kk : ∀ q : Nat, G X E nL (k + 1) (n + N) (ws ++ [(q, .inl (X.2.2, N, .inl (fun _ => 0)))]) lv pc' (.ref q :: st)) : G X E nL k n ws lv pc (.int z :: st) := by
  obtain ⟨p, e, s, args, below, meth, c, Q, hE, hx, hb, hml, hown, hts, hK, hN, hA, hini⟩ := cx
  obtain ⟨hd, rfl⟩ := hd
  intro H locs ls hP hD hS hl0
  rw [hE]
  refine va_newa (atype := .byte) (ty := .byte) (N' := N) (a0 := (N, .inl (fun _ => 0))) hx hb (hts _ hw) rfl hK hP hD hS hA (fun cA => rfl) hz hZ hby hk hn hd (fun q cA H1 hK1 hP1 hD1 hS1 => ?_)
  have e1 := (hK1.2 2 (cA, .byte) rfl).2
  have e2 := (hK1.2 1 (X.2.2, .byte) rfl).2
  have e3 : cA = X.2.2 := Option.some.inj (Eq.trans (Eq.symm e1) e2)
  subst e3
  have k1 := kk q H1 locs ls hP1 hD1 hS1 hl0
  rw [hE] at k1
  exact k1
theorem g_new (cx : g_cx X E nL l R cc own ini) {ci : Nat} {C : String} {T : u_T} {N : Nat} {ty : Nat → FieldType} (hc : g_cl ci C T N ty) {i : Nat} (fs : List Value) (hw : Cond.classLink own i C ∈ gT) (hd : g_dc cc pc (.new i) 3 pc') (hfs : ∀ j, j < N → defaultValue (ty j) = vp_V fs j) (hk : k + 1 ≤ R.cells) (hn : n + N ≤ R.slots) (kk : ∀ q : Nat, G X E nL (k + 1) (n + N) (ws ++ [(q, .inr (ci, fs))]) lv pc' (.ref q :: st)) : G X E nL k n ws lv pc st := by
  obtain ⟨p, e, s, args, below, meth, c, Q, hE, hx, hb, hml, hown, hts, hK, hN, hA, hini⟩ := cx
  obtain ⟨hd, rfl⟩ := hd
  intro H locs ls hP hD hS hl0
  rw [hE]
  refine va_new hx hb hts hc.2.1 ty hc.2.2.1 hown (hts _ hw) (hts _ hc.2.2.2.2.1) (hts _ hc.2.2.2.2.2) hK hP hD hS hA hc.1 hfs hk hn hd (fun q H1 hP1 hD1 hS1 => ?_)
  have k1 := kk q H1 locs ls hP1 hD1 hS1 hl0
  rw [hE] at k1
  exact k1
theorem g_objInit (cx : g_cx X E nL l R cc own ini) {i : Nat} {a : Nat} (hw : Cond.methodLink own i Lib.objectInit ∈ gT) (hw2 : Cond.instanceMethod Lib.objectInit ∈ gT) (hw3 : Cond.code Lib.objectInit ⟨#[0xb1]⟩ 1 none ∈ gT) (hd : g_dc cc pc (.invokespecial i) 3 pc') (hR : 1 ≤ R.frames ∧ (st.map fun v => v.category).sum + 12 ≤ R.locals) (kk : G X E nL k n ws lv pc' st) : G X E nL k n ws lv pc (.ref a :: st) := by
  obtain ⟨p, e, s, args, below, meth, c, Q, hE, hx, hb, hml, hown, hts, hK, hN, hA, hini⟩ := cx
  obtain ⟨hd, rfl⟩ := hd
  intro H locs ls hP hD hS hl0
  have k1 := kk H locs ls hP hD hS hl0
  rw [hE] at k1 ⊢
  exact W.objInit hx hb hown (hts _ hw) (hts _ hw2) (hts _ hw3) rfl (by rw [hml]; exact hl0.1) rfl hd hR.1 (by show 2 * 0 + _ + 12 ≤ _; omega) k1
end GL
section GE
variable {X : gX} {l : Launch}
/-- the end rows of a method, as the walk of its body uses them -/
def g_ri (X : gX) (E : gE) (b : ByteArray) (ml : Nat) (ty : FieldType) (mc ms : Nat) (post : Int32 → va_W → Prop) : Prop := ∀ {pc pc' k n : Nat} {ws' : va_W} {lv : List (Nat × Value)} {v : Int32}, g_dc b pc .ireturn 1 pc' → k ≤ mc → n ≤ ms → narrow ty (.int v) = .int v → post v ws' → G X E ml k n ws' lv pc [.int v]
def g_rv (X : gX) (E : gE) (b : ByteArray) (ml : Nat) (mc ms : Nat) (post : va_W → Prop) : Prop := ∀ {pc pc' k n : Nat} {ws' : va_W} {lv : List (Nat × Value)}, g_dc b pc .return_ 1 pc' → k ≤ mc → n ≤ ms → post ws' → G X E ml k n ws' lv pc []
theorem g_mi {y : MethodName} {b : ByteArray} {ml : Nat} {ty : FieldType} {d mc ms : Nat} {av : List Value} {ws : va_W} {post : Int32 → va_W → Prop} (hy : plainName y.cls = true) (hlen : (lg_sl av).length ≤ ml)
    (body : ∀ E : gE, g_cx X E ml l (g_rm d mc ms) b y.cls (y.name = "<init>") → g_ri X E b ml ty mc ms post → G X E ml 0 0 ws (lv_args 0 av) 0 []) : g_Ci l X y b ml (some ty) d mc ms av ws post := by
  intro sz
  refine Met.ofW (cc := b) (maxL := ml) (ret := some ty) hy rfl ?_
  intro p e s m args below meth c s₁ B hml hv
  obtain ⟨rfl, hsz, hP, hK, hD0, hN⟩ := hv
  have hts := atoms_spec (ws := gW y b ml (some ty)) B.pre
  have hown : s.vm.findClass y.cls = some m.cls := findClass_of_methodNamed B.named
  subst hsz
  have hD : va_D (va_A ws s.heap.size) ws := hD0.self (sz := s.heap.size)
  rw [lg_entry_eq]
  let E : gE := ((fun H locs k n g => W p l e (g_rm d mc ms) s m av.toArray below meth c H locs k n (MQ below (va_Qi post (fun w t => g_B X (va_A ws s.heap.size) w t) (va_A ws s.heap.size)) av.toArray s mc ms (va_A ws s.heap.size)) g), m, va_A ws s.heap.size, s.heap)
  refine body E ⟨p, e, s, av.toArray, below, meth, c, _, rfl, B.exec, B.bytes, hml, hown, fun w h => hts w (List.mem_cons_of_mem _ h), hK, hN, fun q h => Or.inr h, fun h => (name_of_methodNamed B.named B.method).1.trans h⟩ ?_ s.heap [] _ hP hD va_S.rf (lv_entry av hlen)
  intro pc pc' k n ws' lv v hd hk hn hnar hp H locs ls hP hD hS hl
  show W p l e (g_rm d mc ms) s m av.toArray below meth c H locs k n _ _
  refine W.widen hk hn ?_
  exact W.zret (v := v) B.exec B.bytes B.returns hnar (fun t ht hW => ⟨⟨v, ws', rfl, hp, by rw [ht]; exact hP, hD⟩, hS.F ht⟩) hS.2.2 hd.1 B.notSynchronized
theorem g_mv {y : MethodName} {b : ByteArray} {ml : Nat} {d mc ms : Nat} {av : List Value} {ws : va_W} {post : va_W → Prop} (hy : plainName y.cls = true) (hlen : (lg_sl av).length ≤ ml)
    (body : ∀ E : gE, g_cx X E ml l (g_rm d mc ms) b y.cls (y.name = "<init>") → g_rv X E b ml mc ms post → G X E ml 0 0 ws (lv_args 0 av) 0 []) : g_Cv l X y b ml d mc ms av ws post := by
  intro sz
  refine Met.ofW (cc := b) (maxL := ml) (ret := none) hy rfl ?_
  intro p e s m args below meth c s₁ B hml hv
  obtain ⟨rfl, hsz, hP, hK, hD0, hN⟩ := hv
  have hts := atoms_spec (ws := gW y b ml none) B.pre
  have hown : s.vm.findClass y.cls = some m.cls := findClass_of_methodNamed B.named
  subst hsz
  have hD : va_D (va_A ws s.heap.size) ws := hD0.self (sz := s.heap.size)
  rw [lg_entry_eq]
  let E : gE := ((fun H locs k n g => W p l e (g_rm d mc ms) s m av.toArray below meth c H locs k n (MQ below (va_Qv post (fun w t => g_B X (va_A ws s.heap.size) w t) (va_A ws s.heap.size)) av.toArray s mc ms (va_A ws s.heap.size)) g), m, va_A ws s.heap.size, s.heap)
  refine body E ⟨p, e, s, av.toArray, below, meth, c, _, rfl, B.exec, B.bytes, hml, hown, fun w h => hts w (List.mem_cons_of_mem _ h), hK, hN, fun q h => Or.inr h, fun h => (name_of_methodNamed B.named B.method).1.trans h⟩ ?_ s.heap [] _ hP hD va_S.rf (lv_entry av hlen)
  intro pc pc' k n ws' lv hd hk hn hp H locs ls hP hD hS hl
  show W p l e (g_rm d mc ms) s m av.toArray below meth c H locs k n _ _
  refine W.widen hk hn ?_
  exact W.vret B.exec B.bytes B.returns (fun t ht hW => ⟨⟨ws', rfl, hp, by rw [ht]; exact hP, hD⟩, hS.F ht⟩) hS.2.2 hd.1 B.notSynchronized
end GE
section GCALL
variable {X : gX} {E : gE} {nL k n : Nat} {l : Launch} {R : Room} {cc : ByteArray} {own : String} {ini : Prop} {ws : va_W} {lv : List (Nat × Value)} {pc pc' : Nat} {st0 : List Value}
variable {y : MethodName} {b : ByteArray} {ml d mc ms idx : Nat} {wc : va_W}
/-- what a callee's words are: virtual (private ones too), static by the class itself, static by a nest mate, a constructor -/
def g_yV (y : MethodName) (b : ByteArray) (ml : Nat) (ret : Option FieldType) (np : Nat) : Prop := Cond.instanceMethod y ∈ gT ∧ Cond.selects y.cls y y ∈ gT ∧ Cond.initialized y.cls ∈ gT ∧ Cond.code y b ml ret ∈ gT ∧ (y.cls ≠ "java/lang/invoke/MethodHandle" ∧ y.cls ≠ "java/lang/invoke/VarHandle" ∧ (parseMethodDescriptor y.desc).map (fun d => d.parameters.length) = some np)
def g_yS (y : MethodName) (b : ByteArray) (ml : Nat) (ret : Option FieldType) (np : Nat) : Prop := Cond.static y ∈ gT ∧ Cond.initialized y.cls ∈ gT ∧ Cond.code y b ml ret ∈ gT ∧ (y.cls ≠ "java/lang/invoke/MethodHandle" ∧ y.cls ≠ "java/lang/invoke/VarHandle" ∧ (parseMethodDescriptor y.desc).map (fun d => d.parameters.length) = some np)
def g_yI (y : MethodName) (b : ByteArray) (ml : Nat) (np : Nat) : Prop := Cond.instanceMethod y ∈ gT ∧ Cond.initialized y.cls ∈ gT ∧ Cond.code y b ml none ∈ gT ∧ y.name = "<init>" ∧ (y.cls ≠ "java/lang/invoke/MethodHandle" ∧ y.cls ≠ "java/lang/invoke/VarHandle" ∧ (parseMethodDescriptor y.desc).map (fun d => d.parameters.length) = some np)
def g_rr (R : Room) (d ml : Nat) : Prop := d + 1 ≤ R.frames ∧ 8 + (ml + 11) + 40 * d ≤ R.locals
theorem g_pc_ok {av : List Value} {sz : Nat} : FrameBlind (va_Pc av (g_Pre X sz wc)) := fun a U g mk q => by
  obtain ⟨q0, q1, qP, qK, qD, qN⟩ := q
  exact ⟨q0, q1, qP, va_K.moved (u := U) (U := U.calling g mk a) (Vm.Alike.refl U.vm) qK, qD, g_nf_vm (u := U) (U := U.calling g mk a) rfl qN⟩
end GCALL

/-! ===== calls that take some cells with them and give them back at their places ===== -/
def g_rep : va_W → List Nat → va_W → va_W
  | ws, i :: is, c :: w => g_rep (ws.set i c) is w
  | ws, _, _ => ws
theorem g_rep_get : ∀ (isC : List Nat) (w ws : va_W) (k : Nat) (q : Nat × va_E), isC.length = w.length → (g_rep ws isC w)[k]? = some q → (∃ j : Nat, isC[j]? = some k ∧ w[j]? = some q) ∨ (k ∉ isC ∧ ws[k]? = some q)
  | [], [], ws, k, q, _, h => Or.inr ⟨List.not_mem_nil, h⟩
  | i :: is, c :: w, ws, k, q, hl, h => by
    rcases g_rep_get is w (ws.set i c) k q (Nat.succ.inj hl) h with ⟨j, h1, h2⟩ | ⟨h1, h2⟩
    · exact Or.inl ⟨j + 1, h1, h2⟩
    · by_cases hk : k = i
      · subst hk
        have hlt : k < (ws.set k c).length := (List.getElem?_eq_some_iff.mp h2).1
        rw [List.length_set] at hlt
        rw [List.getElem?_set_self hlt] at h2
        exact Or.inl ⟨0, rfl, h2⟩
      · rw [List.getElem?_set_ne (Ne.symm hk)] at h2
        exact Or.inr ⟨fun z => (List.mem_cons.mp z).elim hk h1, h2⟩
theorem g_rep_D {A : Nat → Prop} {ws wc w : va_W} {isC : List Nat} (hC : isC.map (fun i => ws[i]?) = wc.map some) (ha : w.map (·.1) = wc.map (·.1)) (hD : va_D A ws) : va_D A (g_rep ws isC w) := by
  have hl : isC.length = w.length := by
    have h1 := congrArg List.length hC
    have h2 := congrArg List.length ha
    simp only [List.length_map] at h1 h2
    omega
  have key : ∀ (k : Nat) (q : Nat × va_E), (g_rep ws isC w)[k]? = some q → ∃ q0, ws[k]? = some q0 ∧ q0.1 = q.1 := by
    intro k q hq
    rcases g_rep_get isC w ws k q hl hq with ⟨j, h1, h2⟩ | ⟨-, h2⟩
    · have e1 : (isC.map (fun i => ws[i]?))[j]? = some (ws[k]?) := by rw [List.getElem?_map, h1]; rfl
      have e2 : (w.map (·.1))[j]? = some q.1 := by rw [List.getElem?_map, h2]; rfl
      rw [hC, List.getElem?_map] at e1
      rw [ha, List.getElem?_map] at e2
      cases hw : wc[j]? with
      | none => rw [hw] at e1; cases e1
      | some q0 =>
        rw [hw] at e1 e2
        exact ⟨q0, (Option.some.inj e1).symm, Option.some.inj e2⟩
    · exact ⟨q, h2, rfl⟩
  refine ⟨fun i j x y hi hj hxy => ?_, fun k q hk => ?_⟩
  · obtain ⟨x0, h1, h2⟩ := key i x hi
    obtain ⟨y0, h3, h4⟩ := key j y hj
    exact hD.1 i j x0 y0 h1 h3 (h2.trans (hxy.trans h4.symm))
  · obtain ⟨q0, h1, h2⟩ := key k q hk
    rw [← h2]
    exact hD.2 k q0 h1
theorem g_rep_P {X : gX} {A : Nat → Prop} {ws wc w : va_W} {isC : List Nat} {H H1 : Heap} (hC : isC.map (fun i => ws[i]?) = wc.map some) (ha : w.map (·.1) = wc.map (·.1)) (hP : va_P X.1 vwCl ws H) (hD : va_D A ws) (hk : ∀ q : Nat, q < H.size → ¬ va_A wc H.size q → H1[q]? = H[q]?) (hP1 : va_P X.1 vwCl w H1) : va_P X.1 vwCl (g_rep ws isC w) H1 := by
  have hl : isC.length = w.length := by
    have h1 := congrArg List.length hC
    have h2 := congrArg List.length ha
    simp only [List.length_map] at h1 h2
    omega
  intro k q hq
  rcases g_rep_get isC w ws k q hl hq with ⟨j, -, h2⟩ | ⟨h1, h2⟩
  · exact hP1 j q h2
  · refine (hP k q h2).kept (hk q.1 (hP k q h2).lt (fun z => ?_))
    rcases z with ⟨j, e, hj⟩ | hj
    · have e1 : (wc.map some)[j]? = some (some (q.1, e)) := by rw [List.getElem?_map, hj]; rfl
      rw [← hC, List.getElem?_map] at e1
      cases hi : isC[j]? with
      | none => rw [hi] at e1; cases e1
      | some i =>
        rw [hi] at e1
        have e2 : ws[i]? = some (q.1, e) := Option.some.inj e1
        have := hD.1 k i q (q.1, e) h2 e2 rfl
        subst this
        exact h1 (List.mem_of_getElem? hi)
    · exact absurd (hP k q h2).lt (Nat.not_lt.mpr hj)
theorem g_rep_same : ∀ {isC : List Nat} {ws wc : va_W}, isC.map (fun i => ws[i]?) = wc.map some → g_rep ws isC wc = ws
  | [], ws, [], _ => rfl
  | [], ws, c :: wc, h => by cases h
  | i :: is, ws, [], h => by cases h
  | i :: is, ws, c :: wc, h => by
    have h1 : ws[i]? = some c := (List.cons.inj h).1
    have h2 := (List.cons.inj h).2
    have e : ws.set i c = ws := by
      apply List.ext_getElem?
      intro j
      by_cases hj : j = i
      · subst hj
        rw [List.getElem?_set_self (List.getElem?_eq_some_iff.mp h1).1, h1]
      · rw [List.getElem?_set_ne (Ne.symm hj)]
    show g_rep (ws.set i c) is wc = ws
    rw [e]
    exact g_rep_same h2
theorem g_all (ws : va_W) : (List.range ws.length).map (fun i => ws[i]?) = ws.map some := by
  apply List.ext_getElem?
  intro j
  rw [List.getElem?_map, List.getElem?_map]
  by_cases h : j < ws.length
  · rw [List.getElem?_range h]
    simp [h]
  · rw [List.getElem?_eq_none (by simpa using h), List.getElem?_eq_none (by simpa using h)]
    rfl

section GCB
variable {X : gX} {E : gE} {nL k n : Nat} {l : Launch} {R : Room} {cc : ByteArray} {own : String} {ini : Prop} {ws : va_W} {lv : List (Nat × Value)} {pc pc' : Nat} {st0 : List Value}
variable {y : MethodName} {b : ByteArray} {ml d mc ms idx : Nat} {wc : va_W}
theorem g_P_of {is : List Nat} {H : Heap} (h : is.map (fun i => ws[i]?) = wc.map some) (hP : va_P X.1 vwCl ws H) : va_P X.1 vwCl wc H := by
  refine hP.sub is ?_
  have h1 : is.filterMap (fun i => ws[i]?) = (is.map (fun i => ws[i]?)).filterMap id := by rw [List.filterMap_map]; rfl
  rw [h1, h, List.filterMap_map]
  simp
theorem g_cVi {ret : Option FieldType} {post : Int32 → va_W → Prop} (cx : g_cx X E nL l R cc own ini) (As st : List Value) {a : Nat} (hM : g_Ci l X y b ml ret d mc ms (.ref a :: As) wc post) (hw : Cond.methodLink own idx y ∈ gT) (hy : g_yV y b ml ret As.length) (hd : g_dc cc pc (.invokevirtual idx) 3 pc') (hR : g_rr R d ml) (hf : k + mc ≤ R.cells ∧ n + ms ≤ R.slots) (q0 : Nat) {ci : Nat} {fs : List Value} {T : u_T} {N : Nat} (he : wc[q0]? = some (a, .inr (ci, fs))) (hc : vwCl[ci]? = some (y.cls, T, N)) (isC : List Nat) (hC : isC.map (fun i => ws[i]?) = wc.map some) (hnd : va_nd isC = true) (hst : st0 = As.reverse ++ .ref a :: st) (hW : (st.map fun v => v.category).sum ≤ 8) (hadr : ∀ r w, post r w → w.map (·.1) = wc.map (·.1))
    (kk : ∀ r w, post r w → G X E nL (k + mc) (n + ms) (g_rep ws isC w) lv pc' (.int r :: st)) : G X E nL k n ws lv pc st0 := by
  obtain ⟨p, e, s, args, below, meth, c, Q, hE, hx, hb, hml, hown, hts, hK, hN, hA, hini⟩ := cx
  obtain ⟨hd, rfl⟩ := hd
  subst hst
  intro H locs ls hP hD hS hl
  rw [hE]
  have hPc : va_P X.1 vwCl wc H := g_P_of hC hP
  have hDc := hD.sub isC hnd hC
  have hFc := va_free (wc := wc) hD hS hA isC hC
  have hgood : GoodIn gT (wsV own idx y.cls y (gW y b ml ret)) := g_good (fun w h => by
    simp only [wsV, gW, List.mem_append, List.mem_cons, List.not_mem_nil, or_false] at h
    rcases h with (rfl | rfl | rfl | rfl) | rfl | h
    · exact hw
    · exact hy.1
    · exact hy.2.1
    · exact hy.2.2.1
    · exact hy.2.2.2.1
    · exact h)
  refine va_calli (va_runV (As := As) (rest := st) ⟨hx, hb, hml, hown, hts⟩ (hM H.size) (cwV As.length hts hgood rfl rfl rfl ⟨rfl, hy.2.2.2.2⟩ hR) ⟨g_pc_ok, va_recv hK hPc hc he, fun U hU hW => ⟨rfl, by rw [hU], by rw [hU]; exact hPc, va_K.moved hW.alike hK, hDc.weaken (fun _ _ _ _ => trivial), g_nf_warm hW hN⟩⟩ rfl rfl hl.1 rfl (lv_room hW) hd hf) hS (fun q _ h => hFc q h) hFc (fun r w t H1 locs1 ht hvm hp hB hz hk1 hS1 => ?_)
  obtain ⟨hP1, hD1⟩ := hB
  rw [ht] at hP1
  have k1 := kk r w hp H1 locs1 ls (g_rep_P hC (hadr r w hp) hP hD hk1 hP1) (g_rep_D hC (hadr r w hp) hD) hS1 hl
  rw [hE] at k1
  exact k1
theorem g_cViW {ret : Option FieldType} {post : Int32 → va_W → Prop} (cx : g_cx X E nL l R cc own ini) (As st : List Value) {a : Nat} (hM : g_Ci l X y b ml ret d mc ms (.ref a :: As) ws post) (hw : Cond.methodLink own idx y ∈ gT) (hy : g_yV y b ml ret As.length) (hd : g_dc cc pc (.invokevirtual idx) 3 pc') (hR : g_rr R d ml) (hf : k + mc ≤ R.cells ∧ n + ms ≤ R.slots) (q0 : Nat) {ci : Nat} {fs : List Value} {T : u_T} {N : Nat} (he : ws[q0]? = some (a, .inr (ci, fs))) (hc : vwCl[ci]? = some (y.cls, T, N)) (hst : st0 = As.reverse ++ .ref a :: st) (hW : (st.map fun v => v.category).sum ≤ 8)
    (kk : ∀ r w, post r w → G X E nL (k + mc) (n + ms) w lv pc' (.int r :: st)) : G X E nL k n ws lv pc st0 := by
  obtain ⟨p, e, s, args, below, meth, c, Q, hE, hx, hb, hml, hown, hts, hK, hN, hA, hini⟩ := cx
  obtain ⟨hd, rfl⟩ := hd
  subst hst
  intro H locs ls hP hD hS hl
  rw [hE]
  have hPc : va_P X.1 vwCl ws H := hP
  have hDc := hD
  have hFc := va_free (wc := ws) hD hS hA (List.range ws.length) (g_all ws)
  have hgood : GoodIn gT (wsV own idx y.cls y (gW y b ml ret)) := g_good (fun w h => by
    simp only [wsV, gW, List.mem_append, List.mem_cons, List.not_mem_nil, or_false] at h
    rcases h with (rfl | rfl | rfl | rfl) | rfl | h
    · exact hw
    · exact hy.1
    · exact hy.2.1
    · exact hy.2.2.1
    · exact hy.2.2.2.1
    · exact h)
  refine va_calli (va_runV (As := As) (rest := st) ⟨hx, hb, hml, hown, hts⟩ (hM H.size) (cwV As.length hts hgood rfl rfl rfl ⟨rfl, hy.2.2.2.2⟩ hR) ⟨g_pc_ok, va_recv hK hPc hc he, fun U hU hW => ⟨rfl, by rw [hU], by rw [hU]; exact hPc, va_K.moved hW.alike hK, hDc.weaken (fun _ _ _ _ => trivial), g_nf_warm hW hN⟩⟩ rfl rfl hl.1 rfl (lv_room hW) hd hf) hS (fun q _ h => hFc q h) hFc (fun r w t H1 locs1 ht hvm hp hB hz hk1 hS1 => ?_)
  obtain ⟨hP1, hD1⟩ := hB
  rw [ht] at hP1
  have k1 := kk r w hp H1 locs1 ls hP1 (hD1.weaken (fun _ q _ h => hFc q.1 h)) hS1 hl
  rw [hE] at k1
  exact k1
theorem g_cVv {post : va_W → Prop} (cx : g_cx X E nL l R cc own ini) (As st : List Value) {a : Nat} (hM : g_Cv l X y b ml d mc ms (.ref a :: As) wc post) (hw : Cond.methodLink own idx y ∈ gT) (hy : g_yV y b ml none As.length) (hd : g_dc cc pc (.invokevirtual idx) 3 pc') (hR : g_rr R d ml) (hf : k + mc ≤ R.cells ∧ n + ms ≤ R.slots) (q0 : Nat) {ci : Nat} {fs : List Value} {T : u_T} {N : Nat} (he : wc[q0]? = some (a, .inr (ci, fs))) (hc : vwCl[ci]? = some (y.cls, T, N)) (isC : List Nat) (hC : isC.map (fun i => ws[i]?) = wc.map some) (hnd : va_nd isC = true) (hst : st0 = As.reverse ++ .ref a :: st) (hW : (st.map fun v => v.category).sum ≤ 8) (hadr : ∀ w, post w → w.map (·.1) = wc.map (·.1))
    (kk : ∀ w, post w → G X E nL (k + mc) (n + ms) (g_rep ws isC w) lv pc' (st)) : G X E nL k n ws lv pc st0 := by
  obtain ⟨p, e, s, args, below, meth, c, Q, hE, hx, hb, hml, hown, hts, hK, hN, hA, hini⟩ := cx
  obtain ⟨hd, rfl⟩ := hd
  subst hst
  intro H locs ls hP hD hS hl
  rw [hE]
  have hPc : va_P X.1 vwCl wc H := g_P_of hC hP
  have hDc := hD.sub isC hnd hC
  have hFc := va_free (wc := wc) hD hS hA isC hC
  have hgood : GoodIn gT (wsV own idx y.cls y (gW y b ml none)) := g_good (fun w h => by
    simp only [wsV, gW, List.mem_append, List.mem_cons, List.not_mem_nil, or_false] at h
    rcases h with (rfl | rfl | rfl | rfl) | rfl | h
    · exact hw
    · exact hy.1
    · exact hy.2.1
    · exact hy.2.2.1
    · exact hy.2.2.2.1
    · exact h)
  refine va_callv (va_runV (As := As) (rest := st) ⟨hx, hb, hml, hown, hts⟩ (hM H.size) (cwV As.length hts hgood rfl rfl rfl ⟨rfl, hy.2.2.2.2⟩ hR) ⟨g_pc_ok, va_recv hK hPc hc he, fun U hU hW => ⟨rfl, by rw [hU], by rw [hU]; exact hPc, va_K.moved hW.alike hK, hDc.weaken (fun _ _ _ _ => trivial), g_nf_warm hW hN⟩⟩ rfl rfl hl.1 rfl (lv_room hW) hd hf) hS (fun q _ h => hFc q h) hFc (fun w t H1 locs1 ht hvm hp hB hz hk1 hS1 => ?_)
  obtain ⟨hP1, hD1⟩ := hB
  rw [ht] at hP1
  have k1 := kk w hp H1 locs1 ls (g_rep_P hC (hadr w hp) hP hD hk1 hP1) (g_rep_D hC (hadr w hp) hD) hS1 hl
  rw [hE] at k1
  exact k1
theorem g_cVvW {post : va_W → Prop} (cx : g_cx X E nL l R cc own ini) (As st : List Value) {a : Nat} (hM : g_Cv l X y b ml d mc ms (.ref a :: As) ws post) (hw : Cond.methodLink own idx y ∈ gT) (hy : g_yV y b ml none As.length) (hd : g_dc cc pc (.invokevirtual idx) 3 pc') (hR : g_rr R d ml) (hf : k + mc ≤ R.cells ∧ n + ms ≤ R.slots) (q0 : Nat) {ci : Nat} {fs : List Value} {T : u_T} {N : Nat} (he : ws[q0]? = some (a, .inr (ci, fs))) (hc : vwCl[ci]? = some (y.cls, T, N)) (hst : st0 = As.reverse ++ .ref a :: st) (hW : (st.map fun v => v.category).sum ≤ 8)
    (kk : ∀ w, post w → G X E nL (k + mc) (n + ms) w lv pc' (st)) : G X E nL k n ws lv pc st0 := by
  obtain ⟨p, e, s, args, below, meth, c, Q, hE, hx, hb, hml, hown, hts, hK, hN, hA, hini⟩ := cx
  obtain ⟨hd, rfl⟩ := hd
  subst hst
  intro H locs ls hP hD hS hl
  rw [hE]
  have hPc : va_P X.1 vwCl ws H := hP
  have hDc := hD
  have hFc := va_free (wc := ws) hD hS hA (List.range ws.length) (g_all ws)
  have hgood : GoodIn gT (wsV own idx y.cls y (gW y b ml none)) := g_good (fun w h => by
    simp only [wsV, gW, List.mem_append, List.mem_cons, List.not_mem_nil, or_false] at h
    rcases h with (rfl | rfl | rfl | rfl) | rfl | h
    · exact hw
    · exact hy.1
    · exact hy.2.1
    · exact hy.2.2.1
    · exact hy.2.2.2.1
    · exact h)
  refine va_callv (va_runV (As := As) (rest := st) ⟨hx, hb, hml, hown, hts⟩ (hM H.size) (cwV As.length hts hgood rfl rfl rfl ⟨rfl, hy.2.2.2.2⟩ hR) ⟨g_pc_ok, va_recv hK hPc hc he, fun U hU hW => ⟨rfl, by rw [hU], by rw [hU]; exact hPc, va_K.moved hW.alike hK, hDc.weaken (fun _ _ _ _ => trivial), g_nf_warm hW hN⟩⟩ rfl rfl hl.1 rfl (lv_room hW) hd hf) hS (fun q _ h => hFc q h) hFc (fun w t H1 locs1 ht hvm hp hB hz hk1 hS1 => ?_)
  obtain ⟨hP1, hD1⟩ := hB
  rw [ht] at hP1
  have k1 := kk w hp H1 locs1 ls hP1 (hD1.weaken (fun _ q _ h => hFc q.1 h)) hS1 hl
  rw [hE] at k1
  exact k1
theorem g_cSi {ret : Option FieldType} {post : Int32 → va_W → Prop} (cx : g_cx X E nL l R cc own ini) (As st : List Value) (hM : g_Ci l X y b ml ret d mc ms As wc post) (hw : Cond.methodLink own idx y ∈ gT) (hy : g_yS y b ml ret As.length) (ho : y.cls = own) (hd : g_dc cc pc (.invokestatic idx) 3 pc') (hR : g_rr R d ml) (hf : k + mc ≤ R.cells ∧ n + ms ≤ R.slots) (isC : List Nat) (hC : isC.map (fun i => ws[i]?) = wc.map some) (hnd : va_nd isC = true) (hst : st0 = As.reverse ++ st) (hW : (st.map fun v => v.category).sum ≤ 8) (hadr : ∀ r w, post r w → w.map (·.1) = wc.map (·.1))
    (kk : ∀ r w, post r w → G X E nL (k + mc) (n + ms) (g_rep ws isC w) lv pc' (.int r :: st)) : G X E nL k n ws lv pc st0 := by
  obtain ⟨p, e, s, args, below, meth, c, Q, hE, hx, hb, hml, hown, hts, hK, hN, hA, hini⟩ := cx
  obtain ⟨hd, rfl⟩ := hd
  subst hst
  intro H locs ls hP hD hS hl
  rw [hE]
  have hPc : va_P X.1 vwCl wc H := g_P_of hC hP
  have hDc := hD.sub isC hnd hC
  have hFc := va_free (wc := wc) hD hS hA isC hC
  have hgood : GoodIn gT (wsS own idx y (gW y b ml ret)) := g_good (fun w h => by
    simp only [wsS, gW, List.mem_append, List.mem_cons, List.not_mem_nil, or_false] at h
    rcases h with (rfl | rfl | rfl) | rfl | h
    · exact hw
    · exact hy.1
    · rw [← ho]; exact hy.2.1
    · exact hy.2.2.1
    · exact h)
  refine va_calli (va_runS (As := As) (rest := st) ⟨hx, hb, hml, hown, hts⟩ (hM H.size) (cwS As.length hts hgood rfl rfl rfl ⟨ho, hy.2.2.2⟩ hR) ⟨g_pc_ok, fun U hU hW => ⟨rfl, by rw [hU], by rw [hU]; exact hPc, va_K.moved hW.alike hK, hDc.weaken (fun _ _ _ _ => trivial), g_nf_warm hW hN⟩⟩ rfl rfl hl.1 rfl (lv_room hW) hd hf) hS (fun q _ h => hFc q h) hFc (fun r w t H1 locs1 ht hvm hp hB hz hk1 hS1 => ?_)
  obtain ⟨hP1, hD1⟩ := hB
  rw [ht] at hP1
  have k1 := kk r w hp H1 locs1 ls (g_rep_P hC (hadr r w hp) hP hD hk1 hP1) (g_rep_D hC (hadr r w hp) hD) hS1 hl
  rw [hE] at k1
  exact k1
theorem g_cSiW {ret : Option FieldType} {post : Int32 → va_W → Prop} (cx : g_cx X E nL l R cc own ini) (As st : List Value) (hM : g_Ci l X y b ml ret d mc ms As ws post) (hw : Cond.methodLink own idx y ∈ gT) (hy : g_yS y b ml ret As.length) (ho : y.cls = own) (hd : g_dc cc pc (.invokestatic idx) 3 pc') (hR : g_rr R d ml) (hf : k + mc ≤ R.cells ∧ n + ms ≤ R.slots) (hst : st0 = As.reverse ++ st) (hW : (st.map fun v => v.category).sum ≤ 8)
    (kk : ∀ r w, post r w → G X E nL (k + mc) (n + ms) w lv pc' (.int r :: st)) : G X E nL k n ws lv pc st0 := by
  obtain ⟨p, e, s, args, below, meth, c, Q, hE, hx, hb, hml, hown, hts, hK, hN, hA, hini⟩ := cx
  obtain ⟨hd, rfl⟩ := hd
  subst hst
  intro H locs ls hP hD hS hl
  rw [hE]
  have hPc : va_P X.1 vwCl ws H := hP
  have hDc := hD
  have hFc := va_free (wc := ws) hD hS hA (List.range ws.length) (g_all ws)
  have hgood : GoodIn gT (wsS own idx y (gW y b ml ret)) := g_good (fun w h => by
    simp only [wsS, gW, List.mem_append, List.mem_cons, List.not_mem_nil, or_false] at h
    rcases h with (rfl | rfl | rfl) | rfl | h
    · exact hw
    · exact hy.1
    · rw [← ho]; exact hy.2.1
    · exact hy.2.2.1
    · exact h)
  refine va_calli (va_runS (As := As) (rest := st) ⟨hx, hb, hml, hown, hts⟩ (hM H.size) (cwS As.length hts hgood rfl rfl rfl ⟨ho, hy.2.2.2⟩ hR) ⟨g_pc_ok, fun U hU hW => ⟨rfl, by rw [hU], by rw [hU]; exact hPc, va_K.moved hW.alike hK, hDc.weaken (fun _ _ _ _ => trivial), g_nf_warm hW hN⟩⟩ rfl rfl hl.1 rfl (lv_room hW) hd hf) hS (fun q _ h => hFc q h) hFc (fun r w t H1 locs1 ht hvm hp hB hz hk1 hS1 => ?_)
  obtain ⟨hP1, hD1⟩ := hB
  rw [ht] at hP1
  have k1 := kk r w hp H1 locs1 ls hP1 (hD1.weaken (fun _ q _ h => hFc q.1 h)) hS1 hl
  rw [hE] at k1
  exact k1
theorem g_cNi {ret : Option FieldType} {host : String} {post : Int32 → va_W → Prop} (cx : g_cx X E nL l R cc own ini) (As st : List Value) (hM : g_Ci l X y b ml ret d mc ms As wc post) (hw : Cond.methodLinkNest own idx y host ∈ lw_tbl) (hy : g_yS y b ml ret As.length) (hd : g_dc cc pc (.invokestatic idx) 3 pc') (hR : g_rr R d ml) (hf : k + mc ≤ R.cells ∧ n + ms ≤ R.slots) (isC : List Nat) (hC : isC.map (fun i => ws[i]?) = wc.map some) (hnd : va_nd isC = true) (hst : st0 = As.reverse ++ st) (hW : (st.map fun v => v.category).sum ≤ 8) (hadr : ∀ r w, post r w → w.map (·.1) = wc.map (·.1))
    (kk : ∀ r w, post r w → G X E nL (k + mc) (n + ms) (g_rep ws isC w) lv pc' (.int r :: st)) : G X E nL k n ws lv pc st0 := by
  obtain ⟨p, e, s, args, below, meth, c, Q, hE, hx, hb, hml, hown, hts, hK, hN, hA, hini⟩ := cx
  obtain ⟨hd, rfl⟩ := hd
  subst hst
  intro H locs ls hP hD hS hl
  rw [hE]
  have hPc : va_P X.1 vwCl wc H := g_P_of hC hP
  have hDc := hD.sub isC hnd hC
  have hFc := va_free (wc := wc) hD hS hA isC hC
  have hgood : GoodIn gT (gW y b ml ret) := g_good (fun w h => by
    rcases List.mem_cons.mp h with rfl | h
    · exact hy.2.2.1
    · exact h)
  refine va_calli (va_runSN (host := host) (As := As) (rest := st) ⟨hx, hb, hml, hown, hts⟩ (hM H.size) ⟨va_cnB As.length hts hgood rfl rfl rfl (hN _ hw rfl) (hts _ hy.2.1) hy.2.2.2 hR, hts _ hy.1, trivial⟩ ⟨g_pc_ok, fun U hU hW => ⟨rfl, by rw [hU], by rw [hU]; exact hPc, va_K.moved hW.alike hK, hDc.weaken (fun _ _ _ _ => trivial), g_nf_warm hW hN⟩⟩ rfl rfl hl.1 rfl (lv_room hW) hd hf) hS (fun q _ h => hFc q h) hFc (fun r w t H1 locs1 ht hvm hp hB hz hk1 hS1 => ?_)
  obtain ⟨hP1, hD1⟩ := hB
  rw [ht] at hP1
  have k1 := kk r w hp H1 locs1 ls (g_rep_P hC (hadr r w hp) hP hD hk1 hP1) (g_rep_D hC (hadr r w hp) hD) hS1 hl
  rw [hE] at k1
  exact k1
theorem g_cNiW {ret : Option FieldType} {host : String} {post : Int32 → va_W → Prop} (cx : g_cx X E nL l R cc own ini) (As st : List Value) (hM : g_Ci l X y b ml ret d mc ms As ws post) (hw : Cond.methodLinkNest own idx y host ∈ lw_tbl) (hy : g_yS y b ml ret As.length) (hd : g_dc cc pc (.invokestatic idx) 3 pc') (hR : g_rr R d ml) (hf : k + mc ≤ R.cells ∧ n + ms ≤ R.slots) (hst : st0 = As.reverse ++ st) (hW : (st.map fun v => v.category).sum ≤ 8)
    (kk : ∀ r w, post r w → G X E nL (k + mc) (n + ms) w lv pc' (.int r :: st)) : G X E nL k n ws lv pc st0 := by
  obtain ⟨p, e, s, args, below, meth, c, Q, hE, hx, hb, hml, hown, hts, hK, hN, hA, hini⟩ := cx
  obtain ⟨hd, rfl⟩ := hd
  subst hst
  intro H locs ls hP hD hS hl
  rw [hE]
  have hPc : va_P X.1 vwCl ws H := hP
  have hDc := hD
  have hFc := va_free (wc := ws) hD hS hA (List.range ws.length) (g_all ws)
  have hgood : GoodIn gT (gW y b ml ret) := g_good (fun w h => by
    rcases List.mem_cons.mp h with rfl | h
    · exact hy.2.2.1
    · exact h)
  refine va_calli (va_runSN (host := host) (As := As) (rest := st) ⟨hx, hb, hml, hown, hts⟩ (hM H.size) ⟨va_cnB As.length hts hgood rfl rfl rfl (hN _ hw rfl) (hts _ hy.2.1) hy.2.2.2 hR, hts _ hy.1, trivial⟩ ⟨g_pc_ok, fun U hU hW => ⟨rfl, by rw [hU], by rw [hU]; exact hPc, va_K.moved hW.alike hK, hDc.weaken (fun _ _ _ _ => trivial), g_nf_warm hW hN⟩⟩ rfl rfl hl.1 rfl (lv_room hW) hd hf) hS (fun q _ h => hFc q h) hFc (fun r w t H1 locs1 ht hvm hp hB hz hk1 hS1 => ?_)
  obtain ⟨hP1, hD1⟩ := hB
  rw [ht] at hP1
  have k1 := kk r w hp H1 locs1 ls hP1 (hD1.weaken (fun _ q _ h => hFc q.1 h)) hS1 hl
  rw [hE] at k1
  exact k1
theorem g_cI {post : va_W → Prop} (cx : g_cx X E nL l R cc own ini) (As st : List Value) {a : Nat} (hM : g_Cv l X y b ml d mc ms (.ref a :: As) wc post) (hw : Cond.methodLink own idx y ∈ gT) (hy : g_yI y b ml As.length) (hd : g_dc cc pc (.invokespecial idx) 3 pc') (hR : g_rr R d ml) (hf : k + mc ≤ R.cells ∧ n + ms ≤ R.slots) (isC : List Nat) (hC : isC.map (fun i => ws[i]?) = wc.map some) (hnd : va_nd isC = true) (hst : st0 = As.reverse ++ .ref a :: st) (hW : (st.map fun v => v.category).sum ≤ 8) (hadr : ∀ w, post w → w.map (·.1) = wc.map (·.1))
    (kk : ∀ w, post w → G X E nL (k + mc) (n + ms) (g_rep ws isC w) lv pc' (st)) : G X E nL k n ws lv pc st0 := by
  obtain ⟨p, e, s, args, below, meth, c, Q, hE, hx, hb, hml, hown, hts, hK, hN, hA, hini⟩ := cx
  obtain ⟨hd, rfl⟩ := hd
  subst hst
  intro H locs ls hP hD hS hl
  rw [hE]
  have hPc : va_P X.1 vwCl wc H := g_P_of hC hP
  have hDc := hD.sub isC hnd hC
  have hFc := va_free (wc := wc) hD hS hA isC hC
  have hgood : GoodIn gT (gW y b ml none) := g_good (fun w h => by
    rcases List.mem_cons.mp h with rfl | h
    · exact hy.2.2.1
    · exact h)
  refine va_callv (va_runI (As := As) (rest := st) ⟨hx, hb, hml, hown, hts⟩ (hM H.size) (cwI As.length hts hgood rfl rfl rfl (hts _ hy.2.1) (hts _ hw) (hts _ hy.1) hy.2.2.2.1 hy.2.2.2.2 hR) ⟨g_pc_ok, fun U hU hW => ⟨rfl, by rw [hU], by rw [hU]; exact hPc, va_K.moved hW.alike hK, hDc.weaken (fun _ _ _ _ => trivial), g_nf_warm hW hN⟩⟩ rfl rfl hl.1 rfl (lv_room hW) hd hf) hS (fun q _ h => hFc q h) hFc (fun w t H1 locs1 ht hvm hp hB hz hk1 hS1 => ?_)
  obtain ⟨hP1, hD1⟩ := hB
  rw [ht] at hP1
  have k1 := kk w hp H1 locs1 ls (g_rep_P hC (hadr w hp) hP hD hk1 hP1) (g_rep_D hC (hadr w hp) hD) hS1 hl
  rw [hE] at k1
  exact k1
theorem g_cIW {post : va_W → Prop} (cx : g_cx X E nL l R cc own ini) (As st : List Value) {a : Nat} (hM : g_Cv l X y b ml d mc ms (.ref a :: As) ws post) (hw : Cond.methodLink own idx y ∈ gT) (hy : g_yI y b ml As.length) (hd : g_dc cc pc (.invokespecial idx) 3 pc') (hR : g_rr R d ml) (hf : k + mc ≤ R.cells ∧ n + ms ≤ R.slots) (hst : st0 = As.reverse ++ .ref a :: st) (hW : (st.map fun v => v.category).sum ≤ 8)
    (kk : ∀ w, post w → G X E nL (k + mc) (n + ms) w lv pc' (st)) : G X E nL k n ws lv pc st0 := by
  obtain ⟨p, e, s, args, below, meth, c, Q, hE, hx, hb, hml, hown, hts, hK, hN, hA, hini⟩ := cx
  obtain ⟨hd, rfl⟩ := hd
  subst hst
  intro H locs ls hP hD hS hl
  rw [hE]
  have hPc : va_P X.1 vwCl ws H := hP
  have hDc := hD
  have hFc := va_free (wc := ws) hD hS hA (List.range ws.length) (g_all ws)
  have hgood : GoodIn gT (gW y b ml none) := g_good (fun w h => by
    rcases List.mem_cons.mp h with rfl | h
    · exact hy.2.2.1
    · exact h)
  refine va_callv (va_runI (As := As) (rest := st) ⟨hx, hb, hml, hown, hts⟩ (hM H.size) (cwI As.length hts hgood rfl rfl rfl (hts _ hy.2.1) (hts _ hw) (hts _ hy.1) hy.2.2.2.1 hy.2.2.2.2 hR) ⟨g_pc_ok, fun U hU hW => ⟨rfl, by rw [hU], by rw [hU]; exact hPc, va_K.moved hW.alike hK, hDc.weaken (fun _ _ _ _ => trivial), g_nf_warm hW hN⟩⟩ rfl rfl hl.1 rfl (lv_room hW) hd hf) hS (fun q _ h => hFc q h) hFc (fun w t H1 locs1 ht hvm hp hB hz hk1 hS1 => ?_)
  obtain ⟨hP1, hD1⟩ := hB
  rw [ht] at hP1
  have k1 := kk w hp H1 locs1 ls hP1 (hD1.weaken (fun _ q _ h => hFc q.1 h)) hS1 hl
  rw [hE] at k1
  exact k1
theorem g_cIN {host : String} {post : va_W → Prop} (cx : g_cx X E nL l R cc own ini) (As st : List Value) {a : Nat} (hM : g_Cv l X y b ml d mc ms (.ref a :: As) wc post) (hw : Cond.methodLinkNest own idx y host ∈ lw_tbl) (hy : g_yI y b ml As.length) (hd : g_dc cc pc (.invokespecial idx) 3 pc') (hR : g_rr R d ml) (hf : k + mc ≤ R.cells ∧ n + ms ≤ R.slots) (isC : List Nat) (hC : isC.map (fun i => ws[i]?) = wc.map some) (hnd : va_nd isC = true) (hst : st0 = As.reverse ++ .ref a :: st) (hW : (st.map fun v => v.category).sum ≤ 8) (hadr : ∀ w, post w → w.map (·.1) = wc.map (·.1))
    (kk : ∀ w, post w → G X E nL (k + mc) (n + ms) (g_rep ws isC w) lv pc' (st)) : G X E nL k n ws lv pc st0 := by
  obtain ⟨p, e, s, args, below, meth, c, Q, hE, hx, hb, hml, hown, hts, hK, hN, hA, hini⟩ := cx
  obtain ⟨hd, rfl⟩ := hd
  subst hst
  intro H locs ls hP hD hS hl
  rw [hE]
  have hPc : va_P X.1 vwCl wc H := g_P_of hC hP
  have hDc := hD.sub isC hnd hC
  have hFc := va_free (wc := wc) hD hS hA isC hC
  have hgood : GoodIn gT (gW y b ml none) := g_good (fun w h => by
    rcases List.mem_cons.mp h with rfl | h
    · exact hy.2.2.1
    · exact h)
  refine va_callv (va_runIN (host := host) (As := As) (rest := st) ⟨hx, hb, hml, hown, hts⟩ (hM H.size) ⟨va_cnB As.length hts hgood rfl rfl rfl (hN _ hw rfl) (hts _ hy.2.1) hy.2.2.2.2 hR, hy.2.2.2.1, hts _ hy.1⟩ ⟨g_pc_ok, fun U hU hW => ⟨rfl, by rw [hU], by rw [hU]; exact hPc, va_K.moved hW.alike hK, hDc.weaken (fun _ _ _ _ => trivial), g_nf_warm hW hN⟩⟩ rfl rfl hl.1 rfl (lv_room hW) hd hf) hS (fun q _ h => hFc q h) hFc (fun w t H1 locs1 ht hvm hp hB hz hk1 hS1 => ?_)
  obtain ⟨hP1, hD1⟩ := hB
  rw [ht] at hP1
  have k1 := kk w hp H1 locs1 ls (g_rep_P hC (hadr w hp) hP hD hk1 hP1) (g_rep_D hC (hadr w hp) hD) hS1 hl
  rw [hE] at k1
  exact k1
theorem g_cINW {host : String} {post : va_W → Prop} (cx : g_cx X E nL l R cc own ini) (As st : List Value) {a : Nat} (hM : g_Cv l X y b ml d mc ms (.ref a :: As) ws post) (hw : Cond.methodLinkNest own idx y host ∈ lw_tbl) (hy : g_yI y b ml As.length) (hd : g_dc cc pc (.invokespecial idx) 3 pc') (hR : g_rr R d ml) (hf : k + mc ≤ R.cells ∧ n + ms ≤ R.slots) (hst : st0 = As.reverse ++ .ref a :: st) (hW : (st.map fun v => v.category).sum ≤ 8)
    (kk : ∀ w, post w → G X E nL (k + mc) (n + ms) w lv pc' (st)) : G X E nL k n ws lv pc st0 := by
  obtain ⟨p, e, s, args, below, meth, c, Q, hE, hx, hb, hml, hown, hts, hK, hN, hA, hini⟩ := cx
  obtain ⟨hd, rfl⟩ := hd
  subst hst
  intro H locs ls hP hD hS hl
  rw [hE]
  have hPc : va_P X.1 vwCl ws H := hP
  have hDc := hD
  have hFc := va_free (wc := ws) hD hS hA (List.range ws.length) (g_all ws)
  have hgood : GoodIn gT (gW y b ml none) := g_good (fun w h => by
    rcases List.mem_cons.mp h with rfl | h
    · exact hy.2.2.1
    · exact h)
  refine va_callv (va_runIN (host := host) (As := As) (rest := st) ⟨hx, hb, hml, hown, hts⟩ (hM H.size) ⟨va_cnB As.length hts hgood rfl rfl rfl (hN _ hw rfl) (hts _ hy.2.1) hy.2.2.2.2 hR, hy.2.2.2.1, hts _ hy.1⟩ ⟨g_pc_ok, fun U hU hW => ⟨rfl, by rw [hU], by rw [hU]; exact hPc, va_K.moved hW.alike hK, hDc.weaken (fun _ _ _ _ => trivial), g_nf_warm hW hN⟩⟩ rfl rfl hl.1 rfl (lv_room hW) hd hf) hS (fun q _ h => hFc q h) hFc (fun w t H1 locs1 ht hvm hp hB hz hk1 hS1 => ?_)
  obtain ⟨hP1, hD1⟩ := hB
  rw [ht] at hP1
  have k1 := kk w hp H1 locs1 ls hP1 (hD1.weaken (fun _ q _ h => hFc q.1 h)) hS1 hl
  rw [hE] at k1
  exact k1
end GCB
end
section
set_option maxRecDepth 20000 in
theorem cl_X0 : g_cl 0 RX0 TX0 15 tyX0 := ⟨rfl, g_ps _ [354, 356, 358, 360, 362, 364, 366, 368, 370, 372, 374, 376, 378, 380, 382] (by decide +kernel) (by decide +kernel), tyX0_ok, nmX0, g_w 255 (by decide +kernel) rfl, g_w 100 (by decide +kernel) rfl⟩
set_option maxRecDepth 20000 in
theorem cl_X1 : g_cl 1 RX1 TX1 4 tyX1 := ⟨rfl, g_ps _ [275, 277, 279, 281] (by decide +kernel) (by decide +kernel), tyX1_ok, nmX1, g_w 265 (by decide +kernel) rfl, g_w 101 (by decide +kernel) rfl⟩
set_option maxRecDepth 20000 in
theorem cl_X2 : g_cl 2 RX2 TX2 9 tyX2 := ⟨rfl, g_ps _ [205, 207, 209, 211, 213, 215, 217, 219, 221] (by decide +kernel) (by decide +kernel), tyX2_ok, nmX2, g_w 187 (by decide +kernel) rfl, g_w 97 (by decide +kernel) rfl⟩
set_option maxRecDepth 20000 in
theorem cl_X3 : g_cl 3 RX3 TX3 5 tyX3 := ⟨rfl, g_ps _ [235, 237, 239, 241, 243] (by decide +kernel) (by decide +kernel), tyX3_ok, nmX3, g_w 225 (by decide +kernel) rfl, g_w 98 (by decide +kernel) rfl⟩
set_option maxRecDepth 20000 in
theorem cl_X4 : g_cl 4 RX4 TX4 11 tyX4 := ⟨rfl, g_ps _ [310, 312, 314, 316, 318, 320, 322, 324, 326, 328, 330] (by decide +kernel) (by decide +kernel), tyX4_ok, nmX4, g_w 285 (by decide +kernel) rfl, g_w 102 (by decide +kernel) rfl⟩
set_option maxRecDepth 20000 in
theorem cl_X5 : g_cl 5 RX5 TX5 2 tyX5 := ⟨rfl, g_ps _ [181, 183] (by decide +kernel) (by decide +kernel), tyX5_ok, nmX5, g_w 171 (by decide +kernel) rfl, g_w 96 (by decide +kernel) rfl⟩
set_option maxRecDepth 20000 in
theorem cl_X6 : g_cl 6 RX6 TX6 4 tyX6 := ⟨rfl, g_ps _ [439, 441, 443, 445] (by decide +kernel) (by decide +kernel), tyX6_ok, nmX6, g_w 430 (by decide +kernel) rfl, g_w 103 (by decide +kernel) rfl⟩
set_option maxRecDepth 20000 in
theorem cl_X7 : g_cl 7 RX7 TX7 12 tyX7 := ⟨rfl, g_ps _ [404, 406, 408, 410, 412, 414, 416, 418, 420, 422, 424, 426] (by decide +kernel) (by decide +kernel), tyX7_ok, nmX7, g_w 247 (by decide +kernel) rfl, g_w 99 (by decide +kernel) rfl⟩
set_option maxRecDepth 20000 in
theorem cl_X8 : g_cl 8 RX8 TX8 6 tyX8 := ⟨rfl, g_ps _ [142, 144, 146, 148, 150, 152] (by decide +kernel) (by decide +kernel), tyX8_ok, nmX8, g_w 122 (by decide +kernel) rfl, g_w 94 (by decide +kernel) rfl⟩
set_option maxRecDepth 20000 in
theorem cl_X9 : g_cl 9 RX9 TX9 2 tyX9 := ⟨rfl, g_ps _ [165, 167] (by decide +kernel) (by decide +kernel), tyX9_ok, nmX9, g_w 157 (by decide +kernel) rfl, g_w 95 (by decide +kernel) rfl⟩
set_option maxRecDepth 20000 in
theorem cl_X10 : g_cl 10 RX10 TX10 13 tyX10 := ⟨rfl, g_ps _ [461, 463, 465, 467, 469, 471, 473, 475, 477, 479, 481, 483, 485] (by decide +kernel) (by decide +kernel), tyX10_ok, nmX10, g_w 114 (by decide +kernel) rfl, g_w 93 (by decide +kernel) rfl⟩
set_option maxRecDepth 20000 in
theorem cl_X11 : g_cl 11 RX11 TX11 91 tyX11 := ⟨rfl, g_ps _ [1235, 1237, 1239, 1241, 1243, 1245, 1247, 1249, 1251, 1253, 1255, 1257, 1259, 1261, 1263, 1265, 1267, 1269, 1271, 1273, 1275, 1277, 1279, 1281, 1283, 1285, 1287, 1289, 1291, 1293, 1295, 1297, 1299, 1301, 1303, 1305, 1307, 1309, 1311, 1313, 1315, 1317, 1319, 1321, 1323, 1325, 1327, 1329, 1331, 1333, 1335, 1337, 1339, 1341, 1343, 1345, 1347, 1349, 1351, 1353, 1355, 1357, 1359, 1361, 1363, 1365, 1367, 1369, 1371, 1373, 1375, 1377, 1379, 1381, 1383, 1385, 1387, 1389, 1391, 1393, 1395, 1397, 1399, 1401, 1403, 1405, 1407, 1409, 1411, 1413, 1415] (by decide +kernel) (by decide +kernel), tyX11_ok, nmX11, g_w 1139 (by decide +kernel) rfl, g_w 104 (by decide +kernel) rfl⟩
theorem fl_X8_9 : g_fl RX8 9 RX8 TX8 6 0 (.int) := ⟨by decide, by decide +kernel, rfl, g_w 127 (by decide +kernel) rfl⟩
theorem fl_X8_15 : g_fl RX8 15 RX8 TX8 6 1 (.int) := ⟨by decide, by decide +kernel, rfl, g_w 129 (by decide +kernel) rfl⟩
theorem fl_X8_18 : g_fl RX8 18 RX8 TX8 6 2 (.int) := ⟨by decide, by decide +kernel, rfl, g_w 133 (by decide +kernel) rfl⟩
theorem fl_X8_21 : g_fl RX8 21 RX8 TX8 6 3 (.int) := ⟨by decide, by decide +kernel, rfl, g_w 135 (by decide +kernel) rfl⟩
theorem fl_X8_24 : g_fl RX8 24 RX8 TX8 6 4 (.int) := ⟨by decide, by decide +kernel, rfl, g_w 139 (by decide +kernel) rfl⟩
theorem fl_X8_27 : g_fl RX8 27 RX8 TX8 6 5 (.array .int) := ⟨by decide, by decide +kernel, rfl, g_w 141 (by decide +kernel) rfl⟩
theorem fl_X9_9 : g_fl RX9 9 RX9 TX9 2 0 (.array .int) := ⟨by decide, by decide +kernel, rfl, g_w 162 (by decide +kernel) rfl⟩
theorem fl_X9_15 : g_fl RX9 15 RX9 TX9 2 1 (.int) := ⟨by decide, by decide +kernel, rfl, g_w 163 (by decide +kernel) rfl⟩
theorem fl_X5_9 : g_fl RX5 9 RX5 TX5 2 0 (.array .int) := ⟨by decide, by decide +kernel, rfl, g_w 176 (by decide +kernel) rfl⟩
theorem fl_X5_15 : g_fl RX5 15 RX5 TX5 2 1 (.int) := ⟨by decide, by decide +kernel, rfl, g_w 177 (by decide +kernel) rfl⟩
theorem fl_X2_11 : g_fl RX2 11 RX2 TX2 9 0 (.array .int) := ⟨by decide, by decide +kernel, rfl, g_w 192 (by decide +kernel) rfl⟩
theorem fl_X2_15 : g_fl RX2 15 RX2 TX2 9 1 (.array .int) := ⟨by decide, by decide +kernel, rfl, g_w 193 (by decide +kernel) rfl⟩
theorem fl_X2_18 : g_fl RX2 18 RX2 TX2 9 2 (.int) := ⟨by decide, by decide +kernel, rfl, g_w 194 (by decide +kernel) rfl⟩
theorem fl_X2_22 : g_fl RX2 22 RX2 TX2 9 3 (.array .int) := ⟨by decide, by decide +kernel, rfl, g_w 196 (by decide +kernel) rfl⟩
theorem fl_X2_25 : g_fl RX2 25 RX2 TX2 9 4 (.array .int) := ⟨by decide, by decide +kernel, rfl, g_w 197 (by decide +kernel) rfl⟩
theorem fl_X2_28 : g_fl RX2 28 RX2 TX2 9 5 (.array .int) := ⟨by decide, by decide +kernel, rfl, g_w 198 (by decide +kernel) rfl⟩
theorem fl_X2_31 : g_fl RX2 31 RX2 TX2 9 6 (.int) := ⟨by decide, by decide +kernel, rfl, g_w 199 (by decide +kernel) rfl⟩
theorem fl_X2_34 : g_fl RX2 34 RX2 TX2 9 7 (.array .int) := ⟨by decide, by decide +kernel, rfl, g_w 202 (by decide +kernel) rfl⟩
theorem fl_X2_37 : g_fl RX2 37 RX2 TX2 9 8 (.array .int) := ⟨by decide, by decide +kernel, rfl, g_w 204 (by decide +kernel) rfl⟩
theorem fl_X3_25 : g_fl RX3 25 RX3 TX3 5 0 (.object "ClothPull$Law") := ⟨by decide, by decide +kernel, rfl, g_w 230 (by decide +kernel) rfl⟩
theorem fl_X3_9 : g_fl RX3 9 RX3 TX3 5 1 (.array .int) := ⟨by decide, by decide +kernel, rfl, g_w 231 (by decide +kernel) rfl⟩
theorem fl_X3_15 : g_fl RX3 15 RX3 TX3 5 2 (.int) := ⟨by decide, by decide +kernel, rfl, g_w 232 (by decide +kernel) rfl⟩
theorem fl_X3_19 : g_fl RX3 19 RX3 TX3 5 3 (.int) := ⟨by decide, by decide +kernel, rfl, g_w 233 (by decide +kernel) rfl⟩
theorem fl_X3_22 : g_fl RX3 22 RX3 TX3 5 4 (.int) := ⟨by decide, by decide +kernel, rfl, g_w 234 (by decide +kernel) rfl⟩
theorem fl_X1_9 : g_fl RX1 9 RX1 TX1 4 0 (.boolean) := ⟨by decide, by decide +kernel, rfl, g_w 270 (by decide +kernel) rfl⟩
theorem fl_X1_15 : g_fl RX1 15 RX1 TX1 4 1 (.int) := ⟨by decide, by decide +kernel, rfl, g_w 271 (by decide +kernel) rfl⟩
theorem fl_X1_19 : g_fl RX1 19 RX1 TX1 4 2 (.int) := ⟨by decide, by decide +kernel, rfl, g_w 273 (by decide +kernel) rfl⟩
theorem fl_X1_22 : g_fl RX1 22 RX1 TX1 4 3 (.int) := ⟨by decide, by decide +kernel, rfl, g_w 274 (by decide +kernel) rfl⟩
theorem fl_X4_9 : g_fl RX4 9 RX4 TX4 11 0 (.array .int) := ⟨by decide, by decide +kernel, rfl, g_w 290 (by decide +kernel) rfl⟩
theorem fl_X4_15 : g_fl RX4 15 RX4 TX4 11 1 (.array .int) := ⟨by decide, by decide +kernel, rfl, g_w 292 (by decide +kernel) rfl⟩
theorem fl_X4_18 : g_fl RX4 18 RX4 TX4 11 2 (.array .int) := ⟨by decide, by decide +kernel, rfl, g_w 294 (by decide +kernel) rfl⟩
theorem fl_X4_21 : g_fl RX4 21 RX4 TX4 11 3 (.int) := ⟨by decide, by decide +kernel, rfl, g_w 295 (by decide +kernel) rfl⟩
theorem fl_X4_25 : g_fl RX4 25 RX4 TX4 11 4 (.int) := ⟨by decide, by decide +kernel, rfl, g_w 296 (by decide +kernel) rfl⟩
theorem fl_X4_28 : g_fl RX4 28 RX4 TX4 11 5 (.int) := ⟨by decide, by decide +kernel, rfl, g_w 298 (by decide +kernel) rfl⟩
theorem fl_X4_31 : g_fl RX4 31 RX4 TX4 11 6 (.int) := ⟨by decide, by decide +kernel, rfl, g_w 300 (by decide +kernel) rfl⟩
theorem fl_X4_34 : g_fl RX4 34 RX4 TX4 11 7 (.int) := ⟨by decide, by decide +kernel, rfl, g_w 302 (by decide +kernel) rfl⟩
theorem fl_X4_37 : g_fl RX4 37 RX4 TX4 11 8 (.int) := ⟨by decide, by decide +kernel, rfl, g_w 304 (by decide +kernel) rfl⟩
theorem fl_X4_40 : g_fl RX4 40 RX4 TX4 11 9 (.int) := ⟨by decide, by decide +kernel, rfl, g_w 306 (by decide +kernel) rfl⟩
theorem fl_X4_43 : g_fl RX4 43 RX4 TX4 11 10 (.int) := ⟨by decide, by decide +kernel, rfl, g_w 308 (by decide +kernel) rfl⟩
theorem fl_X0_12 : g_fl RX0 12 RX0 TX0 15 0 (.object "ClothPull$Table") := ⟨by decide, by decide +kernel, rfl, g_w 333 (by decide +kernel) rfl⟩
theorem fl_X0_21 : g_fl RX0 21 RX0 TX0 15 1 (.object "ClothPull$Pull") := ⟨by decide, by decide +kernel, rfl, g_w 335 (by decide +kernel) rfl⟩
theorem fl_X0_28 : g_fl RX0 28 RX0 TX0 15 2 (.object "ClothPull$Hand") := ⟨by decide, by decide +kernel, rfl, g_w 337 (by decide +kernel) rfl⟩
theorem fl_X0_35 : g_fl RX0 35 RX0 TX0 15 3 (.object "ClothPull$Outcome") := ⟨by decide, by decide +kernel, rfl, g_w 340 (by decide +kernel) rfl⟩
theorem fl_X0_71 : g_fl RX0 71 RX0 TX0 15 4 (.object "ClothPull$Law") := ⟨by decide, by decide +kernel, rfl, g_w 343 (by decide +kernel) rfl⟩
theorem fl_X0_39 : g_fl RX0 39 RX0 TX0 15 5 (.array .int) := ⟨by decide, by decide +kernel, rfl, g_w 344 (by decide +kernel) rfl⟩
theorem fl_X0_43 : g_fl RX0 43 RX0 TX0 15 6 (.array .int) := ⟨by decide, by decide +kernel, rfl, g_w 345 (by decide +kernel) rfl⟩
theorem fl_X0_46 : g_fl RX0 46 RX0 TX0 15 7 (.array .int) := ⟨by decide, by decide +kernel, rfl, g_w 346 (by decide +kernel) rfl⟩
theorem fl_X0_49 : g_fl RX0 49 RX0 TX0 15 8 (.array .int) := ⟨by decide, by decide +kernel, rfl, g_w 347 (by decide +kernel) rfl⟩
theorem fl_X0_52 : g_fl RX0 52 RX0 TX0 15 9 (.int) := ⟨by decide, by decide +kernel, rfl, g_w 348 (by decide +kernel) rfl⟩
theorem fl_X0_56 : g_fl RX0 56 RX0 TX0 15 10 (.int) := ⟨by decide, by decide +kernel, rfl, g_w 349 (by decide +kernel) rfl⟩
theorem fl_X0_59 : g_fl RX0 59 RX0 TX0 15 11 (.int) := ⟨by decide, by decide +kernel, rfl, g_w 350 (by decide +kernel) rfl⟩
theorem fl_X0_62 : g_fl RX0 62 RX0 TX0 15 12 (.int) := ⟨by decide, by decide +kernel, rfl, g_w 351 (by decide +kernel) rfl⟩
theorem fl_X0_65 : g_fl RX0 65 RX0 TX0 15 13 (.int) := ⟨by decide, by decide +kernel, rfl, g_w 352 (by decide +kernel) rfl⟩
theorem fl_X0_68 : g_fl RX0 68 RX0 TX0 15 14 (.int) := ⟨by decide, by decide +kernel, rfl, g_w 353 (by decide +kernel) rfl⟩
theorem fl_X7_46 : g_fl RX7 46 RX7 TX7 12 0 (.object "ClothPull$Evening") := ⟨by decide, by decide +kernel, rfl, g_w 385 (by decide +kernel) rfl⟩
theorem fl_X7_53 : g_fl RX7 53 RX7 TX7 12 1 (.object "ClothPull$Table") := ⟨by decide, by decide +kernel, rfl, g_w 387 (by decide +kernel) rfl⟩
theorem fl_X7_58 : g_fl RX7 58 RX7 TX7 12 2 (.object "ClothPull$Pull") := ⟨by decide, by decide +kernel, rfl, g_w 389 (by decide +kernel) rfl⟩
theorem fl_X7_63 : g_fl RX7 63 RX7 TX7 12 3 (.object "ClothPull$Outcome") := ⟨by decide, by decide +kernel, rfl, g_w 390 (by decide +kernel) rfl⟩
theorem fl_X7_9 : g_fl RX7 9 RX7 TX7 12 4 (.int) := ⟨by decide, by decide +kernel, rfl, g_w 391 (by decide +kernel) rfl⟩
theorem fl_X7_15 : g_fl RX7 15 RX7 TX7 12 5 (.int) := ⟨by decide, by decide +kernel, rfl, g_w 393 (by decide +kernel) rfl⟩
theorem fl_X7_18 : g_fl RX7 18 RX7 TX7 12 6 (.int) := ⟨by decide, by decide +kernel, rfl, g_w 395 (by decide +kernel) rfl⟩
theorem fl_X7_21 : g_fl RX7 21 RX7 TX7 12 7 (.int) := ⟨by decide, by decide +kernel, rfl, g_w 397 (by decide +kernel) rfl⟩
theorem fl_X7_24 : g_fl RX7 24 RX7 TX7 12 8 (.int) := ⟨by decide, by decide +kernel, rfl, g_w 399 (by decide +kernel) rfl⟩
theorem fl_X7_27 : g_fl RX7 27 RX7 TX7 12 9 (.array .int) := ⟨by decide, by decide +kernel, rfl, g_w 401 (by decide +kernel) rfl⟩
theorem fl_X7_34 : g_fl RX7 34 RX7 TX7 12 10 (.object "ClothPull$Table") := ⟨by decide, by decide +kernel, rfl, g_w 402 (by decide +kernel) rfl⟩
theorem fl_X7_38 : g_fl RX7 38 RX7 TX7 12 11 (.int) := ⟨by decide, by decide +kernel, rfl, g_w 403 (by decide +kernel) rfl⟩
theorem fl_X6_11 : g_fl RX6 11 RX6 TX6 4 0 (.array .int) := ⟨by decide, by decide +kernel, rfl, g_w 435 (by decide +kernel) rfl⟩
theorem fl_X6_15 : g_fl RX6 15 RX6 TX6 4 1 (.array .int) := ⟨by decide, by decide +kernel, rfl, g_w 436 (by decide +kernel) rfl⟩
theorem fl_X6_18 : g_fl RX6 18 RX6 TX6 4 2 (.array .int) := ⟨by decide, by decide +kernel, rfl, g_w 437 (by decide +kernel) rfl⟩
theorem fl_X6_21 : g_fl RX6 21 RX6 TX6 4 3 (.int) := ⟨by decide, by decide +kernel, rfl, g_w 438 (by decide +kernel) rfl⟩
theorem fl_X10_10 : g_fl RX10 10 RX10 TX10 13 0 (.object "ClothPull$Table") := ⟨by decide, by decide +kernel, rfl, g_w 448 (by decide +kernel) rfl⟩
theorem fl_X10_16 : g_fl RX10 16 RX10 TX10 13 1 (.object "ClothPull$Table") := ⟨by decide, by decide +kernel, rfl, g_w 449 (by decide +kernel) rfl⟩
theorem fl_X10_22 : g_fl RX10 22 RX10 TX10 13 2 (.object "ClothPull$Tape") := ⟨by decide, by decide +kernel, rfl, g_w 450 (by decide +kernel) rfl⟩
theorem fl_X10_29 : g_fl RX10 29 RX10 TX10 13 3 (.object "ClothPull$Pull") := ⟨by decide, by decide +kernel, rfl, g_w 451 (by decide +kernel) rfl⟩
theorem fl_X10_33 : g_fl RX10 33 RX10 TX10 13 4 (.object "ClothPull$Pull") := ⟨by decide, by decide +kernel, rfl, g_w 452 (by decide +kernel) rfl⟩
theorem fl_X10_39 : g_fl RX10 39 RX10 TX10 13 5 (.object "ClothPull$Law") := ⟨by decide, by decide +kernel, rfl, g_w 453 (by decide +kernel) rfl⟩
theorem fl_X10_43 : g_fl RX10 43 RX10 TX10 13 6 (.object "ClothPull$Law") := ⟨by decide, by decide +kernel, rfl, g_w 454 (by decide +kernel) rfl⟩
theorem fl_X10_51 : g_fl RX10 51 RX10 TX10 13 7 (.object "ClothPull$LawReader") := ⟨by decide, by decide +kernel, rfl, g_w 455 (by decide +kernel) rfl⟩
theorem fl_X10_58 : g_fl RX10 58 RX10 TX10 13 8 (.object "ClothPull$Search") := ⟨by decide, by decide +kernel, rfl, g_w 456 (by decide +kernel) rfl⟩
theorem fl_X10_66 : g_fl RX10 66 RX10 TX10 13 9 (.object "ClothPull$Evening") := ⟨by decide, by decide +kernel, rfl, g_w 457 (by decide +kernel) rfl⟩
theorem fl_X10_70 : g_fl RX10 70 RX10 TX10 13 10 (.object "ClothPull$Row") := ⟨by decide, by decide +kernel, rfl, g_w 458 (by decide +kernel) rfl⟩
theorem fl_X10_74 : g_fl RX10 74 RX10 TX10 13 11 (.boolean) := ⟨by decide, by decide +kernel, rfl, g_w 459 (by decide +kernel) rfl⟩
theorem fl_X10_78 : g_fl RX10 78 RX10 TX10 13 12 (.int) := ⟨by decide, by decide +kernel, rfl, g_w 460 (by decide +kernel) rfl⟩
theorem fl_X11_155 : g_fl RX11 155 RX11 TX11 91 0 (.int) := ⟨by decide, by decide +kernel, rfl, g_w 1144 (by decide +kernel) rfl⟩
theorem fl_X11_159 : g_fl RX11 159 RX11 TX11 91 1 (.int) := ⟨by decide, by decide +kernel, rfl, g_w 1145 (by decide +kernel) rfl⟩
theorem fl_X11_169 : g_fl RX11 169 RX11 TX11 91 2 (.int) := ⟨by decide, by decide +kernel, rfl, g_w 1146 (by decide +kernel) rfl⟩
theorem fl_X11_162 : g_fl RX11 162 RX11 TX11 91 3 (.int) := ⟨by decide, by decide +kernel, rfl, g_w 1147 (by decide +kernel) rfl⟩
theorem fl_X11_172 : g_fl RX11 172 RX11 TX11 91 4 (.int) := ⟨by decide, by decide +kernel, rfl, g_w 1148 (by decide +kernel) rfl⟩
theorem fl_X11_7 : g_fl RX11 7 RX11 TX11 91 5 (.array .int) := ⟨by decide, by decide +kernel, rfl, g_w 1149 (by decide +kernel) rfl⟩
theorem fl_X11_13 : g_fl RX11 13 RX11 TX11 91 6 (.array .int) := ⟨by decide, by decide +kernel, rfl, g_w 1150 (by decide +kernel) rfl⟩
theorem fl_X11_16 : g_fl RX11 16 RX11 TX11 91 7 (.array .int) := ⟨by decide, by decide +kernel, rfl, g_w 1151 (by decide +kernel) rfl⟩
theorem fl_X11_19 : g_fl RX11 19 RX11 TX11 91 8 (.array .int) := ⟨by decide, by decide +kernel, rfl, g_w 1152 (by decide +kernel) rfl⟩
theorem fl_X11_22 : g_fl RX11 22 RX11 TX11 91 9 (.array .int) := ⟨by decide, by decide +kernel, rfl, g_w 1153 (by decide +kernel) rfl⟩
theorem fl_X11_25 : g_fl RX11 25 RX11 TX11 91 10 (.array .int) := ⟨by decide, by decide +kernel, rfl, g_w 1154 (by decide +kernel) rfl⟩
theorem fl_X11_28 : g_fl RX11 28 RX11 TX11 91 11 (.array .int) := ⟨by decide, by decide +kernel, rfl, g_w 1155 (by decide +kernel) rfl⟩
theorem fl_X11_31 : g_fl RX11 31 RX11 TX11 91 12 (.array .int) := ⟨by decide, by decide +kernel, rfl, g_w 1156 (by decide +kernel) rfl⟩
theorem fl_X11_34 : g_fl RX11 34 RX11 TX11 91 13 (.array .byte) := ⟨by decide, by decide +kernel, rfl, g_w 1157 (by decide +kernel) rfl⟩
theorem fl_X11_183 : g_fl RX11 183 RX11 TX11 91 14 (.int) := ⟨by decide, by decide +kernel, rfl, g_w 1158 (by decide +kernel) rfl⟩
theorem fl_X11_190 : g_fl RX11 190 RX11 TX11 91 15 (.int) := ⟨by decide, by decide +kernel, rfl, g_w 1159 (by decide +kernel) rfl⟩
theorem fl_X11_216 : g_fl RX11 216 RX11 TX11 91 16 (.int) := ⟨by decide, by decide +kernel, rfl, g_w 1160 (by decide +kernel) rfl⟩
theorem fl_X11_225 : g_fl RX11 225 RX11 TX11 91 17 (.int) := ⟨by decide, by decide +kernel, rfl, g_w 1161 (by decide +kernel) rfl⟩
theorem fl_X11_193 : g_fl RX11 193 RX11 TX11 91 18 (.int) := ⟨by decide, by decide +kernel, rfl, g_w 1162 (by decide +kernel) rfl⟩
theorem fl_X11_228 : g_fl RX11 228 RX11 TX11 91 19 (.int) := ⟨by decide, by decide +kernel, rfl, g_w 1163 (by decide +kernel) rfl⟩
theorem fl_X11_213 : g_fl RX11 213 RX11 TX11 91 20 (.int) := ⟨by decide, by decide +kernel, rfl, g_w 1164 (by decide +kernel) rfl⟩
theorem fl_X11_207 : g_fl RX11 207 RX11 TX11 91 21 (.int) := ⟨by decide, by decide +kernel, rfl, g_w 1165 (by decide +kernel) rfl⟩
theorem fl_X11_38 : g_fl RX11 38 RX11 TX11 91 22 (.array .int) := ⟨by decide, by decide +kernel, rfl, g_w 1166 (by decide +kernel) rfl⟩
theorem fl_X11_41 : g_fl RX11 41 RX11 TX11 91 23 (.array .int) := ⟨by decide, by decide +kernel, rfl, g_w 1167 (by decide +kernel) rfl⟩
theorem fl_X11_235 : g_fl RX11 235 RX11 TX11 91 24 (.int) := ⟨by decide, by decide +kernel, rfl, g_w 1168 (by decide +kernel) rfl⟩
theorem fl_X11_231 : g_fl RX11 231 RX11 TX11 91 25 (.int) := ⟨by decide, by decide +kernel, rfl, g_w 1169 (by decide +kernel) rfl⟩
theorem fl_X11_238 : g_fl RX11 238 RX11 TX11 91 26 (.int) := ⟨by decide, by decide +kernel, rfl, g_w 1170 (by decide +kernel) rfl⟩
theorem fl_X11_289 : g_fl RX11 289 RX11 TX11 91 27 (.int) := ⟨by decide, by decide +kernel, rfl, g_w 1171 (by decide +kernel) rfl⟩
theorem fl_X11_298 : g_fl RX11 298 RX11 TX11 91 28 (.int) := ⟨by decide, by decide +kernel, rfl, g_w 1172 (by decide +kernel) rfl⟩
theorem fl_X11_44 : g_fl RX11 44 RX11 TX11 91 29 (.array .int) := ⟨by decide, by decide +kernel, rfl, g_w 1173 (by decide +kernel) rfl⟩
theorem fl_X11_47 : g_fl RX11 47 RX11 TX11 91 30 (.array .int) := ⟨by decide, by decide +kernel, rfl, g_w 1174 (by decide +kernel) rfl⟩
theorem fl_X11_50 : g_fl RX11 50 RX11 TX11 91 31 (.array .int) := ⟨by decide, by decide +kernel, rfl, g_w 1175 (by decide +kernel) rfl⟩
theorem fl_X11_53 : g_fl RX11 53 RX11 TX11 91 32 (.array .int) := ⟨by decide, by decide +kernel, rfl, g_w 1176 (by decide +kernel) rfl⟩
theorem fl_X11_56 : g_fl RX11 56 RX11 TX11 91 33 (.array .int) := ⟨by decide, by decide +kernel, rfl, g_w 1177 (by decide +kernel) rfl⟩
theorem fl_X11_59 : g_fl RX11 59 RX11 TX11 91 34 (.array .int) := ⟨by decide, by decide +kernel, rfl, g_w 1178 (by decide +kernel) rfl⟩
theorem fl_X11_62 : g_fl RX11 62 RX11 TX11 91 35 (.array .int) := ⟨by decide, by decide +kernel, rfl, g_w 1179 (by decide +kernel) rfl⟩
theorem fl_X11_65 : g_fl RX11 65 RX11 TX11 91 36 (.array .int) := ⟨by decide, by decide +kernel, rfl, g_w 1180 (by decide +kernel) rfl⟩
theorem fl_X11_68 : g_fl RX11 68 RX11 TX11 91 37 (.array .int) := ⟨by decide, by decide +kernel, rfl, g_w 1181 (by decide +kernel) rfl⟩
theorem fl_X11_71 : g_fl RX11 71 RX11 TX11 91 38 (.array .int) := ⟨by decide, by decide +kernel, rfl, g_w 1182 (by decide +kernel) rfl⟩
theorem fl_X11_74 : g_fl RX11 74 RX11 TX11 91 39 (.array .int) := ⟨by decide, by decide +kernel, rfl, g_w 1183 (by decide +kernel) rfl⟩
theorem fl_X11_77 : g_fl RX11 77 RX11 TX11 91 40 (.array .int) := ⟨by decide, by decide +kernel, rfl, g_w 1184 (by decide +kernel) rfl⟩
theorem fl_X11_80 : g_fl RX11 80 RX11 TX11 91 41 (.array .int) := ⟨by decide, by decide +kernel, rfl, g_w 1185 (by decide +kernel) rfl⟩
theorem fl_X11_312 : g_fl RX11 312 RX11 TX11 91 42 (.int) := ⟨by decide, by decide +kernel, rfl, g_w 1186 (by decide +kernel) rfl⟩
theorem fl_X11_315 : g_fl RX11 315 RX11 TX11 91 43 (.int) := ⟨by decide, by decide +kernel, rfl, g_w 1187 (by decide +kernel) rfl⟩
theorem fl_X11_309 : g_fl RX11 309 RX11 TX11 91 44 (.int) := ⟨by decide, by decide +kernel, rfl, g_w 1188 (by decide +kernel) rfl⟩
theorem fl_X11_325 : g_fl RX11 325 RX11 TX11 91 45 (.int) := ⟨by decide, by decide +kernel, rfl, g_w 1189 (by decide +kernel) rfl⟩
theorem fl_X11_328 : g_fl RX11 328 RX11 TX11 91 46 (.int) := ⟨by decide, by decide +kernel, rfl, g_w 1190 (by decide +kernel) rfl⟩
theorem fl_X11_356 : g_fl RX11 356 RX11 TX11 91 47 (.int) := ⟨by decide, by decide +kernel, rfl, g_w 1191 (by decide +kernel) rfl⟩
theorem fl_X11_331 : g_fl RX11 331 RX11 TX11 91 48 (.int) := ⟨by decide, by decide +kernel, rfl, g_w 1192 (by decide +kernel) rfl⟩
theorem fl_X11_322 : g_fl RX11 322 RX11 TX11 91 49 (.int) := ⟨by decide, by decide +kernel, rfl, g_w 1193 (by decide +kernel) rfl⟩
theorem fl_X11_346 : g_fl RX11 346 RX11 TX11 91 50 (.int) := ⟨by decide, by decide +kernel, rfl, g_w 1194 (by decide +kernel) rfl⟩
theorem fl_X11_318 : g_fl RX11 318 RX11 TX11 91 51 (.boolean) := ⟨by decide, by decide +kernel, rfl, g_w 1195 (by decide +kernel) rfl⟩
theorem fl_X11_83 : g_fl RX11 83 RX11 TX11 91 52 (.array .int) := ⟨by decide, by decide +kernel, rfl, g_w 1196 (by decide +kernel) rfl⟩
theorem fl_X11_86 : g_fl RX11 86 RX11 TX11 91 53 (.array .int) := ⟨by decide, by decide +kernel, rfl, g_w 1197 (by decide +kernel) rfl⟩
theorem fl_X11_89 : g_fl RX11 89 RX11 TX11 91 54 (.array .int) := ⟨by decide, by decide +kernel, rfl, g_w 1198 (by decide +kernel) rfl⟩
theorem fl_X11_92 : g_fl RX11 92 RX11 TX11 91 55 (.array .int) := ⟨by decide, by decide +kernel, rfl, g_w 1199 (by decide +kernel) rfl⟩
theorem fl_X11_95 : g_fl RX11 95 RX11 TX11 91 56 (.array .int) := ⟨by decide, by decide +kernel, rfl, g_w 1200 (by decide +kernel) rfl⟩
theorem fl_X11_98 : g_fl RX11 98 RX11 TX11 91 57 (.array .int) := ⟨by decide, by decide +kernel, rfl, g_w 1201 (by decide +kernel) rfl⟩
theorem fl_X11_101 : g_fl RX11 101 RX11 TX11 91 58 (.array .int) := ⟨by decide, by decide +kernel, rfl, g_w 1202 (by decide +kernel) rfl⟩
theorem fl_X11_104 : g_fl RX11 104 RX11 TX11 91 59 (.array .int) := ⟨by decide, by decide +kernel, rfl, g_w 1203 (by decide +kernel) rfl⟩
theorem fl_X11_107 : g_fl RX11 107 RX11 TX11 91 60 (.array .int) := ⟨by decide, by decide +kernel, rfl, g_w 1204 (by decide +kernel) rfl⟩
theorem fl_X11_110 : g_fl RX11 110 RX11 TX11 91 61 (.array .int) := ⟨by decide, by decide +kernel, rfl, g_w 1205 (by decide +kernel) rfl⟩
theorem fl_X11_113 : g_fl RX11 113 RX11 TX11 91 62 (.array .int) := ⟨by decide, by decide +kernel, rfl, g_w 1206 (by decide +kernel) rfl⟩
theorem fl_X11_116 : g_fl RX11 116 RX11 TX11 91 63 (.array .int) := ⟨by decide, by decide +kernel, rfl, g_w 1207 (by decide +kernel) rfl⟩
theorem fl_X11_119 : g_fl RX11 119 RX11 TX11 91 64 (.array .int) := ⟨by decide, by decide +kernel, rfl, g_w 1208 (by decide +kernel) rfl⟩
theorem fl_X11_334 : g_fl RX11 334 RX11 TX11 91 65 (.int) := ⟨by decide, by decide +kernel, rfl, g_w 1209 (by decide +kernel) rfl⟩
theorem fl_X11_337 : g_fl RX11 337 RX11 TX11 91 66 (.int) := ⟨by decide, by decide +kernel, rfl, g_w 1210 (by decide +kernel) rfl⟩
theorem fl_X11_340 : g_fl RX11 340 RX11 TX11 91 67 (.int) := ⟨by decide, by decide +kernel, rfl, g_w 1211 (by decide +kernel) rfl⟩
theorem fl_X11_377 : g_fl RX11 377 RX11 TX11 91 68 (.int) := ⟨by decide, by decide +kernel, rfl, g_w 1212 (by decide +kernel) rfl⟩
theorem fl_X11_362 : g_fl RX11 362 RX11 TX11 91 69 (.int) := ⟨by decide, by decide +kernel, rfl, g_w 1213 (by decide +kernel) rfl⟩
theorem fl_X11_449 : g_fl RX11 449 RX11 TX11 91 70 (.int) := ⟨by decide, by decide +kernel, rfl, g_w 1214 (by decide +kernel) rfl⟩
theorem fl_X11_452 : g_fl RX11 452 RX11 TX11 91 71 (.int) := ⟨by decide, by decide +kernel, rfl, g_w 1215 (by decide +kernel) rfl⟩
theorem fl_X11_455 : g_fl RX11 455 RX11 TX11 91 72 (.int) := ⟨by decide, by decide +kernel, rfl, g_w 1216 (by decide +kernel) rfl⟩
theorem fl_X11_122 : g_fl RX11 122 RX11 TX11 91 73 (.array .int) := ⟨by decide, by decide +kernel, rfl, g_w 1217 (by decide +kernel) rfl⟩
theorem fl_X11_125 : g_fl RX11 125 RX11 TX11 91 74 (.array .int) := ⟨by decide, by decide +kernel, rfl, g_w 1218 (by decide +kernel) rfl⟩
theorem fl_X11_464 : g_fl RX11 464 RX11 TX11 91 75 (.int) := ⟨by decide, by decide +kernel, rfl, g_w 1219 (by decide +kernel) rfl⟩
theorem fl_X11_128 : g_fl RX11 128 RX11 TX11 91 76 (.array .int) := ⟨by decide, by decide +kernel, rfl, g_w 1220 (by decide +kernel) rfl⟩
theorem fl_X11_491 : g_fl RX11 491 RX11 TX11 91 77 (.boolean) := ⟨by decide, by decide +kernel, rfl, g_w 1221 (by decide +kernel) rfl⟩
theorem fl_X11_494 : g_fl RX11 494 RX11 TX11 91 78 (.int) := ⟨by decide, by decide +kernel, rfl, g_w 1222 (by decide +kernel) rfl⟩
theorem fl_X11_497 : g_fl RX11 497 RX11 TX11 91 79 (.int) := ⟨by decide, by decide +kernel, rfl, g_w 1223 (by decide +kernel) rfl⟩
theorem fl_X11_500 : g_fl RX11 500 RX11 TX11 91 80 (.int) := ⟨by decide, by decide +kernel, rfl, g_w 1224 (by decide +kernel) rfl⟩
theorem fl_X11_503 : g_fl RX11 503 RX11 TX11 91 81 (.int) := ⟨by decide, by decide +kernel, rfl, g_w 1225 (by decide +kernel) rfl⟩
theorem fl_X11_506 : g_fl RX11 506 RX11 TX11 91 82 (.int) := ⟨by decide, by decide +kernel, rfl, g_w 1226 (by decide +kernel) rfl⟩
theorem fl_X11_131 : g_fl RX11 131 RX11 TX11 91 83 (.array .int) := ⟨by decide, by decide +kernel, rfl, g_w 1227 (by decide +kernel) rfl⟩
theorem fl_X11_134 : g_fl RX11 134 RX11 TX11 91 84 (.array .int) := ⟨by decide, by decide +kernel, rfl, g_w 1228 (by decide +kernel) rfl⟩
theorem fl_X11_137 : g_fl RX11 137 RX11 TX11 91 85 (.array .int) := ⟨by decide, by decide +kernel, rfl, g_w 1229 (by decide +kernel) rfl⟩
theorem fl_X11_140 : g_fl RX11 140 RX11 TX11 91 86 (.array .int) := ⟨by decide, by decide +kernel, rfl, g_w 1230 (by decide +kernel) rfl⟩
theorem fl_X11_143 : g_fl RX11 143 RX11 TX11 91 87 (.array .int) := ⟨by decide, by decide +kernel, rfl, g_w 1231 (by decide +kernel) rfl⟩
theorem fl_X11_146 : g_fl RX11 146 RX11 TX11 91 88 (.array .int) := ⟨by decide, by decide +kernel, rfl, g_w 1232 (by decide +kernel) rfl⟩
theorem fl_X11_149 : g_fl RX11 149 RX11 TX11 91 89 (.array .int) := ⟨by decide, by decide +kernel, rfl, g_w 1233 (by decide +kernel) rfl⟩
theorem fl_X11_152 : g_fl RX11 152 RX11 TX11 91 90 (.array .int) := ⟨by decide, by decide +kernel, rfl, g_w 1234 (by decide +kernel) rfl⟩
theorem fn_X10_86 : g_fn RX10 86 RX8 TX8 6 0 (.int) := ⟨by decide, by decide +kernel, rfl, ⟨_, List.mem_of_getElem? (i := 128) (by decide +kernel : lw_tbl[128]? = some (Cond.fieldLinkNest RX10 86 RX8 "length" "I" "ClothPull"))⟩⟩
theorem fn_X10_89 : g_fn RX10 89 RX8 TX8 6 1 (.int) := ⟨by decide, by decide +kernel, rfl, ⟨_, List.mem_of_getElem? (i := 130) (by decide +kernel : lw_tbl[130]? = some (Cond.fieldLinkNest RX10 89 RX8 "end" "I" "ClothPull"))⟩⟩
theorem fn_X4_53 : g_fn RX4 53 RX8 TX8 6 1 (.int) := ⟨by decide, by decide +kernel, rfl, ⟨_, List.mem_of_getElem? (i := 131) (by decide +kernel : lw_tbl[131]? = some (Cond.fieldLinkNest RX4 53 RX8 "end" "I" "ClothPull"))⟩⟩
theorem fn_X7_82 : g_fn RX7 82 RX8 TX8 6 1 (.int) := ⟨by decide, by decide +kernel, rfl, ⟨_, List.mem_of_getElem? (i := 132) (by decide +kernel : lw_tbl[132]? = some (Cond.fieldLinkNest RX7 82 RX8 "end" "I" "ClothPull"))⟩⟩
theorem fn_X10_92 : g_fn RX10 92 RX8 TX8 6 2 (.int) := ⟨by decide, by decide +kernel, rfl, ⟨_, List.mem_of_getElem? (i := 134) (by decide +kernel : lw_tbl[134]? = some (Cond.fieldLinkNest RX10 92 RX8 "folds" "I" "ClothPull"))⟩⟩
theorem fn_X10_95 : g_fn RX10 95 RX8 TX8 6 3 (.int) := ⟨by decide, by decide +kernel, rfl, ⟨_, List.mem_of_getElem? (i := 136) (by decide +kernel : lw_tbl[136]? = some (Cond.fieldLinkNest RX10 95 RX8 "told" "I" "ClothPull"))⟩⟩
theorem fn_X4_52 : g_fn RX4 52 RX8 TX8 6 3 (.int) := ⟨by decide, by decide +kernel, rfl, ⟨_, List.mem_of_getElem? (i := 137) (by decide +kernel : lw_tbl[137]? = some (Cond.fieldLinkNest RX4 52 RX8 "told" "I" "ClothPull"))⟩⟩
theorem fn_X7_135 : g_fn RX7 135 RX8 TX8 6 3 (.int) := ⟨by decide, by decide +kernel, rfl, ⟨_, List.mem_of_getElem? (i := 138) (by decide +kernel : lw_tbl[138]? = some (Cond.fieldLinkNest RX7 135 RX8 "told" "I" "ClothPull"))⟩⟩
theorem fn_X10_168 : g_fn RX10 168 RX8 TX8 6 4 (.int) := ⟨by decide, by decide +kernel, rfl, ⟨_, List.mem_of_getElem? (i := 140) (by decide +kernel : lw_tbl[140]? = some (Cond.fieldLinkNest RX10 168 RX8 "x" "I" "ClothPull"))⟩⟩
theorem fn_X10_110 : g_fn RX10 110 RX9 TX9 2 1 (.int) := ⟨by decide, by decide +kernel, rfl, ⟨_, List.mem_of_getElem? (i := 164) (by decide +kernel : lw_tbl[164]? = some (Cond.fieldLinkNest RX10 110 RX9 "size" "I" "ClothPull"))⟩⟩
theorem fn_X0_78 : g_fn RX0 78 RX5 TX5 2 1 (.int) := ⟨by decide, by decide +kernel, rfl, ⟨_, List.mem_of_getElem? (i := 178) (by decide +kernel : lw_tbl[178]? = some (Cond.fieldLinkNest RX0 78 RX5 "ticks" "I" "ClothPull"))⟩⟩
theorem fn_X7_111 : g_fn RX7 111 RX5 TX5 2 1 (.int) := ⟨by decide, by decide +kernel, rfl, ⟨_, List.mem_of_getElem? (i := 179) (by decide +kernel : lw_tbl[179]? = some (Cond.fieldLinkNest RX7 111 RX5 "ticks" "I" "ClothPull"))⟩⟩
theorem fn_X10_124 : g_fn RX10 124 RX5 TX5 2 1 (.int) := ⟨by decide, by decide +kernel, rfl, ⟨_, List.mem_of_getElem? (i := 180) (by decide +kernel : lw_tbl[180]? = some (Cond.fieldLinkNest RX10 124 RX5 "ticks" "I" "ClothPull"))⟩⟩
theorem fn_X3_60 : g_fn RX3 60 RX2 TX2 9 2 (.int) := ⟨by decide, by decide +kernel, rfl, ⟨_, List.mem_of_getElem? (i := 195) (by decide +kernel : lw_tbl[195]? = some (Cond.fieldLinkNest RX3 60 RX2 "size" "I" "ClothPull"))⟩⟩
theorem fn_X3_57 : g_fn RX3 57 RX2 TX2 9 6 (.int) := ⟨by decide, by decide +kernel, rfl, ⟨_, List.mem_of_getElem? (i := 200) (by decide +kernel : lw_tbl[200]? = some (Cond.fieldLinkNest RX3 57 RX2 "clauses" "I" "ClothPull"))⟩⟩
theorem fn_X10_130 : g_fn RX10 130 RX2 TX2 9 6 (.int) := ⟨by decide, by decide +kernel, rfl, ⟨_, List.mem_of_getElem? (i := 201) (by decide +kernel : lw_tbl[201]? = some (Cond.fieldLinkNest RX10 130 RX2 "clauses" "I" "ClothPull"))⟩⟩
theorem fn_X0_146 : g_fn RX0 146 RX2 TX2 9 7 (.array .int) := ⟨by decide, by decide +kernel, rfl, ⟨_, List.mem_of_getElem? (i := 203) (by decide +kernel : lw_tbl[203]? = some (Cond.fieldLinkNest RX0 146 RX2 "told" "[I" "ClothPull"))⟩⟩
theorem fn_X10_163 : g_fn RX10 163 RX1 TX1 4 1 (.int) := ⟨by decide, by decide +kernel, rfl, ⟨_, List.mem_of_getElem? (i := 272) (by decide +kernel : lw_tbl[272]? = some (Cond.fieldLinkNest RX10 163 RX1 "x" "I" "ClothPull"))⟩⟩
theorem fn_X0_159 : g_fn RX0 159 RX4 TX4 11 0 (.array .int) := ⟨by decide, by decide +kernel, rfl, ⟨_, List.mem_of_getElem? (i := 291) (by decide +kernel : lw_tbl[291]? = some (Cond.fieldLinkNest RX0 159 RX4 "place" "[I" "ClothPull"))⟩⟩
theorem fn_X0_174 : g_fn RX0 174 RX4 TX4 11 1 (.array .int) := ⟨by decide, by decide +kernel, rfl, ⟨_, List.mem_of_getElem? (i := 293) (by decide +kernel : lw_tbl[293]? = some (Cond.fieldLinkNest RX0 174 RX4 "filled" "[I" "ClothPull"))⟩⟩
theorem fn_X0_180 : g_fn RX0 180 RX4 TX4 11 4 (.int) := ⟨by decide, by decide +kernel, rfl, ⟨_, List.mem_of_getElem? (i := 297) (by decide +kernel : lw_tbl[297]? = some (Cond.fieldLinkNest RX0 180 RX4 "fallen" "I" "ClothPull"))⟩⟩
theorem fn_X0_186 : g_fn RX0 186 RX4 TX4 11 5 (.int) := ⟨by decide, by decide +kernel, rfl, ⟨_, List.mem_of_getElem? (i := 299) (by decide +kernel : lw_tbl[299]? = some (Cond.fieldLinkNest RX0 186 RX4 "over" "I" "ClothPull"))⟩⟩
theorem fn_X0_183 : g_fn RX0 183 RX4 TX4 11 6 (.int) := ⟨by decide, by decide +kernel, rfl, ⟨_, List.mem_of_getElem? (i := 301) (by decide +kernel : lw_tbl[301]? = some (Cond.fieldLinkNest RX0 183 RX4 "rocked" "I" "ClothPull"))⟩⟩
theorem fn_X0_132 : g_fn RX0 132 RX4 TX4 11 7 (.int) := ⟨by decide, by decide +kernel, rfl, ⟨_, List.mem_of_getElem? (i := 303) (by decide +kernel : lw_tbl[303]? = some (Cond.fieldLinkNest RX0 132 RX4 "touched" "I" "ClothPull"))⟩⟩
theorem fn_X0_177 : g_fn RX0 177 RX4 TX4 11 8 (.int) := ⟨by decide, by decide +kernel, rfl, ⟨_, List.mem_of_getElem? (i := 305) (by decide +kernel : lw_tbl[305]? = some (Cond.fieldLinkNest RX0 177 RX4 "spilt" "I" "ClothPull"))⟩⟩
theorem fn_X0_89 : g_fn RX0 89 RX4 TX4 11 9 (.int) := ⟨by decide, by decide +kernel, rfl, ⟨_, List.mem_of_getElem? (i := 307) (by decide +kernel : lw_tbl[307]? = some (Cond.fieldLinkNest RX0 89 RX4 "ticks" "I" "ClothPull"))⟩⟩
theorem fn_X0_156 : g_fn RX0 156 RX4 TX4 11 10 (.int) := ⟨by decide, by decide +kernel, rfl, ⟨_, List.mem_of_getElem? (i := 309) (by decide +kernel : lw_tbl[309]? = some (Cond.fieldLinkNest RX0 156 RX4 "end" "I" "ClothPull"))⟩⟩
theorem fn_X7_50 : g_fn RX7 50 RX0 TX0 15 0 (.object "ClothPull$Table") := ⟨by decide, by decide +kernel, rfl, ⟨_, List.mem_of_getElem? (i := 334) (by decide +kernel : lw_tbl[334]? = some (Cond.fieldLinkNest RX7 50 RX0 "table" "LClothPull$Table;" "ClothPull"))⟩⟩
theorem fn_X7_54 : g_fn RX7 54 RX0 TX0 15 1 (.object "ClothPull$Pull") := ⟨by decide, by decide +kernel, rfl, ⟨_, List.mem_of_getElem? (i := 336) (by decide +kernel : lw_tbl[336]? = some (Cond.fieldLinkNest RX7 54 RX0 "pull" "LClothPull$Pull;" "ClothPull"))⟩⟩
theorem fn_X7_73 : g_fn RX7 73 RX0 TX0 15 2 (.object "ClothPull$Hand") := ⟨by decide, by decide +kernel, rfl, ⟨_, List.mem_of_getElem? (i := 338) (by decide +kernel : lw_tbl[338]? = some (Cond.fieldLinkNest RX7 73 RX0 "hand" "LClothPull$Hand;" "ClothPull"))⟩⟩
theorem fn_X10_159 : g_fn RX10 159 RX0 TX0 15 2 (.object "ClothPull$Hand") := ⟨by decide, by decide +kernel, rfl, ⟨_, List.mem_of_getElem? (i := 339) (by decide +kernel : lw_tbl[339]? = some (Cond.fieldLinkNest RX10 159 RX0 "hand" "LClothPull$Hand;" "ClothPull"))⟩⟩
theorem fn_X7_59 : g_fn RX7 59 RX0 TX0 15 3 (.object "ClothPull$Outcome") := ⟨by decide, by decide +kernel, rfl, ⟨_, List.mem_of_getElem? (i := 341) (by decide +kernel : lw_tbl[341]? = some (Cond.fieldLinkNest RX7 59 RX0 "out" "LClothPull$Outcome;" "ClothPull"))⟩⟩
theorem fn_X10_136 : g_fn RX10 136 RX0 TX0 15 3 (.object "ClothPull$Outcome") := ⟨by decide, by decide +kernel, rfl, ⟨_, List.mem_of_getElem? (i := 342) (by decide +kernel : lw_tbl[342]? = some (Cond.fieldLinkNest RX10 136 RX0 "out" "LClothPull$Outcome;" "ClothPull"))⟩⟩
theorem fn_X10_62 : g_fn RX10 62 RX7 TX7 12 0 (.object "ClothPull$Evening") := ⟨by decide, by decide +kernel, rfl, ⟨_, List.mem_of_getElem? (i := 386) (by decide +kernel : lw_tbl[386]? = some (Cond.fieldLinkNest RX10 62 RX7 "evening" "LClothPull$Evening;" "ClothPull"))⟩⟩
theorem fn_X10_202 : g_fn RX10 202 RX7 TX7 12 1 (.object "ClothPull$Table") := ⟨by decide, by decide +kernel, rfl, ⟨_, List.mem_of_getElem? (i := 388) (by decide +kernel : lw_tbl[388]? = some (Cond.fieldLinkNest RX10 202 RX7 "table" "LClothPull$Table;" "ClothPull"))⟩⟩
theorem fn_X10_206 : g_fn RX10 206 RX7 TX7 12 4 (.int) := ⟨by decide, by decide +kernel, rfl, ⟨_, List.mem_of_getElem? (i := 392) (by decide +kernel : lw_tbl[392]? = some (Cond.fieldLinkNest RX10 206 RX7 "standing" "I" "ClothPull"))⟩⟩
theorem fn_X10_193 : g_fn RX10 193 RX7 TX7 12 5 (.int) := ⟨by decide, by decide +kernel, rfl, ⟨_, List.mem_of_getElem? (i := 394) (by decide +kernel : lw_tbl[394]? = some (Cond.fieldLinkNest RX10 193 RX7 "inches" "I" "ClothPull"))⟩⟩
theorem fn_X10_233 : g_fn RX10 233 RX7 TX7 12 6 (.int) := ⟨by decide, by decide +kernel, rfl, ⟨_, List.mem_of_getElem? (i := 396) (by decide +kernel : lw_tbl[396]? = some (Cond.fieldLinkNest RX10 233 RX7 "first" "I" "ClothPull"))⟩⟩
theorem fn_X10_236 : g_fn RX10 236 RX7 TX7 12 7 (.int) := ⟨by decide, by decide +kernel, rfl, ⟨_, List.mem_of_getElem? (i := 398) (by decide +kernel : lw_tbl[398]? = some (Cond.fieldLinkNest RX10 236 RX7 "second" "I" "ClothPull"))⟩⟩
theorem fn_X10_230 : g_fn RX10 230 RX7 TX7 12 8 (.int) := ⟨by decide, by decide +kernel, rfl, ⟨_, List.mem_of_getElem? (i := 400) (by decide +kernel : lw_tbl[400]? = some (Cond.fieldLinkNest RX10 230 RX7 "fits" "I" "ClothPull"))⟩⟩
theorem ml_L_9 : Cond.methodLink RL 9 yX10_init ∈ gT := g_w 115 (by decide +kernel) rfl
theorem ml_X10_1 : Cond.methodLink RX10 1 Lib.objectInit ∈ gT := g_w 118 (by decide +kernel) rfl
theorem ml_X8_3 : Cond.methodLink RX8 3 Lib.objectInit ∈ gT := g_w 126 (by decide +kernel) rfl
theorem ml_X9_3 : Cond.methodLink RX9 3 Lib.objectInit ∈ gT := g_w 161 (by decide +kernel) rfl
theorem ml_X5_3 : Cond.methodLink RX5 3 Lib.objectInit ∈ gT := g_w 175 (by decide +kernel) rfl
theorem ml_X2_3 : Cond.methodLink RX2 3 Lib.objectInit ∈ gT := g_w 191 (by decide +kernel) rfl
theorem ml_X10_48 : Cond.methodLink RX10 48 yX3_init ∈ gT := g_w 226 (by decide +kernel) rfl
theorem ml_X3_3 : Cond.methodLink RX3 3 Lib.objectInit ∈ gT := g_w 229 (by decide +kernel) rfl
theorem ml_X10_57 : Cond.methodLink RX10 57 yX7_init ∈ gT := g_w 248 (by decide +kernel) rfl
theorem ml_X7_3 : Cond.methodLink RX7 3 Lib.objectInit ∈ gT := g_w 251 (by decide +kernel) rfl
theorem ml_X7_43 : Cond.methodLink RX7 43 yX0_init ∈ gT := g_w 256 (by decide +kernel) rfl
theorem ml_X0_3 : Cond.methodLink RX0 3 Lib.objectInit ∈ gT := g_w 259 (by decide +kernel) rfl
theorem ml_X1_3 : Cond.methodLink RX1 3 Lib.objectInit ∈ gT := g_w 269 (by decide +kernel) rfl
theorem ml_X4_3 : Cond.methodLink RX4 3 Lib.objectInit ∈ gT := g_w 289 (by decide +kernel) rfl
theorem ml_X6_3 : Cond.methodLink RX6 3 Lib.objectInit ∈ gT := g_w 434 (by decide +kernel) rfl
theorem ml_L_13 : Cond.methodLink RL 13 yX10_table ∈ gT := g_w 488 (by decide +kernel) rfl
theorem ml_X10_82 : Cond.methodLink RX10 82 yX10_within ∈ gT := g_w 492 (by decide +kernel) rfl
theorem ml_L_18 : Cond.methodLink RL 18 yX10_cloth ∈ gT := g_w 495 (by decide +kernel) rfl
theorem ml_L_23 : Cond.methodLink RL 23 yX10_thing ∈ gT := g_w 499 (by decide +kernel) rfl
theorem ml_X10_98 : Cond.methodLink RX10 98 yX8_change ∈ gT := g_w 503 (by decide +kernel) rfl
theorem ml_L_28 : Cond.methodLink RL 28 yX10_more ∈ gT := g_w 508 (by decide +kernel) rfl
theorem ml_X10_102 : Cond.methodLink RX10 102 yX8_has ∈ gT := g_w 512 (by decide +kernel) rfl
theorem ml_L_33 : Cond.methodLink RL 33 yX10_away ∈ gT := g_w 516 (by decide +kernel) rfl
theorem ml_X10_106 : Cond.methodLink RX10 106 yX8_take ∈ gT := g_w 520 (by decide +kernel) rfl
theorem ml_L_37 : Cond.methodLink RL 37 yX10_feed ∈ gT := g_w 524 (by decide +kernel) rfl
theorem ml_X10_113 : Cond.methodLink RX10 113 yX9_add ∈ gT := g_w 528 (by decide +kernel) rfl
theorem ml_L_42 : Cond.methodLink RL 42 yX10_pull ∈ gT := g_w 532 (by decide +kernel) rfl
theorem ml_X10_116 : Cond.methodLink RX10 116 yX5_read ∈ gT := g_w 536 (by decide +kernel) rfl
theorem ml_X5_32 : Cond.methodLink RX5 32 yX5_fault ∈ gT := g_w 540 (by decide +kernel) rfl
theorem ml_X5_36 : Cond.methodLink RX5 36 yX5_digit ∈ gT := g_w 543 (by decide +kernel) rfl
theorem ml_X5_40 : Cond.methodLink RX5 40 yX9_at ∈ gT := g_w 546 (by decide +kernel) rfl
theorem ml_X5_25 : Cond.methodLink RX5 25 yX5_add ∈ gT := g_w 552 (by decide +kernel) rfl
theorem ml_X10_120 : Cond.methodLink RX10 120 yX5_copy ∈ gT := g_w 556 (by decide +kernel) rfl
theorem ml_X5_19 : Cond.methodLink RX5 19 arraycopyName ∈ gT := g_w 560 (by decide +kernel) rfl
theorem ml_L_47 : Cond.methodLink RL 47 yX10_law ∈ gT := g_w 563 (by decide +kernel) rfl
theorem ml_X10_127 : Cond.methodLink RX10 127 yX3_read ∈ gT := g_w 567 (by decide +kernel) rfl
theorem ml_X3_29 : Cond.methodLink RX3 29 yX9_at ∈ gT := g_w 571 (by decide +kernel) rfl
theorem ml_X3_34 : Cond.methodLink RX3 34 yX2_clear ∈ gT := g_w 572 (by decide +kernel) rfl
theorem ml_X3_39 : Cond.methodLink RX3 39 yX3_clause ∈ gT := g_w 576 (by decide +kernel) rfl
theorem ml_X3_42 : Cond.methodLink RX3 42 yX3_sign ∈ gT := g_w 580 (by decide +kernel) rfl
theorem ml_X3_46 : Cond.methodLink RX3 46 yX3_fail ∈ gT := g_w 671 (by decide +kernel) rfl
theorem ml_X3_63 : Cond.methodLink RX3 63 yX3_sum ∈ gT := g_w 675 (by decide +kernel) rfl
theorem ml_X3_96 : Cond.methodLink RX3 96 yX3_product ∈ gT := g_w 679 (by decide +kernel) rfl
theorem ml_X3_99 : Cond.methodLink RX3 99 yX3_factor ∈ gT := g_w 683 (by decide +kernel) rfl
theorem ml_X3_89 : Cond.methodLink RX3 89 yX3_opens ∈ gT := g_w 687 (by decide +kernel) rfl
theorem ml_X3_70 : Cond.methodLink RX3 70 yX3_pass ∈ gT := g_w 691 (by decide +kernel) rfl
theorem ml_X3_106 : Cond.methodLink RX3 106 yX3_number ∈ gT := g_w 696 (by decide +kernel) rfl
theorem ml_X3_66 : Cond.methodLink RX3 66 yX2_emit ∈ gT := g_w 700 (by decide +kernel) rfl
theorem ml_X3_73 : Cond.methodLink RX3 73 yX3_parts ∈ gT := g_w 705 (by decide +kernel) rfl
theorem ml_X3_80 : Cond.methodLink RX3 80 yX3_pieces ∈ gT := g_w 709 (by decide +kernel) rfl
theorem ml_X3_86 : Cond.methodLink RX3 86 yX3_piece ∈ gT := g_w 713 (by decide +kernel) rfl
theorem ml_X3_93 : Cond.methodLink RX3 93 yX3_comparison ∈ gT := g_w 717 (by decide +kernel) rfl
theorem ml_X3_83 : Cond.methodLink RX3 83 yX2_landHere ∈ gT := g_w 721 (by decide +kernel) rfl
theorem ml_X3_76 : Cond.methodLink RX3 76 yX2_addClause ∈ gT := g_w 725 (by decide +kernel) rfl
theorem ml_X10_128 : Cond.methodLink RX10 128 yX2_copy ∈ gT := g_w 729 (by decide +kernel) rfl
theorem ml_X2_40 : Cond.methodLink RX2 40 arraycopyName ∈ gT := g_w 733 (by decide +kernel) rfl
theorem ml_L_51 : Cond.methodLink RL 51 yX10_tried ∈ gT := g_w 735 (by decide +kernel) rfl
theorem ml_X10_133 : Cond.methodLink RX10 133 yX10_tryDrawn ∈ gT := g_w 739 (by decide +kernel) rfl
theorem ml_X10_148 : Cond.methodLink RX10 148 yX7_lay ∈ gT := g_w 743 (by decide +kernel) rfl
theorem ml_X7_64 : Cond.methodLink RX7 64 yX8_copy ∈ gT := g_w 747 (by decide +kernel) rfl
theorem ml_X8_39 : Cond.methodLink RX8 39 arraycopyName ∈ gT := g_w 751 (by decide +kernel) rfl
theorem ml_X7_68 : Cond.methodLink RX7 68 yX5_copy ∈ gT := g_w 752 (by decide +kernel) rfl
theorem ml_X7_77 : Cond.methodLink RX7 77 yX1_holdStill ∈ gT := g_w 753 (by decide +kernel) rfl
theorem ml_X10_272 : Cond.methodLink RX10 272 yX1_drawFrom ∈ gT := g_w 757 (by decide +kernel) rfl
theorem ml_X10_152 : Cond.methodLink RX10 152 yX0_run ∈ gT := g_w 761 (by decide +kernel) rfl
theorem ml_X0_75 : Cond.methodLink RX0 75 yX0_begin ∈ gT := g_w 765 (by decide +kernel) rfl
theorem ml_X0_90 : Cond.methodLink RX0 90 yX4_begin ∈ gT := g_w 769 (by decide +kernel) rfl
theorem ml_X4_46 : Cond.methodLink RX4 46 yX8_side ∈ gT := g_w 773 (by decide +kernel) rfl
theorem ml_X0_93 : Cond.methodLink RX0 93 yX8_hasFold ∈ gT := g_w 777 (by decide +kernel) rfl
theorem ml_X8_35 : Cond.methodLink RX8 35 yX8_foldPlace ∈ gT := g_w 781 (by decide +kernel) rfl
theorem ml_X0_97 : Cond.methodLink RX0 97 yX8_foldPlace ∈ gT := g_w 785 (by decide +kernel) rfl
theorem ml_X0_81 : Cond.methodLink RX0 81 yX0_moves ∈ gT := g_w 786 (by decide +kernel) rfl
theorem ml_X0_101 : Cond.methodLink RX0 101 yX4_standingSet ∈ gT := g_w 790 (by decide +kernel) rfl
theorem ml_X0_85 : Cond.methodLink RX0 85 yX0_tick ∈ gT := g_w 794 (by decide +kernel) rfl
theorem ml_X0_105 : Cond.methodLink RX0 105 yX0_pullCloth ∈ gT := g_w 798 (by decide +kernel) rfl
theorem ml_X0_135 : Cond.methodLink RX0 135 yX5_paceAt ∈ gT := g_w 802 (by decide +kernel) rfl
theorem ml_X0_138 : Cond.methodLink RX0 138 yX1_draw ∈ gT := g_w 806 (by decide +kernel) rfl
theorem ml_X0_141 : Cond.methodLink RX0 141 yX2_forget ∈ gT := g_w 811 (by decide +kernel) rfl
theorem ml_X0_149 : Cond.methodLink RX0 149 yX2_ask ∈ gT := g_w 815 (by decide +kernel) rfl
theorem ml_X2_50 : Cond.methodLink RX2 50 yX2_reckon ∈ gT := g_w 820 (by decide +kernel) rfl
theorem ml_X2_69 : Cond.methodLink RX2 69 yX2_toldOf ∈ gT := g_w 824 (by decide +kernel) rfl
theorem ml_X2_66 : Cond.methodLink RX2 66 Lib.Math.max.name ∈ gT := g_w 828 (by decide +kernel) rfl
theorem ml_X2_72 : Cond.methodLink RX2 72 yX2_join ∈ gT := g_w 829 (by decide +kernel) rfl
theorem ml_X2_60 : Cond.methodLink RX2 60 Lib.Math.min.name ∈ gT := g_w 836 (by decide +kernel) rfl
theorem ml_X0_152 : Cond.methodLink RX0 152 Lib.Math.max.name ∈ gT := g_w 837 (by decide +kernel) rfl
theorem ml_X0_108 : Cond.methodLink RX0 108 yX0_feelCloth ∈ gT := g_w 838 (by decide +kernel) rfl
theorem ml_X0_162 : Cond.methodLink RX0 162 yX0_foldPassed ∈ gT := g_w 842 (by decide +kernel) rfl
theorem ml_X0_165 : Cond.methodLink RX0 165 yX0_describe ∈ gT := g_w 846 (by decide +kernel) rfl
theorem ml_X0_171 : Cond.methodLink RX0 171 yX8_side ∈ gT := g_w 850 (by decide +kernel) rfl
theorem ml_X0_168 : Cond.methodLink RX0 168 Lib.Math.min.name ∈ gT := g_w 851 (by decide +kernel) rfl
theorem ml_X0_111 : Cond.methodLink RX0 111 Lib.Math.abs.name ∈ gT := g_w 852 (by decide +kernel) rfl
theorem ml_X0_116 : Cond.methodLink RX0 116 yX0_shake ∈ gT := g_w 855 (by decide +kernel) rfl
theorem ml_X0_120 : Cond.methodLink RX0 120 yX0_slide ∈ gT := g_w 859 (by decide +kernel) rfl
theorem ml_X0_129 : Cond.methodLink RX0 129 yX0_lead ∈ gT := g_w 863 (by decide +kernel) rfl
theorem ml_X0_196 : Cond.methodLink RX0 196 yX4_lead ∈ gT := g_w 867 (by decide +kernel) rfl
theorem ml_X0_123 : Cond.methodLink RX0 123 yX0_lineUp ∈ gT := g_w 872 (by decide +kernel) rfl
theorem ml_X0_189 : Cond.methodLink RX0 189 yX4_placeOf ∈ gT := g_w 876 (by decide +kernel) rfl
theorem ml_X0_126 : Cond.methodLink RX0 126 yX0_touch ∈ gT := g_w 880 (by decide +kernel) rfl
theorem ml_X10_142 : Cond.methodLink RX10 142 yX4_tell ∈ gT := g_w 885 (by decide +kernel) rfl
theorem ml_X4_68 : Cond.methodLink RX4 68 yX4_standing ∈ gT := g_w 889 (by decide +kernel) rfl
theorem ml_X4_58 : Cond.methodLink RX4 58 yX4_standingSet ∈ gT := g_w 893 (by decide +kernel) rfl
theorem ml_X4_62 : Cond.methodLink RX4 62 yJ6_bitCount_0f7a4 ∈ gT := g_w 894 (by decide +kernel) rfl
theorem ml_X4_71 : Cond.methodLink RX4 71 yX4_inches ∈ gT := g_w 900 (by decide +kernel) rfl
theorem ml_X4_74 : Cond.methodLink RX4 74 yX4_tellThing ∈ gT := g_w 904 (by decide +kernel) rfl
theorem ml_X4_77 : Cond.methodLink RX4 77 yX4_isOver ∈ gT := g_w 908 (by decide +kernel) rfl
theorem ml_L_55 : Cond.methodLink RL 55 yX10_still ∈ gT := g_w 912 (by decide +kernel) rfl
theorem ml_L_59 : Cond.methodLink RL 59 yX10_done ∈ gT := g_w 916 (by decide +kernel) rfl
theorem ml_X10_155 : Cond.methodLink RX10 155 yX4_leave ∈ gT := g_w 920 (by decide +kernel) rfl
theorem ml_X4_86 : Cond.methodLink RX4 86 yX8_take ∈ gT := g_w 924 (by decide +kernel) rfl
theorem ml_X4_90 : Cond.methodLink RX4 90 yX8_has ∈ gT := g_w 925 (by decide +kernel) rfl
theorem ml_X4_93 : Cond.methodLink RX4 93 yX8_change ∈ gT := g_w 926 (by decide +kernel) rfl
theorem ml_X10_169 : Cond.methodLink RX10 169 yX4_standing ∈ gT := g_w 927 (by decide +kernel) rfl
theorem ml_L_64 : Cond.methodLink RL 64 yX10_thingIs ∈ gT := g_w 928 (by decide +kernel) rfl
theorem ml_X10_173 : Cond.methodLink RX10 173 yX8_side ∈ gT := g_w 932 (by decide +kernel) rfl
theorem ml_L_69 : Cond.methodLink RL 69 yX10_pace ∈ gT := g_w 933 (by decide +kernel) rfl
theorem ml_X10_177 : Cond.methodLink RX10 177 yX7_leastPace ∈ gT := g_w 937 (by decide +kernel) rfl
theorem ml_X7_85 : Cond.methodLink RX7 85 yX5_even ∈ gT := g_w 941 (by decide +kernel) rfl
theorem ml_X5_29 : Cond.methodLink RX5 29 yX5_addTill ∈ gT := g_w 945 (by decide +kernel) rfl
theorem ml_X7_89 : Cond.methodLink RX7 89 yX0_run ∈ gT := g_w 949 (by decide +kernel) rfl
theorem ml_X7_92 : Cond.methodLink RX7 92 yX4_allStand ∈ gT := g_w 950 (by decide +kernel) rfl
theorem ml_L_73 : Cond.methodLink RL 73 yX10_best ∈ gT := g_w 954 (by decide +kernel) rfl
theorem ml_X10_180 : Cond.methodLink RX10 180 yX7_bestPull ∈ gT := g_w 958 (by decide +kernel) rfl
theorem ml_X7_107 : Cond.methodLink RX7 107 yX8_isAs ∈ gT := g_w 962 (by decide +kernel) rfl
theorem ml_X7_114 : Cond.methodLink RX7 114 yX5_add ∈ gT := g_w 966 (by decide +kernel) rfl
theorem ml_X7_117 : Cond.methodLink RX7 117 yX5_addTill ∈ gT := g_w 967 (by decide +kernel) rfl
theorem ml_X7_120 : Cond.methodLink RX7 120 yX7_improves ∈ gT := g_w 968 (by decide +kernel) rfl
theorem ml_X7_98 : Cond.methodLink RX7 98 yX4_standing ∈ gT := g_w 972 (by decide +kernel) rfl
theorem ml_X7_101 : Cond.methodLink RX7 101 yX4_inches ∈ gT := g_w 973 (by decide +kernel) rfl
theorem ml_X10_183 : Cond.methodLink RX10 183 yX7_bestIs ∈ gT := g_w 974 (by decide +kernel) rfl
theorem ml_L_77 : Cond.methodLink RL 77 yX10_put ∈ gT := g_w 979 (by decide +kernel) rfl
theorem ml_X10_186 : Cond.methodLink RX10 186 yX6_take ∈ gT := g_w 983 (by decide +kernel) rfl
theorem ml_X6_25 : Cond.methodLink RX6 25 yJ6_bitCount_0f7a4 ∈ gT := g_w 987 (by decide +kernel) rfl
theorem ml_X10_189 : Cond.methodLink RX10 189 yX7_bestRow ∈ gT := g_w 989 (by decide +kernel) rfl
theorem ml_X7_123 : Cond.methodLink RX7 123 yX6_change ∈ gT := g_w 993 (by decide +kernel) rfl
theorem ml_X6_35 : Cond.methodLink RX6 35 yX8_side ∈ gT := g_w 997 (by decide +kernel) rfl
theorem ml_X6_41 : Cond.methodLink RX6 41 yX8_change ∈ gT := g_w 998 (by decide +kernel) rfl
theorem ml_X7_129 : Cond.methodLink RX7 129 yX6_markBest ∈ gT := g_w 999 (by decide +kernel) rfl
theorem ml_X6_45 : Cond.methodLink RX6 45 arraycopyName ∈ gT := g_w 1003 (by decide +kernel) rfl
theorem ml_X7_132 : Cond.methodLink RX7 132 yX6_next ∈ gT := g_w 1004 (by decide +kernel) rfl
theorem ml_X6_51 : Cond.methodLink RX6 51 Lib.Math.min.name ∈ gT := g_w 1008 (by decide +kernel) rfl
theorem ml_X6_56 : Cond.methodLink RX6 56 yX6_swap ∈ gT := g_w 1009 (by decide +kernel) rfl
theorem ml_X10_196 : Cond.methodLink RX10 196 yX6_whose ∈ gT := g_w 1013 (by decide +kernel) rfl
theorem ml_X10_199 : Cond.methodLink RX10 199 yX6_chooseBest ∈ gT := g_w 1017 (by decide +kernel) rfl
theorem ml_X10_203 : Cond.methodLink RX10 203 yX6_change ∈ gT := g_w 1021 (by decide +kernel) rfl
theorem ml_L_81 : Cond.methodLink RL 81 yX10_most ∈ gT := g_w 1022 (by decide +kernel) rfl
theorem ml_X10_208 : Cond.methodLink RX10 208 yX7_largestStanding ∈ gT := g_w 1026 (by decide +kernel) rfl
theorem ml_X7_138 : Cond.methodLink RX7 138 yJ6_bitCount_0f7a4 ∈ gT := g_w 1030 (by decide +kernel) rfl
theorem ml_X10_211 : Cond.methodLink RX10 211 yJ6_bitCount_0f7a4 ∈ gT := g_w 1031 (by decide +kernel) rfl
theorem ml_L_85 : Cond.methodLink RL 85 yX10_worth ∈ gT := g_w 1032 (by decide +kernel) rfl
theorem ml_X10_216 : Cond.methodLink RX10 216 yX8_hasFold ∈ gT := g_w 1036 (by decide +kernel) rfl
theorem ml_X10_220 : Cond.methodLink RX10 220 yX4_inches ∈ gT := g_w 1038 (by decide +kernel) rfl
theorem ml_L_89 : Cond.methodLink RL 89 yX10_wasWet ∈ gT := g_w 1039 (by decide +kernel) rfl
theorem ml_X10_222 : Cond.methodLink RX10 222 yX10_canCompare ∈ gT := g_w 1043 (by decide +kernel) rfl
theorem ml_X10_226 : Cond.methodLink RX10 226 yX7_findWet ∈ gT := g_w 1047 (by decide +kernel) rfl
theorem ml_X7_144 : Cond.methodLink RX7 144 yX8_side ∈ gT := g_w 1051 (by decide +kernel) rfl
theorem ml_X7_148 : Cond.methodLink RX7 148 yX8_has ∈ gT := g_w 1052 (by decide +kernel) rfl
theorem ml_X7_152 : Cond.methodLink RX7 152 yX8_change ∈ gT := g_w 1053 (by decide +kernel) rfl
theorem ml_X7_155 : Cond.methodLink RX7 155 yX7_noteFit ∈ gT := g_w 1054 (by decide +kernel) rfl
theorem ml_X7_159 : Cond.methodLink RX7 159 yX4_isAsTold ∈ gT := g_w 1058 (by decide +kernel) rfl
theorem ml_X4_81 : Cond.methodLink RX4 81 yX9_at ∈ gT := g_w 1062 (by decide +kernel) rfl
theorem ml_L_93 : Cond.methodLink RL 93 yX10_howQuick ∈ gT := g_w 1063 (by decide +kernel) rfl
theorem ml_X10_239 : Cond.methodLink RX10 239 yX7_findPaces ∈ gT := g_w 1067 (by decide +kernel) rfl
theorem ml_L_97 : Cond.methodLink RL 97 yX10_odds ∈ gT := g_w 1071 (by decide +kernel) rfl
theorem ml_X10_242 : Cond.methodLink RX10 242 yX10_hands ∈ gT := g_w 1075 (by decide +kernel) rfl
theorem ml_X10_245 : Cond.methodLink RX10 245 yX7_countHands ∈ gT := g_w 1078 (by decide +kernel) rfl
theorem ml_X7_163 : Cond.methodLink RX7 163 yX1_drawTold ∈ gT := g_w 1082 (by decide +kernel) rfl
theorem ml_X10_249 : Cond.methodLink RX10 249 yX10_commonDivisor ∈ gT := g_w 1086 (by decide +kernel) rfl
theorem ml_L_102 : Cond.methodLink RL 102 yX10_should ∈ gT := g_w 1089 (by decide +kernel) rfl
theorem ml_X10_253 : Cond.methodLink RX10 253 yX7_sumHands ∈ gT := g_w 1094 (by decide +kernel) rfl
theorem ml_X7_166 : Cond.methodLink RX7 166 yX4_loss ∈ gT := g_w 1098 (by decide +kernel) rfl
theorem ml_L_106 : Cond.methodLink RL 106 yX10_practice ∈ gT := g_w 1102 (by decide +kernel) rfl
theorem ml_L_110 : Cond.methodLink RL 110 yX10_seed ∈ gT := g_w 1110 (by decide +kernel) rfl
theorem ml_L_114 : Cond.methodLink RL 114 yX10_keep ∈ gT := g_w 1115 (by decide +kernel) rfl
theorem ml_X10_264 : Cond.methodLink RX10 264 yX8_copy ∈ gT := g_w 1119 (by decide +kernel) rfl
theorem ml_L_118 : Cond.methodLink RL 118 yX10_undo ∈ gT := g_w 1120 (by decide +kernel) rfl
theorem ml_L_123 : Cond.methodLink RL 123 yX10_check ∈ gT := g_w 1124 (by decide +kernel) rfl
theorem ml_X10_266 : Cond.methodLink RX10 266 yX9_number ∈ gT := g_w 1128 (by decide +kernel) rfl
theorem ml_X9_23 : Cond.methodLink RX9 23 yX9_at ∈ gT := g_w 1132 (by decide +kernel) rfl
theorem ml_L_127 : Cond.methodLink RL 127 yX10_count ∈ gT := g_w 1133 (by decide +kernel) rfl
theorem ml_X10_269 : Cond.methodLink RX10 269 yX5_paceAt ∈ gT := g_w 1137 (by decide +kernel) rfl
theorem ml_L_12 : Cond.methodLink RL 12 yX11_init ∈ gT := g_w 1140 (by decide +kernel) rfl
theorem ml_X11_1 : Cond.methodLink RX11 1 Lib.objectInit ∈ gT := g_w 1143 (by decide +kernel) rfl
theorem ml_L_17 : Cond.methodLink RL 17 yX11_table ∈ gT := g_w 1418 (by decide +kernel) rfl
theorem ml_X11_165 : Cond.methodLink RX11 165 yX11_in ∈ gT := g_w 1422 (by decide +kernel) rfl
theorem ml_L_22 : Cond.methodLink RL 22 yX11_cloth ∈ gT := g_w 1425 (by decide +kernel) rfl
theorem ml_L_27 : Cond.methodLink RL 27 yX11_thing ∈ gT := g_w 1429 (by decide +kernel) rfl
theorem ml_L_32 : Cond.methodLink RL 32 yX11_more ∈ gT := g_w 1433 (by decide +kernel) rfl
theorem ml_X11_179 : Cond.methodLink RX11 179 yX11_isTold ∈ gT := g_w 1437 (by decide +kernel) rfl
theorem ml_X11_175 : Cond.methodLink RX11 175 yX11_has ∈ gT := g_w 1441 (by decide +kernel) rfl
theorem ml_L_36 : Cond.methodLink RL 36 yX11_away ∈ gT := g_w 1444 (by decide +kernel) rfl
theorem ml_L_41 : Cond.methodLink RL 41 yX11_feed ∈ gT := g_w 1448 (by decide +kernel) rfl
theorem ml_X11_186 : Cond.methodLink RX11 186 yX11_types ∈ gT := g_w 1452 (by decide +kernel) rfl
theorem ml_L_46 : Cond.methodLink RL 46 yX11_pull ∈ gT := g_w 1456 (by decide +kernel) rfl
theorem ml_X11_219 : Cond.methodLink RX11 219 yX11_readsStep ∈ gT := g_w 1460 (by decide +kernel) rfl
theorem ml_X11_196 : Cond.methodLink RX11 196 yX11_isDigit ∈ gT := g_w 1464 (by decide +kernel) rfl
theorem ml_X11_200 : Cond.methodLink RX11 200 yX11_here ∈ gT := g_w 1468 (by decide +kernel) rfl
theorem ml_X11_204 : Cond.methodLink RX11 204 yX11_wrongAt ∈ gT := g_w 1472 (by decide +kernel) rfl
theorem ml_X11_210 : Cond.methodLink RX11 210 yX11_readsPace ∈ gT := g_w 1476 (by decide +kernel) rfl
theorem ml_X11_222 : Cond.methodLink RX11 222 yX11_takes ∈ gT := g_w 1480 (by decide +kernel) rfl
theorem ml_L_50 : Cond.methodLink RL 50 yX11_law ∈ gT := g_w 1484 (by decide +kernel) rfl
theorem ml_X11_295 : Cond.methodLink RX11 295 yX11_readsClause ∈ gT := g_w 1488 (by decide +kernel) rfl
theorem ml_X11_286 : Cond.methodLink RX11 286 yX11_isClause ∈ gT := g_w 1492 (by decide +kernel) rfl
theorem ml_X11_271 : Cond.methodLink RX11 271 yX11_readsSum ∈ gT := g_w 1495 (by decide +kernel) rfl
theorem ml_X11_258 : Cond.methodLink RX11 258 yX11_readsFactor ∈ gT := g_w 1499 (by decide +kernel) rfl
theorem ml_X11_248 : Cond.methodLink RX11 248 yX11_opens ∈ gT := g_w 1503 (by decide +kernel) rfl
theorem ml_X11_251 : Cond.methodLink RX11 251 yX11_readsNumber ∈ gT := g_w 1508 (by decide +kernel) rfl
theorem ml_X11_244 : Cond.methodLink RX11 244 yX11_notes ∈ gT := g_w 1512 (by decide +kernel) rfl
theorem ml_X11_254 : Cond.methodLink RX11 254 yX11_factOf ∈ gT := g_w 1516 (by decide +kernel) rfl
theorem ml_X11_261 : Cond.methodLink RX11 261 yX11_sumSign ∈ gT := g_w 1519 (by decide +kernel) rfl
theorem ml_X11_264 : Cond.methodLink RX11 264 yX11_closesSums ∈ gT := g_w 1522 (by decide +kernel) rfl
theorem ml_X11_241 : Cond.methodLink RX11 241 yX11_waitTop ∈ gT := g_w 1526 (by decide +kernel) rfl
theorem ml_X11_268 : Cond.methodLink RX11 268 yX11_hasOpenSum ∈ gT := g_w 1530 (by decide +kernel) rfl
theorem ml_X11_292 : Cond.methodLink RX11 292 yX11_readsCondition ∈ gT := g_w 1534 (by decide +kernel) rfl
theorem ml_X11_277 : Cond.methodLink RX11 277 yX11_readsCompared ∈ gT := g_w 1538 (by decide +kernel) rfl
theorem ml_X11_274 : Cond.methodLink RX11 274 yX11_endsPiece ∈ gT := g_w 1542 (by decide +kernel) rfl
theorem ml_X11_280 : Cond.methodLink RX11 280 yX11_lands ∈ gT := g_w 1546 (by decide +kernel) rfl
theorem ml_X11_283 : Cond.methodLink RX11 283 yX11_jumps ∈ gT := g_w 1550 (by decide +kernel) rfl
theorem ml_L_54 : Cond.methodLink RL 54 yX11_tried ∈ gT := g_w 1554 (by decide +kernel) rfl
theorem ml_X11_431 : Cond.methodLink RX11 431 yX11_isAsked ∈ gT := g_w 1558 (by decide +kernel) rfl
theorem ml_X11_434 : Cond.methodLink RX11 434 yX11_runsDrawn ∈ gT := g_w 1562 (by decide +kernel) rfl
theorem ml_X11_422 : Cond.methodLink RX11 422 yX11_laysPull ∈ gT := g_w 1566 (by decide +kernel) rfl
theorem ml_X11_425 : Cond.methodLink RX11 425 yX11_laysThings ∈ gT := g_w 1570 (by decide +kernel) rfl
theorem ml_X11_428 : Cond.methodLink RX11 428 yX11_runs ∈ gT := g_w 1574 (by decide +kernel) rfl
theorem ml_X11_398 : Cond.methodLink RX11 398 yX11_begins ∈ gT := g_w 1578 (by decide +kernel) rfl
theorem ml_X11_401 : Cond.methodLink RX11 401 yX11_someMove ∈ gT := g_w 1582 (by decide +kernel) rfl
theorem ml_X11_343 : Cond.methodLink RX11 343 yX11_stands ∈ gT := g_w 1586 (by decide +kernel) rfl
theorem ml_X11_404 : Cond.methodLink RX11 404 yX11_ticks ∈ gT := g_w 1590 (by decide +kernel) rfl
theorem ml_X11_350 : Cond.methodLink RX11 350 yX11_paceNow ∈ gT := g_w 1594 (by decide +kernel) rfl
theorem ml_X11_380 : Cond.methodLink RX11 380 yX11_slipsNow ∈ gT := g_w 1598 (by decide +kernel) rfl
theorem ml_X11_353 : Cond.methodLink RX11 353 yX11_byLaw ∈ gT := g_w 1603 (by decide +kernel) rfl
theorem ml_X11_305 : Cond.methodLink RX11 305 yX11_comesTo ∈ gT := g_w 1607 (by decide +kernel) rfl
theorem ml_X11_301 : Cond.methodLink RX11 301 yX11_reckon ∈ gT := g_w 1611 (by decide +kernel) rfl
theorem ml_X11_371 : Cond.methodLink RX11 371 yX11_max ∈ gT := g_w 1614 (by decide +kernel) rfl
theorem ml_X11_383 : Cond.methodLink RX11 383 yX11_hurries ∈ gT := g_w 1617 (by decide +kernel) rfl
theorem ml_X11_359 : Cond.methodLink RX11 359 yX11_feels ∈ gT := g_w 1621 (by decide +kernel) rfl
theorem ml_X11_365 : Cond.methodLink RX11 365 yX11_min ∈ gT := g_w 1625 (by decide +kernel) rfl
theorem ml_X11_368 : Cond.methodLink RX11 368 yX11_foldPasses ∈ gT := g_w 1628 (by decide +kernel) rfl
theorem ml_X11_374 : Cond.methodLink RX11 374 yX11_size ∈ gT := g_w 1632 (by decide +kernel) rfl
theorem ml_X11_386 : Cond.methodLink RX11 386 yX11_goes ∈ gT := g_w 1635 (by decide +kernel) rfl
theorem ml_X11_389 : Cond.methodLink RX11 389 yX11_laysOrder ∈ gT := g_w 1639 (by decide +kernel) rfl
theorem ml_X11_392 : Cond.methodLink RX11 392 yX11_meet ∈ gT := g_w 1643 (by decide +kernel) rfl
theorem ml_X11_395 : Cond.methodLink RX11 395 yX11_counts ∈ gT := g_w 1647 (by decide +kernel) rfl
theorem ml_X11_437 : Cond.methodLink RX11 437 yX11_told ∈ gT := g_w 1651 (by decide +kernel) rfl
theorem ml_X11_407 : Cond.methodLink RX11 407 yX11_standing ∈ gT := g_w 1655 (by decide +kernel) rfl
theorem ml_X11_410 : Cond.methodLink RX11 410 yX11_bits ∈ gT := g_w 1659 (by decide +kernel) rfl
theorem ml_X11_413 : Cond.methodLink RX11 413 yX11_inchesAll ∈ gT := g_w 1662 (by decide +kernel) rfl
theorem ml_X11_416 : Cond.methodLink RX11 416 yX11_stateBits ∈ gT := g_w 1666 (by decide +kernel) rfl
theorem ml_X11_419 : Cond.methodLink RX11 419 yX11_endsAt ∈ gT := g_w 1670 (by decide +kernel) rfl
theorem ml_L_58 : Cond.methodLink RL 58 yX11_still ∈ gT := g_w 1674 (by decide +kernel) rfl
theorem ml_X11_440 : Cond.methodLink RX11 440 yX11_runsStill ∈ gT := g_w 1678 (by decide +kernel) rfl
theorem ml_L_63 : Cond.methodLink RL 63 yX11_done ∈ gT := g_w 1682 (by decide +kernel) rfl
theorem ml_L_68 : Cond.methodLink RL 68 yX11_thingIs ∈ gT := g_w 1686 (by decide +kernel) rfl
theorem ml_L_72 : Cond.methodLink RL 72 yX11_pace ∈ gT := g_w 1690 (by decide +kernel) rfl
theorem ml_X11_446 : Cond.methodLink RX11 446 yX11_runsEven ∈ gT := g_w 1694 (by decide +kernel) rfl
theorem ml_X11_443 : Cond.methodLink RX11 443 yX11_laysPaces ∈ gT := g_w 1698 (by decide +kernel) rfl
theorem ml_L_76 : Cond.methodLink RL 76 yX11_best ∈ gT := g_w 1702 (by decide +kernel) rfl
theorem ml_X11_458 : Cond.methodLink RX11 458 yX11_forgetsBest ∈ gT := g_w 1706 (by decide +kernel) rfl
theorem ml_X11_461 : Cond.methodLink RX11 461 yX11_better ∈ gT := g_w 1710 (by decide +kernel) rfl
theorem ml_L_80 : Cond.methodLink RL 80 yX11_put ∈ gT := g_w 1714 (by decide +kernel) rfl
theorem ml_X11_467 : Cond.methodLink RX11 467 yX11_readsRow ∈ gT := g_w 1718 (by decide +kernel) rfl
theorem ml_L_84 : Cond.methodLink RL 84 yX11_most ∈ gT := g_w 1722 (by decide +kernel) rfl
theorem ml_L_88 : Cond.methodLink RL 88 yX11_worth ∈ gT := g_w 1726 (by decide +kernel) rfl
theorem ml_L_92 : Cond.methodLink RL 92 yX11_wasWet ∈ gT := g_w 1731 (by decide +kernel) rfl
theorem ml_X11_471 : Cond.methodLink RX11 471 yX11_takesPlaces ∈ gT := g_w 1735 (by decide +kernel) rfl
theorem ml_X11_474 : Cond.methodLink RX11 474 yX11_fits ∈ gT := g_w 1739 (by decide +kernel) rfl
theorem ml_L_96 : Cond.methodLink RL 96 yX11_howQuick ∈ gT := g_w 1743 (by decide +kernel) rfl
theorem ml_L_101 : Cond.methodLink RL 101 yX11_odds ∈ gT := g_w 1747 (by decide +kernel) rfl
theorem ml_X11_477 : Cond.methodLink RX11 477 yX11_rowsOf ∈ gT := g_w 1751 (by decide +kernel) rfl
theorem ml_X11_480 : Cond.methodLink RX11 480 yX11_runsBy ∈ gT := g_w 1755 (by decide +kernel) rfl
theorem ml_X11_483 : Cond.methodLink RX11 483 yX11_gcd ∈ gT := g_w 1759 (by decide +kernel) rfl
theorem ml_L_105 : Cond.methodLink RL 105 yX11_should ∈ gT := g_w 1762 (by decide +kernel) rfl
theorem ml_L_109 : Cond.methodLink RL 109 yX11_practice ∈ gT := g_w 1767 (by decide +kernel) rfl
theorem ml_L_113 : Cond.methodLink RL 113 yX11_seed ∈ gT := g_w 1773 (by decide +kernel) rfl
theorem ml_L_117 : Cond.methodLink RL 117 yX11_keep ∈ gT := g_w 1778 (by decide +kernel) rfl
theorem ml_X11_509 : Cond.methodLink RX11 509 yX11_copies ∈ gT := g_w 1782 (by decide +kernel) rfl
theorem ml_L_122 : Cond.methodLink RL 122 yX11_undo ∈ gT := g_w 1785 (by decide +kernel) rfl
theorem ml_L_126 : Cond.methodLink RL 126 yX11_check ∈ gT := g_w 1789 (by decide +kernel) rfl
theorem ml_X11_513 : Cond.methodLink RX11 513 yX11_tapeNumber ∈ gT := g_w 1793 (by decide +kernel) rfl
theorem ml_L_130 : Cond.methodLink RL 130 yX11_count ∈ gT := g_w 1797 (by decide +kernel) rfl
theorem mn_X10_9 : Cond.methodLinkNest RX10 9 yX8_init "ClothPull" ∈ lw_tbl := List.mem_of_getElem? (i := 123) (by decide +kernel)
theorem mn_X10_21 : Cond.methodLinkNest RX10 21 yX9_init "ClothPull" ∈ lw_tbl := List.mem_of_getElem? (i := 158) (by decide +kernel)
theorem mn_X10_28 : Cond.methodLinkNest RX10 28 yX5_init "ClothPull" ∈ lw_tbl := List.mem_of_getElem? (i := 172) (by decide +kernel)
theorem mn_X10_38 : Cond.methodLinkNest RX10 38 yX2_init "ClothPull" ∈ lw_tbl := List.mem_of_getElem? (i := 188) (by decide +kernel)
theorem mn_X7_33 : Cond.methodLinkNest RX7 33 yX8_init "ClothPull" ∈ lw_tbl := List.mem_of_getElem? (i := 253) (by decide +kernel)
theorem mn_X0_11 : Cond.methodLinkNest RX0 11 yX8_init "ClothPull" ∈ lw_tbl := List.mem_of_getElem? (i := 261) (by decide +kernel)
theorem mn_X0_20 : Cond.methodLinkNest RX0 20 yX5_init "ClothPull" ∈ lw_tbl := List.mem_of_getElem? (i := 263) (by decide +kernel)
theorem mn_X0_27 : Cond.methodLinkNest RX0 27 yX1_init "ClothPull" ∈ lw_tbl := List.mem_of_getElem? (i := 266) (by decide +kernel)
theorem mn_X0_34 : Cond.methodLinkNest RX0 34 yX4_init "ClothPull" ∈ lw_tbl := List.mem_of_getElem? (i := 286) (by decide +kernel)
theorem mn_X10_69 : Cond.methodLinkNest RX10 69 yX6_init "ClothPull" ∈ lw_tbl := List.mem_of_getElem? (i := 431) (by decide +kernel)
theorem mn_X8_31 : Cond.methodLinkNest RX8 31 yX10_within "ClothPull" ∈ lw_tbl := List.mem_of_getElem? (i := 507) (by decide +kernel)
theorem mn_X9_19 : Cond.methodLinkNest RX9 19 yX10_within "ClothPull" ∈ lw_tbl := List.mem_of_getElem? (i := 550) (by decide +kernel)
theorem mn_X5_46 : Cond.methodLinkNest RX5 46 yX10_within "ClothPull" ∈ lw_tbl := List.mem_of_getElem? (i := 551) (by decide +kernel)
theorem mn_X3_102 : Cond.methodLinkNest RX3 102 yX10_within "ClothPull" ∈ lw_tbl := List.mem_of_getElem? (i := 695) (by decide +kernel)
theorem mn_X2_46 : Cond.methodLinkNest RX2 46 yX10_within "ClothPull" ∈ lw_tbl := List.mem_of_getElem? (i := 819) (by decide +kernel)
theorem mn_X4_54 : Cond.methodLinkNest RX4 54 yX10_within "ClothPull" ∈ lw_tbl := List.mem_of_getElem? (i := 871) (by decide +kernel)
theorem mn_X0_192 : Cond.methodLinkNest RX0 192 yX10_within "ClothPull" ∈ lw_tbl := List.mem_of_getElem? (i := 884) (by decide +kernel)
theorem mn_X7_103 : Cond.methodLinkNest RX7 103 yX10_within "ClothPull" ∈ lw_tbl := List.mem_of_getElem? (i := 978) (by decide +kernel)
theorem mn_X6_31 : Cond.methodLinkNest RX6 31 yX10_within "ClothPull" ∈ lw_tbl := List.mem_of_getElem? (i := 988) (by decide +kernel)
theorem kc_X1_25 : Cond.constant RX1 25 (65535) ∈ gT := g_w 810 (by decide +kernel) rfl
theorem kc_J6_265 : Cond.constant RJ6 265 (1431655765) ∈ gT := g_w 897 (by decide +kernel) rfl
theorem kc_J6_266 : Cond.constant RJ6 266 (858993459) ∈ gT := g_w 898 (by decide +kernel) rfl
theorem kc_J6_267 : Cond.constant RJ6 267 (252645135) ∈ gT := g_w 899 (by decide +kernel) rfl
theorem kc_X10_219 : Cond.constant RX10 219 (-100000) ∈ gT := g_w 1037 (by decide +kernel) rfl
theorem kc_X10_252 : Cond.constant RX10 252 (-1000000000) ∈ gT := g_w 1093 (by decide +kernel) rfl
theorem kc_X10_258 : Cond.constant RX10 258 (1000000) ∈ gT := g_w 1107 (by decide +kernel) rfl
theorem kc_X10_263 : Cond.constant RX10 263 (65535) ∈ gT := g_w 1114 (by decide +kernel) rfl
theorem kc_X11_234 : Cond.constant RX11 234 (1048576) ∈ gT := g_w 1507 (by decide +kernel) rfl
theorem kc_X11_349 : Cond.constant RX11 349 (65536) ∈ gT := g_w 1602 (by decide +kernel) rfl
theorem kc_X11_470 : Cond.constant RX11 470 (-100000) ∈ gT := g_w 1730 (by decide +kernel) rfl
theorem kc_X11_486 : Cond.constant RX11 486 (-1000000000) ∈ gT := g_w 1766 (by decide +kernel) rfl
theorem kc_X11_487 : Cond.constant RX11 487 (100000) ∈ gT := g_w 1771 (by decide +kernel) rfl
theorem kc_X11_490 : Cond.constant RX11 490 (65535) ∈ gT := g_w 1777 (by decide +kernel) rfl
theorem kc_X10_256 : Cond.constantLong RX10 256 (100000) ∈ gT := g_w 1106 (by decide +kernel) rfl
theorem kc_X10_259 : Cond.constantLong RX10 259 (1000000) ∈ gT := g_w 1108 (by decide +kernel) rfl
theorem kc_X10_261 : Cond.constantLong RX10 261 (10) ∈ gT := g_w 1109 (by decide +kernel) rfl
theorem kc_X11_488 : Cond.constantLong RX11 488 (1000000) ∈ gT := g_w 1772 (by decide +kernel) rfl
theorem kl_L_7 : Cond.classLink RL 7 RX10 ∈ gT := g_w 113 (by decide +kernel) rfl
theorem kl_X10_7 : Cond.classLink RX10 7 RX8 ∈ gT := g_w 121 (by decide +kernel) rfl
theorem kl_X10_19 : Cond.classLink RX10 19 RX9 ∈ gT := g_w 156 (by decide +kernel) rfl
theorem kl_X10_26 : Cond.classLink RX10 26 RX5 ∈ gT := g_w 170 (by decide +kernel) rfl
theorem kl_X10_36 : Cond.classLink RX10 36 RX2 ∈ gT := g_w 186 (by decide +kernel) rfl
theorem kl_X10_46 : Cond.classLink RX10 46 RX3 ∈ gT := g_w 224 (by decide +kernel) rfl
theorem kl_X10_55 : Cond.classLink RX10 55 RX7 ∈ gT := g_w 246 (by decide +kernel) rfl
theorem kl_X7_31 : Cond.classLink RX7 31 RX8 ∈ gT := g_w 252 (by decide +kernel) rfl
theorem kl_X7_41 : Cond.classLink RX7 41 RX0 ∈ gT := g_w 254 (by decide +kernel) rfl
theorem kl_X0_9 : Cond.classLink RX0 9 RX8 ∈ gT := g_w 260 (by decide +kernel) rfl
theorem kl_X0_18 : Cond.classLink RX0 18 RX5 ∈ gT := g_w 262 (by decide +kernel) rfl
theorem kl_X0_25 : Cond.classLink RX0 25 RX1 ∈ gT := g_w 264 (by decide +kernel) rfl
theorem kl_X0_32 : Cond.classLink RX0 32 RX4 ∈ gT := g_w 284 (by decide +kernel) rfl
theorem kl_X10_67 : Cond.classLink RX10 67 RX6 ∈ gT := g_w 429 (by decide +kernel) rfl
theorem kl_L_10 : Cond.classLink RL 10 RX11 ∈ gT := g_w 1138 (by decide +kernel) rfl
theorem ka_int : Cond.arrayClass .int ∈ gT := g_w 155 (by decide +kernel) rfl
theorem ka_byte : Cond.arrayClass .byte ∈ gT := g_w 734 (by decide +kernel) rfl
theorem ko_1 : Cond.instanceMethod Lib.objectInit ∈ gT := g_w 119 (by decide +kernel) rfl
theorem ko_2 : Cond.code Lib.objectInit ⟨#[0xb1]⟩ 1 none ∈ gT := g_w 120 (by decide +kernel) rfl
theorem km_max : Cond.static Lib.Math.max.name ∈ gT ∧ Cond.code Lib.Math.max.name Lib.Math.max.code 2 (some .int) ∈ gT := ⟨g_w 614 (by decide +kernel) rfl, g_w 615 (by decide +kernel) rfl⟩
theorem km_min : Cond.static Lib.Math.min.name ∈ gT ∧ Cond.code Lib.Math.min.name Lib.Math.min.code 2 (some .int) ∈ gT := ⟨g_w 617 (by decide +kernel) rfl, g_w 618 (by decide +kernel) rfl⟩
theorem km_abs : Cond.static Lib.Math.abs.name ∈ gT ∧ Cond.code Lib.Math.abs.name Lib.Math.abs.code 1 (some .int) ∈ gT := ⟨g_w 853 (by decide +kernel) rfl, g_w 854 (by decide +kernel) rfl⟩
theorem km_ini : Cond.initialized "java/lang/Math" ∈ gT := g_w 108 (by decide +kernel) rfl
theorem ks_copy : Cond.native arraycopyName ∈ gT ∧ Cond.static arraycopyName ∈ gT ∧ Cond.initialized "java/lang/System" ∈ gT := ⟨g_w 562 (by decide +kernel) rfl, g_w 561 (by decide +kernel) rfl, g_w 105 (by decide +kernel) rfl⟩
theorem yI_X0_init : g_yI yX0_init cX0_init 2 1 := ⟨g_w 257 (by decide +kernel) rfl, g_w 100 (by decide +kernel) rfl, g_w 258 (by decide +kernel) rfl, rfl, by decide +kernel, by decide +kernel, by decide +kernel⟩
theorem yV_X0_run : g_yV yX0_run cX0_run 2 none 0 := ⟨g_w 762 (by decide +kernel) rfl, g_w 763 (by decide +kernel) rfl, g_w 100 (by decide +kernel) rfl, g_w 764 (by decide +kernel) rfl, by decide +kernel, by decide +kernel, by decide +kernel⟩
theorem yV_X0_begin : g_yV yX0_begin cX0_begin 2 none 0 := ⟨g_w 767 (by decide +kernel) rfl, g_w 14 (by decide +kernel) rfl, g_w 100 (by decide +kernel) rfl, g_w 768 (by decide +kernel) rfl, by decide +kernel, by decide +kernel, by decide +kernel⟩
theorem yV_X0_moves : g_yV yX0_moves cX0_moves 3 (some .boolean) 0 := ⟨g_w 788 (by decide +kernel) rfl, g_w 15 (by decide +kernel) rfl, g_w 100 (by decide +kernel) rfl, g_w 789 (by decide +kernel) rfl, by decide +kernel, by decide +kernel, by decide +kernel⟩
theorem yV_X0_tick : g_yV yX0_tick cX0_tick 5 none 1 := ⟨g_w 796 (by decide +kernel) rfl, g_w 16 (by decide +kernel) rfl, g_w 100 (by decide +kernel) rfl, g_w 797 (by decide +kernel) rfl, by decide +kernel, by decide +kernel, by decide +kernel⟩
theorem yV_X0_pullCloth : g_yV yX0_pullCloth cX0_pullCloth 5 none 1 := ⟨g_w 800 (by decide +kernel) rfl, g_w 17 (by decide +kernel) rfl, g_w 100 (by decide +kernel) rfl, g_w 801 (by decide +kernel) rfl, by decide +kernel, by decide +kernel, by decide +kernel⟩
theorem yV_X0_feelCloth : g_yV yX0_feelCloth cX0_feelCloth 5 none 1 := ⟨g_w 840 (by decide +kernel) rfl, g_w 20 (by decide +kernel) rfl, g_w 100 (by decide +kernel) rfl, g_w 841 (by decide +kernel) rfl, by decide +kernel, by decide +kernel, by decide +kernel⟩
theorem yV_X0_describe : g_yV yX0_describe cX0_describe 2 none 1 := ⟨g_w 848 (by decide +kernel) rfl, g_w 22 (by decide +kernel) rfl, g_w 100 (by decide +kernel) rfl, g_w 849 (by decide +kernel) rfl, by decide +kernel, by decide +kernel, by decide +kernel⟩
theorem yV_X0_foldPassed : g_yV yX0_foldPassed cX0_foldPassed 4 (some .boolean) 1 := ⟨g_w 844 (by decide +kernel) rfl, g_w 21 (by decide +kernel) rfl, g_w 100 (by decide +kernel) rfl, g_w 845 (by decide +kernel) rfl, by decide +kernel, by decide +kernel, by decide +kernel⟩
theorem yV_X0_shake : g_yV yX0_shake cX0_shake 6 none 2 := ⟨g_w 857 (by decide +kernel) rfl, g_w 23 (by decide +kernel) rfl, g_w 100 (by decide +kernel) rfl, g_w 858 (by decide +kernel) rfl, by decide +kernel, by decide +kernel, by decide +kernel⟩
theorem yV_X0_slide : g_yV yX0_slide cX0_slide 2 none 1 := ⟨g_w 861 (by decide +kernel) rfl, g_w 24 (by decide +kernel) rfl, g_w 100 (by decide +kernel) rfl, g_w 862 (by decide +kernel) rfl, by decide +kernel, by decide +kernel, by decide +kernel⟩
theorem yV_X0_lineUp : g_yV yX0_lineUp cX0_lineUp 4 none 0 := ⟨g_w 874 (by decide +kernel) rfl, g_w 26 (by decide +kernel) rfl, g_w 100 (by decide +kernel) rfl, g_w 875 (by decide +kernel) rfl, by decide +kernel, by decide +kernel, by decide +kernel⟩
theorem yV_X0_touch : g_yV yX0_touch cX0_touch 8 none 2 := ⟨g_w 882 (by decide +kernel) rfl, g_w 27 (by decide +kernel) rfl, g_w 100 (by decide +kernel) rfl, g_w 883 (by decide +kernel) rfl, by decide +kernel, by decide +kernel, by decide +kernel⟩
theorem yV_X0_lead : g_yV yX0_lead cX0_lead 3 none 1 := ⟨g_w 865 (by decide +kernel) rfl, g_w 25 (by decide +kernel) rfl, g_w 100 (by decide +kernel) rfl, g_w 866 (by decide +kernel) rfl, by decide +kernel, by decide +kernel, by decide +kernel⟩
theorem yI_X1_init : g_yI yX1_init cX1_init 1 0 := ⟨g_w 267 (by decide +kernel) rfl, g_w 101 (by decide +kernel) rfl, g_w 268 (by decide +kernel) rfl, rfl, by decide +kernel, by decide +kernel, by decide +kernel⟩
theorem yV_X1_holdStill : g_yV yX1_holdStill cX1_holdStill 1 none 0 := ⟨g_w 754 (by decide +kernel) rfl, g_w 755 (by decide +kernel) rfl, g_w 101 (by decide +kernel) rfl, g_w 756 (by decide +kernel) rfl, by decide +kernel, by decide +kernel, by decide +kernel⟩
theorem yV_X1_drawFrom : g_yV yX1_drawFrom cX1_drawFrom 2 none 1 := ⟨g_w 758 (by decide +kernel) rfl, g_w 759 (by decide +kernel) rfl, g_w 101 (by decide +kernel) rfl, g_w 760 (by decide +kernel) rfl, by decide +kernel, by decide +kernel, by decide +kernel⟩
theorem yV_X1_drawTold : g_yV yX1_drawTold cX1_drawTold 3 none 2 := ⟨g_w 1083 (by decide +kernel) rfl, g_w 1084 (by decide +kernel) rfl, g_w 101 (by decide +kernel) rfl, g_w 1085 (by decide +kernel) rfl, by decide +kernel, by decide +kernel, by decide +kernel⟩
theorem yV_X1_draw : g_yV yX1_draw cX1_draw 3 (some .int) 1 := ⟨g_w 807 (by decide +kernel) rfl, g_w 808 (by decide +kernel) rfl, g_w 101 (by decide +kernel) rfl, g_w 809 (by decide +kernel) rfl, by decide +kernel, by decide +kernel, by decide +kernel⟩
theorem yI_X2_init : g_yI yX2_init cX2_init 1 0 := ⟨g_w 189 (by decide +kernel) rfl, g_w 97 (by decide +kernel) rfl, g_w 190 (by decide +kernel) rfl, rfl, by decide +kernel, by decide +kernel, by decide +kernel⟩
theorem yV_X2_clear : g_yV yX2_clear cX2_clear 1 none 0 := ⟨g_w 573 (by decide +kernel) rfl, g_w 574 (by decide +kernel) rfl, g_w 97 (by decide +kernel) rfl, g_w 575 (by decide +kernel) rfl, by decide +kernel, by decide +kernel, by decide +kernel⟩
theorem yV_X2_forget : g_yV yX2_forget cX2_forget 2 none 0 := ⟨g_w 812 (by decide +kernel) rfl, g_w 813 (by decide +kernel) rfl, g_w 97 (by decide +kernel) rfl, g_w 814 (by decide +kernel) rfl, by decide +kernel, by decide +kernel, by decide +kernel⟩
theorem yV_X2_copy : g_yV yX2_copy cX2_copy 2 none 1 := ⟨g_w 730 (by decide +kernel) rfl, g_w 731 (by decide +kernel) rfl, g_w 97 (by decide +kernel) rfl, g_w 732 (by decide +kernel) rfl, by decide +kernel, by decide +kernel, by decide +kernel⟩
theorem yV_X2_emit : g_yV yX2_emit cX2_emit 3 (some .int) 2 := ⟨g_w 701 (by decide +kernel) rfl, g_w 702 (by decide +kernel) rfl, g_w 97 (by decide +kernel) rfl, g_w 703 (by decide +kernel) rfl, by decide +kernel, by decide +kernel, by decide +kernel⟩
theorem yV_X2_landHere : g_yV yX2_landHere cX2_landHere 5 none 1 := ⟨g_w 722 (by decide +kernel) rfl, g_w 723 (by decide +kernel) rfl, g_w 97 (by decide +kernel) rfl, g_w 724 (by decide +kernel) rfl, by decide +kernel, by decide +kernel, by decide +kernel⟩
theorem yV_X2_addClause : g_yV yX2_addClause cX2_addClause 4 none 3 := ⟨g_w 726 (by decide +kernel) rfl, g_w 727 (by decide +kernel) rfl, g_w 97 (by decide +kernel) rfl, g_w 728 (by decide +kernel) rfl, by decide +kernel, by decide +kernel, by decide +kernel⟩
theorem yV_X2_ask : g_yV yX2_ask cX2_ask 4 (some .int) 1 := ⟨g_w 816 (by decide +kernel) rfl, g_w 817 (by decide +kernel) rfl, g_w 97 (by decide +kernel) rfl, g_w 818 (by decide +kernel) rfl, by decide +kernel, by decide +kernel, by decide +kernel⟩
theorem yV_X2_reckon : g_yV yX2_reckon cX2_reckon 7 (some .int) 1 := ⟨g_w 822 (by decide +kernel) rfl, g_w 18 (by decide +kernel) rfl, g_w 97 (by decide +kernel) rfl, g_w 823 (by decide +kernel) rfl, by decide +kernel, by decide +kernel, by decide +kernel⟩
theorem yV_X2_toldOf : g_yV yX2_toldOf cX2_toldOf 2 (some .int) 1 := ⟨g_w 826 (by decide +kernel) rfl, g_w 19 (by decide +kernel) rfl, g_w 97 (by decide +kernel) rfl, g_w 827 (by decide +kernel) rfl, by decide +kernel, by decide +kernel, by decide +kernel⟩
theorem yS_X2_join : g_yS yX2_join cX2_join 3 (some .int) 3 := ⟨g_w 830 (by decide +kernel) rfl, g_w 97 (by decide +kernel) rfl, g_w 831 (by decide +kernel) rfl, by decide +kernel, by decide +kernel, by decide +kernel⟩
theorem yI_X3_init : g_yI yX3_init cX3_init 2 1 := ⟨g_w 227 (by decide +kernel) rfl, g_w 98 (by decide +kernel) rfl, g_w 228 (by decide +kernel) rfl, rfl, by decide +kernel, by decide +kernel, by decide +kernel⟩
theorem yV_X3_read : g_yV yX3_read cX3_read 4 (some .int) 2 := ⟨g_w 568 (by decide +kernel) rfl, g_w 569 (by decide +kernel) rfl, g_w 98 (by decide +kernel) rfl, g_w 570 (by decide +kernel) rfl, by decide +kernel, by decide +kernel, by decide +kernel⟩
theorem yV_X3_sign : g_yV yX3_sign cX3_sign 1 (some .int) 0 := ⟨g_w 582 (by decide +kernel) rfl, g_w 1 (by decide +kernel) rfl, g_w 98 (by decide +kernel) rfl, g_w 583 (by decide +kernel) rfl, by decide +kernel, by decide +kernel, by decide +kernel⟩
theorem yV_X3_fail : g_yV yX3_fail cX3_fail 2 none 1 := ⟨g_w 673 (by decide +kernel) rfl, g_w 2 (by decide +kernel) rfl, g_w 98 (by decide +kernel) rfl, g_w 674 (by decide +kernel) rfl, by decide +kernel, by decide +kernel, by decide +kernel⟩
theorem yV_X3_pass : g_yV yX3_pass cX3_pass 2 none 1 := ⟨g_w 693 (by decide +kernel) rfl, g_w 7 (by decide +kernel) rfl, g_w 98 (by decide +kernel) rfl, g_w 694 (by decide +kernel) rfl, by decide +kernel, by decide +kernel, by decide +kernel⟩
theorem yV_X3_opens : g_yV yX3_opens cX3_opens 2 (some .boolean) 1 := ⟨g_w 689 (by decide +kernel) rfl, g_w 6 (by decide +kernel) rfl, g_w 98 (by decide +kernel) rfl, g_w 690 (by decide +kernel) rfl, by decide +kernel, by decide +kernel, by decide +kernel⟩
theorem yV_X3_clause : g_yV yX3_clause cX3_clause 4 none 0 := ⟨g_w 578 (by decide +kernel) rfl, g_w 0 (by decide +kernel) rfl, g_w 98 (by decide +kernel) rfl, g_w 579 (by decide +kernel) rfl, by decide +kernel, by decide +kernel, by decide +kernel⟩
theorem yV_X3_parts : g_yV yX3_parts cX3_parts 4 none 1 := ⟨g_w 707 (by decide +kernel) rfl, g_w 9 (by decide +kernel) rfl, g_w 98 (by decide +kernel) rfl, g_w 708 (by decide +kernel) rfl, by decide +kernel, by decide +kernel, by decide +kernel⟩
theorem yV_X3_pieces : g_yV yX3_pieces cX3_pieces 4 none 1 := ⟨g_w 711 (by decide +kernel) rfl, g_w 10 (by decide +kernel) rfl, g_w 98 (by decide +kernel) rfl, g_w 712 (by decide +kernel) rfl, by decide +kernel, by decide +kernel, by decide +kernel⟩
theorem yV_X3_piece : g_yV yX3_piece cX3_piece 2 none 1 := ⟨g_w 715 (by decide +kernel) rfl, g_w 11 (by decide +kernel) rfl, g_w 98 (by decide +kernel) rfl, g_w 716 (by decide +kernel) rfl, by decide +kernel, by decide +kernel, by decide +kernel⟩
theorem yV_X3_comparison : g_yV yX3_comparison cX3_comparison 3 none 1 := ⟨g_w 719 (by decide +kernel) rfl, g_w 12 (by decide +kernel) rfl, g_w 98 (by decide +kernel) rfl, g_w 720 (by decide +kernel) rfl, by decide +kernel, by decide +kernel, by decide +kernel⟩
theorem yV_X3_sum : g_yV yX3_sum cX3_sum 4 none 1 := ⟨g_w 677 (by decide +kernel) rfl, g_w 3 (by decide +kernel) rfl, g_w 98 (by decide +kernel) rfl, g_w 678 (by decide +kernel) rfl, by decide +kernel, by decide +kernel, by decide +kernel⟩
theorem yV_X3_product : g_yV yX3_product cX3_product 4 none 1 := ⟨g_w 681 (by decide +kernel) rfl, g_w 4 (by decide +kernel) rfl, g_w 98 (by decide +kernel) rfl, g_w 682 (by decide +kernel) rfl, by decide +kernel, by decide +kernel, by decide +kernel⟩
theorem yV_X3_factor : g_yV yX3_factor cX3_factor 3 none 1 := ⟨g_w 685 (by decide +kernel) rfl, g_w 5 (by decide +kernel) rfl, g_w 98 (by decide +kernel) rfl, g_w 686 (by decide +kernel) rfl, by decide +kernel, by decide +kernel, by decide +kernel⟩
theorem yV_X3_number : g_yV yX3_number cX3_number 3 none 0 := ⟨g_w 698 (by decide +kernel) rfl, g_w 8 (by decide +kernel) rfl, g_w 98 (by decide +kernel) rfl, g_w 699 (by decide +kernel) rfl, by decide +kernel, by decide +kernel, by decide +kernel⟩
theorem yI_X4_init : g_yI yX4_init cX4_init 1 0 := ⟨g_w 287 (by decide +kernel) rfl, g_w 102 (by decide +kernel) rfl, g_w 288 (by decide +kernel) rfl, rfl, by decide +kernel, by decide +kernel, by decide +kernel⟩
theorem yV_X4_begin : g_yV yX4_begin cX4_begin 3 none 1 := ⟨g_w 770 (by decide +kernel) rfl, g_w 771 (by decide +kernel) rfl, g_w 102 (by decide +kernel) rfl, g_w 772 (by decide +kernel) rfl, by decide +kernel, by decide +kernel, by decide +kernel⟩
theorem yV_X4_lead : g_yV yX4_lead cX4_lead 4 none 3 := ⟨g_w 868 (by decide +kernel) rfl, g_w 869 (by decide +kernel) rfl, g_w 102 (by decide +kernel) rfl, g_w 870 (by decide +kernel) rfl, by decide +kernel, by decide +kernel, by decide +kernel⟩
theorem yV_X4_placeOf : g_yV yX4_placeOf cX4_placeOf 2 (some .int) 1 := ⟨g_w 877 (by decide +kernel) rfl, g_w 878 (by decide +kernel) rfl, g_w 102 (by decide +kernel) rfl, g_w 879 (by decide +kernel) rfl, by decide +kernel, by decide +kernel, by decide +kernel⟩
theorem yV_X4_standingSet : g_yV yX4_standingSet cX4_standingSet 1 (some .int) 0 := ⟨g_w 791 (by decide +kernel) rfl, g_w 792 (by decide +kernel) rfl, g_w 102 (by decide +kernel) rfl, g_w 793 (by decide +kernel) rfl, by decide +kernel, by decide +kernel, by decide +kernel⟩
theorem yV_X4_standing : g_yV yX4_standing cX4_standing 1 (some .int) 0 := ⟨g_w 890 (by decide +kernel) rfl, g_w 891 (by decide +kernel) rfl, g_w 102 (by decide +kernel) rfl, g_w 892 (by decide +kernel) rfl, by decide +kernel, by decide +kernel, by decide +kernel⟩
theorem yV_X4_allStand : g_yV yX4_allStand cX4_allStand 1 (some .boolean) 0 := ⟨g_w 951 (by decide +kernel) rfl, g_w 952 (by decide +kernel) rfl, g_w 102 (by decide +kernel) rfl, g_w 953 (by decide +kernel) rfl, by decide +kernel, by decide +kernel, by decide +kernel⟩
theorem yV_X4_inches : g_yV yX4_inches cX4_inches 3 (some .int) 0 := ⟨g_w 901 (by decide +kernel) rfl, g_w 902 (by decide +kernel) rfl, g_w 102 (by decide +kernel) rfl, g_w 903 (by decide +kernel) rfl, by decide +kernel, by decide +kernel, by decide +kernel⟩
theorem yV_X4_tell : g_yV yX4_tell cX4_tell 2 (some .int) 1 := ⟨g_w 886 (by decide +kernel) rfl, g_w 887 (by decide +kernel) rfl, g_w 102 (by decide +kernel) rfl, g_w 888 (by decide +kernel) rfl, by decide +kernel, by decide +kernel, by decide +kernel⟩
theorem yV_X4_tellThing : g_yV yX4_tellThing cX4_tellThing 3 (some .int) 2 := ⟨g_w 906 (by decide +kernel) rfl, g_w 28 (by decide +kernel) rfl, g_w 102 (by decide +kernel) rfl, g_w 907 (by decide +kernel) rfl, by decide +kernel, by decide +kernel, by decide +kernel⟩
theorem yV_X4_isOver : g_yV yX4_isOver cX4_isOver 2 (some .boolean) 1 := ⟨g_w 910 (by decide +kernel) rfl, g_w 29 (by decide +kernel) rfl, g_w 102 (by decide +kernel) rfl, g_w 911 (by decide +kernel) rfl, by decide +kernel, by decide +kernel, by decide +kernel⟩
theorem yV_X4_isAsTold : g_yV yX4_isAsTold cX4_isAsTold 5 (some .boolean) 1 := ⟨g_w 1059 (by decide +kernel) rfl, g_w 1060 (by decide +kernel) rfl, g_w 102 (by decide +kernel) rfl, g_w 1061 (by decide +kernel) rfl, by decide +kernel, by decide +kernel, by decide +kernel⟩
theorem yV_X4_loss : g_yV yX4_loss cX4_loss 4 (some .int) 1 := ⟨g_w 1099 (by decide +kernel) rfl, g_w 1100 (by decide +kernel) rfl, g_w 102 (by decide +kernel) rfl, g_w 1101 (by decide +kernel) rfl, by decide +kernel, by decide +kernel, by decide +kernel⟩
theorem yV_X4_leave : g_yV yX4_leave cX4_leave 3 none 1 := ⟨g_w 921 (by decide +kernel) rfl, g_w 922 (by decide +kernel) rfl, g_w 102 (by decide +kernel) rfl, g_w 923 (by decide +kernel) rfl, by decide +kernel, by decide +kernel, by decide +kernel⟩
theorem yI_X5_init : g_yI yX5_init cX5_init 1 0 := ⟨g_w 173 (by decide +kernel) rfl, g_w 96 (by decide +kernel) rfl, g_w 174 (by decide +kernel) rfl, rfl, by decide +kernel, by decide +kernel, by decide +kernel⟩
theorem yV_X5_paceAt : g_yV yX5_paceAt cX5_paceAt 2 (some .int) 1 := ⟨g_w 803 (by decide +kernel) rfl, g_w 804 (by decide +kernel) rfl, g_w 96 (by decide +kernel) rfl, g_w 805 (by decide +kernel) rfl, by decide +kernel, by decide +kernel, by decide +kernel⟩
theorem yV_X5_copy : g_yV yX5_copy cX5_copy 2 none 1 := ⟨g_w 557 (by decide +kernel) rfl, g_w 558 (by decide +kernel) rfl, g_w 96 (by decide +kernel) rfl, g_w 559 (by decide +kernel) rfl, by decide +kernel, by decide +kernel, by decide +kernel⟩
theorem yV_X5_add : g_yV yX5_add cX5_add 4 none 2 := ⟨g_w 553 (by decide +kernel) rfl, g_w 554 (by decide +kernel) rfl, g_w 96 (by decide +kernel) rfl, g_w 555 (by decide +kernel) rfl, by decide +kernel, by decide +kernel, by decide +kernel⟩
theorem yV_X5_addTill : g_yV yX5_addTill cX5_addTill 3 none 2 := ⟨g_w 946 (by decide +kernel) rfl, g_w 947 (by decide +kernel) rfl, g_w 96 (by decide +kernel) rfl, g_w 948 (by decide +kernel) rfl, by decide +kernel, by decide +kernel, by decide +kernel⟩
theorem yV_X5_even : g_yV yX5_even cX5_even 3 none 2 := ⟨g_w 942 (by decide +kernel) rfl, g_w 943 (by decide +kernel) rfl, g_w 96 (by decide +kernel) rfl, g_w 944 (by decide +kernel) rfl, by decide +kernel, by decide +kernel, by decide +kernel⟩
theorem yV_X5_read : g_yV yX5_read cX5_read 8 (some .int) 2 := ⟨g_w 537 (by decide +kernel) rfl, g_w 538 (by decide +kernel) rfl, g_w 96 (by decide +kernel) rfl, g_w 539 (by decide +kernel) rfl, by decide +kernel, by decide +kernel, by decide +kernel⟩
theorem yS_X5_digit : g_yS yX5_digit cX5_digit 4 (some .int) 3 := ⟨g_w 544 (by decide +kernel) rfl, g_w 96 (by decide +kernel) rfl, g_w 545 (by decide +kernel) rfl, by decide +kernel, by decide +kernel, by decide +kernel⟩
theorem yS_X5_fault : g_yS yX5_fault cX5_fault 2 (some .int) 2 := ⟨g_w 541 (by decide +kernel) rfl, g_w 96 (by decide +kernel) rfl, g_w 542 (by decide +kernel) rfl, by decide +kernel, by decide +kernel, by decide +kernel⟩
theorem yI_X6_init : g_yI yX6_init cX6_init 1 0 := ⟨g_w 432 (by decide +kernel) rfl, g_w 103 (by decide +kernel) rfl, g_w 433 (by decide +kernel) rfl, rfl, by decide +kernel, by decide +kernel, by decide +kernel⟩
theorem yV_X6_take : g_yV yX6_take cX6_take 5 (some .boolean) 2 := ⟨g_w 984 (by decide +kernel) rfl, g_w 985 (by decide +kernel) rfl, g_w 103 (by decide +kernel) rfl, g_w 986 (by decide +kernel) rfl, by decide +kernel, by decide +kernel, by decide +kernel⟩
theorem yV_X6_change : g_yV yX6_change cX6_change 4 none 2 := ⟨g_w 994 (by decide +kernel) rfl, g_w 995 (by decide +kernel) rfl, g_w 103 (by decide +kernel) rfl, g_w 996 (by decide +kernel) rfl, by decide +kernel, by decide +kernel, by decide +kernel⟩
theorem yV_X6_markBest : g_yV yX6_markBest cX6_markBest 1 none 0 := ⟨g_w 1000 (by decide +kernel) rfl, g_w 1001 (by decide +kernel) rfl, g_w 103 (by decide +kernel) rfl, g_w 1002 (by decide +kernel) rfl, by decide +kernel, by decide +kernel, by decide +kernel⟩
theorem yV_X6_chooseBest : g_yV yX6_chooseBest cX6_chooseBest 1 none 0 := ⟨g_w 1018 (by decide +kernel) rfl, g_w 1019 (by decide +kernel) rfl, g_w 103 (by decide +kernel) rfl, g_w 1020 (by decide +kernel) rfl, by decide +kernel, by decide +kernel, by decide +kernel⟩
theorem yV_X6_whose : g_yV yX6_whose cX6_whose 3 (some .int) 1 := ⟨g_w 1014 (by decide +kernel) rfl, g_w 1015 (by decide +kernel) rfl, g_w 103 (by decide +kernel) rfl, g_w 1016 (by decide +kernel) rfl, by decide +kernel, by decide +kernel, by decide +kernel⟩
theorem yV_X6_next : g_yV yX6_next cX6_next 5 (some .boolean) 0 := ⟨g_w 1005 (by decide +kernel) rfl, g_w 1006 (by decide +kernel) rfl, g_w 103 (by decide +kernel) rfl, g_w 1007 (by decide +kernel) rfl, by decide +kernel, by decide +kernel, by decide +kernel⟩
theorem yV_X6_swap : g_yV yX6_swap cX6_swap 4 none 2 := ⟨g_w 1011 (by decide +kernel) rfl, g_w 31 (by decide +kernel) rfl, g_w 103 (by decide +kernel) rfl, g_w 1012 (by decide +kernel) rfl, by decide +kernel, by decide +kernel, by decide +kernel⟩
theorem yI_X7_init : g_yI yX7_init cX7_init 2 1 := ⟨g_w 249 (by decide +kernel) rfl, g_w 99 (by decide +kernel) rfl, g_w 250 (by decide +kernel) rfl, rfl, by decide +kernel, by decide +kernel, by decide +kernel⟩
theorem yV_X7_lay : g_yV yX7_lay cX7_lay 3 none 2 := ⟨g_w 744 (by decide +kernel) rfl, g_w 745 (by decide +kernel) rfl, g_w 99 (by decide +kernel) rfl, g_w 746 (by decide +kernel) rfl, by decide +kernel, by decide +kernel, by decide +kernel⟩
theorem yV_X7_leastPace : g_yV yX7_leastPace cX7_leastPace 2 (some .int) 0 := ⟨g_w 938 (by decide +kernel) rfl, g_w 939 (by decide +kernel) rfl, g_w 99 (by decide +kernel) rfl, g_w 940 (by decide +kernel) rfl, by decide +kernel, by decide +kernel, by decide +kernel⟩
theorem yV_X7_improves : g_yV yX7_improves cX7_improves 3 (some .boolean) 0 := ⟨g_w 970 (by decide +kernel) rfl, g_w 30 (by decide +kernel) rfl, g_w 99 (by decide +kernel) rfl, g_w 971 (by decide +kernel) rfl, by decide +kernel, by decide +kernel, by decide +kernel⟩
theorem yV_X7_bestIs : g_yV yX7_bestIs cX7_bestIs 2 (some .int) 1 := ⟨g_w 975 (by decide +kernel) rfl, g_w 976 (by decide +kernel) rfl, g_w 99 (by decide +kernel) rfl, g_w 977 (by decide +kernel) rfl, by decide +kernel, by decide +kernel, by decide +kernel⟩
theorem yV_X7_bestPull : g_yV yX7_bestPull cX7_bestPull 5 none 1 := ⟨g_w 959 (by decide +kernel) rfl, g_w 960 (by decide +kernel) rfl, g_w 99 (by decide +kernel) rfl, g_w 961 (by decide +kernel) rfl, by decide +kernel, by decide +kernel, by decide +kernel⟩
theorem yV_X7_bestRow : g_yV yX7_bestRow cX7_bestRow 5 none 2 := ⟨g_w 990 (by decide +kernel) rfl, g_w 991 (by decide +kernel) rfl, g_w 99 (by decide +kernel) rfl, g_w 992 (by decide +kernel) rfl, by decide +kernel, by decide +kernel, by decide +kernel⟩
theorem yV_X7_largestStanding : g_yV yX7_largestStanding cX7_largestStanding 4 (some .int) 0 := ⟨g_w 1027 (by decide +kernel) rfl, g_w 1028 (by decide +kernel) rfl, g_w 99 (by decide +kernel) rfl, g_w 1029 (by decide +kernel) rfl, by decide +kernel, by decide +kernel, by decide +kernel⟩
theorem yV_X7_findWet : g_yV yX7_findWet cX7_findWet 5 none 1 := ⟨g_w 1048 (by decide +kernel) rfl, g_w 1049 (by decide +kernel) rfl, g_w 99 (by decide +kernel) rfl, g_w 1050 (by decide +kernel) rfl, by decide +kernel, by decide +kernel, by decide +kernel⟩
theorem yV_X7_findPaces : g_yV yX7_findPaces cX7_findPaces 3 none 1 := ⟨g_w 1068 (by decide +kernel) rfl, g_w 1069 (by decide +kernel) rfl, g_w 99 (by decide +kernel) rfl, g_w 1070 (by decide +kernel) rfl, by decide +kernel, by decide +kernel, by decide +kernel⟩
theorem yV_X7_noteFit : g_yV yX7_noteFit cX7_noteFit 4 none 3 := ⟨g_w 1056 (by decide +kernel) rfl, g_w 33 (by decide +kernel) rfl, g_w 99 (by decide +kernel) rfl, g_w 1057 (by decide +kernel) rfl, by decide +kernel, by decide +kernel, by decide +kernel⟩
theorem yV_X7_countHands : g_yV yX7_countHands cX7_countHands 6 (some .int) 3 := ⟨g_w 1079 (by decide +kernel) rfl, g_w 1080 (by decide +kernel) rfl, g_w 99 (by decide +kernel) rfl, g_w 1081 (by decide +kernel) rfl, by decide +kernel, by decide +kernel, by decide +kernel⟩
theorem yV_X7_sumHands : g_yV yX7_sumHands cX7_sumHands 6 (some .int) 3 := ⟨g_w 1095 (by decide +kernel) rfl, g_w 1096 (by decide +kernel) rfl, g_w 99 (by decide +kernel) rfl, g_w 1097 (by decide +kernel) rfl, by decide +kernel, by decide +kernel, by decide +kernel⟩
theorem yI_X8_init : g_yI yX8_init cX8_init 1 0 := ⟨g_w 124 (by decide +kernel) rfl, g_w 94 (by decide +kernel) rfl, g_w 125 (by decide +kernel) rfl, rfl, by decide +kernel, by decide +kernel, by decide +kernel⟩
theorem yV_X8_has : g_yV yX8_has cX8_has 2 (some .boolean) 1 := ⟨g_w 513 (by decide +kernel) rfl, g_w 514 (by decide +kernel) rfl, g_w 94 (by decide +kernel) rfl, g_w 515 (by decide +kernel) rfl, by decide +kernel, by decide +kernel, by decide +kernel⟩
theorem yV_X8_side : g_yV yX8_side cX8_side 3 (some .int) 2 := ⟨g_w 774 (by decide +kernel) rfl, g_w 775 (by decide +kernel) rfl, g_w 94 (by decide +kernel) rfl, g_w 776 (by decide +kernel) rfl, by decide +kernel, by decide +kernel, by decide +kernel⟩
theorem yV_X8_change : g_yV yX8_change cX8_change 4 none 3 := ⟨g_w 504 (by decide +kernel) rfl, g_w 505 (by decide +kernel) rfl, g_w 94 (by decide +kernel) rfl, g_w 506 (by decide +kernel) rfl, by decide +kernel, by decide +kernel, by decide +kernel⟩
theorem yV_X8_take : g_yV yX8_take cX8_take 2 none 1 := ⟨g_w 521 (by decide +kernel) rfl, g_w 522 (by decide +kernel) rfl, g_w 94 (by decide +kernel) rfl, g_w 523 (by decide +kernel) rfl, by decide +kernel, by decide +kernel, by decide +kernel⟩
theorem yV_X8_foldPlace : g_yV yX8_foldPlace cX8_foldPlace 2 (some .int) 1 := ⟨g_w 782 (by decide +kernel) rfl, g_w 783 (by decide +kernel) rfl, g_w 94 (by decide +kernel) rfl, g_w 784 (by decide +kernel) rfl, by decide +kernel, by decide +kernel, by decide +kernel⟩
theorem yV_X8_hasFold : g_yV yX8_hasFold cX8_hasFold 2 (some .boolean) 1 := ⟨g_w 778 (by decide +kernel) rfl, g_w 779 (by decide +kernel) rfl, g_w 94 (by decide +kernel) rfl, g_w 780 (by decide +kernel) rfl, by decide +kernel, by decide +kernel, by decide +kernel⟩
theorem yV_X8_isAs : g_yV yX8_isAs cX8_isAs 3 (some .boolean) 1 := ⟨g_w 963 (by decide +kernel) rfl, g_w 964 (by decide +kernel) rfl, g_w 94 (by decide +kernel) rfl, g_w 965 (by decide +kernel) rfl, by decide +kernel, by decide +kernel, by decide +kernel⟩
theorem yV_X8_copy : g_yV yX8_copy cX8_copy 2 none 1 := ⟨g_w 748 (by decide +kernel) rfl, g_w 749 (by decide +kernel) rfl, g_w 94 (by decide +kernel) rfl, g_w 750 (by decide +kernel) rfl, by decide +kernel, by decide +kernel, by decide +kernel⟩
theorem yI_X9_init : g_yI yX9_init cX9_init 1 0 := ⟨g_w 159 (by decide +kernel) rfl, g_w 95 (by decide +kernel) rfl, g_w 160 (by decide +kernel) rfl, rfl, by decide +kernel, by decide +kernel, by decide +kernel⟩
theorem yV_X9_add : g_yV yX9_add cX9_add 3 none 1 := ⟨g_w 529 (by decide +kernel) rfl, g_w 530 (by decide +kernel) rfl, g_w 95 (by decide +kernel) rfl, g_w 531 (by decide +kernel) rfl, by decide +kernel, by decide +kernel, by decide +kernel⟩
theorem yV_X9_at : g_yV yX9_at cX9_at 2 (some .int) 1 := ⟨g_w 547 (by decide +kernel) rfl, g_w 548 (by decide +kernel) rfl, g_w 95 (by decide +kernel) rfl, g_w 549 (by decide +kernel) rfl, by decide +kernel, by decide +kernel, by decide +kernel⟩
theorem yV_X9_number : g_yV yX9_number cX9_number 3 (some .int) 1 := ⟨g_w 1129 (by decide +kernel) rfl, g_w 1130 (by decide +kernel) rfl, g_w 95 (by decide +kernel) rfl, g_w 1131 (by decide +kernel) rfl, by decide +kernel, by decide +kernel, by decide +kernel⟩
theorem yI_X10_init : g_yI yX10_init cX10_init 1 0 := ⟨g_w 116 (by decide +kernel) rfl, g_w 93 (by decide +kernel) rfl, g_w 117 (by decide +kernel) rfl, rfl, by decide +kernel, by decide +kernel, by decide +kernel⟩
theorem yV_X10_table : g_yV yX10_table cX10_table 3 (some .boolean) 2 := ⟨g_w 489 (by decide +kernel) rfl, g_w 490 (by decide +kernel) rfl, g_w 93 (by decide +kernel) rfl, g_w 491 (by decide +kernel) rfl, by decide +kernel, by decide +kernel, by decide +kernel⟩
theorem yV_X10_cloth : g_yV yX10_cloth cX10_cloth 2 (some .boolean) 1 := ⟨g_w 496 (by decide +kernel) rfl, g_w 497 (by decide +kernel) rfl, g_w 93 (by decide +kernel) rfl, g_w 498 (by decide +kernel) rfl, by decide +kernel, by decide +kernel, by decide +kernel⟩
theorem yV_X10_thing : g_yV yX10_thing cX10_thing 8 (some .boolean) 6 := ⟨g_w 500 (by decide +kernel) rfl, g_w 501 (by decide +kernel) rfl, g_w 93 (by decide +kernel) rfl, g_w 502 (by decide +kernel) rfl, by decide +kernel, by decide +kernel, by decide +kernel⟩
theorem yV_X10_more : g_yV yX10_more cX10_more 5 (some .boolean) 4 := ⟨g_w 509 (by decide +kernel) rfl, g_w 510 (by decide +kernel) rfl, g_w 93 (by decide +kernel) rfl, g_w 511 (by decide +kernel) rfl, by decide +kernel, by decide +kernel, by decide +kernel⟩
theorem yV_X10_away : g_yV yX10_away cX10_away 2 (some .boolean) 1 := ⟨g_w 517 (by decide +kernel) rfl, g_w 518 (by decide +kernel) rfl, g_w 93 (by decide +kernel) rfl, g_w 519 (by decide +kernel) rfl, by decide +kernel, by decide +kernel, by decide +kernel⟩
theorem yV_X10_feed : g_yV yX10_feed cX10_feed 6 (some .int) 5 := ⟨g_w 525 (by decide +kernel) rfl, g_w 526 (by decide +kernel) rfl, g_w 93 (by decide +kernel) rfl, g_w 527 (by decide +kernel) rfl, by decide +kernel, by decide +kernel, by decide +kernel⟩
theorem yV_X10_pull : g_yV yX10_pull cX10_pull 3 (some .int) 1 := ⟨g_w 533 (by decide +kernel) rfl, g_w 534 (by decide +kernel) rfl, g_w 93 (by decide +kernel) rfl, g_w 535 (by decide +kernel) rfl, by decide +kernel, by decide +kernel, by decide +kernel⟩
theorem yV_X10_law : g_yV yX10_law cX10_law 3 (some .int) 1 := ⟨g_w 564 (by decide +kernel) rfl, g_w 565 (by decide +kernel) rfl, g_w 93 (by decide +kernel) rfl, g_w 566 (by decide +kernel) rfl, by decide +kernel, by decide +kernel, by decide +kernel⟩
theorem yV_X10_tried : g_yV yX10_tried cX10_tried 2 (some .int) 1 := ⟨g_w 736 (by decide +kernel) rfl, g_w 737 (by decide +kernel) rfl, g_w 93 (by decide +kernel) rfl, g_w 738 (by decide +kernel) rfl, by decide +kernel, by decide +kernel, by decide +kernel⟩
theorem yV_X10_still : g_yV yX10_still cX10_still 2 (some .int) 1 := ⟨g_w 913 (by decide +kernel) rfl, g_w 914 (by decide +kernel) rfl, g_w 93 (by decide +kernel) rfl, g_w 915 (by decide +kernel) rfl, by decide +kernel, by decide +kernel, by decide +kernel⟩
theorem yV_X10_done : g_yV yX10_done cX10_done 1 (some .int) 0 := ⟨g_w 917 (by decide +kernel) rfl, g_w 918 (by decide +kernel) rfl, g_w 93 (by decide +kernel) rfl, g_w 919 (by decide +kernel) rfl, by decide +kernel, by decide +kernel, by decide +kernel⟩
theorem yV_X10_thingIs : g_yV yX10_thingIs cX10_thingIs 3 (some .int) 2 := ⟨g_w 929 (by decide +kernel) rfl, g_w 930 (by decide +kernel) rfl, g_w 93 (by decide +kernel) rfl, g_w 931 (by decide +kernel) rfl, by decide +kernel, by decide +kernel, by decide +kernel⟩
theorem yV_X10_pace : g_yV yX10_pace cX10_pace 1 (some .int) 0 := ⟨g_w 934 (by decide +kernel) rfl, g_w 935 (by decide +kernel) rfl, g_w 93 (by decide +kernel) rfl, g_w 936 (by decide +kernel) rfl, by decide +kernel, by decide +kernel, by decide +kernel⟩
theorem yV_X10_best : g_yV yX10_best cX10_best 2 (some .int) 1 := ⟨g_w 955 (by decide +kernel) rfl, g_w 956 (by decide +kernel) rfl, g_w 93 (by decide +kernel) rfl, g_w 957 (by decide +kernel) rfl, by decide +kernel, by decide +kernel, by decide +kernel⟩
theorem yV_X10_put : g_yV yX10_put cX10_put 4 (some .int) 2 := ⟨g_w 980 (by decide +kernel) rfl, g_w 981 (by decide +kernel) rfl, g_w 93 (by decide +kernel) rfl, g_w 982 (by decide +kernel) rfl, by decide +kernel, by decide +kernel, by decide +kernel⟩
theorem yV_X10_most : g_yV yX10_most cX10_most 3 (some .int) 1 := ⟨g_w 1023 (by decide +kernel) rfl, g_w 1024 (by decide +kernel) rfl, g_w 93 (by decide +kernel) rfl, g_w 1025 (by decide +kernel) rfl, by decide +kernel, by decide +kernel, by decide +kernel⟩
theorem yV_X10_worth : g_yV yX10_worth cX10_worth 8 (some .int) 2 := ⟨g_w 1033 (by decide +kernel) rfl, g_w 1034 (by decide +kernel) rfl, g_w 93 (by decide +kernel) rfl, g_w 1035 (by decide +kernel) rfl, by decide +kernel, by decide +kernel, by decide +kernel⟩
theorem yV_X10_wasWet : g_yV yX10_wasWet cX10_wasWet 2 (some .int) 1 := ⟨g_w 1040 (by decide +kernel) rfl, g_w 1041 (by decide +kernel) rfl, g_w 93 (by decide +kernel) rfl, g_w 1042 (by decide +kernel) rfl, by decide +kernel, by decide +kernel, by decide +kernel⟩
theorem yV_X10_howQuick : g_yV yX10_howQuick cX10_howQuick 2 (some .int) 1 := ⟨g_w 1064 (by decide +kernel) rfl, g_w 1065 (by decide +kernel) rfl, g_w 93 (by decide +kernel) rfl, g_w 1066 (by decide +kernel) rfl, by decide +kernel, by decide +kernel, by decide +kernel⟩
theorem yV_X10_odds : g_yV yX10_odds cX10_odds 9 (some .int) 3 := ⟨g_w 1072 (by decide +kernel) rfl, g_w 1073 (by decide +kernel) rfl, g_w 93 (by decide +kernel) rfl, g_w 1074 (by decide +kernel) rfl, by decide +kernel, by decide +kernel, by decide +kernel⟩
theorem yV_X10_should : g_yV yX10_should cX10_should 3 (some .int) 2 := ⟨g_w 1090 (by decide +kernel) rfl, g_w 1091 (by decide +kernel) rfl, g_w 93 (by decide +kernel) rfl, g_w 1092 (by decide +kernel) rfl, by decide +kernel, by decide +kernel, by decide +kernel⟩
theorem yV_X10_practice : g_yV yX10_practice cX10_practice 7 (some .int) 3 := ⟨g_w 1103 (by decide +kernel) rfl, g_w 1104 (by decide +kernel) rfl, g_w 93 (by decide +kernel) rfl, g_w 1105 (by decide +kernel) rfl, by decide +kernel, by decide +kernel, by decide +kernel⟩
theorem yV_X10_seed : g_yV yX10_seed cX10_seed 2 (some .boolean) 1 := ⟨g_w 1111 (by decide +kernel) rfl, g_w 1112 (by decide +kernel) rfl, g_w 93 (by decide +kernel) rfl, g_w 1113 (by decide +kernel) rfl, by decide +kernel, by decide +kernel, by decide +kernel⟩
theorem yV_X10_keep : g_yV yX10_keep cX10_keep 1 (some .int) 0 := ⟨g_w 1116 (by decide +kernel) rfl, g_w 1117 (by decide +kernel) rfl, g_w 93 (by decide +kernel) rfl, g_w 1118 (by decide +kernel) rfl, by decide +kernel, by decide +kernel, by decide +kernel⟩
theorem yV_X10_undo : g_yV yX10_undo cX10_undo 1 (some .boolean) 0 := ⟨g_w 1121 (by decide +kernel) rfl, g_w 1122 (by decide +kernel) rfl, g_w 93 (by decide +kernel) rfl, g_w 1123 (by decide +kernel) rfl, by decide +kernel, by decide +kernel, by decide +kernel⟩
theorem yV_X10_check : g_yV yX10_check cX10_check 4 (some .int) 1 := ⟨g_w 1125 (by decide +kernel) rfl, g_w 1126 (by decide +kernel) rfl, g_w 93 (by decide +kernel) rfl, g_w 1127 (by decide +kernel) rfl, by decide +kernel, by decide +kernel, by decide +kernel⟩
theorem yV_X10_count : g_yV yX10_count cX10_count 2 (some .int) 1 := ⟨g_w 1134 (by decide +kernel) rfl, g_w 1135 (by decide +kernel) rfl, g_w 93 (by decide +kernel) rfl, g_w 1136 (by decide +kernel) rfl, by decide +kernel, by decide +kernel, by decide +kernel⟩
theorem yV_X10_tryDrawn : g_yV yX10_tryDrawn cX10_tryDrawn 1 none 0 := ⟨g_w 741 (by decide +kernel) rfl, g_w 13 (by decide +kernel) rfl, g_w 93 (by decide +kernel) rfl, g_w 742 (by decide +kernel) rfl, by decide +kernel, by decide +kernel, by decide +kernel⟩
theorem yV_X10_canCompare : g_yV yX10_canCompare cX10_canCompare 1 (some .boolean) 0 := ⟨g_w 1045 (by decide +kernel) rfl, g_w 32 (by decide +kernel) rfl, g_w 93 (by decide +kernel) rfl, g_w 1046 (by decide +kernel) rfl, by decide +kernel, by decide +kernel, by decide +kernel⟩
theorem yS_X10_within : g_yS yX10_within cX10_within 3 (some .boolean) 3 := ⟨g_w 493 (by decide +kernel) rfl, g_w 93 (by decide +kernel) rfl, g_w 494 (by decide +kernel) rfl, by decide +kernel, by decide +kernel, by decide +kernel⟩
theorem yS_X10_hands : g_yS yX10_hands cX10_hands 3 (some .int) 1 := ⟨g_w 1076 (by decide +kernel) rfl, g_w 93 (by decide +kernel) rfl, g_w 1077 (by decide +kernel) rfl, by decide +kernel, by decide +kernel, by decide +kernel⟩
theorem yS_X10_commonDivisor : g_yS yX10_commonDivisor cX10_commonDivisor 6 (some .int) 2 := ⟨g_w 1087 (by decide +kernel) rfl, g_w 93 (by decide +kernel) rfl, g_w 1088 (by decide +kernel) rfl, by decide +kernel, by decide +kernel, by decide +kernel⟩
theorem yI_X11_init : g_yI yX11_init cX11_init 1 0 := ⟨g_w 1141 (by decide +kernel) rfl, g_w 104 (by decide +kernel) rfl, g_w 1142 (by decide +kernel) rfl, rfl, by decide +kernel, by decide +kernel, by decide +kernel⟩
theorem yS_X11_in : g_yS yX11_in cX11_in 3 (some .boolean) 3 := ⟨g_w 1423 (by decide +kernel) rfl, g_w 104 (by decide +kernel) rfl, g_w 1424 (by decide +kernel) rfl, by decide +kernel, by decide +kernel, by decide +kernel⟩
theorem yS_X11_min : g_yS yX11_min cX11_min 2 (some .int) 2 := ⟨g_w 1626 (by decide +kernel) rfl, g_w 104 (by decide +kernel) rfl, g_w 1627 (by decide +kernel) rfl, by decide +kernel, by decide +kernel, by decide +kernel⟩
theorem yS_X11_max : g_yS yX11_max cX11_max 2 (some .int) 2 := ⟨g_w 1615 (by decide +kernel) rfl, g_w 104 (by decide +kernel) rfl, g_w 1616 (by decide +kernel) rfl, by decide +kernel, by decide +kernel, by decide +kernel⟩
theorem yS_X11_size : g_yS yX11_size cX11_size 1 (some .int) 1 := ⟨g_w 1633 (by decide +kernel) rfl, g_w 104 (by decide +kernel) rfl, g_w 1634 (by decide +kernel) rfl, by decide +kernel, by decide +kernel, by decide +kernel⟩
theorem yS_X11_has : g_yS yX11_has cX11_has 2 (some .boolean) 2 := ⟨g_w 1442 (by decide +kernel) rfl, g_w 104 (by decide +kernel) rfl, g_w 1443 (by decide +kernel) rfl, by decide +kernel, by decide +kernel, by decide +kernel⟩
theorem yS_X11_bits : g_yS yX11_bits cX11_bits 3 (some .int) 1 := ⟨g_w 1660 (by decide +kernel) rfl, g_w 104 (by decide +kernel) rfl, g_w 1661 (by decide +kernel) rfl, by decide +kernel, by decide +kernel, by decide +kernel⟩
theorem yV_X11_table : g_yV yX11_table cX11_table 3 (some .boolean) 2 := ⟨g_w 1419 (by decide +kernel) rfl, g_w 1420 (by decide +kernel) rfl, g_w 104 (by decide +kernel) rfl, g_w 1421 (by decide +kernel) rfl, by decide +kernel, by decide +kernel, by decide +kernel⟩
theorem yV_X11_cloth : g_yV yX11_cloth cX11_cloth 2 (some .boolean) 1 := ⟨g_w 1426 (by decide +kernel) rfl, g_w 1427 (by decide +kernel) rfl, g_w 104 (by decide +kernel) rfl, g_w 1428 (by decide +kernel) rfl, by decide +kernel, by decide +kernel, by decide +kernel⟩
theorem yV_X11_isTold : g_yV yX11_isTold cX11_isTold 2 (some .boolean) 1 := ⟨g_w 1439 (by decide +kernel) rfl, g_w 34 (by decide +kernel) rfl, g_w 104 (by decide +kernel) rfl, g_w 1440 (by decide +kernel) rfl, by decide +kernel, by decide +kernel, by decide +kernel⟩
theorem yV_X11_thing : g_yV yX11_thing cX11_thing 7 (some .boolean) 6 := ⟨g_w 1430 (by decide +kernel) rfl, g_w 1431 (by decide +kernel) rfl, g_w 104 (by decide +kernel) rfl, g_w 1432 (by decide +kernel) rfl, by decide +kernel, by decide +kernel, by decide +kernel⟩
theorem yV_X11_more : g_yV yX11_more cX11_more 5 (some .boolean) 4 := ⟨g_w 1434 (by decide +kernel) rfl, g_w 1435 (by decide +kernel) rfl, g_w 104 (by decide +kernel) rfl, g_w 1436 (by decide +kernel) rfl, by decide +kernel, by decide +kernel, by decide +kernel⟩
theorem yV_X11_away : g_yV yX11_away cX11_away 2 (some .boolean) 1 := ⟨g_w 1445 (by decide +kernel) rfl, g_w 1446 (by decide +kernel) rfl, g_w 104 (by decide +kernel) rfl, g_w 1447 (by decide +kernel) rfl, by decide +kernel, by decide +kernel, by decide +kernel⟩
theorem yV_X11_types : g_yV yX11_types cX11_types 3 none 1 := ⟨g_w 1454 (by decide +kernel) rfl, g_w 35 (by decide +kernel) rfl, g_w 104 (by decide +kernel) rfl, g_w 1455 (by decide +kernel) rfl, by decide +kernel, by decide +kernel, by decide +kernel⟩
theorem yV_X11_feed : g_yV yX11_feed cX11_feed 6 (some .int) 5 := ⟨g_w 1449 (by decide +kernel) rfl, g_w 1450 (by decide +kernel) rfl, g_w 104 (by decide +kernel) rfl, g_w 1451 (by decide +kernel) rfl, by decide +kernel, by decide +kernel, by decide +kernel⟩
theorem yV_X11_readsPace : g_yV yX11_readsPace cX11_readsPace 2 (some .boolean) 0 := ⟨g_w 1478 (by decide +kernel) rfl, g_w 40 (by decide +kernel) rfl, g_w 104 (by decide +kernel) rfl, g_w 1479 (by decide +kernel) rfl, by decide +kernel, by decide +kernel, by decide +kernel⟩
theorem yV_X11_readsStep : g_yV yX11_readsStep cX11_readsStep 4 (some .boolean) 0 := ⟨g_w 1462 (by decide +kernel) rfl, g_w 36 (by decide +kernel) rfl, g_w 104 (by decide +kernel) rfl, g_w 1463 (by decide +kernel) rfl, by decide +kernel, by decide +kernel, by decide +kernel⟩
theorem yV_X11_pull : g_yV yX11_pull cX11_pull 4 (some .int) 1 := ⟨g_w 1457 (by decide +kernel) rfl, g_w 1458 (by decide +kernel) rfl, g_w 104 (by decide +kernel) rfl, g_w 1459 (by decide +kernel) rfl, by decide +kernel, by decide +kernel, by decide +kernel⟩
theorem yV_X11_here : g_yV yX11_here cX11_here 1 (some .int) 0 := ⟨g_w 1470 (by decide +kernel) rfl, g_w 38 (by decide +kernel) rfl, g_w 104 (by decide +kernel) rfl, g_w 1471 (by decide +kernel) rfl, by decide +kernel, by decide +kernel, by decide +kernel⟩
theorem yV_X11_isDigit : g_yV yX11_isDigit cX11_isDigit 1 (some .boolean) 0 := ⟨g_w 1466 (by decide +kernel) rfl, g_w 37 (by decide +kernel) rfl, g_w 104 (by decide +kernel) rfl, g_w 1467 (by decide +kernel) rfl, by decide +kernel, by decide +kernel, by decide +kernel⟩
theorem yV_X11_wrongAt : g_yV yX11_wrongAt cX11_wrongAt 3 (some .boolean) 2 := ⟨g_w 1474 (by decide +kernel) rfl, g_w 39 (by decide +kernel) rfl, g_w 104 (by decide +kernel) rfl, g_w 1475 (by decide +kernel) rfl, by decide +kernel, by decide +kernel, by decide +kernel⟩
theorem yV_X11_takes : g_yV yX11_takes cX11_takes 2 (some .boolean) 1 := ⟨g_w 1482 (by decide +kernel) rfl, g_w 41 (by decide +kernel) rfl, g_w 104 (by decide +kernel) rfl, g_w 1483 (by decide +kernel) rfl, by decide +kernel, by decide +kernel, by decide +kernel⟩
theorem yV_X11_readsNumber : g_yV yX11_readsNumber cX11_readsNumber 2 (some .boolean) 0 := ⟨g_w 1510 (by decide +kernel) rfl, g_w 46 (by decide +kernel) rfl, g_w 104 (by decide +kernel) rfl, g_w 1511 (by decide +kernel) rfl, by decide +kernel, by decide +kernel, by decide +kernel⟩
theorem yV_X11_notes : g_yV yX11_notes cX11_notes 3 none 2 := ⟨g_w 1514 (by decide +kernel) rfl, g_w 47 (by decide +kernel) rfl, g_w 104 (by decide +kernel) rfl, g_w 1515 (by decide +kernel) rfl, by decide +kernel, by decide +kernel, by decide +kernel⟩
theorem yV_X11_opens : g_yV yX11_opens cX11_opens 2 (some .boolean) 1 := ⟨g_w 1505 (by decide +kernel) rfl, g_w 45 (by decide +kernel) rfl, g_w 104 (by decide +kernel) rfl, g_w 1506 (by decide +kernel) rfl, by decide +kernel, by decide +kernel, by decide +kernel⟩
theorem yV_X11_waitTop : g_yV yX11_waitTop cX11_waitTop 1 (some .int) 0 := ⟨g_w 1528 (by decide +kernel) rfl, g_w 49 (by decide +kernel) rfl, g_w 104 (by decide +kernel) rfl, g_w 1529 (by decide +kernel) rfl, by decide +kernel, by decide +kernel, by decide +kernel⟩
theorem yS_X11_factOf : g_yS yX11_factOf cX11_factOf 1 (some .int) 1 := ⟨g_w 1517 (by decide +kernel) rfl, g_w 104 (by decide +kernel) rfl, g_w 1518 (by decide +kernel) rfl, by decide +kernel, by decide +kernel, by decide +kernel⟩
theorem yS_X11_sumSign : g_yS yX11_sumSign cX11_sumSign 1 (some .int) 1 := ⟨g_w 1520 (by decide +kernel) rfl, g_w 104 (by decide +kernel) rfl, g_w 1521 (by decide +kernel) rfl, by decide +kernel, by decide +kernel, by decide +kernel⟩
theorem yV_X11_closesSums : g_yV yX11_closesSums cX11_closesSums 2 none 1 := ⟨g_w 1524 (by decide +kernel) rfl, g_w 48 (by decide +kernel) rfl, g_w 104 (by decide +kernel) rfl, g_w 1525 (by decide +kernel) rfl, by decide +kernel, by decide +kernel, by decide +kernel⟩
theorem yV_X11_readsFactor : g_yV yX11_readsFactor cX11_readsFactor 2 (some .boolean) 0 := ⟨g_w 1501 (by decide +kernel) rfl, g_w 44 (by decide +kernel) rfl, g_w 104 (by decide +kernel) rfl, g_w 1502 (by decide +kernel) rfl, by decide +kernel, by decide +kernel, by decide +kernel⟩
theorem yV_X11_hasOpenSum : g_yV yX11_hasOpenSum cX11_hasOpenSum 3 (some .boolean) 1 := ⟨g_w 1532 (by decide +kernel) rfl, g_w 50 (by decide +kernel) rfl, g_w 104 (by decide +kernel) rfl, g_w 1533 (by decide +kernel) rfl, by decide +kernel, by decide +kernel, by decide +kernel⟩
theorem yV_X11_readsSum : g_yV yX11_readsSum cX11_readsSum 3 (some .boolean) 0 := ⟨g_w 1497 (by decide +kernel) rfl, g_w 43 (by decide +kernel) rfl, g_w 104 (by decide +kernel) rfl, g_w 1498 (by decide +kernel) rfl, by decide +kernel, by decide +kernel, by decide +kernel⟩
theorem yV_X11_endsPiece : g_yV yX11_endsPiece cX11_endsPiece 1 none 0 := ⟨g_w 1544 (by decide +kernel) rfl, g_w 53 (by decide +kernel) rfl, g_w 104 (by decide +kernel) rfl, g_w 1545 (by decide +kernel) rfl, by decide +kernel, by decide +kernel, by decide +kernel⟩
theorem yV_X11_lands : g_yV yX11_lands cX11_lands 3 none 1 := ⟨g_w 1548 (by decide +kernel) rfl, g_w 54 (by decide +kernel) rfl, g_w 104 (by decide +kernel) rfl, g_w 1549 (by decide +kernel) rfl, by decide +kernel, by decide +kernel, by decide +kernel⟩
theorem yV_X11_jumps : g_yV yX11_jumps cX11_jumps 2 none 1 := ⟨g_w 1552 (by decide +kernel) rfl, g_w 55 (by decide +kernel) rfl, g_w 104 (by decide +kernel) rfl, g_w 1553 (by decide +kernel) rfl, by decide +kernel, by decide +kernel, by decide +kernel⟩
theorem yV_X11_readsCompared : g_yV yX11_readsCompared cX11_readsCompared 2 (some .boolean) 0 := ⟨g_w 1540 (by decide +kernel) rfl, g_w 52 (by decide +kernel) rfl, g_w 104 (by decide +kernel) rfl, g_w 1541 (by decide +kernel) rfl, by decide +kernel, by decide +kernel, by decide +kernel⟩
theorem yV_X11_readsCondition : g_yV yX11_readsCondition cX11_readsCondition 1 (some .boolean) 0 := ⟨g_w 1536 (by decide +kernel) rfl, g_w 51 (by decide +kernel) rfl, g_w 104 (by decide +kernel) rfl, g_w 1537 (by decide +kernel) rfl, by decide +kernel, by decide +kernel, by decide +kernel⟩
theorem yS_X11_isClause : g_yS yX11_isClause cX11_isClause 1 (some .boolean) 1 := ⟨g_w 1493 (by decide +kernel) rfl, g_w 104 (by decide +kernel) rfl, g_w 1494 (by decide +kernel) rfl, by decide +kernel, by decide +kernel, by decide +kernel⟩
theorem yV_X11_readsClause : g_yV yX11_readsClause cX11_readsClause 2 (some .boolean) 0 := ⟨g_w 1490 (by decide +kernel) rfl, g_w 42 (by decide +kernel) rfl, g_w 104 (by decide +kernel) rfl, g_w 1491 (by decide +kernel) rfl, by decide +kernel, by decide +kernel, by decide +kernel⟩
theorem yV_X11_law : g_yV yX11_law cX11_law 4 (some .int) 1 := ⟨g_w 1485 (by decide +kernel) rfl, g_w 1486 (by decide +kernel) rfl, g_w 104 (by decide +kernel) rfl, g_w 1487 (by decide +kernel) rfl, by decide +kernel, by decide +kernel, by decide +kernel⟩
theorem yS_X11_reckon : g_yS yX11_reckon cX11_reckon 3 (some .int) 3 := ⟨g_w 1612 (by decide +kernel) rfl, g_w 104 (by decide +kernel) rfl, g_w 1613 (by decide +kernel) rfl, by decide +kernel, by decide +kernel, by decide +kernel⟩
theorem yV_X11_comesTo : g_yV yX11_comesTo cX11_comesTo 8 (some .int) 2 := ⟨g_w 1609 (by decide +kernel) rfl, g_w 68 (by decide +kernel) rfl, g_w 104 (by decide +kernel) rfl, g_w 1610 (by decide +kernel) rfl, by decide +kernel, by decide +kernel, by decide +kernel⟩
theorem yV_X11_byLaw : g_yV yX11_byLaw cX11_byLaw 6 (some .int) 3 := ⟨g_w 1605 (by decide +kernel) rfl, g_w 67 (by decide +kernel) rfl, g_w 104 (by decide +kernel) rfl, g_w 1606 (by decide +kernel) rfl, by decide +kernel, by decide +kernel, by decide +kernel⟩
theorem yV_X11_laysPull : g_yV yX11_laysPull cX11_laysPull 2 none 0 := ⟨g_w 1568 (by decide +kernel) rfl, g_w 58 (by decide +kernel) rfl, g_w 104 (by decide +kernel) rfl, g_w 1569 (by decide +kernel) rfl, by decide +kernel, by decide +kernel, by decide +kernel⟩
theorem yV_X11_laysThings : g_yV yX11_laysThings cX11_laysThings 2 none 0 := ⟨g_w 1572 (by decide +kernel) rfl, g_w 59 (by decide +kernel) rfl, g_w 104 (by decide +kernel) rfl, g_w 1573 (by decide +kernel) rfl, by decide +kernel, by decide +kernel, by decide +kernel⟩
theorem yV_X11_begins : g_yV yX11_begins cX11_begins 2 none 0 := ⟨g_w 1580 (by decide +kernel) rfl, g_w 61 (by decide +kernel) rfl, g_w 104 (by decide +kernel) rfl, g_w 1581 (by decide +kernel) rfl, by decide +kernel, by decide +kernel, by decide +kernel⟩
theorem yV_X11_stands : g_yV yX11_stands cX11_stands 2 (some .boolean) 1 := ⟨g_w 1588 (by decide +kernel) rfl, g_w 63 (by decide +kernel) rfl, g_w 104 (by decide +kernel) rfl, g_w 1589 (by decide +kernel) rfl, by decide +kernel, by decide +kernel, by decide +kernel⟩
theorem yV_X11_someMove : g_yV yX11_someMove cX11_someMove 2 (some .boolean) 0 := ⟨g_w 1584 (by decide +kernel) rfl, g_w 62 (by decide +kernel) rfl, g_w 104 (by decide +kernel) rfl, g_w 1585 (by decide +kernel) rfl, by decide +kernel, by decide +kernel, by decide +kernel⟩
theorem yV_X11_paceNow : g_yV yX11_paceNow cX11_paceNow 1 (some .int) 0 := ⟨g_w 1596 (by decide +kernel) rfl, g_w 65 (by decide +kernel) rfl, g_w 104 (by decide +kernel) rfl, g_w 1597 (by decide +kernel) rfl, by decide +kernel, by decide +kernel, by decide +kernel⟩
theorem yV_X11_slipsNow : g_yV yX11_slipsNow cX11_slipsNow 3 (some .int) 0 := ⟨g_w 1600 (by decide +kernel) rfl, g_w 66 (by decide +kernel) rfl, g_w 104 (by decide +kernel) rfl, g_w 1601 (by decide +kernel) rfl, by decide +kernel, by decide +kernel, by decide +kernel⟩
theorem yV_X11_feels : g_yV yX11_feels cX11_feels 2 none 1 := ⟨g_w 1623 (by decide +kernel) rfl, g_w 70 (by decide +kernel) rfl, g_w 104 (by decide +kernel) rfl, g_w 1624 (by decide +kernel) rfl, by decide +kernel, by decide +kernel, by decide +kernel⟩
theorem yV_X11_foldPasses : g_yV yX11_foldPasses cX11_foldPasses 4 (some .boolean) 1 := ⟨g_w 1630 (by decide +kernel) rfl, g_w 71 (by decide +kernel) rfl, g_w 104 (by decide +kernel) rfl, g_w 1631 (by decide +kernel) rfl, by decide +kernel, by decide +kernel, by decide +kernel⟩
theorem yV_X11_hurries : g_yV yX11_hurries cX11_hurries 8 none 1 := ⟨g_w 1619 (by decide +kernel) rfl, g_w 69 (by decide +kernel) rfl, g_w 104 (by decide +kernel) rfl, g_w 1620 (by decide +kernel) rfl, by decide +kernel, by decide +kernel, by decide +kernel⟩
theorem yV_X11_goes : g_yV yX11_goes cX11_goes 2 none 1 := ⟨g_w 1637 (by decide +kernel) rfl, g_w 72 (by decide +kernel) rfl, g_w 104 (by decide +kernel) rfl, g_w 1638 (by decide +kernel) rfl, by decide +kernel, by decide +kernel, by decide +kernel⟩
theorem yV_X11_laysOrder : g_yV yX11_laysOrder cX11_laysOrder 4 (some .int) 0 := ⟨g_w 1641 (by decide +kernel) rfl, g_w 73 (by decide +kernel) rfl, g_w 104 (by decide +kernel) rfl, g_w 1642 (by decide +kernel) rfl, by decide +kernel, by decide +kernel, by decide +kernel⟩
theorem yV_X11_meet : g_yV yX11_meet cX11_meet 5 none 2 := ⟨g_w 1645 (by decide +kernel) rfl, g_w 74 (by decide +kernel) rfl, g_w 104 (by decide +kernel) rfl, g_w 1646 (by decide +kernel) rfl, by decide +kernel, by decide +kernel, by decide +kernel⟩
theorem yV_X11_counts : g_yV yX11_counts cX11_counts 3 none 1 := ⟨g_w 1649 (by decide +kernel) rfl, g_w 75 (by decide +kernel) rfl, g_w 104 (by decide +kernel) rfl, g_w 1650 (by decide +kernel) rfl, by decide +kernel, by decide +kernel, by decide +kernel⟩
theorem yV_X11_ticks : g_yV yX11_ticks cX11_ticks 4 none 0 := ⟨g_w 1592 (by decide +kernel) rfl, g_w 64 (by decide +kernel) rfl, g_w 104 (by decide +kernel) rfl, g_w 1593 (by decide +kernel) rfl, by decide +kernel, by decide +kernel, by decide +kernel⟩
theorem yV_X11_runs : g_yV yX11_runs cX11_runs 1 none 0 := ⟨g_w 1576 (by decide +kernel) rfl, g_w 60 (by decide +kernel) rfl, g_w 104 (by decide +kernel) rfl, g_w 1577 (by decide +kernel) rfl, by decide +kernel, by decide +kernel, by decide +kernel⟩
theorem yV_X11_standing : g_yV yX11_standing cX11_standing 3 (some .int) 0 := ⟨g_w 1657 (by decide +kernel) rfl, g_w 77 (by decide +kernel) rfl, g_w 104 (by decide +kernel) rfl, g_w 1658 (by decide +kernel) rfl, by decide +kernel, by decide +kernel, by decide +kernel⟩
theorem yV_X11_inchesAll : g_yV yX11_inchesAll cX11_inchesAll 3 (some .int) 0 := ⟨g_w 1664 (by decide +kernel) rfl, g_w 78 (by decide +kernel) rfl, g_w 104 (by decide +kernel) rfl, g_w 1665 (by decide +kernel) rfl, by decide +kernel, by decide +kernel, by decide +kernel⟩
theorem yV_X11_stateBits : g_yV yX11_stateBits cX11_stateBits 4 (some .int) 1 := ⟨g_w 1668 (by decide +kernel) rfl, g_w 79 (by decide +kernel) rfl, g_w 104 (by decide +kernel) rfl, g_w 1669 (by decide +kernel) rfl, by decide +kernel, by decide +kernel, by decide +kernel⟩
theorem yV_X11_endsAt : g_yV yX11_endsAt cX11_endsAt 2 (some .int) 1 := ⟨g_w 1672 (by decide +kernel) rfl, g_w 80 (by decide +kernel) rfl, g_w 104 (by decide +kernel) rfl, g_w 1673 (by decide +kernel) rfl, by decide +kernel, by decide +kernel, by decide +kernel⟩
theorem yV_X11_isAsked : g_yV yX11_isAsked cX11_isAsked 2 (some .boolean) 1 := ⟨g_w 1560 (by decide +kernel) rfl, g_w 56 (by decide +kernel) rfl, g_w 104 (by decide +kernel) rfl, g_w 1561 (by decide +kernel) rfl, by decide +kernel, by decide +kernel, by decide +kernel⟩
theorem yV_X11_told : g_yV yX11_told cX11_told 3 (some .int) 1 := ⟨g_w 1653 (by decide +kernel) rfl, g_w 76 (by decide +kernel) rfl, g_w 104 (by decide +kernel) rfl, g_w 1654 (by decide +kernel) rfl, by decide +kernel, by decide +kernel, by decide +kernel⟩
theorem yV_X11_runsStill : g_yV yX11_runsStill cX11_runsStill 1 none 0 := ⟨g_w 1680 (by decide +kernel) rfl, g_w 81 (by decide +kernel) rfl, g_w 104 (by decide +kernel) rfl, g_w 1681 (by decide +kernel) rfl, by decide +kernel, by decide +kernel, by decide +kernel⟩
theorem yV_X11_runsDrawn : g_yV yX11_runsDrawn cX11_runsDrawn 1 none 0 := ⟨g_w 1564 (by decide +kernel) rfl, g_w 57 (by decide +kernel) rfl, g_w 104 (by decide +kernel) rfl, g_w 1565 (by decide +kernel) rfl, by decide +kernel, by decide +kernel, by decide +kernel⟩
theorem yV_X11_tried : g_yV yX11_tried cX11_tried 3 (some .int) 1 := ⟨g_w 1555 (by decide +kernel) rfl, g_w 1556 (by decide +kernel) rfl, g_w 104 (by decide +kernel) rfl, g_w 1557 (by decide +kernel) rfl, by decide +kernel, by decide +kernel, by decide +kernel⟩
theorem yV_X11_still : g_yV yX11_still cX11_still 2 (some .int) 1 := ⟨g_w 1675 (by decide +kernel) rfl, g_w 1676 (by decide +kernel) rfl, g_w 104 (by decide +kernel) rfl, g_w 1677 (by decide +kernel) rfl, by decide +kernel, by decide +kernel, by decide +kernel⟩
theorem yV_X11_done : g_yV yX11_done cX11_done 3 (some .int) 0 := ⟨g_w 1683 (by decide +kernel) rfl, g_w 1684 (by decide +kernel) rfl, g_w 104 (by decide +kernel) rfl, g_w 1685 (by decide +kernel) rfl, by decide +kernel, by decide +kernel, by decide +kernel⟩
theorem yV_X11_thingIs : g_yV yX11_thingIs cX11_thingIs 3 (some .int) 2 := ⟨g_w 1687 (by decide +kernel) rfl, g_w 1688 (by decide +kernel) rfl, g_w 104 (by decide +kernel) rfl, g_w 1689 (by decide +kernel) rfl, by decide +kernel, by decide +kernel, by decide +kernel⟩
theorem yV_X11_laysPaces : g_yV yX11_laysPaces cX11_laysPaces 4 none 2 := ⟨g_w 1700 (by decide +kernel) rfl, g_w 83 (by decide +kernel) rfl, g_w 104 (by decide +kernel) rfl, g_w 1701 (by decide +kernel) rfl, by decide +kernel, by decide +kernel, by decide +kernel⟩
theorem yV_X11_runsEven : g_yV yX11_runsEven cX11_runsEven 2 none 1 := ⟨g_w 1696 (by decide +kernel) rfl, g_w 82 (by decide +kernel) rfl, g_w 104 (by decide +kernel) rfl, g_w 1697 (by decide +kernel) rfl, by decide +kernel, by decide +kernel, by decide +kernel⟩
theorem yV_X11_pace : g_yV yX11_pace cX11_pace 2 (some .int) 0 := ⟨g_w 1691 (by decide +kernel) rfl, g_w 1692 (by decide +kernel) rfl, g_w 104 (by decide +kernel) rfl, g_w 1693 (by decide +kernel) rfl, by decide +kernel, by decide +kernel, by decide +kernel⟩
theorem yV_X11_better : g_yV yX11_better cX11_better 4 none 1 := ⟨g_w 1712 (by decide +kernel) rfl, g_w 85 (by decide +kernel) rfl, g_w 104 (by decide +kernel) rfl, g_w 1713 (by decide +kernel) rfl, by decide +kernel, by decide +kernel, by decide +kernel⟩
theorem yV_X11_forgetsBest : g_yV yX11_forgetsBest cX11_forgetsBest 1 none 0 := ⟨g_w 1708 (by decide +kernel) rfl, g_w 84 (by decide +kernel) rfl, g_w 104 (by decide +kernel) rfl, g_w 1709 (by decide +kernel) rfl, by decide +kernel, by decide +kernel, by decide +kernel⟩
theorem yV_X11_best : g_yV yX11_best cX11_best 6 (some .int) 1 := ⟨g_w 1703 (by decide +kernel) rfl, g_w 1704 (by decide +kernel) rfl, g_w 104 (by decide +kernel) rfl, g_w 1705 (by decide +kernel) rfl, by decide +kernel, by decide +kernel, by decide +kernel⟩
theorem yV_X11_readsRow : g_yV yX11_readsRow cX11_readsRow 5 (some .boolean) 1 := ⟨g_w 1720 (by decide +kernel) rfl, g_w 86 (by decide +kernel) rfl, g_w 104 (by decide +kernel) rfl, g_w 1721 (by decide +kernel) rfl, by decide +kernel, by decide +kernel, by decide +kernel⟩
theorem yV_X11_put : g_yV yX11_put cX11_put 7 (some .int) 2 := ⟨g_w 1715 (by decide +kernel) rfl, g_w 1716 (by decide +kernel) rfl, g_w 104 (by decide +kernel) rfl, g_w 1717 (by decide +kernel) rfl, by decide +kernel, by decide +kernel, by decide +kernel⟩
theorem yV_X11_most : g_yV yX11_most cX11_most 4 (some .int) 1 := ⟨g_w 1723 (by decide +kernel) rfl, g_w 1724 (by decide +kernel) rfl, g_w 104 (by decide +kernel) rfl, g_w 1725 (by decide +kernel) rfl, by decide +kernel, by decide +kernel, by decide +kernel⟩
theorem yV_X11_worth : g_yV yX11_worth cX11_worth 6 (some .int) 2 := ⟨g_w 1727 (by decide +kernel) rfl, g_w 1728 (by decide +kernel) rfl, g_w 104 (by decide +kernel) rfl, g_w 1729 (by decide +kernel) rfl, by decide +kernel, by decide +kernel, by decide +kernel⟩
theorem yV_X11_takesPlaces : g_yV yX11_takesPlaces cX11_takesPlaces 3 (some .boolean) 0 := ⟨g_w 1737 (by decide +kernel) rfl, g_w 87 (by decide +kernel) rfl, g_w 104 (by decide +kernel) rfl, g_w 1738 (by decide +kernel) rfl, by decide +kernel, by decide +kernel, by decide +kernel⟩
theorem yV_X11_fits : g_yV yX11_fits cX11_fits 2 (some .boolean) 0 := ⟨g_w 1741 (by decide +kernel) rfl, g_w 88 (by decide +kernel) rfl, g_w 104 (by decide +kernel) rfl, g_w 1742 (by decide +kernel) rfl, by decide +kernel, by decide +kernel, by decide +kernel⟩
theorem yV_X11_wasWet : g_yV yX11_wasWet cX11_wasWet 6 (some .int) 1 := ⟨g_w 1732 (by decide +kernel) rfl, g_w 1733 (by decide +kernel) rfl, g_w 104 (by decide +kernel) rfl, g_w 1734 (by decide +kernel) rfl, by decide +kernel, by decide +kernel, by decide +kernel⟩
theorem yV_X11_howQuick : g_yV yX11_howQuick cX11_howQuick 5 (some .int) 1 := ⟨g_w 1744 (by decide +kernel) rfl, g_w 1745 (by decide +kernel) rfl, g_w 104 (by decide +kernel) rfl, g_w 1746 (by decide +kernel) rfl, by decide +kernel, by decide +kernel, by decide +kernel⟩
theorem yV_X11_rowsOf : g_yV yX11_rowsOf cX11_rowsOf 2 (some .int) 1 := ⟨g_w 1753 (by decide +kernel) rfl, g_w 89 (by decide +kernel) rfl, g_w 104 (by decide +kernel) rfl, g_w 1754 (by decide +kernel) rfl, by decide +kernel, by decide +kernel, by decide +kernel⟩
theorem yV_X11_runsBy : g_yV yX11_runsBy cX11_runsBy 3 none 2 := ⟨g_w 1757 (by decide +kernel) rfl, g_w 90 (by decide +kernel) rfl, g_w 104 (by decide +kernel) rfl, g_w 1758 (by decide +kernel) rfl, by decide +kernel, by decide +kernel, by decide +kernel⟩
theorem yS_X11_gcd : g_yS yX11_gcd cX11_gcd 5 (some .int) 2 := ⟨g_w 1760 (by decide +kernel) rfl, g_w 104 (by decide +kernel) rfl, g_w 1761 (by decide +kernel) rfl, by decide +kernel, by decide +kernel, by decide +kernel⟩
theorem yV_X11_odds : g_yV yX11_odds cX11_odds 6 (some .int) 3 := ⟨g_w 1748 (by decide +kernel) rfl, g_w 1749 (by decide +kernel) rfl, g_w 104 (by decide +kernel) rfl, g_w 1750 (by decide +kernel) rfl, by decide +kernel, by decide +kernel, by decide +kernel⟩
theorem yV_X11_should : g_yV yX11_should cX11_should 7 (some .int) 2 := ⟨g_w 1763 (by decide +kernel) rfl, g_w 1764 (by decide +kernel) rfl, g_w 104 (by decide +kernel) rfl, g_w 1765 (by decide +kernel) rfl, by decide +kernel, by decide +kernel, by decide +kernel⟩
theorem yV_X11_practice : g_yV yX11_practice cX11_practice 6 (some .int) 3 := ⟨g_w 1768 (by decide +kernel) rfl, g_w 1769 (by decide +kernel) rfl, g_w 104 (by decide +kernel) rfl, g_w 1770 (by decide +kernel) rfl, by decide +kernel, by decide +kernel, by decide +kernel⟩
theorem yV_X11_seed : g_yV yX11_seed cX11_seed 2 (some .boolean) 1 := ⟨g_w 1774 (by decide +kernel) rfl, g_w 1775 (by decide +kernel) rfl, g_w 104 (by decide +kernel) rfl, g_w 1776 (by decide +kernel) rfl, by decide +kernel, by decide +kernel, by decide +kernel⟩
theorem yS_X11_copies : g_yS yX11_copies cX11_copies 3 none 2 := ⟨g_w 1783 (by decide +kernel) rfl, g_w 104 (by decide +kernel) rfl, g_w 1784 (by decide +kernel) rfl, by decide +kernel, by decide +kernel, by decide +kernel⟩
theorem yV_X11_keep : g_yV yX11_keep cX11_keep 1 (some .int) 0 := ⟨g_w 1779 (by decide +kernel) rfl, g_w 1780 (by decide +kernel) rfl, g_w 104 (by decide +kernel) rfl, g_w 1781 (by decide +kernel) rfl, by decide +kernel, by decide +kernel, by decide +kernel⟩
theorem yV_X11_undo : g_yV yX11_undo cX11_undo 1 (some .boolean) 0 := ⟨g_w 1786 (by decide +kernel) rfl, g_w 1787 (by decide +kernel) rfl, g_w 104 (by decide +kernel) rfl, g_w 1788 (by decide +kernel) rfl, by decide +kernel, by decide +kernel, by decide +kernel⟩
theorem yV_X11_tapeNumber : g_yV yX11_tapeNumber cX11_tapeNumber 4 (some .int) 1 := ⟨g_w 1795 (by decide +kernel) rfl, g_w 91 (by decide +kernel) rfl, g_w 104 (by decide +kernel) rfl, g_w 1796 (by decide +kernel) rfl, by decide +kernel, by decide +kernel, by decide +kernel⟩
theorem yV_X11_check : g_yV yX11_check cX11_check 3 (some .int) 1 := ⟨g_w 1790 (by decide +kernel) rfl, g_w 1791 (by decide +kernel) rfl, g_w 104 (by decide +kernel) rfl, g_w 1792 (by decide +kernel) rfl, by decide +kernel, by decide +kernel, by decide +kernel⟩
theorem yV_X11_count : g_yV yX11_count cX11_count 2 (some .int) 1 := ⟨g_w 1798 (by decide +kernel) rfl, g_w 1799 (by decide +kernel) rfl, g_w 104 (by decide +kernel) rfl, g_w 1800 (by decide +kernel) rfl, by decide +kernel, by decide +kernel, by decide +kernel⟩
end
section
section GM
variable {X : gX} {E : gE} {nL k n : Nat} {l : Launch} {R : Room} {cc : ByteArray} {own : String} {ini : Prop} {ws : va_W} {lv : List (Nat × Value)} {pc pc' idx : Nat} {st : List Value}
theorem g_mmax (cx : g_cx X E nL l R cc own ini) {x y : Int32} (hw : Cond.methodLink own idx Lib.Math.max.name ∈ gT) (hd : g_dc cc pc (.invokestatic idx) 3 pc') (hR : 1 ≤ R.frames ∧ (st.map fun v => v.category).sum + 13 ≤ R.locals) (hk : k ≤ R.cells ∧ n ≤ R.slots) (kk : G X E nL k n ws lv pc' (.int (if x < y then y else x) :: st)) : G X E nL k n ws lv pc (.int y :: .int x :: st) := by
  obtain ⟨p, e, s, args, below, meth, c, Q, hE, hx, hb, hml, hown, hts, hK, hN, hA, hini⟩ := cx
  obtain ⟨hd, rfl⟩ := hd
  intro H locs ls hP hD hS hl0
  have k1 := kk H locs ls hP hD hS hl0
  rw [hE] at k1 ⊢
  exact va_mmax hx hb (hml.trans hl0.1.symm) hown (hts _ hw) (hts _ km_max.1) (hts _ km_ini) (hts _ km_max.2) hR.1 hR.2 hk.1 hk.2 hd k1
theorem g_mmin (cx : g_cx X E nL l R cc own ini) {x y : Int32} (hw : Cond.methodLink own idx Lib.Math.min.name ∈ gT) (hd : g_dc cc pc (.invokestatic idx) 3 pc') (hR : 1 ≤ R.frames ∧ (st.map fun v => v.category).sum + 13 ≤ R.locals) (hk : k ≤ R.cells ∧ n ≤ R.slots) (kk : G X E nL k n ws lv pc' (.int (if y < x then y else x) :: st)) : G X E nL k n ws lv pc (.int y :: .int x :: st) := by
  obtain ⟨p, e, s, args, below, meth, c, Q, hE, hx, hb, hml, hown, hts, hK, hN, hA, hini⟩ := cx
  obtain ⟨hd, rfl⟩ := hd
  intro H locs ls hP hD hS hl0
  have k1 := kk H locs ls hP hD hS hl0
  rw [hE] at k1 ⊢
  exact va_mmin hx hb (hml.trans hl0.1.symm) hown (hts _ hw) (hts _ km_min.1) (hts _ km_ini) (hts _ km_min.2) hR.1 hR.2 hk.1 hk.2 hd k1
theorem g_mabs (cx : g_cx X E nL l R cc own ini) {x : Int32} (hw : Cond.methodLink own idx Lib.Math.abs.name ∈ gT) (hd : g_dc cc pc (.invokestatic idx) 3 pc') (hR : 1 ≤ R.frames ∧ (st.map fun v => v.category).sum + 13 ≤ R.locals) (hk : k ≤ R.cells ∧ n ≤ R.slots) (kk : G X E nL k n ws lv pc' (.int (if 0 ≤ x then x else 0 - x) :: st)) : G X E nL k n ws lv pc (.int x :: st) := by
  obtain ⟨p, e, s, args, below, meth, c, Q, hE, hx, hb, hml, hown, hts, hK, hN, hA, hini⟩ := cx
  obtain ⟨hd, rfl⟩ := hd
  intro H locs ls hP hD hS hl0
  have k1 := kk H locs ls hP hD hS hl0
  rw [hE] at k1 ⊢
  exact va_mabs hx hb (hml.trans hl0.1.symm) hown (hts _ hw) (hts _ km_abs.1) (hts _ km_ini) (hts _ km_abs.2) hR.1 hR.2 hk.1 hk.2 hd k1
/-- System.arraycopy of a whole int array's first places -/
theorem g_copy (cx : g_cx X E nL l R cc own ini) (q0 q1 : Nat) {a0 a n0 n1 : Nat} {f g : Nat → Int32} {z : Int32} (ws' : va_W) (hw : Cond.methodLink own idx arraycopyName ∈ gT) (hd : g_dc cc pc (.invokestatic idx) 3 pc') (ha0 : ws[q0]? = some (a0, .inl (X.2.1, n0, .inl f))) (ha1 : ws[q1]? = some (a, .inl (X.2.1, n1, .inl g))) (h3 : ¬ z < 0) (h4 : z.toNatClampNeg ≤ n0) (h5 : z.toNatClampNeg ≤ n1) (hR : 1 ≤ R.frames ∧ (st.map fun v => v.category).sum + (nativeFrameWords "java/lang/System" "arraycopy" 5 + 11) ≤ R.locals)
    (hws : ws.set q1 (a, .inl (X.2.1, n1, .inl (va_cpy f g 0 0 z.toNatClampNeg))) = ws') (kk : G X E nL k n ws' lv pc' st) : G X E nL k n ws lv pc (.int z :: .int 0 :: .ref a :: .int 0 :: .ref a0 :: st) := by
  obtain ⟨p, e, s, args, below, meth, c, Q, hE, hx, hb, hml, hown, hts, hK, hN, hA, hini⟩ := cx
  obtain ⟨hd, rfl⟩ := hd
  intro H locs ls hP hD hS hl0
  rw [hE]
  have z0 : (0 : Int32).toNatClampNeg = 0 := by decide
  refine va_copyi hx hb (hml.trans hl0.1.symm) hown (hts _ hw) (hts _ ks_copy.1) (hts _ ks_copy.2.1) (hts _ ks_copy.2.2) hK hP hD hS q0 q1 0 0 ha0 ha1 rfl rfl rfl (by decide) (by decide) h3 (by rw [z0, Nat.zero_add]; exact h4) (by rw [z0, Nat.zero_add]; exact h5) (fun i _ => rfl) hR.1 hR.2 hd (fun H1 locs1 hP1 hD1 hS1 => ?_)
  rw [z0] at hP1 hD1
  rw [hws] at hP1 hD1
  have k1 := kk H1 locs1 ls hP1 hD1 hS1 hl0
  rw [hE] at k1
  exact k1
end GM
end
section
def g_in (v a b : Int32) : Int32 := if a ≤ v ∧ v ≤ b then 1 else 0
theorem g_in_a {v a b : Int32} (h : v < a) : 0 = g_in v a b := by
  unfold g_in; rw [if_neg (fun q => Int32.not_le.mpr h q.1)]
theorem g_in_b {v a b : Int32} (h : b < v) : 0 = g_in v a b := by
  unfold g_in; rw [if_neg (fun q => Int32.not_le.mpr h q.2)]
theorem g_in_c {v a b : Int32} (h1 : ¬ v < a) (h2 : ¬ b < v) : 1 = g_in v a b := by
  unfold g_in; rw [if_pos ⟨Int32.not_lt.mp h1, Int32.not_lt.mp h2⟩]
theorem g_in_01 (v a b : Int32) : g_in v a b = 0 ∨ g_in v a b = 1 := by
  unfold g_in; split
  · exact Or.inr rfl
  · exact Or.inl rfl
def g_u (R : Nat → Nat → Int32) (k : Nat) (f : Nat → Int32) : Nat → Nat → Int32 := fun j => if j = k then f else R j

theorem d_X10_within_0 : g_dc cX10_within 0 (.iload_n 0) 1 1 := ⟨by decide +kernel, rfl⟩
theorem d_X10_within_1 : g_dc cX10_within 1 (.iload_n 1) 1 2 := ⟨by decide +kernel, rfl⟩
theorem d_X10_within_2 : g_dc cX10_within 2 (.if_icmp .lt 12) 3 5 := ⟨by decide +kernel, rfl⟩
theorem d_X10_within_5 : g_dc cX10_within 5 (.iload_n 0) 1 6 := ⟨by decide +kernel, rfl⟩
theorem d_X10_within_6 : g_dc cX10_within 6 (.iload_n 2) 1 7 := ⟨by decide +kernel, rfl⟩
theorem d_X10_within_7 : g_dc cX10_within 7 (.if_icmp .gt 7) 3 10 := ⟨by decide +kernel, rfl⟩
theorem d_X10_within_10 : g_dc cX10_within 10 (.iconst 1) 1 11 := ⟨by decide +kernel, rfl⟩
theorem d_X10_within_11 : g_dc cX10_within 11 (.goto 4) 3 14 := ⟨by decide +kernel, rfl⟩
theorem d_X10_within_14 : g_dc cX10_within 14 (.iconst 0) 1 15 := ⟨by decide +kernel, rfl⟩
theorem d_X10_within_15 : g_dc cX10_within 15 (.ireturn) 1 16 := ⟨by decide +kernel, rfl⟩
set_option maxHeartbeats 4000000 in
set_option maxRecDepth 100000 in
theorem c_X10_within (l : Launch) (X : gX) (ws : va_W) (v a b : Int32) : g_Ci l X yX10_within cX10_within 3 (some .boolean) 1 0 0 [.int v, .int a, .int b] ws (fun r w => w = ws ∧ r = g_in v a b) := by
  refine g_mi (by decide +kernel) (Nat.le_of_ble_eq_true rfl) (fun E cx hret => ?_)
  refine g_iload_n cx 0 rfl d_X10_within_0 ?_
  refine g_iload_n cx 1 rfl d_X10_within_1 ?_
  refine g_icmp_lt cx 14 d_X10_within_2 (by decide) (fun zc2 => ?_) (fun zc2 => ?_)
  · refine g_iconst cx 0 (by decide) d_X10_within_14 ?_
    exact hret d_X10_within_15 (Nat.le_of_ble_eq_true rfl) (Nat.le_of_ble_eq_true rfl) rfl ⟨rfl, by first | exact g_in_a (by assumption) | exact g_in_b (by assumption) | exact g_in_c (by assumption) (by assumption)⟩
  · refine g_iload_n cx 0 rfl d_X10_within_5 ?_
    refine g_iload_n cx 2 rfl d_X10_within_6 ?_
    refine g_icmp_gt cx 14 d_X10_within_7 (by decide) (fun zc7 => ?_) (fun zc7 => ?_)
    · refine g_iconst cx 0 (by decide) d_X10_within_14 ?_
      exact hret d_X10_within_15 (Nat.le_of_ble_eq_true rfl) (Nat.le_of_ble_eq_true rfl) rfl ⟨rfl, by first | exact g_in_a (by assumption) | exact g_in_b (by assumption) | exact g_in_c (by assumption) (by assumption)⟩
    · refine g_iconst cx 1 (by decide) d_X10_within_10 ?_
      refine g_goto cx 15 d_X10_within_11 (by decide) ?_
      exact hret d_X10_within_15 (Nat.le_of_ble_eq_true rfl) (Nat.le_of_ble_eq_true rfl) rfl ⟨rfl, by first | exact g_in_a (by assumption) | exact g_in_b (by assumption) | exact g_in_c (by assumption) (by assumption)⟩
theorem d_X11_in_0 : g_dc cX11_in 0 (.iload_n 0) 1 1 := ⟨by decide +kernel, rfl⟩
theorem d_X11_in_1 : g_dc cX11_in 1 (.iload_n 1) 1 2 := ⟨by decide +kernel, rfl⟩
theorem d_X11_in_2 : g_dc cX11_in 2 (.if_icmp .lt 12) 3 5 := ⟨by decide +kernel, rfl⟩
theorem d_X11_in_5 : g_dc cX11_in 5 (.iload_n 0) 1 6 := ⟨by decide +kernel, rfl⟩
theorem d_X11_in_6 : g_dc cX11_in 6 (.iload_n 2) 1 7 := ⟨by decide +kernel, rfl⟩
theorem d_X11_in_7 : g_dc cX11_in 7 (.if_icmp .gt 7) 3 10 := ⟨by decide +kernel, rfl⟩
theorem d_X11_in_10 : g_dc cX11_in 10 (.iconst 1) 1 11 := ⟨by decide +kernel, rfl⟩
theorem d_X11_in_11 : g_dc cX11_in 11 (.goto 4) 3 14 := ⟨by decide +kernel, rfl⟩
theorem d_X11_in_14 : g_dc cX11_in 14 (.iconst 0) 1 15 := ⟨by decide +kernel, rfl⟩
theorem d_X11_in_15 : g_dc cX11_in 15 (.ireturn) 1 16 := ⟨by decide +kernel, rfl⟩
set_option maxHeartbeats 4000000 in
set_option maxRecDepth 100000 in
theorem c_X11_in (l : Launch) (X : gX) (ws : va_W) (v a b : Int32) : g_Ci l X yX11_in cX11_in 3 (some .boolean) 1 0 0 [.int v, .int a, .int b] ws (fun r w => w = ws ∧ r = g_in v a b) := by
  refine g_mi (by decide +kernel) (Nat.le_of_ble_eq_true rfl) (fun E cx hret => ?_)
  refine g_iload_n cx 0 rfl d_X11_in_0 ?_
  refine g_iload_n cx 1 rfl d_X11_in_1 ?_
  refine g_icmp_lt cx 14 d_X11_in_2 (by decide) (fun zc2 => ?_) (fun zc2 => ?_)
  · refine g_iconst cx 0 (by decide) d_X11_in_14 ?_
    exact hret d_X11_in_15 (Nat.le_of_ble_eq_true rfl) (Nat.le_of_ble_eq_true rfl) rfl ⟨rfl, by first | exact g_in_a (by assumption) | exact g_in_b (by assumption) | exact g_in_c (by assumption) (by assumption)⟩
  · refine g_iload_n cx 0 rfl d_X11_in_5 ?_
    refine g_iload_n cx 2 rfl d_X11_in_6 ?_
    refine g_icmp_gt cx 14 d_X11_in_7 (by decide) (fun zc7 => ?_) (fun zc7 => ?_)
    · refine g_iconst cx 0 (by decide) d_X11_in_14 ?_
      exact hret d_X11_in_15 (Nat.le_of_ble_eq_true rfl) (Nat.le_of_ble_eq_true rfl) rfl ⟨rfl, by first | exact g_in_a (by assumption) | exact g_in_b (by assumption) | exact g_in_c (by assumption) (by assumption)⟩
    · refine g_iconst cx 1 (by decide) d_X11_in_10 ?_
      refine g_goto cx 15 d_X11_in_11 (by decide) ?_
      exact hret d_X11_in_15 (Nat.le_of_ble_eq_true rfl) (Nat.le_of_ble_eq_true rfl) rfl ⟨rfl, by first | exact g_in_a (by assumption) | exact g_in_b (by assumption) | exact g_in_c (by assumption) (by assumption)⟩
end
section
/-- the class: every object and row that it makes, its ints F (16 places an object), its rows R -/
def wX (X : gX) (ad : Nat → Nat) (F : Nat → Int32) (R : Nat → Nat → Int32) : va_W := [(ad 0, .inr (10, [.ref (ad 1), .ref (ad 3), .ref (ad 9), .ref (ad 11), .ref (ad 13), .ref (ad 17), .ref (ad 25), .ref (ad 33), .ref (ad 35), .ref (ad 37), .ref (ad 47), .int (F 11), .int (F 12)])), (ad 1, .inr (8, [.int (F 16), .int (F 17), .int (F 18), .int (F 19), .int (F 20), .ref (ad 2)])), (ad 2, .inl (X.2.1, 80, .inl (R 2))), (ad 3, .inr (8, [.int (F 48), .int (F 49), .int (F 50), .int (F 51), .int (F 52), .ref (ad 4)])), (ad 4, .inl (X.2.1, 80, .inl (R 4))), (ad 5, .inr (8, [.int (F 80), .int (F 81), .int (F 82), .int (F 83), .int (F 84), .ref (ad 6)])), (ad 6, .inl (X.2.1, 80, .inl (R 6))), (ad 7, .inr (8, [.int (F 112), .int (F 113), .int (F 114), .int (F 115), .int (F 116), .ref (ad 8)])), (ad 8, .inl (X.2.1, 80, .inl (R 8))), (ad 9, .inr (9, [.ref (ad 10), .int (F 145)])), (ad 10, .inl (X.2.1, 220, .inl (R 10))), (ad 11, .inr (5, [.ref (ad 12), .int (F 177)])), (ad 12, .inl (X.2.1, 60, .inl (R 12))), (ad 13, .inr (5, [.ref (ad 14), .int (F 209)])), (ad 14, .inl (X.2.1, 60, .inl (R 14))), (ad 15, .inr (5, [.ref (ad 16), .int (F 241)])), (ad 16, .inl (X.2.1, 60, .inl (R 16))), (ad 17, .inr (2, [.ref (ad 18), .ref (ad 19), .int (F 274), .ref (ad 20), .ref (ad 21), .ref (ad 22), .int (F 278), .ref (ad 23), .ref (ad 24)])), (ad 18, .inl (X.2.1, 256, .inl (R 18))), (ad 19, .inl (X.2.1, 256, .inl (R 19))), (ad 20, .inl (X.2.1, 14, .inl (R 20))), (ad 21, .inl (X.2.1, 14, .inl (R 21))), (ad 22, .inl (X.2.1, 14, .inl (R 22))), (ad 23, .inl (X.2.1, 12, .inl (R 23))), (ad 24, .inl (X.2.1, 32, .inl (R 24))), (ad 25, .inr (2, [.ref (ad 26), .ref (ad 27), .int (F 402), .ref (ad 28), .ref (ad 29), .ref (ad 30), .int (F 406), .ref (ad 31), .ref (ad 32)])), (ad 26, .inl (X.2.1, 256, .inl (R 26))), (ad 27, .inl (X.2.1, 256, .inl (R 27))), (ad 28, .inl (X.2.1, 14, .inl (R 28))), (ad 29, .inl (X.2.1, 14, .inl (R 29))), (ad 30, .inl (X.2.1, 14, .inl (R 30))), (ad 31, .inl (X.2.1, 12, .inl (R 31))), (ad 32, .inl (X.2.1, 32, .inl (R 32))), (ad 33, .inr (3, [.ref (ad 25), .ref (ad 34), .int (F 530), .int (F 531), .int (F 532)])), (ad 34, .inl (X.2.1, 200, .inl (R 34))), (ad 35, .inr (7, [.ref (ad 37), .ref (ad 5), .ref (ad 15), .ref (ad 43), .int (F 564), .int (F 565), .int (F 566), .int (F 567), .int (F 568), .ref (ad 36), .ref (ad 7), .int (F 571)])), (ad 36, .inl (X.2.1, 5, .inl (R 36))), (ad 37, .inr (0, [.ref (ad 5), .ref (ad 15), .ref (ad 42), .ref (ad 43), .ref (ad 17), .ref (ad 38), .ref (ad 39), .ref (ad 40), .ref (ad 41), .int (F 601), .int (F 602), .int (F 603), .int (F 604), .int (F 605), .int (F 606)])), (ad 38, .inl (X.2.1, 10, .inl (R 38))), (ad 39, .inl (X.2.1, 10, .inl (R 39))), (ad 40, .inl (X.2.1, 10, .inl (R 40))), (ad 41, .inl (X.2.1, 6, .inl (R 41))), (ad 42, .inr (1, [.int (F 672), .int (F 673), .int (F 674), .int (F 675)])), (ad 43, .inr (4, [.ref (ad 44), .ref (ad 45), .ref (ad 46), .int (F 691), .int (F 692), .int (F 693), .int (F 694), .int (F 695), .int (F 696), .int (F 697), .int (F 698)])), (ad 44, .inl (X.2.1, 10, .inl (R 44))), (ad 45, .inl (X.2.1, 10, .inl (R 45))), (ad 46, .inl (X.2.1, 30, .inl (R 46))), (ad 47, .inr (6, [.ref (ad 48), .ref (ad 49), .ref (ad 50), .int (F 755)])), (ad 48, .inl (X.2.1, 5, .inl (R 48))), (ad 49, .inl (X.2.1, 5, .inl (R 49))), (ad 50, .inl (X.2.1, 5, .inl (R 50)))]
/-- the reference: its object, its rows -/
def wM (X : gX) (ad : Nat → Nat) (F : Nat → Int32) (R : Nat → Nat → Int32) : va_W := [(ad 0, .inr (11, [.int (F 0), .int (F 1), .int (F 2), .int (F 3), .int (F 4), .ref (ad 1), .ref (ad 2), .ref (ad 3), .ref (ad 4), .ref (ad 5), .ref (ad 6), .ref (ad 7), .ref (ad 8), .ref (ad 9), .int (F 14), .int (F 15), .int (F 16), .int (F 17), .int (F 18), .int (F 19), .int (F 20), .int (F 21), .ref (ad 10), .ref (ad 11), .int (F 24), .int (F 25), .int (F 26), .int (F 27), .int (F 28), .ref (ad 12), .ref (ad 13), .ref (ad 14), .ref (ad 15), .ref (ad 16), .ref (ad 17), .ref (ad 18), .ref (ad 19), .ref (ad 20), .ref (ad 21), .ref (ad 22), .ref (ad 23), .ref (ad 24), .int (F 42), .int (F 43), .int (F 44), .int (F 45), .int (F 46), .int (F 47), .int (F 48), .int (F 49), .int (F 50), .int (F 51), .ref (ad 25), .ref (ad 26), .ref (ad 27), .ref (ad 28), .ref (ad 29), .ref (ad 30), .ref (ad 31), .ref (ad 32), .ref (ad 33), .ref (ad 34), .ref (ad 35), .ref (ad 36), .ref (ad 37), .int (F 65), .int (F 66), .int (F 67), .int (F 68), .int (F 69), .int (F 70), .int (F 71), .int (F 72), .ref (ad 38), .ref (ad 39), .int (F 75), .ref (ad 40), .int (F 77), .int (F 78), .int (F 79), .int (F 80), .int (F 81), .int (F 82), .ref (ad 41), .ref (ad 42), .ref (ad 43), .ref (ad 44), .ref (ad 45), .ref (ad 46), .ref (ad 47), .ref (ad 48)])), (ad 1, .inl (X.2.1, 10, .inl (R 1))), (ad 2, .inl (X.2.1, 10, .inl (R 2))), (ad 3, .inl (X.2.1, 10, .inl (R 3))), (ad 4, .inl (X.2.1, 10, .inl (R 4))), (ad 5, .inl (X.2.1, 10, .inl (R 5))), (ad 6, .inl (X.2.1, 10, .inl (R 6))), (ad 7, .inl (X.2.1, 10, .inl (R 7))), (ad 8, .inl (X.2.1, 10, .inl (R 8))), (ad 9, .inl (X.2.2, 220, .inl (R 9))), (ad 10, .inl (X.2.1, 60, .inl (R 10))), (ad 11, .inl (X.2.1, 60, .inl (R 11))), (ad 12, .inl (X.2.1, 220, .inl (R 12))), (ad 13, .inl (X.2.1, 220, .inl (R 13))), (ad 14, .inl (X.2.1, 14, .inl (R 14))), (ad 15, .inl (X.2.1, 14, .inl (R 15))), (ad 16, .inl (X.2.1, 14, .inl (R 16))), (ad 17, .inl (X.2.1, 14, .inl (R 17))), (ad 18, .inl (X.2.1, 220, .inl (R 18))), (ad 19, .inl (X.2.1, 14, .inl (R 19))), (ad 20, .inl (X.2.1, 14, .inl (R 20))), (ad 21, .inl (X.2.1, 14, .inl (R 21))), (ad 22, .inl (X.2.1, 14, .inl (R 22))), (ad 23, .inl (X.2.1, 220, .inl (R 23))), (ad 24, .inl (X.2.1, 12, .inl (R 24))), (ad 25, .inl (X.2.1, 60, .inl (R 25))), (ad 26, .inl (X.2.1, 10, .inl (R 26))), (ad 27, .inl (X.2.1, 10, .inl (R 27))), (ad 28, .inl (X.2.1, 10, .inl (R 28))), (ad 29, .inl (X.2.1, 10, .inl (R 29))), (ad 30, .inl (X.2.1, 10, .inl (R 30))), (ad 31, .inl (X.2.1, 10, .inl (R 31))), (ad 32, .inl (X.2.1, 10, .inl (R 32))), (ad 33, .inl (X.2.1, 10, .inl (R 33))), (ad 34, .inl (X.2.1, 10, .inl (R 34))), (ad 35, .inl (X.2.1, 10, .inl (R 35))), (ad 36, .inl (X.2.1, 10, .inl (R 36))), (ad 37, .inl (X.2.1, 10, .inl (R 37))), (ad 38, .inl (X.2.1, 5, .inl (R 38))), (ad 39, .inl (X.2.1, 5, .inl (R 39))), (ad 40, .inl (X.2.1, 10, .inl (R 40))), (ad 41, .inl (X.2.1, 10, .inl (R 41))), (ad 42, .inl (X.2.1, 10, .inl (R 42))), (ad 43, .inl (X.2.1, 10, .inl (R 43))), (ad 44, .inl (X.2.1, 10, .inl (R 44))), (ad 45, .inl (X.2.1, 10, .inl (R 45))), (ad 46, .inl (X.2.1, 10, .inl (R 46))), (ad 47, .inl (X.2.1, 10, .inl (R 47))), (ad 48, .inl (X.2.1, 10, .inl (R 48)))]
/-- the numbers of a new object, of the class and of the reference -/
def fX0 : Nat → Int32 := fun j => match j with
  | 16 => 100 | 17 => 100 | 20 => 1 | 48 => 100 | 49 => 100 | 52 => 1 | 80 => 100 | 81 => 100 | 84 => 1 | 112 => 100 | 113 => 100 | 116 => 1 | 571 => -1 | 673 => 1
  | _ => 0
def fM0 : Nat → Int32 := fun j => match j with
  | 0 => 100 | 1 => 100 | 3 => 1
  | _ => 0
def r0 : Nat → Nat → Int32 := fun _ _ => 0
theorem yS_J6_bitCount_0f7a4 : g_yS yJ6_bitCount_0f7a4 cJ6_bitCount_0f7a4 1 (some .int) 1 := ⟨g_w 895 (by decide +kernel) rfl, g_w 112 (by decide +kernel) rfl, g_w 896 (by decide +kernel) rfl, by decide +kernel, by decide +kernel, by decide +kernel⟩
theorem g_i0 (x : Int32) : x &&& 0 = 0 := Int32.and_zero
theorem nI_i (n : Nat) : Int32.ofNat n = nI n := rfl
theorem g_inj {v M : Int32} {m : Nat} (h : ¬ g_in v 0 M = 0) (hM : M.toInt = m) : ∃ j : Nat, j ≤ m ∧ v = nI j := by
  unfold g_in at h
  split at h
  · rename_i h1
    exact nI_of2 hM (Int32.not_lt.mpr h1.1) h1.2
  · exact absurd rfl h
def g_has (told i : Int32) : Int32 := if g_in i 0 9 = 0 then 0 else if told &&& (1 <<< (i &&& 31)) = 0 then 0 else 1
def g_side (f : Nat → Int32) (i what : Int32) : Int32 := if g_in i 0 9 = 0 then 0 else if g_in what 0 7 = 0 then 0 else f (i * 8 + what).toNatClampNeg
def g_hf (len e folds q : Int32) : Int32 := if g_in q 0 5 = 0 then 0 else if folds &&& (1 <<< (q &&& 31)) = 0 then 0 else if q * len / 6 < e then 1 else 0
theorem g_side_in {i what : Int32} (h1 : ¬ g_in i 0 9 = 0) (h2 : ¬ g_in what 0 7 = 0) : vp_in (i * 8 + what) 80 := by
  obtain ⟨a, ha, rfl⟩ := g_inj (m := 9) h1 (by decide)
  obtain ⟨b, hb, rfl⟩ := g_inj (m := 7) h2 (by decide)
  rw [show (8 : Int32) = nI 8 from rfl, pk_mul, nI_add]
  exact vp_in_nI (by omega) (by decide)
def g_pa (f : Nat → Int32) (ticks t : Int32) : Int32 := if t < 0 then 0 else if ticks ≤ t then 0 else if 60 ≤ t then 0 else f t.toNatClampNeg
theorem g_ltn {n c : Nat} (h : n < c) (hc : c < 2 ^ 31) : nI n < nI c := nI_lt h hc
theorem g_vin {t : Int32} {N : Int32} {n : Nat} (hN : N.toInt = n) (h0 : ¬ t < 0) (h1 : t < N) : vp_in t n := by
  rw [vp_in_iff]
  have a := Int32.le_iff_toInt_le.mp (Int32.not_lt.mp h0)
  have b := Int32.lt_iff_toInt_lt.mp h1
  rw [Int32.toInt_zero] at a
  rw [hN] at b
  exact ⟨a, b⟩
def g_bc (i : Int32) : Int32 := i

theorem d_X8_has_0 : g_dc cX8_has 0 (.iload_n 1) 1 1 := ⟨by decide +kernel, rfl⟩
theorem d_X8_has_1 : g_dc cX8_has 1 (.iconst 0) 1 2 := ⟨by decide +kernel, rfl⟩
theorem d_X8_has_2 : g_dc cX8_has 2 (.bipush 9) 2 4 := ⟨by decide +kernel, rfl⟩
theorem d_X8_has_4 : g_dc cX8_has 4 (.invokestatic 31) 3 7 := ⟨by decide +kernel, rfl⟩
theorem d_X8_has_7 : g_dc cX8_has 7 (.ifCond .eq 18) 3 10 := ⟨by decide +kernel, rfl⟩
theorem d_X8_has_10 : g_dc cX8_has 10 (.aload_n 0) 1 11 := ⟨by decide +kernel, rfl⟩
theorem d_X8_has_11 : g_dc cX8_has 11 (.getfield 21) 3 14 := ⟨by decide +kernel, rfl⟩
theorem d_X8_has_14 : g_dc cX8_has 14 (.iconst 1) 1 15 := ⟨by decide +kernel, rfl⟩
theorem d_X8_has_15 : g_dc cX8_has 15 (.iload_n 1) 1 16 := ⟨by decide +kernel, rfl⟩
theorem d_X8_has_16 : g_dc cX8_has 16 (.ishl) 1 17 := ⟨by decide +kernel, rfl⟩
theorem d_X8_has_17 : g_dc cX8_has 17 (.iand) 1 18 := ⟨by decide +kernel, rfl⟩
theorem d_X8_has_18 : g_dc cX8_has 18 (.ifCond .eq 7) 3 21 := ⟨by decide +kernel, rfl⟩
theorem d_X8_has_21 : g_dc cX8_has 21 (.iconst 1) 1 22 := ⟨by decide +kernel, rfl⟩
theorem d_X8_has_22 : g_dc cX8_has 22 (.goto 4) 3 25 := ⟨by decide +kernel, rfl⟩
theorem d_X8_has_25 : g_dc cX8_has 25 (.iconst 0) 1 26 := ⟨by decide +kernel, rfl⟩
theorem d_X8_has_26 : g_dc cX8_has 26 (.ireturn) 1 27 := ⟨by decide +kernel, rfl⟩
set_option maxHeartbeats 4000000 in
set_option maxRecDepth 100000 in
theorem c_X8_has (l : Launch) (X : gX) (t sa : Nat) (len e0 folds told x : Int32) (f : Nat → Int32) (i : Int32) : g_Ci l X yX8_has cX8_has 2 (some .boolean) 2 0 0 [.ref t, .int i] [(t, .inr (8, [.int len, .int e0, .int folds, .int told, .int x, .ref sa])), (sa, .inl (X.2.1, 80, .inl f))] (fun r w => w = [(t, .inr (8, [.int len, .int e0, .int folds, .int told, .int x, .ref sa])), (sa, .inl (X.2.1, 80, .inl f))] ∧ r = g_has told i) := by
  refine g_mi (by decide +kernel) (Nat.le_of_ble_eq_true rfl) (fun E cx hret => ?_)
  refine g_iload_n cx 1 rfl d_X8_has_0 ?_
  refine g_iconst cx 0 (by decide) d_X8_has_1 ?_
  refine g_bipush cx 9 (by decide) d_X8_has_2 ?_
  refine g_cNiW cx [.int i, .int 0, .int 9] [] (c_X10_within l X _ i 0 9) mn_X8_31 yS_X10_within d_X8_has_4 (by unfold g_rr; decide) (by decide) rfl (Nat.le_of_ble_eq_true rfl) (fun r1 w2 h3 => ?_)
  obtain ⟨rfl, rfl⟩ := h3
  refine g_if_eq cx 25 d_X8_has_7 (by decide) (fun zc7 => ?_) (fun zc7 => ?_)
  · refine g_iconst cx 0 (by decide) d_X8_has_25 ?_
    exact hret d_X8_has_26 (Nat.le_of_ble_eq_true rfl) (Nat.le_of_ble_eq_true rfl) rfl (⟨rfl, by simp [g_has, *]⟩)
  · refine g_aload_n cx 0 rfl d_X8_has_10 ?_
    refine g_get cx cl_X8 fl_X8_21 0 (.int told) d_X8_has_11 rfl rfl ?_
    refine g_iconst cx 1 (by decide) d_X8_has_14 ?_
    refine g_iload_n cx 1 rfl d_X8_has_15 ?_
    refine g_ishl cx d_X8_has_16 ?_
    refine g_iand cx d_X8_has_17 ?_
    refine g_if_eq cx 25 d_X8_has_18 (by decide) (fun zc18 => ?_) (fun zc18 => ?_)
    · refine g_iconst cx 0 (by decide) d_X8_has_25 ?_
      exact hret d_X8_has_26 (Nat.le_of_ble_eq_true rfl) (Nat.le_of_ble_eq_true rfl) rfl (⟨rfl, by simp [g_has, *]⟩)
    · refine g_iconst cx 1 (by decide) d_X8_has_21 ?_
      refine g_goto cx 26 d_X8_has_22 (by decide) ?_
      exact hret d_X8_has_26 (Nat.le_of_ble_eq_true rfl) (Nat.le_of_ble_eq_true rfl) rfl (⟨rfl, by simp [g_has, *]⟩)
theorem d_X8_side_0 : g_dc cX8_side 0 (.iload_n 1) 1 1 := ⟨by decide +kernel, rfl⟩
theorem d_X8_side_1 : g_dc cX8_side 1 (.iconst 0) 1 2 := ⟨by decide +kernel, rfl⟩
theorem d_X8_side_2 : g_dc cX8_side 2 (.bipush 9) 2 4 := ⟨by decide +kernel, rfl⟩
theorem d_X8_side_4 : g_dc cX8_side 4 (.invokestatic 31) 3 7 := ⟨by decide +kernel, rfl⟩
theorem d_X8_side_7 : g_dc cX8_side 7 (.ifCond .eq 27) 3 10 := ⟨by decide +kernel, rfl⟩
theorem d_X8_side_10 : g_dc cX8_side 10 (.iload_n 2) 1 11 := ⟨by decide +kernel, rfl⟩
theorem d_X8_side_11 : g_dc cX8_side 11 (.iconst 0) 1 12 := ⟨by decide +kernel, rfl⟩
theorem d_X8_side_12 : g_dc cX8_side 12 (.bipush 7) 2 14 := ⟨by decide +kernel, rfl⟩
theorem d_X8_side_14 : g_dc cX8_side 14 (.invokestatic 31) 3 17 := ⟨by decide +kernel, rfl⟩
theorem d_X8_side_17 : g_dc cX8_side 17 (.ifCond .eq 17) 3 20 := ⟨by decide +kernel, rfl⟩
theorem d_X8_side_20 : g_dc cX8_side 20 (.aload_n 0) 1 21 := ⟨by decide +kernel, rfl⟩
theorem d_X8_side_21 : g_dc cX8_side 21 (.getfield 27) 3 24 := ⟨by decide +kernel, rfl⟩
theorem d_X8_side_24 : g_dc cX8_side 24 (.iload_n 1) 1 25 := ⟨by decide +kernel, rfl⟩
theorem d_X8_side_25 : g_dc cX8_side 25 (.bipush 8) 2 27 := ⟨by decide +kernel, rfl⟩
theorem d_X8_side_27 : g_dc cX8_side 27 (.imul) 1 28 := ⟨by decide +kernel, rfl⟩
theorem d_X8_side_28 : g_dc cX8_side 28 (.iload_n 2) 1 29 := ⟨by decide +kernel, rfl⟩
theorem d_X8_side_29 : g_dc cX8_side 29 (.iadd) 1 30 := ⟨by decide +kernel, rfl⟩
theorem d_X8_side_30 : g_dc cX8_side 30 (.iaload) 1 31 := ⟨by decide +kernel, rfl⟩
theorem d_X8_side_31 : g_dc cX8_side 31 (.goto 4) 3 34 := ⟨by decide +kernel, rfl⟩
theorem d_X8_side_34 : g_dc cX8_side 34 (.iconst 0) 1 35 := ⟨by decide +kernel, rfl⟩
theorem d_X8_side_35 : g_dc cX8_side 35 (.ireturn) 1 36 := ⟨by decide +kernel, rfl⟩
set_option maxHeartbeats 4000000 in
set_option maxRecDepth 100000 in
theorem c_X8_side (l : Launch) (X : gX) (t sa : Nat) (len e0 folds told x : Int32) (f : Nat → Int32) (i what : Int32) : g_Ci l X yX8_side cX8_side 3 (some .int) 2 0 0 [.ref t, .int i, .int what] [(t, .inr (8, [.int len, .int e0, .int folds, .int told, .int x, .ref sa])), (sa, .inl (X.2.1, 80, .inl f))] (fun r w => w = [(t, .inr (8, [.int len, .int e0, .int folds, .int told, .int x, .ref sa])), (sa, .inl (X.2.1, 80, .inl f))] ∧ r = g_side f i what) := by
  refine g_mi (by decide +kernel) (Nat.le_of_ble_eq_true rfl) (fun E cx hret => ?_)
  refine g_iload_n cx 1 rfl d_X8_side_0 ?_
  refine g_iconst cx 0 (by decide) d_X8_side_1 ?_
  refine g_bipush cx 9 (by decide) d_X8_side_2 ?_
  refine g_cNiW cx [.int i, .int 0, .int 9] [] (c_X10_within l X _ i 0 9) mn_X8_31 yS_X10_within d_X8_side_4 (by unfold g_rr; decide) (by decide) rfl (Nat.le_of_ble_eq_true rfl) (fun r1 w2 h3 => ?_)
  obtain ⟨rfl, rfl⟩ := h3
  refine g_if_eq cx 34 d_X8_side_7 (by decide) (fun zc7 => ?_) (fun zc7 => ?_)
  · refine g_iconst cx 0 (by decide) d_X8_side_34 ?_
    exact hret d_X8_side_35 (Nat.le_of_ble_eq_true rfl) (Nat.le_of_ble_eq_true rfl) rfl (⟨rfl, by simp [g_side, *]⟩)
  · refine g_iload_n cx 2 rfl d_X8_side_10 ?_
    refine g_iconst cx 0 (by decide) d_X8_side_11 ?_
    refine g_bipush cx 7 (by decide) d_X8_side_12 ?_
    refine g_cNiW cx [.int what, .int 0, .int 7] [] (c_X10_within l X _ what 0 7) mn_X8_31 yS_X10_within d_X8_side_14 (by unfold g_rr; decide) (by decide) rfl (Nat.le_of_ble_eq_true rfl) (fun r4 w5 h6 => ?_)
    obtain ⟨rfl, rfl⟩ := h6
    refine g_if_eq cx 34 d_X8_side_17 (by decide) (fun zc17 => ?_) (fun zc17 => ?_)
    · refine g_iconst cx 0 (by decide) d_X8_side_34 ?_
      exact hret d_X8_side_35 (Nat.le_of_ble_eq_true rfl) (Nat.le_of_ble_eq_true rfl) rfl (⟨rfl, by simp [g_side, *]⟩)
    · refine g_aload_n cx 0 rfl d_X8_side_20 ?_
      refine g_get cx cl_X8 fl_X8_27 0 (.ref sa) d_X8_side_21 rfl rfl ?_
      refine g_iload_n cx 1 rfl d_X8_side_24 ?_
      refine g_bipush cx 8 (by decide) d_X8_side_25 ?_
      refine g_imul cx d_X8_side_27 ?_
      refine g_iload_n cx 2 rfl d_X8_side_28 ?_
      refine g_iadd cx d_X8_side_29 ?_
      refine g_iald cx 1 d_X8_side_30 rfl (g_side_in (by assumption) (by assumption)) ?_
      refine g_goto cx 35 d_X8_side_31 (by decide) ?_
      exact hret d_X8_side_35 (Nat.le_of_ble_eq_true rfl) (Nat.le_of_ble_eq_true rfl) rfl (⟨rfl, by simp [g_side, *]⟩)
theorem d_X8_foldPlace_0 : g_dc cX8_foldPlace 0 (.iload_n 1) 1 1 := ⟨by decide +kernel, rfl⟩
theorem d_X8_foldPlace_1 : g_dc cX8_foldPlace 1 (.aload_n 0) 1 2 := ⟨by decide +kernel, rfl⟩
theorem d_X8_foldPlace_2 : g_dc cX8_foldPlace 2 (.getfield 9) 3 5 := ⟨by decide +kernel, rfl⟩
theorem d_X8_foldPlace_5 : g_dc cX8_foldPlace 5 (.imul) 1 6 := ⟨by decide +kernel, rfl⟩
theorem d_X8_foldPlace_6 : g_dc cX8_foldPlace 6 (.bipush 6) 2 8 := ⟨by decide +kernel, rfl⟩
theorem d_X8_foldPlace_8 : g_dc cX8_foldPlace 8 (.idiv) 1 9 := ⟨by decide +kernel, rfl⟩
theorem d_X8_foldPlace_9 : g_dc cX8_foldPlace 9 (.ireturn) 1 10 := ⟨by decide +kernel, rfl⟩
set_option maxHeartbeats 4000000 in
set_option maxRecDepth 100000 in
theorem c_X8_foldPlace (l : Launch) (X : gX) (t sa : Nat) (len e0 folds told x : Int32) (f : Nat → Int32) (q : Int32) : g_Ci l X yX8_foldPlace cX8_foldPlace 2 (some .int) 1 0 0 [.ref t, .int q] [(t, .inr (8, [.int len, .int e0, .int folds, .int told, .int x, .ref sa])), (sa, .inl (X.2.1, 80, .inl f))] (fun r w => w = [(t, .inr (8, [.int len, .int e0, .int folds, .int told, .int x, .ref sa])), (sa, .inl (X.2.1, 80, .inl f))] ∧ r = q * len / 6) := by
  refine g_mi (by decide +kernel) (Nat.le_of_ble_eq_true rfl) (fun E cx hret => ?_)
  refine g_iload_n cx 1 rfl d_X8_foldPlace_0 ?_
  refine g_aload_n cx 0 rfl d_X8_foldPlace_1 ?_
  refine g_get cx cl_X8 fl_X8_9 0 (.int len) d_X8_foldPlace_2 rfl rfl ?_
  refine g_imul cx d_X8_foldPlace_5 ?_
  refine g_bipush cx 6 (by decide) d_X8_foldPlace_6 ?_
  refine g_idiv cx (by decide) d_X8_foldPlace_8 ?_
  exact hret d_X8_foldPlace_9 (Nat.le_of_ble_eq_true rfl) (Nat.le_of_ble_eq_true rfl) rfl (⟨rfl, rfl⟩)
theorem d_X8_hasFold_0 : g_dc cX8_hasFold 0 (.iload_n 1) 1 1 := ⟨by decide +kernel, rfl⟩
theorem d_X8_hasFold_1 : g_dc cX8_hasFold 1 (.iconst 0) 1 2 := ⟨by decide +kernel, rfl⟩
theorem d_X8_hasFold_2 : g_dc cX8_hasFold 2 (.iconst 5) 1 3 := ⟨by decide +kernel, rfl⟩
theorem d_X8_hasFold_3 : g_dc cX8_hasFold 3 (.invokestatic 31) 3 6 := ⟨by decide +kernel, rfl⟩
theorem d_X8_hasFold_6 : g_dc cX8_hasFold 6 (.ifCond .eq 30) 3 9 := ⟨by decide +kernel, rfl⟩
theorem d_X8_hasFold_9 : g_dc cX8_hasFold 9 (.aload_n 0) 1 10 := ⟨by decide +kernel, rfl⟩
theorem d_X8_hasFold_10 : g_dc cX8_hasFold 10 (.getfield 18) 3 13 := ⟨by decide +kernel, rfl⟩
theorem d_X8_hasFold_13 : g_dc cX8_hasFold 13 (.iconst 1) 1 14 := ⟨by decide +kernel, rfl⟩
theorem d_X8_hasFold_14 : g_dc cX8_hasFold 14 (.iload_n 1) 1 15 := ⟨by decide +kernel, rfl⟩
theorem d_X8_hasFold_15 : g_dc cX8_hasFold 15 (.ishl) 1 16 := ⟨by decide +kernel, rfl⟩
theorem d_X8_hasFold_16 : g_dc cX8_hasFold 16 (.iand) 1 17 := ⟨by decide +kernel, rfl⟩
theorem d_X8_hasFold_17 : g_dc cX8_hasFold 17 (.ifCond .eq 19) 3 20 := ⟨by decide +kernel, rfl⟩
theorem d_X8_hasFold_20 : g_dc cX8_hasFold 20 (.aload_n 0) 1 21 := ⟨by decide +kernel, rfl⟩
theorem d_X8_hasFold_21 : g_dc cX8_hasFold 21 (.iload_n 1) 1 22 := ⟨by decide +kernel, rfl⟩
theorem d_X8_hasFold_22 : g_dc cX8_hasFold 22 (.invokevirtual 35) 3 25 := ⟨by decide +kernel, rfl⟩
theorem d_X8_hasFold_25 : g_dc cX8_hasFold 25 (.aload_n 0) 1 26 := ⟨by decide +kernel, rfl⟩
theorem d_X8_hasFold_26 : g_dc cX8_hasFold 26 (.getfield 15) 3 29 := ⟨by decide +kernel, rfl⟩
theorem d_X8_hasFold_29 : g_dc cX8_hasFold 29 (.if_icmp .ge 7) 3 32 := ⟨by decide +kernel, rfl⟩
theorem d_X8_hasFold_32 : g_dc cX8_hasFold 32 (.iconst 1) 1 33 := ⟨by decide +kernel, rfl⟩
theorem d_X8_hasFold_33 : g_dc cX8_hasFold 33 (.goto 4) 3 36 := ⟨by decide +kernel, rfl⟩
theorem d_X8_hasFold_36 : g_dc cX8_hasFold 36 (.iconst 0) 1 37 := ⟨by decide +kernel, rfl⟩
theorem d_X8_hasFold_37 : g_dc cX8_hasFold 37 (.ireturn) 1 38 := ⟨by decide +kernel, rfl⟩
set_option maxHeartbeats 4000000 in
set_option maxRecDepth 100000 in
theorem c_X8_hasFold (l : Launch) (X : gX) (t sa : Nat) (len e0 folds told x : Int32) (f : Nat → Int32) (q : Int32) : g_Ci l X yX8_hasFold cX8_hasFold 2 (some .boolean) 2 0 0 [.ref t, .int q] [(t, .inr (8, [.int len, .int e0, .int folds, .int told, .int x, .ref sa])), (sa, .inl (X.2.1, 80, .inl f))] (fun r w => w = [(t, .inr (8, [.int len, .int e0, .int folds, .int told, .int x, .ref sa])), (sa, .inl (X.2.1, 80, .inl f))] ∧ r = g_hf len e0 folds q) := by
  refine g_mi (by decide +kernel) (Nat.le_of_ble_eq_true rfl) (fun E cx hret => ?_)
  refine g_iload_n cx 1 rfl d_X8_hasFold_0 ?_
  refine g_iconst cx 0 (by decide) d_X8_hasFold_1 ?_
  refine g_iconst cx 5 (by decide) d_X8_hasFold_2 ?_
  refine g_cNiW cx [.int q, .int 0, .int 5] [] (c_X10_within l X _ q 0 5) mn_X8_31 yS_X10_within d_X8_hasFold_3 (by unfold g_rr; decide) (by decide) rfl (Nat.le_of_ble_eq_true rfl) (fun r1 w2 h3 => ?_)
  obtain ⟨rfl, rfl⟩ := h3
  refine g_if_eq cx 36 d_X8_hasFold_6 (by decide) (fun zc6 => ?_) (fun zc6 => ?_)
  · refine g_iconst cx 0 (by decide) d_X8_hasFold_36 ?_
    exact hret d_X8_hasFold_37 (Nat.le_of_ble_eq_true rfl) (Nat.le_of_ble_eq_true rfl) rfl (⟨rfl, by simp only [g_hf, *] <;> simp [*]⟩)
  · refine g_aload_n cx 0 rfl d_X8_hasFold_9 ?_
    refine g_get cx cl_X8 fl_X8_18 0 (.int folds) d_X8_hasFold_10 rfl rfl ?_
    refine g_iconst cx 1 (by decide) d_X8_hasFold_13 ?_
    refine g_iload_n cx 1 rfl d_X8_hasFold_14 ?_
    refine g_ishl cx d_X8_hasFold_15 ?_
    refine g_iand cx d_X8_hasFold_16 ?_
    refine g_if_eq cx 36 d_X8_hasFold_17 (by decide) (fun zc17 => ?_) (fun zc17 => ?_)
    · refine g_iconst cx 0 (by decide) d_X8_hasFold_36 ?_
      exact hret d_X8_hasFold_37 (Nat.le_of_ble_eq_true rfl) (Nat.le_of_ble_eq_true rfl) rfl (⟨rfl, by simp only [g_hf, *] <;> simp [*]⟩)
    · refine g_aload_n cx 0 rfl d_X8_hasFold_20 ?_
      refine g_iload_n cx 1 rfl d_X8_hasFold_21 ?_
      refine g_cVi cx [.int q] [] (c_X8_foldPlace l X t sa len e0 folds told x f q) ml_X8_35 yV_X8_foldPlace d_X8_hasFold_22 (by unfold g_rr; decide) (by decide) 0 rfl rfl [0, 1] rfl (by decide) rfl (Nat.le_of_ble_eq_true rfl) (by rintro _ _ ⟨rfl, _⟩; rfl) (fun r4 w5 h6 => ?_)
      obtain ⟨rfl, rfl⟩ := h6
      refine g_weq ([(t, .inr (8, [.int len, .int e0, .int folds, .int told, .int x, .ref sa])), (sa, .inl (X.2.1, 80, .inl f))]) (g_rep_same rfl) ?_
      refine g_aload_n cx 0 rfl d_X8_hasFold_25 ?_
      refine g_get cx cl_X8 fl_X8_15 0 (.int e0) d_X8_hasFold_26 rfl rfl ?_
      refine g_icmp_ge cx 36 d_X8_hasFold_29 (by decide) (fun zc29 => ?_) (fun zc29 => ?_)
      · refine g_iconst cx 0 (by decide) d_X8_hasFold_36 ?_
        exact hret d_X8_hasFold_37 (Nat.le_of_ble_eq_true rfl) (Nat.le_of_ble_eq_true rfl) rfl (⟨rfl, by simp only [g_hf, *] <;> simp [*]⟩)
      · refine g_iconst cx 1 (by decide) d_X8_hasFold_32 ?_
        refine g_goto cx 37 d_X8_hasFold_33 (by decide) ?_
        exact hret d_X8_hasFold_37 (Nat.le_of_ble_eq_true rfl) (Nat.le_of_ble_eq_true rfl) rfl (⟨rfl, by simp only [g_hf, *] <;> simp [*]⟩)
theorem d_X8_copy_0 : g_dc cX8_copy 0 (.aload_n 1) 1 1 := ⟨by decide +kernel, rfl⟩
theorem d_X8_copy_1 : g_dc cX8_copy 1 (.ifnonnull 4) 3 4 := ⟨by decide +kernel, rfl⟩
theorem d_X8_copy_5 : g_dc cX8_copy 5 (.aload_n 0) 1 6 := ⟨by decide +kernel, rfl⟩
theorem d_X8_copy_6 : g_dc cX8_copy 6 (.aload_n 1) 1 7 := ⟨by decide +kernel, rfl⟩
theorem d_X8_copy_7 : g_dc cX8_copy 7 (.getfield 9) 3 10 := ⟨by decide +kernel, rfl⟩
theorem d_X8_copy_10 : g_dc cX8_copy 10 (.putfield 9) 3 13 := ⟨by decide +kernel, rfl⟩
theorem d_X8_copy_13 : g_dc cX8_copy 13 (.aload_n 0) 1 14 := ⟨by decide +kernel, rfl⟩
theorem d_X8_copy_14 : g_dc cX8_copy 14 (.aload_n 1) 1 15 := ⟨by decide +kernel, rfl⟩
theorem d_X8_copy_15 : g_dc cX8_copy 15 (.getfield 15) 3 18 := ⟨by decide +kernel, rfl⟩
theorem d_X8_copy_18 : g_dc cX8_copy 18 (.putfield 15) 3 21 := ⟨by decide +kernel, rfl⟩
theorem d_X8_copy_21 : g_dc cX8_copy 21 (.aload_n 0) 1 22 := ⟨by decide +kernel, rfl⟩
theorem d_X8_copy_22 : g_dc cX8_copy 22 (.aload_n 1) 1 23 := ⟨by decide +kernel, rfl⟩
theorem d_X8_copy_23 : g_dc cX8_copy 23 (.getfield 18) 3 26 := ⟨by decide +kernel, rfl⟩
theorem d_X8_copy_26 : g_dc cX8_copy 26 (.putfield 18) 3 29 := ⟨by decide +kernel, rfl⟩
theorem d_X8_copy_29 : g_dc cX8_copy 29 (.aload_n 0) 1 30 := ⟨by decide +kernel, rfl⟩
theorem d_X8_copy_30 : g_dc cX8_copy 30 (.aload_n 1) 1 31 := ⟨by decide +kernel, rfl⟩
theorem d_X8_copy_31 : g_dc cX8_copy 31 (.getfield 21) 3 34 := ⟨by decide +kernel, rfl⟩
theorem d_X8_copy_34 : g_dc cX8_copy 34 (.putfield 21) 3 37 := ⟨by decide +kernel, rfl⟩
theorem d_X8_copy_37 : g_dc cX8_copy 37 (.aload_n 0) 1 38 := ⟨by decide +kernel, rfl⟩
theorem d_X8_copy_38 : g_dc cX8_copy 38 (.aload_n 1) 1 39 := ⟨by decide +kernel, rfl⟩
theorem d_X8_copy_39 : g_dc cX8_copy 39 (.getfield 24) 3 42 := ⟨by decide +kernel, rfl⟩
theorem d_X8_copy_42 : g_dc cX8_copy 42 (.putfield 24) 3 45 := ⟨by decide +kernel, rfl⟩
theorem d_X8_copy_45 : g_dc cX8_copy 45 (.aload_n 1) 1 46 := ⟨by decide +kernel, rfl⟩
theorem d_X8_copy_46 : g_dc cX8_copy 46 (.getfield 27) 3 49 := ⟨by decide +kernel, rfl⟩
theorem d_X8_copy_49 : g_dc cX8_copy 49 (.iconst 0) 1 50 := ⟨by decide +kernel, rfl⟩
theorem d_X8_copy_50 : g_dc cX8_copy 50 (.aload_n 0) 1 51 := ⟨by decide +kernel, rfl⟩
theorem d_X8_copy_51 : g_dc cX8_copy 51 (.getfield 27) 3 54 := ⟨by decide +kernel, rfl⟩
theorem d_X8_copy_54 : g_dc cX8_copy 54 (.iconst 0) 1 55 := ⟨by decide +kernel, rfl⟩
theorem d_X8_copy_55 : g_dc cX8_copy 55 (.aload_n 0) 1 56 := ⟨by decide +kernel, rfl⟩
theorem d_X8_copy_56 : g_dc cX8_copy 56 (.getfield 27) 3 59 := ⟨by decide +kernel, rfl⟩
theorem d_X8_copy_59 : g_dc cX8_copy 59 (.arraylength) 1 60 := ⟨by decide +kernel, rfl⟩
theorem d_X8_copy_60 : g_dc cX8_copy 60 (.invokestatic 39) 3 63 := ⟨by decide +kernel, rfl⟩
theorem d_X8_copy_63 : g_dc cX8_copy 63 (.return_) 1 64 := ⟨by decide +kernel, rfl⟩
set_option maxHeartbeats 4000000 in
set_option maxRecDepth 100000 in
theorem c_X8_copy (l : Launch) (X : gX) (t sa : Nat) (len e0 folds told x : Int32) (f : Nat → Int32) (o sb : Nat) (len2 e2 folds2 told2 x2 : Int32) (g : Nat → Int32) : g_Cv l X yX8_copy cX8_copy 2 1 0 0 [.ref t, .ref o] [(t, .inr (8, [.int len, .int e0, .int folds, .int told, .int x, .ref sa])), (sa, .inl (X.2.1, 80, .inl f)), (o, .inr (8, [.int len2, .int e2, .int folds2, .int told2, .int x2, .ref sb])), (sb, .inl (X.2.1, 80, .inl g))] (fun w => w = [(t, .inr (8, [.int len2, .int e2, .int folds2, .int told2, .int x2, .ref sa])), (sa, .inl (X.2.1, 80, .inl (va_cpy g f 0 0 80))), (o, .inr (8, [.int len2, .int e2, .int folds2, .int told2, .int x2, .ref sb])), (sb, .inl (X.2.1, 80, .inl g))] ∧ True) := by
  refine g_mv (by decide +kernel) (Nat.le_of_ble_eq_true rfl) (fun E cx hret => ?_)
  refine g_aload_n cx 1 rfl d_X8_copy_0 ?_
  refine g_ifnonnull cx 5 d_X8_copy_1 (by decide) ?_
  refine g_aload_n cx 0 rfl d_X8_copy_5 ?_
  refine g_aload_n cx 1 rfl d_X8_copy_6 ?_
  refine g_get cx cl_X8 fl_X8_9 2 (.int len2) d_X8_copy_7 rfl rfl ?_
  refine g_put cx cl_X8 fl_X8_9 0 ([(t, .inr (8, [.int len2, .int e0, .int folds, .int told, .int x, .ref sa])), (sa, .inl (X.2.1, 80, .inl f)), (o, .inr (8, [.int len2, .int e2, .int folds2, .int told2, .int x2, .ref sb])), (sb, .inl (X.2.1, 80, .inl g))]) d_X8_copy_10 rfl rfl rfl rfl (Nat.le_of_ble_eq_true rfl) rfl ?_
  refine g_aload_n cx 0 rfl d_X8_copy_13 ?_
  refine g_aload_n cx 1 rfl d_X8_copy_14 ?_
  refine g_get cx cl_X8 fl_X8_15 2 (.int e2) d_X8_copy_15 rfl rfl ?_
  refine g_put cx cl_X8 fl_X8_15 0 ([(t, .inr (8, [.int len2, .int e2, .int folds, .int told, .int x, .ref sa])), (sa, .inl (X.2.1, 80, .inl f)), (o, .inr (8, [.int len2, .int e2, .int folds2, .int told2, .int x2, .ref sb])), (sb, .inl (X.2.1, 80, .inl g))]) d_X8_copy_18 rfl rfl rfl rfl (Nat.le_of_ble_eq_true rfl) rfl ?_
  refine g_aload_n cx 0 rfl d_X8_copy_21 ?_
  refine g_aload_n cx 1 rfl d_X8_copy_22 ?_
  refine g_get cx cl_X8 fl_X8_18 2 (.int folds2) d_X8_copy_23 rfl rfl ?_
  refine g_put cx cl_X8 fl_X8_18 0 ([(t, .inr (8, [.int len2, .int e2, .int folds2, .int told, .int x, .ref sa])), (sa, .inl (X.2.1, 80, .inl f)), (o, .inr (8, [.int len2, .int e2, .int folds2, .int told2, .int x2, .ref sb])), (sb, .inl (X.2.1, 80, .inl g))]) d_X8_copy_26 rfl rfl rfl rfl (Nat.le_of_ble_eq_true rfl) rfl ?_
  refine g_aload_n cx 0 rfl d_X8_copy_29 ?_
  refine g_aload_n cx 1 rfl d_X8_copy_30 ?_
  refine g_get cx cl_X8 fl_X8_21 2 (.int told2) d_X8_copy_31 rfl rfl ?_
  refine g_put cx cl_X8 fl_X8_21 0 ([(t, .inr (8, [.int len2, .int e2, .int folds2, .int told2, .int x, .ref sa])), (sa, .inl (X.2.1, 80, .inl f)), (o, .inr (8, [.int len2, .int e2, .int folds2, .int told2, .int x2, .ref sb])), (sb, .inl (X.2.1, 80, .inl g))]) d_X8_copy_34 rfl rfl rfl rfl (Nat.le_of_ble_eq_true rfl) rfl ?_
  refine g_aload_n cx 0 rfl d_X8_copy_37 ?_
  refine g_aload_n cx 1 rfl d_X8_copy_38 ?_
  refine g_get cx cl_X8 fl_X8_24 2 (.int x2) d_X8_copy_39 rfl rfl ?_
  refine g_put cx cl_X8 fl_X8_24 0 ([(t, .inr (8, [.int len2, .int e2, .int folds2, .int told2, .int x2, .ref sa])), (sa, .inl (X.2.1, 80, .inl f)), (o, .inr (8, [.int len2, .int e2, .int folds2, .int told2, .int x2, .ref sb])), (sb, .inl (X.2.1, 80, .inl g))]) d_X8_copy_42 rfl rfl rfl rfl (Nat.le_of_ble_eq_true rfl) rfl ?_
  refine g_aload_n cx 1 rfl d_X8_copy_45 ?_
  refine g_get cx cl_X8 fl_X8_27 2 (.ref sb) d_X8_copy_46 rfl rfl ?_
  refine g_iconst cx 0 (by decide) d_X8_copy_49 ?_
  refine g_aload_n cx 0 rfl d_X8_copy_50 ?_
  refine g_get cx cl_X8 fl_X8_27 0 (.ref sa) d_X8_copy_51 rfl rfl ?_
  refine g_iconst cx 0 (by decide) d_X8_copy_54 ?_
  refine g_aload_n cx 0 rfl d_X8_copy_55 ?_
  refine g_get cx cl_X8 fl_X8_27 0 (.ref sa) d_X8_copy_56 rfl rfl ?_
  refine g_alen cx 1 80 d_X8_copy_59 rfl (by decide) ?_
  refine g_copy cx 3 1 ([(t, .inr (8, [.int len2, .int e2, .int folds2, .int told2, .int x2, .ref sa])), (sa, .inl (X.2.1, 80, .inl (va_cpy g f 0 0 80))), (o, .inr (8, [.int len2, .int e2, .int folds2, .int told2, .int x2, .ref sb])), (sb, .inl (X.2.1, 80, .inl g))]) ml_X8_39 d_X8_copy_60 rfl rfl (by decide) (by decide) (by decide) (by decide) rfl ?_
  exact hret d_X8_copy_63 (Nat.le_of_ble_eq_true rfl) (Nat.le_of_ble_eq_true rfl) (⟨rfl, trivial⟩)
theorem d_X5_paceAt_0 : g_dc cX5_paceAt 0 (.iload_n 1) 1 1 := ⟨by decide +kernel, rfl⟩
theorem d_X5_paceAt_1 : g_dc cX5_paceAt 1 (.ifCond .lt 26) 3 4 := ⟨by decide +kernel, rfl⟩
theorem d_X5_paceAt_4 : g_dc cX5_paceAt 4 (.iload_n 1) 1 5 := ⟨by decide +kernel, rfl⟩
theorem d_X5_paceAt_5 : g_dc cX5_paceAt 5 (.aload_n 0) 1 6 := ⟨by decide +kernel, rfl⟩
theorem d_X5_paceAt_6 : g_dc cX5_paceAt 6 (.getfield 15) 3 9 := ⟨by decide +kernel, rfl⟩
theorem d_X5_paceAt_9 : g_dc cX5_paceAt 9 (.if_icmp .ge 18) 3 12 := ⟨by decide +kernel, rfl⟩
theorem d_X5_paceAt_12 : g_dc cX5_paceAt 12 (.iload_n 1) 1 13 := ⟨by decide +kernel, rfl⟩
theorem d_X5_paceAt_13 : g_dc cX5_paceAt 13 (.bipush 60) 2 15 := ⟨by decide +kernel, rfl⟩
theorem d_X5_paceAt_15 : g_dc cX5_paceAt 15 (.if_icmp .ge 12) 3 18 := ⟨by decide +kernel, rfl⟩
theorem d_X5_paceAt_18 : g_dc cX5_paceAt 18 (.aload_n 0) 1 19 := ⟨by decide +kernel, rfl⟩
theorem d_X5_paceAt_19 : g_dc cX5_paceAt 19 (.getfield 9) 3 22 := ⟨by decide +kernel, rfl⟩
theorem d_X5_paceAt_22 : g_dc cX5_paceAt 22 (.iload_n 1) 1 23 := ⟨by decide +kernel, rfl⟩
theorem d_X5_paceAt_23 : g_dc cX5_paceAt 23 (.iaload) 1 24 := ⟨by decide +kernel, rfl⟩
theorem d_X5_paceAt_24 : g_dc cX5_paceAt 24 (.goto 4) 3 27 := ⟨by decide +kernel, rfl⟩
theorem d_X5_paceAt_27 : g_dc cX5_paceAt 27 (.iconst 0) 1 28 := ⟨by decide +kernel, rfl⟩
theorem d_X5_paceAt_28 : g_dc cX5_paceAt 28 (.ireturn) 1 29 := ⟨by decide +kernel, rfl⟩
set_option maxHeartbeats 4000000 in
set_option maxRecDepth 100000 in
theorem c_X5_paceAt (l : Launch) (X : gX) (p pa : Nat) (tk : Int32) (f : Nat → Int32) (i : Int32) : g_Ci l X yX5_paceAt cX5_paceAt 2 (some .int) 1 0 0 [.ref p, .int i] [(p, .inr (5, [.ref pa, .int tk])), (pa, .inl (X.2.1, 60, .inl f))] (fun r w => w = [(p, .inr (5, [.ref pa, .int tk])), (pa, .inl (X.2.1, 60, .inl f))] ∧ r = g_pa f tk i) := by
  refine g_mi (by decide +kernel) (Nat.le_of_ble_eq_true rfl) (fun E cx hret => ?_)
  refine g_iload_n cx 1 rfl d_X5_paceAt_0 ?_
  refine g_if_lt cx 27 d_X5_paceAt_1 (by decide) (fun zc1 => ?_) (fun zc1 => ?_)
  · refine g_iconst cx 0 (by decide) d_X5_paceAt_27 ?_
    exact hret d_X5_paceAt_28 (Nat.le_of_ble_eq_true rfl) (Nat.le_of_ble_eq_true rfl) rfl (⟨rfl, by simp [g_pa, *]⟩)
  · refine g_iload_n cx 1 rfl d_X5_paceAt_4 ?_
    refine g_aload_n cx 0 rfl d_X5_paceAt_5 ?_
    refine g_get cx cl_X5 fl_X5_15 0 (.int tk) d_X5_paceAt_6 rfl rfl ?_
    refine g_icmp_ge cx 27 d_X5_paceAt_9 (by decide) (fun zc9 => ?_) (fun zc9 => ?_)
    · refine g_iconst cx 0 (by decide) d_X5_paceAt_27 ?_
      exact hret d_X5_paceAt_28 (Nat.le_of_ble_eq_true rfl) (Nat.le_of_ble_eq_true rfl) rfl (⟨rfl, by simp [g_pa, *]⟩)
    · refine g_iload_n cx 1 rfl d_X5_paceAt_12 ?_
      refine g_bipush cx 60 (by decide) d_X5_paceAt_13 ?_
      refine g_icmp_ge cx 27 d_X5_paceAt_15 (by decide) (fun zc15 => ?_) (fun zc15 => ?_)
      · refine g_iconst cx 0 (by decide) d_X5_paceAt_27 ?_
        exact hret d_X5_paceAt_28 (Nat.le_of_ble_eq_true rfl) (Nat.le_of_ble_eq_true rfl) rfl (⟨rfl, by simp [g_pa, *]⟩)
      · refine g_aload_n cx 0 rfl d_X5_paceAt_18 ?_
        refine g_get cx cl_X5 fl_X5_9 0 (.ref pa) d_X5_paceAt_19 rfl rfl ?_
        refine g_iload_n cx 1 rfl d_X5_paceAt_22 ?_
        refine g_iald cx 1 d_X5_paceAt_23 rfl (g_vin (N := 60) (by decide) (by assumption) (Int32.not_le.mp (by assumption))) ?_
        refine g_goto cx 28 d_X5_paceAt_24 (by decide) ?_
        exact hret d_X5_paceAt_28 (Nat.le_of_ble_eq_true rfl) (Nat.le_of_ble_eq_true rfl) rfl (⟨rfl, by simp [g_pa, *]⟩)
theorem d_X5_copy_0 : g_dc cX5_copy 0 (.aload_n 1) 1 1 := ⟨by decide +kernel, rfl⟩
theorem d_X5_copy_1 : g_dc cX5_copy 1 (.ifnonnull 4) 3 4 := ⟨by decide +kernel, rfl⟩
theorem d_X5_copy_5 : g_dc cX5_copy 5 (.aload_n 0) 1 6 := ⟨by decide +kernel, rfl⟩
theorem d_X5_copy_6 : g_dc cX5_copy 6 (.aload_n 1) 1 7 := ⟨by decide +kernel, rfl⟩
theorem d_X5_copy_7 : g_dc cX5_copy 7 (.getfield 15) 3 10 := ⟨by decide +kernel, rfl⟩
theorem d_X5_copy_10 : g_dc cX5_copy 10 (.putfield 15) 3 13 := ⟨by decide +kernel, rfl⟩
theorem d_X5_copy_13 : g_dc cX5_copy 13 (.aload_n 1) 1 14 := ⟨by decide +kernel, rfl⟩
theorem d_X5_copy_14 : g_dc cX5_copy 14 (.getfield 9) 3 17 := ⟨by decide +kernel, rfl⟩
theorem d_X5_copy_17 : g_dc cX5_copy 17 (.iconst 0) 1 18 := ⟨by decide +kernel, rfl⟩
theorem d_X5_copy_18 : g_dc cX5_copy 18 (.aload_n 0) 1 19 := ⟨by decide +kernel, rfl⟩
theorem d_X5_copy_19 : g_dc cX5_copy 19 (.getfield 9) 3 22 := ⟨by decide +kernel, rfl⟩
theorem d_X5_copy_22 : g_dc cX5_copy 22 (.iconst 0) 1 23 := ⟨by decide +kernel, rfl⟩
theorem d_X5_copy_23 : g_dc cX5_copy 23 (.bipush 60) 2 25 := ⟨by decide +kernel, rfl⟩
theorem d_X5_copy_25 : g_dc cX5_copy 25 (.invokestatic 19) 3 28 := ⟨by decide +kernel, rfl⟩
theorem d_X5_copy_28 : g_dc cX5_copy 28 (.return_) 1 29 := ⟨by decide +kernel, rfl⟩
set_option maxHeartbeats 4000000 in
set_option maxRecDepth 100000 in
theorem c_X5_copy (l : Launch) (X : gX) (p pa : Nat) (tk : Int32) (f : Nat → Int32) (o ob : Nat) (tk2 : Int32) (g : Nat → Int32) : g_Cv l X yX5_copy cX5_copy 2 1 0 0 [.ref p, .ref o] [(p, .inr (5, [.ref pa, .int tk])), (pa, .inl (X.2.1, 60, .inl f)), (o, .inr (5, [.ref ob, .int tk2])), (ob, .inl (X.2.1, 60, .inl g))] (fun w => w = [(p, .inr (5, [.ref pa, .int tk2])), (pa, .inl (X.2.1, 60, .inl (va_cpy g f 0 0 60))), (o, .inr (5, [.ref ob, .int tk2])), (ob, .inl (X.2.1, 60, .inl g))] ∧ True) := by
  refine g_mv (by decide +kernel) (Nat.le_of_ble_eq_true rfl) (fun E cx hret => ?_)
  refine g_aload_n cx 1 rfl d_X5_copy_0 ?_
  refine g_ifnonnull cx 5 d_X5_copy_1 (by decide) ?_
  refine g_aload_n cx 0 rfl d_X5_copy_5 ?_
  refine g_aload_n cx 1 rfl d_X5_copy_6 ?_
  refine g_get cx cl_X5 fl_X5_15 2 (.int tk2) d_X5_copy_7 rfl rfl ?_
  refine g_put cx cl_X5 fl_X5_15 0 ([(p, .inr (5, [.ref pa, .int tk2])), (pa, .inl (X.2.1, 60, .inl f)), (o, .inr (5, [.ref ob, .int tk2])), (ob, .inl (X.2.1, 60, .inl g))]) d_X5_copy_10 rfl rfl rfl rfl (Nat.le_of_ble_eq_true rfl) rfl ?_
  refine g_aload_n cx 1 rfl d_X5_copy_13 ?_
  refine g_get cx cl_X5 fl_X5_9 2 (.ref ob) d_X5_copy_14 rfl rfl ?_
  refine g_iconst cx 0 (by decide) d_X5_copy_17 ?_
  refine g_aload_n cx 0 rfl d_X5_copy_18 ?_
  refine g_get cx cl_X5 fl_X5_9 0 (.ref pa) d_X5_copy_19 rfl rfl ?_
  refine g_iconst cx 0 (by decide) d_X5_copy_22 ?_
  refine g_bipush cx 60 (by decide) d_X5_copy_23 ?_
  refine g_copy cx 3 1 ([(p, .inr (5, [.ref pa, .int tk2])), (pa, .inl (X.2.1, 60, .inl (va_cpy g f 0 0 60))), (o, .inr (5, [.ref ob, .int tk2])), (ob, .inl (X.2.1, 60, .inl g))]) ml_X5_19 d_X5_copy_25 rfl rfl (by decide) (by decide) (by decide) (by decide) rfl ?_
  exact hret d_X5_copy_28 (Nat.le_of_ble_eq_true rfl) (Nat.le_of_ble_eq_true rfl) (⟨rfl, trivial⟩)
theorem d_J6_bitCount_0f7a4_0 : g_dc cJ6_bitCount_0f7a4 0 (.iload_n 0) 1 1 := ⟨by decide +kernel, rfl⟩
theorem d_J6_bitCount_0f7a4_1 : g_dc cJ6_bitCount_0f7a4 1 (.iload_n 0) 1 2 := ⟨by decide +kernel, rfl⟩
theorem d_J6_bitCount_0f7a4_2 : g_dc cJ6_bitCount_0f7a4 2 (.iconst 1) 1 3 := ⟨by decide +kernel, rfl⟩
theorem d_J6_bitCount_0f7a4_3 : g_dc cJ6_bitCount_0f7a4 3 (.iushr) 1 4 := ⟨by decide +kernel, rfl⟩
theorem d_J6_bitCount_0f7a4_4 : g_dc cJ6_bitCount_0f7a4 4 (.ldc_w 265) 3 7 := ⟨by decide +kernel, rfl⟩
theorem d_J6_bitCount_0f7a4_7 : g_dc cJ6_bitCount_0f7a4 7 (.iand) 1 8 := ⟨by decide +kernel, rfl⟩
theorem d_J6_bitCount_0f7a4_8 : g_dc cJ6_bitCount_0f7a4 8 (.isub) 1 9 := ⟨by decide +kernel, rfl⟩
theorem d_J6_bitCount_0f7a4_9 : g_dc cJ6_bitCount_0f7a4 9 (.istore_n 0) 1 10 := ⟨by decide +kernel, rfl⟩
theorem d_J6_bitCount_0f7a4_10 : g_dc cJ6_bitCount_0f7a4 10 (.iload_n 0) 1 11 := ⟨by decide +kernel, rfl⟩
theorem d_J6_bitCount_0f7a4_11 : g_dc cJ6_bitCount_0f7a4 11 (.ldc_w 266) 3 14 := ⟨by decide +kernel, rfl⟩
theorem d_J6_bitCount_0f7a4_14 : g_dc cJ6_bitCount_0f7a4 14 (.iand) 1 15 := ⟨by decide +kernel, rfl⟩
theorem d_J6_bitCount_0f7a4_15 : g_dc cJ6_bitCount_0f7a4 15 (.iload_n 0) 1 16 := ⟨by decide +kernel, rfl⟩
theorem d_J6_bitCount_0f7a4_16 : g_dc cJ6_bitCount_0f7a4 16 (.iconst 2) 1 17 := ⟨by decide +kernel, rfl⟩
theorem d_J6_bitCount_0f7a4_17 : g_dc cJ6_bitCount_0f7a4 17 (.iushr) 1 18 := ⟨by decide +kernel, rfl⟩
theorem d_J6_bitCount_0f7a4_18 : g_dc cJ6_bitCount_0f7a4 18 (.ldc_w 266) 3 21 := ⟨by decide +kernel, rfl⟩
theorem d_J6_bitCount_0f7a4_21 : g_dc cJ6_bitCount_0f7a4 21 (.iand) 1 22 := ⟨by decide +kernel, rfl⟩
theorem d_J6_bitCount_0f7a4_22 : g_dc cJ6_bitCount_0f7a4 22 (.iadd) 1 23 := ⟨by decide +kernel, rfl⟩
theorem d_J6_bitCount_0f7a4_23 : g_dc cJ6_bitCount_0f7a4 23 (.istore_n 0) 1 24 := ⟨by decide +kernel, rfl⟩
theorem d_J6_bitCount_0f7a4_24 : g_dc cJ6_bitCount_0f7a4 24 (.iload_n 0) 1 25 := ⟨by decide +kernel, rfl⟩
theorem d_J6_bitCount_0f7a4_25 : g_dc cJ6_bitCount_0f7a4 25 (.iload_n 0) 1 26 := ⟨by decide +kernel, rfl⟩
theorem d_J6_bitCount_0f7a4_26 : g_dc cJ6_bitCount_0f7a4 26 (.iconst 4) 1 27 := ⟨by decide +kernel, rfl⟩
theorem d_J6_bitCount_0f7a4_27 : g_dc cJ6_bitCount_0f7a4 27 (.iushr) 1 28 := ⟨by decide +kernel, rfl⟩
theorem d_J6_bitCount_0f7a4_28 : g_dc cJ6_bitCount_0f7a4 28 (.iadd) 1 29 := ⟨by decide +kernel, rfl⟩
theorem d_J6_bitCount_0f7a4_29 : g_dc cJ6_bitCount_0f7a4 29 (.ldc_w 267) 3 32 := ⟨by decide +kernel, rfl⟩
theorem d_J6_bitCount_0f7a4_32 : g_dc cJ6_bitCount_0f7a4 32 (.iand) 1 33 := ⟨by decide +kernel, rfl⟩
theorem d_J6_bitCount_0f7a4_33 : g_dc cJ6_bitCount_0f7a4 33 (.istore_n 0) 1 34 := ⟨by decide +kernel, rfl⟩
theorem d_J6_bitCount_0f7a4_34 : g_dc cJ6_bitCount_0f7a4 34 (.iload_n 0) 1 35 := ⟨by decide +kernel, rfl⟩
theorem d_J6_bitCount_0f7a4_35 : g_dc cJ6_bitCount_0f7a4 35 (.iload_n 0) 1 36 := ⟨by decide +kernel, rfl⟩
theorem d_J6_bitCount_0f7a4_36 : g_dc cJ6_bitCount_0f7a4 36 (.bipush 8) 2 38 := ⟨by decide +kernel, rfl⟩
theorem d_J6_bitCount_0f7a4_38 : g_dc cJ6_bitCount_0f7a4 38 (.iushr) 1 39 := ⟨by decide +kernel, rfl⟩
theorem d_J6_bitCount_0f7a4_39 : g_dc cJ6_bitCount_0f7a4 39 (.iadd) 1 40 := ⟨by decide +kernel, rfl⟩
theorem d_J6_bitCount_0f7a4_40 : g_dc cJ6_bitCount_0f7a4 40 (.istore_n 0) 1 41 := ⟨by decide +kernel, rfl⟩
theorem d_J6_bitCount_0f7a4_41 : g_dc cJ6_bitCount_0f7a4 41 (.iload_n 0) 1 42 := ⟨by decide +kernel, rfl⟩
theorem d_J6_bitCount_0f7a4_42 : g_dc cJ6_bitCount_0f7a4 42 (.iload_n 0) 1 43 := ⟨by decide +kernel, rfl⟩
theorem d_J6_bitCount_0f7a4_43 : g_dc cJ6_bitCount_0f7a4 43 (.bipush 16) 2 45 := ⟨by decide +kernel, rfl⟩
theorem d_J6_bitCount_0f7a4_45 : g_dc cJ6_bitCount_0f7a4 45 (.iushr) 1 46 := ⟨by decide +kernel, rfl⟩
theorem d_J6_bitCount_0f7a4_46 : g_dc cJ6_bitCount_0f7a4 46 (.iadd) 1 47 := ⟨by decide +kernel, rfl⟩
theorem d_J6_bitCount_0f7a4_47 : g_dc cJ6_bitCount_0f7a4 47 (.istore_n 0) 1 48 := ⟨by decide +kernel, rfl⟩
theorem d_J6_bitCount_0f7a4_48 : g_dc cJ6_bitCount_0f7a4 48 (.iload_n 0) 1 49 := ⟨by decide +kernel, rfl⟩
theorem d_J6_bitCount_0f7a4_49 : g_dc cJ6_bitCount_0f7a4 49 (.bipush 63) 2 51 := ⟨by decide +kernel, rfl⟩
theorem d_J6_bitCount_0f7a4_51 : g_dc cJ6_bitCount_0f7a4 51 (.iand) 1 52 := ⟨by decide +kernel, rfl⟩
theorem d_J6_bitCount_0f7a4_52 : g_dc cJ6_bitCount_0f7a4 52 (.ireturn) 1 53 := ⟨by decide +kernel, rfl⟩
set_option maxHeartbeats 4000000 in
set_option maxRecDepth 100000 in
theorem c_J6_bitCount_0f7a4 (l : Launch) (X : gX) (ws : va_W) (i : Int32) : g_Ci l X yJ6_bitCount_0f7a4 cJ6_bitCount_0f7a4 1 (some .int) 1 0 0 [.int i] ws (fun r w => w = ws ∧ (i = 0 → r = 0)) := by
  refine g_mi (by decide +kernel) (Nat.le_of_ble_eq_true rfl) (fun E cx hret => ?_)
  refine g_iload_n cx 0 rfl d_J6_bitCount_0f7a4_0 ?_
  refine g_iload_n cx 0 rfl d_J6_bitCount_0f7a4_1 ?_
  refine g_iconst cx 1 (by decide) d_J6_bitCount_0f7a4_2 ?_
  refine g_iushr cx d_J6_bitCount_0f7a4_3 ?_
  refine g_topi (fun x1 ex1 => ?_)
  refine g_ldcw cx 1431655765 kc_J6_265 d_J6_bitCount_0f7a4_4 ?_
  refine g_iand cx d_J6_bitCount_0f7a4_7 ?_
  refine g_isub cx d_J6_bitCount_0f7a4_8 ?_
  refine g_istore_n cx [(0, .int (i - (x1 &&& 1431655765)))] d_J6_bitCount_0f7a4_9 (by decide) rfl ?_
  refine g_iload_n cx 0 rfl d_J6_bitCount_0f7a4_10 ?_
  refine g_ldcw cx 858993459 kc_J6_266 d_J6_bitCount_0f7a4_11 ?_
  refine g_iand cx d_J6_bitCount_0f7a4_14 ?_
  refine g_topi (fun x2 ex2 => ?_)
  refine g_iload_n cx 0 rfl d_J6_bitCount_0f7a4_15 ?_
  refine g_iconst cx 2 (by decide) d_J6_bitCount_0f7a4_16 ?_
  refine g_iushr cx d_J6_bitCount_0f7a4_17 ?_
  refine g_topi (fun x3 ex3 => ?_)
  refine g_ldcw cx 858993459 kc_J6_266 d_J6_bitCount_0f7a4_18 ?_
  refine g_iand cx d_J6_bitCount_0f7a4_21 ?_
  refine g_iadd cx d_J6_bitCount_0f7a4_22 ?_
  refine g_istore_n cx [(0, .int (x2 + (x3 &&& 858993459)))] d_J6_bitCount_0f7a4_23 (by decide) rfl ?_
  refine g_iload_n cx 0 rfl d_J6_bitCount_0f7a4_24 ?_
  refine g_iload_n cx 0 rfl d_J6_bitCount_0f7a4_25 ?_
  refine g_iconst cx 4 (by decide) d_J6_bitCount_0f7a4_26 ?_
  refine g_iushr cx d_J6_bitCount_0f7a4_27 ?_
  refine g_topi (fun x4 ex4 => ?_)
  refine g_iadd cx d_J6_bitCount_0f7a4_28 ?_
  refine g_ldcw cx 252645135 kc_J6_267 d_J6_bitCount_0f7a4_29 ?_
  refine g_iand cx d_J6_bitCount_0f7a4_32 ?_
  refine g_topi (fun x5 ex5 => ?_)
  refine g_istore_n cx [(0, .int x5)] d_J6_bitCount_0f7a4_33 (by decide) rfl ?_
  refine g_iload_n cx 0 rfl d_J6_bitCount_0f7a4_34 ?_
  refine g_iload_n cx 0 rfl d_J6_bitCount_0f7a4_35 ?_
  refine g_bipush cx 8 (by decide) d_J6_bitCount_0f7a4_36 ?_
  refine g_iushr cx d_J6_bitCount_0f7a4_38 ?_
  refine g_topi (fun x6 ex6 => ?_)
  refine g_iadd cx d_J6_bitCount_0f7a4_39 ?_
  refine g_istore_n cx [(0, .int (x5 + x6))] d_J6_bitCount_0f7a4_40 (by decide) rfl ?_
  refine g_iload_n cx 0 rfl d_J6_bitCount_0f7a4_41 ?_
  refine g_iload_n cx 0 rfl d_J6_bitCount_0f7a4_42 ?_
  refine g_bipush cx 16 (by decide) d_J6_bitCount_0f7a4_43 ?_
  refine g_iushr cx d_J6_bitCount_0f7a4_45 ?_
  refine g_topi (fun x7 ex7 => ?_)
  refine g_iadd cx d_J6_bitCount_0f7a4_46 ?_
  refine g_istore_n cx [(0, .int ((x5 + x6) + x7))] d_J6_bitCount_0f7a4_47 (by decide) rfl ?_
  refine g_iload_n cx 0 rfl d_J6_bitCount_0f7a4_48 ?_
  refine g_bipush cx 63 (by decide) d_J6_bitCount_0f7a4_49 ?_
  refine g_iand cx d_J6_bitCount_0f7a4_51 ?_
  exact hret d_J6_bitCount_0f7a4_52 (Nat.le_of_ble_eq_true rfl) (Nat.le_of_ble_eq_true rfl) rfl ⟨rfl, fun h => by subst h; subst_vars; decide⟩
end
section
theorem g_nle {n c : Nat} (hn : n < 2 ^ 31) (h : ¬ nI c ≤ nI n) : n < c := by
  rcases Nat.lt_or_ge n c with q | q
  · exact q
  · exact absurd (nI_le q hn) h
theorem g_lt_of {y : Int32} {n c : Nat} (hy : y = nI n) (hn : n < 2 ^ 31) (h : ¬ nI c ≤ y) : n < c := by
  subst hy
  exact g_nle hn h
theorem g_le {n c : Nat} (hc : c < 2 ^ 31) (h : nI c ≤ nI n) (hn : n < 2 ^ 31) : c ≤ n := by
  rcases Nat.lt_or_ge n c with q | q
  · exact absurd h (nI_ge q hc)
  · exact q
theorem g_nz {x : Int32} (h : ¬ x ≤ 0) : ¬ x = 0 := fun e => h (by rw [e]; exact Int32.le_refl 0)
theorem g_z {c : Nat → Int32} {i : Nat} {x : Int32} (h : ∀ j, j < i → c j = 0) (hx : x = nI i) (hi : i < 2 ^ 31) : ∀ j, j < i + 1 → upd c x.toNatClampNeg 0 j = 0 := by
  intro j hj
  unfold upd
  split
  · rfl
  · rename_i hne
    refine h j ?_
    rw [hx, nI_clamp hi] at hne
    omega
def g_ss (a b c : Int32) : Int32 := a &&& ((b ||| c) ^^^ (-1))
theorem g_ss0 {a b c : Int32} (h : a = 0) : g_ss a b c = 0 := by rw [h]; exact Int32.zero_and
def g_sum (f : Nat → Int32) : Nat → Int32
  | 0 => 0
  | n + 1 => g_sum f n + f n
theorem g_sum0 {f : Nat → Int32} : ∀ {n : Nat}, (∀ j, j < n → f j = 0) → g_sum f n = 0
  | 0, _ => rfl
  | n + 1, h => by rw [g_sum, g_sum0 (fun j hj => h j (Nat.lt_succ_of_lt hj)), h n (Nat.lt_succ_self n)]; rfl

theorem d_X5_add_0 : g_dc cX5_add 0 (.iconst 0) 1 1 := ⟨by decide +kernel, rfl⟩
theorem d_X5_add_1 : g_dc cX5_add 1 (.istore_n 3) 1 2 := ⟨by decide +kernel, rfl⟩
theorem d_X5_add_2 : g_dc cX5_add 2 (.iload_n 3) 1 3 := ⟨by decide +kernel, rfl⟩
theorem d_X5_add_3 : g_dc cX5_add 3 (.iload_n 2) 1 4 := ⟨by decide +kernel, rfl⟩
theorem d_X5_add_4 : g_dc cX5_add 4 (.if_icmp .ge 38) 3 7 := ⟨by decide +kernel, rfl⟩
theorem d_X5_add_7 : g_dc cX5_add 7 (.aload_n 0) 1 8 := ⟨by decide +kernel, rfl⟩
theorem d_X5_add_8 : g_dc cX5_add 8 (.getfield 15) 3 11 := ⟨by decide +kernel, rfl⟩
theorem d_X5_add_11 : g_dc cX5_add 11 (.bipush 60) 2 13 := ⟨by decide +kernel, rfl⟩
theorem d_X5_add_13 : g_dc cX5_add 13 (.if_icmp .ge 29) 3 16 := ⟨by decide +kernel, rfl⟩
theorem d_X5_add_16 : g_dc cX5_add 16 (.aload_n 0) 1 17 := ⟨by decide +kernel, rfl⟩
theorem d_X5_add_17 : g_dc cX5_add 17 (.getfield 9) 3 20 := ⟨by decide +kernel, rfl⟩
theorem d_X5_add_20 : g_dc cX5_add 20 (.aload_n 0) 1 21 := ⟨by decide +kernel, rfl⟩
theorem d_X5_add_21 : g_dc cX5_add 21 (.getfield 15) 3 24 := ⟨by decide +kernel, rfl⟩
theorem d_X5_add_24 : g_dc cX5_add 24 (.iload_n 1) 1 25 := ⟨by decide +kernel, rfl⟩
theorem d_X5_add_25 : g_dc cX5_add 25 (.iastore) 1 26 := ⟨by decide +kernel, rfl⟩
theorem d_X5_add_26 : g_dc cX5_add 26 (.aload_n 0) 1 27 := ⟨by decide +kernel, rfl⟩
theorem d_X5_add_27 : g_dc cX5_add 27 (.dup) 1 28 := ⟨by decide +kernel, rfl⟩
theorem d_X5_add_28 : g_dc cX5_add 28 (.getfield 15) 3 31 := ⟨by decide +kernel, rfl⟩
theorem d_X5_add_31 : g_dc cX5_add 31 (.iconst 1) 1 32 := ⟨by decide +kernel, rfl⟩
theorem d_X5_add_32 : g_dc cX5_add 32 (.iadd) 1 33 := ⟨by decide +kernel, rfl⟩
theorem d_X5_add_33 : g_dc cX5_add 33 (.putfield 15) 3 36 := ⟨by decide +kernel, rfl⟩
theorem d_X5_add_36 : g_dc cX5_add 36 (.iinc 3 1) 3 39 := ⟨by decide +kernel, rfl⟩
theorem d_X5_add_39 : g_dc cX5_add 39 (.goto (-37)) 3 42 := ⟨by decide +kernel, rfl⟩
theorem d_X5_add_42 : g_dc cX5_add 42 (.return_) 1 43 := ⟨by decide +kernel, rfl⟩
set_option maxHeartbeats 4000000 in
set_option maxRecDepth 100000 in
theorem c_X5_add (l : Launch) (X : gX) (p pa : Nat) (tk : Int32) (f : Nat → Int32) (pace many : Int32) (t : Nat) (hk : tk = nI t) (ht : t ≤ 60) : g_Cv l X yX5_add cX5_add 4 1 0 0 [.ref p, .int pace, .int many] [(p, .inr (5, [.ref pa, .int tk])), (pa, .inl (X.2.1, 60, .inl f))] (fun w => ∃ (t : Nat) (g : Nat → Int32), w = [(p, .inr (5, [.ref pa, .int (nI t)])), (pa, .inl (X.2.1, 60, .inl g))] ∧ t ≤ 60) := by
  refine g_mv (by decide +kernel) (Nat.le_of_ble_eq_true rfl) (fun E cx hret => ?_)
  refine g_iconst cx 0 (by decide) d_X5_add_0 ?_
  refine g_istore_n cx [(3, .int 0), (0, .ref p), (1, .int pace), (2, .int many)] d_X5_add_1 (by decide) rfl ?_
  have L2 : ∀ (N : Nat) (t : Nat) (y x3 : Int32) (g : Nat → Int32), 60 - t < N → (y = nI t) → (t ≤ 60) → G X E 4 0 0 [(p, .inr (5, [.ref pa, .int y])), (pa, .inl (X.2.1, 60, .inl g))] [(0, .ref p), (1, .int pace), (2, .int many), (3, .int x3)] 2 [] := by
    intro N
    induction N with
    | zero => intro t y x3 g hm; exact absurd hm (Nat.not_lt_zero _)
    | succ N ih2 =>
      intro t y x3 g hm hy ht
      refine g_iload_n cx 3 rfl d_X5_add_2 ?_
      refine g_iload_n cx 2 rfl d_X5_add_3 ?_
      refine g_icmp_ge cx 42 d_X5_add_4 (by decide) (fun zc4 => ?_) (fun zc4 => ?_)
      · exact hret d_X5_add_42 (Nat.le_of_ble_eq_true rfl) (Nat.le_of_ble_eq_true rfl) (⟨t, g, by rw [hy], ht⟩)
      · refine g_aload_n cx 0 rfl d_X5_add_7 ?_
        refine g_get cx cl_X5 fl_X5_15 0 (.int y) d_X5_add_8 rfl rfl ?_
        refine g_bipush cx 60 (by decide) d_X5_add_11 ?_
        refine g_icmp_ge cx 42 d_X5_add_13 (by decide) (fun zc13 => ?_) (fun zc13 => ?_)
        · exact hret d_X5_add_42 (Nat.le_of_ble_eq_true rfl) (Nat.le_of_ble_eq_true rfl) (⟨t, g, by rw [hy], ht⟩)
        · refine g_aload_n cx 0 rfl d_X5_add_16 ?_
          refine g_get cx cl_X5 fl_X5_9 0 (.ref pa) d_X5_add_17 rfl rfl ?_
          refine g_aload_n cx 0 rfl d_X5_add_20 ?_
          refine g_get cx cl_X5 fl_X5_15 0 (.int y) d_X5_add_21 rfl rfl ?_
          refine g_iload_n cx 1 rfl d_X5_add_24 ?_
          refine g_iast cx 1 ([(p, .inr (5, [.ref pa, .int y])), (pa, .inl (X.2.1, 60, .inl (upd g (Int32.toNatClampNeg y) pace)))]) d_X5_add_25 rfl (by have h60 := g_lt_of (c := 60) hy (by omega) zc13; rw [hy]; exact vp_in_nI h60 (by decide)) rfl ?_
          refine g_aload_n cx 0 rfl d_X5_add_26 ?_
          refine g_dup cx rfl d_X5_add_27 ?_
          refine g_get cx cl_X5 fl_X5_15 0 (.int y) d_X5_add_28 rfl rfl ?_
          refine g_iconst cx 1 (by decide) d_X5_add_31 ?_
          refine g_iadd cx d_X5_add_32 ?_
          refine g_put cx cl_X5 fl_X5_15 0 ([(p, .inr (5, [.ref pa, .int (y + 1)])), (pa, .inl (X.2.1, 60, .inl (upd g (Int32.toNatClampNeg y) pace)))]) d_X5_add_33 rfl rfl rfl rfl (Nat.le_of_ble_eq_true rfl) rfl ?_
          refine g_iinc cx (x3 + 1) [(3, .int (x3 + 1)), (0, .ref p), (1, .int pace), (2, .int many)] 3 d_X5_add_36 rfl (rfl) (by decide) rfl ?_
          refine g_goto cx 2 d_X5_add_39 (by decide) ?_
          refine g_lsub [1, 2, 3, 0] [(0, .ref p), (1, .int pace), (2, .int many), (3, .int (x3 + 1))] rfl ?_
          exact ih2 (t + 1) (y + 1) (x3 + 1) (upd g (Int32.toNatClampNeg y) pace) (by have h60 := g_lt_of (c := 60) hy (by omega) zc13; omega) (by rw [hy]; exact nI_1 t) (by have h60 := g_lt_of (c := 60) hy (by omega) zc13; omega)
  refine g_lsub [1, 2, 3, 0] [(0, .ref p), (1, .int pace), (2, .int many), (3, .int 0)] rfl ?_
  exact L2 _ t tk 0 f (Nat.lt_succ_self _) hk ht
theorem d_X5_addTill_0 : g_dc cX5_addTill 0 (.iload_n 1) 1 1 := ⟨by decide +kernel, rfl⟩
theorem d_X5_addTill_1 : g_dc cX5_addTill 1 (.ifCond .le 19) 3 4 := ⟨by decide +kernel, rfl⟩
theorem d_X5_addTill_4 : g_dc cX5_addTill 4 (.iload_n 2) 1 5 := ⟨by decide +kernel, rfl⟩
theorem d_X5_addTill_5 : g_dc cX5_addTill 5 (.ifCond .le 15) 3 8 := ⟨by decide +kernel, rfl⟩
theorem d_X5_addTill_8 : g_dc cX5_addTill 8 (.aload_n 0) 1 9 := ⟨by decide +kernel, rfl⟩
theorem d_X5_addTill_9 : g_dc cX5_addTill 9 (.iload_n 1) 1 10 := ⟨by decide +kernel, rfl⟩
theorem d_X5_addTill_10 : g_dc cX5_addTill 10 (.iload_n 2) 1 11 := ⟨by decide +kernel, rfl⟩
theorem d_X5_addTill_11 : g_dc cX5_addTill 11 (.iload_n 1) 1 12 := ⟨by decide +kernel, rfl⟩
theorem d_X5_addTill_12 : g_dc cX5_addTill 12 (.iadd) 1 13 := ⟨by decide +kernel, rfl⟩
theorem d_X5_addTill_13 : g_dc cX5_addTill 13 (.iconst 1) 1 14 := ⟨by decide +kernel, rfl⟩
theorem d_X5_addTill_14 : g_dc cX5_addTill 14 (.isub) 1 15 := ⟨by decide +kernel, rfl⟩
theorem d_X5_addTill_15 : g_dc cX5_addTill 15 (.iload_n 1) 1 16 := ⟨by decide +kernel, rfl⟩
theorem d_X5_addTill_16 : g_dc cX5_addTill 16 (.idiv) 1 17 := ⟨by decide +kernel, rfl⟩
theorem d_X5_addTill_17 : g_dc cX5_addTill 17 (.invokevirtual 25) 3 20 := ⟨by decide +kernel, rfl⟩
theorem d_X5_addTill_20 : g_dc cX5_addTill 20 (.return_) 1 21 := ⟨by decide +kernel, rfl⟩
set_option maxHeartbeats 4000000 in
set_option maxRecDepth 100000 in
theorem c_X5_addTill (l : Launch) (X : gX) (p pa : Nat) (tk : Int32) (f : Nat → Int32) (pace way : Int32) (t : Nat) (hk : tk = nI t) (ht : t ≤ 60) : g_Cv l X yX5_addTill cX5_addTill 3 2 0 0 [.ref p, .int pace, .int way] [(p, .inr (5, [.ref pa, .int tk])), (pa, .inl (X.2.1, 60, .inl f))] (fun w => ∃ (t : Nat) (g : Nat → Int32), w = [(p, .inr (5, [.ref pa, .int (nI t)])), (pa, .inl (X.2.1, 60, .inl g))] ∧ t ≤ 60) := by
  refine g_mv (by decide +kernel) (Nat.le_of_ble_eq_true rfl) (fun E cx hret => ?_)
  refine g_iload_n cx 1 rfl d_X5_addTill_0 ?_
  refine g_if_le cx 20 d_X5_addTill_1 (by decide) (fun zc1 => ?_) (fun zc1 => ?_)
  · exact hret d_X5_addTill_20 (Nat.le_of_ble_eq_true rfl) (Nat.le_of_ble_eq_true rfl) ⟨t, f, by rw [hk], ht⟩
  · refine g_iload_n cx 2 rfl d_X5_addTill_4 ?_
    refine g_if_le cx 20 d_X5_addTill_5 (by decide) (fun zc5 => ?_) (fun zc5 => ?_)
    · exact hret d_X5_addTill_20 (Nat.le_of_ble_eq_true rfl) (Nat.le_of_ble_eq_true rfl) ⟨t, f, by rw [hk], ht⟩
    · refine g_aload_n cx 0 rfl d_X5_addTill_8 ?_
      refine g_iload_n cx 1 rfl d_X5_addTill_9 ?_
      refine g_iload_n cx 2 rfl d_X5_addTill_10 ?_
      refine g_iload_n cx 1 rfl d_X5_addTill_11 ?_
      refine g_iadd cx d_X5_addTill_12 ?_
      refine g_iconst cx 1 (by decide) d_X5_addTill_13 ?_
      refine g_isub cx d_X5_addTill_14 ?_
      refine g_iload_n cx 1 rfl d_X5_addTill_15 ?_
      refine g_idiv cx (g_nz (by assumption)) d_X5_addTill_16 ?_
      refine g_cVv cx [.int pace, .int (((way + pace) - 1) / pace)] [] (c_X5_add l X p pa tk f pace (((way + pace) - 1) / pace) t hk ht) ml_X5_25 yV_X5_add d_X5_addTill_17 (by unfold g_rr; decide) (by decide) 0 rfl rfl [0, 1] rfl (by decide) rfl (Nat.le_of_ble_eq_true rfl) (by rintro _ ⟨_, _, rfl, _⟩; rfl) (fun w2 h3 => ?_)
      obtain ⟨t4, g5, rfl, h6⟩ := h3
      refine g_weq ([(p, .inr (5, [.ref pa, .int (nI t4)])), (pa, .inl (X.2.1, 60, .inl g5))]) rfl ?_
      exact hret d_X5_addTill_20 (Nat.le_of_ble_eq_true rfl) (Nat.le_of_ble_eq_true rfl) ⟨t4, _, rfl, h6⟩
theorem d_X5_even_0 : g_dc cX5_even 0 (.aload_n 0) 1 1 := ⟨by decide +kernel, rfl⟩
theorem d_X5_even_1 : g_dc cX5_even 1 (.iconst 0) 1 2 := ⟨by decide +kernel, rfl⟩
theorem d_X5_even_2 : g_dc cX5_even 2 (.putfield 15) 3 5 := ⟨by decide +kernel, rfl⟩
theorem d_X5_even_5 : g_dc cX5_even 5 (.aload_n 0) 1 6 := ⟨by decide +kernel, rfl⟩
theorem d_X5_even_6 : g_dc cX5_even 6 (.iload_n 1) 1 7 := ⟨by decide +kernel, rfl⟩
theorem d_X5_even_7 : g_dc cX5_even 7 (.iload_n 2) 1 8 := ⟨by decide +kernel, rfl⟩
theorem d_X5_even_8 : g_dc cX5_even 8 (.invokevirtual 29) 3 11 := ⟨by decide +kernel, rfl⟩
theorem d_X5_even_11 : g_dc cX5_even 11 (.return_) 1 12 := ⟨by decide +kernel, rfl⟩
set_option maxHeartbeats 4000000 in
set_option maxRecDepth 100000 in
theorem c_X5_even (l : Launch) (X : gX) (p pa : Nat) (tk : Int32) (f : Nat → Int32) (pace way : Int32) : g_Cv l X yX5_even cX5_even 3 3 0 0 [.ref p, .int pace, .int way] [(p, .inr (5, [.ref pa, .int tk])), (pa, .inl (X.2.1, 60, .inl f))] (fun w => ∃ (t : Nat) (g : Nat → Int32), w = [(p, .inr (5, [.ref pa, .int (nI t)])), (pa, .inl (X.2.1, 60, .inl g))] ∧ t ≤ 60) := by
  refine g_mv (by decide +kernel) (Nat.le_of_ble_eq_true rfl) (fun E cx hret => ?_)
  refine g_aload_n cx 0 rfl d_X5_even_0 ?_
  refine g_iconst cx 0 (by decide) d_X5_even_1 ?_
  refine g_put cx cl_X5 fl_X5_15 0 ([(p, .inr (5, [.ref pa, .int 0])), (pa, .inl (X.2.1, 60, .inl f))]) d_X5_even_2 rfl rfl rfl rfl (Nat.le_of_ble_eq_true rfl) rfl ?_
  refine g_aload_n cx 0 rfl d_X5_even_5 ?_
  refine g_iload_n cx 1 rfl d_X5_even_6 ?_
  refine g_iload_n cx 2 rfl d_X5_even_7 ?_
  refine g_cVv cx [.int pace, .int way] [] (c_X5_addTill l X p pa 0 f pace way 0 (by decide) (by decide)) ml_X5_29 yV_X5_addTill d_X5_even_8 (by unfold g_rr; decide) (by decide) 0 rfl rfl [0, 1] rfl (by decide) rfl (Nat.le_of_ble_eq_true rfl) (by rintro _ ⟨_, _, rfl, _⟩; rfl) (fun w2 h3 => ?_)
  obtain ⟨t4, g5, rfl, h6⟩ := h3
  refine g_weq ([(p, .inr (5, [.ref pa, .int (nI t4)])), (pa, .inl (X.2.1, 60, .inl g5))]) rfl ?_
  exact hret d_X5_even_11 (Nat.le_of_ble_eq_true rfl) (Nat.le_of_ble_eq_true rfl) ⟨t4, _, rfl, h6⟩
theorem d_X9_add_0 : g_dc cX9_add 0 (.bipush 24) 2 2 := ⟨by decide +kernel, rfl⟩
theorem d_X9_add_2 : g_dc cX9_add 2 (.istore_n 2) 1 3 := ⟨by decide +kernel, rfl⟩
theorem d_X9_add_3 : g_dc cX9_add 3 (.iload_n 2) 1 4 := ⟨by decide +kernel, rfl⟩
theorem d_X9_add_4 : g_dc cX9_add 4 (.ifCond .lt 45) 3 7 := ⟨by decide +kernel, rfl⟩
theorem d_X9_add_7 : g_dc cX9_add 7 (.aload_n 0) 1 8 := ⟨by decide +kernel, rfl⟩
theorem d_X9_add_8 : g_dc cX9_add 8 (.getfield 15) 3 11 := ⟨by decide +kernel, rfl⟩
theorem d_X9_add_11 : g_dc cX9_add 11 (.sipush 220) 3 14 := ⟨by decide +kernel, rfl⟩
theorem d_X9_add_14 : g_dc cX9_add 14 (.if_icmp .ge 29) 3 17 := ⟨by decide +kernel, rfl⟩
theorem d_X9_add_17 : g_dc cX9_add 17 (.aload_n 0) 1 18 := ⟨by decide +kernel, rfl⟩
theorem d_X9_add_18 : g_dc cX9_add 18 (.getfield 9) 3 21 := ⟨by decide +kernel, rfl⟩
theorem d_X9_add_21 : g_dc cX9_add 21 (.aload_n 0) 1 22 := ⟨by decide +kernel, rfl⟩
theorem d_X9_add_22 : g_dc cX9_add 22 (.getfield 15) 3 25 := ⟨by decide +kernel, rfl⟩
theorem d_X9_add_25 : g_dc cX9_add 25 (.iload_n 1) 1 26 := ⟨by decide +kernel, rfl⟩
theorem d_X9_add_26 : g_dc cX9_add 26 (.iload_n 2) 1 27 := ⟨by decide +kernel, rfl⟩
theorem d_X9_add_27 : g_dc cX9_add 27 (.iushr) 1 28 := ⟨by decide +kernel, rfl⟩
theorem d_X9_add_28 : g_dc cX9_add 28 (.sipush 255) 3 31 := ⟨by decide +kernel, rfl⟩
theorem d_X9_add_31 : g_dc cX9_add 31 (.iand) 1 32 := ⟨by decide +kernel, rfl⟩
theorem d_X9_add_32 : g_dc cX9_add 32 (.iastore) 1 33 := ⟨by decide +kernel, rfl⟩
theorem d_X9_add_33 : g_dc cX9_add 33 (.aload_n 0) 1 34 := ⟨by decide +kernel, rfl⟩
theorem d_X9_add_34 : g_dc cX9_add 34 (.dup) 1 35 := ⟨by decide +kernel, rfl⟩
theorem d_X9_add_35 : g_dc cX9_add 35 (.getfield 15) 3 38 := ⟨by decide +kernel, rfl⟩
theorem d_X9_add_38 : g_dc cX9_add 38 (.iconst 1) 1 39 := ⟨by decide +kernel, rfl⟩
theorem d_X9_add_39 : g_dc cX9_add 39 (.iadd) 1 40 := ⟨by decide +kernel, rfl⟩
theorem d_X9_add_40 : g_dc cX9_add 40 (.putfield 15) 3 43 := ⟨by decide +kernel, rfl⟩
theorem d_X9_add_43 : g_dc cX9_add 43 (.iinc 2 (-8)) 3 46 := ⟨by decide +kernel, rfl⟩
theorem d_X9_add_46 : g_dc cX9_add 46 (.goto (-43)) 3 49 := ⟨by decide +kernel, rfl⟩
theorem d_X9_add_49 : g_dc cX9_add 49 (.return_) 1 50 := ⟨by decide +kernel, rfl⟩
set_option maxHeartbeats 4000000 in
set_option maxRecDepth 100000 in
theorem c_X9_add (l : Launch) (X : gX) (h b : Nat) (y : Int32) (f : Nat → Int32) (four : Int32) (m : Nat) (hy : y = nI m) (hm : m + 4 ≤ 220) : g_Cv l X yX9_add cX9_add 3 1 0 0 [.ref h, .int four] [(h, .inr (9, [.ref b, .int y])), (b, .inl (X.2.1, 220, .inl f))] (fun w => ∃ g : Nat → Int32, w = [(h, .inr (9, [.ref b, .int (nI (m + 4))])), (b, .inl (X.2.1, 220, .inl g))] ∧ True) := by
  refine g_mv (by decide +kernel) (Nat.le_of_ble_eq_true rfl) (fun E cx hret => ?_)
  refine g_bipush cx 24 (by decide) d_X9_add_0 ?_
  refine g_istore_n cx [(2, .int 24), (0, .ref h), (1, .int four)] d_X9_add_2 (by decide) rfl ?_
  refine g_iload_n cx 0 rfl d_X9_add_3 ?_
  refine g_if_lt_f cx 49 d_X9_add_4 (by decide) (by decide) ?_
  refine g_aload_n cx 1 rfl d_X9_add_7 ?_
  refine g_get cx cl_X9 fl_X9_15 0 (.int y) d_X9_add_8 rfl rfl ?_
  refine g_sipush cx 220 (by decide) d_X9_add_11 ?_
  refine g_icmp_ge_f cx 43 d_X9_add_14 (by decide) (by rw [hy]; (try simp only [nI_1]); exact nI_ge (b := 220) (by omega) (by decide)) ?_
  refine g_aload_n cx 1 rfl d_X9_add_17 ?_
  refine g_get cx cl_X9 fl_X9_9 0 (.ref b) d_X9_add_18 rfl rfl ?_
  refine g_aload_n cx 1 rfl d_X9_add_21 ?_
  refine g_get cx cl_X9 fl_X9_15 0 (.int y) d_X9_add_22 rfl rfl ?_
  refine g_iload_n cx 2 rfl d_X9_add_25 ?_
  refine g_iload_n cx 0 rfl d_X9_add_26 ?_
  refine g_iushr cx d_X9_add_27 ?_
  refine g_topi (fun x1 ex1 => ?_)
  refine g_sipush cx 255 (by decide) d_X9_add_28 ?_
  refine g_iand cx d_X9_add_31 ?_
  refine g_iast cx 1 ([(h, .inr (9, [.ref b, .int y])), (b, .inl (X.2.1, 220, .inl (upd f (Int32.toNatClampNeg y) (x1 &&& 255))))]) d_X9_add_32 rfl (by rw [hy]; (try simp only [nI_1]); exact vp_in_nI (by omega) (by decide)) rfl ?_
  refine g_aload_n cx 1 rfl d_X9_add_33 ?_
  refine g_dup cx rfl d_X9_add_34 ?_
  refine g_get cx cl_X9 fl_X9_15 0 (.int y) d_X9_add_35 rfl rfl ?_
  refine g_iconst cx 1 (by decide) d_X9_add_38 ?_
  refine g_iadd cx d_X9_add_39 ?_
  refine g_put cx cl_X9 fl_X9_15 0 ([(h, .inr (9, [.ref b, .int (y + 1)])), (b, .inl (X.2.1, 220, .inl (upd f (Int32.toNatClampNeg y) (x1 &&& 255))))]) d_X9_add_40 rfl rfl rfl rfl (Nat.le_of_ble_eq_true rfl) rfl ?_
  refine g_iinc cx 16 [(2, .int 16), (0, .ref h), (1, .int four)] 0 d_X9_add_43 rfl (by decide) (by decide) rfl ?_
  refine g_goto cx 3 d_X9_add_46 (by decide) ?_
  refine g_iload_n cx 0 rfl d_X9_add_3 ?_
  refine g_if_lt_f cx 49 d_X9_add_4 (by decide) (by decide) ?_
  refine g_aload_n cx 1 rfl d_X9_add_7 ?_
  refine g_get cx cl_X9 fl_X9_15 0 (.int (y + 1)) d_X9_add_8 rfl rfl ?_
  refine g_sipush cx 220 (by decide) d_X9_add_11 ?_
  refine g_icmp_ge_f cx 43 d_X9_add_14 (by decide) (by rw [hy]; (try simp only [nI_1]); exact nI_ge (b := 220) (by omega) (by decide)) ?_
  refine g_aload_n cx 1 rfl d_X9_add_17 ?_
  refine g_get cx cl_X9 fl_X9_9 0 (.ref b) d_X9_add_18 rfl rfl ?_
  refine g_aload_n cx 1 rfl d_X9_add_21 ?_
  refine g_get cx cl_X9 fl_X9_15 0 (.int (y + 1)) d_X9_add_22 rfl rfl ?_
  refine g_iload_n cx 2 rfl d_X9_add_25 ?_
  refine g_iload_n cx 0 rfl d_X9_add_26 ?_
  refine g_iushr cx d_X9_add_27 ?_
  refine g_topi (fun x2 ex2 => ?_)
  refine g_sipush cx 255 (by decide) d_X9_add_28 ?_
  refine g_iand cx d_X9_add_31 ?_
  refine g_iast cx 1 ([(h, .inr (9, [.ref b, .int (y + 1)])), (b, .inl (X.2.1, 220, .inl (upd (upd f (Int32.toNatClampNeg y) (x1 &&& 255)) (Int32.toNatClampNeg (y + 1)) (x2 &&& 255))))]) d_X9_add_32 rfl (by rw [hy]; (try simp only [nI_1]); exact vp_in_nI (by omega) (by decide)) rfl ?_
  refine g_aload_n cx 1 rfl d_X9_add_33 ?_
  refine g_dup cx rfl d_X9_add_34 ?_
  refine g_get cx cl_X9 fl_X9_15 0 (.int (y + 1)) d_X9_add_35 rfl rfl ?_
  refine g_iconst cx 1 (by decide) d_X9_add_38 ?_
  refine g_iadd cx d_X9_add_39 ?_
  refine g_put cx cl_X9 fl_X9_15 0 ([(h, .inr (9, [.ref b, .int ((y + 1) + 1)])), (b, .inl (X.2.1, 220, .inl (upd (upd f (Int32.toNatClampNeg y) (x1 &&& 255)) (Int32.toNatClampNeg (y + 1)) (x2 &&& 255))))]) d_X9_add_40 rfl rfl rfl rfl (Nat.le_of_ble_eq_true rfl) rfl ?_
  refine g_iinc cx 8 [(2, .int 8), (0, .ref h), (1, .int four)] 0 d_X9_add_43 rfl (by decide) (by decide) rfl ?_
  refine g_goto cx 3 d_X9_add_46 (by decide) ?_
  refine g_iload_n cx 0 rfl d_X9_add_3 ?_
  refine g_if_lt_f cx 49 d_X9_add_4 (by decide) (by decide) ?_
  refine g_aload_n cx 1 rfl d_X9_add_7 ?_
  refine g_get cx cl_X9 fl_X9_15 0 (.int ((y + 1) + 1)) d_X9_add_8 rfl rfl ?_
  refine g_sipush cx 220 (by decide) d_X9_add_11 ?_
  refine g_icmp_ge_f cx 43 d_X9_add_14 (by decide) (by rw [hy]; (try simp only [nI_1]); exact nI_ge (b := 220) (by omega) (by decide)) ?_
  refine g_aload_n cx 1 rfl d_X9_add_17 ?_
  refine g_get cx cl_X9 fl_X9_9 0 (.ref b) d_X9_add_18 rfl rfl ?_
  refine g_aload_n cx 1 rfl d_X9_add_21 ?_
  refine g_get cx cl_X9 fl_X9_15 0 (.int ((y + 1) + 1)) d_X9_add_22 rfl rfl ?_
  refine g_iload_n cx 2 rfl d_X9_add_25 ?_
  refine g_iload_n cx 0 rfl d_X9_add_26 ?_
  refine g_iushr cx d_X9_add_27 ?_
  refine g_topi (fun x3 ex3 => ?_)
  refine g_sipush cx 255 (by decide) d_X9_add_28 ?_
  refine g_iand cx d_X9_add_31 ?_
  refine g_iast cx 1 ([(h, .inr (9, [.ref b, .int ((y + 1) + 1)])), (b, .inl (X.2.1, 220, .inl (upd (upd (upd f (Int32.toNatClampNeg y) (x1 &&& 255)) (Int32.toNatClampNeg (y + 1)) (x2 &&& 255)) (Int32.toNatClampNeg ((y + 1) + 1)) (x3 &&& 255))))]) d_X9_add_32 rfl (by rw [hy]; (try simp only [nI_1]); exact vp_in_nI (by omega) (by decide)) rfl ?_
  refine g_aload_n cx 1 rfl d_X9_add_33 ?_
  refine g_dup cx rfl d_X9_add_34 ?_
  refine g_get cx cl_X9 fl_X9_15 0 (.int ((y + 1) + 1)) d_X9_add_35 rfl rfl ?_
  refine g_iconst cx 1 (by decide) d_X9_add_38 ?_
  refine g_iadd cx d_X9_add_39 ?_
  refine g_put cx cl_X9 fl_X9_15 0 ([(h, .inr (9, [.ref b, .int (((y + 1) + 1) + 1)])), (b, .inl (X.2.1, 220, .inl (upd (upd (upd f (Int32.toNatClampNeg y) (x1 &&& 255)) (Int32.toNatClampNeg (y + 1)) (x2 &&& 255)) (Int32.toNatClampNeg ((y + 1) + 1)) (x3 &&& 255))))]) d_X9_add_40 rfl rfl rfl rfl (Nat.le_of_ble_eq_true rfl) rfl ?_
  refine g_iinc cx 0 [(2, .int 0), (0, .ref h), (1, .int four)] 0 d_X9_add_43 rfl (by decide) (by decide) rfl ?_
  refine g_goto cx 3 d_X9_add_46 (by decide) ?_
  refine g_iload_n cx 0 rfl d_X9_add_3 ?_
  refine g_if_lt_f cx 49 d_X9_add_4 (by decide) (by decide) ?_
  refine g_aload_n cx 1 rfl d_X9_add_7 ?_
  refine g_get cx cl_X9 fl_X9_15 0 (.int (((y + 1) + 1) + 1)) d_X9_add_8 rfl rfl ?_
  refine g_sipush cx 220 (by decide) d_X9_add_11 ?_
  refine g_icmp_ge_f cx 43 d_X9_add_14 (by decide) (by rw [hy]; (try simp only [nI_1]); exact nI_ge (b := 220) (by omega) (by decide)) ?_
  refine g_aload_n cx 1 rfl d_X9_add_17 ?_
  refine g_get cx cl_X9 fl_X9_9 0 (.ref b) d_X9_add_18 rfl rfl ?_
  refine g_aload_n cx 1 rfl d_X9_add_21 ?_
  refine g_get cx cl_X9 fl_X9_15 0 (.int (((y + 1) + 1) + 1)) d_X9_add_22 rfl rfl ?_
  refine g_iload_n cx 2 rfl d_X9_add_25 ?_
  refine g_iload_n cx 0 rfl d_X9_add_26 ?_
  refine g_iushr cx d_X9_add_27 ?_
  refine g_topi (fun x4 ex4 => ?_)
  refine g_sipush cx 255 (by decide) d_X9_add_28 ?_
  refine g_iand cx d_X9_add_31 ?_
  refine g_iast cx 1 ([(h, .inr (9, [.ref b, .int (((y + 1) + 1) + 1)])), (b, .inl (X.2.1, 220, .inl (upd (upd (upd (upd f (Int32.toNatClampNeg y) (x1 &&& 255)) (Int32.toNatClampNeg (y + 1)) (x2 &&& 255)) (Int32.toNatClampNeg ((y + 1) + 1)) (x3 &&& 255)) (Int32.toNatClampNeg (((y + 1) + 1) + 1)) (x4 &&& 255))))]) d_X9_add_32 rfl (by rw [hy]; (try simp only [nI_1]); exact vp_in_nI (by omega) (by decide)) rfl ?_
  refine g_aload_n cx 1 rfl d_X9_add_33 ?_
  refine g_dup cx rfl d_X9_add_34 ?_
  refine g_get cx cl_X9 fl_X9_15 0 (.int (((y + 1) + 1) + 1)) d_X9_add_35 rfl rfl ?_
  refine g_iconst cx 1 (by decide) d_X9_add_38 ?_
  refine g_iadd cx d_X9_add_39 ?_
  refine g_put cx cl_X9 fl_X9_15 0 ([(h, .inr (9, [.ref b, .int ((((y + 1) + 1) + 1) + 1)])), (b, .inl (X.2.1, 220, .inl (upd (upd (upd (upd f (Int32.toNatClampNeg y) (x1 &&& 255)) (Int32.toNatClampNeg (y + 1)) (x2 &&& 255)) (Int32.toNatClampNeg ((y + 1) + 1)) (x3 &&& 255)) (Int32.toNatClampNeg (((y + 1) + 1) + 1)) (x4 &&& 255))))]) d_X9_add_40 rfl rfl rfl rfl (Nat.le_of_ble_eq_true rfl) rfl ?_
  refine g_iinc cx (-8) [(2, .int (-8)), (0, .ref h), (1, .int four)] 0 d_X9_add_43 rfl (by decide) (by decide) rfl ?_
  refine g_goto cx 3 d_X9_add_46 (by decide) ?_
  refine g_iload_n cx 0 rfl d_X9_add_3 ?_
  refine g_if_lt_t cx 49 d_X9_add_4 (by decide) (by decide) ?_
  exact hret d_X9_add_49 (Nat.le_of_ble_eq_true rfl) (Nat.le_of_ble_eq_true rfl) (⟨_, by rw [hy]; simp only [nI_1]; rfl, trivial⟩)
theorem d_X1_holdStill_0 : g_dc cX1_holdStill 0 (.aload_n 0) 1 1 := ⟨by decide +kernel, rfl⟩
theorem d_X1_holdStill_1 : g_dc cX1_holdStill 1 (.iconst 0) 1 2 := ⟨by decide +kernel, rfl⟩
theorem d_X1_holdStill_2 : g_dc cX1_holdStill 2 (.putfield 9) 3 5 := ⟨by decide +kernel, rfl⟩
theorem d_X1_holdStill_5 : g_dc cX1_holdStill 5 (.aload_n 0) 1 6 := ⟨by decide +kernel, rfl⟩
theorem d_X1_holdStill_6 : g_dc cX1_holdStill 6 (.iconst 0) 1 7 := ⟨by decide +kernel, rfl⟩
theorem d_X1_holdStill_7 : g_dc cX1_holdStill 7 (.putfield 19) 3 10 := ⟨by decide +kernel, rfl⟩
theorem d_X1_holdStill_10 : g_dc cX1_holdStill 10 (.return_) 1 11 := ⟨by decide +kernel, rfl⟩
set_option maxHeartbeats 4000000 in
set_option maxRecDepth 100000 in
theorem c_X1_holdStill (l : Launch) (X : gX) (h : Nat) (dr x tt td : Int32) : g_Cv l X yX1_holdStill cX1_holdStill 1 1 0 0 [.ref h] [(h, .inr (1, [.int dr, .int x, .int tt, .int td]))] (fun w => w = [(h, .inr (1, [.int 0, .int x, .int 0, .int td]))] ∧ True) := by
  refine g_mv (by decide +kernel) (Nat.le_of_ble_eq_true rfl) (fun E cx hret => ?_)
  refine g_aload_n cx 0 rfl d_X1_holdStill_0 ?_
  refine g_iconst cx 0 (by decide) d_X1_holdStill_1 ?_
  refine g_put cx cl_X1 fl_X1_9 0 ([(h, .inr (1, [.int 0, .int x, .int tt, .int td]))]) d_X1_holdStill_2 rfl rfl rfl rfl (Nat.le_of_ble_eq_true rfl) rfl ?_
  refine g_aload_n cx 0 rfl d_X1_holdStill_5 ?_
  refine g_iconst cx 0 (by decide) d_X1_holdStill_6 ?_
  refine g_put cx cl_X1 fl_X1_19 0 ([(h, .inr (1, [.int 0, .int x, .int 0, .int td]))]) d_X1_holdStill_7 rfl rfl rfl rfl (Nat.le_of_ble_eq_true rfl) rfl ?_
  exact hret d_X1_holdStill_10 (Nat.le_of_ble_eq_true rfl) (Nat.le_of_ble_eq_true rfl) (⟨rfl, trivial⟩)
theorem d_X1_drawFrom_0 : g_dc cX1_drawFrom 0 (.aload_n 0) 1 1 := ⟨by decide +kernel, rfl⟩
theorem d_X1_drawFrom_1 : g_dc cX1_drawFrom 1 (.iconst 1) 1 2 := ⟨by decide +kernel, rfl⟩
theorem d_X1_drawFrom_2 : g_dc cX1_drawFrom 2 (.putfield 9) 3 5 := ⟨by decide +kernel, rfl⟩
theorem d_X1_drawFrom_5 : g_dc cX1_drawFrom 5 (.aload_n 0) 1 6 := ⟨by decide +kernel, rfl⟩
theorem d_X1_drawFrom_6 : g_dc cX1_drawFrom 6 (.iload_n 1) 1 7 := ⟨by decide +kernel, rfl⟩
theorem d_X1_drawFrom_7 : g_dc cX1_drawFrom 7 (.putfield 15) 3 10 := ⟨by decide +kernel, rfl⟩
theorem d_X1_drawFrom_10 : g_dc cX1_drawFrom 10 (.return_) 1 11 := ⟨by decide +kernel, rfl⟩
set_option maxHeartbeats 4000000 in
set_option maxRecDepth 100000 in
theorem c_X1_drawFrom (l : Launch) (X : gX) (h : Nat) (dr x tt td : Int32) (s : Int32) : g_Cv l X yX1_drawFrom cX1_drawFrom 2 1 0 0 [.ref h, .int s] [(h, .inr (1, [.int dr, .int x, .int tt, .int td]))] (fun w => w = [(h, .inr (1, [.int 1, .int s, .int tt, .int td]))] ∧ True) := by
  refine g_mv (by decide +kernel) (Nat.le_of_ble_eq_true rfl) (fun E cx hret => ?_)
  refine g_aload_n cx 0 rfl d_X1_drawFrom_0 ?_
  refine g_iconst cx 1 (by decide) d_X1_drawFrom_1 ?_
  refine g_put cx cl_X1 fl_X1_9 0 ([(h, .inr (1, [.int 1, .int x, .int tt, .int td]))]) d_X1_drawFrom_2 rfl rfl rfl rfl (Nat.le_of_ble_eq_true rfl) rfl ?_
  refine g_aload_n cx 0 rfl d_X1_drawFrom_5 ?_
  refine g_iload_n cx 1 rfl d_X1_drawFrom_6 ?_
  refine g_put cx cl_X1 fl_X1_15 0 ([(h, .inr (1, [.int 1, .int s, .int tt, .int td]))]) d_X1_drawFrom_7 rfl rfl rfl rfl (Nat.le_of_ble_eq_true rfl) rfl ?_
  exact hret d_X1_drawFrom_10 (Nat.le_of_ble_eq_true rfl) (Nat.le_of_ble_eq_true rfl) (⟨rfl, trivial⟩)
theorem d_X1_draw_0 : g_dc cX1_draw 0 (.aload_n 0) 1 1 := ⟨by decide +kernel, rfl⟩
theorem d_X1_draw_1 : g_dc cX1_draw 1 (.getfield 9) 3 4 := ⟨by decide +kernel, rfl⟩
theorem d_X1_draw_4 : g_dc cX1_draw 4 (.ifCond .eq 30) 3 7 := ⟨by decide +kernel, rfl⟩
theorem d_X1_draw_34 : g_dc cX1_draw 34 (.iload_n 1) 1 35 := ⟨by decide +kernel, rfl⟩
theorem d_X1_draw_35 : g_dc cX1_draw 35 (.aload_n 0) 1 36 := ⟨by decide +kernel, rfl⟩
theorem d_X1_draw_36 : g_dc cX1_draw 36 (.getfield 19) 3 39 := ⟨by decide +kernel, rfl⟩
theorem d_X1_draw_39 : g_dc cX1_draw 39 (.if_icmp .lt 5) 3 42 := ⟨by decide +kernel, rfl⟩
theorem d_X1_draw_42 : g_dc cX1_draw 42 (.iconst (-1)) 1 43 := ⟨by decide +kernel, rfl⟩
theorem d_X1_draw_43 : g_dc cX1_draw 43 (.ireturn) 1 44 := ⟨by decide +kernel, rfl⟩
set_option maxHeartbeats 4000000 in
set_option maxRecDepth 100000 in
theorem c0_X1_draw (l : Launch) (X : gX) (h : Nat) (dr x tt td : Int32) (i : Int32) (hd : dr = 0) (ht : tt = 0) (hi : ¬ i < 0) : g_Ci l X yX1_draw cX1_draw 3 (some .int) 1 0 0 [.ref h, .int i] [(h, .inr (1, [.int dr, .int x, .int tt, .int td]))] (fun r w => w = [(h, .inr (1, [.int dr, .int x, .int tt, .int td]))] ∧ r = -1) := by
  refine g_mi (by decide +kernel) (Nat.le_of_ble_eq_true rfl) (fun E cx hret => ?_)
  refine g_aload_n cx 0 rfl d_X1_draw_0 ?_
  refine g_get cx cl_X1 fl_X1_9 0 (.int dr) d_X1_draw_1 rfl rfl ?_
  refine g_if_eq_t cx 34 d_X1_draw_4 (by decide) (hd) ?_
  refine g_iload_n cx 1 rfl d_X1_draw_34 ?_
  refine g_aload_n cx 0 rfl d_X1_draw_35 ?_
  refine g_get cx cl_X1 fl_X1_19 0 (.int tt) d_X1_draw_36 rfl rfl ?_
  refine g_icmp_lt_f cx 44 d_X1_draw_39 (by decide) (by rw [ht]; exact hi) ?_
  refine g_iconst cx (-1) (by decide) d_X1_draw_42 ?_
  exact hret d_X1_draw_43 (Nat.le_of_ble_eq_true rfl) (Nat.le_of_ble_eq_true rfl) rfl (⟨rfl, rfl⟩)
theorem d_X2_forget_0 : g_dc cX2_forget 0 (.iconst 0) 1 1 := ⟨by decide +kernel, rfl⟩
theorem d_X2_forget_1 : g_dc cX2_forget 1 (.istore_n 1) 1 2 := ⟨by decide +kernel, rfl⟩
theorem d_X2_forget_2 : g_dc cX2_forget 2 (.iload_n 1) 1 3 := ⟨by decide +kernel, rfl⟩
theorem d_X2_forget_3 : g_dc cX2_forget 3 (.aload_n 0) 1 4 := ⟨by decide +kernel, rfl⟩
theorem d_X2_forget_4 : g_dc cX2_forget 4 (.getfield 34) 3 7 := ⟨by decide +kernel, rfl⟩
theorem d_X2_forget_7 : g_dc cX2_forget 7 (.arraylength) 1 8 := ⟨by decide +kernel, rfl⟩
theorem d_X2_forget_8 : g_dc cX2_forget 8 (.if_icmp .ge 16) 3 11 := ⟨by decide +kernel, rfl⟩
theorem d_X2_forget_11 : g_dc cX2_forget 11 (.aload_n 0) 1 12 := ⟨by decide +kernel, rfl⟩
theorem d_X2_forget_12 : g_dc cX2_forget 12 (.getfield 34) 3 15 := ⟨by decide +kernel, rfl⟩
theorem d_X2_forget_15 : g_dc cX2_forget 15 (.iload_n 1) 1 16 := ⟨by decide +kernel, rfl⟩
theorem d_X2_forget_16 : g_dc cX2_forget 16 (.iconst 0) 1 17 := ⟨by decide +kernel, rfl⟩
theorem d_X2_forget_17 : g_dc cX2_forget 17 (.iastore) 1 18 := ⟨by decide +kernel, rfl⟩
theorem d_X2_forget_18 : g_dc cX2_forget 18 (.iinc 1 1) 3 21 := ⟨by decide +kernel, rfl⟩
theorem d_X2_forget_21 : g_dc cX2_forget 21 (.goto (-19)) 3 24 := ⟨by decide +kernel, rfl⟩
theorem d_X2_forget_24 : g_dc cX2_forget 24 (.return_) 1 25 := ⟨by decide +kernel, rfl⟩
set_option maxHeartbeats 4000000 in
set_option maxRecDepth 100000 in
theorem c_X2_forget (l : Launch) (X : gX) (h : Nat) (q0 q1 q3 q4 q5 q7 q8 : Nat) (sz cs : Int32) (f : Nat → Int32) : g_Cv l X yX2_forget cX2_forget 2 1 0 0 [.ref h] [(h, .inr (2, [.ref q0, .ref q1, .int sz, .ref q3, .ref q4, .ref q5, .int cs, .ref q7, .ref q8])), (q7, .inl (X.2.1, 12, .inl f))] (fun w => ∃ g : Nat → Int32, w = [(h, .inr (2, [.ref q0, .ref q1, .int sz, .ref q3, .ref q4, .ref q5, .int cs, .ref q7, .ref q8])), (q7, .inl (X.2.1, 12, .inl g))] ∧ True) := by
  refine g_mv (by decide +kernel) (Nat.le_of_ble_eq_true rfl) (fun E cx hret => ?_)
  refine g_iconst cx 0 (by decide) d_X2_forget_0 ?_
  refine g_istore_n cx [(1, .int 0), (0, .ref h)] d_X2_forget_1 (by decide) rfl ?_
  refine g_iload_n cx 0 rfl d_X2_forget_2 ?_
  refine g_aload_n cx 1 rfl d_X2_forget_3 ?_
  refine g_get cx cl_X2 fl_X2_34 0 (.ref q7) d_X2_forget_4 rfl rfl ?_
  refine g_alen cx 1 12 d_X2_forget_7 rfl (by decide) ?_
  refine g_icmp_ge_f cx 24 d_X2_forget_8 (by decide) (by decide) ?_
  refine g_aload_n cx 1 rfl d_X2_forget_11 ?_
  refine g_get cx cl_X2 fl_X2_34 0 (.ref q7) d_X2_forget_12 rfl rfl ?_
  refine g_iload_n cx 0 rfl d_X2_forget_15 ?_
  refine g_iconst cx 0 (by decide) d_X2_forget_16 ?_
  refine g_iast cx 1 ([(h, .inr (2, [.ref q0, .ref q1, .int sz, .ref q3, .ref q4, .ref q5, .int cs, .ref q7, .ref q8])), (q7, .inl (X.2.1, 12, .inl (upd f 0 0)))]) d_X2_forget_17 rfl (by unfold vp_in; decide) rfl ?_
  refine g_iinc cx 1 [(1, .int 1), (0, .ref h)] 0 d_X2_forget_18 rfl (by decide) (by decide) rfl ?_
  refine g_goto cx 2 d_X2_forget_21 (by decide) ?_
  refine g_iload_n cx 0 rfl d_X2_forget_2 ?_
  refine g_aload_n cx 1 rfl d_X2_forget_3 ?_
  refine g_get cx cl_X2 fl_X2_34 0 (.ref q7) d_X2_forget_4 rfl rfl ?_
  refine g_alen cx 1 12 d_X2_forget_7 rfl (by decide) ?_
  refine g_icmp_ge_f cx 24 d_X2_forget_8 (by decide) (by decide) ?_
  refine g_aload_n cx 1 rfl d_X2_forget_11 ?_
  refine g_get cx cl_X2 fl_X2_34 0 (.ref q7) d_X2_forget_12 rfl rfl ?_
  refine g_iload_n cx 0 rfl d_X2_forget_15 ?_
  refine g_iconst cx 0 (by decide) d_X2_forget_16 ?_
  refine g_iast cx 1 ([(h, .inr (2, [.ref q0, .ref q1, .int sz, .ref q3, .ref q4, .ref q5, .int cs, .ref q7, .ref q8])), (q7, .inl (X.2.1, 12, .inl (upd (upd f 0 0) 1 0)))]) d_X2_forget_17 rfl (by unfold vp_in; decide) rfl ?_
  refine g_iinc cx 2 [(1, .int 2), (0, .ref h)] 0 d_X2_forget_18 rfl (by decide) (by decide) rfl ?_
  refine g_goto cx 2 d_X2_forget_21 (by decide) ?_
  refine g_iload_n cx 0 rfl d_X2_forget_2 ?_
  refine g_aload_n cx 1 rfl d_X2_forget_3 ?_
  refine g_get cx cl_X2 fl_X2_34 0 (.ref q7) d_X2_forget_4 rfl rfl ?_
  refine g_alen cx 1 12 d_X2_forget_7 rfl (by decide) ?_
  refine g_icmp_ge_f cx 24 d_X2_forget_8 (by decide) (by decide) ?_
  refine g_aload_n cx 1 rfl d_X2_forget_11 ?_
  refine g_get cx cl_X2 fl_X2_34 0 (.ref q7) d_X2_forget_12 rfl rfl ?_
  refine g_iload_n cx 0 rfl d_X2_forget_15 ?_
  refine g_iconst cx 0 (by decide) d_X2_forget_16 ?_
  refine g_iast cx 1 ([(h, .inr (2, [.ref q0, .ref q1, .int sz, .ref q3, .ref q4, .ref q5, .int cs, .ref q7, .ref q8])), (q7, .inl (X.2.1, 12, .inl (upd (upd (upd f 0 0) 1 0) 2 0)))]) d_X2_forget_17 rfl (by unfold vp_in; decide) rfl ?_
  refine g_iinc cx 3 [(1, .int 3), (0, .ref h)] 0 d_X2_forget_18 rfl (by decide) (by decide) rfl ?_
  refine g_goto cx 2 d_X2_forget_21 (by decide) ?_
  refine g_iload_n cx 0 rfl d_X2_forget_2 ?_
  refine g_aload_n cx 1 rfl d_X2_forget_3 ?_
  refine g_get cx cl_X2 fl_X2_34 0 (.ref q7) d_X2_forget_4 rfl rfl ?_
  refine g_alen cx 1 12 d_X2_forget_7 rfl (by decide) ?_
  refine g_icmp_ge_f cx 24 d_X2_forget_8 (by decide) (by decide) ?_
  refine g_aload_n cx 1 rfl d_X2_forget_11 ?_
  refine g_get cx cl_X2 fl_X2_34 0 (.ref q7) d_X2_forget_12 rfl rfl ?_
  refine g_iload_n cx 0 rfl d_X2_forget_15 ?_
  refine g_iconst cx 0 (by decide) d_X2_forget_16 ?_
  refine g_iast cx 1 ([(h, .inr (2, [.ref q0, .ref q1, .int sz, .ref q3, .ref q4, .ref q5, .int cs, .ref q7, .ref q8])), (q7, .inl (X.2.1, 12, .inl (upd (upd (upd (upd f 0 0) 1 0) 2 0) 3 0)))]) d_X2_forget_17 rfl (by unfold vp_in; decide) rfl ?_
  refine g_iinc cx 4 [(1, .int 4), (0, .ref h)] 0 d_X2_forget_18 rfl (by decide) (by decide) rfl ?_
  refine g_goto cx 2 d_X2_forget_21 (by decide) ?_
  refine g_iload_n cx 0 rfl d_X2_forget_2 ?_
  refine g_aload_n cx 1 rfl d_X2_forget_3 ?_
  refine g_get cx cl_X2 fl_X2_34 0 (.ref q7) d_X2_forget_4 rfl rfl ?_
  refine g_alen cx 1 12 d_X2_forget_7 rfl (by decide) ?_
  refine g_icmp_ge_f cx 24 d_X2_forget_8 (by decide) (by decide) ?_
  refine g_aload_n cx 1 rfl d_X2_forget_11 ?_
  refine g_get cx cl_X2 fl_X2_34 0 (.ref q7) d_X2_forget_12 rfl rfl ?_
  refine g_iload_n cx 0 rfl d_X2_forget_15 ?_
  refine g_iconst cx 0 (by decide) d_X2_forget_16 ?_
  refine g_iast cx 1 ([(h, .inr (2, [.ref q0, .ref q1, .int sz, .ref q3, .ref q4, .ref q5, .int cs, .ref q7, .ref q8])), (q7, .inl (X.2.1, 12, .inl (upd (upd (upd (upd (upd f 0 0) 1 0) 2 0) 3 0) 4 0)))]) d_X2_forget_17 rfl (by unfold vp_in; decide) rfl ?_
  refine g_iinc cx 5 [(1, .int 5), (0, .ref h)] 0 d_X2_forget_18 rfl (by decide) (by decide) rfl ?_
  refine g_goto cx 2 d_X2_forget_21 (by decide) ?_
  refine g_iload_n cx 0 rfl d_X2_forget_2 ?_
  refine g_aload_n cx 1 rfl d_X2_forget_3 ?_
  refine g_get cx cl_X2 fl_X2_34 0 (.ref q7) d_X2_forget_4 rfl rfl ?_
  refine g_alen cx 1 12 d_X2_forget_7 rfl (by decide) ?_
  refine g_icmp_ge_f cx 24 d_X2_forget_8 (by decide) (by decide) ?_
  refine g_aload_n cx 1 rfl d_X2_forget_11 ?_
  refine g_get cx cl_X2 fl_X2_34 0 (.ref q7) d_X2_forget_12 rfl rfl ?_
  refine g_iload_n cx 0 rfl d_X2_forget_15 ?_
  refine g_iconst cx 0 (by decide) d_X2_forget_16 ?_
  refine g_iast cx 1 ([(h, .inr (2, [.ref q0, .ref q1, .int sz, .ref q3, .ref q4, .ref q5, .int cs, .ref q7, .ref q8])), (q7, .inl (X.2.1, 12, .inl (upd (upd (upd (upd (upd (upd f 0 0) 1 0) 2 0) 3 0) 4 0) 5 0)))]) d_X2_forget_17 rfl (by unfold vp_in; decide) rfl ?_
  refine g_iinc cx 6 [(1, .int 6), (0, .ref h)] 0 d_X2_forget_18 rfl (by decide) (by decide) rfl ?_
  refine g_goto cx 2 d_X2_forget_21 (by decide) ?_
  refine g_iload_n cx 0 rfl d_X2_forget_2 ?_
  refine g_aload_n cx 1 rfl d_X2_forget_3 ?_
  refine g_get cx cl_X2 fl_X2_34 0 (.ref q7) d_X2_forget_4 rfl rfl ?_
  refine g_alen cx 1 12 d_X2_forget_7 rfl (by decide) ?_
  refine g_icmp_ge_f cx 24 d_X2_forget_8 (by decide) (by decide) ?_
  refine g_aload_n cx 1 rfl d_X2_forget_11 ?_
  refine g_get cx cl_X2 fl_X2_34 0 (.ref q7) d_X2_forget_12 rfl rfl ?_
  refine g_iload_n cx 0 rfl d_X2_forget_15 ?_
  refine g_iconst cx 0 (by decide) d_X2_forget_16 ?_
  refine g_iast cx 1 ([(h, .inr (2, [.ref q0, .ref q1, .int sz, .ref q3, .ref q4, .ref q5, .int cs, .ref q7, .ref q8])), (q7, .inl (X.2.1, 12, .inl (upd (upd (upd (upd (upd (upd (upd f 0 0) 1 0) 2 0) 3 0) 4 0) 5 0) 6 0)))]) d_X2_forget_17 rfl (by unfold vp_in; decide) rfl ?_
  refine g_iinc cx 7 [(1, .int 7), (0, .ref h)] 0 d_X2_forget_18 rfl (by decide) (by decide) rfl ?_
  refine g_goto cx 2 d_X2_forget_21 (by decide) ?_
  refine g_iload_n cx 0 rfl d_X2_forget_2 ?_
  refine g_aload_n cx 1 rfl d_X2_forget_3 ?_
  refine g_get cx cl_X2 fl_X2_34 0 (.ref q7) d_X2_forget_4 rfl rfl ?_
  refine g_alen cx 1 12 d_X2_forget_7 rfl (by decide) ?_
  refine g_icmp_ge_f cx 24 d_X2_forget_8 (by decide) (by decide) ?_
  refine g_aload_n cx 1 rfl d_X2_forget_11 ?_
  refine g_get cx cl_X2 fl_X2_34 0 (.ref q7) d_X2_forget_12 rfl rfl ?_
  refine g_iload_n cx 0 rfl d_X2_forget_15 ?_
  refine g_iconst cx 0 (by decide) d_X2_forget_16 ?_
  refine g_iast cx 1 ([(h, .inr (2, [.ref q0, .ref q1, .int sz, .ref q3, .ref q4, .ref q5, .int cs, .ref q7, .ref q8])), (q7, .inl (X.2.1, 12, .inl (upd (upd (upd (upd (upd (upd (upd (upd f 0 0) 1 0) 2 0) 3 0) 4 0) 5 0) 6 0) 7 0)))]) d_X2_forget_17 rfl (by unfold vp_in; decide) rfl ?_
  refine g_iinc cx 8 [(1, .int 8), (0, .ref h)] 0 d_X2_forget_18 rfl (by decide) (by decide) rfl ?_
  refine g_goto cx 2 d_X2_forget_21 (by decide) ?_
  refine g_iload_n cx 0 rfl d_X2_forget_2 ?_
  refine g_aload_n cx 1 rfl d_X2_forget_3 ?_
  refine g_get cx cl_X2 fl_X2_34 0 (.ref q7) d_X2_forget_4 rfl rfl ?_
  refine g_alen cx 1 12 d_X2_forget_7 rfl (by decide) ?_
  refine g_icmp_ge_f cx 24 d_X2_forget_8 (by decide) (by decide) ?_
  refine g_aload_n cx 1 rfl d_X2_forget_11 ?_
  refine g_get cx cl_X2 fl_X2_34 0 (.ref q7) d_X2_forget_12 rfl rfl ?_
  refine g_iload_n cx 0 rfl d_X2_forget_15 ?_
  refine g_iconst cx 0 (by decide) d_X2_forget_16 ?_
  refine g_iast cx 1 ([(h, .inr (2, [.ref q0, .ref q1, .int sz, .ref q3, .ref q4, .ref q5, .int cs, .ref q7, .ref q8])), (q7, .inl (X.2.1, 12, .inl (upd (upd (upd (upd (upd (upd (upd (upd (upd f 0 0) 1 0) 2 0) 3 0) 4 0) 5 0) 6 0) 7 0) 8 0)))]) d_X2_forget_17 rfl (by unfold vp_in; decide) rfl ?_
  refine g_iinc cx 9 [(1, .int 9), (0, .ref h)] 0 d_X2_forget_18 rfl (by decide) (by decide) rfl ?_
  refine g_goto cx 2 d_X2_forget_21 (by decide) ?_
  refine g_iload_n cx 0 rfl d_X2_forget_2 ?_
  refine g_aload_n cx 1 rfl d_X2_forget_3 ?_
  refine g_get cx cl_X2 fl_X2_34 0 (.ref q7) d_X2_forget_4 rfl rfl ?_
  refine g_alen cx 1 12 d_X2_forget_7 rfl (by decide) ?_
  refine g_icmp_ge_f cx 24 d_X2_forget_8 (by decide) (by decide) ?_
  refine g_aload_n cx 1 rfl d_X2_forget_11 ?_
  refine g_get cx cl_X2 fl_X2_34 0 (.ref q7) d_X2_forget_12 rfl rfl ?_
  refine g_iload_n cx 0 rfl d_X2_forget_15 ?_
  refine g_iconst cx 0 (by decide) d_X2_forget_16 ?_
  refine g_iast cx 1 ([(h, .inr (2, [.ref q0, .ref q1, .int sz, .ref q3, .ref q4, .ref q5, .int cs, .ref q7, .ref q8])), (q7, .inl (X.2.1, 12, .inl (upd (upd (upd (upd (upd (upd (upd (upd (upd (upd f 0 0) 1 0) 2 0) 3 0) 4 0) 5 0) 6 0) 7 0) 8 0) 9 0)))]) d_X2_forget_17 rfl (by unfold vp_in; decide) rfl ?_
  refine g_iinc cx 10 [(1, .int 10), (0, .ref h)] 0 d_X2_forget_18 rfl (by decide) (by decide) rfl ?_
  refine g_goto cx 2 d_X2_forget_21 (by decide) ?_
  refine g_iload_n cx 0 rfl d_X2_forget_2 ?_
  refine g_aload_n cx 1 rfl d_X2_forget_3 ?_
  refine g_get cx cl_X2 fl_X2_34 0 (.ref q7) d_X2_forget_4 rfl rfl ?_
  refine g_alen cx 1 12 d_X2_forget_7 rfl (by decide) ?_
  refine g_icmp_ge_f cx 24 d_X2_forget_8 (by decide) (by decide) ?_
  refine g_aload_n cx 1 rfl d_X2_forget_11 ?_
  refine g_get cx cl_X2 fl_X2_34 0 (.ref q7) d_X2_forget_12 rfl rfl ?_
  refine g_iload_n cx 0 rfl d_X2_forget_15 ?_
  refine g_iconst cx 0 (by decide) d_X2_forget_16 ?_
  refine g_iast cx 1 ([(h, .inr (2, [.ref q0, .ref q1, .int sz, .ref q3, .ref q4, .ref q5, .int cs, .ref q7, .ref q8])), (q7, .inl (X.2.1, 12, .inl (upd (upd (upd (upd (upd (upd (upd (upd (upd (upd (upd f 0 0) 1 0) 2 0) 3 0) 4 0) 5 0) 6 0) 7 0) 8 0) 9 0) 10 0)))]) d_X2_forget_17 rfl (by unfold vp_in; decide) rfl ?_
  refine g_iinc cx 11 [(1, .int 11), (0, .ref h)] 0 d_X2_forget_18 rfl (by decide) (by decide) rfl ?_
  refine g_goto cx 2 d_X2_forget_21 (by decide) ?_
  refine g_iload_n cx 0 rfl d_X2_forget_2 ?_
  refine g_aload_n cx 1 rfl d_X2_forget_3 ?_
  refine g_get cx cl_X2 fl_X2_34 0 (.ref q7) d_X2_forget_4 rfl rfl ?_
  refine g_alen cx 1 12 d_X2_forget_7 rfl (by decide) ?_
  refine g_icmp_ge_f cx 24 d_X2_forget_8 (by decide) (by decide) ?_
  refine g_aload_n cx 1 rfl d_X2_forget_11 ?_
  refine g_get cx cl_X2 fl_X2_34 0 (.ref q7) d_X2_forget_12 rfl rfl ?_
  refine g_iload_n cx 0 rfl d_X2_forget_15 ?_
  refine g_iconst cx 0 (by decide) d_X2_forget_16 ?_
  refine g_iast cx 1 ([(h, .inr (2, [.ref q0, .ref q1, .int sz, .ref q3, .ref q4, .ref q5, .int cs, .ref q7, .ref q8])), (q7, .inl (X.2.1, 12, .inl (upd (upd (upd (upd (upd (upd (upd (upd (upd (upd (upd (upd f 0 0) 1 0) 2 0) 3 0) 4 0) 5 0) 6 0) 7 0) 8 0) 9 0) 10 0) 11 0)))]) d_X2_forget_17 rfl (by unfold vp_in; decide) rfl ?_
  refine g_iinc cx 12 [(1, .int 12), (0, .ref h)] 0 d_X2_forget_18 rfl (by decide) (by decide) rfl ?_
  refine g_goto cx 2 d_X2_forget_21 (by decide) ?_
  refine g_iload_n cx 0 rfl d_X2_forget_2 ?_
  refine g_aload_n cx 1 rfl d_X2_forget_3 ?_
  refine g_get cx cl_X2 fl_X2_34 0 (.ref q7) d_X2_forget_4 rfl rfl ?_
  refine g_alen cx 1 12 d_X2_forget_7 rfl (by decide) ?_
  refine g_icmp_ge_t cx 24 d_X2_forget_8 (by decide) (by decide) ?_
  exact hret d_X2_forget_24 (Nat.le_of_ble_eq_true rfl) (Nat.le_of_ble_eq_true rfl) (⟨_, rfl, trivial⟩)
end
section
section GCO
variable {X : gX} {E : gE} {nL k n : Nat} {l : Launch} {R : Room} {cc : ByteArray} {own : String} {ini : Prop} {ws : va_W} {lv : List (Nat × Value)} {pc pc' : Nat} {st0 : List Value}
variable {y : MethodName} {b : ByteArray} {ml d mc ms idx : Nat} {wc : va_W}
theorem g_cOiW {ret : Option FieldType} {post : Int32 → va_W → Prop} (cx : g_cx X E nL l R cc own ini) (As st : List Value) (hM : g_Ci l X y b ml ret d mc ms As ws post) (hw : Cond.methodLink own idx y ∈ gT) (hy : g_yS y b ml ret As.length) (hd : g_dc cc pc (.invokestatic idx) 3 pc') (hR : g_rr R d ml) (hf : k + mc ≤ R.cells ∧ n + ms ≤ R.slots) (hst : st0 = As.reverse ++ st) (hW : (st.map fun v => v.category).sum ≤ 8)
    (kk : ∀ r w, post r w → G X E nL (k + mc) (n + ms) w lv pc' (.int r :: st)) : G X E nL k n ws lv pc st0 := by
  obtain ⟨p, e, s, args, below, meth, c, Q, hE, hx, hb, hml, hown, hts, hK, hN, hA, hini⟩ := cx
  obtain ⟨hd, rfl⟩ := hd
  subst hst
  intro H locs ls hP hD hS hl
  rw [hE]
  have hPc : va_P X.1 vwCl ws H := hP
  have hDc := hD
  have hFc := va_free (wc := ws) hD hS hA (List.range ws.length) (g_all ws)
  have hgood : GoodIn gT (gW y b ml ret) := g_good (fun w h => by
    rcases List.mem_cons.mp h with rfl | h
    · exact hy.2.2.1
    · exact h)
  refine va_calli (va_runS (As := As) (rest := st) ⟨hx, hb, hml, hown, hts⟩ (hM H.size) ⟨callB_of As.length hts hgood rfl rfl rfl (hts _ hy.2.1) (hts _ hw) hy.2.2.2 hR, hts _ hy.1⟩ ⟨g_pc_ok, fun U hU hW => ⟨rfl, by rw [hU], by rw [hU]; exact hPc, va_K.moved hW.alike hK, hDc.weaken (fun _ _ _ _ => trivial), g_nf_warm hW hN⟩⟩ rfl rfl hl.1 rfl (lv_room hW) hd hf) hS (fun q _ h => hFc q h) hFc (fun r w t H1 locs1 ht hvm hp hB hz hk1 hS1 => ?_)
  obtain ⟨hP1, hD1⟩ := hB
  rw [ht] at hP1
  have k1 := kk r w hp H1 locs1 ls hP1 (hD1.weaken (fun _ q _ h => hFc q.1 h)) hS1 hl
  rw [hE] at k1
  exact k1
end GCO

def g_st (what : Int32) : Int32 := if what = 3 then 100 else if 0 ≤ what ∧ what ≤ 8 then 0 else -1
theorem g_sw9 (x : Int32) : x = 0 ∨ x = 1 ∨ x = 2 ∨ x = 3 ∨ x = 4 ∨ x = 5 ∨ x = 6 ∨ x = 7 ∨ x = 8 ∨ (x.toInt < 0 ∨ 8 < x.toInt) := by
  by_cases h0 : x.toInt < 0
  · simp [h0]
  by_cases h8 : 8 < x.toInt
  · simp [h8]
  have e : ∀ k : Int32, x.toInt = k.toInt → x = k := fun k h => Int32.toInt_inj.mp h
  have : x.toInt = 0 ∨ x.toInt = 1 ∨ x.toInt = 2 ∨ x.toInt = 3 ∨ x.toInt = 4 ∨ x.toInt = 5 ∨ x.toInt = 6 ∨ x.toInt = 7 ∨ x.toInt = 8 := by omega
  rcases this with h | h | h | h | h | h | h | h | h
  · exact Or.inl (e 0 h)
  · exact Or.inr (Or.inl (e 1 h))
  · exact Or.inr (Or.inr (Or.inl (e 2 h)))
  · exact Or.inr (Or.inr (Or.inr (Or.inl (e 3 h))))
  · exact Or.inr (Or.inr (Or.inr (Or.inr (Or.inl (e 4 h)))))
  · exact Or.inr (Or.inr (Or.inr (Or.inr (Or.inr (Or.inl (e 5 h))))))
  · exact Or.inr (Or.inr (Or.inr (Or.inr (Or.inr (Or.inr (Or.inl (e 6 h)))))))
  · exact Or.inr (Or.inr (Or.inr (Or.inr (Or.inr (Or.inr (Or.inr (Or.inl (e 7 h))))))))
  · exact Or.inr (Or.inr (Or.inr (Or.inr (Or.inr (Or.inr (Or.inr (Or.inr (Or.inl (e 8 h)))))))))
theorem g_st_out {x : Int32} (h : x.toInt < 0 ∨ 8 < x.toInt) : g_st x = -1 := by
  unfold g_st
  have h3 : ¬ x = 3 := fun e => by subst e; revert h; decide
  rw [if_neg h3]
  rw [if_neg]
  rintro ⟨a, b⟩
  have a1 := Int32.le_iff_toInt_le.mp a
  have b1 := Int32.le_iff_toInt_le.mp b
  have e0 : (0 : Int32).toInt = 0 := by decide
  have e8 : (8 : Int32).toInt = 8 := by decide
  rw [e0] at a1
  rw [e8] at b1
  omega
theorem g_sumS {f : Nat → Int32} {i : Nat} {x : Int32} (hx : x = nI i) (hi : i < 2 ^ 31) : g_sum f i + f x.toNatClampNeg = g_sum f (i + 1) := by
  rw [hx, nI_clamp hi]; rfl
theorem g_lt10 {x : Int32} {i n : Nat} (hx : x = nI i) (hi : i < 2 ^ 31) (h : ¬ nI n ≤ x) : i < n := g_lt_of hx hi h

theorem d_X4_standingSet_0 : g_dc cX4_standingSet 0 (.aload_n 0) 1 1 := ⟨by decide +kernel, rfl⟩
theorem d_X4_standingSet_1 : g_dc cX4_standingSet 1 (.getfield 21) 3 4 := ⟨by decide +kernel, rfl⟩
theorem d_X4_standingSet_4 : g_dc cX4_standingSet 4 (.aload_n 0) 1 5 := ⟨by decide +kernel, rfl⟩
theorem d_X4_standingSet_5 : g_dc cX4_standingSet 5 (.getfield 25) 3 8 := ⟨by decide +kernel, rfl⟩
theorem d_X4_standingSet_8 : g_dc cX4_standingSet 8 (.aload_n 0) 1 9 := ⟨by decide +kernel, rfl⟩
theorem d_X4_standingSet_9 : g_dc cX4_standingSet 9 (.getfield 28) 3 12 := ⟨by decide +kernel, rfl⟩
theorem d_X4_standingSet_12 : g_dc cX4_standingSet 12 (.ior) 1 13 := ⟨by decide +kernel, rfl⟩
theorem d_X4_standingSet_13 : g_dc cX4_standingSet 13 (.iconst (-1)) 1 14 := ⟨by decide +kernel, rfl⟩
theorem d_X4_standingSet_14 : g_dc cX4_standingSet 14 (.ixor) 1 15 := ⟨by decide +kernel, rfl⟩
theorem d_X4_standingSet_15 : g_dc cX4_standingSet 15 (.iand) 1 16 := ⟨by decide +kernel, rfl⟩
theorem d_X4_standingSet_16 : g_dc cX4_standingSet 16 (.ireturn) 1 17 := ⟨by decide +kernel, rfl⟩
set_option maxHeartbeats 4000000 in
set_option maxRecDepth 100000 in
theorem c_X4_standingSet (l : Launch) (X : gX) (ad : Nat → Nat) (F : Nat → Int32) (R : Nat → Nat → Int32) : g_Ci l X yX4_standingSet cX4_standingSet 1 (some .int) 1 0 0 [.ref (ad 43)] (wX X ad F R) (fun r w => w = wX X ad F R ∧ r = g_ss (F 691) (F 692) (F 693)) := by
  refine g_mi (by decide +kernel) (Nat.le_of_ble_eq_true rfl) (fun E cx hret => ?_)
  refine g_aload_n cx 0 rfl d_X4_standingSet_0 ?_
  refine g_get cx cl_X4 fl_X4_21 43 (.int (F 691)) d_X4_standingSet_1 rfl rfl ?_
  refine g_aload_n cx 0 rfl d_X4_standingSet_4 ?_
  refine g_get cx cl_X4 fl_X4_25 43 (.int (F 692)) d_X4_standingSet_5 rfl rfl ?_
  refine g_aload_n cx 0 rfl d_X4_standingSet_8 ?_
  refine g_get cx cl_X4 fl_X4_28 43 (.int (F 693)) d_X4_standingSet_9 rfl rfl ?_
  refine g_ior cx d_X4_standingSet_12 ?_
  refine g_iconst cx (-1) (by decide) d_X4_standingSet_13 ?_
  refine g_ixor cx d_X4_standingSet_14 ?_
  refine g_iand cx d_X4_standingSet_15 ?_
  exact hret d_X4_standingSet_16 (Nat.le_of_ble_eq_true rfl) (Nat.le_of_ble_eq_true rfl) rfl (⟨rfl, rfl⟩)
theorem d_X4_standing_0 : g_dc cX4_standing 0 (.aload_n 0) 1 1 := ⟨by decide +kernel, rfl⟩
theorem d_X4_standing_1 : g_dc cX4_standing 1 (.invokevirtual 58) 3 4 := ⟨by decide +kernel, rfl⟩
theorem d_X4_standing_4 : g_dc cX4_standing 4 (.invokestatic 62) 3 7 := ⟨by decide +kernel, rfl⟩
theorem d_X4_standing_7 : g_dc cX4_standing 7 (.ireturn) 1 8 := ⟨by decide +kernel, rfl⟩
set_option maxHeartbeats 4000000 in
set_option maxRecDepth 100000 in
theorem c_X4_standing (l : Launch) (X : gX) (ad : Nat → Nat) (F : Nat → Int32) (R : Nat → Nat → Int32) (h691 : F 691 = 0) : g_Ci l X yX4_standing cX4_standing 1 (some .int) 2 0 0 [.ref (ad 43)] (wX X ad F R) (fun r w => w = wX X ad F R ∧ r = 0) := by
  refine g_mi (by decide +kernel) (Nat.le_of_ble_eq_true rfl) (fun E cx hret => ?_)
  refine g_aload_n cx 0 rfl d_X4_standing_0 ?_
  refine g_cViW cx [] [] (c_X4_standingSet l X ad F R  ) ml_X4_58 yV_X4_standingSet d_X4_standing_1 (by unfold g_rr; decide) (by decide) 43 rfl rfl rfl (Nat.le_of_ble_eq_true rfl) (fun r1 w2 h3 => ?_)
  obtain ⟨rfl, rfl⟩ := h3
  refine g_toi 0 (g_ss0 (h691)) ?_
  refine g_cOiW cx [.int 0] [] (c_J6_bitCount_0f7a4 l X _ 0) ml_X4_62 yS_J6_bitCount_0f7a4 d_X4_standing_4 (by unfold g_rr; decide) (by decide) rfl (Nat.le_of_ble_eq_true rfl) (fun r4 w5 h6 => ?_)
  obtain ⟨rfl, h6⟩ := h6
  refine g_toi 0 (h6 rfl) ?_
  exact hret d_X4_standing_7 (Nat.le_of_ble_eq_true rfl) (Nat.le_of_ble_eq_true rfl) rfl (⟨rfl, rfl⟩)
theorem d_X4_allStand_0 : g_dc cX4_allStand 0 (.aload_n 0) 1 1 := ⟨by decide +kernel, rfl⟩
theorem d_X4_allStand_1 : g_dc cX4_allStand 1 (.invokevirtual 58) 3 4 := ⟨by decide +kernel, rfl⟩
theorem d_X4_allStand_4 : g_dc cX4_allStand 4 (.aload_n 0) 1 5 := ⟨by decide +kernel, rfl⟩
theorem d_X4_allStand_5 : g_dc cX4_allStand 5 (.getfield 21) 3 8 := ⟨by decide +kernel, rfl⟩
theorem d_X4_allStand_8 : g_dc cX4_allStand 8 (.if_icmp .ne 7) 3 11 := ⟨by decide +kernel, rfl⟩
theorem d_X4_allStand_11 : g_dc cX4_allStand 11 (.iconst 1) 1 12 := ⟨by decide +kernel, rfl⟩
theorem d_X4_allStand_12 : g_dc cX4_allStand 12 (.goto 4) 3 15 := ⟨by decide +kernel, rfl⟩
theorem d_X4_allStand_16 : g_dc cX4_allStand 16 (.ireturn) 1 17 := ⟨by decide +kernel, rfl⟩
set_option maxHeartbeats 4000000 in
set_option maxRecDepth 100000 in
theorem c_X4_allStand (l : Launch) (X : gX) (ad : Nat → Nat) (F : Nat → Int32) (R : Nat → Nat → Int32) (h691 : F 691 = 0) : g_Ci l X yX4_allStand cX4_allStand 1 (some .boolean) 2 0 0 [.ref (ad 43)] (wX X ad F R) (fun r w => w = wX X ad F R ∧ r = 1) := by
  refine g_mi (by decide +kernel) (Nat.le_of_ble_eq_true rfl) (fun E cx hret => ?_)
  refine g_aload_n cx 0 rfl d_X4_allStand_0 ?_
  refine g_cViW cx [] [] (c_X4_standingSet l X ad F R  ) ml_X4_58 yV_X4_standingSet d_X4_allStand_1 (by unfold g_rr; decide) (by decide) 43 rfl rfl rfl (Nat.le_of_ble_eq_true rfl) (fun r1 w2 h3 => ?_)
  obtain ⟨rfl, rfl⟩ := h3
  refine g_toi 0 (g_ss0 (h691)) ?_
  refine g_aload_n cx 0 rfl d_X4_allStand_4 ?_
  refine g_get cx cl_X4 fl_X4_21 43 (.int (F 691)) d_X4_allStand_5 rfl rfl ?_
  refine g_toi 0 (h691) ?_
  refine g_icmp_ne_f cx 15 d_X4_allStand_8 (by decide) (by decide) ?_
  refine g_iconst cx 1 (by decide) d_X4_allStand_11 ?_
  refine g_goto cx 16 d_X4_allStand_12 (by decide) ?_
  exact hret d_X4_allStand_16 (Nat.le_of_ble_eq_true rfl) (Nat.le_of_ble_eq_true rfl) rfl (⟨rfl, rfl⟩)
theorem d_X4_inches_0 : g_dc cX4_inches 0 (.iconst 0) 1 1 := ⟨by decide +kernel, rfl⟩
theorem d_X4_inches_1 : g_dc cX4_inches 1 (.istore_n 1) 1 2 := ⟨by decide +kernel, rfl⟩
theorem d_X4_inches_2 : g_dc cX4_inches 2 (.iconst 0) 1 3 := ⟨by decide +kernel, rfl⟩
theorem d_X4_inches_3 : g_dc cX4_inches 3 (.istore_n 2) 1 4 := ⟨by decide +kernel, rfl⟩
theorem d_X4_inches_4 : g_dc cX4_inches 4 (.iload_n 2) 1 5 := ⟨by decide +kernel, rfl⟩
theorem d_X4_inches_5 : g_dc cX4_inches 5 (.aload_n 0) 1 6 := ⟨by decide +kernel, rfl⟩
theorem d_X4_inches_6 : g_dc cX4_inches 6 (.getfield 18) 3 9 := ⟨by decide +kernel, rfl⟩
theorem d_X4_inches_9 : g_dc cX4_inches 9 (.arraylength) 1 10 := ⟨by decide +kernel, rfl⟩
theorem d_X4_inches_10 : g_dc cX4_inches 10 (.if_icmp .ge 18) 3 13 := ⟨by decide +kernel, rfl⟩
theorem d_X4_inches_13 : g_dc cX4_inches 13 (.iload_n 1) 1 14 := ⟨by decide +kernel, rfl⟩
theorem d_X4_inches_14 : g_dc cX4_inches 14 (.aload_n 0) 1 15 := ⟨by decide +kernel, rfl⟩
theorem d_X4_inches_15 : g_dc cX4_inches 15 (.getfield 18) 3 18 := ⟨by decide +kernel, rfl⟩
theorem d_X4_inches_18 : g_dc cX4_inches 18 (.iload_n 2) 1 19 := ⟨by decide +kernel, rfl⟩
theorem d_X4_inches_19 : g_dc cX4_inches 19 (.iaload) 1 20 := ⟨by decide +kernel, rfl⟩
theorem d_X4_inches_20 : g_dc cX4_inches 20 (.iadd) 1 21 := ⟨by decide +kernel, rfl⟩
theorem d_X4_inches_21 : g_dc cX4_inches 21 (.istore_n 1) 1 22 := ⟨by decide +kernel, rfl⟩
theorem d_X4_inches_22 : g_dc cX4_inches 22 (.iinc 2 1) 3 25 := ⟨by decide +kernel, rfl⟩
theorem d_X4_inches_25 : g_dc cX4_inches 25 (.goto (-21)) 3 28 := ⟨by decide +kernel, rfl⟩
theorem d_X4_inches_28 : g_dc cX4_inches 28 (.iload_n 1) 1 29 := ⟨by decide +kernel, rfl⟩
theorem d_X4_inches_29 : g_dc cX4_inches 29 (.ireturn) 1 30 := ⟨by decide +kernel, rfl⟩
set_option maxHeartbeats 4000000 in
set_option maxRecDepth 100000 in
theorem c_X4_inches (l : Launch) (X : gX) (ad : Nat → Nat) (F : Nat → Int32) (R : Nat → Nat → Int32) (hz : ∀ j, j < 30 → R 46 j = 0) : g_Ci l X yX4_inches cX4_inches 3 (some .int) 1 0 0 [.ref (ad 43)] (wX X ad F R) (fun r w => w = wX X ad F R ∧ r = 0) := by
  refine g_mi (by decide +kernel) (Nat.le_of_ble_eq_true rfl) (fun E cx hret => ?_)
  refine g_iconst cx 0 (by decide) d_X4_inches_0 ?_
  refine g_istore_n cx [(1, .int 0), (0, .ref (ad 43))] d_X4_inches_1 (by decide) rfl ?_
  refine g_iconst cx 0 (by decide) d_X4_inches_2 ?_
  refine g_istore_n cx [(2, .int 0), (1, .int 0), (0, .ref (ad 43))] d_X4_inches_3 (by decide) rfl ?_
  have L4 : ∀ (N : Nat) (i : Nat) (x1 x2 : Int32), 30 - i < N → (x2 = nI i) → (i ≤ 30) → (x1 = g_sum (R 46) i) → G X E 3 0 0 (wX X ad F R) [(0, .ref (ad 43)), (1, .int x1), (2, .int x2)] 4 [] := by
    intro N
    induction N with
    | zero => intro i x1 x2 hm; exact absurd hm (Nat.not_lt_zero _)
    | succ N ih4 =>
      intro i x1 x2 hm hx hi hs
      refine g_iload_n cx 2 rfl d_X4_inches_4 ?_
      refine g_aload_n cx 0 rfl d_X4_inches_5 ?_
      refine g_get cx cl_X4 fl_X4_18 43 (.ref (ad 46)) d_X4_inches_6 rfl rfl ?_
      refine g_alen cx 46 30 d_X4_inches_9 rfl (by decide) ?_
      refine g_icmp_ge cx 28 d_X4_inches_10 (by decide) (fun zc10 => ?_) (fun zc10 => ?_)
      · refine g_iload_n cx 1 rfl d_X4_inches_28 ?_
        exact hret d_X4_inches_29 (Nat.le_of_ble_eq_true rfl) (Nat.le_of_ble_eq_true rfl) rfl (⟨rfl, (by have h30 := g_le (c := 30) (by decide) (hx ▸ zc10) (by omega); have e : i = 30 := (by omega); rw [hs, e]; exact g_sum0 hz)⟩)
      · refine g_iload_n cx 1 rfl d_X4_inches_13 ?_
        refine g_aload_n cx 0 rfl d_X4_inches_14 ?_
        refine g_get cx cl_X4 fl_X4_18 43 (.ref (ad 46)) d_X4_inches_15 rfl rfl ?_
        refine g_iload_n cx 2 rfl d_X4_inches_18 ?_
        refine g_iald cx 46 d_X4_inches_19 rfl (by rw [hx]; exact vp_in_nI (g_lt10 (n := 30) hx (by omega) zc10) (by decide)) ?_
        refine g_iadd cx d_X4_inches_20 ?_
        refine g_istore_n cx [(1, .int (x1 + ((R 46) (Int32.toNatClampNeg x2)))), (0, .ref (ad 43)), (2, .int x2)] d_X4_inches_21 (by decide) rfl ?_
        refine g_iinc cx (x2 + 1) [(2, .int (x2 + 1)), (1, .int (x1 + ((R 46) (Int32.toNatClampNeg x2)))), (0, .ref (ad 43))] 2 d_X4_inches_22 rfl (rfl) (by decide) rfl ?_
        refine g_goto cx 4 d_X4_inches_25 (by decide) ?_
        refine g_lsub [2, 1, 0] [(0, .ref (ad 43)), (1, .int (x1 + ((R 46) (Int32.toNatClampNeg x2)))), (2, .int (x2 + 1))] rfl ?_
        exact ih4 (i + 1) (x1 + ((R 46) (Int32.toNatClampNeg x2))) (x2 + 1) (by have := g_lt10 (n := 30) hx (by omega) zc10; omega) (by rw [hx]; exact nI_1 i) (by have := g_lt10 (n := 30) hx (by omega) zc10; omega) (by rw [hs]; exact g_sumS hx (by omega))
  refine g_lsub [2, 1, 0] [(0, .ref (ad 43)), (1, .int 0), (2, .int 0)] rfl ?_
  exact L4 _ 0 0 0 (Nat.lt_succ_self _) nI_0.symm (by omega) rfl
theorem d_X4_tellThing_0 : g_dc cX4_tellThing 0 (.iload_n 1) 1 1 := ⟨by decide +kernel, rfl⟩
theorem d_X4_tellThing_1 : g_dc cX4_tellThing 1 (.iconst 0) 1 2 := ⟨by decide +kernel, rfl⟩
theorem d_X4_tellThing_2 : g_dc cX4_tellThing 2 (.bipush 9) 2 4 := ⟨by decide +kernel, rfl⟩
theorem d_X4_tellThing_4 : g_dc cX4_tellThing 4 (.invokestatic 54) 3 7 := ⟨by decide +kernel, rfl⟩
theorem d_X4_tellThing_7 : g_dc cX4_tellThing 7 (.ifCond .eq 14) 3 10 := ⟨by decide +kernel, rfl⟩
theorem d_X4_tellThing_10 : g_dc cX4_tellThing 10 (.aload_n 0) 1 11 := ⟨by decide +kernel, rfl⟩
theorem d_X4_tellThing_11 : g_dc cX4_tellThing 11 (.getfield 21) 3 14 := ⟨by decide +kernel, rfl⟩
theorem d_X4_tellThing_14 : g_dc cX4_tellThing 14 (.iconst 1) 1 15 := ⟨by decide +kernel, rfl⟩
theorem d_X4_tellThing_15 : g_dc cX4_tellThing 15 (.iload_n 1) 1 16 := ⟨by decide +kernel, rfl⟩
theorem d_X4_tellThing_16 : g_dc cX4_tellThing 16 (.ishl) 1 17 := ⟨by decide +kernel, rfl⟩
theorem d_X4_tellThing_17 : g_dc cX4_tellThing 17 (.iand) 1 18 := ⟨by decide +kernel, rfl⟩
theorem d_X4_tellThing_18 : g_dc cX4_tellThing 18 (.ifCond .ne 5) 3 21 := ⟨by decide +kernel, rfl⟩
theorem d_X4_tellThing_21 : g_dc cX4_tellThing 21 (.iconst (-1)) 1 22 := ⟨by decide +kernel, rfl⟩
theorem d_X4_tellThing_22 : g_dc cX4_tellThing 22 (.ireturn) 1 23 := ⟨by decide +kernel, rfl⟩
set_option maxHeartbeats 4000000 in
set_option maxRecDepth 100000 in
theorem c_X4_tellThing (l : Launch) (X : gX) (ad : Nat → Nat) (F : Nat → Int32) (R : Nat → Nat → Int32) (i what : Int32) (h691 : F 691 = 0) : g_Ci l X yX4_tellThing cX4_tellThing 3 (some .int) 2 0 0 [.ref (ad 43), .int i, .int what] (wX X ad F R) (fun r w => w = wX X ad F R ∧ r = -1) := by
  refine g_mi (by decide +kernel) (Nat.le_of_ble_eq_true rfl) (fun E cx hret => ?_)
  refine g_iload_n cx 1 rfl d_X4_tellThing_0 ?_
  refine g_iconst cx 0 (by decide) d_X4_tellThing_1 ?_
  refine g_bipush cx 9 (by decide) d_X4_tellThing_2 ?_
  refine g_cNiW cx [.int i, .int 0, .int 9] [] (c_X10_within l X _ i 0 9) mn_X4_54 yS_X10_within d_X4_tellThing_4 (by unfold g_rr; decide) (by decide) rfl (Nat.le_of_ble_eq_true rfl) (fun r1 w2 h3 => ?_)
  obtain ⟨rfl, rfl⟩ := h3
  refine g_if_eq cx 21 d_X4_tellThing_7 (by decide) (fun zc7 => ?_) (fun zc7 => ?_)
  · refine g_iconst cx (-1) (by decide) d_X4_tellThing_21 ?_
    exact hret d_X4_tellThing_22 (Nat.le_of_ble_eq_true rfl) (Nat.le_of_ble_eq_true rfl) rfl (⟨rfl, rfl⟩)
  · refine g_aload_n cx 0 rfl d_X4_tellThing_10 ?_
    refine g_get cx cl_X4 fl_X4_21 43 (.int (F 691)) d_X4_tellThing_11 rfl rfl ?_
    refine g_toi 0 (h691) ?_
    refine g_iconst cx 1 (by decide) d_X4_tellThing_14 ?_
    refine g_iload_n cx 1 rfl d_X4_tellThing_15 ?_
    refine g_ishl cx d_X4_tellThing_16 ?_
    refine g_iand cx d_X4_tellThing_17 ?_
    refine g_toi 0 (by simp) ?_
    refine g_if_ne_f cx 23 d_X4_tellThing_18 (by decide) (by decide) ?_
    refine g_iconst cx (-1) (by decide) d_X4_tellThing_21 ?_
    exact hret d_X4_tellThing_22 (Nat.le_of_ble_eq_true rfl) (Nat.le_of_ble_eq_true rfl) rfl (⟨rfl, rfl⟩)
theorem d_X4_tell_0 : g_dc cX4_tell 0 (.iload_n 1) 1 1 := ⟨by decide +kernel, rfl⟩
theorem d_X4_tell_1 : g_dc cX4_tell 1 (.tableswitch 96 0 8 #[51, 56, 61, 66, 71, 76, 81, 86, 91]) 51 52 := ⟨by decide +kernel, rfl⟩
theorem d_X4_tell_52 : g_dc cX4_tell 52 (.aload_n 0) 1 53 := ⟨by decide +kernel, rfl⟩
theorem d_X4_tell_53 : g_dc cX4_tell 53 (.invokevirtual 68) 3 56 := ⟨by decide +kernel, rfl⟩
theorem d_X4_tell_56 : g_dc cX4_tell 56 (.ireturn) 1 57 := ⟨by decide +kernel, rfl⟩
theorem d_X4_tell_57 : g_dc cX4_tell 57 (.aload_n 0) 1 58 := ⟨by decide +kernel, rfl⟩
theorem d_X4_tell_58 : g_dc cX4_tell 58 (.invokevirtual 71) 3 61 := ⟨by decide +kernel, rfl⟩
theorem d_X4_tell_61 : g_dc cX4_tell 61 (.ireturn) 1 62 := ⟨by decide +kernel, rfl⟩
theorem d_X4_tell_62 : g_dc cX4_tell 62 (.aload_n 0) 1 63 := ⟨by decide +kernel, rfl⟩
theorem d_X4_tell_63 : g_dc cX4_tell 63 (.getfield 40) 3 66 := ⟨by decide +kernel, rfl⟩
theorem d_X4_tell_66 : g_dc cX4_tell 66 (.ireturn) 1 67 := ⟨by decide +kernel, rfl⟩
theorem d_X4_tell_67 : g_dc cX4_tell 67 (.aload_n 0) 1 68 := ⟨by decide +kernel, rfl⟩
theorem d_X4_tell_68 : g_dc cX4_tell 68 (.getfield 43) 3 71 := ⟨by decide +kernel, rfl⟩
theorem d_X4_tell_71 : g_dc cX4_tell 71 (.ireturn) 1 72 := ⟨by decide +kernel, rfl⟩
theorem d_X4_tell_72 : g_dc cX4_tell 72 (.aload_n 0) 1 73 := ⟨by decide +kernel, rfl⟩
theorem d_X4_tell_73 : g_dc cX4_tell 73 (.getfield 25) 3 76 := ⟨by decide +kernel, rfl⟩
theorem d_X4_tell_76 : g_dc cX4_tell 76 (.ireturn) 1 77 := ⟨by decide +kernel, rfl⟩
theorem d_X4_tell_77 : g_dc cX4_tell 77 (.aload_n 0) 1 78 := ⟨by decide +kernel, rfl⟩
theorem d_X4_tell_78 : g_dc cX4_tell 78 (.getfield 28) 3 81 := ⟨by decide +kernel, rfl⟩
theorem d_X4_tell_81 : g_dc cX4_tell 81 (.ireturn) 1 82 := ⟨by decide +kernel, rfl⟩
theorem d_X4_tell_82 : g_dc cX4_tell 82 (.aload_n 0) 1 83 := ⟨by decide +kernel, rfl⟩
theorem d_X4_tell_83 : g_dc cX4_tell 83 (.getfield 31) 3 86 := ⟨by decide +kernel, rfl⟩
theorem d_X4_tell_86 : g_dc cX4_tell 86 (.ireturn) 1 87 := ⟨by decide +kernel, rfl⟩
theorem d_X4_tell_87 : g_dc cX4_tell 87 (.aload_n 0) 1 88 := ⟨by decide +kernel, rfl⟩
theorem d_X4_tell_88 : g_dc cX4_tell 88 (.getfield 34) 3 91 := ⟨by decide +kernel, rfl⟩
theorem d_X4_tell_91 : g_dc cX4_tell 91 (.ireturn) 1 92 := ⟨by decide +kernel, rfl⟩
theorem d_X4_tell_92 : g_dc cX4_tell 92 (.aload_n 0) 1 93 := ⟨by decide +kernel, rfl⟩
theorem d_X4_tell_93 : g_dc cX4_tell 93 (.getfield 37) 3 96 := ⟨by decide +kernel, rfl⟩
theorem d_X4_tell_96 : g_dc cX4_tell 96 (.ireturn) 1 97 := ⟨by decide +kernel, rfl⟩
theorem d_X4_tell_97 : g_dc cX4_tell 97 (.iload_n 1) 1 98 := ⟨by decide +kernel, rfl⟩
theorem d_X4_tell_98 : g_dc cX4_tell 98 (.bipush 10) 2 100 := ⟨by decide +kernel, rfl⟩
theorem d_X4_tell_100 : g_dc cX4_tell 100 (.bipush 69) 2 102 := ⟨by decide +kernel, rfl⟩
theorem d_X4_tell_102 : g_dc cX4_tell 102 (.invokestatic 54) 3 105 := ⟨by decide +kernel, rfl⟩
theorem d_X4_tell_105 : g_dc cX4_tell 105 (.ifCond .eq 18) 3 108 := ⟨by decide +kernel, rfl⟩
theorem d_X4_tell_108 : g_dc cX4_tell 108 (.aload_n 0) 1 109 := ⟨by decide +kernel, rfl⟩
theorem d_X4_tell_109 : g_dc cX4_tell 109 (.iload_n 1) 1 110 := ⟨by decide +kernel, rfl⟩
theorem d_X4_tell_110 : g_dc cX4_tell 110 (.bipush 10) 2 112 := ⟨by decide +kernel, rfl⟩
theorem d_X4_tell_112 : g_dc cX4_tell 112 (.irem) 1 113 := ⟨by decide +kernel, rfl⟩
theorem d_X4_tell_113 : g_dc cX4_tell 113 (.iload_n 1) 1 114 := ⟨by decide +kernel, rfl⟩
theorem d_X4_tell_114 : g_dc cX4_tell 114 (.bipush 10) 2 116 := ⟨by decide +kernel, rfl⟩
theorem d_X4_tell_116 : g_dc cX4_tell 116 (.idiv) 1 117 := ⟨by decide +kernel, rfl⟩
theorem d_X4_tell_117 : g_dc cX4_tell 117 (.invokevirtual 74) 3 120 := ⟨by decide +kernel, rfl⟩
theorem d_X4_tell_120 : g_dc cX4_tell 120 (.goto 4) 3 123 := ⟨by decide +kernel, rfl⟩
theorem d_X4_tell_123 : g_dc cX4_tell 123 (.iconst (-1)) 1 124 := ⟨by decide +kernel, rfl⟩
theorem d_X4_tell_124 : g_dc cX4_tell 124 (.ireturn) 1 125 := ⟨by decide +kernel, rfl⟩
set_option maxHeartbeats 4000000 in
set_option maxRecDepth 100000 in
theorem c_X4_tell (l : Launch) (X : gX) (ad : Nat → Nat) (F : Nat → Int32) (R : Nat → Nat → Int32) (what : Int32) (h691 : F 691 = 0) (h692 : F 692 = 0) (h693 : F 693 = 0) (h694 : F 694 = 0) (h695 : F 695 = 0) (h696 : F 696 = 0) (h697 : F 697 = 0) (h698 : F 698 = 100) (hz : ∀ j, j < 30 → R 46 j = 0) : g_Ci l X yX4_tell cX4_tell 2 (some .int) 3 0 0 [.ref (ad 43), .int what] (wX X ad F R) (fun r w => w = wX X ad F R ∧ r = g_st what) := by
  refine g_mi (by decide +kernel) (Nat.le_of_ble_eq_true rfl) (fun E cx hret => ?_)
  refine g_iload_n cx 1 rfl d_X4_tell_0 ?_
  rcases g_sw9 what with rfl | rfl | rfl | rfl | rfl | rfl | rfl | rfl | rfl | zsw
  · refine g_tableIn cx 52 d_X4_tell_1 (by decide) (by decide) rfl (by decide) ?_
    refine g_aload_n cx 0 rfl d_X4_tell_52 ?_
    refine g_cViW cx [] [] (c_X4_standing l X ad F R  h691) ml_X4_68 yV_X4_standing d_X4_tell_53 (by unfold g_rr; decide) (by decide) 43 rfl rfl rfl (Nat.le_of_ble_eq_true rfl) (fun r1 w2 h3 => ?_)
    obtain ⟨rfl, rfl⟩ := h3
    exact hret d_X4_tell_56 (Nat.le_of_ble_eq_true rfl) (Nat.le_of_ble_eq_true rfl) rfl (⟨rfl, by decide⟩)
  · refine g_tableIn cx 57 d_X4_tell_1 (by decide) (by decide) rfl (by decide) ?_
    refine g_aload_n cx 0 rfl d_X4_tell_57 ?_
    refine g_cViW cx [] [] (c_X4_inches l X ad F R  hz) ml_X4_71 yV_X4_inches d_X4_tell_58 (by unfold g_rr; decide) (by decide) 43 rfl rfl rfl (Nat.le_of_ble_eq_true rfl) (fun r4 w5 h6 => ?_)
    obtain ⟨rfl, rfl⟩ := h6
    exact hret d_X4_tell_61 (Nat.le_of_ble_eq_true rfl) (Nat.le_of_ble_eq_true rfl) rfl (⟨rfl, by decide⟩)
  · refine g_tableIn cx 62 d_X4_tell_1 (by decide) (by decide) rfl (by decide) ?_
    refine g_aload_n cx 0 rfl d_X4_tell_62 ?_
    refine g_get cx cl_X4 fl_X4_40 43 (.int (F 697)) d_X4_tell_63 rfl rfl ?_
    refine g_toi 0 (h697) ?_
    exact hret d_X4_tell_66 (Nat.le_of_ble_eq_true rfl) (Nat.le_of_ble_eq_true rfl) rfl (⟨rfl, by decide⟩)
  · refine g_tableIn cx 67 d_X4_tell_1 (by decide) (by decide) rfl (by decide) ?_
    refine g_aload_n cx 0 rfl d_X4_tell_67 ?_
    refine g_get cx cl_X4 fl_X4_43 43 (.int (F 698)) d_X4_tell_68 rfl rfl ?_
    refine g_toi 100 (h698) ?_
    exact hret d_X4_tell_71 (Nat.le_of_ble_eq_true rfl) (Nat.le_of_ble_eq_true rfl) rfl (⟨rfl, by decide⟩)
  · refine g_tableIn cx 72 d_X4_tell_1 (by decide) (by decide) rfl (by decide) ?_
    refine g_aload_n cx 0 rfl d_X4_tell_72 ?_
    refine g_get cx cl_X4 fl_X4_25 43 (.int (F 692)) d_X4_tell_73 rfl rfl ?_
    refine g_toi 0 (h692) ?_
    exact hret d_X4_tell_76 (Nat.le_of_ble_eq_true rfl) (Nat.le_of_ble_eq_true rfl) rfl (⟨rfl, by decide⟩)
  · refine g_tableIn cx 77 d_X4_tell_1 (by decide) (by decide) rfl (by decide) ?_
    refine g_aload_n cx 0 rfl d_X4_tell_77 ?_
    refine g_get cx cl_X4 fl_X4_28 43 (.int (F 693)) d_X4_tell_78 rfl rfl ?_
    refine g_toi 0 (h693) ?_
    exact hret d_X4_tell_81 (Nat.le_of_ble_eq_true rfl) (Nat.le_of_ble_eq_true rfl) rfl (⟨rfl, by decide⟩)
  · refine g_tableIn cx 82 d_X4_tell_1 (by decide) (by decide) rfl (by decide) ?_
    refine g_aload_n cx 0 rfl d_X4_tell_82 ?_
    refine g_get cx cl_X4 fl_X4_31 43 (.int (F 694)) d_X4_tell_83 rfl rfl ?_
    refine g_toi 0 (h694) ?_
    exact hret d_X4_tell_86 (Nat.le_of_ble_eq_true rfl) (Nat.le_of_ble_eq_true rfl) rfl (⟨rfl, by decide⟩)
  · refine g_tableIn cx 87 d_X4_tell_1 (by decide) (by decide) rfl (by decide) ?_
    refine g_aload_n cx 0 rfl d_X4_tell_87 ?_
    refine g_get cx cl_X4 fl_X4_34 43 (.int (F 695)) d_X4_tell_88 rfl rfl ?_
    refine g_toi 0 (h695) ?_
    exact hret d_X4_tell_91 (Nat.le_of_ble_eq_true rfl) (Nat.le_of_ble_eq_true rfl) rfl (⟨rfl, by decide⟩)
  · refine g_tableIn cx 92 d_X4_tell_1 (by decide) (by decide) rfl (by decide) ?_
    refine g_aload_n cx 0 rfl d_X4_tell_92 ?_
    refine g_get cx cl_X4 fl_X4_37 43 (.int (F 696)) d_X4_tell_93 rfl rfl ?_
    refine g_toi 0 (h696) ?_
    exact hret d_X4_tell_96 (Nat.le_of_ble_eq_true rfl) (Nat.le_of_ble_eq_true rfl) rfl (⟨rfl, by decide⟩)
  · refine g_tableOut cx 97 d_X4_tell_1 zsw (by decide) ?_
    refine g_iload_n cx 1 rfl d_X4_tell_97 ?_
    refine g_bipush cx 10 (by decide) d_X4_tell_98 ?_
    refine g_bipush cx 69 (by decide) d_X4_tell_100 ?_
    refine g_cNiW cx [.int what, .int 10, .int 69] [] (c_X10_within l X _ what 10 69) mn_X4_54 yS_X10_within d_X4_tell_102 (by unfold g_rr; decide) (by decide) rfl (Nat.le_of_ble_eq_true rfl) (fun r7 w8 h9 => ?_)
    obtain ⟨rfl, rfl⟩ := h9
    refine g_if_eq cx 123 d_X4_tell_105 (by decide) (fun zc105 => ?_) (fun zc105 => ?_)
    · refine g_iconst cx (-1) (by decide) d_X4_tell_123 ?_
      exact hret d_X4_tell_124 (Nat.le_of_ble_eq_true rfl) (Nat.le_of_ble_eq_true rfl) rfl (⟨rfl, (g_st_out zsw).symm⟩)
    · refine g_aload_n cx 0 rfl d_X4_tell_108 ?_
      refine g_iload_n cx 1 rfl d_X4_tell_109 ?_
      refine g_bipush cx 10 (by decide) d_X4_tell_110 ?_
      refine g_irem cx (by decide) d_X4_tell_112 ?_
      refine g_iload_n cx 1 rfl d_X4_tell_113 ?_
      refine g_bipush cx 10 (by decide) d_X4_tell_114 ?_
      refine g_idiv cx (by decide) d_X4_tell_116 ?_
      refine g_cViW cx [.int (what - what / 10 * 10), .int (what / 10)] [] (c_X4_tellThing l X ad F R (what - what / 10 * 10) (what / 10) h691) ml_X4_74 yV_X4_tellThing d_X4_tell_117 (by unfold g_rr; decide) (by decide) 43 rfl rfl rfl (Nat.le_of_ble_eq_true rfl) (fun r10 w11 h12 => ?_)
      obtain ⟨rfl, rfl⟩ := h12
      refine g_goto cx 124 d_X4_tell_120 (by decide) ?_
      exact hret d_X4_tell_124 (Nat.le_of_ble_eq_true rfl) (Nat.le_of_ble_eq_true rfl) rfl (⟨rfl, (g_st_out zsw).symm⟩)
end
section
theorem g_hf0 {len e folds q : Int32} (h : folds = 0) : g_hf len e folds q = 0 := by
  unfold g_hf
  rw [h, Int32.zero_and]
  simp
theorem g_has0 {told i : Int32} (h : told = 0) : g_has told i = 0 := by
  unfold g_has
  rw [h, Int32.zero_and]
  simp
def P_ob (F F' : Nat → Int32) (R R' : Nat → Nat → Int32) : Prop := (∀ k, k < 691 ∨ 699 ≤ k → F' k = F k) ∧ F' 691 = F 83 ∧ F' 692 = 0 ∧ F' 693 = 0 ∧ F' 694 = 0 ∧ F' 695 = 0 ∧ F' 696 = 0 ∧ F' 697 = 0 ∧ F' 698 = F 81 ∧ (∀ j, j < 30 → R' 46 j = 0) ∧ (∀ c, c < 44 ∨ 47 ≤ c → R' c = R c)
def P_eb (F F' : Nat → Int32) (R R' : Nat → Nat → Int32) : Prop := (∀ k, k < 600 ∨ 607 < k ∧ k < 691 ∨ 699 ≤ k → F' k = F k) ∧ F' 691 = F 83 ∧ F' 692 = 0 ∧ F' 693 = 0 ∧ F' 694 = 0 ∧ F' 695 = 0 ∧ F' 696 = 0 ∧ F' 697 = 0 ∧ F' 698 = F 81 ∧ (∀ j, j < 30 → R' 46 j = 0) ∧ (∀ c, c < 38 ∨ 38 < c ∧ c < 44 ∨ 47 ≤ c → R' c = R c)
def P_pc (F F' : Nat → Int32) (R R' : Nat → Nat → Int32) : Prop := (∀ k, k < 603 ∨ 604 < k ∧ k < 698 ∨ 699 ≤ k → F' k = F k) ∧ (∀ c, c < 23 ∨ 23 < c → R' c = R c)
def P_tk (F F' : Nat → Int32) (R R' : Nat → Nat → Int32) : Prop := (∀ k, k < 600 ∨ 607 < k ∧ k < 698 ∨ 699 ≤ k → F' k = F k) ∧ (∀ c, c < 23 ∨ 23 < c → R' c = R c)
def P_rn (F F' : Nat → Int32) (R R' : Nat → Nat → Int32) : Prop := (∀ k, k < 600 ∨ 607 < k ∧ k < 691 ∨ 699 ≤ k → F' k = F k) ∧ F' 691 = 0 ∧ F' 692 = 0 ∧ F' 693 = 0 ∧ F' 694 = 0 ∧ F' 695 = 0 ∧ F' 696 = 0 ∧ (F 241 = 0 → F' 697 = 0 ∧ F' 698 = F 81) ∧ (∀ j, j < 30 → R' 46 j = 0) ∧ (∀ c, c < 23 ∨ 23 < c ∧ c < 38 ∨ 38 < c ∧ c < 44 ∨ 47 ≤ c → R' c = R c)

theorem d_X4_begin_0 : g_dc cX4_begin 0 (.aload_n 1) 1 1 := ⟨by decide +kernel, rfl⟩
theorem d_X4_begin_1 : g_dc cX4_begin 1 (.ifnonnull 4) 3 4 := ⟨by decide +kernel, rfl⟩
theorem d_X4_begin_5 : g_dc cX4_begin 5 (.iconst 0) 1 6 := ⟨by decide +kernel, rfl⟩
theorem d_X4_begin_6 : g_dc cX4_begin 6 (.istore_n 2) 1 7 := ⟨by decide +kernel, rfl⟩
theorem d_X4_begin_7 : g_dc cX4_begin 7 (.iload_n 2) 1 8 := ⟨by decide +kernel, rfl⟩
theorem d_X4_begin_8 : g_dc cX4_begin 8 (.bipush 10) 2 10 := ⟨by decide +kernel, rfl⟩
theorem d_X4_begin_10 : g_dc cX4_begin 10 (.if_icmp .ge 34) 3 13 := ⟨by decide +kernel, rfl⟩
theorem d_X4_begin_13 : g_dc cX4_begin 13 (.aload_n 0) 1 14 := ⟨by decide +kernel, rfl⟩
theorem d_X4_begin_14 : g_dc cX4_begin 14 (.getfield 9) 3 17 := ⟨by decide +kernel, rfl⟩
theorem d_X4_begin_17 : g_dc cX4_begin 17 (.iload_n 2) 1 18 := ⟨by decide +kernel, rfl⟩
theorem d_X4_begin_18 : g_dc cX4_begin 18 (.aload_n 1) 1 19 := ⟨by decide +kernel, rfl⟩
theorem d_X4_begin_19 : g_dc cX4_begin 19 (.iload_n 2) 1 20 := ⟨by decide +kernel, rfl⟩
theorem d_X4_begin_20 : g_dc cX4_begin 20 (.iconst 1) 1 21 := ⟨by decide +kernel, rfl⟩
theorem d_X4_begin_21 : g_dc cX4_begin 21 (.invokevirtual 46) 3 24 := ⟨by decide +kernel, rfl⟩
theorem d_X4_begin_24 : g_dc cX4_begin 24 (.iastore) 1 25 := ⟨by decide +kernel, rfl⟩
theorem d_X4_begin_25 : g_dc cX4_begin 25 (.aload_n 0) 1 26 := ⟨by decide +kernel, rfl⟩
theorem d_X4_begin_26 : g_dc cX4_begin 26 (.getfield 15) 3 29 := ⟨by decide +kernel, rfl⟩
theorem d_X4_begin_29 : g_dc cX4_begin 29 (.iload_n 2) 1 30 := ⟨by decide +kernel, rfl⟩
theorem d_X4_begin_30 : g_dc cX4_begin 30 (.aload_n 1) 1 31 := ⟨by decide +kernel, rfl⟩
theorem d_X4_begin_31 : g_dc cX4_begin 31 (.iload_n 2) 1 32 := ⟨by decide +kernel, rfl⟩
theorem d_X4_begin_32 : g_dc cX4_begin 32 (.bipush 6) 2 34 := ⟨by decide +kernel, rfl⟩
theorem d_X4_begin_34 : g_dc cX4_begin 34 (.invokevirtual 46) 3 37 := ⟨by decide +kernel, rfl⟩
theorem d_X4_begin_37 : g_dc cX4_begin 37 (.iastore) 1 38 := ⟨by decide +kernel, rfl⟩
theorem d_X4_begin_38 : g_dc cX4_begin 38 (.iinc 2 1) 3 41 := ⟨by decide +kernel, rfl⟩
theorem d_X4_begin_41 : g_dc cX4_begin 41 (.goto (-34)) 3 44 := ⟨by decide +kernel, rfl⟩
theorem d_X4_begin_44 : g_dc cX4_begin 44 (.iconst 0) 1 45 := ⟨by decide +kernel, rfl⟩
theorem d_X4_begin_45 : g_dc cX4_begin 45 (.istore_n 2) 1 46 := ⟨by decide +kernel, rfl⟩
theorem d_X4_begin_46 : g_dc cX4_begin 46 (.iload_n 2) 1 47 := ⟨by decide +kernel, rfl⟩
theorem d_X4_begin_47 : g_dc cX4_begin 47 (.aload_n 0) 1 48 := ⟨by decide +kernel, rfl⟩
theorem d_X4_begin_48 : g_dc cX4_begin 48 (.getfield 18) 3 51 := ⟨by decide +kernel, rfl⟩
theorem d_X4_begin_51 : g_dc cX4_begin 51 (.arraylength) 1 52 := ⟨by decide +kernel, rfl⟩
theorem d_X4_begin_52 : g_dc cX4_begin 52 (.if_icmp .ge 16) 3 55 := ⟨by decide +kernel, rfl⟩
theorem d_X4_begin_55 : g_dc cX4_begin 55 (.aload_n 0) 1 56 := ⟨by decide +kernel, rfl⟩
theorem d_X4_begin_56 : g_dc cX4_begin 56 (.getfield 18) 3 59 := ⟨by decide +kernel, rfl⟩
theorem d_X4_begin_59 : g_dc cX4_begin 59 (.iload_n 2) 1 60 := ⟨by decide +kernel, rfl⟩
theorem d_X4_begin_60 : g_dc cX4_begin 60 (.iconst 0) 1 61 := ⟨by decide +kernel, rfl⟩
theorem d_X4_begin_61 : g_dc cX4_begin 61 (.iastore) 1 62 := ⟨by decide +kernel, rfl⟩
theorem d_X4_begin_62 : g_dc cX4_begin 62 (.iinc 2 1) 3 65 := ⟨by decide +kernel, rfl⟩
theorem d_X4_begin_65 : g_dc cX4_begin 65 (.goto (-19)) 3 68 := ⟨by decide +kernel, rfl⟩
theorem d_X4_begin_68 : g_dc cX4_begin 68 (.aload_n 0) 1 69 := ⟨by decide +kernel, rfl⟩
theorem d_X4_begin_69 : g_dc cX4_begin 69 (.aload_n 1) 1 70 := ⟨by decide +kernel, rfl⟩
theorem d_X4_begin_70 : g_dc cX4_begin 70 (.getfield 52) 3 73 := ⟨by decide +kernel, rfl⟩
theorem d_X4_begin_73 : g_dc cX4_begin 73 (.putfield 21) 3 76 := ⟨by decide +kernel, rfl⟩
theorem d_X4_begin_76 : g_dc cX4_begin 76 (.aload_n 0) 1 77 := ⟨by decide +kernel, rfl⟩
theorem d_X4_begin_77 : g_dc cX4_begin 77 (.iconst 0) 1 78 := ⟨by decide +kernel, rfl⟩
theorem d_X4_begin_78 : g_dc cX4_begin 78 (.putfield 25) 3 81 := ⟨by decide +kernel, rfl⟩
theorem d_X4_begin_81 : g_dc cX4_begin 81 (.aload_n 0) 1 82 := ⟨by decide +kernel, rfl⟩
theorem d_X4_begin_82 : g_dc cX4_begin 82 (.iconst 0) 1 83 := ⟨by decide +kernel, rfl⟩
theorem d_X4_begin_83 : g_dc cX4_begin 83 (.putfield 28) 3 86 := ⟨by decide +kernel, rfl⟩
theorem d_X4_begin_86 : g_dc cX4_begin 86 (.aload_n 0) 1 87 := ⟨by decide +kernel, rfl⟩
theorem d_X4_begin_87 : g_dc cX4_begin 87 (.iconst 0) 1 88 := ⟨by decide +kernel, rfl⟩
theorem d_X4_begin_88 : g_dc cX4_begin 88 (.putfield 31) 3 91 := ⟨by decide +kernel, rfl⟩
theorem d_X4_begin_91 : g_dc cX4_begin 91 (.aload_n 0) 1 92 := ⟨by decide +kernel, rfl⟩
theorem d_X4_begin_92 : g_dc cX4_begin 92 (.iconst 0) 1 93 := ⟨by decide +kernel, rfl⟩
theorem d_X4_begin_93 : g_dc cX4_begin 93 (.putfield 34) 3 96 := ⟨by decide +kernel, rfl⟩
theorem d_X4_begin_96 : g_dc cX4_begin 96 (.aload_n 0) 1 97 := ⟨by decide +kernel, rfl⟩
theorem d_X4_begin_97 : g_dc cX4_begin 97 (.iconst 0) 1 98 := ⟨by decide +kernel, rfl⟩
theorem d_X4_begin_98 : g_dc cX4_begin 98 (.putfield 37) 3 101 := ⟨by decide +kernel, rfl⟩
theorem d_X4_begin_101 : g_dc cX4_begin 101 (.aload_n 0) 1 102 := ⟨by decide +kernel, rfl⟩
theorem d_X4_begin_102 : g_dc cX4_begin 102 (.iconst 0) 1 103 := ⟨by decide +kernel, rfl⟩
theorem d_X4_begin_103 : g_dc cX4_begin 103 (.putfield 40) 3 106 := ⟨by decide +kernel, rfl⟩
theorem d_X4_begin_106 : g_dc cX4_begin 106 (.aload_n 0) 1 107 := ⟨by decide +kernel, rfl⟩
theorem d_X4_begin_107 : g_dc cX4_begin 107 (.aload_n 1) 1 108 := ⟨by decide +kernel, rfl⟩
theorem d_X4_begin_108 : g_dc cX4_begin 108 (.getfield 53) 3 111 := ⟨by decide +kernel, rfl⟩
theorem d_X4_begin_111 : g_dc cX4_begin 111 (.putfield 43) 3 114 := ⟨by decide +kernel, rfl⟩
theorem d_X4_begin_114 : g_dc cX4_begin 114 (.return_) 1 115 := ⟨by decide +kernel, rfl⟩
set_option maxHeartbeats 4000000 in
set_option maxRecDepth 100000 in
theorem c_X4_begin (l : Launch) (X : gX) (ad : Nat → Nat) (F : Nat → Int32) (R : Nat → Nat → Int32) : g_Cv l X yX4_begin cX4_begin 3 3 0 0 [.ref (ad 43), .ref (ad 5)] (wX X ad F R) (fun w => ∃ (F' : Nat → Int32) (R' : Nat → Nat → Int32), w = wX X ad F' R' ∧ P_ob F F' R R') := by
  refine g_mv (by decide +kernel) (Nat.le_of_ble_eq_true rfl) (fun E cx hret => ?_)
  refine g_aload_n cx 1 rfl d_X4_begin_0 ?_
  refine g_ifnonnull cx 5 d_X4_begin_1 (by decide) ?_
  refine g_iconst cx 0 (by decide) d_X4_begin_5 ?_
  refine g_istore_n cx [(2, .int 0), (0, .ref (ad 43)), (1, .ref (ad 5))] d_X4_begin_6 (by decide) rfl ?_
  have L7 : ∀ (N : Nat) (i : Nat) (x2 : Int32) (za zb : Nat → Int32), 10 - i < N → (x2 = nI i) → (i ≤ 10) → G X E 3 0 0 (wX X ad F (g_u (g_u R 44 za) 45 zb)) [(0, .ref (ad 43)), (1, .ref (ad 5)), (2, .int x2)] 7 [] := by
    intro N
    induction N with
    | zero => intro i x2 za zb hm; exact absurd hm (Nat.not_lt_zero _)
    | succ N ih7 =>
      intro i x2 za zb hm hx hi
      refine g_iload_n cx 2 rfl d_X4_begin_7 ?_
      refine g_bipush cx 10 (by decide) d_X4_begin_8 ?_
      refine g_icmp_ge cx 44 d_X4_begin_10 (by decide) (fun zc10 => ?_) (fun zc10 => ?_)
      · refine g_iconst cx 0 (by decide) d_X4_begin_44 ?_
        refine g_istore_n cx [(2, .int 0), (0, .ref (ad 43)), (1, .ref (ad 5))] d_X4_begin_45 (by decide) rfl ?_
        have L46 : ∀ (N : Nat) (i : Nat) (x2 : Int32) (zc : Nat → Int32), 30 - i < N → (x2 = nI i) → (i ≤ 30) → (∀ j, j < i → zc j = 0) → G X E 3 0 0 (wX X ad F (g_u (g_u (g_u R 44 za) 45 zb) 46 zc)) [(0, .ref (ad 43)), (1, .ref (ad 5)), (2, .int x2)] 46 [] := by
          intro N
          induction N with
          | zero => intro i x2 zc hm; exact absurd hm (Nat.not_lt_zero _)
          | succ N ih46 =>
            intro i x2 zc hm hx hi hz
            refine g_iload_n cx 2 rfl d_X4_begin_46 ?_
            refine g_aload_n cx 0 rfl d_X4_begin_47 ?_
            refine g_get cx cl_X4 fl_X4_18 43 (.ref (ad 46)) d_X4_begin_48 rfl rfl ?_
            refine g_alen cx 46 30 d_X4_begin_51 rfl (by decide) ?_
            refine g_icmp_ge cx 68 d_X4_begin_52 (by decide) (fun zc52 => ?_) (fun zc52 => ?_)
            · refine g_aload_n cx 0 rfl d_X4_begin_68 ?_
              refine g_aload_n cx 1 rfl d_X4_begin_69 ?_
              refine g_getN cx cl_X8 fn_X4_52 5 (.int (F 83)) d_X4_begin_70 rfl rfl ?_
              refine g_put cx cl_X4 fl_X4_21 43 (wX X ad (upd F 691 (F 83)) (g_u (g_u (g_u R 44 za) 45 zb) 46 zc)) d_X4_begin_73 rfl rfl rfl rfl (Nat.le_of_ble_eq_true rfl) rfl ?_
              refine g_aload_n cx 0 rfl d_X4_begin_76 ?_
              refine g_iconst cx 0 (by decide) d_X4_begin_77 ?_
              refine g_put cx cl_X4 fl_X4_25 43 (wX X ad (upd (upd F 691 (F 83)) 692 0) (g_u (g_u (g_u R 44 za) 45 zb) 46 zc)) d_X4_begin_78 rfl rfl rfl rfl (Nat.le_of_ble_eq_true rfl) rfl ?_
              refine g_aload_n cx 0 rfl d_X4_begin_81 ?_
              refine g_iconst cx 0 (by decide) d_X4_begin_82 ?_
              refine g_put cx cl_X4 fl_X4_28 43 (wX X ad (upd (upd (upd F 691 (F 83)) 692 0) 693 0) (g_u (g_u (g_u R 44 za) 45 zb) 46 zc)) d_X4_begin_83 rfl rfl rfl rfl (Nat.le_of_ble_eq_true rfl) rfl ?_
              refine g_aload_n cx 0 rfl d_X4_begin_86 ?_
              refine g_iconst cx 0 (by decide) d_X4_begin_87 ?_
              refine g_put cx cl_X4 fl_X4_31 43 (wX X ad (upd (upd (upd (upd F 691 (F 83)) 692 0) 693 0) 694 0) (g_u (g_u (g_u R 44 za) 45 zb) 46 zc)) d_X4_begin_88 rfl rfl rfl rfl (Nat.le_of_ble_eq_true rfl) rfl ?_
              refine g_aload_n cx 0 rfl d_X4_begin_91 ?_
              refine g_iconst cx 0 (by decide) d_X4_begin_92 ?_
              refine g_put cx cl_X4 fl_X4_34 43 (wX X ad (upd (upd (upd (upd (upd F 691 (F 83)) 692 0) 693 0) 694 0) 695 0) (g_u (g_u (g_u R 44 za) 45 zb) 46 zc)) d_X4_begin_93 rfl rfl rfl rfl (Nat.le_of_ble_eq_true rfl) rfl ?_
              refine g_aload_n cx 0 rfl d_X4_begin_96 ?_
              refine g_iconst cx 0 (by decide) d_X4_begin_97 ?_
              refine g_put cx cl_X4 fl_X4_37 43 (wX X ad (upd (upd (upd (upd (upd (upd F 691 (F 83)) 692 0) 693 0) 694 0) 695 0) 696 0) (g_u (g_u (g_u R 44 za) 45 zb) 46 zc)) d_X4_begin_98 rfl rfl rfl rfl (Nat.le_of_ble_eq_true rfl) rfl ?_
              refine g_aload_n cx 0 rfl d_X4_begin_101 ?_
              refine g_iconst cx 0 (by decide) d_X4_begin_102 ?_
              refine g_put cx cl_X4 fl_X4_40 43 (wX X ad (upd (upd (upd (upd (upd (upd (upd F 691 (F 83)) 692 0) 693 0) 694 0) 695 0) 696 0) 697 0) (g_u (g_u (g_u R 44 za) 45 zb) 46 zc)) d_X4_begin_103 rfl rfl rfl rfl (Nat.le_of_ble_eq_true rfl) rfl ?_
              refine g_aload_n cx 0 rfl d_X4_begin_106 ?_
              refine g_aload_n cx 1 rfl d_X4_begin_107 ?_
              refine g_getN cx cl_X8 fn_X4_53 5 (.int (F 81)) d_X4_begin_108 rfl rfl ?_
              refine g_put cx cl_X4 fl_X4_43 43 (wX X ad (upd (upd (upd (upd (upd (upd (upd (upd F 691 (F 83)) 692 0) 693 0) 694 0) 695 0) 696 0) 697 0) 698 (F 81)) (g_u (g_u (g_u R 44 za) 45 zb) 46 zc)) d_X4_begin_111 rfl rfl rfl rfl (Nat.le_of_ble_eq_true rfl) rfl ?_
              exact hret d_X4_begin_114 (Nat.le_of_ble_eq_true rfl) (Nat.le_of_ble_eq_true rfl) ⟨(upd (upd (upd (upd (upd (upd (upd (upd F 691 (F 83)) 692 0) 693 0) 694 0) 695 0) 696 0) 697 0) 698 (F 81)), (g_u (g_u (g_u R 44 za) 45 zb) 46 zc), rfl, ⟨by intro k hk; simp only [upd]; repeat rw [if_neg (by omega)], rfl, rfl, rfl, rfl, rfl, rfl, rfl, rfl, (by have h30 := g_le (c := 30) (by decide) (hx ▸ zc52) (by omega); intro j hj; exact hz j (by omega)), by intro c hc; simp only [g_u]; repeat rw [if_neg (by omega)]⟩⟩
            · refine g_aload_n cx 0 rfl d_X4_begin_55 ?_
              refine g_get cx cl_X4 fl_X4_18 43 (.ref (ad 46)) d_X4_begin_56 rfl rfl ?_
              refine g_iload_n cx 2 rfl d_X4_begin_59 ?_
              refine g_iconst cx 0 (by decide) d_X4_begin_60 ?_
              refine g_iast cx 46 (wX X ad F (g_u (g_u (g_u R 44 za) 45 zb) 46 (upd zc (Int32.toNatClampNeg x2) 0))) d_X4_begin_61 rfl (by rw [hx]; exact vp_in_nI (g_lt10 (n := 30) hx (by omega) zc52) (by decide)) rfl ?_
              refine g_iinc cx (x2 + 1) [(2, .int (x2 + 1)), (0, .ref (ad 43)), (1, .ref (ad 5))] 2 d_X4_begin_62 rfl (rfl) (by decide) rfl ?_
              refine g_goto cx 46 d_X4_begin_65 (by decide) ?_
              refine g_lsub [1, 2, 0] [(0, .ref (ad 43)), (1, .ref (ad 5)), (2, .int (x2 + 1))] rfl ?_
              exact ih46 (i + 1) (x2 + 1) (upd zc (Int32.toNatClampNeg x2) 0) (by have := g_lt10 (n := 30) hx (by omega) zc52; omega) (by rw [hx]; exact nI_1 i) (by have := g_lt10 (n := 30) hx (by omega) zc52; omega) (g_z hz hx (by omega))
        refine g_weq (wX X ad F (g_u (g_u (g_u R 44 za) 45 zb) 46 (R 46))) rfl ?_
        refine g_lsub [1, 2, 0] [(0, .ref (ad 43)), (1, .ref (ad 5)), (2, .int 0)] rfl ?_
        exact L46 _ 0 0 (R 46) (Nat.lt_succ_self _) nI_0.symm (by omega) (fun j hj => absurd hj (Nat.not_lt_zero j))
      · refine g_aload_n cx 0 rfl d_X4_begin_13 ?_
        refine g_get cx cl_X4 fl_X4_9 43 (.ref (ad 44)) d_X4_begin_14 rfl rfl ?_
        refine g_iload_n cx 2 rfl d_X4_begin_17 ?_
        refine g_aload_n cx 1 rfl d_X4_begin_18 ?_
        refine g_iload_n cx 2 rfl d_X4_begin_19 ?_
        refine g_iconst cx 1 (by decide) d_X4_begin_20 ?_
        refine g_cVi cx [.int x2, .int 1] [.int x2, .ref (ad 44)] (c_X8_side l X (ad 5) (ad 6) (F 80) (F 81) (F 82) (F 83) (F 84) (R 6) x2 1) ml_X4_46 yV_X8_side d_X4_begin_21 (by unfold g_rr; decide) (by decide) 0 rfl rfl [5, 6] rfl (by decide) rfl (Nat.le_of_ble_eq_true rfl) (by rintro _ _ ⟨rfl, _⟩; rfl) (fun r1 w2 h3 => ?_)
        obtain ⟨rfl, rfl⟩ := h3
        refine g_weq (wX X ad F (g_u (g_u R 44 za) 45 zb)) (g_rep_same rfl) ?_
        refine g_iast cx 44 (wX X ad F (g_u (g_u R 44 (upd za (Int32.toNatClampNeg x2) (g_side (R 6) x2 1))) 45 zb)) d_X4_begin_24 rfl (by rw [hx]; exact vp_in_nI (g_lt10 (n := 10) hx (by omega) zc10) (by decide)) rfl ?_
        refine g_aload_n cx 0 rfl d_X4_begin_25 ?_
        refine g_get cx cl_X4 fl_X4_15 43 (.ref (ad 45)) d_X4_begin_26 rfl rfl ?_
        refine g_iload_n cx 2 rfl d_X4_begin_29 ?_
        refine g_aload_n cx 1 rfl d_X4_begin_30 ?_
        refine g_iload_n cx 2 rfl d_X4_begin_31 ?_
        refine g_bipush cx 6 (by decide) d_X4_begin_32 ?_
        refine g_cVi cx [.int x2, .int 6] [.int x2, .ref (ad 45)] (c_X8_side l X (ad 5) (ad 6) (F 80) (F 81) (F 82) (F 83) (F 84) (R 6) x2 6) ml_X4_46 yV_X8_side d_X4_begin_34 (by unfold g_rr; decide) (by decide) 0 rfl rfl [5, 6] rfl (by decide) rfl (Nat.le_of_ble_eq_true rfl) (by rintro _ _ ⟨rfl, _⟩; rfl) (fun r4 w5 h6 => ?_)
        obtain ⟨rfl, rfl⟩ := h6
        refine g_weq (wX X ad F (g_u (g_u R 44 (upd za (Int32.toNatClampNeg x2) (g_side (R 6) x2 1))) 45 zb)) (g_rep_same rfl) ?_
        refine g_iast cx 45 (wX X ad F (g_u (g_u R 44 (upd za (Int32.toNatClampNeg x2) (g_side (R 6) x2 1))) 45 (upd zb (Int32.toNatClampNeg x2) (g_side (R 6) x2 6)))) d_X4_begin_37 rfl (by rw [hx]; exact vp_in_nI (g_lt10 (n := 10) hx (by omega) zc10) (by decide)) rfl ?_
        refine g_iinc cx (x2 + 1) [(2, .int (x2 + 1)), (0, .ref (ad 43)), (1, .ref (ad 5))] 2 d_X4_begin_38 rfl (rfl) (by decide) rfl ?_
        refine g_goto cx 7 d_X4_begin_41 (by decide) ?_
        refine g_lsub [1, 2, 0] [(0, .ref (ad 43)), (1, .ref (ad 5)), (2, .int (x2 + 1))] rfl ?_
        exact ih7 (i + 1) (x2 + 1) (upd za (Int32.toNatClampNeg x2) (g_side (R 6) x2 1)) (upd zb (Int32.toNatClampNeg x2) (g_side (R 6) x2 6)) (by have := g_lt10 (n := 10) hx (by omega) zc10; omega) (by rw [hx]; exact nI_1 i) (by have := g_lt10 (n := 10) hx (by omega) zc10; omega)
  refine g_weq (wX X ad F (g_u (g_u R 44 (R 44)) 45 (R 45))) rfl ?_
  refine g_lsub [1, 2, 0] [(0, .ref (ad 43)), (1, .ref (ad 5)), (2, .int 0)] rfl ?_
  exact L7 _ 0 0 (R 44) (R 45) (Nat.lt_succ_self _) nI_0.symm (by omega)
theorem d_X0_begin_0 : g_dc cX0_begin 0 (.aload_n 0) 1 1 := ⟨by decide +kernel, rfl⟩
theorem d_X0_begin_1 : g_dc cX0_begin 1 (.getfield 35) 3 4 := ⟨by decide +kernel, rfl⟩
theorem d_X0_begin_4 : g_dc cX0_begin 4 (.aload_n 0) 1 5 := ⟨by decide +kernel, rfl⟩
theorem d_X0_begin_5 : g_dc cX0_begin 5 (.getfield 12) 3 8 := ⟨by decide +kernel, rfl⟩
theorem d_X0_begin_8 : g_dc cX0_begin 8 (.invokevirtual 90) 3 11 := ⟨by decide +kernel, rfl⟩
theorem d_X0_begin_11 : g_dc cX0_begin 11 (.aload_n 0) 1 12 := ⟨by decide +kernel, rfl⟩
theorem d_X0_begin_12 : g_dc cX0_begin 12 (.iconst 0) 1 13 := ⟨by decide +kernel, rfl⟩
theorem d_X0_begin_13 : g_dc cX0_begin 13 (.putfield 59) 3 16 := ⟨by decide +kernel, rfl⟩
theorem d_X0_begin_16 : g_dc cX0_begin 16 (.iconst 0) 1 17 := ⟨by decide +kernel, rfl⟩
theorem d_X0_begin_17 : g_dc cX0_begin 17 (.istore_n 1) 1 18 := ⟨by decide +kernel, rfl⟩
theorem d_X0_begin_18 : g_dc cX0_begin 18 (.iload_n 1) 1 19 := ⟨by decide +kernel, rfl⟩
theorem d_X0_begin_19 : g_dc cX0_begin 19 (.bipush 10) 2 21 := ⟨by decide +kernel, rfl⟩
theorem d_X0_begin_21 : g_dc cX0_begin 21 (.if_icmp .ge 16) 3 24 := ⟨by decide +kernel, rfl⟩
theorem d_X0_begin_24 : g_dc cX0_begin 24 (.aload_n 0) 1 25 := ⟨by decide +kernel, rfl⟩
theorem d_X0_begin_25 : g_dc cX0_begin 25 (.getfield 39) 3 28 := ⟨by decide +kernel, rfl⟩
theorem d_X0_begin_28 : g_dc cX0_begin 28 (.iload_n 1) 1 29 := ⟨by decide +kernel, rfl⟩
theorem d_X0_begin_29 : g_dc cX0_begin 29 (.iconst 0) 1 30 := ⟨by decide +kernel, rfl⟩
theorem d_X0_begin_30 : g_dc cX0_begin 30 (.iastore) 1 31 := ⟨by decide +kernel, rfl⟩
theorem d_X0_begin_31 : g_dc cX0_begin 31 (.iinc 1 1) 3 34 := ⟨by decide +kernel, rfl⟩
theorem d_X0_begin_34 : g_dc cX0_begin 34 (.goto (-16)) 3 37 := ⟨by decide +kernel, rfl⟩
theorem d_X0_begin_37 : g_dc cX0_begin 37 (.aload_n 0) 1 38 := ⟨by decide +kernel, rfl⟩
theorem d_X0_begin_38 : g_dc cX0_begin 38 (.iconst 0) 1 39 := ⟨by decide +kernel, rfl⟩
theorem d_X0_begin_39 : g_dc cX0_begin 39 (.putfield 52) 3 42 := ⟨by decide +kernel, rfl⟩
theorem d_X0_begin_42 : g_dc cX0_begin 42 (.iconst 0) 1 43 := ⟨by decide +kernel, rfl⟩
theorem d_X0_begin_43 : g_dc cX0_begin 43 (.istore_n 1) 1 44 := ⟨by decide +kernel, rfl⟩
theorem d_X0_begin_44 : g_dc cX0_begin 44 (.iload_n 1) 1 45 := ⟨by decide +kernel, rfl⟩
theorem d_X0_begin_45 : g_dc cX0_begin 45 (.bipush 6) 2 47 := ⟨by decide +kernel, rfl⟩
theorem d_X0_begin_47 : g_dc cX0_begin 47 (.if_icmp .ge 47) 3 50 := ⟨by decide +kernel, rfl⟩
theorem d_X0_begin_50 : g_dc cX0_begin 50 (.aload_n 0) 1 51 := ⟨by decide +kernel, rfl⟩
theorem d_X0_begin_51 : g_dc cX0_begin 51 (.getfield 12) 3 54 := ⟨by decide +kernel, rfl⟩
theorem d_X0_begin_54 : g_dc cX0_begin 54 (.iload_n 1) 1 55 := ⟨by decide +kernel, rfl⟩
theorem d_X0_begin_55 : g_dc cX0_begin 55 (.invokevirtual 93) 3 58 := ⟨by decide +kernel, rfl⟩
theorem d_X0_begin_58 : g_dc cX0_begin 58 (.ifCond .eq 30) 3 61 := ⟨by decide +kernel, rfl⟩
theorem d_X0_begin_88 : g_dc cX0_begin 88 (.iinc 1 1) 3 91 := ⟨by decide +kernel, rfl⟩
theorem d_X0_begin_91 : g_dc cX0_begin 91 (.goto (-47)) 3 94 := ⟨by decide +kernel, rfl⟩
theorem d_X0_begin_94 : g_dc cX0_begin 94 (.return_) 1 95 := ⟨by decide +kernel, rfl⟩
set_option maxHeartbeats 4000000 in
set_option maxRecDepth 100000 in
theorem c_X0_begin (l : Launch) (X : gX) (ad : Nat → Nat) (F : Nat → Int32) (R : Nat → Nat → Int32) (h82 : F 82 = 0) : g_Cv l X yX0_begin cX0_begin 2 4 0 0 [.ref (ad 37)] (wX X ad F R) (fun w => ∃ (F' : Nat → Int32) (R' : Nat → Nat → Int32), w = wX X ad F' R' ∧ P_eb F F' R R') := by
  refine g_mv (by decide +kernel) (Nat.le_of_ble_eq_true rfl) (fun E cx hret => ?_)
  refine g_aload_n cx 0 rfl d_X0_begin_0 ?_
  refine g_get cx cl_X0 fl_X0_35 37 (.ref (ad 43)) d_X0_begin_1 rfl rfl ?_
  refine g_aload_n cx 0 rfl d_X0_begin_4 ?_
  refine g_get cx cl_X0 fl_X0_12 37 (.ref (ad 5)) d_X0_begin_5 rfl rfl ?_
  refine g_cVvW cx [.ref (ad 5)] [] (c_X4_begin l X ad F R  ) ml_X0_90 yV_X4_begin d_X0_begin_8 (by unfold g_rr; decide) (by decide) 43 rfl rfl rfl (Nat.le_of_ble_eq_true rfl) (fun w2 h3 => ?_)
  obtain ⟨zF4, zR5, rfl, zp6⟩ := h3
  refine g_aload_n cx 0 rfl d_X0_begin_11 ?_
  refine g_iconst cx 0 (by decide) d_X0_begin_12 ?_
  refine g_put cx cl_X0 fl_X0_59 37 (wX X ad (upd zF4 603 0) zR5) d_X0_begin_13 rfl rfl rfl rfl (Nat.le_of_ble_eq_true rfl) rfl ?_
  refine g_iconst cx 0 (by decide) d_X0_begin_16 ?_
  refine g_istore_n cx [(1, .int 0), (0, .ref (ad 37))] d_X0_begin_17 (by decide) rfl ?_
  refine g_iload_n cx 0 rfl d_X0_begin_18 ?_
  refine g_bipush cx 10 (by decide) d_X0_begin_19 ?_
  refine g_icmp_ge_f cx 37 d_X0_begin_21 (by decide) (by decide) ?_
  refine g_aload_n cx 1 rfl d_X0_begin_24 ?_
  refine g_get cx cl_X0 fl_X0_39 37 (.ref (ad 38)) d_X0_begin_25 rfl rfl ?_
  refine g_iload_n cx 0 rfl d_X0_begin_28 ?_
  refine g_iconst cx 0 (by decide) d_X0_begin_29 ?_
  refine g_iast cx 38 (wX X ad (upd zF4 603 0) (g_u zR5 38 (upd (zR5 38) 0 0))) d_X0_begin_30 rfl (by unfold vp_in; decide) rfl ?_
  refine g_iinc cx 1 [(1, .int 1), (0, .ref (ad 37))] 0 d_X0_begin_31 rfl (by decide) (by decide) rfl ?_
  refine g_goto cx 18 d_X0_begin_34 (by decide) ?_
  refine g_iload_n cx 0 rfl d_X0_begin_18 ?_
  refine g_bipush cx 10 (by decide) d_X0_begin_19 ?_
  refine g_icmp_ge_f cx 37 d_X0_begin_21 (by decide) (by decide) ?_
  refine g_aload_n cx 1 rfl d_X0_begin_24 ?_
  refine g_get cx cl_X0 fl_X0_39 37 (.ref (ad 38)) d_X0_begin_25 rfl rfl ?_
  refine g_iload_n cx 0 rfl d_X0_begin_28 ?_
  refine g_iconst cx 0 (by decide) d_X0_begin_29 ?_
  refine g_iast cx 38 (wX X ad (upd zF4 603 0) (g_u zR5 38 (upd (upd (zR5 38) 0 0) 1 0))) d_X0_begin_30 rfl (by unfold vp_in; decide) rfl ?_
  refine g_iinc cx 2 [(1, .int 2), (0, .ref (ad 37))] 0 d_X0_begin_31 rfl (by decide) (by decide) rfl ?_
  refine g_goto cx 18 d_X0_begin_34 (by decide) ?_
  refine g_iload_n cx 0 rfl d_X0_begin_18 ?_
  refine g_bipush cx 10 (by decide) d_X0_begin_19 ?_
  refine g_icmp_ge_f cx 37 d_X0_begin_21 (by decide) (by decide) ?_
  refine g_aload_n cx 1 rfl d_X0_begin_24 ?_
  refine g_get cx cl_X0 fl_X0_39 37 (.ref (ad 38)) d_X0_begin_25 rfl rfl ?_
  refine g_iload_n cx 0 rfl d_X0_begin_28 ?_
  refine g_iconst cx 0 (by decide) d_X0_begin_29 ?_
  refine g_iast cx 38 (wX X ad (upd zF4 603 0) (g_u zR5 38 (upd (upd (upd (zR5 38) 0 0) 1 0) 2 0))) d_X0_begin_30 rfl (by unfold vp_in; decide) rfl ?_
  refine g_iinc cx 3 [(1, .int 3), (0, .ref (ad 37))] 0 d_X0_begin_31 rfl (by decide) (by decide) rfl ?_
  refine g_goto cx 18 d_X0_begin_34 (by decide) ?_
  refine g_iload_n cx 0 rfl d_X0_begin_18 ?_
  refine g_bipush cx 10 (by decide) d_X0_begin_19 ?_
  refine g_icmp_ge_f cx 37 d_X0_begin_21 (by decide) (by decide) ?_
  refine g_aload_n cx 1 rfl d_X0_begin_24 ?_
  refine g_get cx cl_X0 fl_X0_39 37 (.ref (ad 38)) d_X0_begin_25 rfl rfl ?_
  refine g_iload_n cx 0 rfl d_X0_begin_28 ?_
  refine g_iconst cx 0 (by decide) d_X0_begin_29 ?_
  refine g_iast cx 38 (wX X ad (upd zF4 603 0) (g_u zR5 38 (upd (upd (upd (upd (zR5 38) 0 0) 1 0) 2 0) 3 0))) d_X0_begin_30 rfl (by unfold vp_in; decide) rfl ?_
  refine g_iinc cx 4 [(1, .int 4), (0, .ref (ad 37))] 0 d_X0_begin_31 rfl (by decide) (by decide) rfl ?_
  refine g_goto cx 18 d_X0_begin_34 (by decide) ?_
  refine g_iload_n cx 0 rfl d_X0_begin_18 ?_
  refine g_bipush cx 10 (by decide) d_X0_begin_19 ?_
  refine g_icmp_ge_f cx 37 d_X0_begin_21 (by decide) (by decide) ?_
  refine g_aload_n cx 1 rfl d_X0_begin_24 ?_
  refine g_get cx cl_X0 fl_X0_39 37 (.ref (ad 38)) d_X0_begin_25 rfl rfl ?_
  refine g_iload_n cx 0 rfl d_X0_begin_28 ?_
  refine g_iconst cx 0 (by decide) d_X0_begin_29 ?_
  refine g_iast cx 38 (wX X ad (upd zF4 603 0) (g_u zR5 38 (upd (upd (upd (upd (upd (zR5 38) 0 0) 1 0) 2 0) 3 0) 4 0))) d_X0_begin_30 rfl (by unfold vp_in; decide) rfl ?_
  refine g_iinc cx 5 [(1, .int 5), (0, .ref (ad 37))] 0 d_X0_begin_31 rfl (by decide) (by decide) rfl ?_
  refine g_goto cx 18 d_X0_begin_34 (by decide) ?_
  refine g_iload_n cx 0 rfl d_X0_begin_18 ?_
  refine g_bipush cx 10 (by decide) d_X0_begin_19 ?_
  refine g_icmp_ge_f cx 37 d_X0_begin_21 (by decide) (by decide) ?_
  refine g_aload_n cx 1 rfl d_X0_begin_24 ?_
  refine g_get cx cl_X0 fl_X0_39 37 (.ref (ad 38)) d_X0_begin_25 rfl rfl ?_
  refine g_iload_n cx 0 rfl d_X0_begin_28 ?_
  refine g_iconst cx 0 (by decide) d_X0_begin_29 ?_
  refine g_iast cx 38 (wX X ad (upd zF4 603 0) (g_u zR5 38 (upd (upd (upd (upd (upd (upd (zR5 38) 0 0) 1 0) 2 0) 3 0) 4 0) 5 0))) d_X0_begin_30 rfl (by unfold vp_in; decide) rfl ?_
  refine g_iinc cx 6 [(1, .int 6), (0, .ref (ad 37))] 0 d_X0_begin_31 rfl (by decide) (by decide) rfl ?_
  refine g_goto cx 18 d_X0_begin_34 (by decide) ?_
  refine g_iload_n cx 0 rfl d_X0_begin_18 ?_
  refine g_bipush cx 10 (by decide) d_X0_begin_19 ?_
  refine g_icmp_ge_f cx 37 d_X0_begin_21 (by decide) (by decide) ?_
  refine g_aload_n cx 1 rfl d_X0_begin_24 ?_
  refine g_get cx cl_X0 fl_X0_39 37 (.ref (ad 38)) d_X0_begin_25 rfl rfl ?_
  refine g_iload_n cx 0 rfl d_X0_begin_28 ?_
  refine g_iconst cx 0 (by decide) d_X0_begin_29 ?_
  refine g_iast cx 38 (wX X ad (upd zF4 603 0) (g_u zR5 38 (upd (upd (upd (upd (upd (upd (upd (zR5 38) 0 0) 1 0) 2 0) 3 0) 4 0) 5 0) 6 0))) d_X0_begin_30 rfl (by unfold vp_in; decide) rfl ?_
  refine g_iinc cx 7 [(1, .int 7), (0, .ref (ad 37))] 0 d_X0_begin_31 rfl (by decide) (by decide) rfl ?_
  refine g_goto cx 18 d_X0_begin_34 (by decide) ?_
  refine g_iload_n cx 0 rfl d_X0_begin_18 ?_
  refine g_bipush cx 10 (by decide) d_X0_begin_19 ?_
  refine g_icmp_ge_f cx 37 d_X0_begin_21 (by decide) (by decide) ?_
  refine g_aload_n cx 1 rfl d_X0_begin_24 ?_
  refine g_get cx cl_X0 fl_X0_39 37 (.ref (ad 38)) d_X0_begin_25 rfl rfl ?_
  refine g_iload_n cx 0 rfl d_X0_begin_28 ?_
  refine g_iconst cx 0 (by decide) d_X0_begin_29 ?_
  refine g_iast cx 38 (wX X ad (upd zF4 603 0) (g_u zR5 38 (upd (upd (upd (upd (upd (upd (upd (upd (zR5 38) 0 0) 1 0) 2 0) 3 0) 4 0) 5 0) 6 0) 7 0))) d_X0_begin_30 rfl (by unfold vp_in; decide) rfl ?_
  refine g_iinc cx 8 [(1, .int 8), (0, .ref (ad 37))] 0 d_X0_begin_31 rfl (by decide) (by decide) rfl ?_
  refine g_goto cx 18 d_X0_begin_34 (by decide) ?_
  refine g_iload_n cx 0 rfl d_X0_begin_18 ?_
  refine g_bipush cx 10 (by decide) d_X0_begin_19 ?_
  refine g_icmp_ge_f cx 37 d_X0_begin_21 (by decide) (by decide) ?_
  refine g_aload_n cx 1 rfl d_X0_begin_24 ?_
  refine g_get cx cl_X0 fl_X0_39 37 (.ref (ad 38)) d_X0_begin_25 rfl rfl ?_
  refine g_iload_n cx 0 rfl d_X0_begin_28 ?_
  refine g_iconst cx 0 (by decide) d_X0_begin_29 ?_
  refine g_iast cx 38 (wX X ad (upd zF4 603 0) (g_u zR5 38 (upd (upd (upd (upd (upd (upd (upd (upd (upd (zR5 38) 0 0) 1 0) 2 0) 3 0) 4 0) 5 0) 6 0) 7 0) 8 0))) d_X0_begin_30 rfl (by unfold vp_in; decide) rfl ?_
  refine g_iinc cx 9 [(1, .int 9), (0, .ref (ad 37))] 0 d_X0_begin_31 rfl (by decide) (by decide) rfl ?_
  refine g_goto cx 18 d_X0_begin_34 (by decide) ?_
  refine g_iload_n cx 0 rfl d_X0_begin_18 ?_
  refine g_bipush cx 10 (by decide) d_X0_begin_19 ?_
  refine g_icmp_ge_f cx 37 d_X0_begin_21 (by decide) (by decide) ?_
  refine g_aload_n cx 1 rfl d_X0_begin_24 ?_
  refine g_get cx cl_X0 fl_X0_39 37 (.ref (ad 38)) d_X0_begin_25 rfl rfl ?_
  refine g_iload_n cx 0 rfl d_X0_begin_28 ?_
  refine g_iconst cx 0 (by decide) d_X0_begin_29 ?_
  refine g_iast cx 38 (wX X ad (upd zF4 603 0) (g_u zR5 38 (upd (upd (upd (upd (upd (upd (upd (upd (upd (upd (zR5 38) 0 0) 1 0) 2 0) 3 0) 4 0) 5 0) 6 0) 7 0) 8 0) 9 0))) d_X0_begin_30 rfl (by unfold vp_in; decide) rfl ?_
  refine g_iinc cx 10 [(1, .int 10), (0, .ref (ad 37))] 0 d_X0_begin_31 rfl (by decide) (by decide) rfl ?_
  refine g_goto cx 18 d_X0_begin_34 (by decide) ?_
  refine g_iload_n cx 0 rfl d_X0_begin_18 ?_
  refine g_bipush cx 10 (by decide) d_X0_begin_19 ?_
  refine g_icmp_ge_t cx 37 d_X0_begin_21 (by decide) (by decide) ?_
  refine g_aload_n cx 1 rfl d_X0_begin_37 ?_
  refine g_iconst cx 0 (by decide) d_X0_begin_38 ?_
  refine g_put cx cl_X0 fl_X0_52 37 (wX X ad (upd (upd zF4 601 0) 603 0) (g_u zR5 38 (upd (upd (upd (upd (upd (upd (upd (upd (upd (upd (zR5 38) 0 0) 1 0) 2 0) 3 0) 4 0) 5 0) 6 0) 7 0) 8 0) 9 0))) d_X0_begin_39 rfl rfl rfl rfl (Nat.le_of_ble_eq_true rfl) rfl ?_
  refine g_iconst cx 0 (by decide) d_X0_begin_42 ?_
  refine g_istore_n cx [(1, .int 0), (0, .ref (ad 37))] d_X0_begin_43 (by decide) rfl ?_
  refine g_iload_n cx 0 rfl d_X0_begin_44 ?_
  refine g_bipush cx 6 (by decide) d_X0_begin_45 ?_
  refine g_icmp_ge_f cx 94 d_X0_begin_47 (by decide) (by decide) ?_
  refine g_aload_n cx 1 rfl d_X0_begin_50 ?_
  refine g_get cx cl_X0 fl_X0_12 37 (.ref (ad 5)) d_X0_begin_51 rfl rfl ?_
  refine g_iload_n cx 0 rfl d_X0_begin_54 ?_
  refine g_cVi cx [.int 0] [] (c_X8_hasFold l X (ad 5) (ad 6) (zF4 80) (zF4 81) (zF4 82) (zF4 83) (zF4 84) (zR5 6) 0) ml_X0_93 yV_X8_hasFold d_X0_begin_55 (by unfold g_rr; decide) (by decide) 0 rfl rfl [5, 6] rfl (by decide) rfl (Nat.le_of_ble_eq_true rfl) (by rintro _ _ ⟨rfl, _⟩; rfl) (fun r7 w8 h9 => ?_)
  obtain ⟨rfl, rfl⟩ := h9
  refine g_weq (wX X ad (upd (upd zF4 601 0) 603 0) (g_u zR5 38 (upd (upd (upd (upd (upd (upd (upd (upd (upd (upd (zR5 38) 0 0) 1 0) 2 0) 3 0) 4 0) 5 0) 6 0) 7 0) 8 0) 9 0))) (g_rep_same rfl) ?_
  refine g_toi 0 (g_hf0 ((zp6.1 82 (by decide)).trans (h82))) ?_
  refine g_if_eq_t cx 88 d_X0_begin_58 (by decide) (by decide) ?_
  refine g_iinc cx 1 [(1, .int 1), (0, .ref (ad 37))] 0 d_X0_begin_88 rfl (by decide) (by decide) rfl ?_
  refine g_goto cx 44 d_X0_begin_91 (by decide) ?_
  refine g_iload_n cx 0 rfl d_X0_begin_44 ?_
  refine g_bipush cx 6 (by decide) d_X0_begin_45 ?_
  refine g_icmp_ge_f cx 94 d_X0_begin_47 (by decide) (by decide) ?_
  refine g_aload_n cx 1 rfl d_X0_begin_50 ?_
  refine g_get cx cl_X0 fl_X0_12 37 (.ref (ad 5)) d_X0_begin_51 rfl rfl ?_
  refine g_iload_n cx 0 rfl d_X0_begin_54 ?_
  refine g_cVi cx [.int 1] [] (c_X8_hasFold l X (ad 5) (ad 6) (zF4 80) (zF4 81) (zF4 82) (zF4 83) (zF4 84) (zR5 6) 1) ml_X0_93 yV_X8_hasFold d_X0_begin_55 (by unfold g_rr; decide) (by decide) 0 rfl rfl [5, 6] rfl (by decide) rfl (Nat.le_of_ble_eq_true rfl) (by rintro _ _ ⟨rfl, _⟩; rfl) (fun r10 w11 h12 => ?_)
  obtain ⟨rfl, rfl⟩ := h12
  refine g_weq (wX X ad (upd (upd zF4 601 0) 603 0) (g_u zR5 38 (upd (upd (upd (upd (upd (upd (upd (upd (upd (upd (zR5 38) 0 0) 1 0) 2 0) 3 0) 4 0) 5 0) 6 0) 7 0) 8 0) 9 0))) (g_rep_same rfl) ?_
  refine g_toi 0 (g_hf0 ((zp6.1 82 (by decide)).trans (h82))) ?_
  refine g_if_eq_t cx 88 d_X0_begin_58 (by decide) (by decide) ?_
  refine g_iinc cx 2 [(1, .int 2), (0, .ref (ad 37))] 0 d_X0_begin_88 rfl (by decide) (by decide) rfl ?_
  refine g_goto cx 44 d_X0_begin_91 (by decide) ?_
  refine g_iload_n cx 0 rfl d_X0_begin_44 ?_
  refine g_bipush cx 6 (by decide) d_X0_begin_45 ?_
  refine g_icmp_ge_f cx 94 d_X0_begin_47 (by decide) (by decide) ?_
  refine g_aload_n cx 1 rfl d_X0_begin_50 ?_
  refine g_get cx cl_X0 fl_X0_12 37 (.ref (ad 5)) d_X0_begin_51 rfl rfl ?_
  refine g_iload_n cx 0 rfl d_X0_begin_54 ?_
  refine g_cVi cx [.int 2] [] (c_X8_hasFold l X (ad 5) (ad 6) (zF4 80) (zF4 81) (zF4 82) (zF4 83) (zF4 84) (zR5 6) 2) ml_X0_93 yV_X8_hasFold d_X0_begin_55 (by unfold g_rr; decide) (by decide) 0 rfl rfl [5, 6] rfl (by decide) rfl (Nat.le_of_ble_eq_true rfl) (by rintro _ _ ⟨rfl, _⟩; rfl) (fun r13 w14 h15 => ?_)
  obtain ⟨rfl, rfl⟩ := h15
  refine g_weq (wX X ad (upd (upd zF4 601 0) 603 0) (g_u zR5 38 (upd (upd (upd (upd (upd (upd (upd (upd (upd (upd (zR5 38) 0 0) 1 0) 2 0) 3 0) 4 0) 5 0) 6 0) 7 0) 8 0) 9 0))) (g_rep_same rfl) ?_
  refine g_toi 0 (g_hf0 ((zp6.1 82 (by decide)).trans (h82))) ?_
  refine g_if_eq_t cx 88 d_X0_begin_58 (by decide) (by decide) ?_
  refine g_iinc cx 3 [(1, .int 3), (0, .ref (ad 37))] 0 d_X0_begin_88 rfl (by decide) (by decide) rfl ?_
  refine g_goto cx 44 d_X0_begin_91 (by decide) ?_
  refine g_iload_n cx 0 rfl d_X0_begin_44 ?_
  refine g_bipush cx 6 (by decide) d_X0_begin_45 ?_
  refine g_icmp_ge_f cx 94 d_X0_begin_47 (by decide) (by decide) ?_
  refine g_aload_n cx 1 rfl d_X0_begin_50 ?_
  refine g_get cx cl_X0 fl_X0_12 37 (.ref (ad 5)) d_X0_begin_51 rfl rfl ?_
  refine g_iload_n cx 0 rfl d_X0_begin_54 ?_
  refine g_cVi cx [.int 3] [] (c_X8_hasFold l X (ad 5) (ad 6) (zF4 80) (zF4 81) (zF4 82) (zF4 83) (zF4 84) (zR5 6) 3) ml_X0_93 yV_X8_hasFold d_X0_begin_55 (by unfold g_rr; decide) (by decide) 0 rfl rfl [5, 6] rfl (by decide) rfl (Nat.le_of_ble_eq_true rfl) (by rintro _ _ ⟨rfl, _⟩; rfl) (fun r16 w17 h18 => ?_)
  obtain ⟨rfl, rfl⟩ := h18
  refine g_weq (wX X ad (upd (upd zF4 601 0) 603 0) (g_u zR5 38 (upd (upd (upd (upd (upd (upd (upd (upd (upd (upd (zR5 38) 0 0) 1 0) 2 0) 3 0) 4 0) 5 0) 6 0) 7 0) 8 0) 9 0))) (g_rep_same rfl) ?_
  refine g_toi 0 (g_hf0 ((zp6.1 82 (by decide)).trans (h82))) ?_
  refine g_if_eq_t cx 88 d_X0_begin_58 (by decide) (by decide) ?_
  refine g_iinc cx 4 [(1, .int 4), (0, .ref (ad 37))] 0 d_X0_begin_88 rfl (by decide) (by decide) rfl ?_
  refine g_goto cx 44 d_X0_begin_91 (by decide) ?_
  refine g_iload_n cx 0 rfl d_X0_begin_44 ?_
  refine g_bipush cx 6 (by decide) d_X0_begin_45 ?_
  refine g_icmp_ge_f cx 94 d_X0_begin_47 (by decide) (by decide) ?_
  refine g_aload_n cx 1 rfl d_X0_begin_50 ?_
  refine g_get cx cl_X0 fl_X0_12 37 (.ref (ad 5)) d_X0_begin_51 rfl rfl ?_
  refine g_iload_n cx 0 rfl d_X0_begin_54 ?_
  refine g_cVi cx [.int 4] [] (c_X8_hasFold l X (ad 5) (ad 6) (zF4 80) (zF4 81) (zF4 82) (zF4 83) (zF4 84) (zR5 6) 4) ml_X0_93 yV_X8_hasFold d_X0_begin_55 (by unfold g_rr; decide) (by decide) 0 rfl rfl [5, 6] rfl (by decide) rfl (Nat.le_of_ble_eq_true rfl) (by rintro _ _ ⟨rfl, _⟩; rfl) (fun r19 w20 h21 => ?_)
  obtain ⟨rfl, rfl⟩ := h21
  refine g_weq (wX X ad (upd (upd zF4 601 0) 603 0) (g_u zR5 38 (upd (upd (upd (upd (upd (upd (upd (upd (upd (upd (zR5 38) 0 0) 1 0) 2 0) 3 0) 4 0) 5 0) 6 0) 7 0) 8 0) 9 0))) (g_rep_same rfl) ?_
  refine g_toi 0 (g_hf0 ((zp6.1 82 (by decide)).trans (h82))) ?_
  refine g_if_eq_t cx 88 d_X0_begin_58 (by decide) (by decide) ?_
  refine g_iinc cx 5 [(1, .int 5), (0, .ref (ad 37))] 0 d_X0_begin_88 rfl (by decide) (by decide) rfl ?_
  refine g_goto cx 44 d_X0_begin_91 (by decide) ?_
  refine g_iload_n cx 0 rfl d_X0_begin_44 ?_
  refine g_bipush cx 6 (by decide) d_X0_begin_45 ?_
  refine g_icmp_ge_f cx 94 d_X0_begin_47 (by decide) (by decide) ?_
  refine g_aload_n cx 1 rfl d_X0_begin_50 ?_
  refine g_get cx cl_X0 fl_X0_12 37 (.ref (ad 5)) d_X0_begin_51 rfl rfl ?_
  refine g_iload_n cx 0 rfl d_X0_begin_54 ?_
  refine g_cVi cx [.int 5] [] (c_X8_hasFold l X (ad 5) (ad 6) (zF4 80) (zF4 81) (zF4 82) (zF4 83) (zF4 84) (zR5 6) 5) ml_X0_93 yV_X8_hasFold d_X0_begin_55 (by unfold g_rr; decide) (by decide) 0 rfl rfl [5, 6] rfl (by decide) rfl (Nat.le_of_ble_eq_true rfl) (by rintro _ _ ⟨rfl, _⟩; rfl) (fun r22 w23 h24 => ?_)
  obtain ⟨rfl, rfl⟩ := h24
  refine g_weq (wX X ad (upd (upd zF4 601 0) 603 0) (g_u zR5 38 (upd (upd (upd (upd (upd (upd (upd (upd (upd (upd (zR5 38) 0 0) 1 0) 2 0) 3 0) 4 0) 5 0) 6 0) 7 0) 8 0) 9 0))) (g_rep_same rfl) ?_
  refine g_toi 0 (g_hf0 ((zp6.1 82 (by decide)).trans (h82))) ?_
  refine g_if_eq_t cx 88 d_X0_begin_58 (by decide) (by decide) ?_
  refine g_iinc cx 6 [(1, .int 6), (0, .ref (ad 37))] 0 d_X0_begin_88 rfl (by decide) (by decide) rfl ?_
  refine g_goto cx 44 d_X0_begin_91 (by decide) ?_
  refine g_iload_n cx 0 rfl d_X0_begin_44 ?_
  refine g_bipush cx 6 (by decide) d_X0_begin_45 ?_
  refine g_icmp_ge_t cx 94 d_X0_begin_47 (by decide) (by decide) ?_
  exact hret d_X0_begin_94 (Nat.le_of_ble_eq_true rfl) (Nat.le_of_ble_eq_true rfl) ⟨(upd (upd zF4 601 0) 603 0), (g_u zR5 38 (upd (upd (upd (upd (upd (upd (upd (upd (upd (upd (zR5 38) 0 0) 1 0) 2 0) 3 0) 4 0) 5 0) 6 0) 7 0) 8 0) 9 0)), rfl, ⟨(by intro k hk; simp only [upd]; repeat (first | rw [if_neg (by omega)] | exact zp6.1 k (by omega))), zp6.2.1, zp6.2.2.1, zp6.2.2.2.1, zp6.2.2.2.2.1, zp6.2.2.2.2.2.1, zp6.2.2.2.2.2.2.1, zp6.2.2.2.2.2.2.2.1, zp6.2.2.2.2.2.2.2.2.1, zp6.2.2.2.2.2.2.2.2.2.1, (by intro c hc; simp only [g_u]; repeat (first | rw [if_neg (by omega)] | exact zp6.2.2.2.2.2.2.2.2.2.2 c (by omega)))⟩⟩
theorem d_X0_moves_0 : g_dc cX0_moves 0 (.aload_n 0) 1 1 := ⟨by decide +kernel, rfl⟩
theorem d_X0_moves_1 : g_dc cX0_moves 1 (.getfield 35) 3 4 := ⟨by decide +kernel, rfl⟩
theorem d_X0_moves_4 : g_dc cX0_moves 4 (.invokevirtual 101) 3 7 := ⟨by decide +kernel, rfl⟩
theorem d_X0_moves_7 : g_dc cX0_moves 7 (.istore_n 1) 1 8 := ⟨by decide +kernel, rfl⟩
theorem d_X0_moves_8 : g_dc cX0_moves 8 (.iconst 0) 1 9 := ⟨by decide +kernel, rfl⟩
theorem d_X0_moves_9 : g_dc cX0_moves 9 (.istore_n 2) 1 10 := ⟨by decide +kernel, rfl⟩
theorem d_X0_moves_10 : g_dc cX0_moves 10 (.iload_n 2) 1 11 := ⟨by decide +kernel, rfl⟩
theorem d_X0_moves_11 : g_dc cX0_moves 11 (.bipush 10) 2 13 := ⟨by decide +kernel, rfl⟩
theorem d_X0_moves_13 : g_dc cX0_moves 13 (.if_icmp .ge 28) 3 16 := ⟨by decide +kernel, rfl⟩
theorem d_X0_moves_16 : g_dc cX0_moves 16 (.aload_n 0) 1 17 := ⟨by decide +kernel, rfl⟩
theorem d_X0_moves_17 : g_dc cX0_moves 17 (.getfield 39) 3 20 := ⟨by decide +kernel, rfl⟩
theorem d_X0_moves_20 : g_dc cX0_moves 20 (.iload_n 2) 1 21 := ⟨by decide +kernel, rfl⟩
theorem d_X0_moves_21 : g_dc cX0_moves 21 (.iaload) 1 22 := ⟨by decide +kernel, rfl⟩
theorem d_X0_moves_22 : g_dc cX0_moves 22 (.ifCond .le 13) 3 25 := ⟨by decide +kernel, rfl⟩
theorem d_X0_moves_25 : g_dc cX0_moves 25 (.iload_n 1) 1 26 := ⟨by decide +kernel, rfl⟩
theorem d_X0_moves_26 : g_dc cX0_moves 26 (.iconst 1) 1 27 := ⟨by decide +kernel, rfl⟩
theorem d_X0_moves_27 : g_dc cX0_moves 27 (.iload_n 2) 1 28 := ⟨by decide +kernel, rfl⟩
theorem d_X0_moves_28 : g_dc cX0_moves 28 (.ishl) 1 29 := ⟨by decide +kernel, rfl⟩
theorem d_X0_moves_29 : g_dc cX0_moves 29 (.iand) 1 30 := ⟨by decide +kernel, rfl⟩
theorem d_X0_moves_30 : g_dc cX0_moves 30 (.ifCond .eq 5) 3 33 := ⟨by decide +kernel, rfl⟩
theorem d_X0_moves_35 : g_dc cX0_moves 35 (.iinc 2 1) 3 38 := ⟨by decide +kernel, rfl⟩
theorem d_X0_moves_38 : g_dc cX0_moves 38 (.goto (-28)) 3 41 := ⟨by decide +kernel, rfl⟩
theorem d_X0_moves_41 : g_dc cX0_moves 41 (.iconst 0) 1 42 := ⟨by decide +kernel, rfl⟩
theorem d_X0_moves_42 : g_dc cX0_moves 42 (.ireturn) 1 43 := ⟨by decide +kernel, rfl⟩
set_option maxHeartbeats 4000000 in
set_option maxRecDepth 100000 in
theorem c_X0_moves (l : Launch) (X : gX) (ad : Nat → Nat) (F : Nat → Int32) (R : Nat → Nat → Int32) (h691 : F 691 = 0) : g_Ci l X yX0_moves cX0_moves 3 (some .boolean) 2 0 0 [.ref (ad 37)] (wX X ad F R) (fun r w => w = wX X ad F R ∧ r = 0) := by
  refine g_mi (by decide +kernel) (Nat.le_of_ble_eq_true rfl) (fun E cx hret => ?_)
  refine g_aload_n cx 0 rfl d_X0_moves_0 ?_
  refine g_get cx cl_X0 fl_X0_35 37 (.ref (ad 43)) d_X0_moves_1 rfl rfl ?_
  refine g_cViW cx [] [] (c_X4_standingSet l X ad F R  ) ml_X0_101 yV_X4_standingSet d_X0_moves_4 (by unfold g_rr; decide) (by decide) 43 rfl rfl rfl (Nat.le_of_ble_eq_true rfl) (fun r1 w2 h3 => ?_)
  obtain ⟨rfl, rfl⟩ := h3
  refine g_toi 0 (g_ss0 (h691)) ?_
  refine g_istore_n cx [(1, .int 0), (0, .ref (ad 37))] d_X0_moves_7 (by decide) rfl ?_
  refine g_iconst cx 0 (by decide) d_X0_moves_8 ?_
  refine g_istore_n cx [(2, .int 0), (1, .int 0), (0, .ref (ad 37))] d_X0_moves_9 (by decide) rfl ?_
  have L10 : ∀ (N : Nat) (i : Nat) (x2 : Int32), 10 - i < N → (x2 = nI i) → (i ≤ 10) → G X E 3 0 0 (wX X ad F R) [(0, .ref (ad 37)), (1, .int 0), (2, .int x2)] 10 [] := by
    intro N
    induction N with
    | zero => intro i x2 hm; exact absurd hm (Nat.not_lt_zero _)
    | succ N ih10 =>
      intro i x2 hm hx hi
      refine g_iload_n cx 2 rfl d_X0_moves_10 ?_
      refine g_bipush cx 10 (by decide) d_X0_moves_11 ?_
      refine g_icmp_ge cx 41 d_X0_moves_13 (by decide) (fun zc13 => ?_) (fun zc13 => ?_)
      · refine g_iconst cx 0 (by decide) d_X0_moves_41 ?_
        exact hret d_X0_moves_42 (Nat.le_of_ble_eq_true rfl) (Nat.le_of_ble_eq_true rfl) rfl (⟨rfl, rfl⟩)
      · refine g_aload_n cx 0 rfl d_X0_moves_16 ?_
        refine g_get cx cl_X0 fl_X0_39 37 (.ref (ad 38)) d_X0_moves_17 rfl rfl ?_
        refine g_iload_n cx 2 rfl d_X0_moves_20 ?_
        refine g_iald cx 38 d_X0_moves_21 rfl (by rw [hx]; exact vp_in_nI (g_lt10 (n := 10) hx (by omega) zc13) (by decide)) ?_
        refine g_if_le cx 35 d_X0_moves_22 (by decide) (fun zc22 => ?_) (fun zc22 => ?_)
        · refine g_iinc cx (x2 + 1) [(2, .int (x2 + 1)), (0, .ref (ad 37)), (1, .int 0)] 2 d_X0_moves_35 rfl (rfl) (by decide) rfl ?_
          refine g_goto cx 10 d_X0_moves_38 (by decide) ?_
          refine g_lsub [1, 2, 0] [(0, .ref (ad 37)), (1, .int 0), (2, .int (x2 + 1))] rfl ?_
          exact ih10 (i + 1) (x2 + 1) (by have := g_lt10 (n := 10) hx (by omega) zc13; omega) (by rw [hx]; exact nI_1 i) (by have := g_lt10 (n := 10) hx (by omega) zc13; omega)
        · refine g_iload_n cx 1 rfl d_X0_moves_25 ?_
          refine g_iconst cx 1 (by decide) d_X0_moves_26 ?_
          refine g_iload_n cx 2 rfl d_X0_moves_27 ?_
          refine g_ishl cx d_X0_moves_28 ?_
          refine g_iand cx d_X0_moves_29 ?_
          refine g_toi 0 (by simp) ?_
          refine g_if_eq_t cx 35 d_X0_moves_30 (by decide) (by decide) ?_
          refine g_iinc cx (x2 + 1) [(2, .int (x2 + 1)), (0, .ref (ad 37)), (1, .int 0)] 2 d_X0_moves_35 rfl (rfl) (by decide) rfl ?_
          refine g_goto cx 10 d_X0_moves_38 (by decide) ?_
          refine g_lsub [1, 2, 0] [(0, .ref (ad 37)), (1, .int 0), (2, .int (x2 + 1))] rfl ?_
          exact ih10 (i + 1) (x2 + 1) (by have := g_lt10 (n := 10) hx (by omega) zc13; omega) (by rw [hx]; exact nI_1 i) (by have := g_lt10 (n := 10) hx (by omega) zc13; omega)
  refine g_lsub [2, 1, 0] [(0, .ref (ad 37)), (1, .int 0), (2, .int 0)] rfl ?_
  exact L10 _ 0 0 (Nat.lt_succ_self _) nI_0.symm (by omega)
theorem d_X0_pullCloth_0 : g_dc cX0_pullCloth 0 (.aload_n 0) 1 1 := ⟨by decide +kernel, rfl⟩
theorem d_X0_pullCloth_1 : g_dc cX0_pullCloth 1 (.getfield 21) 3 4 := ⟨by decide +kernel, rfl⟩
theorem d_X0_pullCloth_4 : g_dc cX0_pullCloth 4 (.iload_n 1) 1 5 := ⟨by decide +kernel, rfl⟩
theorem d_X0_pullCloth_5 : g_dc cX0_pullCloth 5 (.invokevirtual 135) 3 8 := ⟨by decide +kernel, rfl⟩
theorem d_X0_pullCloth_8 : g_dc cX0_pullCloth 8 (.istore_n 2) 1 9 := ⟨by decide +kernel, rfl⟩
theorem d_X0_pullCloth_9 : g_dc cX0_pullCloth 9 (.iload_n 1) 1 10 := ⟨by decide +kernel, rfl⟩
theorem d_X0_pullCloth_10 : g_dc cX0_pullCloth 10 (.aload_n 0) 1 11 := ⟨by decide +kernel, rfl⟩
theorem d_X0_pullCloth_11 : g_dc cX0_pullCloth 11 (.getfield 21) 3 14 := ⟨by decide +kernel, rfl⟩
theorem d_X0_pullCloth_14 : g_dc cX0_pullCloth 14 (.getfield 78) 3 17 := ⟨by decide +kernel, rfl⟩
theorem d_X0_pullCloth_17 : g_dc cX0_pullCloth 17 (.if_icmp .ge 14) 3 20 := ⟨by decide +kernel, rfl⟩
theorem d_X0_pullCloth_20 : g_dc cX0_pullCloth 20 (.aload_n 0) 1 21 := ⟨by decide +kernel, rfl⟩
theorem d_X0_pullCloth_21 : g_dc cX0_pullCloth 21 (.getfield 28) 3 24 := ⟨by decide +kernel, rfl⟩
theorem d_X0_pullCloth_24 : g_dc cX0_pullCloth 24 (.iload_n 1) 1 25 := ⟨by decide +kernel, rfl⟩
theorem d_X0_pullCloth_25 : g_dc cX0_pullCloth 25 (.invokevirtual 138) 3 28 := ⟨by decide +kernel, rfl⟩
theorem d_X0_pullCloth_28 : g_dc cX0_pullCloth 28 (.goto 4) 3 31 := ⟨by decide +kernel, rfl⟩
theorem d_X0_pullCloth_31 : g_dc cX0_pullCloth 31 (.iconst (-1)) 1 32 := ⟨by decide +kernel, rfl⟩
theorem d_X0_pullCloth_32 : g_dc cX0_pullCloth 32 (.istore_n 3) 1 33 := ⟨by decide +kernel, rfl⟩
theorem d_X0_pullCloth_33 : g_dc cX0_pullCloth 33 (.iconst 0) 1 34 := ⟨by decide +kernel, rfl⟩
theorem d_X0_pullCloth_34 : g_dc cX0_pullCloth 34 (.istore 4) 2 36 := ⟨by decide +kernel, rfl⟩
theorem d_X0_pullCloth_36 : g_dc cX0_pullCloth 36 (.aload_n 0) 1 37 := ⟨by decide +kernel, rfl⟩
theorem d_X0_pullCloth_37 : g_dc cX0_pullCloth 37 (.getfield 71) 3 40 := ⟨by decide +kernel, rfl⟩
theorem d_X0_pullCloth_40 : g_dc cX0_pullCloth 40 (.invokevirtual 141) 3 43 := ⟨by decide +kernel, rfl⟩
theorem d_X0_pullCloth_43 : g_dc cX0_pullCloth 43 (.aload_n 0) 1 44 := ⟨by decide +kernel, rfl⟩
theorem d_X0_pullCloth_44 : g_dc cX0_pullCloth 44 (.getfield 71) 3 47 := ⟨by decide +kernel, rfl⟩
theorem d_X0_pullCloth_47 : g_dc cX0_pullCloth 47 (.getfield 146) 3 50 := ⟨by decide +kernel, rfl⟩
theorem d_X0_pullCloth_50 : g_dc cX0_pullCloth 50 (.iconst 0) 1 51 := ⟨by decide +kernel, rfl⟩
theorem d_X0_pullCloth_51 : g_dc cX0_pullCloth 51 (.iload_n 1) 1 52 := ⟨by decide +kernel, rfl⟩
theorem d_X0_pullCloth_52 : g_dc cX0_pullCloth 52 (.iastore) 1 53 := ⟨by decide +kernel, rfl⟩
theorem d_X0_pullCloth_53 : g_dc cX0_pullCloth 53 (.aload_n 0) 1 54 := ⟨by decide +kernel, rfl⟩
theorem d_X0_pullCloth_54 : g_dc cX0_pullCloth 54 (.getfield 71) 3 57 := ⟨by decide +kernel, rfl⟩
theorem d_X0_pullCloth_57 : g_dc cX0_pullCloth 57 (.getfield 146) 3 60 := ⟨by decide +kernel, rfl⟩
theorem d_X0_pullCloth_60 : g_dc cX0_pullCloth 60 (.iconst 1) 1 61 := ⟨by decide +kernel, rfl⟩
theorem d_X0_pullCloth_61 : g_dc cX0_pullCloth 61 (.iload_n 2) 1 62 := ⟨by decide +kernel, rfl⟩
theorem d_X0_pullCloth_62 : g_dc cX0_pullCloth 62 (.iastore) 1 63 := ⟨by decide +kernel, rfl⟩
theorem d_X0_pullCloth_63 : g_dc cX0_pullCloth 63 (.iload_n 3) 1 64 := ⟨by decide +kernel, rfl⟩
theorem d_X0_pullCloth_64 : g_dc cX0_pullCloth 64 (.iconst (-1)) 1 65 := ⟨by decide +kernel, rfl⟩
theorem d_X0_pullCloth_65 : g_dc cX0_pullCloth 65 (.if_icmp .eq 33) 3 68 := ⟨by decide +kernel, rfl⟩
theorem d_X0_pullCloth_98 : g_dc cX0_pullCloth 98 (.aload_n 0) 1 99 := ⟨by decide +kernel, rfl⟩
theorem d_X0_pullCloth_99 : g_dc cX0_pullCloth 99 (.iconst 0) 1 100 := ⟨by decide +kernel, rfl⟩
theorem d_X0_pullCloth_100 : g_dc cX0_pullCloth 100 (.iload_n 2) 1 101 := ⟨by decide +kernel, rfl⟩
theorem d_X0_pullCloth_101 : g_dc cX0_pullCloth 101 (.iload 4) 2 103 := ⟨by decide +kernel, rfl⟩
theorem d_X0_pullCloth_103 : g_dc cX0_pullCloth 103 (.isub) 1 104 := ⟨by decide +kernel, rfl⟩
theorem d_X0_pullCloth_104 : g_dc cX0_pullCloth 104 (.invokestatic 152) 3 107 := ⟨by decide +kernel, rfl⟩
theorem d_X0_pullCloth_107 : g_dc cX0_pullCloth 107 (.putfield 62) 3 110 := ⟨by decide +kernel, rfl⟩
theorem d_X0_pullCloth_110 : g_dc cX0_pullCloth 110 (.aload_n 0) 1 111 := ⟨by decide +kernel, rfl⟩
theorem d_X0_pullCloth_111 : g_dc cX0_pullCloth 111 (.dup) 1 112 := ⟨by decide +kernel, rfl⟩
theorem d_X0_pullCloth_112 : g_dc cX0_pullCloth 112 (.getfield 59) 3 115 := ⟨by decide +kernel, rfl⟩
theorem d_X0_pullCloth_115 : g_dc cX0_pullCloth 115 (.aload_n 0) 1 116 := ⟨by decide +kernel, rfl⟩
theorem d_X0_pullCloth_116 : g_dc cX0_pullCloth 116 (.getfield 62) 3 119 := ⟨by decide +kernel, rfl⟩
theorem d_X0_pullCloth_119 : g_dc cX0_pullCloth 119 (.iadd) 1 120 := ⟨by decide +kernel, rfl⟩
theorem d_X0_pullCloth_120 : g_dc cX0_pullCloth 120 (.putfield 59) 3 123 := ⟨by decide +kernel, rfl⟩
theorem d_X0_pullCloth_123 : g_dc cX0_pullCloth 123 (.aload_n 0) 1 124 := ⟨by decide +kernel, rfl⟩
theorem d_X0_pullCloth_124 : g_dc cX0_pullCloth 124 (.getfield 35) 3 127 := ⟨by decide +kernel, rfl⟩
theorem d_X0_pullCloth_127 : g_dc cX0_pullCloth 127 (.iconst 0) 1 128 := ⟨by decide +kernel, rfl⟩
theorem d_X0_pullCloth_128 : g_dc cX0_pullCloth 128 (.aload_n 0) 1 129 := ⟨by decide +kernel, rfl⟩
theorem d_X0_pullCloth_129 : g_dc cX0_pullCloth 129 (.getfield 35) 3 132 := ⟨by decide +kernel, rfl⟩
theorem d_X0_pullCloth_132 : g_dc cX0_pullCloth 132 (.getfield 156) 3 135 := ⟨by decide +kernel, rfl⟩
theorem d_X0_pullCloth_135 : g_dc cX0_pullCloth 135 (.aload_n 0) 1 136 := ⟨by decide +kernel, rfl⟩
theorem d_X0_pullCloth_136 : g_dc cX0_pullCloth 136 (.getfield 62) 3 139 := ⟨by decide +kernel, rfl⟩
theorem d_X0_pullCloth_139 : g_dc cX0_pullCloth 139 (.isub) 1 140 := ⟨by decide +kernel, rfl⟩
theorem d_X0_pullCloth_140 : g_dc cX0_pullCloth 140 (.invokestatic 152) 3 143 := ⟨by decide +kernel, rfl⟩
theorem d_X0_pullCloth_143 : g_dc cX0_pullCloth 143 (.putfield 156) 3 146 := ⟨by decide +kernel, rfl⟩
theorem d_X0_pullCloth_146 : g_dc cX0_pullCloth 146 (.return_) 1 147 := ⟨by decide +kernel, rfl⟩
set_option maxHeartbeats 4000000 in
set_option maxRecDepth 100000 in
theorem c_X0_pullCloth (l : Launch) (X : gX) (ad : Nat → Nat) (F : Nat → Int32) (R : Nat → Nat → Int32) (t : Int32) (h0 : ¬ t < 0) (h672 : F 672 = 0) (h674 : F 674 = 0) : g_Cv l X yX0_pullCloth cX0_pullCloth 5 2 0 0 [.ref (ad 37), .int t] (wX X ad F R) (fun w => ∃ (F' : Nat → Int32) (R' : Nat → Nat → Int32), w = wX X ad F' R' ∧ P_pc F F' R R') := by
  refine g_mv (by decide +kernel) (Nat.le_of_ble_eq_true rfl) (fun E cx hret => ?_)
  refine g_aload_n cx 0 rfl d_X0_pullCloth_0 ?_
  refine g_get cx cl_X0 fl_X0_21 37 (.ref (ad 15)) d_X0_pullCloth_1 rfl rfl ?_
  refine g_iload_n cx 1 rfl d_X0_pullCloth_4 ?_
  refine g_cVi cx [.int t] [] (c_X5_paceAt l X (ad 15) (ad 16) (F 241) (R 16) t) ml_X0_135 yV_X5_paceAt d_X0_pullCloth_5 (by unfold g_rr; decide) (by decide) 0 rfl rfl [15, 16] rfl (by decide) rfl (Nat.le_of_ble_eq_true rfl) (by rintro _ _ ⟨rfl, _⟩; rfl) (fun r1 w2 h3 => ?_)
  obtain ⟨rfl, rfl⟩ := h3
  refine g_weq (wX X ad F R) (g_rep_same rfl) ?_
  refine g_istore_n cx [(2, .int (g_pa (R 16) (F 241) t)), (0, .ref (ad 37)), (1, .int t)] d_X0_pullCloth_8 (by decide) rfl ?_
  refine g_iload_n cx 2 rfl d_X0_pullCloth_9 ?_
  refine g_aload_n cx 1 rfl d_X0_pullCloth_10 ?_
  refine g_get cx cl_X0 fl_X0_21 37 (.ref (ad 15)) d_X0_pullCloth_11 rfl rfl ?_
  refine g_getN cx cl_X5 fn_X0_78 15 (.int (F 241)) d_X0_pullCloth_14 rfl rfl ?_
  refine g_icmp_ge cx 31 d_X0_pullCloth_17 (by decide) (fun zc17 => ?_) (fun zc17 => ?_)
  · refine g_iconst cx (-1) (by decide) d_X0_pullCloth_31 ?_
    refine g_istore_n cx [(3, .int (-1)), (2, .int (g_pa (R 16) (F 241) t)), (0, .ref (ad 37)), (1, .int t)] d_X0_pullCloth_32 (by decide) rfl ?_
    refine g_iconst cx 0 (by decide) d_X0_pullCloth_33 ?_
    refine g_istore cx [(4, .int 0), (3, .int (-1)), (2, .int (g_pa (R 16) (F 241) t)), (0, .ref (ad 37)), (1, .int t)] d_X0_pullCloth_34 (by decide) rfl ?_
    refine g_aload_n cx 3 rfl d_X0_pullCloth_36 ?_
    refine g_get cx cl_X0 fl_X0_71 37 (.ref (ad 17)) d_X0_pullCloth_37 rfl rfl ?_
    refine g_cVv cx [] [] (c_X2_forget l X (ad 17) (ad 18) (ad 19) (ad 20) (ad 21) (ad 22) (ad 23) (ad 24) (F 274) (F 278) (R 23)) ml_X0_141 yV_X2_forget d_X0_pullCloth_40 (by unfold g_rr; decide) (by decide) 0 rfl rfl [17, 23] rfl (by decide) rfl (Nat.le_of_ble_eq_true rfl) (by rintro _ ⟨_, rfl, _⟩; rfl) (fun w5 h6 => ?_)
    obtain ⟨g7, rfl, -⟩ := h6
    refine g_weq (wX X ad F (g_u R 23 g7)) rfl ?_
    refine g_aload_n cx 3 rfl d_X0_pullCloth_43 ?_
    refine g_get cx cl_X0 fl_X0_71 37 (.ref (ad 17)) d_X0_pullCloth_44 rfl rfl ?_
    refine g_getN cx cl_X2 fn_X0_146 17 (.ref (ad 23)) d_X0_pullCloth_47 rfl rfl ?_
    refine g_iconst cx 0 (by decide) d_X0_pullCloth_50 ?_
    refine g_iload_n cx 4 rfl d_X0_pullCloth_51 ?_
    refine g_iast cx 23 (wX X ad F (g_u R 23 (upd g7 0 t))) d_X0_pullCloth_52 rfl (by unfold vp_in; decide) rfl ?_
    refine g_aload_n cx 3 rfl d_X0_pullCloth_53 ?_
    refine g_get cx cl_X0 fl_X0_71 37 (.ref (ad 17)) d_X0_pullCloth_54 rfl rfl ?_
    refine g_getN cx cl_X2 fn_X0_146 17 (.ref (ad 23)) d_X0_pullCloth_57 rfl rfl ?_
    refine g_iconst cx 1 (by decide) d_X0_pullCloth_60 ?_
    refine g_iload_n cx 2 rfl d_X0_pullCloth_61 ?_
    refine g_iast cx 23 (wX X ad F (g_u R 23 (upd (upd g7 0 t) 1 (g_pa (R 16) (F 241) t)))) d_X0_pullCloth_62 rfl (by unfold vp_in; decide) rfl ?_
    refine g_iload_n cx 1 rfl d_X0_pullCloth_63 ?_
    refine g_iconst cx (-1) (by decide) d_X0_pullCloth_64 ?_
    refine g_icmp_eq_t cx 98 d_X0_pullCloth_65 (by decide) (by decide) ?_
    refine g_aload_n cx 3 rfl d_X0_pullCloth_98 ?_
    refine g_iconst cx 0 (by decide) d_X0_pullCloth_99 ?_
    refine g_iload_n cx 2 rfl d_X0_pullCloth_100 ?_
    refine g_iload cx 0 rfl d_X0_pullCloth_101 ?_
    refine g_isub cx d_X0_pullCloth_103 ?_
    refine g_toi (g_pa (R 16) (F 241) t) (by simp) ?_
    refine g_mmax cx ml_X0_152 d_X0_pullCloth_104 ⟨Nat.le_of_ble_eq_true rfl, Nat.le_of_ble_eq_true rfl⟩ (by decide) ?_
    refine g_topi (fun x8 ex8 => ?_)
    refine g_put cx cl_X0 fl_X0_62 37 (wX X ad (upd F 604 x8) (g_u R 23 (upd (upd g7 0 t) 1 (g_pa (R 16) (F 241) t)))) d_X0_pullCloth_107 rfl rfl rfl rfl (Nat.le_of_ble_eq_true rfl) rfl ?_
    refine g_aload_n cx 3 rfl d_X0_pullCloth_110 ?_
    refine g_dup cx rfl d_X0_pullCloth_111 ?_
    refine g_get cx cl_X0 fl_X0_59 37 (.int (F 603)) d_X0_pullCloth_112 rfl rfl ?_
    refine g_aload_n cx 3 rfl d_X0_pullCloth_115 ?_
    refine g_get cx cl_X0 fl_X0_62 37 (.int x8) d_X0_pullCloth_116 rfl rfl ?_
    refine g_iadd cx d_X0_pullCloth_119 ?_
    refine g_put cx cl_X0 fl_X0_59 37 (wX X ad (upd (upd F 603 ((F 603) + x8)) 604 x8) (g_u R 23 (upd (upd g7 0 t) 1 (g_pa (R 16) (F 241) t)))) d_X0_pullCloth_120 rfl rfl rfl rfl (Nat.le_of_ble_eq_true rfl) rfl ?_
    refine g_aload_n cx 3 rfl d_X0_pullCloth_123 ?_
    refine g_get cx cl_X0 fl_X0_35 37 (.ref (ad 43)) d_X0_pullCloth_124 rfl rfl ?_
    refine g_iconst cx 0 (by decide) d_X0_pullCloth_127 ?_
    refine g_aload_n cx 3 rfl d_X0_pullCloth_128 ?_
    refine g_get cx cl_X0 fl_X0_35 37 (.ref (ad 43)) d_X0_pullCloth_129 rfl rfl ?_
    refine g_getN cx cl_X4 fn_X0_156 43 (.int (F 698)) d_X0_pullCloth_132 rfl rfl ?_
    refine g_aload_n cx 3 rfl d_X0_pullCloth_135 ?_
    refine g_get cx cl_X0 fl_X0_62 37 (.int x8) d_X0_pullCloth_136 rfl rfl ?_
    refine g_isub cx d_X0_pullCloth_139 ?_
    refine g_mmax cx ml_X0_152 d_X0_pullCloth_140 ⟨Nat.le_of_ble_eq_true rfl, Nat.le_of_ble_eq_true rfl⟩ (by decide) ?_
    refine g_topi (fun x9 ex9 => ?_)
    refine g_putN cx cl_X4 fn_X0_156 43 (wX X ad (upd (upd (upd F 603 ((F 603) + x8)) 604 x8) 698 x9) (g_u R 23 (upd (upd g7 0 t) 1 (g_pa (R 16) (F 241) t)))) d_X0_pullCloth_143 rfl rfl rfl rfl (Nat.le_of_ble_eq_true rfl) rfl ?_
    exact hret d_X0_pullCloth_146 (Nat.le_of_ble_eq_true rfl) (Nat.le_of_ble_eq_true rfl) ⟨(upd (upd (upd F 603 ((F 603) + x8)) 604 x8) 698 x9), (g_u R 23 (upd (upd g7 0 t) 1 (g_pa (R 16) (F 241) t))), rfl, ⟨(by intro k hk; simp only [upd]; repeat rw [if_neg (by omega)]), (by intro c hc; simp only [g_u]; repeat rw [if_neg (by omega)])⟩⟩
  · refine g_aload_n cx 1 rfl d_X0_pullCloth_20 ?_
    refine g_get cx cl_X0 fl_X0_28 37 (.ref (ad 42)) d_X0_pullCloth_21 rfl rfl ?_
    refine g_iload_n cx 2 rfl d_X0_pullCloth_24 ?_
    refine g_cVi cx [.int t] [] (c0_X1_draw l X (ad 42) (F 672) (F 673) (F 674) (F 675) t h672 h674 h0) ml_X0_138 yV_X1_draw d_X0_pullCloth_25 (by unfold g_rr; decide) (by decide) 0 rfl rfl [42] rfl (by decide) rfl (Nat.le_of_ble_eq_true rfl) (by rintro _ _ ⟨rfl, _⟩; rfl) (fun r10 w11 h12 => ?_)
    obtain ⟨rfl, rfl⟩ := h12
    refine g_weq (wX X ad F R) (g_rep_same rfl) ?_
    refine g_toi (-1) (rfl) ?_
    refine g_goto cx 32 d_X0_pullCloth_28 (by decide) ?_
    refine g_istore_n cx [(3, .int (-1)), (2, .int (g_pa (R 16) (F 241) t)), (0, .ref (ad 37)), (1, .int t)] d_X0_pullCloth_32 (by decide) rfl ?_
    refine g_iconst cx 0 (by decide) d_X0_pullCloth_33 ?_
    refine g_istore cx [(4, .int 0), (3, .int (-1)), (2, .int (g_pa (R 16) (F 241) t)), (0, .ref (ad 37)), (1, .int t)] d_X0_pullCloth_34 (by decide) rfl ?_
    refine g_aload_n cx 3 rfl d_X0_pullCloth_36 ?_
    refine g_get cx cl_X0 fl_X0_71 37 (.ref (ad 17)) d_X0_pullCloth_37 rfl rfl ?_
    refine g_cVv cx [] [] (c_X2_forget l X (ad 17) (ad 18) (ad 19) (ad 20) (ad 21) (ad 22) (ad 23) (ad 24) (F 274) (F 278) (R 23)) ml_X0_141 yV_X2_forget d_X0_pullCloth_40 (by unfold g_rr; decide) (by decide) 0 rfl rfl [17, 23] rfl (by decide) rfl (Nat.le_of_ble_eq_true rfl) (by rintro _ ⟨_, rfl, _⟩; rfl) (fun w14 h15 => ?_)
    obtain ⟨g16, rfl, -⟩ := h15
    refine g_weq (wX X ad F (g_u R 23 g16)) rfl ?_
    refine g_aload_n cx 3 rfl d_X0_pullCloth_43 ?_
    refine g_get cx cl_X0 fl_X0_71 37 (.ref (ad 17)) d_X0_pullCloth_44 rfl rfl ?_
    refine g_getN cx cl_X2 fn_X0_146 17 (.ref (ad 23)) d_X0_pullCloth_47 rfl rfl ?_
    refine g_iconst cx 0 (by decide) d_X0_pullCloth_50 ?_
    refine g_iload_n cx 4 rfl d_X0_pullCloth_51 ?_
    refine g_iast cx 23 (wX X ad F (g_u R 23 (upd g16 0 t))) d_X0_pullCloth_52 rfl (by unfold vp_in; decide) rfl ?_
    refine g_aload_n cx 3 rfl d_X0_pullCloth_53 ?_
    refine g_get cx cl_X0 fl_X0_71 37 (.ref (ad 17)) d_X0_pullCloth_54 rfl rfl ?_
    refine g_getN cx cl_X2 fn_X0_146 17 (.ref (ad 23)) d_X0_pullCloth_57 rfl rfl ?_
    refine g_iconst cx 1 (by decide) d_X0_pullCloth_60 ?_
    refine g_iload_n cx 2 rfl d_X0_pullCloth_61 ?_
    refine g_iast cx 23 (wX X ad F (g_u R 23 (upd (upd g16 0 t) 1 (g_pa (R 16) (F 241) t)))) d_X0_pullCloth_62 rfl (by unfold vp_in; decide) rfl ?_
    refine g_iload_n cx 1 rfl d_X0_pullCloth_63 ?_
    refine g_iconst cx (-1) (by decide) d_X0_pullCloth_64 ?_
    refine g_icmp_eq_t cx 98 d_X0_pullCloth_65 (by decide) (by decide) ?_
    refine g_aload_n cx 3 rfl d_X0_pullCloth_98 ?_
    refine g_iconst cx 0 (by decide) d_X0_pullCloth_99 ?_
    refine g_iload_n cx 2 rfl d_X0_pullCloth_100 ?_
    refine g_iload cx 0 rfl d_X0_pullCloth_101 ?_
    refine g_isub cx d_X0_pullCloth_103 ?_
    refine g_toi (g_pa (R 16) (F 241) t) (by simp) ?_
    refine g_mmax cx ml_X0_152 d_X0_pullCloth_104 ⟨Nat.le_of_ble_eq_true rfl, Nat.le_of_ble_eq_true rfl⟩ (by decide) ?_
    refine g_topi (fun x17 ex17 => ?_)
    refine g_put cx cl_X0 fl_X0_62 37 (wX X ad (upd F 604 x17) (g_u R 23 (upd (upd g16 0 t) 1 (g_pa (R 16) (F 241) t)))) d_X0_pullCloth_107 rfl rfl rfl rfl (Nat.le_of_ble_eq_true rfl) rfl ?_
    refine g_aload_n cx 3 rfl d_X0_pullCloth_110 ?_
    refine g_dup cx rfl d_X0_pullCloth_111 ?_
    refine g_get cx cl_X0 fl_X0_59 37 (.int (F 603)) d_X0_pullCloth_112 rfl rfl ?_
    refine g_aload_n cx 3 rfl d_X0_pullCloth_115 ?_
    refine g_get cx cl_X0 fl_X0_62 37 (.int x17) d_X0_pullCloth_116 rfl rfl ?_
    refine g_iadd cx d_X0_pullCloth_119 ?_
    refine g_put cx cl_X0 fl_X0_59 37 (wX X ad (upd (upd F 603 ((F 603) + x17)) 604 x17) (g_u R 23 (upd (upd g16 0 t) 1 (g_pa (R 16) (F 241) t)))) d_X0_pullCloth_120 rfl rfl rfl rfl (Nat.le_of_ble_eq_true rfl) rfl ?_
    refine g_aload_n cx 3 rfl d_X0_pullCloth_123 ?_
    refine g_get cx cl_X0 fl_X0_35 37 (.ref (ad 43)) d_X0_pullCloth_124 rfl rfl ?_
    refine g_iconst cx 0 (by decide) d_X0_pullCloth_127 ?_
    refine g_aload_n cx 3 rfl d_X0_pullCloth_128 ?_
    refine g_get cx cl_X0 fl_X0_35 37 (.ref (ad 43)) d_X0_pullCloth_129 rfl rfl ?_
    refine g_getN cx cl_X4 fn_X0_156 43 (.int (F 698)) d_X0_pullCloth_132 rfl rfl ?_
    refine g_aload_n cx 3 rfl d_X0_pullCloth_135 ?_
    refine g_get cx cl_X0 fl_X0_62 37 (.int x17) d_X0_pullCloth_136 rfl rfl ?_
    refine g_isub cx d_X0_pullCloth_139 ?_
    refine g_mmax cx ml_X0_152 d_X0_pullCloth_140 ⟨Nat.le_of_ble_eq_true rfl, Nat.le_of_ble_eq_true rfl⟩ (by decide) ?_
    refine g_topi (fun x18 ex18 => ?_)
    refine g_putN cx cl_X4 fn_X0_156 43 (wX X ad (upd (upd (upd F 603 ((F 603) + x17)) 604 x17) 698 x18) (g_u R 23 (upd (upd g16 0 t) 1 (g_pa (R 16) (F 241) t)))) d_X0_pullCloth_143 rfl rfl rfl rfl (Nat.le_of_ble_eq_true rfl) rfl ?_
    exact hret d_X0_pullCloth_146 (Nat.le_of_ble_eq_true rfl) (Nat.le_of_ble_eq_true rfl) ⟨(upd (upd (upd F 603 ((F 603) + x17)) 604 x17) 698 x18), (g_u R 23 (upd (upd g16 0 t) 1 (g_pa (R 16) (F 241) t))), rfl, ⟨(by intro k hk; simp only [upd]; repeat rw [if_neg (by omega)]), (by intro c hc; simp only [g_u]; repeat rw [if_neg (by omega)])⟩⟩
theorem d_X0_lineUp_0 : g_dc cX0_lineUp 0 (.aload_n 0) 1 1 := ⟨by decide +kernel, rfl⟩
theorem d_X0_lineUp_1 : g_dc cX0_lineUp 1 (.iconst 0) 1 2 := ⟨by decide +kernel, rfl⟩
theorem d_X0_lineUp_2 : g_dc cX0_lineUp 2 (.putfield 56) 3 5 := ⟨by decide +kernel, rfl⟩
theorem d_X0_lineUp_5 : g_dc cX0_lineUp 5 (.aload_n 0) 1 6 := ⟨by decide +kernel, rfl⟩
theorem d_X0_lineUp_6 : g_dc cX0_lineUp 6 (.getfield 35) 3 9 := ⟨by decide +kernel, rfl⟩
theorem d_X0_lineUp_9 : g_dc cX0_lineUp 9 (.invokevirtual 101) 3 12 := ⟨by decide +kernel, rfl⟩
theorem d_X0_lineUp_12 : g_dc cX0_lineUp 12 (.istore_n 1) 1 13 := ⟨by decide +kernel, rfl⟩
theorem d_X0_lineUp_13 : g_dc cX0_lineUp 13 (.iconst 0) 1 14 := ⟨by decide +kernel, rfl⟩
theorem d_X0_lineUp_14 : g_dc cX0_lineUp 14 (.istore_n 2) 1 15 := ⟨by decide +kernel, rfl⟩
theorem d_X0_lineUp_15 : g_dc cX0_lineUp 15 (.iload_n 2) 1 16 := ⟨by decide +kernel, rfl⟩
theorem d_X0_lineUp_16 : g_dc cX0_lineUp 16 (.bipush 10) 2 18 := ⟨by decide +kernel, rfl⟩
theorem d_X0_lineUp_18 : g_dc cX0_lineUp 18 (.if_icmp .ge 106) 3 21 := ⟨by decide +kernel, rfl⟩
theorem d_X0_lineUp_21 : g_dc cX0_lineUp 21 (.iload_n 1) 1 22 := ⟨by decide +kernel, rfl⟩
theorem d_X0_lineUp_22 : g_dc cX0_lineUp 22 (.iconst 1) 1 23 := ⟨by decide +kernel, rfl⟩
theorem d_X0_lineUp_23 : g_dc cX0_lineUp 23 (.iload_n 2) 1 24 := ⟨by decide +kernel, rfl⟩
theorem d_X0_lineUp_24 : g_dc cX0_lineUp 24 (.ishl) 1 25 := ⟨by decide +kernel, rfl⟩
theorem d_X0_lineUp_25 : g_dc cX0_lineUp 25 (.iand) 1 26 := ⟨by decide +kernel, rfl⟩
theorem d_X0_lineUp_26 : g_dc cX0_lineUp 26 (.ifCond .eq 92) 3 29 := ⟨by decide +kernel, rfl⟩
theorem d_X0_lineUp_118 : g_dc cX0_lineUp 118 (.iinc 2 1) 3 121 := ⟨by decide +kernel, rfl⟩
theorem d_X0_lineUp_121 : g_dc cX0_lineUp 121 (.goto (-106)) 3 124 := ⟨by decide +kernel, rfl⟩
theorem d_X0_lineUp_124 : g_dc cX0_lineUp 124 (.return_) 1 125 := ⟨by decide +kernel, rfl⟩
set_option maxHeartbeats 4000000 in
set_option maxRecDepth 100000 in
theorem c_X0_lineUp (l : Launch) (X : gX) (ad : Nat → Nat) (F : Nat → Int32) (R : Nat → Nat → Int32) (h691 : F 691 = 0) : g_Cv l X yX0_lineUp cX0_lineUp 4 2 0 0 [.ref (ad 37)] (wX X ad F R) (fun w => w = wX X ad (upd F 602 0) R ∧ True) := by
  refine g_mv (by decide +kernel) (Nat.le_of_ble_eq_true rfl) (fun E cx hret => ?_)
  refine g_aload_n cx 0 rfl d_X0_lineUp_0 ?_
  refine g_iconst cx 0 (by decide) d_X0_lineUp_1 ?_
  refine g_put cx cl_X0 fl_X0_56 37 (wX X ad (upd F 602 0) R) d_X0_lineUp_2 rfl rfl rfl rfl (Nat.le_of_ble_eq_true rfl) rfl ?_
  refine g_aload_n cx 0 rfl d_X0_lineUp_5 ?_
  refine g_get cx cl_X0 fl_X0_35 37 (.ref (ad 43)) d_X0_lineUp_6 rfl rfl ?_
  refine g_cViW cx [] [] (c_X4_standingSet l X ad (upd F 602 0) R  ) ml_X0_101 yV_X4_standingSet d_X0_lineUp_9 (by unfold g_rr; decide) (by decide) 43 rfl rfl rfl (Nat.le_of_ble_eq_true rfl) (fun r1 w2 h3 => ?_)
  obtain ⟨rfl, rfl⟩ := h3
  refine g_toi 0 (g_ss0 (h691)) ?_
  refine g_istore_n cx [(1, .int 0), (0, .ref (ad 37))] d_X0_lineUp_12 (by decide) rfl ?_
  refine g_iconst cx 0 (by decide) d_X0_lineUp_13 ?_
  refine g_istore_n cx [(2, .int 0), (1, .int 0), (0, .ref (ad 37))] d_X0_lineUp_14 (by decide) rfl ?_
  refine g_iload_n cx 0 rfl d_X0_lineUp_15 ?_
  refine g_bipush cx 10 (by decide) d_X0_lineUp_16 ?_
  refine g_icmp_ge_f cx 124 d_X0_lineUp_18 (by decide) (by decide) ?_
  refine g_iload_n cx 1 rfl d_X0_lineUp_21 ?_
  refine g_iconst cx 1 (by decide) d_X0_lineUp_22 ?_
  refine g_iload_n cx 0 rfl d_X0_lineUp_23 ?_
  refine g_ishl cx d_X0_lineUp_24 ?_
  refine g_toi 1 (by decide) ?_
  refine g_iand cx d_X0_lineUp_25 ?_
  refine g_toi 0 (by decide) ?_
  refine g_if_eq_t cx 118 d_X0_lineUp_26 (by decide) (by decide) ?_
  refine g_iinc cx 1 [(2, .int 1), (1, .int 0), (0, .ref (ad 37))] 0 d_X0_lineUp_118 rfl (by decide) (by decide) rfl ?_
  refine g_goto cx 15 d_X0_lineUp_121 (by decide) ?_
  refine g_iload_n cx 0 rfl d_X0_lineUp_15 ?_
  refine g_bipush cx 10 (by decide) d_X0_lineUp_16 ?_
  refine g_icmp_ge_f cx 124 d_X0_lineUp_18 (by decide) (by decide) ?_
  refine g_iload_n cx 1 rfl d_X0_lineUp_21 ?_
  refine g_iconst cx 1 (by decide) d_X0_lineUp_22 ?_
  refine g_iload_n cx 0 rfl d_X0_lineUp_23 ?_
  refine g_ishl cx d_X0_lineUp_24 ?_
  refine g_toi 2 (by decide) ?_
  refine g_iand cx d_X0_lineUp_25 ?_
  refine g_toi 0 (by decide) ?_
  refine g_if_eq_t cx 118 d_X0_lineUp_26 (by decide) (by decide) ?_
  refine g_iinc cx 2 [(2, .int 2), (1, .int 0), (0, .ref (ad 37))] 0 d_X0_lineUp_118 rfl (by decide) (by decide) rfl ?_
  refine g_goto cx 15 d_X0_lineUp_121 (by decide) ?_
  refine g_iload_n cx 0 rfl d_X0_lineUp_15 ?_
  refine g_bipush cx 10 (by decide) d_X0_lineUp_16 ?_
  refine g_icmp_ge_f cx 124 d_X0_lineUp_18 (by decide) (by decide) ?_
  refine g_iload_n cx 1 rfl d_X0_lineUp_21 ?_
  refine g_iconst cx 1 (by decide) d_X0_lineUp_22 ?_
  refine g_iload_n cx 0 rfl d_X0_lineUp_23 ?_
  refine g_ishl cx d_X0_lineUp_24 ?_
  refine g_toi 4 (by decide) ?_
  refine g_iand cx d_X0_lineUp_25 ?_
  refine g_toi 0 (by decide) ?_
  refine g_if_eq_t cx 118 d_X0_lineUp_26 (by decide) (by decide) ?_
  refine g_iinc cx 3 [(2, .int 3), (1, .int 0), (0, .ref (ad 37))] 0 d_X0_lineUp_118 rfl (by decide) (by decide) rfl ?_
  refine g_goto cx 15 d_X0_lineUp_121 (by decide) ?_
  refine g_iload_n cx 0 rfl d_X0_lineUp_15 ?_
  refine g_bipush cx 10 (by decide) d_X0_lineUp_16 ?_
  refine g_icmp_ge_f cx 124 d_X0_lineUp_18 (by decide) (by decide) ?_
  refine g_iload_n cx 1 rfl d_X0_lineUp_21 ?_
  refine g_iconst cx 1 (by decide) d_X0_lineUp_22 ?_
  refine g_iload_n cx 0 rfl d_X0_lineUp_23 ?_
  refine g_ishl cx d_X0_lineUp_24 ?_
  refine g_toi 8 (by decide) ?_
  refine g_iand cx d_X0_lineUp_25 ?_
  refine g_toi 0 (by decide) ?_
  refine g_if_eq_t cx 118 d_X0_lineUp_26 (by decide) (by decide) ?_
  refine g_iinc cx 4 [(2, .int 4), (1, .int 0), (0, .ref (ad 37))] 0 d_X0_lineUp_118 rfl (by decide) (by decide) rfl ?_
  refine g_goto cx 15 d_X0_lineUp_121 (by decide) ?_
  refine g_iload_n cx 0 rfl d_X0_lineUp_15 ?_
  refine g_bipush cx 10 (by decide) d_X0_lineUp_16 ?_
  refine g_icmp_ge_f cx 124 d_X0_lineUp_18 (by decide) (by decide) ?_
  refine g_iload_n cx 1 rfl d_X0_lineUp_21 ?_
  refine g_iconst cx 1 (by decide) d_X0_lineUp_22 ?_
  refine g_iload_n cx 0 rfl d_X0_lineUp_23 ?_
  refine g_ishl cx d_X0_lineUp_24 ?_
  refine g_toi 16 (by decide) ?_
  refine g_iand cx d_X0_lineUp_25 ?_
  refine g_toi 0 (by decide) ?_
  refine g_if_eq_t cx 118 d_X0_lineUp_26 (by decide) (by decide) ?_
  refine g_iinc cx 5 [(2, .int 5), (1, .int 0), (0, .ref (ad 37))] 0 d_X0_lineUp_118 rfl (by decide) (by decide) rfl ?_
  refine g_goto cx 15 d_X0_lineUp_121 (by decide) ?_
  refine g_iload_n cx 0 rfl d_X0_lineUp_15 ?_
  refine g_bipush cx 10 (by decide) d_X0_lineUp_16 ?_
  refine g_icmp_ge_f cx 124 d_X0_lineUp_18 (by decide) (by decide) ?_
  refine g_iload_n cx 1 rfl d_X0_lineUp_21 ?_
  refine g_iconst cx 1 (by decide) d_X0_lineUp_22 ?_
  refine g_iload_n cx 0 rfl d_X0_lineUp_23 ?_
  refine g_ishl cx d_X0_lineUp_24 ?_
  refine g_toi 32 (by decide) ?_
  refine g_iand cx d_X0_lineUp_25 ?_
  refine g_toi 0 (by decide) ?_
  refine g_if_eq_t cx 118 d_X0_lineUp_26 (by decide) (by decide) ?_
  refine g_iinc cx 6 [(2, .int 6), (1, .int 0), (0, .ref (ad 37))] 0 d_X0_lineUp_118 rfl (by decide) (by decide) rfl ?_
  refine g_goto cx 15 d_X0_lineUp_121 (by decide) ?_
  refine g_iload_n cx 0 rfl d_X0_lineUp_15 ?_
  refine g_bipush cx 10 (by decide) d_X0_lineUp_16 ?_
  refine g_icmp_ge_f cx 124 d_X0_lineUp_18 (by decide) (by decide) ?_
  refine g_iload_n cx 1 rfl d_X0_lineUp_21 ?_
  refine g_iconst cx 1 (by decide) d_X0_lineUp_22 ?_
  refine g_iload_n cx 0 rfl d_X0_lineUp_23 ?_
  refine g_ishl cx d_X0_lineUp_24 ?_
  refine g_toi 64 (by decide) ?_
  refine g_iand cx d_X0_lineUp_25 ?_
  refine g_toi 0 (by decide) ?_
  refine g_if_eq_t cx 118 d_X0_lineUp_26 (by decide) (by decide) ?_
  refine g_iinc cx 7 [(2, .int 7), (1, .int 0), (0, .ref (ad 37))] 0 d_X0_lineUp_118 rfl (by decide) (by decide) rfl ?_
  refine g_goto cx 15 d_X0_lineUp_121 (by decide) ?_
  refine g_iload_n cx 0 rfl d_X0_lineUp_15 ?_
  refine g_bipush cx 10 (by decide) d_X0_lineUp_16 ?_
  refine g_icmp_ge_f cx 124 d_X0_lineUp_18 (by decide) (by decide) ?_
  refine g_iload_n cx 1 rfl d_X0_lineUp_21 ?_
  refine g_iconst cx 1 (by decide) d_X0_lineUp_22 ?_
  refine g_iload_n cx 0 rfl d_X0_lineUp_23 ?_
  refine g_ishl cx d_X0_lineUp_24 ?_
  refine g_toi 128 (by decide) ?_
  refine g_iand cx d_X0_lineUp_25 ?_
  refine g_toi 0 (by decide) ?_
  refine g_if_eq_t cx 118 d_X0_lineUp_26 (by decide) (by decide) ?_
  refine g_iinc cx 8 [(2, .int 8), (1, .int 0), (0, .ref (ad 37))] 0 d_X0_lineUp_118 rfl (by decide) (by decide) rfl ?_
  refine g_goto cx 15 d_X0_lineUp_121 (by decide) ?_
  refine g_iload_n cx 0 rfl d_X0_lineUp_15 ?_
  refine g_bipush cx 10 (by decide) d_X0_lineUp_16 ?_
  refine g_icmp_ge_f cx 124 d_X0_lineUp_18 (by decide) (by decide) ?_
  refine g_iload_n cx 1 rfl d_X0_lineUp_21 ?_
  refine g_iconst cx 1 (by decide) d_X0_lineUp_22 ?_
  refine g_iload_n cx 0 rfl d_X0_lineUp_23 ?_
  refine g_ishl cx d_X0_lineUp_24 ?_
  refine g_toi 256 (by decide) ?_
  refine g_iand cx d_X0_lineUp_25 ?_
  refine g_toi 0 (by decide) ?_
  refine g_if_eq_t cx 118 d_X0_lineUp_26 (by decide) (by decide) ?_
  refine g_iinc cx 9 [(2, .int 9), (1, .int 0), (0, .ref (ad 37))] 0 d_X0_lineUp_118 rfl (by decide) (by decide) rfl ?_
  refine g_goto cx 15 d_X0_lineUp_121 (by decide) ?_
  refine g_iload_n cx 0 rfl d_X0_lineUp_15 ?_
  refine g_bipush cx 10 (by decide) d_X0_lineUp_16 ?_
  refine g_icmp_ge_f cx 124 d_X0_lineUp_18 (by decide) (by decide) ?_
  refine g_iload_n cx 1 rfl d_X0_lineUp_21 ?_
  refine g_iconst cx 1 (by decide) d_X0_lineUp_22 ?_
  refine g_iload_n cx 0 rfl d_X0_lineUp_23 ?_
  refine g_ishl cx d_X0_lineUp_24 ?_
  refine g_toi 512 (by decide) ?_
  refine g_iand cx d_X0_lineUp_25 ?_
  refine g_toi 0 (by decide) ?_
  refine g_if_eq_t cx 118 d_X0_lineUp_26 (by decide) (by decide) ?_
  refine g_iinc cx 10 [(2, .int 10), (1, .int 0), (0, .ref (ad 37))] 0 d_X0_lineUp_118 rfl (by decide) (by decide) rfl ?_
  refine g_goto cx 15 d_X0_lineUp_121 (by decide) ?_
  refine g_iload_n cx 0 rfl d_X0_lineUp_15 ?_
  refine g_bipush cx 10 (by decide) d_X0_lineUp_16 ?_
  refine g_icmp_ge_t cx 124 d_X0_lineUp_18 (by decide) (by decide) ?_
  exact hret d_X0_lineUp_124 (Nat.le_of_ble_eq_true rfl) (Nat.le_of_ble_eq_true rfl) (⟨rfl, trivial⟩)
theorem d_X0_tick_0 : g_dc cX0_tick 0 (.aload_n 0) 1 1 := ⟨by decide +kernel, rfl⟩
theorem d_X0_tick_1 : g_dc cX0_tick 1 (.iload_n 1) 1 2 := ⟨by decide +kernel, rfl⟩
theorem d_X0_tick_2 : g_dc cX0_tick 2 (.invokevirtual 105) 3 5 := ⟨by decide +kernel, rfl⟩
theorem d_X0_tick_5 : g_dc cX0_tick 5 (.aload_n 0) 1 6 := ⟨by decide +kernel, rfl⟩
theorem d_X0_tick_6 : g_dc cX0_tick 6 (.iconst 0) 1 7 := ⟨by decide +kernel, rfl⟩
theorem d_X0_tick_7 : g_dc cX0_tick 7 (.putfield 65) 3 10 := ⟨by decide +kernel, rfl⟩
theorem d_X0_tick_10 : g_dc cX0_tick 10 (.aload_n 0) 1 11 := ⟨by decide +kernel, rfl⟩
theorem d_X0_tick_11 : g_dc cX0_tick 11 (.iconst 0) 1 12 := ⟨by decide +kernel, rfl⟩
theorem d_X0_tick_12 : g_dc cX0_tick 12 (.putfield 68) 3 15 := ⟨by decide +kernel, rfl⟩
theorem d_X0_tick_15 : g_dc cX0_tick 15 (.aload_n 0) 1 16 := ⟨by decide +kernel, rfl⟩
theorem d_X0_tick_16 : g_dc cX0_tick 16 (.getfield 35) 3 19 := ⟨by decide +kernel, rfl⟩
theorem d_X0_tick_19 : g_dc cX0_tick 19 (.invokevirtual 101) 3 22 := ⟨by decide +kernel, rfl⟩
theorem d_X0_tick_22 : g_dc cX0_tick 22 (.istore_n 2) 1 23 := ⟨by decide +kernel, rfl⟩
theorem d_X0_tick_23 : g_dc cX0_tick 23 (.iconst 0) 1 24 := ⟨by decide +kernel, rfl⟩
theorem d_X0_tick_24 : g_dc cX0_tick 24 (.istore_n 3) 1 25 := ⟨by decide +kernel, rfl⟩
theorem d_X0_tick_25 : g_dc cX0_tick 25 (.iload_n 3) 1 26 := ⟨by decide +kernel, rfl⟩
theorem d_X0_tick_26 : g_dc cX0_tick 26 (.bipush 10) 2 28 := ⟨by decide +kernel, rfl⟩
theorem d_X0_tick_28 : g_dc cX0_tick 28 (.if_icmp .ge 47) 3 31 := ⟨by decide +kernel, rfl⟩
theorem d_X0_tick_31 : g_dc cX0_tick 31 (.iload_n 2) 1 32 := ⟨by decide +kernel, rfl⟩
theorem d_X0_tick_32 : g_dc cX0_tick 32 (.iconst 1) 1 33 := ⟨by decide +kernel, rfl⟩
theorem d_X0_tick_33 : g_dc cX0_tick 33 (.iload_n 3) 1 34 := ⟨by decide +kernel, rfl⟩
theorem d_X0_tick_34 : g_dc cX0_tick 34 (.ishl) 1 35 := ⟨by decide +kernel, rfl⟩
theorem d_X0_tick_35 : g_dc cX0_tick 35 (.iand) 1 36 := ⟨by decide +kernel, rfl⟩
theorem d_X0_tick_36 : g_dc cX0_tick 36 (.ifCond .eq 33) 3 39 := ⟨by decide +kernel, rfl⟩
theorem d_X0_tick_69 : g_dc cX0_tick 69 (.iinc 3 1) 3 72 := ⟨by decide +kernel, rfl⟩
theorem d_X0_tick_72 : g_dc cX0_tick 72 (.goto (-47)) 3 75 := ⟨by decide +kernel, rfl⟩
theorem d_X0_tick_75 : g_dc cX0_tick 75 (.aload_n 0) 1 76 := ⟨by decide +kernel, rfl⟩
theorem d_X0_tick_76 : g_dc cX0_tick 76 (.getfield 35) 3 79 := ⟨by decide +kernel, rfl⟩
theorem d_X0_tick_79 : g_dc cX0_tick 79 (.invokevirtual 101) 3 82 := ⟨by decide +kernel, rfl⟩
theorem d_X0_tick_82 : g_dc cX0_tick 82 (.istore_n 2) 1 83 := ⟨by decide +kernel, rfl⟩
theorem d_X0_tick_83 : g_dc cX0_tick 83 (.iconst 0) 1 84 := ⟨by decide +kernel, rfl⟩
theorem d_X0_tick_84 : g_dc cX0_tick 84 (.istore_n 3) 1 85 := ⟨by decide +kernel, rfl⟩
theorem d_X0_tick_85 : g_dc cX0_tick 85 (.iload_n 3) 1 86 := ⟨by decide +kernel, rfl⟩
theorem d_X0_tick_86 : g_dc cX0_tick 86 (.bipush 10) 2 88 := ⟨by decide +kernel, rfl⟩
theorem d_X0_tick_88 : g_dc cX0_tick 88 (.if_icmp .ge 22) 3 91 := ⟨by decide +kernel, rfl⟩
theorem d_X0_tick_91 : g_dc cX0_tick 91 (.iload_n 2) 1 92 := ⟨by decide +kernel, rfl⟩
theorem d_X0_tick_92 : g_dc cX0_tick 92 (.iconst 1) 1 93 := ⟨by decide +kernel, rfl⟩
theorem d_X0_tick_93 : g_dc cX0_tick 93 (.iload_n 3) 1 94 := ⟨by decide +kernel, rfl⟩
theorem d_X0_tick_94 : g_dc cX0_tick 94 (.ishl) 1 95 := ⟨by decide +kernel, rfl⟩
theorem d_X0_tick_95 : g_dc cX0_tick 95 (.iand) 1 96 := ⟨by decide +kernel, rfl⟩
theorem d_X0_tick_96 : g_dc cX0_tick 96 (.ifCond .eq 8) 3 99 := ⟨by decide +kernel, rfl⟩
theorem d_X0_tick_104 : g_dc cX0_tick 104 (.iinc 3 1) 3 107 := ⟨by decide +kernel, rfl⟩
theorem d_X0_tick_107 : g_dc cX0_tick 107 (.goto (-22)) 3 110 := ⟨by decide +kernel, rfl⟩
theorem d_X0_tick_110 : g_dc cX0_tick 110 (.aload_n 0) 1 111 := ⟨by decide +kernel, rfl⟩
theorem d_X0_tick_111 : g_dc cX0_tick 111 (.invokevirtual 123) 3 114 := ⟨by decide +kernel, rfl⟩
theorem d_X0_tick_114 : g_dc cX0_tick 114 (.iconst 0) 1 115 := ⟨by decide +kernel, rfl⟩
theorem d_X0_tick_115 : g_dc cX0_tick 115 (.istore_n 3) 1 116 := ⟨by decide +kernel, rfl⟩
theorem d_X0_tick_116 : g_dc cX0_tick 116 (.iload_n 3) 1 117 := ⟨by decide +kernel, rfl⟩
theorem d_X0_tick_117 : g_dc cX0_tick 117 (.iconst 1) 1 118 := ⟨by decide +kernel, rfl⟩
theorem d_X0_tick_118 : g_dc cX0_tick 118 (.iadd) 1 119 := ⟨by decide +kernel, rfl⟩
theorem d_X0_tick_119 : g_dc cX0_tick 119 (.aload_n 0) 1 120 := ⟨by decide +kernel, rfl⟩
theorem d_X0_tick_120 : g_dc cX0_tick 120 (.getfield 56) 3 123 := ⟨by decide +kernel, rfl⟩
theorem d_X0_tick_123 : g_dc cX0_tick 123 (.if_icmp .ge 35) 3 126 := ⟨by decide +kernel, rfl⟩
theorem d_X0_tick_158 : g_dc cX0_tick 158 (.aload_n 0) 1 159 := ⟨by decide +kernel, rfl⟩
theorem d_X0_tick_159 : g_dc cX0_tick 159 (.getfield 35) 3 162 := ⟨by decide +kernel, rfl⟩
theorem d_X0_tick_162 : g_dc cX0_tick 162 (.invokevirtual 101) 3 165 := ⟨by decide +kernel, rfl⟩
theorem d_X0_tick_165 : g_dc cX0_tick 165 (.istore_n 2) 1 166 := ⟨by decide +kernel, rfl⟩
theorem d_X0_tick_166 : g_dc cX0_tick 166 (.iconst 0) 1 167 := ⟨by decide +kernel, rfl⟩
theorem d_X0_tick_167 : g_dc cX0_tick 167 (.istore_n 3) 1 168 := ⟨by decide +kernel, rfl⟩
theorem d_X0_tick_168 : g_dc cX0_tick 168 (.iload_n 3) 1 169 := ⟨by decide +kernel, rfl⟩
theorem d_X0_tick_169 : g_dc cX0_tick 169 (.bipush 10) 2 171 := ⟨by decide +kernel, rfl⟩
theorem d_X0_tick_171 : g_dc cX0_tick 171 (.if_icmp .ge 22) 3 174 := ⟨by decide +kernel, rfl⟩
theorem d_X0_tick_174 : g_dc cX0_tick 174 (.iload_n 2) 1 175 := ⟨by decide +kernel, rfl⟩
theorem d_X0_tick_175 : g_dc cX0_tick 175 (.iconst 1) 1 176 := ⟨by decide +kernel, rfl⟩
theorem d_X0_tick_176 : g_dc cX0_tick 176 (.iload_n 3) 1 177 := ⟨by decide +kernel, rfl⟩
theorem d_X0_tick_177 : g_dc cX0_tick 177 (.ishl) 1 178 := ⟨by decide +kernel, rfl⟩
theorem d_X0_tick_178 : g_dc cX0_tick 178 (.iand) 1 179 := ⟨by decide +kernel, rfl⟩
theorem d_X0_tick_179 : g_dc cX0_tick 179 (.ifCond .eq 8) 3 182 := ⟨by decide +kernel, rfl⟩
theorem d_X0_tick_187 : g_dc cX0_tick 187 (.iinc 3 1) 3 190 := ⟨by decide +kernel, rfl⟩
theorem d_X0_tick_190 : g_dc cX0_tick 190 (.goto (-22)) 3 193 := ⟨by decide +kernel, rfl⟩
theorem d_X0_tick_193 : g_dc cX0_tick 193 (.aload_n 0) 1 194 := ⟨by decide +kernel, rfl⟩
theorem d_X0_tick_194 : g_dc cX0_tick 194 (.getfield 35) 3 197 := ⟨by decide +kernel, rfl⟩
theorem d_X0_tick_197 : g_dc cX0_tick 197 (.dup) 1 198 := ⟨by decide +kernel, rfl⟩
theorem d_X0_tick_198 : g_dc cX0_tick 198 (.getfield 132) 3 201 := ⟨by decide +kernel, rfl⟩
theorem d_X0_tick_201 : g_dc cX0_tick 201 (.aload_n 0) 1 202 := ⟨by decide +kernel, rfl⟩
theorem d_X0_tick_202 : g_dc cX0_tick 202 (.getfield 68) 3 205 := ⟨by decide +kernel, rfl⟩
theorem d_X0_tick_205 : g_dc cX0_tick 205 (.ior) 1 206 := ⟨by decide +kernel, rfl⟩
theorem d_X0_tick_206 : g_dc cX0_tick 206 (.putfield 132) 3 209 := ⟨by decide +kernel, rfl⟩
theorem d_X0_tick_209 : g_dc cX0_tick 209 (.return_) 1 210 := ⟨by decide +kernel, rfl⟩
set_option maxHeartbeats 4000000 in
set_option maxRecDepth 100000 in
theorem c_X0_tick (l : Launch) (X : gX) (ad : Nat → Nat) (F : Nat → Int32) (R : Nat → Nat → Int32) (t : Int32) (h0 : ¬ t < 0) (h695 : F 695 = 0) (h691 : F 691 = 0) (h672 : F 672 = 0) (h674 : F 674 = 0) : g_Cv l X yX0_tick cX0_tick 5 3 0 0 [.ref (ad 37), .int t] (wX X ad F R) (fun w => ∃ (F' : Nat → Int32) (R' : Nat → Nat → Int32), w = wX X ad F' R' ∧ P_tk F F' R R') := by
  refine g_mv (by decide +kernel) (Nat.le_of_ble_eq_true rfl) (fun E cx hret => ?_)
  refine g_aload_n cx 0 rfl d_X0_tick_0 ?_
  refine g_iload_n cx 1 rfl d_X0_tick_1 ?_
  refine g_cVvW cx [.int t] [] (c_X0_pullCloth l X ad F R t h0 h672 h674) ml_X0_105 yV_X0_pullCloth d_X0_tick_2 (by unfold g_rr; decide) (by decide) 37 rfl rfl rfl (Nat.le_of_ble_eq_true rfl) (fun w2 h3 => ?_)
  obtain ⟨zF4, zR5, rfl, zp6⟩ := h3
  refine g_aload_n cx 0 rfl d_X0_tick_5 ?_
  refine g_iconst cx 0 (by decide) d_X0_tick_6 ?_
  refine g_put cx cl_X0 fl_X0_65 37 (wX X ad (upd zF4 605 0) zR5) d_X0_tick_7 rfl rfl rfl rfl (Nat.le_of_ble_eq_true rfl) rfl ?_
  refine g_aload_n cx 0 rfl d_X0_tick_10 ?_
  refine g_iconst cx 0 (by decide) d_X0_tick_11 ?_
  refine g_put cx cl_X0 fl_X0_68 37 (wX X ad (upd (upd zF4 605 0) 606 0) zR5) d_X0_tick_12 rfl rfl rfl rfl (Nat.le_of_ble_eq_true rfl) rfl ?_
  refine g_aload_n cx 0 rfl d_X0_tick_15 ?_
  refine g_get cx cl_X0 fl_X0_35 37 (.ref (ad 43)) d_X0_tick_16 rfl rfl ?_
  refine g_cViW cx [] [] (c_X4_standingSet l X ad (upd (upd zF4 605 0) 606 0) zR5  ) ml_X0_101 yV_X4_standingSet d_X0_tick_19 (by unfold g_rr; decide) (by decide) 43 rfl rfl rfl (Nat.le_of_ble_eq_true rfl) (fun r7 w8 h9 => ?_)
  obtain ⟨rfl, rfl⟩ := h9
  refine g_toi 0 (g_ss0 ((zp6.1 691 (by decide)).trans (h691))) ?_
  refine g_istore_n cx [(2, .int 0), (0, .ref (ad 37)), (1, .int t)] d_X0_tick_22 (by decide) rfl ?_
  refine g_iconst cx 0 (by decide) d_X0_tick_23 ?_
  refine g_istore_n cx [(3, .int 0), (2, .int 0), (0, .ref (ad 37)), (1, .int t)] d_X0_tick_24 (by decide) rfl ?_
  refine g_iload_n cx 0 rfl d_X0_tick_25 ?_
  refine g_bipush cx 10 (by decide) d_X0_tick_26 ?_
  refine g_icmp_ge_f cx 75 d_X0_tick_28 (by decide) (by decide) ?_
  refine g_iload_n cx 1 rfl d_X0_tick_31 ?_
  refine g_iconst cx 1 (by decide) d_X0_tick_32 ?_
  refine g_iload_n cx 0 rfl d_X0_tick_33 ?_
  refine g_ishl cx d_X0_tick_34 ?_
  refine g_toi 1 (by decide) ?_
  refine g_iand cx d_X0_tick_35 ?_
  refine g_toi 0 (by decide) ?_
  refine g_if_eq_t cx 69 d_X0_tick_36 (by decide) (by decide) ?_
  refine g_iinc cx 1 [(3, .int 1), (2, .int 0), (0, .ref (ad 37)), (1, .int t)] 0 d_X0_tick_69 rfl (by decide) (by decide) rfl ?_
  refine g_goto cx 25 d_X0_tick_72 (by decide) ?_
  refine g_iload_n cx 0 rfl d_X0_tick_25 ?_
  refine g_bipush cx 10 (by decide) d_X0_tick_26 ?_
  refine g_icmp_ge_f cx 75 d_X0_tick_28 (by decide) (by decide) ?_
  refine g_iload_n cx 1 rfl d_X0_tick_31 ?_
  refine g_iconst cx 1 (by decide) d_X0_tick_32 ?_
  refine g_iload_n cx 0 rfl d_X0_tick_33 ?_
  refine g_ishl cx d_X0_tick_34 ?_
  refine g_toi 2 (by decide) ?_
  refine g_iand cx d_X0_tick_35 ?_
  refine g_toi 0 (by decide) ?_
  refine g_if_eq_t cx 69 d_X0_tick_36 (by decide) (by decide) ?_
  refine g_iinc cx 2 [(3, .int 2), (2, .int 0), (0, .ref (ad 37)), (1, .int t)] 0 d_X0_tick_69 rfl (by decide) (by decide) rfl ?_
  refine g_goto cx 25 d_X0_tick_72 (by decide) ?_
  refine g_iload_n cx 0 rfl d_X0_tick_25 ?_
  refine g_bipush cx 10 (by decide) d_X0_tick_26 ?_
  refine g_icmp_ge_f cx 75 d_X0_tick_28 (by decide) (by decide) ?_
  refine g_iload_n cx 1 rfl d_X0_tick_31 ?_
  refine g_iconst cx 1 (by decide) d_X0_tick_32 ?_
  refine g_iload_n cx 0 rfl d_X0_tick_33 ?_
  refine g_ishl cx d_X0_tick_34 ?_
  refine g_toi 4 (by decide) ?_
  refine g_iand cx d_X0_tick_35 ?_
  refine g_toi 0 (by decide) ?_
  refine g_if_eq_t cx 69 d_X0_tick_36 (by decide) (by decide) ?_
  refine g_iinc cx 3 [(3, .int 3), (2, .int 0), (0, .ref (ad 37)), (1, .int t)] 0 d_X0_tick_69 rfl (by decide) (by decide) rfl ?_
  refine g_goto cx 25 d_X0_tick_72 (by decide) ?_
  refine g_iload_n cx 0 rfl d_X0_tick_25 ?_
  refine g_bipush cx 10 (by decide) d_X0_tick_26 ?_
  refine g_icmp_ge_f cx 75 d_X0_tick_28 (by decide) (by decide) ?_
  refine g_iload_n cx 1 rfl d_X0_tick_31 ?_
  refine g_iconst cx 1 (by decide) d_X0_tick_32 ?_
  refine g_iload_n cx 0 rfl d_X0_tick_33 ?_
  refine g_ishl cx d_X0_tick_34 ?_
  refine g_toi 8 (by decide) ?_
  refine g_iand cx d_X0_tick_35 ?_
  refine g_toi 0 (by decide) ?_
  refine g_if_eq_t cx 69 d_X0_tick_36 (by decide) (by decide) ?_
  refine g_iinc cx 4 [(3, .int 4), (2, .int 0), (0, .ref (ad 37)), (1, .int t)] 0 d_X0_tick_69 rfl (by decide) (by decide) rfl ?_
  refine g_goto cx 25 d_X0_tick_72 (by decide) ?_
  refine g_iload_n cx 0 rfl d_X0_tick_25 ?_
  refine g_bipush cx 10 (by decide) d_X0_tick_26 ?_
  refine g_icmp_ge_f cx 75 d_X0_tick_28 (by decide) (by decide) ?_
  refine g_iload_n cx 1 rfl d_X0_tick_31 ?_
  refine g_iconst cx 1 (by decide) d_X0_tick_32 ?_
  refine g_iload_n cx 0 rfl d_X0_tick_33 ?_
  refine g_ishl cx d_X0_tick_34 ?_
  refine g_toi 16 (by decide) ?_
  refine g_iand cx d_X0_tick_35 ?_
  refine g_toi 0 (by decide) ?_
  refine g_if_eq_t cx 69 d_X0_tick_36 (by decide) (by decide) ?_
  refine g_iinc cx 5 [(3, .int 5), (2, .int 0), (0, .ref (ad 37)), (1, .int t)] 0 d_X0_tick_69 rfl (by decide) (by decide) rfl ?_
  refine g_goto cx 25 d_X0_tick_72 (by decide) ?_
  refine g_iload_n cx 0 rfl d_X0_tick_25 ?_
  refine g_bipush cx 10 (by decide) d_X0_tick_26 ?_
  refine g_icmp_ge_f cx 75 d_X0_tick_28 (by decide) (by decide) ?_
  refine g_iload_n cx 1 rfl d_X0_tick_31 ?_
  refine g_iconst cx 1 (by decide) d_X0_tick_32 ?_
  refine g_iload_n cx 0 rfl d_X0_tick_33 ?_
  refine g_ishl cx d_X0_tick_34 ?_
  refine g_toi 32 (by decide) ?_
  refine g_iand cx d_X0_tick_35 ?_
  refine g_toi 0 (by decide) ?_
  refine g_if_eq_t cx 69 d_X0_tick_36 (by decide) (by decide) ?_
  refine g_iinc cx 6 [(3, .int 6), (2, .int 0), (0, .ref (ad 37)), (1, .int t)] 0 d_X0_tick_69 rfl (by decide) (by decide) rfl ?_
  refine g_goto cx 25 d_X0_tick_72 (by decide) ?_
  refine g_iload_n cx 0 rfl d_X0_tick_25 ?_
  refine g_bipush cx 10 (by decide) d_X0_tick_26 ?_
  refine g_icmp_ge_f cx 75 d_X0_tick_28 (by decide) (by decide) ?_
  refine g_iload_n cx 1 rfl d_X0_tick_31 ?_
  refine g_iconst cx 1 (by decide) d_X0_tick_32 ?_
  refine g_iload_n cx 0 rfl d_X0_tick_33 ?_
  refine g_ishl cx d_X0_tick_34 ?_
  refine g_toi 64 (by decide) ?_
  refine g_iand cx d_X0_tick_35 ?_
  refine g_toi 0 (by decide) ?_
  refine g_if_eq_t cx 69 d_X0_tick_36 (by decide) (by decide) ?_
  refine g_iinc cx 7 [(3, .int 7), (2, .int 0), (0, .ref (ad 37)), (1, .int t)] 0 d_X0_tick_69 rfl (by decide) (by decide) rfl ?_
  refine g_goto cx 25 d_X0_tick_72 (by decide) ?_
  refine g_iload_n cx 0 rfl d_X0_tick_25 ?_
  refine g_bipush cx 10 (by decide) d_X0_tick_26 ?_
  refine g_icmp_ge_f cx 75 d_X0_tick_28 (by decide) (by decide) ?_
  refine g_iload_n cx 1 rfl d_X0_tick_31 ?_
  refine g_iconst cx 1 (by decide) d_X0_tick_32 ?_
  refine g_iload_n cx 0 rfl d_X0_tick_33 ?_
  refine g_ishl cx d_X0_tick_34 ?_
  refine g_toi 128 (by decide) ?_
  refine g_iand cx d_X0_tick_35 ?_
  refine g_toi 0 (by decide) ?_
  refine g_if_eq_t cx 69 d_X0_tick_36 (by decide) (by decide) ?_
  refine g_iinc cx 8 [(3, .int 8), (2, .int 0), (0, .ref (ad 37)), (1, .int t)] 0 d_X0_tick_69 rfl (by decide) (by decide) rfl ?_
  refine g_goto cx 25 d_X0_tick_72 (by decide) ?_
  refine g_iload_n cx 0 rfl d_X0_tick_25 ?_
  refine g_bipush cx 10 (by decide) d_X0_tick_26 ?_
  refine g_icmp_ge_f cx 75 d_X0_tick_28 (by decide) (by decide) ?_
  refine g_iload_n cx 1 rfl d_X0_tick_31 ?_
  refine g_iconst cx 1 (by decide) d_X0_tick_32 ?_
  refine g_iload_n cx 0 rfl d_X0_tick_33 ?_
  refine g_ishl cx d_X0_tick_34 ?_
  refine g_toi 256 (by decide) ?_
  refine g_iand cx d_X0_tick_35 ?_
  refine g_toi 0 (by decide) ?_
  refine g_if_eq_t cx 69 d_X0_tick_36 (by decide) (by decide) ?_
  refine g_iinc cx 9 [(3, .int 9), (2, .int 0), (0, .ref (ad 37)), (1, .int t)] 0 d_X0_tick_69 rfl (by decide) (by decide) rfl ?_
  refine g_goto cx 25 d_X0_tick_72 (by decide) ?_
  refine g_iload_n cx 0 rfl d_X0_tick_25 ?_
  refine g_bipush cx 10 (by decide) d_X0_tick_26 ?_
  refine g_icmp_ge_f cx 75 d_X0_tick_28 (by decide) (by decide) ?_
  refine g_iload_n cx 1 rfl d_X0_tick_31 ?_
  refine g_iconst cx 1 (by decide) d_X0_tick_32 ?_
  refine g_iload_n cx 0 rfl d_X0_tick_33 ?_
  refine g_ishl cx d_X0_tick_34 ?_
  refine g_toi 512 (by decide) ?_
  refine g_iand cx d_X0_tick_35 ?_
  refine g_toi 0 (by decide) ?_
  refine g_if_eq_t cx 69 d_X0_tick_36 (by decide) (by decide) ?_
  refine g_iinc cx 10 [(3, .int 10), (2, .int 0), (0, .ref (ad 37)), (1, .int t)] 0 d_X0_tick_69 rfl (by decide) (by decide) rfl ?_
  refine g_goto cx 25 d_X0_tick_72 (by decide) ?_
  refine g_iload_n cx 0 rfl d_X0_tick_25 ?_
  refine g_bipush cx 10 (by decide) d_X0_tick_26 ?_
  refine g_icmp_ge_t cx 75 d_X0_tick_28 (by decide) (by decide) ?_
  refine g_aload_n cx 2 rfl d_X0_tick_75 ?_
  refine g_get cx cl_X0 fl_X0_35 37 (.ref (ad 43)) d_X0_tick_76 rfl rfl ?_
  refine g_cViW cx [] [] (c_X4_standingSet l X ad (upd (upd zF4 605 0) 606 0) zR5  ) ml_X0_101 yV_X4_standingSet d_X0_tick_79 (by unfold g_rr; decide) (by decide) 43 rfl rfl rfl (Nat.le_of_ble_eq_true rfl) (fun r10 w11 h12 => ?_)
  obtain ⟨rfl, rfl⟩ := h12
  refine g_toi 0 (g_ss0 ((zp6.1 691 (by decide)).trans (h691))) ?_
  refine g_istore_n cx [(2, .int 0), (3, .int 10), (0, .ref (ad 37)), (1, .int t)] d_X0_tick_82 (by decide) rfl ?_
  refine g_iconst cx 0 (by decide) d_X0_tick_83 ?_
  refine g_istore_n cx [(3, .int 0), (2, .int 0), (0, .ref (ad 37)), (1, .int t)] d_X0_tick_84 (by decide) rfl ?_
  refine g_iload_n cx 0 rfl d_X0_tick_85 ?_
  refine g_bipush cx 10 (by decide) d_X0_tick_86 ?_
  refine g_icmp_ge_f cx 110 d_X0_tick_88 (by decide) (by decide) ?_
  refine g_iload_n cx 1 rfl d_X0_tick_91 ?_
  refine g_iconst cx 1 (by decide) d_X0_tick_92 ?_
  refine g_iload_n cx 0 rfl d_X0_tick_93 ?_
  refine g_ishl cx d_X0_tick_94 ?_
  refine g_toi 1 (by decide) ?_
  refine g_iand cx d_X0_tick_95 ?_
  refine g_toi 0 (by decide) ?_
  refine g_if_eq_t cx 104 d_X0_tick_96 (by decide) (by decide) ?_
  refine g_iinc cx 1 [(3, .int 1), (2, .int 0), (0, .ref (ad 37)), (1, .int t)] 0 d_X0_tick_104 rfl (by decide) (by decide) rfl ?_
  refine g_goto cx 85 d_X0_tick_107 (by decide) ?_
  refine g_iload_n cx 0 rfl d_X0_tick_85 ?_
  refine g_bipush cx 10 (by decide) d_X0_tick_86 ?_
  refine g_icmp_ge_f cx 110 d_X0_tick_88 (by decide) (by decide) ?_
  refine g_iload_n cx 1 rfl d_X0_tick_91 ?_
  refine g_iconst cx 1 (by decide) d_X0_tick_92 ?_
  refine g_iload_n cx 0 rfl d_X0_tick_93 ?_
  refine g_ishl cx d_X0_tick_94 ?_
  refine g_toi 2 (by decide) ?_
  refine g_iand cx d_X0_tick_95 ?_
  refine g_toi 0 (by decide) ?_
  refine g_if_eq_t cx 104 d_X0_tick_96 (by decide) (by decide) ?_
  refine g_iinc cx 2 [(3, .int 2), (2, .int 0), (0, .ref (ad 37)), (1, .int t)] 0 d_X0_tick_104 rfl (by decide) (by decide) rfl ?_
  refine g_goto cx 85 d_X0_tick_107 (by decide) ?_
  refine g_iload_n cx 0 rfl d_X0_tick_85 ?_
  refine g_bipush cx 10 (by decide) d_X0_tick_86 ?_
  refine g_icmp_ge_f cx 110 d_X0_tick_88 (by decide) (by decide) ?_
  refine g_iload_n cx 1 rfl d_X0_tick_91 ?_
  refine g_iconst cx 1 (by decide) d_X0_tick_92 ?_
  refine g_iload_n cx 0 rfl d_X0_tick_93 ?_
  refine g_ishl cx d_X0_tick_94 ?_
  refine g_toi 4 (by decide) ?_
  refine g_iand cx d_X0_tick_95 ?_
  refine g_toi 0 (by decide) ?_
  refine g_if_eq_t cx 104 d_X0_tick_96 (by decide) (by decide) ?_
  refine g_iinc cx 3 [(3, .int 3), (2, .int 0), (0, .ref (ad 37)), (1, .int t)] 0 d_X0_tick_104 rfl (by decide) (by decide) rfl ?_
  refine g_goto cx 85 d_X0_tick_107 (by decide) ?_
  refine g_iload_n cx 0 rfl d_X0_tick_85 ?_
  refine g_bipush cx 10 (by decide) d_X0_tick_86 ?_
  refine g_icmp_ge_f cx 110 d_X0_tick_88 (by decide) (by decide) ?_
  refine g_iload_n cx 1 rfl d_X0_tick_91 ?_
  refine g_iconst cx 1 (by decide) d_X0_tick_92 ?_
  refine g_iload_n cx 0 rfl d_X0_tick_93 ?_
  refine g_ishl cx d_X0_tick_94 ?_
  refine g_toi 8 (by decide) ?_
  refine g_iand cx d_X0_tick_95 ?_
  refine g_toi 0 (by decide) ?_
  refine g_if_eq_t cx 104 d_X0_tick_96 (by decide) (by decide) ?_
  refine g_iinc cx 4 [(3, .int 4), (2, .int 0), (0, .ref (ad 37)), (1, .int t)] 0 d_X0_tick_104 rfl (by decide) (by decide) rfl ?_
  refine g_goto cx 85 d_X0_tick_107 (by decide) ?_
  refine g_iload_n cx 0 rfl d_X0_tick_85 ?_
  refine g_bipush cx 10 (by decide) d_X0_tick_86 ?_
  refine g_icmp_ge_f cx 110 d_X0_tick_88 (by decide) (by decide) ?_
  refine g_iload_n cx 1 rfl d_X0_tick_91 ?_
  refine g_iconst cx 1 (by decide) d_X0_tick_92 ?_
  refine g_iload_n cx 0 rfl d_X0_tick_93 ?_
  refine g_ishl cx d_X0_tick_94 ?_
  refine g_toi 16 (by decide) ?_
  refine g_iand cx d_X0_tick_95 ?_
  refine g_toi 0 (by decide) ?_
  refine g_if_eq_t cx 104 d_X0_tick_96 (by decide) (by decide) ?_
  refine g_iinc cx 5 [(3, .int 5), (2, .int 0), (0, .ref (ad 37)), (1, .int t)] 0 d_X0_tick_104 rfl (by decide) (by decide) rfl ?_
  refine g_goto cx 85 d_X0_tick_107 (by decide) ?_
  refine g_iload_n cx 0 rfl d_X0_tick_85 ?_
  refine g_bipush cx 10 (by decide) d_X0_tick_86 ?_
  refine g_icmp_ge_f cx 110 d_X0_tick_88 (by decide) (by decide) ?_
  refine g_iload_n cx 1 rfl d_X0_tick_91 ?_
  refine g_iconst cx 1 (by decide) d_X0_tick_92 ?_
  refine g_iload_n cx 0 rfl d_X0_tick_93 ?_
  refine g_ishl cx d_X0_tick_94 ?_
  refine g_toi 32 (by decide) ?_
  refine g_iand cx d_X0_tick_95 ?_
  refine g_toi 0 (by decide) ?_
  refine g_if_eq_t cx 104 d_X0_tick_96 (by decide) (by decide) ?_
  refine g_iinc cx 6 [(3, .int 6), (2, .int 0), (0, .ref (ad 37)), (1, .int t)] 0 d_X0_tick_104 rfl (by decide) (by decide) rfl ?_
  refine g_goto cx 85 d_X0_tick_107 (by decide) ?_
  refine g_iload_n cx 0 rfl d_X0_tick_85 ?_
  refine g_bipush cx 10 (by decide) d_X0_tick_86 ?_
  refine g_icmp_ge_f cx 110 d_X0_tick_88 (by decide) (by decide) ?_
  refine g_iload_n cx 1 rfl d_X0_tick_91 ?_
  refine g_iconst cx 1 (by decide) d_X0_tick_92 ?_
  refine g_iload_n cx 0 rfl d_X0_tick_93 ?_
  refine g_ishl cx d_X0_tick_94 ?_
  refine g_toi 64 (by decide) ?_
  refine g_iand cx d_X0_tick_95 ?_
  refine g_toi 0 (by decide) ?_
  refine g_if_eq_t cx 104 d_X0_tick_96 (by decide) (by decide) ?_
  refine g_iinc cx 7 [(3, .int 7), (2, .int 0), (0, .ref (ad 37)), (1, .int t)] 0 d_X0_tick_104 rfl (by decide) (by decide) rfl ?_
  refine g_goto cx 85 d_X0_tick_107 (by decide) ?_
  refine g_iload_n cx 0 rfl d_X0_tick_85 ?_
  refine g_bipush cx 10 (by decide) d_X0_tick_86 ?_
  refine g_icmp_ge_f cx 110 d_X0_tick_88 (by decide) (by decide) ?_
  refine g_iload_n cx 1 rfl d_X0_tick_91 ?_
  refine g_iconst cx 1 (by decide) d_X0_tick_92 ?_
  refine g_iload_n cx 0 rfl d_X0_tick_93 ?_
  refine g_ishl cx d_X0_tick_94 ?_
  refine g_toi 128 (by decide) ?_
  refine g_iand cx d_X0_tick_95 ?_
  refine g_toi 0 (by decide) ?_
  refine g_if_eq_t cx 104 d_X0_tick_96 (by decide) (by decide) ?_
  refine g_iinc cx 8 [(3, .int 8), (2, .int 0), (0, .ref (ad 37)), (1, .int t)] 0 d_X0_tick_104 rfl (by decide) (by decide) rfl ?_
  refine g_goto cx 85 d_X0_tick_107 (by decide) ?_
  refine g_iload_n cx 0 rfl d_X0_tick_85 ?_
  refine g_bipush cx 10 (by decide) d_X0_tick_86 ?_
  refine g_icmp_ge_f cx 110 d_X0_tick_88 (by decide) (by decide) ?_
  refine g_iload_n cx 1 rfl d_X0_tick_91 ?_
  refine g_iconst cx 1 (by decide) d_X0_tick_92 ?_
  refine g_iload_n cx 0 rfl d_X0_tick_93 ?_
  refine g_ishl cx d_X0_tick_94 ?_
  refine g_toi 256 (by decide) ?_
  refine g_iand cx d_X0_tick_95 ?_
  refine g_toi 0 (by decide) ?_
  refine g_if_eq_t cx 104 d_X0_tick_96 (by decide) (by decide) ?_
  refine g_iinc cx 9 [(3, .int 9), (2, .int 0), (0, .ref (ad 37)), (1, .int t)] 0 d_X0_tick_104 rfl (by decide) (by decide) rfl ?_
  refine g_goto cx 85 d_X0_tick_107 (by decide) ?_
  refine g_iload_n cx 0 rfl d_X0_tick_85 ?_
  refine g_bipush cx 10 (by decide) d_X0_tick_86 ?_
  refine g_icmp_ge_f cx 110 d_X0_tick_88 (by decide) (by decide) ?_
  refine g_iload_n cx 1 rfl d_X0_tick_91 ?_
  refine g_iconst cx 1 (by decide) d_X0_tick_92 ?_
  refine g_iload_n cx 0 rfl d_X0_tick_93 ?_
  refine g_ishl cx d_X0_tick_94 ?_
  refine g_toi 512 (by decide) ?_
  refine g_iand cx d_X0_tick_95 ?_
  refine g_toi 0 (by decide) ?_
  refine g_if_eq_t cx 104 d_X0_tick_96 (by decide) (by decide) ?_
  refine g_iinc cx 10 [(3, .int 10), (2, .int 0), (0, .ref (ad 37)), (1, .int t)] 0 d_X0_tick_104 rfl (by decide) (by decide) rfl ?_
  refine g_goto cx 85 d_X0_tick_107 (by decide) ?_
  refine g_iload_n cx 0 rfl d_X0_tick_85 ?_
  refine g_bipush cx 10 (by decide) d_X0_tick_86 ?_
  refine g_icmp_ge_t cx 110 d_X0_tick_88 (by decide) (by decide) ?_
  refine g_aload_n cx 2 rfl d_X0_tick_110 ?_
  refine g_cVvW cx [] [] (c_X0_lineUp l X ad (upd (upd zF4 605 0) 606 0) zR5  ((zp6.1 691 (by decide)).trans (h691))) ml_X0_123 yV_X0_lineUp d_X0_tick_111 (by unfold g_rr; decide) (by decide) 37 rfl rfl rfl (Nat.le_of_ble_eq_true rfl) (fun w14 h15 => ?_)
  obtain ⟨rfl, -⟩ := h15
  refine g_weq (wX X ad (upd (upd (upd zF4 602 0) 605 0) 606 0) zR5) rfl ?_
  refine g_iconst cx 0 (by decide) d_X0_tick_114 ?_
  refine g_istore_n cx [(3, .int 0), (2, .int 0), (0, .ref (ad 37)), (1, .int t)] d_X0_tick_115 (by decide) rfl ?_
  refine g_iload_n cx 0 rfl d_X0_tick_116 ?_
  refine g_iconst cx 1 (by decide) d_X0_tick_117 ?_
  refine g_iadd cx d_X0_tick_118 ?_
  refine g_toi 1 (by decide) ?_
  refine g_aload_n cx 2 rfl d_X0_tick_119 ?_
  refine g_get cx cl_X0 fl_X0_56 37 (.int 0) d_X0_tick_120 rfl rfl ?_
  refine g_icmp_ge_t cx 158 d_X0_tick_123 (by decide) (by decide) ?_
  refine g_aload_n cx 2 rfl d_X0_tick_158 ?_
  refine g_get cx cl_X0 fl_X0_35 37 (.ref (ad 43)) d_X0_tick_159 rfl rfl ?_
  refine g_cViW cx [] [] (c_X4_standingSet l X ad (upd (upd (upd zF4 602 0) 605 0) 606 0) zR5  ) ml_X0_101 yV_X4_standingSet d_X0_tick_162 (by unfold g_rr; decide) (by decide) 43 rfl rfl rfl (Nat.le_of_ble_eq_true rfl) (fun r16 w17 h18 => ?_)
  obtain ⟨rfl, rfl⟩ := h18
  refine g_toi 0 (g_ss0 ((zp6.1 691 (by decide)).trans (h691))) ?_
  refine g_istore_n cx [(2, .int 0), (3, .int 0), (0, .ref (ad 37)), (1, .int t)] d_X0_tick_165 (by decide) rfl ?_
  refine g_iconst cx 0 (by decide) d_X0_tick_166 ?_
  refine g_istore_n cx [(3, .int 0), (2, .int 0), (0, .ref (ad 37)), (1, .int t)] d_X0_tick_167 (by decide) rfl ?_
  refine g_iload_n cx 0 rfl d_X0_tick_168 ?_
  refine g_bipush cx 10 (by decide) d_X0_tick_169 ?_
  refine g_icmp_ge_f cx 193 d_X0_tick_171 (by decide) (by decide) ?_
  refine g_iload_n cx 1 rfl d_X0_tick_174 ?_
  refine g_iconst cx 1 (by decide) d_X0_tick_175 ?_
  refine g_iload_n cx 0 rfl d_X0_tick_176 ?_
  refine g_ishl cx d_X0_tick_177 ?_
  refine g_toi 1 (by decide) ?_
  refine g_iand cx d_X0_tick_178 ?_
  refine g_toi 0 (by decide) ?_
  refine g_if_eq_t cx 187 d_X0_tick_179 (by decide) (by decide) ?_
  refine g_iinc cx 1 [(3, .int 1), (2, .int 0), (0, .ref (ad 37)), (1, .int t)] 0 d_X0_tick_187 rfl (by decide) (by decide) rfl ?_
  refine g_goto cx 168 d_X0_tick_190 (by decide) ?_
  refine g_iload_n cx 0 rfl d_X0_tick_168 ?_
  refine g_bipush cx 10 (by decide) d_X0_tick_169 ?_
  refine g_icmp_ge_f cx 193 d_X0_tick_171 (by decide) (by decide) ?_
  refine g_iload_n cx 1 rfl d_X0_tick_174 ?_
  refine g_iconst cx 1 (by decide) d_X0_tick_175 ?_
  refine g_iload_n cx 0 rfl d_X0_tick_176 ?_
  refine g_ishl cx d_X0_tick_177 ?_
  refine g_toi 2 (by decide) ?_
  refine g_iand cx d_X0_tick_178 ?_
  refine g_toi 0 (by decide) ?_
  refine g_if_eq_t cx 187 d_X0_tick_179 (by decide) (by decide) ?_
  refine g_iinc cx 2 [(3, .int 2), (2, .int 0), (0, .ref (ad 37)), (1, .int t)] 0 d_X0_tick_187 rfl (by decide) (by decide) rfl ?_
  refine g_goto cx 168 d_X0_tick_190 (by decide) ?_
  refine g_iload_n cx 0 rfl d_X0_tick_168 ?_
  refine g_bipush cx 10 (by decide) d_X0_tick_169 ?_
  refine g_icmp_ge_f cx 193 d_X0_tick_171 (by decide) (by decide) ?_
  refine g_iload_n cx 1 rfl d_X0_tick_174 ?_
  refine g_iconst cx 1 (by decide) d_X0_tick_175 ?_
  refine g_iload_n cx 0 rfl d_X0_tick_176 ?_
  refine g_ishl cx d_X0_tick_177 ?_
  refine g_toi 4 (by decide) ?_
  refine g_iand cx d_X0_tick_178 ?_
  refine g_toi 0 (by decide) ?_
  refine g_if_eq_t cx 187 d_X0_tick_179 (by decide) (by decide) ?_
  refine g_iinc cx 3 [(3, .int 3), (2, .int 0), (0, .ref (ad 37)), (1, .int t)] 0 d_X0_tick_187 rfl (by decide) (by decide) rfl ?_
  refine g_goto cx 168 d_X0_tick_190 (by decide) ?_
  refine g_iload_n cx 0 rfl d_X0_tick_168 ?_
  refine g_bipush cx 10 (by decide) d_X0_tick_169 ?_
  refine g_icmp_ge_f cx 193 d_X0_tick_171 (by decide) (by decide) ?_
  refine g_iload_n cx 1 rfl d_X0_tick_174 ?_
  refine g_iconst cx 1 (by decide) d_X0_tick_175 ?_
  refine g_iload_n cx 0 rfl d_X0_tick_176 ?_
  refine g_ishl cx d_X0_tick_177 ?_
  refine g_toi 8 (by decide) ?_
  refine g_iand cx d_X0_tick_178 ?_
  refine g_toi 0 (by decide) ?_
  refine g_if_eq_t cx 187 d_X0_tick_179 (by decide) (by decide) ?_
  refine g_iinc cx 4 [(3, .int 4), (2, .int 0), (0, .ref (ad 37)), (1, .int t)] 0 d_X0_tick_187 rfl (by decide) (by decide) rfl ?_
  refine g_goto cx 168 d_X0_tick_190 (by decide) ?_
  refine g_iload_n cx 0 rfl d_X0_tick_168 ?_
  refine g_bipush cx 10 (by decide) d_X0_tick_169 ?_
  refine g_icmp_ge_f cx 193 d_X0_tick_171 (by decide) (by decide) ?_
  refine g_iload_n cx 1 rfl d_X0_tick_174 ?_
  refine g_iconst cx 1 (by decide) d_X0_tick_175 ?_
  refine g_iload_n cx 0 rfl d_X0_tick_176 ?_
  refine g_ishl cx d_X0_tick_177 ?_
  refine g_toi 16 (by decide) ?_
  refine g_iand cx d_X0_tick_178 ?_
  refine g_toi 0 (by decide) ?_
  refine g_if_eq_t cx 187 d_X0_tick_179 (by decide) (by decide) ?_
  refine g_iinc cx 5 [(3, .int 5), (2, .int 0), (0, .ref (ad 37)), (1, .int t)] 0 d_X0_tick_187 rfl (by decide) (by decide) rfl ?_
  refine g_goto cx 168 d_X0_tick_190 (by decide) ?_
  refine g_iload_n cx 0 rfl d_X0_tick_168 ?_
  refine g_bipush cx 10 (by decide) d_X0_tick_169 ?_
  refine g_icmp_ge_f cx 193 d_X0_tick_171 (by decide) (by decide) ?_
  refine g_iload_n cx 1 rfl d_X0_tick_174 ?_
  refine g_iconst cx 1 (by decide) d_X0_tick_175 ?_
  refine g_iload_n cx 0 rfl d_X0_tick_176 ?_
  refine g_ishl cx d_X0_tick_177 ?_
  refine g_toi 32 (by decide) ?_
  refine g_iand cx d_X0_tick_178 ?_
  refine g_toi 0 (by decide) ?_
  refine g_if_eq_t cx 187 d_X0_tick_179 (by decide) (by decide) ?_
  refine g_iinc cx 6 [(3, .int 6), (2, .int 0), (0, .ref (ad 37)), (1, .int t)] 0 d_X0_tick_187 rfl (by decide) (by decide) rfl ?_
  refine g_goto cx 168 d_X0_tick_190 (by decide) ?_
  refine g_iload_n cx 0 rfl d_X0_tick_168 ?_
  refine g_bipush cx 10 (by decide) d_X0_tick_169 ?_
  refine g_icmp_ge_f cx 193 d_X0_tick_171 (by decide) (by decide) ?_
  refine g_iload_n cx 1 rfl d_X0_tick_174 ?_
  refine g_iconst cx 1 (by decide) d_X0_tick_175 ?_
  refine g_iload_n cx 0 rfl d_X0_tick_176 ?_
  refine g_ishl cx d_X0_tick_177 ?_
  refine g_toi 64 (by decide) ?_
  refine g_iand cx d_X0_tick_178 ?_
  refine g_toi 0 (by decide) ?_
  refine g_if_eq_t cx 187 d_X0_tick_179 (by decide) (by decide) ?_
  refine g_iinc cx 7 [(3, .int 7), (2, .int 0), (0, .ref (ad 37)), (1, .int t)] 0 d_X0_tick_187 rfl (by decide) (by decide) rfl ?_
  refine g_goto cx 168 d_X0_tick_190 (by decide) ?_
  refine g_iload_n cx 0 rfl d_X0_tick_168 ?_
  refine g_bipush cx 10 (by decide) d_X0_tick_169 ?_
  refine g_icmp_ge_f cx 193 d_X0_tick_171 (by decide) (by decide) ?_
  refine g_iload_n cx 1 rfl d_X0_tick_174 ?_
  refine g_iconst cx 1 (by decide) d_X0_tick_175 ?_
  refine g_iload_n cx 0 rfl d_X0_tick_176 ?_
  refine g_ishl cx d_X0_tick_177 ?_
  refine g_toi 128 (by decide) ?_
  refine g_iand cx d_X0_tick_178 ?_
  refine g_toi 0 (by decide) ?_
  refine g_if_eq_t cx 187 d_X0_tick_179 (by decide) (by decide) ?_
  refine g_iinc cx 8 [(3, .int 8), (2, .int 0), (0, .ref (ad 37)), (1, .int t)] 0 d_X0_tick_187 rfl (by decide) (by decide) rfl ?_
  refine g_goto cx 168 d_X0_tick_190 (by decide) ?_
  refine g_iload_n cx 0 rfl d_X0_tick_168 ?_
  refine g_bipush cx 10 (by decide) d_X0_tick_169 ?_
  refine g_icmp_ge_f cx 193 d_X0_tick_171 (by decide) (by decide) ?_
  refine g_iload_n cx 1 rfl d_X0_tick_174 ?_
  refine g_iconst cx 1 (by decide) d_X0_tick_175 ?_
  refine g_iload_n cx 0 rfl d_X0_tick_176 ?_
  refine g_ishl cx d_X0_tick_177 ?_
  refine g_toi 256 (by decide) ?_
  refine g_iand cx d_X0_tick_178 ?_
  refine g_toi 0 (by decide) ?_
  refine g_if_eq_t cx 187 d_X0_tick_179 (by decide) (by decide) ?_
  refine g_iinc cx 9 [(3, .int 9), (2, .int 0), (0, .ref (ad 37)), (1, .int t)] 0 d_X0_tick_187 rfl (by decide) (by decide) rfl ?_
  refine g_goto cx 168 d_X0_tick_190 (by decide) ?_
  refine g_iload_n cx 0 rfl d_X0_tick_168 ?_
  refine g_bipush cx 10 (by decide) d_X0_tick_169 ?_
  refine g_icmp_ge_f cx 193 d_X0_tick_171 (by decide) (by decide) ?_
  refine g_iload_n cx 1 rfl d_X0_tick_174 ?_
  refine g_iconst cx 1 (by decide) d_X0_tick_175 ?_
  refine g_iload_n cx 0 rfl d_X0_tick_176 ?_
  refine g_ishl cx d_X0_tick_177 ?_
  refine g_toi 512 (by decide) ?_
  refine g_iand cx d_X0_tick_178 ?_
  refine g_toi 0 (by decide) ?_
  refine g_if_eq_t cx 187 d_X0_tick_179 (by decide) (by decide) ?_
  refine g_iinc cx 10 [(3, .int 10), (2, .int 0), (0, .ref (ad 37)), (1, .int t)] 0 d_X0_tick_187 rfl (by decide) (by decide) rfl ?_
  refine g_goto cx 168 d_X0_tick_190 (by decide) ?_
  refine g_iload_n cx 0 rfl d_X0_tick_168 ?_
  refine g_bipush cx 10 (by decide) d_X0_tick_169 ?_
  refine g_icmp_ge_t cx 193 d_X0_tick_171 (by decide) (by decide) ?_
  refine g_aload_n cx 2 rfl d_X0_tick_193 ?_
  refine g_get cx cl_X0 fl_X0_35 37 (.ref (ad 43)) d_X0_tick_194 rfl rfl ?_
  refine g_dup cx rfl d_X0_tick_197 ?_
  refine g_getN cx cl_X4 fn_X0_132 43 (.int (zF4 695)) d_X0_tick_198 rfl rfl ?_
  refine g_toi (F 695) (zp6.1 695 (by decide)) ?_
  refine g_toi 0 (h695) ?_
  refine g_aload_n cx 2 rfl d_X0_tick_201 ?_
  refine g_get cx cl_X0 fl_X0_68 37 (.int 0) d_X0_tick_202 rfl rfl ?_
  refine g_ior cx d_X0_tick_205 ?_
  refine g_toi 0 (by decide) ?_
  refine g_putN cx cl_X4 fn_X0_132 43 (wX X ad (upd (upd (upd (upd zF4 602 0) 605 0) 606 0) 695 0) zR5) d_X0_tick_206 rfl rfl rfl rfl (Nat.le_of_ble_eq_true rfl) rfl ?_
  exact hret d_X0_tick_209 (Nat.le_of_ble_eq_true rfl) (Nat.le_of_ble_eq_true rfl) ⟨(upd (upd (upd (upd zF4 602 0) 605 0) 606 0) 695 0), zR5, rfl, ⟨(by intro k hk; by_cases h5 : k = 695; (subst h5; exact h695.symm); (simp only [upd]; repeat (first | rw [if_neg (by omega)] | exact zp6.1 k (by omega)))), (by intro c hc; exact zp6.2 c hc)⟩⟩
end
section
theorem g_dr {tk t : Nat} {p : Prop} (h : tk = 0 ∨ p) (ht : t < tk) : p := h.elim (fun e => absurd ht (by omega)) id
theorem g_ge0 {x : Int32} {t : Nat} (hx : x = nI t) (ht : t < 2 ^ 31) : ¬ x < 0 := by rw [hx]; exact nI_pos ht
theorem g_ltk {x y : Int32} {t k : Nat} (hx : x = nI t) (hy : y = nI k) (ht : t < 2 ^ 31) (hk : k < 2 ^ 31) (h : x < y) : t < k := by
  rw [hx, hy] at h
  exact (nI_ltI ht hk).mp h
theorem P_tk_trans {F1 F2 : Nat → Int32} {R1 R2 : Nat → Nat → Int32} (h : P_tk F1 F2 R1 R2) {k : Nat} (hk : k < 600 ∨ 607 < k ∧ k < 698 ∨ 699 ≤ k) {v : Int32} (h1 : F1 k = v) : F2 k = v := (h.1 k hk).trans h1

theorem d_X0_run_0 : g_dc cX0_run 0 (.aload_n 0) 1 1 := ⟨by decide +kernel, rfl⟩
theorem d_X0_run_1 : g_dc cX0_run 1 (.invokevirtual 75) 3 4 := ⟨by decide +kernel, rfl⟩
theorem d_X0_run_4 : g_dc cX0_run 4 (.iconst 0) 1 5 := ⟨by decide +kernel, rfl⟩
theorem d_X0_run_5 : g_dc cX0_run 5 (.istore_n 1) 1 6 := ⟨by decide +kernel, rfl⟩
theorem d_X0_run_6 : g_dc cX0_run 6 (.iload_n 1) 1 7 := ⟨by decide +kernel, rfl⟩
theorem d_X0_run_7 : g_dc cX0_run 7 (.sipush 300) 3 10 := ⟨by decide +kernel, rfl⟩
theorem d_X0_run_10 : g_dc cX0_run 10 (.if_icmp .ge 42) 3 13 := ⟨by decide +kernel, rfl⟩
theorem d_X0_run_13 : g_dc cX0_run 13 (.iload_n 1) 1 14 := ⟨by decide +kernel, rfl⟩
theorem d_X0_run_14 : g_dc cX0_run 14 (.aload_n 0) 1 15 := ⟨by decide +kernel, rfl⟩
theorem d_X0_run_15 : g_dc cX0_run 15 (.getfield 21) 3 18 := ⟨by decide +kernel, rfl⟩
theorem d_X0_run_18 : g_dc cX0_run 18 (.getfield 78) 3 21 := ⟨by decide +kernel, rfl⟩
theorem d_X0_run_21 : g_dc cX0_run 21 (.if_icmp .lt 10) 3 24 := ⟨by decide +kernel, rfl⟩
theorem d_X0_run_24 : g_dc cX0_run 24 (.aload_n 0) 1 25 := ⟨by decide +kernel, rfl⟩
theorem d_X0_run_25 : g_dc cX0_run 25 (.invokevirtual 81) 3 28 := ⟨by decide +kernel, rfl⟩
theorem d_X0_run_28 : g_dc cX0_run 28 (.ifCond .eq 24) 3 31 := ⟨by decide +kernel, rfl⟩
theorem d_X0_run_31 : g_dc cX0_run 31 (.aload_n 0) 1 32 := ⟨by decide +kernel, rfl⟩
theorem d_X0_run_32 : g_dc cX0_run 32 (.iload_n 1) 1 33 := ⟨by decide +kernel, rfl⟩
theorem d_X0_run_33 : g_dc cX0_run 33 (.invokevirtual 85) 3 36 := ⟨by decide +kernel, rfl⟩
theorem d_X0_run_36 : g_dc cX0_run 36 (.aload_n 0) 1 37 := ⟨by decide +kernel, rfl⟩
theorem d_X0_run_37 : g_dc cX0_run 37 (.getfield 35) 3 40 := ⟨by decide +kernel, rfl⟩
theorem d_X0_run_40 : g_dc cX0_run 40 (.iload_n 1) 1 41 := ⟨by decide +kernel, rfl⟩
theorem d_X0_run_41 : g_dc cX0_run 41 (.iconst 1) 1 42 := ⟨by decide +kernel, rfl⟩
theorem d_X0_run_42 : g_dc cX0_run 42 (.iadd) 1 43 := ⟨by decide +kernel, rfl⟩
theorem d_X0_run_43 : g_dc cX0_run 43 (.putfield 89) 3 46 := ⟨by decide +kernel, rfl⟩
theorem d_X0_run_46 : g_dc cX0_run 46 (.iinc 1 1) 3 49 := ⟨by decide +kernel, rfl⟩
theorem d_X0_run_49 : g_dc cX0_run 49 (.goto (-43)) 3 52 := ⟨by decide +kernel, rfl⟩
theorem d_X0_run_52 : g_dc cX0_run 52 (.return_) 1 53 := ⟨by decide +kernel, rfl⟩
set_option maxHeartbeats 4000000 in
set_option maxRecDepth 100000 in
theorem c_X0_run (l : Launch) (X : gX) (ad : Nat → Nat) (F : Nat → Int32) (R : Nat → Nat → Int32) (tk : Nat) (htk : F 241 = nI tk) (h60 : tk ≤ 60) (h82 : F 82 = 0) (h83 : F 83 = 0) (hd : tk = 0 ∨ F 672 = 0 ∧ F 674 = 0) : g_Cv l X yX0_run cX0_run 2 5 0 0 [.ref (ad 37)] (wX X ad F R) (fun w => ∃ (F' : Nat → Int32) (R' : Nat → Nat → Int32), w = wX X ad F' R' ∧ P_rn F F' R R') := by
  refine g_mv (by decide +kernel) (Nat.le_of_ble_eq_true rfl) (fun E cx hret => ?_)
  refine g_aload_n cx 0 rfl d_X0_run_0 ?_
  refine g_cVvW cx [] [] (c_X0_begin l X ad F R  h82) ml_X0_75 yV_X0_begin d_X0_run_1 (by unfold g_rr; decide) (by decide) 37 rfl rfl rfl (Nat.le_of_ble_eq_true rfl) (fun w2 h3 => ?_)
  obtain ⟨zF4, zR5, rfl, zp6⟩ := h3
  refine g_iconst cx 0 (by decide) d_X0_run_4 ?_
  refine g_istore_n cx [(1, .int 0), (0, .ref (ad 37))] d_X0_run_5 (by decide) rfl ?_
  have L6 : ∀ (N : Nat) (t : Nat) (x1 : Int32) (zF : Nat → Int32) (zR : Nat → Nat → Int32), 61 - t < N → (x1 = nI t) → (t ≤ tk) → (∀ k, k < 600 ∨ 607 < k ∧ k < 691 ∨ 699 ≤ k → zF k = F k) → (zF 691 = 0) → (zF 692 = 0) → (zF 693 = 0) → (zF 694 = 0) → (zF 695 = 0) → (zF 696 = 0) → (t = 0 → zF 697 = 0 ∧ zF 698 = F 81) → (∀ j, j < 30 → zR 46 j = 0) → (∀ c, c < 23 ∨ 23 < c ∧ c < 38 ∨ 38 < c ∧ c < 44 ∨ 47 ≤ c → zR c = R c) → G X E 2 0 0 (wX X ad zF zR) [(0, .ref (ad 37)), (1, .int x1)] 6 [] := by
    intro N
    induction N with
    | zero => intro t x1 zF zR hm; exact absurd hm (Nat.not_lt_zero _)
    | succ N ih6 =>
      intro t x1 zF zR hm hx ht hf h691 h692 h693 h694 h695 h696 h0 hz hr
      refine g_iload_n cx 1 rfl d_X0_run_6 ?_
      refine g_sipush cx 300 (by decide) d_X0_run_7 ?_
      refine g_icmp_ge_f cx 52 d_X0_run_10 (by decide) (fun hc => absurd (g_le (c := 300) (by decide) (hx ▸ hc) (by omega)) (by omega)) ?_
      refine g_iload_n cx 1 rfl d_X0_run_13 ?_
      refine g_aload_n cx 0 rfl d_X0_run_14 ?_
      refine g_get cx cl_X0 fl_X0_21 37 (.ref (ad 15)) d_X0_run_15 rfl rfl ?_
      refine g_getN cx cl_X5 fn_X0_78 15 (.int (zF 241)) d_X0_run_18 rfl rfl ?_
      refine g_toi (F 241) (hf 241 (by decide)) ?_
      refine g_icmp_lt cx 31 d_X0_run_21 (by decide) (fun zc21 => ?_) (fun zc21 => ?_)
      · refine g_aload_n cx 0 rfl d_X0_run_31 ?_
        refine g_iload_n cx 1 rfl d_X0_run_32 ?_
        refine g_cVvW cx [.int x1] [] (c_X0_tick l X ad zF zR x1 (g_ge0 hx (by omega)) h695 h691 ((hf 672 (by decide)).trans (g_dr hd (g_ltk hx htk (by omega) (by omega) zc21)).1) ((hf 674 (by decide)).trans (g_dr hd (g_ltk hx htk (by omega) (by omega) zc21)).2)) ml_X0_85 yV_X0_tick d_X0_run_33 (by unfold g_rr; decide) (by decide) 37 rfl rfl rfl (Nat.le_of_ble_eq_true rfl) (fun w8 h9 => ?_)
        obtain ⟨zF10, zR11, rfl, zp12⟩ := h9
        refine g_aload_n cx 0 rfl d_X0_run_36 ?_
        refine g_get cx cl_X0 fl_X0_35 37 (.ref (ad 43)) d_X0_run_37 rfl rfl ?_
        refine g_iload_n cx 1 rfl d_X0_run_40 ?_
        refine g_iconst cx 1 (by decide) d_X0_run_41 ?_
        refine g_iadd cx d_X0_run_42 ?_
        refine g_putN cx cl_X4 fn_X0_89 43 (wX X ad (upd zF10 697 (x1 + 1)) zR11) d_X0_run_43 rfl rfl rfl rfl (Nat.le_of_ble_eq_true rfl) rfl ?_
        refine g_iinc cx (x1 + 1) [(1, .int (x1 + 1)), (0, .ref (ad 37))] 1 d_X0_run_46 rfl (rfl) (by decide) rfl ?_
        refine g_goto cx 6 d_X0_run_49 (by decide) ?_
        refine g_lsub [1, 0] [(0, .ref (ad 37)), (1, .int (x1 + 1))] rfl ?_
        exact ih6 (t + 1) (x1 + 1) (upd zF10 697 (x1 + 1)) zR11 (by have := (g_ltk hx htk (by omega) (by omega) zc21); omega) (by rw [hx]; exact nI_1 t) (g_ltk hx htk (by omega) (by omega) zc21) (by intro k hk; simp only [upd]; rw [if_neg (by omega)]; exact P_tk_trans zp12 (by omega) (hf k hk)) (by simp only [upd]; rw [if_neg (by omega)]; exact P_tk_trans zp12 (by decide) h691) (by simp only [upd]; rw [if_neg (by omega)]; exact P_tk_trans zp12 (by decide) h692) (by simp only [upd]; rw [if_neg (by omega)]; exact P_tk_trans zp12 (by decide) h693) (by simp only [upd]; rw [if_neg (by omega)]; exact P_tk_trans zp12 (by decide) h694) (by simp only [upd]; rw [if_neg (by omega)]; exact P_tk_trans zp12 (by decide) h695) (by simp only [upd]; rw [if_neg (by omega)]; exact P_tk_trans zp12 (by decide) h696) (fun h => absurd h (Nat.succ_ne_zero t)) (by intro j hj; rw [zp12.2 46 (by decide)]; exact hz j hj) (by intro c hc; rw [zp12.2 c (by omega)]; exact hr c hc)
      · refine g_aload_n cx 0 rfl d_X0_run_24 ?_
        refine g_cViW cx [] [] (c_X0_moves l X ad zF zR  h691) ml_X0_81 yV_X0_moves d_X0_run_25 (by unfold g_rr; decide) (by decide) 37 rfl rfl rfl (Nat.le_of_ble_eq_true rfl) (fun r13 w14 h15 => ?_)
        obtain ⟨rfl, rfl⟩ := h15
        refine g_if_eq_t cx 52 d_X0_run_28 (by decide) (by decide) ?_
        exact hret d_X0_run_52 (Nat.le_of_ble_eq_true rfl) (Nat.le_of_ble_eq_true rfl) ⟨zF, zR, rfl, ⟨hf, h691, h692, h693, h694, h695, h696, (fun e => h0 (by have e1 := htk.symm.trans e; have e2 : tk = 0 := (by rcases Nat.eq_zero_or_pos tk with q | q; exact q; exact absurd e1 (nI_ne0 q (by omega))); omega)), hz, hr⟩⟩
  refine g_lsub [1, 0] [(0, .ref (ad 37)), (1, .int 0)] rfl ?_
  exact L6 _ 0 0 zF4 zR5 (Nat.lt_succ_self _) nI_0.symm (Nat.zero_le tk) zp6.1 (zp6.2.1.trans h83) zp6.2.2.1 zp6.2.2.2.1 zp6.2.2.2.2.1 zp6.2.2.2.2.2.1 zp6.2.2.2.2.2.2.1 (fun _ => ⟨zp6.2.2.2.2.2.2.2.1, zp6.2.2.2.2.2.2.2.2.1⟩) zp6.2.2.2.2.2.2.2.2.2.1 (by intro c hc; exact zp6.2.2.2.2.2.2.2.2.2.2 c (by omega))
end
section
theorem g_updS {F : Nat → Int32} {k : Nat} {v : Int32} (h : F k = v) : upd F k v = F := by
  funext j
  unfold upd
  split
  · rename_i e; rw [e, h]
  · rfl
theorem g_m1 (x : Int32) : x &&& (-1) = x := by
  first | (simp; done) | (apply Int32.toBitVec_inj.mp; simp; done) | (apply Int32.toBitVec_inj.mp; ext i hi; simp)
theorem g_in04 {x : Int32} (h : ¬ g_in x 0 4 = 0) : x = 0 ∨ x = 1 ∨ x = 2 ∨ x = 3 ∨ x = 4 := by
  obtain ⟨j, hj, rfl⟩ := g_inj (m := 4) h (by decide)
  have : j = 0 ∨ j = 1 ∨ j = 2 ∨ j = 3 ∨ j = 4 := by omega
  rcases this with rfl | rfl | rfl | rfl | rfl
  · exact Or.inl rfl
  · exact Or.inr (Or.inl rfl)
  · exact Or.inr (Or.inr (Or.inl rfl))
  · exact Or.inr (Or.inr (Or.inr (Or.inl rfl)))
  · exact Or.inr (Or.inr (Or.inr (Or.inr rfl)))
theorem g_vi04 {x : Int32} (h : ¬ g_in x 0 4 = 0) : vp_in x 5 := by
  obtain ⟨j, hj, rfl⟩ := g_inj (m := 4) h (by decide)
  exact vp_in_nI (by omega) (by decide)
def S_best (x : Int32) : Int32 := if g_in x 0 4 = 0 then -1 else if x ≤ 2 then 1 else 0
theorem S_best_of {x : Int32} {b : Nat → Int32} (h : ¬ g_in x 0 4 = 0) (hb : b 0 = 1 ∧ b 1 = 1 ∧ b 2 = 1 ∧ b 3 = 0 ∧ b 4 = 0) : b x.toNatClampNeg = S_best x := by
  rcases g_in04 h with rfl | rfl | rfl | rfl | rfl
  · exact hb.1
  · exact hb.2.1
  · exact hb.2.2.1
  · exact hb.2.2.2.1
  · exact hb.2.2.2.2
def B_ok (F : Nat → Int32) (b : Nat → Int32) : Prop := F 564 = 0 ∧ F 565 = 0 ∧ b 0 = 1 ∧ b 1 = 1 ∧ b 2 = 1

theorem d_X7_lay_0 : g_dc cX7_lay 0 (.aload_n 0) 1 1 := ⟨by decide +kernel, rfl⟩
theorem d_X7_lay_1 : g_dc cX7_lay 1 (.getfield 53) 3 4 := ⟨by decide +kernel, rfl⟩
theorem d_X7_lay_4 : g_dc cX7_lay 4 (.aload_n 1) 1 5 := ⟨by decide +kernel, rfl⟩
theorem d_X7_lay_5 : g_dc cX7_lay 5 (.invokevirtual 64) 3 8 := ⟨by decide +kernel, rfl⟩
theorem d_X7_lay_8 : g_dc cX7_lay 8 (.aload_n 0) 1 9 := ⟨by decide +kernel, rfl⟩
theorem d_X7_lay_9 : g_dc cX7_lay 9 (.getfield 58) 3 12 := ⟨by decide +kernel, rfl⟩
theorem d_X7_lay_12 : g_dc cX7_lay 12 (.aload_n 2) 1 13 := ⟨by decide +kernel, rfl⟩
theorem d_X7_lay_13 : g_dc cX7_lay 13 (.invokevirtual 68) 3 16 := ⟨by decide +kernel, rfl⟩
theorem d_X7_lay_16 : g_dc cX7_lay 16 (.aload_n 0) 1 17 := ⟨by decide +kernel, rfl⟩
theorem d_X7_lay_17 : g_dc cX7_lay 17 (.getfield 46) 3 20 := ⟨by decide +kernel, rfl⟩
theorem d_X7_lay_20 : g_dc cX7_lay 20 (.getfield 73) 3 23 := ⟨by decide +kernel, rfl⟩
theorem d_X7_lay_23 : g_dc cX7_lay 23 (.invokevirtual 77) 3 26 := ⟨by decide +kernel, rfl⟩
theorem d_X7_lay_26 : g_dc cX7_lay 26 (.return_) 1 27 := ⟨by decide +kernel, rfl⟩
set_option maxHeartbeats 4000000 in
set_option maxRecDepth 100000 in
theorem c_X7_lay (l : Launch) (X : gX) (ad : Nat → Nat) (F : Nat → Int32) (R : Nat → Nat → Int32) : g_Cv l X yX7_lay cX7_lay 3 2 0 0 [.ref (ad 35), .ref (ad 1), .ref (ad 11)] (wX X ad F R) (fun w => w = wX X ad (upd (upd (upd (upd (upd (upd (upd (upd F 80 (F 16)) 81 (F 17)) 82 (F 18)) 83 (F 19)) 84 (F 20)) 241 (F 177)) 672 0) 674 0) (g_u (g_u R 6 (va_cpy (R 2) (R 6) 0 0 80)) 16 (va_cpy (R 12) (R 16) 0 0 60)) ∧ True) := by
  refine g_mv (by decide +kernel) (Nat.le_of_ble_eq_true rfl) (fun E cx hret => ?_)
  refine g_aload_n cx 0 rfl d_X7_lay_0 ?_
  refine g_get cx cl_X7 fl_X7_53 35 (.ref (ad 5)) d_X7_lay_1 rfl rfl ?_
  refine g_aload_n cx 1 rfl d_X7_lay_4 ?_
  refine g_cVv cx [.ref (ad 1)] [] (c_X8_copy l X (ad 5) (ad 6) (F 80) (F 81) (F 82) (F 83) (F 84) (R 6) (ad 1) (ad 2) (F 16) (F 17) (F 18) (F 19) (F 20) (R 2)) ml_X7_64 yV_X8_copy d_X7_lay_5 (by unfold g_rr; decide) (by decide) 0 rfl rfl [5, 6, 1, 2] rfl (by decide) rfl (Nat.le_of_ble_eq_true rfl) (by rintro _ ⟨rfl, _⟩; rfl) (fun w2 h3 => ?_)
  obtain ⟨rfl, -⟩ := h3
  refine g_weq (wX X ad (upd (upd (upd (upd (upd F 80 (F 16)) 81 (F 17)) 82 (F 18)) 83 (F 19)) 84 (F 20)) (g_u R 6 (va_cpy (R 2) (R 6) 0 0 80))) rfl ?_
  refine g_aload_n cx 0 rfl d_X7_lay_8 ?_
  refine g_get cx cl_X7 fl_X7_58 35 (.ref (ad 15)) d_X7_lay_9 rfl rfl ?_
  refine g_aload_n cx 2 rfl d_X7_lay_12 ?_
  refine g_cVv cx [.ref (ad 11)] [] (c_X5_copy l X (ad 15) (ad 16) (F 241) (R 16) (ad 11) (ad 12) (F 177) (R 12)) ml_X7_68 yV_X5_copy d_X7_lay_13 (by unfold g_rr; decide) (by decide) 0 rfl rfl [15, 16, 11, 12] rfl (by decide) rfl (Nat.le_of_ble_eq_true rfl) (by rintro _ ⟨rfl, _⟩; rfl) (fun w5 h6 => ?_)
  obtain ⟨rfl, -⟩ := h6
  refine g_weq (wX X ad (upd (upd (upd (upd (upd (upd F 80 (F 16)) 81 (F 17)) 82 (F 18)) 83 (F 19)) 84 (F 20)) 241 (F 177)) (g_u (g_u R 6 (va_cpy (R 2) (R 6) 0 0 80)) 16 (va_cpy (R 12) (R 16) 0 0 60))) rfl ?_
  refine g_aload_n cx 0 rfl d_X7_lay_16 ?_
  refine g_get cx cl_X7 fl_X7_46 35 (.ref (ad 37)) d_X7_lay_17 rfl rfl ?_
  refine g_getN cx cl_X0 fn_X7_73 37 (.ref (ad 42)) d_X7_lay_20 rfl rfl ?_
  refine g_cVv cx [] [] (c_X1_holdStill l X (ad 42) (F 672) (F 673) (F 674) (F 675)) ml_X7_77 yV_X1_holdStill d_X7_lay_23 (by unfold g_rr; decide) (by decide) 0 rfl rfl [42] rfl (by decide) rfl (Nat.le_of_ble_eq_true rfl) (by rintro _ ⟨rfl, _⟩; rfl) (fun w8 h9 => ?_)
  obtain ⟨rfl, -⟩ := h9
  refine g_weq (wX X ad (upd (upd (upd (upd (upd (upd (upd (upd F 80 (F 16)) 81 (F 17)) 82 (F 18)) 83 (F 19)) 84 (F 20)) 241 (F 177)) 672 0) 674 0) (g_u (g_u R 6 (va_cpy (R 2) (R 6) 0 0 80)) 16 (va_cpy (R 12) (R 16) 0 0 60))) rfl ?_
  exact hret d_X7_lay_26 (Nat.le_of_ble_eq_true rfl) (Nat.le_of_ble_eq_true rfl) (⟨rfl, trivial⟩)
theorem d_X7_improves_0 : g_dc cX7_improves 0 (.aload_n 0) 1 1 := ⟨by decide +kernel, rfl⟩
theorem d_X7_improves_1 : g_dc cX7_improves 1 (.getfield 63) 3 4 := ⟨by decide +kernel, rfl⟩
theorem d_X7_improves_4 : g_dc cX7_improves 4 (.invokevirtual 98) 3 7 := ⟨by decide +kernel, rfl⟩
theorem d_X7_improves_7 : g_dc cX7_improves 7 (.istore_n 1) 1 8 := ⟨by decide +kernel, rfl⟩
theorem d_X7_improves_8 : g_dc cX7_improves 8 (.aload_n 0) 1 9 := ⟨by decide +kernel, rfl⟩
theorem d_X7_improves_9 : g_dc cX7_improves 9 (.getfield 63) 3 12 := ⟨by decide +kernel, rfl⟩
theorem d_X7_improves_12 : g_dc cX7_improves 12 (.invokevirtual 101) 3 15 := ⟨by decide +kernel, rfl⟩
theorem d_X7_improves_15 : g_dc cX7_improves 15 (.istore_n 2) 1 16 := ⟨by decide +kernel, rfl⟩
theorem d_X7_improves_16 : g_dc cX7_improves 16 (.iload_n 1) 1 17 := ⟨by decide +kernel, rfl⟩
theorem d_X7_improves_17 : g_dc cX7_improves 17 (.aload_n 0) 1 18 := ⟨by decide +kernel, rfl⟩
theorem d_X7_improves_18 : g_dc cX7_improves 18 (.getfield 9) 3 21 := ⟨by decide +kernel, rfl⟩
theorem d_X7_improves_21 : g_dc cX7_improves 21 (.if_icmp .lt 19) 3 24 := ⟨by decide +kernel, rfl⟩
theorem d_X7_improves_24 : g_dc cX7_improves 24 (.iload_n 1) 1 25 := ⟨by decide +kernel, rfl⟩
theorem d_X7_improves_25 : g_dc cX7_improves 25 (.aload_n 0) 1 26 := ⟨by decide +kernel, rfl⟩
theorem d_X7_improves_26 : g_dc cX7_improves 26 (.getfield 9) 3 29 := ⟨by decide +kernel, rfl⟩
theorem d_X7_improves_29 : g_dc cX7_improves 29 (.if_icmp .ne 13) 3 32 := ⟨by decide +kernel, rfl⟩
theorem d_X7_improves_42 : g_dc cX7_improves 42 (.aload_n 0) 1 43 := ⟨by decide +kernel, rfl⟩
theorem d_X7_improves_43 : g_dc cX7_improves 43 (.iload_n 1) 1 44 := ⟨by decide +kernel, rfl⟩
theorem d_X7_improves_44 : g_dc cX7_improves 44 (.putfield 9) 3 47 := ⟨by decide +kernel, rfl⟩
theorem d_X7_improves_47 : g_dc cX7_improves 47 (.aload_n 0) 1 48 := ⟨by decide +kernel, rfl⟩
theorem d_X7_improves_48 : g_dc cX7_improves 48 (.iload_n 2) 1 49 := ⟨by decide +kernel, rfl⟩
theorem d_X7_improves_49 : g_dc cX7_improves 49 (.putfield 15) 3 52 := ⟨by decide +kernel, rfl⟩
theorem d_X7_improves_52 : g_dc cX7_improves 52 (.iconst 1) 1 53 := ⟨by decide +kernel, rfl⟩
theorem d_X7_improves_53 : g_dc cX7_improves 53 (.ireturn) 1 54 := ⟨by decide +kernel, rfl⟩
set_option maxHeartbeats 4000000 in
set_option maxRecDepth 100000 in
theorem c1_X7_improves (l : Launch) (X : gX) (ad : Nat → Nat) (F : Nat → Int32) (R : Nat → Nat → Int32) (h691 : F 691 = 0) (hz : ∀ j, j < 30 → R 46 j = 0) (hs : F 564 = -1) : g_Ci l X yX7_improves cX7_improves 3 (some .boolean) 3 0 0 [.ref (ad 35)] (wX X ad F R) (fun r w => w = wX X ad (upd (upd F 564 0) 565 0) R ∧ r = 1) := by
  refine g_mi (by decide +kernel) (Nat.le_of_ble_eq_true rfl) (fun E cx hret => ?_)
  refine g_aload_n cx 0 rfl d_X7_improves_0 ?_
  refine g_get cx cl_X7 fl_X7_63 35 (.ref (ad 43)) d_X7_improves_1 rfl rfl ?_
  refine g_cViW cx [] [] (c_X4_standing l X ad F R  h691) ml_X7_98 yV_X4_standing d_X7_improves_4 (by unfold g_rr; decide) (by decide) 43 rfl rfl rfl (Nat.le_of_ble_eq_true rfl) (fun r1 w2 h3 => ?_)
  obtain ⟨rfl, rfl⟩ := h3
  refine g_istore_n cx [(1, .int 0), (0, .ref (ad 35))] d_X7_improves_7 (by decide) rfl ?_
  refine g_aload_n cx 1 rfl d_X7_improves_8 ?_
  refine g_get cx cl_X7 fl_X7_63 35 (.ref (ad 43)) d_X7_improves_9 rfl rfl ?_
  refine g_cViW cx [] [] (c_X4_inches l X ad F R  hz) ml_X7_101 yV_X4_inches d_X7_improves_12 (by unfold g_rr; decide) (by decide) 43 rfl rfl rfl (Nat.le_of_ble_eq_true rfl) (fun r4 w5 h6 => ?_)
  obtain ⟨rfl, rfl⟩ := h6
  refine g_istore_n cx [(2, .int 0), (1, .int 0), (0, .ref (ad 35))] d_X7_improves_15 (by decide) rfl ?_
  refine g_iload_n cx 1 rfl d_X7_improves_16 ?_
  refine g_aload_n cx 2 rfl d_X7_improves_17 ?_
  refine g_get cx cl_X7 fl_X7_9 35 (.int (F 564)) d_X7_improves_18 rfl rfl ?_
  refine g_toi (-1) (hs) ?_
  refine g_icmp_lt_f cx 40 d_X7_improves_21 (by decide) (by decide) ?_
  refine g_iload_n cx 1 rfl d_X7_improves_24 ?_
  refine g_aload_n cx 2 rfl d_X7_improves_25 ?_
  refine g_get cx cl_X7 fl_X7_9 35 (.int (F 564)) d_X7_improves_26 rfl rfl ?_
  refine g_toi (-1) (hs) ?_
  refine g_icmp_ne_t cx 42 d_X7_improves_29 (by decide) (by decide) ?_
  refine g_aload_n cx 2 rfl d_X7_improves_42 ?_
  refine g_iload_n cx 1 rfl d_X7_improves_43 ?_
  refine g_put cx cl_X7 fl_X7_9 35 (wX X ad (upd F 564 0) R) d_X7_improves_44 rfl rfl rfl rfl (Nat.le_of_ble_eq_true rfl) rfl ?_
  refine g_aload_n cx 2 rfl d_X7_improves_47 ?_
  refine g_iload_n cx 0 rfl d_X7_improves_48 ?_
  refine g_put cx cl_X7 fl_X7_15 35 (wX X ad (upd (upd F 564 0) 565 0) R) d_X7_improves_49 rfl rfl rfl rfl (Nat.le_of_ble_eq_true rfl) rfl ?_
  refine g_iconst cx 1 (by decide) d_X7_improves_52 ?_
  exact hret d_X7_improves_53 (Nat.le_of_ble_eq_true rfl) (Nat.le_of_ble_eq_true rfl) rfl (⟨rfl, rfl⟩)
theorem d_X7_improves_32 : g_dc cX7_improves 32 (.iload_n 2) 1 33 := ⟨by decide +kernel, rfl⟩
theorem d_X7_improves_33 : g_dc cX7_improves 33 (.aload_n 0) 1 34 := ⟨by decide +kernel, rfl⟩
theorem d_X7_improves_34 : g_dc cX7_improves 34 (.getfield 15) 3 37 := ⟨by decide +kernel, rfl⟩
theorem d_X7_improves_37 : g_dc cX7_improves 37 (.if_icmp .lt 5) 3 40 := ⟨by decide +kernel, rfl⟩
theorem d_X7_improves_40 : g_dc cX7_improves 40 (.iconst 0) 1 41 := ⟨by decide +kernel, rfl⟩
theorem d_X7_improves_41 : g_dc cX7_improves 41 (.ireturn) 1 42 := ⟨by decide +kernel, rfl⟩
set_option maxHeartbeats 4000000 in
set_option maxRecDepth 100000 in
theorem c2_X7_improves (l : Launch) (X : gX) (ad : Nat → Nat) (F : Nat → Int32) (R : Nat → Nat → Int32) (h691 : F 691 = 0) (hz : ∀ j, j < 30 → R 46 j = 0) (hs : F 564 = 0) (hi : F 565 = 0) : g_Ci l X yX7_improves cX7_improves 3 (some .boolean) 3 0 0 [.ref (ad 35)] (wX X ad F R) (fun r w => w = wX X ad F R ∧ r = 0) := by
  refine g_mi (by decide +kernel) (Nat.le_of_ble_eq_true rfl) (fun E cx hret => ?_)
  refine g_aload_n cx 0 rfl d_X7_improves_0 ?_
  refine g_get cx cl_X7 fl_X7_63 35 (.ref (ad 43)) d_X7_improves_1 rfl rfl ?_
  refine g_cViW cx [] [] (c_X4_standing l X ad F R  h691) ml_X7_98 yV_X4_standing d_X7_improves_4 (by unfold g_rr; decide) (by decide) 43 rfl rfl rfl (Nat.le_of_ble_eq_true rfl) (fun r1 w2 h3 => ?_)
  obtain ⟨rfl, rfl⟩ := h3
  refine g_istore_n cx [(1, .int 0), (0, .ref (ad 35))] d_X7_improves_7 (by decide) rfl ?_
  refine g_aload_n cx 1 rfl d_X7_improves_8 ?_
  refine g_get cx cl_X7 fl_X7_63 35 (.ref (ad 43)) d_X7_improves_9 rfl rfl ?_
  refine g_cViW cx [] [] (c_X4_inches l X ad F R  hz) ml_X7_101 yV_X4_inches d_X7_improves_12 (by unfold g_rr; decide) (by decide) 43 rfl rfl rfl (Nat.le_of_ble_eq_true rfl) (fun r4 w5 h6 => ?_)
  obtain ⟨rfl, rfl⟩ := h6
  refine g_istore_n cx [(2, .int 0), (1, .int 0), (0, .ref (ad 35))] d_X7_improves_15 (by decide) rfl ?_
  refine g_iload_n cx 1 rfl d_X7_improves_16 ?_
  refine g_aload_n cx 2 rfl d_X7_improves_17 ?_
  refine g_get cx cl_X7 fl_X7_9 35 (.int (F 564)) d_X7_improves_18 rfl rfl ?_
  refine g_toi 0 (hs) ?_
  refine g_icmp_lt_f cx 40 d_X7_improves_21 (by decide) (by decide) ?_
  refine g_iload_n cx 1 rfl d_X7_improves_24 ?_
  refine g_aload_n cx 2 rfl d_X7_improves_25 ?_
  refine g_get cx cl_X7 fl_X7_9 35 (.int (F 564)) d_X7_improves_26 rfl rfl ?_
  refine g_toi 0 (hs) ?_
  refine g_icmp_ne_f cx 42 d_X7_improves_29 (by decide) (by decide) ?_
  refine g_iload_n cx 0 rfl d_X7_improves_32 ?_
  refine g_aload_n cx 2 rfl d_X7_improves_33 ?_
  refine g_get cx cl_X7 fl_X7_15 35 (.int (F 565)) d_X7_improves_34 rfl rfl ?_
  refine g_toi 0 (hi) ?_
  refine g_icmp_lt_f cx 42 d_X7_improves_37 (by decide) (by decide) ?_
  refine g_iconst cx 0 (by decide) d_X7_improves_40 ?_
  exact hret d_X7_improves_41 (Nat.le_of_ble_eq_true rfl) (Nat.le_of_ble_eq_true rfl) rfl (⟨rfl, rfl⟩)
theorem d_X7_leastPace_0 : g_dc cX7_leastPace 0 (.iconst 1) 1 1 := ⟨by decide +kernel, rfl⟩
theorem d_X7_leastPace_1 : g_dc cX7_leastPace 1 (.istore_n 1) 1 2 := ⟨by decide +kernel, rfl⟩
theorem d_X7_leastPace_2 : g_dc cX7_leastPace 2 (.iload_n 1) 1 3 := ⟨by decide +kernel, rfl⟩
theorem d_X7_leastPace_3 : g_dc cX7_leastPace 3 (.bipush 40) 2 5 := ⟨by decide +kernel, rfl⟩
theorem d_X7_leastPace_5 : g_dc cX7_leastPace 5 (.if_icmp .gt 43) 3 8 := ⟨by decide +kernel, rfl⟩
theorem d_X7_leastPace_8 : g_dc cX7_leastPace 8 (.aload_n 0) 1 9 := ⟨by decide +kernel, rfl⟩
theorem d_X7_leastPace_9 : g_dc cX7_leastPace 9 (.getfield 58) 3 12 := ⟨by decide +kernel, rfl⟩
theorem d_X7_leastPace_12 : g_dc cX7_leastPace 12 (.iload_n 1) 1 13 := ⟨by decide +kernel, rfl⟩
theorem d_X7_leastPace_13 : g_dc cX7_leastPace 13 (.aload_n 0) 1 14 := ⟨by decide +kernel, rfl⟩
theorem d_X7_leastPace_14 : g_dc cX7_leastPace 14 (.getfield 53) 3 17 := ⟨by decide +kernel, rfl⟩
theorem d_X7_leastPace_17 : g_dc cX7_leastPace 17 (.getfield 82) 3 20 := ⟨by decide +kernel, rfl⟩
theorem d_X7_leastPace_20 : g_dc cX7_leastPace 20 (.invokevirtual 85) 3 23 := ⟨by decide +kernel, rfl⟩
theorem d_X7_leastPace_23 : g_dc cX7_leastPace 23 (.aload_n 0) 1 24 := ⟨by decide +kernel, rfl⟩
theorem d_X7_leastPace_24 : g_dc cX7_leastPace 24 (.getfield 46) 3 27 := ⟨by decide +kernel, rfl⟩
theorem d_X7_leastPace_27 : g_dc cX7_leastPace 27 (.invokevirtual 89) 3 30 := ⟨by decide +kernel, rfl⟩
theorem d_X7_leastPace_30 : g_dc cX7_leastPace 30 (.aload_n 0) 1 31 := ⟨by decide +kernel, rfl⟩
theorem d_X7_leastPace_31 : g_dc cX7_leastPace 31 (.getfield 63) 3 34 := ⟨by decide +kernel, rfl⟩
theorem d_X7_leastPace_34 : g_dc cX7_leastPace 34 (.invokevirtual 92) 3 37 := ⟨by decide +kernel, rfl⟩
theorem d_X7_leastPace_37 : g_dc cX7_leastPace 37 (.ifCond .eq 5) 3 40 := ⟨by decide +kernel, rfl⟩
theorem d_X7_leastPace_40 : g_dc cX7_leastPace 40 (.iload_n 1) 1 41 := ⟨by decide +kernel, rfl⟩
theorem d_X7_leastPace_41 : g_dc cX7_leastPace 41 (.ireturn) 1 42 := ⟨by decide +kernel, rfl⟩
set_option maxHeartbeats 4000000 in
set_option maxRecDepth 100000 in
theorem c_X7_leastPace (l : Launch) (X : gX) (ad : Nat → Nat) (F : Nat → Int32) (R : Nat → Nat → Int32) (h82 : F 82 = 0) (h83 : F 83 = 0) (h672 : F 672 = 0) (h674 : F 674 = 0) : g_Ci l X yX7_leastPace cX7_leastPace 2 (some .int) 6 0 0 [.ref (ad 35)] (wX X ad F R) (fun r w => r = 1) := by
  refine g_mi (by decide +kernel) (Nat.le_of_ble_eq_true rfl) (fun E cx hret => ?_)
  refine g_iconst cx 1 (by decide) d_X7_leastPace_0 ?_
  refine g_istore_n cx [(1, .int 1), (0, .ref (ad 35))] d_X7_leastPace_1 (by decide) rfl ?_
  refine g_iload_n cx 0 rfl d_X7_leastPace_2 ?_
  refine g_bipush cx 40 (by decide) d_X7_leastPace_3 ?_
  refine g_icmp_gt_f cx 48 d_X7_leastPace_5 (by decide) (by decide) ?_
  refine g_aload_n cx 1 rfl d_X7_leastPace_8 ?_
  refine g_get cx cl_X7 fl_X7_58 35 (.ref (ad 15)) d_X7_leastPace_9 rfl rfl ?_
  refine g_iload_n cx 0 rfl d_X7_leastPace_12 ?_
  refine g_aload_n cx 1 rfl d_X7_leastPace_13 ?_
  refine g_get cx cl_X7 fl_X7_53 35 (.ref (ad 5)) d_X7_leastPace_14 rfl rfl ?_
  refine g_getN cx cl_X8 fn_X7_82 5 (.int (F 81)) d_X7_leastPace_17 rfl rfl ?_
  refine g_cVv cx [.int 1, .int (F 81)] [] (c_X5_even l X (ad 15) (ad 16) (F 241) (R 16) 1 (F 81)) ml_X7_85 yV_X5_even d_X7_leastPace_20 (by unfold g_rr; decide) (by decide) 0 rfl rfl [15, 16] rfl (by decide) rfl (Nat.le_of_ble_eq_true rfl) (by rintro _ ⟨_, _, rfl, _⟩; rfl) (fun w2 h3 => ?_)
  obtain ⟨t4, g5, rfl, h6⟩ := h3
  refine g_weq (wX X ad (upd F 241 (nI t4)) (g_u R 16 g5)) rfl ?_
  refine g_aload_n cx 1 rfl d_X7_leastPace_23 ?_
  refine g_get cx cl_X7 fl_X7_46 35 (.ref (ad 37)) d_X7_leastPace_24 rfl rfl ?_
  refine g_cVvW cx [] [] (c_X0_run l X ad (upd F 241 (nI t4)) (g_u R 16 g5)  t4 rfl h6 h82 h83 (Or.inr ⟨h672, h674⟩)) ml_X7_89 yV_X0_run d_X7_leastPace_27 (by unfold g_rr; decide) (by decide) 37 rfl rfl rfl (Nat.le_of_ble_eq_true rfl) (fun w8 h9 => ?_)
  obtain ⟨zF10, zR11, rfl, zp12⟩ := h9
  refine g_aload_n cx 1 rfl d_X7_leastPace_30 ?_
  refine g_get cx cl_X7 fl_X7_63 35 (.ref (ad 43)) d_X7_leastPace_31 rfl rfl ?_
  refine g_cViW cx [] [] (c_X4_allStand l X ad zF10 zR11  zp12.2.1) ml_X7_92 yV_X4_allStand d_X7_leastPace_34 (by unfold g_rr; decide) (by decide) 43 rfl rfl rfl (Nat.le_of_ble_eq_true rfl) (fun r13 w14 h15 => ?_)
  obtain ⟨rfl, rfl⟩ := h15
  refine g_if_eq_f cx 42 d_X7_leastPace_37 (by decide) (by decide) ?_
  refine g_iload_n cx 0 rfl d_X7_leastPace_40 ?_
  exact hret d_X7_leastPace_41 (Nat.le_of_ble_eq_true rfl) (Nat.le_of_ble_eq_true rfl) rfl (rfl)
theorem d_X7_largestStanding_0 : g_dc cX7_largestStanding 0 (.aload_n 0) 1 1 := ⟨by decide +kernel, rfl⟩
theorem d_X7_largestStanding_1 : g_dc cX7_largestStanding 1 (.getfield 53) 3 4 := ⟨by decide +kernel, rfl⟩
theorem d_X7_largestStanding_4 : g_dc cX7_largestStanding 4 (.getfield 135) 3 7 := ⟨by decide +kernel, rfl⟩
theorem d_X7_largestStanding_7 : g_dc cX7_largestStanding 7 (.istore_n 1) 1 8 := ⟨by decide +kernel, rfl⟩
theorem d_X7_largestStanding_8 : g_dc cX7_largestStanding 8 (.iconst 0) 1 9 := ⟨by decide +kernel, rfl⟩
theorem d_X7_largestStanding_9 : g_dc cX7_largestStanding 9 (.istore_n 2) 1 10 := ⟨by decide +kernel, rfl⟩
theorem d_X7_largestStanding_10 : g_dc cX7_largestStanding 10 (.iconst 1) 1 11 := ⟨by decide +kernel, rfl⟩
theorem d_X7_largestStanding_11 : g_dc cX7_largestStanding 11 (.istore_n 3) 1 12 := ⟨by decide +kernel, rfl⟩
theorem d_X7_largestStanding_12 : g_dc cX7_largestStanding 12 (.iload_n 3) 1 13 := ⟨by decide +kernel, rfl⟩
theorem d_X7_largestStanding_13 : g_dc cX7_largestStanding 13 (.sipush 1024) 3 16 := ⟨by decide +kernel, rfl⟩
theorem d_X7_largestStanding_16 : g_dc cX7_largestStanding 16 (.if_icmp .ge 59) 3 19 := ⟨by decide +kernel, rfl⟩
theorem d_X7_largestStanding_19 : g_dc cX7_largestStanding 19 (.iload_n 3) 1 20 := ⟨by decide +kernel, rfl⟩
theorem d_X7_largestStanding_20 : g_dc cX7_largestStanding 20 (.iload_n 1) 1 21 := ⟨by decide +kernel, rfl⟩
theorem d_X7_largestStanding_21 : g_dc cX7_largestStanding 21 (.iconst (-1)) 1 22 := ⟨by decide +kernel, rfl⟩
theorem d_X7_largestStanding_22 : g_dc cX7_largestStanding 22 (.ixor) 1 23 := ⟨by decide +kernel, rfl⟩
theorem d_X7_largestStanding_23 : g_dc cX7_largestStanding 23 (.iand) 1 24 := ⟨by decide +kernel, rfl⟩
theorem d_X7_largestStanding_24 : g_dc cX7_largestStanding 24 (.ifCond .ne 45) 3 27 := ⟨by decide +kernel, rfl⟩
theorem d_X7_largestStanding_69 : g_dc cX7_largestStanding 69 (.iinc 3 1) 3 72 := ⟨by decide +kernel, rfl⟩
theorem d_X7_largestStanding_72 : g_dc cX7_largestStanding 72 (.goto (-60)) 3 75 := ⟨by decide +kernel, rfl⟩
theorem d_X7_largestStanding_75 : g_dc cX7_largestStanding 75 (.aload_n 0) 1 76 := ⟨by decide +kernel, rfl⟩
theorem d_X7_largestStanding_76 : g_dc cX7_largestStanding 76 (.getfield 53) 3 79 := ⟨by decide +kernel, rfl⟩
theorem d_X7_largestStanding_79 : g_dc cX7_largestStanding 79 (.iload_n 1) 1 80 := ⟨by decide +kernel, rfl⟩
theorem d_X7_largestStanding_80 : g_dc cX7_largestStanding 80 (.putfield 135) 3 83 := ⟨by decide +kernel, rfl⟩
theorem d_X7_largestStanding_83 : g_dc cX7_largestStanding 83 (.iload_n 2) 1 84 := ⟨by decide +kernel, rfl⟩
theorem d_X7_largestStanding_84 : g_dc cX7_largestStanding 84 (.ireturn) 1 85 := ⟨by decide +kernel, rfl⟩
set_option maxHeartbeats 4000000 in
set_option maxRecDepth 100000 in
theorem c_X7_largestStanding (l : Launch) (X : gX) (ad : Nat → Nat) (F : Nat → Int32) (R : Nat → Nat → Int32) (h83 : F 83 = 0) : g_Ci l X yX7_largestStanding cX7_largestStanding 4 (some .int) 3 0 0 [.ref (ad 35)] (wX X ad F R) (fun r w => r = 0) := by
  refine g_mi (by decide +kernel) (Nat.le_of_ble_eq_true rfl) (fun E cx hret => ?_)
  refine g_aload_n cx 0 rfl d_X7_largestStanding_0 ?_
  refine g_get cx cl_X7 fl_X7_53 35 (.ref (ad 5)) d_X7_largestStanding_1 rfl rfl ?_
  refine g_getN cx cl_X8 fn_X7_135 5 (.int (F 83)) d_X7_largestStanding_4 rfl rfl ?_
  refine g_toi 0 (h83) ?_
  refine g_istore_n cx [(1, .int 0), (0, .ref (ad 35))] d_X7_largestStanding_7 (by decide) rfl ?_
  refine g_iconst cx 0 (by decide) d_X7_largestStanding_8 ?_
  refine g_istore_n cx [(2, .int 0), (1, .int 0), (0, .ref (ad 35))] d_X7_largestStanding_9 (by decide) rfl ?_
  refine g_iconst cx 1 (by decide) d_X7_largestStanding_10 ?_
  refine g_istore_n cx [(3, .int 1), (2, .int 0), (1, .int 0), (0, .ref (ad 35))] d_X7_largestStanding_11 (by decide) rfl ?_
  have L12 : ∀ (N : Nat) (i : Nat) (x3 : Int32), 1024 - i < N → (x3 = nI i) → (1 ≤ i) → (i ≤ 1024) → G X E 4 0 0 (wX X ad F R) [(0, .ref (ad 35)), (1, .int 0), (2, .int 0), (3, .int x3)] 12 [] := by
    intro N
    induction N with
    | zero => intro i x3 hm; exact absurd hm (Nat.not_lt_zero _)
    | succ N ih12 =>
      intro i x3 hm hx h1 hi
      refine g_iload_n cx 3 rfl d_X7_largestStanding_12 ?_
      refine g_sipush cx 1024 (by decide) d_X7_largestStanding_13 ?_
      refine g_icmp_ge cx 75 d_X7_largestStanding_16 (by decide) (fun zc16 => ?_) (fun zc16 => ?_)
      · refine g_aload_n cx 0 rfl d_X7_largestStanding_75 ?_
        refine g_get cx cl_X7 fl_X7_53 35 (.ref (ad 5)) d_X7_largestStanding_76 rfl rfl ?_
        refine g_iload_n cx 1 rfl d_X7_largestStanding_79 ?_
        refine g_putN cx cl_X8 fn_X7_135 5 (wX X ad (upd F 83 0) R) d_X7_largestStanding_80 rfl rfl rfl rfl (Nat.le_of_ble_eq_true rfl) rfl ?_
        refine g_iload_n cx 2 rfl d_X7_largestStanding_83 ?_
        exact hret d_X7_largestStanding_84 (Nat.le_of_ble_eq_true rfl) (Nat.le_of_ble_eq_true rfl) rfl (rfl)
      · refine g_iload_n cx 3 rfl d_X7_largestStanding_19 ?_
        refine g_iload_n cx 1 rfl d_X7_largestStanding_20 ?_
        refine g_iconst cx (-1) (by decide) d_X7_largestStanding_21 ?_
        refine g_ixor cx d_X7_largestStanding_22 ?_
        refine g_toi (-1) (by decide) ?_
        refine g_iand cx d_X7_largestStanding_23 ?_
        refine g_if_ne_t cx 69 d_X7_largestStanding_24 (by decide) (by rw [g_m1, hx]; exact nI_ne0 (by omega) (by omega)) ?_
        refine g_iinc cx (x3 + 1) [(3, .int (x3 + 1)), (0, .ref (ad 35)), (1, .int 0), (2, .int 0)] 3 d_X7_largestStanding_69 rfl (rfl) (by decide) rfl ?_
        refine g_goto cx 12 d_X7_largestStanding_72 (by decide) ?_
        refine g_lsub [1, 2, 3, 0] [(0, .ref (ad 35)), (1, .int 0), (2, .int 0), (3, .int (x3 + 1))] rfl ?_
        exact ih12 (i + 1) (x3 + 1) (by have := g_lt10 (n := 1024) hx (by omega) zc16; omega) (by rw [hx]; exact nI_1 i) (by omega) (by have := g_lt10 (n := 1024) hx (by omega) zc16; omega)
  refine g_lsub [3, 2, 1, 0] [(0, .ref (ad 35)), (1, .int 0), (2, .int 0), (3, .int 1)] rfl ?_
  exact L12 _ 1 1 (Nat.lt_succ_self _) rfl (by omega) (by omega)
theorem d_X7_bestIs_0 : g_dc cX7_bestIs 0 (.iload_n 1) 1 1 := ⟨by decide +kernel, rfl⟩
theorem d_X7_bestIs_1 : g_dc cX7_bestIs 1 (.iconst 0) 1 2 := ⟨by decide +kernel, rfl⟩
theorem d_X7_bestIs_2 : g_dc cX7_bestIs 2 (.aload_n 0) 1 3 := ⟨by decide +kernel, rfl⟩
theorem d_X7_bestIs_3 : g_dc cX7_bestIs 3 (.getfield 27) 3 6 := ⟨by decide +kernel, rfl⟩
theorem d_X7_bestIs_6 : g_dc cX7_bestIs 6 (.arraylength) 1 7 := ⟨by decide +kernel, rfl⟩
theorem d_X7_bestIs_7 : g_dc cX7_bestIs 7 (.iconst 1) 1 8 := ⟨by decide +kernel, rfl⟩
theorem d_X7_bestIs_8 : g_dc cX7_bestIs 8 (.isub) 1 9 := ⟨by decide +kernel, rfl⟩
theorem d_X7_bestIs_9 : g_dc cX7_bestIs 9 (.invokestatic 103) 3 12 := ⟨by decide +kernel, rfl⟩
theorem d_X7_bestIs_12 : g_dc cX7_bestIs 12 (.ifCond .eq 12) 3 15 := ⟨by decide +kernel, rfl⟩
theorem d_X7_bestIs_15 : g_dc cX7_bestIs 15 (.aload_n 0) 1 16 := ⟨by decide +kernel, rfl⟩
theorem d_X7_bestIs_16 : g_dc cX7_bestIs 16 (.getfield 27) 3 19 := ⟨by decide +kernel, rfl⟩
theorem d_X7_bestIs_19 : g_dc cX7_bestIs 19 (.iload_n 1) 1 20 := ⟨by decide +kernel, rfl⟩
theorem d_X7_bestIs_20 : g_dc cX7_bestIs 20 (.iaload) 1 21 := ⟨by decide +kernel, rfl⟩
theorem d_X7_bestIs_21 : g_dc cX7_bestIs 21 (.goto 4) 3 24 := ⟨by decide +kernel, rfl⟩
theorem d_X7_bestIs_25 : g_dc cX7_bestIs 25 (.ireturn) 1 26 := ⟨by decide +kernel, rfl⟩
set_option maxHeartbeats 4000000 in
set_option maxRecDepth 100000 in
theorem c_X7_bestIs (l : Launch) (X : gX) (ad : Nat → Nat) (F : Nat → Int32) (R : Nat → Nat → Int32) (what : Int32) (hw : ¬ g_in what 0 4 = 0) (hb : R 36 0 = 1 ∧ R 36 1 = 1 ∧ R 36 2 = 1 ∧ R 36 3 = 0 ∧ R 36 4 = 0) : g_Ci l X yX7_bestIs cX7_bestIs 2 (some .int) 2 0 0 [.ref (ad 35), .int what] (wX X ad F R) (fun r w => r = S_best what) := by
  refine g_mi (by decide +kernel) (Nat.le_of_ble_eq_true rfl) (fun E cx hret => ?_)
  refine g_iload_n cx 1 rfl d_X7_bestIs_0 ?_
  refine g_iconst cx 0 (by decide) d_X7_bestIs_1 ?_
  refine g_aload_n cx 0 rfl d_X7_bestIs_2 ?_
  refine g_get cx cl_X7 fl_X7_27 35 (.ref (ad 36)) d_X7_bestIs_3 rfl rfl ?_
  refine g_alen cx 36 5 d_X7_bestIs_6 rfl (by decide) ?_
  refine g_iconst cx 1 (by decide) d_X7_bestIs_7 ?_
  refine g_isub cx d_X7_bestIs_8 ?_
  refine g_toi 4 (by decide) ?_
  refine g_cNiW cx [.int what, .int 0, .int 4] [] (c_X10_within l X _ what 0 4) mn_X7_103 yS_X10_within d_X7_bestIs_9 (by unfold g_rr; decide) (by decide) rfl (Nat.le_of_ble_eq_true rfl) (fun r1 w2 h3 => ?_)
  obtain ⟨rfl, rfl⟩ := h3
  refine g_if_eq_f cx 24 d_X7_bestIs_12 (by decide) (hw) ?_
  refine g_aload_n cx 0 rfl d_X7_bestIs_15 ?_
  refine g_get cx cl_X7 fl_X7_27 35 (.ref (ad 36)) d_X7_bestIs_16 rfl rfl ?_
  refine g_iload_n cx 1 rfl d_X7_bestIs_19 ?_
  refine g_iald cx 36 d_X7_bestIs_20 rfl (g_vi04 hw) ?_
  refine g_goto cx 25 d_X7_bestIs_21 (by decide) ?_
  exact hret d_X7_bestIs_25 (Nat.le_of_ble_eq_true rfl) (Nat.le_of_ble_eq_true rfl) rfl (S_best_of hw hb)
theorem d_X6_take_0 : g_dc cX6_take 0 (.iload_n 1) 1 1 := ⟨by decide +kernel, rfl⟩
theorem d_X6_take_1 : g_dc cX6_take 1 (.invokestatic 25) 3 4 := ⟨by decide +kernel, rfl⟩
theorem d_X6_take_4 : g_dc cX6_take 4 (.istore_n 3) 1 5 := ⟨by decide +kernel, rfl⟩
theorem d_X6_take_5 : g_dc cX6_take 5 (.iload_n 1) 1 6 := ⟨by decide +kernel, rfl⟩
theorem d_X6_take_6 : g_dc cX6_take 6 (.iload_n 2) 1 7 := ⟨by decide +kernel, rfl⟩
theorem d_X6_take_7 : g_dc cX6_take 7 (.iconst (-1)) 1 8 := ⟨by decide +kernel, rfl⟩
theorem d_X6_take_8 : g_dc cX6_take 8 (.ixor) 1 9 := ⟨by decide +kernel, rfl⟩
theorem d_X6_take_9 : g_dc cX6_take 9 (.iand) 1 10 := ⟨by decide +kernel, rfl⟩
theorem d_X6_take_10 : g_dc cX6_take 10 (.ifCond .ne 12) 3 13 := ⟨by decide +kernel, rfl⟩
theorem d_X6_take_13 : g_dc cX6_take 13 (.iload_n 3) 1 14 := ⟨by decide +kernel, rfl⟩
theorem d_X6_take_14 : g_dc cX6_take 14 (.iconst 2) 1 15 := ⟨by decide +kernel, rfl⟩
theorem d_X6_take_15 : g_dc cX6_take 15 (.iconst 5) 1 16 := ⟨by decide +kernel, rfl⟩
theorem d_X6_take_16 : g_dc cX6_take 16 (.invokestatic 31) 3 19 := ⟨by decide +kernel, rfl⟩
theorem d_X6_take_19 : g_dc cX6_take 19 (.ifCond .ne 5) 3 22 := ⟨by decide +kernel, rfl⟩
theorem d_X6_take_22 : g_dc cX6_take 22 (.iconst 0) 1 23 := ⟨by decide +kernel, rfl⟩
theorem d_X6_take_23 : g_dc cX6_take 23 (.ireturn) 1 24 := ⟨by decide +kernel, rfl⟩
set_option maxHeartbeats 4000000 in
set_option maxRecDepth 100000 in
theorem c_X6_take (l : Launch) (X : gX) (ad : Nat → Nat) (F : Nat → Int32) (R : Nat → Nat → Int32) (things : Int32) : g_Ci l X yX6_take cX6_take 5 (some .boolean) 2 0 0 [.ref (ad 47), .int things, .int 0] (wX X ad F R) (fun r w => w = wX X ad F R ∧ r = 0) := by
  refine g_mi (by decide +kernel) (Nat.le_of_ble_eq_true rfl) (fun E cx hret => ?_)
  refine g_iload_n cx 1 rfl d_X6_take_0 ?_
  refine g_cOiW cx [.int things] [] (c_J6_bitCount_0f7a4 l X _ things) ml_X6_25 yS_J6_bitCount_0f7a4 d_X6_take_1 (by unfold g_rr; decide) (by decide) rfl (Nat.le_of_ble_eq_true rfl) (fun r1 w2 h3 => ?_)
  obtain ⟨rfl, h3⟩ := h3
  refine g_istore_n cx [(3, .int r1), (0, .ref (ad 47)), (1, .int things), (2, .int 0)] d_X6_take_4 (by decide) rfl ?_
  refine g_iload_n cx 2 rfl d_X6_take_5 ?_
  refine g_iload_n cx 3 rfl d_X6_take_6 ?_
  refine g_iconst cx (-1) (by decide) d_X6_take_7 ?_
  refine g_ixor cx d_X6_take_8 ?_
  refine g_toi (-1) (by decide) ?_
  refine g_iand cx d_X6_take_9 ?_
  refine g_if_ne cx 22 d_X6_take_10 (by decide) (fun zc10 => ?_) (fun zc10 => ?_)
  · refine g_iconst cx 0 (by decide) d_X6_take_22 ?_
    exact hret d_X6_take_23 (Nat.le_of_ble_eq_true rfl) (Nat.le_of_ble_eq_true rfl) rfl (⟨rfl, rfl⟩)
  · refine g_iload_n cx 0 rfl d_X6_take_13 ?_
    refine g_iconst cx 2 (by decide) d_X6_take_14 ?_
    refine g_iconst cx 5 (by decide) d_X6_take_15 ?_
    refine g_cNiW cx [.int r1, .int 2, .int 5] [] (c_X10_within l X _ r1 2 5) mn_X6_31 yS_X10_within d_X6_take_16 (by unfold g_rr; decide) (by decide) rfl (Nat.le_of_ble_eq_true rfl) (fun r4 w5 h6 => ?_)
    obtain ⟨rfl, rfl⟩ := h6
    refine g_if_ne_f cx 24 d_X6_take_19 (by decide) (by have e0 : things = 0 := (g_m1 things).symm.trans zc10; rw [h3 e0]; decide) ?_
    refine g_iconst cx 0 (by decide) d_X6_take_22 ?_
    exact hret d_X6_take_23 (Nat.le_of_ble_eq_true rfl) (Nat.le_of_ble_eq_true rfl) rfl (⟨rfl, rfl⟩)
end
section
theorem g_gtn {y : Int32} {n c : Nat} (hy : y = nI n) (hn : n < 2 ^ 31) (hc : c < 2 ^ 31) (h : nI c < y) : c < n := by
  rw [hy] at h
  exact (nI_ltI hc hn).mp h
theorem g_ngt {y : Int32} {n c : Nat} (hy : y = nI n) (hn : n < 2 ^ 31) (hc : c < 2 ^ 31) (h : ¬ nI c < y) : n ≤ c := by
  rw [hy] at h
  rcases Nat.lt_or_ge c n with q | q
  · exact absurd ((nI_ltI hc hn).mpr q) h
  · exact q
def B_5 (b : Nat → Int32) : Prop := b 0 = 1 ∧ b 1 = 1 ∧ b 2 = 1 ∧ b 3 = 0 ∧ b 4 = 0

theorem d_X7_bestPull_0 : g_dc cX7_bestPull 0 (.iload_n 1) 1 1 := ⟨by decide +kernel, rfl⟩
theorem d_X7_bestPull_1 : g_dc cX7_bestPull 1 (.aload_n 0) 1 2 := ⟨by decide +kernel, rfl⟩
theorem d_X7_bestPull_2 : g_dc cX7_bestPull 2 (.getfield 38) 3 5 := ⟨by decide +kernel, rfl⟩
theorem d_X7_bestPull_5 : g_dc cX7_bestPull 5 (.if_icmp .ne 18) 3 8 := ⟨by decide +kernel, rfl⟩
theorem d_X7_bestPull_23 : g_dc cX7_bestPull 23 (.aload_n 0) 1 24 := ⟨by decide +kernel, rfl⟩
theorem d_X7_bestPull_24 : g_dc cX7_bestPull 24 (.iload_n 1) 1 25 := ⟨by decide +kernel, rfl⟩
theorem d_X7_bestPull_25 : g_dc cX7_bestPull 25 (.putfield 38) 3 28 := ⟨by decide +kernel, rfl⟩
theorem d_X7_bestPull_28 : g_dc cX7_bestPull 28 (.aload_n 0) 1 29 := ⟨by decide +kernel, rfl⟩
theorem d_X7_bestPull_29 : g_dc cX7_bestPull 29 (.getfield 34) 3 32 := ⟨by decide +kernel, rfl⟩
theorem d_X7_bestPull_32 : g_dc cX7_bestPull 32 (.aload_n 0) 1 33 := ⟨by decide +kernel, rfl⟩
theorem d_X7_bestPull_33 : g_dc cX7_bestPull 33 (.getfield 53) 3 36 := ⟨by decide +kernel, rfl⟩
theorem d_X7_bestPull_36 : g_dc cX7_bestPull 36 (.invokevirtual 64) 3 39 := ⟨by decide +kernel, rfl⟩
theorem d_X7_bestPull_39 : g_dc cX7_bestPull 39 (.aload_n 0) 1 40 := ⟨by decide +kernel, rfl⟩
theorem d_X7_bestPull_40 : g_dc cX7_bestPull 40 (.iconst (-1)) 1 41 := ⟨by decide +kernel, rfl⟩
theorem d_X7_bestPull_41 : g_dc cX7_bestPull 41 (.putfield 9) 3 44 := ⟨by decide +kernel, rfl⟩
theorem d_X7_bestPull_44 : g_dc cX7_bestPull 44 (.iconst 1) 1 45 := ⟨by decide +kernel, rfl⟩
theorem d_X7_bestPull_45 : g_dc cX7_bestPull 45 (.istore_n 2) 1 46 := ⟨by decide +kernel, rfl⟩
theorem d_X7_bestPull_46 : g_dc cX7_bestPull 46 (.iload_n 2) 1 47 := ⟨by decide +kernel, rfl⟩
theorem d_X7_bestPull_47 : g_dc cX7_bestPull 47 (.bipush 12) 2 49 := ⟨by decide +kernel, rfl⟩
theorem d_X7_bestPull_49 : g_dc cX7_bestPull 49 (.if_icmp .gt 113) 3 52 := ⟨by decide +kernel, rfl⟩
theorem d_X7_bestPull_52 : g_dc cX7_bestPull 52 (.iconst 1) 1 53 := ⟨by decide +kernel, rfl⟩
theorem d_X7_bestPull_53 : g_dc cX7_bestPull 53 (.istore_n 3) 1 54 := ⟨by decide +kernel, rfl⟩
theorem d_X7_bestPull_54 : g_dc cX7_bestPull 54 (.iload_n 3) 1 55 := ⟨by decide +kernel, rfl⟩
theorem d_X7_bestPull_55 : g_dc cX7_bestPull 55 (.bipush 12) 2 57 := ⟨by decide +kernel, rfl⟩
theorem d_X7_bestPull_57 : g_dc cX7_bestPull 57 (.if_icmp .gt 99) 3 60 := ⟨by decide +kernel, rfl⟩
theorem d_X7_bestPull_60 : g_dc cX7_bestPull 60 (.iconst 1) 1 61 := ⟨by decide +kernel, rfl⟩
theorem d_X7_bestPull_61 : g_dc cX7_bestPull 61 (.istore 4) 2 63 := ⟨by decide +kernel, rfl⟩
theorem d_X7_bestPull_63 : g_dc cX7_bestPull 63 (.iload 4) 2 65 := ⟨by decide +kernel, rfl⟩
theorem d_X7_bestPull_65 : g_dc cX7_bestPull 65 (.bipush 6) 2 67 := ⟨by decide +kernel, rfl⟩
theorem d_X7_bestPull_67 : g_dc cX7_bestPull 67 (.if_icmp .gt 83) 3 70 := ⟨by decide +kernel, rfl⟩
theorem d_X7_bestPull_70 : g_dc cX7_bestPull 70 (.aload_n 0) 1 71 := ⟨by decide +kernel, rfl⟩
theorem d_X7_bestPull_71 : g_dc cX7_bestPull 71 (.getfield 58) 3 74 := ⟨by decide +kernel, rfl⟩
theorem d_X7_bestPull_74 : g_dc cX7_bestPull 74 (.iconst 0) 1 75 := ⟨by decide +kernel, rfl⟩
theorem d_X7_bestPull_75 : g_dc cX7_bestPull 75 (.putfield 111) 3 78 := ⟨by decide +kernel, rfl⟩
theorem d_X7_bestPull_78 : g_dc cX7_bestPull 78 (.aload_n 0) 1 79 := ⟨by decide +kernel, rfl⟩
theorem d_X7_bestPull_79 : g_dc cX7_bestPull 79 (.getfield 58) 3 82 := ⟨by decide +kernel, rfl⟩
theorem d_X7_bestPull_82 : g_dc cX7_bestPull 82 (.iload_n 2) 1 83 := ⟨by decide +kernel, rfl⟩
theorem d_X7_bestPull_83 : g_dc cX7_bestPull 83 (.iload 4) 2 85 := ⟨by decide +kernel, rfl⟩
theorem d_X7_bestPull_85 : g_dc cX7_bestPull 85 (.invokevirtual 114) 3 88 := ⟨by decide +kernel, rfl⟩
theorem d_X7_bestPull_88 : g_dc cX7_bestPull 88 (.aload_n 0) 1 89 := ⟨by decide +kernel, rfl⟩
theorem d_X7_bestPull_89 : g_dc cX7_bestPull 89 (.getfield 58) 3 92 := ⟨by decide +kernel, rfl⟩
theorem d_X7_bestPull_92 : g_dc cX7_bestPull 92 (.iload_n 3) 1 93 := ⟨by decide +kernel, rfl⟩
theorem d_X7_bestPull_93 : g_dc cX7_bestPull 93 (.aload_n 0) 1 94 := ⟨by decide +kernel, rfl⟩
theorem d_X7_bestPull_94 : g_dc cX7_bestPull 94 (.getfield 53) 3 97 := ⟨by decide +kernel, rfl⟩
theorem d_X7_bestPull_97 : g_dc cX7_bestPull 97 (.getfield 82) 3 100 := ⟨by decide +kernel, rfl⟩
theorem d_X7_bestPull_100 : g_dc cX7_bestPull 100 (.iload_n 2) 1 101 := ⟨by decide +kernel, rfl⟩
theorem d_X7_bestPull_101 : g_dc cX7_bestPull 101 (.iload 4) 2 103 := ⟨by decide +kernel, rfl⟩
theorem d_X7_bestPull_103 : g_dc cX7_bestPull 103 (.imul) 1 104 := ⟨by decide +kernel, rfl⟩
theorem d_X7_bestPull_104 : g_dc cX7_bestPull 104 (.isub) 1 105 := ⟨by decide +kernel, rfl⟩
theorem d_X7_bestPull_105 : g_dc cX7_bestPull 105 (.invokevirtual 117) 3 108 := ⟨by decide +kernel, rfl⟩
theorem d_X7_bestPull_108 : g_dc cX7_bestPull 108 (.aload_n 0) 1 109 := ⟨by decide +kernel, rfl⟩
theorem d_X7_bestPull_109 : g_dc cX7_bestPull 109 (.getfield 46) 3 112 := ⟨by decide +kernel, rfl⟩
theorem d_X7_bestPull_112 : g_dc cX7_bestPull 112 (.invokevirtual 89) 3 115 := ⟨by decide +kernel, rfl⟩
theorem d_X7_bestPull_115 : g_dc cX7_bestPull 115 (.aload_n 0) 1 116 := ⟨by decide +kernel, rfl⟩
theorem d_X7_bestPull_116 : g_dc cX7_bestPull 116 (.invokevirtual 120) 3 119 := ⟨by decide +kernel, rfl⟩
theorem d_X7_bestPull_119 : g_dc cX7_bestPull 119 (.ifCond .eq 25) 3 122 := ⟨by decide +kernel, rfl⟩
theorem d_X7_bestPull_122 : g_dc cX7_bestPull 122 (.aload_n 0) 1 123 := ⟨by decide +kernel, rfl⟩
theorem d_X7_bestPull_123 : g_dc cX7_bestPull 123 (.getfield 27) 3 126 := ⟨by decide +kernel, rfl⟩
theorem d_X7_bestPull_126 : g_dc cX7_bestPull 126 (.iconst 0) 1 127 := ⟨by decide +kernel, rfl⟩
theorem d_X7_bestPull_127 : g_dc cX7_bestPull 127 (.iload_n 2) 1 128 := ⟨by decide +kernel, rfl⟩
theorem d_X7_bestPull_128 : g_dc cX7_bestPull 128 (.iastore) 1 129 := ⟨by decide +kernel, rfl⟩
theorem d_X7_bestPull_129 : g_dc cX7_bestPull 129 (.aload_n 0) 1 130 := ⟨by decide +kernel, rfl⟩
theorem d_X7_bestPull_130 : g_dc cX7_bestPull 130 (.getfield 27) 3 133 := ⟨by decide +kernel, rfl⟩
theorem d_X7_bestPull_133 : g_dc cX7_bestPull 133 (.iconst 1) 1 134 := ⟨by decide +kernel, rfl⟩
theorem d_X7_bestPull_134 : g_dc cX7_bestPull 134 (.iload_n 3) 1 135 := ⟨by decide +kernel, rfl⟩
theorem d_X7_bestPull_135 : g_dc cX7_bestPull 135 (.iastore) 1 136 := ⟨by decide +kernel, rfl⟩
theorem d_X7_bestPull_136 : g_dc cX7_bestPull 136 (.aload_n 0) 1 137 := ⟨by decide +kernel, rfl⟩
theorem d_X7_bestPull_137 : g_dc cX7_bestPull 137 (.getfield 27) 3 140 := ⟨by decide +kernel, rfl⟩
theorem d_X7_bestPull_140 : g_dc cX7_bestPull 140 (.iconst 2) 1 141 := ⟨by decide +kernel, rfl⟩
theorem d_X7_bestPull_141 : g_dc cX7_bestPull 141 (.iload 4) 2 143 := ⟨by decide +kernel, rfl⟩
theorem d_X7_bestPull_143 : g_dc cX7_bestPull 143 (.iastore) 1 144 := ⟨by decide +kernel, rfl⟩
theorem d_X7_bestPull_144 : g_dc cX7_bestPull 144 (.iinc 4 1) 3 147 := ⟨by decide +kernel, rfl⟩
theorem d_X7_bestPull_147 : g_dc cX7_bestPull 147 (.goto (-84)) 3 150 := ⟨by decide +kernel, rfl⟩
theorem d_X7_bestPull_150 : g_dc cX7_bestPull 150 (.iinc 3 1) 3 153 := ⟨by decide +kernel, rfl⟩
theorem d_X7_bestPull_153 : g_dc cX7_bestPull 153 (.goto (-99)) 3 156 := ⟨by decide +kernel, rfl⟩
theorem d_X7_bestPull_156 : g_dc cX7_bestPull 156 (.iinc 2 1) 3 159 := ⟨by decide +kernel, rfl⟩
theorem d_X7_bestPull_159 : g_dc cX7_bestPull 159 (.goto (-113)) 3 162 := ⟨by decide +kernel, rfl⟩
theorem d_X7_bestPull_162 : g_dc cX7_bestPull 162 (.aload_n 0) 1 163 := ⟨by decide +kernel, rfl⟩
theorem d_X7_bestPull_163 : g_dc cX7_bestPull 163 (.getfield 27) 3 166 := ⟨by decide +kernel, rfl⟩
theorem d_X7_bestPull_166 : g_dc cX7_bestPull 166 (.iconst 3) 1 167 := ⟨by decide +kernel, rfl⟩
theorem d_X7_bestPull_167 : g_dc cX7_bestPull 167 (.aload_n 0) 1 168 := ⟨by decide +kernel, rfl⟩
theorem d_X7_bestPull_168 : g_dc cX7_bestPull 168 (.getfield 9) 3 171 := ⟨by decide +kernel, rfl⟩
theorem d_X7_bestPull_171 : g_dc cX7_bestPull 171 (.iastore) 1 172 := ⟨by decide +kernel, rfl⟩
theorem d_X7_bestPull_172 : g_dc cX7_bestPull 172 (.aload_n 0) 1 173 := ⟨by decide +kernel, rfl⟩
theorem d_X7_bestPull_173 : g_dc cX7_bestPull 173 (.getfield 27) 3 176 := ⟨by decide +kernel, rfl⟩
theorem d_X7_bestPull_176 : g_dc cX7_bestPull 176 (.iconst 4) 1 177 := ⟨by decide +kernel, rfl⟩
theorem d_X7_bestPull_177 : g_dc cX7_bestPull 177 (.aload_n 0) 1 178 := ⟨by decide +kernel, rfl⟩
theorem d_X7_bestPull_178 : g_dc cX7_bestPull 178 (.getfield 15) 3 181 := ⟨by decide +kernel, rfl⟩
theorem d_X7_bestPull_181 : g_dc cX7_bestPull 181 (.iastore) 1 182 := ⟨by decide +kernel, rfl⟩
theorem d_X7_bestPull_182 : g_dc cX7_bestPull 182 (.return_) 1 183 := ⟨by decide +kernel, rfl⟩
set_option maxHeartbeats 4000000 in
set_option maxRecDepth 100000 in
theorem c_X7_bestPull (l : Launch) (X : gX) (ad : Nat → Nat) (F : Nat → Int32) (R : Nat → Nat → Int32) (h82 : F 82 = 0) (h83 : F 83 = 0) (h672 : F 672 = 0) (h674 : F 674 = 0) (h571 : F 571 = -1) : g_Cv l X yX7_bestPull cX7_bestPull 5 6 0 0 [.ref (ad 35), .int 0] (wX X ad F R) (fun w => ∃ (F' : Nat → Int32) (R' : Nat → Nat → Int32), w = wX X ad F' R' ∧ B_5 (R' 36)) := by
  refine g_mv (by decide +kernel) (Nat.le_of_ble_eq_true rfl) (fun E cx hret => ?_)
  refine g_iload_n cx 1 rfl d_X7_bestPull_0 ?_
  refine g_aload_n cx 0 rfl d_X7_bestPull_1 ?_
  refine g_get cx cl_X7 fl_X7_38 35 (.int (F 571)) d_X7_bestPull_2 rfl rfl ?_
  refine g_toi (-1) (h571) ?_
  refine g_icmp_ne_t cx 23 d_X7_bestPull_5 (by decide) (by decide) ?_
  refine g_aload_n cx 0 rfl d_X7_bestPull_23 ?_
  refine g_iload_n cx 1 rfl d_X7_bestPull_24 ?_
  refine g_put cx cl_X7 fl_X7_38 35 (wX X ad (upd F 571 0) R) d_X7_bestPull_25 rfl rfl rfl rfl (Nat.le_of_ble_eq_true rfl) rfl ?_
  refine g_aload_n cx 0 rfl d_X7_bestPull_28 ?_
  refine g_get cx cl_X7 fl_X7_34 35 (.ref (ad 7)) d_X7_bestPull_29 rfl rfl ?_
  refine g_aload_n cx 0 rfl d_X7_bestPull_32 ?_
  refine g_get cx cl_X7 fl_X7_53 35 (.ref (ad 5)) d_X7_bestPull_33 rfl rfl ?_
  refine g_cVv cx [.ref (ad 5)] [] (c_X8_copy l X (ad 7) (ad 8) (F 112) (F 113) (F 114) (F 115) (F 116) (R 8) (ad 5) (ad 6) (F 80) (F 81) (F 82) (F 83) (F 84) (R 6)) ml_X7_64 yV_X8_copy d_X7_bestPull_36 (by unfold g_rr; decide) (by decide) 0 rfl rfl [7, 8, 5, 6] rfl (by decide) rfl (Nat.le_of_ble_eq_true rfl) (by rintro _ ⟨rfl, _⟩; rfl) (fun w2 h3 => ?_)
  obtain ⟨rfl, -⟩ := h3
  refine g_weq (wX X ad (upd (upd (upd (upd (upd (upd F 112 (F 80)) 113 (F 81)) 114 (F 82)) 115 (F 83)) 116 (F 84)) 571 0) (g_u R 8 (va_cpy (R 6) (R 8) 0 0 80))) rfl ?_
  refine g_aload_n cx 0 rfl d_X7_bestPull_39 ?_
  refine g_iconst cx (-1) (by decide) d_X7_bestPull_40 ?_
  refine g_put cx cl_X7 fl_X7_9 35 (wX X ad (upd (upd (upd (upd (upd (upd (upd F 112 (F 80)) 113 (F 81)) 114 (F 82)) 115 (F 83)) 116 (F 84)) 564 (-1)) 571 0) (g_u R 8 (va_cpy (R 6) (R 8) 0 0 80))) d_X7_bestPull_41 rfl rfl rfl rfl (Nat.le_of_ble_eq_true rfl) rfl ?_
  refine g_iconst cx 1 (by decide) d_X7_bestPull_44 ?_
  refine g_istore_n cx [(2, .int 1), (0, .ref (ad 35)), (1, .int 0)] d_X7_bestPull_45 (by decide) rfl ?_
  have L46 : ∀ (N : Nat) (i : Nat) (x2 : Int32) (zF : Nat → Int32) (zR : Nat → Nat → Int32), 13 - i < N → (x2 = nI i) → (1 ≤ i) → (i ≤ 13) → (zF 82 = 0) → (zF 83 = 0) → (zF 672 = 0) → (zF 674 = 0) → (zF 564 = -1 ∧ i = 1 ∨ B_ok zF (zR 36)) → G X E 5 0 0 (wX X ad zF zR) [(0, .ref (ad 35)), (1, .int 0), (2, .int x2)] 46 [] := by
    intro N
    induction N with
    | zero => intro i x2 zF zR hm; exact absurd hm (Nat.not_lt_zero _)
    | succ N ih46 =>
      intro i x2 zF zR hm hxi hi1 hi h82 h83 h672 h674 hb
      refine g_iload_n cx 2 rfl d_X7_bestPull_46 ?_
      refine g_bipush cx 12 (by decide) d_X7_bestPull_47 ?_
      refine g_icmp_gt cx 162 d_X7_bestPull_49 (by decide) (fun zc49 => ?_) (fun zc49 => ?_)
      · refine g_aload_n cx 0 rfl d_X7_bestPull_162 ?_
        refine g_get cx cl_X7 fl_X7_27 35 (.ref (ad 36)) d_X7_bestPull_163 rfl rfl ?_
        refine g_iconst cx 3 (by decide) d_X7_bestPull_166 ?_
        refine g_aload_n cx 0 rfl d_X7_bestPull_167 ?_
        refine g_get cx cl_X7 fl_X7_9 35 (.int (zF 564)) d_X7_bestPull_168 rfl rfl ?_
        refine g_iast cx 36 (wX X ad zF (g_u zR 36 (upd (zR 36) 3 (zF 564)))) d_X7_bestPull_171 rfl (by unfold vp_in; decide) rfl ?_
        refine g_aload_n cx 0 rfl d_X7_bestPull_172 ?_
        refine g_get cx cl_X7 fl_X7_27 35 (.ref (ad 36)) d_X7_bestPull_173 rfl rfl ?_
        refine g_iconst cx 4 (by decide) d_X7_bestPull_176 ?_
        refine g_aload_n cx 0 rfl d_X7_bestPull_177 ?_
        refine g_get cx cl_X7 fl_X7_15 35 (.int (zF 565)) d_X7_bestPull_178 rfl rfl ?_
        refine g_iast cx 36 (wX X ad zF (g_u zR 36 (upd (upd (zR 36) 3 (zF 564)) 4 (zF 565)))) d_X7_bestPull_181 rfl (by unfold vp_in; decide) rfl ?_
        exact hret d_X7_bestPull_182 (Nat.le_of_ble_eq_true rfl) (Nat.le_of_ble_eq_true rfl) ⟨zF, (g_u zR 36 (upd (upd (zR 36) 3 (zF 564)) 4 (zF 565))), rfl, (by have hB : B_ok zF (zR 36) := hb.elim (fun h => absurd h.2 (by have := g_gtn (c := 12) hxi (by omega) (by omega) zc49; omega)) id; exact ⟨hB.2.2.1, hB.2.2.2.1, hB.2.2.2.2, hB.1, hB.2.1⟩)⟩
      · refine g_iconst cx 1 (by decide) d_X7_bestPull_52 ?_
        refine g_istore_n cx [(3, .int 1), (0, .ref (ad 35)), (1, .int 0), (2, .int x2)] d_X7_bestPull_53 (by decide) rfl ?_
        have L54 : ∀ (N : Nat) (j : Nat) (x3 : Int32) (zG : Nat → Int32) (zS : Nat → Nat → Int32), 13 - j < N → (x3 = nI j) → (1 ≤ j) → (j ≤ 13) → (zG 82 = 0) → (zG 83 = 0) → (zG 672 = 0) → (zG 674 = 0) → (zG 564 = -1 ∧ i = 1 ∧ j = 1 ∨ B_ok zG (zS 36)) → G X E 5 0 0 (wX X ad zG zS) [(0, .ref (ad 35)), (1, .int 0), (2, .int x2), (3, .int x3)] 54 [] := by
          intro N
          induction N with
          | zero => intro j x3 zG zS hm; exact absurd hm (Nat.not_lt_zero _)
          | succ N ih54 =>
            intro j x3 zG zS hm hxj hj1 hj h82 h83 h672 h674 hb
            refine g_iload_n cx 3 rfl d_X7_bestPull_54 ?_
            refine g_bipush cx 12 (by decide) d_X7_bestPull_55 ?_
            refine g_icmp_gt cx 156 d_X7_bestPull_57 (by decide) (fun zc57 => ?_) (fun zc57 => ?_)
            · refine g_iinc cx (x2 + 1) [(2, .int (x2 + 1)), (0, .ref (ad 35)), (1, .int 0), (3, .int x3)] 2 d_X7_bestPull_156 rfl (rfl) (by decide) rfl ?_
              refine g_goto cx 46 d_X7_bestPull_159 (by decide) ?_
              refine g_lsub [1, 2, 0] [(0, .ref (ad 35)), (1, .int 0), (2, .int (x2 + 1))] rfl ?_
              exact ih46 (i + 1) (x2 + 1) zG zS (by have := g_ngt (c := 12) hxi (by omega) (by omega) zc49; omega) (by rw [hxi]; exact nI_1 i) (by omega) (by have := g_ngt (c := 12) hxi (by omega) (by omega) zc49; omega) h82 h83 h672 h674 (hb.elim (fun h => absurd h.2.2 (by have := g_gtn (c := 12) hxj (by omega) (by omega) zc57; omega)) Or.inr)
            · refine g_iconst cx 1 (by decide) d_X7_bestPull_60 ?_
              refine g_istore cx [(4, .int 1), (0, .ref (ad 35)), (1, .int 0), (2, .int x2), (3, .int x3)] d_X7_bestPull_61 (by decide) rfl ?_
              have L63 : ∀ (N : Nat) (m : Nat) (x4 : Int32) (zH : Nat → Int32) (zT : Nat → Nat → Int32), 7 - m < N → (x4 = nI m) → (1 ≤ m) → (m ≤ 7) → (zH 82 = 0) → (zH 83 = 0) → (zH 672 = 0) → (zH 674 = 0) → (zH 564 = -1 ∧ i = 1 ∧ j = 1 ∧ m = 1 ∨ B_ok zH (zT 36)) → G X E 5 0 0 (wX X ad zH zT) [(0, .ref (ad 35)), (1, .int 0), (2, .int x2), (3, .int x3), (4, .int x4)] 63 [] := by
                intro N
                induction N with
                | zero => intro m x4 zH zT hm; exact absurd hm (Nat.not_lt_zero _)
                | succ N ih63 =>
                  intro m x4 zH zT hm hxm hm1 hm7 h82 h83 h672 h674 hb
                  refine g_iload cx 4 rfl d_X7_bestPull_63 ?_
                  refine g_bipush cx 6 (by decide) d_X7_bestPull_65 ?_
                  refine g_icmp_gt cx 150 d_X7_bestPull_67 (by decide) (fun zc67 => ?_) (fun zc67 => ?_)
                  · refine g_iinc cx (x3 + 1) [(3, .int (x3 + 1)), (0, .ref (ad 35)), (1, .int 0), (2, .int x2), (4, .int x4)] 3 d_X7_bestPull_150 rfl (rfl) (by decide) rfl ?_
                    refine g_goto cx 54 d_X7_bestPull_153 (by decide) ?_
                    refine g_lsub [1, 2, 3, 0] [(0, .ref (ad 35)), (1, .int 0), (2, .int x2), (3, .int (x3 + 1))] rfl ?_
                    exact ih54 (j + 1) (x3 + 1) zH zT (by have := g_ngt (c := 12) hxj (by omega) (by omega) zc57; omega) (by rw [hxj]; exact nI_1 j) (by omega) (by have := g_ngt (c := 12) hxj (by omega) (by omega) zc57; omega) h82 h83 h672 h674 (hb.elim (fun h => absurd h.2.2.2 (by have := g_gtn (c := 6) hxm (by omega) (by omega) zc67; omega)) Or.inr)
                  · refine g_aload_n cx 0 rfl d_X7_bestPull_70 ?_
                    refine g_get cx cl_X7 fl_X7_58 35 (.ref (ad 15)) d_X7_bestPull_71 rfl rfl ?_
                    refine g_iconst cx 0 (by decide) d_X7_bestPull_74 ?_
                    refine g_putN cx cl_X5 fn_X7_111 15 (wX X ad (upd zH 241 0) zT) d_X7_bestPull_75 rfl rfl rfl rfl (Nat.le_of_ble_eq_true rfl) rfl ?_
                    refine g_aload_n cx 0 rfl d_X7_bestPull_78 ?_
                    refine g_get cx cl_X7 fl_X7_58 35 (.ref (ad 15)) d_X7_bestPull_79 rfl rfl ?_
                    refine g_iload_n cx 2 rfl d_X7_bestPull_82 ?_
                    refine g_iload cx 4 rfl d_X7_bestPull_83 ?_
                    refine g_cVv cx [.int x2, .int x4] [] (c_X5_add l X (ad 15) (ad 16) 0 (zT 16) x2 x4 0 (by decide) (by decide)) ml_X7_114 yV_X5_add d_X7_bestPull_85 (by unfold g_rr; decide) (by decide) 0 rfl rfl [15, 16] rfl (by decide) rfl (Nat.le_of_ble_eq_true rfl) (by rintro _ ⟨_, _, rfl, _⟩; rfl) (fun w5 h6 => ?_)
                    obtain ⟨t7, g8, rfl, h9⟩ := h6
                    refine g_weq (wX X ad (upd zH 241 (nI t7)) (g_u zT 16 g8)) rfl ?_
                    refine g_aload_n cx 0 rfl d_X7_bestPull_88 ?_
                    refine g_get cx cl_X7 fl_X7_58 35 (.ref (ad 15)) d_X7_bestPull_89 rfl rfl ?_
                    refine g_iload_n cx 3 rfl d_X7_bestPull_92 ?_
                    refine g_aload_n cx 0 rfl d_X7_bestPull_93 ?_
                    refine g_get cx cl_X7 fl_X7_53 35 (.ref (ad 5)) d_X7_bestPull_94 rfl rfl ?_
                    refine g_getN cx cl_X8 fn_X7_82 5 (.int (zH 81)) d_X7_bestPull_97 rfl rfl ?_
                    refine g_iload_n cx 2 rfl d_X7_bestPull_100 ?_
                    refine g_iload cx 4 rfl d_X7_bestPull_101 ?_
                    refine g_imul cx d_X7_bestPull_103 ?_
                    refine g_isub cx d_X7_bestPull_104 ?_
                    refine g_cVv cx [.int x3, .int ((zH 81) - (x2 * x4))] [] (c_X5_addTill l X (ad 15) (ad 16) (nI t7) g8 x3 ((zH 81) - (x2 * x4)) t7 rfl h9) ml_X7_117 yV_X5_addTill d_X7_bestPull_105 (by unfold g_rr; decide) (by decide) 0 rfl rfl [15, 16] rfl (by decide) rfl (Nat.le_of_ble_eq_true rfl) (by rintro _ ⟨_, _, rfl, _⟩; rfl) (fun w11 h12 => ?_)
                    obtain ⟨t13, g14, rfl, h15⟩ := h12
                    refine g_weq (wX X ad (upd zH 241 (nI t13)) (g_u zT 16 g14)) rfl ?_
                    refine g_aload_n cx 0 rfl d_X7_bestPull_108 ?_
                    refine g_get cx cl_X7 fl_X7_46 35 (.ref (ad 37)) d_X7_bestPull_109 rfl rfl ?_
                    refine g_cVvW cx [] [] (c_X0_run l X ad (upd zH 241 (nI t13)) (g_u zT 16 g14)  t13 rfl h15 h82 h83 (Or.inr ⟨h672, h674⟩)) ml_X7_89 yV_X0_run d_X7_bestPull_112 (by unfold g_rr; decide) (by decide) 37 rfl rfl rfl (Nat.le_of_ble_eq_true rfl) (fun w17 h18 => ?_)
                    obtain ⟨zF19, zR20, rfl, zp21⟩ := h18
                    rcases hb with hb | hb
                    · refine g_aload_n cx 0 rfl d_X7_bestPull_115 ?_
                      refine g_cViW cx [] [] (c1_X7_improves l X ad zF19 zR20 zp21.2.1 zp21.2.2.2.2.2.2.2.2.1 ((zp21.1 564 (by decide)).trans (hb.1))) ml_X7_120 yV_X7_improves d_X7_bestPull_116 (by unfold g_rr; decide) (by decide) 35 rfl rfl rfl (Nat.le_of_ble_eq_true rfl) (fun r22 w23 h24 => ?_)
                      obtain ⟨rfl, rfl⟩ := h24
                      refine g_weq (wX X ad (upd (upd zF19 564 0) 565 0) zR20) rfl ?_
                      refine g_if_eq_f cx 144 d_X7_bestPull_119 (by decide) (by decide) ?_
                      refine g_aload_n cx 0 rfl d_X7_bestPull_122 ?_
                      refine g_get cx cl_X7 fl_X7_27 35 (.ref (ad 36)) d_X7_bestPull_123 rfl rfl ?_
                      refine g_iconst cx 0 (by decide) d_X7_bestPull_126 ?_
                      refine g_iload_n cx 2 rfl d_X7_bestPull_127 ?_
                      refine g_iast cx 36 (wX X ad (upd (upd zF19 564 0) 565 0) (g_u zR20 36 (upd (zR20 36) 0 x2))) d_X7_bestPull_128 rfl (by unfold vp_in; decide) rfl ?_
                      refine g_aload_n cx 0 rfl d_X7_bestPull_129 ?_
                      refine g_get cx cl_X7 fl_X7_27 35 (.ref (ad 36)) d_X7_bestPull_130 rfl rfl ?_
                      refine g_iconst cx 1 (by decide) d_X7_bestPull_133 ?_
                      refine g_iload_n cx 3 rfl d_X7_bestPull_134 ?_
                      refine g_iast cx 36 (wX X ad (upd (upd zF19 564 0) 565 0) (g_u zR20 36 (upd (upd (zR20 36) 0 x2) 1 x3))) d_X7_bestPull_135 rfl (by unfold vp_in; decide) rfl ?_
                      refine g_aload_n cx 0 rfl d_X7_bestPull_136 ?_
                      refine g_get cx cl_X7 fl_X7_27 35 (.ref (ad 36)) d_X7_bestPull_137 rfl rfl ?_
                      refine g_iconst cx 2 (by decide) d_X7_bestPull_140 ?_
                      refine g_iload cx 4 rfl d_X7_bestPull_141 ?_
                      refine g_iast cx 36 (wX X ad (upd (upd zF19 564 0) 565 0) (g_u zR20 36 (upd (upd (upd (zR20 36) 0 x2) 1 x3) 2 x4))) d_X7_bestPull_143 rfl (by unfold vp_in; decide) rfl ?_
                      refine g_iinc cx (x4 + 1) [(4, .int (x4 + 1)), (0, .ref (ad 35)), (1, .int 0), (2, .int x2), (3, .int x3)] 4 d_X7_bestPull_144 rfl (rfl) (by decide) rfl ?_
                      refine g_goto cx 63 d_X7_bestPull_147 (by decide) ?_
                      refine g_lsub [1, 2, 3, 4, 0] [(0, .ref (ad 35)), (1, .int 0), (2, .int x2), (3, .int x3), (4, .int (x4 + 1))] rfl ?_
                      exact ih63 (m + 1) (x4 + 1) (upd (upd zF19 564 0) 565 0) (g_u zR20 36 (upd (upd (upd (zR20 36) 0 x2) 1 x3) 2 x4)) (by have := g_ngt (c := 6) hxm (by omega) (by omega) zc67; omega) (by rw [hxm]; exact nI_1 m) (by omega) (by have := g_ngt (c := 6) hxm (by omega) (by omega) zc67; omega) ((zp21.1 82 (by decide)).trans (h82)) ((zp21.1 83 (by decide)).trans (h83)) ((zp21.1 672 (by decide)).trans (h672)) ((zp21.1 674 (by decide)).trans (h674)) (Or.inr ⟨rfl, rfl, hxi.trans (by rw [hb.2.1]; rfl), hxj.trans (by rw [hb.2.2.1]; rfl), hxm.trans (by rw [hb.2.2.2]; rfl)⟩)
                    · refine g_aload_n cx 0 rfl d_X7_bestPull_115 ?_
                      refine g_cViW cx [] [] (c2_X7_improves l X ad zF19 zR20 zp21.2.1 zp21.2.2.2.2.2.2.2.2.1 ((zp21.1 564 (by decide)).trans (hb.1)) ((zp21.1 565 (by decide)).trans (hb.2.1))) ml_X7_120 yV_X7_improves d_X7_bestPull_116 (by unfold g_rr; decide) (by decide) 35 rfl rfl rfl (Nat.le_of_ble_eq_true rfl) (fun r25 w26 h27 => ?_)
                      obtain ⟨rfl, rfl⟩ := h27
                      refine g_if_eq_t cx 144 d_X7_bestPull_119 (by decide) (by decide) ?_
                      refine g_iinc cx (x4 + 1) [(4, .int (x4 + 1)), (0, .ref (ad 35)), (1, .int 0), (2, .int x2), (3, .int x3)] 4 d_X7_bestPull_144 rfl (rfl) (by decide) rfl ?_
                      refine g_goto cx 63 d_X7_bestPull_147 (by decide) ?_
                      refine g_lsub [1, 2, 3, 4, 0] [(0, .ref (ad 35)), (1, .int 0), (2, .int x2), (3, .int x3), (4, .int (x4 + 1))] rfl ?_
                      exact ih63 (m + 1) (x4 + 1) zF19 zR20 (by have := g_ngt (c := 6) hxm (by omega) (by omega) zc67; omega) (by rw [hxm]; exact nI_1 m) (by omega) (by have := g_ngt (c := 6) hxm (by omega) (by omega) zc67; omega) ((zp21.1 82 (by decide)).trans (h82)) ((zp21.1 83 (by decide)).trans (h83)) ((zp21.1 672 (by decide)).trans (h672)) ((zp21.1 674 (by decide)).trans (h674)) (Or.inr ⟨(zp21.1 564 (by decide)).trans (hb.1), (zp21.1 565 (by decide)).trans (hb.2.1), (congrFun (zp21.2.2.2.2.2.2.2.2.2 36 (by decide)) 0).trans hb.2.2.1, (congrFun (zp21.2.2.2.2.2.2.2.2.2 36 (by decide)) 1).trans hb.2.2.2.1, (congrFun (zp21.2.2.2.2.2.2.2.2.2 36 (by decide)) 2).trans hb.2.2.2.2⟩)
              refine g_lsub [1, 2, 3, 4, 0] [(0, .ref (ad 35)), (1, .int 0), (2, .int x2), (3, .int x3), (4, .int 1)] rfl ?_
              exact L63 _ 1 1 zG zS (Nat.lt_succ_self _) rfl (by omega) (by omega) h82 h83 h672 h674 (hb.elim (fun h => Or.inl ⟨h.1, h.2.1, h.2.2, rfl⟩) Or.inr)
        refine g_lsub [1, 2, 3, 0] [(0, .ref (ad 35)), (1, .int 0), (2, .int x2), (3, .int 1)] rfl ?_
        exact L54 _ 1 1 zF zR (Nat.lt_succ_self _) rfl (by omega) (by omega) h82 h83 h672 h674 (hb.elim (fun h => Or.inl ⟨h.1, h.2, rfl⟩) Or.inr)
  refine g_lsub [1, 2, 0] [(0, .ref (ad 35)), (1, .int 0), (2, .int 1)] rfl ?_
  exact L46 _ 1 1 (upd (upd (upd (upd (upd (upd (upd F 112 (F 80)) 113 (F 81)) 114 (F 82)) 115 (F 83)) 116 (F 84)) 564 (-1)) 571 0) (g_u R 8 (va_cpy (R 6) (R 8) 0 0 80)) (Nat.lt_succ_self _) rfl (by omega) (by omega) h82 h83 h672 h674 (Or.inl ⟨rfl, rfl⟩)
end
section
theorem g_sw8 (x : Int32) : x = 0 ∨ x = 1 ∨ x = 2 ∨ x = 3 ∨ x = 4 ∨ x = 5 ∨ x = 6 ∨ x = 7 ∨ (x.toInt < 0 ∨ 7 < x.toInt) := by
  rcases g_sw9 x with h | h | h | h | h | h | h | h | h | h
  · exact Or.inl h
  · exact Or.inr (Or.inl h)
  · exact Or.inr (Or.inr (Or.inl h))
  · exact Or.inr (Or.inr (Or.inr (Or.inl h)))
  · exact Or.inr (Or.inr (Or.inr (Or.inr (Or.inl h))))
  · exact Or.inr (Or.inr (Or.inr (Or.inr (Or.inr (Or.inl h)))))
  · exact Or.inr (Or.inr (Or.inr (Or.inr (Or.inr (Or.inr (Or.inl h))))))
  · exact Or.inr (Or.inr (Or.inr (Or.inr (Or.inr (Or.inr (Or.inr (Or.inl h)))))))
  · exact Or.inr (Or.inr (Or.inr (Or.inr (Or.inr (Or.inr (Or.inr (Or.inr (Or.inr (by rw [h]; decide)))))))))
  · exact Or.inr (Or.inr (Or.inr (Or.inr (Or.inr (Or.inr (Or.inr (Or.inr (by omega))))))))
def S_table (a b : Int32) : Int32 := if g_in a 10 200 = 0 then 0 else if g_in b 0 63 = 0 then 0 else 1
def S_cloth (a : Int32) : Int32 := if g_in a 0 100 = 0 then 0 else 1
def S_thing (a b c d e f : Int32) : Int32 := if g_in a 0 9 = 0 then 0 else if g_in b 0 3 = 0 then 0 else if g_in c 0 99 = 0 then 0 else if g_in d 1 40 = 0 then 0 else if g_in e 1 60 = 0 then 0 else if g_in f 1 99 = 0 then 0 else 1
def S_most (a : Int32) : Int32 := if g_in a 0 1 = 0 then -1 else 0
def S_seed (a : Int32) : Int32 := if g_in a 0 65535 = 0 then 0 else 1
def S_check (a : Int32) : Int32 := if g_in a 0 10 = 0 then -2 else if a = 0 then -1 else -2
def S_count (a : Int32) : Int32 := if a = 0 then 100 else if a = 1 then 100 else if a = 7 then 1 else if 0 ≤ a ∧ a ≤ 7 then 0 else -1
theorem S_count_out {x : Int32} (h : x.toInt < 0 ∨ 7 < x.toInt) : S_count x = -1 := by
  unfold S_count
  have h0 : ¬ x = 0 := fun e => by subst e; revert h; decide
  have h1 : ¬ x = 1 := fun e => by subst e; revert h; decide
  have h7 : ¬ x = 7 := fun e => by subst e; revert h; decide
  rw [if_neg h0, if_neg h1, if_neg h7]
  rw [if_neg]
  rintro ⟨a, b⟩
  have a1 := Int32.le_iff_toInt_le.mp a
  have b1 := Int32.le_iff_toInt_le.mp b
  have e0 : (0 : Int32).toInt = 0 := by decide
  have e7 : (7 : Int32).toInt = 7 := by decide
  rw [e0] at a1
  rw [e7] at b1
  omega
theorem g_in_no (x : Int32) : g_in x 100 99 = 0 := by
  unfold g_in
  rw [if_neg]
  rintro ⟨a, b⟩
  exact absurd (Int32.le_trans a b) (by decide)
theorem g_n4 {n : Int32} (h : ¬ g_in n 0 10 = 0) (h2 : n * 4 ≤ 0) : n = 0 := by
  obtain ⟨j, hj, rfl⟩ := g_inj (m := 10) h (by decide)
  rw [show (4 : Int32) = nI 4 from rfl, pk_mul] at h2
  rcases Nat.eq_zero_or_pos j with q | q
  · rw [q]; rfl
  · exact absurd h2 (nI_nle (by omega) (by omega))
theorem g_n4' {n : Int32} (h : ¬ g_in n 0 10 = 0) (h2 : ¬ n * 4 ≤ 0) : ¬ n = 0 := fun e => h2 (by rw [e]; decide)

theorem g_n0 {n M : Int32} (h : ¬ g_in n 1 M = 0) : ¬ n ≤ 0 := fun q => h (by
  unfold g_in
  rw [if_neg]
  rintro ⟨a, -⟩
  exact absurd (Int32.le_trans a q) (by decide))
theorem d_X8_change_0 : g_dc cX8_change 0 (.iload_n 1) 1 1 := ⟨by decide +kernel, rfl⟩
theorem d_X8_change_1 : g_dc cX8_change 1 (.iconst 0) 1 2 := ⟨by decide +kernel, rfl⟩
theorem d_X8_change_2 : g_dc cX8_change 2 (.bipush 9) 2 4 := ⟨by decide +kernel, rfl⟩
theorem d_X8_change_4 : g_dc cX8_change 4 (.invokestatic 31) 3 7 := ⟨by decide +kernel, rfl⟩
theorem d_X8_change_7 : g_dc cX8_change 7 (.ifCond .eq 25) 3 10 := ⟨by decide +kernel, rfl⟩
theorem d_X8_change_10 : g_dc cX8_change 10 (.iload_n 2) 1 11 := ⟨by decide +kernel, rfl⟩
theorem d_X8_change_11 : g_dc cX8_change 11 (.iconst 0) 1 12 := ⟨by decide +kernel, rfl⟩
theorem d_X8_change_12 : g_dc cX8_change 12 (.bipush 7) 2 14 := ⟨by decide +kernel, rfl⟩
theorem d_X8_change_14 : g_dc cX8_change 14 (.invokestatic 31) 3 17 := ⟨by decide +kernel, rfl⟩
theorem d_X8_change_17 : g_dc cX8_change 17 (.ifCond .eq 15) 3 20 := ⟨by decide +kernel, rfl⟩
theorem d_X8_change_20 : g_dc cX8_change 20 (.aload_n 0) 1 21 := ⟨by decide +kernel, rfl⟩
theorem d_X8_change_21 : g_dc cX8_change 21 (.getfield 27) 3 24 := ⟨by decide +kernel, rfl⟩
theorem d_X8_change_24 : g_dc cX8_change 24 (.iload_n 1) 1 25 := ⟨by decide +kernel, rfl⟩
theorem d_X8_change_25 : g_dc cX8_change 25 (.bipush 8) 2 27 := ⟨by decide +kernel, rfl⟩
theorem d_X8_change_27 : g_dc cX8_change 27 (.imul) 1 28 := ⟨by decide +kernel, rfl⟩
theorem d_X8_change_28 : g_dc cX8_change 28 (.iload_n 2) 1 29 := ⟨by decide +kernel, rfl⟩
theorem d_X8_change_29 : g_dc cX8_change 29 (.iadd) 1 30 := ⟨by decide +kernel, rfl⟩
theorem d_X8_change_30 : g_dc cX8_change 30 (.iload_n 3) 1 31 := ⟨by decide +kernel, rfl⟩
theorem d_X8_change_31 : g_dc cX8_change 31 (.iastore) 1 32 := ⟨by decide +kernel, rfl⟩
theorem d_X8_change_32 : g_dc cX8_change 32 (.return_) 1 33 := ⟨by decide +kernel, rfl⟩
set_option maxHeartbeats 4000000 in
set_option maxRecDepth 100000 in
theorem c_X8_change (l : Launch) (X : gX) (t sa : Nat) (len e0 folds told x : Int32) (f : Nat → Int32) (i what v : Int32) : g_Cv l X yX8_change cX8_change 4 2 0 0 [.ref t, .int i, .int what, .int v] [(t, .inr (8, [.int len, .int e0, .int folds, .int told, .int x, .ref sa])), (sa, .inl (X.2.1, 80, .inl f))] (fun w => ∃ g : Nat → Int32, w = [(t, .inr (8, [.int len, .int e0, .int folds, .int told, .int x, .ref sa])), (sa, .inl (X.2.1, 80, .inl g))] ∧ True) := by
  refine g_mv (by decide +kernel) (Nat.le_of_ble_eq_true rfl) (fun E cx hret => ?_)
  refine g_iload_n cx 1 rfl d_X8_change_0 ?_
  refine g_iconst cx 0 (by decide) d_X8_change_1 ?_
  refine g_bipush cx 9 (by decide) d_X8_change_2 ?_
  refine g_cNiW cx [.int i, .int 0, .int 9] [] (c_X10_within l X _ i 0 9) mn_X8_31 yS_X10_within d_X8_change_4 (by unfold g_rr; decide) (by decide) rfl (Nat.le_of_ble_eq_true rfl) (fun r1 w2 h3 => ?_)
  obtain ⟨rfl, rfl⟩ := h3
  refine g_if_eq cx 32 d_X8_change_7 (by decide) (fun zc7 => ?_) (fun zc7 => ?_)
  · exact hret d_X8_change_32 (Nat.le_of_ble_eq_true rfl) (Nat.le_of_ble_eq_true rfl) ⟨_, rfl, trivial⟩
  · refine g_iload_n cx 2 rfl d_X8_change_10 ?_
    refine g_iconst cx 0 (by decide) d_X8_change_11 ?_
    refine g_bipush cx 7 (by decide) d_X8_change_12 ?_
    refine g_cNiW cx [.int what, .int 0, .int 7] [] (c_X10_within l X _ what 0 7) mn_X8_31 yS_X10_within d_X8_change_14 (by unfold g_rr; decide) (by decide) rfl (Nat.le_of_ble_eq_true rfl) (fun r4 w5 h6 => ?_)
    obtain ⟨rfl, rfl⟩ := h6
    refine g_if_eq cx 32 d_X8_change_17 (by decide) (fun zc17 => ?_) (fun zc17 => ?_)
    · exact hret d_X8_change_32 (Nat.le_of_ble_eq_true rfl) (Nat.le_of_ble_eq_true rfl) ⟨_, rfl, trivial⟩
    · refine g_aload_n cx 0 rfl d_X8_change_20 ?_
      refine g_get cx cl_X8 fl_X8_27 0 (.ref sa) d_X8_change_21 rfl rfl ?_
      refine g_iload_n cx 1 rfl d_X8_change_24 ?_
      refine g_bipush cx 8 (by decide) d_X8_change_25 ?_
      refine g_imul cx d_X8_change_27 ?_
      refine g_iload_n cx 2 rfl d_X8_change_28 ?_
      refine g_iadd cx d_X8_change_29 ?_
      refine g_iload_n cx 3 rfl d_X8_change_30 ?_
      refine g_iast cx 1 ([(t, .inr (8, [.int len, .int e0, .int folds, .int told, .int x, .ref sa])), (sa, .inl (X.2.1, 80, .inl (upd f (Int32.toNatClampNeg ((i * 8) + what)) v)))]) d_X8_change_31 rfl (g_side_in (by assumption) (by assumption)) rfl ?_
      exact hret d_X8_change_32 (Nat.le_of_ble_eq_true rfl) (Nat.le_of_ble_eq_true rfl) ⟨_, rfl, trivial⟩
theorem d_X10_table_0 : g_dc cX10_table 0 (.iload_n 1) 1 1 := ⟨by decide +kernel, rfl⟩
theorem d_X10_table_1 : g_dc cX10_table 1 (.bipush 10) 2 3 := ⟨by decide +kernel, rfl⟩
theorem d_X10_table_3 : g_dc cX10_table 3 (.sipush 200) 3 6 := ⟨by decide +kernel, rfl⟩
theorem d_X10_table_6 : g_dc cX10_table 6 (.invokestatic 82) 3 9 := ⟨by decide +kernel, rfl⟩
theorem d_X10_table_9 : g_dc cX10_table 9 (.ifCond .eq 13) 3 12 := ⟨by decide +kernel, rfl⟩
theorem d_X10_table_12 : g_dc cX10_table 12 (.iload_n 2) 1 13 := ⟨by decide +kernel, rfl⟩
theorem d_X10_table_13 : g_dc cX10_table 13 (.iconst 0) 1 14 := ⟨by decide +kernel, rfl⟩
theorem d_X10_table_14 : g_dc cX10_table 14 (.bipush 63) 2 16 := ⟨by decide +kernel, rfl⟩
theorem d_X10_table_16 : g_dc cX10_table 16 (.invokestatic 82) 3 19 := ⟨by decide +kernel, rfl⟩
theorem d_X10_table_19 : g_dc cX10_table 19 (.ifCond .ne 5) 3 22 := ⟨by decide +kernel, rfl⟩
theorem d_X10_table_22 : g_dc cX10_table 22 (.iconst 0) 1 23 := ⟨by decide +kernel, rfl⟩
theorem d_X10_table_23 : g_dc cX10_table 23 (.ireturn) 1 24 := ⟨by decide +kernel, rfl⟩
theorem d_X10_table_24 : g_dc cX10_table 24 (.aload_n 0) 1 25 := ⟨by decide +kernel, rfl⟩
theorem d_X10_table_25 : g_dc cX10_table 25 (.getfield 10) 3 28 := ⟨by decide +kernel, rfl⟩
theorem d_X10_table_28 : g_dc cX10_table 28 (.iload_n 1) 1 29 := ⟨by decide +kernel, rfl⟩
theorem d_X10_table_29 : g_dc cX10_table 29 (.putfield 86) 3 32 := ⟨by decide +kernel, rfl⟩
theorem d_X10_table_32 : g_dc cX10_table 32 (.aload_n 0) 1 33 := ⟨by decide +kernel, rfl⟩
theorem d_X10_table_33 : g_dc cX10_table 33 (.getfield 10) 3 36 := ⟨by decide +kernel, rfl⟩
theorem d_X10_table_36 : g_dc cX10_table 36 (.iload_n 1) 1 37 := ⟨by decide +kernel, rfl⟩
theorem d_X10_table_37 : g_dc cX10_table 37 (.putfield 89) 3 40 := ⟨by decide +kernel, rfl⟩
theorem d_X10_table_40 : g_dc cX10_table 40 (.aload_n 0) 1 41 := ⟨by decide +kernel, rfl⟩
theorem d_X10_table_41 : g_dc cX10_table 41 (.getfield 10) 3 44 := ⟨by decide +kernel, rfl⟩
theorem d_X10_table_44 : g_dc cX10_table 44 (.iload_n 2) 1 45 := ⟨by decide +kernel, rfl⟩
theorem d_X10_table_45 : g_dc cX10_table 45 (.putfield 92) 3 48 := ⟨by decide +kernel, rfl⟩
theorem d_X10_table_48 : g_dc cX10_table 48 (.aload_n 0) 1 49 := ⟨by decide +kernel, rfl⟩
theorem d_X10_table_49 : g_dc cX10_table 49 (.getfield 10) 3 52 := ⟨by decide +kernel, rfl⟩
theorem d_X10_table_52 : g_dc cX10_table 52 (.iconst 0) 1 53 := ⟨by decide +kernel, rfl⟩
theorem d_X10_table_53 : g_dc cX10_table 53 (.putfield 95) 3 56 := ⟨by decide +kernel, rfl⟩
theorem d_X10_table_56 : g_dc cX10_table 56 (.iconst 1) 1 57 := ⟨by decide +kernel, rfl⟩
theorem d_X10_table_57 : g_dc cX10_table 57 (.ireturn) 1 58 := ⟨by decide +kernel, rfl⟩
set_option maxHeartbeats 4000000 in
set_option maxRecDepth 100000 in
theorem c_X10_table (l : Launch) (X : gX) (ad : Nat → Nat) (a b : Int32) : g_Ci l X yX10_table cX10_table 3 (some .boolean) 2 0 0 [.ref (ad 0), .int a, .int b] (wX X ad fX0 r0) (fun r _ => r = S_table a b) := by
  refine g_mi (by decide +kernel) (Nat.le_of_ble_eq_true rfl) (fun E cx hret => ?_)
  refine g_iload_n cx 1 rfl d_X10_table_0 ?_
  refine g_bipush cx 10 (by decide) d_X10_table_1 ?_
  refine g_sipush cx 200 (by decide) d_X10_table_3 ?_
  refine g_cSiW cx [.int a, .int 10, .int 200] [] (c_X10_within l X _ a 10 200) ml_X10_82 yS_X10_within rfl d_X10_table_6 (by unfold g_rr; decide) (by decide) rfl (Nat.le_of_ble_eq_true rfl) (fun r1 w2 h3 => ?_)
  obtain ⟨rfl, rfl⟩ := h3
  refine g_if_eq cx 22 d_X10_table_9 (by decide) (fun zc9 => ?_) (fun zc9 => ?_)
  · refine g_iconst cx 0 (by decide) d_X10_table_22 ?_
    exact hret d_X10_table_23 (Nat.le_of_ble_eq_true rfl) (Nat.le_of_ble_eq_true rfl) rfl (by simp [S_table, *])
  · refine g_iload_n cx 2 rfl d_X10_table_12 ?_
    refine g_iconst cx 0 (by decide) d_X10_table_13 ?_
    refine g_bipush cx 63 (by decide) d_X10_table_14 ?_
    refine g_cSiW cx [.int b, .int 0, .int 63] [] (c_X10_within l X _ b 0 63) ml_X10_82 yS_X10_within rfl d_X10_table_16 (by unfold g_rr; decide) (by decide) rfl (Nat.le_of_ble_eq_true rfl) (fun r4 w5 h6 => ?_)
    obtain ⟨rfl, rfl⟩ := h6
    refine g_if_ne cx 24 d_X10_table_19 (by decide) (fun zc19 => ?_) (fun zc19 => ?_)
    · refine g_aload_n cx 0 rfl d_X10_table_24 ?_
      refine g_get cx cl_X10 fl_X10_10 0 (.ref (ad 1)) d_X10_table_25 rfl rfl ?_
      refine g_iload_n cx 1 rfl d_X10_table_28 ?_
      refine g_putN cx cl_X8 fn_X10_86 1 (wX X ad (upd fX0 16 a) r0) d_X10_table_29 rfl rfl rfl rfl (Nat.le_of_ble_eq_true rfl) rfl ?_
      refine g_aload_n cx 0 rfl d_X10_table_32 ?_
      refine g_get cx cl_X10 fl_X10_10 0 (.ref (ad 1)) d_X10_table_33 rfl rfl ?_
      refine g_iload_n cx 1 rfl d_X10_table_36 ?_
      refine g_putN cx cl_X8 fn_X10_89 1 (wX X ad (upd (upd fX0 16 a) 17 a) r0) d_X10_table_37 rfl rfl rfl rfl (Nat.le_of_ble_eq_true rfl) rfl ?_
      refine g_aload_n cx 0 rfl d_X10_table_40 ?_
      refine g_get cx cl_X10 fl_X10_10 0 (.ref (ad 1)) d_X10_table_41 rfl rfl ?_
      refine g_iload_n cx 2 rfl d_X10_table_44 ?_
      refine g_putN cx cl_X8 fn_X10_92 1 (wX X ad (upd (upd (upd fX0 16 a) 17 a) 18 b) r0) d_X10_table_45 rfl rfl rfl rfl (Nat.le_of_ble_eq_true rfl) rfl ?_
      refine g_aload_n cx 0 rfl d_X10_table_48 ?_
      refine g_get cx cl_X10 fl_X10_10 0 (.ref (ad 1)) d_X10_table_49 rfl rfl ?_
      refine g_iconst cx 0 (by decide) d_X10_table_52 ?_
      refine g_putN cx cl_X8 fn_X10_95 1 (wX X ad (upd (upd (upd (upd fX0 16 a) 17 a) 18 b) 19 0) r0) d_X10_table_53 rfl rfl rfl rfl (Nat.le_of_ble_eq_true rfl) rfl ?_
      refine g_iconst cx 1 (by decide) d_X10_table_56 ?_
      exact hret d_X10_table_57 (Nat.le_of_ble_eq_true rfl) (Nat.le_of_ble_eq_true rfl) rfl (by simp [S_table, *])
    · refine g_iconst cx 0 (by decide) d_X10_table_22 ?_
      exact hret d_X10_table_23 (Nat.le_of_ble_eq_true rfl) (Nat.le_of_ble_eq_true rfl) rfl (by simp [S_table, *])
theorem d_X10_cloth_0 : g_dc cX10_cloth 0 (.iload_n 1) 1 1 := ⟨by decide +kernel, rfl⟩
theorem d_X10_cloth_1 : g_dc cX10_cloth 1 (.iconst 0) 1 2 := ⟨by decide +kernel, rfl⟩
theorem d_X10_cloth_2 : g_dc cX10_cloth 2 (.aload_n 0) 1 3 := ⟨by decide +kernel, rfl⟩
theorem d_X10_cloth_3 : g_dc cX10_cloth 3 (.getfield 10) 3 6 := ⟨by decide +kernel, rfl⟩
theorem d_X10_cloth_6 : g_dc cX10_cloth 6 (.getfield 86) 3 9 := ⟨by decide +kernel, rfl⟩
theorem d_X10_cloth_9 : g_dc cX10_cloth 9 (.invokestatic 82) 3 12 := ⟨by decide +kernel, rfl⟩
theorem d_X10_cloth_12 : g_dc cX10_cloth 12 (.ifCond .ne 5) 3 15 := ⟨by decide +kernel, rfl⟩
theorem d_X10_cloth_15 : g_dc cX10_cloth 15 (.iconst 0) 1 16 := ⟨by decide +kernel, rfl⟩
theorem d_X10_cloth_16 : g_dc cX10_cloth 16 (.ireturn) 1 17 := ⟨by decide +kernel, rfl⟩
theorem d_X10_cloth_17 : g_dc cX10_cloth 17 (.aload_n 0) 1 18 := ⟨by decide +kernel, rfl⟩
theorem d_X10_cloth_18 : g_dc cX10_cloth 18 (.getfield 10) 3 21 := ⟨by decide +kernel, rfl⟩
theorem d_X10_cloth_21 : g_dc cX10_cloth 21 (.iload_n 1) 1 22 := ⟨by decide +kernel, rfl⟩
theorem d_X10_cloth_22 : g_dc cX10_cloth 22 (.putfield 89) 3 25 := ⟨by decide +kernel, rfl⟩
theorem d_X10_cloth_25 : g_dc cX10_cloth 25 (.iconst 1) 1 26 := ⟨by decide +kernel, rfl⟩
theorem d_X10_cloth_26 : g_dc cX10_cloth 26 (.ireturn) 1 27 := ⟨by decide +kernel, rfl⟩
set_option maxHeartbeats 4000000 in
set_option maxRecDepth 100000 in
theorem c_X10_cloth (l : Launch) (X : gX) (ad : Nat → Nat) (a : Int32) : g_Ci l X yX10_cloth cX10_cloth 2 (some .boolean) 2 0 0 [.ref (ad 0), .int a] (wX X ad fX0 r0) (fun r _ => r = S_cloth a) := by
  refine g_mi (by decide +kernel) (Nat.le_of_ble_eq_true rfl) (fun E cx hret => ?_)
  refine g_iload_n cx 1 rfl d_X10_cloth_0 ?_
  refine g_iconst cx 0 (by decide) d_X10_cloth_1 ?_
  refine g_aload_n cx 0 rfl d_X10_cloth_2 ?_
  refine g_get cx cl_X10 fl_X10_10 0 (.ref (ad 1)) d_X10_cloth_3 rfl rfl ?_
  refine g_getN cx cl_X8 fn_X10_86 1 (.int 100) d_X10_cloth_6 rfl rfl ?_
  refine g_cSiW cx [.int a, .int 0, .int 100] [] (c_X10_within l X _ a 0 100) ml_X10_82 yS_X10_within rfl d_X10_cloth_9 (by unfold g_rr; decide) (by decide) rfl (Nat.le_of_ble_eq_true rfl) (fun r1 w2 h3 => ?_)
  obtain ⟨rfl, rfl⟩ := h3
  refine g_if_ne cx 17 d_X10_cloth_12 (by decide) (fun zc12 => ?_) (fun zc12 => ?_)
  · refine g_aload_n cx 0 rfl d_X10_cloth_17 ?_
    refine g_get cx cl_X10 fl_X10_10 0 (.ref (ad 1)) d_X10_cloth_18 rfl rfl ?_
    refine g_iload_n cx 1 rfl d_X10_cloth_21 ?_
    refine g_putN cx cl_X8 fn_X10_89 1 (wX X ad (upd fX0 17 a) r0) d_X10_cloth_22 rfl rfl rfl rfl (Nat.le_of_ble_eq_true rfl) rfl ?_
    refine g_iconst cx 1 (by decide) d_X10_cloth_25 ?_
    exact hret d_X10_cloth_26 (Nat.le_of_ble_eq_true rfl) (Nat.le_of_ble_eq_true rfl) rfl (by simp [S_cloth, *])
  · refine g_iconst cx 0 (by decide) d_X10_cloth_15 ?_
    exact hret d_X10_cloth_16 (Nat.le_of_ble_eq_true rfl) (Nat.le_of_ble_eq_true rfl) rfl (by simp [S_cloth, *])
theorem d_X10_thing_0 : g_dc cX10_thing 0 (.iload_n 1) 1 1 := ⟨by decide +kernel, rfl⟩
theorem d_X10_thing_1 : g_dc cX10_thing 1 (.iconst 0) 1 2 := ⟨by decide +kernel, rfl⟩
theorem d_X10_thing_2 : g_dc cX10_thing 2 (.bipush 9) 2 4 := ⟨by decide +kernel, rfl⟩
theorem d_X10_thing_4 : g_dc cX10_thing 4 (.invokestatic 82) 3 7 := ⟨by decide +kernel, rfl⟩
theorem d_X10_thing_7 : g_dc cX10_thing 7 (.ifCond .eq 66) 3 10 := ⟨by decide +kernel, rfl⟩
theorem d_X10_thing_10 : g_dc cX10_thing 10 (.iload_n 2) 1 11 := ⟨by decide +kernel, rfl⟩
theorem d_X10_thing_11 : g_dc cX10_thing 11 (.iconst 0) 1 12 := ⟨by decide +kernel, rfl⟩
theorem d_X10_thing_12 : g_dc cX10_thing 12 (.iconst 3) 1 13 := ⟨by decide +kernel, rfl⟩
theorem d_X10_thing_13 : g_dc cX10_thing 13 (.invokestatic 82) 3 16 := ⟨by decide +kernel, rfl⟩
theorem d_X10_thing_16 : g_dc cX10_thing 16 (.ifCond .eq 57) 3 19 := ⟨by decide +kernel, rfl⟩
theorem d_X10_thing_19 : g_dc cX10_thing 19 (.iload_n 3) 1 20 := ⟨by decide +kernel, rfl⟩
theorem d_X10_thing_20 : g_dc cX10_thing 20 (.iconst 0) 1 21 := ⟨by decide +kernel, rfl⟩
theorem d_X10_thing_21 : g_dc cX10_thing 21 (.aload_n 0) 1 22 := ⟨by decide +kernel, rfl⟩
theorem d_X10_thing_22 : g_dc cX10_thing 22 (.getfield 10) 3 25 := ⟨by decide +kernel, rfl⟩
theorem d_X10_thing_25 : g_dc cX10_thing 25 (.getfield 86) 3 28 := ⟨by decide +kernel, rfl⟩
theorem d_X10_thing_28 : g_dc cX10_thing 28 (.iconst 1) 1 29 := ⟨by decide +kernel, rfl⟩
theorem d_X10_thing_29 : g_dc cX10_thing 29 (.isub) 1 30 := ⟨by decide +kernel, rfl⟩
theorem d_X10_thing_30 : g_dc cX10_thing 30 (.invokestatic 82) 3 33 := ⟨by decide +kernel, rfl⟩
theorem d_X10_thing_33 : g_dc cX10_thing 33 (.ifCond .eq 40) 3 36 := ⟨by decide +kernel, rfl⟩
theorem d_X10_thing_36 : g_dc cX10_thing 36 (.iload 4) 2 38 := ⟨by decide +kernel, rfl⟩
theorem d_X10_thing_38 : g_dc cX10_thing 38 (.iconst 1) 1 39 := ⟨by decide +kernel, rfl⟩
theorem d_X10_thing_39 : g_dc cX10_thing 39 (.bipush 40) 2 41 := ⟨by decide +kernel, rfl⟩
theorem d_X10_thing_41 : g_dc cX10_thing 41 (.invokestatic 82) 3 44 := ⟨by decide +kernel, rfl⟩
theorem d_X10_thing_44 : g_dc cX10_thing 44 (.ifCond .eq 29) 3 47 := ⟨by decide +kernel, rfl⟩
theorem d_X10_thing_47 : g_dc cX10_thing 47 (.iload 5) 2 49 := ⟨by decide +kernel, rfl⟩
theorem d_X10_thing_49 : g_dc cX10_thing 49 (.iconst 1) 1 50 := ⟨by decide +kernel, rfl⟩
theorem d_X10_thing_50 : g_dc cX10_thing 50 (.bipush 60) 2 52 := ⟨by decide +kernel, rfl⟩
theorem d_X10_thing_52 : g_dc cX10_thing 52 (.invokestatic 82) 3 55 := ⟨by decide +kernel, rfl⟩
theorem d_X10_thing_55 : g_dc cX10_thing 55 (.ifCond .eq 18) 3 58 := ⟨by decide +kernel, rfl⟩
theorem d_X10_thing_58 : g_dc cX10_thing 58 (.iload 6) 2 60 := ⟨by decide +kernel, rfl⟩
theorem d_X10_thing_60 : g_dc cX10_thing 60 (.iconst 1) 1 61 := ⟨by decide +kernel, rfl⟩
theorem d_X10_thing_61 : g_dc cX10_thing 61 (.bipush 99) 2 63 := ⟨by decide +kernel, rfl⟩
theorem d_X10_thing_63 : g_dc cX10_thing 63 (.invokestatic 82) 3 66 := ⟨by decide +kernel, rfl⟩
theorem d_X10_thing_66 : g_dc cX10_thing 66 (.ifCond .eq 7) 3 69 := ⟨by decide +kernel, rfl⟩
theorem d_X10_thing_69 : g_dc cX10_thing 69 (.iconst 1) 1 70 := ⟨by decide +kernel, rfl⟩
theorem d_X10_thing_70 : g_dc cX10_thing 70 (.goto 4) 3 73 := ⟨by decide +kernel, rfl⟩
theorem d_X10_thing_73 : g_dc cX10_thing 73 (.iconst 0) 1 74 := ⟨by decide +kernel, rfl⟩
theorem d_X10_thing_74 : g_dc cX10_thing 74 (.istore 7) 2 76 := ⟨by decide +kernel, rfl⟩
theorem d_X10_thing_76 : g_dc cX10_thing 76 (.iload 7) 2 78 := ⟨by decide +kernel, rfl⟩
theorem d_X10_thing_78 : g_dc cX10_thing 78 (.ifCond .ne 5) 3 81 := ⟨by decide +kernel, rfl⟩
theorem d_X10_thing_81 : g_dc cX10_thing 81 (.iconst 0) 1 82 := ⟨by decide +kernel, rfl⟩
theorem d_X10_thing_82 : g_dc cX10_thing 82 (.ireturn) 1 83 := ⟨by decide +kernel, rfl⟩
theorem d_X10_thing_83 : g_dc cX10_thing 83 (.aload_n 0) 1 84 := ⟨by decide +kernel, rfl⟩
theorem d_X10_thing_84 : g_dc cX10_thing 84 (.getfield 10) 3 87 := ⟨by decide +kernel, rfl⟩
theorem d_X10_thing_87 : g_dc cX10_thing 87 (.dup) 1 88 := ⟨by decide +kernel, rfl⟩
theorem d_X10_thing_88 : g_dc cX10_thing 88 (.getfield 95) 3 91 := ⟨by decide +kernel, rfl⟩
theorem d_X10_thing_91 : g_dc cX10_thing 91 (.iconst 1) 1 92 := ⟨by decide +kernel, rfl⟩
theorem d_X10_thing_92 : g_dc cX10_thing 92 (.iload_n 1) 1 93 := ⟨by decide +kernel, rfl⟩
theorem d_X10_thing_93 : g_dc cX10_thing 93 (.ishl) 1 94 := ⟨by decide +kernel, rfl⟩
theorem d_X10_thing_94 : g_dc cX10_thing 94 (.ior) 1 95 := ⟨by decide +kernel, rfl⟩
theorem d_X10_thing_95 : g_dc cX10_thing 95 (.putfield 95) 3 98 := ⟨by decide +kernel, rfl⟩
theorem d_X10_thing_98 : g_dc cX10_thing 98 (.aload_n 0) 1 99 := ⟨by decide +kernel, rfl⟩
theorem d_X10_thing_99 : g_dc cX10_thing 99 (.getfield 10) 3 102 := ⟨by decide +kernel, rfl⟩
theorem d_X10_thing_102 : g_dc cX10_thing 102 (.iload_n 1) 1 103 := ⟨by decide +kernel, rfl⟩
theorem d_X10_thing_103 : g_dc cX10_thing 103 (.iconst 0) 1 104 := ⟨by decide +kernel, rfl⟩
theorem d_X10_thing_104 : g_dc cX10_thing 104 (.iload_n 2) 1 105 := ⟨by decide +kernel, rfl⟩
theorem d_X10_thing_105 : g_dc cX10_thing 105 (.invokevirtual 98) 3 108 := ⟨by decide +kernel, rfl⟩
theorem d_X10_thing_108 : g_dc cX10_thing 108 (.aload_n 0) 1 109 := ⟨by decide +kernel, rfl⟩
theorem d_X10_thing_109 : g_dc cX10_thing 109 (.getfield 10) 3 112 := ⟨by decide +kernel, rfl⟩
theorem d_X10_thing_112 : g_dc cX10_thing 112 (.iload_n 1) 1 113 := ⟨by decide +kernel, rfl⟩
theorem d_X10_thing_113 : g_dc cX10_thing 113 (.iconst 1) 1 114 := ⟨by decide +kernel, rfl⟩
theorem d_X10_thing_114 : g_dc cX10_thing 114 (.iload_n 3) 1 115 := ⟨by decide +kernel, rfl⟩
theorem d_X10_thing_115 : g_dc cX10_thing 115 (.invokevirtual 98) 3 118 := ⟨by decide +kernel, rfl⟩
theorem d_X10_thing_118 : g_dc cX10_thing 118 (.aload_n 0) 1 119 := ⟨by decide +kernel, rfl⟩
theorem d_X10_thing_119 : g_dc cX10_thing 119 (.getfield 10) 3 122 := ⟨by decide +kernel, rfl⟩
theorem d_X10_thing_122 : g_dc cX10_thing 122 (.iload_n 1) 1 123 := ⟨by decide +kernel, rfl⟩
theorem d_X10_thing_123 : g_dc cX10_thing 123 (.iconst 2) 1 124 := ⟨by decide +kernel, rfl⟩
theorem d_X10_thing_124 : g_dc cX10_thing 124 (.iload 4) 2 126 := ⟨by decide +kernel, rfl⟩
theorem d_X10_thing_126 : g_dc cX10_thing 126 (.invokevirtual 98) 3 129 := ⟨by decide +kernel, rfl⟩
theorem d_X10_thing_129 : g_dc cX10_thing 129 (.aload_n 0) 1 130 := ⟨by decide +kernel, rfl⟩
theorem d_X10_thing_130 : g_dc cX10_thing 130 (.getfield 10) 3 133 := ⟨by decide +kernel, rfl⟩
theorem d_X10_thing_133 : g_dc cX10_thing 133 (.iload_n 1) 1 134 := ⟨by decide +kernel, rfl⟩
theorem d_X10_thing_134 : g_dc cX10_thing 134 (.iconst 3) 1 135 := ⟨by decide +kernel, rfl⟩
theorem d_X10_thing_135 : g_dc cX10_thing 135 (.iload 5) 2 137 := ⟨by decide +kernel, rfl⟩
theorem d_X10_thing_137 : g_dc cX10_thing 137 (.invokevirtual 98) 3 140 := ⟨by decide +kernel, rfl⟩
theorem d_X10_thing_140 : g_dc cX10_thing 140 (.aload_n 0) 1 141 := ⟨by decide +kernel, rfl⟩
theorem d_X10_thing_141 : g_dc cX10_thing 141 (.getfield 10) 3 144 := ⟨by decide +kernel, rfl⟩
theorem d_X10_thing_144 : g_dc cX10_thing 144 (.iload_n 1) 1 145 := ⟨by decide +kernel, rfl⟩
theorem d_X10_thing_145 : g_dc cX10_thing 145 (.iconst 4) 1 146 := ⟨by decide +kernel, rfl⟩
theorem d_X10_thing_146 : g_dc cX10_thing 146 (.iload 6) 2 148 := ⟨by decide +kernel, rfl⟩
theorem d_X10_thing_148 : g_dc cX10_thing 148 (.invokevirtual 98) 3 151 := ⟨by decide +kernel, rfl⟩
theorem d_X10_thing_151 : g_dc cX10_thing 151 (.aload_n 0) 1 152 := ⟨by decide +kernel, rfl⟩
theorem d_X10_thing_152 : g_dc cX10_thing 152 (.getfield 10) 3 155 := ⟨by decide +kernel, rfl⟩
theorem d_X10_thing_155 : g_dc cX10_thing 155 (.iload_n 1) 1 156 := ⟨by decide +kernel, rfl⟩
theorem d_X10_thing_156 : g_dc cX10_thing 156 (.iconst 5) 1 157 := ⟨by decide +kernel, rfl⟩
theorem d_X10_thing_157 : g_dc cX10_thing 157 (.iconst 0) 1 158 := ⟨by decide +kernel, rfl⟩
theorem d_X10_thing_158 : g_dc cX10_thing 158 (.invokevirtual 98) 3 161 := ⟨by decide +kernel, rfl⟩
theorem d_X10_thing_161 : g_dc cX10_thing 161 (.aload_n 0) 1 162 := ⟨by decide +kernel, rfl⟩
theorem d_X10_thing_162 : g_dc cX10_thing 162 (.getfield 10) 3 165 := ⟨by decide +kernel, rfl⟩
theorem d_X10_thing_165 : g_dc cX10_thing 165 (.iload_n 1) 1 166 := ⟨by decide +kernel, rfl⟩
theorem d_X10_thing_166 : g_dc cX10_thing 166 (.bipush 6) 2 168 := ⟨by decide +kernel, rfl⟩
theorem d_X10_thing_168 : g_dc cX10_thing 168 (.iconst 0) 1 169 := ⟨by decide +kernel, rfl⟩
theorem d_X10_thing_169 : g_dc cX10_thing 169 (.invokevirtual 98) 3 172 := ⟨by decide +kernel, rfl⟩
theorem d_X10_thing_172 : g_dc cX10_thing 172 (.aload_n 0) 1 173 := ⟨by decide +kernel, rfl⟩
theorem d_X10_thing_173 : g_dc cX10_thing 173 (.getfield 10) 3 176 := ⟨by decide +kernel, rfl⟩
theorem d_X10_thing_176 : g_dc cX10_thing 176 (.iload_n 1) 1 177 := ⟨by decide +kernel, rfl⟩
theorem d_X10_thing_177 : g_dc cX10_thing 177 (.bipush 7) 2 179 := ⟨by decide +kernel, rfl⟩
theorem d_X10_thing_179 : g_dc cX10_thing 179 (.iconst 0) 1 180 := ⟨by decide +kernel, rfl⟩
theorem d_X10_thing_180 : g_dc cX10_thing 180 (.invokevirtual 98) 3 183 := ⟨by decide +kernel, rfl⟩
theorem d_X10_thing_183 : g_dc cX10_thing 183 (.iconst 1) 1 184 := ⟨by decide +kernel, rfl⟩
theorem d_X10_thing_184 : g_dc cX10_thing 184 (.ireturn) 1 185 := ⟨by decide +kernel, rfl⟩
set_option maxHeartbeats 4000000 in
set_option maxRecDepth 100000 in
theorem c_X10_thing (l : Launch) (X : gX) (ad : Nat → Nat) (a b c d e f : Int32) : g_Ci l X yX10_thing cX10_thing 8 (some .boolean) 3 0 0 [.ref (ad 0), .int a, .int b, .int c, .int d, .int e, .int f] (wX X ad fX0 r0) (fun r _ => r = S_thing a b c d e f) := by
  refine g_mi (by decide +kernel) (Nat.le_of_ble_eq_true rfl) (fun E cx hret => ?_)
  refine g_iload_n cx 1 rfl d_X10_thing_0 ?_
  refine g_iconst cx 0 (by decide) d_X10_thing_1 ?_
  refine g_bipush cx 9 (by decide) d_X10_thing_2 ?_
  refine g_cSiW cx [.int a, .int 0, .int 9] [] (c_X10_within l X _ a 0 9) ml_X10_82 yS_X10_within rfl d_X10_thing_4 (by unfold g_rr; decide) (by decide) rfl (Nat.le_of_ble_eq_true rfl) (fun r1 w2 h3 => ?_)
  obtain ⟨rfl, rfl⟩ := h3
  refine g_if_eq cx 73 d_X10_thing_7 (by decide) (fun zc7 => ?_) (fun zc7 => ?_)
  · refine g_iconst cx 0 (by decide) d_X10_thing_73 ?_
    refine g_istore cx [(7, .int 0), (0, .ref (ad 0)), (1, .int a), (2, .int b), (3, .int c), (4, .int d), (5, .int e), (6, .int f)] d_X10_thing_74 (by decide) rfl ?_
    refine g_iload cx 0 rfl d_X10_thing_76 ?_
    refine g_if_ne_f cx 83 d_X10_thing_78 (by decide) (by decide) ?_
    refine g_iconst cx 0 (by decide) d_X10_thing_81 ?_
    exact hret d_X10_thing_82 (Nat.le_of_ble_eq_true rfl) (Nat.le_of_ble_eq_true rfl) rfl (by simp [S_thing, *])
  · refine g_iload_n cx 2 rfl d_X10_thing_10 ?_
    refine g_iconst cx 0 (by decide) d_X10_thing_11 ?_
    refine g_iconst cx 3 (by decide) d_X10_thing_12 ?_
    refine g_cSiW cx [.int b, .int 0, .int 3] [] (c_X10_within l X _ b 0 3) ml_X10_82 yS_X10_within rfl d_X10_thing_13 (by unfold g_rr; decide) (by decide) rfl (Nat.le_of_ble_eq_true rfl) (fun r4 w5 h6 => ?_)
    obtain ⟨rfl, rfl⟩ := h6
    refine g_if_eq cx 73 d_X10_thing_16 (by decide) (fun zc16 => ?_) (fun zc16 => ?_)
    · refine g_iconst cx 0 (by decide) d_X10_thing_73 ?_
      refine g_istore cx [(7, .int 0), (0, .ref (ad 0)), (1, .int a), (2, .int b), (3, .int c), (4, .int d), (5, .int e), (6, .int f)] d_X10_thing_74 (by decide) rfl ?_
      refine g_iload cx 0 rfl d_X10_thing_76 ?_
      refine g_if_ne_f cx 83 d_X10_thing_78 (by decide) (by decide) ?_
      refine g_iconst cx 0 (by decide) d_X10_thing_81 ?_
      exact hret d_X10_thing_82 (Nat.le_of_ble_eq_true rfl) (Nat.le_of_ble_eq_true rfl) rfl (by simp [S_thing, *])
    · refine g_iload_n cx 3 rfl d_X10_thing_19 ?_
      refine g_iconst cx 0 (by decide) d_X10_thing_20 ?_
      refine g_aload_n cx 0 rfl d_X10_thing_21 ?_
      refine g_get cx cl_X10 fl_X10_10 0 (.ref (ad 1)) d_X10_thing_22 rfl rfl ?_
      refine g_getN cx cl_X8 fn_X10_86 1 (.int 100) d_X10_thing_25 rfl rfl ?_
      refine g_iconst cx 1 (by decide) d_X10_thing_28 ?_
      refine g_isub cx d_X10_thing_29 ?_
      refine g_toi 99 (by decide) ?_
      refine g_cSiW cx [.int c, .int 0, .int 99] [] (c_X10_within l X _ c 0 99) ml_X10_82 yS_X10_within rfl d_X10_thing_30 (by unfold g_rr; decide) (by decide) rfl (Nat.le_of_ble_eq_true rfl) (fun r7 w8 h9 => ?_)
      obtain ⟨rfl, rfl⟩ := h9
      refine g_if_eq cx 73 d_X10_thing_33 (by decide) (fun zc33 => ?_) (fun zc33 => ?_)
      · refine g_iconst cx 0 (by decide) d_X10_thing_73 ?_
        refine g_istore cx [(7, .int 0), (0, .ref (ad 0)), (1, .int a), (2, .int b), (3, .int c), (4, .int d), (5, .int e), (6, .int f)] d_X10_thing_74 (by decide) rfl ?_
        refine g_iload cx 0 rfl d_X10_thing_76 ?_
        refine g_if_ne_f cx 83 d_X10_thing_78 (by decide) (by decide) ?_
        refine g_iconst cx 0 (by decide) d_X10_thing_81 ?_
        exact hret d_X10_thing_82 (Nat.le_of_ble_eq_true rfl) (Nat.le_of_ble_eq_true rfl) rfl (by simp [S_thing, *])
      · refine g_iload cx 4 rfl d_X10_thing_36 ?_
        refine g_iconst cx 1 (by decide) d_X10_thing_38 ?_
        refine g_bipush cx 40 (by decide) d_X10_thing_39 ?_
        refine g_cSiW cx [.int d, .int 1, .int 40] [] (c_X10_within l X _ d 1 40) ml_X10_82 yS_X10_within rfl d_X10_thing_41 (by unfold g_rr; decide) (by decide) rfl (Nat.le_of_ble_eq_true rfl) (fun r10 w11 h12 => ?_)
        obtain ⟨rfl, rfl⟩ := h12
        refine g_if_eq cx 73 d_X10_thing_44 (by decide) (fun zc44 => ?_) (fun zc44 => ?_)
        · refine g_iconst cx 0 (by decide) d_X10_thing_73 ?_
          refine g_istore cx [(7, .int 0), (0, .ref (ad 0)), (1, .int a), (2, .int b), (3, .int c), (4, .int d), (5, .int e), (6, .int f)] d_X10_thing_74 (by decide) rfl ?_
          refine g_iload cx 0 rfl d_X10_thing_76 ?_
          refine g_if_ne_f cx 83 d_X10_thing_78 (by decide) (by decide) ?_
          refine g_iconst cx 0 (by decide) d_X10_thing_81 ?_
          exact hret d_X10_thing_82 (Nat.le_of_ble_eq_true rfl) (Nat.le_of_ble_eq_true rfl) rfl (by simp [S_thing, *])
        · refine g_iload cx 5 rfl d_X10_thing_47 ?_
          refine g_iconst cx 1 (by decide) d_X10_thing_49 ?_
          refine g_bipush cx 60 (by decide) d_X10_thing_50 ?_
          refine g_cSiW cx [.int e, .int 1, .int 60] [] (c_X10_within l X _ e 1 60) ml_X10_82 yS_X10_within rfl d_X10_thing_52 (by unfold g_rr; decide) (by decide) rfl (Nat.le_of_ble_eq_true rfl) (fun r13 w14 h15 => ?_)
          obtain ⟨rfl, rfl⟩ := h15
          refine g_if_eq cx 73 d_X10_thing_55 (by decide) (fun zc55 => ?_) (fun zc55 => ?_)
          · refine g_iconst cx 0 (by decide) d_X10_thing_73 ?_
            refine g_istore cx [(7, .int 0), (0, .ref (ad 0)), (1, .int a), (2, .int b), (3, .int c), (4, .int d), (5, .int e), (6, .int f)] d_X10_thing_74 (by decide) rfl ?_
            refine g_iload cx 0 rfl d_X10_thing_76 ?_
            refine g_if_ne_f cx 83 d_X10_thing_78 (by decide) (by decide) ?_
            refine g_iconst cx 0 (by decide) d_X10_thing_81 ?_
            exact hret d_X10_thing_82 (Nat.le_of_ble_eq_true rfl) (Nat.le_of_ble_eq_true rfl) rfl (by simp [S_thing, *])
          · refine g_iload cx 6 rfl d_X10_thing_58 ?_
            refine g_iconst cx 1 (by decide) d_X10_thing_60 ?_
            refine g_bipush cx 99 (by decide) d_X10_thing_61 ?_
            refine g_cSiW cx [.int f, .int 1, .int 99] [] (c_X10_within l X _ f 1 99) ml_X10_82 yS_X10_within rfl d_X10_thing_63 (by unfold g_rr; decide) (by decide) rfl (Nat.le_of_ble_eq_true rfl) (fun r16 w17 h18 => ?_)
            obtain ⟨rfl, rfl⟩ := h18
            refine g_if_eq cx 73 d_X10_thing_66 (by decide) (fun zc66 => ?_) (fun zc66 => ?_)
            · refine g_iconst cx 0 (by decide) d_X10_thing_73 ?_
              refine g_istore cx [(7, .int 0), (0, .ref (ad 0)), (1, .int a), (2, .int b), (3, .int c), (4, .int d), (5, .int e), (6, .int f)] d_X10_thing_74 (by decide) rfl ?_
              refine g_iload cx 0 rfl d_X10_thing_76 ?_
              refine g_if_ne_f cx 83 d_X10_thing_78 (by decide) (by decide) ?_
              refine g_iconst cx 0 (by decide) d_X10_thing_81 ?_
              exact hret d_X10_thing_82 (Nat.le_of_ble_eq_true rfl) (Nat.le_of_ble_eq_true rfl) rfl (by simp [S_thing, *])
            · refine g_iconst cx 1 (by decide) d_X10_thing_69 ?_
              refine g_goto cx 74 d_X10_thing_70 (by decide) ?_
              refine g_istore cx [(7, .int 1), (0, .ref (ad 0)), (1, .int a), (2, .int b), (3, .int c), (4, .int d), (5, .int e), (6, .int f)] d_X10_thing_74 (by decide) rfl ?_
              refine g_iload cx 0 rfl d_X10_thing_76 ?_
              refine g_if_ne_t cx 83 d_X10_thing_78 (by decide) (by decide) ?_
              refine g_aload_n cx 1 rfl d_X10_thing_83 ?_
              refine g_get cx cl_X10 fl_X10_10 0 (.ref (ad 1)) d_X10_thing_84 rfl rfl ?_
              refine g_dup cx rfl d_X10_thing_87 ?_
              refine g_getN cx cl_X8 fn_X10_95 1 (.int 0) d_X10_thing_88 rfl rfl ?_
              refine g_iconst cx 1 (by decide) d_X10_thing_91 ?_
              refine g_iload_n cx 2 rfl d_X10_thing_92 ?_
              refine g_ishl cx d_X10_thing_93 ?_
              refine g_ior cx d_X10_thing_94 ?_
              refine g_toi (1 <<< (a &&& 31)) (by simp) ?_
              refine g_putN cx cl_X8 fn_X10_95 1 (wX X ad (upd fX0 19 (1 <<< (a &&& 31))) r0) d_X10_thing_95 rfl rfl rfl rfl (Nat.le_of_ble_eq_true rfl) rfl ?_
              refine g_aload_n cx 1 rfl d_X10_thing_98 ?_
              refine g_get cx cl_X10 fl_X10_10 0 (.ref (ad 1)) d_X10_thing_99 rfl rfl ?_
              refine g_iload_n cx 2 rfl d_X10_thing_102 ?_
              refine g_iconst cx 0 (by decide) d_X10_thing_103 ?_
              refine g_iload_n cx 3 rfl d_X10_thing_104 ?_
              refine g_cVv cx [.int a, .int 0, .int b] [] (c_X8_change l X (ad 1) (ad 2) 100 100 0 (1 <<< (a &&& 31)) 1 (r0 2) a 0 b) ml_X10_98 yV_X8_change d_X10_thing_105 (by unfold g_rr; decide) (by decide) 0 rfl rfl [1, 2] rfl (by decide) rfl (Nat.le_of_ble_eq_true rfl) (by rintro _ ⟨_, rfl, _⟩; rfl) (fun w20 h21 => ?_)
              obtain ⟨g22, rfl, -⟩ := h21
              refine g_weq (wX X ad (upd fX0 19 (1 <<< (a &&& 31))) (g_u r0 2 g22)) rfl ?_
              refine g_aload_n cx 1 rfl d_X10_thing_108 ?_
              refine g_get cx cl_X10 fl_X10_10 0 (.ref (ad 1)) d_X10_thing_109 rfl rfl ?_
              refine g_iload_n cx 2 rfl d_X10_thing_112 ?_
              refine g_iconst cx 1 (by decide) d_X10_thing_113 ?_
              refine g_iload_n cx 4 rfl d_X10_thing_114 ?_
              refine g_cVv cx [.int a, .int 1, .int c] [] (c_X8_change l X (ad 1) (ad 2) 100 100 0 (1 <<< (a &&& 31)) 1 g22 a 1 c) ml_X10_98 yV_X8_change d_X10_thing_115 (by unfold g_rr; decide) (by decide) 0 rfl rfl [1, 2] rfl (by decide) rfl (Nat.le_of_ble_eq_true rfl) (by rintro _ ⟨_, rfl, _⟩; rfl) (fun w24 h25 => ?_)
              obtain ⟨g26, rfl, -⟩ := h25
              refine g_weq (wX X ad (upd fX0 19 (1 <<< (a &&& 31))) (g_u r0 2 g26)) rfl ?_
              refine g_aload_n cx 1 rfl d_X10_thing_118 ?_
              refine g_get cx cl_X10 fl_X10_10 0 (.ref (ad 1)) d_X10_thing_119 rfl rfl ?_
              refine g_iload_n cx 2 rfl d_X10_thing_122 ?_
              refine g_iconst cx 2 (by decide) d_X10_thing_123 ?_
              refine g_iload cx 5 rfl d_X10_thing_124 ?_
              refine g_cVv cx [.int a, .int 2, .int d] [] (c_X8_change l X (ad 1) (ad 2) 100 100 0 (1 <<< (a &&& 31)) 1 g26 a 2 d) ml_X10_98 yV_X8_change d_X10_thing_126 (by unfold g_rr; decide) (by decide) 0 rfl rfl [1, 2] rfl (by decide) rfl (Nat.le_of_ble_eq_true rfl) (by rintro _ ⟨_, rfl, _⟩; rfl) (fun w28 h29 => ?_)
              obtain ⟨g30, rfl, -⟩ := h29
              refine g_weq (wX X ad (upd fX0 19 (1 <<< (a &&& 31))) (g_u r0 2 g30)) rfl ?_
              refine g_aload_n cx 1 rfl d_X10_thing_129 ?_
              refine g_get cx cl_X10 fl_X10_10 0 (.ref (ad 1)) d_X10_thing_130 rfl rfl ?_
              refine g_iload_n cx 2 rfl d_X10_thing_133 ?_
              refine g_iconst cx 3 (by decide) d_X10_thing_134 ?_
              refine g_iload cx 6 rfl d_X10_thing_135 ?_
              refine g_cVv cx [.int a, .int 3, .int e] [] (c_X8_change l X (ad 1) (ad 2) 100 100 0 (1 <<< (a &&& 31)) 1 g30 a 3 e) ml_X10_98 yV_X8_change d_X10_thing_137 (by unfold g_rr; decide) (by decide) 0 rfl rfl [1, 2] rfl (by decide) rfl (Nat.le_of_ble_eq_true rfl) (by rintro _ ⟨_, rfl, _⟩; rfl) (fun w32 h33 => ?_)
              obtain ⟨g34, rfl, -⟩ := h33
              refine g_weq (wX X ad (upd fX0 19 (1 <<< (a &&& 31))) (g_u r0 2 g34)) rfl ?_
              refine g_aload_n cx 1 rfl d_X10_thing_140 ?_
              refine g_get cx cl_X10 fl_X10_10 0 (.ref (ad 1)) d_X10_thing_141 rfl rfl ?_
              refine g_iload_n cx 2 rfl d_X10_thing_144 ?_
              refine g_iconst cx 4 (by decide) d_X10_thing_145 ?_
              refine g_iload cx 7 rfl d_X10_thing_146 ?_
              refine g_cVv cx [.int a, .int 4, .int f] [] (c_X8_change l X (ad 1) (ad 2) 100 100 0 (1 <<< (a &&& 31)) 1 g34 a 4 f) ml_X10_98 yV_X8_change d_X10_thing_148 (by unfold g_rr; decide) (by decide) 0 rfl rfl [1, 2] rfl (by decide) rfl (Nat.le_of_ble_eq_true rfl) (by rintro _ ⟨_, rfl, _⟩; rfl) (fun w36 h37 => ?_)
              obtain ⟨g38, rfl, -⟩ := h37
              refine g_weq (wX X ad (upd fX0 19 (1 <<< (a &&& 31))) (g_u r0 2 g38)) rfl ?_
              refine g_aload_n cx 1 rfl d_X10_thing_151 ?_
              refine g_get cx cl_X10 fl_X10_10 0 (.ref (ad 1)) d_X10_thing_152 rfl rfl ?_
              refine g_iload_n cx 2 rfl d_X10_thing_155 ?_
              refine g_iconst cx 5 (by decide) d_X10_thing_156 ?_
              refine g_iconst cx 0 (by decide) d_X10_thing_157 ?_
              refine g_cVv cx [.int a, .int 5, .int 0] [] (c_X8_change l X (ad 1) (ad 2) 100 100 0 (1 <<< (a &&& 31)) 1 g38 a 5 0) ml_X10_98 yV_X8_change d_X10_thing_158 (by unfold g_rr; decide) (by decide) 0 rfl rfl [1, 2] rfl (by decide) rfl (Nat.le_of_ble_eq_true rfl) (by rintro _ ⟨_, rfl, _⟩; rfl) (fun w40 h41 => ?_)
              obtain ⟨g42, rfl, -⟩ := h41
              refine g_weq (wX X ad (upd fX0 19 (1 <<< (a &&& 31))) (g_u r0 2 g42)) rfl ?_
              refine g_aload_n cx 1 rfl d_X10_thing_161 ?_
              refine g_get cx cl_X10 fl_X10_10 0 (.ref (ad 1)) d_X10_thing_162 rfl rfl ?_
              refine g_iload_n cx 2 rfl d_X10_thing_165 ?_
              refine g_bipush cx 6 (by decide) d_X10_thing_166 ?_
              refine g_iconst cx 0 (by decide) d_X10_thing_168 ?_
              refine g_cVv cx [.int a, .int 6, .int 0] [] (c_X8_change l X (ad 1) (ad 2) 100 100 0 (1 <<< (a &&& 31)) 1 g42 a 6 0) ml_X10_98 yV_X8_change d_X10_thing_169 (by unfold g_rr; decide) (by decide) 0 rfl rfl [1, 2] rfl (by decide) rfl (Nat.le_of_ble_eq_true rfl) (by rintro _ ⟨_, rfl, _⟩; rfl) (fun w44 h45 => ?_)
              obtain ⟨g46, rfl, -⟩ := h45
              refine g_weq (wX X ad (upd fX0 19 (1 <<< (a &&& 31))) (g_u r0 2 g46)) rfl ?_
              refine g_aload_n cx 1 rfl d_X10_thing_172 ?_
              refine g_get cx cl_X10 fl_X10_10 0 (.ref (ad 1)) d_X10_thing_173 rfl rfl ?_
              refine g_iload_n cx 2 rfl d_X10_thing_176 ?_
              refine g_bipush cx 7 (by decide) d_X10_thing_177 ?_
              refine g_iconst cx 0 (by decide) d_X10_thing_179 ?_
              refine g_cVv cx [.int a, .int 7, .int 0] [] (c_X8_change l X (ad 1) (ad 2) 100 100 0 (1 <<< (a &&& 31)) 1 g46 a 7 0) ml_X10_98 yV_X8_change d_X10_thing_180 (by unfold g_rr; decide) (by decide) 0 rfl rfl [1, 2] rfl (by decide) rfl (Nat.le_of_ble_eq_true rfl) (by rintro _ ⟨_, rfl, _⟩; rfl) (fun w48 h49 => ?_)
              obtain ⟨g50, rfl, -⟩ := h49
              refine g_weq (wX X ad (upd fX0 19 (1 <<< (a &&& 31))) (g_u r0 2 g50)) rfl ?_
              refine g_iconst cx 1 (by decide) d_X10_thing_183 ?_
              exact hret d_X10_thing_184 (Nat.le_of_ble_eq_true rfl) (Nat.le_of_ble_eq_true rfl) rfl (by simp [S_thing, *])
theorem d_X10_more_0 : g_dc cX10_more 0 (.aload_n 0) 1 1 := ⟨by decide +kernel, rfl⟩
theorem d_X10_more_1 : g_dc cX10_more 1 (.getfield 10) 3 4 := ⟨by decide +kernel, rfl⟩
theorem d_X10_more_4 : g_dc cX10_more 4 (.iload_n 1) 1 5 := ⟨by decide +kernel, rfl⟩
theorem d_X10_more_5 : g_dc cX10_more 5 (.invokevirtual 102) 3 8 := ⟨by decide +kernel, rfl⟩
theorem d_X10_more_8 : g_dc cX10_more 8 (.ifCond .eq 35) 3 11 := ⟨by decide +kernel, rfl⟩
theorem d_X10_more_43 : g_dc cX10_more 43 (.iconst 0) 1 44 := ⟨by decide +kernel, rfl⟩
theorem d_X10_more_44 : g_dc cX10_more 44 (.ireturn) 1 45 := ⟨by decide +kernel, rfl⟩
set_option maxHeartbeats 4000000 in
set_option maxRecDepth 100000 in
theorem c_X10_more (l : Launch) (X : gX) (ad : Nat → Nat) (a b c d : Int32) : g_Ci l X yX10_more cX10_more 5 (some .boolean) 3 0 0 [.ref (ad 0), .int a, .int b, .int c, .int d] (wX X ad fX0 r0) (fun r _ => r = 0) := by
  refine g_mi (by decide +kernel) (Nat.le_of_ble_eq_true rfl) (fun E cx hret => ?_)
  refine g_aload_n cx 0 rfl d_X10_more_0 ?_
  refine g_get cx cl_X10 fl_X10_10 0 (.ref (ad 1)) d_X10_more_1 rfl rfl ?_
  refine g_iload_n cx 1 rfl d_X10_more_4 ?_
  refine g_cVi cx [.int a] [] (c_X8_has l X (ad 1) (ad 2) 100 100 0 0 1 (r0 2) a) ml_X10_102 yV_X8_has d_X10_more_5 (by unfold g_rr; decide) (by decide) 0 rfl rfl [1, 2] rfl (by decide) rfl (Nat.le_of_ble_eq_true rfl) (by rintro _ _ ⟨rfl, _⟩; rfl) (fun r1 w2 h3 => ?_)
  obtain ⟨rfl, rfl⟩ := h3
  refine g_weq (wX X ad fX0 r0) (g_rep_same rfl) ?_
  refine g_toi 0 (g_has0 (rfl)) ?_
  refine g_if_eq_t cx 43 d_X10_more_8 (by decide) (by decide) ?_
  refine g_iconst cx 0 (by decide) d_X10_more_43 ?_
  exact hret d_X10_more_44 (Nat.le_of_ble_eq_true rfl) (Nat.le_of_ble_eq_true rfl) rfl (rfl)
theorem d_X10_away_0 : g_dc cX10_away 0 (.aload_n 0) 1 1 := ⟨by decide +kernel, rfl⟩
theorem d_X10_away_1 : g_dc cX10_away 1 (.getfield 10) 3 4 := ⟨by decide +kernel, rfl⟩
theorem d_X10_away_4 : g_dc cX10_away 4 (.iload_n 1) 1 5 := ⟨by decide +kernel, rfl⟩
theorem d_X10_away_5 : g_dc cX10_away 5 (.invokevirtual 102) 3 8 := ⟨by decide +kernel, rfl⟩
theorem d_X10_away_8 : g_dc cX10_away 8 (.ifCond .ne 5) 3 11 := ⟨by decide +kernel, rfl⟩
theorem d_X10_away_11 : g_dc cX10_away 11 (.iconst 0) 1 12 := ⟨by decide +kernel, rfl⟩
theorem d_X10_away_12 : g_dc cX10_away 12 (.ireturn) 1 13 := ⟨by decide +kernel, rfl⟩
set_option maxHeartbeats 4000000 in
set_option maxRecDepth 100000 in
theorem c_X10_away (l : Launch) (X : gX) (ad : Nat → Nat) (a : Int32) : g_Ci l X yX10_away cX10_away 2 (some .boolean) 3 0 0 [.ref (ad 0), .int a] (wX X ad fX0 r0) (fun r _ => r = 0) := by
  refine g_mi (by decide +kernel) (Nat.le_of_ble_eq_true rfl) (fun E cx hret => ?_)
  refine g_aload_n cx 0 rfl d_X10_away_0 ?_
  refine g_get cx cl_X10 fl_X10_10 0 (.ref (ad 1)) d_X10_away_1 rfl rfl ?_
  refine g_iload_n cx 1 rfl d_X10_away_4 ?_
  refine g_cVi cx [.int a] [] (c_X8_has l X (ad 1) (ad 2) 100 100 0 0 1 (r0 2) a) ml_X10_102 yV_X8_has d_X10_away_5 (by unfold g_rr; decide) (by decide) 0 rfl rfl [1, 2] rfl (by decide) rfl (Nat.le_of_ble_eq_true rfl) (by rintro _ _ ⟨rfl, _⟩; rfl) (fun r1 w2 h3 => ?_)
  obtain ⟨rfl, rfl⟩ := h3
  refine g_weq (wX X ad fX0 r0) (g_rep_same rfl) ?_
  refine g_toi 0 (g_has0 (rfl)) ?_
  refine g_if_ne_f cx 13 d_X10_away_8 (by decide) (by decide) ?_
  refine g_iconst cx 0 (by decide) d_X10_away_11 ?_
  exact hret d_X10_away_12 (Nat.le_of_ble_eq_true rfl) (Nat.le_of_ble_eq_true rfl) rfl (rfl)
theorem d_X10_feed_0 : g_dc cX10_feed 0 (.aload_n 0) 1 1 := ⟨by decide +kernel, rfl⟩
theorem d_X10_feed_1 : g_dc cX10_feed 1 (.getfield 22) 3 4 := ⟨by decide +kernel, rfl⟩
theorem d_X10_feed_4 : g_dc cX10_feed 4 (.getfield 110) 3 7 := ⟨by decide +kernel, rfl⟩
theorem d_X10_feed_7 : g_dc cX10_feed 7 (.bipush 20) 2 9 := ⟨by decide +kernel, rfl⟩
theorem d_X10_feed_9 : g_dc cX10_feed 9 (.iadd) 1 10 := ⟨by decide +kernel, rfl⟩
theorem d_X10_feed_10 : g_dc cX10_feed 10 (.sipush 220) 3 13 := ⟨by decide +kernel, rfl⟩
theorem d_X10_feed_13 : g_dc cX10_feed 13 (.if_icmp .le 5) 3 16 := ⟨by decide +kernel, rfl⟩
theorem d_X10_feed_18 : g_dc cX10_feed 18 (.aload_n 0) 1 19 := ⟨by decide +kernel, rfl⟩
theorem d_X10_feed_19 : g_dc cX10_feed 19 (.getfield 22) 3 22 := ⟨by decide +kernel, rfl⟩
theorem d_X10_feed_22 : g_dc cX10_feed 22 (.iload_n 1) 1 23 := ⟨by decide +kernel, rfl⟩
theorem d_X10_feed_23 : g_dc cX10_feed 23 (.invokevirtual 113) 3 26 := ⟨by decide +kernel, rfl⟩
theorem d_X10_feed_26 : g_dc cX10_feed 26 (.aload_n 0) 1 27 := ⟨by decide +kernel, rfl⟩
theorem d_X10_feed_27 : g_dc cX10_feed 27 (.getfield 22) 3 30 := ⟨by decide +kernel, rfl⟩
theorem d_X10_feed_30 : g_dc cX10_feed 30 (.iload_n 2) 1 31 := ⟨by decide +kernel, rfl⟩
theorem d_X10_feed_31 : g_dc cX10_feed 31 (.invokevirtual 113) 3 34 := ⟨by decide +kernel, rfl⟩
theorem d_X10_feed_34 : g_dc cX10_feed 34 (.aload_n 0) 1 35 := ⟨by decide +kernel, rfl⟩
theorem d_X10_feed_35 : g_dc cX10_feed 35 (.getfield 22) 3 38 := ⟨by decide +kernel, rfl⟩
theorem d_X10_feed_38 : g_dc cX10_feed 38 (.iload_n 3) 1 39 := ⟨by decide +kernel, rfl⟩
theorem d_X10_feed_39 : g_dc cX10_feed 39 (.invokevirtual 113) 3 42 := ⟨by decide +kernel, rfl⟩
theorem d_X10_feed_42 : g_dc cX10_feed 42 (.aload_n 0) 1 43 := ⟨by decide +kernel, rfl⟩
theorem d_X10_feed_43 : g_dc cX10_feed 43 (.getfield 22) 3 46 := ⟨by decide +kernel, rfl⟩
theorem d_X10_feed_46 : g_dc cX10_feed 46 (.iload 4) 2 48 := ⟨by decide +kernel, rfl⟩
theorem d_X10_feed_48 : g_dc cX10_feed 48 (.invokevirtual 113) 3 51 := ⟨by decide +kernel, rfl⟩
theorem d_X10_feed_51 : g_dc cX10_feed 51 (.aload_n 0) 1 52 := ⟨by decide +kernel, rfl⟩
theorem d_X10_feed_52 : g_dc cX10_feed 52 (.getfield 22) 3 55 := ⟨by decide +kernel, rfl⟩
theorem d_X10_feed_55 : g_dc cX10_feed 55 (.iload 5) 2 57 := ⟨by decide +kernel, rfl⟩
theorem d_X10_feed_57 : g_dc cX10_feed 57 (.invokevirtual 113) 3 60 := ⟨by decide +kernel, rfl⟩
theorem d_X10_feed_60 : g_dc cX10_feed 60 (.aload_n 0) 1 61 := ⟨by decide +kernel, rfl⟩
theorem d_X10_feed_61 : g_dc cX10_feed 61 (.getfield 22) 3 64 := ⟨by decide +kernel, rfl⟩
theorem d_X10_feed_64 : g_dc cX10_feed 64 (.getfield 110) 3 67 := ⟨by decide +kernel, rfl⟩
theorem d_X10_feed_67 : g_dc cX10_feed 67 (.ireturn) 1 68 := ⟨by decide +kernel, rfl⟩
set_option maxHeartbeats 4000000 in
set_option maxRecDepth 100000 in
theorem c_X10_feed (l : Launch) (X : gX) (ad : Nat → Nat) (a b c d e : Int32) : g_Ci l X yX10_feed cX10_feed 6 (some .int) 2 0 0 [.ref (ad 0), .int a, .int b, .int c, .int d, .int e] (wX X ad fX0 r0) (fun r _ => r = 20) := by
  refine g_mi (by decide +kernel) (Nat.le_of_ble_eq_true rfl) (fun E cx hret => ?_)
  refine g_aload_n cx 0 rfl d_X10_feed_0 ?_
  refine g_get cx cl_X10 fl_X10_22 0 (.ref (ad 9)) d_X10_feed_1 rfl rfl ?_
  refine g_getN cx cl_X9 fn_X10_110 9 (.int 0) d_X10_feed_4 rfl rfl ?_
  refine g_bipush cx 20 (by decide) d_X10_feed_7 ?_
  refine g_iadd cx d_X10_feed_9 ?_
  refine g_toi 20 (by decide) ?_
  refine g_sipush cx 220 (by decide) d_X10_feed_10 ?_
  refine g_icmp_le_t cx 18 d_X10_feed_13 (by decide) (by decide) ?_
  refine g_aload_n cx 0 rfl d_X10_feed_18 ?_
  refine g_get cx cl_X10 fl_X10_22 0 (.ref (ad 9)) d_X10_feed_19 rfl rfl ?_
  refine g_iload_n cx 1 rfl d_X10_feed_22 ?_
  refine g_cVv cx [.int a] [] (c_X9_add l X (ad 9) (ad 10) 0 (r0 10) a 0 (by decide) (by decide)) ml_X10_113 yV_X9_add d_X10_feed_23 (by unfold g_rr; decide) (by decide) 0 rfl rfl [9, 10] rfl (by decide) rfl (Nat.le_of_ble_eq_true rfl) (by rintro _ ⟨_, rfl, _⟩; rfl) (fun w2 h3 => ?_)
  obtain ⟨g4, rfl, -⟩ := h3
  refine g_weq (wX X ad (upd fX0 145 4) (g_u r0 10 g4)) rfl ?_
  refine g_aload_n cx 0 rfl d_X10_feed_26 ?_
  refine g_get cx cl_X10 fl_X10_22 0 (.ref (ad 9)) d_X10_feed_27 rfl rfl ?_
  refine g_iload_n cx 2 rfl d_X10_feed_30 ?_
  refine g_cVv cx [.int b] [] (c_X9_add l X (ad 9) (ad 10) 4 g4 b 4 (by decide) (by decide)) ml_X10_113 yV_X9_add d_X10_feed_31 (by unfold g_rr; decide) (by decide) 0 rfl rfl [9, 10] rfl (by decide) rfl (Nat.le_of_ble_eq_true rfl) (by rintro _ ⟨_, rfl, _⟩; rfl) (fun w6 h7 => ?_)
  obtain ⟨g8, rfl, -⟩ := h7
  refine g_weq (wX X ad (upd fX0 145 8) (g_u r0 10 g8)) rfl ?_
  refine g_aload_n cx 0 rfl d_X10_feed_34 ?_
  refine g_get cx cl_X10 fl_X10_22 0 (.ref (ad 9)) d_X10_feed_35 rfl rfl ?_
  refine g_iload_n cx 3 rfl d_X10_feed_38 ?_
  refine g_cVv cx [.int c] [] (c_X9_add l X (ad 9) (ad 10) 8 g8 c 8 (by decide) (by decide)) ml_X10_113 yV_X9_add d_X10_feed_39 (by unfold g_rr; decide) (by decide) 0 rfl rfl [9, 10] rfl (by decide) rfl (Nat.le_of_ble_eq_true rfl) (by rintro _ ⟨_, rfl, _⟩; rfl) (fun w10 h11 => ?_)
  obtain ⟨g12, rfl, -⟩ := h11
  refine g_weq (wX X ad (upd fX0 145 12) (g_u r0 10 g12)) rfl ?_
  refine g_aload_n cx 0 rfl d_X10_feed_42 ?_
  refine g_get cx cl_X10 fl_X10_22 0 (.ref (ad 9)) d_X10_feed_43 rfl rfl ?_
  refine g_iload cx 4 rfl d_X10_feed_46 ?_
  refine g_cVv cx [.int d] [] (c_X9_add l X (ad 9) (ad 10) 12 g12 d 12 (by decide) (by decide)) ml_X10_113 yV_X9_add d_X10_feed_48 (by unfold g_rr; decide) (by decide) 0 rfl rfl [9, 10] rfl (by decide) rfl (Nat.le_of_ble_eq_true rfl) (by rintro _ ⟨_, rfl, _⟩; rfl) (fun w14 h15 => ?_)
  obtain ⟨g16, rfl, -⟩ := h15
  refine g_weq (wX X ad (upd fX0 145 16) (g_u r0 10 g16)) rfl ?_
  refine g_aload_n cx 0 rfl d_X10_feed_51 ?_
  refine g_get cx cl_X10 fl_X10_22 0 (.ref (ad 9)) d_X10_feed_52 rfl rfl ?_
  refine g_iload cx 5 rfl d_X10_feed_55 ?_
  refine g_cVv cx [.int e] [] (c_X9_add l X (ad 9) (ad 10) 16 g16 e 16 (by decide) (by decide)) ml_X10_113 yV_X9_add d_X10_feed_57 (by unfold g_rr; decide) (by decide) 0 rfl rfl [9, 10] rfl (by decide) rfl (Nat.le_of_ble_eq_true rfl) (by rintro _ ⟨_, rfl, _⟩; rfl) (fun w18 h19 => ?_)
  obtain ⟨g20, rfl, -⟩ := h19
  refine g_weq (wX X ad (upd fX0 145 20) (g_u r0 10 g20)) rfl ?_
  refine g_aload_n cx 0 rfl d_X10_feed_60 ?_
  refine g_get cx cl_X10 fl_X10_22 0 (.ref (ad 9)) d_X10_feed_61 rfl rfl ?_
  refine g_getN cx cl_X9 fn_X10_110 9 (.int 20) d_X10_feed_64 rfl rfl ?_
  exact hret d_X10_feed_67 (Nat.le_of_ble_eq_true rfl) (Nat.le_of_ble_eq_true rfl) rfl (rfl)
theorem d_X10_pull_0 : g_dc cX10_pull 0 (.iload_n 1) 1 1 := ⟨by decide +kernel, rfl⟩
theorem d_X10_pull_1 : g_dc cX10_pull 1 (.iconst 1) 1 2 := ⟨by decide +kernel, rfl⟩
theorem d_X10_pull_2 : g_dc cX10_pull 2 (.bipush 120) 2 4 := ⟨by decide +kernel, rfl⟩
theorem d_X10_pull_4 : g_dc cX10_pull 4 (.invokestatic 82) 3 7 := ⟨by decide +kernel, rfl⟩
theorem d_X10_pull_7 : g_dc cX10_pull 7 (.ifCond .eq 14) 3 10 := ⟨by decide +kernel, rfl⟩
theorem d_X10_pull_10 : g_dc cX10_pull 10 (.iload_n 1) 1 11 := ⟨by decide +kernel, rfl⟩
theorem d_X10_pull_11 : g_dc cX10_pull 11 (.aload_n 0) 1 12 := ⟨by decide +kernel, rfl⟩
theorem d_X10_pull_12 : g_dc cX10_pull 12 (.getfield 22) 3 15 := ⟨by decide +kernel, rfl⟩
theorem d_X10_pull_15 : g_dc cX10_pull 15 (.getfield 110) 3 18 := ⟨by decide +kernel, rfl⟩
theorem d_X10_pull_18 : g_dc cX10_pull 18 (.if_icmp .le 5) 3 21 := ⟨by decide +kernel, rfl⟩
theorem d_X10_pull_21 : g_dc cX10_pull 21 (.iconst (-1)) 1 22 := ⟨by decide +kernel, rfl⟩
theorem d_X10_pull_22 : g_dc cX10_pull 22 (.ireturn) 1 23 := ⟨by decide +kernel, rfl⟩
set_option maxHeartbeats 4000000 in
set_option maxRecDepth 100000 in
theorem c_X10_pull (l : Launch) (X : gX) (ad : Nat → Nat) (a : Int32) : g_Ci l X yX10_pull cX10_pull 3 (some .int) 2 0 0 [.ref (ad 0), .int a] (wX X ad fX0 r0) (fun r _ => r = -1) := by
  refine g_mi (by decide +kernel) (Nat.le_of_ble_eq_true rfl) (fun E cx hret => ?_)
  refine g_iload_n cx 1 rfl d_X10_pull_0 ?_
  refine g_iconst cx 1 (by decide) d_X10_pull_1 ?_
  refine g_bipush cx 120 (by decide) d_X10_pull_2 ?_
  refine g_cSiW cx [.int a, .int 1, .int 120] [] (c_X10_within l X _ a 1 120) ml_X10_82 yS_X10_within rfl d_X10_pull_4 (by unfold g_rr; decide) (by decide) rfl (Nat.le_of_ble_eq_true rfl) (fun r1 w2 h3 => ?_)
  obtain ⟨rfl, rfl⟩ := h3
  refine g_if_eq cx 21 d_X10_pull_7 (by decide) (fun zc7 => ?_) (fun zc7 => ?_)
  · refine g_iconst cx (-1) (by decide) d_X10_pull_21 ?_
    exact hret d_X10_pull_22 (Nat.le_of_ble_eq_true rfl) (Nat.le_of_ble_eq_true rfl) rfl (rfl)
  · refine g_iload_n cx 1 rfl d_X10_pull_10 ?_
    refine g_aload_n cx 0 rfl d_X10_pull_11 ?_
    refine g_get cx cl_X10 fl_X10_22 0 (.ref (ad 9)) d_X10_pull_12 rfl rfl ?_
    refine g_getN cx cl_X9 fn_X10_110 9 (.int 0) d_X10_pull_15 rfl rfl ?_
    refine g_icmp_le_f cx 23 d_X10_pull_18 (by decide) (g_n0 (by assumption)) ?_
    refine g_iconst cx (-1) (by decide) d_X10_pull_21 ?_
    exact hret d_X10_pull_22 (Nat.le_of_ble_eq_true rfl) (Nat.le_of_ble_eq_true rfl) rfl (rfl)
theorem d_X10_law_0 : g_dc cX10_law 0 (.iload_n 1) 1 1 := ⟨by decide +kernel, rfl⟩
theorem d_X10_law_1 : g_dc cX10_law 1 (.iconst 1) 1 2 := ⟨by decide +kernel, rfl⟩
theorem d_X10_law_2 : g_dc cX10_law 2 (.sipush 200) 3 5 := ⟨by decide +kernel, rfl⟩
theorem d_X10_law_5 : g_dc cX10_law 5 (.invokestatic 82) 3 8 := ⟨by decide +kernel, rfl⟩
theorem d_X10_law_8 : g_dc cX10_law 8 (.ifCond .eq 14) 3 11 := ⟨by decide +kernel, rfl⟩
theorem d_X10_law_11 : g_dc cX10_law 11 (.iload_n 1) 1 12 := ⟨by decide +kernel, rfl⟩
theorem d_X10_law_12 : g_dc cX10_law 12 (.aload_n 0) 1 13 := ⟨by decide +kernel, rfl⟩
theorem d_X10_law_13 : g_dc cX10_law 13 (.getfield 22) 3 16 := ⟨by decide +kernel, rfl⟩
theorem d_X10_law_16 : g_dc cX10_law 16 (.getfield 110) 3 19 := ⟨by decide +kernel, rfl⟩
theorem d_X10_law_19 : g_dc cX10_law 19 (.if_icmp .le 5) 3 22 := ⟨by decide +kernel, rfl⟩
theorem d_X10_law_22 : g_dc cX10_law 22 (.iconst (-1)) 1 23 := ⟨by decide +kernel, rfl⟩
theorem d_X10_law_23 : g_dc cX10_law 23 (.ireturn) 1 24 := ⟨by decide +kernel, rfl⟩
set_option maxHeartbeats 4000000 in
set_option maxRecDepth 100000 in
theorem c_X10_law (l : Launch) (X : gX) (ad : Nat → Nat) (a : Int32) : g_Ci l X yX10_law cX10_law 3 (some .int) 2 0 0 [.ref (ad 0), .int a] (wX X ad fX0 r0) (fun r _ => r = -1) := by
  refine g_mi (by decide +kernel) (Nat.le_of_ble_eq_true rfl) (fun E cx hret => ?_)
  refine g_iload_n cx 1 rfl d_X10_law_0 ?_
  refine g_iconst cx 1 (by decide) d_X10_law_1 ?_
  refine g_sipush cx 200 (by decide) d_X10_law_2 ?_
  refine g_cSiW cx [.int a, .int 1, .int 200] [] (c_X10_within l X _ a 1 200) ml_X10_82 yS_X10_within rfl d_X10_law_5 (by unfold g_rr; decide) (by decide) rfl (Nat.le_of_ble_eq_true rfl) (fun r1 w2 h3 => ?_)
  obtain ⟨rfl, rfl⟩ := h3
  refine g_if_eq cx 22 d_X10_law_8 (by decide) (fun zc8 => ?_) (fun zc8 => ?_)
  · refine g_iconst cx (-1) (by decide) d_X10_law_22 ?_
    exact hret d_X10_law_23 (Nat.le_of_ble_eq_true rfl) (Nat.le_of_ble_eq_true rfl) rfl (rfl)
  · refine g_iload_n cx 1 rfl d_X10_law_11 ?_
    refine g_aload_n cx 0 rfl d_X10_law_12 ?_
    refine g_get cx cl_X10 fl_X10_22 0 (.ref (ad 9)) d_X10_law_13 rfl rfl ?_
    refine g_getN cx cl_X9 fn_X10_110 9 (.int 0) d_X10_law_16 rfl rfl ?_
    refine g_icmp_le_f cx 24 d_X10_law_19 (by decide) (g_n0 (by assumption)) ?_
    refine g_iconst cx (-1) (by decide) d_X10_law_22 ?_
    exact hret d_X10_law_23 (Nat.le_of_ble_eq_true rfl) (Nat.le_of_ble_eq_true rfl) rfl (rfl)
def T_ok (F' : Nat → Int32) (R' : Nat → Nat → Int32) : Prop := F' 691 = 0 ∧ F' 692 = 0 ∧ F' 693 = 0 ∧ F' 694 = 0 ∧ F' 695 = 0 ∧ F' 696 = 0 ∧ F' 697 = 0 ∧ F' 698 = 100 ∧ (∀ j, j < 30 → R' 46 j = 0)
theorem d_X10_tryDrawn_0 : g_dc cX10_tryDrawn 0 (.aload_n 0) 1 1 := ⟨by decide +kernel, rfl⟩
theorem d_X10_tryDrawn_1 : g_dc cX10_tryDrawn 1 (.getfield 58) 3 4 := ⟨by decide +kernel, rfl⟩
theorem d_X10_tryDrawn_4 : g_dc cX10_tryDrawn 4 (.aload_n 0) 1 5 := ⟨by decide +kernel, rfl⟩
theorem d_X10_tryDrawn_5 : g_dc cX10_tryDrawn 5 (.getfield 10) 3 8 := ⟨by decide +kernel, rfl⟩
theorem d_X10_tryDrawn_8 : g_dc cX10_tryDrawn 8 (.aload_n 0) 1 9 := ⟨by decide +kernel, rfl⟩
theorem d_X10_tryDrawn_9 : g_dc cX10_tryDrawn 9 (.getfield 29) 3 12 := ⟨by decide +kernel, rfl⟩
theorem d_X10_tryDrawn_12 : g_dc cX10_tryDrawn 12 (.invokevirtual 148) 3 15 := ⟨by decide +kernel, rfl⟩
theorem d_X10_tryDrawn_15 : g_dc cX10_tryDrawn 15 (.aload_n 0) 1 16 := ⟨by decide +kernel, rfl⟩
theorem d_X10_tryDrawn_16 : g_dc cX10_tryDrawn 16 (.getfield 66) 3 19 := ⟨by decide +kernel, rfl⟩
theorem d_X10_tryDrawn_19 : g_dc cX10_tryDrawn 19 (.getfield 159) 3 22 := ⟨by decide +kernel, rfl⟩
theorem d_X10_tryDrawn_22 : g_dc cX10_tryDrawn 22 (.aload_n 0) 1 23 := ⟨by decide +kernel, rfl⟩
theorem d_X10_tryDrawn_23 : g_dc cX10_tryDrawn 23 (.getfield 10) 3 26 := ⟨by decide +kernel, rfl⟩
theorem d_X10_tryDrawn_26 : g_dc cX10_tryDrawn 26 (.getfield 168) 3 29 := ⟨by decide +kernel, rfl⟩
theorem d_X10_tryDrawn_29 : g_dc cX10_tryDrawn 29 (.invokevirtual 272) 3 32 := ⟨by decide +kernel, rfl⟩
theorem d_X10_tryDrawn_32 : g_dc cX10_tryDrawn 32 (.aload_n 0) 1 33 := ⟨by decide +kernel, rfl⟩
theorem d_X10_tryDrawn_33 : g_dc cX10_tryDrawn 33 (.getfield 66) 3 36 := ⟨by decide +kernel, rfl⟩
theorem d_X10_tryDrawn_36 : g_dc cX10_tryDrawn 36 (.invokevirtual 152) 3 39 := ⟨by decide +kernel, rfl⟩
theorem d_X10_tryDrawn_39 : g_dc cX10_tryDrawn 39 (.return_) 1 40 := ⟨by decide +kernel, rfl⟩
set_option maxHeartbeats 4000000 in
set_option maxRecDepth 100000 in
theorem c_X10_tryDrawn (l : Launch) (X : gX) (ad : Nat → Nat) : g_Cv l X yX10_tryDrawn cX10_tryDrawn 1 6 0 0 [.ref (ad 0)] (wX X ad fX0 r0) (fun w => ∃ (F' : Nat → Int32) (R' : Nat → Nat → Int32), w = wX X ad F' R' ∧ T_ok F' R') := by
  refine g_mv (by decide +kernel) (Nat.le_of_ble_eq_true rfl) (fun E cx hret => ?_)
  refine g_aload_n cx 0 rfl d_X10_tryDrawn_0 ?_
  refine g_get cx cl_X10 fl_X10_58 0 (.ref (ad 35)) d_X10_tryDrawn_1 rfl rfl ?_
  refine g_aload_n cx 0 rfl d_X10_tryDrawn_4 ?_
  refine g_get cx cl_X10 fl_X10_10 0 (.ref (ad 1)) d_X10_tryDrawn_5 rfl rfl ?_
  refine g_aload_n cx 0 rfl d_X10_tryDrawn_8 ?_
  refine g_get cx cl_X10 fl_X10_29 0 (.ref (ad 11)) d_X10_tryDrawn_9 rfl rfl ?_
  refine g_cVvW cx [.ref (ad 1), .ref (ad 11)] [] (c_X7_lay l X ad fX0 r0  ) ml_X10_148 yV_X7_lay d_X10_tryDrawn_12 (by unfold g_rr; decide) (by decide) 35 rfl rfl rfl (Nat.le_of_ble_eq_true rfl) (fun w2 h3 => ?_)
  obtain ⟨rfl, -⟩ := h3
  refine g_weq (wX X ad (upd (upd (upd (upd (upd (upd (upd (upd fX0 80 100) 81 100) 82 0) 83 0) 84 1) 241 0) 672 0) 674 0) (g_u (g_u r0 6 (va_cpy (r0 2) (r0 6) 0 0 80)) 16 (va_cpy (r0 12) (r0 16) 0 0 60))) rfl ?_
  refine g_aload_n cx 0 rfl d_X10_tryDrawn_15 ?_
  refine g_get cx cl_X10 fl_X10_66 0 (.ref (ad 37)) d_X10_tryDrawn_16 rfl rfl ?_
  refine g_getN cx cl_X0 fn_X10_159 37 (.ref (ad 42)) d_X10_tryDrawn_19 rfl rfl ?_
  refine g_aload_n cx 0 rfl d_X10_tryDrawn_22 ?_
  refine g_get cx cl_X10 fl_X10_10 0 (.ref (ad 1)) d_X10_tryDrawn_23 rfl rfl ?_
  refine g_getN cx cl_X8 fn_X10_168 1 (.int 1) d_X10_tryDrawn_26 rfl rfl ?_
  refine g_cVv cx [.int 1] [] (c_X1_drawFrom l X (ad 42) 0 1 0 0 1) ml_X10_272 yV_X1_drawFrom d_X10_tryDrawn_29 (by unfold g_rr; decide) (by decide) 0 rfl rfl [42] rfl (by decide) rfl (Nat.le_of_ble_eq_true rfl) (by rintro _ ⟨rfl, _⟩; rfl) (fun w5 h6 => ?_)
  obtain ⟨rfl, -⟩ := h6
  refine g_weq (wX X ad (upd (upd (upd (upd (upd (upd (upd (upd (upd fX0 80 100) 81 100) 82 0) 83 0) 84 1) 241 0) 672 1) 673 1) 674 0) (g_u (g_u r0 6 (va_cpy (r0 2) (r0 6) 0 0 80)) 16 (va_cpy (r0 12) (r0 16) 0 0 60))) rfl ?_
  refine g_aload_n cx 0 rfl d_X10_tryDrawn_32 ?_
  refine g_get cx cl_X10 fl_X10_66 0 (.ref (ad 37)) d_X10_tryDrawn_33 rfl rfl ?_
  refine g_cVvW cx [] [] (c_X0_run l X ad (upd (upd (upd (upd (upd (upd (upd (upd (upd fX0 80 100) 81 100) 82 0) 83 0) 84 1) 241 0) 672 1) 673 1) 674 0) (g_u (g_u r0 6 (va_cpy (r0 2) (r0 6) 0 0 80)) 16 (va_cpy (r0 12) (r0 16) 0 0 60))  0 rfl (by decide) rfl rfl (Or.inl rfl)) ml_X10_152 yV_X0_run d_X10_tryDrawn_36 (by unfold g_rr; decide) (by decide) 37 rfl rfl rfl (Nat.le_of_ble_eq_true rfl) (fun w8 h9 => ?_)
  obtain ⟨zF10, zR11, rfl, zp12⟩ := h9
  exact hret d_X10_tryDrawn_39 (Nat.le_of_ble_eq_true rfl) (Nat.le_of_ble_eq_true rfl) ⟨zF10, zR11, rfl, ⟨zp12.2.1, zp12.2.2.1, zp12.2.2.2.1, zp12.2.2.2.2.1, zp12.2.2.2.2.2.1, zp12.2.2.2.2.2.2.1, (zp12.2.2.2.2.2.2.2.1 rfl).1, (zp12.2.2.2.2.2.2.2.1 rfl).2, zp12.2.2.2.2.2.2.2.2.1⟩⟩
theorem d_X10_tried_0 : g_dc cX10_tried 0 (.aload_n 0) 1 1 := ⟨by decide +kernel, rfl⟩
theorem d_X10_tried_1 : g_dc cX10_tried 1 (.invokevirtual 133) 3 4 := ⟨by decide +kernel, rfl⟩
theorem d_X10_tried_4 : g_dc cX10_tried 4 (.aload_n 0) 1 5 := ⟨by decide +kernel, rfl⟩
theorem d_X10_tried_5 : g_dc cX10_tried 5 (.getfield 66) 3 8 := ⟨by decide +kernel, rfl⟩
theorem d_X10_tried_8 : g_dc cX10_tried 8 (.getfield 136) 3 11 := ⟨by decide +kernel, rfl⟩
theorem d_X10_tried_11 : g_dc cX10_tried 11 (.iload_n 1) 1 12 := ⟨by decide +kernel, rfl⟩
theorem d_X10_tried_12 : g_dc cX10_tried 12 (.invokevirtual 142) 3 15 := ⟨by decide +kernel, rfl⟩
theorem d_X10_tried_15 : g_dc cX10_tried 15 (.ireturn) 1 16 := ⟨by decide +kernel, rfl⟩
set_option maxHeartbeats 4000000 in
set_option maxRecDepth 100000 in
theorem c_X10_tried (l : Launch) (X : gX) (ad : Nat → Nat) (a : Int32) : g_Ci l X yX10_tried cX10_tried 2 (some .int) 7 0 0 [.ref (ad 0), .int a] (wX X ad fX0 r0) (fun r _ => r = g_st a) := by
  refine g_mi (by decide +kernel) (Nat.le_of_ble_eq_true rfl) (fun E cx hret => ?_)
  refine g_aload_n cx 0 rfl d_X10_tried_0 ?_
  refine g_cVvW cx [] [] (c_X10_tryDrawn l X ad) ml_X10_133 yV_X10_tryDrawn d_X10_tried_1 (by unfold g_rr; decide) (by decide) 0 rfl rfl rfl (Nat.le_of_ble_eq_true rfl) (fun w2 h3 => ?_)
  obtain ⟨zF4, zR5, rfl, zp6⟩ := h3
  refine g_aload_n cx 0 rfl d_X10_tried_4 ?_
  refine g_get cx cl_X10 fl_X10_66 0 (.ref (ad 37)) d_X10_tried_5 rfl rfl ?_
  refine g_getN cx cl_X0 fn_X10_136 37 (.ref (ad 43)) d_X10_tried_8 rfl rfl ?_
  refine g_iload_n cx 1 rfl d_X10_tried_11 ?_
  refine g_cViW cx [.int a] [] (c_X4_tell l X ad zF4 zR5 a zp6.1 zp6.2.1 zp6.2.2.1 zp6.2.2.2.1 zp6.2.2.2.2.1 zp6.2.2.2.2.2.1 zp6.2.2.2.2.2.2.1 zp6.2.2.2.2.2.2.2.1 zp6.2.2.2.2.2.2.2.2) ml_X10_142 yV_X4_tell d_X10_tried_12 (by unfold g_rr; decide) (by decide) 43 rfl rfl rfl (Nat.le_of_ble_eq_true rfl) (fun r7 w8 h9 => ?_)
  obtain ⟨rfl, rfl⟩ := h9
  exact hret d_X10_tried_15 (Nat.le_of_ble_eq_true rfl) (Nat.le_of_ble_eq_true rfl) rfl (rfl)
theorem d_X10_still_0 : g_dc cX10_still 0 (.aload_n 0) 1 1 := ⟨by decide +kernel, rfl⟩
theorem d_X10_still_1 : g_dc cX10_still 1 (.getfield 58) 3 4 := ⟨by decide +kernel, rfl⟩
theorem d_X10_still_4 : g_dc cX10_still 4 (.aload_n 0) 1 5 := ⟨by decide +kernel, rfl⟩
theorem d_X10_still_5 : g_dc cX10_still 5 (.getfield 10) 3 8 := ⟨by decide +kernel, rfl⟩
theorem d_X10_still_8 : g_dc cX10_still 8 (.aload_n 0) 1 9 := ⟨by decide +kernel, rfl⟩
theorem d_X10_still_9 : g_dc cX10_still 9 (.getfield 29) 3 12 := ⟨by decide +kernel, rfl⟩
theorem d_X10_still_12 : g_dc cX10_still 12 (.invokevirtual 148) 3 15 := ⟨by decide +kernel, rfl⟩
theorem d_X10_still_15 : g_dc cX10_still 15 (.aload_n 0) 1 16 := ⟨by decide +kernel, rfl⟩
theorem d_X10_still_16 : g_dc cX10_still 16 (.getfield 66) 3 19 := ⟨by decide +kernel, rfl⟩
theorem d_X10_still_19 : g_dc cX10_still 19 (.invokevirtual 152) 3 22 := ⟨by decide +kernel, rfl⟩
theorem d_X10_still_22 : g_dc cX10_still 22 (.aload_n 0) 1 23 := ⟨by decide +kernel, rfl⟩
theorem d_X10_still_23 : g_dc cX10_still 23 (.getfield 66) 3 26 := ⟨by decide +kernel, rfl⟩
theorem d_X10_still_26 : g_dc cX10_still 26 (.getfield 136) 3 29 := ⟨by decide +kernel, rfl⟩
theorem d_X10_still_29 : g_dc cX10_still 29 (.iload_n 1) 1 30 := ⟨by decide +kernel, rfl⟩
theorem d_X10_still_30 : g_dc cX10_still 30 (.invokevirtual 142) 3 33 := ⟨by decide +kernel, rfl⟩
theorem d_X10_still_33 : g_dc cX10_still 33 (.ireturn) 1 34 := ⟨by decide +kernel, rfl⟩
set_option maxHeartbeats 4000000 in
set_option maxRecDepth 100000 in
theorem c_X10_still (l : Launch) (X : gX) (ad : Nat → Nat) (a : Int32) : g_Ci l X yX10_still cX10_still 2 (some .int) 7 0 0 [.ref (ad 0), .int a] (wX X ad fX0 r0) (fun r _ => r = g_st a) := by
  refine g_mi (by decide +kernel) (Nat.le_of_ble_eq_true rfl) (fun E cx hret => ?_)
  refine g_aload_n cx 0 rfl d_X10_still_0 ?_
  refine g_get cx cl_X10 fl_X10_58 0 (.ref (ad 35)) d_X10_still_1 rfl rfl ?_
  refine g_aload_n cx 0 rfl d_X10_still_4 ?_
  refine g_get cx cl_X10 fl_X10_10 0 (.ref (ad 1)) d_X10_still_5 rfl rfl ?_
  refine g_aload_n cx 0 rfl d_X10_still_8 ?_
  refine g_get cx cl_X10 fl_X10_29 0 (.ref (ad 11)) d_X10_still_9 rfl rfl ?_
  refine g_cVvW cx [.ref (ad 1), .ref (ad 11)] [] (c_X7_lay l X ad fX0 r0  ) ml_X10_148 yV_X7_lay d_X10_still_12 (by unfold g_rr; decide) (by decide) 35 rfl rfl rfl (Nat.le_of_ble_eq_true rfl) (fun w2 h3 => ?_)
  obtain ⟨rfl, -⟩ := h3
  refine g_weq (wX X ad (upd (upd (upd (upd (upd (upd (upd (upd fX0 80 100) 81 100) 82 0) 83 0) 84 1) 241 0) 672 0) 674 0) (g_u (g_u r0 6 (va_cpy (r0 2) (r0 6) 0 0 80)) 16 (va_cpy (r0 12) (r0 16) 0 0 60))) rfl ?_
  refine g_aload_n cx 0 rfl d_X10_still_15 ?_
  refine g_get cx cl_X10 fl_X10_66 0 (.ref (ad 37)) d_X10_still_16 rfl rfl ?_
  refine g_cVvW cx [] [] (c_X0_run l X ad (upd (upd (upd (upd (upd (upd (upd (upd fX0 80 100) 81 100) 82 0) 83 0) 84 1) 241 0) 672 0) 674 0) (g_u (g_u r0 6 (va_cpy (r0 2) (r0 6) 0 0 80)) 16 (va_cpy (r0 12) (r0 16) 0 0 60))  0 rfl (by decide) rfl rfl (Or.inl rfl)) ml_X10_152 yV_X0_run d_X10_still_19 (by unfold g_rr; decide) (by decide) 37 rfl rfl rfl (Nat.le_of_ble_eq_true rfl) (fun w5 h6 => ?_)
  obtain ⟨zF7, zR8, rfl, zp9⟩ := h6
  refine g_aload_n cx 0 rfl d_X10_still_22 ?_
  refine g_get cx cl_X10 fl_X10_66 0 (.ref (ad 37)) d_X10_still_23 rfl rfl ?_
  refine g_getN cx cl_X0 fn_X10_136 37 (.ref (ad 43)) d_X10_still_26 rfl rfl ?_
  refine g_iload_n cx 1 rfl d_X10_still_29 ?_
  refine g_cViW cx [.int a] [] (c_X4_tell l X ad zF7 zR8 a zp9.2.1 zp9.2.2.1 zp9.2.2.2.1 zp9.2.2.2.2.1 zp9.2.2.2.2.2.1 zp9.2.2.2.2.2.2.1 ((zp9.2.2.2.2.2.2.2.1 rfl).1) ((zp9.2.2.2.2.2.2.2.1 rfl).2) zp9.2.2.2.2.2.2.2.2.1) ml_X10_142 yV_X4_tell d_X10_still_30 (by unfold g_rr; decide) (by decide) 43 rfl rfl rfl (Nat.le_of_ble_eq_true rfl) (fun r10 w11 h12 => ?_)
  obtain ⟨rfl, rfl⟩ := h12
  exact hret d_X10_still_33 (Nat.le_of_ble_eq_true rfl) (Nat.le_of_ble_eq_true rfl) rfl (rfl)
theorem d_X10_done_0 : g_dc cX10_done 0 (.aload_n 0) 1 1 := ⟨by decide +kernel, rfl⟩
theorem d_X10_done_1 : g_dc cX10_done 1 (.getfield 29) 3 4 := ⟨by decide +kernel, rfl⟩
theorem d_X10_done_4 : g_dc cX10_done 4 (.getfield 124) 3 7 := ⟨by decide +kernel, rfl⟩
theorem d_X10_done_7 : g_dc cX10_done 7 (.ifCond .ne 5) 3 10 := ⟨by decide +kernel, rfl⟩
theorem d_X10_done_10 : g_dc cX10_done 10 (.iconst (-1)) 1 11 := ⟨by decide +kernel, rfl⟩
theorem d_X10_done_11 : g_dc cX10_done 11 (.ireturn) 1 12 := ⟨by decide +kernel, rfl⟩
set_option maxHeartbeats 4000000 in
set_option maxRecDepth 100000 in
theorem c_X10_done (l : Launch) (X : gX) (ad : Nat → Nat) : g_Ci l X yX10_done cX10_done 1 (some .int) 7 0 0 [.ref (ad 0)] (wX X ad fX0 r0) (fun r _ => r = -1) := by
  refine g_mi (by decide +kernel) (Nat.le_of_ble_eq_true rfl) (fun E cx hret => ?_)
  refine g_aload_n cx 0 rfl d_X10_done_0 ?_
  refine g_get cx cl_X10 fl_X10_29 0 (.ref (ad 11)) d_X10_done_1 rfl rfl ?_
  refine g_getN cx cl_X5 fn_X10_124 11 (.int 0) d_X10_done_4 rfl rfl ?_
  refine g_if_ne_f cx 12 d_X10_done_7 (by decide) (by decide) ?_
  refine g_iconst cx (-1) (by decide) d_X10_done_10 ?_
  exact hret d_X10_done_11 (Nat.le_of_ble_eq_true rfl) (Nat.le_of_ble_eq_true rfl) rfl (rfl)
theorem d_X10_thingIs_0 : g_dc cX10_thingIs 0 (.aload_n 0) 1 1 := ⟨by decide +kernel, rfl⟩
theorem d_X10_thingIs_1 : g_dc cX10_thingIs 1 (.getfield 10) 3 4 := ⟨by decide +kernel, rfl⟩
theorem d_X10_thingIs_4 : g_dc cX10_thingIs 4 (.iload_n 1) 1 5 := ⟨by decide +kernel, rfl⟩
theorem d_X10_thingIs_5 : g_dc cX10_thingIs 5 (.invokevirtual 102) 3 8 := ⟨by decide +kernel, rfl⟩
theorem d_X10_thingIs_8 : g_dc cX10_thingIs 8 (.ifCond .eq 25) 3 11 := ⟨by decide +kernel, rfl⟩
theorem d_X10_thingIs_33 : g_dc cX10_thingIs 33 (.iconst (-1)) 1 34 := ⟨by decide +kernel, rfl⟩
theorem d_X10_thingIs_34 : g_dc cX10_thingIs 34 (.ireturn) 1 35 := ⟨by decide +kernel, rfl⟩
set_option maxHeartbeats 4000000 in
set_option maxRecDepth 100000 in
theorem c_X10_thingIs (l : Launch) (X : gX) (ad : Nat → Nat) (a b : Int32) : g_Ci l X yX10_thingIs cX10_thingIs 3 (some .int) 3 0 0 [.ref (ad 0), .int a, .int b] (wX X ad fX0 r0) (fun r _ => r = -1) := by
  refine g_mi (by decide +kernel) (Nat.le_of_ble_eq_true rfl) (fun E cx hret => ?_)
  refine g_aload_n cx 0 rfl d_X10_thingIs_0 ?_
  refine g_get cx cl_X10 fl_X10_10 0 (.ref (ad 1)) d_X10_thingIs_1 rfl rfl ?_
  refine g_iload_n cx 1 rfl d_X10_thingIs_4 ?_
  refine g_cVi cx [.int a] [] (c_X8_has l X (ad 1) (ad 2) 100 100 0 0 1 (r0 2) a) ml_X10_102 yV_X8_has d_X10_thingIs_5 (by unfold g_rr; decide) (by decide) 0 rfl rfl [1, 2] rfl (by decide) rfl (Nat.le_of_ble_eq_true rfl) (by rintro _ _ ⟨rfl, _⟩; rfl) (fun r1 w2 h3 => ?_)
  obtain ⟨rfl, rfl⟩ := h3
  refine g_weq (wX X ad fX0 r0) (g_rep_same rfl) ?_
  refine g_toi 0 (g_has0 (rfl)) ?_
  refine g_if_eq_t cx 33 d_X10_thingIs_8 (by decide) (by decide) ?_
  refine g_iconst cx (-1) (by decide) d_X10_thingIs_33 ?_
  exact hret d_X10_thingIs_34 (Nat.le_of_ble_eq_true rfl) (Nat.le_of_ble_eq_true rfl) rfl (rfl)
theorem d_X10_pace_0 : g_dc cX10_pace 0 (.aload_n 0) 1 1 := ⟨by decide +kernel, rfl⟩
theorem d_X10_pace_1 : g_dc cX10_pace 1 (.getfield 58) 3 4 := ⟨by decide +kernel, rfl⟩
theorem d_X10_pace_4 : g_dc cX10_pace 4 (.aload_n 0) 1 5 := ⟨by decide +kernel, rfl⟩
theorem d_X10_pace_5 : g_dc cX10_pace 5 (.getfield 10) 3 8 := ⟨by decide +kernel, rfl⟩
theorem d_X10_pace_8 : g_dc cX10_pace 8 (.aload_n 0) 1 9 := ⟨by decide +kernel, rfl⟩
theorem d_X10_pace_9 : g_dc cX10_pace 9 (.getfield 29) 3 12 := ⟨by decide +kernel, rfl⟩
theorem d_X10_pace_12 : g_dc cX10_pace 12 (.invokevirtual 148) 3 15 := ⟨by decide +kernel, rfl⟩
theorem d_X10_pace_15 : g_dc cX10_pace 15 (.aload_n 0) 1 16 := ⟨by decide +kernel, rfl⟩
theorem d_X10_pace_16 : g_dc cX10_pace 16 (.getfield 58) 3 19 := ⟨by decide +kernel, rfl⟩
theorem d_X10_pace_19 : g_dc cX10_pace 19 (.invokevirtual 177) 3 22 := ⟨by decide +kernel, rfl⟩
theorem d_X10_pace_22 : g_dc cX10_pace 22 (.ireturn) 1 23 := ⟨by decide +kernel, rfl⟩
set_option maxHeartbeats 4000000 in
set_option maxRecDepth 100000 in
theorem c_X10_pace (l : Launch) (X : gX) (ad : Nat → Nat) : g_Ci l X yX10_pace cX10_pace 1 (some .int) 7 0 0 [.ref (ad 0)] (wX X ad fX0 r0) (fun r _ => r = 1) := by
  refine g_mi (by decide +kernel) (Nat.le_of_ble_eq_true rfl) (fun E cx hret => ?_)
  refine g_aload_n cx 0 rfl d_X10_pace_0 ?_
  refine g_get cx cl_X10 fl_X10_58 0 (.ref (ad 35)) d_X10_pace_1 rfl rfl ?_
  refine g_aload_n cx 0 rfl d_X10_pace_4 ?_
  refine g_get cx cl_X10 fl_X10_10 0 (.ref (ad 1)) d_X10_pace_5 rfl rfl ?_
  refine g_aload_n cx 0 rfl d_X10_pace_8 ?_
  refine g_get cx cl_X10 fl_X10_29 0 (.ref (ad 11)) d_X10_pace_9 rfl rfl ?_
  refine g_cVvW cx [.ref (ad 1), .ref (ad 11)] [] (c_X7_lay l X ad fX0 r0  ) ml_X10_148 yV_X7_lay d_X10_pace_12 (by unfold g_rr; decide) (by decide) 35 rfl rfl rfl (Nat.le_of_ble_eq_true rfl) (fun w2 h3 => ?_)
  obtain ⟨rfl, -⟩ := h3
  refine g_weq (wX X ad (upd (upd (upd (upd (upd (upd (upd (upd fX0 80 100) 81 100) 82 0) 83 0) 84 1) 241 0) 672 0) 674 0) (g_u (g_u r0 6 (va_cpy (r0 2) (r0 6) 0 0 80)) 16 (va_cpy (r0 12) (r0 16) 0 0 60))) rfl ?_
  refine g_aload_n cx 0 rfl d_X10_pace_15 ?_
  refine g_get cx cl_X10 fl_X10_58 0 (.ref (ad 35)) d_X10_pace_16 rfl rfl ?_
  refine g_cViW cx [] [] (c_X7_leastPace l X ad (upd (upd (upd (upd (upd (upd (upd (upd fX0 80 100) 81 100) 82 0) 83 0) 84 1) 241 0) 672 0) 674 0) (g_u (g_u r0 6 (va_cpy (r0 2) (r0 6) 0 0 80)) 16 (va_cpy (r0 12) (r0 16) 0 0 60))  rfl rfl rfl rfl) ml_X10_177 yV_X7_leastPace d_X10_pace_19 (by unfold g_rr; decide) (by decide) 35 rfl rfl rfl (Nat.le_of_ble_eq_true rfl) (fun r4 w5 h6 => ?_)
  subst h6
  exact hret d_X10_pace_22 (Nat.le_of_ble_eq_true rfl) (Nat.le_of_ble_eq_true rfl) rfl (rfl)
theorem d_X10_best_0 : g_dc cX10_best 0 (.iload_n 1) 1 1 := ⟨by decide +kernel, rfl⟩
theorem d_X10_best_1 : g_dc cX10_best 1 (.iconst 0) 1 2 := ⟨by decide +kernel, rfl⟩
theorem d_X10_best_2 : g_dc cX10_best 2 (.iconst 4) 1 3 := ⟨by decide +kernel, rfl⟩
theorem d_X10_best_3 : g_dc cX10_best 3 (.invokestatic 82) 3 6 := ⟨by decide +kernel, rfl⟩
theorem d_X10_best_6 : g_dc cX10_best 6 (.ifCond .ne 5) 3 9 := ⟨by decide +kernel, rfl⟩
theorem d_X10_best_9 : g_dc cX10_best 9 (.iconst (-1)) 1 10 := ⟨by decide +kernel, rfl⟩
theorem d_X10_best_10 : g_dc cX10_best 10 (.ireturn) 1 11 := ⟨by decide +kernel, rfl⟩
theorem d_X10_best_11 : g_dc cX10_best 11 (.aload_n 0) 1 12 := ⟨by decide +kernel, rfl⟩
theorem d_X10_best_12 : g_dc cX10_best 12 (.getfield 58) 3 15 := ⟨by decide +kernel, rfl⟩
theorem d_X10_best_15 : g_dc cX10_best 15 (.aload_n 0) 1 16 := ⟨by decide +kernel, rfl⟩
theorem d_X10_best_16 : g_dc cX10_best 16 (.getfield 10) 3 19 := ⟨by decide +kernel, rfl⟩
theorem d_X10_best_19 : g_dc cX10_best 19 (.aload_n 0) 1 20 := ⟨by decide +kernel, rfl⟩
theorem d_X10_best_20 : g_dc cX10_best 20 (.getfield 29) 3 23 := ⟨by decide +kernel, rfl⟩
theorem d_X10_best_23 : g_dc cX10_best 23 (.invokevirtual 148) 3 26 := ⟨by decide +kernel, rfl⟩
theorem d_X10_best_26 : g_dc cX10_best 26 (.aload_n 0) 1 27 := ⟨by decide +kernel, rfl⟩
theorem d_X10_best_27 : g_dc cX10_best 27 (.getfield 58) 3 30 := ⟨by decide +kernel, rfl⟩
theorem d_X10_best_30 : g_dc cX10_best 30 (.aload_n 0) 1 31 := ⟨by decide +kernel, rfl⟩
theorem d_X10_best_31 : g_dc cX10_best 31 (.getfield 78) 3 34 := ⟨by decide +kernel, rfl⟩
theorem d_X10_best_34 : g_dc cX10_best 34 (.invokevirtual 180) 3 37 := ⟨by decide +kernel, rfl⟩
theorem d_X10_best_37 : g_dc cX10_best 37 (.aload_n 0) 1 38 := ⟨by decide +kernel, rfl⟩
theorem d_X10_best_38 : g_dc cX10_best 38 (.getfield 58) 3 41 := ⟨by decide +kernel, rfl⟩
theorem d_X10_best_41 : g_dc cX10_best 41 (.iload_n 1) 1 42 := ⟨by decide +kernel, rfl⟩
theorem d_X10_best_42 : g_dc cX10_best 42 (.invokevirtual 183) 3 45 := ⟨by decide +kernel, rfl⟩
theorem d_X10_best_45 : g_dc cX10_best 45 (.ireturn) 1 46 := ⟨by decide +kernel, rfl⟩
set_option maxHeartbeats 4000000 in
set_option maxRecDepth 100000 in
theorem c_X10_best (l : Launch) (X : gX) (ad : Nat → Nat) (what : Int32) : g_Ci l X yX10_best cX10_best 2 (some .int) 7 0 0 [.ref (ad 0), .int what] (wX X ad fX0 r0) (fun r _ => r = S_best what) := by
  refine g_mi (by decide +kernel) (Nat.le_of_ble_eq_true rfl) (fun E cx hret => ?_)
  refine g_iload_n cx 1 rfl d_X10_best_0 ?_
  refine g_iconst cx 0 (by decide) d_X10_best_1 ?_
  refine g_iconst cx 4 (by decide) d_X10_best_2 ?_
  refine g_cSiW cx [.int what, .int 0, .int 4] [] (c_X10_within l X _ what 0 4) ml_X10_82 yS_X10_within rfl d_X10_best_3 (by unfold g_rr; decide) (by decide) rfl (Nat.le_of_ble_eq_true rfl) (fun r1 w2 h3 => ?_)
  obtain ⟨rfl, rfl⟩ := h3
  refine g_if_ne cx 11 d_X10_best_6 (by decide) (fun zc6 => ?_) (fun zc6 => ?_)
  · refine g_aload_n cx 0 rfl d_X10_best_11 ?_
    refine g_get cx cl_X10 fl_X10_58 0 (.ref (ad 35)) d_X10_best_12 rfl rfl ?_
    refine g_aload_n cx 0 rfl d_X10_best_15 ?_
    refine g_get cx cl_X10 fl_X10_10 0 (.ref (ad 1)) d_X10_best_16 rfl rfl ?_
    refine g_aload_n cx 0 rfl d_X10_best_19 ?_
    refine g_get cx cl_X10 fl_X10_29 0 (.ref (ad 11)) d_X10_best_20 rfl rfl ?_
    refine g_cVvW cx [.ref (ad 1), .ref (ad 11)] [] (c_X7_lay l X ad fX0 r0  ) ml_X10_148 yV_X7_lay d_X10_best_23 (by unfold g_rr; decide) (by decide) 35 rfl rfl rfl (Nat.le_of_ble_eq_true rfl) (fun w5 h6 => ?_)
    obtain ⟨rfl, -⟩ := h6
    refine g_weq (wX X ad (upd (upd (upd (upd (upd (upd (upd (upd fX0 80 100) 81 100) 82 0) 83 0) 84 1) 241 0) 672 0) 674 0) (g_u (g_u r0 6 (va_cpy (r0 2) (r0 6) 0 0 80)) 16 (va_cpy (r0 12) (r0 16) 0 0 60))) rfl ?_
    refine g_aload_n cx 0 rfl d_X10_best_26 ?_
    refine g_get cx cl_X10 fl_X10_58 0 (.ref (ad 35)) d_X10_best_27 rfl rfl ?_
    refine g_aload_n cx 0 rfl d_X10_best_30 ?_
    refine g_get cx cl_X10 fl_X10_78 0 (.int 0) d_X10_best_31 rfl rfl ?_
    refine g_cVvW cx [.int 0] [] (c_X7_bestPull l X ad (upd (upd (upd (upd (upd (upd (upd (upd fX0 80 100) 81 100) 82 0) 83 0) 84 1) 241 0) 672 0) 674 0) (g_u (g_u r0 6 (va_cpy (r0 2) (r0 6) 0 0 80)) 16 (va_cpy (r0 12) (r0 16) 0 0 60)) rfl rfl rfl rfl rfl) ml_X10_180 yV_X7_bestPull d_X10_best_34 (by unfold g_rr; decide) (by decide) 35 rfl rfl rfl (Nat.le_of_ble_eq_true rfl) (fun w8 h9 => ?_)
    obtain ⟨zF10, zR11, rfl, zp12⟩ := h9
    refine g_aload_n cx 0 rfl d_X10_best_37 ?_
    refine g_get cx cl_X10 fl_X10_58 0 (.ref (ad 35)) d_X10_best_38 rfl rfl ?_
    refine g_iload_n cx 1 rfl d_X10_best_41 ?_
    refine g_cViW cx [.int what] [] (c_X7_bestIs l X ad zF10 zR11 what zc6 zp12) ml_X10_183 yV_X7_bestIs d_X10_best_42 (by unfold g_rr; decide) (by decide) 35 rfl rfl rfl (Nat.le_of_ble_eq_true rfl) (fun r13 w14 h15 => ?_)
    subst h15
    exact hret d_X10_best_45 (Nat.le_of_ble_eq_true rfl) (Nat.le_of_ble_eq_true rfl) rfl (rfl)
  · refine g_iconst cx (-1) (by decide) d_X10_best_9 ?_
    exact hret d_X10_best_10 (Nat.le_of_ble_eq_true rfl) (Nat.le_of_ble_eq_true rfl) rfl (by simp [S_best, *])
theorem d_X10_put_0 : g_dc cX10_put 0 (.iload_n 2) 1 1 := ⟨by decide +kernel, rfl⟩
theorem d_X10_put_1 : g_dc cX10_put 1 (.iconst 0) 1 2 := ⟨by decide +kernel, rfl⟩
theorem d_X10_put_2 : g_dc cX10_put 2 (.bipush 9) 2 4 := ⟨by decide +kernel, rfl⟩
theorem d_X10_put_4 : g_dc cX10_put 4 (.invokestatic 82) 3 7 := ⟨by decide +kernel, rfl⟩
theorem d_X10_put_7 : g_dc cX10_put 7 (.ifCond .eq 15) 3 10 := ⟨by decide +kernel, rfl⟩
theorem d_X10_put_10 : g_dc cX10_put 10 (.iload_n 1) 1 11 := ⟨by decide +kernel, rfl⟩
theorem d_X10_put_11 : g_dc cX10_put 11 (.iconst 1) 1 12 := ⟨by decide +kernel, rfl⟩
theorem d_X10_put_12 : g_dc cX10_put 12 (.iload_n 2) 1 13 := ⟨by decide +kernel, rfl⟩
theorem d_X10_put_13 : g_dc cX10_put 13 (.ishl) 1 14 := ⟨by decide +kernel, rfl⟩
theorem d_X10_put_14 : g_dc cX10_put 14 (.iand) 1 15 := ⟨by decide +kernel, rfl⟩
theorem d_X10_put_15 : g_dc cX10_put 15 (.ifCond .eq 7) 3 18 := ⟨by decide +kernel, rfl⟩
theorem d_X10_put_18 : g_dc cX10_put 18 (.iconst 1) 1 19 := ⟨by decide +kernel, rfl⟩
theorem d_X10_put_19 : g_dc cX10_put 19 (.goto 4) 3 22 := ⟨by decide +kernel, rfl⟩
theorem d_X10_put_22 : g_dc cX10_put 22 (.iconst 0) 1 23 := ⟨by decide +kernel, rfl⟩
theorem d_X10_put_23 : g_dc cX10_put 23 (.istore_n 3) 1 24 := ⟨by decide +kernel, rfl⟩
theorem d_X10_put_24 : g_dc cX10_put 24 (.aload_n 0) 1 25 := ⟨by decide +kernel, rfl⟩
theorem d_X10_put_25 : g_dc cX10_put 25 (.getfield 70) 3 28 := ⟨by decide +kernel, rfl⟩
theorem d_X10_put_28 : g_dc cX10_put 28 (.iload_n 1) 1 29 := ⟨by decide +kernel, rfl⟩
theorem d_X10_put_29 : g_dc cX10_put 29 (.aload_n 0) 1 30 := ⟨by decide +kernel, rfl⟩
theorem d_X10_put_30 : g_dc cX10_put 30 (.getfield 10) 3 33 := ⟨by decide +kernel, rfl⟩
theorem d_X10_put_33 : g_dc cX10_put 33 (.getfield 95) 3 36 := ⟨by decide +kernel, rfl⟩
theorem d_X10_put_36 : g_dc cX10_put 36 (.invokevirtual 186) 3 39 := ⟨by decide +kernel, rfl⟩
theorem d_X10_put_39 : g_dc cX10_put 39 (.ifCond .eq 18) 3 42 := ⟨by decide +kernel, rfl⟩
theorem d_X10_put_57 : g_dc cX10_put 57 (.iconst (-1)) 1 58 := ⟨by decide +kernel, rfl⟩
theorem d_X10_put_58 : g_dc cX10_put 58 (.ireturn) 1 59 := ⟨by decide +kernel, rfl⟩
set_option maxHeartbeats 4000000 in
set_option maxRecDepth 100000 in
theorem c_X10_put (l : Launch) (X : gX) (ad : Nat → Nat) (a b : Int32) : g_Ci l X yX10_put cX10_put 4 (some .int) 3 0 0 [.ref (ad 0), .int a, .int b] (wX X ad fX0 r0) (fun r _ => r = -1) := by
  refine g_mi (by decide +kernel) (Nat.le_of_ble_eq_true rfl) (fun E cx hret => ?_)
  refine g_iload_n cx 2 rfl d_X10_put_0 ?_
  refine g_iconst cx 0 (by decide) d_X10_put_1 ?_
  refine g_bipush cx 9 (by decide) d_X10_put_2 ?_
  refine g_cSiW cx [.int b, .int 0, .int 9] [] (c_X10_within l X _ b 0 9) ml_X10_82 yS_X10_within rfl d_X10_put_4 (by unfold g_rr; decide) (by decide) rfl (Nat.le_of_ble_eq_true rfl) (fun r1 w2 h3 => ?_)
  obtain ⟨rfl, rfl⟩ := h3
  refine g_if_eq cx 22 d_X10_put_7 (by decide) (fun zc7 => ?_) (fun zc7 => ?_)
  · refine g_iconst cx 0 (by decide) d_X10_put_22 ?_
    refine g_istore_n cx [(3, .int 0), (0, .ref (ad 0)), (1, .int a), (2, .int b)] d_X10_put_23 (by decide) rfl ?_
    refine g_aload_n cx 1 rfl d_X10_put_24 ?_
    refine g_get cx cl_X10 fl_X10_70 0 (.ref (ad 47)) d_X10_put_25 rfl rfl ?_
    refine g_iload_n cx 2 rfl d_X10_put_28 ?_
    refine g_aload_n cx 1 rfl d_X10_put_29 ?_
    refine g_get cx cl_X10 fl_X10_10 0 (.ref (ad 1)) d_X10_put_30 rfl rfl ?_
    refine g_getN cx cl_X8 fn_X10_95 1 (.int 0) d_X10_put_33 rfl rfl ?_
    refine g_cViW cx [.int a, .int 0] [] (c_X6_take l X ad fX0 r0 a) ml_X10_186 yV_X6_take d_X10_put_36 (by unfold g_rr; decide) (by decide) 47 rfl rfl rfl (Nat.le_of_ble_eq_true rfl) (fun r4 w5 h6 => ?_)
    obtain ⟨rfl, rfl⟩ := h6
    refine g_if_eq_t cx 57 d_X10_put_39 (by decide) (by decide) ?_
    refine g_iconst cx (-1) (by decide) d_X10_put_57 ?_
    exact hret d_X10_put_58 (Nat.le_of_ble_eq_true rfl) (Nat.le_of_ble_eq_true rfl) rfl (rfl)
  · refine g_iload_n cx 1 rfl d_X10_put_10 ?_
    refine g_iconst cx 1 (by decide) d_X10_put_11 ?_
    refine g_iload_n cx 2 rfl d_X10_put_12 ?_
    refine g_ishl cx d_X10_put_13 ?_
    refine g_iand cx d_X10_put_14 ?_
    refine g_if_eq cx 22 d_X10_put_15 (by decide) (fun zc15 => ?_) (fun zc15 => ?_)
    · refine g_iconst cx 0 (by decide) d_X10_put_22 ?_
      refine g_istore_n cx [(3, .int 0), (0, .ref (ad 0)), (1, .int a), (2, .int b)] d_X10_put_23 (by decide) rfl ?_
      refine g_aload_n cx 1 rfl d_X10_put_24 ?_
      refine g_get cx cl_X10 fl_X10_70 0 (.ref (ad 47)) d_X10_put_25 rfl rfl ?_
      refine g_iload_n cx 2 rfl d_X10_put_28 ?_
      refine g_aload_n cx 1 rfl d_X10_put_29 ?_
      refine g_get cx cl_X10 fl_X10_10 0 (.ref (ad 1)) d_X10_put_30 rfl rfl ?_
      refine g_getN cx cl_X8 fn_X10_95 1 (.int 0) d_X10_put_33 rfl rfl ?_
      refine g_cViW cx [.int a, .int 0] [] (c_X6_take l X ad fX0 r0 a) ml_X10_186 yV_X6_take d_X10_put_36 (by unfold g_rr; decide) (by decide) 47 rfl rfl rfl (Nat.le_of_ble_eq_true rfl) (fun r7 w8 h9 => ?_)
      obtain ⟨rfl, rfl⟩ := h9
      refine g_if_eq_t cx 57 d_X10_put_39 (by decide) (by decide) ?_
      refine g_iconst cx (-1) (by decide) d_X10_put_57 ?_
      exact hret d_X10_put_58 (Nat.le_of_ble_eq_true rfl) (Nat.le_of_ble_eq_true rfl) rfl (rfl)
    · refine g_iconst cx 1 (by decide) d_X10_put_18 ?_
      refine g_goto cx 23 d_X10_put_19 (by decide) ?_
      refine g_istore_n cx [(3, .int 1), (0, .ref (ad 0)), (1, .int a), (2, .int b)] d_X10_put_23 (by decide) rfl ?_
      refine g_aload_n cx 1 rfl d_X10_put_24 ?_
      refine g_get cx cl_X10 fl_X10_70 0 (.ref (ad 47)) d_X10_put_25 rfl rfl ?_
      refine g_iload_n cx 2 rfl d_X10_put_28 ?_
      refine g_aload_n cx 1 rfl d_X10_put_29 ?_
      refine g_get cx cl_X10 fl_X10_10 0 (.ref (ad 1)) d_X10_put_30 rfl rfl ?_
      refine g_getN cx cl_X8 fn_X10_95 1 (.int 0) d_X10_put_33 rfl rfl ?_
      refine g_cViW cx [.int a, .int 0] [] (c_X6_take l X ad fX0 r0 a) ml_X10_186 yV_X6_take d_X10_put_36 (by unfold g_rr; decide) (by decide) 47 rfl rfl rfl (Nat.le_of_ble_eq_true rfl) (fun r10 w11 h12 => ?_)
      obtain ⟨rfl, rfl⟩ := h12
      refine g_if_eq_t cx 57 d_X10_put_39 (by decide) (by decide) ?_
      refine g_iconst cx (-1) (by decide) d_X10_put_57 ?_
      exact hret d_X10_put_58 (Nat.le_of_ble_eq_true rfl) (Nat.le_of_ble_eq_true rfl) rfl (rfl)
theorem d_X10_most_0 : g_dc cX10_most 0 (.iload_n 1) 1 1 := ⟨by decide +kernel, rfl⟩
theorem d_X10_most_1 : g_dc cX10_most 1 (.iconst 0) 1 2 := ⟨by decide +kernel, rfl⟩
theorem d_X10_most_2 : g_dc cX10_most 2 (.iconst 1) 1 3 := ⟨by decide +kernel, rfl⟩
theorem d_X10_most_3 : g_dc cX10_most 3 (.invokestatic 82) 3 6 := ⟨by decide +kernel, rfl⟩
theorem d_X10_most_6 : g_dc cX10_most 6 (.ifCond .ne 5) 3 9 := ⟨by decide +kernel, rfl⟩
theorem d_X10_most_9 : g_dc cX10_most 9 (.iconst (-1)) 1 10 := ⟨by decide +kernel, rfl⟩
theorem d_X10_most_10 : g_dc cX10_most 10 (.ireturn) 1 11 := ⟨by decide +kernel, rfl⟩
theorem d_X10_most_11 : g_dc cX10_most 11 (.aload_n 0) 1 12 := ⟨by decide +kernel, rfl⟩
theorem d_X10_most_12 : g_dc cX10_most 12 (.getfield 58) 3 15 := ⟨by decide +kernel, rfl⟩
theorem d_X10_most_15 : g_dc cX10_most 15 (.aload_n 0) 1 16 := ⟨by decide +kernel, rfl⟩
theorem d_X10_most_16 : g_dc cX10_most 16 (.getfield 10) 3 19 := ⟨by decide +kernel, rfl⟩
theorem d_X10_most_19 : g_dc cX10_most 19 (.aload_n 0) 1 20 := ⟨by decide +kernel, rfl⟩
theorem d_X10_most_20 : g_dc cX10_most 20 (.getfield 29) 3 23 := ⟨by decide +kernel, rfl⟩
theorem d_X10_most_23 : g_dc cX10_most 23 (.invokevirtual 148) 3 26 := ⟨by decide +kernel, rfl⟩
theorem d_X10_most_26 : g_dc cX10_most 26 (.aload_n 0) 1 27 := ⟨by decide +kernel, rfl⟩
theorem d_X10_most_27 : g_dc cX10_most 27 (.getfield 58) 3 30 := ⟨by decide +kernel, rfl⟩
theorem d_X10_most_30 : g_dc cX10_most 30 (.invokevirtual 208) 3 33 := ⟨by decide +kernel, rfl⟩
theorem d_X10_most_33 : g_dc cX10_most 33 (.istore_n 2) 1 34 := ⟨by decide +kernel, rfl⟩
theorem d_X10_most_34 : g_dc cX10_most 34 (.iload_n 1) 1 35 := ⟨by decide +kernel, rfl⟩
theorem d_X10_most_35 : g_dc cX10_most 35 (.ifCond .ne 10) 3 38 := ⟨by decide +kernel, rfl⟩
theorem d_X10_most_38 : g_dc cX10_most 38 (.iload_n 2) 1 39 := ⟨by decide +kernel, rfl⟩
theorem d_X10_most_39 : g_dc cX10_most 39 (.invokestatic 211) 3 42 := ⟨by decide +kernel, rfl⟩
theorem d_X10_most_42 : g_dc cX10_most 42 (.goto 4) 3 45 := ⟨by decide +kernel, rfl⟩
theorem d_X10_most_45 : g_dc cX10_most 45 (.iload_n 2) 1 46 := ⟨by decide +kernel, rfl⟩
theorem d_X10_most_46 : g_dc cX10_most 46 (.ireturn) 1 47 := ⟨by decide +kernel, rfl⟩
set_option maxHeartbeats 4000000 in
set_option maxRecDepth 100000 in
theorem c_X10_most (l : Launch) (X : gX) (ad : Nat → Nat) (a : Int32) : g_Ci l X yX10_most cX10_most 3 (some .int) 4 0 0 [.ref (ad 0), .int a] (wX X ad fX0 r0) (fun r _ => r = S_most a) := by
  refine g_mi (by decide +kernel) (Nat.le_of_ble_eq_true rfl) (fun E cx hret => ?_)
  refine g_iload_n cx 1 rfl d_X10_most_0 ?_
  refine g_iconst cx 0 (by decide) d_X10_most_1 ?_
  refine g_iconst cx 1 (by decide) d_X10_most_2 ?_
  refine g_cSiW cx [.int a, .int 0, .int 1] [] (c_X10_within l X _ a 0 1) ml_X10_82 yS_X10_within rfl d_X10_most_3 (by unfold g_rr; decide) (by decide) rfl (Nat.le_of_ble_eq_true rfl) (fun r1 w2 h3 => ?_)
  obtain ⟨rfl, rfl⟩ := h3
  refine g_if_ne cx 11 d_X10_most_6 (by decide) (fun zc6 => ?_) (fun zc6 => ?_)
  · refine g_aload_n cx 0 rfl d_X10_most_11 ?_
    refine g_get cx cl_X10 fl_X10_58 0 (.ref (ad 35)) d_X10_most_12 rfl rfl ?_
    refine g_aload_n cx 0 rfl d_X10_most_15 ?_
    refine g_get cx cl_X10 fl_X10_10 0 (.ref (ad 1)) d_X10_most_16 rfl rfl ?_
    refine g_aload_n cx 0 rfl d_X10_most_19 ?_
    refine g_get cx cl_X10 fl_X10_29 0 (.ref (ad 11)) d_X10_most_20 rfl rfl ?_
    refine g_cVvW cx [.ref (ad 1), .ref (ad 11)] [] (c_X7_lay l X ad fX0 r0  ) ml_X10_148 yV_X7_lay d_X10_most_23 (by unfold g_rr; decide) (by decide) 35 rfl rfl rfl (Nat.le_of_ble_eq_true rfl) (fun w5 h6 => ?_)
    obtain ⟨rfl, -⟩ := h6
    refine g_weq (wX X ad (upd (upd (upd (upd (upd (upd (upd (upd fX0 80 100) 81 100) 82 0) 83 0) 84 1) 241 0) 672 0) 674 0) (g_u (g_u r0 6 (va_cpy (r0 2) (r0 6) 0 0 80)) 16 (va_cpy (r0 12) (r0 16) 0 0 60))) rfl ?_
    refine g_aload_n cx 0 rfl d_X10_most_26 ?_
    refine g_get cx cl_X10 fl_X10_58 0 (.ref (ad 35)) d_X10_most_27 rfl rfl ?_
    refine g_cViW cx [] [] (c_X7_largestStanding l X ad (upd (upd (upd (upd (upd (upd (upd (upd fX0 80 100) 81 100) 82 0) 83 0) 84 1) 241 0) 672 0) 674 0) (g_u (g_u r0 6 (va_cpy (r0 2) (r0 6) 0 0 80)) 16 (va_cpy (r0 12) (r0 16) 0 0 60))  rfl) ml_X10_208 yV_X7_largestStanding d_X10_most_30 (by unfold g_rr; decide) (by decide) 35 rfl rfl rfl (Nat.le_of_ble_eq_true rfl) (fun r7 w8 h9 => ?_)
    subst h9
    refine g_istore_n cx [(2, .int 0), (0, .ref (ad 0)), (1, .int a)] d_X10_most_33 (by decide) rfl ?_
    refine g_iload_n cx 2 rfl d_X10_most_34 ?_
    refine g_if_ne cx 45 d_X10_most_35 (by decide) (fun zc35 => ?_) (fun zc35 => ?_)
    · refine g_iload_n cx 0 rfl d_X10_most_45 ?_
      exact hret d_X10_most_46 (Nat.le_of_ble_eq_true rfl) (Nat.le_of_ble_eq_true rfl) rfl (by show _ = S_most a; unfold S_most; first | rw [if_neg zc6] | rw [if_pos zc6])
    · refine g_iload_n cx 0 rfl d_X10_most_38 ?_
      refine g_cOiW cx [.int 0] [] (c_J6_bitCount_0f7a4 l X _ 0) ml_X10_211 yS_J6_bitCount_0f7a4 d_X10_most_39 (by unfold g_rr; decide) (by decide) rfl (Nat.le_of_ble_eq_true rfl) (fun r10 w11 h12 => ?_)
      obtain ⟨rfl, h12⟩ := h12
      refine g_toi 0 (h12 rfl) ?_
      refine g_goto cx 46 d_X10_most_42 (by decide) ?_
      exact hret d_X10_most_46 (Nat.le_of_ble_eq_true rfl) (Nat.le_of_ble_eq_true rfl) rfl (by show _ = S_most a; unfold S_most; first | rw [if_neg zc6] | rw [if_pos zc6])
  · refine g_iconst cx (-1) (by decide) d_X10_most_9 ?_
    exact hret d_X10_most_10 (Nat.le_of_ble_eq_true rfl) (Nat.le_of_ble_eq_true rfl) rfl (by show _ = S_most a; unfold S_most; first | rw [if_neg zc6] | rw [if_pos zc6])
theorem d_X10_worth_0 : g_dc cX10_worth 0 (.iload_n 2) 1 1 := ⟨by decide +kernel, rfl⟩
theorem d_X10_worth_1 : g_dc cX10_worth 1 (.iconst 0) 1 2 := ⟨by decide +kernel, rfl⟩
theorem d_X10_worth_2 : g_dc cX10_worth 2 (.iconst 1) 1 3 := ⟨by decide +kernel, rfl⟩
theorem d_X10_worth_3 : g_dc cX10_worth 3 (.invokestatic 82) 3 6 := ⟨by decide +kernel, rfl⟩
theorem d_X10_worth_6 : g_dc cX10_worth 6 (.ifCond .eq 18) 3 9 := ⟨by decide +kernel, rfl⟩
theorem d_X10_worth_9 : g_dc cX10_worth 9 (.aload_n 0) 1 10 := ⟨by decide +kernel, rfl⟩
theorem d_X10_worth_10 : g_dc cX10_worth 10 (.getfield 10) 3 13 := ⟨by decide +kernel, rfl⟩
theorem d_X10_worth_13 : g_dc cX10_worth 13 (.iload_n 1) 1 14 := ⟨by decide +kernel, rfl⟩
theorem d_X10_worth_14 : g_dc cX10_worth 14 (.invokevirtual 216) 3 17 := ⟨by decide +kernel, rfl⟩
theorem d_X10_worth_17 : g_dc cX10_worth 17 (.ifCond .eq 7) 3 20 := ⟨by decide +kernel, rfl⟩
theorem d_X10_worth_24 : g_dc cX10_worth 24 (.iconst 0) 1 25 := ⟨by decide +kernel, rfl⟩
theorem d_X10_worth_25 : g_dc cX10_worth 25 (.istore_n 3) 1 26 := ⟨by decide +kernel, rfl⟩
theorem d_X10_worth_26 : g_dc cX10_worth 26 (.iload_n 2) 1 27 := ⟨by decide +kernel, rfl⟩
theorem d_X10_worth_27 : g_dc cX10_worth 27 (.iconst 2) 1 28 := ⟨by decide +kernel, rfl⟩
theorem d_X10_worth_28 : g_dc cX10_worth 28 (.iconst 3) 1 29 := ⟨by decide +kernel, rfl⟩
theorem d_X10_worth_29 : g_dc cX10_worth 29 (.invokestatic 82) 3 32 := ⟨by decide +kernel, rfl⟩
theorem d_X10_worth_32 : g_dc cX10_worth 32 (.ifCond .eq 30) 3 35 := ⟨by decide +kernel, rfl⟩
theorem d_X10_worth_35 : g_dc cX10_worth 35 (.aload_n 0) 1 36 := ⟨by decide +kernel, rfl⟩
theorem d_X10_worth_36 : g_dc cX10_worth 36 (.getfield 10) 3 39 := ⟨by decide +kernel, rfl⟩
theorem d_X10_worth_39 : g_dc cX10_worth 39 (.iload_n 1) 1 40 := ⟨by decide +kernel, rfl⟩
theorem d_X10_worth_40 : g_dc cX10_worth 40 (.invokevirtual 102) 3 43 := ⟨by decide +kernel, rfl⟩
theorem d_X10_worth_43 : g_dc cX10_worth 43 (.ifCond .eq 19) 3 46 := ⟨by decide +kernel, rfl⟩
theorem d_X10_worth_62 : g_dc cX10_worth 62 (.iconst 0) 1 63 := ⟨by decide +kernel, rfl⟩
theorem d_X10_worth_63 : g_dc cX10_worth 63 (.istore 4) 2 65 := ⟨by decide +kernel, rfl⟩
theorem d_X10_worth_65 : g_dc cX10_worth 65 (.iload_n 3) 1 66 := ⟨by decide +kernel, rfl⟩
theorem d_X10_worth_66 : g_dc cX10_worth 66 (.ifCond .ne 11) 3 69 := ⟨by decide +kernel, rfl⟩
theorem d_X10_worth_69 : g_dc cX10_worth 69 (.iload 4) 2 71 := ⟨by decide +kernel, rfl⟩
theorem d_X10_worth_71 : g_dc cX10_worth 71 (.ifCond .ne 6) 3 74 := ⟨by decide +kernel, rfl⟩
theorem d_X10_worth_74 : g_dc cX10_worth 74 (.ldc 219) 2 76 := ⟨by decide +kernel, rfl⟩
theorem d_X10_worth_76 : g_dc cX10_worth 76 (.ireturn) 1 77 := ⟨by decide +kernel, rfl⟩
set_option maxHeartbeats 4000000 in
set_option maxRecDepth 100000 in
theorem c_X10_worth (l : Launch) (X : gX) (ad : Nat → Nat) (a b : Int32) : g_Ci l X yX10_worth cX10_worth 8 (some .int) 3 0 0 [.ref (ad 0), .int a, .int b] (wX X ad fX0 r0) (fun r _ => r = -100000) := by
  refine g_mi (by decide +kernel) (Nat.le_of_ble_eq_true rfl) (fun E cx hret => ?_)
  refine g_iload_n cx 2 rfl d_X10_worth_0 ?_
  refine g_iconst cx 0 (by decide) d_X10_worth_1 ?_
  refine g_iconst cx 1 (by decide) d_X10_worth_2 ?_
  refine g_cSiW cx [.int b, .int 0, .int 1] [] (c_X10_within l X _ b 0 1) ml_X10_82 yS_X10_within rfl d_X10_worth_3 (by unfold g_rr; decide) (by decide) rfl (Nat.le_of_ble_eq_true rfl) (fun r1 w2 h3 => ?_)
  obtain ⟨rfl, rfl⟩ := h3
  refine g_if_eq cx 24 d_X10_worth_6 (by decide) (fun zc6 => ?_) (fun zc6 => ?_)
  · refine g_iconst cx 0 (by decide) d_X10_worth_24 ?_
    refine g_istore_n cx [(3, .int 0), (0, .ref (ad 0)), (1, .int a), (2, .int b)] d_X10_worth_25 (by decide) rfl ?_
    refine g_iload_n cx 3 rfl d_X10_worth_26 ?_
    refine g_iconst cx 2 (by decide) d_X10_worth_27 ?_
    refine g_iconst cx 3 (by decide) d_X10_worth_28 ?_
    refine g_cSiW cx [.int b, .int 2, .int 3] [] (c_X10_within l X _ b 2 3) ml_X10_82 yS_X10_within rfl d_X10_worth_29 (by unfold g_rr; decide) (by decide) rfl (Nat.le_of_ble_eq_true rfl) (fun r4 w5 h6 => ?_)
    obtain ⟨rfl, rfl⟩ := h6
    refine g_if_eq cx 62 d_X10_worth_32 (by decide) (fun zc32 => ?_) (fun zc32 => ?_)
    · refine g_iconst cx 0 (by decide) d_X10_worth_62 ?_
      refine g_istore cx [(4, .int 0), (3, .int 0), (0, .ref (ad 0)), (1, .int a), (2, .int b)] d_X10_worth_63 (by decide) rfl ?_
      refine g_iload_n cx 1 rfl d_X10_worth_65 ?_
      refine g_if_ne_f cx 77 d_X10_worth_66 (by decide) (by decide) ?_
      refine g_iload cx 0 rfl d_X10_worth_69 ?_
      refine g_if_ne_f cx 77 d_X10_worth_71 (by decide) (by decide) ?_
      refine g_ldc cx (-100000) kc_X10_219 d_X10_worth_74 ?_
      exact hret d_X10_worth_76 (Nat.le_of_ble_eq_true rfl) (Nat.le_of_ble_eq_true rfl) rfl (rfl)
    · refine g_aload_n cx 1 rfl d_X10_worth_35 ?_
      refine g_get cx cl_X10 fl_X10_10 0 (.ref (ad 1)) d_X10_worth_36 rfl rfl ?_
      refine g_iload_n cx 2 rfl d_X10_worth_39 ?_
      refine g_cVi cx [.int a] [] (c_X8_has l X (ad 1) (ad 2) 100 100 0 0 1 (r0 2) a) ml_X10_102 yV_X8_has d_X10_worth_40 (by unfold g_rr; decide) (by decide) 0 rfl rfl [1, 2] rfl (by decide) rfl (Nat.le_of_ble_eq_true rfl) (by rintro _ _ ⟨rfl, _⟩; rfl) (fun r7 w8 h9 => ?_)
      obtain ⟨rfl, rfl⟩ := h9
      refine g_weq (wX X ad fX0 r0) (g_rep_same rfl) ?_
      refine g_toi 0 (g_has0 (rfl)) ?_
      refine g_if_eq_t cx 62 d_X10_worth_43 (by decide) (by decide) ?_
      refine g_iconst cx 0 (by decide) d_X10_worth_62 ?_
      refine g_istore cx [(4, .int 0), (3, .int 0), (0, .ref (ad 0)), (1, .int a), (2, .int b)] d_X10_worth_63 (by decide) rfl ?_
      refine g_iload_n cx 1 rfl d_X10_worth_65 ?_
      refine g_if_ne_f cx 77 d_X10_worth_66 (by decide) (by decide) ?_
      refine g_iload cx 0 rfl d_X10_worth_69 ?_
      refine g_if_ne_f cx 77 d_X10_worth_71 (by decide) (by decide) ?_
      refine g_ldc cx (-100000) kc_X10_219 d_X10_worth_74 ?_
      exact hret d_X10_worth_76 (Nat.le_of_ble_eq_true rfl) (Nat.le_of_ble_eq_true rfl) rfl (rfl)
  · refine g_aload_n cx 0 rfl d_X10_worth_9 ?_
    refine g_get cx cl_X10 fl_X10_10 0 (.ref (ad 1)) d_X10_worth_10 rfl rfl ?_
    refine g_iload_n cx 1 rfl d_X10_worth_13 ?_
    refine g_cVi cx [.int a] [] (c_X8_hasFold l X (ad 1) (ad 2) 100 100 0 0 1 (r0 2) a) ml_X10_216 yV_X8_hasFold d_X10_worth_14 (by unfold g_rr; decide) (by decide) 0 rfl rfl [1, 2] rfl (by decide) rfl (Nat.le_of_ble_eq_true rfl) (by rintro _ _ ⟨rfl, _⟩; rfl) (fun r10 w11 h12 => ?_)
    obtain ⟨rfl, rfl⟩ := h12
    refine g_weq (wX X ad fX0 r0) (g_rep_same rfl) ?_
    refine g_toi 0 (g_hf0 (rfl)) ?_
    refine g_if_eq_t cx 24 d_X10_worth_17 (by decide) (by decide) ?_
    refine g_iconst cx 0 (by decide) d_X10_worth_24 ?_
    refine g_istore_n cx [(3, .int 0), (0, .ref (ad 0)), (1, .int a), (2, .int b)] d_X10_worth_25 (by decide) rfl ?_
    refine g_iload_n cx 3 rfl d_X10_worth_26 ?_
    refine g_iconst cx 2 (by decide) d_X10_worth_27 ?_
    refine g_iconst cx 3 (by decide) d_X10_worth_28 ?_
    refine g_cSiW cx [.int b, .int 2, .int 3] [] (c_X10_within l X _ b 2 3) ml_X10_82 yS_X10_within rfl d_X10_worth_29 (by unfold g_rr; decide) (by decide) rfl (Nat.le_of_ble_eq_true rfl) (fun r13 w14 h15 => ?_)
    obtain ⟨rfl, rfl⟩ := h15
    refine g_if_eq cx 62 d_X10_worth_32 (by decide) (fun zc32 => ?_) (fun zc32 => ?_)
    · refine g_iconst cx 0 (by decide) d_X10_worth_62 ?_
      refine g_istore cx [(4, .int 0), (3, .int 0), (0, .ref (ad 0)), (1, .int a), (2, .int b)] d_X10_worth_63 (by decide) rfl ?_
      refine g_iload_n cx 1 rfl d_X10_worth_65 ?_
      refine g_if_ne_f cx 77 d_X10_worth_66 (by decide) (by decide) ?_
      refine g_iload cx 0 rfl d_X10_worth_69 ?_
      refine g_if_ne_f cx 77 d_X10_worth_71 (by decide) (by decide) ?_
      refine g_ldc cx (-100000) kc_X10_219 d_X10_worth_74 ?_
      exact hret d_X10_worth_76 (Nat.le_of_ble_eq_true rfl) (Nat.le_of_ble_eq_true rfl) rfl (rfl)
    · refine g_aload_n cx 1 rfl d_X10_worth_35 ?_
      refine g_get cx cl_X10 fl_X10_10 0 (.ref (ad 1)) d_X10_worth_36 rfl rfl ?_
      refine g_iload_n cx 2 rfl d_X10_worth_39 ?_
      refine g_cVi cx [.int a] [] (c_X8_has l X (ad 1) (ad 2) 100 100 0 0 1 (r0 2) a) ml_X10_102 yV_X8_has d_X10_worth_40 (by unfold g_rr; decide) (by decide) 0 rfl rfl [1, 2] rfl (by decide) rfl (Nat.le_of_ble_eq_true rfl) (by rintro _ _ ⟨rfl, _⟩; rfl) (fun r16 w17 h18 => ?_)
      obtain ⟨rfl, rfl⟩ := h18
      refine g_weq (wX X ad fX0 r0) (g_rep_same rfl) ?_
      refine g_toi 0 (g_has0 (rfl)) ?_
      refine g_if_eq_t cx 62 d_X10_worth_43 (by decide) (by decide) ?_
      refine g_iconst cx 0 (by decide) d_X10_worth_62 ?_
      refine g_istore cx [(4, .int 0), (3, .int 0), (0, .ref (ad 0)), (1, .int a), (2, .int b)] d_X10_worth_63 (by decide) rfl ?_
      refine g_iload_n cx 1 rfl d_X10_worth_65 ?_
      refine g_if_ne_f cx 77 d_X10_worth_66 (by decide) (by decide) ?_
      refine g_iload cx 0 rfl d_X10_worth_69 ?_
      refine g_if_ne_f cx 77 d_X10_worth_71 (by decide) (by decide) ?_
      refine g_ldc cx (-100000) kc_X10_219 d_X10_worth_74 ?_
      exact hret d_X10_worth_76 (Nat.le_of_ble_eq_true rfl) (Nat.le_of_ble_eq_true rfl) rfl (rfl)
theorem d_X10_canCompare_0 : g_dc cX10_canCompare 0 (.aload_n 0) 1 1 := ⟨by decide +kernel, rfl⟩
theorem d_X10_canCompare_1 : g_dc cX10_canCompare 1 (.getfield 10) 3 4 := ⟨by decide +kernel, rfl⟩
theorem d_X10_canCompare_4 : g_dc cX10_canCompare 4 (.getfield 95) 3 7 := ⟨by decide +kernel, rfl⟩
theorem d_X10_canCompare_7 : g_dc cX10_canCompare 7 (.ifCond .eq 27) 3 10 := ⟨by decide +kernel, rfl⟩
theorem d_X10_canCompare_34 : g_dc cX10_canCompare 34 (.iconst 0) 1 35 := ⟨by decide +kernel, rfl⟩
theorem d_X10_canCompare_35 : g_dc cX10_canCompare 35 (.ireturn) 1 36 := ⟨by decide +kernel, rfl⟩
set_option maxHeartbeats 4000000 in
set_option maxRecDepth 100000 in
theorem c_X10_canCompare (l : Launch) (X : gX) (ad : Nat → Nat) : g_Ci l X yX10_canCompare cX10_canCompare 1 (some .boolean) 2 0 0 [.ref (ad 0)] (wX X ad fX0 r0) (fun r w => w = wX X ad fX0 r0 ∧ r = 0) := by
  refine g_mi (by decide +kernel) (Nat.le_of_ble_eq_true rfl) (fun E cx hret => ?_)
  refine g_aload_n cx 0 rfl d_X10_canCompare_0 ?_
  refine g_get cx cl_X10 fl_X10_10 0 (.ref (ad 1)) d_X10_canCompare_1 rfl rfl ?_
  refine g_getN cx cl_X8 fn_X10_95 1 (.int 0) d_X10_canCompare_4 rfl rfl ?_
  refine g_if_eq_t cx 34 d_X10_canCompare_7 (by decide) (by decide) ?_
  refine g_iconst cx 0 (by decide) d_X10_canCompare_34 ?_
  exact hret d_X10_canCompare_35 (Nat.le_of_ble_eq_true rfl) (Nat.le_of_ble_eq_true rfl) rfl (⟨rfl, rfl⟩)
theorem d_X10_wasWet_0 : g_dc cX10_wasWet 0 (.iload_n 1) 1 1 := ⟨by decide +kernel, rfl⟩
theorem d_X10_wasWet_1 : g_dc cX10_wasWet 1 (.iconst 0) 1 2 := ⟨by decide +kernel, rfl⟩
theorem d_X10_wasWet_2 : g_dc cX10_wasWet 2 (.iconst 2) 1 3 := ⟨by decide +kernel, rfl⟩
theorem d_X10_wasWet_3 : g_dc cX10_wasWet 3 (.invokestatic 82) 3 6 := ⟨by decide +kernel, rfl⟩
theorem d_X10_wasWet_6 : g_dc cX10_wasWet 6 (.ifCond .eq 10) 3 9 := ⟨by decide +kernel, rfl⟩
theorem d_X10_wasWet_9 : g_dc cX10_wasWet 9 (.aload_n 0) 1 10 := ⟨by decide +kernel, rfl⟩
theorem d_X10_wasWet_10 : g_dc cX10_wasWet 10 (.invokevirtual 222) 3 13 := ⟨by decide +kernel, rfl⟩
theorem d_X10_wasWet_13 : g_dc cX10_wasWet 13 (.ifCond .ne 5) 3 16 := ⟨by decide +kernel, rfl⟩
theorem d_X10_wasWet_16 : g_dc cX10_wasWet 16 (.iconst (-1)) 1 17 := ⟨by decide +kernel, rfl⟩
theorem d_X10_wasWet_17 : g_dc cX10_wasWet 17 (.ireturn) 1 18 := ⟨by decide +kernel, rfl⟩
set_option maxHeartbeats 4000000 in
set_option maxRecDepth 100000 in
theorem c_X10_wasWet (l : Launch) (X : gX) (ad : Nat → Nat) (a : Int32) : g_Ci l X yX10_wasWet cX10_wasWet 2 (some .int) 3 0 0 [.ref (ad 0), .int a] (wX X ad fX0 r0) (fun r _ => r = -1) := by
  refine g_mi (by decide +kernel) (Nat.le_of_ble_eq_true rfl) (fun E cx hret => ?_)
  refine g_iload_n cx 1 rfl d_X10_wasWet_0 ?_
  refine g_iconst cx 0 (by decide) d_X10_wasWet_1 ?_
  refine g_iconst cx 2 (by decide) d_X10_wasWet_2 ?_
  refine g_cSiW cx [.int a, .int 0, .int 2] [] (c_X10_within l X _ a 0 2) ml_X10_82 yS_X10_within rfl d_X10_wasWet_3 (by unfold g_rr; decide) (by decide) rfl (Nat.le_of_ble_eq_true rfl) (fun r1 w2 h3 => ?_)
  obtain ⟨rfl, rfl⟩ := h3
  refine g_if_eq cx 16 d_X10_wasWet_6 (by decide) (fun zc6 => ?_) (fun zc6 => ?_)
  · refine g_iconst cx (-1) (by decide) d_X10_wasWet_16 ?_
    exact hret d_X10_wasWet_17 (Nat.le_of_ble_eq_true rfl) (Nat.le_of_ble_eq_true rfl) rfl (rfl)
  · refine g_aload_n cx 0 rfl d_X10_wasWet_9 ?_
    refine g_cViW cx [] [] (c_X10_canCompare l X ad) ml_X10_222 yV_X10_canCompare d_X10_wasWet_10 (by unfold g_rr; decide) (by decide) 0 rfl rfl rfl (Nat.le_of_ble_eq_true rfl) (fun r4 w5 h6 => ?_)
    obtain ⟨rfl, rfl⟩ := h6
    refine g_if_ne_f cx 18 d_X10_wasWet_13 (by decide) (by decide) ?_
    refine g_iconst cx (-1) (by decide) d_X10_wasWet_16 ?_
    exact hret d_X10_wasWet_17 (Nat.le_of_ble_eq_true rfl) (Nat.le_of_ble_eq_true rfl) rfl (rfl)
theorem d_X10_howQuick_0 : g_dc cX10_howQuick 0 (.iload_n 1) 1 1 := ⟨by decide +kernel, rfl⟩
theorem d_X10_howQuick_1 : g_dc cX10_howQuick 1 (.iconst 0) 1 2 := ⟨by decide +kernel, rfl⟩
theorem d_X10_howQuick_2 : g_dc cX10_howQuick 2 (.iconst 1) 1 3 := ⟨by decide +kernel, rfl⟩
theorem d_X10_howQuick_3 : g_dc cX10_howQuick 3 (.invokestatic 82) 3 6 := ⟨by decide +kernel, rfl⟩
theorem d_X10_howQuick_6 : g_dc cX10_howQuick 6 (.ifCond .eq 10) 3 9 := ⟨by decide +kernel, rfl⟩
theorem d_X10_howQuick_9 : g_dc cX10_howQuick 9 (.aload_n 0) 1 10 := ⟨by decide +kernel, rfl⟩
theorem d_X10_howQuick_10 : g_dc cX10_howQuick 10 (.invokevirtual 222) 3 13 := ⟨by decide +kernel, rfl⟩
theorem d_X10_howQuick_13 : g_dc cX10_howQuick 13 (.ifCond .ne 5) 3 16 := ⟨by decide +kernel, rfl⟩
theorem d_X10_howQuick_16 : g_dc cX10_howQuick 16 (.iconst (-1)) 1 17 := ⟨by decide +kernel, rfl⟩
theorem d_X10_howQuick_17 : g_dc cX10_howQuick 17 (.ireturn) 1 18 := ⟨by decide +kernel, rfl⟩
set_option maxHeartbeats 4000000 in
set_option maxRecDepth 100000 in
theorem c_X10_howQuick (l : Launch) (X : gX) (ad : Nat → Nat) (a : Int32) : g_Ci l X yX10_howQuick cX10_howQuick 2 (some .int) 3 0 0 [.ref (ad 0), .int a] (wX X ad fX0 r0) (fun r _ => r = -1) := by
  refine g_mi (by decide +kernel) (Nat.le_of_ble_eq_true rfl) (fun E cx hret => ?_)
  refine g_iload_n cx 1 rfl d_X10_howQuick_0 ?_
  refine g_iconst cx 0 (by decide) d_X10_howQuick_1 ?_
  refine g_iconst cx 1 (by decide) d_X10_howQuick_2 ?_
  refine g_cSiW cx [.int a, .int 0, .int 1] [] (c_X10_within l X _ a 0 1) ml_X10_82 yS_X10_within rfl d_X10_howQuick_3 (by unfold g_rr; decide) (by decide) rfl (Nat.le_of_ble_eq_true rfl) (fun r1 w2 h3 => ?_)
  obtain ⟨rfl, rfl⟩ := h3
  refine g_if_eq cx 16 d_X10_howQuick_6 (by decide) (fun zc6 => ?_) (fun zc6 => ?_)
  · refine g_iconst cx (-1) (by decide) d_X10_howQuick_16 ?_
    exact hret d_X10_howQuick_17 (Nat.le_of_ble_eq_true rfl) (Nat.le_of_ble_eq_true rfl) rfl (rfl)
  · refine g_aload_n cx 0 rfl d_X10_howQuick_9 ?_
    refine g_cViW cx [] [] (c_X10_canCompare l X ad) ml_X10_222 yV_X10_canCompare d_X10_howQuick_10 (by unfold g_rr; decide) (by decide) 0 rfl rfl rfl (Nat.le_of_ble_eq_true rfl) (fun r4 w5 h6 => ?_)
    obtain ⟨rfl, rfl⟩ := h6
    refine g_if_ne_f cx 18 d_X10_howQuick_13 (by decide) (by decide) ?_
    refine g_iconst cx (-1) (by decide) d_X10_howQuick_16 ?_
    exact hret d_X10_howQuick_17 (Nat.le_of_ble_eq_true rfl) (Nat.le_of_ble_eq_true rfl) rfl (rfl)
theorem d_X10_odds_0 : g_dc cX10_odds 0 (.iload_n 1) 1 1 := ⟨by decide +kernel, rfl⟩
theorem d_X10_odds_1 : g_dc cX10_odds 1 (.iconst 1) 1 2 := ⟨by decide +kernel, rfl⟩
theorem d_X10_odds_2 : g_dc cX10_odds 2 (.iconst 3) 1 3 := ⟨by decide +kernel, rfl⟩
theorem d_X10_odds_3 : g_dc cX10_odds 3 (.invokestatic 82) 3 6 := ⟨by decide +kernel, rfl⟩
theorem d_X10_odds_6 : g_dc cX10_odds 6 (.ifCond .eq 26) 3 9 := ⟨by decide +kernel, rfl⟩
theorem d_X10_odds_9 : g_dc cX10_odds 9 (.iload_n 2) 1 10 := ⟨by decide +kernel, rfl⟩
theorem d_X10_odds_10 : g_dc cX10_odds 10 (.iconst 0) 1 11 := ⟨by decide +kernel, rfl⟩
theorem d_X10_odds_11 : g_dc cX10_odds 11 (.bipush 10) 2 13 := ⟨by decide +kernel, rfl⟩
theorem d_X10_odds_13 : g_dc cX10_odds 13 (.invokestatic 82) 3 16 := ⟨by decide +kernel, rfl⟩
theorem d_X10_odds_16 : g_dc cX10_odds 16 (.ifCond .eq 16) 3 19 := ⟨by decide +kernel, rfl⟩
theorem d_X10_odds_19 : g_dc cX10_odds 19 (.iload_n 3) 1 20 := ⟨by decide +kernel, rfl⟩
theorem d_X10_odds_20 : g_dc cX10_odds 20 (.iconst 0) 1 21 := ⟨by decide +kernel, rfl⟩
theorem d_X10_odds_21 : g_dc cX10_odds 21 (.iconst 1) 1 22 := ⟨by decide +kernel, rfl⟩
theorem d_X10_odds_22 : g_dc cX10_odds 22 (.invokestatic 82) 3 25 := ⟨by decide +kernel, rfl⟩
theorem d_X10_odds_25 : g_dc cX10_odds 25 (.ifCond .eq 7) 3 28 := ⟨by decide +kernel, rfl⟩
theorem d_X10_odds_28 : g_dc cX10_odds 28 (.iconst 1) 1 29 := ⟨by decide +kernel, rfl⟩
theorem d_X10_odds_29 : g_dc cX10_odds 29 (.goto 4) 3 32 := ⟨by decide +kernel, rfl⟩
theorem d_X10_odds_32 : g_dc cX10_odds 32 (.iconst 0) 1 33 := ⟨by decide +kernel, rfl⟩
theorem d_X10_odds_33 : g_dc cX10_odds 33 (.istore 4) 2 35 := ⟨by decide +kernel, rfl⟩
theorem d_X10_odds_35 : g_dc cX10_odds 35 (.iload 4) 2 37 := ⟨by decide +kernel, rfl⟩
theorem d_X10_odds_37 : g_dc cX10_odds 37 (.ifCond .eq 13) 3 40 := ⟨by decide +kernel, rfl⟩
theorem d_X10_odds_40 : g_dc cX10_odds 40 (.aload_n 0) 1 41 := ⟨by decide +kernel, rfl⟩
theorem d_X10_odds_41 : g_dc cX10_odds 41 (.getfield 29) 3 44 := ⟨by decide +kernel, rfl⟩
theorem d_X10_odds_44 : g_dc cX10_odds 44 (.getfield 124) 3 47 := ⟨by decide +kernel, rfl⟩
theorem d_X10_odds_47 : g_dc cX10_odds 47 (.ifCond .ne 5) 3 50 := ⟨by decide +kernel, rfl⟩
theorem d_X10_odds_50 : g_dc cX10_odds 50 (.iconst (-1)) 1 51 := ⟨by decide +kernel, rfl⟩
theorem d_X10_odds_51 : g_dc cX10_odds 51 (.ireturn) 1 52 := ⟨by decide +kernel, rfl⟩
set_option maxHeartbeats 4000000 in
set_option maxRecDepth 100000 in
theorem c_X10_odds (l : Launch) (X : gX) (ad : Nat → Nat) (a b c : Int32) : g_Ci l X yX10_odds cX10_odds 9 (some .int) 3 0 0 [.ref (ad 0), .int a, .int b, .int c] (wX X ad fX0 r0) (fun r _ => r = -1) := by
  refine g_mi (by decide +kernel) (Nat.le_of_ble_eq_true rfl) (fun E cx hret => ?_)
  refine g_iload_n cx 1 rfl d_X10_odds_0 ?_
  refine g_iconst cx 1 (by decide) d_X10_odds_1 ?_
  refine g_iconst cx 3 (by decide) d_X10_odds_2 ?_
  refine g_cSiW cx [.int a, .int 1, .int 3] [] (c_X10_within l X _ a 1 3) ml_X10_82 yS_X10_within rfl d_X10_odds_3 (by unfold g_rr; decide) (by decide) rfl (Nat.le_of_ble_eq_true rfl) (fun r1 w2 h3 => ?_)
  obtain ⟨rfl, rfl⟩ := h3
  refine g_if_eq cx 32 d_X10_odds_6 (by decide) (fun zc6 => ?_) (fun zc6 => ?_)
  · refine g_iconst cx 0 (by decide) d_X10_odds_32 ?_
    refine g_istore cx [(4, .int 0), (0, .ref (ad 0)), (1, .int a), (2, .int b), (3, .int c)] d_X10_odds_33 (by decide) rfl ?_
    refine g_iload cx 0 rfl d_X10_odds_35 ?_
    refine g_if_eq_t cx 50 d_X10_odds_37 (by decide) (by decide) ?_
    refine g_iconst cx (-1) (by decide) d_X10_odds_50 ?_
    exact hret d_X10_odds_51 (Nat.le_of_ble_eq_true rfl) (Nat.le_of_ble_eq_true rfl) rfl (rfl)
  · refine g_iload_n cx 2 rfl d_X10_odds_9 ?_
    refine g_iconst cx 0 (by decide) d_X10_odds_10 ?_
    refine g_bipush cx 10 (by decide) d_X10_odds_11 ?_
    refine g_cSiW cx [.int b, .int 0, .int 10] [] (c_X10_within l X _ b 0 10) ml_X10_82 yS_X10_within rfl d_X10_odds_13 (by unfold g_rr; decide) (by decide) rfl (Nat.le_of_ble_eq_true rfl) (fun r4 w5 h6 => ?_)
    obtain ⟨rfl, rfl⟩ := h6
    refine g_if_eq cx 32 d_X10_odds_16 (by decide) (fun zc16 => ?_) (fun zc16 => ?_)
    · refine g_iconst cx 0 (by decide) d_X10_odds_32 ?_
      refine g_istore cx [(4, .int 0), (0, .ref (ad 0)), (1, .int a), (2, .int b), (3, .int c)] d_X10_odds_33 (by decide) rfl ?_
      refine g_iload cx 0 rfl d_X10_odds_35 ?_
      refine g_if_eq_t cx 50 d_X10_odds_37 (by decide) (by decide) ?_
      refine g_iconst cx (-1) (by decide) d_X10_odds_50 ?_
      exact hret d_X10_odds_51 (Nat.le_of_ble_eq_true rfl) (Nat.le_of_ble_eq_true rfl) rfl (rfl)
    · refine g_iload_n cx 3 rfl d_X10_odds_19 ?_
      refine g_iconst cx 0 (by decide) d_X10_odds_20 ?_
      refine g_iconst cx 1 (by decide) d_X10_odds_21 ?_
      refine g_cSiW cx [.int c, .int 0, .int 1] [] (c_X10_within l X _ c 0 1) ml_X10_82 yS_X10_within rfl d_X10_odds_22 (by unfold g_rr; decide) (by decide) rfl (Nat.le_of_ble_eq_true rfl) (fun r7 w8 h9 => ?_)
      obtain ⟨rfl, rfl⟩ := h9
      refine g_if_eq cx 32 d_X10_odds_25 (by decide) (fun zc25 => ?_) (fun zc25 => ?_)
      · refine g_iconst cx 0 (by decide) d_X10_odds_32 ?_
        refine g_istore cx [(4, .int 0), (0, .ref (ad 0)), (1, .int a), (2, .int b), (3, .int c)] d_X10_odds_33 (by decide) rfl ?_
        refine g_iload cx 0 rfl d_X10_odds_35 ?_
        refine g_if_eq_t cx 50 d_X10_odds_37 (by decide) (by decide) ?_
        refine g_iconst cx (-1) (by decide) d_X10_odds_50 ?_
        exact hret d_X10_odds_51 (Nat.le_of_ble_eq_true rfl) (Nat.le_of_ble_eq_true rfl) rfl (rfl)
      · refine g_iconst cx 1 (by decide) d_X10_odds_28 ?_
        refine g_goto cx 33 d_X10_odds_29 (by decide) ?_
        refine g_istore cx [(4, .int 1), (0, .ref (ad 0)), (1, .int a), (2, .int b), (3, .int c)] d_X10_odds_33 (by decide) rfl ?_
        refine g_iload cx 0 rfl d_X10_odds_35 ?_
        refine g_if_eq_f cx 50 d_X10_odds_37 (by decide) (by decide) ?_
        refine g_aload_n cx 1 rfl d_X10_odds_40 ?_
        refine g_get cx cl_X10 fl_X10_29 0 (.ref (ad 11)) d_X10_odds_41 rfl rfl ?_
        refine g_getN cx cl_X5 fn_X10_124 11 (.int 0) d_X10_odds_44 rfl rfl ?_
        refine g_if_ne_f cx 52 d_X10_odds_47 (by decide) (by decide) ?_
        refine g_iconst cx (-1) (by decide) d_X10_odds_50 ?_
        exact hret d_X10_odds_51 (Nat.le_of_ble_eq_true rfl) (Nat.le_of_ble_eq_true rfl) rfl (rfl)
theorem d_X10_should_0 : g_dc cX10_should 0 (.iload_n 1) 1 1 := ⟨by decide +kernel, rfl⟩
theorem d_X10_should_1 : g_dc cX10_should 1 (.iconst 1) 1 2 := ⟨by decide +kernel, rfl⟩
theorem d_X10_should_2 : g_dc cX10_should 2 (.iconst 3) 1 3 := ⟨by decide +kernel, rfl⟩
theorem d_X10_should_3 : g_dc cX10_should 3 (.invokestatic 82) 3 6 := ⟨by decide +kernel, rfl⟩
theorem d_X10_should_6 : g_dc cX10_should 6 (.ifCond .eq 24) 3 9 := ⟨by decide +kernel, rfl⟩
theorem d_X10_should_9 : g_dc cX10_should 9 (.iload_n 2) 1 10 := ⟨by decide +kernel, rfl⟩
theorem d_X10_should_10 : g_dc cX10_should 10 (.iconst 0) 1 11 := ⟨by decide +kernel, rfl⟩
theorem d_X10_should_11 : g_dc cX10_should 11 (.sipush 9999) 3 14 := ⟨by decide +kernel, rfl⟩
theorem d_X10_should_14 : g_dc cX10_should 14 (.invokestatic 82) 3 17 := ⟨by decide +kernel, rfl⟩
theorem d_X10_should_17 : g_dc cX10_should 17 (.ifCond .eq 13) 3 20 := ⟨by decide +kernel, rfl⟩
theorem d_X10_should_20 : g_dc cX10_should 20 (.aload_n 0) 1 21 := ⟨by decide +kernel, rfl⟩
theorem d_X10_should_21 : g_dc cX10_should 21 (.getfield 29) 3 24 := ⟨by decide +kernel, rfl⟩
theorem d_X10_should_24 : g_dc cX10_should 24 (.getfield 124) 3 27 := ⟨by decide +kernel, rfl⟩
theorem d_X10_should_27 : g_dc cX10_should 27 (.ifCond .ne 6) 3 30 := ⟨by decide +kernel, rfl⟩
theorem d_X10_should_30 : g_dc cX10_should 30 (.ldc 252) 2 32 := ⟨by decide +kernel, rfl⟩
theorem d_X10_should_32 : g_dc cX10_should 32 (.ireturn) 1 33 := ⟨by decide +kernel, rfl⟩
set_option maxHeartbeats 4000000 in
set_option maxRecDepth 100000 in
theorem c_X10_should (l : Launch) (X : gX) (ad : Nat → Nat) (a b : Int32) : g_Ci l X yX10_should cX10_should 3 (some .int) 3 0 0 [.ref (ad 0), .int a, .int b] (wX X ad fX0 r0) (fun r _ => r = -1000000000) := by
  refine g_mi (by decide +kernel) (Nat.le_of_ble_eq_true rfl) (fun E cx hret => ?_)
  refine g_iload_n cx 1 rfl d_X10_should_0 ?_
  refine g_iconst cx 1 (by decide) d_X10_should_1 ?_
  refine g_iconst cx 3 (by decide) d_X10_should_2 ?_
  refine g_cSiW cx [.int a, .int 1, .int 3] [] (c_X10_within l X _ a 1 3) ml_X10_82 yS_X10_within rfl d_X10_should_3 (by unfold g_rr; decide) (by decide) rfl (Nat.le_of_ble_eq_true rfl) (fun r1 w2 h3 => ?_)
  obtain ⟨rfl, rfl⟩ := h3
  refine g_if_eq cx 30 d_X10_should_6 (by decide) (fun zc6 => ?_) (fun zc6 => ?_)
  · refine g_ldc cx (-1000000000) kc_X10_252 d_X10_should_30 ?_
    exact hret d_X10_should_32 (Nat.le_of_ble_eq_true rfl) (Nat.le_of_ble_eq_true rfl) rfl (rfl)
  · refine g_iload_n cx 2 rfl d_X10_should_9 ?_
    refine g_iconst cx 0 (by decide) d_X10_should_10 ?_
    refine g_sipush cx 9999 (by decide) d_X10_should_11 ?_
    refine g_cSiW cx [.int b, .int 0, .int 9999] [] (c_X10_within l X _ b 0 9999) ml_X10_82 yS_X10_within rfl d_X10_should_14 (by unfold g_rr; decide) (by decide) rfl (Nat.le_of_ble_eq_true rfl) (fun r4 w5 h6 => ?_)
    obtain ⟨rfl, rfl⟩ := h6
    refine g_if_eq cx 30 d_X10_should_17 (by decide) (fun zc17 => ?_) (fun zc17 => ?_)
    · refine g_ldc cx (-1000000000) kc_X10_252 d_X10_should_30 ?_
      exact hret d_X10_should_32 (Nat.le_of_ble_eq_true rfl) (Nat.le_of_ble_eq_true rfl) rfl (rfl)
    · refine g_aload_n cx 0 rfl d_X10_should_20 ?_
      refine g_get cx cl_X10 fl_X10_29 0 (.ref (ad 11)) d_X10_should_21 rfl rfl ?_
      refine g_getN cx cl_X5 fn_X10_124 11 (.int 0) d_X10_should_24 rfl rfl ?_
      refine g_if_ne_f cx 33 d_X10_should_27 (by decide) (by decide) ?_
      refine g_ldc cx (-1000000000) kc_X10_252 d_X10_should_30 ?_
      exact hret d_X10_should_32 (Nat.le_of_ble_eq_true rfl) (Nat.le_of_ble_eq_true rfl) rfl (rfl)
theorem d_X10_seed_0 : g_dc cX10_seed 0 (.iload_n 1) 1 1 := ⟨by decide +kernel, rfl⟩
theorem d_X10_seed_1 : g_dc cX10_seed 1 (.iconst 0) 1 2 := ⟨by decide +kernel, rfl⟩
theorem d_X10_seed_2 : g_dc cX10_seed 2 (.ldc_w 263) 3 5 := ⟨by decide +kernel, rfl⟩
theorem d_X10_seed_5 : g_dc cX10_seed 5 (.invokestatic 82) 3 8 := ⟨by decide +kernel, rfl⟩
theorem d_X10_seed_8 : g_dc cX10_seed 8 (.ifCond .ne 5) 3 11 := ⟨by decide +kernel, rfl⟩
theorem d_X10_seed_11 : g_dc cX10_seed 11 (.iconst 0) 1 12 := ⟨by decide +kernel, rfl⟩
theorem d_X10_seed_12 : g_dc cX10_seed 12 (.ireturn) 1 13 := ⟨by decide +kernel, rfl⟩
theorem d_X10_seed_13 : g_dc cX10_seed 13 (.aload_n 0) 1 14 := ⟨by decide +kernel, rfl⟩
theorem d_X10_seed_14 : g_dc cX10_seed 14 (.getfield 10) 3 17 := ⟨by decide +kernel, rfl⟩
theorem d_X10_seed_17 : g_dc cX10_seed 17 (.iload_n 1) 1 18 := ⟨by decide +kernel, rfl⟩
theorem d_X10_seed_18 : g_dc cX10_seed 18 (.putfield 168) 3 21 := ⟨by decide +kernel, rfl⟩
theorem d_X10_seed_21 : g_dc cX10_seed 21 (.iconst 1) 1 22 := ⟨by decide +kernel, rfl⟩
theorem d_X10_seed_22 : g_dc cX10_seed 22 (.ireturn) 1 23 := ⟨by decide +kernel, rfl⟩
set_option maxHeartbeats 4000000 in
set_option maxRecDepth 100000 in
theorem c_X10_seed (l : Launch) (X : gX) (ad : Nat → Nat) (a : Int32) : g_Ci l X yX10_seed cX10_seed 2 (some .boolean) 2 0 0 [.ref (ad 0), .int a] (wX X ad fX0 r0) (fun r _ => r = S_seed a) := by
  refine g_mi (by decide +kernel) (Nat.le_of_ble_eq_true rfl) (fun E cx hret => ?_)
  refine g_iload_n cx 1 rfl d_X10_seed_0 ?_
  refine g_iconst cx 0 (by decide) d_X10_seed_1 ?_
  refine g_ldcw cx 65535 kc_X10_263 d_X10_seed_2 ?_
  refine g_cSiW cx [.int a, .int 0, .int 65535] [] (c_X10_within l X _ a 0 65535) ml_X10_82 yS_X10_within rfl d_X10_seed_5 (by unfold g_rr; decide) (by decide) rfl (Nat.le_of_ble_eq_true rfl) (fun r1 w2 h3 => ?_)
  obtain ⟨rfl, rfl⟩ := h3
  refine g_if_ne cx 13 d_X10_seed_8 (by decide) (fun zc8 => ?_) (fun zc8 => ?_)
  · refine g_aload_n cx 0 rfl d_X10_seed_13 ?_
    refine g_get cx cl_X10 fl_X10_10 0 (.ref (ad 1)) d_X10_seed_14 rfl rfl ?_
    refine g_iload_n cx 1 rfl d_X10_seed_17 ?_
    refine g_putN cx cl_X8 fn_X10_168 1 (wX X ad (upd fX0 20 a) r0) d_X10_seed_18 rfl rfl rfl rfl (Nat.le_of_ble_eq_true rfl) rfl ?_
    refine g_iconst cx 1 (by decide) d_X10_seed_21 ?_
    exact hret d_X10_seed_22 (Nat.le_of_ble_eq_true rfl) (Nat.le_of_ble_eq_true rfl) rfl (by simp [S_seed, *])
  · refine g_iconst cx 0 (by decide) d_X10_seed_11 ?_
    exact hret d_X10_seed_12 (Nat.le_of_ble_eq_true rfl) (Nat.le_of_ble_eq_true rfl) rfl (by simp [S_seed, *])
theorem d_X10_keep_0 : g_dc cX10_keep 0 (.aload_n 0) 1 1 := ⟨by decide +kernel, rfl⟩
theorem d_X10_keep_1 : g_dc cX10_keep 1 (.getfield 16) 3 4 := ⟨by decide +kernel, rfl⟩
theorem d_X10_keep_4 : g_dc cX10_keep 4 (.aload_n 0) 1 5 := ⟨by decide +kernel, rfl⟩
theorem d_X10_keep_5 : g_dc cX10_keep 5 (.getfield 10) 3 8 := ⟨by decide +kernel, rfl⟩
theorem d_X10_keep_8 : g_dc cX10_keep 8 (.invokevirtual 264) 3 11 := ⟨by decide +kernel, rfl⟩
theorem d_X10_keep_11 : g_dc cX10_keep 11 (.aload_n 0) 1 12 := ⟨by decide +kernel, rfl⟩
theorem d_X10_keep_12 : g_dc cX10_keep 12 (.iconst 1) 1 13 := ⟨by decide +kernel, rfl⟩
theorem d_X10_keep_13 : g_dc cX10_keep 13 (.putfield 74) 3 16 := ⟨by decide +kernel, rfl⟩
theorem d_X10_keep_16 : g_dc cX10_keep 16 (.aload_n 0) 1 17 := ⟨by decide +kernel, rfl⟩
theorem d_X10_keep_17 : g_dc cX10_keep 17 (.getfield 10) 3 20 := ⟨by decide +kernel, rfl⟩
theorem d_X10_keep_20 : g_dc cX10_keep 20 (.getfield 95) 3 23 := ⟨by decide +kernel, rfl⟩
theorem d_X10_keep_23 : g_dc cX10_keep 23 (.invokestatic 211) 3 26 := ⟨by decide +kernel, rfl⟩
theorem d_X10_keep_26 : g_dc cX10_keep 26 (.ireturn) 1 27 := ⟨by decide +kernel, rfl⟩
set_option maxHeartbeats 4000000 in
set_option maxRecDepth 100000 in
theorem c_X10_keep (l : Launch) (X : gX) (ad : Nat → Nat) : g_Ci l X yX10_keep cX10_keep 1 (some .int) 2 0 0 [.ref (ad 0)] (wX X ad fX0 r0) (fun r _ => r = 0) := by
  refine g_mi (by decide +kernel) (Nat.le_of_ble_eq_true rfl) (fun E cx hret => ?_)
  refine g_aload_n cx 0 rfl d_X10_keep_0 ?_
  refine g_get cx cl_X10 fl_X10_16 0 (.ref (ad 3)) d_X10_keep_1 rfl rfl ?_
  refine g_aload_n cx 0 rfl d_X10_keep_4 ?_
  refine g_get cx cl_X10 fl_X10_10 0 (.ref (ad 1)) d_X10_keep_5 rfl rfl ?_
  refine g_cVv cx [.ref (ad 1)] [] (c_X8_copy l X (ad 3) (ad 4) 100 100 0 0 1 (r0 4) (ad 1) (ad 2) 100 100 0 0 1 (r0 2)) ml_X10_264 yV_X8_copy d_X10_keep_8 (by unfold g_rr; decide) (by decide) 0 rfl rfl [3, 4, 1, 2] rfl (by decide) rfl (Nat.le_of_ble_eq_true rfl) (by rintro _ ⟨rfl, _⟩; rfl) (fun w2 h3 => ?_)
  obtain ⟨rfl, -⟩ := h3
  refine g_weq (wX X ad (upd (upd (upd (upd (upd fX0 48 100) 49 100) 50 0) 51 0) 52 1) (g_u r0 4 (va_cpy (r0 2) (r0 4) 0 0 80))) rfl ?_
  refine g_aload_n cx 0 rfl d_X10_keep_11 ?_
  refine g_iconst cx 1 (by decide) d_X10_keep_12 ?_
  refine g_put cx cl_X10 fl_X10_74 0 (wX X ad (upd (upd (upd (upd (upd (upd fX0 11 1) 48 100) 49 100) 50 0) 51 0) 52 1) (g_u r0 4 (va_cpy (r0 2) (r0 4) 0 0 80))) d_X10_keep_13 rfl rfl rfl rfl (Nat.le_of_ble_eq_true rfl) rfl ?_
  refine g_aload_n cx 0 rfl d_X10_keep_16 ?_
  refine g_get cx cl_X10 fl_X10_10 0 (.ref (ad 1)) d_X10_keep_17 rfl rfl ?_
  refine g_getN cx cl_X8 fn_X10_95 1 (.int 0) d_X10_keep_20 rfl rfl ?_
  refine g_cOiW cx [.int 0] [] (c_J6_bitCount_0f7a4 l X _ 0) ml_X10_211 yS_J6_bitCount_0f7a4 d_X10_keep_23 (by unfold g_rr; decide) (by decide) rfl (Nat.le_of_ble_eq_true rfl) (fun r4 w5 h6 => ?_)
  obtain ⟨rfl, h6⟩ := h6
  refine g_toi 0 (h6 rfl) ?_
  exact hret d_X10_keep_26 (Nat.le_of_ble_eq_true rfl) (Nat.le_of_ble_eq_true rfl) rfl (rfl)
theorem d_X10_undo_0 : g_dc cX10_undo 0 (.aload_n 0) 1 1 := ⟨by decide +kernel, rfl⟩
theorem d_X10_undo_1 : g_dc cX10_undo 1 (.getfield 74) 3 4 := ⟨by decide +kernel, rfl⟩
theorem d_X10_undo_4 : g_dc cX10_undo 4 (.ifCond .ne 5) 3 7 := ⟨by decide +kernel, rfl⟩
theorem d_X10_undo_7 : g_dc cX10_undo 7 (.iconst 0) 1 8 := ⟨by decide +kernel, rfl⟩
theorem d_X10_undo_8 : g_dc cX10_undo 8 (.ireturn) 1 9 := ⟨by decide +kernel, rfl⟩
set_option maxHeartbeats 4000000 in
set_option maxRecDepth 100000 in
theorem c_X10_undo (l : Launch) (X : gX) (ad : Nat → Nat) : g_Ci l X yX10_undo cX10_undo 1 (some .boolean) 2 0 0 [.ref (ad 0)] (wX X ad fX0 r0) (fun r _ => r = 0) := by
  refine g_mi (by decide +kernel) (Nat.le_of_ble_eq_true rfl) (fun E cx hret => ?_)
  refine g_aload_n cx 0 rfl d_X10_undo_0 ?_
  refine g_get cx cl_X10 fl_X10_74 0 (.int 0) d_X10_undo_1 rfl rfl ?_
  refine g_if_ne_f cx 9 d_X10_undo_4 (by decide) (by decide) ?_
  refine g_iconst cx 0 (by decide) d_X10_undo_7 ?_
  exact hret d_X10_undo_8 (Nat.le_of_ble_eq_true rfl) (Nat.le_of_ble_eq_true rfl) rfl (rfl)
theorem d_X10_check_0 : g_dc cX10_check 0 (.iload_n 1) 1 1 := ⟨by decide +kernel, rfl⟩
theorem d_X10_check_1 : g_dc cX10_check 1 (.iconst 0) 1 2 := ⟨by decide +kernel, rfl⟩
theorem d_X10_check_2 : g_dc cX10_check 2 (.bipush 10) 2 4 := ⟨by decide +kernel, rfl⟩
theorem d_X10_check_4 : g_dc cX10_check 4 (.invokestatic 82) 3 7 := ⟨by decide +kernel, rfl⟩
theorem d_X10_check_7 : g_dc cX10_check 7 (.ifCond .eq 16) 3 10 := ⟨by decide +kernel, rfl⟩
theorem d_X10_check_10 : g_dc cX10_check 10 (.iload_n 1) 1 11 := ⟨by decide +kernel, rfl⟩
theorem d_X10_check_11 : g_dc cX10_check 11 (.iconst 4) 1 12 := ⟨by decide +kernel, rfl⟩
theorem d_X10_check_12 : g_dc cX10_check 12 (.imul) 1 13 := ⟨by decide +kernel, rfl⟩
theorem d_X10_check_13 : g_dc cX10_check 13 (.aload_n 0) 1 14 := ⟨by decide +kernel, rfl⟩
theorem d_X10_check_14 : g_dc cX10_check 14 (.getfield 22) 3 17 := ⟨by decide +kernel, rfl⟩
theorem d_X10_check_17 : g_dc cX10_check 17 (.getfield 110) 3 20 := ⟨by decide +kernel, rfl⟩
theorem d_X10_check_20 : g_dc cX10_check 20 (.if_icmp .le 6) 3 23 := ⟨by decide +kernel, rfl⟩
theorem d_X10_check_23 : g_dc cX10_check 23 (.bipush (-2)) 2 25 := ⟨by decide +kernel, rfl⟩
theorem d_X10_check_25 : g_dc cX10_check 25 (.ireturn) 1 26 := ⟨by decide +kernel, rfl⟩
theorem d_X10_check_26 : g_dc cX10_check 26 (.aload_n 0) 1 27 := ⟨by decide +kernel, rfl⟩
theorem d_X10_check_27 : g_dc cX10_check 27 (.getfield 22) 3 30 := ⟨by decide +kernel, rfl⟩
theorem d_X10_check_30 : g_dc cX10_check 30 (.iconst 0) 1 31 := ⟨by decide +kernel, rfl⟩
theorem d_X10_check_31 : g_dc cX10_check 31 (.putfield 110) 3 34 := ⟨by decide +kernel, rfl⟩
theorem d_X10_check_34 : g_dc cX10_check 34 (.iconst 0) 1 35 := ⟨by decide +kernel, rfl⟩
theorem d_X10_check_35 : g_dc cX10_check 35 (.istore_n 2) 1 36 := ⟨by decide +kernel, rfl⟩
theorem d_X10_check_36 : g_dc cX10_check 36 (.iload_n 2) 1 37 := ⟨by decide +kernel, rfl⟩
theorem d_X10_check_37 : g_dc cX10_check 37 (.iload_n 1) 1 38 := ⟨by decide +kernel, rfl⟩
theorem d_X10_check_38 : g_dc cX10_check 38 (.if_icmp .ge 48) 3 41 := ⟨by decide +kernel, rfl⟩
theorem d_X10_check_86 : g_dc cX10_check 86 (.iconst (-1)) 1 87 := ⟨by decide +kernel, rfl⟩
theorem d_X10_check_87 : g_dc cX10_check 87 (.ireturn) 1 88 := ⟨by decide +kernel, rfl⟩
set_option maxHeartbeats 4000000 in
set_option maxRecDepth 100000 in
theorem c_X10_check (l : Launch) (X : gX) (ad : Nat → Nat) (a : Int32) : g_Ci l X yX10_check cX10_check 4 (some .int) 3 0 0 [.ref (ad 0), .int a] (wX X ad fX0 r0) (fun r _ => r = S_check a) := by
  refine g_mi (by decide +kernel) (Nat.le_of_ble_eq_true rfl) (fun E cx hret => ?_)
  refine g_iload_n cx 1 rfl d_X10_check_0 ?_
  refine g_iconst cx 0 (by decide) d_X10_check_1 ?_
  refine g_bipush cx 10 (by decide) d_X10_check_2 ?_
  refine g_cSiW cx [.int a, .int 0, .int 10] [] (c_X10_within l X _ a 0 10) ml_X10_82 yS_X10_within rfl d_X10_check_4 (by unfold g_rr; decide) (by decide) rfl (Nat.le_of_ble_eq_true rfl) (fun r1 w2 h3 => ?_)
  obtain ⟨rfl, rfl⟩ := h3
  refine g_if_eq cx 23 d_X10_check_7 (by decide) (fun zc7 => ?_) (fun zc7 => ?_)
  · refine g_bipush cx (-2) (by decide) d_X10_check_23 ?_
    exact hret d_X10_check_25 (Nat.le_of_ble_eq_true rfl) (Nat.le_of_ble_eq_true rfl) rfl (by show _ = S_check a; first | (rw [g_n4 zc7 zc20]; decide) | (have hn := g_n4' zc7 zc20; simp [S_check, *]) | simp [S_check, *])
  · refine g_iload_n cx 1 rfl d_X10_check_10 ?_
    refine g_iconst cx 4 (by decide) d_X10_check_11 ?_
    refine g_imul cx d_X10_check_12 ?_
    refine g_aload_n cx 0 rfl d_X10_check_13 ?_
    refine g_get cx cl_X10 fl_X10_22 0 (.ref (ad 9)) d_X10_check_14 rfl rfl ?_
    refine g_getN cx cl_X9 fn_X10_110 9 (.int 0) d_X10_check_17 rfl rfl ?_
    refine g_icmp_le cx 26 d_X10_check_20 (by decide) (fun zc20 => ?_) (fun zc20 => ?_)
    · refine g_aload_n cx 0 rfl d_X10_check_26 ?_
      refine g_get cx cl_X10 fl_X10_22 0 (.ref (ad 9)) d_X10_check_27 rfl rfl ?_
      refine g_iconst cx 0 (by decide) d_X10_check_30 ?_
      refine g_putN cx cl_X9 fn_X10_110 9 (wX X ad (upd fX0 145 0) r0) d_X10_check_31 rfl rfl rfl rfl (Nat.le_of_ble_eq_true rfl) rfl ?_
      refine g_iconst cx 0 (by decide) d_X10_check_34 ?_
      refine g_istore_n cx [(2, .int 0), (0, .ref (ad 0)), (1, .int a)] d_X10_check_35 (by decide) rfl ?_
      refine g_iload_n cx 0 rfl d_X10_check_36 ?_
      refine g_iload_n cx 2 rfl d_X10_check_37 ?_
      refine g_icmp_ge_t cx 86 d_X10_check_38 (by decide) (by rw [g_n4 zc7 zc20]; exact Int32.le_refl 0) ?_
      refine g_iconst cx (-1) (by decide) d_X10_check_86 ?_
      exact hret d_X10_check_87 (Nat.le_of_ble_eq_true rfl) (Nat.le_of_ble_eq_true rfl) rfl (by show _ = S_check a; first | (rw [g_n4 zc7 zc20]; decide) | (have hn := g_n4' zc7 zc20; simp [S_check, *]) | simp [S_check, *])
    · refine g_bipush cx (-2) (by decide) d_X10_check_23 ?_
      exact hret d_X10_check_25 (Nat.le_of_ble_eq_true rfl) (Nat.le_of_ble_eq_true rfl) rfl (by show _ = S_check a; first | (rw [g_n4 zc7 zc20]; decide) | (have hn := g_n4' zc7 zc20; simp [S_check, *]) | simp [S_check, *])
theorem d_X10_count_0 : g_dc cX10_count 0 (.iload_n 1) 1 1 := ⟨by decide +kernel, rfl⟩
theorem d_X10_count_1 : g_dc cX10_count 1 (.tableswitch 111 0 7 #[47, 55, 63, 71, 79, 87, 95, 103]) 47 48 := ⟨by decide +kernel, rfl⟩
theorem d_X10_count_48 : g_dc cX10_count 48 (.aload_n 0) 1 49 := ⟨by decide +kernel, rfl⟩
theorem d_X10_count_49 : g_dc cX10_count 49 (.getfield 10) 3 52 := ⟨by decide +kernel, rfl⟩
theorem d_X10_count_52 : g_dc cX10_count 52 (.getfield 86) 3 55 := ⟨by decide +kernel, rfl⟩
theorem d_X10_count_55 : g_dc cX10_count 55 (.ireturn) 1 56 := ⟨by decide +kernel, rfl⟩
theorem d_X10_count_56 : g_dc cX10_count 56 (.aload_n 0) 1 57 := ⟨by decide +kernel, rfl⟩
theorem d_X10_count_57 : g_dc cX10_count 57 (.getfield 10) 3 60 := ⟨by decide +kernel, rfl⟩
theorem d_X10_count_60 : g_dc cX10_count 60 (.getfield 89) 3 63 := ⟨by decide +kernel, rfl⟩
theorem d_X10_count_63 : g_dc cX10_count 63 (.ireturn) 1 64 := ⟨by decide +kernel, rfl⟩
theorem d_X10_count_64 : g_dc cX10_count 64 (.aload_n 0) 1 65 := ⟨by decide +kernel, rfl⟩
theorem d_X10_count_65 : g_dc cX10_count 65 (.getfield 10) 3 68 := ⟨by decide +kernel, rfl⟩
theorem d_X10_count_68 : g_dc cX10_count 68 (.getfield 92) 3 71 := ⟨by decide +kernel, rfl⟩
theorem d_X10_count_71 : g_dc cX10_count 71 (.ireturn) 1 72 := ⟨by decide +kernel, rfl⟩
theorem d_X10_count_72 : g_dc cX10_count 72 (.aload_n 0) 1 73 := ⟨by decide +kernel, rfl⟩
theorem d_X10_count_73 : g_dc cX10_count 73 (.getfield 10) 3 76 := ⟨by decide +kernel, rfl⟩
theorem d_X10_count_76 : g_dc cX10_count 76 (.getfield 95) 3 79 := ⟨by decide +kernel, rfl⟩
theorem d_X10_count_79 : g_dc cX10_count 79 (.ireturn) 1 80 := ⟨by decide +kernel, rfl⟩
theorem d_X10_count_80 : g_dc cX10_count 80 (.aload_n 0) 1 81 := ⟨by decide +kernel, rfl⟩
theorem d_X10_count_81 : g_dc cX10_count 81 (.getfield 29) 3 84 := ⟨by decide +kernel, rfl⟩
theorem d_X10_count_84 : g_dc cX10_count 84 (.getfield 124) 3 87 := ⟨by decide +kernel, rfl⟩
theorem d_X10_count_87 : g_dc cX10_count 87 (.ireturn) 1 88 := ⟨by decide +kernel, rfl⟩
theorem d_X10_count_88 : g_dc cX10_count 88 (.aload_n 0) 1 89 := ⟨by decide +kernel, rfl⟩
theorem d_X10_count_89 : g_dc cX10_count 89 (.getfield 39) 3 92 := ⟨by decide +kernel, rfl⟩
theorem d_X10_count_92 : g_dc cX10_count 92 (.getfield 130) 3 95 := ⟨by decide +kernel, rfl⟩
theorem d_X10_count_95 : g_dc cX10_count 95 (.ireturn) 1 96 := ⟨by decide +kernel, rfl⟩
theorem d_X10_count_96 : g_dc cX10_count 96 (.aload_n 0) 1 97 := ⟨by decide +kernel, rfl⟩
theorem d_X10_count_97 : g_dc cX10_count 97 (.getfield 22) 3 100 := ⟨by decide +kernel, rfl⟩
theorem d_X10_count_100 : g_dc cX10_count 100 (.getfield 110) 3 103 := ⟨by decide +kernel, rfl⟩
theorem d_X10_count_103 : g_dc cX10_count 103 (.ireturn) 1 104 := ⟨by decide +kernel, rfl⟩
theorem d_X10_count_104 : g_dc cX10_count 104 (.aload_n 0) 1 105 := ⟨by decide +kernel, rfl⟩
theorem d_X10_count_105 : g_dc cX10_count 105 (.getfield 10) 3 108 := ⟨by decide +kernel, rfl⟩
theorem d_X10_count_108 : g_dc cX10_count 108 (.getfield 168) 3 111 := ⟨by decide +kernel, rfl⟩
theorem d_X10_count_111 : g_dc cX10_count 111 (.ireturn) 1 112 := ⟨by decide +kernel, rfl⟩
theorem d_X10_count_112 : g_dc cX10_count 112 (.iload_n 1) 1 113 := ⟨by decide +kernel, rfl⟩
theorem d_X10_count_113 : g_dc cX10_count 113 (.bipush 100) 2 115 := ⟨by decide +kernel, rfl⟩
theorem d_X10_count_115 : g_dc cX10_count 115 (.bipush 99) 2 117 := ⟨by decide +kernel, rfl⟩
theorem d_X10_count_117 : g_dc cX10_count 117 (.aload_n 0) 1 118 := ⟨by decide +kernel, rfl⟩
theorem d_X10_count_118 : g_dc cX10_count 118 (.getfield 29) 3 121 := ⟨by decide +kernel, rfl⟩
theorem d_X10_count_121 : g_dc cX10_count 121 (.getfield 124) 3 124 := ⟨by decide +kernel, rfl⟩
theorem d_X10_count_124 : g_dc cX10_count 124 (.iadd) 1 125 := ⟨by decide +kernel, rfl⟩
theorem d_X10_count_125 : g_dc cX10_count 125 (.invokestatic 82) 3 128 := ⟨by decide +kernel, rfl⟩
theorem d_X10_count_128 : g_dc cX10_count 128 (.ifCond .eq 17) 3 131 := ⟨by decide +kernel, rfl⟩
theorem d_X10_count_145 : g_dc cX10_count 145 (.iconst (-1)) 1 146 := ⟨by decide +kernel, rfl⟩
theorem d_X10_count_146 : g_dc cX10_count 146 (.ireturn) 1 147 := ⟨by decide +kernel, rfl⟩
set_option maxHeartbeats 4000000 in
set_option maxRecDepth 100000 in
theorem c_X10_count (l : Launch) (X : gX) (ad : Nat → Nat) (a : Int32) : g_Ci l X yX10_count cX10_count 2 (some .int) 3 0 0 [.ref (ad 0), .int a] (wX X ad fX0 r0) (fun r _ => r = S_count a) := by
  refine g_mi (by decide +kernel) (Nat.le_of_ble_eq_true rfl) (fun E cx hret => ?_)
  refine g_iload_n cx 1 rfl d_X10_count_0 ?_
  rcases g_sw8 a with rfl | rfl | rfl | rfl | rfl | rfl | rfl | rfl | zsw
  · refine g_tableIn cx 48 d_X10_count_1 (by decide) (by decide) rfl (by decide) ?_
    refine g_aload_n cx 0 rfl d_X10_count_48 ?_
    refine g_get cx cl_X10 fl_X10_10 0 (.ref (ad 1)) d_X10_count_49 rfl rfl ?_
    refine g_getN cx cl_X8 fn_X10_86 1 (.int 100) d_X10_count_52 rfl rfl ?_
    exact hret d_X10_count_55 (Nat.le_of_ble_eq_true rfl) (Nat.le_of_ble_eq_true rfl) rfl (by show (_ : Int32) = _; decide)
  · refine g_tableIn cx 56 d_X10_count_1 (by decide) (by decide) rfl (by decide) ?_
    refine g_aload_n cx 0 rfl d_X10_count_56 ?_
    refine g_get cx cl_X10 fl_X10_10 0 (.ref (ad 1)) d_X10_count_57 rfl rfl ?_
    refine g_getN cx cl_X8 fn_X10_89 1 (.int 100) d_X10_count_60 rfl rfl ?_
    exact hret d_X10_count_63 (Nat.le_of_ble_eq_true rfl) (Nat.le_of_ble_eq_true rfl) rfl (by show (_ : Int32) = _; decide)
  · refine g_tableIn cx 64 d_X10_count_1 (by decide) (by decide) rfl (by decide) ?_
    refine g_aload_n cx 0 rfl d_X10_count_64 ?_
    refine g_get cx cl_X10 fl_X10_10 0 (.ref (ad 1)) d_X10_count_65 rfl rfl ?_
    refine g_getN cx cl_X8 fn_X10_92 1 (.int 0) d_X10_count_68 rfl rfl ?_
    exact hret d_X10_count_71 (Nat.le_of_ble_eq_true rfl) (Nat.le_of_ble_eq_true rfl) rfl (by show (_ : Int32) = _; decide)
  · refine g_tableIn cx 72 d_X10_count_1 (by decide) (by decide) rfl (by decide) ?_
    refine g_aload_n cx 0 rfl d_X10_count_72 ?_
    refine g_get cx cl_X10 fl_X10_10 0 (.ref (ad 1)) d_X10_count_73 rfl rfl ?_
    refine g_getN cx cl_X8 fn_X10_95 1 (.int 0) d_X10_count_76 rfl rfl ?_
    exact hret d_X10_count_79 (Nat.le_of_ble_eq_true rfl) (Nat.le_of_ble_eq_true rfl) rfl (by show (_ : Int32) = _; decide)
  · refine g_tableIn cx 80 d_X10_count_1 (by decide) (by decide) rfl (by decide) ?_
    refine g_aload_n cx 0 rfl d_X10_count_80 ?_
    refine g_get cx cl_X10 fl_X10_29 0 (.ref (ad 11)) d_X10_count_81 rfl rfl ?_
    refine g_getN cx cl_X5 fn_X10_124 11 (.int 0) d_X10_count_84 rfl rfl ?_
    exact hret d_X10_count_87 (Nat.le_of_ble_eq_true rfl) (Nat.le_of_ble_eq_true rfl) rfl (by show (_ : Int32) = _; decide)
  · refine g_tableIn cx 88 d_X10_count_1 (by decide) (by decide) rfl (by decide) ?_
    refine g_aload_n cx 0 rfl d_X10_count_88 ?_
    refine g_get cx cl_X10 fl_X10_39 0 (.ref (ad 17)) d_X10_count_89 rfl rfl ?_
    refine g_getN cx cl_X2 fn_X10_130 17 (.int 0) d_X10_count_92 rfl rfl ?_
    exact hret d_X10_count_95 (Nat.le_of_ble_eq_true rfl) (Nat.le_of_ble_eq_true rfl) rfl (by show (_ : Int32) = _; decide)
  · refine g_tableIn cx 96 d_X10_count_1 (by decide) (by decide) rfl (by decide) ?_
    refine g_aload_n cx 0 rfl d_X10_count_96 ?_
    refine g_get cx cl_X10 fl_X10_22 0 (.ref (ad 9)) d_X10_count_97 rfl rfl ?_
    refine g_getN cx cl_X9 fn_X10_110 9 (.int 0) d_X10_count_100 rfl rfl ?_
    exact hret d_X10_count_103 (Nat.le_of_ble_eq_true rfl) (Nat.le_of_ble_eq_true rfl) rfl (by show (_ : Int32) = _; decide)
  · refine g_tableIn cx 104 d_X10_count_1 (by decide) (by decide) rfl (by decide) ?_
    refine g_aload_n cx 0 rfl d_X10_count_104 ?_
    refine g_get cx cl_X10 fl_X10_10 0 (.ref (ad 1)) d_X10_count_105 rfl rfl ?_
    refine g_getN cx cl_X8 fn_X10_168 1 (.int 1) d_X10_count_108 rfl rfl ?_
    exact hret d_X10_count_111 (Nat.le_of_ble_eq_true rfl) (Nat.le_of_ble_eq_true rfl) rfl (by show (_ : Int32) = _; decide)
  · refine g_tableOut cx 112 d_X10_count_1 zsw (by decide) ?_
    refine g_iload_n cx 1 rfl d_X10_count_112 ?_
    refine g_bipush cx 100 (by decide) d_X10_count_113 ?_
    refine g_bipush cx 99 (by decide) d_X10_count_115 ?_
    refine g_aload_n cx 0 rfl d_X10_count_117 ?_
    refine g_get cx cl_X10 fl_X10_29 0 (.ref (ad 11)) d_X10_count_118 rfl rfl ?_
    refine g_getN cx cl_X5 fn_X10_124 11 (.int 0) d_X10_count_121 rfl rfl ?_
    refine g_iadd cx d_X10_count_124 ?_
    refine g_toi 99 (by decide) ?_
    refine g_cSiW cx [.int a, .int 100, .int 99] [] (c_X10_within l X _ a 100 99) ml_X10_82 yS_X10_within rfl d_X10_count_125 (by unfold g_rr; decide) (by decide) rfl (Nat.le_of_ble_eq_true rfl) (fun r1 w2 h3 => ?_)
    obtain ⟨rfl, rfl⟩ := h3
    refine g_toi 0 (g_in_no _) ?_
    refine g_if_eq_t cx 145 d_X10_count_128 (by decide) (by decide) ?_
    refine g_iconst cx (-1) (by decide) d_X10_count_145 ?_
    exact hret d_X10_count_146 (Nat.le_of_ble_eq_true rfl) (Nat.le_of_ble_eq_true rfl) rfl ((S_count_out zsw).symm)
end
section
def prc (t o : Nat) : Nat → Nat → Nat
  | 0, _ => 0
  | f + 1, m => if m * o < 1000000 then 0 else prc t o f (m * t / 10) + 1
theorem prc_end {t o f m : Nat} (h : m * o < 1000000) : prc t o f m = 0 := by
  cases f with
  | zero => rfl
  | succ f => rw [prc, if_pos h]
theorem prc_step {t o f m : Nat} (hf : m < f) (h : ¬ m * o < 1000000) : prc t o f m = prc t o (f - 1) (m * t / 10) + 1 := by
  cases f with
  | zero => exact absurd hf (Nat.not_lt_zero _)
  | succ f => rw [prc, if_neg h]; rfl
theorem pr_less {t m : Nat} (ht : t ≤ 9) (hm : 0 < m) : m * t / 10 < m := by
  have h1 : m * t ≤ m * 9 := Nat.mul_le_mul_left m ht
  omega
theorem pr_pos {m o : Nat} (h : ¬ m * o < 1000000) : 0 < m := by
  rcases Nat.eq_zero_or_pos m with q | q
  · exact absurd (by rw [q, Nat.zero_mul]; omega) h
  · exact q
def S_pr (a b c : Int32) : Int32 := if g_in a 0 10 = 0 then -1 else if g_in b 0 9 = 0 then -1 else if g_in c 2 9999 = 0 then -1 else nI (prc b.toNatClampNeg c.toNatClampNeg (a.toNatClampNeg * 100000 + 1) (a.toNatClampNeg * 100000))
theorem g_in2 {v M : Int32} {m : Nat} (h : ¬ g_in v 2 M = 0) (hM : M.toInt = m) : ∃ j : Nat, j ≤ m ∧ v = nI j := by
  unfold g_in at h
  split at h
  · rename_i h1
    exact nI_of2 hM (Int32.not_lt.mpr (Int32.le_trans (by decide) h1.1)) h1.2
  · exact absurd rfl h
theorem S_pr_of {a b c : Int32} {s t o i : Nat} (h1 : ¬ g_in a 0 10 = 0) (h2 : ¬ g_in b 0 9 = 0) (h3 : ¬ g_in c 2 9999 = 0) (ha : a = nI s) (hs : s ≤ 10) (hb : b = nI t) (ht : t ≤ 9) (hc : c = nI o) (ho : o ≤ 9999) {x : Int32} (hx : x = nI i) (hT : i = prc t o (s * 100000 + 1) (s * 100000)) : x = S_pr a b c := by
  unfold S_pr
  rw [if_neg h1, if_neg h2, if_neg h3, ha, hb, hc, nI_clamp (by omega), nI_clamp (by omega), nI_clamp (by omega), ← hT, hx]
theorem lN_int {n : Nat} (h : n < 2 ^ 63) : (lN n).toInt = (n : Int) := Int64.toInt_ofNat_of_lt h
theorem lg_lt {a : Nat} (ha : a < 2 ^ 63) : lg_cmp (lN a) 1000000 < 0 ↔ a < 1000000 := by
  have h1 := lg_cmp_ge (lN a) 1000000
  rw [← Int32.not_le, h1, Int64.le_iff_toInt_le, lN_int ha, show (1000000 : Int64).toInt = 1000000 from by decide]
  omega
theorem pr_mo {m o : Nat} (hm : m ≤ 1000000) (ho : o ≤ 9999) : m * o < 2 ^ 63 := by
  have h1 : m * o ≤ 1000000 * 9999 := Nat.mul_le_mul hm ho
  omega
theorem pr_mt {m t : Nat} (hm : m ≤ 1000000) (ht : t ≤ 9) : m * t ≤ 9000000 := by
  have h1 : m * t ≤ 1000000 * 9 := Nat.mul_le_mul hm ht
  omega

theorem d_X10_practice_0 : g_dc cX10_practice 0 (.iload_n 1) 1 1 := ⟨by decide +kernel, rfl⟩
theorem d_X10_practice_1 : g_dc cX10_practice 1 (.iconst 0) 1 2 := ⟨by decide +kernel, rfl⟩
theorem d_X10_practice_2 : g_dc cX10_practice 2 (.bipush 10) 2 4 := ⟨by decide +kernel, rfl⟩
theorem d_X10_practice_4 : g_dc cX10_practice 4 (.invokestatic 82) 3 7 := ⟨by decide +kernel, rfl⟩
theorem d_X10_practice_7 : g_dc cX10_practice 7 (.ifCond .eq 24) 3 10 := ⟨by decide +kernel, rfl⟩
theorem d_X10_practice_10 : g_dc cX10_practice 10 (.iload_n 2) 1 11 := ⟨by decide +kernel, rfl⟩
theorem d_X10_practice_11 : g_dc cX10_practice 11 (.iconst 0) 1 12 := ⟨by decide +kernel, rfl⟩
theorem d_X10_practice_12 : g_dc cX10_practice 12 (.bipush 9) 2 14 := ⟨by decide +kernel, rfl⟩
theorem d_X10_practice_14 : g_dc cX10_practice 14 (.invokestatic 82) 3 17 := ⟨by decide +kernel, rfl⟩
theorem d_X10_practice_17 : g_dc cX10_practice 17 (.ifCond .eq 14) 3 20 := ⟨by decide +kernel, rfl⟩
theorem d_X10_practice_20 : g_dc cX10_practice 20 (.iload_n 3) 1 21 := ⟨by decide +kernel, rfl⟩
theorem d_X10_practice_21 : g_dc cX10_practice 21 (.iconst 2) 1 22 := ⟨by decide +kernel, rfl⟩
theorem d_X10_practice_22 : g_dc cX10_practice 22 (.sipush 9999) 3 25 := ⟨by decide +kernel, rfl⟩
theorem d_X10_practice_25 : g_dc cX10_practice 25 (.invokestatic 82) 3 28 := ⟨by decide +kernel, rfl⟩
theorem d_X10_practice_28 : g_dc cX10_practice 28 (.ifCond .ne 5) 3 31 := ⟨by decide +kernel, rfl⟩
theorem d_X10_practice_31 : g_dc cX10_practice 31 (.iconst (-1)) 1 32 := ⟨by decide +kernel, rfl⟩
theorem d_X10_practice_32 : g_dc cX10_practice 32 (.ireturn) 1 33 := ⟨by decide +kernel, rfl⟩
theorem d_X10_practice_33 : g_dc cX10_practice 33 (.iload_n 1) 1 34 := ⟨by decide +kernel, rfl⟩
theorem d_X10_practice_34 : g_dc cX10_practice 34 (.i2l) 1 35 := ⟨by decide +kernel, rfl⟩
theorem d_X10_practice_35 : g_dc cX10_practice 35 (.ldc2_w 256) 3 38 := ⟨by decide +kernel, rfl⟩
theorem d_X10_practice_38 : g_dc cX10_practice 38 (.lmul) 1 39 := ⟨by decide +kernel, rfl⟩
theorem d_X10_practice_39 : g_dc cX10_practice 39 (.lstore 4) 2 41 := ⟨by decide +kernel, rfl⟩
theorem d_X10_practice_41 : g_dc cX10_practice 41 (.iconst 0) 1 42 := ⟨by decide +kernel, rfl⟩
theorem d_X10_practice_42 : g_dc cX10_practice 42 (.istore 6) 2 44 := ⟨by decide +kernel, rfl⟩
theorem d_X10_practice_44 : g_dc cX10_practice 44 (.iload 6) 2 46 := ⟨by decide +kernel, rfl⟩
theorem d_X10_practice_46 : g_dc cX10_practice 46 (.ldc_w 258) 3 49 := ⟨by decide +kernel, rfl⟩
theorem d_X10_practice_49 : g_dc cX10_practice 49 (.if_icmp .ge 32) 3 52 := ⟨by decide +kernel, rfl⟩
theorem d_X10_practice_52 : g_dc cX10_practice 52 (.lload 4) 2 54 := ⟨by decide +kernel, rfl⟩
theorem d_X10_practice_54 : g_dc cX10_practice 54 (.iload_n 3) 1 55 := ⟨by decide +kernel, rfl⟩
theorem d_X10_practice_55 : g_dc cX10_practice 55 (.i2l) 1 56 := ⟨by decide +kernel, rfl⟩
theorem d_X10_practice_56 : g_dc cX10_practice 56 (.lmul) 1 57 := ⟨by decide +kernel, rfl⟩
theorem d_X10_practice_57 : g_dc cX10_practice 57 (.ldc2_w 259) 3 60 := ⟨by decide +kernel, rfl⟩
theorem d_X10_practice_60 : g_dc cX10_practice 60 (.lcmp) 1 61 := ⟨by decide +kernel, rfl⟩
theorem d_X10_practice_61 : g_dc cX10_practice 61 (.ifCond .lt 20) 3 64 := ⟨by decide +kernel, rfl⟩
theorem d_X10_practice_64 : g_dc cX10_practice 64 (.lload 4) 2 66 := ⟨by decide +kernel, rfl⟩
theorem d_X10_practice_66 : g_dc cX10_practice 66 (.iload_n 2) 1 67 := ⟨by decide +kernel, rfl⟩
theorem d_X10_practice_67 : g_dc cX10_practice 67 (.i2l) 1 68 := ⟨by decide +kernel, rfl⟩
theorem d_X10_practice_68 : g_dc cX10_practice 68 (.lmul) 1 69 := ⟨by decide +kernel, rfl⟩
theorem d_X10_practice_69 : g_dc cX10_practice 69 (.ldc2_w 261) 3 72 := ⟨by decide +kernel, rfl⟩
theorem d_X10_practice_72 : g_dc cX10_practice 72 (.ldiv) 1 73 := ⟨by decide +kernel, rfl⟩
theorem d_X10_practice_73 : g_dc cX10_practice 73 (.lstore 4) 2 75 := ⟨by decide +kernel, rfl⟩
theorem d_X10_practice_75 : g_dc cX10_practice 75 (.iinc 6 1) 3 78 := ⟨by decide +kernel, rfl⟩
theorem d_X10_practice_78 : g_dc cX10_practice 78 (.goto (-34)) 3 81 := ⟨by decide +kernel, rfl⟩
theorem d_X10_practice_81 : g_dc cX10_practice 81 (.iload 6) 2 83 := ⟨by decide +kernel, rfl⟩
theorem d_X10_practice_83 : g_dc cX10_practice 83 (.ireturn) 1 84 := ⟨by decide +kernel, rfl⟩
set_option maxHeartbeats 4000000 in
set_option maxRecDepth 100000 in
theorem c_X10_practice (l : Launch) (X : gX) (ad : Nat → Nat) (a b c : Int32) : g_Ci l X yX10_practice cX10_practice 7 (some .int) 3 0 0 [.ref (ad 0), .int a, .int b, .int c] (wX X ad fX0 r0) (fun r _ => r = S_pr a b c) := by
  refine g_mi (by decide +kernel) (Nat.le_of_ble_eq_true rfl) (fun E cx hret => ?_)
  refine g_iload_n cx 1 rfl d_X10_practice_0 ?_
  refine g_iconst cx 0 (by decide) d_X10_practice_1 ?_
  refine g_bipush cx 10 (by decide) d_X10_practice_2 ?_
  refine g_cSiW cx [.int a, .int 0, .int 10] [] (c_X10_within l X _ a 0 10) ml_X10_82 yS_X10_within rfl d_X10_practice_4 (by unfold g_rr; decide) (by decide) rfl (Nat.le_of_ble_eq_true rfl) (fun r1 w2 h3 => ?_)
  obtain ⟨rfl, rfl⟩ := h3
  refine g_if_eq cx 31 d_X10_practice_7 (by decide) (fun zc7 => ?_) (fun zc7 => ?_)
  · refine g_iconst cx (-1) (by decide) d_X10_practice_31 ?_
    exact hret d_X10_practice_32 (Nat.le_of_ble_eq_true rfl) (Nat.le_of_ble_eq_true rfl) rfl (by show _ = S_pr a b c; simp [S_pr, *])
  · refine g_iload_n cx 2 rfl d_X10_practice_10 ?_
    refine g_iconst cx 0 (by decide) d_X10_practice_11 ?_
    refine g_bipush cx 9 (by decide) d_X10_practice_12 ?_
    refine g_cSiW cx [.int b, .int 0, .int 9] [] (c_X10_within l X _ b 0 9) ml_X10_82 yS_X10_within rfl d_X10_practice_14 (by unfold g_rr; decide) (by decide) rfl (Nat.le_of_ble_eq_true rfl) (fun r4 w5 h6 => ?_)
    obtain ⟨rfl, rfl⟩ := h6
    refine g_if_eq cx 31 d_X10_practice_17 (by decide) (fun zc17 => ?_) (fun zc17 => ?_)
    · refine g_iconst cx (-1) (by decide) d_X10_practice_31 ?_
      exact hret d_X10_practice_32 (Nat.le_of_ble_eq_true rfl) (Nat.le_of_ble_eq_true rfl) rfl (by show _ = S_pr a b c; simp [S_pr, *])
    · refine g_iload_n cx 3 rfl d_X10_practice_20 ?_
      refine g_iconst cx 2 (by decide) d_X10_practice_21 ?_
      refine g_sipush cx 9999 (by decide) d_X10_practice_22 ?_
      refine g_cSiW cx [.int c, .int 2, .int 9999] [] (c_X10_within l X _ c 2 9999) ml_X10_82 yS_X10_within rfl d_X10_practice_25 (by unfold g_rr; decide) (by decide) rfl (Nat.le_of_ble_eq_true rfl) (fun r7 w8 h9 => ?_)
      obtain ⟨rfl, rfl⟩ := h9
      refine g_if_ne cx 33 d_X10_practice_28 (by decide) (fun zc28 => ?_) (fun zc28 => ?_)
      · obtain ⟨sa, hsa, hea⟩ := g_inj (m := 10) zc7 (by decide)
        obtain ⟨tb, htb, heb⟩ := g_inj (m := 9) zc17 (by decide)
        obtain ⟨oc, hoc, hec⟩ := g_in2 (m := 9999) zc28 (by decide)
        refine g_iload_n cx 1 rfl d_X10_practice_33 ?_
        refine g_i2l cx d_X10_practice_34 ?_
        refine g_ldc2 cx 100000 kc_X10_256 d_X10_practice_35 ?_
        refine g_lmul cx d_X10_practice_38 ?_
        refine g_lstore cx [(4, .long ((Int32.toInt64 a) * 100000)), (0, .ref (ad 0)), (1, .int a), (2, .int b), (3, .int c)] d_X10_practice_39 (by decide) rfl ?_
        refine g_iconst cx 0 (by decide) d_X10_practice_41 ?_
        refine g_istore cx [(6, .int 0), (4, .long ((Int32.toInt64 a) * 100000)), (0, .ref (ad 0)), (1, .int a), (2, .int b), (3, .int c)] d_X10_practice_42 (by decide) rfl ?_
        have L44 : ∀ (N : Nat) (i m f : Nat) (x6 : Int32) (x4 : Int64), m < N → (x6 = nI i) → (x4 = lN m) → (i + prc tb oc f m = prc tb oc (sa * 100000 + 1) (sa * 100000)) → (m < f) → (m + i ≤ 1000000) → G X E 7 0 0 (wX X ad fX0 r0) [(6, .int x6), (4, .long x4), (0, .ref (ad 0)), (1, .int a), (2, .int b), (3, .int c)] 44 [] := by
          intro N
          induction N with
          | zero => intro i m f x6 x4 hm; exact absurd hm (Nat.not_lt_zero _)
          | succ N ih44 =>
            intro i m f x6 x4 hm hx6 hx4 hi hf hm
            refine g_iload cx 0 rfl d_X10_practice_44 ?_
            refine g_ldcw cx 1000000 kc_X10_258 d_X10_practice_46 ?_
            refine g_icmp_ge cx 81 d_X10_practice_49 (by decide) (fun zc49 => ?_) (fun zc49 => ?_)
            · refine g_iload cx 0 rfl d_X10_practice_81 ?_
              exact hret d_X10_practice_83 (Nat.le_of_ble_eq_true rfl) (Nat.le_of_ble_eq_true rfl) rfl (S_pr_of zc7 zc17 zc28 hea hsa heb htb hec hoc hx6 (by first | (have h7 : m * oc < 1000000 := (by have h9 := zc61; rw [hx4, hec, nI_l (by omega), lN_mul] at h9; exact (lg_lt (pr_mo (by omega) hoc)).mp h9); rw [prc_end h7] at hi; exact hi) | (have h6 := g_le (c := 1000000) (by decide) (hx6 ▸ zc49) (by omega); have h5 : m = 0 := (by omega); rw [h5, prc_end (by rw [Nat.zero_mul]; omega)] at hi; exact hi)))
            · refine g_lload cx 1 rfl d_X10_practice_52 ?_
              refine g_iload_n cx 5 rfl d_X10_practice_54 ?_
              refine g_i2l cx d_X10_practice_55 ?_
              refine g_lmul cx d_X10_practice_56 ?_
              refine g_ldc2 cx 1000000 kc_X10_259 d_X10_practice_57 ?_
              refine g_lcmp cx d_X10_practice_60 ?_
              refine g_if_lt cx 81 d_X10_practice_61 (by decide) (fun zc61 => ?_) (fun zc61 => ?_)
              · refine g_iload cx 0 rfl d_X10_practice_81 ?_
                exact hret d_X10_practice_83 (Nat.le_of_ble_eq_true rfl) (Nat.le_of_ble_eq_true rfl) rfl (S_pr_of zc7 zc17 zc28 hea hsa heb htb hec hoc hx6 (by first | (have h7 : m * oc < 1000000 := (by have h9 := zc61; rw [hx4, hec, nI_l (by omega), lN_mul] at h9; exact (lg_lt (pr_mo (by omega) hoc)).mp h9); rw [prc_end h7] at hi; exact hi) | (have h6 := g_le (c := 1000000) (by decide) (hx6 ▸ zc49) (by omega); have h5 : m = 0 := (by omega); rw [h5, prc_end (by rw [Nat.zero_mul]; omega)] at hi; exact hi)))
              · refine g_lload cx 1 rfl d_X10_practice_64 ?_
                refine g_iload_n cx 4 rfl d_X10_practice_66 ?_
                refine g_i2l cx d_X10_practice_67 ?_
                refine g_lmul cx d_X10_practice_68 ?_
                refine g_ldc2 cx 10 kc_X10_261 d_X10_practice_69 ?_
                refine g_ldiv cx (by decide) d_X10_practice_72 ?_
                refine g_lstore cx [(4, .long ((x4 * (Int32.toInt64 b)) / 10)), (6, .int x6), (0, .ref (ad 0)), (1, .int a), (2, .int b), (3, .int c)] d_X10_practice_73 (by decide) rfl ?_
                refine g_iinc cx (x6 + 1) [(6, .int (x6 + 1)), (4, .long ((x4 * (Int32.toInt64 b)) / 10)), (0, .ref (ad 0)), (1, .int a), (2, .int b), (3, .int c)] 1 d_X10_practice_75 rfl (rfl) (by decide) rfl ?_
                refine g_goto cx 44 d_X10_practice_78 (by decide) ?_
                exact ih44 (i + 1) (m * tb / 10) (f - 1) (x6 + 1) ((x4 * (Int32.toInt64 b)) / 10) (by have h8 := (by have h9 := zc61; rw [hx4, hec, nI_l (by omega), lN_mul] at h9; exact fun q => h9 ((lg_lt (pr_mo (by omega) hoc)).mpr q)); have := pr_less htb (pr_pos h8); omega) (by rw [hx6]; exact nI_1 i) (by rw [hx4, heb, nI_l (by omega), lN_mul]; exact pk_lDiv (b := 10) (by have := pr_mt (m := m) (by omega) htb; omega) (by omega) (by omega)) (by have h8 := (by have h9 := zc61; rw [hx4, hec, nI_l (by omega), lN_mul] at h9; exact fun q => h9 ((lg_lt (pr_mo (by omega) hoc)).mpr q)); rw [← hi, prc_step hf h8]; omega) (by have h8 := (by have h9 := zc61; rw [hx4, hec, nI_l (by omega), lN_mul] at h9; exact fun q => h9 ((lg_lt (pr_mo (by omega) hoc)).mpr q)); have := pr_less htb (pr_pos h8); omega) (by have h8 := (by have h9 := zc61; rw [hx4, hec, nI_l (by omega), lN_mul] at h9; exact fun q => h9 ((lg_lt (pr_mo (by omega) hoc)).mpr q)); have := pr_less htb (pr_pos h8); omega)
        exact L44 _ 0 (sa * 100000) (sa * 100000 + 1) 0 ((Int32.toInt64 a) * 100000) (Nat.lt_succ_self _) rfl (by rw [hea, nI_l (by omega)]; exact lN_mul sa 100000) (by omega) (by omega) (by omega)
      · refine g_iconst cx (-1) (by decide) d_X10_practice_31 ?_
        exact hret d_X10_practice_32 (Nat.le_of_ble_eq_true rfl) (Nat.le_of_ble_eq_true rfl) rfl (by show _ = S_pr a b c; simp [S_pr, *])
theorem d_X11_practice_0 : g_dc cX11_practice 0 (.iload_n 1) 1 1 := ⟨by decide +kernel, rfl⟩
theorem d_X11_practice_1 : g_dc cX11_practice 1 (.iconst 0) 1 2 := ⟨by decide +kernel, rfl⟩
theorem d_X11_practice_2 : g_dc cX11_practice 2 (.bipush 10) 2 4 := ⟨by decide +kernel, rfl⟩
theorem d_X11_practice_4 : g_dc cX11_practice 4 (.invokestatic 165) 3 7 := ⟨by decide +kernel, rfl⟩
theorem d_X11_practice_7 : g_dc cX11_practice 7 (.ifCond .eq 24) 3 10 := ⟨by decide +kernel, rfl⟩
theorem d_X11_practice_10 : g_dc cX11_practice 10 (.iload_n 2) 1 11 := ⟨by decide +kernel, rfl⟩
theorem d_X11_practice_11 : g_dc cX11_practice 11 (.iconst 0) 1 12 := ⟨by decide +kernel, rfl⟩
theorem d_X11_practice_12 : g_dc cX11_practice 12 (.bipush 9) 2 14 := ⟨by decide +kernel, rfl⟩
theorem d_X11_practice_14 : g_dc cX11_practice 14 (.invokestatic 165) 3 17 := ⟨by decide +kernel, rfl⟩
theorem d_X11_practice_17 : g_dc cX11_practice 17 (.ifCond .eq 14) 3 20 := ⟨by decide +kernel, rfl⟩
theorem d_X11_practice_20 : g_dc cX11_practice 20 (.iload_n 3) 1 21 := ⟨by decide +kernel, rfl⟩
theorem d_X11_practice_21 : g_dc cX11_practice 21 (.iconst 2) 1 22 := ⟨by decide +kernel, rfl⟩
theorem d_X11_practice_22 : g_dc cX11_practice 22 (.sipush 9999) 3 25 := ⟨by decide +kernel, rfl⟩
theorem d_X11_practice_25 : g_dc cX11_practice 25 (.invokestatic 165) 3 28 := ⟨by decide +kernel, rfl⟩
theorem d_X11_practice_28 : g_dc cX11_practice 28 (.ifCond .ne 5) 3 31 := ⟨by decide +kernel, rfl⟩
theorem d_X11_practice_31 : g_dc cX11_practice 31 (.iconst (-1)) 1 32 := ⟨by decide +kernel, rfl⟩
theorem d_X11_practice_32 : g_dc cX11_practice 32 (.ireturn) 1 33 := ⟨by decide +kernel, rfl⟩
theorem d_X11_practice_33 : g_dc cX11_practice 33 (.iload_n 1) 1 34 := ⟨by decide +kernel, rfl⟩
theorem d_X11_practice_34 : g_dc cX11_practice 34 (.ldc_w 487) 3 37 := ⟨by decide +kernel, rfl⟩
theorem d_X11_practice_37 : g_dc cX11_practice 37 (.imul) 1 38 := ⟨by decide +kernel, rfl⟩
theorem d_X11_practice_38 : g_dc cX11_practice 38 (.istore 4) 2 40 := ⟨by decide +kernel, rfl⟩
theorem d_X11_practice_40 : g_dc cX11_practice 40 (.iconst 0) 1 41 := ⟨by decide +kernel, rfl⟩
theorem d_X11_practice_41 : g_dc cX11_practice 41 (.istore 5) 2 43 := ⟨by decide +kernel, rfl⟩
theorem d_X11_practice_43 : g_dc cX11_practice 43 (.iload 4) 2 45 := ⟨by decide +kernel, rfl⟩
theorem d_X11_practice_45 : g_dc cX11_practice 45 (.i2l) 1 46 := ⟨by decide +kernel, rfl⟩
theorem d_X11_practice_46 : g_dc cX11_practice 46 (.iload_n 3) 1 47 := ⟨by decide +kernel, rfl⟩
theorem d_X11_practice_47 : g_dc cX11_practice 47 (.i2l) 1 48 := ⟨by decide +kernel, rfl⟩
theorem d_X11_practice_48 : g_dc cX11_practice 48 (.lmul) 1 49 := ⟨by decide +kernel, rfl⟩
theorem d_X11_practice_49 : g_dc cX11_practice 49 (.ldc2_w 488) 3 52 := ⟨by decide +kernel, rfl⟩
theorem d_X11_practice_52 : g_dc cX11_practice 52 (.lcmp) 1 53 := ⟨by decide +kernel, rfl⟩
theorem d_X11_practice_53 : g_dc cX11_practice 53 (.ifCond .lt 21) 3 56 := ⟨by decide +kernel, rfl⟩
theorem d_X11_practice_56 : g_dc cX11_practice 56 (.iload 4) 2 58 := ⟨by decide +kernel, rfl⟩
theorem d_X11_practice_58 : g_dc cX11_practice 58 (.iload_n 2) 1 59 := ⟨by decide +kernel, rfl⟩
theorem d_X11_practice_59 : g_dc cX11_practice 59 (.imul) 1 60 := ⟨by decide +kernel, rfl⟩
theorem d_X11_practice_60 : g_dc cX11_practice 60 (.bipush 10) 2 62 := ⟨by decide +kernel, rfl⟩
theorem d_X11_practice_62 : g_dc cX11_practice 62 (.idiv) 1 63 := ⟨by decide +kernel, rfl⟩
theorem d_X11_practice_63 : g_dc cX11_practice 63 (.istore 4) 2 65 := ⟨by decide +kernel, rfl⟩
theorem d_X11_practice_65 : g_dc cX11_practice 65 (.iload 5) 2 67 := ⟨by decide +kernel, rfl⟩
theorem d_X11_practice_67 : g_dc cX11_practice 67 (.iconst 1) 1 68 := ⟨by decide +kernel, rfl⟩
theorem d_X11_practice_68 : g_dc cX11_practice 68 (.iadd) 1 69 := ⟨by decide +kernel, rfl⟩
theorem d_X11_practice_69 : g_dc cX11_practice 69 (.istore 5) 2 71 := ⟨by decide +kernel, rfl⟩
theorem d_X11_practice_71 : g_dc cX11_practice 71 (.goto (-28)) 3 74 := ⟨by decide +kernel, rfl⟩
theorem d_X11_practice_74 : g_dc cX11_practice 74 (.iload 5) 2 76 := ⟨by decide +kernel, rfl⟩
theorem d_X11_practice_76 : g_dc cX11_practice 76 (.ireturn) 1 77 := ⟨by decide +kernel, rfl⟩
set_option maxHeartbeats 4000000 in
set_option maxRecDepth 100000 in
theorem c_X11_practice (l : Launch) (X : gX) (ad : Nat → Nat) (a b c : Int32) : g_Ci l X yX11_practice cX11_practice 6 (some .int) 3 0 0 [.ref (ad 0), .int a, .int b, .int c] (wM X ad fM0 r0) (fun r _ => r = S_pr a b c) := by
  refine g_mi (by decide +kernel) (Nat.le_of_ble_eq_true rfl) (fun E cx hret => ?_)
  refine g_iload_n cx 1 rfl d_X11_practice_0 ?_
  refine g_iconst cx 0 (by decide) d_X11_practice_1 ?_
  refine g_bipush cx 10 (by decide) d_X11_practice_2 ?_
  refine g_cSiW cx [.int a, .int 0, .int 10] [] (c_X11_in l X _ a 0 10) ml_X11_165 yS_X11_in rfl d_X11_practice_4 (by unfold g_rr; decide) (by decide) rfl (Nat.le_of_ble_eq_true rfl) (fun r1 w2 h3 => ?_)
  obtain ⟨rfl, rfl⟩ := h3
  refine g_if_eq cx 31 d_X11_practice_7 (by decide) (fun zc7 => ?_) (fun zc7 => ?_)
  · refine g_iconst cx (-1) (by decide) d_X11_practice_31 ?_
    exact hret d_X11_practice_32 (Nat.le_of_ble_eq_true rfl) (Nat.le_of_ble_eq_true rfl) rfl (by show _ = S_pr a b c; simp [S_pr, *])
  · refine g_iload_n cx 2 rfl d_X11_practice_10 ?_
    refine g_iconst cx 0 (by decide) d_X11_practice_11 ?_
    refine g_bipush cx 9 (by decide) d_X11_practice_12 ?_
    refine g_cSiW cx [.int b, .int 0, .int 9] [] (c_X11_in l X _ b 0 9) ml_X11_165 yS_X11_in rfl d_X11_practice_14 (by unfold g_rr; decide) (by decide) rfl (Nat.le_of_ble_eq_true rfl) (fun r4 w5 h6 => ?_)
    obtain ⟨rfl, rfl⟩ := h6
    refine g_if_eq cx 31 d_X11_practice_17 (by decide) (fun zc17 => ?_) (fun zc17 => ?_)
    · refine g_iconst cx (-1) (by decide) d_X11_practice_31 ?_
      exact hret d_X11_practice_32 (Nat.le_of_ble_eq_true rfl) (Nat.le_of_ble_eq_true rfl) rfl (by show _ = S_pr a b c; simp [S_pr, *])
    · refine g_iload_n cx 3 rfl d_X11_practice_20 ?_
      refine g_iconst cx 2 (by decide) d_X11_practice_21 ?_
      refine g_sipush cx 9999 (by decide) d_X11_practice_22 ?_
      refine g_cSiW cx [.int c, .int 2, .int 9999] [] (c_X11_in l X _ c 2 9999) ml_X11_165 yS_X11_in rfl d_X11_practice_25 (by unfold g_rr; decide) (by decide) rfl (Nat.le_of_ble_eq_true rfl) (fun r7 w8 h9 => ?_)
      obtain ⟨rfl, rfl⟩ := h9
      refine g_if_ne cx 33 d_X11_practice_28 (by decide) (fun zc28 => ?_) (fun zc28 => ?_)
      · obtain ⟨sa, hsa, hea⟩ := g_inj (m := 10) zc7 (by decide)
        obtain ⟨tb, htb, heb⟩ := g_inj (m := 9) zc17 (by decide)
        obtain ⟨oc, hoc, hec⟩ := g_in2 (m := 9999) zc28 (by decide)
        refine g_iload_n cx 1 rfl d_X11_practice_33 ?_
        refine g_ldcw cx 100000 kc_X11_487 d_X11_practice_34 ?_
        refine g_imul cx d_X11_practice_37 ?_
        refine g_istore cx [(4, .int (a * 100000)), (0, .ref (ad 0)), (1, .int a), (2, .int b), (3, .int c)] d_X11_practice_38 (by decide) rfl ?_
        refine g_iconst cx 0 (by decide) d_X11_practice_40 ?_
        refine g_istore cx [(5, .int 0), (4, .int (a * 100000)), (0, .ref (ad 0)), (1, .int a), (2, .int b), (3, .int c)] d_X11_practice_41 (by decide) rfl ?_
        have L43 : ∀ (N : Nat) (i m f : Nat) (x6 x4 : Int32), m < N → (x6 = nI i) → (x4 = nI m) → (i + prc tb oc f m = prc tb oc (sa * 100000 + 1) (sa * 100000)) → (m < f) → (m + i ≤ 1000000) → G X E 6 0 0 (wM X ad fM0 r0) [(5, .int x6), (4, .int x4), (0, .ref (ad 0)), (1, .int a), (2, .int b), (3, .int c)] 43 [] := by
          intro N
          induction N with
          | zero => intro i m f x6 x4 hm; exact absurd hm (Nat.not_lt_zero _)
          | succ N ih43 =>
            intro i m f x6 x4 hm hx6 hx4 hi hf hm
            refine g_iload cx 1 rfl d_X11_practice_43 ?_
            refine g_i2l cx d_X11_practice_45 ?_
            refine g_iload_n cx 5 rfl d_X11_practice_46 ?_
            refine g_i2l cx d_X11_practice_47 ?_
            refine g_lmul cx d_X11_practice_48 ?_
            refine g_ldc2 cx 1000000 kc_X11_488 d_X11_practice_49 ?_
            refine g_lcmp cx d_X11_practice_52 ?_
            refine g_if_lt cx 74 d_X11_practice_53 (by decide) (fun zc53 => ?_) (fun zc53 => ?_)
            · refine g_iload cx 0 rfl d_X11_practice_74 ?_
              exact hret d_X11_practice_76 (Nat.le_of_ble_eq_true rfl) (Nat.le_of_ble_eq_true rfl) rfl (S_pr_of zc7 zc17 zc28 hea hsa heb htb hec hoc hx6 (by have h7 : m * oc < 1000000 := (by have h9 := zc53; rw [hx4, hec, nI_l (by omega), nI_l (by omega), lN_mul] at h9; exact (lg_lt (pr_mo (by omega) hoc)).mp h9); rw [prc_end h7] at hi; exact hi))
            · refine g_iload cx 1 rfl d_X11_practice_56 ?_
              refine g_iload_n cx 4 rfl d_X11_practice_58 ?_
              refine g_imul cx d_X11_practice_59 ?_
              refine g_bipush cx 10 (by decide) d_X11_practice_60 ?_
              refine g_idiv cx (by decide) d_X11_practice_62 ?_
              refine g_istore cx [(4, .int ((x4 * b) / 10)), (5, .int x6), (0, .ref (ad 0)), (1, .int a), (2, .int b), (3, .int c)] d_X11_practice_63 (by decide) rfl ?_
              refine g_iload cx 1 rfl d_X11_practice_65 ?_
              refine g_iconst cx 1 (by decide) d_X11_practice_67 ?_
              refine g_iadd cx d_X11_practice_68 ?_
              refine g_istore cx [(5, .int (x6 + 1)), (4, .int ((x4 * b) / 10)), (0, .ref (ad 0)), (1, .int a), (2, .int b), (3, .int c)] d_X11_practice_69 (by decide) rfl ?_
              refine g_goto cx 43 d_X11_practice_71 (by decide) ?_
              exact ih43 (i + 1) (m * tb / 10) (f - 1) (x6 + 1) ((x4 * b) / 10) (by have h8 := (by have h9 := zc53; rw [hx4, hec, nI_l (by omega), nI_l (by omega), lN_mul] at h9; exact fun q => h9 ((lg_lt (pr_mo (by omega) hoc)).mpr q)); have := pr_less htb (pr_pos h8); omega) (by rw [hx6]; exact nI_1 i) (by rw [hx4, heb, pk_mul]; exact pk_div (d := 10) (by have := pr_mt (m := m) (by omega) htb; omega) (by omega) (by omega)) (by have h8 := (by have h9 := zc53; rw [hx4, hec, nI_l (by omega), nI_l (by omega), lN_mul] at h9; exact fun q => h9 ((lg_lt (pr_mo (by omega) hoc)).mpr q)); rw [← hi, prc_step hf h8]; omega) (by have h8 := (by have h9 := zc53; rw [hx4, hec, nI_l (by omega), nI_l (by omega), lN_mul] at h9; exact fun q => h9 ((lg_lt (pr_mo (by omega) hoc)).mpr q)); have := pr_less htb (pr_pos h8); omega) (by have h8 := (by have h9 := zc53; rw [hx4, hec, nI_l (by omega), nI_l (by omega), lN_mul] at h9; exact fun q => h9 ((lg_lt (pr_mo (by omega) hoc)).mpr q)); have := pr_less htb (pr_pos h8); omega)
        exact L43 _ 0 (sa * 100000) (sa * 100000 + 1) 0 (a * 100000) (Nat.lt_succ_self _) rfl (by rw [hea]; exact pk_mul sa 100000) (by omega) (by omega) (by omega)
      · refine g_iconst cx (-1) (by decide) d_X11_practice_31 ?_
        exact hret d_X11_practice_32 (Nat.le_of_ble_eq_true rfl) (Nat.le_of_ble_eq_true rfl) rfl (by show _ = S_pr a b c; simp [S_pr, *])
end
section
def g_mh (s k : Int32) : Int32 := if (s >>> (k &&& 31)) &&& 1 = 1 then 1 else 0
theorem g_mh0 (k : Int32) : g_mh 0 k = 0 := by
  unfold g_mh
  rw [Int32.zero_shiftRight, Int32.zero_and]
  rfl
def g_mx (a b : Int32) : Int32 := if a ≤ b then b else a
def P_mt (F F' : Nat → Int32) : Prop := (∀ k, k < 45 ∨ 48 < k ∧ k < 66 ∨ k = 67 ∨ 69 < k → F' k = F k) ∧ F' 45 = F 45 + 1
def P_mr (F F' : Nat → Int32) : Prop := (∀ k, k < 45 ∨ 48 < k ∧ k < 65 ∨ 69 < k → F' k = F k) ∧ (F 44 = 0 → F' 45 = 0 ∧ F' 48 = F 1 ∧ F' 65 = 0 ∧ F' 66 = 0 ∧ F' 67 = 0)
def B_om (F : Nat → Int32) : Prop := F 70 = 0 ∧ F 71 = 0 ∧ F 72 = 0

theorem g_lt_of2 {x y : Int32} {t k : Nat} (hx : x = nI t) (hy : y = nI k) (ht : t < 2 ^ 31) (hk : k < 2 ^ 31) (h : ¬ y ≤ x) : t < k := by
  rw [hx, hy] at h
  exact g_nle ht h
theorem d_X11_has_0 : g_dc cX11_has 0 (.iload_n 0) 1 1 := ⟨by decide +kernel, rfl⟩
theorem d_X11_has_1 : g_dc cX11_has 1 (.iload_n 1) 1 2 := ⟨by decide +kernel, rfl⟩
theorem d_X11_has_2 : g_dc cX11_has 2 (.ishr) 1 3 := ⟨by decide +kernel, rfl⟩
theorem d_X11_has_3 : g_dc cX11_has 3 (.iconst 1) 1 4 := ⟨by decide +kernel, rfl⟩
theorem d_X11_has_4 : g_dc cX11_has 4 (.iand) 1 5 := ⟨by decide +kernel, rfl⟩
theorem d_X11_has_5 : g_dc cX11_has 5 (.iconst 1) 1 6 := ⟨by decide +kernel, rfl⟩
theorem d_X11_has_6 : g_dc cX11_has 6 (.if_icmp .ne 7) 3 9 := ⟨by decide +kernel, rfl⟩
theorem d_X11_has_9 : g_dc cX11_has 9 (.iconst 1) 1 10 := ⟨by decide +kernel, rfl⟩
theorem d_X11_has_10 : g_dc cX11_has 10 (.goto 4) 3 13 := ⟨by decide +kernel, rfl⟩
theorem d_X11_has_13 : g_dc cX11_has 13 (.iconst 0) 1 14 := ⟨by decide +kernel, rfl⟩
theorem d_X11_has_14 : g_dc cX11_has 14 (.ireturn) 1 15 := ⟨by decide +kernel, rfl⟩
set_option maxHeartbeats 4000000 in
set_option maxRecDepth 100000 in
theorem c_X11_has (l : Launch) (X : gX) (ws : va_W) (s k : Int32) : g_Ci l X yX11_has cX11_has 2 (some .boolean) 1 0 0 [.int s, .int k] ws (fun r w => w = ws ∧ r = g_mh s k) := by
  refine g_mi (by decide +kernel) (Nat.le_of_ble_eq_true rfl) (fun E cx hret => ?_)
  refine g_iload_n cx 0 rfl d_X11_has_0 ?_
  refine g_iload_n cx 1 rfl d_X11_has_1 ?_
  refine g_ishr cx d_X11_has_2 ?_
  refine g_iconst cx 1 (by decide) d_X11_has_3 ?_
  refine g_iand cx d_X11_has_4 ?_
  refine g_iconst cx 1 (by decide) d_X11_has_5 ?_
  refine g_icmp_ne cx 13 d_X11_has_6 (by decide) (fun zc6 => ?_) (fun zc6 => ?_)
  · refine g_iconst cx 0 (by decide) d_X11_has_13 ?_
    exact hret d_X11_has_14 (Nat.le_of_ble_eq_true rfl) (Nat.le_of_ble_eq_true rfl) rfl (⟨rfl, by simp [g_mh, *]⟩)
  · refine g_iconst cx 1 (by decide) d_X11_has_9 ?_
    refine g_goto cx 14 d_X11_has_10 (by decide) ?_
    exact hret d_X11_has_14 (Nat.le_of_ble_eq_true rfl) (Nat.le_of_ble_eq_true rfl) rfl (⟨rfl, by simp [g_mh, *]⟩)
theorem d_X11_max_0 : g_dc cX11_max 0 (.iload_n 0) 1 1 := ⟨by decide +kernel, rfl⟩
theorem d_X11_max_1 : g_dc cX11_max 1 (.iload_n 1) 1 2 := ⟨by decide +kernel, rfl⟩
theorem d_X11_max_2 : g_dc cX11_max 2 (.if_icmp .le 7) 3 5 := ⟨by decide +kernel, rfl⟩
theorem d_X11_max_5 : g_dc cX11_max 5 (.iload_n 0) 1 6 := ⟨by decide +kernel, rfl⟩
theorem d_X11_max_6 : g_dc cX11_max 6 (.goto 4) 3 9 := ⟨by decide +kernel, rfl⟩
theorem d_X11_max_9 : g_dc cX11_max 9 (.iload_n 1) 1 10 := ⟨by decide +kernel, rfl⟩
theorem d_X11_max_10 : g_dc cX11_max 10 (.ireturn) 1 11 := ⟨by decide +kernel, rfl⟩
set_option maxHeartbeats 4000000 in
set_option maxRecDepth 100000 in
theorem c_X11_max (l : Launch) (X : gX) (ws : va_W) (a b : Int32) : g_Ci l X yX11_max cX11_max 2 (some .int) 1 0 0 [.int a, .int b] ws (fun r w => w = ws ∧ r = g_mx a b) := by
  refine g_mi (by decide +kernel) (Nat.le_of_ble_eq_true rfl) (fun E cx hret => ?_)
  refine g_iload_n cx 0 rfl d_X11_max_0 ?_
  refine g_iload_n cx 1 rfl d_X11_max_1 ?_
  refine g_icmp_le cx 9 d_X11_max_2 (by decide) (fun zc2 => ?_) (fun zc2 => ?_)
  · refine g_iload_n cx 1 rfl d_X11_max_9 ?_
    exact hret d_X11_max_10 (Nat.le_of_ble_eq_true rfl) (Nat.le_of_ble_eq_true rfl) rfl (⟨rfl, by simp [g_mx, *]⟩)
  · refine g_iload_n cx 0 rfl d_X11_max_5 ?_
    refine g_goto cx 10 d_X11_max_6 (by decide) ?_
    exact hret d_X11_max_10 (Nat.le_of_ble_eq_true rfl) (Nat.le_of_ble_eq_true rfl) rfl (⟨rfl, by simp [g_mx, *]⟩)
theorem d_X11_bits_0 : g_dc cX11_bits 0 (.iconst 0) 1 1 := ⟨by decide +kernel, rfl⟩
theorem d_X11_bits_1 : g_dc cX11_bits 1 (.istore_n 1) 1 2 := ⟨by decide +kernel, rfl⟩
theorem d_X11_bits_2 : g_dc cX11_bits 2 (.iconst 0) 1 3 := ⟨by decide +kernel, rfl⟩
theorem d_X11_bits_3 : g_dc cX11_bits 3 (.istore_n 2) 1 4 := ⟨by decide +kernel, rfl⟩
theorem d_X11_bits_4 : g_dc cX11_bits 4 (.iload_n 2) 1 5 := ⟨by decide +kernel, rfl⟩
theorem d_X11_bits_5 : g_dc cX11_bits 5 (.bipush 10) 2 7 := ⟨by decide +kernel, rfl⟩
theorem d_X11_bits_7 : g_dc cX11_bits 7 (.if_icmp .ge 17) 3 10 := ⟨by decide +kernel, rfl⟩
theorem d_X11_bits_10 : g_dc cX11_bits 10 (.iload_n 1) 1 11 := ⟨by decide +kernel, rfl⟩
theorem d_X11_bits_11 : g_dc cX11_bits 11 (.iload_n 0) 1 12 := ⟨by decide +kernel, rfl⟩
theorem d_X11_bits_12 : g_dc cX11_bits 12 (.iload_n 2) 1 13 := ⟨by decide +kernel, rfl⟩
theorem d_X11_bits_13 : g_dc cX11_bits 13 (.ishr) 1 14 := ⟨by decide +kernel, rfl⟩
theorem d_X11_bits_14 : g_dc cX11_bits 14 (.iconst 1) 1 15 := ⟨by decide +kernel, rfl⟩
theorem d_X11_bits_15 : g_dc cX11_bits 15 (.iand) 1 16 := ⟨by decide +kernel, rfl⟩
theorem d_X11_bits_16 : g_dc cX11_bits 16 (.iadd) 1 17 := ⟨by decide +kernel, rfl⟩
theorem d_X11_bits_17 : g_dc cX11_bits 17 (.istore_n 1) 1 18 := ⟨by decide +kernel, rfl⟩
theorem d_X11_bits_18 : g_dc cX11_bits 18 (.iinc 2 1) 3 21 := ⟨by decide +kernel, rfl⟩
theorem d_X11_bits_21 : g_dc cX11_bits 21 (.goto (-17)) 3 24 := ⟨by decide +kernel, rfl⟩
theorem d_X11_bits_24 : g_dc cX11_bits 24 (.iload_n 1) 1 25 := ⟨by decide +kernel, rfl⟩
theorem d_X11_bits_25 : g_dc cX11_bits 25 (.ireturn) 1 26 := ⟨by decide +kernel, rfl⟩
set_option maxHeartbeats 4000000 in
set_option maxRecDepth 100000 in
theorem c0_X11_bits (l : Launch) (X : gX) (ws : va_W) : g_Ci l X yX11_bits cX11_bits 3 (some .int) 1 0 0 [.int 0] ws (fun r w => w = ws ∧ r = 0) := by
  refine g_mi (by decide +kernel) (Nat.le_of_ble_eq_true rfl) (fun E cx hret => ?_)
  refine g_iconst cx 0 (by decide) d_X11_bits_0 ?_
  refine g_istore_n cx [(1, .int 0), (0, .int 0)] d_X11_bits_1 (by decide) rfl ?_
  refine g_iconst cx 0 (by decide) d_X11_bits_2 ?_
  refine g_istore_n cx [(2, .int 0), (1, .int 0), (0, .int 0)] d_X11_bits_3 (by decide) rfl ?_
  refine g_iload_n cx 0 rfl d_X11_bits_4 ?_
  refine g_bipush cx 10 (by decide) d_X11_bits_5 ?_
  refine g_icmp_ge_f cx 24 d_X11_bits_7 (by decide) (by decide) ?_
  refine g_iload_n cx 1 rfl d_X11_bits_10 ?_
  refine g_iload_n cx 2 rfl d_X11_bits_11 ?_
  refine g_iload_n cx 0 rfl d_X11_bits_12 ?_
  refine g_ishr cx d_X11_bits_13 ?_
  refine g_toi 0 (by decide) ?_
  refine g_iconst cx 1 (by decide) d_X11_bits_14 ?_
  refine g_iand cx d_X11_bits_15 ?_
  refine g_toi 0 (by decide) ?_
  refine g_iadd cx d_X11_bits_16 ?_
  refine g_toi 0 (by decide) ?_
  refine g_istore_n cx [(1, .int 0), (2, .int 0), (0, .int 0)] d_X11_bits_17 (by decide) rfl ?_
  refine g_iinc cx 1 [(2, .int 1), (1, .int 0), (0, .int 0)] 1 d_X11_bits_18 rfl (by decide) (by decide) rfl ?_
  refine g_goto cx 4 d_X11_bits_21 (by decide) ?_
  refine g_iload_n cx 0 rfl d_X11_bits_4 ?_
  refine g_bipush cx 10 (by decide) d_X11_bits_5 ?_
  refine g_icmp_ge_f cx 24 d_X11_bits_7 (by decide) (by decide) ?_
  refine g_iload_n cx 1 rfl d_X11_bits_10 ?_
  refine g_iload_n cx 2 rfl d_X11_bits_11 ?_
  refine g_iload_n cx 0 rfl d_X11_bits_12 ?_
  refine g_ishr cx d_X11_bits_13 ?_
  refine g_toi 0 (by decide) ?_
  refine g_iconst cx 1 (by decide) d_X11_bits_14 ?_
  refine g_iand cx d_X11_bits_15 ?_
  refine g_toi 0 (by decide) ?_
  refine g_iadd cx d_X11_bits_16 ?_
  refine g_toi 0 (by decide) ?_
  refine g_istore_n cx [(1, .int 0), (2, .int 1), (0, .int 0)] d_X11_bits_17 (by decide) rfl ?_
  refine g_iinc cx 2 [(2, .int 2), (1, .int 0), (0, .int 0)] 1 d_X11_bits_18 rfl (by decide) (by decide) rfl ?_
  refine g_goto cx 4 d_X11_bits_21 (by decide) ?_
  refine g_iload_n cx 0 rfl d_X11_bits_4 ?_
  refine g_bipush cx 10 (by decide) d_X11_bits_5 ?_
  refine g_icmp_ge_f cx 24 d_X11_bits_7 (by decide) (by decide) ?_
  refine g_iload_n cx 1 rfl d_X11_bits_10 ?_
  refine g_iload_n cx 2 rfl d_X11_bits_11 ?_
  refine g_iload_n cx 0 rfl d_X11_bits_12 ?_
  refine g_ishr cx d_X11_bits_13 ?_
  refine g_toi 0 (by decide) ?_
  refine g_iconst cx 1 (by decide) d_X11_bits_14 ?_
  refine g_iand cx d_X11_bits_15 ?_
  refine g_toi 0 (by decide) ?_
  refine g_iadd cx d_X11_bits_16 ?_
  refine g_toi 0 (by decide) ?_
  refine g_istore_n cx [(1, .int 0), (2, .int 2), (0, .int 0)] d_X11_bits_17 (by decide) rfl ?_
  refine g_iinc cx 3 [(2, .int 3), (1, .int 0), (0, .int 0)] 1 d_X11_bits_18 rfl (by decide) (by decide) rfl ?_
  refine g_goto cx 4 d_X11_bits_21 (by decide) ?_
  refine g_iload_n cx 0 rfl d_X11_bits_4 ?_
  refine g_bipush cx 10 (by decide) d_X11_bits_5 ?_
  refine g_icmp_ge_f cx 24 d_X11_bits_7 (by decide) (by decide) ?_
  refine g_iload_n cx 1 rfl d_X11_bits_10 ?_
  refine g_iload_n cx 2 rfl d_X11_bits_11 ?_
  refine g_iload_n cx 0 rfl d_X11_bits_12 ?_
  refine g_ishr cx d_X11_bits_13 ?_
  refine g_toi 0 (by decide) ?_
  refine g_iconst cx 1 (by decide) d_X11_bits_14 ?_
  refine g_iand cx d_X11_bits_15 ?_
  refine g_toi 0 (by decide) ?_
  refine g_iadd cx d_X11_bits_16 ?_
  refine g_toi 0 (by decide) ?_
  refine g_istore_n cx [(1, .int 0), (2, .int 3), (0, .int 0)] d_X11_bits_17 (by decide) rfl ?_
  refine g_iinc cx 4 [(2, .int 4), (1, .int 0), (0, .int 0)] 1 d_X11_bits_18 rfl (by decide) (by decide) rfl ?_
  refine g_goto cx 4 d_X11_bits_21 (by decide) ?_
  refine g_iload_n cx 0 rfl d_X11_bits_4 ?_
  refine g_bipush cx 10 (by decide) d_X11_bits_5 ?_
  refine g_icmp_ge_f cx 24 d_X11_bits_7 (by decide) (by decide) ?_
  refine g_iload_n cx 1 rfl d_X11_bits_10 ?_
  refine g_iload_n cx 2 rfl d_X11_bits_11 ?_
  refine g_iload_n cx 0 rfl d_X11_bits_12 ?_
  refine g_ishr cx d_X11_bits_13 ?_
  refine g_toi 0 (by decide) ?_
  refine g_iconst cx 1 (by decide) d_X11_bits_14 ?_
  refine g_iand cx d_X11_bits_15 ?_
  refine g_toi 0 (by decide) ?_
  refine g_iadd cx d_X11_bits_16 ?_
  refine g_toi 0 (by decide) ?_
  refine g_istore_n cx [(1, .int 0), (2, .int 4), (0, .int 0)] d_X11_bits_17 (by decide) rfl ?_
  refine g_iinc cx 5 [(2, .int 5), (1, .int 0), (0, .int 0)] 1 d_X11_bits_18 rfl (by decide) (by decide) rfl ?_
  refine g_goto cx 4 d_X11_bits_21 (by decide) ?_
  refine g_iload_n cx 0 rfl d_X11_bits_4 ?_
  refine g_bipush cx 10 (by decide) d_X11_bits_5 ?_
  refine g_icmp_ge_f cx 24 d_X11_bits_7 (by decide) (by decide) ?_
  refine g_iload_n cx 1 rfl d_X11_bits_10 ?_
  refine g_iload_n cx 2 rfl d_X11_bits_11 ?_
  refine g_iload_n cx 0 rfl d_X11_bits_12 ?_
  refine g_ishr cx d_X11_bits_13 ?_
  refine g_toi 0 (by decide) ?_
  refine g_iconst cx 1 (by decide) d_X11_bits_14 ?_
  refine g_iand cx d_X11_bits_15 ?_
  refine g_toi 0 (by decide) ?_
  refine g_iadd cx d_X11_bits_16 ?_
  refine g_toi 0 (by decide) ?_
  refine g_istore_n cx [(1, .int 0), (2, .int 5), (0, .int 0)] d_X11_bits_17 (by decide) rfl ?_
  refine g_iinc cx 6 [(2, .int 6), (1, .int 0), (0, .int 0)] 1 d_X11_bits_18 rfl (by decide) (by decide) rfl ?_
  refine g_goto cx 4 d_X11_bits_21 (by decide) ?_
  refine g_iload_n cx 0 rfl d_X11_bits_4 ?_
  refine g_bipush cx 10 (by decide) d_X11_bits_5 ?_
  refine g_icmp_ge_f cx 24 d_X11_bits_7 (by decide) (by decide) ?_
  refine g_iload_n cx 1 rfl d_X11_bits_10 ?_
  refine g_iload_n cx 2 rfl d_X11_bits_11 ?_
  refine g_iload_n cx 0 rfl d_X11_bits_12 ?_
  refine g_ishr cx d_X11_bits_13 ?_
  refine g_toi 0 (by decide) ?_
  refine g_iconst cx 1 (by decide) d_X11_bits_14 ?_
  refine g_iand cx d_X11_bits_15 ?_
  refine g_toi 0 (by decide) ?_
  refine g_iadd cx d_X11_bits_16 ?_
  refine g_toi 0 (by decide) ?_
  refine g_istore_n cx [(1, .int 0), (2, .int 6), (0, .int 0)] d_X11_bits_17 (by decide) rfl ?_
  refine g_iinc cx 7 [(2, .int 7), (1, .int 0), (0, .int 0)] 1 d_X11_bits_18 rfl (by decide) (by decide) rfl ?_
  refine g_goto cx 4 d_X11_bits_21 (by decide) ?_
  refine g_iload_n cx 0 rfl d_X11_bits_4 ?_
  refine g_bipush cx 10 (by decide) d_X11_bits_5 ?_
  refine g_icmp_ge_f cx 24 d_X11_bits_7 (by decide) (by decide) ?_
  refine g_iload_n cx 1 rfl d_X11_bits_10 ?_
  refine g_iload_n cx 2 rfl d_X11_bits_11 ?_
  refine g_iload_n cx 0 rfl d_X11_bits_12 ?_
  refine g_ishr cx d_X11_bits_13 ?_
  refine g_toi 0 (by decide) ?_
  refine g_iconst cx 1 (by decide) d_X11_bits_14 ?_
  refine g_iand cx d_X11_bits_15 ?_
  refine g_toi 0 (by decide) ?_
  refine g_iadd cx d_X11_bits_16 ?_
  refine g_toi 0 (by decide) ?_
  refine g_istore_n cx [(1, .int 0), (2, .int 7), (0, .int 0)] d_X11_bits_17 (by decide) rfl ?_
  refine g_iinc cx 8 [(2, .int 8), (1, .int 0), (0, .int 0)] 1 d_X11_bits_18 rfl (by decide) (by decide) rfl ?_
  refine g_goto cx 4 d_X11_bits_21 (by decide) ?_
  refine g_iload_n cx 0 rfl d_X11_bits_4 ?_
  refine g_bipush cx 10 (by decide) d_X11_bits_5 ?_
  refine g_icmp_ge_f cx 24 d_X11_bits_7 (by decide) (by decide) ?_
  refine g_iload_n cx 1 rfl d_X11_bits_10 ?_
  refine g_iload_n cx 2 rfl d_X11_bits_11 ?_
  refine g_iload_n cx 0 rfl d_X11_bits_12 ?_
  refine g_ishr cx d_X11_bits_13 ?_
  refine g_toi 0 (by decide) ?_
  refine g_iconst cx 1 (by decide) d_X11_bits_14 ?_
  refine g_iand cx d_X11_bits_15 ?_
  refine g_toi 0 (by decide) ?_
  refine g_iadd cx d_X11_bits_16 ?_
  refine g_toi 0 (by decide) ?_
  refine g_istore_n cx [(1, .int 0), (2, .int 8), (0, .int 0)] d_X11_bits_17 (by decide) rfl ?_
  refine g_iinc cx 9 [(2, .int 9), (1, .int 0), (0, .int 0)] 1 d_X11_bits_18 rfl (by decide) (by decide) rfl ?_
  refine g_goto cx 4 d_X11_bits_21 (by decide) ?_
  refine g_iload_n cx 0 rfl d_X11_bits_4 ?_
  refine g_bipush cx 10 (by decide) d_X11_bits_5 ?_
  refine g_icmp_ge_f cx 24 d_X11_bits_7 (by decide) (by decide) ?_
  refine g_iload_n cx 1 rfl d_X11_bits_10 ?_
  refine g_iload_n cx 2 rfl d_X11_bits_11 ?_
  refine g_iload_n cx 0 rfl d_X11_bits_12 ?_
  refine g_ishr cx d_X11_bits_13 ?_
  refine g_toi 0 (by decide) ?_
  refine g_iconst cx 1 (by decide) d_X11_bits_14 ?_
  refine g_iand cx d_X11_bits_15 ?_
  refine g_toi 0 (by decide) ?_
  refine g_iadd cx d_X11_bits_16 ?_
  refine g_toi 0 (by decide) ?_
  refine g_istore_n cx [(1, .int 0), (2, .int 9), (0, .int 0)] d_X11_bits_17 (by decide) rfl ?_
  refine g_iinc cx 10 [(2, .int 10), (1, .int 0), (0, .int 0)] 1 d_X11_bits_18 rfl (by decide) (by decide) rfl ?_
  refine g_goto cx 4 d_X11_bits_21 (by decide) ?_
  refine g_iload_n cx 0 rfl d_X11_bits_4 ?_
  refine g_bipush cx 10 (by decide) d_X11_bits_5 ?_
  refine g_icmp_ge_t cx 24 d_X11_bits_7 (by decide) (by decide) ?_
  refine g_iload_n cx 1 rfl d_X11_bits_24 ?_
  exact hret d_X11_bits_25 (Nat.le_of_ble_eq_true rfl) (Nat.le_of_ble_eq_true rfl) rfl (⟨rfl, rfl⟩)
theorem d_X11_isTold_0 : g_dc cX11_isTold 0 (.iload_n 1) 1 1 := ⟨by decide +kernel, rfl⟩
theorem d_X11_isTold_1 : g_dc cX11_isTold 1 (.ifCond .lt 24) 3 4 := ⟨by decide +kernel, rfl⟩
theorem d_X11_isTold_4 : g_dc cX11_isTold 4 (.iload_n 1) 1 5 := ⟨by decide +kernel, rfl⟩
theorem d_X11_isTold_5 : g_dc cX11_isTold 5 (.bipush 10) 2 7 := ⟨by decide +kernel, rfl⟩
theorem d_X11_isTold_7 : g_dc cX11_isTold 7 (.if_icmp .ge 18) 3 10 := ⟨by decide +kernel, rfl⟩
theorem d_X11_isTold_10 : g_dc cX11_isTold 10 (.aload_n 0) 1 11 := ⟨by decide +kernel, rfl⟩
theorem d_X11_isTold_11 : g_dc cX11_isTold 11 (.getfield 172) 3 14 := ⟨by decide +kernel, rfl⟩
theorem d_X11_isTold_14 : g_dc cX11_isTold 14 (.iload_n 1) 1 15 := ⟨by decide +kernel, rfl⟩
theorem d_X11_isTold_15 : g_dc cX11_isTold 15 (.invokestatic 175) 3 18 := ⟨by decide +kernel, rfl⟩
theorem d_X11_isTold_18 : g_dc cX11_isTold 18 (.ifCond .eq 7) 3 21 := ⟨by decide +kernel, rfl⟩
theorem d_X11_isTold_25 : g_dc cX11_isTold 25 (.iconst 0) 1 26 := ⟨by decide +kernel, rfl⟩
theorem d_X11_isTold_26 : g_dc cX11_isTold 26 (.ireturn) 1 27 := ⟨by decide +kernel, rfl⟩
set_option maxHeartbeats 4000000 in
set_option maxRecDepth 100000 in
theorem c_X11_isTold (l : Launch) (X : gX) (ad : Nat → Nat) (F : Nat → Int32) (R : Nat → Nat → Int32) (i : Int32) (h4 : F 4 = 0) : g_Ci l X yX11_isTold cX11_isTold 2 (some .boolean) 2 0 0 [.ref (ad 0), .int i] (wM X ad F R) (fun r w => w = wM X ad F R ∧ r = 0) := by
  refine g_mi (by decide +kernel) (Nat.le_of_ble_eq_true rfl) (fun E cx hret => ?_)
  refine g_iload_n cx 1 rfl d_X11_isTold_0 ?_
  refine g_if_lt cx 25 d_X11_isTold_1 (by decide) (fun zc1 => ?_) (fun zc1 => ?_)
  · refine g_iconst cx 0 (by decide) d_X11_isTold_25 ?_
    exact hret d_X11_isTold_26 (Nat.le_of_ble_eq_true rfl) (Nat.le_of_ble_eq_true rfl) rfl (⟨rfl, rfl⟩)
  · refine g_iload_n cx 1 rfl d_X11_isTold_4 ?_
    refine g_bipush cx 10 (by decide) d_X11_isTold_5 ?_
    refine g_icmp_ge cx 25 d_X11_isTold_7 (by decide) (fun zc7 => ?_) (fun zc7 => ?_)
    · refine g_iconst cx 0 (by decide) d_X11_isTold_25 ?_
      exact hret d_X11_isTold_26 (Nat.le_of_ble_eq_true rfl) (Nat.le_of_ble_eq_true rfl) rfl (⟨rfl, rfl⟩)
    · refine g_aload_n cx 0 rfl d_X11_isTold_10 ?_
      refine g_get cx cl_X11 fl_X11_172 0 (.int (F 4)) d_X11_isTold_11 rfl rfl ?_
      refine g_toi 0 (h4) ?_
      refine g_iload_n cx 1 rfl d_X11_isTold_14 ?_
      refine g_cSiW cx [.int 0, .int i] [] (c_X11_has l X _ 0 i) ml_X11_175 yS_X11_has rfl d_X11_isTold_15 (by unfold g_rr; decide) (by decide) rfl (Nat.le_of_ble_eq_true rfl) (fun r1 w2 h3 => ?_)
      obtain ⟨rfl, rfl⟩ := h3
      refine g_toi 0 (g_mh0 _) ?_
      refine g_if_eq_t cx 25 d_X11_isTold_18 (by decide) (by decide) ?_
      refine g_iconst cx 0 (by decide) d_X11_isTold_25 ?_
      exact hret d_X11_isTold_26 (Nat.le_of_ble_eq_true rfl) (Nat.le_of_ble_eq_true rfl) rfl (⟨rfl, rfl⟩)
theorem d_X11_stands_0 : g_dc cX11_stands 0 (.aload_n 0) 1 1 := ⟨by decide +kernel, rfl⟩
theorem d_X11_stands_1 : g_dc cX11_stands 1 (.getfield 312) 3 4 := ⟨by decide +kernel, rfl⟩
theorem d_X11_stands_4 : g_dc cX11_stands 4 (.iload_n 1) 1 5 := ⟨by decide +kernel, rfl⟩
theorem d_X11_stands_5 : g_dc cX11_stands 5 (.invokestatic 175) 3 8 := ⟨by decide +kernel, rfl⟩
theorem d_X11_stands_8 : g_dc cX11_stands 8 (.ifCond .eq 16) 3 11 := ⟨by decide +kernel, rfl⟩
theorem d_X11_stands_24 : g_dc cX11_stands 24 (.iconst 0) 1 25 := ⟨by decide +kernel, rfl⟩
theorem d_X11_stands_25 : g_dc cX11_stands 25 (.ireturn) 1 26 := ⟨by decide +kernel, rfl⟩
set_option maxHeartbeats 4000000 in
set_option maxRecDepth 100000 in
theorem c_X11_stands (l : Launch) (X : gX) (ad : Nat → Nat) (F : Nat → Int32) (R : Nat → Nat → Int32) (i : Int32) (h42 : F 42 = 0) : g_Ci l X yX11_stands cX11_stands 2 (some .boolean) 2 0 0 [.ref (ad 0), .int i] (wM X ad F R) (fun r w => w = wM X ad F R ∧ r = 0) := by
  refine g_mi (by decide +kernel) (Nat.le_of_ble_eq_true rfl) (fun E cx hret => ?_)
  refine g_aload_n cx 0 rfl d_X11_stands_0 ?_
  refine g_get cx cl_X11 fl_X11_312 0 (.int (F 42)) d_X11_stands_1 rfl rfl ?_
  refine g_toi 0 (h42) ?_
  refine g_iload_n cx 1 rfl d_X11_stands_4 ?_
  refine g_cSiW cx [.int 0, .int i] [] (c_X11_has l X _ 0 i) ml_X11_175 yS_X11_has rfl d_X11_stands_5 (by unfold g_rr; decide) (by decide) rfl (Nat.le_of_ble_eq_true rfl) (fun r1 w2 h3 => ?_)
  obtain ⟨rfl, rfl⟩ := h3
  refine g_toi 0 (g_mh0 _) ?_
  refine g_if_eq_t cx 24 d_X11_stands_8 (by decide) (by decide) ?_
  refine g_iconst cx 0 (by decide) d_X11_stands_24 ?_
  exact hret d_X11_stands_25 (Nat.le_of_ble_eq_true rfl) (Nat.le_of_ble_eq_true rfl) rfl (⟨rfl, rfl⟩)
theorem d_X11_someMove_0 : g_dc cX11_someMove 0 (.iconst 0) 1 1 := ⟨by decide +kernel, rfl⟩
theorem d_X11_someMove_1 : g_dc cX11_someMove 1 (.istore_n 1) 1 2 := ⟨by decide +kernel, rfl⟩
theorem d_X11_someMove_2 : g_dc cX11_someMove 2 (.iload_n 1) 1 3 := ⟨by decide +kernel, rfl⟩
theorem d_X11_someMove_3 : g_dc cX11_someMove 3 (.bipush 10) 2 5 := ⟨by decide +kernel, rfl⟩
theorem d_X11_someMove_5 : g_dc cX11_someMove 5 (.if_icmp .ge 28) 3 8 := ⟨by decide +kernel, rfl⟩
theorem d_X11_someMove_8 : g_dc cX11_someMove 8 (.aload_n 0) 1 9 := ⟨by decide +kernel, rfl⟩
theorem d_X11_someMove_9 : g_dc cX11_someMove 9 (.iload_n 1) 1 10 := ⟨by decide +kernel, rfl⟩
theorem d_X11_someMove_10 : g_dc cX11_someMove 10 (.invokevirtual 343) 3 13 := ⟨by decide +kernel, rfl⟩
theorem d_X11_someMove_13 : g_dc cX11_someMove 13 (.ifCond .eq 14) 3 16 := ⟨by decide +kernel, rfl⟩
theorem d_X11_someMove_27 : g_dc cX11_someMove 27 (.iinc 1 1) 3 30 := ⟨by decide +kernel, rfl⟩
theorem d_X11_someMove_30 : g_dc cX11_someMove 30 (.goto (-28)) 3 33 := ⟨by decide +kernel, rfl⟩
theorem d_X11_someMove_33 : g_dc cX11_someMove 33 (.iconst 0) 1 34 := ⟨by decide +kernel, rfl⟩
theorem d_X11_someMove_34 : g_dc cX11_someMove 34 (.ireturn) 1 35 := ⟨by decide +kernel, rfl⟩
set_option maxHeartbeats 4000000 in
set_option maxRecDepth 100000 in
theorem c_X11_someMove (l : Launch) (X : gX) (ad : Nat → Nat) (F : Nat → Int32) (R : Nat → Nat → Int32) (h42 : F 42 = 0) : g_Ci l X yX11_someMove cX11_someMove 2 (some .boolean) 3 0 0 [.ref (ad 0)] (wM X ad F R) (fun r w => w = wM X ad F R ∧ r = 0) := by
  refine g_mi (by decide +kernel) (Nat.le_of_ble_eq_true rfl) (fun E cx hret => ?_)
  refine g_iconst cx 0 (by decide) d_X11_someMove_0 ?_
  refine g_istore_n cx [(1, .int 0), (0, .ref (ad 0))] d_X11_someMove_1 (by decide) rfl ?_
  refine g_iload_n cx 0 rfl d_X11_someMove_2 ?_
  refine g_bipush cx 10 (by decide) d_X11_someMove_3 ?_
  refine g_icmp_ge_f cx 33 d_X11_someMove_5 (by decide) (by decide) ?_
  refine g_aload_n cx 1 rfl d_X11_someMove_8 ?_
  refine g_iload_n cx 0 rfl d_X11_someMove_9 ?_
  refine g_cViW cx [.int 0] [] (c_X11_stands l X ad F R 0 h42) ml_X11_343 yV_X11_stands d_X11_someMove_10 (by unfold g_rr; decide) (by decide) 0 rfl rfl rfl (Nat.le_of_ble_eq_true rfl) (fun r1 w2 h3 => ?_)
  obtain ⟨rfl, rfl⟩ := h3
  refine g_if_eq_t cx 27 d_X11_someMove_13 (by decide) (by decide) ?_
  refine g_iinc cx 1 [(1, .int 1), (0, .ref (ad 0))] 0 d_X11_someMove_27 rfl (by decide) (by decide) rfl ?_
  refine g_goto cx 2 d_X11_someMove_30 (by decide) ?_
  refine g_iload_n cx 0 rfl d_X11_someMove_2 ?_
  refine g_bipush cx 10 (by decide) d_X11_someMove_3 ?_
  refine g_icmp_ge_f cx 33 d_X11_someMove_5 (by decide) (by decide) ?_
  refine g_aload_n cx 1 rfl d_X11_someMove_8 ?_
  refine g_iload_n cx 0 rfl d_X11_someMove_9 ?_
  refine g_cViW cx [.int 1] [] (c_X11_stands l X ad F R 1 h42) ml_X11_343 yV_X11_stands d_X11_someMove_10 (by unfold g_rr; decide) (by decide) 0 rfl rfl rfl (Nat.le_of_ble_eq_true rfl) (fun r4 w5 h6 => ?_)
  obtain ⟨rfl, rfl⟩ := h6
  refine g_if_eq_t cx 27 d_X11_someMove_13 (by decide) (by decide) ?_
  refine g_iinc cx 2 [(1, .int 2), (0, .ref (ad 0))] 0 d_X11_someMove_27 rfl (by decide) (by decide) rfl ?_
  refine g_goto cx 2 d_X11_someMove_30 (by decide) ?_
  refine g_iload_n cx 0 rfl d_X11_someMove_2 ?_
  refine g_bipush cx 10 (by decide) d_X11_someMove_3 ?_
  refine g_icmp_ge_f cx 33 d_X11_someMove_5 (by decide) (by decide) ?_
  refine g_aload_n cx 1 rfl d_X11_someMove_8 ?_
  refine g_iload_n cx 0 rfl d_X11_someMove_9 ?_
  refine g_cViW cx [.int 2] [] (c_X11_stands l X ad F R 2 h42) ml_X11_343 yV_X11_stands d_X11_someMove_10 (by unfold g_rr; decide) (by decide) 0 rfl rfl rfl (Nat.le_of_ble_eq_true rfl) (fun r7 w8 h9 => ?_)
  obtain ⟨rfl, rfl⟩ := h9
  refine g_if_eq_t cx 27 d_X11_someMove_13 (by decide) (by decide) ?_
  refine g_iinc cx 3 [(1, .int 3), (0, .ref (ad 0))] 0 d_X11_someMove_27 rfl (by decide) (by decide) rfl ?_
  refine g_goto cx 2 d_X11_someMove_30 (by decide) ?_
  refine g_iload_n cx 0 rfl d_X11_someMove_2 ?_
  refine g_bipush cx 10 (by decide) d_X11_someMove_3 ?_
  refine g_icmp_ge_f cx 33 d_X11_someMove_5 (by decide) (by decide) ?_
  refine g_aload_n cx 1 rfl d_X11_someMove_8 ?_
  refine g_iload_n cx 0 rfl d_X11_someMove_9 ?_
  refine g_cViW cx [.int 3] [] (c_X11_stands l X ad F R 3 h42) ml_X11_343 yV_X11_stands d_X11_someMove_10 (by unfold g_rr; decide) (by decide) 0 rfl rfl rfl (Nat.le_of_ble_eq_true rfl) (fun r10 w11 h12 => ?_)
  obtain ⟨rfl, rfl⟩ := h12
  refine g_if_eq_t cx 27 d_X11_someMove_13 (by decide) (by decide) ?_
  refine g_iinc cx 4 [(1, .int 4), (0, .ref (ad 0))] 0 d_X11_someMove_27 rfl (by decide) (by decide) rfl ?_
  refine g_goto cx 2 d_X11_someMove_30 (by decide) ?_
  refine g_iload_n cx 0 rfl d_X11_someMove_2 ?_
  refine g_bipush cx 10 (by decide) d_X11_someMove_3 ?_
  refine g_icmp_ge_f cx 33 d_X11_someMove_5 (by decide) (by decide) ?_
  refine g_aload_n cx 1 rfl d_X11_someMove_8 ?_
  refine g_iload_n cx 0 rfl d_X11_someMove_9 ?_
  refine g_cViW cx [.int 4] [] (c_X11_stands l X ad F R 4 h42) ml_X11_343 yV_X11_stands d_X11_someMove_10 (by unfold g_rr; decide) (by decide) 0 rfl rfl rfl (Nat.le_of_ble_eq_true rfl) (fun r13 w14 h15 => ?_)
  obtain ⟨rfl, rfl⟩ := h15
  refine g_if_eq_t cx 27 d_X11_someMove_13 (by decide) (by decide) ?_
  refine g_iinc cx 5 [(1, .int 5), (0, .ref (ad 0))] 0 d_X11_someMove_27 rfl (by decide) (by decide) rfl ?_
  refine g_goto cx 2 d_X11_someMove_30 (by decide) ?_
  refine g_iload_n cx 0 rfl d_X11_someMove_2 ?_
  refine g_bipush cx 10 (by decide) d_X11_someMove_3 ?_
  refine g_icmp_ge_f cx 33 d_X11_someMove_5 (by decide) (by decide) ?_
  refine g_aload_n cx 1 rfl d_X11_someMove_8 ?_
  refine g_iload_n cx 0 rfl d_X11_someMove_9 ?_
  refine g_cViW cx [.int 5] [] (c_X11_stands l X ad F R 5 h42) ml_X11_343 yV_X11_stands d_X11_someMove_10 (by unfold g_rr; decide) (by decide) 0 rfl rfl rfl (Nat.le_of_ble_eq_true rfl) (fun r16 w17 h18 => ?_)
  obtain ⟨rfl, rfl⟩ := h18
  refine g_if_eq_t cx 27 d_X11_someMove_13 (by decide) (by decide) ?_
  refine g_iinc cx 6 [(1, .int 6), (0, .ref (ad 0))] 0 d_X11_someMove_27 rfl (by decide) (by decide) rfl ?_
  refine g_goto cx 2 d_X11_someMove_30 (by decide) ?_
  refine g_iload_n cx 0 rfl d_X11_someMove_2 ?_
  refine g_bipush cx 10 (by decide) d_X11_someMove_3 ?_
  refine g_icmp_ge_f cx 33 d_X11_someMove_5 (by decide) (by decide) ?_
  refine g_aload_n cx 1 rfl d_X11_someMove_8 ?_
  refine g_iload_n cx 0 rfl d_X11_someMove_9 ?_
  refine g_cViW cx [.int 6] [] (c_X11_stands l X ad F R 6 h42) ml_X11_343 yV_X11_stands d_X11_someMove_10 (by unfold g_rr; decide) (by decide) 0 rfl rfl rfl (Nat.le_of_ble_eq_true rfl) (fun r19 w20 h21 => ?_)
  obtain ⟨rfl, rfl⟩ := h21
  refine g_if_eq_t cx 27 d_X11_someMove_13 (by decide) (by decide) ?_
  refine g_iinc cx 7 [(1, .int 7), (0, .ref (ad 0))] 0 d_X11_someMove_27 rfl (by decide) (by decide) rfl ?_
  refine g_goto cx 2 d_X11_someMove_30 (by decide) ?_
  refine g_iload_n cx 0 rfl d_X11_someMove_2 ?_
  refine g_bipush cx 10 (by decide) d_X11_someMove_3 ?_
  refine g_icmp_ge_f cx 33 d_X11_someMove_5 (by decide) (by decide) ?_
  refine g_aload_n cx 1 rfl d_X11_someMove_8 ?_
  refine g_iload_n cx 0 rfl d_X11_someMove_9 ?_
  refine g_cViW cx [.int 7] [] (c_X11_stands l X ad F R 7 h42) ml_X11_343 yV_X11_stands d_X11_someMove_10 (by unfold g_rr; decide) (by decide) 0 rfl rfl rfl (Nat.le_of_ble_eq_true rfl) (fun r22 w23 h24 => ?_)
  obtain ⟨rfl, rfl⟩ := h24
  refine g_if_eq_t cx 27 d_X11_someMove_13 (by decide) (by decide) ?_
  refine g_iinc cx 8 [(1, .int 8), (0, .ref (ad 0))] 0 d_X11_someMove_27 rfl (by decide) (by decide) rfl ?_
  refine g_goto cx 2 d_X11_someMove_30 (by decide) ?_
  refine g_iload_n cx 0 rfl d_X11_someMove_2 ?_
  refine g_bipush cx 10 (by decide) d_X11_someMove_3 ?_
  refine g_icmp_ge_f cx 33 d_X11_someMove_5 (by decide) (by decide) ?_
  refine g_aload_n cx 1 rfl d_X11_someMove_8 ?_
  refine g_iload_n cx 0 rfl d_X11_someMove_9 ?_
  refine g_cViW cx [.int 8] [] (c_X11_stands l X ad F R 8 h42) ml_X11_343 yV_X11_stands d_X11_someMove_10 (by unfold g_rr; decide) (by decide) 0 rfl rfl rfl (Nat.le_of_ble_eq_true rfl) (fun r25 w26 h27 => ?_)
  obtain ⟨rfl, rfl⟩ := h27
  refine g_if_eq_t cx 27 d_X11_someMove_13 (by decide) (by decide) ?_
  refine g_iinc cx 9 [(1, .int 9), (0, .ref (ad 0))] 0 d_X11_someMove_27 rfl (by decide) (by decide) rfl ?_
  refine g_goto cx 2 d_X11_someMove_30 (by decide) ?_
  refine g_iload_n cx 0 rfl d_X11_someMove_2 ?_
  refine g_bipush cx 10 (by decide) d_X11_someMove_3 ?_
  refine g_icmp_ge_f cx 33 d_X11_someMove_5 (by decide) (by decide) ?_
  refine g_aload_n cx 1 rfl d_X11_someMove_8 ?_
  refine g_iload_n cx 0 rfl d_X11_someMove_9 ?_
  refine g_cViW cx [.int 9] [] (c_X11_stands l X ad F R 9 h42) ml_X11_343 yV_X11_stands d_X11_someMove_10 (by unfold g_rr; decide) (by decide) 0 rfl rfl rfl (Nat.le_of_ble_eq_true rfl) (fun r28 w29 h30 => ?_)
  obtain ⟨rfl, rfl⟩ := h30
  refine g_if_eq_t cx 27 d_X11_someMove_13 (by decide) (by decide) ?_
  refine g_iinc cx 10 [(1, .int 10), (0, .ref (ad 0))] 0 d_X11_someMove_27 rfl (by decide) (by decide) rfl ?_
  refine g_goto cx 2 d_X11_someMove_30 (by decide) ?_
  refine g_iload_n cx 0 rfl d_X11_someMove_2 ?_
  refine g_bipush cx 10 (by decide) d_X11_someMove_3 ?_
  refine g_icmp_ge_t cx 33 d_X11_someMove_5 (by decide) (by decide) ?_
  refine g_iconst cx 0 (by decide) d_X11_someMove_33 ?_
  exact hret d_X11_someMove_34 (Nat.le_of_ble_eq_true rfl) (Nat.le_of_ble_eq_true rfl) rfl (⟨rfl, rfl⟩)
theorem d_X11_standing_0 : g_dc cX11_standing 0 (.iconst 0) 1 1 := ⟨by decide +kernel, rfl⟩
theorem d_X11_standing_1 : g_dc cX11_standing 1 (.istore_n 1) 1 2 := ⟨by decide +kernel, rfl⟩
theorem d_X11_standing_2 : g_dc cX11_standing 2 (.iconst 0) 1 3 := ⟨by decide +kernel, rfl⟩
theorem d_X11_standing_3 : g_dc cX11_standing 3 (.istore_n 2) 1 4 := ⟨by decide +kernel, rfl⟩
theorem d_X11_standing_4 : g_dc cX11_standing 4 (.iload_n 2) 1 5 := ⟨by decide +kernel, rfl⟩
theorem d_X11_standing_5 : g_dc cX11_standing 5 (.bipush 10) 2 7 := ⟨by decide +kernel, rfl⟩
theorem d_X11_standing_7 : g_dc cX11_standing 7 (.if_icmp .ge 23) 3 10 := ⟨by decide +kernel, rfl⟩
theorem d_X11_standing_10 : g_dc cX11_standing 10 (.aload_n 0) 1 11 := ⟨by decide +kernel, rfl⟩
theorem d_X11_standing_11 : g_dc cX11_standing 11 (.iload_n 2) 1 12 := ⟨by decide +kernel, rfl⟩
theorem d_X11_standing_12 : g_dc cX11_standing 12 (.invokevirtual 343) 3 15 := ⟨by decide +kernel, rfl⟩
theorem d_X11_standing_15 : g_dc cX11_standing 15 (.ifCond .eq 9) 3 18 := ⟨by decide +kernel, rfl⟩
theorem d_X11_standing_24 : g_dc cX11_standing 24 (.iinc 2 1) 3 27 := ⟨by decide +kernel, rfl⟩
theorem d_X11_standing_27 : g_dc cX11_standing 27 (.goto (-23)) 3 30 := ⟨by decide +kernel, rfl⟩
theorem d_X11_standing_30 : g_dc cX11_standing 30 (.iload_n 1) 1 31 := ⟨by decide +kernel, rfl⟩
theorem d_X11_standing_31 : g_dc cX11_standing 31 (.ireturn) 1 32 := ⟨by decide +kernel, rfl⟩
set_option maxHeartbeats 4000000 in
set_option maxRecDepth 100000 in
theorem c_X11_standing (l : Launch) (X : gX) (ad : Nat → Nat) (F : Nat → Int32) (R : Nat → Nat → Int32) (h42 : F 42 = 0) : g_Ci l X yX11_standing cX11_standing 3 (some .int) 3 0 0 [.ref (ad 0)] (wM X ad F R) (fun r w => w = wM X ad F R ∧ r = 0) := by
  refine g_mi (by decide +kernel) (Nat.le_of_ble_eq_true rfl) (fun E cx hret => ?_)
  refine g_iconst cx 0 (by decide) d_X11_standing_0 ?_
  refine g_istore_n cx [(1, .int 0), (0, .ref (ad 0))] d_X11_standing_1 (by decide) rfl ?_
  refine g_iconst cx 0 (by decide) d_X11_standing_2 ?_
  refine g_istore_n cx [(2, .int 0), (1, .int 0), (0, .ref (ad 0))] d_X11_standing_3 (by decide) rfl ?_
  refine g_iload_n cx 0 rfl d_X11_standing_4 ?_
  refine g_bipush cx 10 (by decide) d_X11_standing_5 ?_
  refine g_icmp_ge_f cx 30 d_X11_standing_7 (by decide) (by decide) ?_
  refine g_aload_n cx 2 rfl d_X11_standing_10 ?_
  refine g_iload_n cx 0 rfl d_X11_standing_11 ?_
  refine g_cViW cx [.int 0] [] (c_X11_stands l X ad F R 0 h42) ml_X11_343 yV_X11_stands d_X11_standing_12 (by unfold g_rr; decide) (by decide) 0 rfl rfl rfl (Nat.le_of_ble_eq_true rfl) (fun r1 w2 h3 => ?_)
  obtain ⟨rfl, rfl⟩ := h3
  refine g_if_eq_t cx 24 d_X11_standing_15 (by decide) (by decide) ?_
  refine g_iinc cx 1 [(2, .int 1), (1, .int 0), (0, .ref (ad 0))] 0 d_X11_standing_24 rfl (by decide) (by decide) rfl ?_
  refine g_goto cx 4 d_X11_standing_27 (by decide) ?_
  refine g_iload_n cx 0 rfl d_X11_standing_4 ?_
  refine g_bipush cx 10 (by decide) d_X11_standing_5 ?_
  refine g_icmp_ge_f cx 30 d_X11_standing_7 (by decide) (by decide) ?_
  refine g_aload_n cx 2 rfl d_X11_standing_10 ?_
  refine g_iload_n cx 0 rfl d_X11_standing_11 ?_
  refine g_cViW cx [.int 1] [] (c_X11_stands l X ad F R 1 h42) ml_X11_343 yV_X11_stands d_X11_standing_12 (by unfold g_rr; decide) (by decide) 0 rfl rfl rfl (Nat.le_of_ble_eq_true rfl) (fun r4 w5 h6 => ?_)
  obtain ⟨rfl, rfl⟩ := h6
  refine g_if_eq_t cx 24 d_X11_standing_15 (by decide) (by decide) ?_
  refine g_iinc cx 2 [(2, .int 2), (1, .int 0), (0, .ref (ad 0))] 0 d_X11_standing_24 rfl (by decide) (by decide) rfl ?_
  refine g_goto cx 4 d_X11_standing_27 (by decide) ?_
  refine g_iload_n cx 0 rfl d_X11_standing_4 ?_
  refine g_bipush cx 10 (by decide) d_X11_standing_5 ?_
  refine g_icmp_ge_f cx 30 d_X11_standing_7 (by decide) (by decide) ?_
  refine g_aload_n cx 2 rfl d_X11_standing_10 ?_
  refine g_iload_n cx 0 rfl d_X11_standing_11 ?_
  refine g_cViW cx [.int 2] [] (c_X11_stands l X ad F R 2 h42) ml_X11_343 yV_X11_stands d_X11_standing_12 (by unfold g_rr; decide) (by decide) 0 rfl rfl rfl (Nat.le_of_ble_eq_true rfl) (fun r7 w8 h9 => ?_)
  obtain ⟨rfl, rfl⟩ := h9
  refine g_if_eq_t cx 24 d_X11_standing_15 (by decide) (by decide) ?_
  refine g_iinc cx 3 [(2, .int 3), (1, .int 0), (0, .ref (ad 0))] 0 d_X11_standing_24 rfl (by decide) (by decide) rfl ?_
  refine g_goto cx 4 d_X11_standing_27 (by decide) ?_
  refine g_iload_n cx 0 rfl d_X11_standing_4 ?_
  refine g_bipush cx 10 (by decide) d_X11_standing_5 ?_
  refine g_icmp_ge_f cx 30 d_X11_standing_7 (by decide) (by decide) ?_
  refine g_aload_n cx 2 rfl d_X11_standing_10 ?_
  refine g_iload_n cx 0 rfl d_X11_standing_11 ?_
  refine g_cViW cx [.int 3] [] (c_X11_stands l X ad F R 3 h42) ml_X11_343 yV_X11_stands d_X11_standing_12 (by unfold g_rr; decide) (by decide) 0 rfl rfl rfl (Nat.le_of_ble_eq_true rfl) (fun r10 w11 h12 => ?_)
  obtain ⟨rfl, rfl⟩ := h12
  refine g_if_eq_t cx 24 d_X11_standing_15 (by decide) (by decide) ?_
  refine g_iinc cx 4 [(2, .int 4), (1, .int 0), (0, .ref (ad 0))] 0 d_X11_standing_24 rfl (by decide) (by decide) rfl ?_
  refine g_goto cx 4 d_X11_standing_27 (by decide) ?_
  refine g_iload_n cx 0 rfl d_X11_standing_4 ?_
  refine g_bipush cx 10 (by decide) d_X11_standing_5 ?_
  refine g_icmp_ge_f cx 30 d_X11_standing_7 (by decide) (by decide) ?_
  refine g_aload_n cx 2 rfl d_X11_standing_10 ?_
  refine g_iload_n cx 0 rfl d_X11_standing_11 ?_
  refine g_cViW cx [.int 4] [] (c_X11_stands l X ad F R 4 h42) ml_X11_343 yV_X11_stands d_X11_standing_12 (by unfold g_rr; decide) (by decide) 0 rfl rfl rfl (Nat.le_of_ble_eq_true rfl) (fun r13 w14 h15 => ?_)
  obtain ⟨rfl, rfl⟩ := h15
  refine g_if_eq_t cx 24 d_X11_standing_15 (by decide) (by decide) ?_
  refine g_iinc cx 5 [(2, .int 5), (1, .int 0), (0, .ref (ad 0))] 0 d_X11_standing_24 rfl (by decide) (by decide) rfl ?_
  refine g_goto cx 4 d_X11_standing_27 (by decide) ?_
  refine g_iload_n cx 0 rfl d_X11_standing_4 ?_
  refine g_bipush cx 10 (by decide) d_X11_standing_5 ?_
  refine g_icmp_ge_f cx 30 d_X11_standing_7 (by decide) (by decide) ?_
  refine g_aload_n cx 2 rfl d_X11_standing_10 ?_
  refine g_iload_n cx 0 rfl d_X11_standing_11 ?_
  refine g_cViW cx [.int 5] [] (c_X11_stands l X ad F R 5 h42) ml_X11_343 yV_X11_stands d_X11_standing_12 (by unfold g_rr; decide) (by decide) 0 rfl rfl rfl (Nat.le_of_ble_eq_true rfl) (fun r16 w17 h18 => ?_)
  obtain ⟨rfl, rfl⟩ := h18
  refine g_if_eq_t cx 24 d_X11_standing_15 (by decide) (by decide) ?_
  refine g_iinc cx 6 [(2, .int 6), (1, .int 0), (0, .ref (ad 0))] 0 d_X11_standing_24 rfl (by decide) (by decide) rfl ?_
  refine g_goto cx 4 d_X11_standing_27 (by decide) ?_
  refine g_iload_n cx 0 rfl d_X11_standing_4 ?_
  refine g_bipush cx 10 (by decide) d_X11_standing_5 ?_
  refine g_icmp_ge_f cx 30 d_X11_standing_7 (by decide) (by decide) ?_
  refine g_aload_n cx 2 rfl d_X11_standing_10 ?_
  refine g_iload_n cx 0 rfl d_X11_standing_11 ?_
  refine g_cViW cx [.int 6] [] (c_X11_stands l X ad F R 6 h42) ml_X11_343 yV_X11_stands d_X11_standing_12 (by unfold g_rr; decide) (by decide) 0 rfl rfl rfl (Nat.le_of_ble_eq_true rfl) (fun r19 w20 h21 => ?_)
  obtain ⟨rfl, rfl⟩ := h21
  refine g_if_eq_t cx 24 d_X11_standing_15 (by decide) (by decide) ?_
  refine g_iinc cx 7 [(2, .int 7), (1, .int 0), (0, .ref (ad 0))] 0 d_X11_standing_24 rfl (by decide) (by decide) rfl ?_
  refine g_goto cx 4 d_X11_standing_27 (by decide) ?_
  refine g_iload_n cx 0 rfl d_X11_standing_4 ?_
  refine g_bipush cx 10 (by decide) d_X11_standing_5 ?_
  refine g_icmp_ge_f cx 30 d_X11_standing_7 (by decide) (by decide) ?_
  refine g_aload_n cx 2 rfl d_X11_standing_10 ?_
  refine g_iload_n cx 0 rfl d_X11_standing_11 ?_
  refine g_cViW cx [.int 7] [] (c_X11_stands l X ad F R 7 h42) ml_X11_343 yV_X11_stands d_X11_standing_12 (by unfold g_rr; decide) (by decide) 0 rfl rfl rfl (Nat.le_of_ble_eq_true rfl) (fun r22 w23 h24 => ?_)
  obtain ⟨rfl, rfl⟩ := h24
  refine g_if_eq_t cx 24 d_X11_standing_15 (by decide) (by decide) ?_
  refine g_iinc cx 8 [(2, .int 8), (1, .int 0), (0, .ref (ad 0))] 0 d_X11_standing_24 rfl (by decide) (by decide) rfl ?_
  refine g_goto cx 4 d_X11_standing_27 (by decide) ?_
  refine g_iload_n cx 0 rfl d_X11_standing_4 ?_
  refine g_bipush cx 10 (by decide) d_X11_standing_5 ?_
  refine g_icmp_ge_f cx 30 d_X11_standing_7 (by decide) (by decide) ?_
  refine g_aload_n cx 2 rfl d_X11_standing_10 ?_
  refine g_iload_n cx 0 rfl d_X11_standing_11 ?_
  refine g_cViW cx [.int 8] [] (c_X11_stands l X ad F R 8 h42) ml_X11_343 yV_X11_stands d_X11_standing_12 (by unfold g_rr; decide) (by decide) 0 rfl rfl rfl (Nat.le_of_ble_eq_true rfl) (fun r25 w26 h27 => ?_)
  obtain ⟨rfl, rfl⟩ := h27
  refine g_if_eq_t cx 24 d_X11_standing_15 (by decide) (by decide) ?_
  refine g_iinc cx 9 [(2, .int 9), (1, .int 0), (0, .ref (ad 0))] 0 d_X11_standing_24 rfl (by decide) (by decide) rfl ?_
  refine g_goto cx 4 d_X11_standing_27 (by decide) ?_
  refine g_iload_n cx 0 rfl d_X11_standing_4 ?_
  refine g_bipush cx 10 (by decide) d_X11_standing_5 ?_
  refine g_icmp_ge_f cx 30 d_X11_standing_7 (by decide) (by decide) ?_
  refine g_aload_n cx 2 rfl d_X11_standing_10 ?_
  refine g_iload_n cx 0 rfl d_X11_standing_11 ?_
  refine g_cViW cx [.int 9] [] (c_X11_stands l X ad F R 9 h42) ml_X11_343 yV_X11_stands d_X11_standing_12 (by unfold g_rr; decide) (by decide) 0 rfl rfl rfl (Nat.le_of_ble_eq_true rfl) (fun r28 w29 h30 => ?_)
  obtain ⟨rfl, rfl⟩ := h30
  refine g_if_eq_t cx 24 d_X11_standing_15 (by decide) (by decide) ?_
  refine g_iinc cx 10 [(2, .int 10), (1, .int 0), (0, .ref (ad 0))] 0 d_X11_standing_24 rfl (by decide) (by decide) rfl ?_
  refine g_goto cx 4 d_X11_standing_27 (by decide) ?_
  refine g_iload_n cx 0 rfl d_X11_standing_4 ?_
  refine g_bipush cx 10 (by decide) d_X11_standing_5 ?_
  refine g_icmp_ge_t cx 30 d_X11_standing_7 (by decide) (by decide) ?_
  refine g_iload_n cx 1 rfl d_X11_standing_30 ?_
  exact hret d_X11_standing_31 (Nat.le_of_ble_eq_true rfl) (Nat.le_of_ble_eq_true rfl) rfl (⟨rfl, rfl⟩)
theorem d_X11_inchesAll_0 : g_dc cX11_inchesAll 0 (.iconst 0) 1 1 := ⟨by decide +kernel, rfl⟩
theorem d_X11_inchesAll_1 : g_dc cX11_inchesAll 1 (.istore_n 1) 1 2 := ⟨by decide +kernel, rfl⟩
theorem d_X11_inchesAll_2 : g_dc cX11_inchesAll 2 (.iconst 0) 1 3 := ⟨by decide +kernel, rfl⟩
theorem d_X11_inchesAll_3 : g_dc cX11_inchesAll 3 (.istore_n 2) 1 4 := ⟨by decide +kernel, rfl⟩
theorem d_X11_inchesAll_4 : g_dc cX11_inchesAll 4 (.iload_n 2) 1 5 := ⟨by decide +kernel, rfl⟩
theorem d_X11_inchesAll_5 : g_dc cX11_inchesAll 5 (.bipush 10) 2 7 := ⟨by decide +kernel, rfl⟩
theorem d_X11_inchesAll_7 : g_dc cX11_inchesAll 7 (.if_icmp .ge 33) 3 10 := ⟨by decide +kernel, rfl⟩
theorem d_X11_inchesAll_10 : g_dc cX11_inchesAll 10 (.iload_n 1) 1 11 := ⟨by decide +kernel, rfl⟩
theorem d_X11_inchesAll_11 : g_dc cX11_inchesAll 11 (.aload_n 0) 1 12 := ⟨by decide +kernel, rfl⟩
theorem d_X11_inchesAll_12 : g_dc cX11_inchesAll 12 (.getfield 312) 3 15 := ⟨by decide +kernel, rfl⟩
theorem d_X11_inchesAll_15 : g_dc cX11_inchesAll 15 (.iload_n 2) 1 16 := ⟨by decide +kernel, rfl⟩
theorem d_X11_inchesAll_16 : g_dc cX11_inchesAll 16 (.invokestatic 175) 3 19 := ⟨by decide +kernel, rfl⟩
theorem d_X11_inchesAll_19 : g_dc cX11_inchesAll 19 (.ifCond .eq 12) 3 22 := ⟨by decide +kernel, rfl⟩
theorem d_X11_inchesAll_31 : g_dc cX11_inchesAll 31 (.iconst 0) 1 32 := ⟨by decide +kernel, rfl⟩
theorem d_X11_inchesAll_32 : g_dc cX11_inchesAll 32 (.iadd) 1 33 := ⟨by decide +kernel, rfl⟩
theorem d_X11_inchesAll_33 : g_dc cX11_inchesAll 33 (.istore_n 1) 1 34 := ⟨by decide +kernel, rfl⟩
theorem d_X11_inchesAll_34 : g_dc cX11_inchesAll 34 (.iinc 2 1) 3 37 := ⟨by decide +kernel, rfl⟩
theorem d_X11_inchesAll_37 : g_dc cX11_inchesAll 37 (.goto (-33)) 3 40 := ⟨by decide +kernel, rfl⟩
theorem d_X11_inchesAll_40 : g_dc cX11_inchesAll 40 (.iload_n 1) 1 41 := ⟨by decide +kernel, rfl⟩
theorem d_X11_inchesAll_41 : g_dc cX11_inchesAll 41 (.ireturn) 1 42 := ⟨by decide +kernel, rfl⟩
set_option maxHeartbeats 4000000 in
set_option maxRecDepth 100000 in
theorem c_X11_inchesAll (l : Launch) (X : gX) (ad : Nat → Nat) (F : Nat → Int32) (R : Nat → Nat → Int32) (h42 : F 42 = 0) : g_Ci l X yX11_inchesAll cX11_inchesAll 3 (some .int) 2 0 0 [.ref (ad 0)] (wM X ad F R) (fun r w => w = wM X ad F R ∧ r = 0) := by
  refine g_mi (by decide +kernel) (Nat.le_of_ble_eq_true rfl) (fun E cx hret => ?_)
  refine g_iconst cx 0 (by decide) d_X11_inchesAll_0 ?_
  refine g_istore_n cx [(1, .int 0), (0, .ref (ad 0))] d_X11_inchesAll_1 (by decide) rfl ?_
  refine g_iconst cx 0 (by decide) d_X11_inchesAll_2 ?_
  refine g_istore_n cx [(2, .int 0), (1, .int 0), (0, .ref (ad 0))] d_X11_inchesAll_3 (by decide) rfl ?_
  refine g_iload_n cx 0 rfl d_X11_inchesAll_4 ?_
  refine g_bipush cx 10 (by decide) d_X11_inchesAll_5 ?_
  refine g_icmp_ge_f cx 40 d_X11_inchesAll_7 (by decide) (by decide) ?_
  refine g_iload_n cx 1 rfl d_X11_inchesAll_10 ?_
  refine g_aload_n cx 2 rfl d_X11_inchesAll_11 ?_
  refine g_get cx cl_X11 fl_X11_312 0 (.int (F 42)) d_X11_inchesAll_12 rfl rfl ?_
  refine g_toi 0 (h42) ?_
  refine g_iload_n cx 0 rfl d_X11_inchesAll_15 ?_
  refine g_cSiW cx [.int 0, .int 0] [.int 0] (c_X11_has l X _ 0 0) ml_X11_175 yS_X11_has rfl d_X11_inchesAll_16 (by unfold g_rr; decide) (by decide) rfl (Nat.le_of_ble_eq_true rfl) (fun r1 w2 h3 => ?_)
  obtain ⟨rfl, rfl⟩ := h3
  refine g_toi 0 (g_mh0 _) ?_
  refine g_if_eq_t cx 31 d_X11_inchesAll_19 (by decide) (by decide) ?_
  refine g_iconst cx 0 (by decide) d_X11_inchesAll_31 ?_
  refine g_iadd cx d_X11_inchesAll_32 ?_
  refine g_toi 0 (by decide) ?_
  refine g_istore_n cx [(1, .int 0), (2, .int 0), (0, .ref (ad 0))] d_X11_inchesAll_33 (by decide) rfl ?_
  refine g_iinc cx 1 [(2, .int 1), (1, .int 0), (0, .ref (ad 0))] 1 d_X11_inchesAll_34 rfl (by decide) (by decide) rfl ?_
  refine g_goto cx 4 d_X11_inchesAll_37 (by decide) ?_
  refine g_iload_n cx 0 rfl d_X11_inchesAll_4 ?_
  refine g_bipush cx 10 (by decide) d_X11_inchesAll_5 ?_
  refine g_icmp_ge_f cx 40 d_X11_inchesAll_7 (by decide) (by decide) ?_
  refine g_iload_n cx 1 rfl d_X11_inchesAll_10 ?_
  refine g_aload_n cx 2 rfl d_X11_inchesAll_11 ?_
  refine g_get cx cl_X11 fl_X11_312 0 (.int (F 42)) d_X11_inchesAll_12 rfl rfl ?_
  refine g_toi 0 (h42) ?_
  refine g_iload_n cx 0 rfl d_X11_inchesAll_15 ?_
  refine g_cSiW cx [.int 0, .int 1] [.int 0] (c_X11_has l X _ 0 1) ml_X11_175 yS_X11_has rfl d_X11_inchesAll_16 (by unfold g_rr; decide) (by decide) rfl (Nat.le_of_ble_eq_true rfl) (fun r4 w5 h6 => ?_)
  obtain ⟨rfl, rfl⟩ := h6
  refine g_toi 0 (g_mh0 _) ?_
  refine g_if_eq_t cx 31 d_X11_inchesAll_19 (by decide) (by decide) ?_
  refine g_iconst cx 0 (by decide) d_X11_inchesAll_31 ?_
  refine g_iadd cx d_X11_inchesAll_32 ?_
  refine g_toi 0 (by decide) ?_
  refine g_istore_n cx [(1, .int 0), (2, .int 1), (0, .ref (ad 0))] d_X11_inchesAll_33 (by decide) rfl ?_
  refine g_iinc cx 2 [(2, .int 2), (1, .int 0), (0, .ref (ad 0))] 1 d_X11_inchesAll_34 rfl (by decide) (by decide) rfl ?_
  refine g_goto cx 4 d_X11_inchesAll_37 (by decide) ?_
  refine g_iload_n cx 0 rfl d_X11_inchesAll_4 ?_
  refine g_bipush cx 10 (by decide) d_X11_inchesAll_5 ?_
  refine g_icmp_ge_f cx 40 d_X11_inchesAll_7 (by decide) (by decide) ?_
  refine g_iload_n cx 1 rfl d_X11_inchesAll_10 ?_
  refine g_aload_n cx 2 rfl d_X11_inchesAll_11 ?_
  refine g_get cx cl_X11 fl_X11_312 0 (.int (F 42)) d_X11_inchesAll_12 rfl rfl ?_
  refine g_toi 0 (h42) ?_
  refine g_iload_n cx 0 rfl d_X11_inchesAll_15 ?_
  refine g_cSiW cx [.int 0, .int 2] [.int 0] (c_X11_has l X _ 0 2) ml_X11_175 yS_X11_has rfl d_X11_inchesAll_16 (by unfold g_rr; decide) (by decide) rfl (Nat.le_of_ble_eq_true rfl) (fun r7 w8 h9 => ?_)
  obtain ⟨rfl, rfl⟩ := h9
  refine g_toi 0 (g_mh0 _) ?_
  refine g_if_eq_t cx 31 d_X11_inchesAll_19 (by decide) (by decide) ?_
  refine g_iconst cx 0 (by decide) d_X11_inchesAll_31 ?_
  refine g_iadd cx d_X11_inchesAll_32 ?_
  refine g_toi 0 (by decide) ?_
  refine g_istore_n cx [(1, .int 0), (2, .int 2), (0, .ref (ad 0))] d_X11_inchesAll_33 (by decide) rfl ?_
  refine g_iinc cx 3 [(2, .int 3), (1, .int 0), (0, .ref (ad 0))] 1 d_X11_inchesAll_34 rfl (by decide) (by decide) rfl ?_
  refine g_goto cx 4 d_X11_inchesAll_37 (by decide) ?_
  refine g_iload_n cx 0 rfl d_X11_inchesAll_4 ?_
  refine g_bipush cx 10 (by decide) d_X11_inchesAll_5 ?_
  refine g_icmp_ge_f cx 40 d_X11_inchesAll_7 (by decide) (by decide) ?_
  refine g_iload_n cx 1 rfl d_X11_inchesAll_10 ?_
  refine g_aload_n cx 2 rfl d_X11_inchesAll_11 ?_
  refine g_get cx cl_X11 fl_X11_312 0 (.int (F 42)) d_X11_inchesAll_12 rfl rfl ?_
  refine g_toi 0 (h42) ?_
  refine g_iload_n cx 0 rfl d_X11_inchesAll_15 ?_
  refine g_cSiW cx [.int 0, .int 3] [.int 0] (c_X11_has l X _ 0 3) ml_X11_175 yS_X11_has rfl d_X11_inchesAll_16 (by unfold g_rr; decide) (by decide) rfl (Nat.le_of_ble_eq_true rfl) (fun r10 w11 h12 => ?_)
  obtain ⟨rfl, rfl⟩ := h12
  refine g_toi 0 (g_mh0 _) ?_
  refine g_if_eq_t cx 31 d_X11_inchesAll_19 (by decide) (by decide) ?_
  refine g_iconst cx 0 (by decide) d_X11_inchesAll_31 ?_
  refine g_iadd cx d_X11_inchesAll_32 ?_
  refine g_toi 0 (by decide) ?_
  refine g_istore_n cx [(1, .int 0), (2, .int 3), (0, .ref (ad 0))] d_X11_inchesAll_33 (by decide) rfl ?_
  refine g_iinc cx 4 [(2, .int 4), (1, .int 0), (0, .ref (ad 0))] 1 d_X11_inchesAll_34 rfl (by decide) (by decide) rfl ?_
  refine g_goto cx 4 d_X11_inchesAll_37 (by decide) ?_
  refine g_iload_n cx 0 rfl d_X11_inchesAll_4 ?_
  refine g_bipush cx 10 (by decide) d_X11_inchesAll_5 ?_
  refine g_icmp_ge_f cx 40 d_X11_inchesAll_7 (by decide) (by decide) ?_
  refine g_iload_n cx 1 rfl d_X11_inchesAll_10 ?_
  refine g_aload_n cx 2 rfl d_X11_inchesAll_11 ?_
  refine g_get cx cl_X11 fl_X11_312 0 (.int (F 42)) d_X11_inchesAll_12 rfl rfl ?_
  refine g_toi 0 (h42) ?_
  refine g_iload_n cx 0 rfl d_X11_inchesAll_15 ?_
  refine g_cSiW cx [.int 0, .int 4] [.int 0] (c_X11_has l X _ 0 4) ml_X11_175 yS_X11_has rfl d_X11_inchesAll_16 (by unfold g_rr; decide) (by decide) rfl (Nat.le_of_ble_eq_true rfl) (fun r13 w14 h15 => ?_)
  obtain ⟨rfl, rfl⟩ := h15
  refine g_toi 0 (g_mh0 _) ?_
  refine g_if_eq_t cx 31 d_X11_inchesAll_19 (by decide) (by decide) ?_
  refine g_iconst cx 0 (by decide) d_X11_inchesAll_31 ?_
  refine g_iadd cx d_X11_inchesAll_32 ?_
  refine g_toi 0 (by decide) ?_
  refine g_istore_n cx [(1, .int 0), (2, .int 4), (0, .ref (ad 0))] d_X11_inchesAll_33 (by decide) rfl ?_
  refine g_iinc cx 5 [(2, .int 5), (1, .int 0), (0, .ref (ad 0))] 1 d_X11_inchesAll_34 rfl (by decide) (by decide) rfl ?_
  refine g_goto cx 4 d_X11_inchesAll_37 (by decide) ?_
  refine g_iload_n cx 0 rfl d_X11_inchesAll_4 ?_
  refine g_bipush cx 10 (by decide) d_X11_inchesAll_5 ?_
  refine g_icmp_ge_f cx 40 d_X11_inchesAll_7 (by decide) (by decide) ?_
  refine g_iload_n cx 1 rfl d_X11_inchesAll_10 ?_
  refine g_aload_n cx 2 rfl d_X11_inchesAll_11 ?_
  refine g_get cx cl_X11 fl_X11_312 0 (.int (F 42)) d_X11_inchesAll_12 rfl rfl ?_
  refine g_toi 0 (h42) ?_
  refine g_iload_n cx 0 rfl d_X11_inchesAll_15 ?_
  refine g_cSiW cx [.int 0, .int 5] [.int 0] (c_X11_has l X _ 0 5) ml_X11_175 yS_X11_has rfl d_X11_inchesAll_16 (by unfold g_rr; decide) (by decide) rfl (Nat.le_of_ble_eq_true rfl) (fun r16 w17 h18 => ?_)
  obtain ⟨rfl, rfl⟩ := h18
  refine g_toi 0 (g_mh0 _) ?_
  refine g_if_eq_t cx 31 d_X11_inchesAll_19 (by decide) (by decide) ?_
  refine g_iconst cx 0 (by decide) d_X11_inchesAll_31 ?_
  refine g_iadd cx d_X11_inchesAll_32 ?_
  refine g_toi 0 (by decide) ?_
  refine g_istore_n cx [(1, .int 0), (2, .int 5), (0, .ref (ad 0))] d_X11_inchesAll_33 (by decide) rfl ?_
  refine g_iinc cx 6 [(2, .int 6), (1, .int 0), (0, .ref (ad 0))] 1 d_X11_inchesAll_34 rfl (by decide) (by decide) rfl ?_
  refine g_goto cx 4 d_X11_inchesAll_37 (by decide) ?_
  refine g_iload_n cx 0 rfl d_X11_inchesAll_4 ?_
  refine g_bipush cx 10 (by decide) d_X11_inchesAll_5 ?_
  refine g_icmp_ge_f cx 40 d_X11_inchesAll_7 (by decide) (by decide) ?_
  refine g_iload_n cx 1 rfl d_X11_inchesAll_10 ?_
  refine g_aload_n cx 2 rfl d_X11_inchesAll_11 ?_
  refine g_get cx cl_X11 fl_X11_312 0 (.int (F 42)) d_X11_inchesAll_12 rfl rfl ?_
  refine g_toi 0 (h42) ?_
  refine g_iload_n cx 0 rfl d_X11_inchesAll_15 ?_
  refine g_cSiW cx [.int 0, .int 6] [.int 0] (c_X11_has l X _ 0 6) ml_X11_175 yS_X11_has rfl d_X11_inchesAll_16 (by unfold g_rr; decide) (by decide) rfl (Nat.le_of_ble_eq_true rfl) (fun r19 w20 h21 => ?_)
  obtain ⟨rfl, rfl⟩ := h21
  refine g_toi 0 (g_mh0 _) ?_
  refine g_if_eq_t cx 31 d_X11_inchesAll_19 (by decide) (by decide) ?_
  refine g_iconst cx 0 (by decide) d_X11_inchesAll_31 ?_
  refine g_iadd cx d_X11_inchesAll_32 ?_
  refine g_toi 0 (by decide) ?_
  refine g_istore_n cx [(1, .int 0), (2, .int 6), (0, .ref (ad 0))] d_X11_inchesAll_33 (by decide) rfl ?_
  refine g_iinc cx 7 [(2, .int 7), (1, .int 0), (0, .ref (ad 0))] 1 d_X11_inchesAll_34 rfl (by decide) (by decide) rfl ?_
  refine g_goto cx 4 d_X11_inchesAll_37 (by decide) ?_
  refine g_iload_n cx 0 rfl d_X11_inchesAll_4 ?_
  refine g_bipush cx 10 (by decide) d_X11_inchesAll_5 ?_
  refine g_icmp_ge_f cx 40 d_X11_inchesAll_7 (by decide) (by decide) ?_
  refine g_iload_n cx 1 rfl d_X11_inchesAll_10 ?_
  refine g_aload_n cx 2 rfl d_X11_inchesAll_11 ?_
  refine g_get cx cl_X11 fl_X11_312 0 (.int (F 42)) d_X11_inchesAll_12 rfl rfl ?_
  refine g_toi 0 (h42) ?_
  refine g_iload_n cx 0 rfl d_X11_inchesAll_15 ?_
  refine g_cSiW cx [.int 0, .int 7] [.int 0] (c_X11_has l X _ 0 7) ml_X11_175 yS_X11_has rfl d_X11_inchesAll_16 (by unfold g_rr; decide) (by decide) rfl (Nat.le_of_ble_eq_true rfl) (fun r22 w23 h24 => ?_)
  obtain ⟨rfl, rfl⟩ := h24
  refine g_toi 0 (g_mh0 _) ?_
  refine g_if_eq_t cx 31 d_X11_inchesAll_19 (by decide) (by decide) ?_
  refine g_iconst cx 0 (by decide) d_X11_inchesAll_31 ?_
  refine g_iadd cx d_X11_inchesAll_32 ?_
  refine g_toi 0 (by decide) ?_
  refine g_istore_n cx [(1, .int 0), (2, .int 7), (0, .ref (ad 0))] d_X11_inchesAll_33 (by decide) rfl ?_
  refine g_iinc cx 8 [(2, .int 8), (1, .int 0), (0, .ref (ad 0))] 1 d_X11_inchesAll_34 rfl (by decide) (by decide) rfl ?_
  refine g_goto cx 4 d_X11_inchesAll_37 (by decide) ?_
  refine g_iload_n cx 0 rfl d_X11_inchesAll_4 ?_
  refine g_bipush cx 10 (by decide) d_X11_inchesAll_5 ?_
  refine g_icmp_ge_f cx 40 d_X11_inchesAll_7 (by decide) (by decide) ?_
  refine g_iload_n cx 1 rfl d_X11_inchesAll_10 ?_
  refine g_aload_n cx 2 rfl d_X11_inchesAll_11 ?_
  refine g_get cx cl_X11 fl_X11_312 0 (.int (F 42)) d_X11_inchesAll_12 rfl rfl ?_
  refine g_toi 0 (h42) ?_
  refine g_iload_n cx 0 rfl d_X11_inchesAll_15 ?_
  refine g_cSiW cx [.int 0, .int 8] [.int 0] (c_X11_has l X _ 0 8) ml_X11_175 yS_X11_has rfl d_X11_inchesAll_16 (by unfold g_rr; decide) (by decide) rfl (Nat.le_of_ble_eq_true rfl) (fun r25 w26 h27 => ?_)
  obtain ⟨rfl, rfl⟩ := h27
  refine g_toi 0 (g_mh0 _) ?_
  refine g_if_eq_t cx 31 d_X11_inchesAll_19 (by decide) (by decide) ?_
  refine g_iconst cx 0 (by decide) d_X11_inchesAll_31 ?_
  refine g_iadd cx d_X11_inchesAll_32 ?_
  refine g_toi 0 (by decide) ?_
  refine g_istore_n cx [(1, .int 0), (2, .int 8), (0, .ref (ad 0))] d_X11_inchesAll_33 (by decide) rfl ?_
  refine g_iinc cx 9 [(2, .int 9), (1, .int 0), (0, .ref (ad 0))] 1 d_X11_inchesAll_34 rfl (by decide) (by decide) rfl ?_
  refine g_goto cx 4 d_X11_inchesAll_37 (by decide) ?_
  refine g_iload_n cx 0 rfl d_X11_inchesAll_4 ?_
  refine g_bipush cx 10 (by decide) d_X11_inchesAll_5 ?_
  refine g_icmp_ge_f cx 40 d_X11_inchesAll_7 (by decide) (by decide) ?_
  refine g_iload_n cx 1 rfl d_X11_inchesAll_10 ?_
  refine g_aload_n cx 2 rfl d_X11_inchesAll_11 ?_
  refine g_get cx cl_X11 fl_X11_312 0 (.int (F 42)) d_X11_inchesAll_12 rfl rfl ?_
  refine g_toi 0 (h42) ?_
  refine g_iload_n cx 0 rfl d_X11_inchesAll_15 ?_
  refine g_cSiW cx [.int 0, .int 9] [.int 0] (c_X11_has l X _ 0 9) ml_X11_175 yS_X11_has rfl d_X11_inchesAll_16 (by unfold g_rr; decide) (by decide) rfl (Nat.le_of_ble_eq_true rfl) (fun r28 w29 h30 => ?_)
  obtain ⟨rfl, rfl⟩ := h30
  refine g_toi 0 (g_mh0 _) ?_
  refine g_if_eq_t cx 31 d_X11_inchesAll_19 (by decide) (by decide) ?_
  refine g_iconst cx 0 (by decide) d_X11_inchesAll_31 ?_
  refine g_iadd cx d_X11_inchesAll_32 ?_
  refine g_toi 0 (by decide) ?_
  refine g_istore_n cx [(1, .int 0), (2, .int 9), (0, .ref (ad 0))] d_X11_inchesAll_33 (by decide) rfl ?_
  refine g_iinc cx 10 [(2, .int 10), (1, .int 0), (0, .ref (ad 0))] 1 d_X11_inchesAll_34 rfl (by decide) (by decide) rfl ?_
  refine g_goto cx 4 d_X11_inchesAll_37 (by decide) ?_
  refine g_iload_n cx 0 rfl d_X11_inchesAll_4 ?_
  refine g_bipush cx 10 (by decide) d_X11_inchesAll_5 ?_
  refine g_icmp_ge_t cx 40 d_X11_inchesAll_7 (by decide) (by decide) ?_
  refine g_iload_n cx 1 rfl d_X11_inchesAll_40 ?_
  exact hret d_X11_inchesAll_41 (Nat.le_of_ble_eq_true rfl) (Nat.le_of_ble_eq_true rfl) rfl (⟨rfl, rfl⟩)
theorem d_X11_stateBits_0 : g_dc cX11_stateBits 0 (.iconst 0) 1 1 := ⟨by decide +kernel, rfl⟩
theorem d_X11_stateBits_1 : g_dc cX11_stateBits 1 (.istore_n 2) 1 2 := ⟨by decide +kernel, rfl⟩
theorem d_X11_stateBits_2 : g_dc cX11_stateBits 2 (.iconst 0) 1 3 := ⟨by decide +kernel, rfl⟩
theorem d_X11_stateBits_3 : g_dc cX11_stateBits 3 (.istore_n 3) 1 4 := ⟨by decide +kernel, rfl⟩
theorem d_X11_stateBits_4 : g_dc cX11_stateBits 4 (.iload_n 3) 1 5 := ⟨by decide +kernel, rfl⟩
theorem d_X11_stateBits_5 : g_dc cX11_stateBits 5 (.bipush 10) 2 7 := ⟨by decide +kernel, rfl⟩
theorem d_X11_stateBits_7 : g_dc cX11_stateBits 7 (.if_icmp .ge 36) 3 10 := ⟨by decide +kernel, rfl⟩
theorem d_X11_stateBits_10 : g_dc cX11_stateBits 10 (.aload_n 0) 1 11 := ⟨by decide +kernel, rfl⟩
theorem d_X11_stateBits_11 : g_dc cX11_stateBits 11 (.getfield 312) 3 14 := ⟨by decide +kernel, rfl⟩
theorem d_X11_stateBits_14 : g_dc cX11_stateBits 14 (.iload_n 3) 1 15 := ⟨by decide +kernel, rfl⟩
theorem d_X11_stateBits_15 : g_dc cX11_stateBits 15 (.invokestatic 175) 3 18 := ⟨by decide +kernel, rfl⟩
theorem d_X11_stateBits_18 : g_dc cX11_stateBits 18 (.ifCond .eq 19) 3 21 := ⟨by decide +kernel, rfl⟩
theorem d_X11_stateBits_37 : g_dc cX11_stateBits 37 (.iinc 3 1) 3 40 := ⟨by decide +kernel, rfl⟩
theorem d_X11_stateBits_40 : g_dc cX11_stateBits 40 (.goto (-36)) 3 43 := ⟨by decide +kernel, rfl⟩
theorem d_X11_stateBits_43 : g_dc cX11_stateBits 43 (.iload_n 2) 1 44 := ⟨by decide +kernel, rfl⟩
theorem d_X11_stateBits_44 : g_dc cX11_stateBits 44 (.ireturn) 1 45 := ⟨by decide +kernel, rfl⟩
set_option maxHeartbeats 4000000 in
set_option maxRecDepth 100000 in
theorem c_X11_stateBits (l : Launch) (X : gX) (ad : Nat → Nat) (F : Nat → Int32) (R : Nat → Nat → Int32) (i : Int32) (h42 : F 42 = 0) : g_Ci l X yX11_stateBits cX11_stateBits 4 (some .int) 2 0 0 [.ref (ad 0), .int i] (wM X ad F R) (fun r w => w = wM X ad F R ∧ r = 0) := by
  refine g_mi (by decide +kernel) (Nat.le_of_ble_eq_true rfl) (fun E cx hret => ?_)
  refine g_iconst cx 0 (by decide) d_X11_stateBits_0 ?_
  refine g_istore_n cx [(2, .int 0), (0, .ref (ad 0)), (1, .int i)] d_X11_stateBits_1 (by decide) rfl ?_
  refine g_iconst cx 0 (by decide) d_X11_stateBits_2 ?_
  refine g_istore_n cx [(3, .int 0), (2, .int 0), (0, .ref (ad 0)), (1, .int i)] d_X11_stateBits_3 (by decide) rfl ?_
  refine g_iload_n cx 0 rfl d_X11_stateBits_4 ?_
  refine g_bipush cx 10 (by decide) d_X11_stateBits_5 ?_
  refine g_icmp_ge_f cx 43 d_X11_stateBits_7 (by decide) (by decide) ?_
  refine g_aload_n cx 2 rfl d_X11_stateBits_10 ?_
  refine g_get cx cl_X11 fl_X11_312 0 (.int (F 42)) d_X11_stateBits_11 rfl rfl ?_
  refine g_toi 0 (h42) ?_
  refine g_iload_n cx 0 rfl d_X11_stateBits_14 ?_
  refine g_cSiW cx [.int 0, .int 0] [] (c_X11_has l X _ 0 0) ml_X11_175 yS_X11_has rfl d_X11_stateBits_15 (by unfold g_rr; decide) (by decide) rfl (Nat.le_of_ble_eq_true rfl) (fun r1 w2 h3 => ?_)
  obtain ⟨rfl, rfl⟩ := h3
  refine g_toi 0 (g_mh0 _) ?_
  refine g_if_eq_t cx 37 d_X11_stateBits_18 (by decide) (by decide) ?_
  refine g_iinc cx 1 [(3, .int 1), (2, .int 0), (0, .ref (ad 0)), (1, .int i)] 0 d_X11_stateBits_37 rfl (by decide) (by decide) rfl ?_
  refine g_goto cx 4 d_X11_stateBits_40 (by decide) ?_
  refine g_iload_n cx 0 rfl d_X11_stateBits_4 ?_
  refine g_bipush cx 10 (by decide) d_X11_stateBits_5 ?_
  refine g_icmp_ge_f cx 43 d_X11_stateBits_7 (by decide) (by decide) ?_
  refine g_aload_n cx 2 rfl d_X11_stateBits_10 ?_
  refine g_get cx cl_X11 fl_X11_312 0 (.int (F 42)) d_X11_stateBits_11 rfl rfl ?_
  refine g_toi 0 (h42) ?_
  refine g_iload_n cx 0 rfl d_X11_stateBits_14 ?_
  refine g_cSiW cx [.int 0, .int 1] [] (c_X11_has l X _ 0 1) ml_X11_175 yS_X11_has rfl d_X11_stateBits_15 (by unfold g_rr; decide) (by decide) rfl (Nat.le_of_ble_eq_true rfl) (fun r4 w5 h6 => ?_)
  obtain ⟨rfl, rfl⟩ := h6
  refine g_toi 0 (g_mh0 _) ?_
  refine g_if_eq_t cx 37 d_X11_stateBits_18 (by decide) (by decide) ?_
  refine g_iinc cx 2 [(3, .int 2), (2, .int 0), (0, .ref (ad 0)), (1, .int i)] 0 d_X11_stateBits_37 rfl (by decide) (by decide) rfl ?_
  refine g_goto cx 4 d_X11_stateBits_40 (by decide) ?_
  refine g_iload_n cx 0 rfl d_X11_stateBits_4 ?_
  refine g_bipush cx 10 (by decide) d_X11_stateBits_5 ?_
  refine g_icmp_ge_f cx 43 d_X11_stateBits_7 (by decide) (by decide) ?_
  refine g_aload_n cx 2 rfl d_X11_stateBits_10 ?_
  refine g_get cx cl_X11 fl_X11_312 0 (.int (F 42)) d_X11_stateBits_11 rfl rfl ?_
  refine g_toi 0 (h42) ?_
  refine g_iload_n cx 0 rfl d_X11_stateBits_14 ?_
  refine g_cSiW cx [.int 0, .int 2] [] (c_X11_has l X _ 0 2) ml_X11_175 yS_X11_has rfl d_X11_stateBits_15 (by unfold g_rr; decide) (by decide) rfl (Nat.le_of_ble_eq_true rfl) (fun r7 w8 h9 => ?_)
  obtain ⟨rfl, rfl⟩ := h9
  refine g_toi 0 (g_mh0 _) ?_
  refine g_if_eq_t cx 37 d_X11_stateBits_18 (by decide) (by decide) ?_
  refine g_iinc cx 3 [(3, .int 3), (2, .int 0), (0, .ref (ad 0)), (1, .int i)] 0 d_X11_stateBits_37 rfl (by decide) (by decide) rfl ?_
  refine g_goto cx 4 d_X11_stateBits_40 (by decide) ?_
  refine g_iload_n cx 0 rfl d_X11_stateBits_4 ?_
  refine g_bipush cx 10 (by decide) d_X11_stateBits_5 ?_
  refine g_icmp_ge_f cx 43 d_X11_stateBits_7 (by decide) (by decide) ?_
  refine g_aload_n cx 2 rfl d_X11_stateBits_10 ?_
  refine g_get cx cl_X11 fl_X11_312 0 (.int (F 42)) d_X11_stateBits_11 rfl rfl ?_
  refine g_toi 0 (h42) ?_
  refine g_iload_n cx 0 rfl d_X11_stateBits_14 ?_
  refine g_cSiW cx [.int 0, .int 3] [] (c_X11_has l X _ 0 3) ml_X11_175 yS_X11_has rfl d_X11_stateBits_15 (by unfold g_rr; decide) (by decide) rfl (Nat.le_of_ble_eq_true rfl) (fun r10 w11 h12 => ?_)
  obtain ⟨rfl, rfl⟩ := h12
  refine g_toi 0 (g_mh0 _) ?_
  refine g_if_eq_t cx 37 d_X11_stateBits_18 (by decide) (by decide) ?_
  refine g_iinc cx 4 [(3, .int 4), (2, .int 0), (0, .ref (ad 0)), (1, .int i)] 0 d_X11_stateBits_37 rfl (by decide) (by decide) rfl ?_
  refine g_goto cx 4 d_X11_stateBits_40 (by decide) ?_
  refine g_iload_n cx 0 rfl d_X11_stateBits_4 ?_
  refine g_bipush cx 10 (by decide) d_X11_stateBits_5 ?_
  refine g_icmp_ge_f cx 43 d_X11_stateBits_7 (by decide) (by decide) ?_
  refine g_aload_n cx 2 rfl d_X11_stateBits_10 ?_
  refine g_get cx cl_X11 fl_X11_312 0 (.int (F 42)) d_X11_stateBits_11 rfl rfl ?_
  refine g_toi 0 (h42) ?_
  refine g_iload_n cx 0 rfl d_X11_stateBits_14 ?_
  refine g_cSiW cx [.int 0, .int 4] [] (c_X11_has l X _ 0 4) ml_X11_175 yS_X11_has rfl d_X11_stateBits_15 (by unfold g_rr; decide) (by decide) rfl (Nat.le_of_ble_eq_true rfl) (fun r13 w14 h15 => ?_)
  obtain ⟨rfl, rfl⟩ := h15
  refine g_toi 0 (g_mh0 _) ?_
  refine g_if_eq_t cx 37 d_X11_stateBits_18 (by decide) (by decide) ?_
  refine g_iinc cx 5 [(3, .int 5), (2, .int 0), (0, .ref (ad 0)), (1, .int i)] 0 d_X11_stateBits_37 rfl (by decide) (by decide) rfl ?_
  refine g_goto cx 4 d_X11_stateBits_40 (by decide) ?_
  refine g_iload_n cx 0 rfl d_X11_stateBits_4 ?_
  refine g_bipush cx 10 (by decide) d_X11_stateBits_5 ?_
  refine g_icmp_ge_f cx 43 d_X11_stateBits_7 (by decide) (by decide) ?_
  refine g_aload_n cx 2 rfl d_X11_stateBits_10 ?_
  refine g_get cx cl_X11 fl_X11_312 0 (.int (F 42)) d_X11_stateBits_11 rfl rfl ?_
  refine g_toi 0 (h42) ?_
  refine g_iload_n cx 0 rfl d_X11_stateBits_14 ?_
  refine g_cSiW cx [.int 0, .int 5] [] (c_X11_has l X _ 0 5) ml_X11_175 yS_X11_has rfl d_X11_stateBits_15 (by unfold g_rr; decide) (by decide) rfl (Nat.le_of_ble_eq_true rfl) (fun r16 w17 h18 => ?_)
  obtain ⟨rfl, rfl⟩ := h18
  refine g_toi 0 (g_mh0 _) ?_
  refine g_if_eq_t cx 37 d_X11_stateBits_18 (by decide) (by decide) ?_
  refine g_iinc cx 6 [(3, .int 6), (2, .int 0), (0, .ref (ad 0)), (1, .int i)] 0 d_X11_stateBits_37 rfl (by decide) (by decide) rfl ?_
  refine g_goto cx 4 d_X11_stateBits_40 (by decide) ?_
  refine g_iload_n cx 0 rfl d_X11_stateBits_4 ?_
  refine g_bipush cx 10 (by decide) d_X11_stateBits_5 ?_
  refine g_icmp_ge_f cx 43 d_X11_stateBits_7 (by decide) (by decide) ?_
  refine g_aload_n cx 2 rfl d_X11_stateBits_10 ?_
  refine g_get cx cl_X11 fl_X11_312 0 (.int (F 42)) d_X11_stateBits_11 rfl rfl ?_
  refine g_toi 0 (h42) ?_
  refine g_iload_n cx 0 rfl d_X11_stateBits_14 ?_
  refine g_cSiW cx [.int 0, .int 6] [] (c_X11_has l X _ 0 6) ml_X11_175 yS_X11_has rfl d_X11_stateBits_15 (by unfold g_rr; decide) (by decide) rfl (Nat.le_of_ble_eq_true rfl) (fun r19 w20 h21 => ?_)
  obtain ⟨rfl, rfl⟩ := h21
  refine g_toi 0 (g_mh0 _) ?_
  refine g_if_eq_t cx 37 d_X11_stateBits_18 (by decide) (by decide) ?_
  refine g_iinc cx 7 [(3, .int 7), (2, .int 0), (0, .ref (ad 0)), (1, .int i)] 0 d_X11_stateBits_37 rfl (by decide) (by decide) rfl ?_
  refine g_goto cx 4 d_X11_stateBits_40 (by decide) ?_
  refine g_iload_n cx 0 rfl d_X11_stateBits_4 ?_
  refine g_bipush cx 10 (by decide) d_X11_stateBits_5 ?_
  refine g_icmp_ge_f cx 43 d_X11_stateBits_7 (by decide) (by decide) ?_
  refine g_aload_n cx 2 rfl d_X11_stateBits_10 ?_
  refine g_get cx cl_X11 fl_X11_312 0 (.int (F 42)) d_X11_stateBits_11 rfl rfl ?_
  refine g_toi 0 (h42) ?_
  refine g_iload_n cx 0 rfl d_X11_stateBits_14 ?_
  refine g_cSiW cx [.int 0, .int 7] [] (c_X11_has l X _ 0 7) ml_X11_175 yS_X11_has rfl d_X11_stateBits_15 (by unfold g_rr; decide) (by decide) rfl (Nat.le_of_ble_eq_true rfl) (fun r22 w23 h24 => ?_)
  obtain ⟨rfl, rfl⟩ := h24
  refine g_toi 0 (g_mh0 _) ?_
  refine g_if_eq_t cx 37 d_X11_stateBits_18 (by decide) (by decide) ?_
  refine g_iinc cx 8 [(3, .int 8), (2, .int 0), (0, .ref (ad 0)), (1, .int i)] 0 d_X11_stateBits_37 rfl (by decide) (by decide) rfl ?_
  refine g_goto cx 4 d_X11_stateBits_40 (by decide) ?_
  refine g_iload_n cx 0 rfl d_X11_stateBits_4 ?_
  refine g_bipush cx 10 (by decide) d_X11_stateBits_5 ?_
  refine g_icmp_ge_f cx 43 d_X11_stateBits_7 (by decide) (by decide) ?_
  refine g_aload_n cx 2 rfl d_X11_stateBits_10 ?_
  refine g_get cx cl_X11 fl_X11_312 0 (.int (F 42)) d_X11_stateBits_11 rfl rfl ?_
  refine g_toi 0 (h42) ?_
  refine g_iload_n cx 0 rfl d_X11_stateBits_14 ?_
  refine g_cSiW cx [.int 0, .int 8] [] (c_X11_has l X _ 0 8) ml_X11_175 yS_X11_has rfl d_X11_stateBits_15 (by unfold g_rr; decide) (by decide) rfl (Nat.le_of_ble_eq_true rfl) (fun r25 w26 h27 => ?_)
  obtain ⟨rfl, rfl⟩ := h27
  refine g_toi 0 (g_mh0 _) ?_
  refine g_if_eq_t cx 37 d_X11_stateBits_18 (by decide) (by decide) ?_
  refine g_iinc cx 9 [(3, .int 9), (2, .int 0), (0, .ref (ad 0)), (1, .int i)] 0 d_X11_stateBits_37 rfl (by decide) (by decide) rfl ?_
  refine g_goto cx 4 d_X11_stateBits_40 (by decide) ?_
  refine g_iload_n cx 0 rfl d_X11_stateBits_4 ?_
  refine g_bipush cx 10 (by decide) d_X11_stateBits_5 ?_
  refine g_icmp_ge_f cx 43 d_X11_stateBits_7 (by decide) (by decide) ?_
  refine g_aload_n cx 2 rfl d_X11_stateBits_10 ?_
  refine g_get cx cl_X11 fl_X11_312 0 (.int (F 42)) d_X11_stateBits_11 rfl rfl ?_
  refine g_toi 0 (h42) ?_
  refine g_iload_n cx 0 rfl d_X11_stateBits_14 ?_
  refine g_cSiW cx [.int 0, .int 9] [] (c_X11_has l X _ 0 9) ml_X11_175 yS_X11_has rfl d_X11_stateBits_15 (by unfold g_rr; decide) (by decide) rfl (Nat.le_of_ble_eq_true rfl) (fun r28 w29 h30 => ?_)
  obtain ⟨rfl, rfl⟩ := h30
  refine g_toi 0 (g_mh0 _) ?_
  refine g_if_eq_t cx 37 d_X11_stateBits_18 (by decide) (by decide) ?_
  refine g_iinc cx 10 [(3, .int 10), (2, .int 0), (0, .ref (ad 0)), (1, .int i)] 0 d_X11_stateBits_37 rfl (by decide) (by decide) rfl ?_
  refine g_goto cx 4 d_X11_stateBits_40 (by decide) ?_
  refine g_iload_n cx 0 rfl d_X11_stateBits_4 ?_
  refine g_bipush cx 10 (by decide) d_X11_stateBits_5 ?_
  refine g_icmp_ge_t cx 43 d_X11_stateBits_7 (by decide) (by decide) ?_
  refine g_iload_n cx 1 rfl d_X11_stateBits_43 ?_
  exact hret d_X11_stateBits_44 (Nat.le_of_ble_eq_true rfl) (Nat.le_of_ble_eq_true rfl) rfl (⟨rfl, rfl⟩)
theorem d_X11_laysOrder_0 : g_dc cX11_laysOrder 0 (.iconst 0) 1 1 := ⟨by decide +kernel, rfl⟩
theorem d_X11_laysOrder_1 : g_dc cX11_laysOrder 1 (.istore_n 1) 1 2 := ⟨by decide +kernel, rfl⟩
theorem d_X11_laysOrder_2 : g_dc cX11_laysOrder 2 (.iconst 0) 1 3 := ⟨by decide +kernel, rfl⟩
theorem d_X11_laysOrder_3 : g_dc cX11_laysOrder 3 (.istore_n 2) 1 4 := ⟨by decide +kernel, rfl⟩
theorem d_X11_laysOrder_4 : g_dc cX11_laysOrder 4 (.iload_n 2) 1 5 := ⟨by decide +kernel, rfl⟩
theorem d_X11_laysOrder_5 : g_dc cX11_laysOrder 5 (.bipush 10) 2 7 := ⟨by decide +kernel, rfl⟩
theorem d_X11_laysOrder_7 : g_dc cX11_laysOrder 7 (.if_icmp .ge 80) 3 10 := ⟨by decide +kernel, rfl⟩
theorem d_X11_laysOrder_10 : g_dc cX11_laysOrder 10 (.aload_n 0) 1 11 := ⟨by decide +kernel, rfl⟩
theorem d_X11_laysOrder_11 : g_dc cX11_laysOrder 11 (.iload_n 2) 1 12 := ⟨by decide +kernel, rfl⟩
theorem d_X11_laysOrder_12 : g_dc cX11_laysOrder 12 (.invokevirtual 343) 3 15 := ⟨by decide +kernel, rfl⟩
theorem d_X11_laysOrder_15 : g_dc cX11_laysOrder 15 (.ifCond .ne 6) 3 18 := ⟨by decide +kernel, rfl⟩
theorem d_X11_laysOrder_18 : g_dc cX11_laysOrder 18 (.goto 63) 3 21 := ⟨by decide +kernel, rfl⟩
theorem d_X11_laysOrder_81 : g_dc cX11_laysOrder 81 (.iinc 2 1) 3 84 := ⟨by decide +kernel, rfl⟩
theorem d_X11_laysOrder_84 : g_dc cX11_laysOrder 84 (.goto (-80)) 3 87 := ⟨by decide +kernel, rfl⟩
theorem d_X11_laysOrder_87 : g_dc cX11_laysOrder 87 (.iload_n 1) 1 88 := ⟨by decide +kernel, rfl⟩
theorem d_X11_laysOrder_88 : g_dc cX11_laysOrder 88 (.ireturn) 1 89 := ⟨by decide +kernel, rfl⟩
set_option maxHeartbeats 4000000 in
set_option maxRecDepth 100000 in
theorem c_X11_laysOrder (l : Launch) (X : gX) (ad : Nat → Nat) (F : Nat → Int32) (R : Nat → Nat → Int32) (h42 : F 42 = 0) : g_Ci l X yX11_laysOrder cX11_laysOrder 4 (some .int) 3 0 0 [.ref (ad 0)] (wM X ad F R) (fun r w => w = wM X ad F R ∧ r = 0) := by
  refine g_mi (by decide +kernel) (Nat.le_of_ble_eq_true rfl) (fun E cx hret => ?_)
  refine g_iconst cx 0 (by decide) d_X11_laysOrder_0 ?_
  refine g_istore_n cx [(1, .int 0), (0, .ref (ad 0))] d_X11_laysOrder_1 (by decide) rfl ?_
  refine g_iconst cx 0 (by decide) d_X11_laysOrder_2 ?_
  refine g_istore_n cx [(2, .int 0), (1, .int 0), (0, .ref (ad 0))] d_X11_laysOrder_3 (by decide) rfl ?_
  refine g_iload_n cx 0 rfl d_X11_laysOrder_4 ?_
  refine g_bipush cx 10 (by decide) d_X11_laysOrder_5 ?_
  refine g_icmp_ge_f cx 87 d_X11_laysOrder_7 (by decide) (by decide) ?_
  refine g_aload_n cx 2 rfl d_X11_laysOrder_10 ?_
  refine g_iload_n cx 0 rfl d_X11_laysOrder_11 ?_
  refine g_cViW cx [.int 0] [] (c_X11_stands l X ad F R 0 h42) ml_X11_343 yV_X11_stands d_X11_laysOrder_12 (by unfold g_rr; decide) (by decide) 0 rfl rfl rfl (Nat.le_of_ble_eq_true rfl) (fun r1 w2 h3 => ?_)
  obtain ⟨rfl, rfl⟩ := h3
  refine g_if_ne_f cx 21 d_X11_laysOrder_15 (by decide) (by decide) ?_
  refine g_goto cx 81 d_X11_laysOrder_18 (by decide) ?_
  refine g_iinc cx 1 [(2, .int 1), (1, .int 0), (0, .ref (ad 0))] 0 d_X11_laysOrder_81 rfl (by decide) (by decide) rfl ?_
  refine g_goto cx 4 d_X11_laysOrder_84 (by decide) ?_
  refine g_iload_n cx 0 rfl d_X11_laysOrder_4 ?_
  refine g_bipush cx 10 (by decide) d_X11_laysOrder_5 ?_
  refine g_icmp_ge_f cx 87 d_X11_laysOrder_7 (by decide) (by decide) ?_
  refine g_aload_n cx 2 rfl d_X11_laysOrder_10 ?_
  refine g_iload_n cx 0 rfl d_X11_laysOrder_11 ?_
  refine g_cViW cx [.int 1] [] (c_X11_stands l X ad F R 1 h42) ml_X11_343 yV_X11_stands d_X11_laysOrder_12 (by unfold g_rr; decide) (by decide) 0 rfl rfl rfl (Nat.le_of_ble_eq_true rfl) (fun r4 w5 h6 => ?_)
  obtain ⟨rfl, rfl⟩ := h6
  refine g_if_ne_f cx 21 d_X11_laysOrder_15 (by decide) (by decide) ?_
  refine g_goto cx 81 d_X11_laysOrder_18 (by decide) ?_
  refine g_iinc cx 2 [(2, .int 2), (1, .int 0), (0, .ref (ad 0))] 0 d_X11_laysOrder_81 rfl (by decide) (by decide) rfl ?_
  refine g_goto cx 4 d_X11_laysOrder_84 (by decide) ?_
  refine g_iload_n cx 0 rfl d_X11_laysOrder_4 ?_
  refine g_bipush cx 10 (by decide) d_X11_laysOrder_5 ?_
  refine g_icmp_ge_f cx 87 d_X11_laysOrder_7 (by decide) (by decide) ?_
  refine g_aload_n cx 2 rfl d_X11_laysOrder_10 ?_
  refine g_iload_n cx 0 rfl d_X11_laysOrder_11 ?_
  refine g_cViW cx [.int 2] [] (c_X11_stands l X ad F R 2 h42) ml_X11_343 yV_X11_stands d_X11_laysOrder_12 (by unfold g_rr; decide) (by decide) 0 rfl rfl rfl (Nat.le_of_ble_eq_true rfl) (fun r7 w8 h9 => ?_)
  obtain ⟨rfl, rfl⟩ := h9
  refine g_if_ne_f cx 21 d_X11_laysOrder_15 (by decide) (by decide) ?_
  refine g_goto cx 81 d_X11_laysOrder_18 (by decide) ?_
  refine g_iinc cx 3 [(2, .int 3), (1, .int 0), (0, .ref (ad 0))] 0 d_X11_laysOrder_81 rfl (by decide) (by decide) rfl ?_
  refine g_goto cx 4 d_X11_laysOrder_84 (by decide) ?_
  refine g_iload_n cx 0 rfl d_X11_laysOrder_4 ?_
  refine g_bipush cx 10 (by decide) d_X11_laysOrder_5 ?_
  refine g_icmp_ge_f cx 87 d_X11_laysOrder_7 (by decide) (by decide) ?_
  refine g_aload_n cx 2 rfl d_X11_laysOrder_10 ?_
  refine g_iload_n cx 0 rfl d_X11_laysOrder_11 ?_
  refine g_cViW cx [.int 3] [] (c_X11_stands l X ad F R 3 h42) ml_X11_343 yV_X11_stands d_X11_laysOrder_12 (by unfold g_rr; decide) (by decide) 0 rfl rfl rfl (Nat.le_of_ble_eq_true rfl) (fun r10 w11 h12 => ?_)
  obtain ⟨rfl, rfl⟩ := h12
  refine g_if_ne_f cx 21 d_X11_laysOrder_15 (by decide) (by decide) ?_
  refine g_goto cx 81 d_X11_laysOrder_18 (by decide) ?_
  refine g_iinc cx 4 [(2, .int 4), (1, .int 0), (0, .ref (ad 0))] 0 d_X11_laysOrder_81 rfl (by decide) (by decide) rfl ?_
  refine g_goto cx 4 d_X11_laysOrder_84 (by decide) ?_
  refine g_iload_n cx 0 rfl d_X11_laysOrder_4 ?_
  refine g_bipush cx 10 (by decide) d_X11_laysOrder_5 ?_
  refine g_icmp_ge_f cx 87 d_X11_laysOrder_7 (by decide) (by decide) ?_
  refine g_aload_n cx 2 rfl d_X11_laysOrder_10 ?_
  refine g_iload_n cx 0 rfl d_X11_laysOrder_11 ?_
  refine g_cViW cx [.int 4] [] (c_X11_stands l X ad F R 4 h42) ml_X11_343 yV_X11_stands d_X11_laysOrder_12 (by unfold g_rr; decide) (by decide) 0 rfl rfl rfl (Nat.le_of_ble_eq_true rfl) (fun r13 w14 h15 => ?_)
  obtain ⟨rfl, rfl⟩ := h15
  refine g_if_ne_f cx 21 d_X11_laysOrder_15 (by decide) (by decide) ?_
  refine g_goto cx 81 d_X11_laysOrder_18 (by decide) ?_
  refine g_iinc cx 5 [(2, .int 5), (1, .int 0), (0, .ref (ad 0))] 0 d_X11_laysOrder_81 rfl (by decide) (by decide) rfl ?_
  refine g_goto cx 4 d_X11_laysOrder_84 (by decide) ?_
  refine g_iload_n cx 0 rfl d_X11_laysOrder_4 ?_
  refine g_bipush cx 10 (by decide) d_X11_laysOrder_5 ?_
  refine g_icmp_ge_f cx 87 d_X11_laysOrder_7 (by decide) (by decide) ?_
  refine g_aload_n cx 2 rfl d_X11_laysOrder_10 ?_
  refine g_iload_n cx 0 rfl d_X11_laysOrder_11 ?_
  refine g_cViW cx [.int 5] [] (c_X11_stands l X ad F R 5 h42) ml_X11_343 yV_X11_stands d_X11_laysOrder_12 (by unfold g_rr; decide) (by decide) 0 rfl rfl rfl (Nat.le_of_ble_eq_true rfl) (fun r16 w17 h18 => ?_)
  obtain ⟨rfl, rfl⟩ := h18
  refine g_if_ne_f cx 21 d_X11_laysOrder_15 (by decide) (by decide) ?_
  refine g_goto cx 81 d_X11_laysOrder_18 (by decide) ?_
  refine g_iinc cx 6 [(2, .int 6), (1, .int 0), (0, .ref (ad 0))] 0 d_X11_laysOrder_81 rfl (by decide) (by decide) rfl ?_
  refine g_goto cx 4 d_X11_laysOrder_84 (by decide) ?_
  refine g_iload_n cx 0 rfl d_X11_laysOrder_4 ?_
  refine g_bipush cx 10 (by decide) d_X11_laysOrder_5 ?_
  refine g_icmp_ge_f cx 87 d_X11_laysOrder_7 (by decide) (by decide) ?_
  refine g_aload_n cx 2 rfl d_X11_laysOrder_10 ?_
  refine g_iload_n cx 0 rfl d_X11_laysOrder_11 ?_
  refine g_cViW cx [.int 6] [] (c_X11_stands l X ad F R 6 h42) ml_X11_343 yV_X11_stands d_X11_laysOrder_12 (by unfold g_rr; decide) (by decide) 0 rfl rfl rfl (Nat.le_of_ble_eq_true rfl) (fun r19 w20 h21 => ?_)
  obtain ⟨rfl, rfl⟩ := h21
  refine g_if_ne_f cx 21 d_X11_laysOrder_15 (by decide) (by decide) ?_
  refine g_goto cx 81 d_X11_laysOrder_18 (by decide) ?_
  refine g_iinc cx 7 [(2, .int 7), (1, .int 0), (0, .ref (ad 0))] 0 d_X11_laysOrder_81 rfl (by decide) (by decide) rfl ?_
  refine g_goto cx 4 d_X11_laysOrder_84 (by decide) ?_
  refine g_iload_n cx 0 rfl d_X11_laysOrder_4 ?_
  refine g_bipush cx 10 (by decide) d_X11_laysOrder_5 ?_
  refine g_icmp_ge_f cx 87 d_X11_laysOrder_7 (by decide) (by decide) ?_
  refine g_aload_n cx 2 rfl d_X11_laysOrder_10 ?_
  refine g_iload_n cx 0 rfl d_X11_laysOrder_11 ?_
  refine g_cViW cx [.int 7] [] (c_X11_stands l X ad F R 7 h42) ml_X11_343 yV_X11_stands d_X11_laysOrder_12 (by unfold g_rr; decide) (by decide) 0 rfl rfl rfl (Nat.le_of_ble_eq_true rfl) (fun r22 w23 h24 => ?_)
  obtain ⟨rfl, rfl⟩ := h24
  refine g_if_ne_f cx 21 d_X11_laysOrder_15 (by decide) (by decide) ?_
  refine g_goto cx 81 d_X11_laysOrder_18 (by decide) ?_
  refine g_iinc cx 8 [(2, .int 8), (1, .int 0), (0, .ref (ad 0))] 0 d_X11_laysOrder_81 rfl (by decide) (by decide) rfl ?_
  refine g_goto cx 4 d_X11_laysOrder_84 (by decide) ?_
  refine g_iload_n cx 0 rfl d_X11_laysOrder_4 ?_
  refine g_bipush cx 10 (by decide) d_X11_laysOrder_5 ?_
  refine g_icmp_ge_f cx 87 d_X11_laysOrder_7 (by decide) (by decide) ?_
  refine g_aload_n cx 2 rfl d_X11_laysOrder_10 ?_
  refine g_iload_n cx 0 rfl d_X11_laysOrder_11 ?_
  refine g_cViW cx [.int 8] [] (c_X11_stands l X ad F R 8 h42) ml_X11_343 yV_X11_stands d_X11_laysOrder_12 (by unfold g_rr; decide) (by decide) 0 rfl rfl rfl (Nat.le_of_ble_eq_true rfl) (fun r25 w26 h27 => ?_)
  obtain ⟨rfl, rfl⟩ := h27
  refine g_if_ne_f cx 21 d_X11_laysOrder_15 (by decide) (by decide) ?_
  refine g_goto cx 81 d_X11_laysOrder_18 (by decide) ?_
  refine g_iinc cx 9 [(2, .int 9), (1, .int 0), (0, .ref (ad 0))] 0 d_X11_laysOrder_81 rfl (by decide) (by decide) rfl ?_
  refine g_goto cx 4 d_X11_laysOrder_84 (by decide) ?_
  refine g_iload_n cx 0 rfl d_X11_laysOrder_4 ?_
  refine g_bipush cx 10 (by decide) d_X11_laysOrder_5 ?_
  refine g_icmp_ge_f cx 87 d_X11_laysOrder_7 (by decide) (by decide) ?_
  refine g_aload_n cx 2 rfl d_X11_laysOrder_10 ?_
  refine g_iload_n cx 0 rfl d_X11_laysOrder_11 ?_
  refine g_cViW cx [.int 9] [] (c_X11_stands l X ad F R 9 h42) ml_X11_343 yV_X11_stands d_X11_laysOrder_12 (by unfold g_rr; decide) (by decide) 0 rfl rfl rfl (Nat.le_of_ble_eq_true rfl) (fun r28 w29 h30 => ?_)
  obtain ⟨rfl, rfl⟩ := h30
  refine g_if_ne_f cx 21 d_X11_laysOrder_15 (by decide) (by decide) ?_
  refine g_goto cx 81 d_X11_laysOrder_18 (by decide) ?_
  refine g_iinc cx 10 [(2, .int 10), (1, .int 0), (0, .ref (ad 0))] 0 d_X11_laysOrder_81 rfl (by decide) (by decide) rfl ?_
  refine g_goto cx 4 d_X11_laysOrder_84 (by decide) ?_
  refine g_iload_n cx 0 rfl d_X11_laysOrder_4 ?_
  refine g_bipush cx 10 (by decide) d_X11_laysOrder_5 ?_
  refine g_icmp_ge_t cx 87 d_X11_laysOrder_7 (by decide) (by decide) ?_
  refine g_iload_n cx 1 rfl d_X11_laysOrder_87 ?_
  exact hret d_X11_laysOrder_88 (Nat.le_of_ble_eq_true rfl) (Nat.le_of_ble_eq_true rfl) rfl (⟨rfl, rfl⟩)
theorem d_X11_laysThings_0 : g_dc cX11_laysThings 0 (.aload_n 0) 1 1 := ⟨by decide +kernel, rfl⟩
theorem d_X11_laysThings_1 : g_dc cX11_laysThings 1 (.aload_n 0) 1 2 := ⟨by decide +kernel, rfl⟩
theorem d_X11_laysThings_2 : g_dc cX11_laysThings 2 (.getfield 172) 3 5 := ⟨by decide +kernel, rfl⟩
theorem d_X11_laysThings_5 : g_dc cX11_laysThings 5 (.putfield 312) 3 8 := ⟨by decide +kernel, rfl⟩
theorem d_X11_laysThings_8 : g_dc cX11_laysThings 8 (.aload_n 0) 1 9 := ⟨by decide +kernel, rfl⟩
theorem d_X11_laysThings_9 : g_dc cX11_laysThings 9 (.aload_n 0) 1 10 := ⟨by decide +kernel, rfl⟩
theorem d_X11_laysThings_10 : g_dc cX11_laysThings 10 (.getfield 169) 3 13 := ⟨by decide +kernel, rfl⟩
theorem d_X11_laysThings_13 : g_dc cX11_laysThings 13 (.putfield 315) 3 16 := ⟨by decide +kernel, rfl⟩
theorem d_X11_laysThings_16 : g_dc cX11_laysThings 16 (.aload_n 0) 1 17 := ⟨by decide +kernel, rfl⟩
theorem d_X11_laysThings_17 : g_dc cX11_laysThings 17 (.iconst 0) 1 18 := ⟨by decide +kernel, rfl⟩
theorem d_X11_laysThings_18 : g_dc cX11_laysThings 18 (.putfield 318) 3 21 := ⟨by decide +kernel, rfl⟩
theorem d_X11_laysThings_21 : g_dc cX11_laysThings 21 (.aload_n 0) 1 22 := ⟨by decide +kernel, rfl⟩
theorem d_X11_laysThings_22 : g_dc cX11_laysThings 22 (.iconst 0) 1 23 := ⟨by decide +kernel, rfl⟩
theorem d_X11_laysThings_23 : g_dc cX11_laysThings 23 (.putfield 322) 3 26 := ⟨by decide +kernel, rfl⟩
theorem d_X11_laysThings_26 : g_dc cX11_laysThings 26 (.iconst 0) 1 27 := ⟨by decide +kernel, rfl⟩
theorem d_X11_laysThings_27 : g_dc cX11_laysThings 27 (.istore_n 1) 1 28 := ⟨by decide +kernel, rfl⟩
theorem d_X11_laysThings_28 : g_dc cX11_laysThings 28 (.iload_n 1) 1 29 := ⟨by decide +kernel, rfl⟩
theorem d_X11_laysThings_29 : g_dc cX11_laysThings 29 (.bipush 10) 2 31 := ⟨by decide +kernel, rfl⟩
theorem d_X11_laysThings_31 : g_dc cX11_laysThings 31 (.if_icmp .ge 33) 3 34 := ⟨by decide +kernel, rfl⟩
theorem d_X11_laysThings_34 : g_dc cX11_laysThings 34 (.aload_n 0) 1 35 := ⟨by decide +kernel, rfl⟩
theorem d_X11_laysThings_35 : g_dc cX11_laysThings 35 (.getfield 86) 3 38 := ⟨by decide +kernel, rfl⟩
theorem d_X11_laysThings_38 : g_dc cX11_laysThings 38 (.iload_n 1) 1 39 := ⟨by decide +kernel, rfl⟩
theorem d_X11_laysThings_39 : g_dc cX11_laysThings 39 (.aload_n 0) 1 40 := ⟨by decide +kernel, rfl⟩
theorem d_X11_laysThings_40 : g_dc cX11_laysThings 40 (.getfield 13) 3 43 := ⟨by decide +kernel, rfl⟩
theorem d_X11_laysThings_43 : g_dc cX11_laysThings 43 (.iload_n 1) 1 44 := ⟨by decide +kernel, rfl⟩
theorem d_X11_laysThings_44 : g_dc cX11_laysThings 44 (.iaload) 1 45 := ⟨by decide +kernel, rfl⟩
theorem d_X11_laysThings_45 : g_dc cX11_laysThings 45 (.iastore) 1 46 := ⟨by decide +kernel, rfl⟩
theorem d_X11_laysThings_46 : g_dc cX11_laysThings 46 (.aload_n 0) 1 47 := ⟨by decide +kernel, rfl⟩
theorem d_X11_laysThings_47 : g_dc cX11_laysThings 47 (.getfield 98) 3 50 := ⟨by decide +kernel, rfl⟩
theorem d_X11_laysThings_50 : g_dc cX11_laysThings 50 (.iload_n 1) 1 51 := ⟨by decide +kernel, rfl⟩
theorem d_X11_laysThings_51 : g_dc cX11_laysThings 51 (.aload_n 0) 1 52 := ⟨by decide +kernel, rfl⟩
theorem d_X11_laysThings_52 : g_dc cX11_laysThings 52 (.getfield 25) 3 55 := ⟨by decide +kernel, rfl⟩
theorem d_X11_laysThings_55 : g_dc cX11_laysThings 55 (.iload_n 1) 1 56 := ⟨by decide +kernel, rfl⟩
theorem d_X11_laysThings_56 : g_dc cX11_laysThings 56 (.iaload) 1 57 := ⟨by decide +kernel, rfl⟩
theorem d_X11_laysThings_57 : g_dc cX11_laysThings 57 (.iastore) 1 58 := ⟨by decide +kernel, rfl⟩
theorem d_X11_laysThings_58 : g_dc cX11_laysThings 58 (.iinc 1 1) 3 61 := ⟨by decide +kernel, rfl⟩
theorem d_X11_laysThings_61 : g_dc cX11_laysThings 61 (.goto (-33)) 3 64 := ⟨by decide +kernel, rfl⟩
theorem d_X11_laysThings_64 : g_dc cX11_laysThings 64 (.return_) 1 65 := ⟨by decide +kernel, rfl⟩
set_option maxHeartbeats 4000000 in
set_option maxRecDepth 100000 in
theorem c_X11_laysThings (l : Launch) (X : gX) (ad : Nat → Nat) (F : Nat → Int32) (R : Nat → Nat → Int32) : g_Cv l X yX11_laysThings cX11_laysThings 2 1 0 0 [.ref (ad 0)] (wM X ad F R) (fun w => ∃ R' : Nat → Nat → Int32, w = wM X ad (upd (upd (upd (upd F 42 (F 4)) 43 (F 2)) 49 0) 51 0) R') := by
  refine g_mv (by decide +kernel) (Nat.le_of_ble_eq_true rfl) (fun E cx hret => ?_)
  refine g_aload_n cx 0 rfl d_X11_laysThings_0 ?_
  refine g_aload_n cx 0 rfl d_X11_laysThings_1 ?_
  refine g_get cx cl_X11 fl_X11_172 0 (.int (F 4)) d_X11_laysThings_2 rfl rfl ?_
  refine g_put cx cl_X11 fl_X11_312 0 (wM X ad (upd F 42 (F 4)) R) d_X11_laysThings_5 rfl rfl rfl rfl (Nat.le_of_ble_eq_true rfl) rfl ?_
  refine g_aload_n cx 0 rfl d_X11_laysThings_8 ?_
  refine g_aload_n cx 0 rfl d_X11_laysThings_9 ?_
  refine g_get cx cl_X11 fl_X11_169 0 (.int (F 2)) d_X11_laysThings_10 rfl rfl ?_
  refine g_put cx cl_X11 fl_X11_315 0 (wM X ad (upd (upd F 42 (F 4)) 43 (F 2)) R) d_X11_laysThings_13 rfl rfl rfl rfl (Nat.le_of_ble_eq_true rfl) rfl ?_
  refine g_aload_n cx 0 rfl d_X11_laysThings_16 ?_
  refine g_iconst cx 0 (by decide) d_X11_laysThings_17 ?_
  refine g_put cx cl_X11 fl_X11_318 0 (wM X ad (upd (upd (upd F 42 (F 4)) 43 (F 2)) 51 0) R) d_X11_laysThings_18 rfl rfl rfl rfl (Nat.le_of_ble_eq_true rfl) rfl ?_
  refine g_aload_n cx 0 rfl d_X11_laysThings_21 ?_
  refine g_iconst cx 0 (by decide) d_X11_laysThings_22 ?_
  refine g_put cx cl_X11 fl_X11_322 0 (wM X ad (upd (upd (upd (upd F 42 (F 4)) 43 (F 2)) 49 0) 51 0) R) d_X11_laysThings_23 rfl rfl rfl rfl (Nat.le_of_ble_eq_true rfl) rfl ?_
  refine g_iconst cx 0 (by decide) d_X11_laysThings_26 ?_
  refine g_istore_n cx [(1, .int 0), (0, .ref (ad 0))] d_X11_laysThings_27 (by decide) rfl ?_
  have L28 : ∀ (N : Nat) (i : Nat) (x1 : Int32) (zR : Nat → Nat → Int32), 10 - i < N → (x1 = nI i) → (i ≤ 10) → G X E 2 0 0 (wM X ad (upd (upd (upd (upd F 42 (F 4)) 43 (F 2)) 49 0) 51 0) zR) [(0, .ref (ad 0)), (1, .int x1)] 28 [] := by
    intro N
    induction N with
    | zero => intro i x1 zR hm; exact absurd hm (Nat.not_lt_zero _)
    | succ N ih28 =>
      intro i x1 zR hm hx hi
      refine g_iload_n cx 1 rfl d_X11_laysThings_28 ?_
      refine g_bipush cx 10 (by decide) d_X11_laysThings_29 ?_
      refine g_icmp_ge cx 64 d_X11_laysThings_31 (by decide) (fun zc31 => ?_) (fun zc31 => ?_)
      · exact hret d_X11_laysThings_64 (Nat.le_of_ble_eq_true rfl) (Nat.le_of_ble_eq_true rfl) ⟨zR, rfl⟩
      · refine g_aload_n cx 0 rfl d_X11_laysThings_34 ?_
        refine g_get cx cl_X11 fl_X11_86 0 (.ref (ad 26)) d_X11_laysThings_35 rfl rfl ?_
        refine g_iload_n cx 1 rfl d_X11_laysThings_38 ?_
        refine g_aload_n cx 0 rfl d_X11_laysThings_39 ?_
        refine g_get cx cl_X11 fl_X11_13 0 (.ref (ad 2)) d_X11_laysThings_40 rfl rfl ?_
        refine g_iload_n cx 1 rfl d_X11_laysThings_43 ?_
        refine g_iald cx 2 d_X11_laysThings_44 rfl (by rw [hx]; exact vp_in_nI (g_lt10 (n := 10) hx (by omega) zc31) (by decide)) ?_
        refine g_iast cx 26 (wM X ad (upd (upd (upd (upd F 42 (F 4)) 43 (F 2)) 49 0) 51 0) (g_u zR 26 (upd (zR 26) (Int32.toNatClampNeg x1) ((zR 2) (Int32.toNatClampNeg x1))))) d_X11_laysThings_45 rfl (by rw [hx]; exact vp_in_nI (g_lt10 (n := 10) hx (by omega) zc31) (by decide)) rfl ?_
        refine g_aload_n cx 0 rfl d_X11_laysThings_46 ?_
        refine g_get cx cl_X11 fl_X11_98 0 (.ref (ad 30)) d_X11_laysThings_47 rfl rfl ?_
        refine g_iload_n cx 1 rfl d_X11_laysThings_50 ?_
        refine g_aload_n cx 0 rfl d_X11_laysThings_51 ?_
        refine g_get cx cl_X11 fl_X11_25 0 (.ref (ad 6)) d_X11_laysThings_52 rfl rfl ?_
        refine g_iload_n cx 1 rfl d_X11_laysThings_55 ?_
        refine g_iald cx 6 d_X11_laysThings_56 rfl (by rw [hx]; exact vp_in_nI (g_lt10 (n := 10) hx (by omega) zc31) (by decide)) ?_
        refine g_iast cx 30 (wM X ad (upd (upd (upd (upd F 42 (F 4)) 43 (F 2)) 49 0) 51 0) (g_u (g_u zR 26 (upd (zR 26) (Int32.toNatClampNeg x1) ((zR 2) (Int32.toNatClampNeg x1)))) 30 (upd (zR 30) (Int32.toNatClampNeg x1) ((zR 6) (Int32.toNatClampNeg x1))))) d_X11_laysThings_57 rfl (by rw [hx]; exact vp_in_nI (g_lt10 (n := 10) hx (by omega) zc31) (by decide)) rfl ?_
        refine g_iinc cx (x1 + 1) [(1, .int (x1 + 1)), (0, .ref (ad 0))] 1 d_X11_laysThings_58 rfl (rfl) (by decide) rfl ?_
        refine g_goto cx 28 d_X11_laysThings_61 (by decide) ?_
        refine g_lsub [1, 0] [(0, .ref (ad 0)), (1, .int (x1 + 1))] rfl ?_
        exact ih28 (i + 1) (x1 + 1) (g_u (g_u zR 26 (upd (zR 26) (Int32.toNatClampNeg x1) ((zR 2) (Int32.toNatClampNeg x1)))) 30 (upd (zR 30) (Int32.toNatClampNeg x1) ((zR 6) (Int32.toNatClampNeg x1)))) (by have := g_lt10 (n := 10) hx (by omega) zc31; omega) (by rw [hx]; exact nI_1 i) (by have := g_lt10 (n := 10) hx (by omega) zc31; omega)
  refine g_lsub [1, 0] [(0, .ref (ad 0)), (1, .int 0)] rfl ?_
  exact L28 _ 0 0 R (Nat.lt_succ_self _) nI_0.symm (by omega)
theorem d_X11_laysPull_0 : g_dc cX11_laysPull 0 (.aload_n 0) 1 1 := ⟨by decide +kernel, rfl⟩
theorem d_X11_laysPull_1 : g_dc cX11_laysPull 1 (.aload_n 0) 1 2 := ⟨by decide +kernel, rfl⟩
theorem d_X11_laysPull_2 : g_dc cX11_laysPull 2 (.getfield 228) 3 5 := ⟨by decide +kernel, rfl⟩
theorem d_X11_laysPull_5 : g_dc cX11_laysPull 5 (.putfield 309) 3 8 := ⟨by decide +kernel, rfl⟩
theorem d_X11_laysPull_8 : g_dc cX11_laysPull 8 (.iconst 0) 1 9 := ⟨by decide +kernel, rfl⟩
theorem d_X11_laysPull_9 : g_dc cX11_laysPull 9 (.istore_n 1) 1 10 := ⟨by decide +kernel, rfl⟩
theorem d_X11_laysPull_10 : g_dc cX11_laysPull 10 (.iload_n 1) 1 11 := ⟨by decide +kernel, rfl⟩
theorem d_X11_laysPull_11 : g_dc cX11_laysPull 11 (.aload_n 0) 1 12 := ⟨by decide +kernel, rfl⟩
theorem d_X11_laysPull_12 : g_dc cX11_laysPull 12 (.getfield 228) 3 15 := ⟨by decide +kernel, rfl⟩
theorem d_X11_laysPull_15 : g_dc cX11_laysPull 15 (.if_icmp .ge 21) 3 18 := ⟨by decide +kernel, rfl⟩
theorem d_X11_laysPull_36 : g_dc cX11_laysPull 36 (.return_) 1 37 := ⟨by decide +kernel, rfl⟩
set_option maxHeartbeats 4000000 in
set_option maxRecDepth 100000 in
theorem c_X11_laysPull (l : Launch) (X : gX) (ad : Nat → Nat) (F : Nat → Int32) (R : Nat → Nat → Int32) (h19 : F 19 = 0) : g_Cv l X yX11_laysPull cX11_laysPull 2 1 0 0 [.ref (ad 0)] (wM X ad F R) (fun w => w = wM X ad (upd F 44 0) R ∧ True) := by
  refine g_mv (by decide +kernel) (Nat.le_of_ble_eq_true rfl) (fun E cx hret => ?_)
  refine g_aload_n cx 0 rfl d_X11_laysPull_0 ?_
  refine g_aload_n cx 0 rfl d_X11_laysPull_1 ?_
  refine g_get cx cl_X11 fl_X11_228 0 (.int (F 19)) d_X11_laysPull_2 rfl rfl ?_
  refine g_toi 0 (h19) ?_
  refine g_put cx cl_X11 fl_X11_309 0 (wM X ad (upd F 44 0) R) d_X11_laysPull_5 rfl rfl rfl rfl (Nat.le_of_ble_eq_true rfl) rfl ?_
  refine g_iconst cx 0 (by decide) d_X11_laysPull_8 ?_
  refine g_istore_n cx [(1, .int 0), (0, .ref (ad 0))] d_X11_laysPull_9 (by decide) rfl ?_
  refine g_iload_n cx 0 rfl d_X11_laysPull_10 ?_
  refine g_aload_n cx 1 rfl d_X11_laysPull_11 ?_
  refine g_get cx cl_X11 fl_X11_228 0 (.int (F 19)) d_X11_laysPull_12 rfl rfl ?_
  refine g_toi 0 (h19) ?_
  refine g_icmp_ge_t cx 36 d_X11_laysPull_15 (by decide) (by decide) ?_
  exact hret d_X11_laysPull_36 (Nat.le_of_ble_eq_true rfl) (Nat.le_of_ble_eq_true rfl) (⟨rfl, trivial⟩)
theorem d_X11_begins_0 : g_dc cX11_begins 0 (.aload_n 0) 1 1 := ⟨by decide +kernel, rfl⟩
theorem d_X11_begins_1 : g_dc cX11_begins 1 (.iconst 0) 1 2 := ⟨by decide +kernel, rfl⟩
theorem d_X11_begins_2 : g_dc cX11_begins 2 (.putfield 325) 3 5 := ⟨by decide +kernel, rfl⟩
theorem d_X11_begins_5 : g_dc cX11_begins 5 (.aload_n 0) 1 6 := ⟨by decide +kernel, rfl⟩
theorem d_X11_begins_6 : g_dc cX11_begins 6 (.iconst 0) 1 7 := ⟨by decide +kernel, rfl⟩
theorem d_X11_begins_7 : g_dc cX11_begins 7 (.putfield 328) 3 10 := ⟨by decide +kernel, rfl⟩
theorem d_X11_begins_10 : g_dc cX11_begins 10 (.aload_n 0) 1 11 := ⟨by decide +kernel, rfl⟩
theorem d_X11_begins_11 : g_dc cX11_begins 11 (.aload_n 0) 1 12 := ⟨by decide +kernel, rfl⟩
theorem d_X11_begins_12 : g_dc cX11_begins 12 (.getfield 159) 3 15 := ⟨by decide +kernel, rfl⟩
theorem d_X11_begins_15 : g_dc cX11_begins 15 (.putfield 331) 3 18 := ⟨by decide +kernel, rfl⟩
theorem d_X11_begins_18 : g_dc cX11_begins 18 (.aload_n 0) 1 19 := ⟨by decide +kernel, rfl⟩
theorem d_X11_begins_19 : g_dc cX11_begins 19 (.iconst 0) 1 20 := ⟨by decide +kernel, rfl⟩
theorem d_X11_begins_20 : g_dc cX11_begins 20 (.putfield 334) 3 23 := ⟨by decide +kernel, rfl⟩
theorem d_X11_begins_23 : g_dc cX11_begins 23 (.aload_n 0) 1 24 := ⟨by decide +kernel, rfl⟩
theorem d_X11_begins_24 : g_dc cX11_begins 24 (.iconst 0) 1 25 := ⟨by decide +kernel, rfl⟩
theorem d_X11_begins_25 : g_dc cX11_begins 25 (.putfield 337) 3 28 := ⟨by decide +kernel, rfl⟩
theorem d_X11_begins_28 : g_dc cX11_begins 28 (.aload_n 0) 1 29 := ⟨by decide +kernel, rfl⟩
theorem d_X11_begins_29 : g_dc cX11_begins 29 (.iconst 0) 1 30 := ⟨by decide +kernel, rfl⟩
theorem d_X11_begins_30 : g_dc cX11_begins 30 (.putfield 340) 3 33 := ⟨by decide +kernel, rfl⟩
theorem d_X11_begins_33 : g_dc cX11_begins 33 (.iconst 0) 1 34 := ⟨by decide +kernel, rfl⟩
theorem d_X11_begins_34 : g_dc cX11_begins 34 (.istore_n 1) 1 35 := ⟨by decide +kernel, rfl⟩
theorem d_X11_begins_35 : g_dc cX11_begins 35 (.iload_n 1) 1 36 := ⟨by decide +kernel, rfl⟩
theorem d_X11_begins_36 : g_dc cX11_begins 36 (.bipush 10) 2 38 := ⟨by decide +kernel, rfl⟩
theorem d_X11_begins_38 : g_dc cX11_begins 38 (.if_icmp .ge 75) 3 41 := ⟨by decide +kernel, rfl⟩
theorem d_X11_begins_41 : g_dc cX11_begins 41 (.aload_n 0) 1 42 := ⟨by decide +kernel, rfl⟩
theorem d_X11_begins_42 : g_dc cX11_begins 42 (.getfield 89) 3 45 := ⟨by decide +kernel, rfl⟩
theorem d_X11_begins_45 : g_dc cX11_begins 45 (.iload_n 1) 1 46 := ⟨by decide +kernel, rfl⟩
theorem d_X11_begins_46 : g_dc cX11_begins 46 (.iconst 0) 1 47 := ⟨by decide +kernel, rfl⟩
theorem d_X11_begins_47 : g_dc cX11_begins 47 (.iastore) 1 48 := ⟨by decide +kernel, rfl⟩
theorem d_X11_begins_48 : g_dc cX11_begins 48 (.aload_n 0) 1 49 := ⟨by decide +kernel, rfl⟩
theorem d_X11_begins_49 : g_dc cX11_begins 49 (.getfield 92) 3 52 := ⟨by decide +kernel, rfl⟩
theorem d_X11_begins_52 : g_dc cX11_begins 52 (.iload_n 1) 1 53 := ⟨by decide +kernel, rfl⟩
theorem d_X11_begins_53 : g_dc cX11_begins 53 (.iconst 0) 1 54 := ⟨by decide +kernel, rfl⟩
theorem d_X11_begins_54 : g_dc cX11_begins 54 (.iastore) 1 55 := ⟨by decide +kernel, rfl⟩
theorem d_X11_begins_55 : g_dc cX11_begins 55 (.aload_n 0) 1 56 := ⟨by decide +kernel, rfl⟩
theorem d_X11_begins_56 : g_dc cX11_begins 56 (.getfield 95) 3 59 := ⟨by decide +kernel, rfl⟩
theorem d_X11_begins_59 : g_dc cX11_begins 59 (.iload_n 1) 1 60 := ⟨by decide +kernel, rfl⟩
theorem d_X11_begins_60 : g_dc cX11_begins 60 (.aload_n 0) 1 61 := ⟨by decide +kernel, rfl⟩
theorem d_X11_begins_61 : g_dc cX11_begins 61 (.getfield 28) 3 64 := ⟨by decide +kernel, rfl⟩
theorem d_X11_begins_64 : g_dc cX11_begins 64 (.iload_n 1) 1 65 := ⟨by decide +kernel, rfl⟩
theorem d_X11_begins_65 : g_dc cX11_begins 65 (.iaload) 1 66 := ⟨by decide +kernel, rfl⟩
theorem d_X11_begins_66 : g_dc cX11_begins 66 (.iastore) 1 67 := ⟨by decide +kernel, rfl⟩
theorem d_X11_begins_67 : g_dc cX11_begins 67 (.aload_n 0) 1 68 := ⟨by decide +kernel, rfl⟩
theorem d_X11_begins_68 : g_dc cX11_begins 68 (.getfield 101) 3 71 := ⟨by decide +kernel, rfl⟩
theorem d_X11_begins_71 : g_dc cX11_begins 71 (.iload_n 1) 1 72 := ⟨by decide +kernel, rfl⟩
theorem d_X11_begins_72 : g_dc cX11_begins 72 (.aload_n 0) 1 73 := ⟨by decide +kernel, rfl⟩
theorem d_X11_begins_73 : g_dc cX11_begins 73 (.getfield 19) 3 76 := ⟨by decide +kernel, rfl⟩
theorem d_X11_begins_76 : g_dc cX11_begins 76 (.iload_n 1) 1 77 := ⟨by decide +kernel, rfl⟩
theorem d_X11_begins_77 : g_dc cX11_begins 77 (.iaload) 1 78 := ⟨by decide +kernel, rfl⟩
theorem d_X11_begins_78 : g_dc cX11_begins 78 (.iastore) 1 79 := ⟨by decide +kernel, rfl⟩
theorem d_X11_begins_79 : g_dc cX11_begins 79 (.aload_n 0) 1 80 := ⟨by decide +kernel, rfl⟩
theorem d_X11_begins_80 : g_dc cX11_begins 80 (.getfield 104) 3 83 := ⟨by decide +kernel, rfl⟩
theorem d_X11_begins_83 : g_dc cX11_begins 83 (.iload_n 1) 1 84 := ⟨by decide +kernel, rfl⟩
theorem d_X11_begins_84 : g_dc cX11_begins 84 (.iconst 0) 1 85 := ⟨by decide +kernel, rfl⟩
theorem d_X11_begins_85 : g_dc cX11_begins 85 (.iastore) 1 86 := ⟨by decide +kernel, rfl⟩
theorem d_X11_begins_86 : g_dc cX11_begins 86 (.aload_n 0) 1 87 := ⟨by decide +kernel, rfl⟩
theorem d_X11_begins_87 : g_dc cX11_begins 87 (.getfield 107) 3 90 := ⟨by decide +kernel, rfl⟩
theorem d_X11_begins_90 : g_dc cX11_begins 90 (.iload_n 1) 1 91 := ⟨by decide +kernel, rfl⟩
theorem d_X11_begins_91 : g_dc cX11_begins 91 (.iconst 0) 1 92 := ⟨by decide +kernel, rfl⟩
theorem d_X11_begins_92 : g_dc cX11_begins 92 (.iastore) 1 93 := ⟨by decide +kernel, rfl⟩
theorem d_X11_begins_93 : g_dc cX11_begins 93 (.aload_n 0) 1 94 := ⟨by decide +kernel, rfl⟩
theorem d_X11_begins_94 : g_dc cX11_begins 94 (.getfield 110) 3 97 := ⟨by decide +kernel, rfl⟩
theorem d_X11_begins_97 : g_dc cX11_begins 97 (.iload_n 1) 1 98 := ⟨by decide +kernel, rfl⟩
theorem d_X11_begins_98 : g_dc cX11_begins 98 (.iconst 0) 1 99 := ⟨by decide +kernel, rfl⟩
theorem d_X11_begins_99 : g_dc cX11_begins 99 (.iastore) 1 100 := ⟨by decide +kernel, rfl⟩
theorem d_X11_begins_100 : g_dc cX11_begins 100 (.aload_n 0) 1 101 := ⟨by decide +kernel, rfl⟩
theorem d_X11_begins_101 : g_dc cX11_begins 101 (.getfield 113) 3 104 := ⟨by decide +kernel, rfl⟩
theorem d_X11_begins_104 : g_dc cX11_begins 104 (.iload_n 1) 1 105 := ⟨by decide +kernel, rfl⟩
theorem d_X11_begins_105 : g_dc cX11_begins 105 (.iconst 0) 1 106 := ⟨by decide +kernel, rfl⟩
theorem d_X11_begins_106 : g_dc cX11_begins 106 (.iastore) 1 107 := ⟨by decide +kernel, rfl⟩
theorem d_X11_begins_107 : g_dc cX11_begins 107 (.iinc 1 1) 3 110 := ⟨by decide +kernel, rfl⟩
theorem d_X11_begins_110 : g_dc cX11_begins 110 (.goto (-75)) 3 113 := ⟨by decide +kernel, rfl⟩
theorem d_X11_begins_113 : g_dc cX11_begins 113 (.return_) 1 114 := ⟨by decide +kernel, rfl⟩
set_option maxHeartbeats 4000000 in
set_option maxRecDepth 100000 in
theorem c_X11_begins (l : Launch) (X : gX) (ad : Nat → Nat) (F : Nat → Int32) (R : Nat → Nat → Int32) : g_Cv l X yX11_begins cX11_begins 2 1 0 0 [.ref (ad 0)] (wM X ad F R) (fun w => ∃ R' : Nat → Nat → Int32, w = wM X ad (upd (upd (upd (upd (upd (upd F 45 0) 46 0) 48 (F 1)) 65 0) 66 0) 67 0) R') := by
  refine g_mv (by decide +kernel) (Nat.le_of_ble_eq_true rfl) (fun E cx hret => ?_)
  refine g_aload_n cx 0 rfl d_X11_begins_0 ?_
  refine g_iconst cx 0 (by decide) d_X11_begins_1 ?_
  refine g_put cx cl_X11 fl_X11_325 0 (wM X ad (upd F 45 0) R) d_X11_begins_2 rfl rfl rfl rfl (Nat.le_of_ble_eq_true rfl) rfl ?_
  refine g_aload_n cx 0 rfl d_X11_begins_5 ?_
  refine g_iconst cx 0 (by decide) d_X11_begins_6 ?_
  refine g_put cx cl_X11 fl_X11_328 0 (wM X ad (upd (upd F 45 0) 46 0) R) d_X11_begins_7 rfl rfl rfl rfl (Nat.le_of_ble_eq_true rfl) rfl ?_
  refine g_aload_n cx 0 rfl d_X11_begins_10 ?_
  refine g_aload_n cx 0 rfl d_X11_begins_11 ?_
  refine g_get cx cl_X11 fl_X11_159 0 (.int (F 1)) d_X11_begins_12 rfl rfl ?_
  refine g_put cx cl_X11 fl_X11_331 0 (wM X ad (upd (upd (upd F 45 0) 46 0) 48 (F 1)) R) d_X11_begins_15 rfl rfl rfl rfl (Nat.le_of_ble_eq_true rfl) rfl ?_
  refine g_aload_n cx 0 rfl d_X11_begins_18 ?_
  refine g_iconst cx 0 (by decide) d_X11_begins_19 ?_
  refine g_put cx cl_X11 fl_X11_334 0 (wM X ad (upd (upd (upd (upd F 45 0) 46 0) 48 (F 1)) 65 0) R) d_X11_begins_20 rfl rfl rfl rfl (Nat.le_of_ble_eq_true rfl) rfl ?_
  refine g_aload_n cx 0 rfl d_X11_begins_23 ?_
  refine g_iconst cx 0 (by decide) d_X11_begins_24 ?_
  refine g_put cx cl_X11 fl_X11_337 0 (wM X ad (upd (upd (upd (upd (upd F 45 0) 46 0) 48 (F 1)) 65 0) 66 0) R) d_X11_begins_25 rfl rfl rfl rfl (Nat.le_of_ble_eq_true rfl) rfl ?_
  refine g_aload_n cx 0 rfl d_X11_begins_28 ?_
  refine g_iconst cx 0 (by decide) d_X11_begins_29 ?_
  refine g_put cx cl_X11 fl_X11_340 0 (wM X ad (upd (upd (upd (upd (upd (upd F 45 0) 46 0) 48 (F 1)) 65 0) 66 0) 67 0) R) d_X11_begins_30 rfl rfl rfl rfl (Nat.le_of_ble_eq_true rfl) rfl ?_
  refine g_iconst cx 0 (by decide) d_X11_begins_33 ?_
  refine g_istore_n cx [(1, .int 0), (0, .ref (ad 0))] d_X11_begins_34 (by decide) rfl ?_
  have L35 : ∀ (N : Nat) (i : Nat) (x1 : Int32) (zR : Nat → Nat → Int32), 10 - i < N → (x1 = nI i) → (i ≤ 10) → G X E 2 0 0 (wM X ad (upd (upd (upd (upd (upd (upd F 45 0) 46 0) 48 (F 1)) 65 0) 66 0) 67 0) zR) [(0, .ref (ad 0)), (1, .int x1)] 35 [] := by
    intro N
    induction N with
    | zero => intro i x1 zR hm; exact absurd hm (Nat.not_lt_zero _)
    | succ N ih35 =>
      intro i x1 zR hm hx hi
      refine g_iload_n cx 1 rfl d_X11_begins_35 ?_
      refine g_bipush cx 10 (by decide) d_X11_begins_36 ?_
      refine g_icmp_ge cx 113 d_X11_begins_38 (by decide) (fun zc38 => ?_) (fun zc38 => ?_)
      · exact hret d_X11_begins_113 (Nat.le_of_ble_eq_true rfl) (Nat.le_of_ble_eq_true rfl) ⟨zR, rfl⟩
      · refine g_aload_n cx 0 rfl d_X11_begins_41 ?_
        refine g_get cx cl_X11 fl_X11_89 0 (.ref (ad 27)) d_X11_begins_42 rfl rfl ?_
        refine g_iload_n cx 1 rfl d_X11_begins_45 ?_
        refine g_iconst cx 0 (by decide) d_X11_begins_46 ?_
        refine g_iast cx 27 (wM X ad (upd (upd (upd (upd (upd (upd F 45 0) 46 0) 48 (F 1)) 65 0) 66 0) 67 0) (g_u zR 27 (upd (zR 27) (Int32.toNatClampNeg x1) 0))) d_X11_begins_47 rfl (by rw [hx]; exact vp_in_nI (g_lt10 (n := 10) hx (by omega) zc38) (by decide)) rfl ?_
        refine g_aload_n cx 0 rfl d_X11_begins_48 ?_
        refine g_get cx cl_X11 fl_X11_92 0 (.ref (ad 28)) d_X11_begins_49 rfl rfl ?_
        refine g_iload_n cx 1 rfl d_X11_begins_52 ?_
        refine g_iconst cx 0 (by decide) d_X11_begins_53 ?_
        refine g_iast cx 28 (wM X ad (upd (upd (upd (upd (upd (upd F 45 0) 46 0) 48 (F 1)) 65 0) 66 0) 67 0) (g_u (g_u zR 27 (upd (zR 27) (Int32.toNatClampNeg x1) 0)) 28 (upd (zR 28) (Int32.toNatClampNeg x1) 0))) d_X11_begins_54 rfl (by rw [hx]; exact vp_in_nI (g_lt10 (n := 10) hx (by omega) zc38) (by decide)) rfl ?_
        refine g_aload_n cx 0 rfl d_X11_begins_55 ?_
        refine g_get cx cl_X11 fl_X11_95 0 (.ref (ad 29)) d_X11_begins_56 rfl rfl ?_
        refine g_iload_n cx 1 rfl d_X11_begins_59 ?_
        refine g_aload_n cx 0 rfl d_X11_begins_60 ?_
        refine g_get cx cl_X11 fl_X11_28 0 (.ref (ad 7)) d_X11_begins_61 rfl rfl ?_
        refine g_iload_n cx 1 rfl d_X11_begins_64 ?_
        refine g_iald cx 7 d_X11_begins_65 rfl (by rw [hx]; exact vp_in_nI (g_lt10 (n := 10) hx (by omega) zc38) (by decide)) ?_
        refine g_iast cx 29 (wM X ad (upd (upd (upd (upd (upd (upd F 45 0) 46 0) 48 (F 1)) 65 0) 66 0) 67 0) (g_u (g_u (g_u zR 27 (upd (zR 27) (Int32.toNatClampNeg x1) 0)) 28 (upd (zR 28) (Int32.toNatClampNeg x1) 0)) 29 (upd (zR 29) (Int32.toNatClampNeg x1) ((zR 7) (Int32.toNatClampNeg x1))))) d_X11_begins_66 rfl (by rw [hx]; exact vp_in_nI (g_lt10 (n := 10) hx (by omega) zc38) (by decide)) rfl ?_
        refine g_aload_n cx 0 rfl d_X11_begins_67 ?_
        refine g_get cx cl_X11 fl_X11_101 0 (.ref (ad 31)) d_X11_begins_68 rfl rfl ?_
        refine g_iload_n cx 1 rfl d_X11_begins_71 ?_
        refine g_aload_n cx 0 rfl d_X11_begins_72 ?_
        refine g_get cx cl_X11 fl_X11_19 0 (.ref (ad 4)) d_X11_begins_73 rfl rfl ?_
        refine g_iload_n cx 1 rfl d_X11_begins_76 ?_
        refine g_iald cx 4 d_X11_begins_77 rfl (by rw [hx]; exact vp_in_nI (g_lt10 (n := 10) hx (by omega) zc38) (by decide)) ?_
        refine g_iast cx 31 (wM X ad (upd (upd (upd (upd (upd (upd F 45 0) 46 0) 48 (F 1)) 65 0) 66 0) 67 0) (g_u (g_u (g_u (g_u zR 27 (upd (zR 27) (Int32.toNatClampNeg x1) 0)) 28 (upd (zR 28) (Int32.toNatClampNeg x1) 0)) 29 (upd (zR 29) (Int32.toNatClampNeg x1) ((zR 7) (Int32.toNatClampNeg x1)))) 31 (upd (zR 31) (Int32.toNatClampNeg x1) ((zR 4) (Int32.toNatClampNeg x1))))) d_X11_begins_78 rfl (by rw [hx]; exact vp_in_nI (g_lt10 (n := 10) hx (by omega) zc38) (by decide)) rfl ?_
        refine g_aload_n cx 0 rfl d_X11_begins_79 ?_
        refine g_get cx cl_X11 fl_X11_104 0 (.ref (ad 32)) d_X11_begins_80 rfl rfl ?_
        refine g_iload_n cx 1 rfl d_X11_begins_83 ?_
        refine g_iconst cx 0 (by decide) d_X11_begins_84 ?_
        refine g_iast cx 32 (wM X ad (upd (upd (upd (upd (upd (upd F 45 0) 46 0) 48 (F 1)) 65 0) 66 0) 67 0) (g_u (g_u (g_u (g_u (g_u zR 27 (upd (zR 27) (Int32.toNatClampNeg x1) 0)) 28 (upd (zR 28) (Int32.toNatClampNeg x1) 0)) 29 (upd (zR 29) (Int32.toNatClampNeg x1) ((zR 7) (Int32.toNatClampNeg x1)))) 31 (upd (zR 31) (Int32.toNatClampNeg x1) ((zR 4) (Int32.toNatClampNeg x1)))) 32 (upd (zR 32) (Int32.toNatClampNeg x1) 0))) d_X11_begins_85 rfl (by rw [hx]; exact vp_in_nI (g_lt10 (n := 10) hx (by omega) zc38) (by decide)) rfl ?_
        refine g_aload_n cx 0 rfl d_X11_begins_86 ?_
        refine g_get cx cl_X11 fl_X11_107 0 (.ref (ad 33)) d_X11_begins_87 rfl rfl ?_
        refine g_iload_n cx 1 rfl d_X11_begins_90 ?_
        refine g_iconst cx 0 (by decide) d_X11_begins_91 ?_
        refine g_iast cx 33 (wM X ad (upd (upd (upd (upd (upd (upd F 45 0) 46 0) 48 (F 1)) 65 0) 66 0) 67 0) (g_u (g_u (g_u (g_u (g_u (g_u zR 27 (upd (zR 27) (Int32.toNatClampNeg x1) 0)) 28 (upd (zR 28) (Int32.toNatClampNeg x1) 0)) 29 (upd (zR 29) (Int32.toNatClampNeg x1) ((zR 7) (Int32.toNatClampNeg x1)))) 31 (upd (zR 31) (Int32.toNatClampNeg x1) ((zR 4) (Int32.toNatClampNeg x1)))) 32 (upd (zR 32) (Int32.toNatClampNeg x1) 0)) 33 (upd (zR 33) (Int32.toNatClampNeg x1) 0))) d_X11_begins_92 rfl (by rw [hx]; exact vp_in_nI (g_lt10 (n := 10) hx (by omega) zc38) (by decide)) rfl ?_
        refine g_aload_n cx 0 rfl d_X11_begins_93 ?_
        refine g_get cx cl_X11 fl_X11_110 0 (.ref (ad 34)) d_X11_begins_94 rfl rfl ?_
        refine g_iload_n cx 1 rfl d_X11_begins_97 ?_
        refine g_iconst cx 0 (by decide) d_X11_begins_98 ?_
        refine g_iast cx 34 (wM X ad (upd (upd (upd (upd (upd (upd F 45 0) 46 0) 48 (F 1)) 65 0) 66 0) 67 0) (g_u (g_u (g_u (g_u (g_u (g_u (g_u zR 27 (upd (zR 27) (Int32.toNatClampNeg x1) 0)) 28 (upd (zR 28) (Int32.toNatClampNeg x1) 0)) 29 (upd (zR 29) (Int32.toNatClampNeg x1) ((zR 7) (Int32.toNatClampNeg x1)))) 31 (upd (zR 31) (Int32.toNatClampNeg x1) ((zR 4) (Int32.toNatClampNeg x1)))) 32 (upd (zR 32) (Int32.toNatClampNeg x1) 0)) 33 (upd (zR 33) (Int32.toNatClampNeg x1) 0)) 34 (upd (zR 34) (Int32.toNatClampNeg x1) 0))) d_X11_begins_99 rfl (by rw [hx]; exact vp_in_nI (g_lt10 (n := 10) hx (by omega) zc38) (by decide)) rfl ?_
        refine g_aload_n cx 0 rfl d_X11_begins_100 ?_
        refine g_get cx cl_X11 fl_X11_113 0 (.ref (ad 35)) d_X11_begins_101 rfl rfl ?_
        refine g_iload_n cx 1 rfl d_X11_begins_104 ?_
        refine g_iconst cx 0 (by decide) d_X11_begins_105 ?_
        refine g_iast cx 35 (wM X ad (upd (upd (upd (upd (upd (upd F 45 0) 46 0) 48 (F 1)) 65 0) 66 0) 67 0) (g_u (g_u (g_u (g_u (g_u (g_u (g_u (g_u zR 27 (upd (zR 27) (Int32.toNatClampNeg x1) 0)) 28 (upd (zR 28) (Int32.toNatClampNeg x1) 0)) 29 (upd (zR 29) (Int32.toNatClampNeg x1) ((zR 7) (Int32.toNatClampNeg x1)))) 31 (upd (zR 31) (Int32.toNatClampNeg x1) ((zR 4) (Int32.toNatClampNeg x1)))) 32 (upd (zR 32) (Int32.toNatClampNeg x1) 0)) 33 (upd (zR 33) (Int32.toNatClampNeg x1) 0)) 34 (upd (zR 34) (Int32.toNatClampNeg x1) 0)) 35 (upd (zR 35) (Int32.toNatClampNeg x1) 0))) d_X11_begins_106 rfl (by rw [hx]; exact vp_in_nI (g_lt10 (n := 10) hx (by omega) zc38) (by decide)) rfl ?_
        refine g_iinc cx (x1 + 1) [(1, .int (x1 + 1)), (0, .ref (ad 0))] 1 d_X11_begins_107 rfl (rfl) (by decide) rfl ?_
        refine g_goto cx 35 d_X11_begins_110 (by decide) ?_
        refine g_lsub [1, 0] [(0, .ref (ad 0)), (1, .int (x1 + 1))] rfl ?_
        exact ih35 (i + 1) (x1 + 1) (g_u (g_u (g_u (g_u (g_u (g_u (g_u (g_u zR 27 (upd (zR 27) (Int32.toNatClampNeg x1) 0)) 28 (upd (zR 28) (Int32.toNatClampNeg x1) 0)) 29 (upd (zR 29) (Int32.toNatClampNeg x1) ((zR 7) (Int32.toNatClampNeg x1)))) 31 (upd (zR 31) (Int32.toNatClampNeg x1) ((zR 4) (Int32.toNatClampNeg x1)))) 32 (upd (zR 32) (Int32.toNatClampNeg x1) 0)) 33 (upd (zR 33) (Int32.toNatClampNeg x1) 0)) 34 (upd (zR 34) (Int32.toNatClampNeg x1) 0)) 35 (upd (zR 35) (Int32.toNatClampNeg x1) 0)) (by have := g_lt10 (n := 10) hx (by omega) zc38; omega) (by rw [hx]; exact nI_1 i) (by have := g_lt10 (n := 10) hx (by omega) zc38; omega)
  refine g_lsub [1, 0] [(0, .ref (ad 0)), (1, .int 0)] rfl ?_
  exact L35 _ 0 0 R (Nat.lt_succ_self _) nI_0.symm (by omega)
theorem d_X11_paceNow_0 : g_dc cX11_paceNow 0 (.aload_n 0) 1 1 := ⟨by decide +kernel, rfl⟩
theorem d_X11_paceNow_1 : g_dc cX11_paceNow 1 (.getfield 325) 3 4 := ⟨by decide +kernel, rfl⟩
theorem d_X11_paceNow_4 : g_dc cX11_paceNow 4 (.aload_n 0) 1 5 := ⟨by decide +kernel, rfl⟩
theorem d_X11_paceNow_5 : g_dc cX11_paceNow 5 (.getfield 309) 3 8 := ⟨by decide +kernel, rfl⟩
theorem d_X11_paceNow_8 : g_dc cX11_paceNow 8 (.if_icmp .ge 15) 3 11 := ⟨by decide +kernel, rfl⟩
theorem d_X11_paceNow_11 : g_dc cX11_paceNow 11 (.aload_n 0) 1 12 := ⟨by decide +kernel, rfl⟩
theorem d_X11_paceNow_12 : g_dc cX11_paceNow 12 (.getfield 83) 3 15 := ⟨by decide +kernel, rfl⟩
theorem d_X11_paceNow_15 : g_dc cX11_paceNow 15 (.aload_n 0) 1 16 := ⟨by decide +kernel, rfl⟩
theorem d_X11_paceNow_16 : g_dc cX11_paceNow 16 (.getfield 325) 3 19 := ⟨by decide +kernel, rfl⟩
theorem d_X11_paceNow_19 : g_dc cX11_paceNow 19 (.iaload) 1 20 := ⟨by decide +kernel, rfl⟩
theorem d_X11_paceNow_20 : g_dc cX11_paceNow 20 (.goto 4) 3 23 := ⟨by decide +kernel, rfl⟩
theorem d_X11_paceNow_23 : g_dc cX11_paceNow 23 (.iconst 0) 1 24 := ⟨by decide +kernel, rfl⟩
theorem d_X11_paceNow_24 : g_dc cX11_paceNow 24 (.ireturn) 1 25 := ⟨by decide +kernel, rfl⟩
set_option maxHeartbeats 4000000 in
set_option maxRecDepth 100000 in
theorem c_X11_paceNow (l : Launch) (X : gX) (ad : Nat → Nat) (F : Nat → Int32) (R : Nat → Nat → Int32) (t tk : Nat) (h45 : F 45 = nI t) (h44 : F 44 = nI tk) (ht : t ≤ 60) (h60 : tk ≤ 60) : g_Ci l X yX11_paceNow cX11_paceNow 1 (some .int) 1 0 0 [.ref (ad 0)] (wM X ad F R) (fun r w => w = wM X ad F R ∧ r = r) := by
  refine g_mi (by decide +kernel) (Nat.le_of_ble_eq_true rfl) (fun E cx hret => ?_)
  refine g_aload_n cx 0 rfl d_X11_paceNow_0 ?_
  refine g_get cx cl_X11 fl_X11_325 0 (.int (F 45)) d_X11_paceNow_1 rfl rfl ?_
  refine g_aload_n cx 0 rfl d_X11_paceNow_4 ?_
  refine g_get cx cl_X11 fl_X11_309 0 (.int (F 44)) d_X11_paceNow_5 rfl rfl ?_
  refine g_icmp_ge cx 23 d_X11_paceNow_8 (by decide) (fun zc8 => ?_) (fun zc8 => ?_)
  · refine g_iconst cx 0 (by decide) d_X11_paceNow_23 ?_
    exact hret d_X11_paceNow_24 (Nat.le_of_ble_eq_true rfl) (Nat.le_of_ble_eq_true rfl) rfl (⟨rfl, rfl⟩)
  · refine g_aload_n cx 0 rfl d_X11_paceNow_11 ?_
    refine g_get cx cl_X11 fl_X11_83 0 (.ref (ad 25)) d_X11_paceNow_12 rfl rfl ?_
    refine g_aload_n cx 0 rfl d_X11_paceNow_15 ?_
    refine g_get cx cl_X11 fl_X11_325 0 (.int (F 45)) d_X11_paceNow_16 rfl rfl ?_
    refine g_iald cx 25 d_X11_paceNow_19 rfl (by rw [h45]; exact vp_in_nI (by have := g_lt_of2 h45 h44 (by omega) (by omega) zc8; omega) (by decide)) ?_
    refine g_goto cx 24 d_X11_paceNow_20 (by decide) ?_
    exact hret d_X11_paceNow_24 (Nat.le_of_ble_eq_true rfl) (Nat.le_of_ble_eq_true rfl) rfl (⟨rfl, rfl⟩)
theorem d_X11_slipsNow_0 : g_dc cX11_slipsNow 0 (.aload_n 0) 1 1 := ⟨by decide +kernel, rfl⟩
theorem d_X11_slipsNow_1 : g_dc cX11_slipsNow 1 (.getfield 325) 3 4 := ⟨by decide +kernel, rfl⟩
theorem d_X11_slipsNow_4 : g_dc cX11_slipsNow 4 (.aload_n 0) 1 5 := ⟨by decide +kernel, rfl⟩
theorem d_X11_slipsNow_5 : g_dc cX11_slipsNow 5 (.getfield 309) 3 8 := ⟨by decide +kernel, rfl⟩
theorem d_X11_slipsNow_8 : g_dc cX11_slipsNow 8 (.if_icmp .lt 5) 3 11 := ⟨by decide +kernel, rfl⟩
theorem d_X11_slipsNow_11 : g_dc cX11_slipsNow 11 (.iconst 0) 1 12 := ⟨by decide +kernel, rfl⟩
theorem d_X11_slipsNow_12 : g_dc cX11_slipsNow 12 (.ireturn) 1 13 := ⟨by decide +kernel, rfl⟩
theorem d_X11_slipsNow_13 : g_dc cX11_slipsNow 13 (.aload_n 0) 1 14 := ⟨by decide +kernel, rfl⟩
theorem d_X11_slipsNow_14 : g_dc cX11_slipsNow 14 (.getfield 318) 3 17 := ⟨by decide +kernel, rfl⟩
theorem d_X11_slipsNow_17 : g_dc cX11_slipsNow 17 (.ifCond .ne 16) 3 20 := ⟨by decide +kernel, rfl⟩
theorem d_X11_slipsNow_20 : g_dc cX11_slipsNow 20 (.aload_n 0) 1 21 := ⟨by decide +kernel, rfl⟩
theorem d_X11_slipsNow_21 : g_dc cX11_slipsNow 21 (.getfield 325) 3 24 := ⟨by decide +kernel, rfl⟩
theorem d_X11_slipsNow_24 : g_dc cX11_slipsNow 24 (.aload_n 0) 1 25 := ⟨by decide +kernel, rfl⟩
theorem d_X11_slipsNow_25 : g_dc cX11_slipsNow 25 (.getfield 322) 3 28 := ⟨by decide +kernel, rfl⟩
theorem d_X11_slipsNow_28 : g_dc cX11_slipsNow 28 (.if_icmp .lt 5) 3 31 := ⟨by decide +kernel, rfl⟩
theorem d_X11_slipsNow_31 : g_dc cX11_slipsNow 31 (.iconst 0) 1 32 := ⟨by decide +kernel, rfl⟩
theorem d_X11_slipsNow_32 : g_dc cX11_slipsNow 32 (.ireturn) 1 33 := ⟨by decide +kernel, rfl⟩
set_option maxHeartbeats 4000000 in
set_option maxRecDepth 100000 in
theorem c_X11_slipsNow (l : Launch) (X : gX) (ad : Nat → Nat) (F : Nat → Int32) (R : Nat → Nat → Int32) (h45 : ¬ F 45 < 0) (h49 : F 49 = 0) (h51 : F 51 = 0) : g_Ci l X yX11_slipsNow cX11_slipsNow 3 (some .int) 1 0 0 [.ref (ad 0)] (wM X ad F R) (fun r w => w = wM X ad F R ∧ r = 0) := by
  refine g_mi (by decide +kernel) (Nat.le_of_ble_eq_true rfl) (fun E cx hret => ?_)
  refine g_aload_n cx 0 rfl d_X11_slipsNow_0 ?_
  refine g_get cx cl_X11 fl_X11_325 0 (.int (F 45)) d_X11_slipsNow_1 rfl rfl ?_
  refine g_aload_n cx 0 rfl d_X11_slipsNow_4 ?_
  refine g_get cx cl_X11 fl_X11_309 0 (.int (F 44)) d_X11_slipsNow_5 rfl rfl ?_
  refine g_icmp_lt cx 13 d_X11_slipsNow_8 (by decide) (fun zc8 => ?_) (fun zc8 => ?_)
  · refine g_aload_n cx 0 rfl d_X11_slipsNow_13 ?_
    refine g_get cx cl_X11 fl_X11_318 0 (.int (F 51)) d_X11_slipsNow_14 rfl rfl ?_
    refine g_toi 0 (h51) ?_
    refine g_if_ne_f cx 33 d_X11_slipsNow_17 (by decide) (by decide) ?_
    refine g_aload_n cx 0 rfl d_X11_slipsNow_20 ?_
    refine g_get cx cl_X11 fl_X11_325 0 (.int (F 45)) d_X11_slipsNow_21 rfl rfl ?_
    refine g_aload_n cx 0 rfl d_X11_slipsNow_24 ?_
    refine g_get cx cl_X11 fl_X11_322 0 (.int (F 49)) d_X11_slipsNow_25 rfl rfl ?_
    refine g_toi 0 (h49) ?_
    refine g_icmp_lt_f cx 33 d_X11_slipsNow_28 (by decide) (h45) ?_
    refine g_iconst cx 0 (by decide) d_X11_slipsNow_31 ?_
    exact hret d_X11_slipsNow_32 (Nat.le_of_ble_eq_true rfl) (Nat.le_of_ble_eq_true rfl) rfl (⟨rfl, rfl⟩)
  · refine g_iconst cx 0 (by decide) d_X11_slipsNow_11 ?_
    exact hret d_X11_slipsNow_12 (Nat.le_of_ble_eq_true rfl) (Nat.le_of_ble_eq_true rfl) rfl (⟨rfl, rfl⟩)
theorem d_X11_ticks_0 : g_dc cX11_ticks 0 (.aload_n 0) 1 1 := ⟨by decide +kernel, rfl⟩
theorem d_X11_ticks_1 : g_dc cX11_ticks 1 (.iconst 0) 1 2 := ⟨by decide +kernel, rfl⟩
theorem d_X11_ticks_2 : g_dc cX11_ticks 2 (.aload_n 0) 1 3 := ⟨by decide +kernel, rfl⟩
theorem d_X11_ticks_3 : g_dc cX11_ticks 3 (.invokevirtual 350) 3 6 := ⟨by decide +kernel, rfl⟩
theorem d_X11_ticks_6 : g_dc cX11_ticks 6 (.aload_n 0) 1 7 := ⟨by decide +kernel, rfl⟩
theorem d_X11_ticks_7 : g_dc cX11_ticks 7 (.invokevirtual 380) 3 10 := ⟨by decide +kernel, rfl⟩
theorem d_X11_ticks_10 : g_dc cX11_ticks 10 (.isub) 1 11 := ⟨by decide +kernel, rfl⟩
theorem d_X11_ticks_11 : g_dc cX11_ticks 11 (.invokestatic 371) 3 14 := ⟨by decide +kernel, rfl⟩
theorem d_X11_ticks_14 : g_dc cX11_ticks 14 (.putfield 356) 3 17 := ⟨by decide +kernel, rfl⟩
theorem d_X11_ticks_17 : g_dc cX11_ticks 17 (.aload_n 0) 1 18 := ⟨by decide +kernel, rfl⟩
theorem d_X11_ticks_18 : g_dc cX11_ticks 18 (.iconst 0) 1 19 := ⟨by decide +kernel, rfl⟩
theorem d_X11_ticks_19 : g_dc cX11_ticks 19 (.aload_n 0) 1 20 := ⟨by decide +kernel, rfl⟩
theorem d_X11_ticks_20 : g_dc cX11_ticks 20 (.getfield 331) 3 23 := ⟨by decide +kernel, rfl⟩
theorem d_X11_ticks_23 : g_dc cX11_ticks 23 (.aload_n 0) 1 24 := ⟨by decide +kernel, rfl⟩
theorem d_X11_ticks_24 : g_dc cX11_ticks 24 (.getfield 356) 3 27 := ⟨by decide +kernel, rfl⟩
theorem d_X11_ticks_27 : g_dc cX11_ticks 27 (.isub) 1 28 := ⟨by decide +kernel, rfl⟩
theorem d_X11_ticks_28 : g_dc cX11_ticks 28 (.invokestatic 371) 3 31 := ⟨by decide +kernel, rfl⟩
theorem d_X11_ticks_31 : g_dc cX11_ticks 31 (.putfield 331) 3 34 := ⟨by decide +kernel, rfl⟩
theorem d_X11_ticks_34 : g_dc cX11_ticks 34 (.iconst 0) 1 35 := ⟨by decide +kernel, rfl⟩
theorem d_X11_ticks_35 : g_dc cX11_ticks 35 (.istore_n 1) 1 36 := ⟨by decide +kernel, rfl⟩
theorem d_X11_ticks_36 : g_dc cX11_ticks 36 (.aload_n 0) 1 37 := ⟨by decide +kernel, rfl⟩
theorem d_X11_ticks_37 : g_dc cX11_ticks 37 (.iconst 0) 1 38 := ⟨by decide +kernel, rfl⟩
theorem d_X11_ticks_38 : g_dc cX11_ticks 38 (.putfield 362) 3 41 := ⟨by decide +kernel, rfl⟩
theorem d_X11_ticks_41 : g_dc cX11_ticks 41 (.aload_n 0) 1 42 := ⟨by decide +kernel, rfl⟩
theorem d_X11_ticks_42 : g_dc cX11_ticks 42 (.iconst 0) 1 43 := ⟨by decide +kernel, rfl⟩
theorem d_X11_ticks_43 : g_dc cX11_ticks 43 (.putfield 377) 3 46 := ⟨by decide +kernel, rfl⟩
theorem d_X11_ticks_46 : g_dc cX11_ticks 46 (.iconst 0) 1 47 := ⟨by decide +kernel, rfl⟩
theorem d_X11_ticks_47 : g_dc cX11_ticks 47 (.istore_n 2) 1 48 := ⟨by decide +kernel, rfl⟩
theorem d_X11_ticks_48 : g_dc cX11_ticks 48 (.iload_n 2) 1 49 := ⟨by decide +kernel, rfl⟩
theorem d_X11_ticks_49 : g_dc cX11_ticks 49 (.bipush 10) 2 51 := ⟨by decide +kernel, rfl⟩
theorem d_X11_ticks_51 : g_dc cX11_ticks 51 (.if_icmp .ge 63) 3 54 := ⟨by decide +kernel, rfl⟩
theorem d_X11_ticks_54 : g_dc cX11_ticks 54 (.aload_n 0) 1 55 := ⟨by decide +kernel, rfl⟩
theorem d_X11_ticks_55 : g_dc cX11_ticks 55 (.iload_n 2) 1 56 := ⟨by decide +kernel, rfl⟩
theorem d_X11_ticks_56 : g_dc cX11_ticks 56 (.invokevirtual 343) 3 59 := ⟨by decide +kernel, rfl⟩
theorem d_X11_ticks_59 : g_dc cX11_ticks 59 (.ifCond .ne 6) 3 62 := ⟨by decide +kernel, rfl⟩
theorem d_X11_ticks_62 : g_dc cX11_ticks 62 (.goto 46) 3 65 := ⟨by decide +kernel, rfl⟩
theorem d_X11_ticks_108 : g_dc cX11_ticks 108 (.iinc 2 1) 3 111 := ⟨by decide +kernel, rfl⟩
theorem d_X11_ticks_111 : g_dc cX11_ticks 111 (.goto (-63)) 3 114 := ⟨by decide +kernel, rfl⟩
theorem d_X11_ticks_114 : g_dc cX11_ticks 114 (.iconst 0) 1 115 := ⟨by decide +kernel, rfl⟩
theorem d_X11_ticks_115 : g_dc cX11_ticks 115 (.istore_n 2) 1 116 := ⟨by decide +kernel, rfl⟩
theorem d_X11_ticks_116 : g_dc cX11_ticks 116 (.iload_n 2) 1 117 := ⟨by decide +kernel, rfl⟩
theorem d_X11_ticks_117 : g_dc cX11_ticks 117 (.bipush 10) 2 119 := ⟨by decide +kernel, rfl⟩
theorem d_X11_ticks_119 : g_dc cX11_ticks 119 (.if_icmp .ge 22) 3 122 := ⟨by decide +kernel, rfl⟩
theorem d_X11_ticks_122 : g_dc cX11_ticks 122 (.iload_n 1) 1 123 := ⟨by decide +kernel, rfl⟩
theorem d_X11_ticks_123 : g_dc cX11_ticks 123 (.iload_n 2) 1 124 := ⟨by decide +kernel, rfl⟩
theorem d_X11_ticks_124 : g_dc cX11_ticks 124 (.invokestatic 175) 3 127 := ⟨by decide +kernel, rfl⟩
theorem d_X11_ticks_127 : g_dc cX11_ticks 127 (.ifCond .eq 8) 3 130 := ⟨by decide +kernel, rfl⟩
theorem d_X11_ticks_135 : g_dc cX11_ticks 135 (.iinc 2 1) 3 138 := ⟨by decide +kernel, rfl⟩
theorem d_X11_ticks_138 : g_dc cX11_ticks 138 (.goto (-22)) 3 141 := ⟨by decide +kernel, rfl⟩
theorem d_X11_ticks_141 : g_dc cX11_ticks 141 (.iconst 0) 1 142 := ⟨by decide +kernel, rfl⟩
theorem d_X11_ticks_142 : g_dc cX11_ticks 142 (.istore_n 2) 1 143 := ⟨by decide +kernel, rfl⟩
theorem d_X11_ticks_143 : g_dc cX11_ticks 143 (.iload_n 2) 1 144 := ⟨by decide +kernel, rfl⟩
theorem d_X11_ticks_144 : g_dc cX11_ticks 144 (.bipush 10) 2 146 := ⟨by decide +kernel, rfl⟩
theorem d_X11_ticks_146 : g_dc cX11_ticks 146 (.if_icmp .ge 31) 3 149 := ⟨by decide +kernel, rfl⟩
theorem d_X11_ticks_149 : g_dc cX11_ticks 149 (.iload_n 1) 1 150 := ⟨by decide +kernel, rfl⟩
theorem d_X11_ticks_150 : g_dc cX11_ticks 150 (.iload_n 2) 1 151 := ⟨by decide +kernel, rfl⟩
theorem d_X11_ticks_151 : g_dc cX11_ticks 151 (.invokestatic 175) 3 154 := ⟨by decide +kernel, rfl⟩
theorem d_X11_ticks_154 : g_dc cX11_ticks 154 (.ifCond .eq 17) 3 157 := ⟨by decide +kernel, rfl⟩
theorem d_X11_ticks_171 : g_dc cX11_ticks 171 (.iinc 2 1) 3 174 := ⟨by decide +kernel, rfl⟩
theorem d_X11_ticks_174 : g_dc cX11_ticks 174 (.goto (-31)) 3 177 := ⟨by decide +kernel, rfl⟩
theorem d_X11_ticks_177 : g_dc cX11_ticks 177 (.aload_n 0) 1 178 := ⟨by decide +kernel, rfl⟩
theorem d_X11_ticks_178 : g_dc cX11_ticks 178 (.invokevirtual 389) 3 181 := ⟨by decide +kernel, rfl⟩
theorem d_X11_ticks_181 : g_dc cX11_ticks 181 (.istore_n 2) 1 182 := ⟨by decide +kernel, rfl⟩
theorem d_X11_ticks_182 : g_dc cX11_ticks 182 (.iconst 0) 1 183 := ⟨by decide +kernel, rfl⟩
theorem d_X11_ticks_183 : g_dc cX11_ticks 183 (.istore_n 3) 1 184 := ⟨by decide +kernel, rfl⟩
theorem d_X11_ticks_184 : g_dc cX11_ticks 184 (.iload_n 3) 1 185 := ⟨by decide +kernel, rfl⟩
theorem d_X11_ticks_185 : g_dc cX11_ticks 185 (.iconst 1) 1 186 := ⟨by decide +kernel, rfl⟩
theorem d_X11_ticks_186 : g_dc cX11_ticks 186 (.iadd) 1 187 := ⟨by decide +kernel, rfl⟩
theorem d_X11_ticks_187 : g_dc cX11_ticks 187 (.iload_n 2) 1 188 := ⟨by decide +kernel, rfl⟩
theorem d_X11_ticks_188 : g_dc cX11_ticks 188 (.if_icmp .ge 27) 3 191 := ⟨by decide +kernel, rfl⟩
theorem d_X11_ticks_215 : g_dc cX11_ticks 215 (.iconst 0) 1 216 := ⟨by decide +kernel, rfl⟩
theorem d_X11_ticks_216 : g_dc cX11_ticks 216 (.istore_n 3) 1 217 := ⟨by decide +kernel, rfl⟩
theorem d_X11_ticks_217 : g_dc cX11_ticks 217 (.iload_n 3) 1 218 := ⟨by decide +kernel, rfl⟩
theorem d_X11_ticks_218 : g_dc cX11_ticks 218 (.bipush 10) 2 220 := ⟨by decide +kernel, rfl⟩
theorem d_X11_ticks_220 : g_dc cX11_ticks 220 (.if_icmp .ge 22) 3 223 := ⟨by decide +kernel, rfl⟩
theorem d_X11_ticks_223 : g_dc cX11_ticks 223 (.iload_n 1) 1 224 := ⟨by decide +kernel, rfl⟩
theorem d_X11_ticks_224 : g_dc cX11_ticks 224 (.iload_n 3) 1 225 := ⟨by decide +kernel, rfl⟩
theorem d_X11_ticks_225 : g_dc cX11_ticks 225 (.invokestatic 175) 3 228 := ⟨by decide +kernel, rfl⟩
theorem d_X11_ticks_228 : g_dc cX11_ticks 228 (.ifCond .eq 8) 3 231 := ⟨by decide +kernel, rfl⟩
theorem d_X11_ticks_236 : g_dc cX11_ticks 236 (.iinc 3 1) 3 239 := ⟨by decide +kernel, rfl⟩
theorem d_X11_ticks_239 : g_dc cX11_ticks 239 (.goto (-22)) 3 242 := ⟨by decide +kernel, rfl⟩
theorem d_X11_ticks_242 : g_dc cX11_ticks 242 (.aload_n 0) 1 243 := ⟨by decide +kernel, rfl⟩
theorem d_X11_ticks_243 : g_dc cX11_ticks 243 (.aload_n 0) 1 244 := ⟨by decide +kernel, rfl⟩
theorem d_X11_ticks_244 : g_dc cX11_ticks 244 (.getfield 337) 3 247 := ⟨by decide +kernel, rfl⟩
theorem d_X11_ticks_247 : g_dc cX11_ticks 247 (.aload_n 0) 1 248 := ⟨by decide +kernel, rfl⟩
theorem d_X11_ticks_248 : g_dc cX11_ticks 248 (.getfield 377) 3 251 := ⟨by decide +kernel, rfl⟩
theorem d_X11_ticks_251 : g_dc cX11_ticks 251 (.ior) 1 252 := ⟨by decide +kernel, rfl⟩
theorem d_X11_ticks_252 : g_dc cX11_ticks 252 (.putfield 337) 3 255 := ⟨by decide +kernel, rfl⟩
theorem d_X11_ticks_255 : g_dc cX11_ticks 255 (.aload_n 0) 1 256 := ⟨by decide +kernel, rfl⟩
theorem d_X11_ticks_256 : g_dc cX11_ticks 256 (.aload_n 0) 1 257 := ⟨by decide +kernel, rfl⟩
theorem d_X11_ticks_257 : g_dc cX11_ticks 257 (.getfield 328) 3 260 := ⟨by decide +kernel, rfl⟩
theorem d_X11_ticks_260 : g_dc cX11_ticks 260 (.aload_n 0) 1 261 := ⟨by decide +kernel, rfl⟩
theorem d_X11_ticks_261 : g_dc cX11_ticks 261 (.getfield 356) 3 264 := ⟨by decide +kernel, rfl⟩
theorem d_X11_ticks_264 : g_dc cX11_ticks 264 (.iadd) 1 265 := ⟨by decide +kernel, rfl⟩
theorem d_X11_ticks_265 : g_dc cX11_ticks 265 (.putfield 328) 3 268 := ⟨by decide +kernel, rfl⟩
theorem d_X11_ticks_268 : g_dc cX11_ticks 268 (.aload_n 0) 1 269 := ⟨by decide +kernel, rfl⟩
theorem d_X11_ticks_269 : g_dc cX11_ticks 269 (.aload_n 0) 1 270 := ⟨by decide +kernel, rfl⟩
theorem d_X11_ticks_270 : g_dc cX11_ticks 270 (.getfield 325) 3 273 := ⟨by decide +kernel, rfl⟩
theorem d_X11_ticks_273 : g_dc cX11_ticks 273 (.iconst 1) 1 274 := ⟨by decide +kernel, rfl⟩
theorem d_X11_ticks_274 : g_dc cX11_ticks 274 (.iadd) 1 275 := ⟨by decide +kernel, rfl⟩
theorem d_X11_ticks_275 : g_dc cX11_ticks 275 (.putfield 325) 3 278 := ⟨by decide +kernel, rfl⟩
theorem d_X11_ticks_278 : g_dc cX11_ticks 278 (.return_) 1 279 := ⟨by decide +kernel, rfl⟩
set_option maxHeartbeats 4000000 in
set_option maxRecDepth 100000 in
theorem c_X11_ticks (l : Launch) (X : gX) (ad : Nat → Nat) (F : Nat → Int32) (R : Nat → Nat → Int32) (t tk : Nat) (h45 : F 45 = nI t) (h44 : F 44 = nI tk) (ht : t ≤ 60) (h60 : tk ≤ 60) (h42 : F 42 = 0) (h49 : F 49 = 0) (h51 : F 51 = 0) : g_Cv l X yX11_ticks cX11_ticks 4 4 0 0 [.ref (ad 0)] (wM X ad F R) (fun w => ∃ (F' : Nat → Int32) (R' : Nat → Nat → Int32), w = wM X ad F' R' ∧ P_mt F F') := by
  refine g_mv (by decide +kernel) (Nat.le_of_ble_eq_true rfl) (fun E cx hret => ?_)
  refine g_aload_n cx 0 rfl d_X11_ticks_0 ?_
  refine g_iconst cx 0 (by decide) d_X11_ticks_1 ?_
  refine g_aload_n cx 0 rfl d_X11_ticks_2 ?_
  refine g_cViW cx [] [.int 0, .ref (ad 0)] (c_X11_paceNow l X ad F R t tk h45 h44 ht h60) ml_X11_350 yV_X11_paceNow d_X11_ticks_3 (by unfold g_rr; decide) (by decide) 0 rfl rfl rfl (Nat.le_of_ble_eq_true rfl) (fun r1 w2 h3 => ?_)
  obtain ⟨rfl, -⟩ := h3
  refine g_aload_n cx 0 rfl d_X11_ticks_6 ?_
  refine g_cViW cx [] [.int r1, .int 0, .ref (ad 0)] (c_X11_slipsNow l X ad F R (g_ge0 h45 (by omega)) h49 h51) ml_X11_380 yV_X11_slipsNow d_X11_ticks_7 (by unfold g_rr; decide) (by decide) 0 rfl rfl rfl (Nat.le_of_ble_eq_true rfl) (fun r4 w5 h6 => ?_)
  obtain ⟨rfl, rfl⟩ := h6
  refine g_isub cx d_X11_ticks_10 ?_
  refine g_toi r1 (by simp) ?_
  refine g_cSiW cx [.int 0, .int r1] [.ref (ad 0)] (c_X11_max l X _ 0 r1) ml_X11_371 yS_X11_max rfl d_X11_ticks_11 (by unfold g_rr; decide) (by decide) rfl (Nat.le_of_ble_eq_true rfl) (fun r7 w8 h9 => ?_)
  obtain ⟨rfl, rfl⟩ := h9
  refine g_topi (fun x10 ex10 => ?_)
  refine g_put cx cl_X11 fl_X11_356 0 (wM X ad (upd F 47 x10) R) d_X11_ticks_14 rfl rfl rfl rfl (Nat.le_of_ble_eq_true rfl) rfl ?_
  refine g_aload_n cx 0 rfl d_X11_ticks_17 ?_
  refine g_iconst cx 0 (by decide) d_X11_ticks_18 ?_
  refine g_aload_n cx 0 rfl d_X11_ticks_19 ?_
  refine g_get cx cl_X11 fl_X11_331 0 (.int (F 48)) d_X11_ticks_20 rfl rfl ?_
  refine g_aload_n cx 0 rfl d_X11_ticks_23 ?_
  refine g_get cx cl_X11 fl_X11_356 0 (.int x10) d_X11_ticks_24 rfl rfl ?_
  refine g_isub cx d_X11_ticks_27 ?_
  refine g_cSiW cx [.int 0, .int ((F 48) - x10)] [.ref (ad 0)] (c_X11_max l X _ 0 ((F 48) - x10)) ml_X11_371 yS_X11_max rfl d_X11_ticks_28 (by unfold g_rr; decide) (by decide) rfl (Nat.le_of_ble_eq_true rfl) (fun r11 w12 h13 => ?_)
  obtain ⟨rfl, rfl⟩ := h13
  refine g_topi (fun x14 ex14 => ?_)
  refine g_put cx cl_X11 fl_X11_331 0 (wM X ad (upd (upd F 47 x10) 48 x14) R) d_X11_ticks_31 rfl rfl rfl rfl (Nat.le_of_ble_eq_true rfl) rfl ?_
  refine g_iconst cx 0 (by decide) d_X11_ticks_34 ?_
  refine g_istore_n cx [(1, .int 0), (0, .ref (ad 0))] d_X11_ticks_35 (by decide) rfl ?_
  refine g_aload_n cx 1 rfl d_X11_ticks_36 ?_
  refine g_iconst cx 0 (by decide) d_X11_ticks_37 ?_
  refine g_put cx cl_X11 fl_X11_362 0 (wM X ad (upd (upd (upd F 47 x10) 48 x14) 69 0) R) d_X11_ticks_38 rfl rfl rfl rfl (Nat.le_of_ble_eq_true rfl) rfl ?_
  refine g_aload_n cx 1 rfl d_X11_ticks_41 ?_
  refine g_iconst cx 0 (by decide) d_X11_ticks_42 ?_
  refine g_put cx cl_X11 fl_X11_377 0 (wM X ad (upd (upd (upd (upd F 47 x10) 48 x14) 68 0) 69 0) R) d_X11_ticks_43 rfl rfl rfl rfl (Nat.le_of_ble_eq_true rfl) rfl ?_
  refine g_iconst cx 0 (by decide) d_X11_ticks_46 ?_
  refine g_istore_n cx [(2, .int 0), (1, .int 0), (0, .ref (ad 0))] d_X11_ticks_47 (by decide) rfl ?_
  have L48 : ∀ (N : Nat) (i48 : Nat) (xi48 : Int32), 10 - i48 < N → (xi48 = nI i48) → (i48 ≤ 10) → G X E 4 0 0 (wM X ad (upd (upd (upd (upd F 47 x10) 48 x14) 68 0) 69 0) R) [(2, .int xi48), (1, .int 0), (0, .ref (ad 0))] 48 [] := by
    intro N
    induction N with
    | zero => intro i48 xi48 hm; exact absurd hm (Nat.not_lt_zero _)
    | succ N ih48 =>
      intro i48 xi48 hm hx48 hi48
      refine g_iload_n cx 0 rfl d_X11_ticks_48 ?_
      refine g_bipush cx 10 (by decide) d_X11_ticks_49 ?_
      refine g_icmp_ge cx 114 d_X11_ticks_51 (by decide) (fun zc51 => ?_) (fun zc51 => ?_)
      · refine g_iconst cx 0 (by decide) d_X11_ticks_114 ?_
        refine g_istore_n cx [(2, .int 0), (1, .int 0), (0, .ref (ad 0))] d_X11_ticks_115 (by decide) rfl ?_
        have L116 : ∀ (N : Nat) (i116 : Nat) (xi116 : Int32), 10 - i116 < N → (xi116 = nI i116) → (i116 ≤ 10) → G X E 4 0 0 (wM X ad (upd (upd (upd (upd F 47 x10) 48 x14) 68 0) 69 0) R) [(2, .int xi116), (1, .int 0), (0, .ref (ad 0))] 116 [] := by
          intro N
          induction N with
          | zero => intro i116 xi116 hm; exact absurd hm (Nat.not_lt_zero _)
          | succ N ih116 =>
            intro i116 xi116 hm hx116 hi116
            refine g_iload_n cx 0 rfl d_X11_ticks_116 ?_
            refine g_bipush cx 10 (by decide) d_X11_ticks_117 ?_
            refine g_icmp_ge cx 141 d_X11_ticks_119 (by decide) (fun zc119 => ?_) (fun zc119 => ?_)
            · refine g_iconst cx 0 (by decide) d_X11_ticks_141 ?_
              refine g_istore_n cx [(2, .int 0), (1, .int 0), (0, .ref (ad 0))] d_X11_ticks_142 (by decide) rfl ?_
              have L143 : ∀ (N : Nat) (i143 : Nat) (xi143 : Int32), 10 - i143 < N → (xi143 = nI i143) → (i143 ≤ 10) → G X E 4 0 0 (wM X ad (upd (upd (upd (upd F 47 x10) 48 x14) 68 0) 69 0) R) [(2, .int xi143), (1, .int 0), (0, .ref (ad 0))] 143 [] := by
                intro N
                induction N with
                | zero => intro i143 xi143 hm; exact absurd hm (Nat.not_lt_zero _)
                | succ N ih143 =>
                  intro i143 xi143 hm hx143 hi143
                  refine g_iload_n cx 0 rfl d_X11_ticks_143 ?_
                  refine g_bipush cx 10 (by decide) d_X11_ticks_144 ?_
                  refine g_icmp_ge cx 177 d_X11_ticks_146 (by decide) (fun zc146 => ?_) (fun zc146 => ?_)
                  · refine g_aload_n cx 2 rfl d_X11_ticks_177 ?_
                    refine g_cViW cx [] [] (c_X11_laysOrder l X ad (upd (upd (upd (upd F 47 x10) 48 x14) 68 0) 69 0) R  h42) ml_X11_389 yV_X11_laysOrder d_X11_ticks_178 (by unfold g_rr; decide) (by decide) 0 rfl rfl rfl (Nat.le_of_ble_eq_true rfl) (fun r15 w16 h17 => ?_)
                    obtain ⟨rfl, rfl⟩ := h17
                    refine g_istore_n cx [(2, .int 0), (1, .int 0), (0, .ref (ad 0))] d_X11_ticks_181 (by decide) rfl ?_
                    refine g_iconst cx 0 (by decide) d_X11_ticks_182 ?_
                    refine g_istore_n cx [(3, .int 0), (2, .int 0), (1, .int 0), (0, .ref (ad 0))] d_X11_ticks_183 (by decide) rfl ?_
                    refine g_iload_n cx 0 rfl d_X11_ticks_184 ?_
                    refine g_iconst cx 1 (by decide) d_X11_ticks_185 ?_
                    refine g_iadd cx d_X11_ticks_186 ?_
                    refine g_toi 1 (by decide) ?_
                    refine g_iload_n cx 1 rfl d_X11_ticks_187 ?_
                    refine g_icmp_ge_t cx 215 d_X11_ticks_188 (by decide) (by decide) ?_
                    refine g_iconst cx 0 (by decide) d_X11_ticks_215 ?_
                    refine g_istore_n cx [(3, .int 0), (2, .int 0), (1, .int 0), (0, .ref (ad 0))] d_X11_ticks_216 (by decide) rfl ?_
                    have L217 : ∀ (N : Nat) (i217 : Nat) (xi217 : Int32), 10 - i217 < N → (xi217 = nI i217) → (i217 ≤ 10) → G X E 4 0 0 (wM X ad (upd (upd (upd (upd F 47 x10) 48 x14) 68 0) 69 0) R) [(3, .int xi217), (2, .int 0), (1, .int 0), (0, .ref (ad 0))] 217 [] := by
                      intro N
                      induction N with
                      | zero => intro i217 xi217 hm; exact absurd hm (Nat.not_lt_zero _)
                      | succ N ih217 =>
                        intro i217 xi217 hm hx217 hi217
                        refine g_iload_n cx 0 rfl d_X11_ticks_217 ?_
                        refine g_bipush cx 10 (by decide) d_X11_ticks_218 ?_
                        refine g_icmp_ge cx 242 d_X11_ticks_220 (by decide) (fun zc220 => ?_) (fun zc220 => ?_)
                        · refine g_aload_n cx 3 rfl d_X11_ticks_242 ?_
                          refine g_aload_n cx 3 rfl d_X11_ticks_243 ?_
                          refine g_get cx cl_X11 fl_X11_337 0 (.int (F 66)) d_X11_ticks_244 rfl rfl ?_
                          refine g_aload_n cx 3 rfl d_X11_ticks_247 ?_
                          refine g_get cx cl_X11 fl_X11_377 0 (.int 0) d_X11_ticks_248 rfl rfl ?_
                          refine g_ior cx d_X11_ticks_251 ?_
                          refine g_toi (F 66) (by simp) ?_
                          refine g_put cx cl_X11 fl_X11_337 0 (wM X ad (upd (upd (upd (upd (upd F 47 x10) 48 x14) 66 (F 66)) 68 0) 69 0) R) d_X11_ticks_252 rfl rfl rfl rfl (Nat.le_of_ble_eq_true rfl) rfl ?_
                          refine g_aload_n cx 3 rfl d_X11_ticks_255 ?_
                          refine g_aload_n cx 3 rfl d_X11_ticks_256 ?_
                          refine g_get cx cl_X11 fl_X11_328 0 (.int (F 46)) d_X11_ticks_257 rfl rfl ?_
                          refine g_aload_n cx 3 rfl d_X11_ticks_260 ?_
                          refine g_get cx cl_X11 fl_X11_356 0 (.int x10) d_X11_ticks_261 rfl rfl ?_
                          refine g_iadd cx d_X11_ticks_264 ?_
                          refine g_put cx cl_X11 fl_X11_328 0 (wM X ad (upd (upd (upd (upd (upd (upd F 46 ((F 46) + x10)) 47 x10) 48 x14) 66 (F 66)) 68 0) 69 0) R) d_X11_ticks_265 rfl rfl rfl rfl (Nat.le_of_ble_eq_true rfl) rfl ?_
                          refine g_aload_n cx 3 rfl d_X11_ticks_268 ?_
                          refine g_aload_n cx 3 rfl d_X11_ticks_269 ?_
                          refine g_get cx cl_X11 fl_X11_325 0 (.int (F 45)) d_X11_ticks_270 rfl rfl ?_
                          refine g_iconst cx 1 (by decide) d_X11_ticks_273 ?_
                          refine g_iadd cx d_X11_ticks_274 ?_
                          refine g_put cx cl_X11 fl_X11_325 0 (wM X ad (upd (upd (upd (upd (upd (upd (upd F 45 ((F 45) + 1)) 46 ((F 46) + x10)) 47 x10) 48 x14) 66 (F 66)) 68 0) 69 0) R) d_X11_ticks_275 rfl rfl rfl rfl (Nat.le_of_ble_eq_true rfl) rfl ?_
                          exact hret d_X11_ticks_278 (Nat.le_of_ble_eq_true rfl) (Nat.le_of_ble_eq_true rfl) ⟨(upd (upd (upd (upd (upd (upd (upd F 45 ((F 45) + 1)) 46 ((F 46) + x10)) 47 x10) 48 x14) 66 (F 66)) 68 0) 69 0), R, rfl, ⟨(by intro k hk; simp only [upd]; repeat rw [if_neg (by omega)]), rfl⟩⟩
                        · refine g_iload_n cx 2 rfl d_X11_ticks_223 ?_
                          refine g_iload_n cx 0 rfl d_X11_ticks_224 ?_
                          refine g_cSiW cx [.int 0, .int xi217] [] (c_X11_has l X _ 0 xi217) ml_X11_175 yS_X11_has rfl d_X11_ticks_225 (by unfold g_rr; decide) (by decide) rfl (Nat.le_of_ble_eq_true rfl) (fun r18 w19 h20 => ?_)
                          obtain ⟨rfl, rfl⟩ := h20
                          refine g_toi 0 (g_mh0 _) ?_
                          refine g_if_eq_t cx 236 d_X11_ticks_228 (by decide) (by decide) ?_
                          refine g_iinc cx (xi217 + 1) [(3, .int (xi217 + 1)), (2, .int 0), (1, .int 0), (0, .ref (ad 0))] 0 d_X11_ticks_236 rfl (rfl) (by decide) rfl ?_
                          refine g_goto cx 217 d_X11_ticks_239 (by decide) ?_
                          exact ih217 (i217 + 1) (xi217 + 1) (by have := g_lt10 (n := 10) hx217 (by omega) zc220; omega) (by rw [hx217]; exact nI_1 i217) (by have := g_lt10 (n := 10) hx217 (by omega) zc220; omega)
                    exact L217 _ 0 0 (Nat.lt_succ_self _) nI_0.symm (by omega)
                  · refine g_iload_n cx 1 rfl d_X11_ticks_149 ?_
                    refine g_iload_n cx 0 rfl d_X11_ticks_150 ?_
                    refine g_cSiW cx [.int 0, .int xi143] [] (c_X11_has l X _ 0 xi143) ml_X11_175 yS_X11_has rfl d_X11_ticks_151 (by unfold g_rr; decide) (by decide) rfl (Nat.le_of_ble_eq_true rfl) (fun r21 w22 h23 => ?_)
                    obtain ⟨rfl, rfl⟩ := h23
                    refine g_toi 0 (g_mh0 _) ?_
                    refine g_if_eq_t cx 171 d_X11_ticks_154 (by decide) (by decide) ?_
                    refine g_iinc cx (xi143 + 1) [(2, .int (xi143 + 1)), (1, .int 0), (0, .ref (ad 0))] 0 d_X11_ticks_171 rfl (rfl) (by decide) rfl ?_
                    refine g_goto cx 143 d_X11_ticks_174 (by decide) ?_
                    exact ih143 (i143 + 1) (xi143 + 1) (by have := g_lt10 (n := 10) hx143 (by omega) zc146; omega) (by rw [hx143]; exact nI_1 i143) (by have := g_lt10 (n := 10) hx143 (by omega) zc146; omega)
              exact L143 _ 0 0 (Nat.lt_succ_self _) nI_0.symm (by omega)
            · refine g_iload_n cx 1 rfl d_X11_ticks_122 ?_
              refine g_iload_n cx 0 rfl d_X11_ticks_123 ?_
              refine g_cSiW cx [.int 0, .int xi116] [] (c_X11_has l X _ 0 xi116) ml_X11_175 yS_X11_has rfl d_X11_ticks_124 (by unfold g_rr; decide) (by decide) rfl (Nat.le_of_ble_eq_true rfl) (fun r24 w25 h26 => ?_)
              obtain ⟨rfl, rfl⟩ := h26
              refine g_toi 0 (g_mh0 _) ?_
              refine g_if_eq_t cx 135 d_X11_ticks_127 (by decide) (by decide) ?_
              refine g_iinc cx (xi116 + 1) [(2, .int (xi116 + 1)), (1, .int 0), (0, .ref (ad 0))] 0 d_X11_ticks_135 rfl (rfl) (by decide) rfl ?_
              refine g_goto cx 116 d_X11_ticks_138 (by decide) ?_
              exact ih116 (i116 + 1) (xi116 + 1) (by have := g_lt10 (n := 10) hx116 (by omega) zc119; omega) (by rw [hx116]; exact nI_1 i116) (by have := g_lt10 (n := 10) hx116 (by omega) zc119; omega)
        exact L116 _ 0 0 (Nat.lt_succ_self _) nI_0.symm (by omega)
      · refine g_aload_n cx 2 rfl d_X11_ticks_54 ?_
        refine g_iload_n cx 0 rfl d_X11_ticks_55 ?_
        refine g_cViW cx [.int xi48] [] (c_X11_stands l X ad (upd (upd (upd (upd F 47 x10) 48 x14) 68 0) 69 0) R xi48 h42) ml_X11_343 yV_X11_stands d_X11_ticks_56 (by unfold g_rr; decide) (by decide) 0 rfl rfl rfl (Nat.le_of_ble_eq_true rfl) (fun r27 w28 h29 => ?_)
        obtain ⟨rfl, rfl⟩ := h29
        refine g_if_ne_f cx 65 d_X11_ticks_59 (by decide) (by decide) ?_
        refine g_goto cx 108 d_X11_ticks_62 (by decide) ?_
        refine g_iinc cx (xi48 + 1) [(2, .int (xi48 + 1)), (1, .int 0), (0, .ref (ad 0))] 0 d_X11_ticks_108 rfl (rfl) (by decide) rfl ?_
        refine g_goto cx 48 d_X11_ticks_111 (by decide) ?_
        exact ih48 (i48 + 1) (xi48 + 1) (by have := g_lt10 (n := 10) hx48 (by omega) zc51; omega) (by rw [hx48]; exact nI_1 i48) (by have := g_lt10 (n := 10) hx48 (by omega) zc51; omega)
  exact L48 _ 0 0 (Nat.lt_succ_self _) nI_0.symm (by omega)
end
