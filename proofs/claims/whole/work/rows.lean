section
-- ===== PART A: goes FIRST, ahead of the names: the tables' words, and 'selects' of the private methods out of them =====
/-- a private method of a class that the tables say can be made, by its rows of tables_1 -/
def lw_okq (q : MethodName × Nat) : Prop := (q.1.cls ≠ "java/lang/invoke/MethodHandle" ∧ q.1.cls ≠ "java/lang/invoke/VarHandle") ∧ Cond.instantiable q.1.cls q.2 ∈ tables_1 ∧ Cond.privateMethod q.1 ∈ tables_1 ∧ Cond.instanceMethod q.1 ∈ tables_1
theorem lw_p0 : lw_okq (⟨"PromiseNames$Reader", "toNextToken", "()V"⟩, 7) := ⟨⟨by decide +kernel, by decide +kernel⟩, List.mem_of_getElem? (i := 87) (by decide +kernel), List.mem_of_getElem? (i := 303) (by decide +kernel), List.mem_of_getElem? (i := 304) (by decide +kernel)⟩
theorem lw_p1 : lw_okq (⟨"PromiseNames$Reader", "passDigits", "()V"⟩, 7) := ⟨⟨by decide +kernel, by decide +kernel⟩, List.mem_of_getElem? (i := 87) (by decide +kernel), List.mem_of_getElem? (i := 314) (by decide +kernel), List.mem_of_getElem? (i := 315) (by decide +kernel)⟩
theorem lw_p2 : lw_okq (⟨"PromiseNames$Reader", "readClause", "(LPromiseNames$Told;)Z"⟩, 7) := ⟨⟨by decide +kernel, by decide +kernel⟩, List.mem_of_getElem? (i := 87) (by decide +kernel), List.mem_of_getElem? (i := 318) (by decide +kernel), List.mem_of_getElem? (i := 319) (by decide +kernel)⟩
theorem lw_p3 : lw_okq (⟨"PromiseNames$Reader", "isWord", "(Ljava/lang/String;)Z"⟩, 7) := ⟨⟨by decide +kernel, by decide +kernel⟩, List.mem_of_getElem? (i := 87) (by decide +kernel), List.mem_of_getElem? (i := 323) (by decide +kernel), List.mem_of_getElem? (i := 324) (by decide +kernel)⟩
theorem lw_p4 : lw_okq (⟨"PromiseNames$Reader", "readPerson", "(LPromiseNames$Told;)Z"⟩, 7) := ⟨⟨by decide +kernel, by decide +kernel⟩, List.mem_of_getElem? (i := 87) (by decide +kernel), List.mem_of_getElem? (i := 380) (by decide +kernel), List.mem_of_getElem? (i := 381) (by decide +kernel)⟩
theorem lw_p5 : lw_okq (⟨"PromiseNames$Reader", "isNumber", "(II)Z"⟩, 7) := ⟨⟨by decide +kernel, by decide +kernel⟩, List.mem_of_getElem? (i := 87) (by decide +kernel), List.mem_of_getElem? (i := 388) (by decide +kernel), List.mem_of_getElem? (i := 389) (by decide +kernel)⟩
theorem lw_p6 : lw_okq (⟨"PromiseNames$Reader", "takeNumber", "()I"⟩, 7) := ⟨⟨by decide +kernel, by decide +kernel⟩, List.mem_of_getElem? (i := 87) (by decide +kernel), List.mem_of_getElem? (i := 392) (by decide +kernel), List.mem_of_getElem? (i := 393) (by decide +kernel)⟩
theorem lw_p7 : lw_okq (⟨"PromiseNames$Reader", "readStrife", "(LPromiseNames$Told;)Z"⟩, 7) := ⟨⟨by decide +kernel, by decide +kernel⟩, List.mem_of_getElem? (i := 87) (by decide +kernel), List.mem_of_getElem? (i := 402) (by decide +kernel), List.mem_of_getElem? (i := 403) (by decide +kernel)⟩
theorem lw_p8 : lw_okq (⟨"PromiseNames$Reader", "kindByWord", "()I"⟩, 7) := ⟨⟨by decide +kernel, by decide +kernel⟩, List.mem_of_getElem? (i := 87) (by decide +kernel), List.mem_of_getElem? (i := 410) (by decide +kernel), List.mem_of_getElem? (i := 411) (by decide +kernel)⟩
theorem lw_p9 : lw_okq (⟨"PromiseNames$Reader", "readPromise", "(LPromiseNames$Told;I)Z"⟩, 7) := ⟨⟨by decide +kernel, by decide +kernel⟩, List.mem_of_getElem? (i := 87) (by decide +kernel), List.mem_of_getElem? (i := 419) (by decide +kernel), List.mem_of_getElem? (i := 420) (by decide +kernel)⟩
theorem lw_p10 : lw_okq (⟨"PromiseNames$Reader", "needsByWord", "(I)I"⟩, 7) := ⟨⟨by decide +kernel, by decide +kernel⟩, List.mem_of_getElem? (i := 87) (by decide +kernel), List.mem_of_getElem? (i := 427) (by decide +kernel), List.mem_of_getElem? (i := 428) (by decide +kernel)⟩
theorem lw_p11 : lw_okq (⟨"PromiseNames$Reader", "isSign", "(C)Z"⟩, 7) := ⟨⟨by decide +kernel, by decide +kernel⟩, List.mem_of_getElem? (i := 87) (by decide +kernel), List.mem_of_getElem? (i := 436) (by decide +kernel), List.mem_of_getElem? (i := 437) (by decide +kernel)⟩
theorem lw_p12 : lw_okq (⟨"PromiseNames", "beginAnew", "()V"⟩, 10) := ⟨⟨by decide +kernel, by decide +kernel⟩, List.mem_of_getElem? (i := 22) (by decide +kernel), List.mem_of_getElem? (i := 445) (by decide +kernel), List.mem_of_getElem? (i := 446) (by decide +kernel)⟩
theorem lw_p13 : lw_okq (⟨"PromiseNames", "isPerson", "(I)Z"⟩, 10) := ⟨⟨by decide +kernel, by decide +kernel⟩, List.mem_of_getElem? (i := 22) (by decide +kernel), List.mem_of_getElem? (i := 462) (by decide +kernel), List.mem_of_getElem? (i := 463) (by decide +kernel)⟩
theorem lw_p14 : lw_okq (⟨"PromiseNames", "isPromise", "(I)Z"⟩, 10) := ⟨⟨by decide +kernel, by decide +kernel⟩, List.mem_of_getElem? (i := 22) (by decide +kernel), List.mem_of_getElem? (i := 482) (by decide +kernel), List.mem_of_getElem? (i := 483) (by decide +kernel)⟩
theorem lw_p15 : lw_okq (⟨"PromiseNames$State", "workAll", "()V"⟩, 8) := ⟨⟨by decide +kernel, by decide +kernel⟩, List.mem_of_getElem? (i := 117) (by decide +kernel), List.mem_of_getElem? (i := 522) (by decide +kernel), List.mem_of_getElem? (i := 523) (by decide +kernel)⟩
def lw_privs_1 : List (MethodName × Nat) := [(⟨"PromiseNames$Reader", "toNextToken", "()V"⟩, 7), (⟨"PromiseNames$Reader", "passDigits", "()V"⟩, 7), (⟨"PromiseNames$Reader", "readClause", "(LPromiseNames$Told;)Z"⟩, 7), (⟨"PromiseNames$Reader", "isWord", "(Ljava/lang/String;)Z"⟩, 7), (⟨"PromiseNames$Reader", "readPerson", "(LPromiseNames$Told;)Z"⟩, 7), (⟨"PromiseNames$Reader", "isNumber", "(II)Z"⟩, 7), (⟨"PromiseNames$Reader", "takeNumber", "()I"⟩, 7), (⟨"PromiseNames$Reader", "readStrife", "(LPromiseNames$Told;)Z"⟩, 7), (⟨"PromiseNames$Reader", "kindByWord", "()I"⟩, 7), (⟨"PromiseNames$Reader", "readPromise", "(LPromiseNames$Told;I)Z"⟩, 7), (⟨"PromiseNames$Reader", "needsByWord", "(I)I"⟩, 7), (⟨"PromiseNames$Reader", "isSign", "(C)Z"⟩, 7), (⟨"PromiseNames", "beginAnew", "()V"⟩, 10), (⟨"PromiseNames", "isPerson", "(I)Z"⟩, 10), (⟨"PromiseNames", "isPromise", "(I)Z"⟩, 10), (⟨"PromiseNames$State", "workAll", "()V"⟩, 8)]
theorem lw_r1 : ∀ q ∈ lw_privs_1, lw_okq q := List.forall_mem_cons.mpr ⟨lw_p0, List.forall_mem_cons.mpr ⟨lw_p1, List.forall_mem_cons.mpr ⟨lw_p2, List.forall_mem_cons.mpr ⟨lw_p3, List.forall_mem_cons.mpr ⟨lw_p4, List.forall_mem_cons.mpr ⟨lw_p5, List.forall_mem_cons.mpr ⟨lw_p6, List.forall_mem_cons.mpr ⟨lw_p7, List.forall_mem_cons.mpr ⟨lw_p8, List.forall_mem_cons.mpr ⟨lw_p9, List.forall_mem_cons.mpr ⟨lw_p10, List.forall_mem_cons.mpr ⟨lw_p11, List.forall_mem_cons.mpr ⟨lw_p12, List.forall_mem_cons.mpr ⟨lw_p13, List.forall_mem_cons.mpr ⟨lw_p14, List.forall_mem_cons.mpr ⟨lw_p15, fun _ h => absurd h List.not_mem_nil⟩⟩⟩⟩⟩⟩⟩⟩⟩⟩⟩⟩⟩⟩⟩⟩
theorem lw_p16 : lw_okq (⟨"PromiseNames$State", "workAt", "(II)V"⟩, 8) := ⟨⟨by decide +kernel, by decide +kernel⟩, List.mem_of_getElem? (i := 117) (by decide +kernel), List.mem_of_getElem? (i := 528) (by decide +kernel), List.mem_of_getElem? (i := 529) (by decide +kernel)⟩
theorem lw_p17 : lw_okq (⟨"PromiseNames$State", "markKept", "(I)V"⟩, 8) := ⟨⟨by decide +kernel, by decide +kernel⟩, List.mem_of_getElem? (i := 117) (by decide +kernel), List.mem_of_getElem? (i := 533) (by decide +kernel), List.mem_of_getElem? (i := 534) (by decide +kernel)⟩
theorem lw_p18 : lw_okq (⟨"PromiseNames$State", "ageAll", "()V"⟩, 8) := ⟨⟨by decide +kernel, by decide +kernel⟩, List.mem_of_getElem? (i := 117) (by decide +kernel), List.mem_of_getElem? (i := 537) (by decide +kernel), List.mem_of_getElem? (i := 538) (by decide +kernel)⟩
theorem lw_p19 : lw_okq (⟨"PromiseNames$State", "leaveAll", "(I)V"⟩, 8) := ⟨⟨by decide +kernel, by decide +kernel⟩, List.mem_of_getElem? (i := 117) (by decide +kernel), List.mem_of_getElem? (i := 541) (by decide +kernel), List.mem_of_getElem? (i := 542) (by decide +kernel)⟩
theorem lw_p20 : lw_okq (⟨"PromiseNames$State", "whoInherits", "(I)I"⟩, 8) := ⟨⟨by decide +kernel, by decide +kernel⟩, List.mem_of_getElem? (i := 117) (by decide +kernel), List.mem_of_getElem? (i := 545) (by decide +kernel), List.mem_of_getElem? (i := 546) (by decide +kernel)⟩
theorem lw_p21 : lw_okq (⟨"PromiseNames$State", "moveToEnd", "(I)V"⟩, 8) := ⟨⟨by decide +kernel, by decide +kernel⟩, List.mem_of_getElem? (i := 117) (by decide +kernel), List.mem_of_getElem? (i := 552) (by decide +kernel), List.mem_of_getElem? (i := 553) (by decide +kernel)⟩
theorem lw_p22 : lw_okq (⟨"PromiseNames$State", "placeOf", "(I)I"⟩, 8) := ⟨⟨by decide +kernel, by decide +kernel⟩, List.mem_of_getElem? (i := 117) (by decide +kernel), List.mem_of_getElem? (i := 564) (by decide +kernel), List.mem_of_getElem? (i := 565) (by decide +kernel)⟩
theorem lw_p23 : lw_okq (⟨"PromiseNames$Foretelling", "findPlaces", "(LPromiseNames$State;I)V"⟩, 7) := ⟨⟨by decide +kernel, by decide +kernel⟩, List.mem_of_getElem? (i := 178) (by decide +kernel), List.mem_of_getElem? (i := 644) (by decide +kernel), List.mem_of_getElem? (i := 645) (by decide +kernel)⟩
theorem lw_p24 : lw_okq (⟨"PromiseNames$Foretelling", "weighTrial", "(I)V"⟩, 7) := ⟨⟨by decide +kernel, by decide +kernel⟩, List.mem_of_getElem? (i := 178) (by decide +kernel), List.mem_of_getElem? (i := 648) (by decide +kernel), List.mem_of_getElem? (i := 649) (by decide +kernel)⟩
theorem lw_p25 : lw_okq (⟨"PromiseNames$Foretelling", "toNextOrder", "()Z"⟩, 7) := ⟨⟨by decide +kernel, by decide +kernel⟩, List.mem_of_getElem? (i := 178) (by decide +kernel), List.mem_of_getElem? (i := 659) (by decide +kernel), List.mem_of_getElem? (i := 660) (by decide +kernel)⟩
theorem lw_p26 : lw_okq (⟨"PromiseNames$Foretelling", "swapTried", "(II)V"⟩, 7) := ⟨⟨by decide +kernel, by decide +kernel⟩, List.mem_of_getElem? (i := 178) (by decide +kernel), List.mem_of_getElem? (i := 663) (by decide +kernel), List.mem_of_getElem? (i := 664) (by decide +kernel)⟩
theorem lw_p27 : lw_okq (⟨"PromiseNames$Foretelling", "chooseWay", "(I)V"⟩, 7) := ⟨⟨by decide +kernel, by decide +kernel⟩, List.mem_of_getElem? (i := 178) (by decide +kernel), List.mem_of_getElem? (i := 681) (by decide +kernel), List.mem_of_getElem? (i := 682) (by decide +kernel)⟩
theorem lw_p28 : lw_okq (⟨"PromiseNames$Foretelling", "areChosenAlive", "(LPromiseNames$State;)Z"⟩, 7) := ⟨⟨by decide +kernel, by decide +kernel⟩, List.mem_of_getElem? (i := 178) (by decide +kernel), List.mem_of_getElem? (i := 685) (by decide +kernel), List.mem_of_getElem? (i := 686) (by decide +kernel)⟩
theorem lw_p29 : lw_okq (⟨"PromiseNames$Foretelling", "giveAsChosen", "(LPromiseNames$State;)V"⟩, 7) := ⟨⟨by decide +kernel, by decide +kernel⟩, List.mem_of_getElem? (i := 178) (by decide +kernel), List.mem_of_getElem? (i := 689) (by decide +kernel), List.mem_of_getElem? (i := 690) (by decide +kernel)⟩
theorem lw_p30 : lw_okq (⟨"PromiseNames$Told", "isPeaceful", "(I)Z"⟩, 10) := ⟨⟨by decide +kernel, by decide +kernel⟩, List.mem_of_getElem? (i := 30) (by decide +kernel), List.mem_of_getElem? (i := 704) (by decide +kernel), List.mem_of_getElem? (i := 705) (by decide +kernel)⟩
theorem lw_p31 : lw_okq (⟨"PromiseNames$Sightings", "fitsAll", "(I)Z"⟩, 4) := ⟨⟨by decide +kernel, by decide +kernel⟩, List.mem_of_getElem? (i := 209) (by decide +kernel), List.mem_of_getElem? (i := 744) (by decide +kernel), List.mem_of_getElem? (i := 745) (by decide +kernel)⟩
def lw_privs_2 : List (MethodName × Nat) := [(⟨"PromiseNames$State", "workAt", "(II)V"⟩, 8), (⟨"PromiseNames$State", "markKept", "(I)V"⟩, 8), (⟨"PromiseNames$State", "ageAll", "()V"⟩, 8), (⟨"PromiseNames$State", "leaveAll", "(I)V"⟩, 8), (⟨"PromiseNames$State", "whoInherits", "(I)I"⟩, 8), (⟨"PromiseNames$State", "moveToEnd", "(I)V"⟩, 8), (⟨"PromiseNames$State", "placeOf", "(I)I"⟩, 8), (⟨"PromiseNames$Foretelling", "findPlaces", "(LPromiseNames$State;I)V"⟩, 7), (⟨"PromiseNames$Foretelling", "weighTrial", "(I)V"⟩, 7), (⟨"PromiseNames$Foretelling", "toNextOrder", "()Z"⟩, 7), (⟨"PromiseNames$Foretelling", "swapTried", "(II)V"⟩, 7), (⟨"PromiseNames$Foretelling", "chooseWay", "(I)V"⟩, 7), (⟨"PromiseNames$Foretelling", "areChosenAlive", "(LPromiseNames$State;)Z"⟩, 7), (⟨"PromiseNames$Foretelling", "giveAsChosen", "(LPromiseNames$State;)V"⟩, 7), (⟨"PromiseNames$Told", "isPeaceful", "(I)Z"⟩, 10), (⟨"PromiseNames$Sightings", "fitsAll", "(I)Z"⟩, 4)]
theorem lw_r2 : ∀ q ∈ lw_privs_2, lw_okq q := List.forall_mem_cons.mpr ⟨lw_p16, List.forall_mem_cons.mpr ⟨lw_p17, List.forall_mem_cons.mpr ⟨lw_p18, List.forall_mem_cons.mpr ⟨lw_p19, List.forall_mem_cons.mpr ⟨lw_p20, List.forall_mem_cons.mpr ⟨lw_p21, List.forall_mem_cons.mpr ⟨lw_p22, List.forall_mem_cons.mpr ⟨lw_p23, List.forall_mem_cons.mpr ⟨lw_p24, List.forall_mem_cons.mpr ⟨lw_p25, List.forall_mem_cons.mpr ⟨lw_p26, List.forall_mem_cons.mpr ⟨lw_p27, List.forall_mem_cons.mpr ⟨lw_p28, List.forall_mem_cons.mpr ⟨lw_p29, List.forall_mem_cons.mpr ⟨lw_p30, List.forall_mem_cons.mpr ⟨lw_p31, fun _ h => absurd h List.not_mem_nil⟩⟩⟩⟩⟩⟩⟩⟩⟩⟩⟩⟩⟩⟩⟩⟩
theorem lw_p32 : lw_okq (⟨"PromiseNames$Register", "isFirstOfItsPage", "(I)Z"⟩, 1) := ⟨⟨by decide +kernel, by decide +kernel⟩, List.mem_of_getElem? (i := 770) (by decide +kernel), List.mem_of_getElem? (i := 855) (by decide +kernel), List.mem_of_getElem? (i := 856) (by decide +kernel)⟩
theorem lw_p33 : lw_okq (⟨"PromiseNamesModel", "readsAll", "()I"⟩, 45) := ⟨⟨by decide +kernel, by decide +kernel⟩, List.mem_of_getElem? (i := 887) (by decide +kernel), List.mem_of_getElem? (i := 1045) (by decide +kernel), List.mem_of_getElem? (i := 1046) (by decide +kernel)⟩
theorem lw_p34 : lw_okq (⟨"PromiseNamesModel", "tellsAll", "()V"⟩, 45) := ⟨⟨by decide +kernel, by decide +kernel⟩, List.mem_of_getElem? (i := 887) (by decide +kernel), List.mem_of_getElem? (i := 1049) (by decide +kernel), List.mem_of_getElem? (i := 1050) (by decide +kernel)⟩
theorem lw_p35 : lw_okq (⟨"PromiseNamesModel", "looks", "()V"⟩, 45) := ⟨⟨by decide +kernel, by decide +kernel⟩, List.mem_of_getElem? (i := 887) (by decide +kernel), List.mem_of_getElem? (i := 1053) (by decide +kernel), List.mem_of_getElem? (i := 1054) (by decide +kernel)⟩
theorem lw_p36 : lw_okq (⟨"PromiseNamesModel", "takesClause", "()Z"⟩, 45) := ⟨⟨by decide +kernel, by decide +kernel⟩, List.mem_of_getElem? (i := 887) (by decide +kernel), List.mem_of_getElem? (i := 1064) (by decide +kernel), List.mem_of_getElem? (i := 1065) (by decide +kernel)⟩
theorem lw_p37 : lw_okq (⟨"PromiseNamesModel", "wordAtHand", "()I"⟩, 45) := ⟨⟨by decide +kernel, by decide +kernel⟩, List.mem_of_getElem? (i := 887) (by decide +kernel), List.mem_of_getElem? (i := 1068) (by decide +kernel), List.mem_of_getElem? (i := 1069) (by decide +kernel)⟩
theorem lw_p38 : lw_okq (⟨"PromiseNamesModel", "isWord", "(IJ)Z"⟩, 45) := ⟨⟨by decide +kernel, by decide +kernel⟩, List.mem_of_getElem? (i := 887) (by decide +kernel), List.mem_of_getElem? (i := 1073) (by decide +kernel), List.mem_of_getElem? (i := 1074) (by decide +kernel)⟩
theorem lw_p39 : lw_okq (⟨"PromiseNamesModel", "takesPromise", "(I)Z"⟩, 45) := ⟨⟨by decide +kernel, by decide +kernel⟩, List.mem_of_getElem? (i := 887) (by decide +kernel), List.mem_of_getElem? (i := 1084) (by decide +kernel), List.mem_of_getElem? (i := 1085) (by decide +kernel)⟩
theorem lw_p40 : lw_okq (⟨"PromiseNamesModel", "passesToken", "()V"⟩, 45) := ⟨⟨by decide +kernel, by decide +kernel⟩, List.mem_of_getElem? (i := 887) (by decide +kernel), List.mem_of_getElem? (i := 1088) (by decide +kernel), List.mem_of_getElem? (i := 1089) (by decide +kernel)⟩
theorem lw_p41 : lw_okq (⟨"PromiseNamesModel", "takesNumber", "(II)Z"⟩, 45) := ⟨⟨by decide +kernel, by decide +kernel⟩, List.mem_of_getElem? (i := 887) (by decide +kernel), List.mem_of_getElem? (i := 1092) (by decide +kernel), List.mem_of_getElem? (i := 1093) (by decide +kernel)⟩
theorem lw_p42 : lw_okq (⟨"PromiseNamesModel", "takesNeeds", "()Z"⟩, 45) := ⟨⟨by decide +kernel, by decide +kernel⟩, List.mem_of_getElem? (i := 887) (by decide +kernel), List.mem_of_getElem? (i := 1096) (by decide +kernel), List.mem_of_getElem? (i := 1097) (by decide +kernel)⟩
theorem lw_p43 : lw_okq (⟨"PromiseNamesModel", "takesMan", "()Z"⟩, 45) := ⟨⟨by decide +kernel, by decide +kernel⟩, List.mem_of_getElem? (i := 887) (by decide +kernel), List.mem_of_getElem? (i := 1100) (by decide +kernel), List.mem_of_getElem? (i := 1101) (by decide +kernel)⟩
theorem lw_p44 : lw_okq (⟨"PromiseNamesModel", "takesStrife", "()Z"⟩, 45) := ⟨⟨by decide +kernel, by decide +kernel⟩, List.mem_of_getElem? (i := 887) (by decide +kernel), List.mem_of_getElem? (i := 1104) (by decide +kernel), List.mem_of_getElem? (i := 1105) (by decide +kernel)⟩
theorem lw_p45 : lw_okq (⟨"PromiseNamesModel", "takesParish", "()V"⟩, 45) := ⟨⟨by decide +kernel, by decide +kernel⟩, List.mem_of_getElem? (i := 887) (by decide +kernel), List.mem_of_getElem? (i := 1108) (by decide +kernel), List.mem_of_getElem? (i := 1109) (by decide +kernel)⟩
theorem lw_p46 : lw_okq (⟨"PromiseNamesModel", "begins", "()V"⟩, 45) := ⟨⟨by decide +kernel, by decide +kernel⟩, List.mem_of_getElem? (i := 887) (by decide +kernel), List.mem_of_getElem? (i := 1116) (by decide +kernel), List.mem_of_getElem? (i := 1117) (by decide +kernel)⟩
theorem lw_p47 : lw_okq (⟨"PromiseNamesModel", "joins", "(III)V"⟩, 45) := ⟨⟨by decide +kernel, by decide +kernel⟩, List.mem_of_getElem? (i := 887) (by decide +kernel), List.mem_of_getElem? (i := 1120) (by decide +kernel), List.mem_of_getElem? (i := 1121) (by decide +kernel)⟩
def lw_privs_3 : List (MethodName × Nat) := [(⟨"PromiseNames$Register", "isFirstOfItsPage", "(I)Z"⟩, 1), (⟨"PromiseNamesModel", "readsAll", "()I"⟩, 45), (⟨"PromiseNamesModel", "tellsAll", "()V"⟩, 45), (⟨"PromiseNamesModel", "looks", "()V"⟩, 45), (⟨"PromiseNamesModel", "takesClause", "()Z"⟩, 45), (⟨"PromiseNamesModel", "wordAtHand", "()I"⟩, 45), (⟨"PromiseNamesModel", "isWord", "(IJ)Z"⟩, 45), (⟨"PromiseNamesModel", "takesPromise", "(I)Z"⟩, 45), (⟨"PromiseNamesModel", "passesToken", "()V"⟩, 45), (⟨"PromiseNamesModel", "takesNumber", "(II)Z"⟩, 45), (⟨"PromiseNamesModel", "takesNeeds", "()Z"⟩, 45), (⟨"PromiseNamesModel", "takesMan", "()Z"⟩, 45), (⟨"PromiseNamesModel", "takesStrife", "()Z"⟩, 45), (⟨"PromiseNamesModel", "takesParish", "()V"⟩, 45), (⟨"PromiseNamesModel", "begins", "()V"⟩, 45), (⟨"PromiseNamesModel", "joins", "(III)V"⟩, 45)]
theorem lw_r3 : ∀ q ∈ lw_privs_3, lw_okq q := List.forall_mem_cons.mpr ⟨lw_p32, List.forall_mem_cons.mpr ⟨lw_p33, List.forall_mem_cons.mpr ⟨lw_p34, List.forall_mem_cons.mpr ⟨lw_p35, List.forall_mem_cons.mpr ⟨lw_p36, List.forall_mem_cons.mpr ⟨lw_p37, List.forall_mem_cons.mpr ⟨lw_p38, List.forall_mem_cons.mpr ⟨lw_p39, List.forall_mem_cons.mpr ⟨lw_p40, List.forall_mem_cons.mpr ⟨lw_p41, List.forall_mem_cons.mpr ⟨lw_p42, List.forall_mem_cons.mpr ⟨lw_p43, List.forall_mem_cons.mpr ⟨lw_p44, List.forall_mem_cons.mpr ⟨lw_p45, List.forall_mem_cons.mpr ⟨lw_p46, List.forall_mem_cons.mpr ⟨lw_p47, fun _ h => absurd h List.not_mem_nil⟩⟩⟩⟩⟩⟩⟩⟩⟩⟩⟩⟩⟩⟩⟩⟩
theorem lw_p48 : lw_okq (⟨"PromiseNamesModel", "isPerson", "(I)Z"⟩, 45) := ⟨⟨by decide +kernel, by decide +kernel⟩, List.mem_of_getElem? (i := 887) (by decide +kernel), List.mem_of_getElem? (i := 1128) (by decide +kernel), List.mem_of_getElem? (i := 1129) (by decide +kernel)⟩
theorem lw_p49 : lw_okq (⟨"PromiseNamesModel", "isPromise", "(I)Z"⟩, 45) := ⟨⟨by decide +kernel, by decide +kernel⟩, List.mem_of_getElem? (i := 887) (by decide +kernel), List.mem_of_getElem? (i := 1140) (by decide +kernel), List.mem_of_getElem? (i := 1141) (by decide +kernel)⟩
theorem lw_p50 : lw_okq (⟨"PromiseNamesModel", "holderIn", "(II)I"⟩, 45) := ⟨⟨by decide +kernel, by decide +kernel⟩, List.mem_of_getElem? (i := 887) (by decide +kernel), List.mem_of_getElem? (i := 1144) (by decide +kernel), List.mem_of_getElem? (i := 1145) (by decide +kernel)⟩
theorem lw_p51 : lw_okq (⟨"PromiseNamesModel", "placeIn", "(III)I"⟩, 45) := ⟨⟨by decide +kernel, by decide +kernel⟩, List.mem_of_getElem? (i := 887) (by decide +kernel), List.mem_of_getElem? (i := 1148) (by decide +kernel), List.mem_of_getElem? (i := 1149) (by decide +kernel)⟩
theorem lw_p52 : lw_okq (⟨"PromiseNamesModel", "isOpen", "(II)Z"⟩, 45) := ⟨⟨by decide +kernel, by decide +kernel⟩, List.mem_of_getElem? (i := 887) (by decide +kernel), List.mem_of_getElem? (i := 1152) (by decide +kernel), List.mem_of_getElem? (i := 1153) (by decide +kernel)⟩
theorem lw_p53 : lw_okq (⟨"PromiseNamesModel", "minds", "()V"⟩, 45) := ⟨⟨by decide +kernel, by decide +kernel⟩, List.mem_of_getElem? (i := 887) (by decide +kernel), List.mem_of_getElem? (i := 1175) (by decide +kernel), List.mem_of_getElem? (i := 1176) (by decide +kernel)⟩
theorem lw_p54 : lw_okq (⟨"PromiseNamesModel", "bring", "(II)V"⟩, 45) := ⟨⟨by decide +kernel, by decide +kernel⟩, List.mem_of_getElem? (i := 887) (by decide +kernel), List.mem_of_getElem? (i := 1179) (by decide +kernel), List.mem_of_getElem? (i := 1180) (by decide +kernel)⟩
theorem lw_p55 : lw_okq (⟨"PromiseNamesModel", "passesYear", "(I)V"⟩, 45) := ⟨⟨by decide +kernel, by decide +kernel⟩, List.mem_of_getElem? (i := 887) (by decide +kernel), List.mem_of_getElem? (i := 1183) (by decide +kernel), List.mem_of_getElem? (i := 1184) (by decide +kernel)⟩
theorem lw_p56 : lw_okq (⟨"PromiseNamesModel", "becomesKept", "(III)V"⟩, 45) := ⟨⟨by decide +kernel, by decide +kernel⟩, List.mem_of_getElem? (i := 887) (by decide +kernel), List.mem_of_getElem? (i := 1187) (by decide +kernel), List.mem_of_getElem? (i := 1188) (by decide +kernel)⟩
theorem lw_p57 : lw_okq (⟨"PromiseNamesModel", "leavesOne", "(III)V"⟩, 45) := ⟨⟨by decide +kernel, by decide +kernel⟩, List.mem_of_getElem? (i := 887) (by decide +kernel), List.mem_of_getElem? (i := 1191) (by decide +kernel), List.mem_of_getElem? (i := 1192) (by decide +kernel)⟩
theorem lw_p58 : lw_okq (⟨"PromiseNamesModel", "dies", "(II)V"⟩, 45) := ⟨⟨by decide +kernel, by decide +kernel⟩, List.mem_of_getElem? (i := 887) (by decide +kernel), List.mem_of_getElem? (i := 1195) (by decide +kernel), List.mem_of_getElem? (i := 1196) (by decide +kernel)⟩
theorem lw_p59 : lw_okq (⟨"PromiseNamesModel", "tries", "()V"⟩, 45) := ⟨⟨by decide +kernel, by decide +kernel⟩, List.mem_of_getElem? (i := 887) (by decide +kernel), List.mem_of_getElem? (i := 1228) (by decide +kernel), List.mem_of_getElem? (i := 1229) (by decide +kernel)⟩
theorem lw_p60 : lw_okq (⟨"PromiseNamesModel", "goesOn", "(I)V"⟩, 45) := ⟨⟨by decide +kernel, by decide +kernel⟩, List.mem_of_getElem? (i := 887) (by decide +kernel), List.mem_of_getElem? (i := 1232) (by decide +kernel), List.mem_of_getElem? (i := 1233) (by decide +kernel)⟩
theorem lw_p61 : lw_okq (⟨"PromiseNamesModel", "bestOrder", "(II)I"⟩, 45) := ⟨⟨by decide +kernel, by decide +kernel⟩, List.mem_of_getElem? (i := 887) (by decide +kernel), List.mem_of_getElem? (i := 1253) (by decide +kernel), List.mem_of_getElem? (i := 1254) (by decide +kernel)⟩
theorem lw_p62 : lw_okq (⟨"PromiseNamesModel", "freePage", "()I"⟩, 45) := ⟨⟨by decide +kernel, by decide +kernel⟩, List.mem_of_getElem? (i := 887) (by decide +kernel), List.mem_of_getElem? (i := 1305) (by decide +kernel), List.mem_of_getElem? (i := 1306) (by decide +kernel)⟩
theorem lw_p63 : lw_okq (⟨"PromiseNamesModel", "againstTwo", "(IIII)I"⟩, 45) := ⟨⟨by decide +kernel, by decide +kernel⟩, List.mem_of_getElem? (i := 887) (by decide +kernel), List.mem_of_getElem? (i := 1313) (by decide +kernel), List.mem_of_getElem? (i := 1314) (by decide +kernel)⟩
def lw_privs_4 : List (MethodName × Nat) := [(⟨"PromiseNamesModel", "isPerson", "(I)Z"⟩, 45), (⟨"PromiseNamesModel", "isPromise", "(I)Z"⟩, 45), (⟨"PromiseNamesModel", "holderIn", "(II)I"⟩, 45), (⟨"PromiseNamesModel", "placeIn", "(III)I"⟩, 45), (⟨"PromiseNamesModel", "isOpen", "(II)Z"⟩, 45), (⟨"PromiseNamesModel", "minds", "()V"⟩, 45), (⟨"PromiseNamesModel", "bring", "(II)V"⟩, 45), (⟨"PromiseNamesModel", "passesYear", "(I)V"⟩, 45), (⟨"PromiseNamesModel", "becomesKept", "(III)V"⟩, 45), (⟨"PromiseNamesModel", "leavesOne", "(III)V"⟩, 45), (⟨"PromiseNamesModel", "dies", "(II)V"⟩, 45), (⟨"PromiseNamesModel", "tries", "()V"⟩, 45), (⟨"PromiseNamesModel", "goesOn", "(I)V"⟩, 45), (⟨"PromiseNamesModel", "bestOrder", "(II)I"⟩, 45), (⟨"PromiseNamesModel", "freePage", "()I"⟩, 45), (⟨"PromiseNamesModel", "againstTwo", "(IIII)I"⟩, 45)]
theorem lw_r4 : ∀ q ∈ lw_privs_4, lw_okq q := List.forall_mem_cons.mpr ⟨lw_p48, List.forall_mem_cons.mpr ⟨lw_p49, List.forall_mem_cons.mpr ⟨lw_p50, List.forall_mem_cons.mpr ⟨lw_p51, List.forall_mem_cons.mpr ⟨lw_p52, List.forall_mem_cons.mpr ⟨lw_p53, List.forall_mem_cons.mpr ⟨lw_p54, List.forall_mem_cons.mpr ⟨lw_p55, List.forall_mem_cons.mpr ⟨lw_p56, List.forall_mem_cons.mpr ⟨lw_p57, List.forall_mem_cons.mpr ⟨lw_p58, List.forall_mem_cons.mpr ⟨lw_p59, List.forall_mem_cons.mpr ⟨lw_p60, List.forall_mem_cons.mpr ⟨lw_p61, List.forall_mem_cons.mpr ⟨lw_p62, List.forall_mem_cons.mpr ⟨lw_p63, fun _ h => absurd h List.not_mem_nil⟩⟩⟩⟩⟩⟩⟩⟩⟩⟩⟩⟩⟩⟩⟩⟩
theorem lw_p64 : lw_okq (⟨"PromiseNamesModel", "againstLine", "(III)I"⟩, 45) := ⟨⟨by decide +kernel, by decide +kernel⟩, List.mem_of_getElem? (i := 887) (by decide +kernel), List.mem_of_getElem? (i := 1327) (by decide +kernel), List.mem_of_getElem? (i := 1328) (by decide +kernel)⟩
theorem lw_p65 : lw_okq (⟨"PromiseNamesModel", "dead", "()I"⟩, 45) := ⟨⟨by decide +kernel, by decide +kernel⟩, List.mem_of_getElem? (i := 887) (by decide +kernel), List.mem_of_getElem? (i := 1349) (by decide +kernel), List.mem_of_getElem? (i := 1350) (by decide +kernel)⟩
theorem lw_p66 : lw_okq (⟨"PromiseNamesModel", "doneAll", "()I"⟩, 45) := ⟨⟨by decide +kernel, by decide +kernel⟩, List.mem_of_getElem? (i := 887) (by decide +kernel), List.mem_of_getElem? (i := 1353) (by decide +kernel), List.mem_of_getElem? (i := 1354) (by decide +kernel)⟩
theorem lw_p67 : lw_okq (⟨"PromiseNamesModel", "registersThere", "()I"⟩, 45) := ⟨⟨by decide +kernel, by decide +kernel⟩, List.mem_of_getElem? (i := 887) (by decide +kernel), List.mem_of_getElem? (i := 1357) (by decide +kernel), List.mem_of_getElem? (i := 1358) (by decide +kernel)⟩
def lw_privs_5 : List (MethodName × Nat) := [(⟨"PromiseNamesModel", "againstLine", "(III)I"⟩, 45), (⟨"PromiseNamesModel", "dead", "()I"⟩, 45), (⟨"PromiseNamesModel", "doneAll", "()I"⟩, 45), (⟨"PromiseNamesModel", "registersThere", "()I"⟩, 45)]
theorem lw_r5 : ∀ q ∈ lw_privs_5, lw_okq q := List.forall_mem_cons.mpr ⟨lw_p64, List.forall_mem_cons.mpr ⟨lw_p65, List.forall_mem_cons.mpr ⟨lw_p66, List.forall_mem_cons.mpr ⟨lw_p67, fun _ h => absurd h List.not_mem_nil⟩⟩⟩⟩
def lw_privs : List (MethodName × Nat) := lw_privs_1 ++ (lw_privs_2 ++ (lw_privs_3 ++ (lw_privs_4 ++ (lw_privs_5))))
def lw_tbl : List Cond := k2_sels lw_privs ++ tables_1
theorem lw_privs_ok : ∀ q ∈ lw_privs, lw_okq q := by
  show ∀ q ∈ lw_privs_1 ++ (lw_privs_2 ++ (lw_privs_3 ++ (lw_privs_4 ++ (lw_privs_5)))), lw_okq q
  exact List.forall_mem_append.mpr ⟨lw_r1, List.forall_mem_append.mpr ⟨lw_r2, List.forall_mem_append.mpr ⟨lw_r3, List.forall_mem_append.mpr ⟨lw_r4, lw_r5⟩⟩⟩⟩
end
section
def R_Pn : String := "PromiseNames"
def F_Pn : u_T := fun k => match k with
  | 0 => ("PromiseNames", "told", "LPromiseNames$Told;", true)
  | 1 => ("PromiseNames", "draft", "LPromiseNames$Told;", true)
  | 2 => ("PromiseNames", "reader", "LPromiseNames$Reader;", true)
  | 3 => ("PromiseNames", "now", "LPromiseNames$State;", true)
  | 4 => ("PromiseNames", "past", "LPromiseNames$Past;", true)
  | 5 => ("PromiseNames", "kept", "[LPromiseNames$State;", true)
  | 6 => ("PromiseNames", "isSlotKept", "[Z", true)
  | 7 => ("PromiseNames", "foretelling", "LPromiseNames$Foretelling;", true)
  | 8 => ("PromiseNames", "sightings", "LPromiseNames$Sightings;", true)
  | _ => ("PromiseNames", "shelf", "LPromiseNames$Shelf;", true)
def t_Pn : Nat → FieldType := fun k => match k with
  | 0 => .object "PromiseNames$Told"
  | 1 => .object "PromiseNames$Told"
  | 2 => .object "PromiseNames$Reader"
  | 3 => .object "PromiseNames$State"
  | 4 => .object "PromiseNames$Past"
  | 5 => .array (.object "PromiseNames$State")
  | 6 => .array .boolean
  | 7 => .object "PromiseNames$Foretelling"
  | 8 => .object "PromiseNames$Sightings"
  | _ => .object "PromiseNames$Shelf"
theorem n_Pn : ∀ a, a < 10 → ∀ b, b < 10 → a ≠ b → (F_Pn a).2.1 ≠ (F_Pn b).2.1 := by decide +kernel
theorem t_Pn_ok : ∀ k, k < 10 → parseFieldDescriptor (F_Pn k).2.2.1 = some (t_Pn k) := by decide +kernel
theorem i_Pn : ∀ w ∈ u_ws R_Pn F_Pn 10, w ∈ lw_tbl := by decide +kernel
def R_Tl : String := "PromiseNames$Told"
def F_Tl : u_T := fun k => match k with
  | 0 => ("PromiseNames$Told", "people", "I", false)
  | 1 => ("PromiseNames$Told", "promises", "I", false)
  | 2 => ("PromiseNames$Told", "strength", "[I", true)
  | 3 => ("PromiseNames$Told", "span", "[I", true)
  | 4 => ("PromiseNames$Told", "heir", "[I", true)
  | 5 => ("PromiseNames$Told", "kind", "[I", true)
  | 6 => ("PromiseNames$Told", "work", "[I", true)
  | 7 => ("PromiseNames$Told", "needs", "[I", true)
  | 8 => ("PromiseNames$Told", "holder", "[I", true)
  | _ => ("PromiseNames$Told", "foes", "[I", true)
def t_Tl : Nat → FieldType := fun k => match k with
  | 0 => .int
  | 1 => .int
  | 2 => .array .int
  | 3 => .array .int
  | 4 => .array .int
  | 5 => .array .int
  | 6 => .array .int
  | 7 => .array .int
  | 8 => .array .int
  | _ => .array .int
theorem n_Tl : ∀ a, a < 10 → ∀ b, b < 10 → a ≠ b → (F_Tl a).2.1 ≠ (F_Tl b).2.1 := by decide +kernel
theorem t_Tl_ok : ∀ k, k < 10 → parseFieldDescriptor (F_Tl k).2.2.1 = some (t_Tl k) := by decide +kernel
theorem i_Tl : ∀ w ∈ u_ws R_Tl F_Tl 10, w ∈ lw_tbl := by decide +kernel
def R_Rd : String := "PromiseNames$Reader"
def F_Rd : u_T := fun k => match k with
  | 0 => ("PromiseNames$Reader", "letters", "[I", true)
  | 1 => ("PromiseNames$Reader", "length", "I", false)
  | 2 => ("PromiseNames$Reader", "clauses", "I", false)
  | 3 => ("PromiseNames$Reader", "sort", "I", false)
  | 4 => ("PromiseNames$Reader", "start", "I", false)
  | 5 => ("PromiseNames$Reader", "end", "I", false)
  | _ => ("PromiseNames$Reader", "number", "I", false)
def t_Rd : Nat → FieldType := fun k => match k with
  | 0 => .array .int
  | 1 => .int
  | 2 => .int
  | 3 => .int
  | 4 => .int
  | 5 => .int
  | _ => .int
theorem n_Rd : ∀ a, a < 7 → ∀ b, b < 7 → a ≠ b → (F_Rd a).2.1 ≠ (F_Rd b).2.1 := by decide +kernel
theorem t_Rd_ok : ∀ k, k < 7 → parseFieldDescriptor (F_Rd k).2.2.1 = some (t_Rd k) := by decide +kernel
theorem i_Rd : ∀ w ∈ u_ws R_Rd F_Rd 7, w ∈ lw_tbl := by decide +kernel
def R_St : String := "PromiseNames$State"
def F_St : u_T := fun k => match k with
  | 0 => ("PromiseNames$State", "told", "LPromiseNames$Told;", true)
  | 1 => ("PromiseNames$State", "span", "[I", true)
  | 2 => ("PromiseNames$State", "work", "[I", true)
  | 3 => ("PromiseNames$State", "done", "[I", true)
  | 4 => ("PromiseNames$State", "holder", "[I", true)
  | 5 => ("PromiseNames$State", "row", "[I", true)
  | 6 => ("PromiseNames$State", "year", "I", false)
  | _ => ("PromiseNames$State", "keptOnes", "I", false)
def t_St : Nat → FieldType := fun k => match k with
  | 0 => .object "PromiseNames$Told"
  | 1 => .array .int
  | 2 => .array .int
  | 3 => .array .int
  | 4 => .array .int
  | 5 => .array .int
  | 6 => .int
  | _ => .int
theorem n_St : ∀ a, a < 8 → ∀ b, b < 8 → a ≠ b → (F_St a).2.1 ≠ (F_St b).2.1 := by decide +kernel
theorem t_St_ok : ∀ k, k < 8 → parseFieldDescriptor (F_St k).2.2.1 = some (t_St k) := by decide +kernel
theorem i_St : ∀ w ∈ u_ws R_St F_St 8, w ∈ lw_tbl := by decide +kernel
def R_Ps : String := "PromiseNames$Past"
def F_Ps : u_T := fun k => match k with
  | 0 => ("PromiseNames$Past", "ring", "[LPromiseNames$State;", true)
  | 1 => ("PromiseNames$Past", "next", "I", false)
  | _ => ("PromiseNames$Past", "size", "I", false)
def t_Ps : Nat → FieldType := fun k => match k with
  | 0 => .array (.object "PromiseNames$State")
  | 1 => .int
  | _ => .int
theorem n_Ps : ∀ a, a < 3 → ∀ b, b < 3 → a ≠ b → (F_Ps a).2.1 ≠ (F_Ps b).2.1 := by decide +kernel
theorem t_Ps_ok : ∀ k, k < 3 → parseFieldDescriptor (F_Ps k).2.2.1 = some (t_Ps k) := by decide +kernel
theorem i_Ps : ∀ w ∈ u_ws R_Ps F_Ps 3, w ∈ lw_tbl := by decide +kernel
def R_Fo : String := "PromiseNames$Foretelling"
def F_Fo : u_T := fun k => match k with
  | 0 => ("PromiseNames$Foretelling", "told", "LPromiseNames$Told;", true)
  | 1 => ("PromiseNames$Foretelling", "trial", "LPromiseNames$State;", true)
  | 2 => ("PromiseNames$Foretelling", "places", "[I", true)
  | 3 => ("PromiseNames$Foretelling", "tried", "[I", true)
  | 4 => ("PromiseNames$Foretelling", "best", "[I", true)
  | 5 => ("PromiseNames$Foretelling", "size", "I", false)
  | _ => ("PromiseNames$Foretelling", "mostKept", "I", false)
def t_Fo : Nat → FieldType := fun k => match k with
  | 0 => .object "PromiseNames$Told"
  | 1 => .object "PromiseNames$State"
  | 2 => .array .int
  | 3 => .array .int
  | 4 => .array .int
  | 5 => .int
  | _ => .int
theorem n_Fo : ∀ a, a < 7 → ∀ b, b < 7 → a ≠ b → (F_Fo a).2.1 ≠ (F_Fo b).2.1 := by decide +kernel
theorem t_Fo_ok : ∀ k, k < 7 → parseFieldDescriptor (F_Fo k).2.2.1 = some (t_Fo k) := by decide +kernel
theorem i_Fo : ∀ w ∈ u_ws R_Fo F_Fo 7, w ∈ lw_tbl := by decide +kernel
def R_Sg : String := "PromiseNames$Sightings"
def F_Sg : u_T := fun k => match k with
  | 0 => ("PromiseNames$Sightings", "strength", "[I", true)
  | 1 => ("PromiseNames$Sightings", "years", "[I", true)
  | 2 => ("PromiseNames$Sightings", "much", "[I", true)
  | _ => ("PromiseNames$Sightings", "size", "I", false)
def t_Sg : Nat → FieldType := fun k => match k with
  | 0 => .array .int
  | 1 => .array .int
  | 2 => .array .int
  | _ => .int
theorem n_Sg : ∀ a, a < 4 → ∀ b, b < 4 → a ≠ b → (F_Sg a).2.1 ≠ (F_Sg b).2.1 := by decide +kernel
theorem t_Sg_ok : ∀ k, k < 4 → parseFieldDescriptor (F_Sg k).2.2.1 = some (t_Sg k) := by decide +kernel
theorem i_Sg : ∀ w ∈ u_ws R_Sg F_Sg 4, w ∈ lw_tbl := by decide +kernel
def R_Sh : String := "PromiseNames$Shelf"
def F_Sh : u_T := fun k => match k with
  | _ => ("PromiseNames$Shelf", "registers", "[LPromiseNames$Register;", true)
def t_Sh : Nat → FieldType := fun k => match k with
  | _ => .array (.object "PromiseNames$Register")
theorem n_Sh : ∀ a, a < 1 → ∀ b, b < 1 → a ≠ b → (F_Sh a).2.1 ≠ (F_Sh b).2.1 := by decide +kernel
theorem t_Sh_ok : ∀ k, k < 1 → parseFieldDescriptor (F_Sh k).2.2.1 = some (t_Sh k) := by decide +kernel
theorem i_Sh : ∀ w ∈ u_ws R_Sh F_Sh 1, w ∈ lw_tbl := by decide +kernel
def R_Rg : String := "PromiseNames$Register"
def F_Rg : u_T := fun k => match k with
  | _ => ("PromiseNames$Register", "leaves", "[LPromiseNames$Page;", true)
def t_Rg : Nat → FieldType := fun k => match k with
  | _ => .array (.object "PromiseNames$Page")
theorem n_Rg : ∀ a, a < 1 → ∀ b, b < 1 → a ≠ b → (F_Rg a).2.1 ≠ (F_Rg b).2.1 := by decide +kernel
theorem t_Rg_ok : ∀ k, k < 1 → parseFieldDescriptor (F_Rg k).2.2.1 = some (t_Rg k) := by decide +kernel
theorem i_Rg : ∀ w ∈ u_ws R_Rg F_Rg 1, w ∈ lw_tbl := by decide +kernel
def R_Pg : String := "PromiseNames$Page"
def F_Pg : u_T := fun k => match k with
  | 0 => ("PromiseNames$Page", "sort", "[I", true)
  | _ => ("PromiseNames$Page", "value", "[I", true)
def t_Pg : Nat → FieldType := fun k => match k with
  | 0 => .array .int
  | _ => .array .int
theorem n_Pg : ∀ a, a < 2 → ∀ b, b < 2 → a ≠ b → (F_Pg a).2.1 ≠ (F_Pg b).2.1 := by decide +kernel
theorem t_Pg_ok : ∀ k, k < 2 → parseFieldDescriptor (F_Pg k).2.2.1 = some (t_Pg k) := by decide +kernel
theorem i_Pg : ∀ w ∈ u_ws R_Pg F_Pg 2, w ∈ lw_tbl := by decide +kernel
def R_Md : String := "PromiseNamesModel"
def F_Md : u_T := fun k => match k with
  | 0 => ("PromiseNamesModel", "w", "[I", true)
  | 1 => ("PromiseNamesModel", "undoes", "I", false)
  | 2 => ("PromiseNamesModel", "isImage", "[Z", true)
  | 3 => ("PromiseNamesModel", "people", "I", false)
  | 4 => ("PromiseNamesModel", "strength", "[I", true)
  | 5 => ("PromiseNamesModel", "span", "[I", true)
  | 6 => ("PromiseNamesModel", "heir", "[I", true)
  | 7 => ("PromiseNamesModel", "promises", "I", false)
  | 8 => ("PromiseNamesModel", "kind", "[I", true)
  | 9 => ("PromiseNamesModel", "work", "[I", true)
  | 10 => ("PromiseNamesModel", "needs", "[I", true)
  | 11 => ("PromiseNamesModel", "holder", "[I", true)
  | 12 => ("PromiseNamesModel", "strife", "[I", true)
  | 13 => ("PromiseNamesModel", "text", "[I", true)
  | 14 => ("PromiseNamesModel", "texted", "I", false)
  | 15 => ("PromiseNamesModel", "at", "I", false)
  | 16 => ("PromiseNamesModel", "start", "I", false)
  | 17 => ("PromiseNamesModel", "end", "I", false)
  | 18 => ("PromiseNamesModel", "sort", "I", false)
  | 19 => ("PromiseNamesModel", "tPeople", "I", false)
  | 20 => ("PromiseNamesModel", "tStrength", "[I", true)
  | 21 => ("PromiseNamesModel", "tSpan", "[I", true)
  | 22 => ("PromiseNamesModel", "tHeir", "[I", true)
  | 23 => ("PromiseNamesModel", "tPromises", "I", false)
  | 24 => ("PromiseNamesModel", "tKind", "[I", true)
  | 25 => ("PromiseNamesModel", "tWork", "[I", true)
  | 26 => ("PromiseNamesModel", "tNeeds", "[I", true)
  | 27 => ("PromiseNamesModel", "tHolder", "[I", true)
  | 28 => ("PromiseNamesModel", "tStrife", "[I", true)
  | 29 => ("PromiseNamesModel", "clauses", "I", false)
  | 30 => ("PromiseNamesModel", "number", "I", false)
  | 31 => ("PromiseNamesModel", "worksAt", "[I", true)
  | 32 => ("PromiseNamesModel", "trial", "[I", true)
  | 33 => ("PromiseNamesModel", "best", "[I", true)
  | 34 => ("PromiseNamesModel", "given", "[I", true)
  | 35 => ("PromiseNamesModel", "bestGiven", "[I", true)
  | 36 => ("PromiseNamesModel", "seens", "I", false)
  | 37 => ("PromiseNamesModel", "seenS", "[I", true)
  | 38 => ("PromiseNamesModel", "seenN", "[I", true)
  | 39 => ("PromiseNamesModel", "seenD", "[I", true)
  | 40 => ("PromiseNamesModel", "pages", "[I", true)
  | 41 => ("PromiseNamesModel", "bound", "[I", true)
  | 42 => ("PromiseNamesModel", "lines", "[I", true)
  | 43 => ("PromiseNamesModel", "entry", "[I", true)
  | _ => ("PromiseNamesModel", "value", "[I", true)
def t_Md : Nat → FieldType := fun k => match k with
  | 0 => .array .int
  | 1 => .int
  | 2 => .array .boolean
  | 3 => .int
  | 4 => .array .int
  | 5 => .array .int
  | 6 => .array .int
  | 7 => .int
  | 8 => .array .int
  | 9 => .array .int
  | 10 => .array .int
  | 11 => .array .int
  | 12 => .array .int
  | 13 => .array .int
  | 14 => .int
  | 15 => .int
  | 16 => .int
  | 17 => .int
  | 18 => .int
  | 19 => .int
  | 20 => .array .int
  | 21 => .array .int
  | 22 => .array .int
  | 23 => .int
  | 24 => .array .int
  | 25 => .array .int
  | 26 => .array .int
  | 27 => .array .int
  | 28 => .array .int
  | 29 => .int
  | 30 => .int
  | 31 => .array .int
  | 32 => .array .int
  | 33 => .array .int
  | 34 => .array .int
  | 35 => .array .int
  | 36 => .int
  | 37 => .array .int
  | 38 => .array .int
  | 39 => .array .int
  | 40 => .array .int
  | 41 => .array .int
  | 42 => .array .int
  | 43 => .array .int
  | _ => .array .int
theorem n_Md : ∀ a, a < 45 → ∀ b, b < 45 → a ≠ b → (F_Md a).2.1 ≠ (F_Md b).2.1 := by decide +kernel
theorem t_Md_ok : ∀ k, k < 45 → parseFieldDescriptor (F_Md k).2.2.1 = some (t_Md k) := by decide +kernel
theorem i_Md : ∀ w ∈ u_ws R_Md F_Md 45, w ∈ lw_tbl := by decide +kernel
def cls : List vw_C := [(R_Pn, F_Pn, 10), (R_Tl, F_Tl, 10), (R_Rd, F_Rd, 7), (R_St, F_St, 8), (R_Ps, F_Ps, 3), (R_Fo, F_Fo, 7), (R_Sg, F_Sg, 4), (R_Sh, F_Sh, 1), (R_Rg, F_Rg, 1), (R_Pg, F_Pg, 2), (R_Md, F_Md, 45)]
/-- the field is a reference -/
def rf (c f : Nat) : Bool := match c with
  | 0 => Nat.testBit 1023 f
  | 1 => Nat.testBit 1020 f
  | 2 => Nat.testBit 1 f
  | 3 => Nat.testBit 63 f
  | 4 => Nat.testBit 1 f
  | 5 => Nat.testBit 31 f
  | 6 => Nat.testBit 7 f
  | 7 => Nat.testBit 1 f
  | 8 => Nat.testBit 1 f
  | 9 => Nat.testBit 3 f
  | 10 => Nat.testBit 35114032578421 f
  | _ => false
end
section
/-! THE ABSTRACT HEAP. A heap is a row of kinds and sizes by number (0: null, 1 .. 31: what was there before the law), the ints by number and place, the references by number and place. -/
abbrev AH : Type := List (Nat × Nat) × (Nat → Nat → Int32) × (Nat → Nat → Nat)
/-- a method: its name, its bytes, its locals, what it returns, how deep it calls -/
abbrev MD : Type := MethodName × ByteArray × Nat × Option FieldType × Nat
/-- launch, class numbers, slots, array classes, where the new cells begin, the old cells, the script's length and ints -/
abbrev CX : Type := Launch × (Nat → ClassId) × (Nat → Nat → Nat) × (Nat → ClassId) × Nat × (Nat → Nat) × Nat × (Nat → Int32)
abbrev xl (X : CX) : Launch := X.1
abbrev xD (X : CX) : va_G := (X.2.1, X.2.2.1)
abbrev xA (X : CX) : Nat → ClassId := X.2.2.2.1
abbrev xN (X : CX) : Nat := X.2.2.2.2.1
abbrev xE (X : CX) : Nat → Nat := X.2.2.2.2.2.1
abbrev xL (X : CX) : Nat := X.2.2.2.2.2.2.1
abbrev xS (X : CX) : Nat → Int32 := X.2.2.2.2.2.2.2
def xF (X : CX) : Nat → Prop := fun q => xN X ≤ q
def tbG : List Cond := lw_tbl.filter goodWord
theorem tbG_of {w : Cond} (h : w ∈ lw_tbl) (g : goodWord w = true) : w ∈ tbG := List.mem_filter.mpr ⟨h, g⟩
theorem tbG_good {w : Cond} (h : w ∈ tbG) : (w.onTables && w.keeps) = true ∨ ∃ ty, w = .arrayClass ty := good_of_word (List.mem_filter.mp h).2
def am (X : CX) (r : Nat) : Nat := if r < 32 then xE X r else xN X + (r - 32)
def rO (X : CX) (r : Nat) : Option Nat := if r = 0 then none else some (am X r)
def rv (X : CX) (v : Value) : Value := match v with
  | .ref r => va_rf (rO X r)
  | w => w
def fv (X : CX) (c f : Nat) (h : AH) (r : Nat) : Value := if rf c f = true then rv X (.ref (h.2.2 r f)) else .int (h.2.1 r f)
def ce (X : CX) (h : AH) (r : Nat) (q : Nat × Nat) : va_E :=
  if q.1 < 20 then .inr (q.1, (List.range q.2).map (fun f => fv X q.1 f h r))
  else if q.1 < 22 then .inl (xA X q.1, q.2, .inl (h.2.1 r))
  else .inl (xA X q.1, q.2, .inr (.inr (.inr (.inr (fun j => rO X (h.2.2 r j))))))
def wo (X : CX) (h : AH) : va_W := (List.range (h.1.length - 32)).map (fun i => (xN X + i, ce X h (i + 32) (h.1.getD (i + 32) (0, 0))))
def sz (h : AH) : Nat := (h.1.map (fun q => q.2)).sum
def tysX (X : CX) : List (ClassId × FieldType) := [(xA X 20, .int), (xA X 21, .boolean), (xA X 22, .object R_St), (xA X 23, .object R_Rg), (xA X 24, .object R_Pg)]
/-! the old cells: the script, the String constants and their bytes -/
def lenS : List Nat := [6, 3, 6, 4, 3, 5, 4, 4]
def bytS : List (List Int32) := [[112, 97, 114, 105, 115, 104], [109, 97, 110], [115, 116, 114, 105, 102, 101], [119, 105, 108, 108], [112, 97, 121], [115, 104, 111, 114, 116], [115, 104, 117, 110], [101, 118, 101, 114]]
def lay0 (L : Nat) : List (Nat × Nat) := [(33, 0), (30, L)] ++ (List.range 8).map (fun _ => (31, 2)) ++ lenS.map (fun n => (32, n)) ++ (List.range 14).map (fun _ => (33, 0))
def mI0 (X : CX) (r : Nat) : Nat → Int32 := if r = 1 then xS X else if 10 ≤ r ∧ r < 18 then (fun j => (bytS.getD (r - 10) []).getD j 0) else fun _ => 0
def mR0 (r : Nat) : Nat → Nat := fun j => if 2 ≤ r ∧ r < 10 ∧ j = 0 then r + 8 else 0
def exO (X : CX) (h : AH) : Prop := h.1.take 32 = lay0 (xL X) ∧ ∀ r, r < 32 → h.2.1 r = mI0 X r ∧ h.2.2 r = mR0 r
def Wd (X : CX) (h : AH) (H : Heap) : Prop := va_P (xD X) cls (wo X h) H ∧ H.size + 32 = xN X + h.1.length ∧ 32 ≤ h.1.length ∧ exO X h
def Sw (X : CX) (h : AH) (s : State) (H : Heap) (locs : List Loc) : Prop := Wd X h H ∧ va_S (xF X) s.heap H locs
/-- calls of a nest mate's own -/
def nestL : List (String × Nat × MethodName) := [(R_Pn, 9, ⟨R_Tl, "<init>", "()V"⟩), (R_Pn, 21, ⟨R_Rd, "<init>", "()V"⟩), (R_Pn, 59, ⟨R_Sg, "<init>", "()V"⟩), (R_Pn, 66, ⟨R_Sh, "<init>", "()V"⟩), (R_Rd, 132, ⟨R_Pn, "isWithin", "(III)Z"⟩), (R_St, 70, ⟨R_Pn, "isWithin", "(III)Z"⟩), (R_Fo, 59, ⟨R_Pn, "isWithin", "(III)Z"⟩), (R_Rg, 21, ⟨R_Pn, "isWithin", "(III)Z"⟩), (R_Sh, 35, ⟨R_Pn, "isWithin", "(III)Z"⟩)]
def zX (X : CX) : Nat := if xE X 19 = 0 then 0 else 18
def Kw (X : CX) (s : State) : Prop := va_K (xD X) cls (tysX X) s ∧ (va_AO R_St s ∧ va_AO R_Rg s ∧ va_AO R_Pg s) ∧ (va_X (xE X 1) (xL X) (xS X) s s.heap ∧ xE X 1 < xN X) ∧ xN X ≤ s.heap.size ∧
  (vk_S 8 lenS bytS (fun i => xE X (2 + i)) (fun i => xE X (10 + i)) (xF X) s s.heap ∧ (∀ q ∈ [(0, 42, "parish"), (1, 53, "man"), (2, 58, "strife"), (3, 71, "will"), (4, 75, "pay"), (5, 77, "short"), (6, 79, "shun"), (7, 81, "ever")], vk_R R_Rd q.2.1 q.2.2 (xE X (2 + q.1)) s)) ∧
  (va_Z "java/lang/String" "COMPACT_STRINGS" "Z" (.int 1) (xF X) s s.heap ∧ va_Z "jdk/internal/util/Preconditions" "SIOOBE_FORMATTER" "Ljava/util/function/BiFunction;" (rv X (.ref (zX X))) (xF X) s s.heap) ∧ (∀ q ∈ nestL, va_Nw (.methodLinkNest q.1 q.2.1 q.2.2 "PromiseNames") s)
def rl (v : Value) : Bool := match v with
  | .retAddr _ => false
  | _ => true
abbrev jk : Value := .retAddr 0
def LR (X : CX) (n : Nat) (ls : List Value) (la : Array Slot) : Prop := la.size = n ∧ ls.length = n ∧ lv_wf la ∧ ∀ (i : Nat) (v : Value), ls[i]? = some v → rl v = true → la[i]? = some (.val (rv X v))
def Fr (X : CX) (M : MD) (p : Program) (s : State) (m : MethodId) (args : Array Value) (meth : Method) (c : Code) (R : Room) : Prop :=
  p.tables.exec = Jvm.exec ∧ c.code = M.2.1 ∧ c.maxLocals = M.2.2.1 ∧ s.vm.findClass M.1.cls = some m.cls ∧ (∀ w ∈ tbG, w.before args s = true) ∧ Kw X s ∧ meth.name = M.1.name ∧ M.2.2.2.2 ≤ R.frames ∧ 34 * M.2.2.2.2 ≤ R.locals
/-- a return: the instruction, the stack, the answer -/
def retI (M : MD) (pc : Nat) (st : List Value) (r : Option Value) : Prop :=
  (∃ (v : Int32) (ty : FieldType), decode M.2.1 pc = .ok (.ireturn, 1) ∧ st = [.int v] ∧ r = some (.int v) ∧ M.2.2.2.1 = some ty ∧ narrow ty (.int v) = .int v) ∨
  (∃ v : Int64, decode M.2.1 pc = .ok (.lreturn, 1) ∧ st = [.long v] ∧ r = some (.long v) ∧ M.2.2.2.1 = some .long) ∨
  (∃ (a : Nat) (n : String), decode M.2.1 pc = .ok (.areturn, 1) ∧ st = [.ref a] ∧ r = some (.ref a) ∧ M.2.2.2.1 = some (.object n)) ∨
  (decode M.2.1 pc = .ok (.return_, 1) ∧ st = [] ∧ r = none ∧ M.2.2.2.1 = none)
/-- from here the method M comes to its return with r and the heap h' -/
def AW (X : CX) (M : MD) (pc : Nat) (ls st : List Value) (h : AH) (r : Option Value) (h' : AH) : Prop :=
  (h.1.length ≤ h'.1.length ∧ sz h ≤ sz h') ∧
  ∀ (p : Program) (e : Env) (s : State) (m : MethodId) (args : Array Value) (below : List Frame) (meth : Method) (c : Code) (R : Room) (Q : State → Prop) (mc ms : Nat), Fr X M p s m args meth c R → mc ≤ R.cells ∧ ms ≤ R.slots →
    (∀ (pc' : Nat) (st' : List Value) (la' : Array Slot) (H' : Heap) (locs' : List Loc), retI M pc' st' r → Sw X h' s H' locs' → W p (xl X) e R s m args below meth c H' locs' mc ms Q (F0 m pc' la' (st'.map (rv X)))) →
    ∀ (H : Heap) (locs : List Loc) (cells slots : Nat) (la : Array Slot), cells + h'.1.length ≤ mc + h.1.length ∧ slots + sz h' ≤ ms + sz h → Sw X h s H locs → LR X M.2.2.1 ls la →
      W p (xl X) e R s m args below meth c H locs cells slots Q (F0 m pc la (st.map (rv X)))
def EW (X : CX) (M : MD) (pc : Nat) (ls st : List Value) (h : AH) (Q : Option Value → AH → Prop) : Prop := ∃ r h', Q r h' ∧ AW X M pc ls st h r h'
theorem EW.mono {X : CX} {M : MD} {pc : Nat} {ls st : List Value} {h : AH} {Q Q' : Option Value → AH → Prop} (k : EW X M pc ls st h Q) (hq : ∀ r h', Q r h' → Q' r h') : EW X M pc ls st h Q' := by
  obtain ⟨r, h', q, w⟩ := k
  exact ⟨r, h', hq _ _ q, w⟩
theorem EW.lift {X : CX} {M : MD} {pc pc2 : Nat} {ls st ls2 st2 : List Value} {h h2 : AH} {Q : Option Value → AH → Prop} (k : EW X M pc2 ls2 st2 h2 Q) (hw : ∀ r h', AW X M pc2 ls2 st2 h2 r h' → AW X M pc ls st h r h') : EW X M pc ls st h Q := by
  obtain ⟨r, h', q, w⟩ := k
  exact ⟨r, h', q, hw _ _ w⟩
/-- an instruction that leaves heap and locals -/
theorem AW.go {X : CX} {M : MD} {pc pc2 : Nat} {ls st st2 : List Value} {h : AH} {r : Option Value} {h' : AH}
    (hw : ∀ (p : Program) (e : Env) (s : State) (m : MethodId) (args : Array Value) (below : List Frame) (meth : Method) (c : Code) (R : Room) (Q : State → Prop), Fr X M p s m args meth c R → ∀ (H : Heap) (locs : List Loc) (cells slots : Nat) (la : Array Slot), Sw X h s H locs → LR X M.2.2.1 ls la →
      W p (xl X) e R s m args below meth c H locs cells slots Q (F0 m pc2 la (st2.map (rv X))) → W p (xl X) e R s m args below meth c H locs cells slots Q (F0 m pc la (st.map (rv X))))
    (k : AW X M pc2 ls st2 h r h') : AW X M pc ls st h r h' :=
  ⟨k.1, fun p e s m args below meth c R Q mc ms F hR hf H locs cells slots la hc hS hl => hw p e s m args below meth c R Q F H locs cells slots la hS hl (k.2 p e s m args below meth c R Q mc ms F hR hf H locs cells slots la hc hS hl)⟩
section Rules1
variable {X : CX} {M : MD} {pc : Nat} {ls rest : List Value} {h : AH} {Q : Option Value → AH → Prop}
theorem P_iconst {n : Int} (hd : decode M.2.1 pc = .ok (.iconst n, 1)) (v : Int32) (hv : Int32.ofInt n = v) (k : EW X M (pc + 1) ls (.int v :: rest) h Q) : EW X M pc ls rest h Q :=
  k.lift fun _ _ => AW.go fun _ _ _ _ _ _ _ _ _ _ F _ _ _ _ _ _ _ w => lv_iconst F.1 F.2.1 hd hv w
theorem P_bipush {n : Int} (hd : decode M.2.1 pc = .ok (.bipush n, 2)) (v : Int32) (hv : (Int8.ofInt n).toInt32 = v) (k : EW X M (pc + 2) ls (.int v :: rest) h Q) : EW X M pc ls rest h Q :=
  k.lift fun _ _ => AW.go fun _ _ _ _ _ _ _ _ _ _ F _ _ _ _ _ _ _ w => lv_bipush F.1 F.2.1 hd hv w
theorem P_sipush {n : Int} (hd : decode M.2.1 pc = .ok (.sipush n, 3)) (v : Int32) (hv : (Int16.ofInt n).toInt32 = v) (k : EW X M (pc + 3) ls (.int v :: rest) h Q) : EW X M pc ls rest h Q :=
  k.lift fun _ _ => AW.go fun _ _ _ _ _ _ _ _ _ _ F _ _ _ _ _ _ _ w => lv_sipush F.1 F.2.1 hd hv w
theorem P_lconst {n : Fin 2} (hd : decode M.2.1 pc = .ok (.lconst n, 1)) (v : Int64) (hv : Int64.ofNat (n : Nat) = v) (k : EW X M (pc + 1) ls (.long v :: rest) h Q) : EW X M pc ls rest h Q :=
  k.lift fun _ _ => AW.go fun _ _ _ _ _ _ _ _ _ _ F _ _ _ _ _ _ _ w => lv_lconst F.1 F.2.1 hd hv w
theorem P_iadd {x y : Int32} (hd : decode M.2.1 pc = .ok (.iadd, 1)) (k : EW X M (pc + 1) ls (.int (x + y) :: rest) h Q) : EW X M pc ls (.int y :: .int x :: rest) h Q :=
  k.lift fun _ _ => AW.go fun _ _ _ _ _ _ _ _ _ _ F _ _ _ _ _ _ _ w => lv_iadd F.1 F.2.1 hd w
theorem P_isub {x y : Int32} (hd : decode M.2.1 pc = .ok (.isub, 1)) (k : EW X M (pc + 1) ls (.int (x - y) :: rest) h Q) : EW X M pc ls (.int y :: .int x :: rest) h Q :=
  k.lift fun _ _ => AW.go fun _ _ _ _ _ _ _ _ _ _ F _ _ _ _ _ _ _ w => lv_isub F.1 F.2.1 hd w
theorem P_imul {x y : Int32} (hd : decode M.2.1 pc = .ok (.imul, 1)) (k : EW X M (pc + 1) ls (.int (x * y) :: rest) h Q) : EW X M pc ls (.int y :: .int x :: rest) h Q :=
  k.lift fun _ _ => AW.go fun _ _ _ _ _ _ _ _ _ _ F _ _ _ _ _ _ _ w => lv_imul F.1 F.2.1 hd w
theorem P_iand {x y : Int32} (hd : decode M.2.1 pc = .ok (.iand, 1)) (k : EW X M (pc + 1) ls (.int (x &&& y) :: rest) h Q) : EW X M pc ls (.int y :: .int x :: rest) h Q :=
  k.lift fun _ _ => AW.go fun _ _ _ _ _ _ _ _ _ _ F _ _ _ _ _ _ _ w => lv_iand F.1 F.2.1 hd w
theorem P_ior {x y : Int32} (hd : decode M.2.1 pc = .ok (.ior, 1)) (k : EW X M (pc + 1) ls (.int (x ||| y) :: rest) h Q) : EW X M pc ls (.int y :: .int x :: rest) h Q :=
  k.lift fun _ _ => AW.go fun _ _ _ _ _ _ _ _ _ _ F _ _ _ _ _ _ _ w => lv_ior F.1 F.2.1 hd w
theorem P_ixor {x y : Int32} (hd : decode M.2.1 pc = .ok (.ixor, 1)) (k : EW X M (pc + 1) ls (.int (x ^^^ y) :: rest) h Q) : EW X M pc ls (.int y :: .int x :: rest) h Q :=
  k.lift fun _ _ => AW.go fun _ _ _ _ _ _ _ _ _ _ F _ _ _ _ _ _ _ w => lv_ixor F.1 F.2.1 hd w
theorem P_ishl {x y : Int32} (hd : decode M.2.1 pc = .ok (.ishl, 1)) (k : EW X M (pc + 1) ls (.int (x <<< (y &&& 31)) :: rest) h Q) : EW X M pc ls (.int y :: .int x :: rest) h Q :=
  k.lift fun _ _ => AW.go fun _ _ _ _ _ _ _ _ _ _ F _ _ _ _ _ _ _ w => lv_ishl F.1 F.2.1 hd w
theorem P_ishr {x y : Int32} (hd : decode M.2.1 pc = .ok (.ishr, 1)) (k : EW X M (pc + 1) ls (.int (x >>> (y &&& 31)) :: rest) h Q) : EW X M pc ls (.int y :: .int x :: rest) h Q :=
  k.lift fun _ _ => AW.go fun _ _ _ _ _ _ _ _ _ _ F _ _ _ _ _ _ _ w => lv_ishr F.1 F.2.1 hd w
theorem P_iushr {x y : Int32} (hd : decode M.2.1 pc = .ok (.iushr, 1)) (k : EW X M (pc + 1) ls (.int ((x.toUInt32 >>> (y.toUInt32 &&& Int32.toUInt32 31)).toInt32) :: rest) h Q) : EW X M pc ls (.int y :: .int x :: rest) h Q :=
  k.lift fun _ _ => AW.go fun _ _ _ _ _ _ _ _ _ _ F _ _ _ _ _ _ _ w => lv_iushr F.1 F.2.1 hd rfl w
theorem P_idiv {x y : Int32} (hd : decode M.2.1 pc = .ok (.idiv, 1)) (hne : ¬ y = 0) (k : EW X M (pc + 1) ls (.int (x / y) :: rest) h Q) : EW X M pc ls (.int y :: .int x :: rest) h Q :=
  k.lift fun _ _ => AW.go fun _ _ _ _ _ _ _ _ _ _ F _ _ _ _ _ _ _ w => lv_idiv F.1 F.2.1 hd hne w
theorem P_irem {x y : Int32} (hd : decode M.2.1 pc = .ok (.irem, 1)) (hne : ¬ y = 0) (k : EW X M (pc + 1) ls (.int (x - x / y * y) :: rest) h Q) : EW X M pc ls (.int y :: .int x :: rest) h Q :=
  k.lift fun _ _ => AW.go fun _ _ _ _ _ _ _ _ _ _ F _ _ _ _ _ _ _ w => lv_irem F.1 F.2.1 hd hne w
theorem P_ladd {x y : Int64} (hd : decode M.2.1 pc = .ok (.ladd, 1)) (k : EW X M (pc + 1) ls (.long (x + y) :: rest) h Q) : EW X M pc ls (.long y :: .long x :: rest) h Q :=
  k.lift fun _ _ => AW.go fun _ _ _ _ _ _ _ _ _ _ F _ _ _ _ _ _ _ w => lv_ladd F.1 F.2.1 hd w
theorem P_lmul {x y : Int64} (hd : decode M.2.1 pc = .ok (.lmul, 1)) (k : EW X M (pc + 1) ls (.long (x * y) :: rest) h Q) : EW X M pc ls (.long y :: .long x :: rest) h Q :=
  k.lift fun _ _ => AW.go fun _ _ _ _ _ _ _ _ _ _ F _ _ _ _ _ _ _ w => lv_lmul F.1 F.2.1 hd w
theorem P_land {x y : Int64} (hd : decode M.2.1 pc = .ok (.land, 1)) (k : EW X M (pc + 1) ls (.long (x &&& y) :: rest) h Q) : EW X M pc ls (.long y :: .long x :: rest) h Q :=
  k.lift fun _ _ => AW.go fun _ _ _ _ _ _ _ _ _ _ F _ _ _ _ _ _ _ w => lv_land F.1 F.2.1 hd w
theorem P_ldiv {x y : Int64} (hd : decode M.2.1 pc = .ok (.ldiv, 1)) (hne : ¬ y = 0) (k : EW X M (pc + 1) ls (.long (x / y) :: rest) h Q) : EW X M pc ls (.long y :: .long x :: rest) h Q :=
  k.lift fun _ _ => AW.go fun _ _ _ _ _ _ _ _ _ _ F _ _ _ _ _ _ _ w => lv_ldiv F.1 F.2.1 hd hne w
theorem P_lrem {x y : Int64} (hd : decode M.2.1 pc = .ok (.lrem, 1)) (hne : ¬ y = 0) (k : EW X M (pc + 1) ls (.long (x - x / y * y) :: rest) h Q) : EW X M pc ls (.long y :: .long x :: rest) h Q :=
  k.lift fun _ _ => AW.go fun _ _ _ _ _ _ _ _ _ _ F _ _ _ _ _ _ _ w => lv_lrem F.1 F.2.1 hd hne w
theorem P_lshr {x : Int64} {y : Int32} (hd : decode M.2.1 pc = .ok (.lshr, 1)) (k : EW X M (pc + 1) ls (.long (x >>> (y.toInt64 &&& 63)) :: rest) h Q) : EW X M pc ls (.int y :: .long x :: rest) h Q :=
  k.lift fun _ _ => AW.go fun _ _ _ _ _ _ _ _ _ _ F _ _ _ _ _ _ _ w => lv_lshr F.1 F.2.1 hd rfl w
theorem P_i2l {x : Int32} (hd : decode M.2.1 pc = .ok (.i2l, 1)) (k : EW X M (pc + 1) ls (.long x.toInt64 :: rest) h Q) : EW X M pc ls (.int x :: rest) h Q :=
  k.lift fun _ _ => AW.go fun _ _ _ _ _ _ _ _ _ _ F _ _ _ _ _ _ _ w => lv_i2l F.1 F.2.1 hd rfl w
theorem P_l2i {x : Int64} (hd : decode M.2.1 pc = .ok (.l2i, 1)) (k : EW X M (pc + 1) ls (.int x.toInt32 :: rest) h Q) : EW X M pc ls (.long x :: rest) h Q :=
  k.lift fun _ _ => AW.go fun _ _ _ _ _ _ _ _ _ _ F _ _ _ _ _ _ _ w => lv_l2i F.1 F.2.1 hd rfl w
theorem P_lcmp {x y : Int64} (hd : decode M.2.1 pc = .ok (.lcmp, 1)) (k : EW X M (pc + 1) ls (.int (lg_cmp x y) :: rest) h Q) : EW X M pc ls (.long y :: .long x :: rest) h Q :=
  k.lift fun _ _ => AW.go fun _ _ _ _ _ _ _ _ _ _ F _ _ _ _ _ _ _ w => W.lcmp F.1 F.2.1 hd w
theorem P_dupI {x : Int32} (hd : decode M.2.1 pc = .ok (.dup, 1)) (k : EW X M (pc + 1) ls (.int x :: .int x :: rest) h Q) : EW X M pc ls (.int x :: rest) h Q :=
  k.lift fun _ _ => AW.go fun _ _ _ _ _ _ _ _ _ _ F _ _ _ _ _ _ _ w => lv_dup F.1 F.2.1 hd rfl w
theorem rv_cat (X : CX) (r : Nat) : (rv X (.ref r)).category = 1 := by
  simp only [rv, rO]; split <;> rfl
theorem P_dupA {x : Nat} (hd : decode M.2.1 pc = .ok (.dup, 1)) (k : EW X M (pc + 1) ls (.ref x :: .ref x :: rest) h Q) : EW X M pc ls (.ref x :: rest) h Q :=
  k.lift fun _ _ => AW.go fun _ _ _ _ _ _ _ _ _ _ F _ _ _ _ _ _ _ w => lv_dup F.1 F.2.1 hd (rv_cat X x) w
theorem P_dup2 {x : Int32} {a : Nat} (hd : decode M.2.1 pc = .ok (.dup2, 1)) (k : EW X M (pc + 1) ls (.int x :: .ref a :: .int x :: .ref a :: rest) h Q) : EW X M pc ls (.int x :: .ref a :: rest) h Q :=
  k.lift fun _ _ => AW.go fun _ _ _ _ _ _ _ _ _ _ F _ _ _ _ _ _ _ w => lv_dup2_11 F.1 F.2.1 hd rfl (rv_cat X a) w
theorem P_null (hd : decode M.2.1 pc = .ok (.aconst_null, 1)) (k : EW X M (pc + 1) ls (.ref 0 :: rest) h Q) : EW X M pc ls rest h Q :=
  k.lift fun _ _ => AW.go fun _ _ _ _ _ _ _ _ _ _ F _ _ _ _ _ _ _ w => lv_null F.1 F.2.1 hd w
theorem P_goto {off : Int} (hd : decode M.2.1 pc = .ok (.goto off, 3)) (tgt : Nat) (ht : (pc : Int) + off = (tgt : Int)) (k : EW X M tgt ls rest h Q) : EW X M pc ls rest h Q :=
  k.lift fun _ _ => AW.go fun _ _ _ _ _ _ _ _ _ _ F _ _ _ _ _ _ _ w => lv_goto F.1 F.2.1 hd ht w
end Rules1
end
section
theorem rv_category (X : CX) (v : Value) : (rv X v).category = v.category := by
  cases v with
  | ref r => rw [rv_cat]; rfl
  | _ => rfl
/-- what is known of the locals, as a row -/
def rlL (X : CX) (ls : List Value) : List (Nat × Value) := (List.range ls.length).filterMap (fun j => match ls[j]? with
  | some v => if rl v = true then some (j, rv X v) else none
  | none => none)
theorem rlL_mem {X : CX} {ls : List Value} {q : Nat × Value} (h : q ∈ rlL X ls) : ∃ v, ls[q.1]? = some v ∧ rl v = true ∧ q.2 = rv X v := by
  obtain ⟨j, -, hj⟩ := List.mem_filterMap.mp h
  cases hv : ls[j]? with
  | none => rw [hv] at hj; simp at hj
  | some v =>
    rw [hv] at hj
    by_cases hr : rl v = true
    · simp [hr] at hj
      subst hj
      exact ⟨v, hv, hr, rfl⟩
    · simp [hr] at hj
theorem rlL_of {X : CX} {ls : List Value} {j : Nat} {v : Value} (h : ls[j]? = some v) (hr : rl v = true) : (j, rv X v) ∈ rlL X ls := by
  refine List.mem_filterMap.mpr ⟨j, List.mem_range.mpr (List.getElem?_eq_some_iff.mp h).1, ?_⟩
  rw [h]
  simp [hr]
theorem LR.has {X : CX} {n : Nat} {ls : List Value} {la : Array Slot} (h : LR X n ls la) : lv_has la n (rlL X ls) := by
  refine ⟨h.1, h.2.2.1, fun q hq => ?_⟩
  obtain ⟨v, h1, h2, h3⟩ := rlL_mem hq
  rw [h3]
  exact h.2.2.2 _ _ h1 h2
/-- a value of one word is stored -/
def st1 (ls : List Value) (i : Nat) (v : Value) : List Value := (match i with
  | 0 => ls
  | j + 1 => if (ls.getD j jk).category = 2 then ls.set j jk else ls).set i v
/-- a value of two words is stored -/
def st2 (ls : List Value) (i : Nat) (v : Value) : List Value := (st1 ls i v).set (i + 1) jk
theorem st1_len (ls : List Value) (i : Nat) (v : Value) : (st1 ls i v).length = ls.length := by
  unfold st1
  cases i with
  | zero => simp
  | succ j => simp only [List.length_set]; split <;> simp
theorem st1_at {ls : List Value} {i j : Nat} {v w : Value} (h : (st1 ls i v)[j]? = some w) (hr : rl w = true) : (j = i ∧ w = v) ∨ (j ≠ i ∧ ls[j]? = some w ∧ ¬ (j + 1 = i ∧ w.category = 2)) := by
  unfold st1 at h
  by_cases hj : j = i
  · subst hj
    left
    refine ⟨rfl, ?_⟩
    rw [List.getElem?_set] at h
    simp at h
    exact h.2.symm
  · right
    rw [List.getElem?_set_ne (Ne.symm hj)] at h
    cases i with
    | zero => exact ⟨hj, h, fun q => by omega⟩
    | succ i =>
      dsimp only at h
      split at h
      · rename_i hc
        by_cases h2 : j = i
        · subst h2
          rw [List.getElem?_set] at h
          simp at h
          rw [← h.2] at hr
          simp [rl] at hr
        · rw [List.getElem?_set_ne (Ne.symm h2)] at h
          exact ⟨hj, h, fun q => h2 (by omega)⟩
      · rename_i hc
        refine ⟨hj, h, fun q => hc ?_⟩
        have : i = j := by omega
        subst this
        rw [List.getD_eq_getElem?_getD, h]
        exact q.2
theorem LR_st1 {X : CX} {n i : Nat} {ls : List Value} {la la' : Array Slot} {v : Value} (hl : LR X n ls la) (h' : lv_has la' n ((i, rv X v) :: (rlL X ls).filter (fun q => !(q.1 == i) && !(q.1 + 1 == i && q.2.category == 2)))) : LR X n (st1 ls i v) la' := by
  refine ⟨h'.1, by rw [st1_len]; exact hl.2.1, h'.2.1, fun j w hj hr => ?_⟩
  rcases st1_at hj hr with ⟨rfl, rfl⟩ | ⟨h1, h2, h3⟩
  · exact h'.2.2 _ List.mem_cons_self
  · refine h'.2.2 (j, rv X w) (List.mem_cons_of_mem _ (List.mem_filter.mpr ⟨rlL_of h2 hr, ?_⟩))
    simp only [rv_category]
    by_cases hji : j + 1 = i
    · have : ¬ w.category = 2 := fun q => h3 ⟨hji, q⟩
      simp [h1, this]
    · simp [h1, hji]
theorem LR_st2 {X : CX} {n i : Nat} {ls : List Value} {la la' : Array Slot} {v : Value} (hl : LR X n ls la) (h' : lv_has la' n ((i, rv X v) :: (rlL X ls).filter (fun q => !(q.1 == i) && (!(q.1 == i + 1) && !(q.1 + 1 == i && q.2.category == 2))))) : LR X n (st2 ls i v) la' := by
  refine ⟨h'.1, by unfold st2; rw [List.length_set, st1_len]; exact hl.2.1, h'.2.1, fun j w hj hr => ?_⟩
  unfold st2 at hj
  by_cases hi : j = i + 1
  · subst hi
    rw [List.getElem?_set] at hj
    simp at hj
    rw [← hj.2] at hr
    simp [rl] at hr
  rw [List.getElem?_set_ne (Ne.symm hi)] at hj
  rcases st1_at hj hr with ⟨rfl, rfl⟩ | ⟨h1, h2, h3⟩
  · exact h'.2.2 _ List.mem_cons_self
  · refine h'.2.2 (j, rv X w) (List.mem_cons_of_mem _ (List.mem_filter.mpr ⟨rlL_of h2 hr, ?_⟩))
    simp only [rv_category]
    by_cases hji : j + 1 = i
    · have : ¬ w.category = 2 := fun q => h3 ⟨hji, q⟩
      simp [h1, hi, this]
    · simp [h1, hi, hji]
/-- an instruction that leaves the heap -/
theorem AW.go2 {X : CX} {M : MD} {pc pc2 : Nat} {ls ls2 st st2 : List Value} {h : AH} {r : Option Value} {h' : AH}
    (hw : ∀ (p : Program) (e : Env) (s : State) (m : MethodId) (args : Array Value) (below : List Frame) (meth : Method) (c : Code) (R : Room) (Q : State → Prop), Fr X M p s m args meth c R → ∀ (H : Heap) (locs : List Loc) (cells slots : Nat) (la : Array Slot), Sw X h s H locs → LR X M.2.2.1 ls la →
      (∀ la2, LR X M.2.2.1 ls2 la2 → W p (xl X) e R s m args below meth c H locs cells slots Q (F0 m pc2 la2 (st2.map (rv X)))) → W p (xl X) e R s m args below meth c H locs cells slots Q (F0 m pc la (st.map (rv X))))
    (k : AW X M pc2 ls2 st2 h r h') : AW X M pc ls st h r h' :=
  ⟨k.1, fun p e s m args below meth c R Q mc ms F hR hf H locs cells slots la hc hS hl => hw p e s m args below meth c R Q F H locs cells slots la hS hl (fun la2 hl2 => k.2 p e s m args below meth c R Q mc ms F hR hf H locs cells slots la2 hc hS hl2)⟩
section Rules2
variable {X : CX} {M : MD} {pc : Nat} {ls rest : List Value} {h : AH} {Q : Option Value → AH → Prop}
theorem g_iload {i : Nat} {x : Int32} (hd : decode M.2.1 pc = .ok (.iload i, 2)) (hv : ls[i]? = some (.int x)) (k : EW X M (pc + 2) ls (.int x :: rest) h Q) : EW X M pc ls rest h Q :=
  k.lift fun _ _ => AW.go fun _ _ _ _ _ _ _ _ _ _ F _ _ _ _ _ _ hl w => lv_iload F.1 F.2.1 hd (hl.2.2.2 _ _ hv rfl) w
theorem g_iload_n {i : Fin 4} {x : Int32} (hd : decode M.2.1 pc = .ok (.iload_n i, 1)) (hv : ls[i.val]? = some (.int x)) (k : EW X M (pc + 1) ls (.int x :: rest) h Q) : EW X M pc ls rest h Q :=
  k.lift fun _ _ => AW.go fun _ _ _ _ _ _ _ _ _ _ F _ _ _ _ _ _ hl w => lv_iload_n F.1 F.2.1 hd rfl (hl.2.2.2 _ _ hv rfl) w
theorem g_lload {i : Nat} {x : Int64} (hd : decode M.2.1 pc = .ok (.lload i, 2)) (hv : ls[i]? = some (.long x)) (k : EW X M (pc + 2) ls (.long x :: rest) h Q) : EW X M pc ls rest h Q :=
  k.lift fun _ _ => AW.go fun _ _ _ _ _ _ _ _ _ _ F _ _ _ _ _ _ hl w => lv_lload F.1 F.2.1 hd (hl.2.2.2 _ _ hv rfl) w
theorem g_lload_n {i : Fin 4} {x : Int64} (hd : decode M.2.1 pc = .ok (.lload_n i, 1)) (hv : ls[i.val]? = some (.long x)) (k : EW X M (pc + 1) ls (.long x :: rest) h Q) : EW X M pc ls rest h Q :=
  k.lift fun _ _ => AW.go fun _ _ _ _ _ _ _ _ _ _ F _ _ _ _ _ _ hl w => lv_lload_n F.1 F.2.1 hd rfl (hl.2.2.2 _ _ hv rfl) w
theorem rv_ref (X : CX) (r : Nat) : (r = 0 ∧ rv X (.ref r) = .null) ∨ (r ≠ 0 ∧ rv X (.ref r) = .ref (am X r)) := by
  by_cases hr : r = 0
  · left; exact ⟨hr, by simp [rv, rO, hr, va_rf]⟩
  · right; exact ⟨hr, by simp [rv, rO, hr, va_rf]⟩
theorem g_aload {i : Nat} {x : Nat} (hd : decode M.2.1 pc = .ok (.aload i, 2)) (hv : ls[i]? = some (.ref x)) (k : EW X M (pc + 2) ls (.ref x :: rest) h Q) : EW X M pc ls rest h Q :=
  k.lift fun _ _ => AW.go fun _ _ _ _ _ _ _ _ _ _ F _ _ _ _ _ _ hl w => by
    have hq := hl.2.2.2 _ _ hv rfl
    simp only [List.map_cons] at w
    rcases rv_ref X x with ⟨-, e⟩ | ⟨-, e⟩ <;> rw [e] at hq w
    · exact lv_aloadN F.1 F.2.1 hd hq w
    · exact lv_aload F.1 F.2.1 hd hq w
theorem g_aload_n {i : Fin 4} {x : Nat} (hd : decode M.2.1 pc = .ok (.aload_n i, 1)) (hv : ls[i.val]? = some (.ref x)) (k : EW X M (pc + 1) ls (.ref x :: rest) h Q) : EW X M pc ls rest h Q :=
  k.lift fun _ _ => AW.go fun _ _ _ _ _ _ _ _ _ _ F _ _ _ _ _ _ hl w => by
    have hq := hl.2.2.2 _ _ hv rfl
    simp only [List.map_cons] at w
    rcases rv_ref X x with ⟨-, e⟩ | ⟨-, e⟩ <;> rw [e] at hq w
    · exact lv_aload_nN F.1 F.2.1 hd rfl hq w
    · exact lv_aload_n F.1 F.2.1 hd rfl hq w
theorem g_istore {i : Nat} {x : Int32} {ls2 : List Value} (hd : decode M.2.1 pc = .ok (.istore i, 2)) (hi : i < M.2.2.1) (hl2 : st1 ls i (.int x) = ls2) (k : EW X M (pc + 2) ls2 rest h Q) : EW X M pc ls (.int x :: rest) h Q :=
  k.lift fun _ _ => AW.go2 fun _ _ _ _ _ _ _ _ _ _ F _ _ _ _ _ _ hl w => lv_istore F.1 F.2.1 hd hl.has hi rfl (fun la2 h2 => w la2 (hl2 ▸ LR_st1 hl h2))
theorem g_istore_n {i : Fin 4} {x : Int32} {ls2 : List Value} (hd : decode M.2.1 pc = .ok (.istore_n i, 1)) (hi : i.val < M.2.2.1) (hl2 : st1 ls i.val (.int x) = ls2) (k : EW X M (pc + 1) ls2 rest h Q) : EW X M pc ls (.int x :: rest) h Q :=
  k.lift fun _ _ => AW.go2 fun _ _ _ _ _ _ _ _ _ _ F _ _ _ _ _ _ hl w => lv_istore_n F.1 F.2.1 hd rfl hl.has hi rfl (fun la2 h2 => w la2 (hl2 ▸ LR_st1 hl h2))
theorem g_lstore {i : Nat} {x : Int64} {ls2 : List Value} (hd : decode M.2.1 pc = .ok (.lstore i, 2)) (hi : i + 1 < M.2.2.1) (hl2 : st2 ls i (.long x) = ls2) (k : EW X M (pc + 2) ls2 rest h Q) : EW X M pc ls (.long x :: rest) h Q :=
  k.lift fun _ _ => AW.go2 fun _ _ _ _ _ _ _ _ _ _ F _ _ _ _ _ _ hl w => lv_lstore F.1 F.2.1 hd hl.has hi rfl (fun la2 h2 => w la2 (hl2 ▸ LR_st2 hl h2))
theorem g_lstore_n {i : Fin 4} {x : Int64} {ls2 : List Value} (hd : decode M.2.1 pc = .ok (.lstore_n i, 1)) (hi : i.val + 1 < M.2.2.1) (hl2 : st2 ls i.val (.long x) = ls2) (k : EW X M (pc + 1) ls2 rest h Q) : EW X M pc ls (.long x :: rest) h Q :=
  k.lift fun _ _ => AW.go2 fun _ _ _ _ _ _ _ _ _ _ F _ _ _ _ _ _ hl w => lv_lstore_n F.1 F.2.1 hd rfl hl.has hi rfl (fun la2 h2 => w la2 (hl2 ▸ LR_st2 hl h2))
theorem g_astore {i : Nat} {x : Nat} {ls2 : List Value} (hd : decode M.2.1 pc = .ok (.astore i, 2)) (hi : i < M.2.2.1) (hl2 : st1 ls i (.ref x) = ls2) (k : EW X M (pc + 2) ls2 rest h Q) : EW X M pc ls (.ref x :: rest) h Q :=
  k.lift fun _ _ => AW.go2 fun _ _ _ _ _ _ _ _ _ _ F _ _ _ _ _ _ hl w => by
    simp only [List.map_cons]
    rcases rv_ref X x with ⟨-, e⟩ | ⟨-, e⟩ <;> rw [e]
    · exact lv_astoreN F.1 F.2.1 hd hl.has hi rfl (fun la2 h2 => w la2 (hl2 ▸ LR_st1 hl (by rw [e]; exact h2)))
    · exact lv_astore F.1 F.2.1 hd hl.has hi rfl (fun la2 h2 => w la2 (hl2 ▸ LR_st1 hl (by rw [e]; exact h2)))
theorem g_astore_n {i : Fin 4} {x : Nat} {ls2 : List Value} (hd : decode M.2.1 pc = .ok (.astore_n i, 1)) (hi : i.val < M.2.2.1) (hl2 : st1 ls i.val (.ref x) = ls2) (k : EW X M (pc + 1) ls2 rest h Q) : EW X M pc ls (.ref x :: rest) h Q :=
  k.lift fun _ _ => AW.go2 fun _ _ _ _ _ _ _ _ _ _ F _ _ _ _ _ _ hl w => by
    simp only [List.map_cons]
    rcases rv_ref X x with ⟨-, e⟩ | ⟨-, e⟩ <;> rw [e]
    · exact lv_astore_nN F.1 F.2.1 hd rfl hl.has hi rfl (fun la2 h2 => w la2 (hl2 ▸ LR_st1 hl (by rw [e]; exact h2)))
    · exact lv_astore_n F.1 F.2.1 hd rfl hl.has hi rfl (fun la2 h2 => w la2 (hl2 ▸ LR_st1 hl (by rw [e]; exact h2)))
theorem g_iinc {i : Nat} {n : Int} {x c : Int32} {ls2 : List Value} (hd : decode M.2.1 pc = .ok (.iinc i n, 3)) (hi : i < M.2.2.1) (hv : ls[i]? = some (.int x)) (hc : Int32.ofInt n = c) (hl2 : st1 ls i (.int (x + c)) = ls2) (k : EW X M (pc + 3) ls2 rest h Q) : EW X M pc ls rest h Q :=
  k.lift fun _ _ => AW.go2 fun _ _ _ _ _ _ _ _ _ _ F _ _ _ _ _ _ hl w => by
    obtain ⟨kk, hk⟩ := List.getElem?_of_mem (rlL_of (X := X) hv rfl)
    exact lv_iinc F.1 F.2.1 hd hl.has hk (by rw [hc]) hi rfl (fun la2 h2 => w la2 (hl2 ▸ LR_st1 hl h2))
theorem P_if_eq {x : Int32} {off : Int} (hd : decode M.2.1 pc = .ok (.ifCond .eq off, 3)) (tgt : Nat) (ht : (pc : Int) + off = (tgt : Int)) (kt : x = 0 → EW X M tgt ls rest h Q) (kf : ¬ x = 0 → EW X M (pc + 3) ls rest h Q) : EW X M pc ls (.int x :: rest) h Q := by
  by_cases q : x = 0
  · exact (kt q).lift fun _ _ => AW.go fun _ _ _ _ _ _ _ _ _ _ F _ _ _ _ _ _ _ w => lv_if_eq F.1 F.2.1 hd ht (fun _ => w) (fun q2 => absurd q (by first | exact q2 | exact fun z => z q2))
  · exact (kf (by first | exact q | exact Classical.not_not.mp q)).lift fun _ _ => AW.go fun _ _ _ _ _ _ _ _ _ _ F _ _ _ _ _ _ _ w => lv_if_eq F.1 F.2.1 hd ht (fun q2 => absurd q2 q) (fun _ => w)
theorem P_if_ne {x : Int32} {off : Int} (hd : decode M.2.1 pc = .ok (.ifCond .ne off, 3)) (tgt : Nat) (ht : (pc : Int) + off = (tgt : Int)) (kt : ¬ x = 0 → EW X M tgt ls rest h Q) (kf : x = 0 → EW X M (pc + 3) ls rest h Q) : EW X M pc ls (.int x :: rest) h Q := by
  by_cases q : ¬ x = 0
  · exact (kt q).lift fun _ _ => AW.go fun _ _ _ _ _ _ _ _ _ _ F _ _ _ _ _ _ _ w => lv_if_ne F.1 F.2.1 hd ht (fun _ => w) (fun q2 => absurd q (by first | exact q2 | exact fun z => z q2))
  · exact (kf (by first | exact q | exact Classical.not_not.mp q)).lift fun _ _ => AW.go fun _ _ _ _ _ _ _ _ _ _ F _ _ _ _ _ _ _ w => lv_if_ne F.1 F.2.1 hd ht (fun q2 => absurd q2 q) (fun _ => w)
theorem P_if_lt {x : Int32} {off : Int} (hd : decode M.2.1 pc = .ok (.ifCond .lt off, 3)) (tgt : Nat) (ht : (pc : Int) + off = (tgt : Int)) (kt : x < 0 → EW X M tgt ls rest h Q) (kf : ¬ x < 0 → EW X M (pc + 3) ls rest h Q) : EW X M pc ls (.int x :: rest) h Q := by
  by_cases q : x < 0
  · exact (kt q).lift fun _ _ => AW.go fun _ _ _ _ _ _ _ _ _ _ F _ _ _ _ _ _ _ w => lv_if_lt F.1 F.2.1 hd ht (fun _ => w) (fun q2 => absurd q (by first | exact q2 | exact fun z => z q2))
  · exact (kf (by first | exact q | exact Classical.not_not.mp q)).lift fun _ _ => AW.go fun _ _ _ _ _ _ _ _ _ _ F _ _ _ _ _ _ _ w => lv_if_lt F.1 F.2.1 hd ht (fun q2 => absurd q2 q) (fun _ => w)
theorem P_if_ge {x : Int32} {off : Int} (hd : decode M.2.1 pc = .ok (.ifCond .ge off, 3)) (tgt : Nat) (ht : (pc : Int) + off = (tgt : Int)) (kt : 0 ≤ x → EW X M tgt ls rest h Q) (kf : ¬ 0 ≤ x → EW X M (pc + 3) ls rest h Q) : EW X M pc ls (.int x :: rest) h Q := by
  by_cases q : 0 ≤ x
  · exact (kt q).lift fun _ _ => AW.go fun _ _ _ _ _ _ _ _ _ _ F _ _ _ _ _ _ _ w => lv_if_ge F.1 F.2.1 hd ht (fun _ => w) (fun q2 => absurd q (by first | exact q2 | exact fun z => z q2))
  · exact (kf (by first | exact q | exact Classical.not_not.mp q)).lift fun _ _ => AW.go fun _ _ _ _ _ _ _ _ _ _ F _ _ _ _ _ _ _ w => lv_if_ge F.1 F.2.1 hd ht (fun q2 => absurd q2 q) (fun _ => w)
theorem P_if_gt {x : Int32} {off : Int} (hd : decode M.2.1 pc = .ok (.ifCond .gt off, 3)) (tgt : Nat) (ht : (pc : Int) + off = (tgt : Int)) (kt : 0 < x → EW X M tgt ls rest h Q) (kf : ¬ 0 < x → EW X M (pc + 3) ls rest h Q) : EW X M pc ls (.int x :: rest) h Q := by
  by_cases q : 0 < x
  · exact (kt q).lift fun _ _ => AW.go fun _ _ _ _ _ _ _ _ _ _ F _ _ _ _ _ _ _ w => lv_if_gt F.1 F.2.1 hd ht (fun _ => w) (fun q2 => absurd q (by first | exact q2 | exact fun z => z q2))
  · exact (kf (by first | exact q | exact Classical.not_not.mp q)).lift fun _ _ => AW.go fun _ _ _ _ _ _ _ _ _ _ F _ _ _ _ _ _ _ w => lv_if_gt F.1 F.2.1 hd ht (fun q2 => absurd q2 q) (fun _ => w)
theorem P_if_le {x : Int32} {off : Int} (hd : decode M.2.1 pc = .ok (.ifCond .le off, 3)) (tgt : Nat) (ht : (pc : Int) + off = (tgt : Int)) (kt : x ≤ 0 → EW X M tgt ls rest h Q) (kf : ¬ x ≤ 0 → EW X M (pc + 3) ls rest h Q) : EW X M pc ls (.int x :: rest) h Q := by
  by_cases q : x ≤ 0
  · exact (kt q).lift fun _ _ => AW.go fun _ _ _ _ _ _ _ _ _ _ F _ _ _ _ _ _ _ w => lv_if_le F.1 F.2.1 hd ht (fun _ => w) (fun q2 => absurd q (by first | exact q2 | exact fun z => z q2))
  · exact (kf (by first | exact q | exact Classical.not_not.mp q)).lift fun _ _ => AW.go fun _ _ _ _ _ _ _ _ _ _ F _ _ _ _ _ _ _ w => lv_if_le F.1 F.2.1 hd ht (fun q2 => absurd q2 q) (fun _ => w)
theorem P_icmp_eq {x y : Int32} {off : Int} (hd : decode M.2.1 pc = .ok (.if_icmp .eq off, 3)) (tgt : Nat) (ht : (pc : Int) + off = (tgt : Int)) (kt : x = y → EW X M tgt ls rest h Q) (kf : ¬ x = y → EW X M (pc + 3) ls rest h Q) : EW X M pc ls (.int y :: .int x :: rest) h Q := by
  by_cases q : x = y
  · exact (kt q).lift fun _ _ => AW.go fun _ _ _ _ _ _ _ _ _ _ F _ _ _ _ _ _ _ w => lv_icmp_eq F.1 F.2.1 hd ht (fun _ => w) (fun q2 => absurd q (by first | exact q2 | exact fun z => z q2))
  · exact (kf (by first | exact q | exact Classical.not_not.mp q)).lift fun _ _ => AW.go fun _ _ _ _ _ _ _ _ _ _ F _ _ _ _ _ _ _ w => lv_icmp_eq F.1 F.2.1 hd ht (fun q2 => absurd q2 q) (fun _ => w)
theorem P_icmp_ne {x y : Int32} {off : Int} (hd : decode M.2.1 pc = .ok (.if_icmp .ne off, 3)) (tgt : Nat) (ht : (pc : Int) + off = (tgt : Int)) (kt : ¬ x = y → EW X M tgt ls rest h Q) (kf : x = y → EW X M (pc + 3) ls rest h Q) : EW X M pc ls (.int y :: .int x :: rest) h Q := by
  by_cases q : ¬ x = y
  · exact (kt q).lift fun _ _ => AW.go fun _ _ _ _ _ _ _ _ _ _ F _ _ _ _ _ _ _ w => lv_icmp_ne F.1 F.2.1 hd ht (fun _ => w) (fun q2 => absurd q (by first | exact q2 | exact fun z => z q2))
  · exact (kf (by first | exact q | exact Classical.not_not.mp q)).lift fun _ _ => AW.go fun _ _ _ _ _ _ _ _ _ _ F _ _ _ _ _ _ _ w => lv_icmp_ne F.1 F.2.1 hd ht (fun q2 => absurd q2 q) (fun _ => w)
theorem P_icmp_lt {x y : Int32} {off : Int} (hd : decode M.2.1 pc = .ok (.if_icmp .lt off, 3)) (tgt : Nat) (ht : (pc : Int) + off = (tgt : Int)) (kt : x < y → EW X M tgt ls rest h Q) (kf : ¬ x < y → EW X M (pc + 3) ls rest h Q) : EW X M pc ls (.int y :: .int x :: rest) h Q := by
  by_cases q : x < y
  · exact (kt q).lift fun _ _ => AW.go fun _ _ _ _ _ _ _ _ _ _ F _ _ _ _ _ _ _ w => lv_icmp_lt F.1 F.2.1 hd ht (fun _ => w) (fun q2 => absurd q (by first | exact q2 | exact fun z => z q2))
  · exact (kf (by first | exact q | exact Classical.not_not.mp q)).lift fun _ _ => AW.go fun _ _ _ _ _ _ _ _ _ _ F _ _ _ _ _ _ _ w => lv_icmp_lt F.1 F.2.1 hd ht (fun q2 => absurd q2 q) (fun _ => w)
theorem P_icmp_ge {x y : Int32} {off : Int} (hd : decode M.2.1 pc = .ok (.if_icmp .ge off, 3)) (tgt : Nat) (ht : (pc : Int) + off = (tgt : Int)) (kt : y ≤ x → EW X M tgt ls rest h Q) (kf : ¬ y ≤ x → EW X M (pc + 3) ls rest h Q) : EW X M pc ls (.int y :: .int x :: rest) h Q := by
  by_cases q : y ≤ x
  · exact (kt q).lift fun _ _ => AW.go fun _ _ _ _ _ _ _ _ _ _ F _ _ _ _ _ _ _ w => lv_icmp_ge F.1 F.2.1 hd ht (fun _ => w) (fun q2 => absurd q (by first | exact q2 | exact fun z => z q2))
  · exact (kf (by first | exact q | exact Classical.not_not.mp q)).lift fun _ _ => AW.go fun _ _ _ _ _ _ _ _ _ _ F _ _ _ _ _ _ _ w => lv_icmp_ge F.1 F.2.1 hd ht (fun q2 => absurd q2 q) (fun _ => w)
theorem P_icmp_gt {x y : Int32} {off : Int} (hd : decode M.2.1 pc = .ok (.if_icmp .gt off, 3)) (tgt : Nat) (ht : (pc : Int) + off = (tgt : Int)) (kt : y < x → EW X M tgt ls rest h Q) (kf : ¬ y < x → EW X M (pc + 3) ls rest h Q) : EW X M pc ls (.int y :: .int x :: rest) h Q := by
  by_cases q : y < x
  · exact (kt q).lift fun _ _ => AW.go fun _ _ _ _ _ _ _ _ _ _ F _ _ _ _ _ _ _ w => lv_icmp_gt F.1 F.2.1 hd ht (fun _ => w) (fun q2 => absurd q (by first | exact q2 | exact fun z => z q2))
  · exact (kf (by first | exact q | exact Classical.not_not.mp q)).lift fun _ _ => AW.go fun _ _ _ _ _ _ _ _ _ _ F _ _ _ _ _ _ _ w => lv_icmp_gt F.1 F.2.1 hd ht (fun q2 => absurd q2 q) (fun _ => w)
theorem P_icmp_le {x y : Int32} {off : Int} (hd : decode M.2.1 pc = .ok (.if_icmp .le off, 3)) (tgt : Nat) (ht : (pc : Int) + off = (tgt : Int)) (kt : x ≤ y → EW X M tgt ls rest h Q) (kf : ¬ x ≤ y → EW X M (pc + 3) ls rest h Q) : EW X M pc ls (.int y :: .int x :: rest) h Q := by
  by_cases q : x ≤ y
  · exact (kt q).lift fun _ _ => AW.go fun _ _ _ _ _ _ _ _ _ _ F _ _ _ _ _ _ _ w => lv_icmp_le F.1 F.2.1 hd ht (fun _ => w) (fun q2 => absurd q (by first | exact q2 | exact fun z => z q2))
  · exact (kf (by first | exact q | exact Classical.not_not.mp q)).lift fun _ _ => AW.go fun _ _ _ _ _ _ _ _ _ _ F _ _ _ _ _ _ _ w => lv_icmp_le F.1 F.2.1 hd ht (fun q2 => absurd q2 q) (fun _ => w)
theorem P_ifnull {x : Nat} {off : Int} (hd : decode M.2.1 pc = .ok (.ifnull off, 3)) (tgt : Nat) (ht : (pc : Int) + off = (tgt : Int)) (kt : x = 0 → EW X M tgt ls rest h Q) (kf : ¬ x = 0 → EW X M (pc + 3) ls rest h Q) : EW X M pc ls (.ref x :: rest) h Q := by
  rcases rv_ref X x with ⟨q, e⟩ | ⟨q, e⟩
  · exact (kt q).lift fun _ _ => AW.go fun _ _ _ _ _ _ _ _ _ _ F _ _ _ _ _ _ _ w => by
      simp only [List.map_cons]; rw [e]; exact lv_ifnullN F.1 F.2.1 hd ht w
  · exact (kf q).lift fun _ _ => AW.go fun _ _ _ _ _ _ _ _ _ _ F _ _ _ _ _ _ _ w => by
      simp only [List.map_cons]; rw [e]; exact lv_ifnull F.1 F.2.1 hd w
theorem P_ifnonnull {x : Nat} {off : Int} (hd : decode M.2.1 pc = .ok (.ifnonnull off, 3)) (tgt : Nat) (ht : (pc : Int) + off = (tgt : Int)) (kt : ¬ x = 0 → EW X M tgt ls rest h Q) (kf : x = 0 → EW X M (pc + 3) ls rest h Q) : EW X M pc ls (.ref x :: rest) h Q := by
  rcases rv_ref X x with ⟨q, e⟩ | ⟨q, e⟩
  · exact (kf q).lift fun _ _ => AW.go fun _ _ _ _ _ _ _ _ _ _ F _ _ _ _ _ _ _ w => by
      simp only [List.map_cons]; rw [e]; exact lv_ifnonnullN F.1 F.2.1 hd w
  · exact (kt q).lift fun _ _ => AW.go fun _ _ _ _ _ _ _ _ _ _ F _ _ _ _ _ _ _ w => by
      simp only [List.map_cons]; rw [e]; exact lv_ifnonnull F.1 F.2.1 hd ht w
theorem rO_inj {X : CX} {a b : Nat} (ha : a = 0 ∨ 32 ≤ a) (hb : b = 0 ∨ 32 ≤ b) : rO X a = rO X b ↔ a = b := by
  constructor
  · intro e
    by_cases h1 : a = 0
    · by_cases h2 : b = 0
      · omega
      · simp [rO, h1, h2] at e
    · by_cases h2 : b = 0
      · simp [rO, h1, h2] at e
      · have h3 : ¬ a < 32 := by omega
        have h4 : ¬ b < 32 := by omega
        simp [rO, am, h1, h2, h3, h4] at e
        omega
  · rintro rfl; rfl
theorem P_acmp_ne {x y : Nat} {off : Int} (hd : decode M.2.1 pc = .ok (.if_acmp .ne off, 3)) (tgt : Nat) (ht : (pc : Int) + off = (tgt : Int)) (hx : x = 0 ∨ 32 ≤ x) (hy : y = 0 ∨ 32 ≤ y) (kt : ¬ x = y → EW X M tgt ls rest h Q) (kf : x = y → EW X M (pc + 3) ls rest h Q) : EW X M pc ls (.ref y :: .ref x :: rest) h Q := by
  by_cases q : x = y
  · exact (kf q).lift fun _ _ => AW.go fun _ _ _ _ _ _ _ _ _ _ F _ _ _ _ _ _ _ w => lv_acmp_ne F.1 F.2.1 hd ht (fun q2 => absurd ((rO_inj hx hy).mpr q) (by first | exact q2 | exact fun z => q2 z)) (fun _ => w)
  · exact (kt q).lift fun _ _ => AW.go fun _ _ _ _ _ _ _ _ _ _ F _ _ _ _ _ _ _ w => lv_acmp_ne F.1 F.2.1 hd ht (fun _ => w) (fun q2 => absurd ((rO_inj hx hy).mp q2) q)
theorem P_tableOut {dflt lo hi : Int} {offs : Array Int} {len : Nat} {x : Int32} (hd : decode M.2.1 pc = .ok (.tableswitch dflt lo hi offs, len)) (tgt : Nat) (ht : (pc : Int) + dflt = (tgt : Int)) (hx : x.toInt < lo ∨ hi < x.toInt) (k : EW X M tgt ls rest h Q) : EW X M pc ls (.int x :: rest) h Q :=
  k.lift fun _ _ => AW.go fun _ _ _ _ _ _ _ _ _ _ F _ _ _ _ _ _ _ w => lv_tableOut F.1 F.2.1 hd hx ht w
theorem P_tableIn {dflt lo hi : Int} {offs : Array Int} {len : Nat} {x : Int32} (hd : decode M.2.1 pc = .ok (.tableswitch dflt lo hi offs, len)) (off : Int) (tgt : Nat) (h1 : ¬ x.toInt < lo) (h2 : ¬ hi < x.toInt) (ho : offs[(x.toInt - lo).toNat]? = some off) (ht : (pc : Int) + off = (tgt : Int)) (k : EW X M tgt ls rest h Q) : EW X M pc ls (.int x :: rest) h Q :=
  k.lift fun _ _ => AW.go fun _ _ _ _ _ _ _ _ _ _ F _ _ _ _ _ _ _ w => lv_tableIn F.1 F.2.1 hd h1 h2 ho ht w
/-! returns -/
theorem P_ret {st : List Value} {r : Option Value} (hr : retI M pc st r) (hq : Q r h) : EW X M pc ls st h Q :=
  ⟨r, h, hq, ⟨⟨Nat.le_refl _, Nat.le_refl _⟩, fun _ _ _ _ _ _ _ _ _ _ _ _ _ _ hf _ _ _ _ _ hc hS _ => W.widen (by omega) (by omega) (hf _ _ _ _ _ hr hS)⟩⟩
theorem P_iret {v : Int32} (hd : decode M.2.1 pc = .ok (.ireturn, 1)) (ht : M.2.2.2.1 = some .int) (hq : Q (some (.int v)) h) : EW X M pc ls [.int v] h Q := P_ret (Or.inl ⟨v, .int, hd, rfl, rfl, ht, rfl⟩) hq
theorem P_zret {v : Int32} (hd : decode M.2.1 pc = .ok (.ireturn, 1)) (ht : M.2.2.2.1 = some .boolean) (hv : v = 0 ∨ v = 1) (hq : Q (some (.int v)) h) : EW X M pc ls [.int v] h Q := P_ret (Or.inl ⟨v, .boolean, hd, rfl, rfl, ht, by rcases hv with rfl | rfl <;> rfl⟩) hq
theorem P_lret {v : Int64} (hd : decode M.2.1 pc = .ok (.lreturn, 1)) (ht : M.2.2.2.1 = some .long) (hq : Q (some (.long v)) h) : EW X M pc ls [.long v] h Q := P_ret (Or.inr (Or.inl ⟨v, hd, rfl, rfl, ht⟩)) hq
theorem P_aret {v : Nat} {n : String} (hd : decode M.2.1 pc = .ok (.areturn, 1)) (ht : M.2.2.2.1 = some (.object n)) (hq : Q (some (.ref v)) h) : EW X M pc ls [.ref v] h Q := P_ret (Or.inr (Or.inr (Or.inl ⟨v, n, hd, rfl, rfl, ht⟩))) hq
theorem P_vret (hd : decode M.2.1 pc = .ok (.return_, 1)) (ht : M.2.2.2.1 = none) (hq : Q none h) : EW X M pc ls [] h Q := P_ret (Or.inr (Or.inr (Or.inr ⟨hd, rfl, rfl, ht⟩))) hq
end Rules2
end
section
section HeapLemmas
variable {X : CX} {h h2 : AH} {H H1 : Heap} {r : Nat} {q : Nat × Nat}
theorem am_big (hr : 32 ≤ r) : am X r = xN X + (r - 32) := by simp [am, Nat.not_lt.mpr hr]
theorem rv_big (hr : 32 ≤ r) : rv X (.ref r) = .ref (am X r) := by
  rcases rv_ref X r with ⟨h0, -⟩ | ⟨-, e⟩
  · omega
  · exact e
theorem lay0_k (L : Nat) : ∀ (r : Nat) (q : Nat × Nat), (lay0 L)[r]? = some q → 30 ≤ q.1 := by
  intro r q hq
  have hm := List.mem_of_getElem? hq
  simp [lay0, lenS, List.range, List.range.loop] at hm
  rcases hm with rfl | rfl | rfl | rfl | rfl | rfl | rfl | rfl | rfl | rfl | rfl <;> simp
theorem exO_big (he : exO X h) (h1 : h.1[r]? = some q) (hq : q.1 < 30) : 32 ≤ r := by
  rcases Nat.lt_or_ge r 32 with hr | hr
  · have h2 : (h.1.take 32)[r]? = some q := by rw [List.getElem?_take_of_lt hr]; exact h1
    rw [he.1] at h2
    have := lay0_k _ _ _ h2
    omega
  · exact hr
theorem ce_congr (h1 : h2.2.1 r = h.2.1 r) (h3 : h2.2.2 r = h.2.2 r) : ce X h2 r q = ce X h r q := by
  unfold ce fv
  rw [h1, h3]
theorem wo_at (h1 : h.1[r]? = some q) (hr : 32 ≤ r) : (wo X h)[r - 32]? = some (am X r, ce X h r q) := by
  have hl := (List.getElem?_eq_some_iff.mp h1).1
  unfold wo
  rw [List.getElem?_map, List.getElem?_range (by omega)]
  simp only [Option.map_some]
  rw [show r - 32 + 32 = r by omega, List.getD_eq_getElem?_getD, h1, am_big hr]
  rfl
theorem wo_inv {k : Nat} {x : Nat × va_E} (hk : (wo X h)[k]? = some x) : ∃ q, h.1[k + 32]? = some q ∧ x = (am X (k + 32), ce X h (k + 32) q) := by
  unfold wo at hk
  rw [List.getElem?_map] at hk
  by_cases hl : k < h.1.length - 32
  · rw [List.getElem?_range hl] at hk
    simp only [Option.map_some] at hk
    have h3 : h.1[k + 32]? = some (h.1[k + 32]'(by omega)) := List.getElem?_eq_getElem (by omega)
    refine ⟨_, h3, ?_⟩
    rw [List.getD_eq_getElem?_getD, h3] at hk
    rw [am_big (by omega), show k + 32 - 32 = k by omega]
    exact (Option.some.inj hk).symm
  · rw [List.getElem?_eq_none (by simp; omega)] at hk
    cases hk
theorem Wd.at (w : Wd X h H) (h1 : h.1[r]? = some q) (hr : 32 ≤ r) : va_at (xD X) cls (am X r, ce X h r q) H := w.1 _ _ (wo_at h1 hr)
/-- a cell is written -/
theorem Wd.up (w : Wd X h H) (h1 : h.1[r]? = some q) (hr : 32 ≤ r) (hl : h2.1 = h.1) (hrow : ∀ a, a ≠ r → h2.2.1 a = h.2.1 a ∧ h2.2.2 a = h.2.2 a) (z : H1.size = H.size) (oq : ∀ x, x ≠ am X r → H1[x]? = H[x]?) (he : va_at (xD X) cls (am X r, ce X h2 r q) H1) : Wd X h2 H1 := by
  refine ⟨fun k x hk => ?_, by rw [z, hl]; exact w.2.1, by rw [hl]; exact w.2.2.1, by rw [hl]; exact w.2.2.2.1, fun a ha => ?_⟩
  · obtain ⟨q', h3, rfl⟩ := wo_inv hk
    rw [hl] at h3
    by_cases hk2 : k + 32 = r
    · rw [hk2] at h3 ⊢
      rw [h1] at h3
      cases h3
      exact he
    · rw [ce_congr (hrow _ hk2).1 (hrow _ hk2).2]
      refine (w.at h3 (by omega)).kept (oq _ ?_)
      show am X (k + 32) ≠ am X r
      rw [am_big (by omega), am_big hr]
      omega
  · have := hrow a (by omega)
    rw [this.1, this.2]
    exact w.2.2.2.2 a ha
/-- a cell comes -/
theorem Wd.new (w : Wd X h H) (hl : h2.1 = h.1 ++ [q]) (hrow : ∀ a, a < h.1.length → h2.2.1 a = h.2.1 a ∧ h2.2.2 a = h.2.2 a) (z : H1.size = H.size + 1) (oq : ∀ x, x < H.size → H1[x]? = H[x]?) (he : va_at (xD X) cls (am X h.1.length, ce X h2 h.1.length q) H1) : Wd X h2 H1 := by
  have hn := w.2.2.1
  refine ⟨fun k x hk => ?_, by rw [z, hl]; have := w.2.1; simp; omega, by rw [hl]; simp; omega, by rw [hl, List.take_append_of_le_length hn]; exact w.2.2.2.1, fun a ha => ?_⟩
  · obtain ⟨q', h3, rfl⟩ := wo_inv hk
    rw [hl] at h3
    by_cases hk2 : k + 32 < h.1.length
    · rw [List.getElem?_append_left hk2] at h3
      rw [ce_congr (hrow _ hk2).1 (hrow _ hk2).2]
      have h4 := w.at h3 (by omega)
      exact h4.kept (oq _ h4.lt)
    · rw [List.getElem?_append_right (by omega)] at h3
      have hz : k + 32 - h.1.length < 1 := (List.getElem?_eq_some_iff.mp h3).1
      have hk3 : k + 32 = h.1.length := by omega
      rw [hk3] at h3 ⊢
      simp at h3
      subst h3
      exact he
  · have := hrow a (by omega)
    rw [this.1, this.2]
    exact w.2.2.2.2 a ha
theorem ce_obj {c n : Nat} (hc : c < 20) : ce X h r (c, n) = .inr (c, (List.range n).map (fun f => fv X c f h r)) := by simp [ce, hc]
theorem ce_int {n : Nat} : ce X h r (20, n) = .inl (xA X 20, n, .inl (h.2.1 r)) := by simp [ce]
theorem ce_bool {n : Nat} : ce X h r (21, n) = .inl (xA X 21, n, .inl (h.2.1 r)) := by simp [ce]
theorem ce_ref {t n : Nat} (ht : 22 ≤ t) : ce X h r (t, n) = .inl (xA X t, n, .inr (.inr (.inr (.inr (fun j => rO X (h.2.2 r j)))))) := by
  have h1 : ¬ t < 20 := by omega
  have h3 : ¬ t < 22 := by omega
  simp [ce, h1, h3]
theorem Wd.new_at (w : Wd X h H) : am X h.1.length = H.size := by
  have h1 := w.2.1
  have h3 := w.2.2.1
  rw [am_big h3]
  omega
theorem Sw.put {s : State} {locs : List Loc} {i : Nat} (S : va_S (xF X) s.heap H locs) (hr : 32 ≤ r) (z : H1.size = H.size) (oq : ∀ x, x ≠ am X r → H1[x]? = H[x]?) : va_S (xF X) s.heap H1 (locs ++ [⟨am X r, i⟩]) := S.put z oq (show xN X ≤ am X r by rw [am_big hr]; omega)
theorem Sw.grow {s : State} {locs : List Loc} (S : va_S (xF X) s.heap H locs) (z : H1.size = H.size + 1) (oq : ∀ x, x < H.size → H1[x]? = H[x]?) : va_S (xF X) s.heap H1 locs := ⟨by have := S.1; omega, fun x h1 h3 => (oq x (Nat.lt_of_lt_of_le h1 S.1)).trans (S.2.1 x h1 h3), S.2.2⟩
end HeapLemmas
/-- an instruction that writes one cell, or none -/
theorem AW.wr {X : CX} {M : MD} {pc pc2 : Nat} {ls st st2 : List Value} {h h2 : AH} {r : Option Value} {h' : AH} (hl2 : h2.1 = h.1)
    (hw : ∀ (p : Program) (e : Env) (s : State) (m : MethodId) (args : Array Value) (below : List Frame) (meth : Method) (c : Code) (R : Room) (Q : State → Prop), Fr X M p s m args meth c R → ∀ (H : Heap) (locs : List Loc) (cells slots : Nat) (la : Array Slot), Sw X h s H locs → LR X M.2.2.1 ls la →
      (∀ H2 locs2, Sw X h2 s H2 locs2 → W p (xl X) e R s m args below meth c H2 locs2 cells slots Q (F0 m pc2 la (st2.map (rv X)))) → W p (xl X) e R s m args below meth c H locs cells slots Q (F0 m pc la (st.map (rv X))))
    (k : AW X M pc2 ls st2 h2 r h') : AW X M pc ls st h r h' := by
  have hz : sz h2 = sz h := by unfold sz; rw [hl2]
  refine ⟨by rw [← hl2, ← hz]; exact k.1, fun p e s m args below meth c R Q mc ms F hR hf H locs cells slots la hc hS hl => hw p e s m args below meth c R Q F H locs cells slots la hS hl (fun H2 locs2 hS2 => k.2 p e s m args below meth c R Q mc ms F hR hf H2 locs2 cells slots la (by rw [hl2, hz]; exact hc) hS2 hl)⟩
/-- an instruction that makes one cell of n slots -/
theorem AW.mk {X : CX} {M : MD} {pc pc2 : Nat} {ls st st2 : List Value} {h h2 : AH} {r : Option Value} {h' : AH} {t n : Nat} (hl2 : h2.1 = h.1 ++ [(t, n)])
    (hw : ∀ (p : Program) (e : Env) (s : State) (m : MethodId) (args : Array Value) (below : List Frame) (meth : Method) (c : Code) (R : Room) (Q : State → Prop), Fr X M p s m args meth c R → ∀ (H : Heap) (locs : List Loc) (cells slots : Nat) (la : Array Slot), cells + 1 ≤ R.cells → slots + n ≤ R.slots → Sw X h s H locs → LR X M.2.2.1 ls la →
      (∀ H2, Sw X h2 s H2 locs → W p (xl X) e R s m args below meth c H2 locs (cells + 1) (slots + n) Q (F0 m pc2 la (st2.map (rv X)))) → W p (xl X) e R s m args below meth c H locs cells slots Q (F0 m pc la (st.map (rv X))))
    (k : AW X M pc2 ls st2 h2 r h') : AW X M pc ls st h r h' := by
  have hz : sz h2 = sz h + n := by unfold sz; rw [hl2]; simp
  have hz2 : h2.1.length = h.1.length + 1 := by rw [hl2]; simp
  have h1 := k.1
  rw [hz, hz2] at h1
  refine ⟨⟨by omega, by omega⟩, fun p e s m args below meth c R Q mc ms F hR hf H locs cells slots la hc hS hl => hw p e s m args below meth c R Q F H locs cells slots la (by omega) (by omega) hS hl (fun H2 hS2 => k.2 p e s m args below meth c R Q mc ms F hR hf H2 locs (cells + 1) (slots + n) la (by rw [hz2, hz]; omega) hS2 hl)⟩
/-! the classes -/
def Cl (c : Nat) (C : String) (T : u_T) (N : Nat) (ty : Nat → FieldType) : Prop :=
  cls[c]? = some (C, T, N) ∧ (∀ w ∈ u_ws C T N, w ∈ tbG) ∧ (∀ k, k < N → parseFieldDescriptor (T k).2.2.1 = some (ty k)) ∧ (∀ a, a < N → ∀ b, b < N → a ≠ b → (T a).2.1 ≠ (T b).2.1) ∧
  (∀ f, f < N → (rf c f = false → ty f = .int) ∧ (rf c f = true → (∃ n, ty f = .object n) ∨ ∃ t, ty f = .array t)) ∧ c < 20
theorem u_ws_good {C : String} {T : u_T} {N : Nat} (h : ∀ w ∈ u_ws C T N, w ∈ lw_tbl) : ∀ w ∈ u_ws C T N, w ∈ tbG := fun w hw => tbG_of (h w hw) (by
  obtain ⟨k, -, rfl⟩ := List.mem_map.mp hw
  unfold u_lay
  split <;> rfl)
/-- a field by its link: class number, field number, final -/
def FL (own : String) (idx c f : Nat) (fin : Bool) : Prop := ∃ C T N ty, Cl c C T N ty ∧ f < N ∧ Cond.fieldLink own idx (T f).1 (T f).2.1 (T f).2.2.1 ∈ tbG ∧ (T f).2.2.2 = fin ∧ (fin = true → (T f).1 = own)
section Rules3
variable {X : CX} {M : MD} {pc : Nat} {ls rest : List Value} {h : AH} {Q : Option Value → AH → Prop}
theorem fs_at {c n f r : Nat} (hf : f < n) : ((List.range n).map (fun f => fv X c f h r))[f]? = some (fv X c f h r) := by
  rw [List.getElem?_map, List.getElem?_range hf]; rfl
theorem P_get {idx c f n r : Nat} {fin : Bool} {v : Value} (hd : decode M.2.1 pc = .ok (.getfield idx, 3)) (hF : FL M.1.cls idx c f fin) (hl : h.1[r]? = some (c, n)) (hn : f < n) (hv : fv X c f h r = rv X v) (k : EW X M (pc + 3) ls (v :: rest) h Q) : EW X M pc ls (.ref r :: rest) h Q :=
  k.lift fun _ _ => AW.go fun p e s m args below meth cd R Q F H locs cells slots la S L w => by
    obtain ⟨C, T, N, ty, hC, hfN, hlk, -⟩ := hF
    have hr := exO_big S.1.2.2.2 hl (show c < 30 by have := hC.2.2.2.2.2; omega)
    simp only [List.map_cons] at w ⊢
    rw [← hv] at w
    rw [rv_big hr]
    have hat := S.1.at hl hr
    rw [ce_obj hC.2.2.2.2.2] at hat
    have hP : va_P (xD X) cls [(am X r, .inr (c, (List.range n).map (fun f => fv X c f h r)))] H := fun k q hk => by
      cases k with
      | zero => cases hk; exact hat
      | succ k => simp at hk
    exact va_get (ref := (T f).1) F.1 F.2.1 F.2.2.2.2.1 hC.2.1 F.2.2.2.1 F.2.2.2.2.2.1.1 hP 0 rfl hC.1 f hfN (F.2.2.2.2.1 _ hlk) (fun _ z => z) (fs_at hn) hd w
theorem P_getI {idx c f n r : Nat} {fin : Bool} (hd : decode M.2.1 pc = .ok (.getfield idx, 3)) (hF : FL M.1.cls idx c f fin) (hb : rf c f = false) (hl : h.1[r]? = some (c, n)) (hn : f < n) (k : EW X M (pc + 3) ls (.int (h.2.1 r f) :: rest) h Q) : EW X M pc ls (.ref r :: rest) h Q :=
  P_get hd hF hl hn (by simp [fv, hb, rv]) k
theorem P_getR {idx c f n r : Nat} {fin : Bool} (hd : decode M.2.1 pc = .ok (.getfield idx, 3)) (hF : FL M.1.cls idx c f fin) (hb : rf c f = true) (hl : h.1[r]? = some (c, n)) (hn : f < n) (k : EW X M (pc + 3) ls (.ref (h.2.2 r f) :: rest) h Q) : EW X M pc ls (.ref r :: rest) h Q :=
  P_get hd hF hl hn (by simp [fv, hb]) k
/-- a field is written -/
theorem P_put {idx c f n r : Nat} {fin : Bool} {v : Value} {h2 : AH} (hd : decode M.2.1 pc = .ok (.putfield idx, 3)) (hF : FL M.1.cls idx c f fin) (hfi : fin = true → M.1.name = "<init>") (hl : h.1[r]? = some (c, n)) (hn : f < n) (hl2 : h2.1 = h.1) (hrow : ∀ a, a ≠ r → h2.2.1 a = h.2.1 a ∧ h2.2.2 a = h.2.2 a)
    (hnew : ∀ g, fv X c g h2 r = if g = f then rv X v else fv X c g h r) (hfit : ∀ ty : FieldType, (rf c f = false → ty = .int) ∧ (rf c f = true → (∃ n, ty = .object n) ∨ ∃ t, ty = .array t) → narrow ty (rv X v) = rv X v ∧ fits ty (rv X v) = true) (k : EW X M (pc + 3) ls rest h2 Q) : EW X M pc ls (v :: .ref r :: rest) h Q :=
  k.lift fun _ _ => AW.wr hl2 fun p e s m args below meth cd R Q F H locs cells slots la S L w => by
    obtain ⟨C, T, N, ty, hC, hfN, hlk, hfn, hown⟩ := hF
    obtain ⟨hc, hin, hty, hnm, hrt, hc20⟩ := hC
    have hr := exO_big S.1.2.2.2 hl (show c < 30 by omega)
    simp only [List.map_cons]
    rw [rv_big hr]
    have hat := S.1.at hl hr
    rw [ce_obj hc20] at hat
    have hK := F.2.2.2.2.2.1.1
    have hts := F.2.2.2.2.1
    obtain ⟨rr, g1, cell, q1, q2, q3, q4⟩ := hat
    have hrr : rr = (C, T, N) := Option.some.inj (g1.symm.trans hc)
    subst hrr
    have hap := va_apart (own := M.1.cls) hts hin ty hty hnm hK hc
    obtain ⟨hS, hfc, kC, hkC, hkind⟩ := hK.1 c _ hc
    obtain ⟨cf, kf, fi, fd, hi, hsl⟩ := hS f hfN
    have hlay := hts _ (hin _ (u_in_lay hfN))
    unfold u_lay at hlay
    have hst := (u_facts hfc hkC (u_lays hts hin hfN) hi).1
    have hft := hfit (ty f) (hrt f hfN)
    have key : ∀ H' : Heap, H'[am X r]? = some (cell.setSlot fd.slot (rv X v)) → H'.size = H.size → (∀ x, x ≠ am X r → H'[x]? = H[x]?) → W p (xl X) e R s m args below meth cd H' (locs ++ [⟨am X r, fd.slot⟩]) cells slots Q (F0 m (pc + 3) la (rest.map (rv X))) := by
      intro H' e1 e2 e3
      refine w H' _ ⟨S.1.up hl hr hl2 hrow e2 e3 ?_, Sw.put S.2 hr e2 e3⟩
      rw [ce_obj hc20]
      rw [hsl] at e1
      refine ⟨_, hc, t_OB.to (V := updV (vp_V ((List.range n).map (fun g => fv X c g h r))) f (rv X v)) ⟨_, e1, q2, q3, t_set q4 hap hfN (rv X v)⟩ (fun j hj => ?_)⟩
      by_cases hjn : j < n
      · simp only [updV, vp_V, List.getD_eq_getElem?_getD, fs_at (X := X) (h := h2) (c := c) (r := r) hjn, fs_at (X := X) (h := h) (c := c) (r := r) hjn, Option.getD_some, hnew j]
      · have hjf : j ≠ f := by omega
        simp [updV, vp_V, List.getD_eq_getElem?_getD, hjf, List.getElem?_eq_none, hjn]
    cases fin with
    | false =>
      rw [if_neg (by rw [hfn]; decide)] at hlay
      have h6 := u_store hfc hkC hkind hlay hi (hty f hfN) hft.1 hft.2
      exact W.putK (own := M.1.cls) (ref := (T f).1) F.1 F.2.1 (f := fd) ⟨F.2.2.2.1, hts _ hlk, ⟨_, _, _, hi⟩, hst⟩ (by rw [q2]; exact h6) q1 q3 (by rw [hsl]; exact k2_hasslot (q4 f hfN)) rfl rfl hd key
    | true =>
      rw [if_pos hfn] at hlay
      have hcf : m.cls = cf := by
        obtain ⟨_, _, c', _, _, _, -, -, hf', -, -, -, hown2, -⟩ := Cond.laysFinal_spec hlay
        have e1 : c' = cf := by have := hi.symm.trans hf'; simp at this; exact this.1.symm
        rw [hown rfl] at hown2
        rw [← e1]; exact Option.some.inj (F.2.2.2.1.symm.trans hown2)
      have h6 := u_fits hfc hkC hkind (Or.inr hlay) hi (hty f hfN) hft.1 hft.2
      exact W.putFinK (own := M.1.cls) (ref := (T f).1) F.1 F.2.1 F.2.2.2.1 (hts _ hlk) hi hst hcf (F.2.2.2.2.2.2.1.trans (hfi rfl)) (by rw [q2]; exact h6) q1 q3 (by rw [hsl]; exact k2_hasslot (q4 f hfN)) rfl rfl hd key
/-- the heap with an int written, with a reference written -/
def wI (h : AH) (r f : Nat) (x : Int32) : AH := (h.1, va_up h.2.1 r (upd (h.2.1 r) f x), h.2.2)
def wR (h : AH) (r f : Nat) (x : Nat) : AH := (h.1, h.2.1, va_up h.2.2 r (va_up (h.2.2 r) f x))
theorem va_up_s {α : Type} (f : Nat → α) (k : Nat) (v : α) : va_up f k v k = v := by simp [va_up]
theorem va_up_n {α : Type} (f : Nat → α) {k j : Nat} (v : α) (hj : j ≠ k) : va_up f k v j = f j := by simp [va_up, hj]
theorem P_putI {idx c f n r : Nat} {fin : Bool} {x : Int32} (hd : decode M.2.1 pc = .ok (.putfield idx, 3)) (hF : FL M.1.cls idx c f fin) (hfi : fin = true → M.1.name = "<init>") (hb : rf c f = false) (hl : h.1[r]? = some (c, n)) (hn : f < n) (k : EW X M (pc + 3) ls rest (wI h r f x) Q) : EW X M pc ls (.int x :: .ref r :: rest) h Q :=
  P_put hd hF hfi hl hn (h2 := wI h r f x) rfl (fun a ha => ⟨va_up_n _ _ ha, rfl⟩) (fun g => by
    unfold fv wI
    by_cases hg : g = f
    · subst hg; simp [hb, rv, va_up_s, upd]
    · simp [va_up_s, upd, hg]) (fun ty ht => by rw [ht.1 hb]; exact ⟨rfl, rfl⟩) k
theorem P_putR {idx c f n r x : Nat} {fin : Bool} (hd : decode M.2.1 pc = .ok (.putfield idx, 3)) (hF : FL M.1.cls idx c f fin) (hfi : fin = true → M.1.name = "<init>") (hb : rf c f = true) (hl : h.1[r]? = some (c, n)) (hn : f < n) (k : EW X M (pc + 3) ls rest (wR h r f x) Q) : EW X M pc ls (.ref x :: .ref r :: rest) h Q :=
  P_put hd hF hfi hl hn (h2 := wR h r f x) rfl (fun a ha => ⟨rfl, va_up_n _ _ ha⟩) (fun g => by
    unfold fv wR
    by_cases hg : g = f
    · subst hg; simp [hb, va_up_s]
    · simp [va_up_s, va_up_n _ _ hg, hg]) (fun ty ht => by
      rcases rv_ref X x with ⟨-, e⟩ | ⟨-, e⟩ <;> rw [e] <;> rcases ht.2 hb with ⟨_, rfl⟩ | ⟨_, rfl⟩ <;> exact ⟨rfl, rfl⟩) k
end Rules3
end
section
section Rules4
variable {X : CX} {M : MD} {pc : Nat} {ls rest : List Value} {h : AH} {Q : Option Value → AH → Prop}
theorem P_iald {i : Int32} {r n : Nat} (hd : decode M.2.1 pc = .ok (.iaload, 1)) (hl : h.1[r]? = some (20, n)) (hin : vp_in i n) (k : EW X M (pc + 1) ls (.int (h.2.1 r i.toNatClampNeg) :: rest) h Q) : EW X M pc ls (.int i :: .ref r :: rest) h Q :=
  k.lift fun _ _ => AW.go fun p e s m args below meth cd R Q F H locs cells slots la S L w => by
    have hr := exO_big S.1.2.2.2 hl (show (20 : Nat) < 30 by decide)
    have hat := S.1.at hl hr
    rw [ce_int] at hat
    simp only [List.map_cons] at w ⊢
    rw [rv_big hr]
    have hP : va_P (xD X) cls [(am X r, .inl (xA X 20, n, .inl (h.2.1 r)))] H := fun k q hk => by
      cases k with
      | zero => cases hk; exact hat
      | succ k => simp at hk
    exact va_iald F.1 F.2.1 F.2.2.2.2.2.1.1 hP 0 0 rfl rfl hin hd w
theorem P_zald {i : Int32} {r n : Nat} (hd : decode M.2.1 pc = .ok (.baload, 1)) (hl : h.1[r]? = some (21, n)) (hin : vp_in i n) (k : EW X M (pc + 1) ls (.int (h.2.1 r i.toNatClampNeg) :: rest) h Q) : EW X M pc ls (.int i :: .ref r :: rest) h Q :=
  k.lift fun _ _ => AW.go fun p e s m args below meth cd R Q F H locs cells slots la S L w => by
    have hr := exO_big S.1.2.2.2 hl (show (21 : Nat) < 30 by decide)
    have hat := S.1.at hl hr
    rw [ce_bool] at hat
    simp only [List.map_cons] at w ⊢
    rw [rv_big hr]
    have hP : va_P (xD X) cls [(am X r, .inl (xA X 21, n, .inl (h.2.1 r)))] H := fun k q hk => by
      cases k with
      | zero => cases hk; exact hat
      | succ k => simp at hk
    exact va_zald F.1 F.2.1 F.2.2.2.2.2.1.1 hP 0 1 rfl rfl hin hd w
/-- which arrays of references there are -/
def RT (t : Nat) (C : String) : Prop := (t = 22 ∧ C = R_St) ∨ (t = 23 ∧ C = R_Rg) ∨ (t = 24 ∧ C = R_Pg)
theorem RT.big {t : Nat} {C : String} (h : RT t C) : 22 ≤ t ∧ t < 30 := by rcases h with ⟨rfl, -⟩ | ⟨rfl, -⟩ | ⟨rfl, -⟩ <;> decide
theorem RT.ty {t : Nat} {C : String} (h : RT t C) : (tysX X)[t - 20]? = some (xA X t, .object C) := by rcases h with ⟨rfl, rfl⟩ | ⟨rfl, rfl⟩ | ⟨rfl, rfl⟩ <;> rfl
theorem P_aald {i : Int32} {r n t : Nat} {C : String} (hd : decode M.2.1 pc = .ok (.aaload, 1)) (hC : RT t C) (hl : h.1[r]? = some (t, n)) (hin : vp_in i n) (k : EW X M (pc + 1) ls (.ref (h.2.2 r i.toNatClampNeg) :: rest) h Q) : EW X M pc ls (.int i :: .ref r :: rest) h Q :=
  k.lift fun _ _ => AW.go fun p e s m args below meth cd R Q F H locs cells slots la S L w => by
    have hr := exO_big S.1.2.2.2 hl hC.big.2
    have hat := S.1.at hl hr
    rw [ce_ref hC.big.1] at hat
    simp only [List.map_cons] at w ⊢
    rw [rv_big hr]
    have hP : va_P (xD X) cls [(am X r, .inl (xA X t, n, .inr (.inr (.inr (.inr (fun j => rO X (h.2.2 r j)))))))] H := fun k q hk => by
      cases k with
      | zero => cases hk; exact hat
      | succ k => simp at hk
    exact va_aldq F.1 F.2.1 F.2.2.2.2.2.1.1 hP 0 (t - 20) rfl hC.ty hin hd w
theorem P_alen {r n t : Nat} (hd : decode M.2.1 pc = .ok (.arraylength, 1)) (ht : 20 ≤ t ∧ t < 25) (hl : h.1[r]? = some (t, n)) (k : EW X M (pc + 1) ls (.int (nI n) :: rest) h Q) : EW X M pc ls (.ref r :: rest) h Q :=
  k.lift fun _ _ => AW.go fun p e s m args below meth cd R Q F H locs cells slots la S L w => by
    have hr := exO_big S.1.2.2.2 hl (show t < 30 by omega)
    have hat := S.1.at hl hr
    simp only [List.map_cons] at w ⊢
    rw [rv_big hr]
    have hP : va_P (xD X) cls [(am X r, ce X h r (t, n))] H := fun k q hk => by
      cases k with
      | zero => cases hk; exact hat
      | succ k => simp at hk
    by_cases h1 : t < 22
    · have e1 : ce X h r (t, n) = .inl (xA X t, n, .inl (h.2.1 r)) := by
        have : ¬ t < 20 := by omega
        simp [ce, h1, this]
      rw [e1] at hP
      rcases (show t = 20 ∨ t = 21 by omega) with rfl | rfl
      · exact va_alen F.1 F.2.1 F.2.2.2.2.2.1.1 hP 0 0 rfl rfl rfl hd w
      · exact va_alen F.1 F.2.1 F.2.2.2.2.2.1.1 hP 0 1 rfl rfl rfl hd w
    · rw [ce_ref (by omega)] at hP
      rcases (show t = 22 ∨ t = 23 ∨ t = 24 by omega) with rfl | rfl | rfl
      · exact va_alen F.1 F.2.1 F.2.2.2.2.2.1.1 hP 0 2 rfl rfl rfl hd w
      · exact va_alen F.1 F.2.1 F.2.2.2.2.2.1.1 hP 0 3 rfl rfl rfl hd w
      · exact va_alen F.1 F.2.1 F.2.2.2.2.2.1.1 hP 0 4 rfl rfl rfl hd w
theorem vp_lt {i : Int32} {n : Nat} (h : vp_in i n) : i.toNatClampNeg < n := Nat.not_le.mp fun q => h (Or.inr q)
theorem P_iast {i x : Int32} {r n : Nat} (hd : decode M.2.1 pc = .ok (.iastore, 1)) (hl : h.1[r]? = some (20, n)) (hin : vp_in i n) (k : EW X M (pc + 1) ls rest (wI h r i.toNatClampNeg x) Q) : EW X M pc ls (.int x :: .int i :: .ref r :: rest) h Q :=
  k.lift fun _ _ => AW.wr (h2 := wI h r i.toNatClampNeg x) rfl fun p e s m args below meth cd R Q F H locs cells slots la S L w => by
    have hr := exO_big S.1.2.2.2 hl (show (20 : Nat) < 30 by decide)
    have hat := S.1.at hl hr
    rw [ce_int] at hat
    simp only [List.map_cons] at w ⊢
    rw [rv_big hr]
    refine W.iast F.1 F.2.1 hat ((F.2.2.2.2.2.1.1.2 0 _ rfl).1 n (fun j => .int (h.2.1 r j))) (fun q => by cases q) (by show ¬ (i < 0 ∨ (arrV _ _ _).slots.size ≤ _); rw [arrV_size]; exact hin) rfl rfl hd fun H1 e1 z oq => ?_
    refine w H1 _ ⟨S.1.up hl hr rfl (fun a ha => ⟨va_up_n _ _ ha, rfl⟩) z oq ?_, Sw.put S.2 hr z oq⟩
    rw [ce_int]
    show H1[am X r]? = some (vp_cell _ _)
    rw [e1, vp_cell_i, vp_cell_i, arrV_store]
    congr 2
    funext j
    simp only [wI, va_up_s, updV, upd]
    split <;> rfl
theorem P_zast {i x : Int32} {r n : Nat} (hd : decode M.2.1 pc = .ok (.bastore, 1)) (hl : h.1[r]? = some (21, n)) (hin : vp_in i n) (hx : x = 0 ∨ x = 1) (k : EW X M (pc + 1) ls rest (wI h r i.toNatClampNeg x) Q) : EW X M pc ls (.int x :: .int i :: .ref r :: rest) h Q :=
  k.lift fun _ _ => AW.wr (h2 := wI h r i.toNatClampNeg x) rfl fun p e s m args below meth cd R Q F H locs cells slots la S L w => by
    have hr := exO_big S.1.2.2.2 hl (show (21 : Nat) < 30 by decide)
    have hat := S.1.at hl hr
    rw [ce_bool] at hat
    simp only [List.map_cons] at w ⊢
    rw [rv_big hr]
    refine W.zast F.1 F.2.1 hat ((F.2.2.2.2.2.1.1.2 1 _ rfl).1 n (fun j => .int (h.2.1 r j))) (fun q => by cases q) (by show ¬ (i < 0 ∨ (arrV _ _ _).slots.size ≤ _); rw [arrV_size]; exact hin) rfl rfl hd fun H1 e1 z oq => ?_
    refine w H1 _ ⟨S.1.up hl hr rfl (fun a ha => ⟨va_up_n _ _ ha, rfl⟩) z oq ?_, Sw.put S.2 hr z oq⟩
    rw [ce_bool]
    show H1[am X r]? = some (vp_cell _ _)
    have hx2 : narrow .boolean (.int x) = .int x := by rcases hx with rfl | rfl <;> rfl
    rw [e1, hx2, vp_cell_i, vp_cell_i, arrV_store]
    congr 2
    funext j
    simp only [wI, va_up_s, updV, upd]
    split <;> rfl
/-- a reference is stored: null, or an object of the array's class -/
theorem P_aastN {i : Int32} {r n t : Nat} {C : String} (hd : decode M.2.1 pc = .ok (.aastore, 1)) (hC : RT t C) (hl : h.1[r]? = some (t, n)) (hin : vp_in i n) (k : EW X M (pc + 1) ls rest (wR h r i.toNatClampNeg 0) Q) : EW X M pc ls (.ref 0 :: .int i :: .ref r :: rest) h Q :=
  k.lift fun _ _ => AW.wr (h2 := wR h r i.toNatClampNeg 0) rfl fun p e s m args below meth cd R Q F H locs cells slots la S L w => by
    have hr := exO_big S.1.2.2.2 hl hC.big.2
    have hat := S.1.at hl hr
    rw [ce_ref hC.big.1] at hat
    simp only [List.map_cons] at w ⊢
    rw [rv_big hr]
    refine va_WaastN (C := C) F.1 F.2.1 hat ((F.2.2.2.2.2.1.1.2 (t - 20) _ hC.ty).1 n (fun j => va_rf (rO X (h.2.2 r j)))) (fun q => by cases q) (by show ¬ (i < 0 ∨ (arrV _ _ _).slots.size ≤ _); rw [arrV_size]; exact hin) rfl rfl hd fun H1 e1 z oq => ?_
    refine w H1 _ ⟨S.1.up hl hr rfl (fun a ha => ⟨rfl, va_up_n _ _ ha⟩) z oq ?_, Sw.put S.2 hr z oq⟩
    rw [ce_ref hC.big.1]
    show H1[am X r]? = some (vp_cell _ _)
    rw [e1, vp_cell_q, vp_cell_q, arrV_store]
    congr 2
    funext j
    simp only [wR, va_up_s, updV]
    by_cases hj : j = i.toNatClampNeg
    · simp [hj, va_up_s, rO, va_rf]
    · simp [hj, va_up_n]
theorem P_aast {i : Int32} {r n t v c N : Nat} {C : String} {T : u_T} {N2 : Nat} {ty : Nat → FieldType} (hd : decode M.2.1 pc = .ok (.aastore, 1)) (hC : RT t C) (hl : h.1[r]? = some (t, n)) (hin : vp_in i n) (hv : h.1[v]? = some (c, N)) (hc : Cl c C T N2 ty) (k : EW X M (pc + 1) ls rest (wR h r i.toNatClampNeg v) Q) : EW X M pc ls (.ref v :: .int i :: .ref r :: rest) h Q :=
  k.lift fun _ _ => AW.wr (h2 := wR h r i.toNatClampNeg v) rfl fun p e s m args below meth cd R Q F H locs cells slots la S L w => by
    have hr := exO_big S.1.2.2.2 hl hC.big.2
    have hrv := exO_big S.1.2.2.2 hv (show c < 30 by have := hc.2.2.2.2.2; omega)
    have hat := S.1.at hl hr
    have hatv := S.1.at hv hrv
    rw [ce_ref hC.big.1] at hat
    rw [ce_obj hc.2.2.2.2.2] at hatv
    simp only [List.map_cons] at w ⊢
    rw [rv_big hr, rv_big hrv]
    have hK := F.2.2.2.2.2.1.1
    obtain ⟨r', hr', cellV, g1, g2, g3, -⟩ := hatv
    have hcls := (hK.1 c _ hc.1).2
    obtain ⟨kA, comp, k1, k2, k3, -⟩ := (hK.2 (t - 20) _ hC.ty).2
    have hcomp : comp = (xD X).1 c := Option.some.inj (k3.symm.trans hcls.1)
    subst hcomp
    obtain ⟨kC, hkC, -⟩ := hcls.2
    refine W.aast F.1 F.2.1 hat (fun q h => by cases h) (fun h => by cases h) k1 k2 rfl hkC ⟨fun q => hin (Or.inl q), by show _ < (arrV _ _ _).slots.size; rw [arrV_size]; exact vp_lt hin⟩ g1 (fun q h => by rw [g3] at h; cases h) (by rw [g2]; exact hkC) (by rw [g2]; exact va_assign hcls) rfl rfl hd fun H1 e1 z oq => ?_
    refine w H1 _ ⟨S.1.up hl hr rfl (fun a ha => ⟨rfl, va_up_n _ _ ha⟩) z oq ?_, Sw.put S.2 hr z oq⟩
    rw [ce_ref hC.big.1]
    show H1[am X r]? = some (vp_cell _ _)
    rw [e1, vp_cell_q, vp_cell_q, arrV_store]
    congr 2
    funext j
    simp only [wR, va_up_s, updV]
    by_cases hj : j = i.toNatClampNeg
    · have : v ≠ 0 := by omega
      simp [hj, va_up_s, rO, va_rf, this]
    · simp [hj, va_up_n]
/-! what comes -/
def nw (h : AH) (t n : Nat) : AH := (h.1 ++ [(t, n)], va_up h.2.1 h.1.length (fun _ => 0), va_up h.2.2 h.1.length (fun _ => 0))
theorem nw_row {t n : Nat} : ∀ a, a < h.1.length → (nw h t n).2.1 a = h.2.1 a ∧ (nw h t n).2.2 a = h.2.2 a := fun a ha => ⟨va_up_n _ _ (by omega), va_up_n _ _ (by omega)⟩
theorem P_newa {i : Int32} {at_ : ArrayType} {t n : Nat} (hd : decode M.2.1 pc = .ok (.newarray at_, 2)) (ha : (at_ = .int ∧ t = 20) ∨ (at_ = .boolean ∧ t = 21)) (hi : ¬ i < 0) (hn : i.toNatClampNeg = n) (hs : n < 65536) (k : EW X M (pc + 2) ls (.ref h.1.length :: rest) (nw h t n) Q) : EW X M pc ls (.int i :: rest) h Q :=
  k.lift fun _ _ => AW.mk (h2 := nw h t n) rfl fun p e s m args below meth cd R Q F H locs cells slots la hc1 hc2 S L w => by
    have hK := F.2.2.2.2.2.1.1
    have hk : (Cond.arrayClass (newarray.typeOf at_)).before args s = true := F.2.2.2.2.1 _ (tbG_of (by rcases ha with ⟨rfl, -⟩ | ⟨rfl, -⟩ <;> decide +kernel) rfl)
    refine va_newaK F.1 F.2.1 hk (g := F0 m pc la ((.int i :: rest).map (rv X))) rfl hd rfl hi hn (by rcases ha with ⟨rfl, -⟩ | ⟨rfl, -⟩ <;> (simp [newarray.typeOf, componentBytes]; omega)) hc1 hc2 rfl fun H1 cA e1 z oq hA hN => ?_
    have hN2 : cA = xA X t := by
      rcases ha with ⟨rfl, rfl⟩ | ⟨rfl, rfl⟩
      · have := (hK.2 0 _ rfl).2
        exact Option.some.inj (hN.symm.trans this)
      · have := (hK.2 1 _ rfl).2
        exact Option.some.inj (hN.symm.trans this)
    have hw := w H1 ⟨S.1.new rfl nw_row z oq ?_, Sw.grow S.2 z oq⟩
    · simp only [List.map_cons] at hw
      rw [rv_big S.1.2.2.1, S.1.new_at] at hw
      exact hw
    · rw [S.1.new_at]
      have e2 : ce X (nw h t n) h.1.length (t, n) = .inl (xA X t, n, .inl (fun _ => 0)) := by
        rcases ha with ⟨-, rfl⟩ | ⟨-, rfl⟩ <;> simp [ce, nw, va_up_s]
      rw [e2]
      show H1[H.size]? = some (vp_cell _ _)
      rw [e1, hN2, vp_cell_i]
      rcases ha with ⟨rfl, -⟩ | ⟨rfl, -⟩ <;> rfl
theorem P_anew {i : Int32} {t n idx : Nat} {C : String} (hd : decode M.2.1 pc = .ok (.anewarray idx, 3)) (hC : RT t C) (hlk : Cond.classLink M.1.cls idx C ∈ tbG) (hi : ¬ i < 0) (hn : i.toNatClampNeg = n) (hs : n < 65536) (k : EW X M (pc + 3) ls (.ref h.1.length :: rest) (nw h t n) Q) : EW X M pc ls (.int i :: rest) h Q :=
  k.lift fun _ _ => AW.mk (h2 := nw h t n) rfl fun p e s m args below meth cd R Q F H locs cells slots la hc1 hc2 S L w => by
    have hK := F.2.2.2.2.2.1.1
    have hAO : va_AO C s := by
      have := F.2.2.2.2.2.1.2.1
      rcases hC with ⟨-, rfl⟩ | ⟨-, rfl⟩ | ⟨-, rfl⟩
      · exact this.1
      · exact this.2.1
      · exact this.2.2
    subst hn
    refine W.anew F.1 F.2.1 F.2.2.2.1 (F.2.2.2.2.1 _ hlk) (va_AO.use hAO) (g := F0 m pc la ((.int i :: rest).map (rv X))) rfl hd rfl hi (by omega) hc1 hc2 fun cA kA comp f1 f2 f3 f4 => ?_
    have hN2 : cA = xA X t := by
      obtain ⟨_, _, _, _, _, hq⟩ := (hK.2 (t - 20) _ hC.ty).2
      exact Option.some.inj (f1.symm.trans hq)
    subst hN2
    have oq : ∀ x, x < H.size → (H.push { cls := xA X t, slots := Array.replicate i.toNatClampNeg .null, vm := .none })[x]? = H[x]? := fun q hq => by rw [Array.getElem?_push, if_neg (Nat.ne_of_lt hq)]
    have hw := w _ ⟨S.1.new (H1 := H.push { cls := xA X t, slots := Array.replicate i.toNatClampNeg .null, vm := .none }) rfl nw_row (by simp) oq ?_, Sw.grow S.2 (by simp) oq⟩
    · simp only [List.map_cons] at hw
      rw [rv_big S.1.2.2.1, S.1.new_at] at hw
      exact hw
    · rw [S.1.new_at, ce_ref hC.big.1]
      show _ = some (vp_cell _ _)
      rw [Array.getElem?_push_size, vp_cell_q, arrV_new]
      congr 2
      funext j
      simp [nw, va_up_s, rO, va_rf]
/-- a class that can be made: its number, its fields -/
def NL (own : String) (idx c n : Nat) : Prop := ∃ C T ty, Cl c C T n ty ∧ Cond.classLink own idx C ∈ tbG ∧ Cond.instantiable C n ∈ tbG ∧ Cond.initialized C ∈ tbG
theorem P_new {c n idx : Nat} (hd : decode M.2.1 pc = .ok (.new idx, 3)) (hN : NL M.1.cls idx c n) (k : EW X M (pc + 3) ls (.ref h.1.length :: rest) (nw h c n) Q) : EW X M pc ls rest h Q :=
  k.lift fun _ _ => AW.mk (h2 := nw h c n) rfl fun p e s m args below meth cd R Q F H locs cells slots la hc1 hc2 S L w => by
    obtain ⟨C, T, ty, ⟨hc, hin, hty, hnm, hrt, hc20⟩, h1, h2, h3⟩ := hN
    have hK := F.2.2.2.2.2.1.1
    have hts := F.2.2.2.2.1
    have hKn := hK.1 c _ hc
    refine W.newcK F.1 F.2.1 F.2.2.2.1 (hts _ h1) (hts _ h2) (hts _ h3) (g := F0 m pc la (rest.map (rv X))) rfl hd hc1 hc2 hKn.2.1 rfl fun H1 kC hkC e1 z oq => ?_
    have hw := w H1 ⟨S.1.new rfl nw_row z oq ?_, Sw.grow S.2 z oq⟩
    · simp only [List.map_cons] at hw
      rw [rv_big S.1.2.2.1, S.1.new_at] at hw
      exact hw
    · rw [S.1.new_at, ce_obj hc20]
      refine ⟨_, hc, (u_born ty hts hin hKn hkC e1 hty).to (fun j hj => ?_)⟩
      simp only [vp_V, List.getD_eq_getElem?_getD, fs_at (X := X) (h := nw h c n) (c := c) (r := h.1.length) hj, Option.getD_some]
      unfold fv
      cases hb : rf c j with
      | false => rw [(hrt j hj).1 hb]; simp [nw, va_up_s]; rfl
      | true =>
        have e3 : rv X (.ref ((nw h c n).2.2 h.1.length j)) = .null := by simp [nw, va_up_s, rv, rO, va_rf]
        simp only [if_true]
        rw [e3]
        rcases (hrt j hj).2 hb with ⟨_, q⟩ | ⟨_, q⟩ <;> rw [q] <;> rfl
theorem P_objInit {idx r : Nat} (hd : decode M.2.1 pc = .ok (.invokespecial idx, 3)) (hlk : Cond.methodLink M.1.cls idx Lib.objectInit ∈ tbG) (hr : r ≠ 0) (hm : 1 ≤ M.2.2.2.2) (hsum : (rest.map fun v => v.category).sum ≤ 8) (k : EW X M (pc + 3) ls rest h Q) : EW X M pc ls (.ref r :: rest) h Q :=
  k.lift fun _ _ => AW.go fun p e s m args below meth cd R Q F H locs cells slots la S L w => by
    have hts := F.2.2.2.2.1
    simp only [List.map_cons]
    rcases rv_ref X r with ⟨q, -⟩ | ⟨-, q⟩
    · exact absurd q hr
    rw [q]
    have hs2 : ((rest.map (rv X)).map fun v => v.category).sum ≤ 8 := by
      rw [List.map_map]
      have : ((fun v : Value => v.category) ∘ rv X) = fun v => v.category := funext fun v => rv_category X v
      rw [this]; exact hsum
    have hf := F.2.2.2.2.2.2.2
    exact W.objInit F.1 F.2.1 F.2.2.2.1 (hts _ hlk) (hts (.instanceMethod Lib.objectInit) (tbG_of (by decide +kernel) rfl)) (hts (.code Lib.objectInit ⟨#[0xb1]⟩ 1 none) (tbG_of (by decide +kernel) rfl)) (g := F0 m pc la (.ref (am X r) :: rest.map (rv X))) rfl (by rw [F.2.2.1]; exact L.1) rfl hd (by omega) (by show 2 * 0 + _ + 12 ≤ _; omega) w
theorem P_ldc {idx : Nat} (hd : decode M.2.1 pc = .ok (.ldc idx, 2)) (v : Int32) (hlk : Cond.constant M.1.cls idx v ∈ tbG) (k : EW X M (pc + 2) ls (.int v :: rest) h Q) : EW X M pc ls rest h Q :=
  k.lift fun _ _ => AW.go fun _ _ _ _ _ _ _ _ _ _ F _ _ _ _ _ _ _ w => lv_ldc F.1 F.2.1 F.2.2.2.1 (F.2.2.2.2.1 _ hlk) hd w
theorem P_ldcw {idx : Nat} (hd : decode M.2.1 pc = .ok (.ldc_w idx, 3)) (v : Int32) (hlk : Cond.constant M.1.cls idx v ∈ tbG) (k : EW X M (pc + 3) ls (.int v :: rest) h Q) : EW X M pc ls rest h Q :=
  k.lift fun _ _ => AW.go fun _ _ _ _ _ _ _ _ _ _ F _ _ _ _ _ _ _ w => lv_ldcw F.1 F.2.1 F.2.2.2.1 (F.2.2.2.2.1 _ hlk) hd w
theorem P_ldc2 {idx : Nat} (hd : decode M.2.1 pc = .ok (.ldc2_w idx, 3)) (v : Int64) (hlk : Cond.constantLong M.1.cls idx v ∈ tbG) (k : EW X M (pc + 3) ls (.long v :: rest) h Q) : EW X M pc ls rest h Q :=
  k.lift fun _ _ => AW.go fun _ _ _ _ _ _ _ _ _ _ F _ _ _ _ _ _ _ w => lv_ldc2 F.1 F.2.1 F.2.2.2.1 (F.2.2.2.2.1 _ hlk) hd w
/-- the script -/
theorem P_sald {i : Int32} {n : Nat} (hd : decode M.2.1 pc = .ok (.iaload, 1)) (hl : n = xL X) (hin : vp_in i n) (k : EW X M (pc + 1) ls (.int (xS X i.toNatClampNeg) :: rest) h Q) : EW X M pc ls (.int i :: .ref 1 :: rest) h Q :=
  k.lift fun _ _ => AW.go fun p e s m args below meth cd R Q F H locs cells slots la S L w => by
    have hX := F.2.2.2.2.2.1.2.2
    have hbA : ¬ xF X (xE X 1) := Nat.not_le.mpr hX.1.2
    have e1 : rv X (.ref 1) = .ref (xE X 1) := rfl
    simp only [List.map_cons] at w ⊢
    rw [e1]
    subst hl
    exact va_sld F.1 F.2.1 hX.1.1 (Nat.lt_of_lt_of_le hX.1.2 hX.2.1) hbA S.2 hin hd w
theorem P_salen (hd : decode M.2.1 pc = .ok (.arraylength, 1)) (k : EW X M (pc + 1) ls (.int (nI (xL X)) :: rest) h Q) : EW X M pc ls (.ref 1 :: rest) h Q :=
  k.lift fun _ _ => AW.go fun p e s m args below meth cd R Q F H locs cells slots la S L w => by
    have hX := F.2.2.2.2.2.1.2.2
    have hbA : ¬ xF X (xE X 1) := Nat.not_le.mpr hX.1.2
    have e1 : rv X (.ref 1) = .ref (xE X 1) := rfl
    simp only [List.map_cons] at w ⊢
    rw [e1]
    exact va_slen F.1 F.2.1 hX.1.1 (Nat.lt_of_lt_of_le hX.1.2 hX.2.1) hbA S.2 hd w
end Rules4
end
section
section Moves
variable {X : CX} {s U : State}
theorem Kw.to (h : Kw X s) (hW : s.WarmedH U.vm) (hz : s.heap.size ≤ U.heap.size) (hq : ∀ q : Nat, q < s.heap.size → ¬ xF X q → U.heap[q]? = s.heap[q]?) : Kw X U := by
  obtain ⟨h1, ⟨h2, h3, h4⟩, ⟨h5, h6⟩, h7, ⟨h8, h9⟩, ⟨h10, h11⟩, h12⟩ := h
  refine ⟨h1.moved hW.alike, ⟨h2.moved hW.alike, h3.moved hW.alike, h4.moved hW.alike⟩, ⟨(h5.moved hW.alike).kept (hq _ (by omega) (Nat.not_le.mpr h6)), h6⟩, by omega, ⟨(h8.moved hW.alike).kept hq, fun q hq => (h9 q hq).warm hW⟩, ⟨(h10.moved hW.alike).kept hq, (h11.moved hW.alike).kept hq⟩, fun q hq => (h12 q hq).warmM hW⟩
theorem Kw.blind (h : Kw X U) (g : JFrame) (mk : MethodId) (a : Array Value) : Kw X (U.calling g mk a) := by
  obtain ⟨h1, ⟨h2, h3, h4⟩, ⟨h5, h6⟩, h7, ⟨h8, h9⟩, ⟨h10, h11⟩, h12⟩ := h
  have hv : U.vm.Alike (U.calling g mk a).vm := Vm.Alike.refl U.vm
  exact ⟨h1.moved hv, ⟨h2.moved hv, h3.moved hv, h4.moved hv⟩, ⟨h5.moved hv, h6⟩, h7, ⟨h8.moved hv, fun q hq => (h9 q hq).same rfl⟩, ⟨h10.moved hv, h11.moved hv⟩, fun q hq => (h12 q hq).same rfl rfl⟩
end Moves
/-! a method's contract out of its walk -/
def wsM (M : MD) : List Cond := .code M.1 M.2.1 M.2.2.1 M.2.2.2.1 :: tbG
def rmM (M : MD) (mc ms : Nat) : Room := { frames := M.2.2.2.2, cells := mc, slots := ms, locals := 34 * M.2.2.2.2 }
def PcM (X : CX) (as : List Value) (h : AH) : Array Value → State → Prop := va_Pc (as.map (rv X)) (fun U => Wd X h U.heap ∧ Kw X U)
def QcM (X : CX) (r : Option Value) (h' : AH) : Array Value → State → Outcome → State → Prop := fun _ st o t => o = .returned (r.map (rv X)) ∧ Wd X h' t.heap ∧ va_F (xF X) st t
def MOk (M : MD) : Prop := plainName M.1.cls = true ∧ Cond.code M.1 M.2.1 M.2.2.1 M.2.2.2.1 ∈ tbG ∧ Cond.initialized M.1.cls ∈ tbG ∧ M.1.cls ≠ "java/lang/invoke/MethodHandle" ∧ M.1.cls ≠ "java/lang/invoke/VarHandle" ∧ M.2.2.1 ≤ 15
def enX (as : List Value) : List Value := as.flatMap fun v => if v.category = 2 then [v, jk] else [v]
def enL (n : Nat) (as : List Value) : List Value := enX as ++ List.replicate (n - (enX as).length) jk
theorem enX_len (X : CX) : ∀ as : List Value, (lg_sl (as.map (rv X))).length = (enX as).length
  | [] => rfl
  | v :: as => by
    have ih := enX_len X as
    unfold lg_sl enX at *
    simp only [List.map_cons, List.flatMap_cons, List.length_append, ih, rv_category]
    split <;> rfl
theorem enX_at (X : CX) : ∀ (as : List Value) (o i : Nat) (v : Value), (enX as)[i]? = some v → rl v = true → (o + i, rv X v) ∈ lv_args o (as.map (rv X))
  | [], _, _, _, h, _ => by simp [enX] at h
  | a :: as, o, i, v, h, hr => by
    have ih := enX_at X as
    simp only [List.map_cons, lv_args, rv_category]
    simp only [enX, List.flatMap_cons] at h
    by_cases hc : a.category = 2
    · rw [if_pos hc] at h ⊢
      match i, h with
      | 0, h => simp at h; subst h; exact List.mem_cons_self
      | 1, h => simp at h; subst h; simp [rl] at hr
      | i + 2, h =>
        have h2 : (enX as)[i]? = some v := by simpa [enX] using h
        have := ih (o + 2) i v h2 hr
        rw [show o + (i + 2) = o + 2 + i by omega]
        exact List.mem_cons_of_mem _ this
    · rw [if_neg hc] at h ⊢
      match i, h with
      | 0, h => simp at h; subst h; exact List.mem_cons_self
      | i + 1, h =>
        have h2 : (enX as)[i]? = some v := by simpa [enX] using h
        have := ih (o + 1) i v h2 hr
        rw [show o + (i + 1) = o + 1 + i by omega]
        exact List.mem_cons_of_mem _ this
theorem LR.entry {X : CX} {n : Nat} {as : List Value} (hn : (enX as).length ≤ n) : LR X n (enL n as) ((lg_sl (as.map (rv X)) ++ List.replicate (n - (lg_sl (as.map (rv X))).length) Slot.unset).toArray) := by
  have hl := lv_entry (as.map (rv X)) (n := n) (by rw [enX_len]; exact hn)
  refine ⟨hl.1, by simp [enL]; omega, hl.2.1, fun i v hi hr => ?_⟩
  unfold enL at hi
  by_cases hlt : i < (enX as).length
  · rw [List.getElem?_append_left hlt] at hi
    have := enX_at X as 0 i v hi hr
    rw [Nat.zero_add] at this
    exact hl.2.2 _ this
  · rw [List.getElem?_append_right (by omega)] at hi
    have := List.mem_of_getElem? hi
    rw [List.mem_replicate] at this
    rw [this.2] at hr
    simp [rl] at hr
theorem AW.met {X : CX} {M : MD} {as : List Value} {h h' : AH} {r : Option Value} (hM : MOk M) (hlen : (enX as).length ≤ M.2.2.1) (k : AW X M 0 (enL M.2.2.1 as) [] h r h') :
    Met (xl X) M.1 (wsM M) (rmM M (h'.1.length - h.1.length) (sz h' - sz h)) (PcM X as h) (QcM X r h') (h'.1.length - h.1.length) (sz h' - sz h) (xF X) := by
  refine Met.ofW (cc := M.2.1) (maxL := M.2.2.1) (ret := M.2.2.2.1) hM.1 rfl ?_
  intro p e s m args below meth c s₁ B hml hv
  obtain ⟨rfl, hWd, hKw⟩ := hv
  have hr := B.returns
  have hlocks := B.notSynchronized
  have F : Fr X M p s m ((as.map (rv X)).toArray) meth c (headSpec (wsM M) (rmM M (h'.1.length - h.1.length) (sz h' - sz h))).room :=
    ⟨B.exec, B.bytes, hml, findClass_of_methodNamed B.named, fun w hw => atoms_spec (ws := wsM M) B.pre w (List.mem_cons_of_mem _ hw), hKw, (name_of_methodNamed B.named B.method).1, Nat.le_refl _, Nat.le_refl _⟩
  rw [lg_entry_eq]
  refine k.2 p e s m _ below meth c _ _ (h'.1.length - h.1.length) (sz h' - sz h) F ⟨Nat.le_refl _, Nat.le_refl _⟩ ?_ s.heap [] 0 0 _ (by have := k.1; omega) ⟨hWd, va_S.rf⟩ (LR.entry hlen)
  intro pc' st' la' H' locs' hret hS'
  rcases hret with ⟨v, ty, hd, rfl, rfl, ht, hn⟩ | ⟨v, hd, rfl, rfl, ht⟩ | ⟨a, n, hd, rfl, rfl, ht⟩ | ⟨hd, rfl, rfl, ht⟩
  · exact W.zret B.exec B.bytes (hr.trans ht) hn (fun t ht2 hW => ⟨rfl, by rw [ht2]; exact hS'.1, hS'.2.F ht2⟩) hS'.2.2.2 hd
  · exact W.lret B.exec B.bytes (hr.trans ht) (fun t ht2 hW => ⟨rfl, by rw [ht2]; exact hS'.1, hS'.2.F ht2⟩) hS'.2.2.2 hd
  · exact W.aret B.exec B.bytes (hr.trans ht) (Or.inl ⟨n, rfl⟩) (by rcases rv_ref X a with ⟨-, q⟩ | ⟨-, q⟩ <;> rw [q]; exact Or.inl rfl; exact Or.inr ⟨_, rfl⟩) (fun t ht2 hW => ⟨rfl, by rw [ht2]; exact hS'.1, hS'.2.F ht2⟩) hS'.2.2.2 hd
  · exact W.vret B.exec B.bytes (hr.trans ht) (fun t ht2 hW => ⟨rfl, by rw [ht2]; exact hS'.1, hS'.2.F ht2⟩) hS'.2.2.2 hd
/-- behind a call -/
theorem run_go {X : CX} {h1 : AH} {r : Option Value} {p : Program} {e : Env} {R : Room} {s : State} {m : MethodId} {args : Array Value} {below : List Frame} {meth : Method} {c : Code} {H : Heap} {locs : List Loc} {cells slots mc ms pc : Nat} {Q : State → Prop} {la : Array Slot} {st0 rest : List Value} {aa : Array Value}
    (hr : va_Run p (xl X) e R s m args below meth c H locs cells slots mc ms (F0 m pc la st0) rest (QcM X r h1 aa) (xF X)) (S : va_S (xF X) s.heap H locs)
    (kk : ∀ (H1 : Heap) (locs1 : List Loc), Sw X h1 s H1 locs1 → W p (xl X) e R s m args below meth c H1 locs1 (cells + mc) (slots + ms) Q (F0 m (pc + 3) la ((r.map (rv X)).toList ++ rest))) : W p (xl X) e R s m args below meth c H locs cells slots Q (F0 m pc la st0) := by
  intro T hT Y
  obtain ⟨v, st₀, t, T', L, h0, Y', hL, e1, e2, ⟨hv, hwd, hF⟩, st⟩ := hr T hT Y
  have hv2 : v = r.map (rv X) := Outcome.returned.inj hv
  subst hv2
  obtain ⟨hz, hk⟩ := hF
  rw [h0] at hz hk
  obtain ⟨t2, a1, b1⟩ := kk T'.heap (locs ++ L) ⟨by rw [e1]; exact hwd, by rw [e1]; exact Nat.le_trans S.1 hz, fun q g1 g2 => by rw [e1, hk q (Nat.lt_of_lt_of_le g1 S.1) g2]; exact S.2.1 q g1 g2, fun q hq => by
      rcases List.mem_append.mp hq with h | h
      · exact S.2.2 q h
      · exact hL q h⟩ T' rfl Y'
  exact ⟨t2, st t2 a1, b1⟩
theorem tbG_in {M : MD} (hM : MOk M) : GoodIn tbG (wsM M) := fun w hw => by
  rcases List.mem_cons.mp hw with rfl | hw
  · exact ⟨hM.2.1, tbG_good hM.2.1⟩
  · exact ⟨hw, tbG_good hw⟩
theorem sum_rv (X : CX) (rest : List Value) : (((rest.map (rv X)).map fun v => v.category).sum) = (rest.map fun v => v.category).sum := by
  rw [List.map_map]
  congr 1
  exact List.map_congr_left fun v _ => rv_category X v
theorem Pc_blind {X : CX} {as : List Value} {h : AH} : FrameBlind (PcM X as h) := fun a U g mk q => ⟨q.1, q.2.1, q.2.2.blind g mk a⟩
theorem Pc_here {X : CX} {as : List Value} {h : AH} {s : State} {H : Heap} {locs : List Loc} (hK : Kw X s) (S : Sw X h s H locs) : ∀ U : State, U.heap = H → s.WarmedH U.vm → PcM X as h (as.map (rv X)).toArray U :=
  fun U hU hW => ⟨rfl, by rw [hU]; exact S.1, hK.to hW (by rw [hU]; exact S.2.1) (fun q h1 h2 => by rw [hU]; exact S.2.2.1 q h1 h2)⟩
/-! links of calls -/
def CS (own : String) (idx : Nat) (M : MD) (np : Nat) : Prop := MOk M ∧ (Cond.methodLink own idx M.1 ∈ tbG ∨ (own, idx, M.1) ∈ nestL) ∧ Cond.static M.1 ∈ tbG ∧ (parseMethodDescriptor M.1.desc).map (fun d => d.parameters.length) = some np
def CV (own : String) (idx : Nat) (M : MD) (np c : Nat) : Prop := MOk M ∧ Cond.methodLink own idx M.1 ∈ tbG ∧ Cond.instanceMethod M.1 ∈ tbG ∧ Cond.selects M.1.cls M.1 M.1 ∈ tbG ∧ (parseMethodDescriptor M.1.desc).map (fun d => d.parameters.length) = some np ∧ ∃ T N ty, Cl c M.1.cls T N ty
def CI (own : String) (idx : Nat) (M : MD) (np : Nat) : Prop := MOk M ∧ (Cond.methodLink own idx M.1 ∈ tbG ∨ (own, idx, M.1) ∈ nestL) ∧ Cond.instanceMethod M.1 ∈ tbG ∧ M.1.name = "<init>" ∧ (parseMethodDescriptor M.1.desc).map (fun d => d.parameters.length) = some np ∧ M.2.2.2.1 = none
theorem np_of {d : String} {n : Nat} (h : (parseMethodDescriptor d).map (fun d => d.parameters.length) = some n) : ∀ sig, parseMethodDescriptor d = some sig → n = sig.parameters.length := fun sig hs => by
  rw [hs] at h
  exact (Option.some.inj h).symm
theorem AW.call {X : CX} {M M2 : MD} {pc : Nat} {ls st rest as : List Value} {h h1 : AH} {r r1 : Option Value} {h' : AH} (hM : MOk M2) (hlen : (enX as).length ≤ M2.2.2.1) (hdep : M2.2.2.2.2 + 1 ≤ M.2.2.2.2)
    (hgo : ∀ (p : Program) (e : Env) (s : State) (m : MethodId) (args : Array Value) (below : List Frame) (meth : Method) (c : Code) (R : Room), Fr X M p s m args meth c R → ∀ (H : Heap) (locs : List Loc) (cells slots : Nat) (la : Array Slot), Sw X h s H locs → LR X M.2.2.1 ls la →
      ∀ mc ms, Met (xl X) M2.1 (wsM M2) (rmM M2 mc ms) (PcM X as h) (QcM X r1 h1) mc ms (xF X) → (rmM M2 mc ms).frames + 1 ≤ R.frames ∧ 8 + (M2.2.2.1 + 11) + (rmM M2 mc ms).locals ≤ R.locals → cells + mc ≤ R.cells ∧ slots + ms ≤ R.slots → ∃ aa, va_Run p (xl X) e R s m args below meth c H locs cells slots mc ms (F0 m pc la (st.map (rv X))) (rest.map (rv X)) (QcM X r1 h1 aa) (xF X))
    (k1 : AW X M2 0 (enL M2.2.2.1 as) [] h r1 h1) (k : AW X M (pc + 3) ls (r1.toList ++ rest) h1 r h') : AW X M pc ls st h r h' := by
  have g1 := k1.1
  have g2 := k.1
  refine ⟨⟨by omega, by omega⟩, fun p e s m args below meth c R Q mc ms F hR hf H locs cells slots la hc hS hl => ?_⟩
  have hf8 := F.2.2.2.2.2.2.2
  have hm15 := hM.2.2.2.2.2
  obtain ⟨aa, hrun⟩ := hgo p e s m args below meth c R F H locs cells slots la hS hl _ _ (k1.met hM hlen) ⟨by show M2.2.2.2.2 + 1 ≤ _; omega, by show 8 + _ + 34 * M2.2.2.2.2 ≤ _; omega⟩ ⟨by omega, by omega⟩
  refine run_go hrun hS.2 (fun H1 locs1 hS1 => ?_)
  have e1 : (r1.map (rv X)).toList ++ rest.map (rv X) = (r1.toList ++ rest).map (rv X) := by cases r1 <;> simp
  rw [e1]
  exact k.2 p e s m args below meth c R Q mc ms F hR hf H1 locs1 _ _ la (by omega) hS1 hl
section CallRules
variable {X : CX} {M M2 : MD} {pc : Nat} {ls rest : List Value} {h : AH} {Q : Option Value → AH → Prop}
theorem P_callS {idx np : Nat} (as : List Value) (hd : decode M.2.1 pc = .ok (.invokestatic idx, 3)) (hL : CS M.1.cls idx M2 np) (hn : as.length = np) (hlen : (enX as).length ≤ M2.2.2.1) (hdep : M2.2.2.2.2 + 1 ≤ M.2.2.2.2) (hsum : (rest.map fun v => v.category).sum ≤ 8)
    (k : EW X M2 0 (enL M2.2.2.1 as) [] h (fun r h1 => EW X M (pc + 3) ls (r.toList ++ rest) h1 Q)) : EW X M pc ls (as.reverse ++ rest) h Q := by
  obtain ⟨r1, h1, ⟨r, h', q, w⟩, w1⟩ := k
  obtain ⟨hM, hlk, hst, hnp⟩ := hL
  refine ⟨r, h', q, AW.call hM hlen hdep ?_ w1 w⟩
  intro p e s m args below meth c R F H locs cells slots la S L mc ms hMet hR hcs
  have hts := F.2.2.2.2.1
  refine ⟨(as.map (rv X)).toArray, ?_⟩
  rcases hlk with hlk | hlk
  · exact va_runS (As := as.map (rv X)) ⟨F.1, F.2.1, F.2.2.1, F.2.2.2.1, hts⟩ hMet ⟨callB_of np hts (tbG_in hM) rfl rfl rfl (hts _ hM.2.2.1) (hts _ hlk) ⟨hM.2.2.2.1, hM.2.2.2.2.1, hnp⟩ hR, hts _ hst⟩ ⟨Pc_blind, Pc_here F.2.2.2.2.2.1 S⟩ rfl (by simp [hn]) L.1 (by simp) (lv_room (by rw [sum_rv]; exact hsum)) hd hcs
  · exact va_runSN (As := as.map (rv X)) ⟨F.1, F.2.1, F.2.2.1, F.2.2.2.1, hts⟩ hMet ⟨va_cnB np hts (tbG_in hM) rfl rfl rfl (F.2.2.2.2.2.1.2.2.2.2.2.2 _ hlk) (hts _ hM.2.2.1) ⟨hM.2.2.2.1, hM.2.2.2.2.1, hnp⟩ hR, hts _ hst, trivial⟩ ⟨Pc_blind, Pc_here F.2.2.2.2.2.1 S⟩ rfl (by simp [hn]) L.1 (by simp) (lv_room (by rw [sum_rv]; exact hsum)) hd hcs
theorem P_callV {idx np r0 c n : Nat} (as : List Value) (hd : decode M.2.1 pc = .ok (.invokevirtual idx, 3)) (hL : CV M.1.cls idx M2 np c) (hl : h.1[r0]? = some (c, n)) (hn : as.length = np) (hlen : (enX (.ref r0 :: as)).length ≤ M2.2.2.1) (hdep : M2.2.2.2.2 + 1 ≤ M.2.2.2.2) (hsum : (rest.map fun v => v.category).sum ≤ 8)
    (k : EW X M2 0 (enL M2.2.2.1 (.ref r0 :: as)) [] h (fun r h1 => EW X M (pc + 3) ls (r.toList ++ rest) h1 Q)) : EW X M pc ls (as.reverse ++ .ref r0 :: rest) h Q := by
  obtain ⟨r1, h1, ⟨r, h', q, w⟩, w1⟩ := k
  obtain ⟨hM, hlk, hins, hse, hnp, T, N, ty, hC⟩ := hL
  refine ⟨r, h', q, AW.call hM hlen hdep ?_ w1 w⟩
  intro p e s m args below meth cd R F H locs cells slots la S L mc ms hMet hR hcs
  have hts := F.2.2.2.2.1
  have hr := exO_big S.1.2.2.2 hl (show c < 30 by have := hC.2.2.2.2.2; omega)
  have hat := S.1.at hl hr
  rw [ce_obj hC.2.2.2.2.2] at hat
  obtain ⟨rr, g1, cell, q1, q2, q3, -⟩ := hat
  have hrr := Option.some.inj (g1.symm.trans hC.1)
  subst hrr
  refine ⟨((.ref r0 :: as).map (rv X)).toArray, ?_⟩
  have e1 : (as.reverse ++ .ref r0 :: rest).map (rv X) = (as.map (rv X)).reverse ++ .ref (am X r0) :: rest.map (rv X) := by simp [rv_big hr]
  rw [e1]
  have e2 : (Value.ref r0 :: as).map (rv X) = .ref (am X r0) :: as.map (rv X) := by simp [rv_big hr]
  rw [e2]
  refine va_runV (C := M2.1.cls) (b := am X r0) (As := as.map (rv X)) (Ts := tbG) ⟨F.1, F.2.1, F.2.2.1, F.2.2.2.1, hts⟩ hMet ⟨callB_of np hts (tbG_in hM) rfl rfl rfl (hts _ hM.2.2.1) (hts _ hlk) ⟨hM.2.2.2.1, hM.2.2.2.2.1, hnp⟩ hR, hts _ hins, hts _ hse⟩ ⟨Pc_blind, ⟨cell, q1, by rw [q3]; rfl, by rw [q2]; exact (F.2.2.2.2.2.1.1.1 c _ hC.1).2.1⟩, ?_⟩ rfl (by simp [hn]) L.1 rfl (lv_room (by rw [sum_rv]; exact hsum)) hd hcs
  rw [← e2]
  exact Pc_here F.2.2.2.2.2.1 S
theorem P_callI {idx np r0 : Nat} (as : List Value) (hd : decode M.2.1 pc = .ok (.invokespecial idx, 3)) (hL : CI M.1.cls idx M2 np) (hr0 : r0 ≠ 0) (hn : as.length = np) (hlen : (enX (.ref r0 :: as)).length ≤ M2.2.2.1) (hdep : M2.2.2.2.2 + 1 ≤ M.2.2.2.2) (hsum : (rest.map fun v => v.category).sum ≤ 8)
    (k : EW X M2 0 (enL M2.2.2.1 (.ref r0 :: as)) [] h (fun r h1 => EW X M (pc + 3) ls (r.toList ++ rest) h1 Q)) : EW X M pc ls (as.reverse ++ .ref r0 :: rest) h Q := by
  obtain ⟨r1, h1, ⟨r, h', q, w⟩, w1⟩ := k
  obtain ⟨hM, hlk, hins, hnm, hnp, hret⟩ := hL
  refine ⟨r, h', q, AW.call hM hlen hdep ?_ w1 w⟩
  intro p e s m args below meth cd R F H locs cells slots la S L mc ms hMet hR hcs
  have hts := F.2.2.2.2.1
  have er : rv X (.ref r0) = .ref (am X r0) := by
    rcases rv_ref X r0 with ⟨q, -⟩ | ⟨-, q⟩
    · exact absurd q hr0
    · exact q
  refine ⟨((.ref r0 :: as).map (rv X)).toArray, ?_⟩
  have e1 : (as.reverse ++ .ref r0 :: rest).map (rv X) = (as.map (rv X)).reverse ++ .ref (am X r0) :: rest.map (rv X) := by simp [er]
  rw [e1]
  have e2 : (Value.ref r0 :: as).map (rv X) = .ref (am X r0) :: as.map (rv X) := by simp [er]
  rw [e2]
  have hw : wsM M2 = Cond.code M2.1 M2.2.1 M2.2.2.1 none :: tbG := by unfold wsM; rw [hret]
  rcases hlk with hlk | hlk
  · refine va_runI (b := am X r0) (As := as.map (rv X)) (Ts := tbG) ⟨F.1, F.2.1, F.2.2.1, F.2.2.2.1, hts⟩ hMet ⟨callB_of np hts (tbG_in hM) hw rfl rfl (hts _ hM.2.2.1) (hts _ hlk) ⟨hM.2.2.2.1, hM.2.2.2.2.1, hnp⟩ hR, hnm, hts _ hins⟩ ⟨Pc_blind, ?_⟩ rfl (by simp [hn]) L.1 rfl (lv_room (by rw [sum_rv]; exact hsum)) hd hcs
    rw [← e2]
    exact Pc_here F.2.2.2.2.2.1 S
  · refine va_runIN (b := am X r0) (As := as.map (rv X)) (Ts := tbG) ⟨F.1, F.2.1, F.2.2.1, F.2.2.2.1, hts⟩ hMet ⟨va_cnB np hts (tbG_in hM) hw rfl rfl (F.2.2.2.2.2.1.2.2.2.2.2.2 _ hlk) (hts _ hM.2.2.1) ⟨hM.2.2.2.1, hM.2.2.2.2.1, hnp⟩ hR, hnm, hts _ hins⟩ ⟨Pc_blind, ?_⟩ rfl (by simp [hn]) L.1 rfl (lv_room (by rw [sum_rv]; exact hsum)) hd hcs
    rw [← e2]
    exact Pc_here F.2.2.2.2.2.1 S
end CallRules
end
section
/-- int arrays: a stretch is copied -/
def cpH (h : AH) (sr d : Nat) (sp dp n : Int32) : AH := (h.1, va_up h.2.1 d (va_cpy (h.2.1 sr) (h.2.1 d) sp.toNatClampNeg dp.toNatClampNeg n.toNatClampNeg), h.2.2)
section CopyRule
variable {X : CX} {M : MD} {pc : Nat} {ls rest : List Value} {h : AH} {Q : Option Value → AH → Prop}
theorem nn_clamp {z : Int32} (hz : ¬ z < 0) : z.toInt = (z.toNatClampNeg : Int) := by
  have hz0 : (0 : Int) ≤ z.toInt := by
    have := Int32.not_lt.mp hz
    simpa using Int32.le_iff_toInt_le.mp this
  show z.toInt = ((z.toInt.toNat : Nat) : Int)
  omega
theorem P_copy {idx sr d n0 n1 : Nat} {sp dp n : Int32} (hd : decode M.2.1 pc = .ok (.invokestatic idx, 3)) (hlk : Cond.methodLink M.1.cls idx arraycopyName ∈ tbG) (hm : 1 ≤ M.2.2.2.2) (hsum : (rest.map fun v => v.category).sum ≤ 8) (hl0 : h.1[sr]? = some (20, n0)) (hl1 : h.1[d]? = some (20, n1))
    (h1 : ¬ sp < 0) (h2 : ¬ dp < 0) (h3 : ¬ n < 0) (h4 : sp.toNatClampNeg + n.toNatClampNeg ≤ n0) (h5 : dp.toNatClampNeg + n.toNatClampNeg ≤ n1) (k : EW X M (pc + 3) ls rest (cpH h sr d sp dp n) Q) : EW X M pc ls (.int n :: .int dp :: .ref d :: .int sp :: .ref sr :: rest) h Q :=
  k.lift fun _ _ => AW.wr (h2 := cpH h sr d sp dp n) rfl fun p e s m args below meth cd R Q F H locs cells slots la S L w => by
    have hts := F.2.2.2.2.1
    have hK := F.2.2.2.2.2.1.1
    have hr0 := exO_big S.1.2.2.2 hl0 (show (20 : Nat) < 30 by decide)
    have hr1 := exO_big S.1.2.2.2 hl1 (show (20 : Nat) < 30 by decide)
    have hat0 := S.1.at hl0 hr0
    have hat1 := S.1.at hl1 hr1
    rw [ce_int] at hat0 hat1
    have hc0 : H[am X sr]? = some (vp_cell (xA X 20) (n0, .inl (h.2.1 sr))) := hat0
    have hc1 : H[am X d]? = some (vp_cell (xA X 20) (n1, .inl (h.2.1 d))) := hat1
    simp only [List.map_cons]
    rw [rv_big hr0, rv_big hr1]
    have hf := F.2.2.2.2.2.2.2
    have hsum2 := sum_rv X rest
    intro T hT Y
    obtain ⟨-, k0, hk0, cm0, hkk0⟩ := (hK.2 0 _ rfl).1 n0 (fun j => .int (h.2.1 sr j))
    obtain ⟨-, k1, hk1, cm1, hkk1⟩ := (hK.2 0 _ rfl).1 n1 (fun j => .int (h.2.1 d j))
    obtain ⟨vm', Y', step⟩ := Y.arraycopy F.1 F.2.2.2.1 (hts _ hlk) (hts (.native arraycopyName) (tbG_of (by decide +kernel) rfl)) (hts (.static arraycopyName) (tbG_of (by decide +kernel) rfl)) (hts (.initialized "java/lang/System") (tbG_of (by decide +kernel) rfl)) (src := am X sr) (dst := am X d) (cs := vp_cell (xA X 20) (n0, .inl (h.2.1 sr))) (cd := vp_cell (xA X 20) (n1, .inl (h.2.1 d))) (srcPos := sp) (destPos := dp) (n := n) (by rw [hT]; exact hc0) (by rw [hT]; exact hc1)
      (fun _ h => by cases h) (fun _ h => by cases h) (fun h => by cases h) (fun h => by cases h) hk0 hk1 hkk0 hkk1 (by simp [show refKind .int = false from rfl]) h1 h2 h3
      (by rw [nn_clamp h1, nn_clamp h3]; show ¬ _ > ((arrV _ n0 (fun j => .int (h.2.1 sr j))).slots.size : Int); rw [arrV_size]; omega)
      (by rw [nn_clamp h2, nn_clamp h3]; show ¬ _ > ((arrV _ n1 (fun j => .int (h.2.1 d j))).slots.size : Int); rw [arrV_size]; omega)
      (fun vm₁ _ i hi => by
        have e : (vp_cell (xA X 20) (n0, .inl (h.2.1 sr))).slots.getD (sp.toNatClampNeg + i) .null = .int (h.2.1 sr (sp.toNatClampNeg + i)) := by
          show (arrV _ n0 (fun j => .int (h.2.1 sr j))).slots.getD _ _ = _
          rw [Array.getD_eq_getD_getElem?, arrV_read _ _ (by omega)]
          rfl
        refine ⟨?_, ?_⟩
        · rw [e]; rfl
        · rw [e]; exact trivial)
      (g := F0 m pc la (.int n :: .int dp :: .ref (am X d) :: .int sp :: .ref (am X sr) :: rest.map (rv X))) rfl (by rw [F.2.2.1]; exact L.1) (rest := rest.map (rv X)) rfl (by rw [F.2.1]; exact hd) (by omega) (by show 2 * 0 + _ + (7 + 11) ≤ _; omega)
    have e1 : copied (vp_cell (xA X 20) (n0, .inl (h.2.1 sr))) (vp_cell (xA X 20) (n1, .inl (h.2.1 d))) sp dp n = vp_cell (xA X 20) (n1, .inl (va_cpy (h.2.1 sr) (h.2.1 d) sp.toNatClampNeg dp.toNatClampNeg n.toNatClampNeg)) := va_copied (fun z => .int z) _ _ (h.2.1 sr) (h.2.1 d) h4
    rw [e1] at Y' step
    generalize hcell : vp_cell (xA X 20) (n1, .inl (va_cpy (h.2.1 sr) (h.2.1 d) sp.toNatClampNeg dp.toNatClampNeg n.toNatClampNeg)) = cell2 at Y' step
    have hl : am X d < H.size := (Array.getElem?_eq_some_iff.mp hc1).1
    have hheap : ((T.setVm vm').setCell (am X d) cell2).heap = H.setIfInBounds (am X d) cell2 := by rw [← hT]; rfl
    have oq : ∀ q : Nat, q ≠ am X d → (H.setIfInBounds (am X d) cell2)[q]? = H[q]? := fun q hq => by simp [Array.getElem?_setIfInBounds, Ne.symm hq]
    obtain ⟨t, a1, b1⟩ := w (H.setIfInBounds (am X d) cell2) _ ⟨S.1.up hl1 hr1 rfl (fun a ha => ⟨va_up_n _ _ ha, rfl⟩) (by simp) oq (by
        rw [ce_int]
        show _ = some (vp_cell _ _)
        have e2 : (cpH h sr d sp dp n).2.1 d = va_cpy (h.2.1 sr) (h.2.1 d) sp.toNatClampNeg dp.toNatClampNeg n.toNatClampNeg := va_up_s _ _ _
        rw [e2, hcell]
        simp [Array.getElem?_setIfInBounds, hl]), ⟨by simp; exact S.2.1, fun q g1 g2 => by
        rw [oq q (fun e => g2 (by rw [e]; show xN X ≤ am X d; rw [am_big hr1]; omega))]
        exact S.2.2.1 q g1 g2, fun q hq => by
        rcases List.mem_append.mp hq with h | h
        · exact S.2.2.2 q h
        · obtain ⟨z, -, hz⟩ := List.mem_map.mp h
          rw [← hz]
          show xN X ≤ am X d
          rw [am_big hr1]; omega⟩⟩ _ hheap Y'
    exact ⟨t, step t a1, b1⟩
theorem P_mmax {idx : Nat} {x y : Int32} (hd : decode M.2.1 pc = .ok (.invokestatic idx, 3)) (hlk : Cond.methodLink M.1.cls idx Lib.Math.max.name ∈ tbG) (hm : 1 ≤ M.2.2.2.2) (hsum : (rest.map fun v => v.category).sum ≤ 8) (k : EW X M (pc + 3) ls (.int (if x < y then y else x) :: rest) h Q) : EW X M pc ls (.int y :: .int x :: rest) h Q := by
  refine k.lift fun r h' kk => ⟨kk.1, fun p e s m args below meth c R Q mc ms F hR hf H locs cells slots la hc hS hl => ?_⟩
  have hts := F.2.2.2.2.1
  have hff := F.2.2.2.2.2.2.2
  have hsum2 := sum_rv X rest
  have k1 := kk.1
  exact va_mmax F.1 F.2.1 (by rw [F.2.2.1]; exact hl.1.symm) F.2.2.2.1 (hts _ hlk) (hts (.static Lib.Math.max.name) (tbG_of (by decide +kernel) rfl)) (hts (.initialized "java/lang/Math") (tbG_of (by decide +kernel) rfl)) (hts (.code Lib.Math.max.name Lib.Math.max.code 2 (some .int)) (tbG_of (by decide +kernel) rfl)) (by omega) (by omega) (by omega) (by omega) hd (kk.2 p e s m args below meth c R Q mc ms F hR hf H locs cells slots la hc hS hl)
theorem P_mmin {idx : Nat} {x y : Int32} (hd : decode M.2.1 pc = .ok (.invokestatic idx, 3)) (hlk : Cond.methodLink M.1.cls idx Lib.Math.min.name ∈ tbG) (hm : 1 ≤ M.2.2.2.2) (hsum : (rest.map fun v => v.category).sum ≤ 8) (k : EW X M (pc + 3) ls (.int (if y < x then y else x) :: rest) h Q) : EW X M pc ls (.int y :: .int x :: rest) h Q := by
  refine k.lift fun r h' kk => ⟨kk.1, fun p e s m args below meth c R Q mc ms F hR hf H locs cells slots la hc hS hl => ?_⟩
  have hts := F.2.2.2.2.1
  have hff := F.2.2.2.2.2.2.2
  have hsum2 := sum_rv X rest
  have k1 := kk.1
  exact va_mmin F.1 F.2.1 (by rw [F.2.2.1]; exact hl.1.symm) F.2.2.2.1 (hts _ hlk) (hts (.static Lib.Math.min.name) (tbG_of (by decide +kernel) rfl)) (hts (.initialized "java/lang/Math") (tbG_of (by decide +kernel) rfl)) (hts (.code Lib.Math.min.name Lib.Math.min.code 2 (some .int)) (tbG_of (by decide +kernel) rfl)) (by omega) (by omega) (by omega) (by omega) hd (kk.2 p e s m args below meth c R Q mc ms F hR hf H locs cells slots la hc hS hl)
end CopyRule
/-! the classes by number -/
theorem cl_Pn : Cl 0 R_Pn F_Pn 10 t_Pn := by
  refine ⟨rfl, u_ws_good i_Pn, t_Pn_ok, n_Pn, fun f hf => ?_, by decide⟩
  have hz : ∀ f, f < 10 → (rf 0 f = false → t_Pn f = .int) ∧ (rf 0 f = true → (match t_Pn f with | .object _ => true | .array _ => true | _ => false) = true) := by decide +kernel
  refine ⟨(hz f hf).1, fun q => ?_⟩
  have := (hz f hf).2 q
  split at this
  · exact Or.inl ⟨_, by assumption⟩
  · exact Or.inr ⟨_, by assumption⟩
  · cases this
theorem cl_Tl : Cl 1 R_Tl F_Tl 10 t_Tl := by
  refine ⟨rfl, u_ws_good i_Tl, t_Tl_ok, n_Tl, fun f hf => ?_, by decide⟩
  have hz : ∀ f, f < 10 → (rf 1 f = false → t_Tl f = .int) ∧ (rf 1 f = true → (match t_Tl f with | .object _ => true | .array _ => true | _ => false) = true) := by decide +kernel
  refine ⟨(hz f hf).1, fun q => ?_⟩
  have := (hz f hf).2 q
  split at this
  · exact Or.inl ⟨_, by assumption⟩
  · exact Or.inr ⟨_, by assumption⟩
  · cases this
theorem cl_Rd : Cl 2 R_Rd F_Rd 7 t_Rd := by
  refine ⟨rfl, u_ws_good i_Rd, t_Rd_ok, n_Rd, fun f hf => ?_, by decide⟩
  have hz : ∀ f, f < 7 → (rf 2 f = false → t_Rd f = .int) ∧ (rf 2 f = true → (match t_Rd f with | .object _ => true | .array _ => true | _ => false) = true) := by decide +kernel
  refine ⟨(hz f hf).1, fun q => ?_⟩
  have := (hz f hf).2 q
  split at this
  · exact Or.inl ⟨_, by assumption⟩
  · exact Or.inr ⟨_, by assumption⟩
  · cases this
theorem cl_St : Cl 3 R_St F_St 8 t_St := by
  refine ⟨rfl, u_ws_good i_St, t_St_ok, n_St, fun f hf => ?_, by decide⟩
  have hz : ∀ f, f < 8 → (rf 3 f = false → t_St f = .int) ∧ (rf 3 f = true → (match t_St f with | .object _ => true | .array _ => true | _ => false) = true) := by decide +kernel
  refine ⟨(hz f hf).1, fun q => ?_⟩
  have := (hz f hf).2 q
  split at this
  · exact Or.inl ⟨_, by assumption⟩
  · exact Or.inr ⟨_, by assumption⟩
  · cases this
theorem cl_Ps : Cl 4 R_Ps F_Ps 3 t_Ps := by
  refine ⟨rfl, u_ws_good i_Ps, t_Ps_ok, n_Ps, fun f hf => ?_, by decide⟩
  have hz : ∀ f, f < 3 → (rf 4 f = false → t_Ps f = .int) ∧ (rf 4 f = true → (match t_Ps f with | .object _ => true | .array _ => true | _ => false) = true) := by decide +kernel
  refine ⟨(hz f hf).1, fun q => ?_⟩
  have := (hz f hf).2 q
  split at this
  · exact Or.inl ⟨_, by assumption⟩
  · exact Or.inr ⟨_, by assumption⟩
  · cases this
theorem cl_Fo : Cl 5 R_Fo F_Fo 7 t_Fo := by
  refine ⟨rfl, u_ws_good i_Fo, t_Fo_ok, n_Fo, fun f hf => ?_, by decide⟩
  have hz : ∀ f, f < 7 → (rf 5 f = false → t_Fo f = .int) ∧ (rf 5 f = true → (match t_Fo f with | .object _ => true | .array _ => true | _ => false) = true) := by decide +kernel
  refine ⟨(hz f hf).1, fun q => ?_⟩
  have := (hz f hf).2 q
  split at this
  · exact Or.inl ⟨_, by assumption⟩
  · exact Or.inr ⟨_, by assumption⟩
  · cases this
theorem cl_Sg : Cl 6 R_Sg F_Sg 4 t_Sg := by
  refine ⟨rfl, u_ws_good i_Sg, t_Sg_ok, n_Sg, fun f hf => ?_, by decide⟩
  have hz : ∀ f, f < 4 → (rf 6 f = false → t_Sg f = .int) ∧ (rf 6 f = true → (match t_Sg f with | .object _ => true | .array _ => true | _ => false) = true) := by decide +kernel
  refine ⟨(hz f hf).1, fun q => ?_⟩
  have := (hz f hf).2 q
  split at this
  · exact Or.inl ⟨_, by assumption⟩
  · exact Or.inr ⟨_, by assumption⟩
  · cases this
theorem cl_Sh : Cl 7 R_Sh F_Sh 1 t_Sh := by
  refine ⟨rfl, u_ws_good i_Sh, t_Sh_ok, n_Sh, fun f hf => ?_, by decide⟩
  have hz : ∀ f, f < 1 → (rf 7 f = false → t_Sh f = .int) ∧ (rf 7 f = true → (match t_Sh f with | .object _ => true | .array _ => true | _ => false) = true) := by decide +kernel
  refine ⟨(hz f hf).1, fun q => ?_⟩
  have := (hz f hf).2 q
  split at this
  · exact Or.inl ⟨_, by assumption⟩
  · exact Or.inr ⟨_, by assumption⟩
  · cases this
theorem cl_Rg : Cl 8 R_Rg F_Rg 1 t_Rg := by
  refine ⟨rfl, u_ws_good i_Rg, t_Rg_ok, n_Rg, fun f hf => ?_, by decide⟩
  have hz : ∀ f, f < 1 → (rf 8 f = false → t_Rg f = .int) ∧ (rf 8 f = true → (match t_Rg f with | .object _ => true | .array _ => true | _ => false) = true) := by decide +kernel
  refine ⟨(hz f hf).1, fun q => ?_⟩
  have := (hz f hf).2 q
  split at this
  · exact Or.inl ⟨_, by assumption⟩
  · exact Or.inr ⟨_, by assumption⟩
  · cases this
theorem cl_Pg : Cl 9 R_Pg F_Pg 2 t_Pg := by
  refine ⟨rfl, u_ws_good i_Pg, t_Pg_ok, n_Pg, fun f hf => ?_, by decide⟩
  have hz : ∀ f, f < 2 → (rf 9 f = false → t_Pg f = .int) ∧ (rf 9 f = true → (match t_Pg f with | .object _ => true | .array _ => true | _ => false) = true) := by decide +kernel
  refine ⟨(hz f hf).1, fun q => ?_⟩
  have := (hz f hf).2 q
  split at this
  · exact Or.inl ⟨_, by assumption⟩
  · exact Or.inr ⟨_, by assumption⟩
  · cases this
theorem cl_Md : Cl 10 R_Md F_Md 45 t_Md := by
  refine ⟨rfl, u_ws_good i_Md, t_Md_ok, n_Md, fun f hf => ?_, by decide⟩
  have hz : ∀ f, f < 45 → (rf 10 f = false → t_Md f = .int) ∧ (rf 10 f = true → (match t_Md f with | .object _ => true | .array _ => true | _ => false) = true) := by decide +kernel
  refine ⟨(hz f hf).1, fun q => ?_⟩
  have := (hz f hf).2 q
  split at this
  · exact Or.inl ⟨_, by assumption⟩
  · exact Or.inr ⟨_, by assumption⟩
  · cases this
end
section
/-! THE CLAIM OUT OF ONE WALK OF THE LAW'S BODY (the skeleton's rows) -/
def R_law : String := "PromiseNamesLaw"
def lw_At (p : Program) (s : State) (m : MethodId) (meth : Method) (c : Code) (b L : Nat) (xs : Nat → Int32) : Prop :=
  p.tables.exec = Jvm.exec ∧ c.code = code ∧ meth.sig.returnType = ret ∧ c.maxLocals = 4 ∧ s.vm.findClass R_law = some m.cls ∧ (∀ w ∈ lw_tbl, w.before #[Value.ref b] s = true) ∧ va_X b L xs s s.heap ∧ b < s.heap.size ∧ meth.locks = false ∧ (Jvm.Cond.and given_1 narrow_1).before #[Value.ref b] s = true
def strI : List Nat := [42, 53, 58, 71, 75, 77, 79, 81]
def strT (i : Nat) : Term := .string R_Rd (strI.getD i 0)
theorem str_ex : ∀ i, i < 8 → Cond.exactly (strT i) "java/lang/String" ∈ flatC (Jvm.Cond.and given_1 narrow_1) := by decide +kernel
theorem str_co : ∀ i, i < 8 → Cond.eq (.field (strT i) "java/lang/String" "coder" "B") (.int 0) ∈ flatC (Jvm.Cond.and given_1 narrow_1) := by decide +kernel
theorem str_ar : ∀ i, i < 8 → Cond.arrayOf (.field (strT i) "java/lang/String" "value" "[B") .byte ∈ flatC (Jvm.Cond.and given_1 narrow_1) := by decide +kernel
theorem str_le : ∀ i, i < 8 → Cond.eq (.length (.field (strT i) "java/lang/String" "value" "[B")) (.int (Int32.ofNat (lenS.getD i 0))) ∈ flatC (Jvm.Cond.and given_1 narrow_1) := by decide +kernel
theorem str_el : ∀ i, i < 8 → ∀ j, j < lenS.getD i 0 → Cond.eq (.elem (.field (strT i) "java/lang/String" "value" "[B") (.int (Int32.ofNat j))) (.int ((bytS.getD i []).getD j 0)) ∈ flatC (Jvm.Cond.and given_1 narrow_1) := by decide +kernel
theorem str_ne : ∀ i, i < 8 → ∀ j, j < 8 → i ≠ j → Cond.not (.eq (strT i) (strT j)) ∈ flatC (Jvm.Cond.and given_1 narrow_1) ∨ Cond.not (.eq (strT j) (strT i)) ∈ flatC (Jvm.Cond.and given_1 narrow_1) := by decide +kernel
theorem str_rf : ∀ q ∈ [(0, 42, "parish"), (1, 53, "man"), (2, 58, "strife"), (3, 71, "will"), (4, 75, "pay"), (5, 77, "short"), (6, 79, "shun"), (7, 81, "ever")], Cond.stringRef R_Rd q.2.1 q.2.2 ∈ lw_tbl ∧ q.1 < 8 ∧ strI.getD q.1 0 = q.2.1 := by decide +kernel
theorem nest_in : ∀ q ∈ nestL, Cond.methodLinkNest q.1 q.2.1 q.2.2 "PromiseNames" ∈ lw_tbl := by decide +kernel
theorem inst_in : ∀ q ∈ cls, Cond.instantiable q.1 q.2.2 ∈ lw_tbl := by decide +kernel
theorem lays_in : ∀ q ∈ cls, ∀ w ∈ u_ws q.1 q.2.1 q.2.2, w ∈ lw_tbl := by decide +kernel
theorem va_K_start {s : State} {args : Array Value} (hts : ∀ w ∈ lw_tbl, w.before args s = true) : ∃ (dC : Nat → ClassId) (dI : Nat → Nat → Nat) (cA : Nat → ClassId), va_K (dC, dI) cls [(cA 20, .int), (cA 21, .boolean), (cA 22, .object R_St), (cA 23, .object R_Rg), (cA 24, .object R_Pg)] s := by
  have h0 : ∀ k : Nat, ∃ q : ClassId × (Nat → Nat), ∀ r : vw_C, cls[k]? = some r → u_Kn s r.1 r.2.1 r.2.2 q.1 q.2 := by
    intro k
    cases hk : cls[k]? with
    | none => exact ⟨(0, fun _ => 0), fun r h => by cases h⟩
    | some r =>
      have hm := List.mem_of_getElem? hk
      obtain ⟨cC, iS, h⟩ := u_known (C := r.1) (T := r.2.1) (N := r.2.2) (n := r.2.2) hts (lays_in r hm) (hts _ (inst_in r hm))
      exact ⟨(cC, iS), fun r' h' => by cases h'; exact h⟩
  obtain ⟨g, hg⟩ := Classical.axiomOfChoice h0
  obtain ⟨c1, k1, m1, a1, b1, d1⟩ := Cond.arrayClass_spec (hts (.arrayClass .int) (by decide +kernel))
  obtain ⟨c2, k2, m2, a2, b2, d2⟩ := Cond.arrayClass_spec (hts (.arrayClass .boolean) (by decide +kernel))
  obtain ⟨m3, c3, k3, e3, -, b3, d3, a3⟩ := Cond.arrayOver_spec (hts (.arrayOver (.object R_St)) (by decide +kernel))
  obtain ⟨m4, c4, k4, e4, -, b4, d4, a4⟩ := Cond.arrayOver_spec (hts (.arrayOver (.object R_Rg)) (by decide +kernel))
  obtain ⟨m5, c5, k5, e5, -, b5, d5, a5⟩ := Cond.arrayOver_spec (hts (.arrayOver (.object R_Pg)) (by decide +kernel))
  refine ⟨fun k => (g k).1, fun k => (g k).2, fun t => if t = 20 then c1 else if t = 21 then c2 else if t = 22 then c3 else if t = 23 then c4 else c5, fun c q hq => hg c q hq, fun k q hk => ?_⟩
  match k, hk with
  | 0, hk => cases hk; exact ⟨fun n z => ⟨fun _ h => (by cases h), k1, b1, m1, d1⟩, a1⟩
  | 1, hk => cases hk; exact ⟨fun n z => ⟨fun _ h => (by cases h), k2, b2, m2, d2⟩, a2⟩
  | 2, hk => cases hk; exact ⟨fun n z => ⟨fun _ h => (by cases h), k3, b3, m3, d3⟩, k3, m3, b3, d3, e3, a3⟩
  | 3, hk => cases hk; exact ⟨fun n z => ⟨fun _ h => (by cases h), k4, b4, m4, d4⟩, k4, m4, b4, d4, e4, a4⟩
  | 4, hk => cases hk; exact ⟨fun n z => ⟨fun _ h => (by cases h), k5, b5, m5, d5⟩, k5, m5, b5, d5, e5, a5⟩
  | k + 5, hk => simp at hk
theorem start_X {p : Program} {s : State} {m : MethodId} {meth : Method} {c : Code} {b L : Nat} {xs : Nat → Int32} (l : Launch) (C0 : lw_At p s m meth c b L xs) : ∃ X : CX, xl X = l ∧ xN X = s.heap.size ∧ xE X 1 = b ∧ xL X = L ∧ xS X = xs ∧ Kw X s := by
  obtain ⟨hx, hb, hr, hml, hown, hts, hX, hbl, hlocks, hgv⟩ := C0
  obtain ⟨dC, dI, cA, hK⟩ := va_K_start hts
  have hf := flat_of_before _ hgv
  have hA : ∀ a : Nat, a < s.heap.size → ¬ (fun q : Nat => s.heap.size ≤ q) a := fun a h => Nat.not_le.mpr h
  obtain ⟨adK, adV, hS, hE⟩ := vk_Sof (args := #[Value.ref b]) (s := s) (N := 8) (tm := strT) (len := lenS) (byt := bytS) (A := fun q : Nat => s.heap.size ≤ q) (by decide +kernel) (fun i hi => hf _ (str_ex i hi)) (fun i hi => hf _ (str_co i hi)) (fun i hi => hf _ (str_ar i hi)) (fun i hi => hf _ (str_le i hi)) (fun i hi j hj => hf _ (str_el i hi j hj)) (fun i j hi hj hne => (str_ne i hi j hj hne).imp (fun h => hf _ h) (fun h => hf _ h)) hA
  have hz1 : va_Z "java/lang/String" "COMPACT_STRINGS" "Z" (.int 1) (fun q : Nat => s.heap.size ≤ q) s s.heap := va_Zof (hts (.laysStatic "java/lang/String" "COMPACT_STRINGS" "Z") (by decide +kernel)) (hts (.initialized "java/lang/String") (by decide +kernel)) (va_eqt (hf (.eq (.static "java/lang/String" "COMPACT_STRINGS" "Z") (.int 1)) (by decide +kernel))) hA
  have hz2 : va_Z "jdk/internal/util/Preconditions" "SIOOBE_FORMATTER" "Ljava/util/function/BiFunction;" .null (fun q : Nat => s.heap.size ≤ q) s s.heap ∨ ∃ t, va_Z "jdk/internal/util/Preconditions" "SIOOBE_FORMATTER" "Ljava/util/function/BiFunction;" (.ref t) (fun q : Nat => s.heap.size ≤ q) s s.heap :=
    va_Zqof (hts (.laysStatic "jdk/internal/util/Preconditions" "SIOOBE_FORMATTER" "Ljava/util/function/BiFunction;") (by decide +kernel)) (hts (.initialized "jdk/internal/util/Preconditions") (by decide +kernel)) (hf (.isRef (.static "jdk/internal/util/Preconditions" "SIOOBE_FORMATTER" "Ljava/util/function/BiFunction;")) (by decide +kernel)) hA
  obtain ⟨z, hz, hzz⟩ : ∃ z : Nat × Nat, (z.2 = 0 → va_Z "jdk/internal/util/Preconditions" "SIOOBE_FORMATTER" "Ljava/util/function/BiFunction;" .null (fun q : Nat => s.heap.size ≤ q) s s.heap) ∧ (z.2 ≠ 0 → va_Z "jdk/internal/util/Preconditions" "SIOOBE_FORMATTER" "Ljava/util/function/BiFunction;" (.ref z.1) (fun q : Nat => s.heap.size ≤ q) s s.heap) := by
    rcases hz2 with h | ⟨t, h⟩
    · exact ⟨(0, 0), fun _ => h, fun h => absurd rfl h⟩
    · exact ⟨(t, 1), fun h => (by cases h), fun _ => h⟩
  refine ⟨(l, dC, dI, cA, s.heap.size, fun r => if r = 1 then b else if r < 10 then adK (r - 2) else if r < 18 then adV (r - 10) else if r = 18 then z.1 else z.2, L, xs), rfl, rfl, rfl, rfl, rfl, hK, ⟨hts (.arrayOver (.object R_St)) (by decide +kernel), hts (.arrayOver (.object R_Rg)) (by decide +kernel), hts (.arrayOver (.object R_Pg)) (by decide +kernel)⟩, ⟨hX, hbl⟩, Nat.le_refl _, ⟨⟨fun i hi => ?_, fun i j hi hj => ?_⟩, fun q hq => ?_⟩, ⟨hz1, ?_⟩, fun q hq => va_Nw.of rfl (hts _ (nest_in q hq))⟩
  · have h1 := hS.1 i hi
    have e1 : (if 2 + i = 1 then b else if 2 + i < 10 then adK (2 + i - 2) else if 2 + i < 18 then adV (2 + i - 10) else if 2 + i = 18 then z.1 else z.2) = adK i := by
      rw [if_neg (by omega), if_pos (by omega), show 2 + i - 2 = i by omega]
    have e2 : (if 10 + i = 1 then b else if 10 + i < 10 then adK (10 + i - 2) else if 10 + i < 18 then adV (10 + i - 10) else if 10 + i = 18 then z.1 else z.2) = adV i := by
      rw [if_neg (by omega), if_neg (by omega), if_pos (by omega), show 10 + i - 10 = i by omega]
    dsimp only [xE]
    rw [e1, e2]
    exact h1
  · dsimp only [xE]
    rw [if_neg (by omega), if_pos (by omega), if_neg (by omega), if_pos (by omega), show 2 + i - 2 = i by omega, show 2 + j - 2 = j by omega]
    exact hS.2 i j hi hj
  · obtain ⟨h1, h2, h3⟩ := str_rf q hq
    dsimp only [xE]
    rw [if_neg (by omega), if_pos (by omega), show 2 + q.1 - 2 = q.1 by omega]
    refine vk_R.of (hts _ h1) ?_
    have h4 := hE q.1 h2
    unfold strT at h4
    rw [h3] at h4
    exact h4
  · unfold zX
    dsimp only [xE]
    simp only [show ¬ (19 : Nat) = 1 by decide, show ¬ (19 : Nat) < 10 by decide, show ¬ (19 : Nat) < 18 by decide, show ¬ (19 : Nat) = 18 by decide, if_false]
    by_cases h : z.2 = 0
    · rw [if_pos h]; exact hz h
    · rw [if_neg h]; exact hzz h
def lw_Q (_ : Array Value) (s : State) (o : Outcome) (t : State) : Prop := o = .returned (some (.int 1)) ∧ Framed s o t [] 600000 7302250
def lw_Z (below : List Frame) (a : Array Value) (s : State) : State → Prop := fun t => ∃ o, t.status = .running ∧ Ended t below o ∧ lw_Q a s o t
/-- the law's own end, with 1 on the stack, nothing written that was there before, its room as the claim has it -/
theorem lw_ret {p : Program} {l : Launch} {e : Env} {s : State} {m : MethodId} {below : List Frame} {meth : Method} {c : Code} {b : Nat} (hx : p.tables.exec = Jvm.exec) (hb : c.code = code) (hr : meth.sig.returnType = ret) (hlocks : meth.locks = false) {pc : Nat} {H : Heap} {ls : Array Slot} (hdg : decode code pc = .ok (.ireturn, 1)) : W p l e room_1 s m #[Value.ref b] below meth c H [] 600000 7302250 (lw_Z below #[Value.ref b] s) (F0 m pc ls [.int 1]) := by
  intro T hT X
  obtain ⟨fs, hret, hrun, hended, hW, hframe⟩ := X.leave (v := some (.int 1)) (hlocks := hlocks) (fun h => by rw [hr] at h; cases h)
  have hmeth' : T.vm.method? m = some meth := X.method'
  refine ⟨T.setFrames fs, ?_, .returned (some (.int 1)), hrun, hended, rfl, ⟨_, rfl⟩, hW, hframe⟩
  jvm_step X.here [X.here.top, hx, hb, hdg, hmeth', hr, ret, narrow_b1]
  (try refine ⟨rfl, ?_⟩); (try refine ⟨rfl, ?_⟩)
  first | (intro acts; rw [hret _ acts rfl rfl rfl]) | rw [hret _ _ rfl rfl rfl]
  exact Steps.refl _
def m_law : MD := (x, code, 4, some .boolean, 11)
/-- the heap at the start -/
def h0 (X : CX) : AH := (lay0 (xL X), mI0 X, mR0)
/-- what the law owes, over the abstract heap alone -/
def lawOwes : Prop := ∀ X : CX, xL X ≤ 3072 → EW X m_law 0 [.ref 1, jk, jk, jk] [] (h0 X) (fun r h' => r = some (.int 1) ∧ h'.1.length ≤ 600032 ∧ sz h' ≤ sz (h0 X) + 7302250)
theorem law_start (hO : lawOwes) {p : Program} {e : Env} {s : State} {m : MethodId} {below : List Frame} {meth : Method} {c : Code} (l : Launch) {b L : Nat} {xs : Nat → Int32} (hL : L ≤ 3072) (C0 : lw_At p s m meth c b L xs) (hn : meth.name = x.name) : W p l e room_1 s m #[Value.ref b] below meth c s.heap [] 0 0 (lw_Z below #[Value.ref b] s) (entryFrame m ([Value.ref b] : List Value).toArray 4) := by
  obtain ⟨X, rfl, hN, rfl, rfl, rfl, hKw⟩ := start_X l C0
  obtain ⟨r, h', ⟨rfl, q1, q2⟩, hw⟩ := hO X hL
  obtain ⟨hx, hb, hr, hml, hown, hts, hX, hbl, hlocks, hgv⟩ := id C0
  rw [lg_entry_eq]
  have hlen : (h0 X).1.length = 32 := by simp [h0, lay0, lenS]
  have F : Fr X m_law p s m #[Value.ref (xE X 1)] meth c room_1 := ⟨hx, hb, hml, hown, fun w hw => hts w (List.mem_filter.mp hw).1, hKw, hn, by decide, by decide⟩
  have hWd : Wd X (h0 X) s.heap := by
    refine ⟨fun k q hk => ?_, by rw [hlen, hN], by rw [hlen]; exact Nat.le_refl _, ?_, fun r hr => ⟨rfl, rfl⟩⟩
    · have : wo X (h0 X) = [] := by unfold wo; rw [hlen]; rfl
      rw [this] at hk
      simp at hk
    · have : (lay0 (xL X)).length = 32 := hlen
      exact List.take_of_length_le (by omega)
  refine hw.2 p e s m _ below meth c room_1 _ 600000 7302250 F ⟨Nat.le_refl _, Nat.le_refl _⟩ ?_ s.heap [] 0 0 _ (by rw [hlen]; omega) ⟨hWd, va_S.rf⟩ (LR.entry (X := X) (as := [.ref 1]) (n := 4) (by decide))
  intro pc' st' la' H' locs' hret hS'
  rcases hret with ⟨v, ty, hd, rfl, hv, ht, -⟩ | ⟨v, hd, rfl, hv, ht⟩ | ⟨a, n, hd, rfl, hv, ht⟩ | ⟨hd, rfl, hv, ht⟩
  · cases hv
    refine va_forget (fun q hq => ?_) (lw_ret hx hb hr hlocks hd)
    have := hS'.2.2.2 q hq
    unfold xF at this
    omega
  · cases hv
  · cases hv
  · cases hv
end
section
theorem ta (i : Nat) {l : List Cond} {w : Cond} (h : l[i]? = some w) : w ∈ l := List.mem_of_getElem? h
theorem tm_0 {w : Cond} (h : w ∈ k2_sels lw_privs) : w ∈ lw_tbl := List.mem_append_left _ h
theorem tm_1 {w : Cond} (h : w ∈ tables_1_1) : w ∈ lw_tbl := List.mem_append_right _ (List.mem_append_left _ h)
theorem tm_2 {w : Cond} (h : w ∈ tables_1_2) : w ∈ lw_tbl := List.mem_append_right _ (List.mem_append_right _ (List.mem_append_left _ h))
theorem tm_3 {w : Cond} (h : w ∈ tables_1_3) : w ∈ lw_tbl := List.mem_append_right _ (List.mem_append_right _ (List.mem_append_right _ (List.mem_append_left _ h)))
theorem tm_4 {w : Cond} (h : w ∈ tables_1_4) : w ∈ lw_tbl := List.mem_append_right _ (List.mem_append_right _ (List.mem_append_right _ (List.mem_append_right _ (List.mem_append_left _ h))))
theorem tm_5 {w : Cond} (h : w ∈ tables_1_5) : w ∈ lw_tbl := List.mem_append_right _ (List.mem_append_right _ (List.mem_append_right _ (List.mem_append_right _ (List.mem_append_right _ (List.mem_append_left _ h)))))
theorem tm_6 {w : Cond} (h : w ∈ tables_1_6) : w ∈ lw_tbl := List.mem_append_right _ (List.mem_append_right _ (List.mem_append_right _ (List.mem_append_right _ (List.mem_append_right _ (List.mem_append_right _ h)))))
def m_Pn_init : MD := (⟨R_Pn, "<init>", "()V"⟩, prog_1_method_1_code, 2, none, 3)
def m_Tl_init : MD := (⟨R_Tl, "<init>", "()V"⟩, prog_12_method_1_code, 1, none, 1)
def m_Rd_init : MD := (⟨R_Rd, "<init>", "()V"⟩, prog_7_method_1_code, 1, none, 1)
def m_St_init : MD := (⟨R_St, "<init>", "(LPromiseNames$Told;)V"⟩, prog_11_method_1_code, 2, none, 1)
def m_Ps_init : MD := (⟨R_Ps, "<init>", "(LPromiseNames$Told;)V"⟩, prog_6_method_1_code, 3, none, 2)
def m_Fo_init : MD := (⟨R_Fo, "<init>", "(LPromiseNames$Told;)V"⟩, prog_2_method_1_code, 2, none, 2)
def m_Sg_init : MD := (⟨R_Sg, "<init>", "()V"⟩, prog_10_method_1_code, 1, none, 1)
def m_Sh_init : MD := (⟨R_Sh, "<init>", "()V"⟩, prog_9_method_1_code, 1, none, 1)
def m_Pn_write : MD := (⟨R_Pn, "write", "(I)I"⟩, prog_1_method_2_code, 2, some .int, 1)
def m_Pn_isWithin : MD := (⟨R_Pn, "isWithin", "(III)Z"⟩, prog_1_method_42_code, 3, some .boolean, 0)
def m_Rd_addLetter : MD := (⟨R_Rd, "addLetter", "(I)Z"⟩, prog_7_method_2_code, 2, some .boolean, 0)
def m_Pn_erase : MD := (⟨R_Pn, "erase", "()I"⟩, prog_1_method_3_code, 2, some .int, 0)
def m_Pn_fault : MD := (⟨R_Pn, "fault", "()I"⟩, prog_1_method_4_code, 1, some .int, 9)
def m_Tl_copyFrom : MD := (⟨R_Tl, "copyFrom", "(LPromiseNames$Told;)V"⟩, prog_12_method_3_code, 2, none, 1)
def m_Rd_readInto : MD := (⟨R_Rd, "readInto", "(LPromiseNames$Told;)I"⟩, prog_7_method_3_code, 3, some .int, 8)
def m_Rd_toNextToken : MD := (⟨R_Rd, "toNextToken", "()V"⟩, prog_7_method_10_code, 1, none, 3)
def m_Rd_isSmall : MD := (⟨R_Rd, "isSmall", "(I)Z"⟩, prog_7_method_16_code, 1, some .boolean, 1)
def m_Rd_isDigit : MD := (⟨R_Rd, "isDigit", "(I)Z"⟩, prog_7_method_17_code, 1, some .boolean, 1)
def m_Rd_passDigits : MD := (⟨R_Rd, "passDigits", "()V"⟩, prog_7_method_11_code, 1, none, 2)
def m_Rd_readClause : MD := (⟨R_Rd, "readClause", "(LPromiseNames$Told;)Z"⟩, prog_7_method_4_code, 3, some .boolean, 7)
def m_Rd_isWord : MD := (⟨R_Rd, "isWord", "(Ljava/lang/String;)Z"⟩, prog_7_method_15_code, 3, some .boolean, 5)
def m_Sr_length : MD := (⟨"java/lang/String", "length", "()I"⟩, prog_17_method_54_code, 1, some .int, 1)
def m_Sr_coder : MD := (⟨"java/lang/String", "coder", "()B"⟩, prog_17_method_152_code, 1, some .byte, 0)
def m_Sr_charAt : MD := (⟨"java/lang/String", "charAt", "(I)C"⟩, prog_17_method_56_code, 2, some .char, 4)
def m_Sr_isLatin1 : MD := (⟨"java/lang/String", "isLatin1", "()Z"⟩, prog_17_method_154_code, 1, some .boolean, 0)
def m_Sl_charAt : MD := (⟨"java/lang/StringLatin1", "charAt", "([BI)C"⟩, prog_18_method_2_code, 2, some .char, 2)
def m_Sr_checkIndex : MD := (⟨"java/lang/String", "checkIndex", "(II)V"⟩, prog_17_method_155_code, 2, none, 1)
def m_Pr_checkIndex : MD := (⟨"jdk/internal/util/Preconditions", "checkIndex", "(IILjava/util/function/BiFunction;)I"⟩, prog_21_method_11_code, 3, some .int, 0)
def m_Tl_clear : MD := (⟨R_Tl, "clear", "()V"⟩, prog_12_method_2_code, 1, none, 0)
def m_Rd_readPerson : MD := (⟨R_Rd, "readPerson", "(LPromiseNames$Told;)Z"⟩, prog_7_method_6_code, 5, some .boolean, 5)
def m_Tl_hasRoomForPerson : MD := (⟨R_Tl, "hasRoomForPerson", "()Z"⟩, prog_12_method_4_code, 1, some .boolean, 0)
def m_Rd_isNumber : MD := (⟨R_Rd, "isNumber", "(II)Z"⟩, prog_7_method_13_code, 3, some .boolean, 1)
def m_Rd_takeNumber : MD := (⟨R_Rd, "takeNumber", "()I"⟩, prog_7_method_12_code, 2, some .int, 4)
def m_Tl_addPerson : MD := (⟨R_Tl, "addPerson", "(III)V"⟩, prog_12_method_6_code, 4, none, 1)
def m_Rd_readStrife : MD := (⟨R_Rd, "readStrife", "(LPromiseNames$Told;)Z"⟩, prog_7_method_8_code, 3, some .boolean, 5)
def m_Tl_addStrife : MD := (⟨R_Tl, "addStrife", "(II)V"⟩, prog_12_method_8_code, 3, none, 0)
def m_Rd_kindByWord : MD := (⟨R_Rd, "kindByWord", "()I"⟩, prog_7_method_5_code, 1, some .int, 6)
def m_Rd_readPromise : MD := (⟨R_Rd, "readPromise", "(LPromiseNames$Told;I)Z"⟩, prog_7_method_7_code, 6, some .boolean, 5)
def m_Tl_hasRoomForPromise : MD := (⟨R_Tl, "hasRoomForPromise", "()Z"⟩, prog_12_method_5_code, 1, some .boolean, 0)
def m_Rd_needsByWord : MD := (⟨R_Rd, "needsByWord", "(I)I"⟩, prog_7_method_9_code, 6, some .int, 0)
def m_Tl_addPromise : MD := (⟨R_Tl, "addPromise", "(IIII)V"⟩, prog_12_method_7_code, 5, none, 1)
def m_Rd_isSign : MD := (⟨R_Rd, "isSign", "(C)Z"⟩, prog_7_method_14_code, 2, some .boolean, 0)
def m_Pn_parish : MD := (⟨R_Pn, "parish", "()I"⟩, prog_1_method_5_code, 1, some .int, 9)
def m_Pn_beginAnew : MD := (⟨R_Pn, "beginAnew", "()V"⟩, prog_1_method_6_code, 2, none, 2)
def m_St_setAsTold : MD := (⟨R_St, "setAsTold", "()V"⟩, prog_11_method_2_code, 2, none, 1)
def m_Sh_clear : MD := (⟨R_Sh, "clear", "()V"⟩, prog_9_method_2_code, 2, none, 0)
def m_Pn_person : MD := (⟨R_Pn, "person", "(II)I"⟩, prog_1_method_7_code, 3, some .int, 2)
def m_Pn_isPerson : MD := (⟨R_Pn, "isPerson", "(I)Z"⟩, prog_1_method_39_code, 2, some .boolean, 1)
def m_St_howManyHeldBy : MD := (⟨R_St, "howManyHeldBy", "(I)I"⟩, prog_11_method_17_code, 4, some .int, 0)
def m_Pn_holds : MD := (⟨R_Pn, "holds", "(II)I"⟩, prog_1_method_8_code, 3, some .int, 2)
def m_St_heldAt : MD := (⟨R_St, "heldAt", "(II)I"⟩, prog_11_method_18_code, 5, some .int, 0)
def m_Pn_promise : MD := (⟨R_Pn, "promise", "(II)I"⟩, prog_1_method_9_code, 3, some .int, 2)
def m_Pn_isPromise : MD := (⟨R_Pn, "isPromise", "(I)Z"⟩, prog_1_method_40_code, 2, some .boolean, 1)
def m_St_isOpen : MD := (⟨R_St, "isOpen", "(II)Z"⟩, prog_11_method_4_code, 3, some .boolean, 1)
def m_Kd_canBeWorkedAt : MD := (⟨"PromiseNames$Kind", "canBeWorkedAt", "(I)Z"⟩, prog_3_method_2_code, 1, some .boolean, 0)
def m_Pn_as : MD := (⟨R_Pn, "as", "(II)I"⟩, prog_1_method_10_code, 3, some .int, 2)
def m_Kd_isUnder : MD := (⟨"PromiseNames$Kind", "isUnder", "(II)Z"⟩, prog_3_method_5_code, 2, some .boolean, 0)
def m_Kd_does : MD := (⟨"PromiseNames$Kind", "does", "(II)I"⟩, prog_3_method_3_code, 2, some .int, 0)
def m_Pn_year : MD := (⟨R_Pn, "year", "(I)I"⟩, prog_1_method_11_code, 2, some .int, 4)
def m_Ps_remember : MD := (⟨R_Ps, "remember", "(LPromiseNames$State;)V"⟩, prog_6_method_2_code, 2, none, 2)
def m_St_copyFrom : MD := (⟨R_St, "copyFrom", "(LPromiseNames$State;)V"⟩, prog_11_method_3_code, 2, none, 1)
def m_St_passYears : MD := (⟨R_St, "passYears", "(I)V"⟩, prog_11_method_5_code, 3, none, 3)
def m_St_workAll : MD := (⟨R_St, "workAll", "()V"⟩, prog_11_method_6_code, 6, none, 2)
def m_St_workAt : MD := (⟨R_St, "workAt", "(II)V"⟩, prog_11_method_7_code, 3, none, 1)
def m_St_markKept : MD := (⟨R_St, "markKept", "(I)V"⟩, prog_11_method_8_code, 2, none, 0)
def m_St_ageAll : MD := (⟨R_St, "ageAll", "()V"⟩, prog_11_method_9_code, 3, none, 2)
def m_St_leaveAll : MD := (⟨R_St, "leaveAll", "(I)V"⟩, prog_11_method_10_code, 6, none, 1)
def m_St_whoInherits : MD := (⟨R_St, "whoInherits", "(I)I"⟩, prog_11_method_11_code, 3, some .int, 0)
def m_Kd_isKeptByDeath : MD := (⟨"PromiseNames$Kind", "isKeptByDeath", "(I)Z"⟩, prog_3_method_4_code, 1, some .boolean, 0)
def m_St_moveToEnd : MD := (⟨R_St, "moveToEnd", "(I)V"⟩, prog_11_method_13_code, 5, none, 0)
def m_Pn_give : MD := (⟨R_Pn, "give", "(II)I"⟩, prog_1_method_12_code, 5, some .int, 3)
def m_St_handOver : MD := (⟨R_St, "handOver", "(II)V"⟩, prog_11_method_12_code, 3, none, 1)
def m_St_placeOf : MD := (⟨R_St, "placeOf", "(I)I"⟩, prog_11_method_15_code, 3, some .int, 0)
def m_Pn_shorten : MD := (⟨R_Pn, "shorten", "(I)I"⟩, prog_1_method_13_code, 3, some .int, 3)
def m_Pn_ahead : MD := (⟨R_Pn, "ahead", "(I)I"⟩, prog_1_method_14_code, 3, some .int, 3)
def m_St_rankOf : MD := (⟨R_St, "rankOf", "(I)I"⟩, prog_11_method_16_code, 4, some .int, 0)
def m_St_putFirst : MD := (⟨R_St, "putFirst", "(I)V"⟩, prog_11_method_14_code, 3, none, 1)
def m_Pn_undo : MD := (⟨R_Pn, "undo", "()I"⟩, prog_1_method_15_code, 1, some .int, 3)
def m_Ps_restoreLatest : MD := (⟨R_Ps, "restoreLatest", "(LPromiseNames$State;)V"⟩, prog_6_method_3_code, 2, none, 2)
def m_Pn_keep : MD := (⟨R_Pn, "keep", "(I)I"⟩, prog_1_method_16_code, 2, some .int, 2)
def m_Pn_back : MD := (⟨R_Pn, "back", "(I)I"⟩, prog_1_method_17_code, 2, some .int, 2)
def m_Pn_behind : MD := (⟨R_Pn, "behind", "(III)I"⟩, prog_1_method_18_code, 5, some .int, 5)
def m_Fo_stateBehind : MD := (⟨R_Fo, "stateBehind", "(LPromiseNames$State;I)LPromiseNames$State;"⟩, prog_2_method_2_code, 3, some (.object "PromiseNames$State"), 4)
def m_Pn_keeps : MD := (⟨R_Pn, "keeps", "(I)I"⟩, prog_1_method_19_code, 2, some .int, 5)
def m_Fo_yearsUntilKept : MD := (⟨R_Fo, "yearsUntilKept", "(LPromiseNames$State;I)I"⟩, prog_2_method_3_code, 4, some .int, 4)
def m_Pn_just : MD := (⟨R_Pn, "just", "(I)I"⟩, prog_1_method_20_code, 2, some .int, 5)
def m_Fo_yearsUntilFree : MD := (⟨R_Fo, "yearsUntilFree", "(LPromiseNames$State;I)I"⟩, prog_2_method_4_code, 4, some .int, 4)
def m_Pn_stuck : MD := (⟨R_Pn, "stuck", "()I"⟩, prog_1_method_21_code, 1, some .int, 2)
def m_St_neverKept : MD := (⟨R_St, "neverKept", "()I"⟩, prog_11_method_19_code, 4, some .int, 1)
def m_Pn_order : MD := (⟨R_Pn, "order", "(III)I"⟩, prog_1_method_22_code, 4, some .int, 6)
def m_Fo_findBestOrder : MD := (⟨R_Fo, "findBestOrder", "(LPromiseNames$State;II)V"⟩, prog_2_method_6_code, 7, none, 5)
def m_Fo_findPlaces : MD := (⟨R_Fo, "findPlaces", "(LPromiseNames$State;I)V"⟩, prog_2_method_7_code, 5, none, 0)
def m_Fo_weighTrial : MD := (⟨R_Fo, "weighTrial", "(I)V"⟩, prog_2_method_8_code, 3, none, 4)
def m_In_bitCount : MD := (⟨"java/lang/Integer", "bitCount", "(I)I"⟩, prog_15_method_49_code, 1, some .int, 0)
def m_Fo_toNextOrder : MD := (⟨R_Fo, "toNextOrder", "()Z"⟩, prog_2_method_9_code, 5, some .boolean, 1)
def m_Fo_swapTried : MD := (⟨R_Fo, "swapTried", "(II)V"⟩, prog_2_method_10_code, 4, none, 0)
def m_Fo_answerAt : MD := (⟨R_Fo, "answerAt", "(I)I"⟩, prog_2_method_5_code, 2, some .int, 1)
def m_Pn_godfathers : MD := (⟨R_Pn, "godfathers", "(II)I"⟩, prog_1_method_23_code, 3, some .int, 6)
def m_Fo_findBestGodfathers : MD := (⟨R_Fo, "findBestGodfathers", "(LPromiseNames$State;I)V"⟩, prog_2_method_11_code, 5, none, 5)
def m_Fo_chooseWay : MD := (⟨R_Fo, "chooseWay", "(I)V"⟩, prog_2_method_12_code, 4, none, 0)
def m_Fo_areChosenAlive : MD := (⟨R_Fo, "areChosenAlive", "(LPromiseNames$State;)Z"⟩, prog_2_method_13_code, 3, some .boolean, 0)
def m_Fo_giveAsChosen : MD := (⟨R_Fo, "giveAsChosen", "(LPromiseNames$State;)V"⟩, prog_2_method_14_code, 4, none, 2)
def m_Pn_peace : MD := (⟨R_Pn, "peace", "()I"⟩, prog_1_method_24_code, 1, some .int, 2)
def m_Tl_largestPeacefulSet : MD := (⟨R_Tl, "largestPeacefulSet", "()I"⟩, prog_12_method_9_code, 5, some .int, 1)
def m_Tl_isPeaceful : MD := (⟨R_Tl, "isPeaceful", "(I)Z"⟩, prog_12_method_10_code, 3, some .boolean, 0)
def m_Pn_idle : MD := (⟨R_Pn, "idle", "(IIII)I"⟩, prog_1_method_25_code, 5, some .int, 2)
def m_Od_partOf : MD := (⟨"PromiseNames$Odds", "partOf", "(IIII)I"⟩, prog_4_method_2_code, 10, some .int, 1)
def m_Od_choices : MD := (⟨"PromiseNames$Odds", "choices", "(II)J"⟩, prog_4_method_3_code, 5, some .long, 0)
def m_Od_power : MD := (⟨"PromiseNames$Odds", "power", "(II)J"⟩, prog_4_method_4_code, 5, some .long, 0)
def m_Od_commonDivisor : MD := (⟨"PromiseNames$Odds", "commonDivisor", "(JJ)J"⟩, prog_4_method_5_code, 11, some .long, 0)
def m_Pn_seen : MD := (⟨R_Pn, "seen", "(III)I"⟩, prog_1_method_26_code, 4, some .int, 1)
def m_Sg_add : MD := (⟨R_Sg, "add", "(III)Z"⟩, prog_10_method_2_code, 4, some .boolean, 0)
def m_Pn_forget : MD := (⟨R_Pn, "forget", "()I"⟩, prog_1_method_27_code, 2, some .int, 0)
def m_Pn_kinds : MD := (⟨R_Pn, "kinds", "()I"⟩, prog_1_method_28_code, 1, some .int, 3)
def m_Sg_possibleKinds : MD := (⟨R_Sg, "possibleKinds", "()I"⟩, prog_10_method_3_code, 3, some .int, 2)
def m_Sg_fitsAll : MD := (⟨R_Sg, "fitsAll", "(I)Z"⟩, prog_10_method_4_code, 3, some .boolean, 1)
def m_Pn_attempt : MD := (⟨R_Pn, "attempt", "()I"⟩, prog_1_method_29_code, 1, some .int, 3)
def m_Sg_bestStrength : MD := (⟨R_Sg, "bestStrength", "(I)I"⟩, prog_10_method_5_code, 5, some .int, 2)
def m_Sg_greatestAlike : MD := (⟨R_Sg, "greatestAlike", "(II)I"⟩, prog_10_method_6_code, 7, some .int, 1)
def m_Pn_register : MD := (⟨R_Pn, "register", "(II)I"⟩, prog_1_method_30_code, 3, some .int, 2)
def m_Pn_isRegister : MD := (⟨R_Pn, "isRegister", "(I)Z"⟩, prog_1_method_41_code, 1, some .boolean, 1)
def m_Rg_init : MD := (⟨R_Rg, "<init>", "(I)V"⟩, prog_8_method_1_code, 2, none, 1)
def m_Pn_page : MD := (⟨R_Pn, "page", "(III)I"⟩, prog_1_method_31_code, 5, some .int, 2)
def m_Rg_hasPlace : MD := (⟨R_Rg, "hasPlace", "(I)Z"⟩, prog_8_method_2_code, 2, some .boolean, 1)
def m_Pg_init : MD := (⟨R_Pg, "<init>", "(I)V"⟩, prog_5_method_1_code, 4, none, 1)
def m_Pn_bind : MD := (⟨R_Pn, "bind", "(IIII)I"⟩, prog_1_method_32_code, 6, some .int, 3)
def m_Sh_flawOfPlaces : MD := (⟨R_Sh, "flawOfPlaces", "(IIII)I"⟩, prog_9_method_4_code, 7, some .int, 2)
def m_Pn_same : MD := (⟨R_Pn, "same", "(IIII)I"⟩, prog_1_method_33_code, 8, some .int, 3)
def m_Pn_enter : MD := (⟨R_Pn, "enter", "(IIIII)I"⟩, prog_1_method_34_code, 7, some .int, 4)
def m_Sh_flawOfLine : MD := (⟨R_Sh, "flawOfLine", "(III)I"⟩, prog_9_method_5_code, 6, some .int, 3)
def m_Pg_put : MD := (⟨R_Pg, "put", "(III)V"⟩, prog_5_method_2_code, 4, none, 0)
def m_Pn_read : MD := (⟨R_Pn, "read", "(IIII)I"⟩, prog_1_method_35_code, 7, some .int, 4)
def m_Pn_pages : MD := (⟨R_Pn, "pages", "(II)I"⟩, prog_1_method_36_code, 4, some .int, 2)
def m_Rg_pagesThere : MD := (⟨R_Rg, "pagesThere", "()I"⟩, prog_8_method_3_code, 3, some .int, 0)
def m_Rg_unlikePages : MD := (⟨R_Rg, "unlikePages", "()I"⟩, prog_8_method_4_code, 3, some .int, 1)
def m_Rg_isFirstOfItsPage : MD := (⟨R_Rg, "isFirstOfItsPage", "(I)Z"⟩, prog_8_method_6_code, 3, some .boolean, 0)
def m_Rg_filledLines : MD := (⟨R_Rg, "filledLines", "()I"⟩, prog_8_method_5_code, 3, some .int, 1)
def m_Pg_filled : MD := (⟨R_Pg, "filled", "()I"⟩, prog_5_method_3_code, 3, some .int, 0)
def m_Pn_drop : MD := (⟨R_Pn, "drop", "(I)I"⟩, prog_1_method_37_code, 3, some .int, 2)
def m_Pn_count : MD := (⟨R_Pn, "count", "(I)I"⟩, prog_1_method_38_code, 2, some .int, 1)
def m_St_deadOnes : MD := (⟨R_St, "deadOnes", "()I"⟩, prog_11_method_20_code, 3, some .int, 0)
def m_St_allDone : MD := (⟨R_St, "allDone", "()I"⟩, prog_11_method_21_code, 3, some .int, 0)
def m_Sh_registersThere : MD := (⟨R_Sh, "registersThere", "()I"⟩, prog_9_method_3_code, 3, some .int, 0)
def m_Md_init : MD := (⟨R_Md, "<init>", "()V"⟩, prog_14_method_1_code, 2, none, 1)
def m_Md_write : MD := (⟨R_Md, "write", "(I)I"⟩, prog_14_method_9_code, 2, some .int, 1)
def m_Md_in : MD := (⟨R_Md, "in", "(JJJ)Z"⟩, prog_14_method_3_code, 6, some .boolean, 0)
def m_Md_erase : MD := (⟨R_Md, "erase", "()I"⟩, prog_14_method_10_code, 2, some .int, 0)
def m_Md_fault : MD := (⟨R_Md, "fault", "()I"⟩, prog_14_method_25_code, 1, some .int, 8)
def m_Md_readsAll : MD := (⟨R_Md, "readsAll", "()I"⟩, prog_14_method_24_code, 2, some .int, 7)
def m_Md_tellsAll : MD := (⟨R_Md, "tellsAll", "()V"⟩, prog_14_method_23_code, 2, none, 0)
def m_Md_looks : MD := (⟨R_Md, "looks", "()V"⟩, prog_14_method_12_code, 1, none, 2)
def m_Md_sortOf : MD := (⟨R_Md, "sortOf", "(I)I"⟩, prog_14_method_11_code, 1, some .int, 1)
def m_Md_takesClause : MD := (⟨R_Md, "takesClause", "()Z"⟩, prog_14_method_22_code, 2, some .boolean, 6)
def m_Md_wordAtHand : MD := (⟨R_Md, "wordAtHand", "()I"⟩, prog_14_method_16_code, 1, some .int, 1)
def m_Md_isWord : MD := (⟨R_Md, "isWord", "(IJ)Z"⟩, prog_14_method_15_code, 6, some .boolean, 0)
def m_Md_takesPromise : MD := (⟨R_Md, "takesPromise", "(I)Z"⟩, prog_14_method_19_code, 4, some .boolean, 5)
def m_Md_passesToken : MD := (⟨R_Md, "passesToken", "()V"⟩, prog_14_method_13_code, 1, none, 3)
def m_Md_takesNumber : MD := (⟨R_Md, "takesNumber", "(II)Z"⟩, prog_14_method_14_code, 4, some .boolean, 4)
def m_Md_takesNeeds : MD := (⟨R_Md, "takesNeeds", "()Z"⟩, prog_14_method_18_code, 5, some .boolean, 4)
def m_Md_takesMan : MD := (⟨R_Md, "takesMan", "()Z"⟩, prog_14_method_17_code, 4, some .boolean, 5)
def m_Md_takesStrife : MD := (⟨R_Md, "takesStrife", "()Z"⟩, prog_14_method_20_code, 3, some .boolean, 5)
def m_Md_takesParish : MD := (⟨R_Md, "takesParish", "()V"⟩, prog_14_method_21_code, 2, none, 4)
def m_Md_parish : MD := (⟨R_Md, "parish", "()I"⟩, prog_14_method_27_code, 2, some .int, 8)
def m_Md_begins : MD := (⟨R_Md, "begins", "()V"⟩, prog_14_method_26_code, 2, none, 1)
def m_Md_joins : MD := (⟨R_Md, "joins", "(III)V"⟩, prog_14_method_28_code, 4, none, 0)
def m_Md_person : MD := (⟨R_Md, "person", "(II)I"⟩, prog_14_method_37_code, 3, some .int, 2)
def m_Md_isPerson : MD := (⟨R_Md, "isPerson", "(I)Z"⟩, prog_14_method_7_code, 2, some .boolean, 1)
def m_Md_holds : MD := (⟨R_Md, "holds", "(II)I"⟩, prog_14_method_38_code, 4, some .int, 2)
def m_Md_promise : MD := (⟨R_Md, "promise", "(II)I"⟩, prog_14_method_39_code, 3, some .int, 2)
def m_Md_isPromise : MD := (⟨R_Md, "isPromise", "(I)Z"⟩, prog_14_method_8_code, 2, some .boolean, 1)
def m_Md_holderIn : MD := (⟨R_Md, "holderIn", "(II)I"⟩, prog_14_method_30_code, 4, some .int, 1)
def m_Md_placeIn : MD := (⟨R_Md, "placeIn", "(III)I"⟩, prog_14_method_29_code, 5, some .int, 0)
def m_Md_isOpen : MD := (⟨R_Md, "isOpen", "(II)Z"⟩, prog_14_method_33_code, 3, some .boolean, 1)
def m_Md_has : MD := (⟨R_Md, "has", "(II)Z"⟩, prog_14_method_4_code, 2, some .boolean, 0)
def m_Md_as : MD := (⟨R_Md, "as", "(II)I"⟩, prog_14_method_41_code, 3, some .int, 2)
def m_Md_isA : MD := (⟨R_Md, "isA", "(II)Z"⟩, prog_14_method_40_code, 2, some .boolean, 0)
def m_Md_does : MD := (⟨R_Md, "does", "(II)I"⟩, prog_14_method_32_code, 2, some .int, 0)
def m_Md_year : MD := (⟨R_Md, "year", "(I)I"⟩, prog_14_method_43_code, 3, some .int, 5)
def m_Md_minds : MD := (⟨R_Md, "minds", "()V"⟩, prog_14_method_42_code, 2, none, 1)
def m_Md_bring : MD := (⟨R_Md, "bring", "(II)V"⟩, prog_14_method_6_code, 4, none, 0)
def m_Md_passesYear : MD := (⟨R_Md, "passesYear", "(I)V"⟩, prog_14_method_36_code, 5, none, 4)
def m_Md_becomesKept : MD := (⟨R_Md, "becomesKept", "(III)V"⟩, prog_14_method_34_code, 4, none, 2)
def m_Md_leavesOne : MD := (⟨R_Md, "leavesOne", "(III)V"⟩, prog_14_method_31_code, 6, none, 1)
def m_Md_dies : MD := (⟨R_Md, "dies", "(II)V"⟩, prog_14_method_35_code, 5, none, 3)
def m_Md_give : MD := (⟨R_Md, "give", "(II)I"⟩, prog_14_method_44_code, 5, some .int, 2)
def m_Md_shorten : MD := (⟨R_Md, "shorten", "(I)I"⟩, prog_14_method_45_code, 3, some .int, 2)
def m_Md_ahead : MD := (⟨R_Md, "ahead", "(I)I"⟩, prog_14_method_46_code, 5, some .int, 2)
def m_Md_undo : MD := (⟨R_Md, "undo", "()I"⟩, prog_14_method_47_code, 1, some .int, 1)
def m_Md_keep : MD := (⟨R_Md, "keep", "(I)I"⟩, prog_14_method_48_code, 2, some .int, 1)
def m_Md_back : MD := (⟨R_Md, "back", "(I)I"⟩, prog_14_method_49_code, 2, some .int, 1)
def m_Md_behind : MD := (⟨R_Md, "behind", "(III)I"⟩, prog_14_method_52_code, 4, some .int, 6)
def m_Md_tries : MD := (⟨R_Md, "tries", "()V"⟩, prog_14_method_50_code, 1, none, 1)
def m_Md_goesOn : MD := (⟨R_Md, "goesOn", "(I)V"⟩, prog_14_method_51_code, 3, none, 5)
def m_Md_keeps : MD := (⟨R_Md, "keeps", "(I)I"⟩, prog_14_method_53_code, 3, some .int, 5)
def m_Md_just : MD := (⟨R_Md, "just", "(I)I"⟩, prog_14_method_54_code, 3, some .int, 5)
def m_Md_stuck : MD := (⟨R_Md, "stuck", "()I"⟩, prog_14_method_55_code, 5, some .int, 1)
def m_Md_order : MD := (⟨R_Md, "order", "(III)I"⟩, prog_14_method_57_code, 5, some .int, 7)
def m_Md_bestOrder : MD := (⟨R_Md, "bestOrder", "(II)I"⟩, prog_14_method_56_code, 9, some .int, 6)
def m_Md_ones : MD := (⟨R_Md, "ones", "(I)I"⟩, prog_14_method_5_code, 3, some .int, 0)
def m_Md_godfathers : MD := (⟨R_Md, "godfathers", "(II)I"⟩, prog_14_method_58_code, 12, some .int, 6)
def m_Md_peace : MD := (⟨R_Md, "peace", "()I"⟩, prog_14_method_59_code, 5, some .int, 1)
def m_Md_idle : MD := (⟨R_Md, "idle", "(IIII)I"⟩, prog_14_method_60_code, 15, some .int, 1)
def m_Md_seen : MD := (⟨R_Md, "seen", "(III)I"⟩, prog_14_method_61_code, 4, some .int, 1)
def m_Md_forget : MD := (⟨R_Md, "forget", "()I"⟩, prog_14_method_62_code, 2, some .int, 0)
def m_Md_kinds : MD := (⟨R_Md, "kinds", "()I"⟩, prog_14_method_63_code, 5, some .int, 1)
def m_Md_attempt : MD := (⟨R_Md, "attempt", "()I"⟩, prog_14_method_64_code, 9, some .int, 2)
def m_Md_register : MD := (⟨R_Md, "register", "(II)I"⟩, prog_14_method_66_code, 4, some .int, 2)
def m_Md_isRegister : MD := (⟨R_Md, "isRegister", "(I)Z"⟩, prog_14_method_65_code, 1, some .boolean, 1)
def m_Md_page : MD := (⟨R_Md, "page", "(III)I"⟩, prog_14_method_68_code, 6, some .int, 2)
def m_Md_freePage : MD := (⟨R_Md, "freePage", "()I"⟩, prog_14_method_67_code, 5, some .int, 0)
def m_Md_bind : MD := (⟨R_Md, "bind", "(IIII)I"⟩, prog_14_method_70_code, 6, some .int, 3)
def m_Md_againstTwo : MD := (⟨R_Md, "againstTwo", "(IIII)I"⟩, prog_14_method_69_code, 5, some .int, 2)
def m_Md_same : MD := (⟨R_Md, "same", "(IIII)I"⟩, prog_14_method_71_code, 6, some .int, 3)
def m_Md_enter : MD := (⟨R_Md, "enter", "(IIIII)I"⟩, prog_14_method_73_code, 8, some .int, 2)
def m_Md_againstLine : MD := (⟨R_Md, "againstLine", "(III)I"⟩, prog_14_method_72_code, 4, some .int, 1)
def m_Md_read : MD := (⟨R_Md, "read", "(IIII)I"⟩, prog_14_method_74_code, 7, some .int, 2)
def m_Md_pages : MD := (⟨R_Md, "pages", "(II)I"⟩, prog_14_method_75_code, 10, some .int, 2)
def m_Md_drop : MD := (⟨R_Md, "drop", "(I)I"⟩, prog_14_method_76_code, 3, some .int, 2)
def m_Md_count : MD := (⟨R_Md, "count", "(I)I"⟩, prog_14_method_80_code, 2, some .int, 1)
def m_Md_dead : MD := (⟨R_Md, "dead", "()I"⟩, prog_14_method_78_code, 3, some .int, 0)
def m_Md_doneAll : MD := (⟨R_Md, "doneAll", "()I"⟩, prog_14_method_79_code, 3, some .int, 0)
def m_Md_registersThere : MD := (⟨R_Md, "registersThere", "()I"⟩, prog_14_method_77_code, 3, some .int, 0)
theorem ok_Pn_init : MOk m_Pn_init := ⟨by decide +kernel, (tbG_of (tm_1 (ta 25 rfl)) rfl), (tbG_of (tm_1 (ta 1 rfl)) rfl), by decide +kernel, by decide +kernel, by decide⟩
theorem ok_Tl_init : MOk m_Tl_init := ⟨by decide +kernel, (tbG_of (tm_1 (ta 33 rfl)) rfl), (tbG_of (tm_1 (ta 2 rfl)) rfl), by decide +kernel, by decide +kernel, by decide⟩
theorem ok_Rd_init : MOk m_Rd_init := ⟨by decide +kernel, (tbG_of (tm_1 (ta 90 rfl)) rfl), (tbG_of (tm_1 (ta 3 rfl)) rfl), by decide +kernel, by decide +kernel, by decide⟩
theorem ok_St_init : MOk m_St_init := ⟨by decide +kernel, (tbG_of (tm_1 (ta 120 rfl)) rfl), (tbG_of (tm_1 (ta 4 rfl)) rfl), by decide +kernel, by decide +kernel, by decide⟩
theorem ok_Ps_init : MOk m_Ps_init := ⟨by decide +kernel, (tbG_of (tm_1 (ta 161 rfl)) rfl), (tbG_of (tm_1 (ta 5 rfl)) rfl), by decide +kernel, by decide +kernel, by decide⟩
theorem ok_Fo_init : MOk m_Fo_init := ⟨by decide +kernel, (tbG_of (tm_1 (ta 181 rfl)) rfl), (tbG_of (tm_1 (ta 6 rfl)) rfl), by decide +kernel, by decide +kernel, by decide⟩
theorem ok_Sg_init : MOk m_Sg_init := ⟨by decide +kernel, (tbG_of (tm_1 (ta 212 rfl)) rfl), (tbG_of (tm_1 (ta 7 rfl)) rfl), by decide +kernel, by decide +kernel, by decide⟩
theorem ok_Sh_init : MOk m_Sh_init := ⟨by decide +kernel, (tbG_of (tm_1 (ta 232 rfl)) rfl), (tbG_of (tm_1 (ta 8 rfl)) rfl), by decide +kernel, by decide +kernel, by decide⟩
theorem ok_Pn_write : MOk m_Pn_write := ⟨by decide +kernel, (tbG_of (tm_2 (ta 35 rfl)) rfl), (tbG_of (tm_1 (ta 1 rfl)) rfl), by decide +kernel, by decide +kernel, by decide⟩
theorem ok_Pn_isWithin : MOk m_Pn_isWithin := ⟨by decide +kernel, (tbG_of (tm_2 (ta 38 rfl)) rfl), (tbG_of (tm_1 (ta 1 rfl)) rfl), by decide +kernel, by decide +kernel, by decide⟩
theorem ok_Rd_addLetter : MOk m_Rd_addLetter := ⟨by decide +kernel, (tbG_of (tm_2 (ta 42 rfl)) rfl), (tbG_of (tm_1 (ta 3 rfl)) rfl), by decide +kernel, by decide +kernel, by decide⟩
theorem ok_Pn_erase : MOk m_Pn_erase := ⟨by decide +kernel, (tbG_of (tm_2 (ta 46 rfl)) rfl), (tbG_of (tm_1 (ta 1 rfl)) rfl), by decide +kernel, by decide +kernel, by decide⟩
theorem ok_Pn_fault : MOk m_Pn_fault := ⟨by decide +kernel, (tbG_of (tm_2 (ta 50 rfl)) rfl), (tbG_of (tm_1 (ta 1 rfl)) rfl), by decide +kernel, by decide +kernel, by decide⟩
theorem ok_Tl_copyFrom : MOk m_Tl_copyFrom := ⟨by decide +kernel, (tbG_of (tm_2 (ta 54 rfl)) rfl), (tbG_of (tm_1 (ta 2 rfl)) rfl), by decide +kernel, by decide +kernel, by decide⟩
theorem ok_Rd_readInto : MOk m_Rd_readInto := ⟨by decide +kernel, (tbG_of (tm_2 (ta 61 rfl)) rfl), (tbG_of (tm_1 (ta 3 rfl)) rfl), by decide +kernel, by decide +kernel, by decide⟩
theorem ok_Rd_toNextToken : MOk m_Rd_toNextToken := ⟨by decide +kernel, (tbG_of (tm_2 (ta 65 rfl)) rfl), (tbG_of (tm_1 (ta 3 rfl)) rfl), by decide +kernel, by decide +kernel, by decide⟩
theorem ok_Rd_isSmall : MOk m_Rd_isSmall := ⟨by decide +kernel, (tbG_of (tm_2 (ta 68 rfl)) rfl), (tbG_of (tm_1 (ta 3 rfl)) rfl), by decide +kernel, by decide +kernel, by decide⟩
theorem ok_Rd_isDigit : MOk m_Rd_isDigit := ⟨by decide +kernel, (tbG_of (tm_2 (ta 72 rfl)) rfl), (tbG_of (tm_1 (ta 3 rfl)) rfl), by decide +kernel, by decide +kernel, by decide⟩
theorem ok_Rd_passDigits : MOk m_Rd_passDigits := ⟨by decide +kernel, (tbG_of (tm_2 (ta 76 rfl)) rfl), (tbG_of (tm_1 (ta 3 rfl)) rfl), by decide +kernel, by decide +kernel, by decide⟩
theorem ok_Rd_readClause : MOk m_Rd_readClause := ⟨by decide +kernel, (tbG_of (tm_2 (ta 80 rfl)) rfl), (tbG_of (tm_1 (ta 3 rfl)) rfl), by decide +kernel, by decide +kernel, by decide⟩
theorem ok_Rd_isWord : MOk m_Rd_isWord := ⟨by decide +kernel, (tbG_of (tm_2 (ta 85 rfl)) rfl), (tbG_of (tm_1 (ta 3 rfl)) rfl), by decide +kernel, by decide +kernel, by decide⟩
theorem ok_Sr_length : MOk m_Sr_length := ⟨by decide +kernel, (tbG_of (tm_2 (ta 89 rfl)) rfl), (tbG_of (tm_1 (ta 11 rfl)) rfl), by decide +kernel, by decide +kernel, by decide⟩
theorem ok_Sr_coder : MOk m_Sr_coder := ⟨by decide +kernel, (tbG_of (tm_2 (ta 93 rfl)) rfl), (tbG_of (tm_1 (ta 11 rfl)) rfl), by decide +kernel, by decide +kernel, by decide⟩
theorem ok_Sr_charAt : MOk m_Sr_charAt := ⟨by decide +kernel, (tbG_of (tm_2 (ta 99 rfl)) rfl), (tbG_of (tm_1 (ta 11 rfl)) rfl), by decide +kernel, by decide +kernel, by decide⟩
theorem ok_Sr_isLatin1 : MOk m_Sr_isLatin1 := ⟨by decide +kernel, (tbG_of (tm_2 (ta 103 rfl)) rfl), (tbG_of (tm_1 (ta 11 rfl)) rfl), by decide +kernel, by decide +kernel, by decide⟩
theorem ok_Sl_charAt : MOk m_Sl_charAt := ⟨by decide +kernel, (tbG_of (tm_2 (ta 106 rfl)) rfl), (tbG_of (tm_1 (ta 12 rfl)) rfl), by decide +kernel, by decide +kernel, by decide⟩
theorem ok_Sr_checkIndex : MOk m_Sr_checkIndex := ⟨by decide +kernel, (tbG_of (tm_2 (ta 109 rfl)) rfl), (tbG_of (tm_1 (ta 11 rfl)) rfl), by decide +kernel, by decide +kernel, by decide⟩
theorem ok_Pr_checkIndex : MOk m_Pr_checkIndex := ⟨by decide +kernel, (tbG_of (tm_2 (ta 114 rfl)) rfl), (tbG_of (tm_1 (ta 13 rfl)) rfl), by decide +kernel, by decide +kernel, by decide⟩
theorem ok_Tl_clear : MOk m_Tl_clear := ⟨by decide +kernel, (tbG_of (tm_2 (ta 137 rfl)) rfl), (tbG_of (tm_1 (ta 2 rfl)) rfl), by decide +kernel, by decide +kernel, by decide⟩
theorem ok_Rd_readPerson : MOk m_Rd_readPerson := ⟨by decide +kernel, (tbG_of (tm_2 (ta 142 rfl)) rfl), (tbG_of (tm_1 (ta 3 rfl)) rfl), by decide +kernel, by decide +kernel, by decide⟩
theorem ok_Tl_hasRoomForPerson : MOk m_Tl_hasRoomForPerson := ⟨by decide +kernel, (tbG_of (tm_2 (ta 146 rfl)) rfl), (tbG_of (tm_1 (ta 2 rfl)) rfl), by decide +kernel, by decide +kernel, by decide⟩
theorem ok_Rd_isNumber : MOk m_Rd_isNumber := ⟨by decide +kernel, (tbG_of (tm_2 (ta 150 rfl)) rfl), (tbG_of (tm_1 (ta 3 rfl)) rfl), by decide +kernel, by decide +kernel, by decide⟩
theorem ok_Rd_takeNumber : MOk m_Rd_takeNumber := ⟨by decide +kernel, (tbG_of (tm_2 (ta 154 rfl)) rfl), (tbG_of (tm_1 (ta 3 rfl)) rfl), by decide +kernel, by decide +kernel, by decide⟩
theorem ok_Tl_addPerson : MOk m_Tl_addPerson := ⟨by decide +kernel, (tbG_of (tm_2 (ta 158 rfl)) rfl), (tbG_of (tm_1 (ta 2 rfl)) rfl), by decide +kernel, by decide +kernel, by decide⟩
theorem ok_Rd_readStrife : MOk m_Rd_readStrife := ⟨by decide +kernel, (tbG_of (tm_2 (ta 164 rfl)) rfl), (tbG_of (tm_1 (ta 3 rfl)) rfl), by decide +kernel, by decide +kernel, by decide⟩
theorem ok_Tl_addStrife : MOk m_Tl_addStrife := ⟨by decide +kernel, (tbG_of (tm_2 (ta 168 rfl)) rfl), (tbG_of (tm_1 (ta 2 rfl)) rfl), by decide +kernel, by decide +kernel, by decide⟩
theorem ok_Rd_kindByWord : MOk m_Rd_kindByWord := ⟨by decide +kernel, (tbG_of (tm_2 (ta 172 rfl)) rfl), (tbG_of (tm_1 (ta 3 rfl)) rfl), by decide +kernel, by decide +kernel, by decide⟩
theorem ok_Rd_readPromise : MOk m_Rd_readPromise := ⟨by decide +kernel, (tbG_of (tm_2 (ta 181 rfl)) rfl), (tbG_of (tm_1 (ta 3 rfl)) rfl), by decide +kernel, by decide +kernel, by decide⟩
theorem ok_Tl_hasRoomForPromise : MOk m_Tl_hasRoomForPromise := ⟨by decide +kernel, (tbG_of (tm_2 (ta 185 rfl)) rfl), (tbG_of (tm_1 (ta 2 rfl)) rfl), by decide +kernel, by decide +kernel, by decide⟩
theorem ok_Rd_needsByWord : MOk m_Rd_needsByWord := ⟨by decide +kernel, (tbG_of (tm_2 (ta 189 rfl)) rfl), (tbG_of (tm_1 (ta 3 rfl)) rfl), by decide +kernel, by decide +kernel, by decide⟩
theorem ok_Tl_addPromise : MOk m_Tl_addPromise := ⟨by decide +kernel, (tbG_of (tm_2 (ta 193 rfl)) rfl), (tbG_of (tm_1 (ta 2 rfl)) rfl), by decide +kernel, by decide +kernel, by decide⟩
theorem ok_Rd_isSign : MOk m_Rd_isSign := ⟨by decide +kernel, (tbG_of (tm_2 (ta 198 rfl)) rfl), (tbG_of (tm_1 (ta 3 rfl)) rfl), by decide +kernel, by decide +kernel, by decide⟩
theorem ok_Pn_parish : MOk m_Pn_parish := ⟨by decide +kernel, (tbG_of (tm_2 (ta 203 rfl)) rfl), (tbG_of (tm_1 (ta 1 rfl)) rfl), by decide +kernel, by decide +kernel, by decide⟩
theorem ok_Pn_beginAnew : MOk m_Pn_beginAnew := ⟨by decide +kernel, (tbG_of (tm_2 (ta 207 rfl)) rfl), (tbG_of (tm_1 (ta 1 rfl)) rfl), by decide +kernel, by decide +kernel, by decide⟩
theorem ok_St_setAsTold : MOk m_St_setAsTold := ⟨by decide +kernel, (tbG_of (tm_2 (ta 211 rfl)) rfl), (tbG_of (tm_1 (ta 4 rfl)) rfl), by decide +kernel, by decide +kernel, by decide⟩
theorem ok_Sh_clear : MOk m_Sh_clear := ⟨by decide +kernel, (tbG_of (tm_2 (ta 216 rfl)) rfl), (tbG_of (tm_1 (ta 8 rfl)) rfl), by decide +kernel, by decide +kernel, by decide⟩
theorem ok_Pn_person : MOk m_Pn_person := ⟨by decide +kernel, (tbG_of (tm_2 (ta 220 rfl)) rfl), (tbG_of (tm_1 (ta 1 rfl)) rfl), by decide +kernel, by decide +kernel, by decide⟩
theorem ok_Pn_isPerson : MOk m_Pn_isPerson := ⟨by decide +kernel, (tbG_of (tm_2 (ta 224 rfl)) rfl), (tbG_of (tm_1 (ta 1 rfl)) rfl), by decide +kernel, by decide +kernel, by decide⟩
theorem ok_St_howManyHeldBy : MOk m_St_howManyHeldBy := ⟨by decide +kernel, (tbG_of (tm_2 (ta 228 rfl)) rfl), (tbG_of (tm_1 (ta 4 rfl)) rfl), by decide +kernel, by decide +kernel, by decide⟩
theorem ok_Pn_holds : MOk m_Pn_holds := ⟨by decide +kernel, (tbG_of (tm_2 (ta 232 rfl)) rfl), (tbG_of (tm_1 (ta 1 rfl)) rfl), by decide +kernel, by decide +kernel, by decide⟩
theorem ok_St_heldAt : MOk m_St_heldAt := ⟨by decide +kernel, (tbG_of (tm_2 (ta 236 rfl)) rfl), (tbG_of (tm_1 (ta 4 rfl)) rfl), by decide +kernel, by decide +kernel, by decide⟩
theorem ok_Pn_promise : MOk m_Pn_promise := ⟨by decide +kernel, (tbG_of (tm_3 (ta 0 rfl)) rfl), (tbG_of (tm_1 (ta 1 rfl)) rfl), by decide +kernel, by decide +kernel, by decide⟩
theorem ok_Pn_isPromise : MOk m_Pn_isPromise := ⟨by decide +kernel, (tbG_of (tm_3 (ta 4 rfl)) rfl), (tbG_of (tm_1 (ta 1 rfl)) rfl), by decide +kernel, by decide +kernel, by decide⟩
theorem ok_St_isOpen : MOk m_St_isOpen := ⟨by decide +kernel, (tbG_of (tm_3 (ta 8 rfl)) rfl), (tbG_of (tm_1 (ta 4 rfl)) rfl), by decide +kernel, by decide +kernel, by decide⟩
theorem ok_Kd_canBeWorkedAt : MOk m_Kd_canBeWorkedAt := ⟨by decide +kernel, (tbG_of (tm_3 (ta 11 rfl)) rfl), (tbG_of (tm_1 (ta 15 rfl)) rfl), by decide +kernel, by decide +kernel, by decide⟩
theorem ok_Pn_as : MOk m_Pn_as := ⟨by decide +kernel, (tbG_of (tm_3 (ta 15 rfl)) rfl), (tbG_of (tm_1 (ta 1 rfl)) rfl), by decide +kernel, by decide +kernel, by decide⟩
theorem ok_Kd_isUnder : MOk m_Kd_isUnder := ⟨by decide +kernel, (tbG_of (tm_3 (ta 18 rfl)) rfl), (tbG_of (tm_1 (ta 15 rfl)) rfl), by decide +kernel, by decide +kernel, by decide⟩
theorem ok_Kd_does : MOk m_Kd_does := ⟨by decide +kernel, (tbG_of (tm_3 (ta 21 rfl)) rfl), (tbG_of (tm_1 (ta 15 rfl)) rfl), by decide +kernel, by decide +kernel, by decide⟩
theorem ok_Pn_year : MOk m_Pn_year := ⟨by decide +kernel, (tbG_of (tm_3 (ta 25 rfl)) rfl), (tbG_of (tm_1 (ta 1 rfl)) rfl), by decide +kernel, by decide +kernel, by decide⟩
theorem ok_Ps_remember : MOk m_Ps_remember := ⟨by decide +kernel, (tbG_of (tm_3 (ta 29 rfl)) rfl), (tbG_of (tm_1 (ta 5 rfl)) rfl), by decide +kernel, by decide +kernel, by decide⟩
theorem ok_St_copyFrom : MOk m_St_copyFrom := ⟨by decide +kernel, (tbG_of (tm_3 (ta 33 rfl)) rfl), (tbG_of (tm_1 (ta 4 rfl)) rfl), by decide +kernel, by decide +kernel, by decide⟩
theorem ok_St_passYears : MOk m_St_passYears := ⟨by decide +kernel, (tbG_of (tm_3 (ta 40 rfl)) rfl), (tbG_of (tm_1 (ta 4 rfl)) rfl), by decide +kernel, by decide +kernel, by decide⟩
theorem ok_St_workAll : MOk m_St_workAll := ⟨by decide +kernel, (tbG_of (tm_3 (ta 44 rfl)) rfl), (tbG_of (tm_1 (ta 4 rfl)) rfl), by decide +kernel, by decide +kernel, by decide⟩
theorem ok_St_workAt : MOk m_St_workAt := ⟨by decide +kernel, (tbG_of (tm_3 (ta 50 rfl)) rfl), (tbG_of (tm_1 (ta 4 rfl)) rfl), by decide +kernel, by decide +kernel, by decide⟩
theorem ok_St_markKept : MOk m_St_markKept := ⟨by decide +kernel, (tbG_of (tm_3 (ta 55 rfl)) rfl), (tbG_of (tm_1 (ta 4 rfl)) rfl), by decide +kernel, by decide +kernel, by decide⟩
theorem ok_St_ageAll : MOk m_St_ageAll := ⟨by decide +kernel, (tbG_of (tm_3 (ta 59 rfl)) rfl), (tbG_of (tm_1 (ta 4 rfl)) rfl), by decide +kernel, by decide +kernel, by decide⟩
theorem ok_St_leaveAll : MOk m_St_leaveAll := ⟨by decide +kernel, (tbG_of (tm_3 (ta 63 rfl)) rfl), (tbG_of (tm_1 (ta 4 rfl)) rfl), by decide +kernel, by decide +kernel, by decide⟩
theorem ok_St_whoInherits : MOk m_St_whoInherits := ⟨by decide +kernel, (tbG_of (tm_3 (ta 67 rfl)) rfl), (tbG_of (tm_1 (ta 4 rfl)) rfl), by decide +kernel, by decide +kernel, by decide⟩
theorem ok_Kd_isKeptByDeath : MOk m_Kd_isKeptByDeath := ⟨by decide +kernel, (tbG_of (tm_3 (ta 70 rfl)) rfl), (tbG_of (tm_1 (ta 15 rfl)) rfl), by decide +kernel, by decide +kernel, by decide⟩
theorem ok_St_moveToEnd : MOk m_St_moveToEnd := ⟨by decide +kernel, (tbG_of (tm_3 (ta 74 rfl)) rfl), (tbG_of (tm_1 (ta 4 rfl)) rfl), by decide +kernel, by decide +kernel, by decide⟩
theorem ok_Pn_give : MOk m_Pn_give := ⟨by decide +kernel, (tbG_of (tm_3 (ta 78 rfl)) rfl), (tbG_of (tm_1 (ta 1 rfl)) rfl), by decide +kernel, by decide +kernel, by decide⟩
theorem ok_St_handOver : MOk m_St_handOver := ⟨by decide +kernel, (tbG_of (tm_3 (ta 82 rfl)) rfl), (tbG_of (tm_1 (ta 4 rfl)) rfl), by decide +kernel, by decide +kernel, by decide⟩
theorem ok_St_placeOf : MOk m_St_placeOf := ⟨by decide +kernel, (tbG_of (tm_3 (ta 86 rfl)) rfl), (tbG_of (tm_1 (ta 4 rfl)) rfl), by decide +kernel, by decide +kernel, by decide⟩
theorem ok_Pn_shorten : MOk m_Pn_shorten := ⟨by decide +kernel, (tbG_of (tm_3 (ta 90 rfl)) rfl), (tbG_of (tm_1 (ta 1 rfl)) rfl), by decide +kernel, by decide +kernel, by decide⟩
theorem ok_Pn_ahead : MOk m_Pn_ahead := ⟨by decide +kernel, (tbG_of (tm_3 (ta 94 rfl)) rfl), (tbG_of (tm_1 (ta 1 rfl)) rfl), by decide +kernel, by decide +kernel, by decide⟩
theorem ok_St_rankOf : MOk m_St_rankOf := ⟨by decide +kernel, (tbG_of (tm_3 (ta 98 rfl)) rfl), (tbG_of (tm_1 (ta 4 rfl)) rfl), by decide +kernel, by decide +kernel, by decide⟩
theorem ok_St_putFirst : MOk m_St_putFirst := ⟨by decide +kernel, (tbG_of (tm_3 (ta 102 rfl)) rfl), (tbG_of (tm_1 (ta 4 rfl)) rfl), by decide +kernel, by decide +kernel, by decide⟩
theorem ok_Pn_undo : MOk m_Pn_undo := ⟨by decide +kernel, (tbG_of (tm_3 (ta 106 rfl)) rfl), (tbG_of (tm_1 (ta 1 rfl)) rfl), by decide +kernel, by decide +kernel, by decide⟩
theorem ok_Ps_restoreLatest : MOk m_Ps_restoreLatest := ⟨by decide +kernel, (tbG_of (tm_3 (ta 110 rfl)) rfl), (tbG_of (tm_1 (ta 5 rfl)) rfl), by decide +kernel, by decide +kernel, by decide⟩
theorem ok_Pn_keep : MOk m_Pn_keep := ⟨by decide +kernel, (tbG_of (tm_3 (ta 114 rfl)) rfl), (tbG_of (tm_1 (ta 1 rfl)) rfl), by decide +kernel, by decide +kernel, by decide⟩
theorem ok_Pn_back : MOk m_Pn_back := ⟨by decide +kernel, (tbG_of (tm_3 (ta 119 rfl)) rfl), (tbG_of (tm_1 (ta 1 rfl)) rfl), by decide +kernel, by decide +kernel, by decide⟩
theorem ok_Pn_behind : MOk m_Pn_behind := ⟨by decide +kernel, (tbG_of (tm_3 (ta 123 rfl)) rfl), (tbG_of (tm_1 (ta 1 rfl)) rfl), by decide +kernel, by decide +kernel, by decide⟩
theorem ok_Fo_stateBehind : MOk m_Fo_stateBehind := ⟨by decide +kernel, (tbG_of (tm_3 (ta 127 rfl)) rfl), (tbG_of (tm_1 (ta 6 rfl)) rfl), by decide +kernel, by decide +kernel, by decide⟩
theorem ok_Pn_keeps : MOk m_Pn_keeps := ⟨by decide +kernel, (tbG_of (tm_3 (ta 133 rfl)) rfl), (tbG_of (tm_1 (ta 1 rfl)) rfl), by decide +kernel, by decide +kernel, by decide⟩
theorem ok_Fo_yearsUntilKept : MOk m_Fo_yearsUntilKept := ⟨by decide +kernel, (tbG_of (tm_3 (ta 137 rfl)) rfl), (tbG_of (tm_1 (ta 6 rfl)) rfl), by decide +kernel, by decide +kernel, by decide⟩
theorem ok_Pn_just : MOk m_Pn_just := ⟨by decide +kernel, (tbG_of (tm_3 (ta 141 rfl)) rfl), (tbG_of (tm_1 (ta 1 rfl)) rfl), by decide +kernel, by decide +kernel, by decide⟩
theorem ok_Fo_yearsUntilFree : MOk m_Fo_yearsUntilFree := ⟨by decide +kernel, (tbG_of (tm_3 (ta 145 rfl)) rfl), (tbG_of (tm_1 (ta 6 rfl)) rfl), by decide +kernel, by decide +kernel, by decide⟩
theorem ok_Pn_stuck : MOk m_Pn_stuck := ⟨by decide +kernel, (tbG_of (tm_3 (ta 150 rfl)) rfl), (tbG_of (tm_1 (ta 1 rfl)) rfl), by decide +kernel, by decide +kernel, by decide⟩
theorem ok_St_neverKept : MOk m_St_neverKept := ⟨by decide +kernel, (tbG_of (tm_3 (ta 154 rfl)) rfl), (tbG_of (tm_1 (ta 4 rfl)) rfl), by decide +kernel, by decide +kernel, by decide⟩
theorem ok_Pn_order : MOk m_Pn_order := ⟨by decide +kernel, (tbG_of (tm_3 (ta 158 rfl)) rfl), (tbG_of (tm_1 (ta 1 rfl)) rfl), by decide +kernel, by decide +kernel, by decide⟩
theorem ok_Fo_findBestOrder : MOk m_Fo_findBestOrder := ⟨by decide +kernel, (tbG_of (tm_3 (ta 162 rfl)) rfl), (tbG_of (tm_1 (ta 6 rfl)) rfl), by decide +kernel, by decide +kernel, by decide⟩
theorem ok_Fo_findPlaces : MOk m_Fo_findPlaces := ⟨by decide +kernel, (tbG_of (tm_3 (ta 166 rfl)) rfl), (tbG_of (tm_1 (ta 6 rfl)) rfl), by decide +kernel, by decide +kernel, by decide⟩
theorem ok_Fo_weighTrial : MOk m_Fo_weighTrial := ⟨by decide +kernel, (tbG_of (tm_3 (ta 170 rfl)) rfl), (tbG_of (tm_1 (ta 6 rfl)) rfl), by decide +kernel, by decide +kernel, by decide⟩
theorem ok_In_bitCount : MOk m_In_bitCount := ⟨by decide +kernel, (tbG_of (tm_3 (ta 173 rfl)) rfl), (tbG_of (tm_1 (ta 17 rfl)) rfl), by decide +kernel, by decide +kernel, by decide⟩
theorem ok_Fo_toNextOrder : MOk m_Fo_toNextOrder := ⟨by decide +kernel, (tbG_of (tm_3 (ta 181 rfl)) rfl), (tbG_of (tm_1 (ta 6 rfl)) rfl), by decide +kernel, by decide +kernel, by decide⟩
theorem ok_Fo_swapTried : MOk m_Fo_swapTried := ⟨by decide +kernel, (tbG_of (tm_3 (ta 185 rfl)) rfl), (tbG_of (tm_1 (ta 6 rfl)) rfl), by decide +kernel, by decide +kernel, by decide⟩
theorem ok_Fo_answerAt : MOk m_Fo_answerAt := ⟨by decide +kernel, (tbG_of (tm_3 (ta 189 rfl)) rfl), (tbG_of (tm_1 (ta 6 rfl)) rfl), by decide +kernel, by decide +kernel, by decide⟩
theorem ok_Pn_godfathers : MOk m_Pn_godfathers := ⟨by decide +kernel, (tbG_of (tm_3 (ta 194 rfl)) rfl), (tbG_of (tm_1 (ta 1 rfl)) rfl), by decide +kernel, by decide +kernel, by decide⟩
theorem ok_Fo_findBestGodfathers : MOk m_Fo_findBestGodfathers := ⟨by decide +kernel, (tbG_of (tm_3 (ta 198 rfl)) rfl), (tbG_of (tm_1 (ta 6 rfl)) rfl), by decide +kernel, by decide +kernel, by decide⟩
theorem ok_Fo_chooseWay : MOk m_Fo_chooseWay := ⟨by decide +kernel, (tbG_of (tm_3 (ta 203 rfl)) rfl), (tbG_of (tm_1 (ta 6 rfl)) rfl), by decide +kernel, by decide +kernel, by decide⟩
theorem ok_Fo_areChosenAlive : MOk m_Fo_areChosenAlive := ⟨by decide +kernel, (tbG_of (tm_3 (ta 207 rfl)) rfl), (tbG_of (tm_1 (ta 6 rfl)) rfl), by decide +kernel, by decide +kernel, by decide⟩
theorem ok_Fo_giveAsChosen : MOk m_Fo_giveAsChosen := ⟨by decide +kernel, (tbG_of (tm_3 (ta 211 rfl)) rfl), (tbG_of (tm_1 (ta 6 rfl)) rfl), by decide +kernel, by decide +kernel, by decide⟩
theorem ok_Pn_peace : MOk m_Pn_peace := ⟨by decide +kernel, (tbG_of (tm_3 (ta 217 rfl)) rfl), (tbG_of (tm_1 (ta 1 rfl)) rfl), by decide +kernel, by decide +kernel, by decide⟩
theorem ok_Tl_largestPeacefulSet : MOk m_Tl_largestPeacefulSet := ⟨by decide +kernel, (tbG_of (tm_3 (ta 221 rfl)) rfl), (tbG_of (tm_1 (ta 2 rfl)) rfl), by decide +kernel, by decide +kernel, by decide⟩
theorem ok_Tl_isPeaceful : MOk m_Tl_isPeaceful := ⟨by decide +kernel, (tbG_of (tm_3 (ta 226 rfl)) rfl), (tbG_of (tm_1 (ta 2 rfl)) rfl), by decide +kernel, by decide +kernel, by decide⟩
theorem ok_Pn_idle : MOk m_Pn_idle := ⟨by decide +kernel, (tbG_of (tm_3 (ta 230 rfl)) rfl), (tbG_of (tm_1 (ta 1 rfl)) rfl), by decide +kernel, by decide +kernel, by decide⟩
theorem ok_Od_partOf : MOk m_Od_partOf := ⟨by decide +kernel, (tbG_of (tm_3 (ta 233 rfl)) rfl), (tbG_of (tm_1 (ta 18 rfl)) rfl), by decide +kernel, by decide +kernel, by decide⟩
theorem ok_Od_choices : MOk m_Od_choices := ⟨by decide +kernel, (tbG_of (tm_3 (ta 236 rfl)) rfl), (tbG_of (tm_1 (ta 18 rfl)) rfl), by decide +kernel, by decide +kernel, by decide⟩
theorem ok_Od_power : MOk m_Od_power := ⟨by decide +kernel, (tbG_of (tm_3 (ta 239 rfl)) rfl), (tbG_of (tm_1 (ta 18 rfl)) rfl), by decide +kernel, by decide +kernel, by decide⟩
theorem ok_Od_commonDivisor : MOk m_Od_commonDivisor := ⟨by decide +kernel, (tbG_of (tm_4 (ta 2 rfl)) rfl), (tbG_of (tm_1 (ta 18 rfl)) rfl), by decide +kernel, by decide +kernel, by decide⟩
theorem ok_Pn_seen : MOk m_Pn_seen := ⟨by decide +kernel, (tbG_of (tm_4 (ta 6 rfl)) rfl), (tbG_of (tm_1 (ta 1 rfl)) rfl), by decide +kernel, by decide +kernel, by decide⟩
theorem ok_Sg_add : MOk m_Sg_add := ⟨by decide +kernel, (tbG_of (tm_4 (ta 10 rfl)) rfl), (tbG_of (tm_1 (ta 7 rfl)) rfl), by decide +kernel, by decide +kernel, by decide⟩
theorem ok_Pn_forget : MOk m_Pn_forget := ⟨by decide +kernel, (tbG_of (tm_4 (ta 14 rfl)) rfl), (tbG_of (tm_1 (ta 1 rfl)) rfl), by decide +kernel, by decide +kernel, by decide⟩
theorem ok_Pn_kinds : MOk m_Pn_kinds := ⟨by decide +kernel, (tbG_of (tm_4 (ta 18 rfl)) rfl), (tbG_of (tm_1 (ta 1 rfl)) rfl), by decide +kernel, by decide +kernel, by decide⟩
theorem ok_Sg_possibleKinds : MOk m_Sg_possibleKinds := ⟨by decide +kernel, (tbG_of (tm_4 (ta 22 rfl)) rfl), (tbG_of (tm_1 (ta 7 rfl)) rfl), by decide +kernel, by decide +kernel, by decide⟩
theorem ok_Sg_fitsAll : MOk m_Sg_fitsAll := ⟨by decide +kernel, (tbG_of (tm_4 (ta 26 rfl)) rfl), (tbG_of (tm_1 (ta 7 rfl)) rfl), by decide +kernel, by decide +kernel, by decide⟩
theorem ok_Pn_attempt : MOk m_Pn_attempt := ⟨by decide +kernel, (tbG_of (tm_4 (ta 31 rfl)) rfl), (tbG_of (tm_1 (ta 1 rfl)) rfl), by decide +kernel, by decide +kernel, by decide⟩
theorem ok_Sg_bestStrength : MOk m_Sg_bestStrength := ⟨by decide +kernel, (tbG_of (tm_4 (ta 34 rfl)) rfl), (tbG_of (tm_1 (ta 7 rfl)) rfl), by decide +kernel, by decide +kernel, by decide⟩
theorem ok_Sg_greatestAlike : MOk m_Sg_greatestAlike := ⟨by decide +kernel, (tbG_of (tm_4 (ta 38 rfl)) rfl), (tbG_of (tm_1 (ta 7 rfl)) rfl), by decide +kernel, by decide +kernel, by decide⟩
theorem ok_Pn_register : MOk m_Pn_register := ⟨by decide +kernel, (tbG_of (tm_4 (ta 45 rfl)) rfl), (tbG_of (tm_1 (ta 1 rfl)) rfl), by decide +kernel, by decide +kernel, by decide⟩
theorem ok_Pn_isRegister : MOk m_Pn_isRegister := ⟨by decide +kernel, (tbG_of (tm_4 (ta 48 rfl)) rfl), (tbG_of (tm_1 (ta 1 rfl)) rfl), by decide +kernel, by decide +kernel, by decide⟩
theorem ok_Rg_init : MOk m_Rg_init := ⟨by decide +kernel, (tbG_of (tm_4 (ta 53 rfl)) rfl), (tbG_of (tm_1 (ta 19 rfl)) rfl), by decide +kernel, by decide +kernel, by decide⟩
theorem ok_Pn_page : MOk m_Pn_page := ⟨by decide +kernel, (tbG_of (tm_4 (ta 67 rfl)) rfl), (tbG_of (tm_1 (ta 1 rfl)) rfl), by decide +kernel, by decide +kernel, by decide⟩
theorem ok_Rg_hasPlace : MOk m_Rg_hasPlace := ⟨by decide +kernel, (tbG_of (tm_4 (ta 71 rfl)) rfl), (tbG_of (tm_1 (ta 19 rfl)) rfl), by decide +kernel, by decide +kernel, by decide⟩
theorem ok_Pg_init : MOk m_Pg_init := ⟨by decide +kernel, (tbG_of (tm_4 (ta 77 rfl)) rfl), (tbG_of (tm_1 (ta 20 rfl)) rfl), by decide +kernel, by decide +kernel, by decide⟩
theorem ok_Pn_bind : MOk m_Pn_bind := ⟨by decide +kernel, (tbG_of (tm_4 (ta 93 rfl)) rfl), (tbG_of (tm_1 (ta 1 rfl)) rfl), by decide +kernel, by decide +kernel, by decide⟩
theorem ok_Sh_flawOfPlaces : MOk m_Sh_flawOfPlaces := ⟨by decide +kernel, (tbG_of (tm_4 (ta 97 rfl)) rfl), (tbG_of (tm_1 (ta 8 rfl)) rfl), by decide +kernel, by decide +kernel, by decide⟩
theorem ok_Pn_same : MOk m_Pn_same := ⟨by decide +kernel, (tbG_of (tm_4 (ta 102 rfl)) rfl), (tbG_of (tm_1 (ta 1 rfl)) rfl), by decide +kernel, by decide +kernel, by decide⟩
theorem ok_Pn_enter : MOk m_Pn_enter := ⟨by decide +kernel, (tbG_of (tm_4 (ta 106 rfl)) rfl), (tbG_of (tm_1 (ta 1 rfl)) rfl), by decide +kernel, by decide +kernel, by decide⟩
theorem ok_Sh_flawOfLine : MOk m_Sh_flawOfLine := ⟨by decide +kernel, (tbG_of (tm_4 (ta 110 rfl)) rfl), (tbG_of (tm_1 (ta 8 rfl)) rfl), by decide +kernel, by decide +kernel, by decide⟩
theorem ok_Pg_put : MOk m_Pg_put := ⟨by decide +kernel, (tbG_of (tm_4 (ta 116 rfl)) rfl), (tbG_of (tm_1 (ta 20 rfl)) rfl), by decide +kernel, by decide +kernel, by decide⟩
theorem ok_Pn_read : MOk m_Pn_read := ⟨by decide +kernel, (tbG_of (tm_4 (ta 120 rfl)) rfl), (tbG_of (tm_1 (ta 1 rfl)) rfl), by decide +kernel, by decide +kernel, by decide⟩
theorem ok_Pn_pages : MOk m_Pn_pages := ⟨by decide +kernel, (tbG_of (tm_4 (ta 125 rfl)) rfl), (tbG_of (tm_1 (ta 1 rfl)) rfl), by decide +kernel, by decide +kernel, by decide⟩
theorem ok_Rg_pagesThere : MOk m_Rg_pagesThere := ⟨by decide +kernel, (tbG_of (tm_4 (ta 129 rfl)) rfl), (tbG_of (tm_1 (ta 19 rfl)) rfl), by decide +kernel, by decide +kernel, by decide⟩
theorem ok_Rg_unlikePages : MOk m_Rg_unlikePages := ⟨by decide +kernel, (tbG_of (tm_4 (ta 133 rfl)) rfl), (tbG_of (tm_1 (ta 19 rfl)) rfl), by decide +kernel, by decide +kernel, by decide⟩
theorem ok_Rg_isFirstOfItsPage : MOk m_Rg_isFirstOfItsPage := ⟨by decide +kernel, (tbG_of (tm_4 (ta 137 rfl)) rfl), (tbG_of (tm_1 (ta 19 rfl)) rfl), by decide +kernel, by decide +kernel, by decide⟩
theorem ok_Rg_filledLines : MOk m_Rg_filledLines := ⟨by decide +kernel, (tbG_of (tm_4 (ta 141 rfl)) rfl), (tbG_of (tm_1 (ta 19 rfl)) rfl), by decide +kernel, by decide +kernel, by decide⟩
theorem ok_Pg_filled : MOk m_Pg_filled := ⟨by decide +kernel, (tbG_of (tm_4 (ta 145 rfl)) rfl), (tbG_of (tm_1 (ta 20 rfl)) rfl), by decide +kernel, by decide +kernel, by decide⟩
theorem ok_Pn_drop : MOk m_Pn_drop := ⟨by decide +kernel, (tbG_of (tm_4 (ta 149 rfl)) rfl), (tbG_of (tm_1 (ta 1 rfl)) rfl), by decide +kernel, by decide +kernel, by decide⟩
theorem ok_Pn_count : MOk m_Pn_count := ⟨by decide +kernel, (tbG_of (tm_4 (ta 153 rfl)) rfl), (tbG_of (tm_1 (ta 1 rfl)) rfl), by decide +kernel, by decide +kernel, by decide⟩
theorem ok_St_deadOnes : MOk m_St_deadOnes := ⟨by decide +kernel, (tbG_of (tm_4 (ta 157 rfl)) rfl), (tbG_of (tm_1 (ta 4 rfl)) rfl), by decide +kernel, by decide +kernel, by decide⟩
theorem ok_St_allDone : MOk m_St_allDone := ⟨by decide +kernel, (tbG_of (tm_4 (ta 161 rfl)) rfl), (tbG_of (tm_1 (ta 4 rfl)) rfl), by decide +kernel, by decide +kernel, by decide⟩
theorem ok_Sh_registersThere : MOk m_Sh_registersThere := ⟨by decide +kernel, (tbG_of (tm_4 (ta 165 rfl)) rfl), (tbG_of (tm_1 (ta 8 rfl)) rfl), by decide +kernel, by decide +kernel, by decide⟩
theorem ok_Md_init : MOk m_Md_init := ⟨by decide +kernel, (tbG_of (tm_4 (ta 170 rfl)) rfl), (tbG_of (tm_1 (ta 9 rfl)) rfl), by decide +kernel, by decide +kernel, by decide⟩
theorem ok_Md_write : MOk m_Md_write := ⟨by decide +kernel, (tbG_of (tm_5 (ta 71 rfl)) rfl), (tbG_of (tm_1 (ta 9 rfl)) rfl), by decide +kernel, by decide +kernel, by decide⟩
theorem ok_Md_in : MOk m_Md_in := ⟨by decide +kernel, (tbG_of (tm_5 (ta 75 rfl)) rfl), (tbG_of (tm_1 (ta 9 rfl)) rfl), by decide +kernel, by decide +kernel, by decide⟩
theorem ok_Md_erase : MOk m_Md_erase := ⟨by decide +kernel, (tbG_of (tm_5 (ta 79 rfl)) rfl), (tbG_of (tm_1 (ta 9 rfl)) rfl), by decide +kernel, by decide +kernel, by decide⟩
theorem ok_Md_fault : MOk m_Md_fault := ⟨by decide +kernel, (tbG_of (tm_5 (ta 83 rfl)) rfl), (tbG_of (tm_1 (ta 9 rfl)) rfl), by decide +kernel, by decide +kernel, by decide⟩
theorem ok_Md_readsAll : MOk m_Md_readsAll := ⟨by decide +kernel, (tbG_of (tm_5 (ta 87 rfl)) rfl), (tbG_of (tm_1 (ta 9 rfl)) rfl), by decide +kernel, by decide +kernel, by decide⟩
theorem ok_Md_tellsAll : MOk m_Md_tellsAll := ⟨by decide +kernel, (tbG_of (tm_5 (ta 91 rfl)) rfl), (tbG_of (tm_1 (ta 9 rfl)) rfl), by decide +kernel, by decide +kernel, by decide⟩
theorem ok_Md_looks : MOk m_Md_looks := ⟨by decide +kernel, (tbG_of (tm_5 (ta 95 rfl)) rfl), (tbG_of (tm_1 (ta 9 rfl)) rfl), by decide +kernel, by decide +kernel, by decide⟩
theorem ok_Md_sortOf : MOk m_Md_sortOf := ⟨by decide +kernel, (tbG_of (tm_5 (ta 98 rfl)) rfl), (tbG_of (tm_1 (ta 9 rfl)) rfl), by decide +kernel, by decide +kernel, by decide⟩
theorem ok_Md_takesClause : MOk m_Md_takesClause := ⟨by decide +kernel, (tbG_of (tm_5 (ta 106 rfl)) rfl), (tbG_of (tm_1 (ta 9 rfl)) rfl), by decide +kernel, by decide +kernel, by decide⟩
theorem ok_Md_wordAtHand : MOk m_Md_wordAtHand := ⟨by decide +kernel, (tbG_of (tm_5 (ta 110 rfl)) rfl), (tbG_of (tm_1 (ta 9 rfl)) rfl), by decide +kernel, by decide +kernel, by decide⟩
theorem ok_Md_isWord : MOk m_Md_isWord := ⟨by decide +kernel, (tbG_of (tm_5 (ta 115 rfl)) rfl), (tbG_of (tm_1 (ta 9 rfl)) rfl), by decide +kernel, by decide +kernel, by decide⟩
theorem ok_Md_takesPromise : MOk m_Md_takesPromise := ⟨by decide +kernel, (tbG_of (tm_5 (ta 126 rfl)) rfl), (tbG_of (tm_1 (ta 9 rfl)) rfl), by decide +kernel, by decide +kernel, by decide⟩
theorem ok_Md_passesToken : MOk m_Md_passesToken := ⟨by decide +kernel, (tbG_of (tm_5 (ta 130 rfl)) rfl), (tbG_of (tm_1 (ta 9 rfl)) rfl), by decide +kernel, by decide +kernel, by decide⟩
theorem ok_Md_takesNumber : MOk m_Md_takesNumber := ⟨by decide +kernel, (tbG_of (tm_5 (ta 134 rfl)) rfl), (tbG_of (tm_1 (ta 9 rfl)) rfl), by decide +kernel, by decide +kernel, by decide⟩
theorem ok_Md_takesNeeds : MOk m_Md_takesNeeds := ⟨by decide +kernel, (tbG_of (tm_5 (ta 138 rfl)) rfl), (tbG_of (tm_1 (ta 9 rfl)) rfl), by decide +kernel, by decide +kernel, by decide⟩
theorem ok_Md_takesMan : MOk m_Md_takesMan := ⟨by decide +kernel, (tbG_of (tm_5 (ta 142 rfl)) rfl), (tbG_of (tm_1 (ta 9 rfl)) rfl), by decide +kernel, by decide +kernel, by decide⟩
theorem ok_Md_takesStrife : MOk m_Md_takesStrife := ⟨by decide +kernel, (tbG_of (tm_5 (ta 146 rfl)) rfl), (tbG_of (tm_1 (ta 9 rfl)) rfl), by decide +kernel, by decide +kernel, by decide⟩
theorem ok_Md_takesParish : MOk m_Md_takesParish := ⟨by decide +kernel, (tbG_of (tm_5 (ta 150 rfl)) rfl), (tbG_of (tm_1 (ta 9 rfl)) rfl), by decide +kernel, by decide +kernel, by decide⟩
theorem ok_Md_parish : MOk m_Md_parish := ⟨by decide +kernel, (tbG_of (tm_5 (ta 154 rfl)) rfl), (tbG_of (tm_1 (ta 9 rfl)) rfl), by decide +kernel, by decide +kernel, by decide⟩
theorem ok_Md_begins : MOk m_Md_begins := ⟨by decide +kernel, (tbG_of (tm_5 (ta 158 rfl)) rfl), (tbG_of (tm_1 (ta 9 rfl)) rfl), by decide +kernel, by decide +kernel, by decide⟩
theorem ok_Md_joins : MOk m_Md_joins := ⟨by decide +kernel, (tbG_of (tm_5 (ta 162 rfl)) rfl), (tbG_of (tm_1 (ta 9 rfl)) rfl), by decide +kernel, by decide +kernel, by decide⟩
theorem ok_Md_person : MOk m_Md_person := ⟨by decide +kernel, (tbG_of (tm_5 (ta 166 rfl)) rfl), (tbG_of (tm_1 (ta 9 rfl)) rfl), by decide +kernel, by decide +kernel, by decide⟩
theorem ok_Md_isPerson : MOk m_Md_isPerson := ⟨by decide +kernel, (tbG_of (tm_5 (ta 170 rfl)) rfl), (tbG_of (tm_1 (ta 9 rfl)) rfl), by decide +kernel, by decide +kernel, by decide⟩
theorem ok_Md_holds : MOk m_Md_holds := ⟨by decide +kernel, (tbG_of (tm_5 (ta 174 rfl)) rfl), (tbG_of (tm_1 (ta 9 rfl)) rfl), by decide +kernel, by decide +kernel, by decide⟩
theorem ok_Md_promise : MOk m_Md_promise := ⟨by decide +kernel, (tbG_of (tm_5 (ta 178 rfl)) rfl), (tbG_of (tm_1 (ta 9 rfl)) rfl), by decide +kernel, by decide +kernel, by decide⟩
theorem ok_Md_isPromise : MOk m_Md_isPromise := ⟨by decide +kernel, (tbG_of (tm_5 (ta 182 rfl)) rfl), (tbG_of (tm_1 (ta 9 rfl)) rfl), by decide +kernel, by decide +kernel, by decide⟩
theorem ok_Md_holderIn : MOk m_Md_holderIn := ⟨by decide +kernel, (tbG_of (tm_5 (ta 186 rfl)) rfl), (tbG_of (tm_1 (ta 9 rfl)) rfl), by decide +kernel, by decide +kernel, by decide⟩
theorem ok_Md_placeIn : MOk m_Md_placeIn := ⟨by decide +kernel, (tbG_of (tm_5 (ta 190 rfl)) rfl), (tbG_of (tm_1 (ta 9 rfl)) rfl), by decide +kernel, by decide +kernel, by decide⟩
theorem ok_Md_isOpen : MOk m_Md_isOpen := ⟨by decide +kernel, (tbG_of (tm_5 (ta 194 rfl)) rfl), (tbG_of (tm_1 (ta 9 rfl)) rfl), by decide +kernel, by decide +kernel, by decide⟩
theorem ok_Md_has : MOk m_Md_has := ⟨by decide +kernel, (tbG_of (tm_5 (ta 197 rfl)) rfl), (tbG_of (tm_1 (ta 9 rfl)) rfl), by decide +kernel, by decide +kernel, by decide⟩
theorem ok_Md_as : MOk m_Md_as := ⟨by decide +kernel, (tbG_of (tm_5 (ta 201 rfl)) rfl), (tbG_of (tm_1 (ta 9 rfl)) rfl), by decide +kernel, by decide +kernel, by decide⟩
theorem ok_Md_isA : MOk m_Md_isA := ⟨by decide +kernel, (tbG_of (tm_5 (ta 205 rfl)) rfl), (tbG_of (tm_1 (ta 9 rfl)) rfl), by decide +kernel, by decide +kernel, by decide⟩
theorem ok_Md_does : MOk m_Md_does := ⟨by decide +kernel, (tbG_of (tm_5 (ta 208 rfl)) rfl), (tbG_of (tm_1 (ta 9 rfl)) rfl), by decide +kernel, by decide +kernel, by decide⟩
theorem ok_Md_year : MOk m_Md_year := ⟨by decide +kernel, (tbG_of (tm_5 (ta 212 rfl)) rfl), (tbG_of (tm_1 (ta 9 rfl)) rfl), by decide +kernel, by decide +kernel, by decide⟩
theorem ok_Md_minds : MOk m_Md_minds := ⟨by decide +kernel, (tbG_of (tm_5 (ta 217 rfl)) rfl), (tbG_of (tm_1 (ta 9 rfl)) rfl), by decide +kernel, by decide +kernel, by decide⟩
theorem ok_Md_bring : MOk m_Md_bring := ⟨by decide +kernel, (tbG_of (tm_5 (ta 221 rfl)) rfl), (tbG_of (tm_1 (ta 9 rfl)) rfl), by decide +kernel, by decide +kernel, by decide⟩
theorem ok_Md_passesYear : MOk m_Md_passesYear := ⟨by decide +kernel, (tbG_of (tm_5 (ta 225 rfl)) rfl), (tbG_of (tm_1 (ta 9 rfl)) rfl), by decide +kernel, by decide +kernel, by decide⟩
theorem ok_Md_becomesKept : MOk m_Md_becomesKept := ⟨by decide +kernel, (tbG_of (tm_5 (ta 229 rfl)) rfl), (tbG_of (tm_1 (ta 9 rfl)) rfl), by decide +kernel, by decide +kernel, by decide⟩
theorem ok_Md_leavesOne : MOk m_Md_leavesOne := ⟨by decide +kernel, (tbG_of (tm_5 (ta 233 rfl)) rfl), (tbG_of (tm_1 (ta 9 rfl)) rfl), by decide +kernel, by decide +kernel, by decide⟩
theorem ok_Md_dies : MOk m_Md_dies := ⟨by decide +kernel, (tbG_of (tm_5 (ta 237 rfl)) rfl), (tbG_of (tm_1 (ta 9 rfl)) rfl), by decide +kernel, by decide +kernel, by decide⟩
theorem ok_Md_give : MOk m_Md_give := ⟨by decide +kernel, (tbG_of (tm_6 (ta 1 rfl)) rfl), (tbG_of (tm_1 (ta 9 rfl)) rfl), by decide +kernel, by decide +kernel, by decide⟩
theorem ok_Md_shorten : MOk m_Md_shorten := ⟨by decide +kernel, (tbG_of (tm_6 (ta 5 rfl)) rfl), (tbG_of (tm_1 (ta 9 rfl)) rfl), by decide +kernel, by decide +kernel, by decide⟩
theorem ok_Md_ahead : MOk m_Md_ahead := ⟨by decide +kernel, (tbG_of (tm_6 (ta 9 rfl)) rfl), (tbG_of (tm_1 (ta 9 rfl)) rfl), by decide +kernel, by decide +kernel, by decide⟩
theorem ok_Md_undo : MOk m_Md_undo := ⟨by decide +kernel, (tbG_of (tm_6 (ta 13 rfl)) rfl), (tbG_of (tm_1 (ta 9 rfl)) rfl), by decide +kernel, by decide +kernel, by decide⟩
theorem ok_Md_keep : MOk m_Md_keep := ⟨by decide +kernel, (tbG_of (tm_6 (ta 17 rfl)) rfl), (tbG_of (tm_1 (ta 9 rfl)) rfl), by decide +kernel, by decide +kernel, by decide⟩
theorem ok_Md_back : MOk m_Md_back := ⟨by decide +kernel, (tbG_of (tm_6 (ta 21 rfl)) rfl), (tbG_of (tm_1 (ta 9 rfl)) rfl), by decide +kernel, by decide +kernel, by decide⟩
theorem ok_Md_behind : MOk m_Md_behind := ⟨by decide +kernel, (tbG_of (tm_6 (ta 25 rfl)) rfl), (tbG_of (tm_1 (ta 9 rfl)) rfl), by decide +kernel, by decide +kernel, by decide⟩
theorem ok_Md_tries : MOk m_Md_tries := ⟨by decide +kernel, (tbG_of (tm_6 (ta 30 rfl)) rfl), (tbG_of (tm_1 (ta 9 rfl)) rfl), by decide +kernel, by decide +kernel, by decide⟩
theorem ok_Md_goesOn : MOk m_Md_goesOn := ⟨by decide +kernel, (tbG_of (tm_6 (ta 34 rfl)) rfl), (tbG_of (tm_1 (ta 9 rfl)) rfl), by decide +kernel, by decide +kernel, by decide⟩
theorem ok_Md_keeps : MOk m_Md_keeps := ⟨by decide +kernel, (tbG_of (tm_6 (ta 38 rfl)) rfl), (tbG_of (tm_1 (ta 9 rfl)) rfl), by decide +kernel, by decide +kernel, by decide⟩
theorem ok_Md_just : MOk m_Md_just := ⟨by decide +kernel, (tbG_of (tm_6 (ta 42 rfl)) rfl), (tbG_of (tm_1 (ta 9 rfl)) rfl), by decide +kernel, by decide +kernel, by decide⟩
theorem ok_Md_stuck : MOk m_Md_stuck := ⟨by decide +kernel, (tbG_of (tm_6 (ta 46 rfl)) rfl), (tbG_of (tm_1 (ta 9 rfl)) rfl), by decide +kernel, by decide +kernel, by decide⟩
theorem ok_Md_order : MOk m_Md_order := ⟨by decide +kernel, (tbG_of (tm_6 (ta 50 rfl)) rfl), (tbG_of (tm_1 (ta 9 rfl)) rfl), by decide +kernel, by decide +kernel, by decide⟩
theorem ok_Md_bestOrder : MOk m_Md_bestOrder := ⟨by decide +kernel, (tbG_of (tm_6 (ta 55 rfl)) rfl), (tbG_of (tm_1 (ta 9 rfl)) rfl), by decide +kernel, by decide +kernel, by decide⟩
theorem ok_Md_ones : MOk m_Md_ones := ⟨by decide +kernel, (tbG_of (tm_6 (ta 58 rfl)) rfl), (tbG_of (tm_1 (ta 9 rfl)) rfl), by decide +kernel, by decide +kernel, by decide⟩
theorem ok_Md_godfathers : MOk m_Md_godfathers := ⟨by decide +kernel, (tbG_of (tm_6 (ta 62 rfl)) rfl), (tbG_of (tm_1 (ta 9 rfl)) rfl), by decide +kernel, by decide +kernel, by decide⟩
theorem ok_Md_peace : MOk m_Md_peace := ⟨by decide +kernel, (tbG_of (tm_6 (ta 68 rfl)) rfl), (tbG_of (tm_1 (ta 9 rfl)) rfl), by decide +kernel, by decide +kernel, by decide⟩
theorem ok_Md_idle : MOk m_Md_idle := ⟨by decide +kernel, (tbG_of (tm_6 (ta 72 rfl)) rfl), (tbG_of (tm_1 (ta 9 rfl)) rfl), by decide +kernel, by decide +kernel, by decide⟩
theorem ok_Md_seen : MOk m_Md_seen := ⟨by decide +kernel, (tbG_of (tm_6 (ta 78 rfl)) rfl), (tbG_of (tm_1 (ta 9 rfl)) rfl), by decide +kernel, by decide +kernel, by decide⟩
theorem ok_Md_forget : MOk m_Md_forget := ⟨by decide +kernel, (tbG_of (tm_6 (ta 83 rfl)) rfl), (tbG_of (tm_1 (ta 9 rfl)) rfl), by decide +kernel, by decide +kernel, by decide⟩
theorem ok_Md_kinds : MOk m_Md_kinds := ⟨by decide +kernel, (tbG_of (tm_6 (ta 87 rfl)) rfl), (tbG_of (tm_1 (ta 9 rfl)) rfl), by decide +kernel, by decide +kernel, by decide⟩
theorem ok_Md_attempt : MOk m_Md_attempt := ⟨by decide +kernel, (tbG_of (tm_6 (ta 91 rfl)) rfl), (tbG_of (tm_1 (ta 9 rfl)) rfl), by decide +kernel, by decide +kernel, by decide⟩
theorem ok_Md_register : MOk m_Md_register := ⟨by decide +kernel, (tbG_of (tm_6 (ta 96 rfl)) rfl), (tbG_of (tm_1 (ta 9 rfl)) rfl), by decide +kernel, by decide +kernel, by decide⟩
theorem ok_Md_isRegister : MOk m_Md_isRegister := ⟨by decide +kernel, (tbG_of (tm_6 (ta 99 rfl)) rfl), (tbG_of (tm_1 (ta 9 rfl)) rfl), by decide +kernel, by decide +kernel, by decide⟩
theorem ok_Md_page : MOk m_Md_page := ⟨by decide +kernel, (tbG_of (tm_6 (ta 103 rfl)) rfl), (tbG_of (tm_1 (ta 9 rfl)) rfl), by decide +kernel, by decide +kernel, by decide⟩
theorem ok_Md_freePage : MOk m_Md_freePage := ⟨by decide +kernel, (tbG_of (tm_6 (ta 107 rfl)) rfl), (tbG_of (tm_1 (ta 9 rfl)) rfl), by decide +kernel, by decide +kernel, by decide⟩
theorem ok_Md_bind : MOk m_Md_bind := ⟨by decide +kernel, (tbG_of (tm_6 (ta 111 rfl)) rfl), (tbG_of (tm_1 (ta 9 rfl)) rfl), by decide +kernel, by decide +kernel, by decide⟩
theorem ok_Md_againstTwo : MOk m_Md_againstTwo := ⟨by decide +kernel, (tbG_of (tm_6 (ta 115 rfl)) rfl), (tbG_of (tm_1 (ta 9 rfl)) rfl), by decide +kernel, by decide +kernel, by decide⟩
theorem ok_Md_same : MOk m_Md_same := ⟨by decide +kernel, (tbG_of (tm_6 (ta 119 rfl)) rfl), (tbG_of (tm_1 (ta 9 rfl)) rfl), by decide +kernel, by decide +kernel, by decide⟩
theorem ok_Md_enter : MOk m_Md_enter := ⟨by decide +kernel, (tbG_of (tm_6 (ta 123 rfl)) rfl), (tbG_of (tm_1 (ta 9 rfl)) rfl), by decide +kernel, by decide +kernel, by decide⟩
theorem ok_Md_againstLine : MOk m_Md_againstLine := ⟨by decide +kernel, (tbG_of (tm_6 (ta 129 rfl)) rfl), (tbG_of (tm_1 (ta 9 rfl)) rfl), by decide +kernel, by decide +kernel, by decide⟩
theorem ok_Md_read : MOk m_Md_read := ⟨by decide +kernel, (tbG_of (tm_6 (ta 133 rfl)) rfl), (tbG_of (tm_1 (ta 9 rfl)) rfl), by decide +kernel, by decide +kernel, by decide⟩
theorem ok_Md_pages : MOk m_Md_pages := ⟨by decide +kernel, (tbG_of (tm_6 (ta 138 rfl)) rfl), (tbG_of (tm_1 (ta 9 rfl)) rfl), by decide +kernel, by decide +kernel, by decide⟩
theorem ok_Md_drop : MOk m_Md_drop := ⟨by decide +kernel, (tbG_of (tm_6 (ta 143 rfl)) rfl), (tbG_of (tm_1 (ta 9 rfl)) rfl), by decide +kernel, by decide +kernel, by decide⟩
theorem ok_Md_count : MOk m_Md_count := ⟨by decide +kernel, (tbG_of (tm_6 (ta 147 rfl)) rfl), (tbG_of (tm_1 (ta 9 rfl)) rfl), by decide +kernel, by decide +kernel, by decide⟩
theorem ok_Md_dead : MOk m_Md_dead := ⟨by decide +kernel, (tbG_of (tm_6 (ta 151 rfl)) rfl), (tbG_of (tm_1 (ta 9 rfl)) rfl), by decide +kernel, by decide +kernel, by decide⟩
theorem ok_Md_doneAll : MOk m_Md_doneAll := ⟨by decide +kernel, (tbG_of (tm_6 (ta 155 rfl)) rfl), (tbG_of (tm_1 (ta 9 rfl)) rfl), by decide +kernel, by decide +kernel, by decide⟩
theorem ok_Md_registersThere : MOk m_Md_registersThere := ⟨by decide +kernel, (tbG_of (tm_6 (ta 159 rfl)) rfl), (tbG_of (tm_1 (ta 9 rfl)) rfl), by decide +kernel, by decide +kernel, by decide⟩
end
section
/-- a final field of another class: it is read -/
def FG (own : String) (idx c f : Nat) : Prop := ∃ C T N ty, Cl c C T N ty ∧ f < N ∧ Cond.fieldLink own idx (T f).1 (T f).2.1 (T f).2.2.1 ∈ tbG
theorem FL.g {own : String} {idx c f : Nat} {fin : Bool} (h : FL own idx c f fin) : FG own idx c f := by
  obtain ⟨C, T, N, ty, h1, h2, h3, -⟩ := h
  exact ⟨C, T, N, ty, h1, h2, h3⟩
theorem f_Tl_36 : FL R_Tl 36 1 0 false := ⟨R_Tl, F_Tl, 10, t_Tl, cl_Tl, by decide, (tbG_of (tm_1 (ta 35 rfl)) rfl), rfl, fun h => absurd h (by decide)⟩
theorem f_Rd_94 : FL R_Rd 94 1 0 false := ⟨R_Tl, F_Tl, 10, t_Tl, cl_Tl, by decide, (tbG_of (tm_1 (ta 36 rfl)) rfl), rfl, fun h => absurd h (by decide)⟩
theorem f_St_93 : FL R_St 93 1 0 false := ⟨R_Tl, F_Tl, 10, t_Tl, cl_Tl, by decide, (tbG_of (tm_1 (ta 37 rfl)) rfl), rfl, fun h => absurd h (by decide)⟩
theorem f_Fo_106 : FL R_Fo 106 1 0 false := ⟨R_Tl, F_Tl, 10, t_Tl, cl_Tl, by decide, (tbG_of (tm_1 (ta 38 rfl)) rfl), rfl, fun h => absurd h (by decide)⟩
theorem f_Pn_278 : FL R_Pn 278 1 0 false := ⟨R_Tl, F_Tl, 10, t_Tl, cl_Tl, by decide, (tbG_of (tm_1 (ta 39 rfl)) rfl), rfl, fun h => absurd h (by decide)⟩
theorem f_Tl_40 : FL R_Tl 40 1 1 false := ⟨R_Tl, F_Tl, 10, t_Tl, cl_Tl, by decide, (tbG_of (tm_1 (ta 40 rfl)) rfl), rfl, fun h => absurd h (by decide)⟩
theorem f_St_67 : FL R_St 67 1 1 false := ⟨R_Tl, F_Tl, 10, t_Tl, cl_Tl, by decide, (tbG_of (tm_1 (ta 41 rfl)) rfl), rfl, fun h => absurd h (by decide)⟩
theorem f_Fo_77 : FL R_Fo 77 1 1 false := ⟨R_Tl, F_Tl, 10, t_Tl, cl_Tl, by decide, (tbG_of (tm_1 (ta 42 rfl)) rfl), rfl, fun h => absurd h (by decide)⟩
theorem f_Rd_104 : FL R_Rd 104 1 1 false := ⟨R_Tl, F_Tl, 10, t_Tl, cl_Tl, by decide, (tbG_of (tm_1 (ta 43 rfl)) rfl), rfl, fun h => absurd h (by decide)⟩
theorem f_Pn_281 : FL R_Pn 281 1 1 false := ⟨R_Tl, F_Tl, 10, t_Tl, cl_Tl, by decide, (tbG_of (tm_1 (ta 44 rfl)) rfl), rfl, fun h => absurd h (by decide)⟩
theorem f_Tl_9 : FL R_Tl 9 1 2 true := ⟨R_Tl, F_Tl, 10, t_Tl, cl_Tl, by decide, (tbG_of (tm_1 (ta 45 rfl)) rfl), rfl, fun _ => rfl⟩
theorem f_St_78 : FG R_St 78 1 2 := ⟨R_Tl, F_Tl, 10, t_Tl, cl_Tl, by decide, (tbG_of (tm_1 (ta 46 rfl)) rfl)⟩
theorem f_Pn_109 : FG R_Pn 109 1 2 := ⟨R_Tl, F_Tl, 10, t_Tl, cl_Tl, by decide, (tbG_of (tm_1 (ta 47 rfl)) rfl)⟩
theorem f_Tl_15 : FL R_Tl 15 1 3 true := ⟨R_Tl, F_Tl, 10, t_Tl, cl_Tl, by decide, (tbG_of (tm_1 (ta 48 rfl)) rfl), rfl, fun _ => rfl⟩
theorem f_St_31 : FG R_St 31 1 3 := ⟨R_Tl, F_Tl, 10, t_Tl, cl_Tl, by decide, (tbG_of (tm_1 (ta 49 rfl)) rfl)⟩
theorem f_Tl_18 : FL R_Tl 18 1 4 true := ⟨R_Tl, F_Tl, 10, t_Tl, cl_Tl, by decide, (tbG_of (tm_1 (ta 50 rfl)) rfl), rfl, fun _ => rfl⟩
theorem f_Pn_116 : FG R_Pn 116 1 4 := ⟨R_Tl, F_Tl, 10, t_Tl, cl_Tl, by decide, (tbG_of (tm_1 (ta 51 rfl)) rfl)⟩
theorem f_St_109 : FG R_St 109 1 4 := ⟨R_Tl, F_Tl, 10, t_Tl, cl_Tl, by decide, (tbG_of (tm_1 (ta 52 rfl)) rfl)⟩
theorem f_Tl_21 : FL R_Tl 21 1 5 true := ⟨R_Tl, F_Tl, 10, t_Tl, cl_Tl, by decide, (tbG_of (tm_1 (ta 53 rfl)) rfl), rfl, fun _ => rfl⟩
theorem f_St_49 : FG R_St 49 1 5 := ⟨R_Tl, F_Tl, 10, t_Tl, cl_Tl, by decide, (tbG_of (tm_1 (ta 54 rfl)) rfl)⟩
theorem f_Pn_130 : FG R_Pn 130 1 5 := ⟨R_Tl, F_Tl, 10, t_Tl, cl_Tl, by decide, (tbG_of (tm_1 (ta 55 rfl)) rfl)⟩
theorem f_Tl_24 : FL R_Tl 24 1 6 true := ⟨R_Tl, F_Tl, 10, t_Tl, cl_Tl, by decide, (tbG_of (tm_1 (ta 56 rfl)) rfl), rfl, fun _ => rfl⟩
theorem f_St_40 : FG R_St 40 1 6 := ⟨R_Tl, F_Tl, 10, t_Tl, cl_Tl, by decide, (tbG_of (tm_1 (ta 57 rfl)) rfl)⟩
theorem f_Tl_27 : FL R_Tl 27 1 7 true := ⟨R_Tl, F_Tl, 10, t_Tl, cl_Tl, by decide, (tbG_of (tm_1 (ta 58 rfl)) rfl), rfl, fun _ => rfl⟩
theorem f_St_58 : FG R_St 58 1 7 := ⟨R_Tl, F_Tl, 10, t_Tl, cl_Tl, by decide, (tbG_of (tm_1 (ta 59 rfl)) rfl)⟩
theorem f_Pn_139 : FG R_Pn 139 1 7 := ⟨R_Tl, F_Tl, 10, t_Tl, cl_Tl, by decide, (tbG_of (tm_1 (ta 60 rfl)) rfl)⟩
theorem f_Tl_30 : FL R_Tl 30 1 8 true := ⟨R_Tl, F_Tl, 10, t_Tl, cl_Tl, by decide, (tbG_of (tm_1 (ta 61 rfl)) rfl), rfl, fun _ => rfl⟩
theorem f_St_41 : FG R_St 41 1 8 := ⟨R_Tl, F_Tl, 10, t_Tl, cl_Tl, by decide, (tbG_of (tm_1 (ta 62 rfl)) rfl)⟩
theorem f_Tl_33 : FL R_Tl 33 1 9 true := ⟨R_Tl, F_Tl, 10, t_Tl, cl_Tl, by decide, (tbG_of (tm_1 (ta 63 rfl)) rfl), rfl, fun _ => rfl⟩
theorem f_Rd_11 : FL R_Rd 11 2 0 true := ⟨R_Rd, F_Rd, 7, t_Rd, cl_Rd, by decide, (tbG_of (tm_1 (ta 92 rfl)) rfl), rfl, fun _ => rfl⟩
theorem f_Rd_15 : FL R_Rd 15 2 1 false := ⟨R_Rd, F_Rd, 7, t_Rd, cl_Rd, by decide, (tbG_of (tm_1 (ta 93 rfl)) rfl), rfl, fun h => absurd h (by decide)⟩
theorem f_Pn_79 : FL R_Pn 79 2 1 false := ⟨R_Rd, F_Rd, 7, t_Rd, cl_Rd, by decide, (tbG_of (tm_1 (ta 94 rfl)) rfl), rfl, fun h => absurd h (by decide)⟩
theorem f_Rd_19 : FL R_Rd 19 2 2 false := ⟨R_Rd, F_Rd, 7, t_Rd, cl_Rd, by decide, (tbG_of (tm_1 (ta 95 rfl)) rfl), rfl, fun h => absurd h (by decide)⟩
theorem f_Pn_93 : FL R_Pn 93 2 2 false := ⟨R_Rd, F_Rd, 7, t_Rd, cl_Rd, by decide, (tbG_of (tm_1 (ta 96 rfl)) rfl), rfl, fun h => absurd h (by decide)⟩
theorem f_Rd_35 : FL R_Rd 35 2 3 false := ⟨R_Rd, F_Rd, 7, t_Rd, cl_Rd, by decide, (tbG_of (tm_1 (ta 97 rfl)) rfl), rfl, fun h => absurd h (by decide)⟩
theorem f_Rd_32 : FL R_Rd 32 2 4 false := ⟨R_Rd, F_Rd, 7, t_Rd, cl_Rd, by decide, (tbG_of (tm_1 (ta 98 rfl)) rfl), rfl, fun h => absurd h (by decide)⟩
theorem f_Rd_22 : FL R_Rd 22 2 5 false := ⟨R_Rd, F_Rd, 7, t_Rd, cl_Rd, by decide, (tbG_of (tm_1 (ta 99 rfl)) rfl), rfl, fun h => absurd h (by decide)⟩
theorem f_Rd_115 : FL R_Rd 115 2 6 false := ⟨R_Rd, F_Rd, 7, t_Rd, cl_Rd, by decide, (tbG_of (tm_1 (ta 100 rfl)) rfl), rfl, fun h => absurd h (by decide)⟩
theorem f_St_27 : FL R_St 27 3 0 true := ⟨R_St, F_St, 8, t_St, cl_St, by decide, (tbG_of (tm_1 (ta 122 rfl)) rfl), rfl, fun _ => rfl⟩
theorem f_St_9 : FL R_St 9 3 1 true := ⟨R_St, F_St, 8, t_St, cl_St, by decide, (tbG_of (tm_1 (ta 123 rfl)) rfl), rfl, fun _ => rfl⟩
theorem f_Fo_45 : FG R_Fo 45 3 1 := ⟨R_St, F_St, 8, t_St, cl_St, by decide, (tbG_of (tm_1 (ta 124 rfl)) rfl)⟩
theorem f_Pn_113 : FG R_Pn 113 3 1 := ⟨R_St, F_St, 8, t_St, cl_St, by decide, (tbG_of (tm_1 (ta 125 rfl)) rfl)⟩
theorem f_St_15 : FL R_St 15 3 2 true := ⟨R_St, F_St, 8, t_St, cl_St, by decide, (tbG_of (tm_1 (ta 126 rfl)) rfl), rfl, fun _ => rfl⟩
theorem f_Pn_133 : FG R_Pn 133 3 2 := ⟨R_St, F_St, 8, t_St, cl_St, by decide, (tbG_of (tm_1 (ta 127 rfl)) rfl)⟩
theorem f_St_18 : FL R_St 18 3 3 true := ⟨R_St, F_St, 8, t_St, cl_St, by decide, (tbG_of (tm_1 (ta 128 rfl)) rfl), rfl, fun _ => rfl⟩
theorem f_Pn_136 : FG R_Pn 136 3 3 := ⟨R_St, F_St, 8, t_St, cl_St, by decide, (tbG_of (tm_1 (ta 129 rfl)) rfl)⟩
theorem f_St_21 : FL R_St 21 3 4 true := ⟨R_St, F_St, 8, t_St, cl_St, by decide, (tbG_of (tm_1 (ta 130 rfl)) rfl), rfl, fun _ => rfl⟩
theorem f_Fo_42 : FG R_Fo 42 3 4 := ⟨R_St, F_St, 8, t_St, cl_St, by decide, (tbG_of (tm_1 (ta 131 rfl)) rfl)⟩
theorem f_Pn_142 : FG R_Pn 142 3 4 := ⟨R_St, F_St, 8, t_St, cl_St, by decide, (tbG_of (tm_1 (ta 132 rfl)) rfl)⟩
theorem f_St_24 : FL R_St 24 3 5 true := ⟨R_St, F_St, 8, t_St, cl_St, by decide, (tbG_of (tm_1 (ta 133 rfl)) rfl), rfl, fun _ => rfl⟩
theorem f_Fo_67 : FG R_Fo 67 3 5 := ⟨R_St, F_St, 8, t_St, cl_St, by decide, (tbG_of (tm_1 (ta 134 rfl)) rfl)⟩
theorem f_St_42 : FL R_St 42 3 6 false := ⟨R_St, F_St, 8, t_St, cl_St, by decide, (tbG_of (tm_1 (ta 135 rfl)) rfl), rfl, fun h => absurd h (by decide)⟩
theorem f_Pn_160 : FL R_Pn 160 3 6 false := ⟨R_St, F_St, 8, t_St, cl_St, by decide, (tbG_of (tm_1 (ta 136 rfl)) rfl), rfl, fun h => absurd h (by decide)⟩
theorem f_St_46 : FL R_St 46 3 7 false := ⟨R_St, F_St, 8, t_St, cl_St, by decide, (tbG_of (tm_1 (ta 137 rfl)) rfl), rfl, fun h => absurd h (by decide)⟩
theorem f_Fo_82 : FL R_Fo 82 3 7 false := ⟨R_St, F_St, 8, t_St, cl_St, by decide, (tbG_of (tm_1 (ta 138 rfl)) rfl), rfl, fun h => absurd h (by decide)⟩
theorem f_Pn_145 : FL R_Pn 145 3 7 false := ⟨R_St, F_St, 8, t_St, cl_St, by decide, (tbG_of (tm_1 (ta 139 rfl)) rfl), rfl, fun h => absurd h (by decide)⟩
theorem f_Ps_11 : FL R_Ps 11 4 0 true := ⟨R_Ps, F_Ps, 3, t_Ps, cl_Ps, by decide, (tbG_of (tm_1 (ta 166 rfl)) rfl), rfl, fun _ => rfl⟩
theorem f_Ps_18 : FL R_Ps 18 4 1 false := ⟨R_Ps, F_Ps, 3, t_Ps, cl_Ps, by decide, (tbG_of (tm_1 (ta 167 rfl)) rfl), rfl, fun h => absurd h (by decide)⟩
theorem f_Ps_26 : FL R_Ps 26 4 2 false := ⟨R_Ps, F_Ps, 3, t_Ps, cl_Ps, by decide, (tbG_of (tm_1 (ta 168 rfl)) rfl), rfl, fun h => absurd h (by decide)⟩
theorem f_Pn_99 : FL R_Pn 99 4 2 false := ⟨R_Ps, F_Ps, 3, t_Ps, cl_Ps, by decide, (tbG_of (tm_1 (ta 169 rfl)) rfl), rfl, fun h => absurd h (by decide)⟩
theorem f_Fo_21 : FL R_Fo 21 5 0 true := ⟨R_Fo, F_Fo, 7, t_Fo, cl_Fo, by decide, (tbG_of (tm_1 (ta 185 rfl)) rfl), rfl, fun _ => rfl⟩
theorem f_Fo_30 : FL R_Fo 30 5 1 true := ⟨R_Fo, F_Fo, 7, t_Fo, cl_Fo, by decide, (tbG_of (tm_1 (ta 186 rfl)) rfl), rfl, fun _ => rfl⟩
theorem f_Fo_11 : FL R_Fo 11 5 2 true := ⟨R_Fo, F_Fo, 7, t_Fo, cl_Fo, by decide, (tbG_of (tm_1 (ta 187 rfl)) rfl), rfl, fun _ => rfl⟩
theorem f_Fo_15 : FL R_Fo 15 5 3 true := ⟨R_Fo, F_Fo, 7, t_Fo, cl_Fo, by decide, (tbG_of (tm_1 (ta 188 rfl)) rfl), rfl, fun _ => rfl⟩
theorem f_Fo_18 : FL R_Fo 18 5 4 true := ⟨R_Fo, F_Fo, 7, t_Fo, cl_Fo, by decide, (tbG_of (tm_1 (ta 189 rfl)) rfl), rfl, fun _ => rfl⟩
theorem f_Fo_56 : FL R_Fo 56 5 5 false := ⟨R_Fo, F_Fo, 7, t_Fo, cl_Fo, by decide, (tbG_of (tm_1 (ta 190 rfl)) rfl), rfl, fun h => absurd h (by decide)⟩
theorem f_Fo_52 : FL R_Fo 52 5 6 false := ⟨R_Fo, F_Fo, 7, t_Fo, cl_Fo, by decide, (tbG_of (tm_1 (ta 191 rfl)) rfl), rfl, fun h => absurd h (by decide)⟩
theorem f_Sg_11 : FL R_Sg 11 6 0 true := ⟨R_Sg, F_Sg, 4, t_Sg, cl_Sg, by decide, (tbG_of (tm_1 (ta 214 rfl)) rfl), rfl, fun _ => rfl⟩
theorem f_Sg_15 : FL R_Sg 15 6 1 true := ⟨R_Sg, F_Sg, 4, t_Sg, cl_Sg, by decide, (tbG_of (tm_1 (ta 215 rfl)) rfl), rfl, fun _ => rfl⟩
theorem f_Sg_18 : FL R_Sg 18 6 2 true := ⟨R_Sg, F_Sg, 4, t_Sg, cl_Sg, by decide, (tbG_of (tm_1 (ta 216 rfl)) rfl), rfl, fun _ => rfl⟩
theorem f_Sg_21 : FL R_Sg 21 6 3 false := ⟨R_Sg, F_Sg, 4, t_Sg, cl_Sg, by decide, (tbG_of (tm_1 (ta 217 rfl)) rfl), rfl, fun h => absurd h (by decide)⟩
theorem f_Pn_102 : FL R_Pn 102 6 3 false := ⟨R_Sg, F_Sg, 4, t_Sg, cl_Sg, by decide, (tbG_of (tm_1 (ta 218 rfl)) rfl), rfl, fun h => absurd h (by decide)⟩
theorem f_Sh_13 : FL R_Sh 13 7 0 true := ⟨R_Sh, F_Sh, 1, t_Sh, cl_Sh, by decide, (tbG_of (tm_1 (ta 236 rfl)) rfl), rfl, fun _ => rfl⟩
theorem f_Pn_233 : FG R_Pn 233 7 0 := ⟨R_Sh, F_Sh, 1, t_Sh, cl_Sh, by decide, (tbG_of (tm_1 (ta 237 rfl)) rfl)⟩
theorem f_Pn_10 : FL R_Pn 10 0 0 true := ⟨R_Pn, F_Pn, 10, t_Pn, cl_Pn, by decide, (tbG_of (tm_2 (ta 1 rfl)) rfl), rfl, fun _ => rfl⟩
theorem f_Pn_16 : FL R_Pn 16 0 1 true := ⟨R_Pn, F_Pn, 10, t_Pn, cl_Pn, by decide, (tbG_of (tm_2 (ta 2 rfl)) rfl), rfl, fun _ => rfl⟩
theorem f_Pn_22 : FL R_Pn 22 0 2 true := ⟨R_Pn, F_Pn, 10, t_Pn, cl_Pn, by decide, (tbG_of (tm_2 (ta 3 rfl)) rfl), rfl, fun _ => rfl⟩
theorem f_Pn_31 : FL R_Pn 31 0 3 true := ⟨R_Pn, F_Pn, 10, t_Pn, cl_Pn, by decide, (tbG_of (tm_2 (ta 4 rfl)) rfl), rfl, fun _ => rfl⟩
theorem f_Pn_38 : FL R_Pn 38 0 4 true := ⟨R_Pn, F_Pn, 10, t_Pn, cl_Pn, by decide, (tbG_of (tm_2 (ta 5 rfl)) rfl), rfl, fun _ => rfl⟩
theorem f_Pn_42 : FL R_Pn 42 0 5 true := ⟨R_Pn, F_Pn, 10, t_Pn, cl_Pn, by decide, (tbG_of (tm_2 (ta 6 rfl)) rfl), rfl, fun _ => rfl⟩
theorem f_Pn_46 : FL R_Pn 46 0 6 true := ⟨R_Pn, F_Pn, 10, t_Pn, cl_Pn, by decide, (tbG_of (tm_2 (ta 7 rfl)) rfl), rfl, fun _ => rfl⟩
theorem f_Pn_53 : FL R_Pn 53 0 7 true := ⟨R_Pn, F_Pn, 10, t_Pn, cl_Pn, by decide, (tbG_of (tm_2 (ta 8 rfl)) rfl), rfl, fun _ => rfl⟩
theorem f_Pn_60 : FL R_Pn 60 0 8 true := ⟨R_Pn, F_Pn, 10, t_Pn, cl_Pn, by decide, (tbG_of (tm_2 (ta 9 rfl)) rfl), rfl, fun _ => rfl⟩
theorem f_Pn_67 : FL R_Pn 67 0 9 true := ⟨R_Pn, F_Pn, 10, t_Pn, cl_Pn, by decide, (tbG_of (tm_2 (ta 10 rfl)) rfl), rfl, fun _ => rfl⟩
theorem f_Rg_15 : FL R_Rg 15 8 0 true := ⟨R_Rg, F_Rg, 1, t_Rg, cl_Rg, by decide, (tbG_of (tm_4 (ta 58 rfl)) rfl), rfl, fun _ => rfl⟩
theorem f_Sh_25 : FG R_Sh 25 8 0 := ⟨R_Rg, F_Rg, 1, t_Rg, cl_Rg, by decide, (tbG_of (tm_4 (ta 59 rfl)) rfl)⟩
theorem f_Pn_244 : FG R_Pn 244 8 0 := ⟨R_Rg, F_Rg, 1, t_Rg, cl_Rg, by decide, (tbG_of (tm_4 (ta 60 rfl)) rfl)⟩
theorem f_Pg_13 : FL R_Pg 13 9 0 true := ⟨R_Pg, F_Pg, 2, t_Pg, cl_Pg, by decide, (tbG_of (tm_4 (ta 80 rfl)) rfl), rfl, fun _ => rfl⟩
theorem f_Sh_29 : FG R_Sh 29 9 0 := ⟨R_Pg, F_Pg, 2, t_Pg, cl_Pg, by decide, (tbG_of (tm_4 (ta 81 rfl)) rfl)⟩
theorem f_Pn_262 : FG R_Pn 262 9 0 := ⟨R_Pg, F_Pg, 2, t_Pg, cl_Pg, by decide, (tbG_of (tm_4 (ta 82 rfl)) rfl)⟩
theorem f_Pg_19 : FL R_Pg 19 9 1 true := ⟨R_Pg, F_Pg, 2, t_Pg, cl_Pg, by decide, (tbG_of (tm_4 (ta 83 rfl)) rfl), rfl, fun _ => rfl⟩
theorem f_Pn_265 : FG R_Pn 265 9 1 := ⟨R_Pg, F_Pg, 2, t_Pg, cl_Pg, by decide, (tbG_of (tm_4 (ta 84 rfl)) rfl)⟩
theorem f_Md_7 : FL R_Md 7 10 0 true := ⟨R_Md, F_Md, 45, t_Md, cl_Md, by decide, (tbG_of (tm_4 (ta 172 rfl)) rfl), rfl, fun _ => rfl⟩
theorem f_Md_226 : FL R_Md 226 10 1 false := ⟨R_Md, F_Md, 45, t_Md, cl_Md, by decide, (tbG_of (tm_4 (ta 173 rfl)) rfl), rfl, fun h => absurd h (by decide)⟩
theorem f_Md_13 : FL R_Md 13 10 2 true := ⟨R_Md, F_Md, 45, t_Md, cl_Md, by decide, (tbG_of (tm_4 (ta 174 rfl)) rfl), rfl, fun _ => rfl⟩
theorem f_Md_107 : FL R_Md 107 10 3 false := ⟨R_Md, F_Md, 45, t_Md, cl_Md, by decide, (tbG_of (tm_4 (ta 175 rfl)) rfl), rfl, fun h => absurd h (by decide)⟩
theorem f_Md_17 : FL R_Md 17 10 4 true := ⟨R_Md, F_Md, 45, t_Md, cl_Md, by decide, (tbG_of (tm_4 (ta 176 rfl)) rfl), rfl, fun _ => rfl⟩
theorem f_Md_20 : FL R_Md 20 10 5 true := ⟨R_Md, F_Md, 45, t_Md, cl_Md, by decide, (tbG_of (tm_4 (ta 177 rfl)) rfl), rfl, fun _ => rfl⟩
theorem f_Md_23 : FL R_Md 23 10 6 true := ⟨R_Md, F_Md, 45, t_Md, cl_Md, by decide, (tbG_of (tm_4 (ta 178 rfl)) rfl), rfl, fun _ => rfl⟩
theorem f_Md_115 : FL R_Md 115 10 7 false := ⟨R_Md, F_Md, 45, t_Md, cl_Md, by decide, (tbG_of (tm_4 (ta 179 rfl)) rfl), rfl, fun h => absurd h (by decide)⟩
theorem f_Md_26 : FL R_Md 26 10 8 true := ⟨R_Md, F_Md, 45, t_Md, cl_Md, by decide, (tbG_of (tm_4 (ta 180 rfl)) rfl), rfl, fun _ => rfl⟩
theorem f_Md_29 : FL R_Md 29 10 9 true := ⟨R_Md, F_Md, 45, t_Md, cl_Md, by decide, (tbG_of (tm_4 (ta 181 rfl)) rfl), rfl, fun _ => rfl⟩
theorem f_Md_32 : FL R_Md 32 10 10 true := ⟨R_Md, F_Md, 45, t_Md, cl_Md, by decide, (tbG_of (tm_4 (ta 182 rfl)) rfl), rfl, fun _ => rfl⟩
theorem f_Md_35 : FL R_Md 35 10 11 true := ⟨R_Md, F_Md, 45, t_Md, cl_Md, by decide, (tbG_of (tm_4 (ta 183 rfl)) rfl), rfl, fun _ => rfl⟩
theorem f_Md_38 : FL R_Md 38 10 12 true := ⟨R_Md, F_Md, 45, t_Md, cl_Md, by decide, (tbG_of (tm_4 (ta 184 rfl)) rfl), rfl, fun _ => rfl⟩
theorem f_Md_41 : FL R_Md 41 10 13 true := ⟨R_Md, F_Md, 45, t_Md, cl_Md, by decide, (tbG_of (tm_4 (ta 185 rfl)) rfl), rfl, fun _ => rfl⟩
theorem f_Md_120 : FL R_Md 120 10 14 false := ⟨R_Md, F_Md, 45, t_Md, cl_Md, by decide, (tbG_of (tm_4 (ta 186 rfl)) rfl), rfl, fun h => absurd h (by decide)⟩
theorem f_Md_131 : FL R_Md 131 10 15 false := ⟨R_Md, F_Md, 45, t_Md, cl_Md, by decide, (tbG_of (tm_4 (ta 187 rfl)) rfl), rfl, fun h => absurd h (by decide)⟩
theorem f_Md_134 : FL R_Md 134 10 16 false := ⟨R_Md, F_Md, 45, t_Md, cl_Md, by decide, (tbG_of (tm_4 (ta 188 rfl)) rfl), rfl, fun h => absurd h (by decide)⟩
theorem f_Md_137 : FL R_Md 137 10 17 false := ⟨R_Md, F_Md, 45, t_Md, cl_Md, by decide, (tbG_of (tm_4 (ta 189 rfl)) rfl), rfl, fun h => absurd h (by decide)⟩
theorem f_Md_140 : FL R_Md 140 10 18 false := ⟨R_Md, F_Md, 45, t_Md, cl_Md, by decide, (tbG_of (tm_4 (ta 190 rfl)) rfl), rfl, fun h => absurd h (by decide)⟩
theorem f_Md_176 : FL R_Md 176 10 19 false := ⟨R_Md, F_Md, 45, t_Md, cl_Md, by decide, (tbG_of (tm_4 (ta 191 rfl)) rfl), rfl, fun h => absurd h (by decide)⟩
theorem f_Md_44 : FL R_Md 44 10 20 true := ⟨R_Md, F_Md, 45, t_Md, cl_Md, by decide, (tbG_of (tm_4 (ta 192 rfl)) rfl), rfl, fun _ => rfl⟩
theorem f_Md_47 : FL R_Md 47 10 21 true := ⟨R_Md, F_Md, 45, t_Md, cl_Md, by decide, (tbG_of (tm_4 (ta 193 rfl)) rfl), rfl, fun _ => rfl⟩
theorem f_Md_50 : FL R_Md 50 10 22 true := ⟨R_Md, F_Md, 45, t_Md, cl_Md, by decide, (tbG_of (tm_4 (ta 194 rfl)) rfl), rfl, fun _ => rfl⟩
theorem f_Md_183 : FL R_Md 183 10 23 false := ⟨R_Md, F_Md, 45, t_Md, cl_Md, by decide, (tbG_of (tm_4 (ta 195 rfl)) rfl), rfl, fun h => absurd h (by decide)⟩
theorem f_Md_53 : FL R_Md 53 10 24 true := ⟨R_Md, F_Md, 45, t_Md, cl_Md, by decide, (tbG_of (tm_4 (ta 196 rfl)) rfl), rfl, fun _ => rfl⟩
theorem f_Md_56 : FL R_Md 56 10 25 true := ⟨R_Md, F_Md, 45, t_Md, cl_Md, by decide, (tbG_of (tm_4 (ta 197 rfl)) rfl), rfl, fun _ => rfl⟩
theorem f_Md_59 : FL R_Md 59 10 26 true := ⟨R_Md, F_Md, 45, t_Md, cl_Md, by decide, (tbG_of (tm_4 (ta 198 rfl)) rfl), rfl, fun _ => rfl⟩
theorem f_Md_62 : FL R_Md 62 10 27 true := ⟨R_Md, F_Md, 45, t_Md, cl_Md, by decide, (tbG_of (tm_4 (ta 199 rfl)) rfl), rfl, fun _ => rfl⟩
theorem f_Md_65 : FL R_Md 65 10 28 true := ⟨R_Md, F_Md, 45, t_Md, cl_Md, by decide, (tbG_of (tm_4 (ta 200 rfl)) rfl), rfl, fun _ => rfl⟩
theorem f_Md_210 : FL R_Md 210 10 29 false := ⟨R_Md, F_Md, 45, t_Md, cl_Md, by decide, (tbG_of (tm_4 (ta 201 rfl)) rfl), rfl, fun h => absurd h (by decide)⟩
theorem f_Md_150 : FL R_Md 150 10 30 false := ⟨R_Md, F_Md, 45, t_Md, cl_Md, by decide, (tbG_of (tm_4 (ta 202 rfl)) rfl), rfl, fun h => absurd h (by decide)⟩
theorem f_Md_68 : FL R_Md 68 10 31 true := ⟨R_Md, F_Md, 45, t_Md, cl_Md, by decide, (tbG_of (tm_4 (ta 203 rfl)) rfl), rfl, fun _ => rfl⟩
theorem f_Md_71 : FL R_Md 71 10 32 true := ⟨R_Md, F_Md, 45, t_Md, cl_Md, by decide, (tbG_of (tm_4 (ta 204 rfl)) rfl), rfl, fun _ => rfl⟩
theorem f_Md_74 : FL R_Md 74 10 33 true := ⟨R_Md, F_Md, 45, t_Md, cl_Md, by decide, (tbG_of (tm_4 (ta 205 rfl)) rfl), rfl, fun _ => rfl⟩
theorem f_Md_77 : FL R_Md 77 10 34 true := ⟨R_Md, F_Md, 45, t_Md, cl_Md, by decide, (tbG_of (tm_4 (ta 206 rfl)) rfl), rfl, fun _ => rfl⟩
theorem f_Md_80 : FL R_Md 80 10 35 true := ⟨R_Md, F_Md, 45, t_Md, cl_Md, by decide, (tbG_of (tm_4 (ta 207 rfl)) rfl), rfl, fun _ => rfl⟩
theorem f_Md_229 : FL R_Md 229 10 36 false := ⟨R_Md, F_Md, 45, t_Md, cl_Md, by decide, (tbG_of (tm_4 (ta 208 rfl)) rfl), rfl, fun h => absurd h (by decide)⟩
theorem f_Md_83 : FL R_Md 83 10 37 true := ⟨R_Md, F_Md, 45, t_Md, cl_Md, by decide, (tbG_of (tm_4 (ta 209 rfl)) rfl), rfl, fun _ => rfl⟩
theorem f_Md_86 : FL R_Md 86 10 38 true := ⟨R_Md, F_Md, 45, t_Md, cl_Md, by decide, (tbG_of (tm_4 (ta 210 rfl)) rfl), rfl, fun _ => rfl⟩
theorem f_Md_89 : FL R_Md 89 10 39 true := ⟨R_Md, F_Md, 45, t_Md, cl_Md, by decide, (tbG_of (tm_4 (ta 211 rfl)) rfl), rfl, fun _ => rfl⟩
theorem f_Md_92 : FL R_Md 92 10 40 true := ⟨R_Md, F_Md, 45, t_Md, cl_Md, by decide, (tbG_of (tm_4 (ta 212 rfl)) rfl), rfl, fun _ => rfl⟩
theorem f_Md_95 : FL R_Md 95 10 41 true := ⟨R_Md, F_Md, 45, t_Md, cl_Md, by decide, (tbG_of (tm_4 (ta 213 rfl)) rfl), rfl, fun _ => rfl⟩
theorem f_Md_98 : FL R_Md 98 10 42 true := ⟨R_Md, F_Md, 45, t_Md, cl_Md, by decide, (tbG_of (tm_4 (ta 214 rfl)) rfl), rfl, fun _ => rfl⟩
theorem f_Md_101 : FL R_Md 101 10 43 true := ⟨R_Md, F_Md, 45, t_Md, cl_Md, by decide, (tbG_of (tm_4 (ta 215 rfl)) rfl), rfl, fun _ => rfl⟩
theorem f_Md_104 : FL R_Md 104 10 44 true := ⟨R_Md, F_Md, 45, t_Md, cl_Md, by decide, (tbG_of (tm_4 (ta 216 rfl)) rfl), rfl, fun _ => rfl⟩
theorem k_La_9 : CI "PromiseNamesLaw" 9 m_Pn_init 0 := ⟨ok_Pn_init, Or.inl (tbG_of (tm_1 (ta 23 rfl)) rfl), (tbG_of (tm_1 (ta 24 rfl)) rfl), rfl, by decide +kernel, rfl⟩
theorem k_Pn_9 : CI R_Pn 9 m_Tl_init 0 := ⟨ok_Tl_init, Or.inr (by decide +kernel), (tbG_of (tm_1 (ta 32 rfl)) rfl), rfl, by decide +kernel, rfl⟩
theorem k_Pn_21 : CI R_Pn 21 m_Rd_init 0 := ⟨ok_Rd_init, Or.inr (by decide +kernel), (tbG_of (tm_1 (ta 89 rfl)) rfl), rfl, by decide +kernel, rfl⟩
theorem k_Pn_28 : CI R_Pn 28 m_St_init 1 := ⟨ok_St_init, Or.inl (tbG_of (tm_1 (ta 118 rfl)) rfl), (tbG_of (tm_1 (ta 119 rfl)) rfl), rfl, by decide +kernel, rfl⟩
theorem k_Pn_37 : CI R_Pn 37 m_Ps_init 1 := ⟨ok_Ps_init, Or.inl (tbG_of (tm_1 (ta 159 rfl)) rfl), (tbG_of (tm_1 (ta 160 rfl)) rfl), rfl, by decide +kernel, rfl⟩
theorem k_Ps_15 : CI R_Ps 15 m_St_init 1 := ⟨ok_St_init, Or.inl (tbG_of (tm_1 (ta 165 rfl)) rfl), (tbG_of (tm_1 (ta 119 rfl)) rfl), rfl, by decide +kernel, rfl⟩
theorem k_Pn_52 : CI R_Pn 52 m_Fo_init 1 := ⟨ok_Fo_init, Or.inl (tbG_of (tm_1 (ta 179 rfl)) rfl), (tbG_of (tm_1 (ta 180 rfl)) rfl), rfl, by decide +kernel, rfl⟩
theorem k_Fo_27 : CI R_Fo 27 m_St_init 1 := ⟨ok_St_init, Or.inl (tbG_of (tm_1 (ta 184 rfl)) rfl), (tbG_of (tm_1 (ta 119 rfl)) rfl), rfl, by decide +kernel, rfl⟩
theorem k_Pn_59 : CI R_Pn 59 m_Sg_init 0 := ⟨ok_Sg_init, Or.inr (by decide +kernel), (tbG_of (tm_1 (ta 211 rfl)) rfl), rfl, by decide +kernel, rfl⟩
theorem k_Pn_66 : CI R_Pn 66 m_Sh_init 0 := ⟨ok_Sh_init, Or.inr (by decide +kernel), (tbG_of (tm_1 (ta 231 rfl)) rfl), rfl, by decide +kernel, rfl⟩
theorem k_La_13 : CV "PromiseNamesLaw" 13 m_Pn_write 1 0 := ⟨ok_Pn_write, (tbG_of (tm_2 (ta 32 rfl)) rfl), (tbG_of (tm_2 (ta 33 rfl)) rfl), (tbG_of (tm_2 (ta 34 rfl)) rfl), by decide +kernel, _, _, _, cl_Pn⟩
theorem k_Pn_71 : CS R_Pn 71 m_Pn_isWithin 3 := ⟨ok_Pn_isWithin, Or.inl (tbG_of (tm_2 (ta 36 rfl)) rfl), (tbG_of (tm_2 (ta 37 rfl)) rfl), by decide +kernel⟩
theorem k_Pn_75 : CV R_Pn 75 m_Rd_addLetter 1 2 := ⟨ok_Rd_addLetter, (tbG_of (tm_2 (ta 39 rfl)) rfl), (tbG_of (tm_2 (ta 40 rfl)) rfl), (tbG_of (tm_2 (ta 41 rfl)) rfl), by decide +kernel, _, _, _, cl_Rd⟩
theorem k_La_18 : CV "PromiseNamesLaw" 18 m_Pn_erase 0 0 := ⟨ok_Pn_erase, (tbG_of (tm_2 (ta 43 rfl)) rfl), (tbG_of (tm_2 (ta 44 rfl)) rfl), (tbG_of (tm_2 (ta 45 rfl)) rfl), by decide +kernel, _, _, _, cl_Pn⟩
theorem k_La_23 : CV "PromiseNamesLaw" 23 m_Pn_fault 0 0 := ⟨ok_Pn_fault, (tbG_of (tm_2 (ta 47 rfl)) rfl), (tbG_of (tm_2 (ta 48 rfl)) rfl), (tbG_of (tm_2 (ta 49 rfl)) rfl), by decide +kernel, _, _, _, cl_Pn⟩
theorem k_Pn_83 : CV R_Pn 83 m_Tl_copyFrom 1 1 := ⟨ok_Tl_copyFrom, (tbG_of (tm_2 (ta 51 rfl)) rfl), (tbG_of (tm_2 (ta 52 rfl)) rfl), (tbG_of (tm_2 (ta 53 rfl)) rfl), by decide +kernel, _, _, _, cl_Tl⟩
theorem k_Pn_86 : CV R_Pn 86 m_Rd_readInto 1 2 := ⟨ok_Rd_readInto, (tbG_of (tm_2 (ta 58 rfl)) rfl), (tbG_of (tm_2 (ta 59 rfl)) rfl), (tbG_of (tm_2 (ta 60 rfl)) rfl), by decide +kernel, _, _, _, cl_Rd⟩
theorem k_Rd_25 : CV R_Rd 25 m_Rd_toNextToken 0 2 := ⟨ok_Rd_toNextToken, (tbG_of (tm_2 (ta 62 rfl)) rfl), (tbG_of (tm_2 (ta 64 rfl)) rfl), (tbG_of (tm_0 (ta 0 rfl)) rfl), by decide +kernel, _, _, _, cl_Rd⟩
theorem k_Rd_122 : CS R_Rd 122 m_Rd_isSmall 1 := ⟨ok_Rd_isSmall, Or.inl (tbG_of (tm_2 (ta 66 rfl)) rfl), (tbG_of (tm_2 (ta 67 rfl)) rfl), by decide +kernel⟩
theorem k_Rd_132 : CS R_Rd 132 m_Pn_isWithin 3 := ⟨ok_Pn_isWithin, Or.inr (by decide +kernel), (tbG_of (tm_2 (ta 37 rfl)) rfl), by decide +kernel⟩
theorem k_Rd_126 : CS R_Rd 126 m_Rd_isDigit 1 := ⟨ok_Rd_isDigit, Or.inl (tbG_of (tm_2 (ta 70 rfl)) rfl), (tbG_of (tm_2 (ta 71 rfl)) rfl), by decide +kernel⟩
theorem k_Rd_129 : CV R_Rd 129 m_Rd_passDigits 0 2 := ⟨ok_Rd_passDigits, (tbG_of (tm_2 (ta 73 rfl)) rfl), (tbG_of (tm_2 (ta 75 rfl)) rfl), (tbG_of (tm_0 (ta 1 rfl)) rfl), by decide +kernel, _, _, _, cl_Rd⟩
theorem k_Rd_28 : CV R_Rd 28 m_Rd_readClause 1 2 := ⟨ok_Rd_readClause, (tbG_of (tm_2 (ta 77 rfl)) rfl), (tbG_of (tm_2 (ta 79 rfl)) rfl), (tbG_of (tm_0 (ta 2 rfl)) rfl), by decide +kernel, _, _, _, cl_Rd⟩
theorem k_Rd_44 : CV R_Rd 44 m_Rd_isWord 1 2 := ⟨ok_Rd_isWord, (tbG_of (tm_2 (ta 82 rfl)) rfl), (tbG_of (tm_2 (ta 84 rfl)) rfl), (tbG_of (tm_0 (ta 3 rfl)) rfl), by decide +kernel, _, _, _, cl_Rd⟩
theorem k_Sr_495 : CS "java/lang/String" 495 m_Sl_charAt 2 := ⟨ok_Sl_charAt, Or.inl (tbG_of (tm_2 (ta 104 rfl)) rfl), (tbG_of (tm_2 (ta 105 rfl)) rfl), by decide +kernel⟩
theorem k_Sl_9 : CS "java/lang/StringLatin1" 9 m_Sr_checkIndex 2 := ⟨ok_Sr_checkIndex, Or.inl (tbG_of (tm_2 (ta 107 rfl)) rfl), (tbG_of (tm_2 (ta 108 rfl)) rfl), by decide +kernel⟩
theorem k_Sr_1059 : CS "java/lang/String" 1059 m_Pr_checkIndex 3 := ⟨ok_Pr_checkIndex, Or.inl (tbG_of (tm_2 (ta 112 rfl)) rfl), (tbG_of (tm_2 (ta 113 rfl)) rfl), by decide +kernel⟩
theorem k_Rd_48 : CV R_Rd 48 m_Tl_clear 0 1 := ⟨ok_Tl_clear, (tbG_of (tm_2 (ta 134 rfl)) rfl), (tbG_of (tm_2 (ta 135 rfl)) rfl), (tbG_of (tm_2 (ta 136 rfl)) rfl), by decide +kernel, _, _, _, cl_Tl⟩
theorem k_Rd_55 : CV R_Rd 55 m_Rd_readPerson 1 2 := ⟨ok_Rd_readPerson, (tbG_of (tm_2 (ta 139 rfl)) rfl), (tbG_of (tm_2 (ta 141 rfl)) rfl), (tbG_of (tm_0 (ta 4 rfl)) rfl), by decide +kernel, _, _, _, cl_Rd⟩
theorem k_Rd_83 : CV R_Rd 83 m_Tl_hasRoomForPerson 0 1 := ⟨ok_Tl_hasRoomForPerson, (tbG_of (tm_2 (ta 143 rfl)) rfl), (tbG_of (tm_2 (ta 144 rfl)) rfl), (tbG_of (tm_2 (ta 145 rfl)) rfl), by decide +kernel, _, _, _, cl_Tl⟩
theorem k_Rd_87 : CV R_Rd 87 m_Rd_isNumber 2 2 := ⟨ok_Rd_isNumber, (tbG_of (tm_2 (ta 147 rfl)) rfl), (tbG_of (tm_2 (ta 149 rfl)) rfl), (tbG_of (tm_0 (ta 5 rfl)) rfl), by decide +kernel, _, _, _, cl_Rd⟩
theorem k_Rd_91 : CV R_Rd 91 m_Rd_takeNumber 0 2 := ⟨ok_Rd_takeNumber, (tbG_of (tm_2 (ta 151 rfl)) rfl), (tbG_of (tm_2 (ta 153 rfl)) rfl), (tbG_of (tm_0 (ta 6 rfl)) rfl), by decide +kernel, _, _, _, cl_Rd⟩
theorem k_Rd_97 : CV R_Rd 97 m_Tl_addPerson 3 1 := ⟨ok_Tl_addPerson, (tbG_of (tm_2 (ta 155 rfl)) rfl), (tbG_of (tm_2 (ta 156 rfl)) rfl), (tbG_of (tm_2 (ta 157 rfl)) rfl), by decide +kernel, _, _, _, cl_Tl⟩
theorem k_Tl_49 : CV R_Tl 49 m_Tl_hasRoomForPerson 0 1 := ⟨ok_Tl_hasRoomForPerson, (tbG_of (tm_2 (ta 159 rfl)) rfl), (tbG_of (tm_2 (ta 144 rfl)) rfl), (tbG_of (tm_2 (ta 145 rfl)) rfl), by decide +kernel, _, _, _, cl_Tl⟩
theorem k_Rd_60 : CV R_Rd 60 m_Rd_readStrife 1 2 := ⟨ok_Rd_readStrife, (tbG_of (tm_2 (ta 161 rfl)) rfl), (tbG_of (tm_2 (ta 163 rfl)) rfl), (tbG_of (tm_0 (ta 7 rfl)) rfl), by decide +kernel, _, _, _, cl_Rd⟩
theorem k_Rd_118 : CV R_Rd 118 m_Tl_addStrife 2 1 := ⟨ok_Tl_addStrife, (tbG_of (tm_2 (ta 165 rfl)) rfl), (tbG_of (tm_2 (ta 166 rfl)) rfl), (tbG_of (tm_2 (ta 167 rfl)) rfl), by decide +kernel, _, _, _, cl_Tl⟩
theorem k_Rd_63 : CV R_Rd 63 m_Rd_kindByWord 0 2 := ⟨ok_Rd_kindByWord, (tbG_of (tm_2 (ta 169 rfl)) rfl), (tbG_of (tm_2 (ta 171 rfl)) rfl), (tbG_of (tm_0 (ta 8 rfl)) rfl), by decide +kernel, _, _, _, cl_Rd⟩
theorem k_Rd_67 : CV R_Rd 67 m_Rd_readPromise 2 2 := ⟨ok_Rd_readPromise, (tbG_of (tm_2 (ta 178 rfl)) rfl), (tbG_of (tm_2 (ta 180 rfl)) rfl), (tbG_of (tm_0 (ta 9 rfl)) rfl), by decide +kernel, _, _, _, cl_Rd⟩
theorem k_Rd_101 : CV R_Rd 101 m_Tl_hasRoomForPromise 0 1 := ⟨ok_Tl_hasRoomForPromise, (tbG_of (tm_2 (ta 182 rfl)) rfl), (tbG_of (tm_2 (ta 183 rfl)) rfl), (tbG_of (tm_2 (ta 184 rfl)) rfl), by decide +kernel, _, _, _, cl_Tl⟩
theorem k_Rd_107 : CV R_Rd 107 m_Rd_needsByWord 1 2 := ⟨ok_Rd_needsByWord, (tbG_of (tm_2 (ta 186 rfl)) rfl), (tbG_of (tm_2 (ta 188 rfl)) rfl), (tbG_of (tm_0 (ta 10 rfl)) rfl), by decide +kernel, _, _, _, cl_Rd⟩
theorem k_Rd_111 : CV R_Rd 111 m_Tl_addPromise 4 1 := ⟨ok_Tl_addPromise, (tbG_of (tm_2 (ta 190 rfl)) rfl), (tbG_of (tm_2 (ta 191 rfl)) rfl), (tbG_of (tm_2 (ta 192 rfl)) rfl), by decide +kernel, _, _, _, cl_Tl⟩
theorem k_Tl_53 : CV R_Tl 53 m_Tl_hasRoomForPromise 0 1 := ⟨ok_Tl_hasRoomForPromise, (tbG_of (tm_2 (ta 194 rfl)) rfl), (tbG_of (tm_2 (ta 183 rfl)) rfl), (tbG_of (tm_2 (ta 184 rfl)) rfl), by decide +kernel, _, _, _, cl_Tl⟩
theorem k_Rd_38 : CV R_Rd 38 m_Rd_isSign 1 2 := ⟨ok_Rd_isSign, (tbG_of (tm_2 (ta 195 rfl)) rfl), (tbG_of (tm_2 (ta 197 rfl)) rfl), (tbG_of (tm_0 (ta 11 rfl)) rfl), by decide +kernel, _, _, _, cl_Rd⟩
theorem k_La_27 : CV "PromiseNamesLaw" 27 m_Pn_parish 0 0 := ⟨ok_Pn_parish, (tbG_of (tm_2 (ta 200 rfl)) rfl), (tbG_of (tm_2 (ta 201 rfl)) rfl), (tbG_of (tm_2 (ta 202 rfl)) rfl), by decide +kernel, _, _, _, cl_Pn⟩
theorem k_Pn_90 : CV R_Pn 90 m_Pn_beginAnew 0 0 := ⟨ok_Pn_beginAnew, (tbG_of (tm_2 (ta 204 rfl)) rfl), (tbG_of (tm_2 (ta 206 rfl)) rfl), (tbG_of (tm_0 (ta 12 rfl)) rfl), by decide +kernel, _, _, _, cl_Pn⟩
theorem k_Pn_96 : CV R_Pn 96 m_St_setAsTold 0 3 := ⟨ok_St_setAsTold, (tbG_of (tm_2 (ta 208 rfl)) rfl), (tbG_of (tm_2 (ta 209 rfl)) rfl), (tbG_of (tm_2 (ta 210 rfl)) rfl), by decide +kernel, _, _, _, cl_St⟩
theorem k_Pn_103 : CV R_Pn 103 m_Sh_clear 0 7 := ⟨ok_Sh_clear, (tbG_of (tm_2 (ta 213 rfl)) rfl), (tbG_of (tm_2 (ta 214 rfl)) rfl), (tbG_of (tm_2 (ta 215 rfl)) rfl), by decide +kernel, _, _, _, cl_Sh⟩
theorem k_La_31 : CV "PromiseNamesLaw" 31 m_Pn_person 2 0 := ⟨ok_Pn_person, (tbG_of (tm_2 (ta 217 rfl)) rfl), (tbG_of (tm_2 (ta 218 rfl)) rfl), (tbG_of (tm_2 (ta 219 rfl)) rfl), by decide +kernel, _, _, _, cl_Pn⟩
theorem k_Pn_106 : CV R_Pn 106 m_Pn_isPerson 1 0 := ⟨ok_Pn_isPerson, (tbG_of (tm_2 (ta 221 rfl)) rfl), (tbG_of (tm_2 (ta 223 rfl)) rfl), (tbG_of (tm_0 (ta 13 rfl)) rfl), by decide +kernel, _, _, _, cl_Pn⟩
theorem k_Pn_119 : CV R_Pn 119 m_St_howManyHeldBy 1 3 := ⟨ok_St_howManyHeldBy, (tbG_of (tm_2 (ta 225 rfl)) rfl), (tbG_of (tm_2 (ta 226 rfl)) rfl), (tbG_of (tm_2 (ta 227 rfl)) rfl), by decide +kernel, _, _, _, cl_St⟩
theorem k_La_36 : CV "PromiseNamesLaw" 36 m_Pn_holds 2 0 := ⟨ok_Pn_holds, (tbG_of (tm_2 (ta 229 rfl)) rfl), (tbG_of (tm_2 (ta 230 rfl)) rfl), (tbG_of (tm_2 (ta 231 rfl)) rfl), by decide +kernel, _, _, _, cl_Pn⟩
theorem k_Pn_123 : CV R_Pn 123 m_St_heldAt 2 3 := ⟨ok_St_heldAt, (tbG_of (tm_2 (ta 233 rfl)) rfl), (tbG_of (tm_2 (ta 234 rfl)) rfl), (tbG_of (tm_2 (ta 235 rfl)) rfl), by decide +kernel, _, _, _, cl_St⟩
theorem k_La_40 : CV "PromiseNamesLaw" 40 m_Pn_promise 2 0 := ⟨ok_Pn_promise, (tbG_of (tm_2 (ta 237 rfl)) rfl), (tbG_of (tm_2 (ta 238 rfl)) rfl), (tbG_of (tm_2 (ta 239 rfl)) rfl), by decide +kernel, _, _, _, cl_Pn⟩
theorem k_Pn_127 : CV R_Pn 127 m_Pn_isPromise 1 0 := ⟨ok_Pn_isPromise, (tbG_of (tm_3 (ta 1 rfl)) rfl), (tbG_of (tm_3 (ta 3 rfl)) rfl), (tbG_of (tm_0 (ta 14 rfl)) rfl), by decide +kernel, _, _, _, cl_Pn⟩
theorem k_Pn_148 : CV R_Pn 148 m_St_isOpen 2 3 := ⟨ok_St_isOpen, (tbG_of (tm_3 (ta 5 rfl)) rfl), (tbG_of (tm_3 (ta 6 rfl)) rfl), (tbG_of (tm_3 (ta 7 rfl)) rfl), by decide +kernel, _, _, _, cl_St⟩
theorem k_St_52 : CS R_St 52 m_Kd_canBeWorkedAt 1 := ⟨ok_Kd_canBeWorkedAt, Or.inl (tbG_of (tm_3 (ta 9 rfl)) rfl), (tbG_of (tm_3 (ta 10 rfl)) rfl), by decide +kernel⟩
theorem k_La_44 : CV "PromiseNamesLaw" 44 m_Pn_as 2 0 := ⟨ok_Pn_as, (tbG_of (tm_3 (ta 12 rfl)) rfl), (tbG_of (tm_3 (ta 13 rfl)) rfl), (tbG_of (tm_3 (ta 14 rfl)) rfl), by decide +kernel, _, _, _, cl_Pn⟩
theorem k_Pn_152 : CS R_Pn 152 m_Kd_isUnder 2 := ⟨ok_Kd_isUnder, Or.inl (tbG_of (tm_3 (ta 16 rfl)) rfl), (tbG_of (tm_3 (ta 17 rfl)) rfl), by decide +kernel⟩
theorem k_Pn_157 : CS R_Pn 157 m_Kd_does 2 := ⟨ok_Kd_does, Or.inl (tbG_of (tm_3 (ta 19 rfl)) rfl), (tbG_of (tm_3 (ta 20 rfl)) rfl), by decide +kernel⟩
theorem k_La_48 : CV "PromiseNamesLaw" 48 m_Pn_year 1 0 := ⟨ok_Pn_year, (tbG_of (tm_3 (ta 22 rfl)) rfl), (tbG_of (tm_3 (ta 23 rfl)) rfl), (tbG_of (tm_3 (ta 24 rfl)) rfl), by decide +kernel, _, _, _, cl_Pn⟩
theorem k_Pn_163 : CV R_Pn 163 m_Ps_remember 1 4 := ⟨ok_Ps_remember, (tbG_of (tm_3 (ta 26 rfl)) rfl), (tbG_of (tm_3 (ta 27 rfl)) rfl), (tbG_of (tm_3 (ta 28 rfl)) rfl), by decide +kernel, _, _, _, cl_Ps⟩
theorem k_Ps_22 : CV R_Ps 22 m_St_copyFrom 1 3 := ⟨ok_St_copyFrom, (tbG_of (tm_3 (ta 30 rfl)) rfl), (tbG_of (tm_3 (ta 31 rfl)) rfl), (tbG_of (tm_3 (ta 32 rfl)) rfl), by decide +kernel, _, _, _, cl_St⟩
theorem k_Pn_167 : CV R_Pn 167 m_St_passYears 1 3 := ⟨ok_St_passYears, (tbG_of (tm_3 (ta 37 rfl)) rfl), (tbG_of (tm_3 (ta 38 rfl)) rfl), (tbG_of (tm_3 (ta 39 rfl)) rfl), by decide +kernel, _, _, _, cl_St⟩
theorem k_St_61 : CV R_St 61 m_St_workAll 0 3 := ⟨ok_St_workAll, (tbG_of (tm_3 (ta 41 rfl)) rfl), (tbG_of (tm_3 (ta 43 rfl)) rfl), (tbG_of (tm_0 (ta 15 rfl)) rfl), by decide +kernel, _, _, _, cl_St⟩
theorem k_St_70 : CS R_St 70 m_Pn_isWithin 3 := ⟨ok_Pn_isWithin, Or.inr (by decide +kernel), (tbG_of (tm_2 (ta 37 rfl)) rfl), by decide +kernel⟩
theorem k_St_74 : CV R_St 74 m_St_isOpen 2 3 := ⟨ok_St_isOpen, (tbG_of (tm_3 (ta 46 rfl)) rfl), (tbG_of (tm_3 (ta 6 rfl)) rfl), (tbG_of (tm_3 (ta 7 rfl)) rfl), by decide +kernel, _, _, _, cl_St⟩
theorem k_St_81 : CV R_St 81 m_St_workAt 2 3 := ⟨ok_St_workAt, (tbG_of (tm_3 (ta 47 rfl)) rfl), (tbG_of (tm_3 (ta 49 rfl)) rfl), (tbG_of (tm_0 (ta 16 rfl)) rfl), by decide +kernel, _, _, _, cl_St⟩
theorem k_St_85 : CS R_St 85 m_Kd_does 2 := ⟨ok_Kd_does, Or.inl (tbG_of (tm_3 (ta 51 rfl)) rfl), (tbG_of (tm_3 (ta 20 rfl)) rfl), by decide +kernel⟩
theorem k_St_89 : CV R_St 89 m_St_markKept 1 3 := ⟨ok_St_markKept, (tbG_of (tm_3 (ta 52 rfl)) rfl), (tbG_of (tm_3 (ta 54 rfl)) rfl), (tbG_of (tm_0 (ta 17 rfl)) rfl), by decide +kernel, _, _, _, cl_St⟩
theorem k_St_64 : CV R_St 64 m_St_ageAll 0 3 := ⟨ok_St_ageAll, (tbG_of (tm_3 (ta 56 rfl)) rfl), (tbG_of (tm_3 (ta 58 rfl)) rfl), (tbG_of (tm_0 (ta 18 rfl)) rfl), by decide +kernel, _, _, _, cl_St⟩
theorem k_St_96 : CV R_St 96 m_St_leaveAll 1 3 := ⟨ok_St_leaveAll, (tbG_of (tm_3 (ta 60 rfl)) rfl), (tbG_of (tm_3 (ta 62 rfl)) rfl), (tbG_of (tm_0 (ta 19 rfl)) rfl), by decide +kernel, _, _, _, cl_St⟩
theorem k_St_99 : CV R_St 99 m_St_whoInherits 1 3 := ⟨ok_St_whoInherits, (tbG_of (tm_3 (ta 64 rfl)) rfl), (tbG_of (tm_3 (ta 66 rfl)) rfl), (tbG_of (tm_0 (ta 20 rfl)) rfl), by decide +kernel, _, _, _, cl_St⟩
theorem k_St_103 : CS R_St 103 m_Kd_isKeptByDeath 1 := ⟨ok_Kd_isKeptByDeath, Or.inl (tbG_of (tm_3 (ta 68 rfl)) rfl), (tbG_of (tm_3 (ta 69 rfl)) rfl), by decide +kernel⟩
theorem k_St_106 : CV R_St 106 m_St_moveToEnd 1 3 := ⟨ok_St_moveToEnd, (tbG_of (tm_3 (ta 71 rfl)) rfl), (tbG_of (tm_3 (ta 73 rfl)) rfl), (tbG_of (tm_0 (ta 21 rfl)) rfl), by decide +kernel, _, _, _, cl_St⟩
theorem k_La_52 : CV "PromiseNamesLaw" 52 m_Pn_give 2 0 := ⟨ok_Pn_give, (tbG_of (tm_3 (ta 75 rfl)) rfl), (tbG_of (tm_3 (ta 76 rfl)) rfl), (tbG_of (tm_3 (ta 77 rfl)) rfl), by decide +kernel, _, _, _, cl_Pn⟩
theorem k_Pn_171 : CV R_Pn 171 m_St_handOver 2 3 := ⟨ok_St_handOver, (tbG_of (tm_3 (ta 79 rfl)) rfl), (tbG_of (tm_3 (ta 80 rfl)) rfl), (tbG_of (tm_3 (ta 81 rfl)) rfl), by decide +kernel, _, _, _, cl_St⟩
theorem k_St_112 : CV R_St 112 m_St_placeOf 1 3 := ⟨ok_St_placeOf, (tbG_of (tm_3 (ta 83 rfl)) rfl), (tbG_of (tm_3 (ta 85 rfl)) rfl), (tbG_of (tm_0 (ta 22 rfl)) rfl), by decide +kernel, _, _, _, cl_St⟩
theorem k_La_56 : CV "PromiseNamesLaw" 56 m_Pn_shorten 1 0 := ⟨ok_Pn_shorten, (tbG_of (tm_3 (ta 87 rfl)) rfl), (tbG_of (tm_3 (ta 88 rfl)) rfl), (tbG_of (tm_3 (ta 89 rfl)) rfl), by decide +kernel, _, _, _, cl_Pn⟩
theorem k_La_60 : CV "PromiseNamesLaw" 60 m_Pn_ahead 1 0 := ⟨ok_Pn_ahead, (tbG_of (tm_3 (ta 91 rfl)) rfl), (tbG_of (tm_3 (ta 92 rfl)) rfl), (tbG_of (tm_3 (ta 93 rfl)) rfl), by decide +kernel, _, _, _, cl_Pn⟩
theorem k_Pn_175 : CV R_Pn 175 m_St_rankOf 1 3 := ⟨ok_St_rankOf, (tbG_of (tm_3 (ta 95 rfl)) rfl), (tbG_of (tm_3 (ta 96 rfl)) rfl), (tbG_of (tm_3 (ta 97 rfl)) rfl), by decide +kernel, _, _, _, cl_St⟩
theorem k_Pn_178 : CV R_Pn 178 m_St_putFirst 1 3 := ⟨ok_St_putFirst, (tbG_of (tm_3 (ta 99 rfl)) rfl), (tbG_of (tm_3 (ta 100 rfl)) rfl), (tbG_of (tm_3 (ta 101 rfl)) rfl), by decide +kernel, _, _, _, cl_St⟩
theorem k_La_64 : CV "PromiseNamesLaw" 64 m_Pn_undo 0 0 := ⟨ok_Pn_undo, (tbG_of (tm_3 (ta 103 rfl)) rfl), (tbG_of (tm_3 (ta 104 rfl)) rfl), (tbG_of (tm_3 (ta 105 rfl)) rfl), by decide +kernel, _, _, _, cl_Pn⟩
theorem k_Pn_181 : CV R_Pn 181 m_Ps_restoreLatest 1 4 := ⟨ok_Ps_restoreLatest, (tbG_of (tm_3 (ta 107 rfl)) rfl), (tbG_of (tm_3 (ta 108 rfl)) rfl), (tbG_of (tm_3 (ta 109 rfl)) rfl), by decide +kernel, _, _, _, cl_Ps⟩
theorem k_La_68 : CV "PromiseNamesLaw" 68 m_Pn_keep 1 0 := ⟨ok_Pn_keep, (tbG_of (tm_3 (ta 111 rfl)) rfl), (tbG_of (tm_3 (ta 112 rfl)) rfl), (tbG_of (tm_3 (ta 113 rfl)) rfl), by decide +kernel, _, _, _, cl_Pn⟩
theorem k_Pn_184 : CV R_Pn 184 m_St_copyFrom 1 3 := ⟨ok_St_copyFrom, (tbG_of (tm_3 (ta 115 rfl)) rfl), (tbG_of (tm_3 (ta 31 rfl)) rfl), (tbG_of (tm_3 (ta 32 rfl)) rfl), by decide +kernel, _, _, _, cl_St⟩
theorem k_La_72 : CV "PromiseNamesLaw" 72 m_Pn_back 1 0 := ⟨ok_Pn_back, (tbG_of (tm_3 (ta 116 rfl)) rfl), (tbG_of (tm_3 (ta 117 rfl)) rfl), (tbG_of (tm_3 (ta 118 rfl)) rfl), by decide +kernel, _, _, _, cl_Pn⟩
theorem k_La_76 : CV "PromiseNamesLaw" 76 m_Pn_behind 3 0 := ⟨ok_Pn_behind, (tbG_of (tm_3 (ta 120 rfl)) rfl), (tbG_of (tm_3 (ta 121 rfl)) rfl), (tbG_of (tm_3 (ta 122 rfl)) rfl), by decide +kernel, _, _, _, cl_Pn⟩
theorem k_Pn_186 : CV R_Pn 186 m_Fo_stateBehind 2 5 := ⟨ok_Fo_stateBehind, (tbG_of (tm_3 (ta 124 rfl)) rfl), (tbG_of (tm_3 (ta 125 rfl)) rfl), (tbG_of (tm_3 (ta 126 rfl)) rfl), by decide +kernel, _, _, _, cl_Fo⟩
theorem k_Fo_34 : CV R_Fo 34 m_St_copyFrom 1 3 := ⟨ok_St_copyFrom, (tbG_of (tm_3 (ta 128 rfl)) rfl), (tbG_of (tm_3 (ta 31 rfl)) rfl), (tbG_of (tm_3 (ta 32 rfl)) rfl), by decide +kernel, _, _, _, cl_St⟩
theorem k_Fo_38 : CV R_Fo 38 m_St_passYears 1 3 := ⟨ok_St_passYears, (tbG_of (tm_3 (ta 129 rfl)) rfl), (tbG_of (tm_3 (ta 38 rfl)) rfl), (tbG_of (tm_3 (ta 39 rfl)) rfl), by decide +kernel, _, _, _, cl_St⟩
theorem k_La_81 : CV "PromiseNamesLaw" 81 m_Pn_keeps 1 0 := ⟨ok_Pn_keeps, (tbG_of (tm_3 (ta 130 rfl)) rfl), (tbG_of (tm_3 (ta 131 rfl)) rfl), (tbG_of (tm_3 (ta 132 rfl)) rfl), by decide +kernel, _, _, _, cl_Pn⟩
theorem k_Pn_190 : CV R_Pn 190 m_Fo_yearsUntilKept 2 5 := ⟨ok_Fo_yearsUntilKept, (tbG_of (tm_3 (ta 134 rfl)) rfl), (tbG_of (tm_3 (ta 135 rfl)) rfl), (tbG_of (tm_3 (ta 136 rfl)) rfl), by decide +kernel, _, _, _, cl_Fo⟩
theorem k_La_85 : CV "PromiseNamesLaw" 85 m_Pn_just 1 0 := ⟨ok_Pn_just, (tbG_of (tm_3 (ta 138 rfl)) rfl), (tbG_of (tm_3 (ta 139 rfl)) rfl), (tbG_of (tm_3 (ta 140 rfl)) rfl), by decide +kernel, _, _, _, cl_Pn⟩
theorem k_Pn_194 : CV R_Pn 194 m_Fo_yearsUntilFree 2 5 := ⟨ok_Fo_yearsUntilFree, (tbG_of (tm_3 (ta 142 rfl)) rfl), (tbG_of (tm_3 (ta 143 rfl)) rfl), (tbG_of (tm_3 (ta 144 rfl)) rfl), by decide +kernel, _, _, _, cl_Fo⟩
theorem k_Fo_48 : CV R_Fo 48 m_St_howManyHeldBy 1 3 := ⟨ok_St_howManyHeldBy, (tbG_of (tm_3 (ta 146 rfl)) rfl), (tbG_of (tm_2 (ta 226 rfl)) rfl), (tbG_of (tm_2 (ta 227 rfl)) rfl), by decide +kernel, _, _, _, cl_St⟩
theorem k_La_89 : CV "PromiseNamesLaw" 89 m_Pn_stuck 0 0 := ⟨ok_Pn_stuck, (tbG_of (tm_3 (ta 147 rfl)) rfl), (tbG_of (tm_3 (ta 148 rfl)) rfl), (tbG_of (tm_3 (ta 149 rfl)) rfl), by decide +kernel, _, _, _, cl_Pn⟩
theorem k_Pn_197 : CV R_Pn 197 m_St_neverKept 0 3 := ⟨ok_St_neverKept, (tbG_of (tm_3 (ta 151 rfl)) rfl), (tbG_of (tm_3 (ta 152 rfl)) rfl), (tbG_of (tm_3 (ta 153 rfl)) rfl), by decide +kernel, _, _, _, cl_St⟩
theorem k_La_93 : CV "PromiseNamesLaw" 93 m_Pn_order 3 0 := ⟨ok_Pn_order, (tbG_of (tm_3 (ta 155 rfl)) rfl), (tbG_of (tm_3 (ta 156 rfl)) rfl), (tbG_of (tm_3 (ta 157 rfl)) rfl), by decide +kernel, _, _, _, cl_Pn⟩
theorem k_Pn_201 : CV R_Pn 201 m_Fo_findBestOrder 3 5 := ⟨ok_Fo_findBestOrder, (tbG_of (tm_3 (ta 159 rfl)) rfl), (tbG_of (tm_3 (ta 160 rfl)) rfl), (tbG_of (tm_3 (ta 161 rfl)) rfl), by decide +kernel, _, _, _, cl_Fo⟩
theorem k_Fo_63 : CV R_Fo 63 m_Fo_findPlaces 2 5 := ⟨ok_Fo_findPlaces, (tbG_of (tm_3 (ta 163 rfl)) rfl), (tbG_of (tm_3 (ta 165 rfl)) rfl), (tbG_of (tm_0 (ta 23 rfl)) rfl), by decide +kernel, _, _, _, cl_Fo⟩
theorem k_Fo_70 : CV R_Fo 70 m_Fo_weighTrial 1 5 := ⟨ok_Fo_weighTrial, (tbG_of (tm_3 (ta 167 rfl)) rfl), (tbG_of (tm_3 (ta 169 rfl)) rfl), (tbG_of (tm_0 (ta 24 rfl)) rfl), by decide +kernel, _, _, _, cl_Fo⟩
theorem k_Fo_85 : CS R_Fo 85 m_In_bitCount 1 := ⟨ok_In_bitCount, Or.inl (tbG_of (tm_3 (ta 171 rfl)) rfl), (tbG_of (tm_3 (ta 172 rfl)) rfl), by decide +kernel⟩
theorem k_Fo_73 : CV R_Fo 73 m_Fo_toNextOrder 0 5 := ⟨ok_Fo_toNextOrder, (tbG_of (tm_3 (ta 178 rfl)) rfl), (tbG_of (tm_3 (ta 180 rfl)) rfl), (tbG_of (tm_0 (ta 25 rfl)) rfl), by decide +kernel, _, _, _, cl_Fo⟩
theorem k_Fo_96 : CV R_Fo 96 m_Fo_swapTried 2 5 := ⟨ok_Fo_swapTried, (tbG_of (tm_3 (ta 182 rfl)) rfl), (tbG_of (tm_3 (ta 184 rfl)) rfl), (tbG_of (tm_0 (ta 26 rfl)) rfl), by decide +kernel, _, _, _, cl_Fo⟩
theorem k_Pn_205 : CV R_Pn 205 m_Fo_answerAt 1 5 := ⟨ok_Fo_answerAt, (tbG_of (tm_3 (ta 186 rfl)) rfl), (tbG_of (tm_3 (ta 187 rfl)) rfl), (tbG_of (tm_3 (ta 188 rfl)) rfl), by decide +kernel, _, _, _, cl_Fo⟩
theorem k_Fo_59 : CS R_Fo 59 m_Pn_isWithin 3 := ⟨ok_Pn_isWithin, Or.inr (by decide +kernel), (tbG_of (tm_2 (ta 37 rfl)) rfl), by decide +kernel⟩
theorem k_La_97 : CV "PromiseNamesLaw" 97 m_Pn_godfathers 2 0 := ⟨ok_Pn_godfathers, (tbG_of (tm_3 (ta 191 rfl)) rfl), (tbG_of (tm_3 (ta 192 rfl)) rfl), (tbG_of (tm_3 (ta 193 rfl)) rfl), by decide +kernel, _, _, _, cl_Pn⟩
theorem k_Pn_208 : CV R_Pn 208 m_Fo_findBestGodfathers 2 5 := ⟨ok_Fo_findBestGodfathers, (tbG_of (tm_3 (ta 195 rfl)) rfl), (tbG_of (tm_3 (ta 196 rfl)) rfl), (tbG_of (tm_3 (ta 197 rfl)) rfl), by decide +kernel, _, _, _, cl_Fo⟩
theorem k_Fo_109 : CV R_Fo 109 m_Fo_chooseWay 1 5 := ⟨ok_Fo_chooseWay, (tbG_of (tm_3 (ta 200 rfl)) rfl), (tbG_of (tm_3 (ta 202 rfl)) rfl), (tbG_of (tm_0 (ta 27 rfl)) rfl), by decide +kernel, _, _, _, cl_Fo⟩
theorem k_Fo_112 : CV R_Fo 112 m_Fo_areChosenAlive 1 5 := ⟨ok_Fo_areChosenAlive, (tbG_of (tm_3 (ta 204 rfl)) rfl), (tbG_of (tm_3 (ta 206 rfl)) rfl), (tbG_of (tm_0 (ta 28 rfl)) rfl), by decide +kernel, _, _, _, cl_Fo⟩
theorem k_Fo_116 : CV R_Fo 116 m_Fo_giveAsChosen 1 5 := ⟨ok_Fo_giveAsChosen, (tbG_of (tm_3 (ta 208 rfl)) rfl), (tbG_of (tm_3 (ta 210 rfl)) rfl), (tbG_of (tm_0 (ta 29 rfl)) rfl), by decide +kernel, _, _, _, cl_Fo⟩
theorem k_Fo_119 : CV R_Fo 119 m_St_heldAt 2 3 := ⟨ok_St_heldAt, (tbG_of (tm_3 (ta 212 rfl)) rfl), (tbG_of (tm_2 (ta 234 rfl)) rfl), (tbG_of (tm_2 (ta 235 rfl)) rfl), by decide +kernel, _, _, _, cl_St⟩
theorem k_Fo_122 : CV R_Fo 122 m_St_handOver 2 3 := ⟨ok_St_handOver, (tbG_of (tm_3 (ta 213 rfl)) rfl), (tbG_of (tm_3 (ta 80 rfl)) rfl), (tbG_of (tm_3 (ta 81 rfl)) rfl), by decide +kernel, _, _, _, cl_St⟩
theorem k_La_101 : CV "PromiseNamesLaw" 101 m_Pn_peace 0 0 := ⟨ok_Pn_peace, (tbG_of (tm_3 (ta 214 rfl)) rfl), (tbG_of (tm_3 (ta 215 rfl)) rfl), (tbG_of (tm_3 (ta 216 rfl)) rfl), by decide +kernel, _, _, _, cl_Pn⟩
theorem k_Pn_212 : CV R_Pn 212 m_Tl_largestPeacefulSet 0 1 := ⟨ok_Tl_largestPeacefulSet, (tbG_of (tm_3 (ta 218 rfl)) rfl), (tbG_of (tm_3 (ta 219 rfl)) rfl), (tbG_of (tm_3 (ta 220 rfl)) rfl), by decide +kernel, _, _, _, cl_Tl⟩
theorem k_Tl_56 : CS R_Tl 56 m_In_bitCount 1 := ⟨ok_In_bitCount, Or.inl (tbG_of (tm_3 (ta 222 rfl)) rfl), (tbG_of (tm_3 (ta 172 rfl)) rfl), by decide +kernel⟩
theorem k_Tl_62 : CV R_Tl 62 m_Tl_isPeaceful 1 1 := ⟨ok_Tl_isPeaceful, (tbG_of (tm_3 (ta 223 rfl)) rfl), (tbG_of (tm_3 (ta 225 rfl)) rfl), (tbG_of (tm_0 (ta 30 rfl)) rfl), by decide +kernel, _, _, _, cl_Tl⟩
theorem k_La_105 : CV "PromiseNamesLaw" 105 m_Pn_idle 4 0 := ⟨ok_Pn_idle, (tbG_of (tm_3 (ta 227 rfl)) rfl), (tbG_of (tm_3 (ta 228 rfl)) rfl), (tbG_of (tm_3 (ta 229 rfl)) rfl), by decide +kernel, _, _, _, cl_Pn⟩
theorem k_Pn_215 : CS R_Pn 215 m_Od_partOf 4 := ⟨ok_Od_partOf, Or.inl (tbG_of (tm_3 (ta 231 rfl)) rfl), (tbG_of (tm_3 (ta 232 rfl)) rfl), by decide +kernel⟩
theorem k_Od_7 : CS "PromiseNames$Odds" 7 m_Od_choices 2 := ⟨ok_Od_choices, Or.inl (tbG_of (tm_3 (ta 234 rfl)) rfl), (tbG_of (tm_3 (ta 235 rfl)) rfl), by decide +kernel⟩
theorem k_Od_13 : CS "PromiseNames$Odds" 13 m_Od_power 2 := ⟨ok_Od_power, Or.inl (tbG_of (tm_3 (ta 237 rfl)) rfl), (tbG_of (tm_3 (ta 238 rfl)) rfl), by decide +kernel⟩
theorem k_Od_16 : CS "PromiseNames$Odds" 16 m_Od_commonDivisor 2 := ⟨ok_Od_commonDivisor, Or.inl (tbG_of (tm_4 (ta 0 rfl)) rfl), (tbG_of (tm_4 (ta 1 rfl)) rfl), by decide +kernel⟩
theorem k_La_110 : CV "PromiseNamesLaw" 110 m_Pn_seen 3 0 := ⟨ok_Pn_seen, (tbG_of (tm_4 (ta 3 rfl)) rfl), (tbG_of (tm_4 (ta 4 rfl)) rfl), (tbG_of (tm_4 (ta 5 rfl)) rfl), by decide +kernel, _, _, _, cl_Pn⟩
theorem k_Pn_221 : CV R_Pn 221 m_Sg_add 3 6 := ⟨ok_Sg_add, (tbG_of (tm_4 (ta 7 rfl)) rfl), (tbG_of (tm_4 (ta 8 rfl)) rfl), (tbG_of (tm_4 (ta 9 rfl)) rfl), by decide +kernel, _, _, _, cl_Sg⟩
theorem k_La_114 : CV "PromiseNamesLaw" 114 m_Pn_forget 0 0 := ⟨ok_Pn_forget, (tbG_of (tm_4 (ta 11 rfl)) rfl), (tbG_of (tm_4 (ta 12 rfl)) rfl), (tbG_of (tm_4 (ta 13 rfl)) rfl), by decide +kernel, _, _, _, cl_Pn⟩
theorem k_La_118 : CV "PromiseNamesLaw" 118 m_Pn_kinds 0 0 := ⟨ok_Pn_kinds, (tbG_of (tm_4 (ta 15 rfl)) rfl), (tbG_of (tm_4 (ta 16 rfl)) rfl), (tbG_of (tm_4 (ta 17 rfl)) rfl), by decide +kernel, _, _, _, cl_Pn⟩
theorem k_Pn_224 : CV R_Pn 224 m_Sg_possibleKinds 0 6 := ⟨ok_Sg_possibleKinds, (tbG_of (tm_4 (ta 19 rfl)) rfl), (tbG_of (tm_4 (ta 20 rfl)) rfl), (tbG_of (tm_4 (ta 21 rfl)) rfl), by decide +kernel, _, _, _, cl_Sg⟩
theorem k_Sg_27 : CV R_Sg 27 m_Sg_fitsAll 1 6 := ⟨ok_Sg_fitsAll, (tbG_of (tm_4 (ta 23 rfl)) rfl), (tbG_of (tm_4 (ta 25 rfl)) rfl), (tbG_of (tm_0 (ta 31 rfl)) rfl), by decide +kernel, _, _, _, cl_Sg⟩
theorem k_Sg_31 : CS R_Sg 31 m_Kd_does 2 := ⟨ok_Kd_does, Or.inl (tbG_of (tm_4 (ta 27 rfl)) rfl), (tbG_of (tm_3 (ta 20 rfl)) rfl), by decide +kernel⟩
theorem k_La_122 : CV "PromiseNamesLaw" 122 m_Pn_attempt 0 0 := ⟨ok_Pn_attempt, (tbG_of (tm_4 (ta 28 rfl)) rfl), (tbG_of (tm_4 (ta 29 rfl)) rfl), (tbG_of (tm_4 (ta 30 rfl)) rfl), by decide +kernel, _, _, _, cl_Pn⟩
theorem k_Pn_227 : CS R_Pn 227 m_Sg_bestStrength 1 := ⟨ok_Sg_bestStrength, Or.inl (tbG_of (tm_4 (ta 32 rfl)) rfl), (tbG_of (tm_4 (ta 33 rfl)) rfl), by decide +kernel⟩
theorem k_Sg_35 : CS R_Sg 35 m_In_bitCount 1 := ⟨ok_In_bitCount, Or.inl (tbG_of (tm_4 (ta 35 rfl)) rfl), (tbG_of (tm_3 (ta 172 rfl)) rfl), by decide +kernel⟩
theorem k_Sg_41 : CS R_Sg 41 m_Sg_greatestAlike 2 := ⟨ok_Sg_greatestAlike, Or.inl (tbG_of (tm_4 (ta 36 rfl)) rfl), (tbG_of (tm_4 (ta 37 rfl)) rfl), by decide +kernel⟩
theorem k_La_126 : CV "PromiseNamesLaw" 126 m_Pn_register 2 0 := ⟨ok_Pn_register, (tbG_of (tm_4 (ta 42 rfl)) rfl), (tbG_of (tm_4 (ta 43 rfl)) rfl), (tbG_of (tm_4 (ta 44 rfl)) rfl), by decide +kernel, _, _, _, cl_Pn⟩
theorem k_Pn_230 : CS R_Pn 230 m_Pn_isRegister 1 := ⟨ok_Pn_isRegister, Or.inl (tbG_of (tm_4 (ta 46 rfl)) rfl), (tbG_of (tm_4 (ta 47 rfl)) rfl), by decide +kernel⟩
theorem k_Pn_239 : CI R_Pn 239 m_Rg_init 1 := ⟨ok_Rg_init, Or.inl (tbG_of (tm_4 (ta 51 rfl)) rfl), (tbG_of (tm_4 (ta 52 rfl)) rfl), rfl, by decide +kernel, rfl⟩
theorem k_La_130 : CV "PromiseNamesLaw" 130 m_Pn_page 3 0 := ⟨ok_Pn_page, (tbG_of (tm_4 (ta 64 rfl)) rfl), (tbG_of (tm_4 (ta 65 rfl)) rfl), (tbG_of (tm_4 (ta 66 rfl)) rfl), by decide +kernel, _, _, _, cl_Pn⟩
theorem k_Pn_241 : CV R_Pn 241 m_Rg_hasPlace 1 8 := ⟨ok_Rg_hasPlace, (tbG_of (tm_4 (ta 68 rfl)) rfl), (tbG_of (tm_4 (ta 69 rfl)) rfl), (tbG_of (tm_4 (ta 70 rfl)) rfl), by decide +kernel, _, _, _, cl_Rg⟩
theorem k_Rg_21 : CS R_Rg 21 m_Pn_isWithin 3 := ⟨ok_Pn_isWithin, Or.inr (by decide +kernel), (tbG_of (tm_2 (ta 37 rfl)) rfl), by decide +kernel⟩
theorem k_Pn_250 : CI R_Pn 250 m_Pg_init 1 := ⟨ok_Pg_init, Or.inl (tbG_of (tm_4 (ta 75 rfl)) rfl), (tbG_of (tm_4 (ta 76 rfl)) rfl), rfl, by decide +kernel, rfl⟩
theorem k_La_134 : CV "PromiseNamesLaw" 134 m_Pn_bind 4 0 := ⟨ok_Pn_bind, (tbG_of (tm_4 (ta 90 rfl)) rfl), (tbG_of (tm_4 (ta 91 rfl)) rfl), (tbG_of (tm_4 (ta 92 rfl)) rfl), by decide +kernel, _, _, _, cl_Pn⟩
theorem k_Pn_251 : CV R_Pn 251 m_Sh_flawOfPlaces 4 7 := ⟨ok_Sh_flawOfPlaces, (tbG_of (tm_4 (ta 94 rfl)) rfl), (tbG_of (tm_4 (ta 95 rfl)) rfl), (tbG_of (tm_4 (ta 96 rfl)) rfl), by decide +kernel, _, _, _, cl_Sh⟩
theorem k_Sh_17 : CV R_Sh 17 m_Rg_hasPlace 1 8 := ⟨ok_Rg_hasPlace, (tbG_of (tm_4 (ta 98 rfl)) rfl), (tbG_of (tm_4 (ta 69 rfl)) rfl), (tbG_of (tm_4 (ta 70 rfl)) rfl), by decide +kernel, _, _, _, cl_Rg⟩
theorem k_La_138 : CV "PromiseNamesLaw" 138 m_Pn_same 4 0 := ⟨ok_Pn_same, (tbG_of (tm_4 (ta 99 rfl)) rfl), (tbG_of (tm_4 (ta 100 rfl)) rfl), (tbG_of (tm_4 (ta 101 rfl)) rfl), by decide +kernel, _, _, _, cl_Pn⟩
theorem k_La_142 : CV "PromiseNamesLaw" 142 m_Pn_enter 5 0 := ⟨ok_Pn_enter, (tbG_of (tm_4 (ta 103 rfl)) rfl), (tbG_of (tm_4 (ta 104 rfl)) rfl), (tbG_of (tm_4 (ta 105 rfl)) rfl), by decide +kernel, _, _, _, cl_Pn⟩
theorem k_Pn_254 : CV R_Pn 254 m_Sh_flawOfLine 3 7 := ⟨ok_Sh_flawOfLine, (tbG_of (tm_4 (ta 107 rfl)) rfl), (tbG_of (tm_4 (ta 108 rfl)) rfl), (tbG_of (tm_4 (ta 109 rfl)) rfl), by decide +kernel, _, _, _, cl_Sh⟩
theorem k_Sh_21 : CV R_Sh 21 m_Sh_flawOfPlaces 4 7 := ⟨ok_Sh_flawOfPlaces, (tbG_of (tm_4 (ta 111 rfl)) rfl), (tbG_of (tm_4 (ta 95 rfl)) rfl), (tbG_of (tm_4 (ta 96 rfl)) rfl), by decide +kernel, _, _, _, cl_Sh⟩
theorem k_Sh_35 : CS R_Sh 35 m_Pn_isWithin 3 := ⟨ok_Pn_isWithin, Or.inr (by decide +kernel), (tbG_of (tm_2 (ta 37 rfl)) rfl), by decide +kernel⟩
theorem k_Pn_258 : CV R_Pn 258 m_Pg_put 3 9 := ⟨ok_Pg_put, (tbG_of (tm_4 (ta 113 rfl)) rfl), (tbG_of (tm_4 (ta 114 rfl)) rfl), (tbG_of (tm_4 (ta 115 rfl)) rfl), by decide +kernel, _, _, _, cl_Pg⟩
theorem k_La_147 : CV "PromiseNamesLaw" 147 m_Pn_read 4 0 := ⟨ok_Pn_read, (tbG_of (tm_4 (ta 117 rfl)) rfl), (tbG_of (tm_4 (ta 118 rfl)) rfl), (tbG_of (tm_4 (ta 119 rfl)) rfl), by decide +kernel, _, _, _, cl_Pn⟩
theorem k_La_151 : CV "PromiseNamesLaw" 151 m_Pn_pages 2 0 := ⟨ok_Pn_pages, (tbG_of (tm_4 (ta 122 rfl)) rfl), (tbG_of (tm_4 (ta 123 rfl)) rfl), (tbG_of (tm_4 (ta 124 rfl)) rfl), by decide +kernel, _, _, _, cl_Pn⟩
theorem k_Pn_269 : CV R_Pn 269 m_Rg_pagesThere 0 8 := ⟨ok_Rg_pagesThere, (tbG_of (tm_4 (ta 126 rfl)) rfl), (tbG_of (tm_4 (ta 127 rfl)) rfl), (tbG_of (tm_4 (ta 128 rfl)) rfl), by decide +kernel, _, _, _, cl_Rg⟩
theorem k_Pn_272 : CV R_Pn 272 m_Rg_unlikePages 0 8 := ⟨ok_Rg_unlikePages, (tbG_of (tm_4 (ta 130 rfl)) rfl), (tbG_of (tm_4 (ta 131 rfl)) rfl), (tbG_of (tm_4 (ta 132 rfl)) rfl), by decide +kernel, _, _, _, cl_Rg⟩
theorem k_Rg_27 : CV R_Rg 27 m_Rg_isFirstOfItsPage 1 8 := ⟨ok_Rg_isFirstOfItsPage, (tbG_of (tm_4 (ta 134 rfl)) rfl), (tbG_of (tm_4 (ta 136 rfl)) rfl), (tbG_of (tm_0 (ta 32 rfl)) rfl), by decide +kernel, _, _, _, cl_Rg⟩
theorem k_Pn_275 : CV R_Pn 275 m_Rg_filledLines 0 8 := ⟨ok_Rg_filledLines, (tbG_of (tm_4 (ta 138 rfl)) rfl), (tbG_of (tm_4 (ta 139 rfl)) rfl), (tbG_of (tm_4 (ta 140 rfl)) rfl), by decide +kernel, _, _, _, cl_Rg⟩
theorem k_Rg_31 : CV R_Rg 31 m_Pg_filled 0 9 := ⟨ok_Pg_filled, (tbG_of (tm_4 (ta 142 rfl)) rfl), (tbG_of (tm_4 (ta 143 rfl)) rfl), (tbG_of (tm_4 (ta 144 rfl)) rfl), by decide +kernel, _, _, _, cl_Pg⟩
theorem k_La_155 : CV "PromiseNamesLaw" 155 m_Pn_drop 1 0 := ⟨ok_Pn_drop, (tbG_of (tm_4 (ta 146 rfl)) rfl), (tbG_of (tm_4 (ta 147 rfl)) rfl), (tbG_of (tm_4 (ta 148 rfl)) rfl), by decide +kernel, _, _, _, cl_Pn⟩
theorem k_La_159 : CV "PromiseNamesLaw" 159 m_Pn_count 1 0 := ⟨ok_Pn_count, (tbG_of (tm_4 (ta 150 rfl)) rfl), (tbG_of (tm_4 (ta 151 rfl)) rfl), (tbG_of (tm_4 (ta 152 rfl)) rfl), by decide +kernel, _, _, _, cl_Pn⟩
theorem k_Pn_284 : CV R_Pn 284 m_St_deadOnes 0 3 := ⟨ok_St_deadOnes, (tbG_of (tm_4 (ta 154 rfl)) rfl), (tbG_of (tm_4 (ta 155 rfl)) rfl), (tbG_of (tm_4 (ta 156 rfl)) rfl), by decide +kernel, _, _, _, cl_St⟩
theorem k_Pn_287 : CV R_Pn 287 m_St_allDone 0 3 := ⟨ok_St_allDone, (tbG_of (tm_4 (ta 158 rfl)) rfl), (tbG_of (tm_4 (ta 159 rfl)) rfl), (tbG_of (tm_4 (ta 160 rfl)) rfl), by decide +kernel, _, _, _, cl_St⟩
theorem k_Pn_290 : CV R_Pn 290 m_Sh_registersThere 0 7 := ⟨ok_Sh_registersThere, (tbG_of (tm_4 (ta 162 rfl)) rfl), (tbG_of (tm_4 (ta 163 rfl)) rfl), (tbG_of (tm_4 (ta 164 rfl)) rfl), by decide +kernel, _, _, _, cl_Sh⟩
theorem k_La_12 : CI "PromiseNamesLaw" 12 m_Md_init 0 := ⟨ok_Md_init, Or.inl (tbG_of (tm_4 (ta 168 rfl)) rfl), (tbG_of (tm_4 (ta 169 rfl)) rfl), rfl, by decide +kernel, rfl⟩
theorem k_La_17 : CV "PromiseNamesLaw" 17 m_Md_write 1 10 := ⟨ok_Md_write, (tbG_of (tm_5 (ta 68 rfl)) rfl), (tbG_of (tm_5 (ta 69 rfl)) rfl), (tbG_of (tm_5 (ta 70 rfl)) rfl), by decide +kernel, _, _, _, cl_Md⟩
theorem k_Md_111 : CS R_Md 111 m_Md_in 3 := ⟨ok_Md_in, Or.inl (tbG_of (tm_5 (ta 73 rfl)) rfl), (tbG_of (tm_5 (ta 74 rfl)) rfl), by decide +kernel⟩
theorem k_La_22 : CV "PromiseNamesLaw" 22 m_Md_erase 0 10 := ⟨ok_Md_erase, (tbG_of (tm_5 (ta 76 rfl)) rfl), (tbG_of (tm_5 (ta 77 rfl)) rfl), (tbG_of (tm_5 (ta 78 rfl)) rfl), by decide +kernel, _, _, _, cl_Md⟩
theorem k_La_26 : CV "PromiseNamesLaw" 26 m_Md_fault 0 10 := ⟨ok_Md_fault, (tbG_of (tm_5 (ta 80 rfl)) rfl), (tbG_of (tm_5 (ta 81 rfl)) rfl), (tbG_of (tm_5 (ta 82 rfl)) rfl), by decide +kernel, _, _, _, cl_Md⟩
theorem k_Md_216 : CV R_Md 216 m_Md_readsAll 0 10 := ⟨ok_Md_readsAll, (tbG_of (tm_5 (ta 84 rfl)) rfl), (tbG_of (tm_5 (ta 86 rfl)) rfl), (tbG_of (tm_0 (ta 33 rfl)) rfl), by decide +kernel, _, _, _, cl_Md⟩
theorem k_Md_207 : CV R_Md 207 m_Md_tellsAll 0 10 := ⟨ok_Md_tellsAll, (tbG_of (tm_5 (ta 88 rfl)) rfl), (tbG_of (tm_5 (ta 90 rfl)) rfl), (tbG_of (tm_0 (ta 34 rfl)) rfl), by decide +kernel, _, _, _, cl_Md⟩
theorem k_Md_147 : CV R_Md 147 m_Md_looks 0 10 := ⟨ok_Md_looks, (tbG_of (tm_5 (ta 92 rfl)) rfl), (tbG_of (tm_5 (ta 94 rfl)) rfl), (tbG_of (tm_0 (ta 35 rfl)) rfl), by decide +kernel, _, _, _, cl_Md⟩
theorem k_Md_143 : CS R_Md 143 m_Md_sortOf 1 := ⟨ok_Md_sortOf, Or.inl (tbG_of (tm_5 (ta 96 rfl)) rfl), (tbG_of (tm_5 (ta 97 rfl)) rfl), by decide +kernel⟩
theorem k_Md_213 : CV R_Md 213 m_Md_takesClause 0 10 := ⟨ok_Md_takesClause, (tbG_of (tm_5 (ta 103 rfl)) rfl), (tbG_of (tm_5 (ta 105 rfl)) rfl), (tbG_of (tm_0 (ta 36 rfl)) rfl), by decide +kernel, _, _, _, cl_Md⟩
theorem k_Md_190 : CV R_Md 190 m_Md_wordAtHand 0 10 := ⟨ok_Md_wordAtHand, (tbG_of (tm_5 (ta 107 rfl)) rfl), (tbG_of (tm_5 (ta 109 rfl)) rfl), (tbG_of (tm_0 (ta 37 rfl)) rfl), by decide +kernel, _, _, _, cl_Md⟩
theorem k_Md_158 : CV R_Md 158 m_Md_isWord 2 10 := ⟨ok_Md_isWord, (tbG_of (tm_5 (ta 112 rfl)) rfl), (tbG_of (tm_5 (ta 114 rfl)) rfl), (tbG_of (tm_0 (ta 38 rfl)) rfl), by decide +kernel, _, _, _, cl_Md⟩
theorem k_Md_194 : CV R_Md 194 m_Md_takesPromise 1 10 := ⟨ok_Md_takesPromise, (tbG_of (tm_5 (ta 123 rfl)) rfl), (tbG_of (tm_5 (ta 125 rfl)) rfl), (tbG_of (tm_0 (ta 39 rfl)) rfl), by decide +kernel, _, _, _, cl_Md⟩
theorem k_Md_153 : CV R_Md 153 m_Md_passesToken 0 10 := ⟨ok_Md_passesToken, (tbG_of (tm_5 (ta 127 rfl)) rfl), (tbG_of (tm_5 (ta 129 rfl)) rfl), (tbG_of (tm_0 (ta 40 rfl)) rfl), by decide +kernel, _, _, _, cl_Md⟩
theorem k_Md_179 : CV R_Md 179 m_Md_takesNumber 2 10 := ⟨ok_Md_takesNumber, (tbG_of (tm_5 (ta 131 rfl)) rfl), (tbG_of (tm_5 (ta 133 rfl)) rfl), (tbG_of (tm_0 (ta 41 rfl)) rfl), by decide +kernel, _, _, _, cl_Md⟩
theorem k_Md_186 : CV R_Md 186 m_Md_takesNeeds 0 10 := ⟨ok_Md_takesNeeds, (tbG_of (tm_5 (ta 135 rfl)) rfl), (tbG_of (tm_5 (ta 137 rfl)) rfl), (tbG_of (tm_0 (ta 42 rfl)) rfl), by decide +kernel, _, _, _, cl_Md⟩
theorem k_Md_198 : CV R_Md 198 m_Md_takesMan 0 10 := ⟨ok_Md_takesMan, (tbG_of (tm_5 (ta 139 rfl)) rfl), (tbG_of (tm_5 (ta 141 rfl)) rfl), (tbG_of (tm_0 (ta 43 rfl)) rfl), by decide +kernel, _, _, _, cl_Md⟩
theorem k_Md_201 : CV R_Md 201 m_Md_takesStrife 0 10 := ⟨ok_Md_takesStrife, (tbG_of (tm_5 (ta 143 rfl)) rfl), (tbG_of (tm_5 (ta 145 rfl)) rfl), (tbG_of (tm_0 (ta 44 rfl)) rfl), by decide +kernel, _, _, _, cl_Md⟩
theorem k_Md_204 : CV R_Md 204 m_Md_takesParish 0 10 := ⟨ok_Md_takesParish, (tbG_of (tm_5 (ta 147 rfl)) rfl), (tbG_of (tm_5 (ta 149 rfl)) rfl), (tbG_of (tm_0 (ta 45 rfl)) rfl), by decide +kernel, _, _, _, cl_Md⟩
theorem k_La_30 : CV "PromiseNamesLaw" 30 m_Md_parish 0 10 := ⟨ok_Md_parish, (tbG_of (tm_5 (ta 151 rfl)) rfl), (tbG_of (tm_5 (ta 152 rfl)) rfl), (tbG_of (tm_5 (ta 153 rfl)) rfl), by decide +kernel, _, _, _, cl_Md⟩
theorem k_Md_223 : CV R_Md 223 m_Md_begins 0 10 := ⟨ok_Md_begins, (tbG_of (tm_5 (ta 155 rfl)) rfl), (tbG_of (tm_5 (ta 157 rfl)) rfl), (tbG_of (tm_0 (ta 46 rfl)) rfl), by decide +kernel, _, _, _, cl_Md⟩
theorem k_Md_219 : CV R_Md 219 m_Md_joins 3 10 := ⟨ok_Md_joins, (tbG_of (tm_5 (ta 159 rfl)) rfl), (tbG_of (tm_5 (ta 161 rfl)) rfl), (tbG_of (tm_0 (ta 47 rfl)) rfl), by decide +kernel, _, _, _, cl_Md⟩
theorem k_La_35 : CV "PromiseNamesLaw" 35 m_Md_person 2 10 := ⟨ok_Md_person, (tbG_of (tm_5 (ta 163 rfl)) rfl), (tbG_of (tm_5 (ta 164 rfl)) rfl), (tbG_of (tm_5 (ta 165 rfl)) rfl), by decide +kernel, _, _, _, cl_Md⟩
theorem k_Md_256 : CV R_Md 256 m_Md_isPerson 1 10 := ⟨ok_Md_isPerson, (tbG_of (tm_5 (ta 167 rfl)) rfl), (tbG_of (tm_5 (ta 169 rfl)) rfl), (tbG_of (tm_0 (ta 48 rfl)) rfl), by decide +kernel, _, _, _, cl_Md⟩
theorem k_La_39 : CV "PromiseNamesLaw" 39 m_Md_holds 2 10 := ⟨ok_Md_holds, (tbG_of (tm_5 (ta 171 rfl)) rfl), (tbG_of (tm_5 (ta 172 rfl)) rfl), (tbG_of (tm_5 (ta 173 rfl)) rfl), by decide +kernel, _, _, _, cl_Md⟩
theorem k_La_43 : CV "PromiseNamesLaw" 43 m_Md_promise 2 10 := ⟨ok_Md_promise, (tbG_of (tm_5 (ta 175 rfl)) rfl), (tbG_of (tm_5 (ta 176 rfl)) rfl), (tbG_of (tm_5 (ta 177 rfl)) rfl), by decide +kernel, _, _, _, cl_Md⟩
theorem k_Md_259 : CV R_Md 259 m_Md_isPromise 1 10 := ⟨ok_Md_isPromise, (tbG_of (tm_5 (ta 179 rfl)) rfl), (tbG_of (tm_5 (ta 181 rfl)) rfl), (tbG_of (tm_0 (ta 49 rfl)) rfl), by decide +kernel, _, _, _, cl_Md⟩
theorem k_Md_262 : CV R_Md 262 m_Md_holderIn 2 10 := ⟨ok_Md_holderIn, (tbG_of (tm_5 (ta 183 rfl)) rfl), (tbG_of (tm_5 (ta 185 rfl)) rfl), (tbG_of (tm_0 (ta 50 rfl)) rfl), by decide +kernel, _, _, _, cl_Md⟩
theorem k_Md_232 : CV R_Md 232 m_Md_placeIn 3 10 := ⟨ok_Md_placeIn, (tbG_of (tm_5 (ta 187 rfl)) rfl), (tbG_of (tm_5 (ta 189 rfl)) rfl), (tbG_of (tm_0 (ta 51 rfl)) rfl), by decide +kernel, _, _, _, cl_Md⟩
theorem k_Md_245 : CV R_Md 245 m_Md_isOpen 2 10 := ⟨ok_Md_isOpen, (tbG_of (tm_5 (ta 191 rfl)) rfl), (tbG_of (tm_5 (ta 193 rfl)) rfl), (tbG_of (tm_0 (ta 52 rfl)) rfl), by decide +kernel, _, _, _, cl_Md⟩
theorem k_Md_236 : CS R_Md 236 m_Md_has 2 := ⟨ok_Md_has, Or.inl (tbG_of (tm_5 (ta 195 rfl)) rfl), (tbG_of (tm_5 (ta 196 rfl)) rfl), by decide +kernel⟩
theorem k_La_47 : CV "PromiseNamesLaw" 47 m_Md_as 2 10 := ⟨ok_Md_as, (tbG_of (tm_5 (ta 198 rfl)) rfl), (tbG_of (tm_5 (ta 199 rfl)) rfl), (tbG_of (tm_5 (ta 200 rfl)) rfl), by decide +kernel, _, _, _, cl_Md⟩
theorem k_Md_267 : CS R_Md 267 m_Md_isA 2 := ⟨ok_Md_isA, Or.inl (tbG_of (tm_5 (ta 203 rfl)) rfl), (tbG_of (tm_5 (ta 204 rfl)) rfl), by decide +kernel⟩
theorem k_Md_248 : CS R_Md 248 m_Md_does 2 := ⟨ok_Md_does, Or.inl (tbG_of (tm_5 (ta 206 rfl)) rfl), (tbG_of (tm_5 (ta 207 rfl)) rfl), by decide +kernel⟩
theorem k_La_51 : CV "PromiseNamesLaw" 51 m_Md_year 1 10 := ⟨ok_Md_year, (tbG_of (tm_5 (ta 209 rfl)) rfl), (tbG_of (tm_5 (ta 210 rfl)) rfl), (tbG_of (tm_5 (ta 211 rfl)) rfl), by decide +kernel, _, _, _, cl_Md⟩
theorem k_Md_275 : CV R_Md 275 m_Md_minds 0 10 := ⟨ok_Md_minds, (tbG_of (tm_5 (ta 214 rfl)) rfl), (tbG_of (tm_5 (ta 216 rfl)) rfl), (tbG_of (tm_0 (ta 53 rfl)) rfl), by decide +kernel, _, _, _, cl_Md⟩
theorem k_Md_270 : CV R_Md 270 m_Md_bring 2 10 := ⟨ok_Md_bring, (tbG_of (tm_5 (ta 218 rfl)) rfl), (tbG_of (tm_5 (ta 220 rfl)) rfl), (tbG_of (tm_0 (ta 54 rfl)) rfl), by decide +kernel, _, _, _, cl_Md⟩
theorem k_Md_278 : CV R_Md 278 m_Md_passesYear 1 10 := ⟨ok_Md_passesYear, (tbG_of (tm_5 (ta 222 rfl)) rfl), (tbG_of (tm_5 (ta 224 rfl)) rfl), (tbG_of (tm_0 (ta 55 rfl)) rfl), by decide +kernel, _, _, _, cl_Md⟩
theorem k_Md_242 : CV R_Md 242 m_Md_becomesKept 3 10 := ⟨ok_Md_becomesKept, (tbG_of (tm_5 (ta 226 rfl)) rfl), (tbG_of (tm_5 (ta 228 rfl)) rfl), (tbG_of (tm_0 (ta 56 rfl)) rfl), by decide +kernel, _, _, _, cl_Md⟩
theorem k_Md_239 : CV R_Md 239 m_Md_leavesOne 3 10 := ⟨ok_Md_leavesOne, (tbG_of (tm_5 (ta 230 rfl)) rfl), (tbG_of (tm_5 (ta 232 rfl)) rfl), (tbG_of (tm_0 (ta 57 rfl)) rfl), by decide +kernel, _, _, _, cl_Md⟩
theorem k_Md_252 : CV R_Md 252 m_Md_dies 2 10 := ⟨ok_Md_dies, (tbG_of (tm_5 (ta 234 rfl)) rfl), (tbG_of (tm_5 (ta 236 rfl)) rfl), (tbG_of (tm_0 (ta 58 rfl)) rfl), by decide +kernel, _, _, _, cl_Md⟩
theorem k_La_55 : CV "PromiseNamesLaw" 55 m_Md_give 2 10 := ⟨ok_Md_give, (tbG_of (tm_5 (ta 238 rfl)) rfl), (tbG_of (tm_5 (ta 239 rfl)) rfl), (tbG_of (tm_6 (ta 0 rfl)) rfl), by decide +kernel, _, _, _, cl_Md⟩
theorem k_La_59 : CV "PromiseNamesLaw" 59 m_Md_shorten 1 10 := ⟨ok_Md_shorten, (tbG_of (tm_6 (ta 2 rfl)) rfl), (tbG_of (tm_6 (ta 3 rfl)) rfl), (tbG_of (tm_6 (ta 4 rfl)) rfl), by decide +kernel, _, _, _, cl_Md⟩
theorem k_La_63 : CV "PromiseNamesLaw" 63 m_Md_ahead 1 10 := ⟨ok_Md_ahead, (tbG_of (tm_6 (ta 6 rfl)) rfl), (tbG_of (tm_6 (ta 7 rfl)) rfl), (tbG_of (tm_6 (ta 8 rfl)) rfl), by decide +kernel, _, _, _, cl_Md⟩
theorem k_La_67 : CV "PromiseNamesLaw" 67 m_Md_undo 0 10 := ⟨ok_Md_undo, (tbG_of (tm_6 (ta 10 rfl)) rfl), (tbG_of (tm_6 (ta 11 rfl)) rfl), (tbG_of (tm_6 (ta 12 rfl)) rfl), by decide +kernel, _, _, _, cl_Md⟩
theorem k_La_71 : CV "PromiseNamesLaw" 71 m_Md_keep 1 10 := ⟨ok_Md_keep, (tbG_of (tm_6 (ta 14 rfl)) rfl), (tbG_of (tm_6 (ta 15 rfl)) rfl), (tbG_of (tm_6 (ta 16 rfl)) rfl), by decide +kernel, _, _, _, cl_Md⟩
theorem k_La_75 : CV "PromiseNamesLaw" 75 m_Md_back 1 10 := ⟨ok_Md_back, (tbG_of (tm_6 (ta 18 rfl)) rfl), (tbG_of (tm_6 (ta 19 rfl)) rfl), (tbG_of (tm_6 (ta 20 rfl)) rfl), by decide +kernel, _, _, _, cl_Md⟩
theorem k_La_80 : CV "PromiseNamesLaw" 80 m_Md_behind 3 10 := ⟨ok_Md_behind, (tbG_of (tm_6 (ta 22 rfl)) rfl), (tbG_of (tm_6 (ta 23 rfl)) rfl), (tbG_of (tm_6 (ta 24 rfl)) rfl), by decide +kernel, _, _, _, cl_Md⟩
theorem k_Md_284 : CV R_Md 284 m_Md_tries 0 10 := ⟨ok_Md_tries, (tbG_of (tm_6 (ta 27 rfl)) rfl), (tbG_of (tm_6 (ta 29 rfl)) rfl), (tbG_of (tm_0 (ta 59 rfl)) rfl), by decide +kernel, _, _, _, cl_Md⟩
theorem k_Md_287 : CV R_Md 287 m_Md_goesOn 1 10 := ⟨ok_Md_goesOn, (tbG_of (tm_6 (ta 31 rfl)) rfl), (tbG_of (tm_6 (ta 33 rfl)) rfl), (tbG_of (tm_0 (ta 60 rfl)) rfl), by decide +kernel, _, _, _, cl_Md⟩
theorem k_La_84 : CV "PromiseNamesLaw" 84 m_Md_keeps 1 10 := ⟨ok_Md_keeps, (tbG_of (tm_6 (ta 35 rfl)) rfl), (tbG_of (tm_6 (ta 36 rfl)) rfl), (tbG_of (tm_6 (ta 37 rfl)) rfl), by decide +kernel, _, _, _, cl_Md⟩
theorem k_La_88 : CV "PromiseNamesLaw" 88 m_Md_just 1 10 := ⟨ok_Md_just, (tbG_of (tm_6 (ta 39 rfl)) rfl), (tbG_of (tm_6 (ta 40 rfl)) rfl), (tbG_of (tm_6 (ta 41 rfl)) rfl), by decide +kernel, _, _, _, cl_Md⟩
theorem k_La_92 : CV "PromiseNamesLaw" 92 m_Md_stuck 0 10 := ⟨ok_Md_stuck, (tbG_of (tm_6 (ta 43 rfl)) rfl), (tbG_of (tm_6 (ta 44 rfl)) rfl), (tbG_of (tm_6 (ta 45 rfl)) rfl), by decide +kernel, _, _, _, cl_Md⟩
theorem k_La_96 : CV "PromiseNamesLaw" 96 m_Md_order 3 10 := ⟨ok_Md_order, (tbG_of (tm_6 (ta 47 rfl)) rfl), (tbG_of (tm_6 (ta 48 rfl)) rfl), (tbG_of (tm_6 (ta 49 rfl)) rfl), by decide +kernel, _, _, _, cl_Md⟩
theorem k_Md_295 : CV R_Md 295 m_Md_bestOrder 2 10 := ⟨ok_Md_bestOrder, (tbG_of (tm_6 (ta 52 rfl)) rfl), (tbG_of (tm_6 (ta 54 rfl)) rfl), (tbG_of (tm_0 (ta 61 rfl)) rfl), by decide +kernel, _, _, _, cl_Md⟩
theorem k_Md_290 : CS R_Md 290 m_Md_ones 1 := ⟨ok_Md_ones, Or.inl (tbG_of (tm_6 (ta 56 rfl)) rfl), (tbG_of (tm_6 (ta 57 rfl)) rfl), by decide +kernel⟩
theorem k_La_100 : CV "PromiseNamesLaw" 100 m_Md_godfathers 2 10 := ⟨ok_Md_godfathers, (tbG_of (tm_6 (ta 59 rfl)) rfl), (tbG_of (tm_6 (ta 60 rfl)) rfl), (tbG_of (tm_6 (ta 61 rfl)) rfl), by decide +kernel, _, _, _, cl_Md⟩
theorem k_La_104 : CV "PromiseNamesLaw" 104 m_Md_peace 0 10 := ⟨ok_Md_peace, (tbG_of (tm_6 (ta 65 rfl)) rfl), (tbG_of (tm_6 (ta 66 rfl)) rfl), (tbG_of (tm_6 (ta 67 rfl)) rfl), by decide +kernel, _, _, _, cl_Md⟩
theorem k_La_109 : CV "PromiseNamesLaw" 109 m_Md_idle 4 10 := ⟨ok_Md_idle, (tbG_of (tm_6 (ta 69 rfl)) rfl), (tbG_of (tm_6 (ta 70 rfl)) rfl), (tbG_of (tm_6 (ta 71 rfl)) rfl), by decide +kernel, _, _, _, cl_Md⟩
theorem k_La_113 : CV "PromiseNamesLaw" 113 m_Md_seen 3 10 := ⟨ok_Md_seen, (tbG_of (tm_6 (ta 75 rfl)) rfl), (tbG_of (tm_6 (ta 76 rfl)) rfl), (tbG_of (tm_6 (ta 77 rfl)) rfl), by decide +kernel, _, _, _, cl_Md⟩
theorem k_La_117 : CV "PromiseNamesLaw" 117 m_Md_forget 0 10 := ⟨ok_Md_forget, (tbG_of (tm_6 (ta 80 rfl)) rfl), (tbG_of (tm_6 (ta 81 rfl)) rfl), (tbG_of (tm_6 (ta 82 rfl)) rfl), by decide +kernel, _, _, _, cl_Md⟩
theorem k_La_121 : CV "PromiseNamesLaw" 121 m_Md_kinds 0 10 := ⟨ok_Md_kinds, (tbG_of (tm_6 (ta 84 rfl)) rfl), (tbG_of (tm_6 (ta 85 rfl)) rfl), (tbG_of (tm_6 (ta 86 rfl)) rfl), by decide +kernel, _, _, _, cl_Md⟩
theorem k_La_125 : CV "PromiseNamesLaw" 125 m_Md_attempt 0 10 := ⟨ok_Md_attempt, (tbG_of (tm_6 (ta 88 rfl)) rfl), (tbG_of (tm_6 (ta 89 rfl)) rfl), (tbG_of (tm_6 (ta 90 rfl)) rfl), by decide +kernel, _, _, _, cl_Md⟩
theorem k_Md_308 : CV R_Md 308 m_Md_kinds 0 10 := ⟨ok_Md_kinds, (tbG_of (tm_6 (ta 92 rfl)) rfl), (tbG_of (tm_6 (ta 85 rfl)) rfl), (tbG_of (tm_6 (ta 86 rfl)) rfl), by decide +kernel, _, _, _, cl_Md⟩
theorem k_La_129 : CV "PromiseNamesLaw" 129 m_Md_register 2 10 := ⟨ok_Md_register, (tbG_of (tm_6 (ta 93 rfl)) rfl), (tbG_of (tm_6 (ta 94 rfl)) rfl), (tbG_of (tm_6 (ta 95 rfl)) rfl), by decide +kernel, _, _, _, cl_Md⟩
theorem k_Md_311 : CS R_Md 311 m_Md_isRegister 1 := ⟨ok_Md_isRegister, Or.inl (tbG_of (tm_6 (ta 97 rfl)) rfl), (tbG_of (tm_6 (ta 98 rfl)) rfl), by decide +kernel⟩
theorem k_La_133 : CV "PromiseNamesLaw" 133 m_Md_page 3 10 := ⟨ok_Md_page, (tbG_of (tm_6 (ta 100 rfl)) rfl), (tbG_of (tm_6 (ta 101 rfl)) rfl), (tbG_of (tm_6 (ta 102 rfl)) rfl), by decide +kernel, _, _, _, cl_Md⟩
theorem k_Md_314 : CV R_Md 314 m_Md_freePage 0 10 := ⟨ok_Md_freePage, (tbG_of (tm_6 (ta 104 rfl)) rfl), (tbG_of (tm_6 (ta 106 rfl)) rfl), (tbG_of (tm_0 (ta 62 rfl)) rfl), by decide +kernel, _, _, _, cl_Md⟩
theorem k_La_137 : CV "PromiseNamesLaw" 137 m_Md_bind 4 10 := ⟨ok_Md_bind, (tbG_of (tm_6 (ta 108 rfl)) rfl), (tbG_of (tm_6 (ta 109 rfl)) rfl), (tbG_of (tm_6 (ta 110 rfl)) rfl), by decide +kernel, _, _, _, cl_Md⟩
theorem k_Md_317 : CV R_Md 317 m_Md_againstTwo 4 10 := ⟨ok_Md_againstTwo, (tbG_of (tm_6 (ta 112 rfl)) rfl), (tbG_of (tm_6 (ta 114 rfl)) rfl), (tbG_of (tm_0 (ta 63 rfl)) rfl), by decide +kernel, _, _, _, cl_Md⟩
theorem k_La_141 : CV "PromiseNamesLaw" 141 m_Md_same 4 10 := ⟨ok_Md_same, (tbG_of (tm_6 (ta 116 rfl)) rfl), (tbG_of (tm_6 (ta 117 rfl)) rfl), (tbG_of (tm_6 (ta 118 rfl)) rfl), by decide +kernel, _, _, _, cl_Md⟩
theorem k_La_146 : CV "PromiseNamesLaw" 146 m_Md_enter 5 10 := ⟨ok_Md_enter, (tbG_of (tm_6 (ta 120 rfl)) rfl), (tbG_of (tm_6 (ta 121 rfl)) rfl), (tbG_of (tm_6 (ta 122 rfl)) rfl), by decide +kernel, _, _, _, cl_Md⟩
theorem k_Md_325 : CV R_Md 325 m_Md_againstLine 3 10 := ⟨ok_Md_againstLine, (tbG_of (tm_6 (ta 126 rfl)) rfl), (tbG_of (tm_6 (ta 128 rfl)) rfl), (tbG_of (tm_0 (ta 64 rfl)) rfl), by decide +kernel, _, _, _, cl_Md⟩
theorem k_La_150 : CV "PromiseNamesLaw" 150 m_Md_read 4 10 := ⟨ok_Md_read, (tbG_of (tm_6 (ta 130 rfl)) rfl), (tbG_of (tm_6 (ta 131 rfl)) rfl), (tbG_of (tm_6 (ta 132 rfl)) rfl), by decide +kernel, _, _, _, cl_Md⟩
theorem k_La_154 : CV "PromiseNamesLaw" 154 m_Md_pages 2 10 := ⟨ok_Md_pages, (tbG_of (tm_6 (ta 135 rfl)) rfl), (tbG_of (tm_6 (ta 136 rfl)) rfl), (tbG_of (tm_6 (ta 137 rfl)) rfl), by decide +kernel, _, _, _, cl_Md⟩
theorem k_La_158 : CV "PromiseNamesLaw" 158 m_Md_drop 1 10 := ⟨ok_Md_drop, (tbG_of (tm_6 (ta 140 rfl)) rfl), (tbG_of (tm_6 (ta 141 rfl)) rfl), (tbG_of (tm_6 (ta 142 rfl)) rfl), by decide +kernel, _, _, _, cl_Md⟩
theorem k_La_162 : CV "PromiseNamesLaw" 162 m_Md_count 1 10 := ⟨ok_Md_count, (tbG_of (tm_6 (ta 144 rfl)) rfl), (tbG_of (tm_6 (ta 145 rfl)) rfl), (tbG_of (tm_6 (ta 146 rfl)) rfl), by decide +kernel, _, _, _, cl_Md⟩
theorem k_Md_331 : CV R_Md 331 m_Md_dead 0 10 := ⟨ok_Md_dead, (tbG_of (tm_6 (ta 148 rfl)) rfl), (tbG_of (tm_6 (ta 150 rfl)) rfl), (tbG_of (tm_0 (ta 65 rfl)) rfl), by decide +kernel, _, _, _, cl_Md⟩
theorem k_Md_334 : CV R_Md 334 m_Md_doneAll 0 10 := ⟨ok_Md_doneAll, (tbG_of (tm_6 (ta 152 rfl)) rfl), (tbG_of (tm_6 (ta 154 rfl)) rfl), (tbG_of (tm_0 (ta 66 rfl)) rfl), by decide +kernel, _, _, _, cl_Md⟩
theorem k_Md_337 : CV R_Md 337 m_Md_registersThere 0 10 := ⟨ok_Md_registersThere, (tbG_of (tm_6 (ta 156 rfl)) rfl), (tbG_of (tm_6 (ta 158 rfl)) rfl), (tbG_of (tm_0 (ta 67 rfl)) rfl), by decide +kernel, _, _, _, cl_Md⟩
theorem n_La_7 : NL "PromiseNamesLaw" 7 0 10 := ⟨R_Pn, F_Pn, t_Pn, cl_Pn, (tbG_of (tm_1 (ta 21 rfl)) rfl), (tbG_of (tm_1 (ta 22 rfl)) rfl), (tbG_of (tm_1 (ta 1 rfl)) rfl)⟩
theorem w_La_7 : Cond.classLink "PromiseNamesLaw" 7 R_Pn ∈ tbG := (tbG_of (tm_1 (ta 21 rfl)) rfl)
theorem o_Pn_1 : Cond.methodLink R_Pn 1 Lib.objectInit ∈ tbG := (tbG_of (tm_1 (ta 26 rfl)) rfl)
theorem n_Pn_7 : NL R_Pn 7 1 10 := ⟨R_Tl, F_Tl, t_Tl, cl_Tl, (tbG_of (tm_1 (ta 29 rfl)) rfl), (tbG_of (tm_1 (ta 30 rfl)) rfl), (tbG_of (tm_1 (ta 2 rfl)) rfl)⟩
theorem w_Pn_7 : Cond.classLink R_Pn 7 R_Tl ∈ tbG := (tbG_of (tm_1 (ta 29 rfl)) rfl)
theorem o_Tl_3 : Cond.methodLink R_Tl 3 Lib.objectInit ∈ tbG := (tbG_of (tm_1 (ta 34 rfl)) rfl)
theorem n_Pn_19 : NL R_Pn 19 2 7 := ⟨R_Rd, F_Rd, t_Rd, cl_Rd, (tbG_of (tm_1 (ta 86 rfl)) rfl), (tbG_of (tm_1 (ta 87 rfl)) rfl), (tbG_of (tm_1 (ta 3 rfl)) rfl)⟩
theorem w_Pn_19 : Cond.classLink R_Pn 19 R_Rd ∈ tbG := (tbG_of (tm_1 (ta 86 rfl)) rfl)
theorem o_Rd_3 : Cond.methodLink R_Rd 3 Lib.objectInit ∈ tbG := (tbG_of (tm_1 (ta 91 rfl)) rfl)
theorem n_Pn_26 : NL R_Pn 26 3 8 := ⟨R_St, F_St, t_St, cl_St, (tbG_of (tm_1 (ta 116 rfl)) rfl), (tbG_of (tm_1 (ta 117 rfl)) rfl), (tbG_of (tm_1 (ta 4 rfl)) rfl)⟩
theorem w_Pn_26 : Cond.classLink R_Pn 26 R_St ∈ tbG := (tbG_of (tm_1 (ta 116 rfl)) rfl)
theorem o_St_3 : Cond.methodLink R_St 3 Lib.objectInit ∈ tbG := (tbG_of (tm_1 (ta 121 rfl)) rfl)
theorem n_Pn_35 : NL R_Pn 35 4 3 := ⟨R_Ps, F_Ps, t_Ps, cl_Ps, (tbG_of (tm_1 (ta 157 rfl)) rfl), (tbG_of (tm_1 (ta 158 rfl)) rfl), (tbG_of (tm_1 (ta 5 rfl)) rfl)⟩
theorem w_Pn_35 : Cond.classLink R_Pn 35 R_Ps ∈ tbG := (tbG_of (tm_1 (ta 157 rfl)) rfl)
theorem o_Ps_1 : Cond.methodLink R_Ps 1 Lib.objectInit ∈ tbG := (tbG_of (tm_1 (ta 162 rfl)) rfl)
theorem n_Ps_9 : NL R_Ps 9 3 8 := ⟨R_St, F_St, t_St, cl_St, (tbG_of (tm_1 (ta 163 rfl)) rfl), (tbG_of (tm_1 (ta 117 rfl)) rfl), (tbG_of (tm_1 (ta 4 rfl)) rfl)⟩
theorem w_Ps_9 : Cond.classLink R_Ps 9 R_St ∈ tbG := (tbG_of (tm_1 (ta 163 rfl)) rfl)
theorem n_Pn_50 : NL R_Pn 50 5 7 := ⟨R_Fo, F_Fo, t_Fo, cl_Fo, (tbG_of (tm_1 (ta 177 rfl)) rfl), (tbG_of (tm_1 (ta 178 rfl)) rfl), (tbG_of (tm_1 (ta 6 rfl)) rfl)⟩
theorem w_Pn_50 : Cond.classLink R_Pn 50 R_Fo ∈ tbG := (tbG_of (tm_1 (ta 177 rfl)) rfl)
theorem o_Fo_3 : Cond.methodLink R_Fo 3 Lib.objectInit ∈ tbG := (tbG_of (tm_1 (ta 182 rfl)) rfl)
theorem n_Fo_25 : NL R_Fo 25 3 8 := ⟨R_St, F_St, t_St, cl_St, (tbG_of (tm_1 (ta 183 rfl)) rfl), (tbG_of (tm_1 (ta 117 rfl)) rfl), (tbG_of (tm_1 (ta 4 rfl)) rfl)⟩
theorem w_Fo_25 : Cond.classLink R_Fo 25 R_St ∈ tbG := (tbG_of (tm_1 (ta 183 rfl)) rfl)
theorem n_Pn_57 : NL R_Pn 57 6 4 := ⟨R_Sg, F_Sg, t_Sg, cl_Sg, (tbG_of (tm_1 (ta 208 rfl)) rfl), (tbG_of (tm_1 (ta 209 rfl)) rfl), (tbG_of (tm_1 (ta 7 rfl)) rfl)⟩
theorem w_Pn_57 : Cond.classLink R_Pn 57 R_Sg ∈ tbG := (tbG_of (tm_1 (ta 208 rfl)) rfl)
theorem o_Sg_3 : Cond.methodLink R_Sg 3 Lib.objectInit ∈ tbG := (tbG_of (tm_1 (ta 213 rfl)) rfl)
theorem n_Pn_64 : NL R_Pn 64 7 1 := ⟨R_Sh, F_Sh, t_Sh, cl_Sh, (tbG_of (tm_1 (ta 228 rfl)) rfl), (tbG_of (tm_1 (ta 229 rfl)) rfl), (tbG_of (tm_1 (ta 8 rfl)) rfl)⟩
theorem w_Pn_64 : Cond.classLink R_Pn 64 R_Sh ∈ tbG := (tbG_of (tm_1 (ta 228 rfl)) rfl)
theorem o_Sh_3 : Cond.methodLink R_Sh 3 Lib.objectInit ∈ tbG := (tbG_of (tm_1 (ta 233 rfl)) rfl)
theorem n_Sh_11 : NL R_Sh 11 8 1 := ⟨R_Rg, F_Rg, t_Rg, cl_Rg, (tbG_of (tm_1 (ta 234 rfl)) rfl), (tbG_of (tm_4 (ta 50 rfl)) rfl), (tbG_of (tm_1 (ta 19 rfl)) rfl)⟩
theorem w_Sh_11 : Cond.classLink R_Sh 11 R_Rg ∈ tbG := (tbG_of (tm_1 (ta 234 rfl)) rfl)
theorem a_Tl_43 : Cond.methodLink R_Tl 43 arraycopyName ∈ tbG := (tbG_of (tm_2 (ta 55 rfl)) rfl)
theorem a_St_34 : Cond.methodLink R_St 34 arraycopyName ∈ tbG := (tbG_of (tm_2 (ta 212 rfl)) rfl)
theorem z_Ps_29 : Cond.methodLink R_Ps 29 Lib.Math.min.name ∈ tbG := (tbG_of (tm_3 (ta 34 rfl)) rfl)
theorem q_In_265 : Cond.constant "java/lang/Integer" 265 1431655765 ∈ tbG := (tbG_of (tm_3 (ta 174 rfl)) rfl)
theorem q_In_266 : Cond.constant "java/lang/Integer" 266 858993459 ∈ tbG := (tbG_of (tm_3 (ta 175 rfl)) rfl)
theorem q_In_267 : Cond.constant "java/lang/Integer" 267 252645135 ∈ tbG := (tbG_of (tm_3 (ta 176 rfl)) rfl)
theorem a_Fo_90 : Cond.methodLink R_Fo 90 arraycopyName ∈ tbG := (tbG_of (tm_3 (ta 177 rfl)) rfl)
theorem z_Fo_100 : Cond.methodLink R_Fo 100 Lib.Math.min.name ∈ tbG := (tbG_of (tm_3 (ta 199 rfl)) rfl)
theorem z_Sg_44 : Cond.methodLink R_Sg 44 Lib.Math.max.name ∈ tbG := (tbG_of (tm_4 (ta 39 rfl)) rfl)
theorem n_Pn_237 : NL R_Pn 237 8 1 := ⟨R_Rg, F_Rg, t_Rg, cl_Rg, (tbG_of (tm_4 (ta 49 rfl)) rfl), (tbG_of (tm_4 (ta 50 rfl)) rfl), (tbG_of (tm_1 (ta 19 rfl)) rfl)⟩
theorem w_Pn_237 : Cond.classLink R_Pn 237 R_Rg ∈ tbG := (tbG_of (tm_4 (ta 49 rfl)) rfl)
theorem o_Rg_1 : Cond.methodLink R_Rg 1 Lib.objectInit ∈ tbG := (tbG_of (tm_4 (ta 54 rfl)) rfl)
theorem z_Rg_7 : Cond.methodLink R_Rg 7 Lib.Math.max.name ∈ tbG := (tbG_of (tm_4 (ta 55 rfl)) rfl)
theorem n_Rg_13 : NL R_Rg 13 9 2 := ⟨R_Pg, F_Pg, t_Pg, cl_Pg, (tbG_of (tm_4 (ta 56 rfl)) rfl), (tbG_of (tm_4 (ta 74 rfl)) rfl), (tbG_of (tm_1 (ta 20 rfl)) rfl)⟩
theorem w_Rg_13 : Cond.classLink R_Rg 13 R_Pg ∈ tbG := (tbG_of (tm_4 (ta 56 rfl)) rfl)
theorem n_Pn_248 : NL R_Pn 248 9 2 := ⟨R_Pg, F_Pg, t_Pg, cl_Pg, (tbG_of (tm_4 (ta 73 rfl)) rfl), (tbG_of (tm_4 (ta 74 rfl)) rfl), (tbG_of (tm_1 (ta 20 rfl)) rfl)⟩
theorem w_Pn_248 : Cond.classLink R_Pn 248 R_Pg ∈ tbG := (tbG_of (tm_4 (ta 73 rfl)) rfl)
theorem o_Pg_1 : Cond.methodLink R_Pg 1 Lib.objectInit ∈ tbG := (tbG_of (tm_4 (ta 78 rfl)) rfl)
theorem z_Pg_7 : Cond.methodLink R_Pg 7 Lib.Math.max.name ∈ tbG := (tbG_of (tm_4 (ta 79 rfl)) rfl)
theorem q_Pn_268 : Cond.constant R_Pn 268 50000 ∈ tbG := (tbG_of (tm_4 (ta 121 rfl)) rfl)
theorem n_La_10 : NL "PromiseNamesLaw" 10 10 45 := ⟨R_Md, F_Md, t_Md, cl_Md, (tbG_of (tm_4 (ta 166 rfl)) rfl), (tbG_of (tm_4 (ta 167 rfl)) rfl), (tbG_of (tm_1 (ta 9 rfl)) rfl)⟩
theorem w_La_10 : Cond.classLink "PromiseNamesLaw" 10 R_Md ∈ tbG := (tbG_of (tm_4 (ta 166 rfl)) rfl)
theorem o_Md_1 : Cond.methodLink R_Md 1 Lib.objectInit ∈ tbG := (tbG_of (tm_4 (ta 171 rfl)) rfl)
theorem q_Md_118 : Cond.constantLong R_Md 118 255 ∈ tbG := (tbG_of (tm_5 (ta 72 rfl)) rfl)
theorem q_Md_123 : Cond.constantLong R_Md 123 97 ∈ tbG := (tbG_of (tm_5 (ta 99 rfl)) rfl)
theorem q_Md_125 : Cond.constantLong R_Md 125 122 ∈ tbG := (tbG_of (tm_5 (ta 100 rfl)) rfl)
theorem q_Md_127 : Cond.constantLong R_Md 127 48 ∈ tbG := (tbG_of (tm_5 (ta 101 rfl)) rfl)
theorem q_Md_129 : Cond.constantLong R_Md 129 57 ∈ tbG := (tbG_of (tm_5 (ta 102 rfl)) rfl)
theorem q_Md_156 : Cond.constantLong R_Md 156 2003397740 ∈ tbG := (tbG_of (tm_5 (ta 111 rfl)) rfl)
theorem q_Md_162 : Cond.constantLong R_Md 162 7364985 ∈ tbG := (tbG_of (tm_5 (ta 116 rfl)) rfl)
theorem q_Md_164 : Cond.constantLong R_Md 164 495673373300 ∈ tbG := (tbG_of (tm_5 (ta 117 rfl)) rfl)
theorem q_Md_166 : Cond.constantLong R_Md 166 1936225646 ∈ tbG := (tbG_of (tm_5 (ta 118 rfl)) rfl)
theorem q_Md_168 : Cond.constantLong R_Md 168 1702258034 ∈ tbG := (tbG_of (tm_5 (ta 119 rfl)) rfl)
theorem q_Md_170 : Cond.constantLong R_Md 170 7168366 ∈ tbG := (tbG_of (tm_5 (ta 120 rfl)) rfl)
theorem q_Md_172 : Cond.constantLong R_Md 172 126943972910693 ∈ tbG := (tbG_of (tm_5 (ta 121 rfl)) rfl)
theorem q_Md_174 : Cond.constantLong R_Md 174 123563833652072 ∈ tbG := (tbG_of (tm_5 (ta 122 rfl)) rfl)
theorem q_Md_265 : Cond.constantLong R_Md 265 5 ∈ tbG := (tbG_of (tm_5 (ta 202 rfl)) rfl)
theorem q_Md_273 : Cond.constantLong R_Md 273 12 ∈ tbG := (tbG_of (tm_5 (ta 213 rfl)) rfl)
theorem q_Md_282 : Cond.constantLong R_Md 282 60 ∈ tbG := (tbG_of (tm_6 (ta 26 rfl)) rfl)
theorem q_Md_293 : Cond.constantLong R_Md 293 30 ∈ tbG := (tbG_of (tm_6 (ta 51 rfl)) rfl)
theorem q_Md_298 : Cond.constantLong R_Md 298 (-1) ∈ tbG := (tbG_of (tm_6 (ta 63 rfl)) rfl)
theorem q_Md_300 : Cond.constantLong R_Md 300 2 ∈ tbG := (tbG_of (tm_6 (ta 64 rfl)) rfl)
theorem q_Md_302 : Cond.constantLong R_Md 302 9 ∈ tbG := (tbG_of (tm_6 (ta 73 rfl)) rfl)
theorem q_Md_304 : Cond.constantLong R_Md 304 10 ∈ tbG := (tbG_of (tm_6 (ta 74 rfl)) rfl)
theorem q_Md_306 : Cond.constantLong R_Md 306 200 ∈ tbG := (tbG_of (tm_6 (ta 79 rfl)) rfl)
theorem q_Md_321 : Cond.constantLong R_Md 321 (-9999) ∈ tbG := (tbG_of (tm_6 (ta 124 rfl)) rfl)
theorem q_Md_323 : Cond.constantLong R_Md 323 9999 ∈ tbG := (tbG_of (tm_6 (ta 125 rfl)) rfl)
theorem q_Md_328 : Cond.constant R_Md 328 50000 ∈ tbG := (tbG_of (tm_6 (ta 134 rfl)) rfl)
theorem q_Md_329 : Cond.constantLong R_Md 329 3 ∈ tbG := (tbG_of (tm_6 (ta 139 rfl)) rfl)
end
