-- ===== PART A: goes FIRST, ahead of the names: the tables' words, and 'selects' of the private methods out of them =====
/-- a private method of a class that the tables say can be made, by its rows of tables_1 -/
def lw_okq (q : MethodName × Nat) : Prop := (q.1.cls ≠ "java/lang/invoke/MethodHandle" ∧ q.1.cls ≠ "java/lang/invoke/VarHandle") ∧ Cond.instantiable q.1.cls q.2 ∈ tables_1 ∧ Cond.privateMethod q.1 ∈ tables_1 ∧ Cond.instanceMethod q.1 ∈ tables_1
theorem lw_p0 : lw_okq (⟨"StepAway$Rows", "layerBehindSide", "(I)I"⟩, 7) := ⟨⟨by decide +kernel, by decide +kernel⟩, List.mem_of_getElem? (i := 302) (by decide +kernel), List.mem_of_getElem? (i := 314) (by decide +kernel), List.mem_of_getElem? (i := 315) (by decide +kernel)⟩
theorem lw_p1 : lw_okq (⟨"StepAway$Rows", "clearLayer", "([J)V"⟩, 7) := ⟨⟨by decide +kernel, by decide +kernel⟩, List.mem_of_getElem? (i := 302) (by decide +kernel), List.mem_of_getElem? (i := 322) (by decide +kernel), List.mem_of_getElem? (i := 323) (by decide +kernel)⟩
theorem lw_p2 : lw_okq (⟨"StepAway$Rows", "nextState", "(I)I"⟩, 7) := ⟨⟨by decide +kernel, by decide +kernel⟩, List.mem_of_getElem? (i := 302) (by decide +kernel), List.mem_of_getElem? (i := 326) (by decide +kernel), List.mem_of_getElem? (i := 327) (by decide +kernel)⟩
theorem lw_p3 : lw_okq (⟨"StepAway$Rows", "solveState", "(I)V"⟩, 7) := ⟨⟨by decide +kernel, by decide +kernel⟩, List.mem_of_getElem? (i := 302) (by decide +kernel), List.mem_of_getElem? (i := 330) (by decide +kernel), List.mem_of_getElem? (i := 331) (by decide +kernel)⟩
theorem lw_p4 : lw_okq (⟨"StepAway$Rows", "stayBits", "(I)J"⟩, 7) := ⟨⟨by decide +kernel, by decide +kernel⟩, List.mem_of_getElem? (i := 302) (by decide +kernel), List.mem_of_getElem? (i := 334) (by decide +kernel), List.mem_of_getElem? (i := 335) (by decide +kernel)⟩
theorem lw_p5 : lw_okq (⟨"StepAway$Rows", "gatherGifts", "(I)V"⟩, 7) := ⟨⟨by decide +kernel, by decide +kernel⟩, List.mem_of_getElem? (i := 302) (by decide +kernel), List.mem_of_getElem? (i := 342) (by decide +kernel), List.mem_of_getElem? (i := 343) (by decide +kernel)⟩
theorem lw_p6 : lw_okq (⟨"StepAway$Rows", "layOnce", "(IJ)V"⟩, 7) := ⟨⟨by decide +kernel, by decide +kernel⟩, List.mem_of_getElem? (i := 302) (by decide +kernel), List.mem_of_getElem? (i := 349) (by decide +kernel), List.mem_of_getElem? (i := 350) (by decide +kernel)⟩
theorem lw_p7 : lw_okq (⟨"StepAway$Rows", "layTurns", "(IJ)V"⟩, 7) := ⟨⟨by decide +kernel, by decide +kernel⟩, List.mem_of_getElem? (i := 302) (by decide +kernel), List.mem_of_getElem? (i := 353) (by decide +kernel), List.mem_of_getElem? (i := 354) (by decide +kernel)⟩
theorem lw_p8 : lw_okq (⟨"StepAway$Tape", "appendFour", "(I)V"⟩, 2) := ⟨⟨by decide +kernel, by decide +kernel⟩, List.mem_of_getElem? (i := 29) (by decide +kernel), List.mem_of_getElem? (i := 549) (by decide +kernel), List.mem_of_getElem? (i := 550) (by decide +kernel)⟩
theorem lw_p9 : lw_okq (⟨"StepAway$Reader", "takeKeyword", "(Ljava/lang/String;)Z"⟩, 7) := ⟨⟨by decide +kernel, by decide +kernel⟩, List.mem_of_getElem? (i := 47) (by decide +kernel), List.mem_of_getElem? (i := 575) (by decide +kernel), List.mem_of_getElem? (i := 576) (by decide +kernel)⟩
theorem lw_p10 : lw_okq (⟨"StepAway$Reader", "refuse", "(I)Z"⟩, 7) := ⟨⟨by decide +kernel, by decide +kernel⟩, List.mem_of_getElem? (i := 47) (by decide +kernel), List.mem_of_getElem? (i := 639) (by decide +kernel), List.mem_of_getElem? (i := 640) (by decide +kernel)⟩
theorem lw_p11 : lw_okq (⟨"StepAway$Reader", "takeNumber", "(II)Z"⟩, 7) := ⟨⟨by decide +kernel, by decide +kernel⟩, List.mem_of_getElem? (i := 47) (by decide +kernel), List.mem_of_getElem? (i := 643) (by decide +kernel), List.mem_of_getElem? (i := 644) (by decide +kernel)⟩
theorem lw_p12 : lw_okq (⟨"StepAway$Reader", "isNumber", "(II)Z"⟩, 7) := ⟨⟨by decide +kernel, by decide +kernel⟩, List.mem_of_getElem? (i := 47) (by decide +kernel), List.mem_of_getElem? (i := 647) (by decide +kernel), List.mem_of_getElem? (i := 648) (by decide +kernel)⟩
theorem lw_p13 : lw_okq (⟨"StepAway$Reader", "takeSemicolon", "()Z"⟩, 7) := ⟨⟨by decide +kernel, by decide +kernel⟩, List.mem_of_getElem? (i := 47) (by decide +kernel), List.mem_of_getElem? (i := 651) (by decide +kernel), List.mem_of_getElem? (i := 652) (by decide +kernel)⟩
theorem lw_p14 : lw_okq (⟨"StepAway$Reader", "takeClause", "()Z"⟩, 7) := ⟨⟨by decide +kernel, by decide +kernel⟩, List.mem_of_getElem? (i := 47) (by decide +kernel), List.mem_of_getElem? (i := 655) (by decide +kernel), List.mem_of_getElem? (i := 656) (by decide +kernel)⟩
theorem lw_p15 : lw_okq (⟨"StepAway$Reader", "takePiece", "()Z"⟩, 7) := ⟨⟨by decide +kernel, by decide +kernel⟩, List.mem_of_getElem? (i := 47) (by decide +kernel), List.mem_of_getElem? (i := 660) (by decide +kernel), List.mem_of_getElem? (i := 661) (by decide +kernel)⟩
def lw_privs_1 : List (MethodName × Nat) := [(⟨"StepAway$Rows", "layerBehindSide", "(I)I"⟩, 7), (⟨"StepAway$Rows", "clearLayer", "([J)V"⟩, 7), (⟨"StepAway$Rows", "nextState", "(I)I"⟩, 7), (⟨"StepAway$Rows", "solveState", "(I)V"⟩, 7), (⟨"StepAway$Rows", "stayBits", "(I)J"⟩, 7), (⟨"StepAway$Rows", "gatherGifts", "(I)V"⟩, 7), (⟨"StepAway$Rows", "layOnce", "(IJ)V"⟩, 7), (⟨"StepAway$Rows", "layTurns", "(IJ)V"⟩, 7), (⟨"StepAway$Tape", "appendFour", "(I)V"⟩, 2), (⟨"StepAway$Reader", "takeKeyword", "(Ljava/lang/String;)Z"⟩, 7), (⟨"StepAway$Reader", "refuse", "(I)Z"⟩, 7), (⟨"StepAway$Reader", "takeNumber", "(II)Z"⟩, 7), (⟨"StepAway$Reader", "isNumber", "(II)Z"⟩, 7), (⟨"StepAway$Reader", "takeSemicolon", "()Z"⟩, 7), (⟨"StepAway$Reader", "takeClause", "()Z"⟩, 7), (⟨"StepAway$Reader", "takePiece", "()Z"⟩, 7)]
theorem lw_r1 : ∀ q ∈ lw_privs_1, lw_okq q := List.forall_mem_cons.mpr ⟨lw_p0, List.forall_mem_cons.mpr ⟨lw_p1, List.forall_mem_cons.mpr ⟨lw_p2, List.forall_mem_cons.mpr ⟨lw_p3, List.forall_mem_cons.mpr ⟨lw_p4, List.forall_mem_cons.mpr ⟨lw_p5, List.forall_mem_cons.mpr ⟨lw_p6, List.forall_mem_cons.mpr ⟨lw_p7, List.forall_mem_cons.mpr ⟨lw_p8, List.forall_mem_cons.mpr ⟨lw_p9, List.forall_mem_cons.mpr ⟨lw_p10, List.forall_mem_cons.mpr ⟨lw_p11, List.forall_mem_cons.mpr ⟨lw_p12, List.forall_mem_cons.mpr ⟨lw_p13, List.forall_mem_cons.mpr ⟨lw_p14, List.forall_mem_cons.mpr ⟨lw_p15, fun _ h => absurd h List.not_mem_nil⟩⟩⟩⟩⟩⟩⟩⟩⟩⟩⟩⟩⟩⟩⟩⟩
theorem lw_p16 : lw_okq (⟨"StepAway$Reader", "takeWord", "()Z"⟩, 7) := ⟨⟨by decide +kernel, by decide +kernel⟩, List.mem_of_getElem? (i := 47) (by decide +kernel), List.mem_of_getElem? (i := 664) (by decide +kernel), List.mem_of_getElem? (i := 665) (by decide +kernel)⟩
theorem lw_p17 : lw_okq (⟨"StepAway$Reader", "takeWorths", "(I)Z"⟩, 7) := ⟨⟨by decide +kernel, by decide +kernel⟩, List.mem_of_getElem? (i := 47) (by decide +kernel), List.mem_of_getElem? (i := 683) (by decide +kernel), List.mem_of_getElem? (i := 684) (by decide +kernel)⟩
theorem lw_p18 : lw_okq (⟨"StepAway$Reader", "takeUndivided", "()Z"⟩, 7) := ⟨⟨by decide +kernel, by decide +kernel⟩, List.mem_of_getElem? (i := 47) (by decide +kernel), List.mem_of_getElem? (i := 688) (by decide +kernel), List.mem_of_getElem? (i := 689) (by decide +kernel)⟩
theorem lw_p19 : lw_okq (⟨"StepAway$Reader", "takeKnownPiece", "(I)I"⟩, 7) := ⟨⟨by decide +kernel, by decide +kernel⟩, List.mem_of_getElem? (i := 47) (by decide +kernel), List.mem_of_getElem? (i := 692) (by decide +kernel), List.mem_of_getElem? (i := 693) (by decide +kernel)⟩
theorem lw_p20 : lw_okq (⟨"StepAway$Reader", "takeKept", "()Z"⟩, 7) := ⟨⟨by decide +kernel, by decide +kernel⟩, List.mem_of_getElem? (i := 47) (by decide +kernel), List.mem_of_getElem? (i := 697) (by decide +kernel), List.mem_of_getElem? (i := 698) (by decide +kernel)⟩
theorem lw_p21 : lw_okq (⟨"StepAway$Reader", "onlyOnce", "(I)Z"⟩, 7) := ⟨⟨by decide +kernel, by decide +kernel⟩, List.mem_of_getElem? (i := 47) (by decide +kernel), List.mem_of_getElem? (i := 702) (by decide +kernel), List.mem_of_getElem? (i := 703) (by decide +kernel)⟩
theorem lw_p22 : lw_okq (⟨"StepAway$Reader", "takeAmounts", "([I)Z"⟩, 7) := ⟨⟨by decide +kernel, by decide +kernel⟩, List.mem_of_getElem? (i := 47) (by decide +kernel), List.mem_of_getElem? (i := 706) (by decide +kernel), List.mem_of_getElem? (i := 707) (by decide +kernel)⟩
theorem lw_p23 : lw_okq (⟨"StepAway$Reader", "takeDay", "()Z"⟩, 7) := ⟨⟨by decide +kernel, by decide +kernel⟩, List.mem_of_getElem? (i := 47) (by decide +kernel), List.mem_of_getElem? (i := 712) (by decide +kernel), List.mem_of_getElem? (i := 713) (by decide +kernel)⟩
theorem lw_p24 : lw_okq (⟨"StepAway$Reader", "takeLump", "()Z"⟩, 7) := ⟨⟨by decide +kernel, by decide +kernel⟩, List.mem_of_getElem? (i := 47) (by decide +kernel), List.mem_of_getElem? (i := 717) (by decide +kernel), List.mem_of_getElem? (i := 718) (by decide +kernel)⟩
theorem lw_p25 : lw_okq (⟨"StepAway$Reader", "takeMode", "()Z"⟩, 7) := ⟨⟨by decide +kernel, by decide +kernel⟩, List.mem_of_getElem? (i := 47) (by decide +kernel), List.mem_of_getElem? (i := 722) (by decide +kernel), List.mem_of_getElem? (i := 723) (by decide +kernel)⟩
theorem lw_p26 : lw_okq (⟨"StepAway$Reader", "takeFirst", "()Z"⟩, 7) := ⟨⟨by decide +kernel, by decide +kernel⟩, List.mem_of_getElem? (i := 47) (by decide +kernel), List.mem_of_getElem? (i := 730) (by decide +kernel), List.mem_of_getElem? (i := 731) (by decide +kernel)⟩
theorem lw_p27 : lw_okq (⟨"StepAway$Reader", "takePairs", "()Z"⟩, 7) := ⟨⟨by decide +kernel, by decide +kernel⟩, List.mem_of_getElem? (i := 47) (by decide +kernel), List.mem_of_getElem? (i := 734) (by decide +kernel), List.mem_of_getElem? (i := 735) (by decide +kernel)⟩
theorem lw_p28 : lw_okq (⟨"StepAway", "isStand", "(II)Z"⟩, 9) := ⟨⟨by decide +kernel, by decide +kernel⟩, List.mem_of_getElem? (i := 21) (by decide +kernel), List.mem_of_getElem? (i := 838) (by decide +kernel), List.mem_of_getElem? (i := 839) (by decide +kernel)⟩
theorem lw_p29 : lw_okq (⟨"StepAway$LeastRow", "takeStep", "(III)I"⟩, 4) := ⟨⟨by decide +kernel, by decide +kernel⟩, List.mem_of_getElem? (i := 382) (by decide +kernel), List.mem_of_getElem? (i := 855) (by decide +kernel), List.mem_of_getElem? (i := 856) (by decide +kernel)⟩
theorem lw_p30 : lw_okq (⟨"StepAway$LeastRow", "leastGift", "(III)I"⟩, 4) := ⟨⟨by decide +kernel, by decide +kernel⟩, List.mem_of_getElem? (i := 382) (by decide +kernel), List.mem_of_getElem? (i := 860) (by decide +kernel), List.mem_of_getElem? (i := 861) (by decide +kernel)⟩
theorem lw_p31 : lw_okq (⟨"StepAway$LeastRow", "behindGift", "(II)I"⟩, 4) := ⟨⟨by decide +kernel, by decide +kernel⟩, List.mem_of_getElem? (i := 382) (by decide +kernel), List.mem_of_getElem? (i := 869) (by decide +kernel), List.mem_of_getElem? (i := 870) (by decide +kernel)⟩
def lw_privs_2 : List (MethodName × Nat) := [(⟨"StepAway$Reader", "takeWord", "()Z"⟩, 7), (⟨"StepAway$Reader", "takeWorths", "(I)Z"⟩, 7), (⟨"StepAway$Reader", "takeUndivided", "()Z"⟩, 7), (⟨"StepAway$Reader", "takeKnownPiece", "(I)I"⟩, 7), (⟨"StepAway$Reader", "takeKept", "()Z"⟩, 7), (⟨"StepAway$Reader", "onlyOnce", "(I)Z"⟩, 7), (⟨"StepAway$Reader", "takeAmounts", "([I)Z"⟩, 7), (⟨"StepAway$Reader", "takeDay", "()Z"⟩, 7), (⟨"StepAway$Reader", "takeLump", "()Z"⟩, 7), (⟨"StepAway$Reader", "takeMode", "()Z"⟩, 7), (⟨"StepAway$Reader", "takeFirst", "()Z"⟩, 7), (⟨"StepAway$Reader", "takePairs", "()Z"⟩, 7), (⟨"StepAway", "isStand", "(II)Z"⟩, 9), (⟨"StepAway$LeastRow", "takeStep", "(III)I"⟩, 4), (⟨"StepAway$LeastRow", "leastGift", "(III)I"⟩, 4), (⟨"StepAway$LeastRow", "behindGift", "(II)I"⟩, 4)]
theorem lw_r2 : ∀ q ∈ lw_privs_2, lw_okq q := List.forall_mem_cons.mpr ⟨lw_p16, List.forall_mem_cons.mpr ⟨lw_p17, List.forall_mem_cons.mpr ⟨lw_p18, List.forall_mem_cons.mpr ⟨lw_p19, List.forall_mem_cons.mpr ⟨lw_p20, List.forall_mem_cons.mpr ⟨lw_p21, List.forall_mem_cons.mpr ⟨lw_p22, List.forall_mem_cons.mpr ⟨lw_p23, List.forall_mem_cons.mpr ⟨lw_p24, List.forall_mem_cons.mpr ⟨lw_p25, List.forall_mem_cons.mpr ⟨lw_p26, List.forall_mem_cons.mpr ⟨lw_p27, List.forall_mem_cons.mpr ⟨lw_p28, List.forall_mem_cons.mpr ⟨lw_p29, List.forall_mem_cons.mpr ⟨lw_p30, List.forall_mem_cons.mpr ⟨lw_p31, fun _ h => absurd h List.not_mem_nil⟩⟩⟩⟩⟩⟩⟩⟩⟩⟩⟩⟩⟩⟩⟩⟩
theorem lw_p32 : lw_okq (⟨"StepAway$LeastRow", "takeShare", "(IIII)I"⟩, 4) := ⟨⟨by decide +kernel, by decide +kernel⟩, List.mem_of_getElem? (i := 382) (by decide +kernel), List.mem_of_getElem? (i := 873) (by decide +kernel), List.mem_of_getElem? (i := 874) (by decide +kernel)⟩
theorem lw_p33 : lw_okq (⟨"StepAway$Trials", "holds", "(LStepAway$Space;III)Z"⟩, 5) := ⟨⟨by decide +kernel, by decide +kernel⟩, List.mem_of_getElem? (i := 404) (by decide +kernel), List.mem_of_getElem? (i := 912) (by decide +kernel), List.mem_of_getElem? (i := 913) (by decide +kernel)⟩
theorem lw_p34 : lw_okq (⟨"StepAway$Trials", "hasLastStep", "(I)Z"⟩, 5) := ⟨⟨by decide +kernel, by decide +kernel⟩, List.mem_of_getElem? (i := 404) (by decide +kernel), List.mem_of_getElem? (i := 928) (by decide +kernel), List.mem_of_getElem? (i := 929) (by decide +kernel)⟩
theorem lw_p35 : lw_okq (⟨"StepAway$Trials", "addedToStay", "(I)I"⟩, 5) := ⟨⟨by decide +kernel, by decide +kernel⟩, List.mem_of_getElem? (i := 404) (by decide +kernel), List.mem_of_getElem? (i := 934) (by decide +kernel), List.mem_of_getElem? (i := 935) (by decide +kernel)⟩
theorem lw_p36 : lw_okq (⟨"StepAway$Matter", "copyPiece", "(LStepAway$Matter;I)V"⟩, 16) := ⟨⟨by decide +kernel, by decide +kernel⟩, List.mem_of_getElem? (i := 78) (by decide +kernel), List.mem_of_getElem? (i := 963) (by decide +kernel), List.mem_of_getElem? (i := 964) (by decide +kernel)⟩
theorem lw_p37 : lw_okq (⟨"StepAway$Hearing", "firstToStop", "(III)I"⟩, 9) := ⟨⟨by decide +kernel, by decide +kernel⟩, List.mem_of_getElem? (i := 432) (by decide +kernel), List.mem_of_getElem? (i := 1009) (by decide +kernel), List.mem_of_getElem? (i := 1010) (by decide +kernel)⟩
theorem lw_p38 : lw_okq (⟨"StepAway$Hearing", "stateBehindStep", "(II)I"⟩, 9) := ⟨⟨by decide +kernel, by decide +kernel⟩, List.mem_of_getElem? (i := 432) (by decide +kernel), List.mem_of_getElem? (i := 1020) (by decide +kernel), List.mem_of_getElem? (i := 1021) (by decide +kernel)⟩
theorem lw_p39 : lw_okq (⟨"StepAway$Hearing", "stateBehindSingle", "(III)I"⟩, 9) := ⟨⟨by decide +kernel, by decide +kernel⟩, List.mem_of_getElem? (i := 432) (by decide +kernel), List.mem_of_getElem? (i := 1025) (by decide +kernel), List.mem_of_getElem? (i := 1026) (by decide +kernel)⟩
theorem lw_p40 : lw_okq (⟨"StepAway$Hearing", "stateBehindSign", "(III)I"⟩, 9) := ⟨⟨by decide +kernel, by decide +kernel⟩, List.mem_of_getElem? (i := 432) (by decide +kernel), List.mem_of_getElem? (i := 1029) (by decide +kernel), List.mem_of_getElem? (i := 1030) (by decide +kernel)⟩
theorem lw_p41 : lw_okq (⟨"StepAway$Hearing", "conclude", "(III)I"⟩, 9) := ⟨⟨by decide +kernel, by decide +kernel⟩, List.mem_of_getElem? (i := 432) (by decide +kernel), List.mem_of_getElem? (i := 1035) (by decide +kernel), List.mem_of_getElem? (i := 1036) (by decide +kernel)⟩
theorem lw_p42 : lw_okq (⟨"StepAway$Fears", "stoppedAsKnown", "(II)I"⟩, 11) := ⟨⟨by decide +kernel, by decide +kernel⟩, List.mem_of_getElem? (i := 471) (by decide +kernel), List.mem_of_getElem? (i := 1084) (by decide +kernel), List.mem_of_getElem? (i := 1085) (by decide +kernel)⟩
theorem lw_p43 : lw_okq (⟨"StepAwayModel", "place", "()V"⟩, 79) := ⟨⟨by decide +kernel, by decide +kernel⟩, List.mem_of_getElem? (i := 1109) (by decide +kernel), List.mem_of_getElem? (i := 1115) (by decide +kernel), List.mem_of_getElem? (i := 1116) (by decide +kernel)⟩
theorem lw_p44 : lw_okq (⟨"StepAwayModel", "stopBy", "(III)I"⟩, 79) := ⟨⟨by decide +kernel, by decide +kernel⟩, List.mem_of_getElem? (i := 1109) (by decide +kernel), List.mem_of_getElem? (i := 1119) (by decide +kernel), List.mem_of_getElem? (i := 1120) (by decide +kernel)⟩
theorem lw_p45 : lw_okq (⟨"StepAwayModel", "putFour", "(I)V"⟩, 79) := ⟨⟨by decide +kernel, by decide +kernel⟩, List.mem_of_getElem? (i := 1109) (by decide +kernel), List.mem_of_getElem? (i := 1365) (by decide +kernel), List.mem_of_getElem? (i := 1366) (by decide +kernel)⟩
theorem lw_p46 : lw_okq (⟨"StepAwayModel", "scan", "()V"⟩, 79) := ⟨⟨by decide +kernel, by decide +kernel⟩, List.mem_of_getElem? (i := 1109) (by decide +kernel), List.mem_of_getElem? (i := 1380) (by decide +kernel), List.mem_of_getElem? (i := 1381) (by decide +kernel)⟩
theorem lw_p47 : lw_okq (⟨"StepAwayModel", "byteAt", "(I)I"⟩, 79) := ⟨⟨by decide +kernel, by decide +kernel⟩, List.mem_of_getElem? (i := 1109) (by decide +kernel), List.mem_of_getElem? (i := 1384) (by decide +kernel), List.mem_of_getElem? (i := 1385) (by decide +kernel)⟩
def lw_privs_3 : List (MethodName × Nat) := [(⟨"StepAway$LeastRow", "takeShare", "(IIII)I"⟩, 4), (⟨"StepAway$Trials", "holds", "(LStepAway$Space;III)Z"⟩, 5), (⟨"StepAway$Trials", "hasLastStep", "(I)Z"⟩, 5), (⟨"StepAway$Trials", "addedToStay", "(I)I"⟩, 5), (⟨"StepAway$Matter", "copyPiece", "(LStepAway$Matter;I)V"⟩, 16), (⟨"StepAway$Hearing", "firstToStop", "(III)I"⟩, 9), (⟨"StepAway$Hearing", "stateBehindStep", "(II)I"⟩, 9), (⟨"StepAway$Hearing", "stateBehindSingle", "(III)I"⟩, 9), (⟨"StepAway$Hearing", "stateBehindSign", "(III)I"⟩, 9), (⟨"StepAway$Hearing", "conclude", "(III)I"⟩, 9), (⟨"StepAway$Fears", "stoppedAsKnown", "(II)I"⟩, 11), (⟨"StepAwayModel", "place", "()V"⟩, 79), (⟨"StepAwayModel", "stopBy", "(III)I"⟩, 79), (⟨"StepAwayModel", "putFour", "(I)V"⟩, 79), (⟨"StepAwayModel", "scan", "()V"⟩, 79), (⟨"StepAwayModel", "byteAt", "(I)I"⟩, 79)]
theorem lw_r3 : ∀ q ∈ lw_privs_3, lw_okq q := List.forall_mem_cons.mpr ⟨lw_p32, List.forall_mem_cons.mpr ⟨lw_p33, List.forall_mem_cons.mpr ⟨lw_p34, List.forall_mem_cons.mpr ⟨lw_p35, List.forall_mem_cons.mpr ⟨lw_p36, List.forall_mem_cons.mpr ⟨lw_p37, List.forall_mem_cons.mpr ⟨lw_p38, List.forall_mem_cons.mpr ⟨lw_p39, List.forall_mem_cons.mpr ⟨lw_p40, List.forall_mem_cons.mpr ⟨lw_p41, List.forall_mem_cons.mpr ⟨lw_p42, List.forall_mem_cons.mpr ⟨lw_p43, List.forall_mem_cons.mpr ⟨lw_p44, List.forall_mem_cons.mpr ⟨lw_p45, List.forall_mem_cons.mpr ⟨lw_p46, List.forall_mem_cons.mpr ⟨lw_p47, fun _ h => absurd h List.not_mem_nil⟩⟩⟩⟩⟩⟩⟩⟩⟩⟩⟩⟩⟩⟩⟩⟩
theorem lw_p48 : lw_okq (⟨"StepAwayModel", "readMatter", "()Z"⟩, 79) := ⟨⟨by decide +kernel, by decide +kernel⟩, List.mem_of_getElem? (i := 1109) (by decide +kernel), List.mem_of_getElem? (i := 1394) (by decide +kernel), List.mem_of_getElem? (i := 1395) (by decide +kernel)⟩
theorem lw_p49 : lw_okq (⟨"StepAwayModel", "plain", "()V"⟩, 79) := ⟨⟨by decide +kernel, by decide +kernel⟩, List.mem_of_getElem? (i := 1109) (by decide +kernel), List.mem_of_getElem? (i := 1398) (by decide +kernel), List.mem_of_getElem? (i := 1399) (by decide +kernel)⟩
theorem lw_p50 : lw_okq (⟨"StepAwayModel", "expect", "(Ljava/lang/String;)Z"⟩, 79) := ⟨⟨by decide +kernel, by decide +kernel⟩, List.mem_of_getElem? (i := 1109) (by decide +kernel), List.mem_of_getElem? (i := 1403) (by decide +kernel), List.mem_of_getElem? (i := 1404) (by decide +kernel)⟩
theorem lw_p51 : lw_okq (⟨"StepAwayModel", "is", "(Ljava/lang/String;)Z"⟩, 79) := ⟨⟨by decide +kernel, by decide +kernel⟩, List.mem_of_getElem? (i := 1109) (by decide +kernel), List.mem_of_getElem? (i := 1407) (by decide +kernel), List.mem_of_getElem? (i := 1408) (by decide +kernel)⟩
theorem lw_p52 : lw_okq (⟨"StepAwayModel", "wrong", "(I)Z"⟩, 79) := ⟨⟨by decide +kernel, by decide +kernel⟩, List.mem_of_getElem? (i := 1109) (by decide +kernel), List.mem_of_getElem? (i := 1413) (by decide +kernel), List.mem_of_getElem? (i := 1414) (by decide +kernel)⟩
theorem lw_p53 : lw_okq (⟨"StepAwayModel", "number", "(II)Z"⟩, 79) := ⟨⟨by decide +kernel, by decide +kernel⟩, List.mem_of_getElem? (i := 1109) (by decide +kernel), List.mem_of_getElem? (i := 1417) (by decide +kernel), List.mem_of_getElem? (i := 1418) (by decide +kernel)⟩
theorem lw_p54 : lw_okq (⟨"StepAwayModel", "look", "(II)Z"⟩, 79) := ⟨⟨by decide +kernel, by decide +kernel⟩, List.mem_of_getElem? (i := 1109) (by decide +kernel), List.mem_of_getElem? (i := 1421) (by decide +kernel), List.mem_of_getElem? (i := 1422) (by decide +kernel)⟩
theorem lw_p55 : lw_okq (⟨"StepAwayModel", "close", "()Z"⟩, 79) := ⟨⟨by decide +kernel, by decide +kernel⟩, List.mem_of_getElem? (i := 1109) (by decide +kernel), List.mem_of_getElem? (i := 1425) (by decide +kernel), List.mem_of_getElem? (i := 1426) (by decide +kernel)⟩
theorem lw_p56 : lw_okq (⟨"StepAwayModel", "isSign", "(I)Z"⟩, 79) := ⟨⟨by decide +kernel, by decide +kernel⟩, List.mem_of_getElem? (i := 1109) (by decide +kernel), List.mem_of_getElem? (i := 1429) (by decide +kernel), List.mem_of_getElem? (i := 1430) (by decide +kernel)⟩
theorem lw_p57 : lw_okq (⟨"StepAwayModel", "readClause", "()Z"⟩, 79) := ⟨⟨by decide +kernel, by decide +kernel⟩, List.mem_of_getElem? (i := 1109) (by decide +kernel), List.mem_of_getElem? (i := 1433) (by decide +kernel), List.mem_of_getElem? (i := 1434) (by decide +kernel)⟩
theorem lw_p58 : lw_okq (⟨"StepAwayModel", "readPiece", "()Z"⟩, 79) := ⟨⟨by decide +kernel, by decide +kernel⟩, List.mem_of_getElem? (i := 1109) (by decide +kernel), List.mem_of_getElem? (i := 1438) (by decide +kernel), List.mem_of_getElem? (i := 1439) (by decide +kernel)⟩
theorem lw_p59 : lw_okq (⟨"StepAwayModel", "pieceAt", "()I"⟩, 79) := ⟨⟨by decide +kernel, by decide +kernel⟩, List.mem_of_getElem? (i := 1109) (by decide +kernel), List.mem_of_getElem? (i := 1442) (by decide +kernel), List.mem_of_getElem? (i := 1443) (by decide +kernel)⟩
theorem lw_p60 : lw_okq (⟨"StepAwayModel", "name", "()J"⟩, 79) := ⟨⟨by decide +kernel, by decide +kernel⟩, List.mem_of_getElem? (i := 1109) (by decide +kernel), List.mem_of_getElem? (i := 1446) (by decide +kernel), List.mem_of_getElem? (i := 1447) (by decide +kernel)⟩
theorem lw_p61 : lw_okq (⟨"StepAwayModel", "signed", "()Z"⟩, 79) := ⟨⟨by decide +kernel, by decide +kernel⟩, List.mem_of_getElem? (i := 1109) (by decide +kernel), List.mem_of_getElem? (i := 1452) (by decide +kernel), List.mem_of_getElem? (i := 1453) (by decide +kernel)⟩
theorem lw_p62 : lw_okq (⟨"StepAwayModel", "readOf", "(Z)Z"⟩, 79) := ⟨⟨by decide +kernel, by decide +kernel⟩, List.mem_of_getElem? (i := 1109) (by decide +kernel), List.mem_of_getElem? (i := 1457) (by decide +kernel), List.mem_of_getElem? (i := 1458) (by decide +kernel)⟩
theorem lw_p63 : lw_okq (⟨"StepAwayModel", "readEach", "([I)Z"⟩, 79) := ⟨⟨by decide +kernel, by decide +kernel⟩, List.mem_of_getElem? (i := 1109) (by decide +kernel), List.mem_of_getElem? (i := 1469) (by decide +kernel), List.mem_of_getElem? (i := 1470) (by decide +kernel)⟩
def lw_privs_4 : List (MethodName × Nat) := [(⟨"StepAwayModel", "readMatter", "()Z"⟩, 79), (⟨"StepAwayModel", "plain", "()V"⟩, 79), (⟨"StepAwayModel", "expect", "(Ljava/lang/String;)Z"⟩, 79), (⟨"StepAwayModel", "is", "(Ljava/lang/String;)Z"⟩, 79), (⟨"StepAwayModel", "wrong", "(I)Z"⟩, 79), (⟨"StepAwayModel", "number", "(II)Z"⟩, 79), (⟨"StepAwayModel", "look", "(II)Z"⟩, 79), (⟨"StepAwayModel", "close", "()Z"⟩, 79), (⟨"StepAwayModel", "isSign", "(I)Z"⟩, 79), (⟨"StepAwayModel", "readClause", "()Z"⟩, 79), (⟨"StepAwayModel", "readPiece", "()Z"⟩, 79), (⟨"StepAwayModel", "pieceAt", "()I"⟩, 79), (⟨"StepAwayModel", "name", "()J"⟩, 79), (⟨"StepAwayModel", "signed", "()Z"⟩, 79), (⟨"StepAwayModel", "readOf", "(Z)Z"⟩, 79), (⟨"StepAwayModel", "readEach", "([I)Z"⟩, 79)]
theorem lw_r4 : ∀ q ∈ lw_privs_4, lw_okq q := List.forall_mem_cons.mpr ⟨lw_p48, List.forall_mem_cons.mpr ⟨lw_p49, List.forall_mem_cons.mpr ⟨lw_p50, List.forall_mem_cons.mpr ⟨lw_p51, List.forall_mem_cons.mpr ⟨lw_p52, List.forall_mem_cons.mpr ⟨lw_p53, List.forall_mem_cons.mpr ⟨lw_p54, List.forall_mem_cons.mpr ⟨lw_p55, List.forall_mem_cons.mpr ⟨lw_p56, List.forall_mem_cons.mpr ⟨lw_p57, List.forall_mem_cons.mpr ⟨lw_p58, List.forall_mem_cons.mpr ⟨lw_p59, List.forall_mem_cons.mpr ⟨lw_p60, List.forall_mem_cons.mpr ⟨lw_p61, List.forall_mem_cons.mpr ⟨lw_p62, List.forall_mem_cons.mpr ⟨lw_p63, fun _ h => absurd h List.not_mem_nil⟩⟩⟩⟩⟩⟩⟩⟩⟩⟩⟩⟩⟩⟩⟩⟩
theorem lw_p64 : lw_okq (⟨"StepAwayModel", "readMode", "()Z"⟩, 79) := ⟨⟨by decide +kernel, by decide +kernel⟩, List.mem_of_getElem? (i := 1109) (by decide +kernel), List.mem_of_getElem? (i := 1473) (by decide +kernel), List.mem_of_getElem? (i := 1474) (by decide +kernel)⟩
theorem lw_p65 : lw_okq (⟨"StepAwayModel", "readSmall", "()Z"⟩, 79) := ⟨⟨by decide +kernel, by decide +kernel⟩, List.mem_of_getElem? (i := 1109) (by decide +kernel), List.mem_of_getElem? (i := 1480) (by decide +kernel), List.mem_of_getElem? (i := 1481) (by decide +kernel)⟩
theorem lw_p66 : lw_okq (⟨"StepAwayModel", "isState", "(I)Z"⟩, 79) := ⟨⟨by decide +kernel, by decide +kernel⟩, List.mem_of_getElem? (i := 1109) (by decide +kernel), List.mem_of_getElem? (i := 1509) (by decide +kernel), List.mem_of_getElem? (i := 1510) (by decide +kernel)⟩
theorem lw_p67 : lw_okq (⟨"StepAwayModel", "isPiece", "(I)Z"⟩, 79) := ⟨⟨by decide +kernel, by decide +kernel⟩, List.mem_of_getElem? (i := 1109) (by decide +kernel), List.mem_of_getElem? (i := 1513) (by decide +kernel), List.mem_of_getElem? (i := 1514) (by decide +kernel)⟩
theorem lw_p68 : lw_okq (⟨"StepAwayModel", "isSide", "(I)Z"⟩, 79) := ⟨⟨by decide +kernel, by decide +kernel⟩, List.mem_of_getElem? (i := 1109) (by decide +kernel), List.mem_of_getElem? (i := 1521) (by decide +kernel), List.mem_of_getElem? (i := 1522) (by decide +kernel)⟩
theorem lw_p69 : lw_okq (⟨"StepAwayModel", "goalOf", "(I)I"⟩, 79) := ⟨⟨by decide +kernel, by decide +kernel⟩, List.mem_of_getElem? (i := 1109) (by decide +kernel), List.mem_of_getElem? (i := 1530) (by decide +kernel), List.mem_of_getElem? (i := 1531) (by decide +kernel)⟩
theorem lw_p70 : lw_okq (⟨"StepAwayModel", "mayGive", "(III)Z"⟩, 79) := ⟨⟨by decide +kernel, by decide +kernel⟩, List.mem_of_getElem? (i := 1109) (by decide +kernel), List.mem_of_getElem? (i := 1538) (by decide +kernel), List.mem_of_getElem? (i := 1539) (by decide +kernel)⟩
theorem lw_p71 : lw_okq (⟨"StepAwayModel", "counts", "(I)Z"⟩, 79) := ⟨⟨by decide +kernel, by decide +kernel⟩, List.mem_of_getElem? (i := 1109) (by decide +kernel), List.mem_of_getElem? (i := 1547) (by decide +kernel), List.mem_of_getElem? (i := 1548) (by decide +kernel)⟩
theorem lw_p72 : lw_okq (⟨"StepAwayModel", "wouldStop", "(III)Z"⟩, 79) := ⟨⟨by decide +kernel, by decide +kernel⟩, List.mem_of_getElem? (i := 1109) (by decide +kernel), List.mem_of_getElem? (i := 1554) (by decide +kernel), List.mem_of_getElem? (i := 1555) (by decide +kernel)⟩
theorem lw_p73 : lw_okq (⟨"StepAwayModel", "more", "(II)I"⟩, 79) := ⟨⟨by decide +kernel, by decide +kernel⟩, List.mem_of_getElem? (i := 1109) (by decide +kernel), List.mem_of_getElem? (i := 1558) (by decide +kernel), List.mem_of_getElem? (i := 1559) (by decide +kernel)⟩
theorem lw_p74 : lw_okq (⟨"StepAwayModel", "shortOf", "(II)I"⟩, 79) := ⟨⟨by decide +kernel, by decide +kernel⟩, List.mem_of_getElem? (i := 1109) (by decide +kernel), List.mem_of_getElem? (i := 1565) (by decide +kernel), List.mem_of_getElem? (i := 1566) (by decide +kernel)⟩
theorem lw_p75 : lw_okq (⟨"StepAwayModel", "work", "()V"⟩, 79) := ⟨⟨by decide +kernel, by decide +kernel⟩, List.mem_of_getElem? (i := 1109) (by decide +kernel), List.mem_of_getElem? (i := 1573) (by decide +kernel), List.mem_of_getElem? (i := 1574) (by decide +kernel)⟩
theorem lw_p76 : lw_okq (⟨"StepAwayModel", "findStay", "()V"⟩, 79) := ⟨⟨by decide +kernel, by decide +kernel⟩, List.mem_of_getElem? (i := 1109) (by decide +kernel), List.mem_of_getElem? (i := 1577) (by decide +kernel), List.mem_of_getElem? (i := 1578) (by decide +kernel)⟩
theorem lw_p77 : lw_okq (⟨"StepAwayModel", "stayBits", "(I)J"⟩, 79) := ⟨⟨by decide +kernel, by decide +kernel⟩, List.mem_of_getElem? (i := 1109) (by decide +kernel), List.mem_of_getElem? (i := 1581) (by decide +kernel), List.mem_of_getElem? (i := 1582) (by decide +kernel)⟩
theorem lw_p78 : lw_okq (⟨"StepAwayModel", "findSafe", "()V"⟩, 79) := ⟨⟨by decide +kernel, by decide +kernel⟩, List.mem_of_getElem? (i := 1109) (by decide +kernel), List.mem_of_getElem? (i := 1585) (by decide +kernel), List.mem_of_getElem? (i := 1586) (by decide +kernel)⟩
theorem lw_p79 : lw_okq (⟨"StepAwayModel", "turns", "()I"⟩, 79) := ⟨⟨by decide +kernel, by decide +kernel⟩, List.mem_of_getElem? (i := 1109) (by decide +kernel), List.mem_of_getElem? (i := 1589) (by decide +kernel), List.mem_of_getElem? (i := 1590) (by decide +kernel)⟩
def lw_privs_5 : List (MethodName × Nat) := [(⟨"StepAwayModel", "readMode", "()Z"⟩, 79), (⟨"StepAwayModel", "readSmall", "()Z"⟩, 79), (⟨"StepAwayModel", "isState", "(I)Z"⟩, 79), (⟨"StepAwayModel", "isPiece", "(I)Z"⟩, 79), (⟨"StepAwayModel", "isSide", "(I)Z"⟩, 79), (⟨"StepAwayModel", "goalOf", "(I)I"⟩, 79), (⟨"StepAwayModel", "mayGive", "(III)Z"⟩, 79), (⟨"StepAwayModel", "counts", "(I)Z"⟩, 79), (⟨"StepAwayModel", "wouldStop", "(III)Z"⟩, 79), (⟨"StepAwayModel", "more", "(II)I"⟩, 79), (⟨"StepAwayModel", "shortOf", "(II)I"⟩, 79), (⟨"StepAwayModel", "work", "()V"⟩, 79), (⟨"StepAwayModel", "findStay", "()V"⟩, 79), (⟨"StepAwayModel", "stayBits", "(I)J"⟩, 79), (⟨"StepAwayModel", "findSafe", "()V"⟩, 79), (⟨"StepAwayModel", "turns", "()I"⟩, 79)]
theorem lw_r5 : ∀ q ∈ lw_privs_5, lw_okq q := List.forall_mem_cons.mpr ⟨lw_p64, List.forall_mem_cons.mpr ⟨lw_p65, List.forall_mem_cons.mpr ⟨lw_p66, List.forall_mem_cons.mpr ⟨lw_p67, List.forall_mem_cons.mpr ⟨lw_p68, List.forall_mem_cons.mpr ⟨lw_p69, List.forall_mem_cons.mpr ⟨lw_p70, List.forall_mem_cons.mpr ⟨lw_p71, List.forall_mem_cons.mpr ⟨lw_p72, List.forall_mem_cons.mpr ⟨lw_p73, List.forall_mem_cons.mpr ⟨lw_p74, List.forall_mem_cons.mpr ⟨lw_p75, List.forall_mem_cons.mpr ⟨lw_p76, List.forall_mem_cons.mpr ⟨lw_p77, List.forall_mem_cons.mpr ⟨lw_p78, List.forall_mem_cons.mpr ⟨lw_p79, fun _ h => absurd h List.not_mem_nil⟩⟩⟩⟩⟩⟩⟩⟩⟩⟩⟩⟩⟩⟩⟩⟩
theorem lw_p80 : lw_okq (⟨"StepAwayModel", "onward", "(II)J"⟩, 79) := ⟨⟨by decide +kernel, by decide +kernel⟩, List.mem_of_getElem? (i := 1109) (by decide +kernel), List.mem_of_getElem? (i := 1593) (by decide +kernel), List.mem_of_getElem? (i := 1594) (by decide +kernel)⟩
theorem lw_p81 : lw_okq (⟨"StepAwayModel", "together", "(IIII)J"⟩, 79) := ⟨⟨by decide +kernel, by decide +kernel⟩, List.mem_of_getElem? (i := 1109) (by decide +kernel), List.mem_of_getElem? (i := 1597) (by decide +kernel), List.mem_of_getElem? (i := 1598) (by decide +kernel)⟩
theorem lw_p82 : lw_okq (⟨"StepAwayModel", "next", "(I)I"⟩, 79) := ⟨⟨by decide +kernel, by decide +kernel⟩, List.mem_of_getElem? (i := 1109) (by decide +kernel), List.mem_of_getElem? (i := 1601) (by decide +kernel), List.mem_of_getElem? (i := 1602) (by decide +kernel)⟩
theorem lw_p83 : lw_okq (⟨"StepAwayModel", "safeAt", "(II)J"⟩, 79) := ⟨⟨by decide +kernel, by decide +kernel⟩, List.mem_of_getElem? (i := 1109) (by decide +kernel), List.mem_of_getElem? (i := 1606) (by decide +kernel), List.mem_of_getElem? (i := 1607) (by decide +kernel)⟩
theorem lw_p84 : lw_okq (⟨"StepAwayModel", "turnOf", "(I)I"⟩, 79) := ⟨⟨by decide +kernel, by decide +kernel⟩, List.mem_of_getElem? (i := 1109) (by decide +kernel), List.mem_of_getElem? (i := 1610) (by decide +kernel), List.mem_of_getElem? (i := 1611) (by decide +kernel)⟩
theorem lw_p85 : lw_okq (⟨"StepAwayModel", "chosen", "(IIIIII)I"⟩, 79) := ⟨⟨by decide +kernel, by decide +kernel⟩, List.mem_of_getElem? (i := 1109) (by decide +kernel), List.mem_of_getElem? (i := 1617) (by decide +kernel), List.mem_of_getElem? (i := 1618) (by decide +kernel)⟩
theorem lw_p86 : lw_okq (⟨"StepAwayModel", "isSafe", "(III)Z"⟩, 79) := ⟨⟨by decide +kernel, by decide +kernel⟩, List.mem_of_getElem? (i := 1109) (by decide +kernel), List.mem_of_getElem? (i := 1621) (by decide +kernel), List.mem_of_getElem? (i := 1622) (by decide +kernel)⟩
theorem lw_p87 : lw_okq (⟨"StepAwayModel", "one", "(IIII)I"⟩, 79) := ⟨⟨by decide +kernel, by decide +kernel⟩, List.mem_of_getElem? (i := 1109) (by decide +kernel), List.mem_of_getElem? (i := 1625) (by decide +kernel), List.mem_of_getElem? (i := 1626) (by decide +kernel)⟩
theorem lw_p88 : lw_okq (⟨"StepAwayModel", "holdsBy", "(I)Z"⟩, 79) := ⟨⟨by decide +kernel, by decide +kernel⟩, List.mem_of_getElem? (i := 1109) (by decide +kernel), List.mem_of_getElem? (i := 1649) (by decide +kernel), List.mem_of_getElem? (i := 1650) (by decide +kernel)⟩
theorem lw_p89 : lw_okq (⟨"StepAwayModel", "noExtra", "()V"⟩, 79) := ⟨⟨by decide +kernel, by decide +kernel⟩, List.mem_of_getElem? (i := 1109) (by decide +kernel), List.mem_of_getElem? (i := 1653) (by decide +kernel), List.mem_of_getElem? (i := 1654) (by decide +kernel)⟩
theorem lw_p90 : lw_okq (⟨"StepAwayModel", "holds", "()Z"⟩, 79) := ⟨⟨by decide +kernel, by decide +kernel⟩, List.mem_of_getElem? (i := 1109) (by decide +kernel), List.mem_of_getElem? (i := 1657) (by decide +kernel), List.mem_of_getElem? (i := 1658) (by decide +kernel)⟩
theorem lw_p91 : lw_okq (⟨"StepAwayModel", "isNear", "(I)Z"⟩, 79) := ⟨⟨by decide +kernel, by decide +kernel⟩, List.mem_of_getElem? (i := 1109) (by decide +kernel), List.mem_of_getElem? (i := 1665) (by decide +kernel), List.mem_of_getElem? (i := 1666) (by decide +kernel)⟩
theorem lw_p92 : lw_okq (⟨"StepAwayModel", "holdsWith", "(II)Z"⟩, 79) := ⟨⟨by decide +kernel, by decide +kernel⟩, List.mem_of_getElem? (i := 1109) (by decide +kernel), List.mem_of_getElem? (i := 1676) (by decide +kernel), List.mem_of_getElem? (i := 1677) (by decide +kernel)⟩
theorem lw_p93 : lw_okq (⟨"StepAwayModel", "stopper", "(III)I"⟩, 79) := ⟨⟨by decide +kernel, by decide +kernel⟩, List.mem_of_getElem? (i := 1109) (by decide +kernel), List.mem_of_getElem? (i := 1701) (by decide +kernel), List.mem_of_getElem? (i := 1702) (by decide +kernel)⟩
theorem lw_p94 : lw_okq (⟨"StepAwayModel", "judgedStep", "(III)I"⟩, 79) := ⟨⟨by decide +kernel, by decide +kernel⟩, List.mem_of_getElem? (i := 1109) (by decide +kernel), List.mem_of_getElem? (i := 1705) (by decide +kernel), List.mem_of_getElem? (i := 1706) (by decide +kernel)⟩
theorem lw_p95 : lw_okq (⟨"StepAwayModel", "fits", "(II)J"⟩, 79) := ⟨⟨by decide +kernel, by decide +kernel⟩, List.mem_of_getElem? (i := 1109) (by decide +kernel), List.mem_of_getElem? (i := 1729) (by decide +kernel), List.mem_of_getElem? (i := 1730) (by decide +kernel)⟩
def lw_privs_6 : List (MethodName × Nat) := [(⟨"StepAwayModel", "onward", "(II)J"⟩, 79), (⟨"StepAwayModel", "together", "(IIII)J"⟩, 79), (⟨"StepAwayModel", "next", "(I)I"⟩, 79), (⟨"StepAwayModel", "safeAt", "(II)J"⟩, 79), (⟨"StepAwayModel", "turnOf", "(I)I"⟩, 79), (⟨"StepAwayModel", "chosen", "(IIIIII)I"⟩, 79), (⟨"StepAwayModel", "isSafe", "(III)Z"⟩, 79), (⟨"StepAwayModel", "one", "(IIII)I"⟩, 79), (⟨"StepAwayModel", "holdsBy", "(I)Z"⟩, 79), (⟨"StepAwayModel", "noExtra", "()V"⟩, 79), (⟨"StepAwayModel", "holds", "()Z"⟩, 79), (⟨"StepAwayModel", "isNear", "(I)Z"⟩, 79), (⟨"StepAwayModel", "holdsWith", "(II)Z"⟩, 79), (⟨"StepAwayModel", "stopper", "(III)I"⟩, 79), (⟨"StepAwayModel", "judgedStep", "(III)I"⟩, 79), (⟨"StepAwayModel", "fits", "(II)J"⟩, 79)]
theorem lw_r6 : ∀ q ∈ lw_privs_6, lw_okq q := List.forall_mem_cons.mpr ⟨lw_p80, List.forall_mem_cons.mpr ⟨lw_p81, List.forall_mem_cons.mpr ⟨lw_p82, List.forall_mem_cons.mpr ⟨lw_p83, List.forall_mem_cons.mpr ⟨lw_p84, List.forall_mem_cons.mpr ⟨lw_p85, List.forall_mem_cons.mpr ⟨lw_p86, List.forall_mem_cons.mpr ⟨lw_p87, List.forall_mem_cons.mpr ⟨lw_p88, List.forall_mem_cons.mpr ⟨lw_p89, List.forall_mem_cons.mpr ⟨lw_p90, List.forall_mem_cons.mpr ⟨lw_p91, List.forall_mem_cons.mpr ⟨lw_p92, List.forall_mem_cons.mpr ⟨lw_p93, List.forall_mem_cons.mpr ⟨lw_p94, List.forall_mem_cons.mpr ⟨lw_p95, fun _ h => absurd h List.not_mem_nil⟩⟩⟩⟩⟩⟩⟩⟩⟩⟩⟩⟩⟩⟩⟩⟩
theorem lw_p96 : lw_okq (⟨"StepAwayModel", "fears", "(IIII)Z"⟩, 79) := ⟨⟨by decide +kernel, by decide +kernel⟩, List.mem_of_getElem? (i := 1109) (by decide +kernel), List.mem_of_getElem? (i := 1733) (by decide +kernel), List.mem_of_getElem? (i := 1734) (by decide +kernel)⟩
theorem lw_p97 : lw_okq (⟨"StepAwayModel", "stopAsKnown", "(II)I"⟩, 79) := ⟨⟨by decide +kernel, by decide +kernel⟩, List.mem_of_getElem? (i := 1109) (by decide +kernel), List.mem_of_getElem? (i := 1737) (by decide +kernel), List.mem_of_getElem? (i := 1738) (by decide +kernel)⟩
def lw_privs_7 : List (MethodName × Nat) := [(⟨"StepAwayModel", "fears", "(IIII)Z"⟩, 79), (⟨"StepAwayModel", "stopAsKnown", "(II)I"⟩, 79)]
theorem lw_r7 : ∀ q ∈ lw_privs_7, lw_okq q := List.forall_mem_cons.mpr ⟨lw_p96, List.forall_mem_cons.mpr ⟨lw_p97, fun _ h => absurd h List.not_mem_nil⟩⟩
def lw_privs : List (MethodName × Nat) := lw_privs_1 ++ (lw_privs_2 ++ (lw_privs_3 ++ (lw_privs_4 ++ (lw_privs_5 ++ (lw_privs_6 ++ (lw_privs_7))))))
def lw_tbl : List Cond := k2_sels lw_privs ++ tables_1
theorem lw_privs_ok : ∀ q ∈ lw_privs, lw_okq q := by
  show ∀ q ∈ lw_privs_1 ++ (lw_privs_2 ++ (lw_privs_3 ++ (lw_privs_4 ++ (lw_privs_5 ++ (lw_privs_6 ++ (lw_privs_7)))))), lw_okq q
  exact List.forall_mem_append.mpr ⟨lw_r1, List.forall_mem_append.mpr ⟨lw_r2, List.forall_mem_append.mpr ⟨lw_r3, List.forall_mem_append.mpr ⟨lw_r4, List.forall_mem_append.mpr ⟨lw_r5, List.forall_mem_append.mpr ⟨lw_r6, lw_r7⟩⟩⟩⟩⟩⟩
def RX0 : String := "StepAway$Fears"
def TX0 : u_T := fun k => match k with
  | 0 => ("StepAway$Fears", "deeds", "I", false)
  | 1 => ("StepAway$Fears", "rights", "I", false)
  | 2 => ("StepAway$Fears", "latest", "I", false)
  | 3 => ("StepAway$Fears", "deedTold", "[I", true)
  | 4 => ("StepAway$Fears", "deedSide", "[I", true)
  | 5 => ("StepAway$Fears", "deedMargin", "[I", true)
  | 6 => ("StepAway$Fears", "deedStopped", "[I", true)
  | 7 => ("StepAway$Fears", "rightTold", "[I", true)
  | 8 => ("StepAway$Fears", "rightDeed", "[I", true)
  | 9 => ("StepAway$Fears", "rightStopped", "[I", true)
  | _ => ("StepAway$Fears", "space", "LStepAway$Space;", true)
def tyX0 : Nat → FieldType := fun k => match k with
  | 0 => .int
  | 1 => .int
  | 2 => .int
  | 3 => .array .int
  | 4 => .array .int
  | 5 => .array .int
  | 6 => .array .int
  | 7 => .array .int
  | 8 => .array .int
  | 9 => .array .int
  | _ => .object "StepAway$Space"
abbrev wsX00 : List Cond := u_ws RX0 TX0 11
theorem nmX0 : ∀ a, a < 11 → ∀ b, b < 11 → a ≠ b → (TX0 a).2.1 ≠ (TX0 b).2.1 := by decide +kernel
theorem tyX0_ok : ∀ k, k < 11 → parseFieldDescriptor (TX0 k).2.2.1 = some (tyX0 k) := by decide +kernel
abbrev cX0_init : ByteArray := prog_2_method_1_code
def yX0_init : MethodName := ⟨RX0, "<init>", "(LStepAway$Space;)V"⟩
abbrev cX0_forget : ByteArray := prog_2_method_2_code
def yX0_forget : MethodName := ⟨RX0, "forget", "()V"⟩
abbrev cX0_mayTell : ByteArray := prog_2_method_3_code
def yX0_mayTell : MethodName := ⟨RX0, "mayTell", "(II)Z"⟩
abbrev cX0_hasDeed : ByteArray := prog_2_method_4_code
def yX0_hasDeed : MethodName := ⟨RX0, "hasDeed", "(I)Z"⟩
abbrev cX0_addDeed : ByteArray := prog_2_method_5_code
def yX0_addDeed : MethodName := ⟨RX0, "addDeed", "(IIII)I"⟩
abbrev cX0_putRight : ByteArray := prog_2_method_6_code
def yX0_putRight : MethodName := ⟨RX0, "putRight", "(III)I"⟩
abbrev cX0_fitting : ByteArray := prog_2_method_7_code
def yX0_fitting : MethodName := ⟨RX0, "fitting", "(II)J"⟩
abbrev cX0_stoppedAsKnown : ByteArray := prog_2_method_8_code
def yX0_stoppedAsKnown : MethodName := ⟨RX0, "stoppedAsKnown", "(II)I"⟩
abbrev cX0_fearsThatStop : ByteArray := prog_2_method_9_code
def yX0_fearsThatStop : MethodName := ⟨RX0, "fearsThatStop", "(I)J"⟩
abbrev cX0_bestQuestion : ByteArray := prog_2_method_10_code
def yX0_bestQuestion : MethodName := ⟨RX0, "bestQuestion", "(II)I"⟩
def RX1 : String := "StepAway$Hearing"
def TX1 : u_T := fun k => match k with
  | 0 => ("StepAway$Hearing", "states", "[I", true)
  | 1 => ("StepAway$Hearing", "margins", "[I", true)
  | 2 => ("StepAway$Hearing", "space", "LStepAway$Space;", true)
  | 3 => ("StepAway$Hearing", "tape", "LStepAway$Tape;", true)
  | 4 => ("StepAway$Hearing", "heard", "Z", false)
  | 5 => ("StepAway$Hearing", "brokenStep", "I", false)
  | 6 => ("StepAway$Hearing", "stopper", "I", false)
  | 7 => ("StepAway$Hearing", "endedIn", "I", false)
  | _ => ("StepAway$Hearing", "stepsDone", "I", false)
def tyX1 : Nat → FieldType := fun k => match k with
  | 0 => .array .int
  | 1 => .array .int
  | 2 => .object "StepAway$Space"
  | 3 => .object "StepAway$Tape"
  | 4 => .boolean
  | 5 => .int
  | 6 => .int
  | 7 => .int
  | _ => .int
abbrev wsX10 : List Cond := u_ws RX1 TX1 9
theorem nmX1 : ∀ a, a < 9 → ∀ b, b < 9 → a ≠ b → (TX1 a).2.1 ≠ (TX1 b).2.1 := by decide +kernel
theorem tyX1_ok : ∀ k, k < 9 → parseFieldDescriptor (TX1 k).2.2.1 = some (tyX1 k) := by decide +kernel
abbrev cX1_forget : ByteArray := prog_3_method_1_code
def yX1_forget : MethodName := ⟨RX1, "forget", "()V"⟩
abbrev cX1_init : ByteArray := prog_3_method_2_code
def yX1_init : MethodName := ⟨RX1, "<init>", "(LStepAway$Space;LStepAway$Tape;)V"⟩
abbrev cX1_hear : ByteArray := prog_3_method_3_code
def yX1_hear : MethodName := ⟨RX1, "hear", "(I)I"⟩
abbrev cX1_conclude : ByteArray := prog_3_method_4_code
def yX1_conclude : MethodName := ⟨RX1, "conclude", "(III)I"⟩
abbrev cX1_firstToStop : ByteArray := prog_3_method_5_code
def yX1_firstToStop : MethodName := ⟨RX1, "firstToStop", "(III)I"⟩
abbrev cX1_stateBehindStep : ByteArray := prog_3_method_6_code
def yX1_stateBehindStep : MethodName := ⟨RX1, "stateBehindStep", "(II)I"⟩
abbrev cX1_stateBehindSingle : ByteArray := prog_3_method_7_code
def yX1_stateBehindSingle : MethodName := ⟨RX1, "stateBehindSingle", "(III)I"⟩
abbrev cX1_stateBehindSign : ByteArray := prog_3_method_8_code
def yX1_stateBehindSign : MethodName := ⟨RX1, "stateBehindSign", "(III)I"⟩
def RX2 : String := "StepAway$LeastRow"
def TX2 : u_T := fun k => match k with
  | 0 => ("StepAway$LeastRow", "gifts", "[[I", true)
  | 1 => ("StepAway$LeastRow", "states", "[I", true)
  | 2 => ("StepAway$LeastRow", "rows", "LStepAway$Rows;", true)
  | _ => ("StepAway$LeastRow", "steps", "I", false)
def tyX2 : Nat → FieldType := fun k => match k with
  | 0 => .array (.array .int)
  | 1 => .array .int
  | 2 => .object "StepAway$Rows"
  | _ => .int
abbrev wsX20 : List Cond := u_ws RX2 TX2 4
theorem nmX2 : ∀ a, a < 4 → ∀ b, b < 4 → a ≠ b → (TX2 a).2.1 ≠ (TX2 b).2.1 := by decide +kernel
theorem tyX2_ok : ∀ k, k < 4 → parseFieldDescriptor (TX2 k).2.2.1 = some (tyX2 k) := by decide +kernel
abbrev cX2_init : ByteArray := prog_4_method_1_code
def yX2_init : MethodName := ⟨RX2, "<init>", "(LStepAway$Rows;)V"⟩
abbrev cX2_forget : ByteArray := prog_4_method_2_code
def yX2_forget : MethodName := ⟨RX2, "forget", "()V"⟩
abbrev cX2_hasStep : ByteArray := prog_4_method_3_code
def yX2_hasStep : MethodName := ⟨RX2, "hasStep", "(I)Z"⟩
abbrev cX2_hasStop : ByteArray := prog_4_method_4_code
def yX2_hasStop : MethodName := ⟨RX2, "hasStop", "(I)Z"⟩
abbrev cX2_trace : ByteArray := prog_4_method_5_code
def yX2_trace : MethodName := ⟨RX2, "trace", "(II)V"⟩
abbrev cX2_takeStep : ByteArray := prog_4_method_6_code
def yX2_takeStep : MethodName := ⟨RX2, "takeStep", "(III)I"⟩
abbrev cX2_takeShare : ByteArray := prog_4_method_7_code
def yX2_takeShare : MethodName := ⟨RX2, "takeShare", "(IIII)I"⟩
abbrev cX2_leastGift : ByteArray := prog_4_method_8_code
def yX2_leastGift : MethodName := ⟨RX2, "leastGift", "(III)I"⟩
abbrev cX2_behindGift : ByteArray := prog_4_method_9_code
def yX2_behindGift : MethodName := ⟨RX2, "behindGift", "(II)I"⟩
def RX3 : String := "StepAway$Lexer"
def TX3 : u_T := fun k => match k with
  | 0 => ("StepAway$Lexer", "tape", "LStepAway$Tape;", true)
  | 1 => ("StepAway$Lexer", "next", "I", false)
  | 2 => ("StepAway$Lexer", "kind", "I", false)
  | 3 => ("StepAway$Lexer", "place", "I", false)
  | _ => ("StepAway$Lexer", "number", "I", false)
def tyX3 : Nat → FieldType := fun k => match k with
  | 0 => .object "StepAway$Tape"
  | 1 => .int
  | 2 => .int
  | 3 => .int
  | _ => .int
abbrev wsX30 : List Cond := u_ws RX3 TX3 5
theorem nmX3 : ∀ a, a < 5 → ∀ b, b < 5 → a ≠ b → (TX3 a).2.1 ≠ (TX3 b).2.1 := by decide +kernel
theorem tyX3_ok : ∀ k, k < 5 → parseFieldDescriptor (TX3 k).2.2.1 = some (tyX3 k) := by decide +kernel
abbrev cX3_init : ByteArray := prog_5_method_1_code
def yX3_init : MethodName := ⟨RX3, "<init>", "(LStepAway$Tape;)V"⟩
abbrev cX3_restart : ByteArray := prog_5_method_2_code
def yX3_restart : MethodName := ⟨RX3, "restart", "()V"⟩
abbrev cX3_advance : ByteArray := prog_5_method_3_code
def yX3_advance : MethodName := ⟨RX3, "advance", "()V"⟩
abbrev cX3_spells : ByteArray := prog_5_method_4_code
def yX3_spells : MethodName := ⟨RX3, "spells", "(Ljava/lang/String;)Z"⟩
abbrev cX3_wordCode : ByteArray := prog_5_method_5_code
def yX3_wordCode : MethodName := ⟨RX3, "wordCode", "()J"⟩
def RX4 : String := "StepAway$Matter"
def TX4 : u_T := fun k => match k with
  | 0 => ("StepAway$Matter", "clauses", "I", false)
  | 1 => ("StepAway$Matter", "sides", "I", false)
  | 2 => ("StepAway$Matter", "pieces", "I", false)
  | 3 => ("StepAway$Matter", "name", "[J", true)
  | 4 => ("StepAway$Matter", "owner", "[I", true)
  | 5 => ("StepAway$Matter", "cutInto", "[I", true)
  | 6 => ("StepAway$Matter", "kept", "[I", true)
  | 7 => ("StepAway$Matter", "undivided", "[Z", true)
  | 8 => ("StepAway$Matter", "worth", "[[I", true)
  | 9 => ("StepAway$Matter", "peace", "[I", true)
  | 10 => ("StepAway$Matter", "breach", "[I", true)
  | 11 => ("StepAway$Matter", "day", "I", false)
  | 12 => ("StepAway$Matter", "lump", "I", false)
  | 13 => ("StepAway$Matter", "mode", "I", false)
  | 14 => ("StepAway$Matter", "first", "I", false)
  | _ => ("StepAway$Matter", "pairs", "Z", false)
def tyX4 : Nat → FieldType := fun k => match k with
  | 0 => .int
  | 1 => .int
  | 2 => .int
  | 3 => .array .long
  | 4 => .array .int
  | 5 => .array .int
  | 6 => .array .int
  | 7 => .array .boolean
  | 8 => .array (.array .int)
  | 9 => .array .int
  | 10 => .array .int
  | 11 => .int
  | 12 => .int
  | 13 => .int
  | 14 => .int
  | _ => .boolean
abbrev wsX40 : List Cond := u_ws RX4 TX4 16
theorem nmX4 : ∀ a, a < 16 → ∀ b, b < 16 → a ≠ b → (TX4 a).2.1 ≠ (TX4 b).2.1 := by decide +kernel
theorem tyX4_ok : ∀ k, k < 16 → parseFieldDescriptor (TX4 k).2.2.1 = some (tyX4 k) := by decide +kernel
abbrev cX4_init : ByteArray := prog_6_method_1_code
def yX4_init : MethodName := ⟨RX4, "<init>", "()V"⟩
abbrev cX4_clear : ByteArray := prog_6_method_2_code
def yX4_clear : MethodName := ⟨RX4, "clear", "()V"⟩
abbrev cX4_copyFrom : ByteArray := prog_6_method_3_code
def yX4_copyFrom : MethodName := ⟨RX4, "copyFrom", "(LStepAway$Matter;)V"⟩
abbrev cX4_copyPiece : ByteArray := prog_6_method_4_code
def yX4_copyPiece : MethodName := ⟨RX4, "copyPiece", "(LStepAway$Matter;I)V"⟩
abbrev cX4_hasSide : ByteArray := prog_6_method_5_code
def yX4_hasSide : MethodName := ⟨RX4, "hasSide", "(I)Z"⟩
abbrev cX4_hasPiece : ByteArray := prog_6_method_6_code
def yX4_hasPiece : MethodName := ⟨RX4, "hasPiece", "(I)Z"⟩
abbrev cX4_pieceNamed : ByteArray := prog_6_method_7_code
def yX4_pieceNamed : MethodName := ⟨RX4, "pieceNamed", "(J)I"⟩
abbrev cX4_product : ByteArray := prog_6_method_8_code
def yX4_product : MethodName := ⟨RX4, "product", "()I"⟩
abbrev cX4_sideAfter : ByteArray := prog_6_method_9_code
def yX4_sideAfter : MethodName := ⟨RX4, "sideAfter", "(I)I"⟩
def RX5 : String := "StepAway$Reader"
def TX5 : u_T := fun k => match k with
  | 0 => ("StepAway$Reader", "lexer", "LStepAway$Lexer;", true)
  | 1 => ("StepAway$Reader", "draft", "LStepAway$Matter;", false)
  | 2 => ("StepAway$Reader", "clausesSeen", "I", false)
  | 3 => ("StepAway$Reader", "undividedTold", "I", false)
  | 4 => ("StepAway$Reader", "keptTold", "I", false)
  | 5 => ("StepAway$Reader", "faultKind", "I", false)
  | _ => ("StepAway$Reader", "faultPlace", "I", false)
def tyX5 : Nat → FieldType := fun k => match k with
  | 0 => .object "StepAway$Lexer"
  | 1 => .object "StepAway$Matter"
  | 2 => .int
  | 3 => .int
  | 4 => .int
  | 5 => .int
  | _ => .int
abbrev wsX50 : List Cond := u_ws RX5 TX5 7
theorem nmX5 : ∀ a, a < 7 → ∀ b, b < 7 → a ≠ b → (TX5 a).2.1 ≠ (TX5 b).2.1 := by decide +kernel
theorem tyX5_ok : ∀ k, k < 7 → parseFieldDescriptor (TX5 k).2.2.1 = some (tyX5 k) := by decide +kernel
abbrev cX5_init : ByteArray := prog_7_method_1_code
def yX5_init : MethodName := ⟨RX5, "<init>", "(LStepAway$Tape;)V"⟩
abbrev cX5_swapDraft : ByteArray := prog_7_method_2_code
def yX5_swapDraft : MethodName := ⟨RX5, "swapDraft", "(LStepAway$Matter;)LStepAway$Matter;"⟩
abbrev cX5_read : ByteArray := prog_7_method_3_code
def yX5_read : MethodName := ⟨RX5, "read", "()Z"⟩
abbrev cX5_takeClause : ByteArray := prog_7_method_4_code
def yX5_takeClause : MethodName := ⟨RX5, "takeClause", "()Z"⟩
abbrev cX5_takePiece : ByteArray := prog_7_method_5_code
def yX5_takePiece : MethodName := ⟨RX5, "takePiece", "()Z"⟩
abbrev cX5_takeWorths : ByteArray := prog_7_method_6_code
def yX5_takeWorths : MethodName := ⟨RX5, "takeWorths", "(I)Z"⟩
abbrev cX5_takeUndivided : ByteArray := prog_7_method_7_code
def yX5_takeUndivided : MethodName := ⟨RX5, "takeUndivided", "()Z"⟩
abbrev cX5_takeKept : ByteArray := prog_7_method_8_code
def yX5_takeKept : MethodName := ⟨RX5, "takeKept", "()Z"⟩
abbrev cX5_takeKnownPiece : ByteArray := prog_7_method_9_code
def yX5_takeKnownPiece : MethodName := ⟨RX5, "takeKnownPiece", "(I)I"⟩
abbrev cX5_takeAmounts : ByteArray := prog_7_method_10_code
def yX5_takeAmounts : MethodName := ⟨RX5, "takeAmounts", "([I)Z"⟩
abbrev cX5_takeDay : ByteArray := prog_7_method_11_code
def yX5_takeDay : MethodName := ⟨RX5, "takeDay", "()Z"⟩
abbrev cX5_takeLump : ByteArray := prog_7_method_12_code
def yX5_takeLump : MethodName := ⟨RX5, "takeLump", "()Z"⟩
abbrev cX5_takeMode : ByteArray := prog_7_method_13_code
def yX5_takeMode : MethodName := ⟨RX5, "takeMode", "()Z"⟩
abbrev cX5_takeFirst : ByteArray := prog_7_method_14_code
def yX5_takeFirst : MethodName := ⟨RX5, "takeFirst", "()Z"⟩
abbrev cX5_takePairs : ByteArray := prog_7_method_15_code
def yX5_takePairs : MethodName := ⟨RX5, "takePairs", "()Z"⟩
abbrev cX5_onlyOnce : ByteArray := prog_7_method_16_code
def yX5_onlyOnce : MethodName := ⟨RX5, "onlyOnce", "(I)Z"⟩
abbrev cX5_takeKeyword : ByteArray := prog_7_method_17_code
def yX5_takeKeyword : MethodName := ⟨RX5, "takeKeyword", "(Ljava/lang/String;)Z"⟩
abbrev cX5_takeWord : ByteArray := prog_7_method_18_code
def yX5_takeWord : MethodName := ⟨RX5, "takeWord", "()Z"⟩
abbrev cX5_takeSemicolon : ByteArray := prog_7_method_19_code
def yX5_takeSemicolon : MethodName := ⟨RX5, "takeSemicolon", "()Z"⟩
abbrev cX5_takeNumber : ByteArray := prog_7_method_20_code
def yX5_takeNumber : MethodName := ⟨RX5, "takeNumber", "(II)Z"⟩
abbrev cX5_isNumber : ByteArray := prog_7_method_21_code
def yX5_isNumber : MethodName := ⟨RX5, "isNumber", "(II)Z"⟩
abbrev cX5_refuse : ByteArray := prog_7_method_22_code
def yX5_refuse : MethodName := ⟨RX5, "refuse", "(I)Z"⟩
def RX6 : String := "StepAway$Rows"
def TX6 : u_T := fun k => match k with
  | 0 => ("StepAway$Rows", "layers", "[[J", true)
  | 1 => ("StepAway$Rows", "layerBehind", "[I", true)
  | 2 => ("StepAway$Rows", "still", "[I", true)
  | 3 => ("StepAway$Rows", "gathered", "[J", true)
  | 4 => ("StepAway$Rows", "bestStop", "[I", true)
  | 5 => ("StepAway$Rows", "space", "LStepAway$Space;", false)
  | _ => ("StepAway$Rows", "matter", "LStepAway$Matter;", false)
def tyX6 : Nat → FieldType := fun k => match k with
  | 0 => .array (.array .long)
  | 1 => .array .int
  | 2 => .array .int
  | 3 => .array .long
  | 4 => .array .int
  | 5 => .object "StepAway$Space"
  | _ => .object "StepAway$Matter"
abbrev wsX60 : List Cond := u_ws RX6 TX6 7
theorem nmX6 : ∀ a, a < 7 → ∀ b, b < 7 → a ≠ b → (TX6 a).2.1 ≠ (TX6 b).2.1 := by decide +kernel
theorem tyX6_ok : ∀ k, k < 7 → parseFieldDescriptor (TX6 k).2.2.1 = some (tyX6 k) := by decide +kernel
abbrev cX6_init : ByteArray := prog_8_method_1_code
def yX6_init : MethodName := ⟨RX6, "<init>", "(LStepAway$Space;)V"⟩
abbrev cX6_solve : ByteArray := prog_8_method_2_code
def yX6_solve : MethodName := ⟨RX6, "solve", "(LStepAway$Space;[I)V"⟩
abbrev cX6_layerBehindSide : ByteArray := prog_8_method_3_code
def yX6_layerBehindSide : MethodName := ⟨RX6, "layerBehindSide", "(I)I"⟩
abbrev cX6_clearLayer : ByteArray := prog_8_method_4_code
def yX6_clearLayer : MethodName := ⟨RX6, "clearLayer", "([J)V"⟩
abbrev cX6_nextState : ByteArray := prog_8_method_5_code
def yX6_nextState : MethodName := ⟨RX6, "nextState", "(I)I"⟩
abbrev cX6_solveState : ByteArray := prog_8_method_6_code
def yX6_solveState : MethodName := ⟨RX6, "solveState", "(I)V"⟩
abbrev cX6_stayBits : ByteArray := prog_8_method_7_code
def yX6_stayBits : MethodName := ⟨RX6, "stayBits", "(I)J"⟩
abbrev cX6_gatherGifts : ByteArray := prog_8_method_8_code
def yX6_gatherGifts : MethodName := ⟨RX6, "gatherGifts", "(I)V"⟩
abbrev cX6_layOnce : ByteArray := prog_8_method_9_code
def yX6_layOnce : MethodName := ⟨RX6, "layOnce", "(IJ)V"⟩
abbrev cX6_layTurns : ByteArray := prog_8_method_10_code
def yX6_layTurns : MethodName := ⟨RX6, "layTurns", "(IJ)V"⟩
abbrev cX6_safeBits : ByteArray := prog_8_method_11_code
def yX6_safeBits : MethodName := ⟨RX6, "safeBits", "(II)J"⟩
abbrev cX6_fewest : ByteArray := prog_8_method_12_code
def yX6_fewest : MethodName := ⟨RX6, "fewest", "(II)I"⟩
abbrev cX6_isSafe : ByteArray := prog_8_method_13_code
def yX6_isSafe : MethodName := ⟨RX6, "isSafe", "(III)Z"⟩
def RX7 : String := "StepAway$Space"
def TX7 : u_T := fun k => match k with
  | 0 => ("StepAway$Space", "matter", "LStepAway$Matter;", false)
  | 1 => ("StepAway$Space", "states", "I", false)
  | 2 => ("StepAway$Space", "begin", "I", false)
  | 3 => ("StepAway$Space", "endState", "I", false)
  | 4 => ("StepAway$Space", "weight", "[I", true)
  | 5 => ("StepAway$Space", "stops", "[[I", true)
  | 6 => ("StepAway$Space", "goals", "[I", true)
  | _ => ("StepAway$Space", "margins", "[I", true)
def tyX7 : Nat → FieldType := fun k => match k with
  | 0 => .object "StepAway$Matter"
  | 1 => .int
  | 2 => .int
  | 3 => .int
  | 4 => .array .int
  | 5 => .array (.array .int)
  | 6 => .array .int
  | _ => .array .int
abbrev wsX70 : List Cond := u_ws RX7 TX7 8
theorem nmX7 : ∀ a, a < 8 → ∀ b, b < 8 → a ≠ b → (TX7 a).2.1 ≠ (TX7 b).2.1 := by decide +kernel
theorem tyX7_ok : ∀ k, k < 8 → parseFieldDescriptor (TX7 k).2.2.1 = some (tyX7 k) := by decide +kernel
abbrev cX7_init : ByteArray := prog_9_method_1_code
def yX7_init : MethodName := ⟨RX7, "<init>", "(LStepAway$Matter;)V"⟩
abbrev cX7_lay : ByteArray := prog_9_method_2_code
def yX7_lay : MethodName := ⟨RX7, "lay", "(LStepAway$Matter;)V"⟩
abbrev cX7_layStops : ByteArray := prog_9_method_3_code
def yX7_layStops : MethodName := ⟨RX7, "layStops", "(I)V"⟩
abbrev cX7_shareOf : ByteArray := prog_9_method_4_code
def yX7_shareOf : MethodName := ⟨RX7, "shareOf", "(III)I"⟩
abbrev cX7_hasState : ByteArray := prog_9_method_5_code
def yX7_hasState : MethodName := ⟨RX7, "hasState", "(I)Z"⟩
abbrev cX7_partsLeft : ByteArray := prog_9_method_6_code
def yX7_partsLeft : MethodName := ⟨RX7, "partsLeft", "(II)I"⟩
abbrev cX7_stateBehind : ByteArray := prog_9_method_7_code
def yX7_stateBehind : MethodName := ⟨RX7, "stateBehind", "(III)I"⟩
abbrev cX7_mixedState : ByteArray := prog_9_method_8_code
def yX7_mixedState : MethodName := ⟨RX7, "mixedState", "(III)I"⟩
abbrev cX7_marginWithoutBreach : ByteArray := prog_9_method_9_code
def yX7_marginWithoutBreach : MethodName := ⟨RX7, "marginWithoutBreach", "(III)I"⟩
abbrev cX7_leavers : ByteArray := prog_9_method_10_code
def yX7_leavers : MethodName := ⟨RX7, "leavers", "(II)I"⟩
abbrev cX7_leaversBy : ByteArray := prog_9_method_11_code
def yX7_leaversBy : MethodName := ⟨RX7, "leaversBy", "([I)I"⟩
abbrev cX7_tooGreat : ByteArray := prog_9_method_12_code
def yX7_tooGreat : MethodName := ⟨RX7, "tooGreat", "()I"⟩
abbrev cX7_lossByFirstGift : ByteArray := prog_9_method_13_code
def yX7_lossByFirstGift : MethodName := ⟨RX7, "lossByFirstGift", "(I)I"⟩
def RX8 : String := "StepAway$Tape"
def TX8 : u_T := fun k => match k with
  | 0 => ("StepAway$Tape", "bytes", "[B", true)
  | _ => ("StepAway$Tape", "length", "I", false)
def tyX8 : Nat → FieldType := fun k => match k with
  | 0 => .array .byte
  | _ => .int
abbrev wsX80 : List Cond := u_ws RX8 TX8 2
theorem nmX8 : ∀ a, a < 2 → ∀ b, b < 2 → a ≠ b → (TX8 a).2.1 ≠ (TX8 b).2.1 := by decide +kernel
theorem tyX8_ok : ∀ k, k < 2 → parseFieldDescriptor (TX8 k).2.2.1 = some (tyX8 k) := by decide +kernel
abbrev cX8_init : ByteArray := prog_10_method_1_code
def yX8_init : MethodName := ⟨RX8, "<init>", "()V"⟩
abbrev cX8_append : ByteArray := prog_10_method_2_code
def yX8_append : MethodName := ⟨RX8, "append", "(IIIII)Z"⟩
abbrev cX8_appendFour : ByteArray := prog_10_method_3_code
def yX8_appendFour : MethodName := ⟨RX8, "appendFour", "(I)V"⟩
abbrev cX8_shorten : ByteArray := prog_10_method_4_code
def yX8_shorten : MethodName := ⟨RX8, "shorten", "(I)Z"⟩
abbrev cX8_clear : ByteArray := prog_10_method_5_code
def yX8_clear : MethodName := ⟨RX8, "clear", "()V"⟩
abbrev cX8_at : ByteArray := prog_10_method_6_code
def yX8_at : MethodName := ⟨RX8, "at", "(I)I"⟩
def RX9 : String := "StepAway$Trials"
def TX9 : u_T := fun k => match k with
  | 0 => ("StepAway$Trials", "space", "LStepAway$Space;", true)
  | 1 => ("StepAway$Trials", "rows", "LStepAway$Rows;", true)
  | 2 => ("StepAway$Trials", "breach", "[I", true)
  | 3 => ("StepAway$Trials", "altered", "LStepAway$Matter;", true)
  | _ => ("StepAway$Trials", "alteredSpace", "LStepAway$Space;", true)
def tyX9 : Nat → FieldType := fun k => match k with
  | 0 => .object "StepAway$Space"
  | 1 => .object "StepAway$Rows"
  | 2 => .array .int
  | 3 => .object "StepAway$Matter"
  | _ => .object "StepAway$Space"
abbrev wsX90 : List Cond := u_ws RX9 TX9 5
theorem nmX9 : ∀ a, a < 5 → ∀ b, b < 5 → a ≠ b → (TX9 a).2.1 ≠ (TX9 b).2.1 := by decide +kernel
theorem tyX9_ok : ∀ k, k < 5 → parseFieldDescriptor (TX9 k).2.2.1 = some (tyX9 k) := by decide +kernel
abbrev cX9_init : ByteArray := prog_11_method_1_code
def yX9_init : MethodName := ⟨RX9, "<init>", "(LStepAway$Space;)V"⟩
abbrev cX9_holds : ByteArray := prog_11_method_2_code
def yX9_holds : MethodName := ⟨RX9, "holds", "(LStepAway$Space;III)Z"⟩
abbrev cX9_leastNeed : ByteArray := prog_11_method_3_code
def yX9_leastNeed : MethodName := ⟨RX9, "leastNeed", "()I"⟩
abbrev cX9_leastForLastStep : ByteArray := prog_11_method_4_code
def yX9_leastForLastStep : MethodName := ⟨RX9, "leastForLastStep", "()I"⟩
abbrev cX9_hasLastStep : ByteArray := prog_11_method_5_code
def yX9_hasLastStep : MethodName := ⟨RX9, "hasLastStep", "(I)Z"⟩
abbrev cX9_addedToStay : ByteArray := prog_11_method_6_code
def yX9_addedToStay : MethodName := ⟨RX9, "addedToStay", "(I)I"⟩
abbrev cX9_leastPledge : ByteArray := prog_11_method_7_code
def yX9_leastPledge : MethodName := ⟨RX9, "leastPledge", "(II)I"⟩
abbrev cX9_leastCut : ByteArray := prog_11_method_8_code
def yX9_leastCut : MethodName := ⟨RX9, "leastCut", "(I)I"⟩
abbrev cX9_leastMove : ByteArray := prog_11_method_9_code
def yX9_leastMove : MethodName := ⟨RX9, "leastMove", "(IIZ)I"⟩
abbrev cX9_fewestWithTrust : ByteArray := prog_11_method_10_code
def yX9_fewestWithTrust : MethodName := ⟨RX9, "fewestWithTrust", "(III)I"⟩
def RX10 : String := "StepAway"
def TX10 : u_T := fun k => match k with
  | 0 => ("StepAway", "tape", "LStepAway$Tape;", true)
  | 1 => ("StepAway", "reader", "LStepAway$Reader;", true)
  | 2 => ("StepAway", "space", "LStepAway$Space;", true)
  | 3 => ("StepAway", "rows", "LStepAway$Rows;", true)
  | 4 => ("StepAway", "leastRow", "LStepAway$LeastRow;", true)
  | 5 => ("StepAway", "trials", "LStepAway$Trials;", true)
  | 6 => ("StepAway", "hearing", "LStepAway$Hearing;", true)
  | 7 => ("StepAway", "fears", "LStepAway$Fears;", true)
  | _ => ("StepAway", "held", "LStepAway$Matter;", false)
def tyX10 : Nat → FieldType := fun k => match k with
  | 0 => .object "StepAway$Tape"
  | 1 => .object "StepAway$Reader"
  | 2 => .object "StepAway$Space"
  | 3 => .object "StepAway$Rows"
  | 4 => .object "StepAway$LeastRow"
  | 5 => .object "StepAway$Trials"
  | 6 => .object "StepAway$Hearing"
  | 7 => .object "StepAway$Fears"
  | _ => .object "StepAway$Matter"
abbrev wsX100 : List Cond := u_ws RX10 TX10 9
theorem nmX10 : ∀ a, a < 9 → ∀ b, b < 9 → a ≠ b → (TX10 a).2.1 ≠ (TX10 b).2.1 := by decide +kernel
theorem tyX10_ok : ∀ k, k < 9 → parseFieldDescriptor (TX10 k).2.2.1 = some (tyX10 k) := by decide +kernel
abbrev cX10_init : ByteArray := prog_1_method_1_code
def yX10_init : MethodName := ⟨RX10, "<init>", "()V"⟩
abbrev cX10_feed : ByteArray := prog_1_method_2_code
def yX10_feed : MethodName := ⟨RX10, "feed", "(IIIII)I"⟩
abbrev cX10_end : ByteArray := prog_1_method_3_code
def yX10_end : MethodName := ⟨RX10, "end", "(I)I"⟩
abbrev cX10_matter : ByteArray := prog_1_method_4_code
def yX10_matter : MethodName := ⟨RX10, "matter", "()I"⟩
abbrev cX10_fault : ByteArray := prog_1_method_5_code
def yX10_fault : MethodName := ⟨RX10, "fault", "(I)I"⟩
abbrev cX10_told : ByteArray := prog_1_method_6_code
def yX10_told : MethodName := ⟨RX10, "told", "(I)I"⟩
abbrev cX10_piece : ByteArray := prog_1_method_7_code
def yX10_piece : MethodName := ⟨RX10, "piece", "(II)I"⟩
abbrev cX10_corner : ByteArray := prog_1_method_8_code
def yX10_corner : MethodName := ⟨RX10, "corner", "(I)I"⟩
abbrev cX10_parts : ByteArray := prog_1_method_9_code
def yX10_parts : MethodName := ⟨RX10, "parts", "(II)I"⟩
abbrev cX10_stop : ByteArray := prog_1_method_10_code
def yX10_stop : MethodName := ⟨RX10, "stop", "(II)I"⟩
abbrev cX10_goal : ByteArray := prog_1_method_11_code
def yX10_goal : MethodName := ⟨RX10, "goal", "(I)I"⟩
abbrev cX10_gift : ByteArray := prog_1_method_12_code
def yX10_gift : MethodName := ⟨RX10, "gift", "(III)I"⟩
abbrev cX10_leave : ByteArray := prog_1_method_13_code
def yX10_leave : MethodName := ⟨RX10, "leave", "(II)I"⟩
abbrev cX10_find : ByteArray := prog_1_method_14_code
def yX10_find : MethodName := ⟨RX10, "find", "(II)I"⟩
abbrev cX10_row : ByteArray := prog_1_method_15_code
def yX10_row : MethodName := ⟨RX10, "row", "(II)I"⟩
abbrev cX10_along : ByteArray := prog_1_method_16_code
def yX10_along : MethodName := ⟨RX10, "along", "(I)I"⟩
abbrev cX10_safe : ByteArray := prog_1_method_17_code
def yX10_safe : MethodName := ⟨RX10, "safe", "(II)J"⟩
abbrev cX10_many : ByteArray := prog_1_method_18_code
def yX10_many : MethodName := ⟨RX10, "many", "(I)I"⟩
abbrev cX10_need : ByteArray := prog_1_method_19_code
def yX10_need : MethodName := ⟨RX10, "need", "()I"⟩
abbrev cX10_last : ByteArray := prog_1_method_20_code
def yX10_last : MethodName := ⟨RX10, "last", "()I"⟩
abbrev cX10_pledge : ByteArray := prog_1_method_21_code
def yX10_pledge : MethodName := ⟨RX10, "pledge", "(II)I"⟩
abbrev cX10_cut : ByteArray := prog_1_method_22_code
def yX10_cut : MethodName := ⟨RX10, "cut", "(I)I"⟩
abbrev cX10_edge : ByteArray := prog_1_method_23_code
def yX10_edge : MethodName := ⟨RX10, "edge", "(II)I"⟩
abbrev cX10_great : ByteArray := prog_1_method_24_code
def yX10_great : MethodName := ⟨RX10, "great", "(I)I"⟩
abbrev cX10_again : ByteArray := prog_1_method_25_code
def yX10_again : MethodName := ⟨RX10, "again", "(III)I"⟩
abbrev cX10_judge : ByteArray := prog_1_method_26_code
def yX10_judge : MethodName := ⟨RX10, "judge", "(I)I"⟩
abbrev cX10_judged : ByteArray := prog_1_method_27_code
def yX10_judged : MethodName := ⟨RX10, "judged", "(I)I"⟩
abbrev cX10_did : ByteArray := prog_1_method_28_code
def yX10_did : MethodName := ⟨RX10, "did", "(IIIII)I"⟩
abbrev cX10_right : ByteArray := prog_1_method_29_code
def yX10_right : MethodName := ⟨RX10, "right", "(III)I"⟩
abbrev cX10_fit : ByteArray := prog_1_method_30_code
def yX10_fit : MethodName := ⟨RX10, "fit", "(II)J"⟩
abbrev cX10_ask : ByteArray := prog_1_method_31_code
def yX10_ask : MethodName := ⟨RX10, "ask", "(II)I"⟩
abbrev cX10_count : ByteArray := prog_1_method_32_code
def yX10_count : MethodName := ⟨RX10, "count", "(I)I"⟩
abbrev cX10_isStand : ByteArray := prog_1_method_33_code
def yX10_isStand : MethodName := ⟨RX10, "isStand", "(II)Z"⟩
abbrev cX10_within : ByteArray := prog_1_method_34_code
def yX10_within : MethodName := ⟨RX10, "within", "(III)Z"⟩
def RX11 : String := "StepAwayModel"
def TX11 : u_T := fun k => match k with
  | 0 => ("StepAwayModel", "tape", "[B", true)
  | 1 => ("StepAwayModel", "taped", "I", false)
  | 2 => ("StepAwayModel", "length", "I", false)
  | 3 => ("StepAwayModel", "from", "I", false)
  | 4 => ("StepAwayModel", "behind", "I", false)
  | 5 => ("StepAwayModel", "hand", "I", false)
  | 6 => ("StepAwayModel", "value", "I", false)
  | 7 => ("StepAwayModel", "fault", "I", false)
  | 8 => ("StepAwayModel", "faultAt", "I", false)
  | 9 => ("StepAwayModel", "got", "I", false)
  | 10 => ("StepAwayModel", "sides", "I", false)
  | 11 => ("StepAwayModel", "pieces", "I", false)
  | 12 => ("StepAwayModel", "day", "I", false)
  | 13 => ("StepAwayModel", "lump", "I", false)
  | 14 => ("StepAwayModel", "mode", "I", false)
  | 15 => ("StepAwayModel", "first", "I", false)
  | 16 => ("StepAwayModel", "clauses", "I", false)
  | 17 => ("StepAwayModel", "readSides", "I", false)
  | 18 => ("StepAwayModel", "readPieces", "I", false)
  | 19 => ("StepAwayModel", "readDay", "I", false)
  | 20 => ("StepAwayModel", "readLump", "I", false)
  | 21 => ("StepAwayModel", "readMode", "I", false)
  | 22 => ("StepAwayModel", "readFirst", "I", false)
  | 23 => ("StepAwayModel", "product", "I", false)
  | 24 => ("StepAwayModel", "pairs", "Z", false)
  | 25 => ("StepAwayModel", "readPairs", "Z", false)
  | 26 => ("StepAwayModel", "dayTold", "Z", false)
  | 27 => ("StepAwayModel", "lumpTold", "Z", false)
  | 28 => ("StepAwayModel", "modeTold", "Z", false)
  | 29 => ("StepAwayModel", "firstTold", "Z", false)
  | 30 => ("StepAwayModel", "peaceTold", "Z", false)
  | 31 => ("StepAwayModel", "breachTold", "Z", false)
  | 32 => ("StepAwayModel", "side", "[I", true)
  | 33 => ("StepAwayModel", "parts", "[I", true)
  | 34 => ("StepAwayModel", "left", "[I", true)
  | 35 => ("StepAwayModel", "worth", "[I", true)
  | 36 => ("StepAwayModel", "peace", "[I", true)
  | 37 => ("StepAwayModel", "breach", "[I", true)
  | 38 => ("StepAwayModel", "isWhole", "[Z", true)
  | 39 => ("StepAwayModel", "readWhole", "[Z", true)
  | 40 => ("StepAwayModel", "leftTold", "[Z", true)
  | 41 => ("StepAwayModel", "readSide", "[I", true)
  | 42 => ("StepAwayModel", "readParts", "[I", true)
  | 43 => ("StepAwayModel", "readLeft", "[I", true)
  | 44 => ("StepAwayModel", "readWorth", "[I", true)
  | 45 => ("StepAwayModel", "readPeace", "[I", true)
  | 46 => ("StepAwayModel", "readBreach", "[I", true)
  | 47 => ("StepAwayModel", "names", "[J", true)
  | 48 => ("StepAwayModel", "read", "I", false)
  | 49 => ("StepAwayModel", "states", "I", false)
  | 50 => ("StepAwayModel", "begin", "I", false)
  | 51 => ("StepAwayModel", "finish", "I", false)
  | 52 => ("StepAwayModel", "place", "[I", true)
  | 53 => ("StepAwayModel", "has", "[I", true)
  | 54 => ("StepAwayModel", "stops", "[I", true)
  | 55 => ("StepAwayModel", "extra", "[I", true)
  | 56 => ("StepAwayModel", "safe", "[J", true)
  | 57 => ("StepAwayModel", "stay", "[J", true)
  | 58 => ("StepAwayModel", "rowGift", "[I", true)
  | 59 => ("StepAwayModel", "rowState", "[I", true)
  | 60 => ("StepAwayModel", "rowSteps", "I", false)
  | 61 => ("StepAwayModel", "lastStay", "[J", true)
  | 62 => ("StepAwayModel", "hasJudged", "Z", false)
  | 63 => ("StepAwayModel", "badStep", "I", false)
  | 64 => ("StepAwayModel", "badSide", "I", false)
  | 65 => ("StepAwayModel", "endState", "I", false)
  | 66 => ("StepAwayModel", "doneSteps", "I", false)
  | 67 => ("StepAwayModel", "passed", "[I", true)
  | 68 => ("StepAwayModel", "dids", "I", false)
  | 69 => ("StepAwayModel", "rights", "I", false)
  | 70 => ("StepAwayModel", "telling", "I", false)
  | 71 => ("StepAwayModel", "didSide", "[I", true)
  | 72 => ("StepAwayModel", "didState", "[I", true)
  | 73 => ("StepAwayModel", "didSteps", "[I", true)
  | 74 => ("StepAwayModel", "didStop", "[I", true)
  | 75 => ("StepAwayModel", "didAt", "[I", true)
  | 76 => ("StepAwayModel", "rightOf", "[I", true)
  | 77 => ("StepAwayModel", "rightStop", "[I", true)
  | _ => ("StepAwayModel", "rightAt", "[I", true)
def tyX11 : Nat → FieldType := fun k => match k with
  | 0 => .array .byte
  | 1 => .int
  | 2 => .int
  | 3 => .int
  | 4 => .int
  | 5 => .int
  | 6 => .int
  | 7 => .int
  | 8 => .int
  | 9 => .int
  | 10 => .int
  | 11 => .int
  | 12 => .int
  | 13 => .int
  | 14 => .int
  | 15 => .int
  | 16 => .int
  | 17 => .int
  | 18 => .int
  | 19 => .int
  | 20 => .int
  | 21 => .int
  | 22 => .int
  | 23 => .int
  | 24 => .boolean
  | 25 => .boolean
  | 26 => .boolean
  | 27 => .boolean
  | 28 => .boolean
  | 29 => .boolean
  | 30 => .boolean
  | 31 => .boolean
  | 32 => .array .int
  | 33 => .array .int
  | 34 => .array .int
  | 35 => .array .int
  | 36 => .array .int
  | 37 => .array .int
  | 38 => .array .boolean
  | 39 => .array .boolean
  | 40 => .array .boolean
  | 41 => .array .int
  | 42 => .array .int
  | 43 => .array .int
  | 44 => .array .int
  | 45 => .array .int
  | 46 => .array .int
  | 47 => .array .long
  | 48 => .int
  | 49 => .int
  | 50 => .int
  | 51 => .int
  | 52 => .array .int
  | 53 => .array .int
  | 54 => .array .int
  | 55 => .array .int
  | 56 => .array .long
  | 57 => .array .long
  | 58 => .array .int
  | 59 => .array .int
  | 60 => .int
  | 61 => .array .long
  | 62 => .boolean
  | 63 => .int
  | 64 => .int
  | 65 => .int
  | 66 => .int
  | 67 => .array .int
  | 68 => .int
  | 69 => .int
  | 70 => .int
  | 71 => .array .int
  | 72 => .array .int
  | 73 => .array .int
  | 74 => .array .int
  | 75 => .array .int
  | 76 => .array .int
  | 77 => .array .int
  | _ => .array .int
abbrev wsX110 : List Cond := u_ws RX11 TX11 79
theorem nmX11 : ∀ a, a < 79 → ∀ b, b < 79 → a ≠ b → (TX11 a).2.1 ≠ (TX11 b).2.1 := by decide +kernel
theorem tyX11_ok : ∀ k, k < 79 → parseFieldDescriptor (TX11 k).2.2.1 = some (tyX11 k) := by decide +kernel
abbrev cX11_in : ByteArray := prog_13_method_1_code
def yX11_in : MethodName := ⟨RX11, "in", "(JJJ)Z"⟩
abbrev cX11_wrong : ByteArray := prog_13_method_2_code
def yX11_wrong : MethodName := ⟨RX11, "wrong", "(I)Z"⟩
abbrev cX11_byteAt : ByteArray := prog_13_method_3_code
def yX11_byteAt : MethodName := ⟨RX11, "byteAt", "(I)I"⟩
abbrev cX11_isSmall : ByteArray := prog_13_method_4_code
def yX11_isSmall : MethodName := ⟨RX11, "isSmall", "(I)Z"⟩
abbrev cX11_isDigit : ByteArray := prog_13_method_5_code
def yX11_isDigit : MethodName := ⟨RX11, "isDigit", "(I)Z"⟩
abbrev cX11_scan : ByteArray := prog_13_method_6_code
def yX11_scan : MethodName := ⟨RX11, "scan", "()V"⟩
abbrev cX11_is : ByteArray := prog_13_method_7_code
def yX11_is : MethodName := ⟨RX11, "is", "(Ljava/lang/String;)Z"⟩
abbrev cX11_isSign : ByteArray := prog_13_method_8_code
def yX11_isSign : MethodName := ⟨RX11, "isSign", "(I)Z"⟩
abbrev cX11_look : ByteArray := prog_13_method_9_code
def yX11_look : MethodName := ⟨RX11, "look", "(II)Z"⟩
abbrev cX11_number : ByteArray := prog_13_method_10_code
def yX11_number : MethodName := ⟨RX11, "number", "(II)Z"⟩
abbrev cX11_expect : ByteArray := prog_13_method_11_code
def yX11_expect : MethodName := ⟨RX11, "expect", "(Ljava/lang/String;)Z"⟩
abbrev cX11_signed : ByteArray := prog_13_method_12_code
def yX11_signed : MethodName := ⟨RX11, "signed", "()Z"⟩
abbrev cX11_name : ByteArray := prog_13_method_13_code
def yX11_name : MethodName := ⟨RX11, "name", "()J"⟩
abbrev cX11_pieceAt : ByteArray := prog_13_method_14_code
def yX11_pieceAt : MethodName := ⟨RX11, "pieceAt", "()I"⟩
abbrev cX11_readPiece : ByteArray := prog_13_method_15_code
def yX11_readPiece : MethodName := ⟨RX11, "readPiece", "()Z"⟩
abbrev cX11_readOf : ByteArray := prog_13_method_16_code
def yX11_readOf : MethodName := ⟨RX11, "readOf", "(Z)Z"⟩
abbrev cX11_readEach : ByteArray := prog_13_method_17_code
def yX11_readEach : MethodName := ⟨RX11, "readEach", "([I)Z"⟩
abbrev cX11_readMode : ByteArray := prog_13_method_18_code
def yX11_readMode : MethodName := ⟨RX11, "readMode", "()Z"⟩
abbrev cX11_readClause : ByteArray := prog_13_method_19_code
def yX11_readClause : MethodName := ⟨RX11, "readClause", "()Z"⟩
abbrev cX11_readSmall : ByteArray := prog_13_method_20_code
def yX11_readSmall : MethodName := ⟨RX11, "readSmall", "()Z"⟩
abbrev cX11_close : ByteArray := prog_13_method_21_code
def yX11_close : MethodName := ⟨RX11, "close", "()Z"⟩
abbrev cX11_plain : ByteArray := prog_13_method_22_code
def yX11_plain : MethodName := ⟨RX11, "plain", "()V"⟩
abbrev cX11_readMatter : ByteArray := prog_13_method_23_code
def yX11_readMatter : MethodName := ⟨RX11, "readMatter", "()Z"⟩
abbrev cX11_init : ByteArray := prog_13_method_24_code
def yX11_init : MethodName := ⟨RX11, "<init>", "()V"⟩
abbrev cX11_feed : ByteArray := prog_13_method_25_code
def yX11_feed : MethodName := ⟨RX11, "feed", "(IIIII)I"⟩
abbrev cX11_putFour : ByteArray := prog_13_method_26_code
def yX11_putFour : MethodName := ⟨RX11, "putFour", "(I)V"⟩
abbrev cX11_end : ByteArray := prog_13_method_27_code
def yX11_end : MethodName := ⟨RX11, "end", "(I)I"⟩
abbrev cX11_matter : ByteArray := prog_13_method_28_code
def yX11_matter : MethodName := ⟨RX11, "matter", "()I"⟩
abbrev cX11_fault : ByteArray := prog_13_method_29_code
def yX11_fault : MethodName := ⟨RX11, "fault", "(I)I"⟩
abbrev cX11_told : ByteArray := prog_13_method_30_code
def yX11_told : MethodName := ⟨RX11, "told", "(I)I"⟩
abbrev cX11_piece : ByteArray := prog_13_method_31_code
def yX11_piece : MethodName := ⟨RX11, "piece", "(II)I"⟩
abbrev cX11_place : ByteArray := prog_13_method_32_code
def yX11_place : MethodName := ⟨RX11, "place", "()V"⟩
abbrev cX11_stopBy : ByteArray := prog_13_method_33_code
def yX11_stopBy : MethodName := ⟨RX11, "stopBy", "(III)I"⟩
abbrev cX11_isState : ByteArray := prog_13_method_34_code
def yX11_isState : MethodName := ⟨RX11, "isState", "(I)Z"⟩
abbrev cX11_isSide : ByteArray := prog_13_method_35_code
def yX11_isSide : MethodName := ⟨RX11, "isSide", "(I)Z"⟩
abbrev cX11_isPiece : ByteArray := prog_13_method_36_code
def yX11_isPiece : MethodName := ⟨RX11, "isPiece", "(I)Z"⟩
abbrev cX11_goalOf : ByteArray := prog_13_method_37_code
def yX11_goalOf : MethodName := ⟨RX11, "goalOf", "(I)I"⟩
abbrev cX11_corner : ByteArray := prog_13_method_38_code
def yX11_corner : MethodName := ⟨RX11, "corner", "(I)I"⟩
abbrev cX11_parts : ByteArray := prog_13_method_39_code
def yX11_parts : MethodName := ⟨RX11, "parts", "(II)I"⟩
abbrev cX11_stop : ByteArray := prog_13_method_40_code
def yX11_stop : MethodName := ⟨RX11, "stop", "(II)I"⟩
abbrev cX11_goal : ByteArray := prog_13_method_41_code
def yX11_goal : MethodName := ⟨RX11, "goal", "(I)I"⟩
abbrev cX11_mayGive : ByteArray := prog_13_method_42_code
def yX11_mayGive : MethodName := ⟨RX11, "mayGive", "(III)Z"⟩
abbrev cX11_gift : ByteArray := prog_13_method_43_code
def yX11_gift : MethodName := ⟨RX11, "gift", "(III)I"⟩
abbrev cX11_oneOf : ByteArray := prog_13_method_44_code
def yX11_oneOf : MethodName := ⟨RX11, "oneOf", "(I)I"⟩
abbrev cX11_twoOf : ByteArray := prog_13_method_45_code
def yX11_twoOf : MethodName := ⟨RX11, "twoOf", "(I)I"⟩
abbrev cX11_counts : ByteArray := prog_13_method_46_code
def yX11_counts : MethodName := ⟨RX11, "counts", "(I)Z"⟩
abbrev cX11_shortOf : ByteArray := prog_13_method_47_code
def yX11_shortOf : MethodName := ⟨RX11, "shortOf", "(II)I"⟩
abbrev cX11_more : ByteArray := prog_13_method_48_code
def yX11_more : MethodName := ⟨RX11, "more", "(II)I"⟩
abbrev cX11_wouldStop : ByteArray := prog_13_method_49_code
def yX11_wouldStop : MethodName := ⟨RX11, "wouldStop", "(III)Z"⟩
abbrev cX11_leave : ByteArray := prog_13_method_50_code
def yX11_leave : MethodName := ⟨RX11, "leave", "(II)I"⟩
abbrev cX11_stayBits : ByteArray := prog_13_method_51_code
def yX11_stayBits : MethodName := ⟨RX11, "stayBits", "(I)J"⟩
abbrev cX11_turns : ByteArray := prog_13_method_52_code
def yX11_turns : MethodName := ⟨RX11, "turns", "()I"⟩
abbrev cX11_next : ByteArray := prog_13_method_53_code
def yX11_next : MethodName := ⟨RX11, "next", "(I)I"⟩
abbrev cX11_turnOf : ByteArray := prog_13_method_54_code
def yX11_turnOf : MethodName := ⟨RX11, "turnOf", "(I)I"⟩
abbrev cX11_findStay : ByteArray := prog_13_method_55_code
def yX11_findStay : MethodName := ⟨RX11, "findStay", "()V"⟩
abbrev cX11_findSafe : ByteArray := prog_13_method_56_code
def yX11_findSafe : MethodName := ⟨RX11, "findSafe", "()V"⟩
abbrev cX11_onward : ByteArray := prog_13_method_57_code
def yX11_onward : MethodName := ⟨RX11, "onward", "(II)J"⟩
abbrev cX11_together : ByteArray := prog_13_method_58_code
def yX11_together : MethodName := ⟨RX11, "together", "(IIII)J"⟩
abbrev cX11_noExtra : ByteArray := prog_13_method_59_code
def yX11_noExtra : MethodName := ⟨RX11, "noExtra", "()V"⟩
abbrev cX11_work : ByteArray := prog_13_method_60_code
def yX11_work : MethodName := ⟨RX11, "work", "()V"⟩
abbrev cX11_safeAt : ByteArray := prog_13_method_61_code
def yX11_safeAt : MethodName := ⟨RX11, "safeAt", "(II)J"⟩
abbrev cX11_holds : ByteArray := prog_13_method_62_code
def yX11_holds : MethodName := ⟨RX11, "holds", "()Z"⟩
abbrev cX11_lowest : ByteArray := prog_13_method_63_code
def yX11_lowest : MethodName := ⟨RX11, "lowest", "(J)I"⟩
abbrev cX11_find : ByteArray := prog_13_method_64_code
def yX11_find : MethodName := ⟨RX11, "find", "(II)I"⟩
abbrev cX11_isSafe : ByteArray := prog_13_method_65_code
def yX11_isSafe : MethodName := ⟨RX11, "isSafe", "(III)Z"⟩
abbrev cX11_one : ByteArray := prog_13_method_66_code
def yX11_one : MethodName := ⟨RX11, "one", "(IIII)I"⟩
abbrev cX11_chosen : ByteArray := prog_13_method_67_code
def yX11_chosen : MethodName := ⟨RX11, "chosen", "(IIIIII)I"⟩
abbrev cX11_row : ByteArray := prog_13_method_68_code
def yX11_row : MethodName := ⟨RX11, "row", "(II)I"⟩
abbrev cX11_along : ByteArray := prog_13_method_69_code
def yX11_along : MethodName := ⟨RX11, "along", "(I)I"⟩
abbrev cX11_safe : ByteArray := prog_13_method_70_code
def yX11_safe : MethodName := ⟨RX11, "safe", "(II)J"⟩
abbrev cX11_many : ByteArray := prog_13_method_71_code
def yX11_many : MethodName := ⟨RX11, "many", "(I)I"⟩
abbrev cX11_holdsBy : ByteArray := prog_13_method_72_code
def yX11_holdsBy : MethodName := ⟨RX11, "holdsBy", "(I)Z"⟩
abbrev cX11_need : ByteArray := prog_13_method_73_code
def yX11_need : MethodName := ⟨RX11, "need", "()I"⟩
abbrev cX11_isNear : ByteArray := prog_13_method_74_code
def yX11_isNear : MethodName := ⟨RX11, "isNear", "(I)Z"⟩
abbrev cX11_last : ByteArray := prog_13_method_75_code
def yX11_last : MethodName := ⟨RX11, "last", "()I"⟩
abbrev cX11_holdsWith : ByteArray := prog_13_method_76_code
def yX11_holdsWith : MethodName := ⟨RX11, "holdsWith", "(II)Z"⟩
abbrev cX11_pledge : ByteArray := prog_13_method_77_code
def yX11_pledge : MethodName := ⟨RX11, "pledge", "(II)I"⟩
abbrev cX11_cut : ByteArray := prog_13_method_78_code
def yX11_cut : MethodName := ⟨RX11, "cut", "(I)I"⟩
abbrev cX11_edge : ByteArray := prog_13_method_79_code
def yX11_edge : MethodName := ⟨RX11, "edge", "(II)I"⟩
abbrev cX11_great : ByteArray := prog_13_method_80_code
def yX11_great : MethodName := ⟨RX11, "great", "(I)I"⟩
abbrev cX11_again : ByteArray := prog_13_method_81_code
def yX11_again : MethodName := ⟨RX11, "again", "(III)I"⟩
abbrev cX11_stopper : ByteArray := prog_13_method_82_code
def yX11_stopper : MethodName := ⟨RX11, "stopper", "(III)I"⟩
abbrev cX11_judgedStep : ByteArray := prog_13_method_83_code
def yX11_judgedStep : MethodName := ⟨RX11, "judgedStep", "(III)I"⟩
abbrev cX11_judge : ByteArray := prog_13_method_84_code
def yX11_judge : MethodName := ⟨RX11, "judge", "(I)I"⟩
abbrev cX11_judged : ByteArray := prog_13_method_85_code
def yX11_judged : MethodName := ⟨RX11, "judged", "(I)I"⟩
abbrev cX11_isStop : ByteArray := prog_13_method_86_code
def yX11_isStop : MethodName := ⟨RX11, "isStop", "(I)Z"⟩
abbrev cX11_did : ByteArray := prog_13_method_87_code
def yX11_did : MethodName := ⟨RX11, "did", "(IIIII)I"⟩
abbrev cX11_right : ByteArray := prog_13_method_88_code
def yX11_right : MethodName := ⟨RX11, "right", "(III)I"⟩
abbrev cX11_stopAsKnown : ByteArray := prog_13_method_89_code
def yX11_stopAsKnown : MethodName := ⟨RX11, "stopAsKnown", "(II)I"⟩
abbrev cX11_fears : ByteArray := prog_13_method_90_code
def yX11_fears : MethodName := ⟨RX11, "fears", "(IIII)Z"⟩
abbrev cX11_fits : ByteArray := prog_13_method_91_code
def yX11_fits : MethodName := ⟨RX11, "fits", "(II)J"⟩
abbrev cX11_fit : ByteArray := prog_13_method_92_code
def yX11_fit : MethodName := ⟨RX11, "fit", "(II)J"⟩
abbrev cX11_ask : ByteArray := prog_13_method_93_code
def yX11_ask : MethodName := ⟨RX11, "ask", "(II)I"⟩
abbrev cX11_count : ByteArray := prog_13_method_94_code
def yX11_count : MethodName := ⟨RX11, "count", "(I)I"⟩
def RL : String := "StepAwayLaw"
abbrev cL_law : ByteArray := code
def yL_law : MethodName := ⟨RL, "law", "([I)Z"⟩
abbrev vwCl : List vw_C := [(RX0, TX0, 11), (RX1, TX1, 9), (RX2, TX2, 4), (RX3, TX3, 5), (RX4, TX4, 16), (RX5, TX5, 7), (RX6, TX6, 7), (RX7, TX7, 8), (RX8, TX8, 2), (RX9, TX9, 5), (RX10, TX10, 9), (RX11, TX11, 79)]
