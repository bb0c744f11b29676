-- ===== PART A: goes FIRST, ahead of the names: the tables' words, and 'selects' of the private methods out of them =====
/-- a private method of a class that the tables say can be made, by its rows of tables_1 -/
def lw_okq (q : MethodName × Nat) : Prop := (q.1.cls ≠ "java/lang/invoke/MethodHandle" ∧ q.1.cls ≠ "java/lang/invoke/VarHandle") ∧ Cond.instantiable q.1.cls q.2 ∈ tables_1 ∧ Cond.privateMethod q.1 ∈ tables_1 ∧ Cond.instanceMethod q.1 ∈ tables_1
theorem lw_p0 : lw_okq (⟨"BallastSteps", "faulted", "(I)I"⟩, 7) := ⟨⟨by decide +kernel, by decide +kernel⟩, List.mem_of_getElem? (i := 13) (by decide +kernel), List.mem_of_getElem? (i := 215) (by decide +kernel), List.mem_of_getElem? (i := 216) (by decide +kernel)⟩
theorem lw_p1 : lw_okq (⟨"BallastSteps", "isTank", "(I)Z"⟩, 7) := ⟨⟨by decide +kernel, by decide +kernel⟩, List.mem_of_getElem? (i := 13) (by decide +kernel), List.mem_of_getElem? (i := 261) (by decide +kernel), List.mem_of_getElem? (i := 262) (by decide +kernel)⟩
theorem lw_p2 : lw_okq (⟨"BallastSteps", "hasNoShip", "()Z"⟩, 7) := ⟨⟨by decide +kernel, by decide +kernel⟩, List.mem_of_getElem? (i := 13) (by decide +kernel), List.mem_of_getElem? (i := 332) (by decide +kernel), List.mem_of_getElem? (i := 333) (by decide +kernel)⟩
theorem lw_p3 : lw_okq (⟨"BallastSteps$Search", "findPumpable", "(LBallastSteps$Ship;)V"⟩, 10) := ⟨⟨by decide +kernel, by decide +kernel⟩, List.mem_of_getElem? (i := 113) (by decide +kernel), List.mem_of_getElem? (i := 375) (by decide +kernel), List.mem_of_getElem? (i := 376) (by decide +kernel)⟩
theorem lw_p4 : lw_okq (⟨"BallastSteps$Search", "explore", "(LBallastSteps$Ship;)V"⟩, 10) := ⟨⟨by decide +kernel, by decide +kernel⟩, List.mem_of_getElem? (i := 113) (by decide +kernel), List.mem_of_getElem? (i := 382) (by decide +kernel), List.mem_of_getElem? (i := 383) (by decide +kernel)⟩
theorem lw_p5 : lw_okq (⟨"BallastSteps$Search", "step", "(II)V"⟩, 10) := ⟨⟨by decide +kernel, by decide +kernel⟩, List.mem_of_getElem? (i := 113) (by decide +kernel), List.mem_of_getElem? (i := 388) (by decide +kernel), List.mem_of_getElem? (i := 389) (by decide +kernel)⟩
theorem lw_p6 : lw_okq (⟨"BallastSteps$Search", "findEnd", "(LBallastSteps$Ship;)I"⟩, 10) := ⟨⟨by decide +kernel, by decide +kernel⟩, List.mem_of_getElem? (i := 113) (by decide +kernel), List.mem_of_getElem? (i := 393) (by decide +kernel), List.mem_of_getElem? (i := 394) (by decide +kernel)⟩
theorem lw_p7 : lw_okq (⟨"BallastSteps", "firstWrong", "(LBallastSteps$Row;II)I"⟩, 7) := ⟨⟨by decide +kernel, by decide +kernel⟩, List.mem_of_getElem? (i := 13) (by decide +kernel), List.mem_of_getElem? (i := 429) (by decide +kernel), List.mem_of_getElem? (i := 430) (by decide +kernel)⟩
theorem lw_p8 : lw_okq (⟨"BallastSteps", "watersBehind", "(LBallastSteps$Row;II)I"⟩, 7) := ⟨⟨by decide +kernel, by decide +kernel⟩, List.mem_of_getElem? (i := 13) (by decide +kernel), List.mem_of_getElem? (i := 433) (by decide +kernel), List.mem_of_getElem? (i := 434) (by decide +kernel)⟩
theorem lw_p9 : lw_okq (⟨"BallastSteps", "ofWaters", "(II)I"⟩, 7) := ⟨⟨by decide +kernel, by decide +kernel⟩, List.mem_of_getElem? (i := 13) (by decide +kernel), List.mem_of_getElem? (i := 437) (by decide +kernel), List.mem_of_getElem? (i := 438) (by decide +kernel)⟩
theorem lw_p10 : lw_okq (⟨"BallastSteps", "newWaters", "(I)I"⟩, 7) := ⟨⟨by decide +kernel, by decide +kernel⟩, List.mem_of_getElem? (i := 13) (by decide +kernel), List.mem_of_getElem? (i := 441) (by decide +kernel), List.mem_of_getElem? (i := 442) (by decide +kernel)⟩
theorem lw_p11 : lw_okq (⟨"BallastSteps", "readingsHoldWith", "(II)Z"⟩, 7) := ⟨⟨by decide +kernel, by decide +kernel⟩, List.mem_of_getElem? (i := 13) (by decide +kernel), List.mem_of_getElem? (i := 482) (by decide +kernel), List.mem_of_getElem? (i := 483) (by decide +kernel)⟩
theorem lw_p12 : lw_okq (⟨"BallastSteps", "wideTelling", "(I)I"⟩, 7) := ⟨⟨by decide +kernel, by decide +kernel⟩, List.mem_of_getElem? (i := 13) (by decide +kernel), List.mem_of_getElem? (i := 543) (by decide +kernel), List.mem_of_getElem? (i := 544) (by decide +kernel)⟩
theorem lw_p13 : lw_okq (⟨"BallastSteps", "leave", "(I)V"⟩, 7) := ⟨⟨by decide +kernel, by decide +kernel⟩, List.mem_of_getElem? (i := 13) (by decide +kernel), List.mem_of_getElem? (i := 547) (by decide +kernel), List.mem_of_getElem? (i := 548) (by decide +kernel)⟩
theorem lw_p14 : lw_okq (⟨"BallastSteps", "plainTelling", "(I)I"⟩, 7) := ⟨⟨by decide +kernel, by decide +kernel⟩, List.mem_of_getElem? (i := 13) (by decide +kernel), List.mem_of_getElem? (i := 551) (by decide +kernel), List.mem_of_getElem? (i := 552) (by decide +kernel)⟩
theorem lw_p15 : lw_okq (⟨"BallastSteps", "doubleTelling", "(I)I"⟩, 7) := ⟨⟨by decide +kernel, by decide +kernel⟩, List.mem_of_getElem? (i := 13) (by decide +kernel), List.mem_of_getElem? (i := 555) (by decide +kernel), List.mem_of_getElem? (i := 556) (by decide +kernel)⟩
def lw_privs_1 : List (MethodName × Nat) := [(⟨"BallastSteps", "faulted", "(I)I"⟩, 7), (⟨"BallastSteps", "isTank", "(I)Z"⟩, 7), (⟨"BallastSteps", "hasNoShip", "()Z"⟩, 7), (⟨"BallastSteps$Search", "findPumpable", "(LBallastSteps$Ship;)V"⟩, 10), (⟨"BallastSteps$Search", "explore", "(LBallastSteps$Ship;)V"⟩, 10), (⟨"BallastSteps$Search", "step", "(II)V"⟩, 10), (⟨"BallastSteps$Search", "findEnd", "(LBallastSteps$Ship;)I"⟩, 10), (⟨"BallastSteps", "firstWrong", "(LBallastSteps$Row;II)I"⟩, 7), (⟨"BallastSteps", "watersBehind", "(LBallastSteps$Row;II)I"⟩, 7), (⟨"BallastSteps", "ofWaters", "(II)I"⟩, 7), (⟨"BallastSteps", "newWaters", "(I)I"⟩, 7), (⟨"BallastSteps", "readingsHoldWith", "(II)Z"⟩, 7), (⟨"BallastSteps", "wideTelling", "(I)I"⟩, 7), (⟨"BallastSteps", "leave", "(I)V"⟩, 7), (⟨"BallastSteps", "plainTelling", "(I)I"⟩, 7), (⟨"BallastSteps", "doubleTelling", "(I)I"⟩, 7)]
theorem lw_r1 : ∀ q ∈ lw_privs_1, lw_okq q := List.forall_mem_cons.mpr ⟨lw_p0, List.forall_mem_cons.mpr ⟨lw_p1, List.forall_mem_cons.mpr ⟨lw_p2, List.forall_mem_cons.mpr ⟨lw_p3, List.forall_mem_cons.mpr ⟨lw_p4, List.forall_mem_cons.mpr ⟨lw_p5, List.forall_mem_cons.mpr ⟨lw_p6, List.forall_mem_cons.mpr ⟨lw_p7, List.forall_mem_cons.mpr ⟨lw_p8, List.forall_mem_cons.mpr ⟨lw_p9, List.forall_mem_cons.mpr ⟨lw_p10, List.forall_mem_cons.mpr ⟨lw_p11, List.forall_mem_cons.mpr ⟨lw_p12, List.forall_mem_cons.mpr ⟨lw_p13, List.forall_mem_cons.mpr ⟨lw_p14, List.forall_mem_cons.mpr ⟨lw_p15, fun _ h => absurd h List.not_mem_nil⟩⟩⟩⟩⟩⟩⟩⟩⟩⟩⟩⟩⟩⟩⟩⟩
theorem lw_p16 : lw_okq (⟨"BallastSteps", "soundingOfDouble", "(LBallastSteps$Tank;)I"⟩, 7) := ⟨⟨by decide +kernel, by decide +kernel⟩, List.mem_of_getElem? (i := 13) (by decide +kernel), List.mem_of_getElem? (i := 563) (by decide +kernel), List.mem_of_getElem? (i := 564) (by decide +kernel)⟩
theorem lw_p17 : lw_okq (⟨"BallastSteps", "lentSounding", "(LBallastSteps$Tank;)I"⟩, 7) := ⟨⟨by decide +kernel, by decide +kernel⟩, List.mem_of_getElem? (i := 13) (by decide +kernel), List.mem_of_getElem? (i := 567) (by decide +kernel), List.mem_of_getElem? (i := 568) (by decide +kernel)⟩
theorem lw_p18 : lw_okq (⟨"BallastStepsModel", "against", "(IIII)I"⟩, 36) := ⟨⟨by decide +kernel, by decide +kernel⟩, List.mem_of_getElem? (i := 587) (by decide +kernel), List.mem_of_getElem? (i := 717) (by decide +kernel), List.mem_of_getElem? (i := 718) (by decide +kernel)⟩
theorem lw_p19 : lw_okq (⟨"BallastStepsModel", "fails", "(I)I"⟩, 36) := ⟨⟨by decide +kernel, by decide +kernel⟩, List.mem_of_getElem? (i := 587) (by decide +kernel), List.mem_of_getElem? (i := 721) (by decide +kernel), List.mem_of_getElem? (i := 722) (by decide +kernel)⟩
theorem lw_p20 : lw_okq (⟨"BallastStepsModel", "readAll", "(I)Z"⟩, 36) := ⟨⟨by decide +kernel, by decide +kernel⟩, List.mem_of_getElem? (i := 587) (by decide +kernel), List.mem_of_getElem? (i := 725) (by decide +kernel), List.mem_of_getElem? (i := 726) (by decide +kernel)⟩
theorem lw_p21 : lw_okq (⟨"BallastStepsModel", "code", "(I)I"⟩, 36) := ⟨⟨by decide +kernel, by decide +kernel⟩, List.mem_of_getElem? (i := 587) (by decide +kernel), List.mem_of_getElem? (i := 729) (by decide +kernel), List.mem_of_getElem? (i := 730) (by decide +kernel)⟩
theorem lw_p22 : lw_okq (⟨"BallastStepsModel", "readTank", "(I)Z"⟩, 36) := ⟨⟨by decide +kernel, by decide +kernel⟩, List.mem_of_getElem? (i := 587) (by decide +kernel), List.mem_of_getElem? (i := 733) (by decide +kernel), List.mem_of_getElem? (i := 734) (by decide +kernel)⟩
theorem lw_p23 : lw_okq (⟨"BallastStepsModel", "takes", "(I)Z"⟩, 36) := ⟨⟨by decide +kernel, by decide +kernel⟩, List.mem_of_getElem? (i := 587) (by decide +kernel), List.mem_of_getElem? (i := 740) (by decide +kernel), List.mem_of_getElem? (i := 741) (by decide +kernel)⟩
theorem lw_p24 : lw_okq (⟨"BallastStepsModel", "isTank", "(I)Z"⟩, 36) := ⟨⟨by decide +kernel, by decide +kernel⟩, List.mem_of_getElem? (i := 587) (by decide +kernel), List.mem_of_getElem? (i := 754) (by decide +kernel), List.mem_of_getElem? (i := 755) (by decide +kernel)⟩
theorem lw_p25 : lw_okq (⟨"BallastStepsModel", "weightOf", "(I)I"⟩, 36) := ⟨⟨by decide +kernel, by decide +kernel⟩, List.mem_of_getElem? (i := 587) (by decide +kernel), List.mem_of_getElem? (i := 758) (by decide +kernel), List.mem_of_getElem? (i := 759) (by decide +kernel)⟩
theorem lw_p26 : lw_okq (⟨"BallastStepsModel", "waterIn", "(II)I"⟩, 36) := ⟨⟨by decide +kernel, by decide +kernel⟩, List.mem_of_getElem? (i := 587) (by decide +kernel), List.mem_of_getElem? (i := 762) (by decide +kernel), List.mem_of_getElem? (i := 763) (by decide +kernel)⟩
theorem lw_p27 : lw_okq (⟨"BallastStepsModel", "canPump", "(II)Z"⟩, 36) := ⟨⟨by decide +kernel, by decide +kernel⟩, List.mem_of_getElem? (i := 587) (by decide +kernel), List.mem_of_getElem? (i := 766) (by decide +kernel), List.mem_of_getElem? (i := 767) (by decide +kernel)⟩
theorem lw_p28 : lw_okq (⟨"BallastStepsModel", "isSafe", "(II)Z"⟩, 36) := ⟨⟨by decide +kernel, by decide +kernel⟩, List.mem_of_getElem? (i := 587) (by decide +kernel), List.mem_of_getElem? (i := 770) (by decide +kernel), List.mem_of_getElem? (i := 771) (by decide +kernel)⟩
theorem lw_p29 : lw_okq (⟨"BallastStepsModel", "weigh", "(II)V"⟩, 36) := ⟨⟨by decide +kernel, by decide +kernel⟩, List.mem_of_getElem? (i := 587) (by decide +kernel), List.mem_of_getElem? (i := 774) (by decide +kernel), List.mem_of_getElem? (i := 775) (by decide +kernel)⟩
theorem lw_p30 : lw_okq (⟨"BallastStepsModel", "pumped", "(II)I"⟩, 36) := ⟨⟨by decide +kernel, by decide +kernel⟩, List.mem_of_getElem? (i := 587) (by decide +kernel), List.mem_of_getElem? (i := 781) (by decide +kernel), List.mem_of_getElem? (i := 782) (by decide +kernel)⟩
theorem lw_p31 : lw_okq (⟨"BallastStepsModel", "measured", "(II)I"⟩, 36) := ⟨⟨by decide +kernel, by decide +kernel⟩, List.mem_of_getElem? (i := 587) (by decide +kernel), List.mem_of_getElem? (i := 807) (by decide +kernel), List.mem_of_getElem? (i := 808) (by decide +kernel)⟩
def lw_privs_2 : List (MethodName × Nat) := [(⟨"BallastSteps", "soundingOfDouble", "(LBallastSteps$Tank;)I"⟩, 7), (⟨"BallastSteps", "lentSounding", "(LBallastSteps$Tank;)I"⟩, 7), (⟨"BallastStepsModel", "against", "(IIII)I"⟩, 36), (⟨"BallastStepsModel", "fails", "(I)I"⟩, 36), (⟨"BallastStepsModel", "readAll", "(I)Z"⟩, 36), (⟨"BallastStepsModel", "code", "(I)I"⟩, 36), (⟨"BallastStepsModel", "readTank", "(I)Z"⟩, 36), (⟨"BallastStepsModel", "takes", "(I)Z"⟩, 36), (⟨"BallastStepsModel", "isTank", "(I)Z"⟩, 36), (⟨"BallastStepsModel", "weightOf", "(I)I"⟩, 36), (⟨"BallastStepsModel", "waterIn", "(II)I"⟩, 36), (⟨"BallastStepsModel", "canPump", "(II)Z"⟩, 36), (⟨"BallastStepsModel", "isSafe", "(II)Z"⟩, 36), (⟨"BallastStepsModel", "weigh", "(II)V"⟩, 36), (⟨"BallastStepsModel", "pumped", "(II)I"⟩, 36), (⟨"BallastStepsModel", "measured", "(II)I"⟩, 36)]
theorem lw_r2 : ∀ q ∈ lw_privs_2, lw_okq q := List.forall_mem_cons.mpr ⟨lw_p16, List.forall_mem_cons.mpr ⟨lw_p17, List.forall_mem_cons.mpr ⟨lw_p18, List.forall_mem_cons.mpr ⟨lw_p19, List.forall_mem_cons.mpr ⟨lw_p20, List.forall_mem_cons.mpr ⟨lw_p21, List.forall_mem_cons.mpr ⟨lw_p22, List.forall_mem_cons.mpr ⟨lw_p23, List.forall_mem_cons.mpr ⟨lw_p24, List.forall_mem_cons.mpr ⟨lw_p25, List.forall_mem_cons.mpr ⟨lw_p26, List.forall_mem_cons.mpr ⟨lw_p27, List.forall_mem_cons.mpr ⟨lw_p28, List.forall_mem_cons.mpr ⟨lw_p29, List.forall_mem_cons.mpr ⟨lw_p30, List.forall_mem_cons.mpr ⟨lw_p31, fun _ h => absurd h List.not_mem_nil⟩⟩⟩⟩⟩⟩⟩⟩⟩⟩⟩⟩⟩⟩⟩⟩
theorem lw_p32 : lw_okq (⟨"BallastStepsModel", "findLeft", "()V"⟩, 36) := ⟨⟨by decide +kernel, by decide +kernel⟩, List.mem_of_getElem? (i := 587) (by decide +kernel), List.mem_of_getElem? (i := 826) (by decide +kernel), List.mem_of_getElem? (i := 827) (by decide +kernel)⟩
theorem lw_p33 : lw_okq (⟨"BallastStepsModel", "prepare", "()V"⟩, 36) := ⟨⟨by decide +kernel, by decide +kernel⟩, List.mem_of_getElem? (i := 587) (by decide +kernel), List.mem_of_getElem? (i := 830) (by decide +kernel), List.mem_of_getElem? (i := 831) (by decide +kernel)⟩
theorem lw_p34 : lw_okq (⟨"BallastStepsModel", "isEnd", "(I)Z"⟩, 36) := ⟨⟨by decide +kernel, by decide +kernel⟩, List.mem_of_getElem? (i := 587) (by decide +kernel), List.mem_of_getElem? (i := 834) (by decide +kernel), List.mem_of_getElem? (i := 835) (by decide +kernel)⟩
theorem lw_p35 : lw_okq (⟨"BallastStepsModel", "findNext", "(I)Z"⟩, 36) := ⟨⟨by decide +kernel, by decide +kernel⟩, List.mem_of_getElem? (i := 587) (by decide +kernel), List.mem_of_getElem? (i := 838) (by decide +kernel), List.mem_of_getElem? (i := 839) (by decide +kernel)⟩
theorem lw_p36 : lw_okq (⟨"BallastStepsModel", "firstOf", "(I)I"⟩, 36) := ⟨⟨by decide +kernel, by decide +kernel⟩, List.mem_of_getElem? (i := 587) (by decide +kernel), List.mem_of_getElem? (i := 842) (by decide +kernel), List.mem_of_getElem? (i := 843) (by decide +kernel)⟩
theorem lw_p37 : lw_okq (⟨"BallastStepsModel", "goDay", "(II)I"⟩, 36) := ⟨⟨by decide +kernel, by decide +kernel⟩, List.mem_of_getElem? (i := 587) (by decide +kernel), List.mem_of_getElem? (i := 860) (by decide +kernel), List.mem_of_getElem? (i := 861) (by decide +kernel)⟩
theorem lw_p38 : lw_okq (⟨"BallastStepsModel", "tellDay", "(I)I"⟩, 36) := ⟨⟨by decide +kernel, by decide +kernel⟩, List.mem_of_getElem? (i := 587) (by decide +kernel), List.mem_of_getElem? (i := 864) (by decide +kernel), List.mem_of_getElem? (i := 865) (by decide +kernel)⟩
theorem lw_p39 : lw_okq (⟨"BallastStepsModel", "countOf", "(IZ)I"⟩, 36) := ⟨⟨by decide +kernel, by decide +kernel⟩, List.mem_of_getElem? (i := 587) (by decide +kernel), List.mem_of_getElem? (i := 868) (by decide +kernel), List.mem_of_getElem? (i := 869) (by decide +kernel)⟩
theorem lw_p40 : lw_okq (⟨"BallastStepsModel", "seesMore", "()Z"⟩, 36) := ⟨⟨by decide +kernel, by decide +kernel⟩, List.mem_of_getElem? (i := 587) (by decide +kernel), List.mem_of_getElem? (i := 876) (by decide +kernel), List.mem_of_getElem? (i := 877) (by decide +kernel)⟩
theorem lw_p41 : lw_okq (⟨"BallastStepsModel", "areSo", "()Z"⟩, 36) := ⟨⟨by decide +kernel, by decide +kernel⟩, List.mem_of_getElem? (i := 587) (by decide +kernel), List.mem_of_getElem? (i := 898) (by decide +kernel), List.mem_of_getElem? (i := 899) (by decide +kernel)⟩
theorem lw_p42 : lw_okq (⟨"BallastStepsModel", "lost", "(I)J"⟩, 36) := ⟨⟨by decide +kernel, by decide +kernel⟩, List.mem_of_getElem? (i := 587) (by decide +kernel), List.mem_of_getElem? (i := 929) (by decide +kernel), List.mem_of_getElem? (i := 930) (by decide +kernel)⟩
theorem lw_p43 : lw_okq (⟨"BallastStepsModel", "begins", "(I)V"⟩, 36) := ⟨⟨by decide +kernel, by decide +kernel⟩, List.mem_of_getElem? (i := 587) (by decide +kernel), List.mem_of_getElem? (i := 941) (by decide +kernel), List.mem_of_getElem? (i := 942) (by decide +kernel)⟩
def lw_privs_3 : List (MethodName × Nat) := [(⟨"BallastStepsModel", "findLeft", "()V"⟩, 36), (⟨"BallastStepsModel", "prepare", "()V"⟩, 36), (⟨"BallastStepsModel", "isEnd", "(I)Z"⟩, 36), (⟨"BallastStepsModel", "findNext", "(I)Z"⟩, 36), (⟨"BallastStepsModel", "firstOf", "(I)I"⟩, 36), (⟨"BallastStepsModel", "goDay", "(II)I"⟩, 36), (⟨"BallastStepsModel", "tellDay", "(I)I"⟩, 36), (⟨"BallastStepsModel", "countOf", "(IZ)I"⟩, 36), (⟨"BallastStepsModel", "seesMore", "()Z"⟩, 36), (⟨"BallastStepsModel", "areSo", "()Z"⟩, 36), (⟨"BallastStepsModel", "lost", "(I)J"⟩, 36), (⟨"BallastStepsModel", "begins", "(I)V"⟩, 36)]
theorem lw_r3 : ∀ q ∈ lw_privs_3, lw_okq q := List.forall_mem_cons.mpr ⟨lw_p32, List.forall_mem_cons.mpr ⟨lw_p33, List.forall_mem_cons.mpr ⟨lw_p34, List.forall_mem_cons.mpr ⟨lw_p35, List.forall_mem_cons.mpr ⟨lw_p36, List.forall_mem_cons.mpr ⟨lw_p37, List.forall_mem_cons.mpr ⟨lw_p38, List.forall_mem_cons.mpr ⟨lw_p39, List.forall_mem_cons.mpr ⟨lw_p40, List.forall_mem_cons.mpr ⟨lw_p41, List.forall_mem_cons.mpr ⟨lw_p42, List.forall_mem_cons.mpr ⟨lw_p43, fun _ h => absurd h List.not_mem_nil⟩⟩⟩⟩⟩⟩⟩⟩⟩⟩⟩⟩
def lw_privs : List (MethodName × Nat) := lw_privs_1 ++ (lw_privs_2 ++ (lw_privs_3))
def lw_tbl : List Cond := k2_sels lw_privs ++ tables_1
theorem lw_privs_ok : ∀ q ∈ lw_privs, lw_okq q := by
  show ∀ q ∈ lw_privs_1 ++ (lw_privs_2 ++ (lw_privs_3)), lw_okq q
  exact List.forall_mem_append.mpr ⟨lw_r1, List.forall_mem_append.mpr ⟨lw_r2, lw_r3⟩⟩
def RX0 : String := "BallastSteps$Load"
def TX0 : u_T := fun k => match k with
  | 0 => ("BallastSteps$Load", "inFrame", "[I", true)
  | 1 => ("BallastSteps$Load", "total", "I", false)
  | 2 => ("BallastSteps$Load", "trim", "I", false)
  | _ => ("BallastSteps$Load", "heel", "I", false)
def tyX0 : Nat → FieldType := fun k => match k with
  | 0 => .array .int
  | 1 => .int
  | 2 => .int
  | _ => .int
abbrev wsX00 : List Cond := u_ws RX0 TX0 4
theorem nmX0 : ∀ a, a < 4 → ∀ b, b < 4 → a ≠ b → (TX0 a).2.1 ≠ (TX0 b).2.1 := by decide +kernel
theorem tyX0_ok : ∀ k, k < 4 → parseFieldDescriptor (TX0 k).2.2.1 = some (tyX0 k) := by decide +kernel
abbrev cX0_init : ByteArray := prog_2_method_1_code
def yX0_init : MethodName := ⟨RX0, "<init>", "()V"⟩
abbrev cX0_clear : ByteArray := prog_2_method_2_code
def yX0_clear : MethodName := ⟨RX0, "clear", "()V"⟩
abbrev cX0_add : ByteArray := prog_2_method_3_code
def yX0_add : MethodName := ⟨RX0, "add", "(LBallastSteps$Tank;I)V"⟩
abbrev cX0_momentOf : ByteArray := prog_2_method_4_code
def yX0_momentOf : MethodName := ⟨RX0, "momentOf", "(I)I"⟩
abbrev cX0_bending : ByteArray := prog_2_method_5_code
def yX0_bending : MethodName := ⟨RX0, "bending", "()I"⟩
abbrev cX0_bounded : ByteArray := prog_2_method_6_code
def yX0_bounded : MethodName := ⟨RX0, "bounded", "(I)I"⟩
abbrev cX0_isWithin : ByteArray := prog_2_method_7_code
def yX0_isWithin : MethodName := ⟨RX0, "isWithin", "([II)Z"⟩
def RX1 : String := "BallastSteps$Row"
def TX1 : u_T := fun k => match k with
  | 0 => ("BallastSteps$Row", "cells", "[I", true)
  | 1 => ("BallastSteps$Row", "lane", "I", false)
  | _ => ("BallastSteps$Row", "length", "I", false)
def tyX1 : Nat → FieldType := fun k => match k with
  | 0 => .array .int
  | 1 => .int
  | _ => .int
abbrev wsX10 : List Cond := u_ws RX1 TX1 3
theorem nmX1 : ∀ a, a < 3 → ∀ b, b < 3 → a ≠ b → (TX1 a).2.1 ≠ (TX1 b).2.1 := by decide +kernel
theorem tyX1_ok : ∀ k, k < 3 → parseFieldDescriptor (TX1 k).2.2.1 = some (tyX1 k) := by decide +kernel
abbrev cX1_init : ByteArray := prog_3_method_1_code
def yX1_init : MethodName := ⟨RX1, "<init>", "()V"⟩
abbrev cX1_isNothing : ByteArray := prog_3_method_2_code
def yX1_isNothing : MethodName := ⟨RX1, "isNothing", "()Z"⟩
abbrev cX1_renew : ByteArray := prog_3_method_3_code
def yX1_renew : MethodName := ⟨RX1, "renew", "(II)V"⟩
abbrev cX1_drop : ByteArray := prog_3_method_4_code
def yX1_drop : MethodName := ⟨RX1, "drop", "()V"⟩
abbrev cX1_faultAs : ByteArray := prog_3_method_5_code
def yX1_faultAs : MethodName := ⟨RX1, "faultAs", "(I)I"⟩
abbrev cX1_hasCells : ByteArray := prog_3_method_6_code
def yX1_hasCells : MethodName := ⟨RX1, "hasCells", "(II)Z"⟩
abbrev cX1_write : ByteArray := prog_3_method_7_code
def yX1_write : MethodName := ⟨RX1, "write", "(II)V"⟩
def RX2 : String := "BallastSteps$Search"
def TX2 : u_T := fun k => match k with
  | 0 => ("BallastSteps$Search", "queue", "[I", true)
  | 1 => ("BallastSteps$Search", "steps", "[I", true)
  | 2 => ("BallastSteps$Search", "before", "[I", true)
  | 3 => ("BallastSteps$Search", "lastTank", "[I", true)
  | 4 => ("BallastSteps$Search", "ways", "[J", true)
  | 5 => ("BallastSteps$Search", "safe", "[Z", true)
  | 6 => ("BallastSteps$Search", "pumpable", "[I", true)
  | 7 => ("BallastSteps$Search", "isFresh", "Z", false)
  | 8 => ("BallastSteps$Search", "reached", "I", false)
  | _ => ("BallastSteps$Search", "end", "I", false)
def tyX2 : Nat → FieldType := fun k => match k with
  | 0 => .array .int
  | 1 => .array .int
  | 2 => .array .int
  | 3 => .array .int
  | 4 => .array .long
  | 5 => .array .boolean
  | 6 => .array .int
  | 7 => .boolean
  | 8 => .int
  | _ => .int
abbrev wsX20 : List Cond := u_ws RX2 TX2 10
theorem nmX2 : ∀ a, a < 10 → ∀ b, b < 10 → a ≠ b → (TX2 a).2.1 ≠ (TX2 b).2.1 := by decide +kernel
theorem tyX2_ok : ∀ k, k < 10 → parseFieldDescriptor (TX2 k).2.2.1 = some (tyX2 k) := by decide +kernel
abbrev cX2_init : ByteArray := prog_4_method_1_code
def yX2_init : MethodName := ⟨RX2, "<init>", "()V"⟩
abbrev cX2_forget : ByteArray := prog_4_method_2_code
def yX2_forget : MethodName := ⟨RX2, "forget", "()V"⟩
abbrev cX2_refresh : ByteArray := prog_4_method_3_code
def yX2_refresh : MethodName := ⟨RX2, "refresh", "(LBallastSteps$Ship;)V"⟩
abbrev cX2_findPumpable : ByteArray := prog_4_method_4_code
def yX2_findPumpable : MethodName := ⟨RX2, "findPumpable", "(LBallastSteps$Ship;)V"⟩
abbrev cX2_explore : ByteArray := prog_4_method_5_code
def yX2_explore : MethodName := ⟨RX2, "explore", "(LBallastSteps$Ship;)V"⟩
abbrev cX2_step : ByteArray := prog_4_method_6_code
def yX2_step : MethodName := ⟨RX2, "step", "(II)V"⟩
abbrev cX2_findEnd : ByteArray := prog_4_method_7_code
def yX2_findEnd : MethodName := ⟨RX2, "findEnd", "(LBallastSteps$Ship;)I"⟩
abbrev cX2_planLength : ByteArray := prog_4_method_8_code
def yX2_planLength : MethodName := ⟨RX2, "planLength", "()I"⟩
abbrev cX2_planTank : ByteArray := prog_4_method_9_code
def yX2_planTank : MethodName := ⟨RX2, "planTank", "(I)I"⟩
abbrev cX2_shortestPlans : ByteArray := prog_4_method_10_code
def yX2_shortestPlans : MethodName := ⟨RX2, "shortestPlans", "(LBallastSteps$Ship;)J"⟩
abbrev cX2_worstOfPlan : ByteArray := prog_4_method_11_code
def yX2_worstOfPlan : MethodName := ⟨RX2, "worstOfPlan", "(LBallastSteps$Ship;I)I"⟩
def RX3 : String := "BallastSteps$Ship"
def TX3 : u_T := fun k => match k with
  | 0 => ("BallastSteps$Ship", "tanks", "[LBallastSteps$Tank;", true)
  | 1 => ("BallastSteps$Ship", "bounds", "[I", true)
  | 2 => ("BallastSteps$Ship", "load", "LBallastSteps$Load;", true)
  | 3 => ("BallastSteps$Ship", "count", "I", false)
  | 4 => ("BallastSteps$Ship", "waters", "I", false)
  | 5 => ("BallastSteps$Ship", "working", "I", false)
  | _ => ("BallastSteps$Ship", "dueSet", "I", false)
def tyX3 : Nat → FieldType := fun k => match k with
  | 0 => .array (.object "BallastSteps$Tank")
  | 1 => .array .int
  | 2 => .object "BallastSteps$Load"
  | 3 => .int
  | 4 => .int
  | 5 => .int
  | _ => .int
abbrev wsX30 : List Cond := u_ws RX3 TX3 7
theorem nmX3 : ∀ a, a < 7 → ∀ b, b < 7 → a ≠ b → (TX3 a).2.1 ≠ (TX3 b).2.1 := by decide +kernel
theorem tyX3_ok : ∀ k, k < 7 → parseFieldDescriptor (TX3 k).2.2.1 = some (tyX3 k) := by decide +kernel
abbrev cX3_init : ByteArray := prog_5_method_1_code
def yX3_init : MethodName := ⟨RX3, "<init>", "()V"⟩
abbrev cX3_build : ByteArray := prog_5_method_2_code
def yX3_build : MethodName := ⟨RX3, "build", "(LBallastSteps$Row;II)V"⟩
abbrev cX3_fullSet : ByteArray := prog_5_method_3_code
def yX3_fullSet : MethodName := ⟨RX3, "fullSet", "(I)I"⟩
abbrev cX3_loadOf : ByteArray := prog_5_method_4_code
def yX3_loadOf : MethodName := ⟨RX3, "loadOf", "(I)LBallastSteps$Load;"⟩
abbrev cX3_loadHalfway : ByteArray := prog_5_method_5_code
def yX3_loadHalfway : MethodName := ⟨RX3, "loadHalfway", "(II)LBallastSteps$Load;"⟩
abbrev cX3_isSafe : ByteArray := prog_5_method_6_code
def yX3_isSafe : MethodName := ⟨RX3, "isSafe", "(I)Z"⟩
abbrev cX3_isSafeHalfway : ByteArray := prog_5_method_7_code
def yX3_isSafeHalfway : MethodName := ⟨RX3, "isSafeHalfway", "(II)Z"⟩
abbrev cX3_canPump : ByteArray := prog_5_method_8_code
def yX3_canPump : MethodName := ⟨RX3, "canPump", "(II)Z"⟩
abbrev cX3_safeLoads : ByteArray := prog_5_method_9_code
def yX3_safeLoads : MethodName := ⟨RX3, "safeLoads", "()I"⟩
abbrev cX3_trimWith : ByteArray := prog_5_method_10_code
def yX3_trimWith : MethodName := ⟨RX3, "trimWith", "(II)I"⟩
abbrev cX3_isChanged : ByteArray := prog_5_method_11_code
def yX3_isChanged : MethodName := ⟨RX3, "isChanged", "(I)Z"⟩
def RX4 : String := "BallastSteps$Tank"
def TX4 : u_T := fun k => match k with
  | 0 => ("BallastSteps$Tank", "kind", "I", false)
  | 1 => ("BallastSteps$Tank", "frame", "I", false)
  | 2 => ("BallastSteps$Tank", "side", "I", false)
  | _ => ("BallastSteps$Tank", "mass", "I", false)
def tyX4 : Nat → FieldType := fun k => match k with
  | 0 => .int
  | 1 => .int
  | 2 => .int
  | _ => .int
abbrev wsX40 : List Cond := u_ws RX4 TX4 4
theorem nmX4 : ∀ a, a < 4 → ∀ b, b < 4 → a ≠ b → (TX4 a).2.1 ≠ (TX4 b).2.1 := by decide +kernel
theorem tyX4_ok : ∀ k, k < 4 → parseFieldDescriptor (TX4 k).2.2.1 = some (tyX4 k) := by decide +kernel
abbrev cX4_init : ByteArray := prog_6_method_1_code
def yX4_init : MethodName := ⟨RX4, "<init>", "()V"⟩
abbrev cX4_weight : ByteArray := prog_6_method_2_code
def yX4_weight : MethodName := ⟨RX4, "weight", "()I"⟩
def RX5 : String := "BallastSteps"
def TX5 : u_T := fun k => match k with
  | 0 => ("BallastSteps", "rows", "[LBallastSteps$Row;", true)
  | 1 => ("BallastSteps", "vessel", "LBallastSteps$Ship;", true)
  | 2 => ("BallastSteps", "search", "LBallastSteps$Search;", true)
  | 3 => ("BallastSteps", "readings", "[I", true)
  | 4 => ("BallastSteps", "readingCount", "I", false)
  | 5 => ("BallastSteps", "traced", "I", false)
  | _ => ("BallastSteps", "latestFault", "I", false)
def tyX5 : Nat → FieldType := fun k => match k with
  | 0 => .array (.object "BallastSteps$Row")
  | 1 => .object "BallastSteps$Ship"
  | 2 => .object "BallastSteps$Search"
  | 3 => .array .int
  | 4 => .int
  | 5 => .int
  | _ => .int
abbrev wsX50 : List Cond := u_ws RX5 TX5 7
theorem nmX5 : ∀ a, a < 7 → ∀ b, b < 7 → a ≠ b → (TX5 a).2.1 ≠ (TX5 b).2.1 := by decide +kernel
theorem tyX5_ok : ∀ k, k < 7 → parseFieldDescriptor (TX5 k).2.2.1 = some (tyX5 k) := by decide +kernel
abbrev cX5_init : ByteArray := prog_1_method_1_code
def yX5_init : MethodName := ⟨RX5, "<init>", "()V"⟩
abbrev cX5_ship : ByteArray := prog_1_method_2_code
def yX5_ship : MethodName := ⟨RX5, "ship", "(IIII)I"⟩
abbrev cX5_ofTank : ByteArray := prog_1_method_3_code
def yX5_ofTank : MethodName := ⟨RX5, "ofTank", "(II)I"⟩
abbrev cX5_mass : ByteArray := prog_1_method_4_code
def yX5_mass : MethodName := ⟨RX5, "mass", "(II)I"⟩
abbrev cX5_bound : ByteArray := prog_1_method_5_code
def yX5_bound : MethodName := ⟨RX5, "bound", "(II)I"⟩
abbrev cX5_due : ByteArray := prog_1_method_6_code
def yX5_due : MethodName := ⟨RX5, "due", "(I)I"⟩
abbrev cX5_fail : ByteArray := prog_1_method_7_code
def yX5_fail : MethodName := ⟨RX5, "fail", "(I)I"⟩
abbrev cX5_measure : ByteArray := prog_1_method_8_code
def yX5_measure : MethodName := ⟨RX5, "measure", "(I)I"⟩
abbrev cX5_moment : ByteArray := prog_1_method_9_code
def yX5_moment : MethodName := ⟨RX5, "moment", "(I)I"⟩
abbrev cX5_pump : ByteArray := prog_1_method_10_code
def yX5_pump : MethodName := ⟨RX5, "pump", "(I)I"⟩
abbrev cX5_plan : ByteArray := prog_1_method_11_code
def yX5_plan : MethodName := ⟨RX5, "plan", "(I)I"⟩
abbrev cX5_plans : ByteArray := prog_1_method_12_code
def yX5_plans : MethodName := ⟨RX5, "plans", "()J"⟩
abbrev cX5_day : ByteArray := prog_1_method_13_code
def yX5_day : MethodName := ⟨RX5, "day", "(IIIII)I"⟩
abbrev cX5_states : ByteArray := prog_1_method_14_code
def yX5_states : MethodName := ⟨RX5, "states", "()I"⟩
abbrev cX5_worst : ByteArray := prog_1_method_15_code
def yX5_worst : MethodName := ⟨RX5, "worst", "(I)I"⟩
abbrev cX5_reading : ByteArray := prog_1_method_16_code
def yX5_reading : MethodName := ⟨RX5, "reading", "(I)I"⟩
abbrev cX5_back : ByteArray := prog_1_method_17_code
def yX5_back : MethodName := ⟨RX5, "back", "(I)I"⟩
abbrev cX5_kinds : ByteArray := prog_1_method_18_code
def yX5_kinds : MethodName := ⟨RX5, "kinds", "(I)I"⟩
abbrev cX5_masses : ByteArray := prog_1_method_19_code
def yX5_masses : MethodName := ⟨RX5, "masses", "(I)I"⟩
abbrev cX5_odds : ByteArray := prog_1_method_20_code
def yX5_odds : MethodName := ⟨RX5, "odds", "(I)J"⟩
abbrev cX5_sheet : ByteArray := prog_1_method_21_code
def yX5_sheet : MethodName := ⟨RX5, "sheet", "(III)I"⟩
abbrev cX5_lose : ByteArray := prog_1_method_22_code
def yX5_lose : MethodName := ⟨RX5, "lose", "(I)I"⟩
abbrev cX5_put : ByteArray := prog_1_method_23_code
def yX5_put : MethodName := ⟨RX5, "put", "(III)I"⟩
abbrev cX5_cell : ByteArray := prog_1_method_24_code
def yX5_cell : MethodName := ⟨RX5, "cell", "(III)J"⟩
abbrev cX5_copy : ByteArray := prog_1_method_25_code
def yX5_copy : MethodName := ⟨RX5, "copy", "(IIIII)I"⟩
abbrev cX5_tell : ByteArray := prog_1_method_26_code
def yX5_tell : MethodName := ⟨RX5, "tell", "(I)I"⟩
abbrev cX5_sound : ByteArray := prog_1_method_27_code
def yX5_sound : MethodName := ⟨RX5, "sound", "(I)I"⟩
abbrev cX5_as : ByteArray := prog_1_method_28_code
def yX5_as : MethodName := ⟨RX5, "as", "(II)I"⟩
abbrev cX5_trace : ByteArray := prog_1_method_29_code
def yX5_trace : MethodName := ⟨RX5, "trace", "()I"⟩
abbrev cX5_fault : ByteArray := prog_1_method_30_code
def yX5_fault : MethodName := ⟨RX5, "fault", "()I"⟩
abbrev cX5_many : ByteArray := prog_1_method_31_code
def yX5_many : MethodName := ⟨RX5, "many", "(I)I"⟩
abbrev cX5_isSheet : ByteArray := prog_1_method_32_code
def yX5_isSheet : MethodName := ⟨RX5, "isSheet", "(I)Z"⟩
abbrev cX5_isLane : ByteArray := prog_1_method_33_code
def yX5_isLane : MethodName := ⟨RX5, "isLane", "(I)Z"⟩
abbrev cX5_isAskedOfDay : ByteArray := prog_1_method_34_code
def yX5_isAskedOfDay : MethodName := ⟨RX5, "isAskedOfDay", "(I)Z"⟩
abbrev cX5_isTank : ByteArray := prog_1_method_35_code
def yX5_isTank : MethodName := ⟨RX5, "isTank", "(I)Z"⟩
abbrev cX5_hasNoShip : ByteArray := prog_1_method_36_code
def yX5_hasNoShip : MethodName := ⟨RX5, "hasNoShip", "()Z"⟩
abbrev cX5_faulted : ByteArray := prog_1_method_37_code
def yX5_faulted : MethodName := ⟨RX5, "faulted", "(I)I"⟩
abbrev cX5_oneIf : ByteArray := prog_1_method_38_code
def yX5_oneIf : MethodName := ⟨RX5, "oneIf", "(Z)I"⟩
abbrev cX5_firstFault : ByteArray := prog_1_method_39_code
def yX5_firstFault : MethodName := ⟨RX5, "firstFault", "(LBallastSteps$Row;II)I"⟩
abbrev cX5_goesOn : ByteArray := prog_1_method_40_code
def yX5_goesOn : MethodName := ⟨RX5, "goesOn", "(II)Z"⟩
abbrev cX5_kindOf : ByteArray := prog_1_method_41_code
def yX5_kindOf : MethodName := ⟨RX5, "kindOf", "(I)I"⟩
abbrev cX5_sideOf : ByteArray := prog_1_method_42_code
def yX5_sideOf : MethodName := ⟨RX5, "sideOf", "(I)I"⟩
abbrev cX5_waterIn : ByteArray := prog_1_method_43_code
def yX5_waterIn : MethodName := ⟨RX5, "waterIn", "(II)I"⟩
abbrev cX5_pumped : ByteArray := prog_1_method_44_code
def yX5_pumped : MethodName := ⟨RX5, "pumped", "(II)I"⟩
abbrev cX5_holds : ByteArray := prog_1_method_45_code
def yX5_holds : MethodName := ⟨RX5, "holds", "(II)Z"⟩
abbrev cX5_newWaters : ByteArray := prog_1_method_46_code
def yX5_newWaters : MethodName := ⟨RX5, "newWaters", "(I)I"⟩
abbrev cX5_areTankNumbers : ByteArray := prog_1_method_47_code
def yX5_areTankNumbers : MethodName := ⟨RX5, "areTankNumbers", "(LBallastSteps$Row;II)Z"⟩
abbrev cX5_firstWrong : ByteArray := prog_1_method_48_code
def yX5_firstWrong : MethodName := ⟨RX5, "firstWrong", "(LBallastSteps$Row;II)I"⟩
abbrev cX5_watersBehind : ByteArray := prog_1_method_49_code
def yX5_watersBehind : MethodName := ⟨RX5, "watersBehind", "(LBallastSteps$Row;II)I"⟩
abbrev cX5_ofWaters : ByteArray := prog_1_method_50_code
def yX5_ofWaters : MethodName := ⟨RX5, "ofWaters", "(II)I"⟩
abbrev cX5_readingsHoldWith : ByteArray := prog_1_method_51_code
def yX5_readingsHoldWith : MethodName := ⟨RX5, "readingsHoldWith", "(II)Z"⟩
abbrev cX5_leave : ByteArray := prog_1_method_52_code
def yX5_leave : MethodName := ⟨RX5, "leave", "(I)V"⟩
abbrev cX5_plainTelling : ByteArray := prog_1_method_53_code
def yX5_plainTelling : MethodName := ⟨RX5, "plainTelling", "(I)I"⟩
abbrev cX5_wideTelling : ByteArray := prog_1_method_54_code
def yX5_wideTelling : MethodName := ⟨RX5, "wideTelling", "(I)I"⟩
abbrev cX5_doubleTelling : ByteArray := prog_1_method_55_code
def yX5_doubleTelling : MethodName := ⟨RX5, "doubleTelling", "(I)I"⟩
abbrev cX5_lentSounding : ByteArray := prog_1_method_56_code
def yX5_lentSounding : MethodName := ⟨RX5, "lentSounding", "(LBallastSteps$Tank;)I"⟩
abbrev cX5_soundingOfDouble : ByteArray := prog_1_method_57_code
def yX5_soundingOfDouble : MethodName := ⟨RX5, "soundingOfDouble", "(LBallastSteps$Tank;)I"⟩
abbrev cX5_weightOf : ByteArray := prog_1_method_58_code
def yX5_weightOf : MethodName := ⟨RX5, "weightOf", "(II)I"⟩
def RX6 : String := "BallastStepsModel"
def TX6 : u_T := fun k => match k with
  | 0 => ("BallastStepsModel", "fault", "I", false)
  | 1 => ("BallastStepsModel", "trace", "I", false)
  | 2 => ("BallastStepsModel", "sorts", "[I", true)
  | 3 => ("BallastStepsModel", "sheetLong", "[I", true)
  | 4 => ("BallastStepsModel", "cells", "[I", true)
  | 5 => ("BallastStepsModel", "three", "[I", true)
  | 6 => ("BallastStepsModel", "many", "I", false)
  | 7 => ("BallastStepsModel", "kind", "[I", true)
  | 8 => ("BallastStepsModel", "frame", "[I", true)
  | 9 => ("BallastStepsModel", "side", "[I", true)
  | 10 => ("BallastStepsModel", "massOf", "[I", true)
  | 11 => ("BallastStepsModel", "broken", "[Z", true)
  | 12 => ("BallastStepsModel", "bounds", "[I", true)
  | 13 => ("BallastStepsModel", "due", "I", false)
  | 14 => ("BallastStepsModel", "now", "I", false)
  | 15 => ("BallastStepsModel", "at", "I", false)
  | 16 => ("BallastStepsModel", "readMany", "I", false)
  | 17 => ("BallastStepsModel", "readNow", "I", false)
  | 18 => ("BallastStepsModel", "readDue", "I", false)
  | 19 => ("BallastStepsModel", "readKind", "[I", true)
  | 20 => ("BallastStepsModel", "readFrame", "[I", true)
  | 21 => ("BallastStepsModel", "readSide", "[I", true)
  | 22 => ("BallastStepsModel", "readMass", "[I", true)
  | 23 => ("BallastStepsModel", "loads", "[I", true)
  | 24 => ("BallastStepsModel", "moments", "[I", true)
  | 25 => ("BallastStepsModel", "trim", "I", false)
  | 26 => ("BallastStepsModel", "heel", "I", false)
  | 27 => ("BallastStepsModel", "bending", "I", false)
  | 28 => ("BallastStepsModel", "isFound", "Z", false)
  | 29 => ("BallastStepsModel", "can", "[I", true)
  | 30 => ("BallastStepsModel", "left", "[I", true)
  | 31 => ("BallastStepsModel", "ways", "[J", true)
  | 32 => ("BallastStepsModel", "dayEnd", "I", false)
  | 33 => ("BallastStepsModel", "seen", "[Z", true)
  | 34 => ("BallastStepsModel", "readings", "I", false)
  | _ => ("BallastStepsModel", "readTrim", "[I", true)
def tyX6 : Nat → FieldType := fun k => match k with
  | 0 => .int
  | 1 => .int
  | 2 => .array .int
  | 3 => .array .int
  | 4 => .array .int
  | 5 => .array .int
  | 6 => .int
  | 7 => .array .int
  | 8 => .array .int
  | 9 => .array .int
  | 10 => .array .int
  | 11 => .array .boolean
  | 12 => .array .int
  | 13 => .int
  | 14 => .int
  | 15 => .int
  | 16 => .int
  | 17 => .int
  | 18 => .int
  | 19 => .array .int
  | 20 => .array .int
  | 21 => .array .int
  | 22 => .array .int
  | 23 => .array .int
  | 24 => .array .int
  | 25 => .int
  | 26 => .int
  | 27 => .int
  | 28 => .boolean
  | 29 => .array .int
  | 30 => .array .int
  | 31 => .array .long
  | 32 => .int
  | 33 => .array .boolean
  | 34 => .int
  | _ => .array .int
abbrev wsX60 : List Cond := u_ws RX6 TX6 36
theorem nmX6 : ∀ a, a < 36 → ∀ b, b < 36 → a ≠ b → (TX6 a).2.1 ≠ (TX6 b).2.1 := by decide +kernel
theorem tyX6_ok : ∀ k, k < 36 → parseFieldDescriptor (TX6 k).2.2.1 = some (tyX6 k) := by decide +kernel
abbrev cX6_init : ByteArray := prog_8_method_1_code
def yX6_init : MethodName := ⟨RX6, "<init>", "()V"⟩
abbrev cX6_fails : ByteArray := prog_8_method_2_code
def yX6_fails : MethodName := ⟨RX6, "fails", "(I)I"⟩
abbrev cX6_lost : ByteArray := prog_8_method_3_code
def yX6_lost : MethodName := ⟨RX6, "lost", "(I)J"⟩
abbrev cX6_within : ByteArray := prog_8_method_4_code
def yX6_within : MethodName := ⟨RX6, "within", "(JJJ)Z"⟩
abbrev cX6_isSheet : ByteArray := prog_8_method_5_code
def yX6_isSheet : MethodName := ⟨RX6, "isSheet", "(I)Z"⟩
abbrev cX6_isSort : ByteArray := prog_8_method_6_code
def yX6_isSort : MethodName := ⟨RX6, "isSort", "(I)Z"⟩
abbrev cX6_against : ByteArray := prog_8_method_7_code
def yX6_against : MethodName := ⟨RX6, "against", "(IIII)I"⟩
abbrev cX6_isTank : ByteArray := prog_8_method_8_code
def yX6_isTank : MethodName := ⟨RX6, "isTank", "(I)Z"⟩
abbrev cX6_waterIn : ByteArray := prog_8_method_9_code
def yX6_waterIn : MethodName := ⟨RX6, "waterIn", "(II)I"⟩
abbrev cX6_code : ByteArray := prog_8_method_10_code
def yX6_code : MethodName := ⟨RX6, "code", "(I)I"⟩
abbrev cX6_kindBy : ByteArray := prog_8_method_11_code
def yX6_kindBy : MethodName := ⟨RX6, "kindBy", "(I)I"⟩
abbrev cX6_sideBy : ByteArray := prog_8_method_12_code
def yX6_sideBy : MethodName := ⟨RX6, "sideBy", "(I)I"⟩
abbrev cX6_digitBy : ByteArray := prog_8_method_13_code
def yX6_digitBy : MethodName := ⟨RX6, "digitBy", "(III)I"⟩
abbrev cX6_takes : ByteArray := prog_8_method_14_code
def yX6_takes : MethodName := ⟨RX6, "takes", "(I)Z"⟩
abbrev cX6_readTank : ByteArray := prog_8_method_15_code
def yX6_readTank : MethodName := ⟨RX6, "readTank", "(I)Z"⟩
abbrev cX6_readAll : ByteArray := prog_8_method_16_code
def yX6_readAll : MethodName := ⟨RX6, "readAll", "(I)Z"⟩
abbrev cX6_ship : ByteArray := prog_8_method_17_code
def yX6_ship : MethodName := ⟨RX6, "ship", "(IIII)I"⟩
abbrev cX6_weightOf : ByteArray := prog_8_method_18_code
def yX6_weightOf : MethodName := ⟨RX6, "weightOf", "(I)I"⟩
abbrev cX6_ofTank : ByteArray := prog_8_method_19_code
def yX6_ofTank : MethodName := ⟨RX6, "ofTank", "(II)I"⟩
abbrev cX6_mass : ByteArray := prog_8_method_20_code
def yX6_mass : MethodName := ⟨RX6, "mass", "(II)I"⟩
abbrev cX6_bound : ByteArray := prog_8_method_21_code
def yX6_bound : MethodName := ⟨RX6, "bound", "(II)I"⟩
abbrev cX6_due : ByteArray := prog_8_method_22_code
def yX6_due : MethodName := ⟨RX6, "due", "(I)I"⟩
abbrev cX6_fail : ByteArray := prog_8_method_23_code
def yX6_fail : MethodName := ⟨RX6, "fail", "(I)I"⟩
abbrev cX6_plain : ByteArray := prog_8_method_24_code
def yX6_plain : MethodName := ⟨RX6, "plain", "(I)I"⟩
abbrev cX6_weigh : ByteArray := prog_8_method_25_code
def yX6_weigh : MethodName := ⟨RX6, "weigh", "(II)V"⟩
abbrev cX6_isSafe : ByteArray := prog_8_method_26_code
def yX6_isSafe : MethodName := ⟨RX6, "isSafe", "(II)Z"⟩
abbrev cX6_pumped : ByteArray := prog_8_method_27_code
def yX6_pumped : MethodName := ⟨RX6, "pumped", "(II)I"⟩
abbrev cX6_canPump : ByteArray := prog_8_method_28_code
def yX6_canPump : MethodName := ⟨RX6, "canPump", "(II)Z"⟩
abbrev cX6_measured : ByteArray := prog_8_method_29_code
def yX6_measured : MethodName := ⟨RX6, "measured", "(II)I"⟩
abbrev cX6_measure : ByteArray := prog_8_method_30_code
def yX6_measure : MethodName := ⟨RX6, "measure", "(I)I"⟩
abbrev cX6_moment : ByteArray := prog_8_method_31_code
def yX6_moment : MethodName := ⟨RX6, "moment", "(I)I"⟩
abbrev cX6_pump : ByteArray := prog_8_method_32_code
def yX6_pump : MethodName := ⟨RX6, "pump", "(I)I"⟩
abbrev cX6_isEnd : ByteArray := prog_8_method_33_code
def yX6_isEnd : MethodName := ⟨RX6, "isEnd", "(I)Z"⟩
abbrev cX6_prepare : ByteArray := prog_8_method_34_code
def yX6_prepare : MethodName := ⟨RX6, "prepare", "()V"⟩
abbrev cX6_findNext : ByteArray := prog_8_method_35_code
def yX6_findNext : MethodName := ⟨RX6, "findNext", "(I)Z"⟩
abbrev cX6_findLeft : ByteArray := prog_8_method_36_code
def yX6_findLeft : MethodName := ⟨RX6, "findLeft", "()V"⟩
abbrev cX6_firstOf : ByteArray := prog_8_method_37_code
def yX6_firstOf : MethodName := ⟨RX6, "firstOf", "(I)I"⟩
abbrev cX6_plan : ByteArray := prog_8_method_38_code
def yX6_plan : MethodName := ⟨RX6, "plan", "(I)I"⟩
abbrev cX6_plans : ByteArray := prog_8_method_39_code
def yX6_plans : MethodName := ⟨RX6, "plans", "()J"⟩
abbrev cX6_goDay : ByteArray := prog_8_method_40_code
def yX6_goDay : MethodName := ⟨RX6, "goDay", "(II)I"⟩
abbrev cX6_countOf : ByteArray := prog_8_method_41_code
def yX6_countOf : MethodName := ⟨RX6, "countOf", "(IZ)I"⟩
abbrev cX6_tellDay : ByteArray := prog_8_method_42_code
def yX6_tellDay : MethodName := ⟨RX6, "tellDay", "(I)I"⟩
abbrev cX6_day : ByteArray := prog_8_method_43_code
def yX6_day : MethodName := ⟨RX6, "day", "(IIIII)I"⟩
abbrev cX6_seesMore : ByteArray := prog_8_method_44_code
def yX6_seesMore : MethodName := ⟨RX6, "seesMore", "()Z"⟩
abbrev cX6_states : ByteArray := prog_8_method_45_code
def yX6_states : MethodName := ⟨RX6, "states", "()I"⟩
abbrev cX6_worst : ByteArray := prog_8_method_46_code
def yX6_worst : MethodName := ⟨RX6, "worst", "(I)I"⟩
abbrev cX6_reading : ByteArray := prog_8_method_47_code
def yX6_reading : MethodName := ⟨RX6, "reading", "(I)I"⟩
abbrev cX6_back : ByteArray := prog_8_method_48_code
def yX6_back : MethodName := ⟨RX6, "back", "(I)I"⟩
abbrev cX6_areSo : ByteArray := prog_8_method_49_code
def yX6_areSo : MethodName := ⟨RX6, "areSo", "()Z"⟩
abbrev cX6_kinds : ByteArray := prog_8_method_50_code
def yX6_kinds : MethodName := ⟨RX6, "kinds", "(I)I"⟩
abbrev cX6_masses : ByteArray := prog_8_method_51_code
def yX6_masses : MethodName := ⟨RX6, "masses", "(I)I"⟩
abbrev cX6_inLeastTerms : ByteArray := prog_8_method_52_code
def yX6_inLeastTerms : MethodName := ⟨RX6, "inLeastTerms", "(III)J"⟩
abbrev cX6_odds : ByteArray := prog_8_method_53_code
def yX6_odds : MethodName := ⟨RX6, "odds", "(I)J"⟩
abbrev cX6_sheet : ByteArray := prog_8_method_54_code
def yX6_sheet : MethodName := ⟨RX6, "sheet", "(III)I"⟩
abbrev cX6_lose : ByteArray := prog_8_method_55_code
def yX6_lose : MethodName := ⟨RX6, "lose", "(I)I"⟩
abbrev cX6_put : ByteArray := prog_8_method_56_code
def yX6_put : MethodName := ⟨RX6, "put", "(III)I"⟩
abbrev cX6_cell : ByteArray := prog_8_method_57_code
def yX6_cell : MethodName := ⟨RX6, "cell", "(III)J"⟩
abbrev cX6_copy : ByteArray := prog_8_method_58_code
def yX6_copy : MethodName := ⟨RX6, "copy", "(IIIII)I"⟩
abbrev cX6_begins : ByteArray := prog_8_method_59_code
def yX6_begins : MethodName := ⟨RX6, "begins", "(I)V"⟩
abbrev cX6_tell : ByteArray := prog_8_method_60_code
def yX6_tell : MethodName := ⟨RX6, "tell", "(I)I"⟩
abbrev cX6_sound : ByteArray := prog_8_method_61_code
def yX6_sound : MethodName := ⟨RX6, "sound", "(I)I"⟩
abbrev cX6_as : ByteArray := prog_8_method_62_code
def yX6_as : MethodName := ⟨RX6, "as", "(II)I"⟩
abbrev cX6_trace : ByteArray := prog_8_method_63_code
def yX6_trace : MethodName := ⟨RX6, "trace", "()I"⟩
abbrev cX6_fault : ByteArray := prog_8_method_64_code
def yX6_fault : MethodName := ⟨RX6, "fault", "()I"⟩
abbrev cX6_sizeOf : ByteArray := prog_8_method_65_code
def yX6_sizeOf : MethodName := ⟨RX6, "sizeOf", "(I)I"⟩
abbrev cX6_many : ByteArray := prog_8_method_66_code
def yX6_many : MethodName := ⟨RX6, "many", "(I)I"⟩
def RJ6 : String := "java/lang/Integer"
def TJ6 : u_T := fun k => match k with
  | _ => ("", "", "", false)
def tyJ6 : Nat → FieldType := fun k => match k with
  | _ => .int
abbrev wsJ60 : List Cond := u_ws RJ6 TJ6 0
theorem nmJ6 : ∀ a, a < 0 → ∀ b, b < 0 → a ≠ b → (TJ6 a).2.1 ≠ (TJ6 b).2.1 := by decide +kernel
theorem tyJ6_ok : ∀ k, k < 0 → parseFieldDescriptor (TJ6 k).2.2.1 = some (tyJ6 k) := by decide +kernel
abbrev cJ6_bitCount_0f7a4 : ByteArray := prog_9_method_49_code
def yJ6_bitCount_0f7a4 : MethodName := ⟨RJ6, "bitCount", "(I)I"⟩
def RJ9 : String := "java/lang/Math"
def TJ9 : u_T := fun k => match k with
  | _ => ("", "", "", false)
def tyJ9 : Nat → FieldType := fun k => match k with
  | _ => .int
abbrev wsJ90 : List Cond := u_ws RJ9 TJ9 0
theorem nmJ9 : ∀ a, a < 0 → ∀ b, b < 0 → a ≠ b → (TJ9 a).2.1 ≠ (TJ9 b).2.1 := by decide +kernel
theorem tyJ9_ok : ∀ k, k < 0 → parseFieldDescriptor (TJ9 k).2.2.1 = some (tyJ9 k) := by decide +kernel
abbrev cJ9_abs_0f7a4 : ByteArray := prog_10_method_59_code
def yJ9_abs_0f7a4 : MethodName := ⟨RJ9, "abs", "(I)I"⟩
abbrev cJ9_max_7cf53 : ByteArray := prog_10_method_65_code
def yJ9_max_7cf53 : MethodName := ⟨RJ9, "max", "(II)I"⟩
abbrev cJ9_min_7cf53 : ByteArray := prog_10_method_69_code
def yJ9_min_7cf53 : MethodName := ⟨RJ9, "min", "(II)I"⟩
def RJ10 : String := "java/lang/System"
def TJ10 : u_T := fun k => match k with
  | _ => ("", "", "", false)
def tyJ10 : Nat → FieldType := fun k => match k with
  | _ => .int
abbrev wsJ100 : List Cond := u_ws RJ10 TJ10 0
theorem nmJ10 : ∀ a, a < 0 → ∀ b, b < 0 → a ≠ b → (TJ10 a).2.1 ≠ (TJ10 b).2.1 := by decide +kernel
theorem tyJ10_ok : ∀ k, k < 0 → parseFieldDescriptor (TJ10 k).2.2.1 = some (tyJ10 k) := by decide +kernel
def RJ7 : String := "java/util/Arrays"
def TJ7 : u_T := fun k => match k with
  | _ => ("", "", "", false)
def tyJ7 : Nat → FieldType := fun k => match k with
  | _ => .int
abbrev wsJ70 : List Cond := u_ws RJ7 TJ7 0
theorem nmJ7 : ∀ a, a < 0 → ∀ b, b < 0 → a ≠ b → (TJ7 a).2.1 ≠ (TJ7 b).2.1 := by decide +kernel
theorem tyJ7_ok : ∀ k, k < 0 → parseFieldDescriptor (TJ7 k).2.2.1 = some (tyJ7 k) := by decide +kernel
abbrev cJ7_fill_53178 : ByteArray := prog_12_method_103_code
def yJ7_fill_53178 : MethodName := ⟨RJ7, "fill", "([II)V"⟩
def RL : String := "BallastStepsLaw"
abbrev cL_law : ByteArray := code
def yL_law : MethodName := ⟨RL, "law", "([I)Z"⟩
def lw_gd : List Cond := lw_tbl.filter goodWord
theorem gd_at {w : Cond} (i : Nat) (h : lw_tbl[i]? = some w) (g : goodWord w = true) : w ∈ lw_gd := List.mem_filter.mpr ⟨List.mem_of_getElem? h, g⟩
theorem gd_good : GoodIn lw_gd lw_gd := fun w h => ⟨h, good_of_word (List.mem_filter.mp h).2⟩
