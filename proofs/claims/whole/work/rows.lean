section
-- ===== PART A: goes FIRST, ahead of the names: the tables' words, and 'selects' of the private methods out of them =====
/-- a private method of a class that the tables say can be made, by its rows of tables_1 -/
def lw_okq (q : MethodName × Nat) : Prop := (q.1.cls ≠ "java/lang/invoke/MethodHandle" ∧ q.1.cls ≠ "java/lang/invoke/VarHandle") ∧ Cond.instantiable q.1.cls q.2 ∈ tables_1 ∧ Cond.privateMethod q.1 ∈ tables_1 ∧ Cond.instanceMethod q.1 ∈ tables_1
theorem lw_p0 : lw_okq (⟨"BallastSteps", "faulted", "(I)I"⟩, 7) := ⟨⟨by decide +kernel, by decide +kernel⟩, List.mem_of_getElem? (i := 13) (by decide +kernel), List.mem_of_getElem? (i := 215) (by decide +kernel), List.mem_of_getElem? (i := 216) (by decide +kernel)⟩
theorem lw_p1 : lw_okq (⟨"BallastSteps", "isTank", "(I)Z"⟩, 7) := ⟨⟨by decide +kernel, by decide +kernel⟩, List.mem_of_getElem? (i := 13) (by decide +kernel), List.mem_of_getElem? (i := 261) (by decide +kernel), List.mem_of_getElem? (i := 262) (by decide +kernel)⟩
theorem lw_p2 : lw_okq (⟨"BallastSteps", "hasNoShip", "()Z"⟩, 7) := ⟨⟨by decide +kernel, by decide +kernel⟩, List.mem_of_getElem? (i := 13) (by decide +kernel), List.mem_of_getElem? (i := 332) (by decide +kernel), List.mem_of_getElem? (i := 333) (by decide +kernel)⟩
theorem lw_p3 : lw_okq (⟨"BallastSteps$Search", "findPumpable", "(LBallastSteps$Ship;)V"⟩, 10) := ⟨⟨by decide +kernel, by decide +kernel⟩, List.mem_of_getElem? (i := 113) (by decide +kernel), List.mem_of_getElem? (i := 375) (by decide +kernel), List.mem_of_getElem? (i := 376) (by decide +kernel)⟩
theorem lw_p4 : lw_okq (⟨"BallastSteps$Search", "explore", "(LBallastSteps$Ship;)V"⟩, 10) := ⟨⟨by decide +kernel, by decide +kernel⟩, List.mem_of_getElem? (i := 113) (by decide +kernel), List.mem_of_getElem? (i := 382) (by decide +kernel), List.mem_of_getElem? (i := 383) (by decide +kernel)⟩
theorem lw_p5 : lw_okq (⟨"BallastSteps$Search", "step", "(II)V"⟩, 10) := ⟨⟨by decide +kernel, by decide +kernel⟩, List.mem_of_getElem? (i := 113) (by decide +kernel), List.mem_of_getElem? (i := 388) (by decide +kernel), List.mem_of_getElem? (i := 389) (by decide +kernel)⟩
theorem lw_p6 : lw_okq (⟨"BallastSteps$Search", "findEnd", "(LBallastSteps$Ship;)I"⟩, 10) := ⟨⟨by decide +kernel, by decide +kernel⟩, List.mem_of_getElem? (i := 113) (by decide +kernel), List.mem_of_getElem? (i := 393) (by decide +kernel), List.mem_of_getElem? (i := 394) (by decide +kernel)⟩
theorem lw_p7 : lw_okq (⟨"BallastSteps", "firstWrong", "(LBallastSteps$Row;II)I"⟩, 7) := ⟨⟨by decide +kernel, by decide +kernel⟩, List.mem_of_getElem? (i := 13) (by decide +kernel), List.mem_of_getElem? (i := 429) (by decide +kernel), List.mem_of_getElem? (i := 430) (by decide +kernel)⟩
theorem lw_p8 : lw_okq (⟨"BallastSteps", "watersBehind", "(LBallastSteps$Row;II)I"⟩, 7) := ⟨⟨by decide +kernel, by decide +kernel⟩, List.mem_of_getElem? (i := 13) (by decide +kernel), List.mem_of_getElem? (i := 433) (by decide +kernel), List.mem_of_getElem? (i := 434) (by decide +kernel)⟩
theorem lw_p9 : lw_okq (⟨"BallastSteps", "ofWaters", "(II)I"⟩, 7) := ⟨⟨by decide +kernel, by decide +kernel⟩, List.mem_of_getElem? (i := 13) (by decide +kernel), List.mem_of_getElem? (i := 437) (by decide +kernel), List.mem_of_getElem? (i := 438) (by decide +kernel)⟩
theorem lw_p10 : lw_okq (⟨"BallastSteps", "newWaters", "(I)I"⟩, 7) := ⟨⟨by decide +kernel, by decide +kernel⟩, List.mem_of_getElem? (i := 13) (by decide +kernel), List.mem_of_getElem? (i := 441) (by decide +kernel), List.mem_of_getElem? (i := 442) (by decide +kernel)⟩
theorem lw_p11 : lw_okq (⟨"BallastSteps", "readingsHoldWith", "(II)Z"⟩, 7) := ⟨⟨by decide +kernel, by decide +kernel⟩, List.mem_of_getElem? (i := 13) (by decide +kernel), List.mem_of_getElem? (i := 482) (by decide +kernel), List.mem_of_getElem? (i := 483) (by decide +kernel)⟩
theorem lw_p12 : lw_okq (⟨"BallastSteps", "wideTelling", "(I)I"⟩, 7) := ⟨⟨by decide +kernel, by decide +kernel⟩, List.mem_of_getElem? (i := 13) (by decide +kernel), List.mem_of_getElem? (i := 543) (by decide +kernel), List.mem_of_getElem? (i := 544) (by decide +kernel)⟩
theorem lw_p13 : lw_okq (⟨"BallastSteps", "leave", "(I)V"⟩, 7) := ⟨⟨by decide +kernel, by decide +kernel⟩, List.mem_of_getElem? (i := 13) (by decide +kernel), List.mem_of_getElem? (i := 547) (by decide +kernel), List.mem_of_getElem? (i := 548) (by decide +kernel)⟩
theorem lw_p14 : lw_okq (⟨"BallastSteps", "plainTelling", "(I)I"⟩, 7) := ⟨⟨by decide +kernel, by decide +kernel⟩, List.mem_of_getElem? (i := 13) (by decide +kernel), List.mem_of_getElem? (i := 551) (by decide +kernel), List.mem_of_getElem? (i := 552) (by decide +kernel)⟩
theorem lw_p15 : lw_okq (⟨"BallastSteps", "doubleTelling", "(I)I"⟩, 7) := ⟨⟨by decide +kernel, by decide +kernel⟩, List.mem_of_getElem? (i := 13) (by decide +kernel), List.mem_of_getElem? (i := 555) (by decide +kernel), List.mem_of_getElem? (i := 556) (by decide +kernel)⟩
def lw_privs_1 : List (MethodName × Nat) := [(⟨"BallastSteps", "faulted", "(I)I"⟩, 7), (⟨"BallastSteps", "isTank", "(I)Z"⟩, 7), (⟨"BallastSteps", "hasNoShip", "()Z"⟩, 7), (⟨"BallastSteps$Search", "findPumpable", "(LBallastSteps$Ship;)V"⟩, 10), (⟨"BallastSteps$Search", "explore", "(LBallastSteps$Ship;)V"⟩, 10), (⟨"BallastSteps$Search", "step", "(II)V"⟩, 10), (⟨"BallastSteps$Search", "findEnd", "(LBallastSteps$Ship;)I"⟩, 10), (⟨"BallastSteps", "firstWrong", "(LBallastSteps$Row;II)I"⟩, 7), (⟨"BallastSteps", "watersBehind", "(LBallastSteps$Row;II)I"⟩, 7), (⟨"BallastSteps", "ofWaters", "(II)I"⟩, 7), (⟨"BallastSteps", "newWaters", "(I)I"⟩, 7), (⟨"BallastSteps", "readingsHoldWith", "(II)Z"⟩, 7), (⟨"BallastSteps", "wideTelling", "(I)I"⟩, 7), (⟨"BallastSteps", "leave", "(I)V"⟩, 7), (⟨"BallastSteps", "plainTelling", "(I)I"⟩, 7), (⟨"BallastSteps", "doubleTelling", "(I)I"⟩, 7)]
theorem lw_r1 : ∀ q ∈ lw_privs_1, lw_okq q := List.forall_mem_cons.mpr ⟨lw_p0, List.forall_mem_cons.mpr ⟨lw_p1, List.forall_mem_cons.mpr ⟨lw_p2, List.forall_mem_cons.mpr ⟨lw_p3, List.forall_mem_cons.mpr ⟨lw_p4, List.forall_mem_cons.mpr ⟨lw_p5, List.forall_mem_cons.mpr ⟨lw_p6, List.forall_mem_cons.mpr ⟨lw_p7, List.forall_mem_cons.mpr ⟨lw_p8, List.forall_mem_cons.mpr ⟨lw_p9, List.forall_mem_cons.mpr ⟨lw_p10, List.forall_mem_cons.mpr ⟨lw_p11, List.forall_mem_cons.mpr ⟨lw_p12, List.forall_mem_cons.mpr ⟨lw_p13, List.forall_mem_cons.mpr ⟨lw_p14, List.forall_mem_cons.mpr ⟨lw_p15, fun _ h => absurd h List.not_mem_nil⟩⟩⟩⟩⟩⟩⟩⟩⟩⟩⟩⟩⟩⟩⟩⟩
theorem lw_p16 : lw_okq (⟨"BallastSteps", "soundingOfDouble", "(LBallastSteps$Tank;)I"⟩, 7) := ⟨⟨by decide +kernel, by decide +kernel⟩, List.mem_of_getElem? (i := 13) (by decide +kernel), List.mem_of_getElem? (i := 563) (by decide +kernel), List.mem_of_getElem? (i := 564) (by decide +kernel)⟩
theorem lw_p17 : lw_okq (⟨"BallastSteps", "lentSounding", "(LBallastSteps$Tank;)I"⟩, 7) := ⟨⟨by decide +kernel, by decide +kernel⟩, List.mem_of_getElem? (i := 13) (by decide +kernel), List.mem_of_getElem? (i := 567) (by decide +kernel), List.mem_of_getElem? (i := 568) (by decide +kernel)⟩
theorem lw_p18 : lw_okq (⟨"BallastStepsModel", "against", "(IIII)I"⟩, 36) := ⟨⟨by decide +kernel, by decide +kernel⟩, List.mem_of_getElem? (i := 587) (by decide +kernel), List.mem_of_getElem? (i := 717) (by decide +kernel), List.mem_of_getElem? (i := 718) (by decide +kernel)⟩
theorem lw_p19 : lw_okq (⟨"BallastStepsModel", "fails", "(I)I"⟩, 36) := ⟨⟨by decide +kernel, by decide +kernel⟩, List.mem_of_getElem? (i := 587) (by decide +kernel), List.mem_of_getElem? (i := 721) (by decide +kernel), List.mem_of_getElem? (i := 722) (by decide +kernel)⟩
theorem lw_p20 : lw_okq (⟨"BallastStepsModel", "readAll", "(I)Z"⟩, 36) := ⟨⟨by decide +kernel, by decide +kernel⟩, List.mem_of_getElem? (i := 587) (by decide +kernel), List.mem_of_getElem? (i := 725) (by decide +kernel), List.mem_of_getElem? (i := 726) (by decide +kernel)⟩
theorem lw_p21 : lw_okq (⟨"BallastStepsModel", "code", "(I)I"⟩, 36) := ⟨⟨by decide +kernel, by decide +kernel⟩, List.mem_of_getElem? (i := 587) (by decide +kernel), List.mem_of_getElem? (i := 729) (by decide +kernel), List.mem_of_getElem? (i := 730) (by decide +kernel)⟩
theorem lw_p22 : lw_okq (⟨"BallastStepsModel", "readTank", "(I)Z"⟩, 36) := ⟨⟨by decide +kernel, by decide +kernel⟩, List.mem_of_getElem? (i := 587) (by decide +kernel), List.mem_of_getElem? (i := 733) (by decide +kernel), List.mem_of_getElem? (i := 734) (by decide +kernel)⟩
theorem lw_p23 : lw_okq (⟨"BallastStepsModel", "takes", "(I)Z"⟩, 36) := ⟨⟨by decide +kernel, by decide +kernel⟩, List.mem_of_getElem? (i := 587) (by decide +kernel), List.mem_of_getElem? (i := 740) (by decide +kernel), List.mem_of_getElem? (i := 741) (by decide +kernel)⟩
theorem lw_p24 : lw_okq (⟨"BallastStepsModel", "isTank", "(I)Z"⟩, 36) := ⟨⟨by decide +kernel, by decide +kernel⟩, List.mem_of_getElem? (i := 587) (by decide +kernel), List.mem_of_getElem? (i := 754) (by decide +kernel), List.mem_of_getElem? (i := 755) (by decide +kernel)⟩
theorem lw_p25 : lw_okq (⟨"BallastStepsModel", "weightOf", "(I)I"⟩, 36) := ⟨⟨by decide +kernel, by decide +kernel⟩, List.mem_of_getElem? (i := 587) (by decide +kernel), List.mem_of_getElem? (i := 758) (by decide +kernel), List.mem_of_getElem? (i := 759) (by decide +kernel)⟩
theorem lw_p26 : lw_okq (⟨"BallastStepsModel", "waterIn", "(II)I"⟩, 36) := ⟨⟨by decide +kernel, by decide +kernel⟩, List.mem_of_getElem? (i := 587) (by decide +kernel), List.mem_of_getElem? (i := 762) (by decide +kernel), List.mem_of_getElem? (i := 763) (by decide +kernel)⟩
theorem lw_p27 : lw_okq (⟨"BallastStepsModel", "canPump", "(II)Z"⟩, 36) := ⟨⟨by decide +kernel, by decide +kernel⟩, List.mem_of_getElem? (i := 587) (by decide +kernel), List.mem_of_getElem? (i := 766) (by decide +kernel), List.mem_of_getElem? (i := 767) (by decide +kernel)⟩
theorem lw_p28 : lw_okq (⟨"BallastStepsModel", "isSafe", "(II)Z"⟩, 36) := ⟨⟨by decide +kernel, by decide +kernel⟩, List.mem_of_getElem? (i := 587) (by decide +kernel), List.mem_of_getElem? (i := 770) (by decide +kernel), List.mem_of_getElem? (i := 771) (by decide +kernel)⟩
theorem lw_p29 : lw_okq (⟨"BallastStepsModel", "weigh", "(II)V"⟩, 36) := ⟨⟨by decide +kernel, by decide +kernel⟩, List.mem_of_getElem? (i := 587) (by decide +kernel), List.mem_of_getElem? (i := 774) (by decide +kernel), List.mem_of_getElem? (i := 775) (by decide +kernel)⟩
theorem lw_p30 : lw_okq (⟨"BallastStepsModel", "pumped", "(II)I"⟩, 36) := ⟨⟨by decide +kernel, by decide +kernel⟩, List.mem_of_getElem? (i := 587) (by decide +kernel), List.mem_of_getElem? (i := 781) (by decide +kernel), List.mem_of_getElem? (i := 782) (by decide +kernel)⟩
theorem lw_p31 : lw_okq (⟨"BallastStepsModel", "measured", "(II)I"⟩, 36) := ⟨⟨by decide +kernel, by decide +kernel⟩, List.mem_of_getElem? (i := 587) (by decide +kernel), List.mem_of_getElem? (i := 807) (by decide +kernel), List.mem_of_getElem? (i := 808) (by decide +kernel)⟩
def lw_privs_2 : List (MethodName × Nat) := [(⟨"BallastSteps", "soundingOfDouble", "(LBallastSteps$Tank;)I"⟩, 7), (⟨"BallastSteps", "lentSounding", "(LBallastSteps$Tank;)I"⟩, 7), (⟨"BallastStepsModel", "against", "(IIII)I"⟩, 36), (⟨"BallastStepsModel", "fails", "(I)I"⟩, 36), (⟨"BallastStepsModel", "readAll", "(I)Z"⟩, 36), (⟨"BallastStepsModel", "code", "(I)I"⟩, 36), (⟨"BallastStepsModel", "readTank", "(I)Z"⟩, 36), (⟨"BallastStepsModel", "takes", "(I)Z"⟩, 36), (⟨"BallastStepsModel", "isTank", "(I)Z"⟩, 36), (⟨"BallastStepsModel", "weightOf", "(I)I"⟩, 36), (⟨"BallastStepsModel", "waterIn", "(II)I"⟩, 36), (⟨"BallastStepsModel", "canPump", "(II)Z"⟩, 36), (⟨"BallastStepsModel", "isSafe", "(II)Z"⟩, 36), (⟨"BallastStepsModel", "weigh", "(II)V"⟩, 36), (⟨"BallastStepsModel", "pumped", "(II)I"⟩, 36), (⟨"BallastStepsModel", "measured", "(II)I"⟩, 36)]
theorem lw_r2 : ∀ q ∈ lw_privs_2, lw_okq q := List.forall_mem_cons.mpr ⟨lw_p16, List.forall_mem_cons.mpr ⟨lw_p17, List.forall_mem_cons.mpr ⟨lw_p18, List.forall_mem_cons.mpr ⟨lw_p19, List.forall_mem_cons.mpr ⟨lw_p20, List.forall_mem_cons.mpr ⟨lw_p21, List.forall_mem_cons.mpr ⟨lw_p22, List.forall_mem_cons.mpr ⟨lw_p23, List.forall_mem_cons.mpr ⟨lw_p24, List.forall_mem_cons.mpr ⟨lw_p25, List.forall_mem_cons.mpr ⟨lw_p26, List.forall_mem_cons.mpr ⟨lw_p27, List.forall_mem_cons.mpr ⟨lw_p28, List.forall_mem_cons.mpr ⟨lw_p29, List.forall_mem_cons.mpr ⟨lw_p30, List.forall_mem_cons.mpr ⟨lw_p31, fun _ h => absurd h List.not_mem_nil⟩⟩⟩⟩⟩⟩⟩⟩⟩⟩⟩⟩⟩⟩⟩⟩
theorem lw_p32 : lw_okq (⟨"BallastStepsModel", "findLeft", "()V"⟩, 36) := ⟨⟨by decide +kernel, by decide +kernel⟩, List.mem_of_getElem? (i := 587) (by decide +kernel), List.mem_of_getElem? (i := 826) (by decide +kernel), List.mem_of_getElem? (i := 827) (by decide +kernel)⟩
theorem lw_p33 : lw_okq (⟨"BallastStepsModel", "prepare", "()V"⟩, 36) := ⟨⟨by decide +kernel, by decide +kernel⟩, List.mem_of_getElem? (i := 587) (by decide +kernel), List.mem_of_getElem? (i := 830) (by decide +kernel), List.mem_of_getElem? (i := 831) (by decide +kernel)⟩
theorem lw_p34 : lw_okq (⟨"BallastStepsModel", "isEnd", "(I)Z"⟩, 36) := ⟨⟨by decide +kernel, by decide +kernel⟩, List.mem_of_getElem? (i := 587) (by decide +kernel), List.mem_of_getElem? (i := 834) (by decide +kernel), List.mem_of_getElem? (i := 835) (by decide +kernel)⟩
theorem lw_p35 : lw_okq (⟨"BallastStepsModel", "findNext", "(I)Z"⟩, 36) := ⟨⟨by decide +kernel, by decide +kernel⟩, List.mem_of_getElem? (i := 587) (by decide +kernel), List.mem_of_getElem? (i := 838) (by decide +kernel), List.mem_of_getElem? (i := 839) (by decide +kernel)⟩
theorem lw_p36 : lw_okq (⟨"BallastStepsModel", "firstOf", "(I)I"⟩, 36) := ⟨⟨by decide +kernel, by decide +kernel⟩, List.mem_of_getElem? (i := 587) (by decide +kernel), List.mem_of_getElem? (i := 842) (by decide +kernel), List.mem_of_getElem? (i := 843) (by decide +kernel)⟩
theorem lw_p37 : lw_okq (⟨"BallastStepsModel", "goDay", "(II)I"⟩, 36) := ⟨⟨by decide +kernel, by decide +kernel⟩, List.mem_of_getElem? (i := 587) (by decide +kernel), List.mem_of_getElem? (i := 860) (by decide +kernel), List.mem_of_getElem? (i := 861) (by decide +kernel)⟩
theorem lw_p38 : lw_okq (⟨"BallastStepsModel", "tellDay", "(I)I"⟩, 36) := ⟨⟨by decide +kernel, by decide +kernel⟩, List.mem_of_getElem? (i := 587) (by decide +kernel), List.mem_of_getElem? (i := 864) (by decide +kernel), List.mem_of_getElem? (i := 865) (by decide +kernel)⟩
theorem lw_p39 : lw_okq (⟨"BallastStepsModel", "countOf", "(IZ)I"⟩, 36) := ⟨⟨by decide +kernel, by decide +kernel⟩, List.mem_of_getElem? (i := 587) (by decide +kernel), List.mem_of_getElem? (i := 868) (by decide +kernel), List.mem_of_getElem? (i := 869) (by decide +kernel)⟩
theorem lw_p40 : lw_okq (⟨"BallastStepsModel", "seesMore", "()Z"⟩, 36) := ⟨⟨by decide +kernel, by decide +kernel⟩, List.mem_of_getElem? (i := 587) (by decide +kernel), List.mem_of_getElem? (i := 876) (by decide +kernel), List.mem_of_getElem? (i := 877) (by decide +kernel)⟩
theorem lw_p41 : lw_okq (⟨"BallastStepsModel", "areSo", "()Z"⟩, 36) := ⟨⟨by decide +kernel, by decide +kernel⟩, List.mem_of_getElem? (i := 587) (by decide +kernel), List.mem_of_getElem? (i := 898) (by decide +kernel), List.mem_of_getElem? (i := 899) (by decide +kernel)⟩
theorem lw_p42 : lw_okq (⟨"BallastStepsModel", "lost", "(I)J"⟩, 36) := ⟨⟨by decide +kernel, by decide +kernel⟩, List.mem_of_getElem? (i := 587) (by decide +kernel), List.mem_of_getElem? (i := 929) (by decide +kernel), List.mem_of_getElem? (i := 930) (by decide +kernel)⟩
theorem lw_p43 : lw_okq (⟨"BallastStepsModel", "begins", "(I)V"⟩, 36) := ⟨⟨by decide +kernel, by decide +kernel⟩, List.mem_of_getElem? (i := 587) (by decide +kernel), List.mem_of_getElem? (i := 941) (by decide +kernel), List.mem_of_getElem? (i := 942) (by decide +kernel)⟩
def lw_privs_3 : List (MethodName × Nat) := [(⟨"BallastStepsModel", "findLeft", "()V"⟩, 36), (⟨"BallastStepsModel", "prepare", "()V"⟩, 36), (⟨"BallastStepsModel", "isEnd", "(I)Z"⟩, 36), (⟨"BallastStepsModel", "findNext", "(I)Z"⟩, 36), (⟨"BallastStepsModel", "firstOf", "(I)I"⟩, 36), (⟨"BallastStepsModel", "goDay", "(II)I"⟩, 36), (⟨"BallastStepsModel", "tellDay", "(I)I"⟩, 36), (⟨"BallastStepsModel", "countOf", "(IZ)I"⟩, 36), (⟨"BallastStepsModel", "seesMore", "()Z"⟩, 36), (⟨"BallastStepsModel", "areSo", "()Z"⟩, 36), (⟨"BallastStepsModel", "lost", "(I)J"⟩, 36), (⟨"BallastStepsModel", "begins", "(I)V"⟩, 36)]
theorem lw_r3 : ∀ q ∈ lw_privs_3, lw_okq q := List.forall_mem_cons.mpr ⟨lw_p32, List.forall_mem_cons.mpr ⟨lw_p33, List.forall_mem_cons.mpr ⟨lw_p34, List.forall_mem_cons.mpr ⟨lw_p35, List.forall_mem_cons.mpr ⟨lw_p36, List.forall_mem_cons.mpr ⟨lw_p37, List.forall_mem_cons.mpr ⟨lw_p38, List.forall_mem_cons.mpr ⟨lw_p39, List.forall_mem_cons.mpr ⟨lw_p40, List.forall_mem_cons.mpr ⟨lw_p41, List.forall_mem_cons.mpr ⟨lw_p42, List.forall_mem_cons.mpr ⟨lw_p43, fun _ h => absurd h List.not_mem_nil⟩⟩⟩⟩⟩⟩⟩⟩⟩⟩⟩⟩
def lw_privs : List (MethodName × Nat) := lw_privs_1 ++ (lw_privs_2 ++ (lw_privs_3))
def lw_tbl : List Cond := k2_sels lw_privs ++ tables_1
theorem lw_privs_ok : ∀ q ∈ lw_privs, lw_okq q := by
  show ∀ q ∈ lw_privs_1 ++ (lw_privs_2 ++ (lw_privs_3)), lw_okq q
  exact List.forall_mem_append.mpr ⟨lw_r1, List.forall_mem_append.mpr ⟨lw_r2, lw_r3⟩⟩
def RX0 : String := "BallastSteps$Load"
def TX0 : u_T := fun k => match k with
  | 0 => ("BallastSteps$Load", "inFrame", "[I", true)
  | 1 => ("BallastSteps$Load", "total", "I", false)
  | 2 => ("BallastSteps$Load", "trim", "I", false)
  | _ => ("BallastSteps$Load", "heel", "I", false)
def tyX0 : Nat → FieldType := fun k => match k with
  | 0 => .array .int
  | 1 => .int
  | 2 => .int
  | _ => .int
abbrev wsX00 : List Cond := u_ws RX0 TX0 4
theorem nmX0 : ∀ a, a < 4 → ∀ b, b < 4 → a ≠ b → (TX0 a).2.1 ≠ (TX0 b).2.1 := by decide +kernel
theorem tyX0_ok : ∀ k, k < 4 → parseFieldDescriptor (TX0 k).2.2.1 = some (tyX0 k) := by decide +kernel
abbrev cX0_init : ByteArray := prog_2_method_1_code
def yX0_init : MethodName := ⟨RX0, "<init>", "()V"⟩
abbrev cX0_clear : ByteArray := prog_2_method_2_code
def yX0_clear : MethodName := ⟨RX0, "clear", "()V"⟩
abbrev cX0_add : ByteArray := prog_2_method_3_code
def yX0_add : MethodName := ⟨RX0, "add", "(LBallastSteps$Tank;I)V"⟩
abbrev cX0_momentOf : ByteArray := prog_2_method_4_code
def yX0_momentOf : MethodName := ⟨RX0, "momentOf", "(I)I"⟩
abbrev cX0_bending : ByteArray := prog_2_method_5_code
def yX0_bending : MethodName := ⟨RX0, "bending", "()I"⟩
abbrev cX0_bounded : ByteArray := prog_2_method_6_code
def yX0_bounded : MethodName := ⟨RX0, "bounded", "(I)I"⟩
abbrev cX0_isWithin : ByteArray := prog_2_method_7_code
def yX0_isWithin : MethodName := ⟨RX0, "isWithin", "([II)Z"⟩
def RX1 : String := "BallastSteps$Row"
def TX1 : u_T := fun k => match k with
  | 0 => ("BallastSteps$Row", "cells", "[I", true)
  | 1 => ("BallastSteps$Row", "lane", "I", false)
  | _ => ("BallastSteps$Row", "length", "I", false)
def tyX1 : Nat → FieldType := fun k => match k with
  | 0 => .array .int
  | 1 => .int
  | _ => .int
abbrev wsX10 : List Cond := u_ws RX1 TX1 3
theorem nmX1 : ∀ a, a < 3 → ∀ b, b < 3 → a ≠ b → (TX1 a).2.1 ≠ (TX1 b).2.1 := by decide +kernel
theorem tyX1_ok : ∀ k, k < 3 → parseFieldDescriptor (TX1 k).2.2.1 = some (tyX1 k) := by decide +kernel
abbrev cX1_init : ByteArray := prog_3_method_1_code
def yX1_init : MethodName := ⟨RX1, "<init>", "()V"⟩
abbrev cX1_isNothing : ByteArray := prog_3_method_2_code
def yX1_isNothing : MethodName := ⟨RX1, "isNothing", "()Z"⟩
abbrev cX1_renew : ByteArray := prog_3_method_3_code
def yX1_renew : MethodName := ⟨RX1, "renew", "(II)V"⟩
abbrev cX1_drop : ByteArray := prog_3_method_4_code
def yX1_drop : MethodName := ⟨RX1, "drop", "()V"⟩
abbrev cX1_faultAs : ByteArray := prog_3_method_5_code
def yX1_faultAs : MethodName := ⟨RX1, "faultAs", "(I)I"⟩
abbrev cX1_hasCells : ByteArray := prog_3_method_6_code
def yX1_hasCells : MethodName := ⟨RX1, "hasCells", "(II)Z"⟩
abbrev cX1_write : ByteArray := prog_3_method_7_code
def yX1_write : MethodName := ⟨RX1, "write", "(II)V"⟩
def RX2 : String := "BallastSteps$Search"
def TX2 : u_T := fun k => match k with
  | 0 => ("BallastSteps$Search", "queue", "[I", true)
  | 1 => ("BallastSteps$Search", "steps", "[I", true)
  | 2 => ("BallastSteps$Search", "before", "[I", true)
  | 3 => ("BallastSteps$Search", "lastTank", "[I", true)
  | 4 => ("BallastSteps$Search", "ways", "[J", true)
  | 5 => ("BallastSteps$Search", "safe", "[Z", true)
  | 6 => ("BallastSteps$Search", "pumpable", "[I", true)
  | 7 => ("BallastSteps$Search", "isFresh", "Z", false)
  | 8 => ("BallastSteps$Search", "reached", "I", false)
  | _ => ("BallastSteps$Search", "end", "I", false)
def tyX2 : Nat → FieldType := fun k => match k with
  | 0 => .array .int
  | 1 => .array .int
  | 2 => .array .int
  | 3 => .array .int
  | 4 => .array .long
  | 5 => .array .boolean
  | 6 => .array .int
  | 7 => .boolean
  | 8 => .int
  | _ => .int
abbrev wsX20 : List Cond := u_ws RX2 TX2 10
theorem nmX2 : ∀ a, a < 10 → ∀ b, b < 10 → a ≠ b → (TX2 a).2.1 ≠ (TX2 b).2.1 := by decide +kernel
theorem tyX2_ok : ∀ k, k < 10 → parseFieldDescriptor (TX2 k).2.2.1 = some (tyX2 k) := by decide +kernel
abbrev cX2_init : ByteArray := prog_4_method_1_code
def yX2_init : MethodName := ⟨RX2, "<init>", "()V"⟩
abbrev cX2_forget : ByteArray := prog_4_method_2_code
def yX2_forget : MethodName := ⟨RX2, "forget", "()V"⟩
abbrev cX2_refresh : ByteArray := prog_4_method_3_code
def yX2_refresh : MethodName := ⟨RX2, "refresh", "(LBallastSteps$Ship;)V"⟩
abbrev cX2_findPumpable : ByteArray := prog_4_method_4_code
def yX2_findPumpable : MethodName := ⟨RX2, "findPumpable", "(LBallastSteps$Ship;)V"⟩
abbrev cX2_explore : ByteArray := prog_4_method_5_code
def yX2_explore : MethodName := ⟨RX2, "explore", "(LBallastSteps$Ship;)V"⟩
abbrev cX2_step : ByteArray := prog_4_method_6_code
def yX2_step : MethodName := ⟨RX2, "step", "(II)V"⟩
abbrev cX2_findEnd : ByteArray := prog_4_method_7_code
def yX2_findEnd : MethodName := ⟨RX2, "findEnd", "(LBallastSteps$Ship;)I"⟩
abbrev cX2_planLength : ByteArray := prog_4_method_8_code
def yX2_planLength : MethodName := ⟨RX2, "planLength", "()I"⟩
abbrev cX2_planTank : ByteArray := prog_4_method_9_code
def yX2_planTank : MethodName := ⟨RX2, "planTank", "(I)I"⟩
abbrev cX2_shortestPlans : ByteArray := prog_4_method_10_code
def yX2_shortestPlans : MethodName := ⟨RX2, "shortestPlans", "(LBallastSteps$Ship;)J"⟩
abbrev cX2_worstOfPlan : ByteArray := prog_4_method_11_code
def yX2_worstOfPlan : MethodName := ⟨RX2, "worstOfPlan", "(LBallastSteps$Ship;I)I"⟩
def RX3 : String := "BallastSteps$Ship"
def TX3 : u_T := fun k => match k with
  | 0 => ("BallastSteps$Ship", "tanks", "[LBallastSteps$Tank;", true)
  | 1 => ("BallastSteps$Ship", "bounds", "[I", true)
  | 2 => ("BallastSteps$Ship", "load", "LBallastSteps$Load;", true)
  | 3 => ("BallastSteps$Ship", "count", "I", false)
  | 4 => ("BallastSteps$Ship", "waters", "I", false)
  | 5 => ("BallastSteps$Ship", "working", "I", false)
  | _ => ("BallastSteps$Ship", "dueSet", "I", false)
def tyX3 : Nat → FieldType := fun k => match k with
  | 0 => .array (.object "BallastSteps$Tank")
  | 1 => .array .int
  | 2 => .object "BallastSteps$Load"
  | 3 => .int
  | 4 => .int
  | 5 => .int
  | _ => .int
abbrev wsX30 : List Cond := u_ws RX3 TX3 7
theorem nmX3 : ∀ a, a < 7 → ∀ b, b < 7 → a ≠ b → (TX3 a).2.1 ≠ (TX3 b).2.1 := by decide +kernel
theorem tyX3_ok : ∀ k, k < 7 → parseFieldDescriptor (TX3 k).2.2.1 = some (tyX3 k) := by decide +kernel
abbrev cX3_init : ByteArray := prog_5_method_1_code
def yX3_init : MethodName := ⟨RX3, "<init>", "()V"⟩
abbrev cX3_build : ByteArray := prog_5_method_2_code
def yX3_build : MethodName := ⟨RX3, "build", "(LBallastSteps$Row;II)V"⟩
abbrev cX3_fullSet : ByteArray := prog_5_method_3_code
def yX3_fullSet : MethodName := ⟨RX3, "fullSet", "(I)I"⟩
abbrev cX3_loadOf : ByteArray := prog_5_method_4_code
def yX3_loadOf : MethodName := ⟨RX3, "loadOf", "(I)LBallastSteps$Load;"⟩
abbrev cX3_loadHalfway : ByteArray := prog_5_method_5_code
def yX3_loadHalfway : MethodName := ⟨RX3, "loadHalfway", "(II)LBallastSteps$Load;"⟩
abbrev cX3_isSafe : ByteArray := prog_5_method_6_code
def yX3_isSafe : MethodName := ⟨RX3, "isSafe", "(I)Z"⟩
abbrev cX3_isSafeHalfway : ByteArray := prog_5_method_7_code
def yX3_isSafeHalfway : MethodName := ⟨RX3, "isSafeHalfway", "(II)Z"⟩
abbrev cX3_canPump : ByteArray := prog_5_method_8_code
def yX3_canPump : MethodName := ⟨RX3, "canPump", "(II)Z"⟩
abbrev cX3_safeLoads : ByteArray := prog_5_method_9_code
def yX3_safeLoads : MethodName := ⟨RX3, "safeLoads", "()I"⟩
abbrev cX3_trimWith : ByteArray := prog_5_method_10_code
def yX3_trimWith : MethodName := ⟨RX3, "trimWith", "(II)I"⟩
abbrev cX3_isChanged : ByteArray := prog_5_method_11_code
def yX3_isChanged : MethodName := ⟨RX3, "isChanged", "(I)Z"⟩
def RX4 : String := "BallastSteps$Tank"
def TX4 : u_T := fun k => match k with
  | 0 => ("BallastSteps$Tank", "kind", "I", false)
  | 1 => ("BallastSteps$Tank", "frame", "I", false)
  | 2 => ("BallastSteps$Tank", "side", "I", false)
  | _ => ("BallastSteps$Tank", "mass", "I", false)
def tyX4 : Nat → FieldType := fun k => match k with
  | 0 => .int
  | 1 => .int
  | 2 => .int
  | _ => .int
abbrev wsX40 : List Cond := u_ws RX4 TX4 4
theorem nmX4 : ∀ a, a < 4 → ∀ b, b < 4 → a ≠ b → (TX4 a).2.1 ≠ (TX4 b).2.1 := by decide +kernel
theorem tyX4_ok : ∀ k, k < 4 → parseFieldDescriptor (TX4 k).2.2.1 = some (tyX4 k) := by decide +kernel
abbrev cX4_init : ByteArray := prog_6_method_1_code
def yX4_init : MethodName := ⟨RX4, "<init>", "()V"⟩
abbrev cX4_weight : ByteArray := prog_6_method_2_code
def yX4_weight : MethodName := ⟨RX4, "weight", "()I"⟩
def RX5 : String := "BallastSteps"
def TX5 : u_T := fun k => match k with
  | 0 => ("BallastSteps", "rows", "[LBallastSteps$Row;", true)
  | 1 => ("BallastSteps", "vessel", "LBallastSteps$Ship;", true)
  | 2 => ("BallastSteps", "search", "LBallastSteps$Search;", true)
  | 3 => ("BallastSteps", "readings", "[I", true)
  | 4 => ("BallastSteps", "readingCount", "I", false)
  | 5 => ("BallastSteps", "traced", "I", false)
  | _ => ("BallastSteps", "latestFault", "I", false)
def tyX5 : Nat → FieldType := fun k => match k with
  | 0 => .array (.object "BallastSteps$Row")
  | 1 => .object "BallastSteps$Ship"
  | 2 => .object "BallastSteps$Search"
  | 3 => .array .int
  | 4 => .int
  | 5 => .int
  | _ => .int
abbrev wsX50 : List Cond := u_ws RX5 TX5 7
theorem nmX5 : ∀ a, a < 7 → ∀ b, b < 7 → a ≠ b → (TX5 a).2.1 ≠ (TX5 b).2.1 := by decide +kernel
theorem tyX5_ok : ∀ k, k < 7 → parseFieldDescriptor (TX5 k).2.2.1 = some (tyX5 k) := by decide +kernel
abbrev cX5_init : ByteArray := prog_1_method_1_code
def yX5_init : MethodName := ⟨RX5, "<init>", "()V"⟩
abbrev cX5_ship : ByteArray := prog_1_method_2_code
def yX5_ship : MethodName := ⟨RX5, "ship", "(IIII)I"⟩
abbrev cX5_ofTank : ByteArray := prog_1_method_3_code
def yX5_ofTank : MethodName := ⟨RX5, "ofTank", "(II)I"⟩
abbrev cX5_mass : ByteArray := prog_1_method_4_code
def yX5_mass : MethodName := ⟨RX5, "mass", "(II)I"⟩
abbrev cX5_bound : ByteArray := prog_1_method_5_code
def yX5_bound : MethodName := ⟨RX5, "bound", "(II)I"⟩
abbrev cX5_due : ByteArray := prog_1_method_6_code
def yX5_due : MethodName := ⟨RX5, "due", "(I)I"⟩
abbrev cX5_fail : ByteArray := prog_1_method_7_code
def yX5_fail : MethodName := ⟨RX5, "fail", "(I)I"⟩
abbrev cX5_measure : ByteArray := prog_1_method_8_code
def yX5_measure : MethodName := ⟨RX5, "measure", "(I)I"⟩
abbrev cX5_moment : ByteArray := prog_1_method_9_code
def yX5_moment : MethodName := ⟨RX5, "moment", "(I)I"⟩
abbrev cX5_pump : ByteArray := prog_1_method_10_code
def yX5_pump : MethodName := ⟨RX5, "pump", "(I)I"⟩
abbrev cX5_plan : ByteArray := prog_1_method_11_code
def yX5_plan : MethodName := ⟨RX5, "plan", "(I)I"⟩
abbrev cX5_plans : ByteArray := prog_1_method_12_code
def yX5_plans : MethodName := ⟨RX5, "plans", "()J"⟩
abbrev cX5_day : ByteArray := prog_1_method_13_code
def yX5_day : MethodName := ⟨RX5, "day", "(IIIII)I"⟩
abbrev cX5_states : ByteArray := prog_1_method_14_code
def yX5_states : MethodName := ⟨RX5, "states", "()I"⟩
abbrev cX5_worst : ByteArray := prog_1_method_15_code
def yX5_worst : MethodName := ⟨RX5, "worst", "(I)I"⟩
abbrev cX5_reading : ByteArray := prog_1_method_16_code
def yX5_reading : MethodName := ⟨RX5, "reading", "(I)I"⟩
abbrev cX5_back : ByteArray := prog_1_method_17_code
def yX5_back : MethodName := ⟨RX5, "back", "(I)I"⟩
abbrev cX5_kinds : ByteArray := prog_1_method_18_code
def yX5_kinds : MethodName := ⟨RX5, "kinds", "(I)I"⟩
abbrev cX5_masses : ByteArray := prog_1_method_19_code
def yX5_masses : MethodName := ⟨RX5, "masses", "(I)I"⟩
abbrev cX5_odds : ByteArray := prog_1_method_20_code
def yX5_odds : MethodName := ⟨RX5, "odds", "(I)J"⟩
abbrev cX5_sheet : ByteArray := prog_1_method_21_code
def yX5_sheet : MethodName := ⟨RX5, "sheet", "(III)I"⟩
abbrev cX5_lose : ByteArray := prog_1_method_22_code
def yX5_lose : MethodName := ⟨RX5, "lose", "(I)I"⟩
abbrev cX5_put : ByteArray := prog_1_method_23_code
def yX5_put : MethodName := ⟨RX5, "put", "(III)I"⟩
abbrev cX5_cell : ByteArray := prog_1_method_24_code
def yX5_cell : MethodName := ⟨RX5, "cell", "(III)J"⟩
abbrev cX5_copy : ByteArray := prog_1_method_25_code
def yX5_copy : MethodName := ⟨RX5, "copy", "(IIIII)I"⟩
abbrev cX5_tell : ByteArray := prog_1_method_26_code
def yX5_tell : MethodName := ⟨RX5, "tell", "(I)I"⟩
abbrev cX5_sound : ByteArray := prog_1_method_27_code
def yX5_sound : MethodName := ⟨RX5, "sound", "(I)I"⟩
abbrev cX5_as : ByteArray := prog_1_method_28_code
def yX5_as : MethodName := ⟨RX5, "as", "(II)I"⟩
abbrev cX5_trace : ByteArray := prog_1_method_29_code
def yX5_trace : MethodName := ⟨RX5, "trace", "()I"⟩
abbrev cX5_fault : ByteArray := prog_1_method_30_code
def yX5_fault : MethodName := ⟨RX5, "fault", "()I"⟩
abbrev cX5_many : ByteArray := prog_1_method_31_code
def yX5_many : MethodName := ⟨RX5, "many", "(I)I"⟩
abbrev cX5_isSheet : ByteArray := prog_1_method_32_code
def yX5_isSheet : MethodName := ⟨RX5, "isSheet", "(I)Z"⟩
abbrev cX5_isLane : ByteArray := prog_1_method_33_code
def yX5_isLane : MethodName := ⟨RX5, "isLane", "(I)Z"⟩
abbrev cX5_isAskedOfDay : ByteArray := prog_1_method_34_code
def yX5_isAskedOfDay : MethodName := ⟨RX5, "isAskedOfDay", "(I)Z"⟩
abbrev cX5_isTank : ByteArray := prog_1_method_35_code
def yX5_isTank : MethodName := ⟨RX5, "isTank", "(I)Z"⟩
abbrev cX5_hasNoShip : ByteArray := prog_1_method_36_code
def yX5_hasNoShip : MethodName := ⟨RX5, "hasNoShip", "()Z"⟩
abbrev cX5_faulted : ByteArray := prog_1_method_37_code
def yX5_faulted : MethodName := ⟨RX5, "faulted", "(I)I"⟩
abbrev cX5_oneIf : ByteArray := prog_1_method_38_code
def yX5_oneIf : MethodName := ⟨RX5, "oneIf", "(Z)I"⟩
abbrev cX5_firstFault : ByteArray := prog_1_method_39_code
def yX5_firstFault : MethodName := ⟨RX5, "firstFault", "(LBallastSteps$Row;II)I"⟩
abbrev cX5_goesOn : ByteArray := prog_1_method_40_code
def yX5_goesOn : MethodName := ⟨RX5, "goesOn", "(II)Z"⟩
abbrev cX5_kindOf : ByteArray := prog_1_method_41_code
def yX5_kindOf : MethodName := ⟨RX5, "kindOf", "(I)I"⟩
abbrev cX5_sideOf : ByteArray := prog_1_method_42_code
def yX5_sideOf : MethodName := ⟨RX5, "sideOf", "(I)I"⟩
abbrev cX5_waterIn : ByteArray := prog_1_method_43_code
def yX5_waterIn : MethodName := ⟨RX5, "waterIn", "(II)I"⟩
abbrev cX5_pumped : ByteArray := prog_1_method_44_code
def yX5_pumped : MethodName := ⟨RX5, "pumped", "(II)I"⟩
abbrev cX5_holds : ByteArray := prog_1_method_45_code
def yX5_holds : MethodName := ⟨RX5, "holds", "(II)Z"⟩
abbrev cX5_newWaters : ByteArray := prog_1_method_46_code
def yX5_newWaters : MethodName := ⟨RX5, "newWaters", "(I)I"⟩
abbrev cX5_areTankNumbers : ByteArray := prog_1_method_47_code
def yX5_areTankNumbers : MethodName := ⟨RX5, "areTankNumbers", "(LBallastSteps$Row;II)Z"⟩
abbrev cX5_firstWrong : ByteArray := prog_1_method_48_code
def yX5_firstWrong : MethodName := ⟨RX5, "firstWrong", "(LBallastSteps$Row;II)I"⟩
abbrev cX5_watersBehind : ByteArray := prog_1_method_49_code
def yX5_watersBehind : MethodName := ⟨RX5, "watersBehind", "(LBallastSteps$Row;II)I"⟩
abbrev cX5_ofWaters : ByteArray := prog_1_method_50_code
def yX5_ofWaters : MethodName := ⟨RX5, "ofWaters", "(II)I"⟩
abbrev cX5_readingsHoldWith : ByteArray := prog_1_method_51_code
def yX5_readingsHoldWith : MethodName := ⟨RX5, "readingsHoldWith", "(II)Z"⟩
abbrev cX5_leave : ByteArray := prog_1_method_52_code
def yX5_leave : MethodName := ⟨RX5, "leave", "(I)V"⟩
abbrev cX5_plainTelling : ByteArray := prog_1_method_53_code
def yX5_plainTelling : MethodName := ⟨RX5, "plainTelling", "(I)I"⟩
abbrev cX5_wideTelling : ByteArray := prog_1_method_54_code
def yX5_wideTelling : MethodName := ⟨RX5, "wideTelling", "(I)I"⟩
abbrev cX5_doubleTelling : ByteArray := prog_1_method_55_code
def yX5_doubleTelling : MethodName := ⟨RX5, "doubleTelling", "(I)I"⟩
abbrev cX5_lentSounding : ByteArray := prog_1_method_56_code
def yX5_lentSounding : MethodName := ⟨RX5, "lentSounding", "(LBallastSteps$Tank;)I"⟩
abbrev cX5_soundingOfDouble : ByteArray := prog_1_method_57_code
def yX5_soundingOfDouble : MethodName := ⟨RX5, "soundingOfDouble", "(LBallastSteps$Tank;)I"⟩
abbrev cX5_weightOf : ByteArray := prog_1_method_58_code
def yX5_weightOf : MethodName := ⟨RX5, "weightOf", "(II)I"⟩
def RX6 : String := "BallastStepsModel"
def TX6 : u_T := fun k => match k with
  | 0 => ("BallastStepsModel", "fault", "I", false)
  | 1 => ("BallastStepsModel", "trace", "I", false)
  | 2 => ("BallastStepsModel", "sorts", "[I", true)
  | 3 => ("BallastStepsModel", "sheetLong", "[I", true)
  | 4 => ("BallastStepsModel", "cells", "[I", true)
  | 5 => ("BallastStepsModel", "three", "[I", true)
  | 6 => ("BallastStepsModel", "many", "I", false)
  | 7 => ("BallastStepsModel", "kind", "[I", true)
  | 8 => ("BallastStepsModel", "frame", "[I", true)
  | 9 => ("BallastStepsModel", "side", "[I", true)
  | 10 => ("BallastStepsModel", "massOf", "[I", true)
  | 11 => ("BallastStepsModel", "broken", "[Z", true)
  | 12 => ("BallastStepsModel", "bounds", "[I", true)
  | 13 => ("BallastStepsModel", "due", "I", false)
  | 14 => ("BallastStepsModel", "now", "I", false)
  | 15 => ("BallastStepsModel", "at", "I", false)
  | 16 => ("BallastStepsModel", "readMany", "I", false)
  | 17 => ("BallastStepsModel", "readNow", "I", false)
  | 18 => ("BallastStepsModel", "readDue", "I", false)
  | 19 => ("BallastStepsModel", "readKind", "[I", true)
  | 20 => ("BallastStepsModel", "readFrame", "[I", true)
  | 21 => ("BallastStepsModel", "readSide", "[I", true)
  | 22 => ("BallastStepsModel", "readMass", "[I", true)
  | 23 => ("BallastStepsModel", "loads", "[I", true)
  | 24 => ("BallastStepsModel", "moments", "[I", true)
  | 25 => ("BallastStepsModel", "trim", "I", false)
  | 26 => ("BallastStepsModel", "heel", "I", false)
  | 27 => ("BallastStepsModel", "bending", "I", false)
  | 28 => ("BallastStepsModel", "isFound", "Z", false)
  | 29 => ("BallastStepsModel", "can", "[I", true)
  | 30 => ("BallastStepsModel", "left", "[I", true)
  | 31 => ("BallastStepsModel", "ways", "[J", true)
  | 32 => ("BallastStepsModel", "dayEnd", "I", false)
  | 33 => ("BallastStepsModel", "seen", "[Z", true)
  | 34 => ("BallastStepsModel", "readings", "I", false)
  | _ => ("BallastStepsModel", "readTrim", "[I", true)
def tyX6 : Nat → FieldType := fun k => match k with
  | 0 => .int
  | 1 => .int
  | 2 => .array .int
  | 3 => .array .int
  | 4 => .array .int
  | 5 => .array .int
  | 6 => .int
  | 7 => .array .int
  | 8 => .array .int
  | 9 => .array .int
  | 10 => .array .int
  | 11 => .array .boolean
  | 12 => .array .int
  | 13 => .int
  | 14 => .int
  | 15 => .int
  | 16 => .int
  | 17 => .int
  | 18 => .int
  | 19 => .array .int
  | 20 => .array .int
  | 21 => .array .int
  | 22 => .array .int
  | 23 => .array .int
  | 24 => .array .int
  | 25 => .int
  | 26 => .int
  | 27 => .int
  | 28 => .boolean
  | 29 => .array .int
  | 30 => .array .int
  | 31 => .array .long
  | 32 => .int
  | 33 => .array .boolean
  | 34 => .int
  | _ => .array .int
abbrev wsX60 : List Cond := u_ws RX6 TX6 36
theorem nmX6 : ∀ a, a < 36 → ∀ b, b < 36 → a ≠ b → (TX6 a).2.1 ≠ (TX6 b).2.1 := by decide +kernel
theorem tyX6_ok : ∀ k, k < 36 → parseFieldDescriptor (TX6 k).2.2.1 = some (tyX6 k) := by decide +kernel
abbrev cX6_init : ByteArray := prog_8_method_1_code
def yX6_init : MethodName := ⟨RX6, "<init>", "()V"⟩
abbrev cX6_fails : ByteArray := prog_8_method_2_code
def yX6_fails : MethodName := ⟨RX6, "fails", "(I)I"⟩
abbrev cX6_lost : ByteArray := prog_8_method_3_code
def yX6_lost : MethodName := ⟨RX6, "lost", "(I)J"⟩
abbrev cX6_within : ByteArray := prog_8_method_4_code
def yX6_within : MethodName := ⟨RX6, "within", "(JJJ)Z"⟩
abbrev cX6_isSheet : ByteArray := prog_8_method_5_code
def yX6_isSheet : MethodName := ⟨RX6, "isSheet", "(I)Z"⟩
abbrev cX6_isSort : ByteArray := prog_8_method_6_code
def yX6_isSort : MethodName := ⟨RX6, "isSort", "(I)Z"⟩
abbrev cX6_against : ByteArray := prog_8_method_7_code
def yX6_against : MethodName := ⟨RX6, "against", "(IIII)I"⟩
abbrev cX6_isTank : ByteArray := prog_8_method_8_code
def yX6_isTank : MethodName := ⟨RX6, "isTank", "(I)Z"⟩
abbrev cX6_waterIn : ByteArray := prog_8_method_9_code
def yX6_waterIn : MethodName := ⟨RX6, "waterIn", "(II)I"⟩
abbrev cX6_code : ByteArray := prog_8_method_10_code
def yX6_code : MethodName := ⟨RX6, "code", "(I)I"⟩
abbrev cX6_kindBy : ByteArray := prog_8_method_11_code
def yX6_kindBy : MethodName := ⟨RX6, "kindBy", "(I)I"⟩
abbrev cX6_sideBy : ByteArray := prog_8_method_12_code
def yX6_sideBy : MethodName := ⟨RX6, "sideBy", "(I)I"⟩
abbrev cX6_digitBy : ByteArray := prog_8_method_13_code
def yX6_digitBy : MethodName := ⟨RX6, "digitBy", "(III)I"⟩
abbrev cX6_takes : ByteArray := prog_8_method_14_code
def yX6_takes : MethodName := ⟨RX6, "takes", "(I)Z"⟩
abbrev cX6_readTank : ByteArray := prog_8_method_15_code
def yX6_readTank : MethodName := ⟨RX6, "readTank", "(I)Z"⟩
abbrev cX6_readAll : ByteArray := prog_8_method_16_code
def yX6_readAll : MethodName := ⟨RX6, "readAll", "(I)Z"⟩
abbrev cX6_ship : ByteArray := prog_8_method_17_code
def yX6_ship : MethodName := ⟨RX6, "ship", "(IIII)I"⟩
abbrev cX6_weightOf : ByteArray := prog_8_method_18_code
def yX6_weightOf : MethodName := ⟨RX6, "weightOf", "(I)I"⟩
abbrev cX6_ofTank : ByteArray := prog_8_method_19_code
def yX6_ofTank : MethodName := ⟨RX6, "ofTank", "(II)I"⟩
abbrev cX6_mass : ByteArray := prog_8_method_20_code
def yX6_mass : MethodName := ⟨RX6, "mass", "(II)I"⟩
abbrev cX6_bound : ByteArray := prog_8_method_21_code
def yX6_bound : MethodName := ⟨RX6, "bound", "(II)I"⟩
abbrev cX6_due : ByteArray := prog_8_method_22_code
def yX6_due : MethodName := ⟨RX6, "due", "(I)I"⟩
abbrev cX6_fail : ByteArray := prog_8_method_23_code
def yX6_fail : MethodName := ⟨RX6, "fail", "(I)I"⟩
abbrev cX6_plain : ByteArray := prog_8_method_24_code
def yX6_plain : MethodName := ⟨RX6, "plain", "(I)I"⟩
abbrev cX6_weigh : ByteArray := prog_8_method_25_code
def yX6_weigh : MethodName := ⟨RX6, "weigh", "(II)V"⟩
abbrev cX6_isSafe : ByteArray := prog_8_method_26_code
def yX6_isSafe : MethodName := ⟨RX6, "isSafe", "(II)Z"⟩
abbrev cX6_pumped : ByteArray := prog_8_method_27_code
def yX6_pumped : MethodName := ⟨RX6, "pumped", "(II)I"⟩
abbrev cX6_canPump : ByteArray := prog_8_method_28_code
def yX6_canPump : MethodName := ⟨RX6, "canPump", "(II)Z"⟩
abbrev cX6_measured : ByteArray := prog_8_method_29_code
def yX6_measured : MethodName := ⟨RX6, "measured", "(II)I"⟩
abbrev cX6_measure : ByteArray := prog_8_method_30_code
def yX6_measure : MethodName := ⟨RX6, "measure", "(I)I"⟩
abbrev cX6_moment : ByteArray := prog_8_method_31_code
def yX6_moment : MethodName := ⟨RX6, "moment", "(I)I"⟩
abbrev cX6_pump : ByteArray := prog_8_method_32_code
def yX6_pump : MethodName := ⟨RX6, "pump", "(I)I"⟩
abbrev cX6_isEnd : ByteArray := prog_8_method_33_code
def yX6_isEnd : MethodName := ⟨RX6, "isEnd", "(I)Z"⟩
abbrev cX6_prepare : ByteArray := prog_8_method_34_code
def yX6_prepare : MethodName := ⟨RX6, "prepare", "()V"⟩
abbrev cX6_findNext : ByteArray := prog_8_method_35_code
def yX6_findNext : MethodName := ⟨RX6, "findNext", "(I)Z"⟩
abbrev cX6_findLeft : ByteArray := prog_8_method_36_code
def yX6_findLeft : MethodName := ⟨RX6, "findLeft", "()V"⟩
abbrev cX6_firstOf : ByteArray := prog_8_method_37_code
def yX6_firstOf : MethodName := ⟨RX6, "firstOf", "(I)I"⟩
abbrev cX6_plan : ByteArray := prog_8_method_38_code
def yX6_plan : MethodName := ⟨RX6, "plan", "(I)I"⟩
abbrev cX6_plans : ByteArray := prog_8_method_39_code
def yX6_plans : MethodName := ⟨RX6, "plans", "()J"⟩
abbrev cX6_goDay : ByteArray := prog_8_method_40_code
def yX6_goDay : MethodName := ⟨RX6, "goDay", "(II)I"⟩
abbrev cX6_countOf : ByteArray := prog_8_method_41_code
def yX6_countOf : MethodName := ⟨RX6, "countOf", "(IZ)I"⟩
abbrev cX6_tellDay : ByteArray := prog_8_method_42_code
def yX6_tellDay : MethodName := ⟨RX6, "tellDay", "(I)I"⟩
abbrev cX6_day : ByteArray := prog_8_method_43_code
def yX6_day : MethodName := ⟨RX6, "day", "(IIIII)I"⟩
abbrev cX6_seesMore : ByteArray := prog_8_method_44_code
def yX6_seesMore : MethodName := ⟨RX6, "seesMore", "()Z"⟩
abbrev cX6_states : ByteArray := prog_8_method_45_code
def yX6_states : MethodName := ⟨RX6, "states", "()I"⟩
abbrev cX6_worst : ByteArray := prog_8_method_46_code
def yX6_worst : MethodName := ⟨RX6, "worst", "(I)I"⟩
abbrev cX6_reading : ByteArray := prog_8_method_47_code
def yX6_reading : MethodName := ⟨RX6, "reading", "(I)I"⟩
abbrev cX6_back : ByteArray := prog_8_method_48_code
def yX6_back : MethodName := ⟨RX6, "back", "(I)I"⟩
abbrev cX6_areSo : ByteArray := prog_8_method_49_code
def yX6_areSo : MethodName := ⟨RX6, "areSo", "()Z"⟩
abbrev cX6_kinds : ByteArray := prog_8_method_50_code
def yX6_kinds : MethodName := ⟨RX6, "kinds", "(I)I"⟩
abbrev cX6_masses : ByteArray := prog_8_method_51_code
def yX6_masses : MethodName := ⟨RX6, "masses", "(I)I"⟩
abbrev cX6_inLeastTerms : ByteArray := prog_8_method_52_code
def yX6_inLeastTerms : MethodName := ⟨RX6, "inLeastTerms", "(III)J"⟩
abbrev cX6_odds : ByteArray := prog_8_method_53_code
def yX6_odds : MethodName := ⟨RX6, "odds", "(I)J"⟩
abbrev cX6_sheet : ByteArray := prog_8_method_54_code
def yX6_sheet : MethodName := ⟨RX6, "sheet", "(III)I"⟩
abbrev cX6_lose : ByteArray := prog_8_method_55_code
def yX6_lose : MethodName := ⟨RX6, "lose", "(I)I"⟩
abbrev cX6_put : ByteArray := prog_8_method_56_code
def yX6_put : MethodName := ⟨RX6, "put", "(III)I"⟩
abbrev cX6_cell : ByteArray := prog_8_method_57_code
def yX6_cell : MethodName := ⟨RX6, "cell", "(III)J"⟩
abbrev cX6_copy : ByteArray := prog_8_method_58_code
def yX6_copy : MethodName := ⟨RX6, "copy", "(IIIII)I"⟩
abbrev cX6_begins : ByteArray := prog_8_method_59_code
def yX6_begins : MethodName := ⟨RX6, "begins", "(I)V"⟩
abbrev cX6_tell : ByteArray := prog_8_method_60_code
def yX6_tell : MethodName := ⟨RX6, "tell", "(I)I"⟩
abbrev cX6_sound : ByteArray := prog_8_method_61_code
def yX6_sound : MethodName := ⟨RX6, "sound", "(I)I"⟩
abbrev cX6_as : ByteArray := prog_8_method_62_code
def yX6_as : MethodName := ⟨RX6, "as", "(II)I"⟩
abbrev cX6_trace : ByteArray := prog_8_method_63_code
def yX6_trace : MethodName := ⟨RX6, "trace", "()I"⟩
abbrev cX6_fault : ByteArray := prog_8_method_64_code
def yX6_fault : MethodName := ⟨RX6, "fault", "()I"⟩
abbrev cX6_sizeOf : ByteArray := prog_8_method_65_code
def yX6_sizeOf : MethodName := ⟨RX6, "sizeOf", "(I)I"⟩
abbrev cX6_many : ByteArray := prog_8_method_66_code
def yX6_many : MethodName := ⟨RX6, "many", "(I)I"⟩
def RJ6 : String := "java/lang/Integer"
def TJ6 : u_T := fun k => match k with
  | _ => ("", "", "", false)
def tyJ6 : Nat → FieldType := fun k => match k with
  | _ => .int
abbrev wsJ60 : List Cond := u_ws RJ6 TJ6 0
theorem nmJ6 : ∀ a, a < 0 → ∀ b, b < 0 → a ≠ b → (TJ6 a).2.1 ≠ (TJ6 b).2.1 := by decide +kernel
theorem tyJ6_ok : ∀ k, k < 0 → parseFieldDescriptor (TJ6 k).2.2.1 = some (tyJ6 k) := by decide +kernel
abbrev cJ6_bitCount_0f7a4 : ByteArray := prog_9_method_49_code
def yJ6_bitCount_0f7a4 : MethodName := ⟨RJ6, "bitCount", "(I)I"⟩
def RJ9 : String := "java/lang/Math"
def TJ9 : u_T := fun k => match k with
  | _ => ("", "", "", false)
def tyJ9 : Nat → FieldType := fun k => match k with
  | _ => .int
abbrev wsJ90 : List Cond := u_ws RJ9 TJ9 0
theorem nmJ9 : ∀ a, a < 0 → ∀ b, b < 0 → a ≠ b → (TJ9 a).2.1 ≠ (TJ9 b).2.1 := by decide +kernel
theorem tyJ9_ok : ∀ k, k < 0 → parseFieldDescriptor (TJ9 k).2.2.1 = some (tyJ9 k) := by decide +kernel
abbrev cJ9_abs_0f7a4 : ByteArray := prog_10_method_59_code
def yJ9_abs_0f7a4 : MethodName := ⟨RJ9, "abs", "(I)I"⟩
abbrev cJ9_max_7cf53 : ByteArray := prog_10_method_65_code
def yJ9_max_7cf53 : MethodName := ⟨RJ9, "max", "(II)I"⟩
abbrev cJ9_min_7cf53 : ByteArray := prog_10_method_69_code
def yJ9_min_7cf53 : MethodName := ⟨RJ9, "min", "(II)I"⟩
def RJ10 : String := "java/lang/System"
def TJ10 : u_T := fun k => match k with
  | _ => ("", "", "", false)
def tyJ10 : Nat → FieldType := fun k => match k with
  | _ => .int
abbrev wsJ100 : List Cond := u_ws RJ10 TJ10 0
theorem nmJ10 : ∀ a, a < 0 → ∀ b, b < 0 → a ≠ b → (TJ10 a).2.1 ≠ (TJ10 b).2.1 := by decide +kernel
theorem tyJ10_ok : ∀ k, k < 0 → parseFieldDescriptor (TJ10 k).2.2.1 = some (tyJ10 k) := by decide +kernel
def RJ7 : String := "java/util/Arrays"
def TJ7 : u_T := fun k => match k with
  | _ => ("", "", "", false)
def tyJ7 : Nat → FieldType := fun k => match k with
  | _ => .int
abbrev wsJ70 : List Cond := u_ws RJ7 TJ7 0
theorem nmJ7 : ∀ a, a < 0 → ∀ b, b < 0 → a ≠ b → (TJ7 a).2.1 ≠ (TJ7 b).2.1 := by decide +kernel
theorem tyJ7_ok : ∀ k, k < 0 → parseFieldDescriptor (TJ7 k).2.2.1 = some (tyJ7 k) := by decide +kernel
abbrev cJ7_fill_53178 : ByteArray := prog_12_method_103_code
def yJ7_fill_53178 : MethodName := ⟨RJ7, "fill", "([II)V"⟩
def RL : String := "BallastStepsLaw"
abbrev cL_law : ByteArray := code
def yL_law : MethodName := ⟨RL, "law", "([I)Z"⟩
def lw_gd : List Cond := lw_tbl.filter goodWord
theorem gd_at {w : Cond} (i : Nat) (h : lw_tbl[i]? = some w) (g : goodWord w = true) : w ∈ lw_gd := List.mem_filter.mpr ⟨List.mem_of_getElem? h, g⟩
theorem gd_good : GoodIn lw_gd lw_gd := fun w h => ⟨h, good_of_word (List.mem_filter.mp h).2⟩
end
section
theorem w_44 : Cond.initialized "BallastStepsLaw" ∈ lw_gd := gd_at 44 (by decide +kernel) (by decide +kernel)
theorem w_45 : Cond.initialized "BallastSteps" ∈ lw_gd := gd_at 45 (by decide +kernel) (by decide +kernel)
theorem w_46 : Cond.initialized "BallastSteps$Ship" ∈ lw_gd := gd_at 46 (by decide +kernel) (by decide +kernel)
theorem w_47 : Cond.initialized "BallastSteps$Load" ∈ lw_gd := gd_at 47 (by decide +kernel) (by decide +kernel)
theorem w_48 : Cond.initialized "BallastSteps$Tank" ∈ lw_gd := gd_at 48 (by decide +kernel) (by decide +kernel)
theorem w_49 : Cond.initialized "BallastSteps$Search" ∈ lw_gd := gd_at 49 (by decide +kernel) (by decide +kernel)
theorem w_50 : Cond.initialized "BallastSteps$Row" ∈ lw_gd := gd_at 50 (by decide +kernel) (by decide +kernel)
theorem w_51 : Cond.initialized "BallastStepsModel" ∈ lw_gd := gd_at 51 (by decide +kernel) (by decide +kernel)
theorem w_52 : Cond.initialized "java/lang/Math" ∈ lw_gd := gd_at 52 (by decide +kernel) (by decide +kernel)
theorem w_53 : Cond.initialized "java/util/Arrays" ∈ lw_gd := gd_at 53 (by decide +kernel) (by decide +kernel)
theorem w_54 : Cond.initialized "java/lang/Integer" ∈ lw_gd := gd_at 54 (by decide +kernel) (by decide +kernel)
theorem w_55 : Cond.initialized "java/lang/System" ∈ lw_gd := gd_at 55 (by decide +kernel) (by decide +kernel)
theorem w_56 : Cond.classLink "BallastStepsLaw" 7 "BallastSteps" ∈ lw_gd := gd_at 56 (by decide +kernel) (by decide +kernel)
theorem w_57 : Cond.instantiable "BallastSteps" 7 ∈ lw_gd := gd_at 57 (by decide +kernel) (by decide +kernel)
theorem w_58 : Cond.methodLink "BallastStepsLaw" 9 yX5_init ∈ lw_gd := gd_at 58 (by decide +kernel) (by decide +kernel)
theorem w_59 : Cond.instanceMethod yX5_init ∈ lw_gd := gd_at 59 (by decide +kernel) (by decide +kernel)
theorem w_60 : Cond.code yX5_init prog_1_method_1_code 2 (none : Option FieldType) ∈ lw_gd := gd_at 60 (by decide +kernel) (by decide +kernel)
theorem w_61 : Cond.methodLink "BallastSteps" 5 ({ cls := "java/lang/Object", name := "<init>", desc := "()V" } : Jvm.MethodName) ∈ lw_gd := gd_at 61 (by decide +kernel) (by decide +kernel)
theorem w_62 : Cond.instanceMethod ({ cls := "java/lang/Object", name := "<init>", desc := "()V" } : Jvm.MethodName) ∈ lw_gd := gd_at 62 (by decide +kernel) (by decide +kernel)
theorem w_63 : Cond.code ({ cls := "java/lang/Object", name := "<init>", desc := "()V" } : Jvm.MethodName) object_method_1_code 1 (none : Option FieldType) ∈ lw_gd := gd_at 63 (by decide +kernel) (by decide +kernel)
theorem w_64 : Cond.classLink "BallastSteps" 11 "BallastSteps$Row" ∈ lw_gd := gd_at 64 (by decide +kernel) (by decide +kernel)
theorem w_66 : Cond.classLink "BallastSteps" 17 "BallastSteps$Ship" ∈ lw_gd := gd_at 66 (by decide +kernel) (by decide +kernel)
theorem w_67 : Cond.instantiable "BallastSteps$Ship" 7 ∈ lw_gd := gd_at 67 (by decide +kernel) (by decide +kernel)
theorem w_68 : Cond.methodLink "BallastSteps" 19 yX3_init ∈ lw_gd := gd_at 68 (by decide +kernel) (by decide +kernel)
theorem w_69 : Cond.instanceMethod yX3_init ∈ lw_gd := gd_at 69 (by decide +kernel) (by decide +kernel)
theorem w_70 : Cond.code yX3_init prog_5_method_1_code 2 (none : Option FieldType) ∈ lw_gd := gd_at 70 (by decide +kernel) (by decide +kernel)
theorem w_71 : Cond.methodLink "BallastSteps$Ship" 3 ({ cls := "java/lang/Object", name := "<init>", desc := "()V" } : Jvm.MethodName) ∈ lw_gd := gd_at 71 (by decide +kernel) (by decide +kernel)
theorem w_72 : Cond.classLink "BallastSteps$Ship" 9 "BallastSteps$Tank" ∈ lw_gd := gd_at 72 (by decide +kernel) (by decide +kernel)
theorem w_74 : Cond.classLink "BallastSteps$Ship" 21 "BallastSteps$Load" ∈ lw_gd := gd_at 74 (by decide +kernel) (by decide +kernel)
theorem w_75 : Cond.instantiable "BallastSteps$Load" 4 ∈ lw_gd := gd_at 75 (by decide +kernel) (by decide +kernel)
theorem w_77 : Cond.instanceMethod yX0_init ∈ lw_gd := gd_at 77 (by decide +kernel) (by decide +kernel)
theorem w_78 : Cond.code yX0_init prog_2_method_1_code 1 (none : Option FieldType) ∈ lw_gd := gd_at 78 (by decide +kernel) (by decide +kernel)
theorem w_79 : Cond.methodLink "BallastSteps$Load" 3 ({ cls := "java/lang/Object", name := "<init>", desc := "()V" } : Jvm.MethodName) ∈ lw_gd := gd_at 79 (by decide +kernel) (by decide +kernel)
theorem w_80 : Cond.fieldLink "BallastSteps$Load" 9 "BallastSteps$Load" "inFrame" "[I" ∈ lw_gd := gd_at 80 (by decide +kernel) (by decide +kernel)
theorem w_81 : Cond.fieldLink "BallastSteps$Load" 15 "BallastSteps$Load" "total" "I" ∈ lw_gd := gd_at 81 (by decide +kernel) (by decide +kernel)
theorem w_82 : Cond.fieldLink "BallastSteps$Load" 19 "BallastSteps$Load" "trim" "I" ∈ lw_gd := gd_at 82 (by decide +kernel) (by decide +kernel)
theorem w_85 : Cond.fieldLink "BallastSteps$Load" 22 "BallastSteps$Load" "heel" "I" ∈ lw_gd := gd_at 85 (by decide +kernel) (by decide +kernel)
theorem w_87 : Cond.laysFinal "BallastSteps$Load" "BallastSteps$Load" "inFrame" "[I" ∈ lw_gd := gd_at 87 (by decide +kernel) (by decide +kernel)
theorem w_89 : Cond.lays "BallastSteps$Load" "BallastSteps$Load" "total" "I" ∈ lw_gd := gd_at 89 (by decide +kernel) (by decide +kernel)
theorem w_91 : Cond.lays "BallastSteps$Load" "BallastSteps$Load" "trim" "I" ∈ lw_gd := gd_at 91 (by decide +kernel) (by decide +kernel)
theorem w_93 : Cond.lays "BallastSteps$Load" "BallastSteps$Load" "heel" "I" ∈ lw_gd := gd_at 93 (by decide +kernel) (by decide +kernel)
theorem w_96 : Cond.arrayClass FieldType.int ∈ lw_gd := gd_at 96 (by decide +kernel) (by decide +kernel)
theorem w_97 : Cond.instantiable "BallastSteps$Tank" 4 ∈ lw_gd := gd_at 97 (by decide +kernel) (by decide +kernel)
theorem w_99 : Cond.instanceMethod yX4_init ∈ lw_gd := gd_at 99 (by decide +kernel) (by decide +kernel)
theorem w_100 : Cond.code yX4_init prog_6_method_1_code 1 (none : Option FieldType) ∈ lw_gd := gd_at 100 (by decide +kernel) (by decide +kernel)
theorem w_101 : Cond.methodLink "BallastSteps$Tank" 3 ({ cls := "java/lang/Object", name := "<init>", desc := "()V" } : Jvm.MethodName) ∈ lw_gd := gd_at 101 (by decide +kernel) (by decide +kernel)
theorem w_102 : Cond.fieldLink "BallastSteps$Tank" 9 "BallastSteps$Tank" "kind" "I" ∈ lw_gd := gd_at 102 (by decide +kernel) (by decide +kernel)
theorem w_105 : Cond.fieldLink "BallastSteps$Tank" 15 "BallastSteps$Tank" "frame" "I" ∈ lw_gd := gd_at 105 (by decide +kernel) (by decide +kernel)
theorem w_109 : Cond.fieldLink "BallastSteps$Tank" 18 "BallastSteps$Tank" "side" "I" ∈ lw_gd := gd_at 109 (by decide +kernel) (by decide +kernel)
theorem w_113 : Cond.fieldLink "BallastSteps$Tank" 21 "BallastSteps$Tank" "mass" "I" ∈ lw_gd := gd_at 113 (by decide +kernel) (by decide +kernel)
theorem w_116 : Cond.lays "BallastSteps$Tank" "BallastSteps$Tank" "kind" "I" ∈ lw_gd := gd_at 116 (by decide +kernel) (by decide +kernel)
theorem w_118 : Cond.lays "BallastSteps$Tank" "BallastSteps$Tank" "frame" "I" ∈ lw_gd := gd_at 118 (by decide +kernel) (by decide +kernel)
theorem w_120 : Cond.lays "BallastSteps$Tank" "BallastSteps$Tank" "side" "I" ∈ lw_gd := gd_at 120 (by decide +kernel) (by decide +kernel)
theorem w_122 : Cond.lays "BallastSteps$Tank" "BallastSteps$Tank" "mass" "I" ∈ lw_gd := gd_at 122 (by decide +kernel) (by decide +kernel)
theorem w_125 : Cond.fieldLink "BallastSteps$Ship" 11 "BallastSteps$Ship" "tanks" "[LBallastSteps$Tank;" ∈ lw_gd := gd_at 125 (by decide +kernel) (by decide +kernel)
theorem w_127 : Cond.fieldLink "BallastSteps$Ship" 17 "BallastSteps$Ship" "bounds" "[I" ∈ lw_gd := gd_at 127 (by decide +kernel) (by decide +kernel)
theorem w_129 : Cond.fieldLink "BallastSteps$Ship" 24 "BallastSteps$Ship" "load" "LBallastSteps$Load;" ∈ lw_gd := gd_at 129 (by decide +kernel) (by decide +kernel)
theorem w_130 : Cond.fieldLink "BallastSteps$Ship" 28 "BallastSteps$Ship" "count" "I" ∈ lw_gd := gd_at 130 (by decide +kernel) (by decide +kernel)
theorem w_133 : Cond.fieldLink "BallastSteps$Ship" 32 "BallastSteps$Ship" "waters" "I" ∈ lw_gd := gd_at 133 (by decide +kernel) (by decide +kernel)
theorem w_136 : Cond.fieldLink "BallastSteps$Ship" 35 "BallastSteps$Ship" "working" "I" ∈ lw_gd := gd_at 136 (by decide +kernel) (by decide +kernel)
theorem w_139 : Cond.fieldLink "BallastSteps$Ship" 38 "BallastSteps$Ship" "dueSet" "I" ∈ lw_gd := gd_at 139 (by decide +kernel) (by decide +kernel)
theorem w_141 : Cond.laysFinal "BallastSteps$Ship" "BallastSteps$Ship" "tanks" "[LBallastSteps$Tank;" ∈ lw_gd := gd_at 141 (by decide +kernel) (by decide +kernel)
theorem w_143 : Cond.laysFinal "BallastSteps$Ship" "BallastSteps$Ship" "bounds" "[I" ∈ lw_gd := gd_at 143 (by decide +kernel) (by decide +kernel)
theorem w_145 : Cond.laysFinal "BallastSteps$Ship" "BallastSteps$Ship" "load" "LBallastSteps$Load;" ∈ lw_gd := gd_at 145 (by decide +kernel) (by decide +kernel)
theorem w_147 : Cond.lays "BallastSteps$Ship" "BallastSteps$Ship" "count" "I" ∈ lw_gd := gd_at 147 (by decide +kernel) (by decide +kernel)
theorem w_149 : Cond.lays "BallastSteps$Ship" "BallastSteps$Ship" "waters" "I" ∈ lw_gd := gd_at 149 (by decide +kernel) (by decide +kernel)
theorem w_151 : Cond.lays "BallastSteps$Ship" "BallastSteps$Ship" "working" "I" ∈ lw_gd := gd_at 151 (by decide +kernel) (by decide +kernel)
theorem w_153 : Cond.lays "BallastSteps$Ship" "BallastSteps$Ship" "dueSet" "I" ∈ lw_gd := gd_at 153 (by decide +kernel) (by decide +kernel)
theorem w_156 : Cond.classLink "BallastSteps" 24 "BallastSteps$Search" ∈ lw_gd := gd_at 156 (by decide +kernel) (by decide +kernel)
theorem w_157 : Cond.instantiable "BallastSteps$Search" 10 ∈ lw_gd := gd_at 157 (by decide +kernel) (by decide +kernel)
theorem w_159 : Cond.instanceMethod yX2_init ∈ lw_gd := gd_at 159 (by decide +kernel) (by decide +kernel)
theorem w_160 : Cond.code yX2_init prog_4_method_1_code 1 (none : Option FieldType) ∈ lw_gd := gd_at 160 (by decide +kernel) (by decide +kernel)
theorem w_161 : Cond.methodLink "BallastSteps$Search" 3 ({ cls := "java/lang/Object", name := "<init>", desc := "()V" } : Jvm.MethodName) ∈ lw_gd := gd_at 161 (by decide +kernel) (by decide +kernel)
theorem w_162 : Cond.fieldLink "BallastSteps$Search" 9 "BallastSteps$Search" "queue" "[I" ∈ lw_gd := gd_at 162 (by decide +kernel) (by decide +kernel)
theorem w_163 : Cond.fieldLink "BallastSteps$Search" 15 "BallastSteps$Search" "steps" "[I" ∈ lw_gd := gd_at 163 (by decide +kernel) (by decide +kernel)
theorem w_164 : Cond.fieldLink "BallastSteps$Search" 18 "BallastSteps$Search" "before" "[I" ∈ lw_gd := gd_at 164 (by decide +kernel) (by decide +kernel)
theorem w_165 : Cond.fieldLink "BallastSteps$Search" 21 "BallastSteps$Search" "lastTank" "[I" ∈ lw_gd := gd_at 165 (by decide +kernel) (by decide +kernel)
theorem w_166 : Cond.fieldLink "BallastSteps$Search" 24 "BallastSteps$Search" "ways" "[J" ∈ lw_gd := gd_at 166 (by decide +kernel) (by decide +kernel)
theorem w_167 : Cond.fieldLink "BallastSteps$Search" 28 "BallastSteps$Search" "safe" "[Z" ∈ lw_gd := gd_at 167 (by decide +kernel) (by decide +kernel)
theorem w_168 : Cond.fieldLink "BallastSteps$Search" 32 "BallastSteps$Search" "pumpable" "[I" ∈ lw_gd := gd_at 168 (by decide +kernel) (by decide +kernel)
theorem w_169 : Cond.fieldLink "BallastSteps$Search" 35 "BallastSteps$Search" "isFresh" "Z" ∈ lw_gd := gd_at 169 (by decide +kernel) (by decide +kernel)
theorem w_170 : Cond.fieldLink "BallastSteps$Search" 39 "BallastSteps$Search" "reached" "I" ∈ lw_gd := gd_at 170 (by decide +kernel) (by decide +kernel)
theorem w_172 : Cond.fieldLink "BallastSteps$Search" 43 "BallastSteps$Search" "end" "I" ∈ lw_gd := gd_at 172 (by decide +kernel) (by decide +kernel)
theorem w_173 : Cond.laysFinal "BallastSteps$Search" "BallastSteps$Search" "queue" "[I" ∈ lw_gd := gd_at 173 (by decide +kernel) (by decide +kernel)
theorem w_175 : Cond.laysFinal "BallastSteps$Search" "BallastSteps$Search" "steps" "[I" ∈ lw_gd := gd_at 175 (by decide +kernel) (by decide +kernel)
theorem w_177 : Cond.laysFinal "BallastSteps$Search" "BallastSteps$Search" "before" "[I" ∈ lw_gd := gd_at 177 (by decide +kernel) (by decide +kernel)
theorem w_179 : Cond.laysFinal "BallastSteps$Search" "BallastSteps$Search" "lastTank" "[I" ∈ lw_gd := gd_at 179 (by decide +kernel) (by decide +kernel)
theorem w_181 : Cond.laysFinal "BallastSteps$Search" "BallastSteps$Search" "ways" "[J" ∈ lw_gd := gd_at 181 (by decide +kernel) (by decide +kernel)
theorem w_183 : Cond.laysFinal "BallastSteps$Search" "BallastSteps$Search" "safe" "[Z" ∈ lw_gd := gd_at 183 (by decide +kernel) (by decide +kernel)
theorem w_185 : Cond.laysFinal "BallastSteps$Search" "BallastSteps$Search" "pumpable" "[I" ∈ lw_gd := gd_at 185 (by decide +kernel) (by decide +kernel)
theorem w_187 : Cond.lays "BallastSteps$Search" "BallastSteps$Search" "isFresh" "Z" ∈ lw_gd := gd_at 187 (by decide +kernel) (by decide +kernel)
theorem w_189 : Cond.lays "BallastSteps$Search" "BallastSteps$Search" "reached" "I" ∈ lw_gd := gd_at 189 (by decide +kernel) (by decide +kernel)
theorem w_191 : Cond.lays "BallastSteps$Search" "BallastSteps$Search" "end" "I" ∈ lw_gd := gd_at 191 (by decide +kernel) (by decide +kernel)
theorem w_194 : Cond.arrayClass FieldType.long ∈ lw_gd := gd_at 194 (by decide +kernel) (by decide +kernel)
theorem w_195 : Cond.arrayClass FieldType.boolean ∈ lw_gd := gd_at 195 (by decide +kernel) (by decide +kernel)
theorem w_196 : Cond.instantiable "BallastSteps$Row" 3 ∈ lw_gd := gd_at 196 (by decide +kernel) (by decide +kernel)
theorem w_198 : Cond.instanceMethod yX1_init ∈ lw_gd := gd_at 198 (by decide +kernel) (by decide +kernel)
theorem w_199 : Cond.code yX1_init prog_3_method_1_code 1 (none : Option FieldType) ∈ lw_gd := gd_at 199 (by decide +kernel) (by decide +kernel)
theorem w_200 : Cond.methodLink "BallastSteps$Row" 3 ({ cls := "java/lang/Object", name := "<init>", desc := "()V" } : Jvm.MethodName) ∈ lw_gd := gd_at 200 (by decide +kernel) (by decide +kernel)
theorem w_201 : Cond.fieldLink "BallastSteps$Row" 9 "BallastSteps$Row" "cells" "[I" ∈ lw_gd := gd_at 201 (by decide +kernel) (by decide +kernel)
theorem w_204 : Cond.fieldLink "BallastSteps$Row" 15 "BallastSteps$Row" "lane" "I" ∈ lw_gd := gd_at 204 (by decide +kernel) (by decide +kernel)
theorem w_206 : Cond.fieldLink "BallastSteps$Row" 19 "BallastSteps$Row" "length" "I" ∈ lw_gd := gd_at 206 (by decide +kernel) (by decide +kernel)
theorem w_207 : Cond.laysFinal "BallastSteps$Row" "BallastSteps$Row" "cells" "[I" ∈ lw_gd := gd_at 207 (by decide +kernel) (by decide +kernel)
theorem w_209 : Cond.lays "BallastSteps$Row" "BallastSteps$Row" "lane" "I" ∈ lw_gd := gd_at 209 (by decide +kernel) (by decide +kernel)
theorem w_211 : Cond.lays "BallastSteps$Row" "BallastSteps$Row" "length" "I" ∈ lw_gd := gd_at 211 (by decide +kernel) (by decide +kernel)
theorem w_214 : Cond.fieldLink "BallastSteps" 13 "BallastSteps" "rows" "[LBallastSteps$Row;" ∈ lw_gd := gd_at 214 (by decide +kernel) (by decide +kernel)
theorem w_215 : Cond.fieldLink "BallastSteps" 20 "BallastSteps" "vessel" "LBallastSteps$Ship;" ∈ lw_gd := gd_at 215 (by decide +kernel) (by decide +kernel)
theorem w_216 : Cond.fieldLink "BallastSteps" 27 "BallastSteps" "search" "LBallastSteps$Search;" ∈ lw_gd := gd_at 216 (by decide +kernel) (by decide +kernel)
theorem w_217 : Cond.fieldLink "BallastSteps" 31 "BallastSteps" "readings" "[I" ∈ lw_gd := gd_at 217 (by decide +kernel) (by decide +kernel)
theorem w_218 : Cond.fieldLink "BallastSteps" 35 "BallastSteps" "readingCount" "I" ∈ lw_gd := gd_at 218 (by decide +kernel) (by decide +kernel)
theorem w_219 : Cond.fieldLink "BallastSteps" 39 "BallastSteps" "traced" "I" ∈ lw_gd := gd_at 219 (by decide +kernel) (by decide +kernel)
theorem w_220 : Cond.fieldLink "BallastSteps" 42 "BallastSteps" "latestFault" "I" ∈ lw_gd := gd_at 220 (by decide +kernel) (by decide +kernel)
theorem w_221 : Cond.laysFinal "BallastSteps" "BallastSteps" "rows" "[LBallastSteps$Row;" ∈ lw_gd := gd_at 221 (by decide +kernel) (by decide +kernel)
theorem w_223 : Cond.laysFinal "BallastSteps" "BallastSteps" "vessel" "LBallastSteps$Ship;" ∈ lw_gd := gd_at 223 (by decide +kernel) (by decide +kernel)
theorem w_225 : Cond.laysFinal "BallastSteps" "BallastSteps" "search" "LBallastSteps$Search;" ∈ lw_gd := gd_at 225 (by decide +kernel) (by decide +kernel)
theorem w_227 : Cond.laysFinal "BallastSteps" "BallastSteps" "readings" "[I" ∈ lw_gd := gd_at 227 (by decide +kernel) (by decide +kernel)
theorem w_229 : Cond.lays "BallastSteps" "BallastSteps" "readingCount" "I" ∈ lw_gd := gd_at 229 (by decide +kernel) (by decide +kernel)
theorem w_231 : Cond.lays "BallastSteps" "BallastSteps" "traced" "I" ∈ lw_gd := gd_at 231 (by decide +kernel) (by decide +kernel)
theorem w_233 : Cond.lays "BallastSteps" "BallastSteps" "latestFault" "I" ∈ lw_gd := gd_at 233 (by decide +kernel) (by decide +kernel)
theorem w_236 : Cond.methodLink "BallastStepsLaw" 13 yX5_ship ∈ lw_gd := gd_at 236 (by decide +kernel) (by decide +kernel)
theorem w_237 : Cond.instanceMethod yX5_ship ∈ lw_gd := gd_at 237 (by decide +kernel) (by decide +kernel)
theorem w_238 : Cond.selects "BallastSteps" yX5_ship yX5_ship ∈ lw_gd := gd_at 238 (by decide +kernel) (by decide +kernel)
theorem w_239 : Cond.code yX5_ship prog_1_method_2_code 8 (some FieldType.int) ∈ lw_gd := gd_at 239 (by decide +kernel) (by decide +kernel)
theorem w_240 : Cond.methodLink "BallastSteps" 46 yX5_isSheet ∈ lw_gd := gd_at 240 (by decide +kernel) (by decide +kernel)
theorem w_241 : Cond.static yX5_isSheet ∈ lw_gd := gd_at 241 (by decide +kernel) (by decide +kernel)
theorem w_242 : Cond.code yX5_isSheet prog_1_method_32_code 1 (some FieldType.boolean) ∈ lw_gd := gd_at 242 (by decide +kernel) (by decide +kernel)
theorem w_243 : Cond.methodLink "BallastSteps" 50 yX5_isLane ∈ lw_gd := gd_at 243 (by decide +kernel) (by decide +kernel)
theorem w_244 : Cond.static yX5_isLane ∈ lw_gd := gd_at 244 (by decide +kernel) (by decide +kernel)
theorem w_245 : Cond.code yX5_isLane prog_1_method_33_code 1 (some FieldType.boolean) ∈ lw_gd := gd_at 245 (by decide +kernel) (by decide +kernel)
theorem w_246 : Cond.methodLink "BallastSteps" 53 yX1_faultAs ∈ lw_gd := gd_at 246 (by decide +kernel) (by decide +kernel)
theorem w_247 : Cond.instanceMethod yX1_faultAs ∈ lw_gd := gd_at 247 (by decide +kernel) (by decide +kernel)
theorem w_248 : Cond.selects "BallastSteps$Row" yX1_faultAs yX1_faultAs ∈ lw_gd := gd_at 248 (by decide +kernel) (by decide +kernel)
theorem w_249 : Cond.code yX1_faultAs prog_3_method_5_code 2 (some FieldType.int) ∈ lw_gd := gd_at 249 (by decide +kernel) (by decide +kernel)
theorem w_250 : Cond.methodLink "BallastSteps$Row" 28 yX1_isNothing ∈ lw_gd := gd_at 250 (by decide +kernel) (by decide +kernel)
theorem w_251 : Cond.instanceMethod yX1_isNothing ∈ lw_gd := gd_at 251 (by decide +kernel) (by decide +kernel)
theorem w_252 : Cond.selects "BallastSteps$Row" yX1_isNothing yX1_isNothing ∈ lw_gd := gd_at 252 (by decide +kernel) (by decide +kernel)
theorem w_253 : Cond.code yX1_isNothing prog_3_method_2_code 1 (some FieldType.boolean) ∈ lw_gd := gd_at 253 (by decide +kernel) (by decide +kernel)
theorem w_254 : Cond.methodLink "BallastSteps" 57 yX1_hasCells ∈ lw_gd := gd_at 254 (by decide +kernel) (by decide +kernel)
theorem w_255 : Cond.instanceMethod yX1_hasCells ∈ lw_gd := gd_at 255 (by decide +kernel) (by decide +kernel)
theorem w_256 : Cond.selects "BallastSteps$Row" yX1_hasCells yX1_hasCells ∈ lw_gd := gd_at 256 (by decide +kernel) (by decide +kernel)
theorem w_257 : Cond.code yX1_hasCells prog_3_method_6_code 3 (some FieldType.boolean) ∈ lw_gd := gd_at 257 (by decide +kernel) (by decide +kernel)
theorem w_258 : Cond.methodLink "BallastSteps" 61 yX5_faulted ∈ lw_gd := gd_at 258 (by decide +kernel) (by decide +kernel)
theorem w_260 : Cond.instanceMethod yX5_faulted ∈ lw_gd := gd_at 260 (by decide +kernel) (by decide +kernel)
theorem w_261 : Cond.code yX5_faulted prog_1_method_37_code 2 (some FieldType.int) ∈ lw_gd := gd_at 261 (by decide +kernel) (by decide +kernel)
theorem w_262 : Cond.methodLink "BallastSteps" 64 yX5_firstFault ∈ lw_gd := gd_at 262 (by decide +kernel) (by decide +kernel)
theorem w_263 : Cond.static yX5_firstFault ∈ lw_gd := gd_at 263 (by decide +kernel) (by decide +kernel)
theorem w_264 : Cond.code yX5_firstFault prog_1_method_39_code 4 (some FieldType.int) ∈ lw_gd := gd_at 264 (by decide +kernel) (by decide +kernel)
theorem w_265 : Cond.methodLink "BallastSteps" 258 yX5_goesOn ∈ lw_gd := gd_at 265 (by decide +kernel) (by decide +kernel)
theorem w_266 : Cond.static yX5_goesOn ∈ lw_gd := gd_at 266 (by decide +kernel) (by decide +kernel)
theorem w_267 : Cond.code yX5_goesOn prog_1_method_40_code 2 (some FieldType.boolean) ∈ lw_gd := gd_at 267 (by decide +kernel) (by decide +kernel)
theorem w_268 : Cond.methodLink "BallastSteps" 261 yX5_kindOf ∈ lw_gd := gd_at 268 (by decide +kernel) (by decide +kernel)
theorem w_269 : Cond.static yX5_kindOf ∈ lw_gd := gd_at 269 (by decide +kernel) (by decide +kernel)
theorem w_270 : Cond.code yX5_kindOf prog_1_method_41_code 1 (some FieldType.int) ∈ lw_gd := gd_at 270 (by decide +kernel) (by decide +kernel)
theorem w_271 : Cond.methodLink "BallastSteps" 264 yX5_sideOf ∈ lw_gd := gd_at 271 (by decide +kernel) (by decide +kernel)
theorem w_272 : Cond.static yX5_sideOf ∈ lw_gd := gd_at 272 (by decide +kernel) (by decide +kernel)
theorem w_273 : Cond.code yX5_sideOf prog_1_method_42_code 1 (some FieldType.int) ∈ lw_gd := gd_at 273 (by decide +kernel) (by decide +kernel)
theorem w_274 : Cond.methodLink "BallastSteps" 68 yX3_build ∈ lw_gd := gd_at 274 (by decide +kernel) (by decide +kernel)
theorem w_275 : Cond.instanceMethod yX3_build ∈ lw_gd := gd_at 275 (by decide +kernel) (by decide +kernel)
theorem w_276 : Cond.selects "BallastSteps$Ship" yX3_build yX3_build ∈ lw_gd := gd_at 276 (by decide +kernel) (by decide +kernel)
theorem w_277 : Cond.code yX3_build prog_5_method_2_code 6 (none : Option FieldType) ∈ lw_gd := gd_at 277 (by decide +kernel) (by decide +kernel)
theorem w_278 : Cond.methodLink "BallastSteps$Ship" 42 yJ9_min_7cf53 ∈ lw_gd := gd_at 278 (by decide +kernel) (by decide +kernel)
theorem w_279 : Cond.static yJ9_min_7cf53 ∈ lw_gd := gd_at 279 (by decide +kernel) (by decide +kernel)
theorem w_280 : Cond.code yJ9_min_7cf53 prog_10_method_69_code 2 (some FieldType.int) ∈ lw_gd := gd_at 280 (by decide +kernel) (by decide +kernel)
theorem w_285 : Cond.methodLink "BallastSteps$Ship" 75 yX3_fullSet ∈ lw_gd := gd_at 285 (by decide +kernel) (by decide +kernel)
theorem w_286 : Cond.instanceMethod yX3_fullSet ∈ lw_gd := gd_at 286 (by decide +kernel) (by decide +kernel)
theorem w_287 : Cond.selects "BallastSteps$Ship" yX3_fullSet yX3_fullSet ∈ lw_gd := gd_at 287 (by decide +kernel) (by decide +kernel)
theorem w_288 : Cond.code yX3_fullSet prog_5_method_3_code 4 (some FieldType.int) ∈ lw_gd := gd_at 288 (by decide +kernel) (by decide +kernel)
theorem w_290 : Cond.static yX5_waterIn ∈ lw_gd := gd_at 290 (by decide +kernel) (by decide +kernel)
theorem w_291 : Cond.code yX5_waterIn prog_1_method_43_code 2 (some FieldType.int) ∈ lw_gd := gd_at 291 (by decide +kernel) (by decide +kernel)
theorem w_292 : Cond.fieldLink "BallastSteps" 267 "BallastSteps" "POWERS_OF_3" "[I" ∈ lw_gd := gd_at 292 (by decide +kernel) (by decide +kernel)
theorem w_293 : Cond.methodLink "BallastSteps$Ship" 78 yJ7_fill_53178 ∈ lw_gd := gd_at 293 (by decide +kernel) (by decide +kernel)
theorem w_294 : Cond.static yJ7_fill_53178 ∈ lw_gd := gd_at 294 (by decide +kernel) (by decide +kernel)
theorem w_295 : Cond.code yJ7_fill_53178 prog_12_method_103_code 4 (none : Option FieldType) ∈ lw_gd := gd_at 295 (by decide +kernel) (by decide +kernel)
theorem w_296 : Cond.methodLink "BallastSteps" 72 yX2_forget ∈ lw_gd := gd_at 296 (by decide +kernel) (by decide +kernel)
theorem w_297 : Cond.instanceMethod yX2_forget ∈ lw_gd := gd_at 297 (by decide +kernel) (by decide +kernel)
theorem w_298 : Cond.selects "BallastSteps$Search" yX2_forget yX2_forget ∈ lw_gd := gd_at 298 (by decide +kernel) (by decide +kernel)
theorem w_299 : Cond.code yX2_forget prog_4_method_2_code 1 (none : Option FieldType) ∈ lw_gd := gd_at 299 (by decide +kernel) (by decide +kernel)
theorem w_300 : Cond.methodLink "BallastStepsLaw" 18 yX5_ofTank ∈ lw_gd := gd_at 300 (by decide +kernel) (by decide +kernel)
theorem w_301 : Cond.instanceMethod yX5_ofTank ∈ lw_gd := gd_at 301 (by decide +kernel) (by decide +kernel)
theorem w_302 : Cond.selects "BallastSteps" yX5_ofTank yX5_ofTank ∈ lw_gd := gd_at 302 (by decide +kernel) (by decide +kernel)
theorem w_303 : Cond.code yX5_ofTank prog_1_method_3_code 4 (some FieldType.int) ∈ lw_gd := gd_at 303 (by decide +kernel) (by decide +kernel)
theorem w_304 : Cond.methodLink "BallastSteps" 78 yX5_isTank ∈ lw_gd := gd_at 304 (by decide +kernel) (by decide +kernel)
theorem w_306 : Cond.instanceMethod yX5_isTank ∈ lw_gd := gd_at 306 (by decide +kernel) (by decide +kernel)
theorem w_307 : Cond.code yX5_isTank prog_1_method_35_code 2 (some FieldType.boolean) ∈ lw_gd := gd_at 307 (by decide +kernel) (by decide +kernel)
theorem w_308 : Cond.methodLink "BallastSteps" 99 yX4_weight ∈ lw_gd := gd_at 308 (by decide +kernel) (by decide +kernel)
theorem w_309 : Cond.instanceMethod yX4_weight ∈ lw_gd := gd_at 309 (by decide +kernel) (by decide +kernel)
theorem w_310 : Cond.selects "BallastSteps$Tank" yX4_weight yX4_weight ∈ lw_gd := gd_at 310 (by decide +kernel) (by decide +kernel)
theorem w_311 : Cond.code yX4_weight prog_6_method_2_code 1 (some FieldType.int) ∈ lw_gd := gd_at 311 (by decide +kernel) (by decide +kernel)
theorem w_313 : Cond.static yX5_weightOf ∈ lw_gd := gd_at 313 (by decide +kernel) (by decide +kernel)
theorem w_314 : Cond.code yX5_weightOf prog_1_method_58_code 2 (some FieldType.int) ∈ lw_gd := gd_at 314 (by decide +kernel) (by decide +kernel)
theorem w_315 : Cond.methodLink "BallastSteps" 106 yX5_waterIn ∈ lw_gd := gd_at 315 (by decide +kernel) (by decide +kernel)
theorem w_316 : Cond.methodLink "BallastSteps" 113 yX5_holds ∈ lw_gd := gd_at 316 (by decide +kernel) (by decide +kernel)
theorem w_317 : Cond.static yX5_holds ∈ lw_gd := gd_at 317 (by decide +kernel) (by decide +kernel)
theorem w_318 : Cond.code yX5_holds prog_1_method_45_code 2 (some FieldType.boolean) ∈ lw_gd := gd_at 318 (by decide +kernel) (by decide +kernel)
theorem w_319 : Cond.methodLink "BallastSteps" 116 yX5_oneIf ∈ lw_gd := gd_at 319 (by decide +kernel) (by decide +kernel)
theorem w_320 : Cond.static yX5_oneIf ∈ lw_gd := gd_at 320 (by decide +kernel) (by decide +kernel)
theorem w_321 : Cond.code yX5_oneIf prog_1_method_38_code 1 (some FieldType.int) ∈ lw_gd := gd_at 321 (by decide +kernel) (by decide +kernel)
theorem w_322 : Cond.methodLink "BallastSteps" 120 yX3_canPump ∈ lw_gd := gd_at 322 (by decide +kernel) (by decide +kernel)
theorem w_323 : Cond.instanceMethod yX3_canPump ∈ lw_gd := gd_at 323 (by decide +kernel) (by decide +kernel)
theorem w_324 : Cond.selects "BallastSteps$Ship" yX3_canPump yX3_canPump ∈ lw_gd := gd_at 324 (by decide +kernel) (by decide +kernel)
theorem w_325 : Cond.code yX3_canPump prog_5_method_8_code 4 (some FieldType.boolean) ∈ lw_gd := gd_at 325 (by decide +kernel) (by decide +kernel)
theorem w_327 : Cond.methodLink "BallastSteps$Ship" 114 yX3_isSafeHalfway ∈ lw_gd := gd_at 327 (by decide +kernel) (by decide +kernel)
theorem w_328 : Cond.instanceMethod yX3_isSafeHalfway ∈ lw_gd := gd_at 328 (by decide +kernel) (by decide +kernel)
theorem w_329 : Cond.selects "BallastSteps$Ship" yX3_isSafeHalfway yX3_isSafeHalfway ∈ lw_gd := gd_at 329 (by decide +kernel) (by decide +kernel)
theorem w_330 : Cond.code yX3_isSafeHalfway prog_5_method_7_code 3 (some FieldType.boolean) ∈ lw_gd := gd_at 330 (by decide +kernel) (by decide +kernel)
theorem w_331 : Cond.methodLink "BallastSteps$Ship" 110 yX3_loadHalfway ∈ lw_gd := gd_at 331 (by decide +kernel) (by decide +kernel)
theorem w_332 : Cond.instanceMethod yX3_loadHalfway ∈ lw_gd := gd_at 332 (by decide +kernel) (by decide +kernel)
theorem w_333 : Cond.selects "BallastSteps$Ship" yX3_loadHalfway yX3_loadHalfway ∈ lw_gd := gd_at 333 (by decide +kernel) (by decide +kernel)
theorem w_334 : Cond.code yX3_loadHalfway prog_5_method_5_code 5 (Option.some (FieldType.object "BallastSteps$Load")) ∈ lw_gd := gd_at 334 (by decide +kernel) (by decide +kernel)
theorem w_335 : Cond.methodLink "BallastSteps$Ship" 87 yX0_clear ∈ lw_gd := gd_at 335 (by decide +kernel) (by decide +kernel)
theorem w_336 : Cond.instanceMethod yX0_clear ∈ lw_gd := gd_at 336 (by decide +kernel) (by decide +kernel)
theorem w_337 : Cond.selects "BallastSteps$Load" yX0_clear yX0_clear ∈ lw_gd := gd_at 337 (by decide +kernel) (by decide +kernel)
theorem w_338 : Cond.code yX0_clear prog_2_method_2_code 1 (none : Option FieldType) ∈ lw_gd := gd_at 338 (by decide +kernel) (by decide +kernel)
theorem w_339 : Cond.methodLink "BallastSteps$Load" 25 yJ7_fill_53178 ∈ lw_gd := gd_at 339 (by decide +kernel) (by decide +kernel)
theorem w_340 : Cond.methodLink "BallastSteps$Ship" 94 yX4_weight ∈ lw_gd := gd_at 340 (by decide +kernel) (by decide +kernel)
theorem w_341 : Cond.methodLink "BallastSteps$Ship" 98 yX0_add ∈ lw_gd := gd_at 341 (by decide +kernel) (by decide +kernel)
theorem w_342 : Cond.instanceMethod yX0_add ∈ lw_gd := gd_at 342 (by decide +kernel) (by decide +kernel)
theorem w_343 : Cond.selects "BallastSteps$Load" yX0_add yX0_add ∈ lw_gd := gd_at 343 (by decide +kernel) (by decide +kernel)
theorem w_344 : Cond.code yX0_add prog_2_method_3_code 3 (none : Option FieldType) ∈ lw_gd := gd_at 344 (by decide +kernel) (by decide +kernel)
theorem w_345 : Cond.methodLink "BallastSteps$Ship" 106 yX0_isWithin ∈ lw_gd := gd_at 345 (by decide +kernel) (by decide +kernel)
theorem w_346 : Cond.instanceMethod yX0_isWithin ∈ lw_gd := gd_at 346 (by decide +kernel) (by decide +kernel)
theorem w_347 : Cond.selects "BallastSteps$Load" yX0_isWithin yX0_isWithin ∈ lw_gd := gd_at 347 (by decide +kernel) (by decide +kernel)
theorem w_348 : Cond.code yX0_isWithin prog_2_method_7_code 3 (some FieldType.boolean) ∈ lw_gd := gd_at 348 (by decide +kernel) (by decide +kernel)
theorem w_349 : Cond.methodLink "BallastSteps$Load" 39 yJ9_abs_0f7a4 ∈ lw_gd := gd_at 349 (by decide +kernel) (by decide +kernel)
theorem w_350 : Cond.static yJ9_abs_0f7a4 ∈ lw_gd := gd_at 350 (by decide +kernel) (by decide +kernel)
theorem w_351 : Cond.code yJ9_abs_0f7a4 prog_10_method_59_code 1 (some FieldType.int) ∈ lw_gd := gd_at 351 (by decide +kernel) (by decide +kernel)
theorem w_352 : Cond.methodLink "BallastSteps$Load" 49 yX0_bending ∈ lw_gd := gd_at 352 (by decide +kernel) (by decide +kernel)
theorem w_353 : Cond.instanceMethod yX0_bending ∈ lw_gd := gd_at 353 (by decide +kernel) (by decide +kernel)
theorem w_354 : Cond.selects "BallastSteps$Load" yX0_bending yX0_bending ∈ lw_gd := gd_at 354 (by decide +kernel) (by decide +kernel)
theorem w_355 : Cond.code yX0_bending prog_2_method_5_code 5 (some FieldType.int) ∈ lw_gd := gd_at 355 (by decide +kernel) (by decide +kernel)
theorem w_356 : Cond.methodLink "BallastSteps$Load" 45 yJ9_max_7cf53 ∈ lw_gd := gd_at 356 (by decide +kernel) (by decide +kernel)
theorem w_357 : Cond.static yJ9_max_7cf53 ∈ lw_gd := gd_at 357 (by decide +kernel) (by decide +kernel)
theorem w_358 : Cond.code yJ9_max_7cf53 prog_10_method_65_code 2 (some FieldType.int) ∈ lw_gd := gd_at 358 (by decide +kernel) (by decide +kernel)
theorem w_359 : Cond.methodLink "BallastSteps$Ship" 117 yX3_isSafe ∈ lw_gd := gd_at 359 (by decide +kernel) (by decide +kernel)
theorem w_360 : Cond.instanceMethod yX3_isSafe ∈ lw_gd := gd_at 360 (by decide +kernel) (by decide +kernel)
theorem w_361 : Cond.selects "BallastSteps$Ship" yX3_isSafe yX3_isSafe ∈ lw_gd := gd_at 361 (by decide +kernel) (by decide +kernel)
theorem w_362 : Cond.code yX3_isSafe prog_5_method_6_code 2 (some FieldType.boolean) ∈ lw_gd := gd_at 362 (by decide +kernel) (by decide +kernel)
theorem w_363 : Cond.methodLink "BallastSteps$Ship" 102 yX3_loadOf ∈ lw_gd := gd_at 363 (by decide +kernel) (by decide +kernel)
theorem w_364 : Cond.instanceMethod yX3_loadOf ∈ lw_gd := gd_at 364 (by decide +kernel) (by decide +kernel)
theorem w_365 : Cond.selects "BallastSteps$Ship" yX3_loadOf yX3_loadOf ∈ lw_gd := gd_at 365 (by decide +kernel) (by decide +kernel)
theorem w_366 : Cond.code yX3_loadOf prog_5_method_4_code 3 (Option.some (FieldType.object "BallastSteps$Load")) ∈ lw_gd := gd_at 366 (by decide +kernel) (by decide +kernel)
theorem w_367 : Cond.methodLink "BallastStepsLaw" 23 yX5_mass ∈ lw_gd := gd_at 367 (by decide +kernel) (by decide +kernel)
theorem w_368 : Cond.instanceMethod yX5_mass ∈ lw_gd := gd_at 368 (by decide +kernel) (by decide +kernel)
theorem w_369 : Cond.selects "BallastSteps" yX5_mass yX5_mass ∈ lw_gd := gd_at 369 (by decide +kernel) (by decide +kernel)
theorem w_370 : Cond.code yX5_mass prog_1_method_4_code 4 (some FieldType.int) ∈ lw_gd := gd_at 370 (by decide +kernel) (by decide +kernel)
theorem w_371 : Cond.methodLink "BallastStepsLaw" 27 yX5_bound ∈ lw_gd := gd_at 371 (by decide +kernel) (by decide +kernel)
theorem w_372 : Cond.instanceMethod yX5_bound ∈ lw_gd := gd_at 372 (by decide +kernel) (by decide +kernel)
theorem w_373 : Cond.selects "BallastSteps" yX5_bound yX5_bound ∈ lw_gd := gd_at 373 (by decide +kernel) (by decide +kernel)
theorem w_374 : Cond.code yX5_bound prog_1_method_5_code 4 (some FieldType.int) ∈ lw_gd := gd_at 374 (by decide +kernel) (by decide +kernel)
theorem w_375 : Cond.methodLink "BallastSteps" 126 yX5_hasNoShip ∈ lw_gd := gd_at 375 (by decide +kernel) (by decide +kernel)
theorem w_377 : Cond.instanceMethod yX5_hasNoShip ∈ lw_gd := gd_at 377 (by decide +kernel) (by decide +kernel)
theorem w_378 : Cond.code yX5_hasNoShip prog_1_method_36_code 1 (some FieldType.boolean) ∈ lw_gd := gd_at 378 (by decide +kernel) (by decide +kernel)
theorem w_379 : Cond.methodLink "BallastStepsLaw" 31 yX5_due ∈ lw_gd := gd_at 379 (by decide +kernel) (by decide +kernel)
theorem w_380 : Cond.instanceMethod yX5_due ∈ lw_gd := gd_at 380 (by decide +kernel) (by decide +kernel)
theorem w_381 : Cond.selects "BallastSteps" yX5_due yX5_due ∈ lw_gd := gd_at 381 (by decide +kernel) (by decide +kernel)
theorem w_382 : Cond.code yX5_due prog_1_method_6_code 3 (some FieldType.int) ∈ lw_gd := gd_at 382 (by decide +kernel) (by decide +kernel)
theorem w_383 : Cond.methodLink "BallastStepsLaw" 36 yX5_fail ∈ lw_gd := gd_at 383 (by decide +kernel) (by decide +kernel)
theorem w_384 : Cond.instanceMethod yX5_fail ∈ lw_gd := gd_at 384 (by decide +kernel) (by decide +kernel)
theorem w_385 : Cond.selects "BallastSteps" yX5_fail yX5_fail ∈ lw_gd := gd_at 385 (by decide +kernel) (by decide +kernel)
theorem w_386 : Cond.code yX5_fail prog_1_method_7_code 2 (some FieldType.int) ∈ lw_gd := gd_at 386 (by decide +kernel) (by decide +kernel)
theorem w_387 : Cond.methodLink "BallastStepsLaw" 40 yX5_measure ∈ lw_gd := gd_at 387 (by decide +kernel) (by decide +kernel)
theorem w_388 : Cond.instanceMethod yX5_measure ∈ lw_gd := gd_at 388 (by decide +kernel) (by decide +kernel)
theorem w_389 : Cond.selects "BallastSteps" yX5_measure yX5_measure ∈ lw_gd := gd_at 389 (by decide +kernel) (by decide +kernel)
theorem w_390 : Cond.code yX5_measure prog_1_method_8_code 3 (some FieldType.int) ∈ lw_gd := gd_at 390 (by decide +kernel) (by decide +kernel)
theorem w_391 : Cond.methodLink "BallastSteps" 133 yX3_fullSet ∈ lw_gd := gd_at 391 (by decide +kernel) (by decide +kernel)
theorem w_392 : Cond.methodLink "BallastSteps" 136 yX3_loadOf ∈ lw_gd := gd_at 392 (by decide +kernel) (by decide +kernel)
theorem w_393 : Cond.methodLink "BallastSteps" 148 yX0_bending ∈ lw_gd := gd_at 393 (by decide +kernel) (by decide +kernel)
theorem w_394 : Cond.methodLink "BallastSteps" 151 yX0_isWithin ∈ lw_gd := gd_at 394 (by decide +kernel) (by decide +kernel)
theorem w_395 : Cond.methodLink "BallastStepsLaw" 44 yX5_moment ∈ lw_gd := gd_at 395 (by decide +kernel) (by decide +kernel)
theorem w_396 : Cond.instanceMethod yX5_moment ∈ lw_gd := gd_at 396 (by decide +kernel) (by decide +kernel)
theorem w_397 : Cond.selects "BallastSteps" yX5_moment yX5_moment ∈ lw_gd := gd_at 397 (by decide +kernel) (by decide +kernel)
theorem w_398 : Cond.code yX5_moment prog_1_method_9_code 2 (some FieldType.int) ∈ lw_gd := gd_at 398 (by decide +kernel) (by decide +kernel)
theorem w_399 : Cond.methodLink "BallastSteps" 155 yX0_momentOf ∈ lw_gd := gd_at 399 (by decide +kernel) (by decide +kernel)
theorem w_400 : Cond.instanceMethod yX0_momentOf ∈ lw_gd := gd_at 400 (by decide +kernel) (by decide +kernel)
theorem w_401 : Cond.selects "BallastSteps$Load" yX0_momentOf yX0_momentOf ∈ lw_gd := gd_at 401 (by decide +kernel) (by decide +kernel)
theorem w_402 : Cond.code yX0_momentOf prog_2_method_4_code 5 (some FieldType.int) ∈ lw_gd := gd_at 402 (by decide +kernel) (by decide +kernel)
theorem w_403 : Cond.methodLink "BallastStepsLaw" 48 yX5_pump ∈ lw_gd := gd_at 403 (by decide +kernel) (by decide +kernel)
theorem w_404 : Cond.instanceMethod yX5_pump ∈ lw_gd := gd_at 404 (by decide +kernel) (by decide +kernel)
theorem w_405 : Cond.selects "BallastSteps" yX5_pump yX5_pump ∈ lw_gd := gd_at 405 (by decide +kernel) (by decide +kernel)
theorem w_406 : Cond.code yX5_pump prog_1_method_10_code 2 (some FieldType.int) ∈ lw_gd := gd_at 406 (by decide +kernel) (by decide +kernel)
theorem w_407 : Cond.methodLink "BallastSteps" 158 yX5_pumped ∈ lw_gd := gd_at 407 (by decide +kernel) (by decide +kernel)
theorem w_408 : Cond.static yX5_pumped ∈ lw_gd := gd_at 408 (by decide +kernel) (by decide +kernel)
theorem w_409 : Cond.code yX5_pumped prog_1_method_44_code 4 (some FieldType.int) ∈ lw_gd := gd_at 409 (by decide +kernel) (by decide +kernel)
theorem w_410 : Cond.methodLink "BallastStepsLaw" 52 yX5_plan ∈ lw_gd := gd_at 410 (by decide +kernel) (by decide +kernel)
theorem w_411 : Cond.instanceMethod yX5_plan ∈ lw_gd := gd_at 411 (by decide +kernel) (by decide +kernel)
theorem w_412 : Cond.selects "BallastSteps" yX5_plan yX5_plan ∈ lw_gd := gd_at 412 (by decide +kernel) (by decide +kernel)
theorem w_413 : Cond.code yX5_plan prog_1_method_11_code 2 (some FieldType.int) ∈ lw_gd := gd_at 413 (by decide +kernel) (by decide +kernel)
theorem w_414 : Cond.methodLink "BallastSteps" 161 yX2_refresh ∈ lw_gd := gd_at 414 (by decide +kernel) (by decide +kernel)
theorem w_415 : Cond.instanceMethod yX2_refresh ∈ lw_gd := gd_at 415 (by decide +kernel) (by decide +kernel)
theorem w_416 : Cond.selects "BallastSteps$Search" yX2_refresh yX2_refresh ∈ lw_gd := gd_at 416 (by decide +kernel) (by decide +kernel)
theorem w_417 : Cond.code yX2_refresh prog_4_method_3_code 2 (none : Option FieldType) ∈ lw_gd := gd_at 417 (by decide +kernel) (by decide +kernel)
theorem w_418 : Cond.methodLink "BallastSteps$Search" 46 yX2_findPumpable ∈ lw_gd := gd_at 418 (by decide +kernel) (by decide +kernel)
theorem w_420 : Cond.instanceMethod yX2_findPumpable ∈ lw_gd := gd_at 420 (by decide +kernel) (by decide +kernel)
theorem w_421 : Cond.code yX2_findPumpable prog_4_method_4_code 5 (none : Option FieldType) ∈ lw_gd := gd_at 421 (by decide +kernel) (by decide +kernel)
theorem w_422 : Cond.methodLink "BallastSteps$Search" 62 yX3_isSafe ∈ lw_gd := gd_at 422 (by decide +kernel) (by decide +kernel)
theorem w_424 : Cond.methodLink "BallastSteps$Search" 73 yX3_isSafeHalfway ∈ lw_gd := gd_at 424 (by decide +kernel) (by decide +kernel)
theorem w_425 : Cond.methodLink "BallastSteps$Search" 50 yX2_explore ∈ lw_gd := gd_at 425 (by decide +kernel) (by decide +kernel)
theorem w_427 : Cond.instanceMethod yX2_explore ∈ lw_gd := gd_at 427 (by decide +kernel) (by decide +kernel)
theorem w_428 : Cond.code yX2_explore prog_4_method_5_code 6 (none : Option FieldType) ∈ lw_gd := gd_at 428 (by decide +kernel) (by decide +kernel)
theorem w_429 : Cond.methodLink "BallastSteps$Search" 76 yJ7_fill_53178 ∈ lw_gd := gd_at 429 (by decide +kernel) (by decide +kernel)
theorem w_430 : Cond.methodLink "BallastSteps$Search" 85 yX3_fullSet ∈ lw_gd := gd_at 430 (by decide +kernel) (by decide +kernel)
theorem w_431 : Cond.methodLink "BallastSteps$Search" 89 yX2_step ∈ lw_gd := gd_at 431 (by decide +kernel) (by decide +kernel)
theorem w_433 : Cond.instanceMethod yX2_step ∈ lw_gd := gd_at 433 (by decide +kernel) (by decide +kernel)
theorem w_434 : Cond.code yX2_step prog_4_method_6_code 4 (none : Option FieldType) ∈ lw_gd := gd_at 434 (by decide +kernel) (by decide +kernel)
theorem w_436 : Cond.methodLink "BallastSteps$Search" 53 yX2_findEnd ∈ lw_gd := gd_at 436 (by decide +kernel) (by decide +kernel)
theorem w_438 : Cond.instanceMethod yX2_findEnd ∈ lw_gd := gd_at 438 (by decide +kernel) (by decide +kernel)
theorem w_439 : Cond.code yX2_findEnd prog_4_method_7_code 3 (some FieldType.int) ∈ lw_gd := gd_at 439 (by decide +kernel) (by decide +kernel)
theorem w_440 : Cond.methodLink "BallastSteps$Search" 97 yX3_isChanged ∈ lw_gd := gd_at 440 (by decide +kernel) (by decide +kernel)
theorem w_441 : Cond.instanceMethod yX3_isChanged ∈ lw_gd := gd_at 441 (by decide +kernel) (by decide +kernel)
theorem w_442 : Cond.selects "BallastSteps$Ship" yX3_isChanged yX3_isChanged ∈ lw_gd := gd_at 442 (by decide +kernel) (by decide +kernel)
theorem w_443 : Cond.code yX3_isChanged prog_5_method_11_code 5 (some FieldType.boolean) ∈ lw_gd := gd_at 443 (by decide +kernel) (by decide +kernel)
theorem w_444 : Cond.methodLink "BallastSteps" 165 yX2_planLength ∈ lw_gd := gd_at 444 (by decide +kernel) (by decide +kernel)
theorem w_445 : Cond.instanceMethod yX2_planLength ∈ lw_gd := gd_at 445 (by decide +kernel) (by decide +kernel)
theorem w_446 : Cond.selects "BallastSteps$Search" yX2_planLength yX2_planLength ∈ lw_gd := gd_at 446 (by decide +kernel) (by decide +kernel)
theorem w_447 : Cond.code yX2_planLength prog_4_method_8_code 1 (some FieldType.int) ∈ lw_gd := gd_at 447 (by decide +kernel) (by decide +kernel)
theorem w_448 : Cond.methodLink "BallastSteps" 168 yX2_planTank ∈ lw_gd := gd_at 448 (by decide +kernel) (by decide +kernel)
theorem w_449 : Cond.instanceMethod yX2_planTank ∈ lw_gd := gd_at 449 (by decide +kernel) (by decide +kernel)
theorem w_450 : Cond.selects "BallastSteps$Search" yX2_planTank yX2_planTank ∈ lw_gd := gd_at 450 (by decide +kernel) (by decide +kernel)
theorem w_451 : Cond.code yX2_planTank prog_4_method_9_code 4 (some FieldType.int) ∈ lw_gd := gd_at 451 (by decide +kernel) (by decide +kernel)
theorem w_452 : Cond.methodLink "BallastSteps$Search" 100 yX2_planLength ∈ lw_gd := gd_at 452 (by decide +kernel) (by decide +kernel)
theorem w_453 : Cond.methodLink "BallastStepsLaw" 56 yX5_plans ∈ lw_gd := gd_at 453 (by decide +kernel) (by decide +kernel)
theorem w_454 : Cond.instanceMethod yX5_plans ∈ lw_gd := gd_at 454 (by decide +kernel) (by decide +kernel)
theorem w_455 : Cond.selects "BallastSteps" yX5_plans yX5_plans ∈ lw_gd := gd_at 455 (by decide +kernel) (by decide +kernel)
theorem w_456 : Cond.code yX5_plans prog_1_method_12_code 1 (some FieldType.long) ∈ lw_gd := gd_at 456 (by decide +kernel) (by decide +kernel)
theorem w_457 : Cond.constantLong "BallastSteps" 171 (-9223372036854775808 : Int64) ∈ lw_gd := gd_at 457 (by decide +kernel) (by decide +kernel)
theorem w_458 : Cond.methodLink "BallastSteps" 173 yX2_shortestPlans ∈ lw_gd := gd_at 458 (by decide +kernel) (by decide +kernel)
theorem w_459 : Cond.instanceMethod yX2_shortestPlans ∈ lw_gd := gd_at 459 (by decide +kernel) (by decide +kernel)
theorem w_460 : Cond.selects "BallastSteps$Search" yX2_shortestPlans yX2_shortestPlans ∈ lw_gd := gd_at 460 (by decide +kernel) (by decide +kernel)
theorem w_461 : Cond.code yX2_shortestPlans prog_4_method_10_code 6 (some FieldType.long) ∈ lw_gd := gd_at 461 (by decide +kernel) (by decide +kernel)
theorem w_462 : Cond.methodLink "BallastStepsLaw" 61 yX5_day ∈ lw_gd := gd_at 462 (by decide +kernel) (by decide +kernel)
theorem w_463 : Cond.instanceMethod yX5_day ∈ lw_gd := gd_at 463 (by decide +kernel) (by decide +kernel)
theorem w_464 : Cond.selects "BallastSteps" yX5_day yX5_day ∈ lw_gd := gd_at 464 (by decide +kernel) (by decide +kernel)
theorem w_465 : Cond.code yX5_day prog_1_method_13_code 9 (some FieldType.int) ∈ lw_gd := gd_at 465 (by decide +kernel) (by decide +kernel)
theorem w_466 : Cond.methodLink "BallastSteps" 177 yX5_isAskedOfDay ∈ lw_gd := gd_at 466 (by decide +kernel) (by decide +kernel)
theorem w_467 : Cond.static yX5_isAskedOfDay ∈ lw_gd := gd_at 467 (by decide +kernel) (by decide +kernel)
theorem w_468 : Cond.code yX5_isAskedOfDay prog_1_method_34_code 1 (some FieldType.boolean) ∈ lw_gd := gd_at 468 (by decide +kernel) (by decide +kernel)
theorem w_469 : Cond.methodLink "BallastSteps" 180 yX5_areTankNumbers ∈ lw_gd := gd_at 469 (by decide +kernel) (by decide +kernel)
theorem w_470 : Cond.static yX5_areTankNumbers ∈ lw_gd := gd_at 470 (by decide +kernel) (by decide +kernel)
theorem w_471 : Cond.code yX5_areTankNumbers prog_1_method_47_code 4 (some FieldType.boolean) ∈ lw_gd := gd_at 471 (by decide +kernel) (by decide +kernel)
theorem w_472 : Cond.methodLink "BallastSteps" 184 yX5_firstWrong ∈ lw_gd := gd_at 472 (by decide +kernel) (by decide +kernel)
theorem w_474 : Cond.instanceMethod yX5_firstWrong ∈ lw_gd := gd_at 474 (by decide +kernel) (by decide +kernel)
theorem w_475 : Cond.code yX5_firstWrong prog_1_method_48_code 7 (some FieldType.int) ∈ lw_gd := gd_at 475 (by decide +kernel) (by decide +kernel)
theorem w_476 : Cond.methodLink "BallastSteps" 187 yX5_watersBehind ∈ lw_gd := gd_at 476 (by decide +kernel) (by decide +kernel)
theorem w_478 : Cond.instanceMethod yX5_watersBehind ∈ lw_gd := gd_at 478 (by decide +kernel) (by decide +kernel)
theorem w_479 : Cond.code yX5_watersBehind prog_1_method_49_code 6 (some FieldType.int) ∈ lw_gd := gd_at 479 (by decide +kernel) (by decide +kernel)
theorem w_480 : Cond.methodLink "BallastSteps" 190 yX5_ofWaters ∈ lw_gd := gd_at 480 (by decide +kernel) (by decide +kernel)
theorem w_482 : Cond.instanceMethod yX5_ofWaters ∈ lw_gd := gd_at 482 (by decide +kernel) (by decide +kernel)
theorem w_483 : Cond.code yX5_ofWaters prog_1_method_50_code 4 (some FieldType.int) ∈ lw_gd := gd_at 483 (by decide +kernel) (by decide +kernel)
theorem w_484 : Cond.methodLink "BallastSteps" 255 yX5_newWaters ∈ lw_gd := gd_at 484 (by decide +kernel) (by decide +kernel)
theorem w_486 : Cond.instanceMethod yX5_newWaters ∈ lw_gd := gd_at 486 (by decide +kernel) (by decide +kernel)
theorem w_487 : Cond.code yX5_newWaters prog_1_method_46_code 4 (some FieldType.int) ∈ lw_gd := gd_at 487 (by decide +kernel) (by decide +kernel)
theorem w_488 : Cond.methodLink "BallastSteps" 250 yJ6_bitCount_0f7a4 ∈ lw_gd := gd_at 488 (by decide +kernel) (by decide +kernel)
theorem w_489 : Cond.static yJ6_bitCount_0f7a4 ∈ lw_gd := gd_at 489 (by decide +kernel) (by decide +kernel)
theorem w_490 : Cond.code yJ6_bitCount_0f7a4 prog_9_method_49_code 1 (some FieldType.int) ∈ lw_gd := gd_at 490 (by decide +kernel) (by decide +kernel)
theorem w_491 : Cond.constant "java/lang/Integer" 265 (1431655765 : Int32) ∈ lw_gd := gd_at 491 (by decide +kernel) (by decide +kernel)
theorem w_492 : Cond.constant "java/lang/Integer" 266 (858993459 : Int32) ∈ lw_gd := gd_at 492 (by decide +kernel) (by decide +kernel)
theorem w_493 : Cond.constant "java/lang/Integer" 267 (252645135 : Int32) ∈ lw_gd := gd_at 493 (by decide +kernel) (by decide +kernel)
theorem w_494 : Cond.methodLink "BallastStepsLaw" 66 yX5_states ∈ lw_gd := gd_at 494 (by decide +kernel) (by decide +kernel)
theorem w_495 : Cond.instanceMethod yX5_states ∈ lw_gd := gd_at 495 (by decide +kernel) (by decide +kernel)
theorem w_496 : Cond.selects "BallastSteps" yX5_states yX5_states ∈ lw_gd := gd_at 496 (by decide +kernel) (by decide +kernel)
theorem w_497 : Cond.code yX5_states prog_1_method_14_code 1 (some FieldType.int) ∈ lw_gd := gd_at 497 (by decide +kernel) (by decide +kernel)
theorem w_498 : Cond.methodLink "BallastStepsLaw" 71 yX5_worst ∈ lw_gd := gd_at 498 (by decide +kernel) (by decide +kernel)
theorem w_499 : Cond.instanceMethod yX5_worst ∈ lw_gd := gd_at 499 (by decide +kernel) (by decide +kernel)
theorem w_500 : Cond.selects "BallastSteps" yX5_worst yX5_worst ∈ lw_gd := gd_at 500 (by decide +kernel) (by decide +kernel)
theorem w_501 : Cond.code yX5_worst prog_1_method_15_code 2 (some FieldType.int) ∈ lw_gd := gd_at 501 (by decide +kernel) (by decide +kernel)
theorem w_502 : Cond.methodLink "BallastSteps" 196 yX2_worstOfPlan ∈ lw_gd := gd_at 502 (by decide +kernel) (by decide +kernel)
theorem w_503 : Cond.instanceMethod yX2_worstOfPlan ∈ lw_gd := gd_at 503 (by decide +kernel) (by decide +kernel)
theorem w_504 : Cond.selects "BallastSteps$Search" yX2_worstOfPlan yX2_worstOfPlan ∈ lw_gd := gd_at 504 (by decide +kernel) (by decide +kernel)
theorem w_505 : Cond.code yX2_worstOfPlan prog_4_method_11_code 6 (some FieldType.int) ∈ lw_gd := gd_at 505 (by decide +kernel) (by decide +kernel)
theorem w_506 : Cond.methodLink "BallastSteps$Search" 104 yX3_loadOf ∈ lw_gd := gd_at 506 (by decide +kernel) (by decide +kernel)
theorem w_507 : Cond.methodLink "BallastSteps$Search" 108 yX0_bounded ∈ lw_gd := gd_at 507 (by decide +kernel) (by decide +kernel)
theorem w_508 : Cond.instanceMethod yX0_bounded ∈ lw_gd := gd_at 508 (by decide +kernel) (by decide +kernel)
theorem w_509 : Cond.selects "BallastSteps$Load" yX0_bounded yX0_bounded ∈ lw_gd := gd_at 509 (by decide +kernel) (by decide +kernel)
theorem w_510 : Cond.code yX0_bounded prog_2_method_6_code 2 (some FieldType.int) ∈ lw_gd := gd_at 510 (by decide +kernel) (by decide +kernel)
theorem w_511 : Cond.methodLink "BallastSteps$Search" 113 yJ9_max_7cf53 ∈ lw_gd := gd_at 511 (by decide +kernel) (by decide +kernel)
theorem w_512 : Cond.methodLink "BallastStepsLaw" 75 yX5_reading ∈ lw_gd := gd_at 512 (by decide +kernel) (by decide +kernel)
theorem w_513 : Cond.instanceMethod yX5_reading ∈ lw_gd := gd_at 513 (by decide +kernel) (by decide +kernel)
theorem w_514 : Cond.selects "BallastSteps" yX5_reading yX5_reading ∈ lw_gd := gd_at 514 (by decide +kernel) (by decide +kernel)
theorem w_515 : Cond.code yX5_reading prog_1_method_16_code 2 (some FieldType.int) ∈ lw_gd := gd_at 515 (by decide +kernel) (by decide +kernel)
theorem w_516 : Cond.methodLink "BallastStepsLaw" 79 yX5_back ∈ lw_gd := gd_at 516 (by decide +kernel) (by decide +kernel)
theorem w_517 : Cond.instanceMethod yX5_back ∈ lw_gd := gd_at 517 (by decide +kernel) (by decide +kernel)
theorem w_518 : Cond.selects "BallastSteps" yX5_back yX5_back ∈ lw_gd := gd_at 518 (by decide +kernel) (by decide +kernel)
theorem w_519 : Cond.code yX5_back prog_1_method_17_code 2 (some FieldType.int) ∈ lw_gd := gd_at 519 (by decide +kernel) (by decide +kernel)
theorem w_520 : Cond.methodLink "BallastStepsLaw" 83 yX5_kinds ∈ lw_gd := gd_at 520 (by decide +kernel) (by decide +kernel)
theorem w_521 : Cond.instanceMethod yX5_kinds ∈ lw_gd := gd_at 521 (by decide +kernel) (by decide +kernel)
theorem w_522 : Cond.selects "BallastSteps" yX5_kinds yX5_kinds ∈ lw_gd := gd_at 522 (by decide +kernel) (by decide +kernel)
theorem w_523 : Cond.code yX5_kinds prog_1_method_18_code 4 (some FieldType.int) ∈ lw_gd := gd_at 523 (by decide +kernel) (by decide +kernel)
theorem w_524 : Cond.methodLink "BallastSteps" 200 yX5_weightOf ∈ lw_gd := gd_at 524 (by decide +kernel) (by decide +kernel)
theorem w_525 : Cond.methodLink "BallastSteps" 203 yX5_readingsHoldWith ∈ lw_gd := gd_at 525 (by decide +kernel) (by decide +kernel)
theorem w_527 : Cond.instanceMethod yX5_readingsHoldWith ∈ lw_gd := gd_at 527 (by decide +kernel) (by decide +kernel)
theorem w_528 : Cond.code yX5_readingsHoldWith prog_1_method_51_code 5 (some FieldType.boolean) ∈ lw_gd := gd_at 528 (by decide +kernel) (by decide +kernel)
theorem w_529 : Cond.methodLink "BallastSteps" 270 yX3_trimWith ∈ lw_gd := gd_at 529 (by decide +kernel) (by decide +kernel)
theorem w_530 : Cond.instanceMethod yX3_trimWith ∈ lw_gd := gd_at 530 (by decide +kernel) (by decide +kernel)
theorem w_531 : Cond.selects "BallastSteps$Ship" yX3_trimWith yX3_trimWith ∈ lw_gd := gd_at 531 (by decide +kernel) (by decide +kernel)
theorem w_532 : Cond.code yX3_trimWith prog_5_method_10_code 4 (some FieldType.int) ∈ lw_gd := gd_at 532 (by decide +kernel) (by decide +kernel)
theorem w_533 : Cond.methodLink "BallastStepsLaw" 87 yX5_masses ∈ lw_gd := gd_at 533 (by decide +kernel) (by decide +kernel)
theorem w_534 : Cond.instanceMethod yX5_masses ∈ lw_gd := gd_at 534 (by decide +kernel) (by decide +kernel)
theorem w_535 : Cond.selects "BallastSteps" yX5_masses yX5_masses ∈ lw_gd := gd_at 535 (by decide +kernel) (by decide +kernel)
theorem w_536 : Cond.code yX5_masses prog_1_method_19_code 4 (some FieldType.int) ∈ lw_gd := gd_at 536 (by decide +kernel) (by decide +kernel)
theorem w_537 : Cond.methodLink "BallastStepsLaw" 91 yX5_odds ∈ lw_gd := gd_at 537 (by decide +kernel) (by decide +kernel)
theorem w_538 : Cond.instanceMethod yX5_odds ∈ lw_gd := gd_at 538 (by decide +kernel) (by decide +kernel)
theorem w_539 : Cond.selects "BallastSteps" yX5_odds yX5_odds ∈ lw_gd := gd_at 539 (by decide +kernel) (by decide +kernel)
theorem w_540 : Cond.code yX5_odds prog_1_method_20_code 4 (some FieldType.long) ∈ lw_gd := gd_at 540 (by decide +kernel) (by decide +kernel)
theorem w_541 : Cond.methodLink "BallastSteps" 206 yX3_safeLoads ∈ lw_gd := gd_at 541 (by decide +kernel) (by decide +kernel)
theorem w_542 : Cond.instanceMethod yX3_safeLoads ∈ lw_gd := gd_at 542 (by decide +kernel) (by decide +kernel)
theorem w_543 : Cond.selects "BallastSteps$Ship" yX3_safeLoads yX3_safeLoads ∈ lw_gd := gd_at 543 (by decide +kernel) (by decide +kernel)
theorem w_544 : Cond.code yX3_safeLoads prog_5_method_9_code 3 (some FieldType.int) ∈ lw_gd := gd_at 544 (by decide +kernel) (by decide +kernel)
theorem w_545 : Cond.methodLink "BallastStepsLaw" 96 yX5_sheet ∈ lw_gd := gd_at 545 (by decide +kernel) (by decide +kernel)
theorem w_546 : Cond.instanceMethod yX5_sheet ∈ lw_gd := gd_at 546 (by decide +kernel) (by decide +kernel)
theorem w_547 : Cond.selects "BallastSteps" yX5_sheet yX5_sheet ∈ lw_gd := gd_at 547 (by decide +kernel) (by decide +kernel)
theorem w_548 : Cond.code yX5_sheet prog_1_method_21_code 4 (some FieldType.int) ∈ lw_gd := gd_at 548 (by decide +kernel) (by decide +kernel)
theorem w_549 : Cond.methodLink "BallastSteps" 209 yX1_renew ∈ lw_gd := gd_at 549 (by decide +kernel) (by decide +kernel)
theorem w_550 : Cond.instanceMethod yX1_renew ∈ lw_gd := gd_at 550 (by decide +kernel) (by decide +kernel)
theorem w_551 : Cond.selects "BallastSteps$Row" yX1_renew yX1_renew ∈ lw_gd := gd_at 551 (by decide +kernel) (by decide +kernel)
theorem w_552 : Cond.code yX1_renew prog_3_method_3_code 3 (none : Option FieldType) ∈ lw_gd := gd_at 552 (by decide +kernel) (by decide +kernel)
theorem w_553 : Cond.methodLink "BallastSteps$Row" 22 yJ7_fill_53178 ∈ lw_gd := gd_at 553 (by decide +kernel) (by decide +kernel)
theorem w_554 : Cond.methodLink "BallastStepsLaw" 101 yX5_lose ∈ lw_gd := gd_at 554 (by decide +kernel) (by decide +kernel)
theorem w_555 : Cond.instanceMethod yX5_lose ∈ lw_gd := gd_at 555 (by decide +kernel) (by decide +kernel)
theorem w_556 : Cond.selects "BallastSteps" yX5_lose yX5_lose ∈ lw_gd := gd_at 556 (by decide +kernel) (by decide +kernel)
theorem w_557 : Cond.code yX5_lose prog_1_method_22_code 2 (some FieldType.int) ∈ lw_gd := gd_at 557 (by decide +kernel) (by decide +kernel)
theorem w_558 : Cond.methodLink "BallastSteps" 213 yX1_isNothing ∈ lw_gd := gd_at 558 (by decide +kernel) (by decide +kernel)
theorem w_559 : Cond.methodLink "BallastSteps" 216 yX1_drop ∈ lw_gd := gd_at 559 (by decide +kernel) (by decide +kernel)
theorem w_560 : Cond.instanceMethod yX1_drop ∈ lw_gd := gd_at 560 (by decide +kernel) (by decide +kernel)
theorem w_561 : Cond.selects "BallastSteps$Row" yX1_drop yX1_drop ∈ lw_gd := gd_at 561 (by decide +kernel) (by decide +kernel)
theorem w_562 : Cond.code yX1_drop prog_3_method_4_code 1 (none : Option FieldType) ∈ lw_gd := gd_at 562 (by decide +kernel) (by decide +kernel)
theorem w_563 : Cond.methodLink "BallastStepsLaw" 105 yX5_put ∈ lw_gd := gd_at 563 (by decide +kernel) (by decide +kernel)
theorem w_564 : Cond.instanceMethod yX5_put ∈ lw_gd := gd_at 564 (by decide +kernel) (by decide +kernel)
theorem w_565 : Cond.selects "BallastSteps" yX5_put yX5_put ∈ lw_gd := gd_at 565 (by decide +kernel) (by decide +kernel)
theorem w_566 : Cond.code yX5_put prog_1_method_23_code 4 (some FieldType.int) ∈ lw_gd := gd_at 566 (by decide +kernel) (by decide +kernel)
theorem w_567 : Cond.methodLink "BallastSteps" 219 yX1_write ∈ lw_gd := gd_at 567 (by decide +kernel) (by decide +kernel)
theorem w_568 : Cond.instanceMethod yX1_write ∈ lw_gd := gd_at 568 (by decide +kernel) (by decide +kernel)
theorem w_569 : Cond.selects "BallastSteps$Row" yX1_write yX1_write ∈ lw_gd := gd_at 569 (by decide +kernel) (by decide +kernel)
theorem w_570 : Cond.code yX1_write prog_3_method_7_code 3 (none : Option FieldType) ∈ lw_gd := gd_at 570 (by decide +kernel) (by decide +kernel)
theorem w_571 : Cond.methodLink "BallastStepsLaw" 109 yX5_cell ∈ lw_gd := gd_at 571 (by decide +kernel) (by decide +kernel)
theorem w_572 : Cond.instanceMethod yX5_cell ∈ lw_gd := gd_at 572 (by decide +kernel) (by decide +kernel)
theorem w_573 : Cond.selects "BallastSteps" yX5_cell yX5_cell ∈ lw_gd := gd_at 573 (by decide +kernel) (by decide +kernel)
theorem w_574 : Cond.code yX5_cell prog_1_method_24_code 4 (some FieldType.long) ∈ lw_gd := gd_at 574 (by decide +kernel) (by decide +kernel)
theorem w_575 : Cond.methodLink "BallastStepsLaw" 114 yX5_copy ∈ lw_gd := gd_at 575 (by decide +kernel) (by decide +kernel)
theorem w_576 : Cond.instanceMethod yX5_copy ∈ lw_gd := gd_at 576 (by decide +kernel) (by decide +kernel)
theorem w_577 : Cond.selects "BallastSteps" yX5_copy yX5_copy ∈ lw_gd := gd_at 577 (by decide +kernel) (by decide +kernel)
theorem w_578 : Cond.code yX5_copy prog_1_method_25_code 8 (some FieldType.int) ∈ lw_gd := gd_at 578 (by decide +kernel) (by decide +kernel)
theorem w_579 : Cond.methodLink "BallastSteps" 228 ({ cls := "java/lang/System", name := "arraycopy", desc := "(Ljava/lang/Object;ILjava/lang/Object;II)V" } : Jvm.MethodName) ∈ lw_gd := gd_at 579 (by decide +kernel) (by decide +kernel)
theorem w_580 : Cond.static ({ cls := "java/lang/System", name := "arraycopy", desc := "(Ljava/lang/Object;ILjava/lang/Object;II)V" } : Jvm.MethodName) ∈ lw_gd := gd_at 580 (by decide +kernel) (by decide +kernel)
theorem w_581 : Cond.native ({ cls := "java/lang/System", name := "arraycopy", desc := "(Ljava/lang/Object;ILjava/lang/Object;II)V" } : Jvm.MethodName) ∈ lw_gd := gd_at 581 (by decide +kernel) (by decide +kernel)
theorem w_582 : Cond.methodLink "BallastStepsLaw" 118 yX5_tell ∈ lw_gd := gd_at 582 (by decide +kernel) (by decide +kernel)
theorem w_583 : Cond.instanceMethod yX5_tell ∈ lw_gd := gd_at 583 (by decide +kernel) (by decide +kernel)
theorem w_584 : Cond.selects "BallastSteps" yX5_tell yX5_tell ∈ lw_gd := gd_at 584 (by decide +kernel) (by decide +kernel)
theorem w_585 : Cond.code yX5_tell prog_1_method_26_code 3 (some FieldType.int) ∈ lw_gd := gd_at 585 (by decide +kernel) (by decide +kernel)
theorem w_586 : Cond.methodLink "BallastSteps" 234 yX5_wideTelling ∈ lw_gd := gd_at 586 (by decide +kernel) (by decide +kernel)
theorem w_588 : Cond.instanceMethod yX5_wideTelling ∈ lw_gd := gd_at 588 (by decide +kernel) (by decide +kernel)
theorem w_589 : Cond.code yX5_wideTelling prog_1_method_54_code 2 (some FieldType.int) ∈ lw_gd := gd_at 589 (by decide +kernel) (by decide +kernel)
theorem w_590 : Cond.methodLink "BallastSteps" 273 yX5_leave ∈ lw_gd := gd_at 590 (by decide +kernel) (by decide +kernel)
theorem w_592 : Cond.instanceMethod yX5_leave ∈ lw_gd := gd_at 592 (by decide +kernel) (by decide +kernel)
theorem w_593 : Cond.code yX5_leave prog_1_method_52_code 2 (none : Option FieldType) ∈ lw_gd := gd_at 593 (by decide +kernel) (by decide +kernel)
theorem w_594 : Cond.methodLink "BallastSteps" 240 yX5_plainTelling ∈ lw_gd := gd_at 594 (by decide +kernel) (by decide +kernel)
theorem w_596 : Cond.instanceMethod yX5_plainTelling ∈ lw_gd := gd_at 596 (by decide +kernel) (by decide +kernel)
theorem w_597 : Cond.code yX5_plainTelling prog_1_method_53_code 2 (some FieldType.int) ∈ lw_gd := gd_at 597 (by decide +kernel) (by decide +kernel)
theorem w_598 : Cond.methodLink "BallastSteps" 237 yX5_doubleTelling ∈ lw_gd := gd_at 598 (by decide +kernel) (by decide +kernel)
theorem w_600 : Cond.instanceMethod yX5_doubleTelling ∈ lw_gd := gd_at 600 (by decide +kernel) (by decide +kernel)
theorem w_601 : Cond.code yX5_doubleTelling prog_1_method_55_code 2 (some FieldType.int) ∈ lw_gd := gd_at 601 (by decide +kernel) (by decide +kernel)
theorem w_602 : Cond.methodLink "BallastStepsLaw" 122 yX5_sound ∈ lw_gd := gd_at 602 (by decide +kernel) (by decide +kernel)
theorem w_603 : Cond.instanceMethod yX5_sound ∈ lw_gd := gd_at 603 (by decide +kernel) (by decide +kernel)
theorem w_604 : Cond.selects "BallastSteps" yX5_sound yX5_sound ∈ lw_gd := gd_at 604 (by decide +kernel) (by decide +kernel)
theorem w_605 : Cond.code yX5_sound prog_1_method_27_code 3 (some FieldType.int) ∈ lw_gd := gd_at 605 (by decide +kernel) (by decide +kernel)
theorem w_606 : Cond.methodLink "BallastSteps" 243 yX5_soundingOfDouble ∈ lw_gd := gd_at 606 (by decide +kernel) (by decide +kernel)
theorem w_608 : Cond.instanceMethod yX5_soundingOfDouble ∈ lw_gd := gd_at 608 (by decide +kernel) (by decide +kernel)
theorem w_609 : Cond.code yX5_soundingOfDouble prog_1_method_57_code 2 (some FieldType.int) ∈ lw_gd := gd_at 609 (by decide +kernel) (by decide +kernel)
theorem w_610 : Cond.methodLink "BallastSteps" 247 yX5_lentSounding ∈ lw_gd := gd_at 610 (by decide +kernel) (by decide +kernel)
theorem w_612 : Cond.instanceMethod yX5_lentSounding ∈ lw_gd := gd_at 612 (by decide +kernel) (by decide +kernel)
theorem w_613 : Cond.code yX5_lentSounding prog_1_method_56_code 2 (some FieldType.int) ∈ lw_gd := gd_at 613 (by decide +kernel) (by decide +kernel)
theorem w_614 : Cond.methodLink "BallastStepsLaw" 126 yX5_as ∈ lw_gd := gd_at 614 (by decide +kernel) (by decide +kernel)
theorem w_615 : Cond.instanceMethod yX5_as ∈ lw_gd := gd_at 615 (by decide +kernel) (by decide +kernel)
theorem w_616 : Cond.selects "BallastSteps" yX5_as yX5_as ∈ lw_gd := gd_at 616 (by decide +kernel) (by decide +kernel)
theorem w_617 : Cond.code yX5_as prog_1_method_28_code 3 (some FieldType.int) ∈ lw_gd := gd_at 617 (by decide +kernel) (by decide +kernel)
theorem w_618 : Cond.methodLink "BallastStepsLaw" 130 yX5_trace ∈ lw_gd := gd_at 618 (by decide +kernel) (by decide +kernel)
theorem w_619 : Cond.instanceMethod yX5_trace ∈ lw_gd := gd_at 619 (by decide +kernel) (by decide +kernel)
theorem w_620 : Cond.selects "BallastSteps" yX5_trace yX5_trace ∈ lw_gd := gd_at 620 (by decide +kernel) (by decide +kernel)
theorem w_621 : Cond.code yX5_trace prog_1_method_29_code 1 (some FieldType.int) ∈ lw_gd := gd_at 621 (by decide +kernel) (by decide +kernel)
theorem w_622 : Cond.methodLink "BallastStepsLaw" 134 yX5_fault ∈ lw_gd := gd_at 622 (by decide +kernel) (by decide +kernel)
theorem w_623 : Cond.instanceMethod yX5_fault ∈ lw_gd := gd_at 623 (by decide +kernel) (by decide +kernel)
theorem w_624 : Cond.selects "BallastSteps" yX5_fault yX5_fault ∈ lw_gd := gd_at 624 (by decide +kernel) (by decide +kernel)
theorem w_625 : Cond.code yX5_fault prog_1_method_30_code 1 (some FieldType.int) ∈ lw_gd := gd_at 625 (by decide +kernel) (by decide +kernel)
theorem w_626 : Cond.methodLink "BallastStepsLaw" 138 yX5_many ∈ lw_gd := gd_at 626 (by decide +kernel) (by decide +kernel)
theorem w_627 : Cond.instanceMethod yX5_many ∈ lw_gd := gd_at 627 (by decide +kernel) (by decide +kernel)
theorem w_628 : Cond.selects "BallastSteps" yX5_many yX5_many ∈ lw_gd := gd_at 628 (by decide +kernel) (by decide +kernel)
theorem w_629 : Cond.code yX5_many prog_1_method_31_code 2 (some FieldType.int) ∈ lw_gd := gd_at 629 (by decide +kernel) (by decide +kernel)
theorem w_630 : Cond.classLink "BallastStepsLaw" 10 "BallastStepsModel" ∈ lw_gd := gd_at 630 (by decide +kernel) (by decide +kernel)
theorem w_631 : Cond.instantiable "BallastStepsModel" 36 ∈ lw_gd := gd_at 631 (by decide +kernel) (by decide +kernel)
theorem w_632 : Cond.methodLink "BallastStepsLaw" 12 yX6_init ∈ lw_gd := gd_at 632 (by decide +kernel) (by decide +kernel)
theorem w_633 : Cond.instanceMethod yX6_init ∈ lw_gd := gd_at 633 (by decide +kernel) (by decide +kernel)
theorem w_634 : Cond.code yX6_init prog_8_method_1_code 1 (none : Option FieldType) ∈ lw_gd := gd_at 634 (by decide +kernel) (by decide +kernel)
theorem w_635 : Cond.methodLink "BallastStepsModel" 1 ({ cls := "java/lang/Object", name := "<init>", desc := "()V" } : Jvm.MethodName) ∈ lw_gd := gd_at 635 (by decide +kernel) (by decide +kernel)
theorem w_636 : Cond.fieldLink "BallastStepsModel" 75 "BallastStepsModel" "fault" "I" ∈ lw_gd := gd_at 636 (by decide +kernel) (by decide +kernel)
theorem w_637 : Cond.fieldLink "BallastStepsModel" 260 "BallastStepsModel" "trace" "I" ∈ lw_gd := gd_at 637 (by decide +kernel) (by decide +kernel)
theorem w_638 : Cond.fieldLink "BallastStepsModel" 9 "BallastStepsModel" "sorts" "[I" ∈ lw_gd := gd_at 638 (by decide +kernel) (by decide +kernel)
theorem w_639 : Cond.fieldLink "BallastStepsModel" 13 "BallastStepsModel" "sheetLong" "[I" ∈ lw_gd := gd_at 639 (by decide +kernel) (by decide +kernel)
theorem w_640 : Cond.fieldLink "BallastStepsModel" 16 "BallastStepsModel" "cells" "[I" ∈ lw_gd := gd_at 640 (by decide +kernel) (by decide +kernel)
theorem w_641 : Cond.fieldLink "BallastStepsModel" 19 "BallastStepsModel" "three" "[I" ∈ lw_gd := gd_at 641 (by decide +kernel) (by decide +kernel)
theorem w_642 : Cond.fieldLink "BallastStepsModel" 89 "BallastStepsModel" "many" "I" ∈ lw_gd := gd_at 642 (by decide +kernel) (by decide +kernel)
theorem w_643 : Cond.fieldLink "BallastStepsModel" 22 "BallastStepsModel" "kind" "[I" ∈ lw_gd := gd_at 643 (by decide +kernel) (by decide +kernel)
theorem w_644 : Cond.fieldLink "BallastStepsModel" 25 "BallastStepsModel" "frame" "[I" ∈ lw_gd := gd_at 644 (by decide +kernel) (by decide +kernel)
theorem w_645 : Cond.fieldLink "BallastStepsModel" 28 "BallastStepsModel" "side" "[I" ∈ lw_gd := gd_at 645 (by decide +kernel) (by decide +kernel)
theorem w_646 : Cond.fieldLink "BallastStepsModel" 31 "BallastStepsModel" "massOf" "[I" ∈ lw_gd := gd_at 646 (by decide +kernel) (by decide +kernel)
theorem w_647 : Cond.fieldLink "BallastStepsModel" 34 "BallastStepsModel" "broken" "[Z" ∈ lw_gd := gd_at 647 (by decide +kernel) (by decide +kernel)
theorem w_648 : Cond.fieldLink "BallastStepsModel" 38 "BallastStepsModel" "bounds" "[I" ∈ lw_gd := gd_at 648 (by decide +kernel) (by decide +kernel)
theorem w_649 : Cond.fieldLink "BallastStepsModel" 144 "BallastStepsModel" "due" "I" ∈ lw_gd := gd_at 649 (by decide +kernel) (by decide +kernel)
theorem w_650 : Cond.fieldLink "BallastStepsModel" 141 "BallastStepsModel" "now" "I" ∈ lw_gd := gd_at 650 (by decide +kernel) (by decide +kernel)
theorem w_651 : Cond.fieldLink "BallastStepsModel" 92 "BallastStepsModel" "at" "I" ∈ lw_gd := gd_at 651 (by decide +kernel) (by decide +kernel)
theorem w_652 : Cond.fieldLink "BallastStepsModel" 95 "BallastStepsModel" "readMany" "I" ∈ lw_gd := gd_at 652 (by decide +kernel) (by decide +kernel)
theorem w_653 : Cond.fieldLink "BallastStepsModel" 116 "BallastStepsModel" "readNow" "I" ∈ lw_gd := gd_at 653 (by decide +kernel) (by decide +kernel)
theorem w_654 : Cond.fieldLink "BallastStepsModel" 119 "BallastStepsModel" "readDue" "I" ∈ lw_gd := gd_at 654 (by decide +kernel) (by decide +kernel)
theorem w_655 : Cond.fieldLink "BallastStepsModel" 41 "BallastStepsModel" "readKind" "[I" ∈ lw_gd := gd_at 655 (by decide +kernel) (by decide +kernel)
theorem w_656 : Cond.fieldLink "BallastStepsModel" 44 "BallastStepsModel" "readFrame" "[I" ∈ lw_gd := gd_at 656 (by decide +kernel) (by decide +kernel)
theorem w_657 : Cond.fieldLink "BallastStepsModel" 47 "BallastStepsModel" "readSide" "[I" ∈ lw_gd := gd_at 657 (by decide +kernel) (by decide +kernel)
theorem w_658 : Cond.fieldLink "BallastStepsModel" 50 "BallastStepsModel" "readMass" "[I" ∈ lw_gd := gd_at 658 (by decide +kernel) (by decide +kernel)
theorem w_659 : Cond.fieldLink "BallastStepsModel" 53 "BallastStepsModel" "loads" "[I" ∈ lw_gd := gd_at 659 (by decide +kernel) (by decide +kernel)
theorem w_660 : Cond.fieldLink "BallastStepsModel" 56 "BallastStepsModel" "moments" "[I" ∈ lw_gd := gd_at 660 (by decide +kernel) (by decide +kernel)
theorem w_661 : Cond.fieldLink "BallastStepsModel" 172 "BallastStepsModel" "trim" "I" ∈ lw_gd := gd_at 661 (by decide +kernel) (by decide +kernel)
theorem w_662 : Cond.fieldLink "BallastStepsModel" 175 "BallastStepsModel" "heel" "I" ∈ lw_gd := gd_at 662 (by decide +kernel) (by decide +kernel)
theorem w_663 : Cond.fieldLink "BallastStepsModel" 178 "BallastStepsModel" "bending" "I" ∈ lw_gd := gd_at 663 (by decide +kernel) (by decide +kernel)
theorem w_664 : Cond.fieldLink "BallastStepsModel" 150 "BallastStepsModel" "isFound" "Z" ∈ lw_gd := gd_at 664 (by decide +kernel) (by decide +kernel)
theorem w_665 : Cond.fieldLink "BallastStepsModel" 59 "BallastStepsModel" "can" "[I" ∈ lw_gd := gd_at 665 (by decide +kernel) (by decide +kernel)
theorem w_666 : Cond.fieldLink "BallastStepsModel" 62 "BallastStepsModel" "left" "[I" ∈ lw_gd := gd_at 666 (by decide +kernel) (by decide +kernel)
theorem w_667 : Cond.fieldLink "BallastStepsModel" 65 "BallastStepsModel" "ways" "[J" ∈ lw_gd := gd_at 667 (by decide +kernel) (by decide +kernel)
theorem w_668 : Cond.fieldLink "BallastStepsModel" 218 "BallastStepsModel" "dayEnd" "I" ∈ lw_gd := gd_at 668 (by decide +kernel) (by decide +kernel)
theorem w_669 : Cond.fieldLink "BallastStepsModel" 69 "BallastStepsModel" "seen" "[Z" ∈ lw_gd := gd_at 669 (by decide +kernel) (by decide +kernel)
theorem w_670 : Cond.fieldLink "BallastStepsModel" 147 "BallastStepsModel" "readings" "I" ∈ lw_gd := gd_at 670 (by decide +kernel) (by decide +kernel)
theorem w_671 : Cond.fieldLink "BallastStepsModel" 72 "BallastStepsModel" "readTrim" "[I" ∈ lw_gd := gd_at 671 (by decide +kernel) (by decide +kernel)
theorem w_672 : Cond.lays "BallastStepsModel" "BallastStepsModel" "fault" "I" ∈ lw_gd := gd_at 672 (by decide +kernel) (by decide +kernel)
theorem w_674 : Cond.lays "BallastStepsModel" "BallastStepsModel" "trace" "I" ∈ lw_gd := gd_at 674 (by decide +kernel) (by decide +kernel)
theorem w_676 : Cond.laysFinal "BallastStepsModel" "BallastStepsModel" "sorts" "[I" ∈ lw_gd := gd_at 676 (by decide +kernel) (by decide +kernel)
theorem w_678 : Cond.laysFinal "BallastStepsModel" "BallastStepsModel" "sheetLong" "[I" ∈ lw_gd := gd_at 678 (by decide +kernel) (by decide +kernel)
theorem w_680 : Cond.laysFinal "BallastStepsModel" "BallastStepsModel" "cells" "[I" ∈ lw_gd := gd_at 680 (by decide +kernel) (by decide +kernel)
theorem w_682 : Cond.laysFinal "BallastStepsModel" "BallastStepsModel" "three" "[I" ∈ lw_gd := gd_at 682 (by decide +kernel) (by decide +kernel)
theorem w_684 : Cond.lays "BallastStepsModel" "BallastStepsModel" "many" "I" ∈ lw_gd := gd_at 684 (by decide +kernel) (by decide +kernel)
theorem w_686 : Cond.laysFinal "BallastStepsModel" "BallastStepsModel" "kind" "[I" ∈ lw_gd := gd_at 686 (by decide +kernel) (by decide +kernel)
theorem w_688 : Cond.laysFinal "BallastStepsModel" "BallastStepsModel" "frame" "[I" ∈ lw_gd := gd_at 688 (by decide +kernel) (by decide +kernel)
theorem w_690 : Cond.laysFinal "BallastStepsModel" "BallastStepsModel" "side" "[I" ∈ lw_gd := gd_at 690 (by decide +kernel) (by decide +kernel)
theorem w_692 : Cond.laysFinal "BallastStepsModel" "BallastStepsModel" "massOf" "[I" ∈ lw_gd := gd_at 692 (by decide +kernel) (by decide +kernel)
theorem w_694 : Cond.laysFinal "BallastStepsModel" "BallastStepsModel" "broken" "[Z" ∈ lw_gd := gd_at 694 (by decide +kernel) (by decide +kernel)
theorem w_696 : Cond.laysFinal "BallastStepsModel" "BallastStepsModel" "bounds" "[I" ∈ lw_gd := gd_at 696 (by decide +kernel) (by decide +kernel)
theorem w_698 : Cond.lays "BallastStepsModel" "BallastStepsModel" "due" "I" ∈ lw_gd := gd_at 698 (by decide +kernel) (by decide +kernel)
theorem w_700 : Cond.lays "BallastStepsModel" "BallastStepsModel" "now" "I" ∈ lw_gd := gd_at 700 (by decide +kernel) (by decide +kernel)
theorem w_702 : Cond.lays "BallastStepsModel" "BallastStepsModel" "at" "I" ∈ lw_gd := gd_at 702 (by decide +kernel) (by decide +kernel)
theorem w_704 : Cond.lays "BallastStepsModel" "BallastStepsModel" "readMany" "I" ∈ lw_gd := gd_at 704 (by decide +kernel) (by decide +kernel)
theorem w_706 : Cond.lays "BallastStepsModel" "BallastStepsModel" "readNow" "I" ∈ lw_gd := gd_at 706 (by decide +kernel) (by decide +kernel)
theorem w_708 : Cond.lays "BallastStepsModel" "BallastStepsModel" "readDue" "I" ∈ lw_gd := gd_at 708 (by decide +kernel) (by decide +kernel)
theorem w_710 : Cond.laysFinal "BallastStepsModel" "BallastStepsModel" "readKind" "[I" ∈ lw_gd := gd_at 710 (by decide +kernel) (by decide +kernel)
theorem w_712 : Cond.laysFinal "BallastStepsModel" "BallastStepsModel" "readFrame" "[I" ∈ lw_gd := gd_at 712 (by decide +kernel) (by decide +kernel)
theorem w_714 : Cond.laysFinal "BallastStepsModel" "BallastStepsModel" "readSide" "[I" ∈ lw_gd := gd_at 714 (by decide +kernel) (by decide +kernel)
theorem w_716 : Cond.laysFinal "BallastStepsModel" "BallastStepsModel" "readMass" "[I" ∈ lw_gd := gd_at 716 (by decide +kernel) (by decide +kernel)
theorem w_718 : Cond.laysFinal "BallastStepsModel" "BallastStepsModel" "loads" "[I" ∈ lw_gd := gd_at 718 (by decide +kernel) (by decide +kernel)
theorem w_720 : Cond.laysFinal "BallastStepsModel" "BallastStepsModel" "moments" "[I" ∈ lw_gd := gd_at 720 (by decide +kernel) (by decide +kernel)
theorem w_722 : Cond.lays "BallastStepsModel" "BallastStepsModel" "trim" "I" ∈ lw_gd := gd_at 722 (by decide +kernel) (by decide +kernel)
theorem w_724 : Cond.lays "BallastStepsModel" "BallastStepsModel" "heel" "I" ∈ lw_gd := gd_at 724 (by decide +kernel) (by decide +kernel)
theorem w_726 : Cond.lays "BallastStepsModel" "BallastStepsModel" "bending" "I" ∈ lw_gd := gd_at 726 (by decide +kernel) (by decide +kernel)
theorem w_728 : Cond.lays "BallastStepsModel" "BallastStepsModel" "isFound" "Z" ∈ lw_gd := gd_at 728 (by decide +kernel) (by decide +kernel)
theorem w_730 : Cond.laysFinal "BallastStepsModel" "BallastStepsModel" "can" "[I" ∈ lw_gd := gd_at 730 (by decide +kernel) (by decide +kernel)
theorem w_732 : Cond.laysFinal "BallastStepsModel" "BallastStepsModel" "left" "[I" ∈ lw_gd := gd_at 732 (by decide +kernel) (by decide +kernel)
theorem w_734 : Cond.laysFinal "BallastStepsModel" "BallastStepsModel" "ways" "[J" ∈ lw_gd := gd_at 734 (by decide +kernel) (by decide +kernel)
theorem w_736 : Cond.lays "BallastStepsModel" "BallastStepsModel" "dayEnd" "I" ∈ lw_gd := gd_at 736 (by decide +kernel) (by decide +kernel)
theorem w_738 : Cond.laysFinal "BallastStepsModel" "BallastStepsModel" "seen" "[Z" ∈ lw_gd := gd_at 738 (by decide +kernel) (by decide +kernel)
theorem w_740 : Cond.lays "BallastStepsModel" "BallastStepsModel" "readings" "I" ∈ lw_gd := gd_at 740 (by decide +kernel) (by decide +kernel)
theorem w_742 : Cond.laysFinal "BallastStepsModel" "BallastStepsModel" "readTrim" "[I" ∈ lw_gd := gd_at 742 (by decide +kernel) (by decide +kernel)
theorem w_745 : Cond.methodLink "BallastStepsLaw" 17 yX6_ship ∈ lw_gd := gd_at 745 (by decide +kernel) (by decide +kernel)
theorem w_746 : Cond.instanceMethod yX6_ship ∈ lw_gd := gd_at 746 (by decide +kernel) (by decide +kernel)
theorem w_747 : Cond.selects "BallastStepsModel" yX6_ship yX6_ship ∈ lw_gd := gd_at 747 (by decide +kernel) (by decide +kernel)
theorem w_748 : Cond.code yX6_ship prog_8_method_17_code 8 (some FieldType.int) ∈ lw_gd := gd_at 748 (by decide +kernel) (by decide +kernel)
theorem w_749 : Cond.methodLink "BallastStepsModel" 125 yX6_isSheet ∈ lw_gd := gd_at 749 (by decide +kernel) (by decide +kernel)
theorem w_750 : Cond.static yX6_isSheet ∈ lw_gd := gd_at 750 (by decide +kernel) (by decide +kernel)
theorem w_751 : Cond.code yX6_isSheet prog_8_method_5_code 1 (some FieldType.boolean) ∈ lw_gd := gd_at 751 (by decide +kernel) (by decide +kernel)
theorem w_752 : Cond.constantLong "BallastStepsModel" 81 (3 : Int64) ∈ lw_gd := gd_at 752 (by decide +kernel) (by decide +kernel)
theorem w_753 : Cond.methodLink "BallastStepsModel" 83 yX6_within ∈ lw_gd := gd_at 753 (by decide +kernel) (by decide +kernel)
theorem w_754 : Cond.static yX6_within ∈ lw_gd := gd_at 754 (by decide +kernel) (by decide +kernel)
theorem w_755 : Cond.code yX6_within prog_8_method_4_code 6 (some FieldType.boolean) ∈ lw_gd := gd_at 755 (by decide +kernel) (by decide +kernel)
theorem w_756 : Cond.methodLink "BallastStepsModel" 128 yX6_isSort ∈ lw_gd := gd_at 756 (by decide +kernel) (by decide +kernel)
theorem w_757 : Cond.static yX6_isSort ∈ lw_gd := gd_at 757 (by decide +kernel) (by decide +kernel)
theorem w_758 : Cond.code yX6_isSort prog_8_method_6_code 1 (some FieldType.boolean) ∈ lw_gd := gd_at 758 (by decide +kernel) (by decide +kernel)
theorem w_759 : Cond.constantLong "BallastStepsModel" 87 (2 : Int64) ∈ lw_gd := gd_at 759 (by decide +kernel) (by decide +kernel)
theorem w_760 : Cond.methodLink "BallastStepsModel" 131 yX6_against ∈ lw_gd := gd_at 760 (by decide +kernel) (by decide +kernel)
theorem w_762 : Cond.instanceMethod yX6_against ∈ lw_gd := gd_at 762 (by decide +kernel) (by decide +kernel)
theorem w_763 : Cond.code yX6_against prog_8_method_7_code 5 (some FieldType.int) ∈ lw_gd := gd_at 763 (by decide +kernel) (by decide +kernel)
theorem w_764 : Cond.methodLink "BallastStepsModel" 135 yX6_fails ∈ lw_gd := gd_at 764 (by decide +kernel) (by decide +kernel)
theorem w_766 : Cond.instanceMethod yX6_fails ∈ lw_gd := gd_at 766 (by decide +kernel) (by decide +kernel)
theorem w_767 : Cond.code yX6_fails prog_8_method_2_code 2 (some FieldType.int) ∈ lw_gd := gd_at 767 (by decide +kernel) (by decide +kernel)
theorem w_768 : Cond.methodLink "BallastStepsModel" 138 yX6_readAll ∈ lw_gd := gd_at 768 (by decide +kernel) (by decide +kernel)
theorem w_770 : Cond.instanceMethod yX6_readAll ∈ lw_gd := gd_at 770 (by decide +kernel) (by decide +kernel)
theorem w_771 : Cond.code yX6_readAll prog_8_method_16_code 2 (some FieldType.boolean) ∈ lw_gd := gd_at 771 (by decide +kernel) (by decide +kernel)
theorem w_772 : Cond.methodLink "BallastStepsModel" 98 yX6_code ∈ lw_gd := gd_at 772 (by decide +kernel) (by decide +kernel)
theorem w_774 : Cond.instanceMethod yX6_code ∈ lw_gd := gd_at 774 (by decide +kernel) (by decide +kernel)
theorem w_775 : Cond.code yX6_code prog_8_method_10_code 2 (some FieldType.int) ∈ lw_gd := gd_at 775 (by decide +kernel) (by decide +kernel)
theorem w_776 : Cond.methodLink "BallastStepsModel" 122 yX6_readTank ∈ lw_gd := gd_at 776 (by decide +kernel) (by decide +kernel)
theorem w_778 : Cond.instanceMethod yX6_readTank ∈ lw_gd := gd_at 778 (by decide +kernel) (by decide +kernel)
theorem w_779 : Cond.code yX6_readTank prog_8_method_15_code 4 (some FieldType.boolean) ∈ lw_gd := gd_at 779 (by decide +kernel) (by decide +kernel)
theorem w_780 : Cond.methodLink "BallastStepsModel" 102 yX6_kindBy ∈ lw_gd := gd_at 780 (by decide +kernel) (by decide +kernel)
theorem w_781 : Cond.static yX6_kindBy ∈ lw_gd := gd_at 781 (by decide +kernel) (by decide +kernel)
theorem w_782 : Cond.code yX6_kindBy prog_8_method_11_code 1 (some FieldType.int) ∈ lw_gd := gd_at 782 (by decide +kernel) (by decide +kernel)
theorem w_783 : Cond.methodLink "BallastStepsModel" 105 yX6_takes ∈ lw_gd := gd_at 783 (by decide +kernel) (by decide +kernel)
theorem w_785 : Cond.instanceMethod yX6_takes ∈ lw_gd := gd_at 785 (by decide +kernel) (by decide +kernel)
theorem w_786 : Cond.code yX6_takes prog_8_method_14_code 2 (some FieldType.boolean) ∈ lw_gd := gd_at 786 (by decide +kernel) (by decide +kernel)
theorem w_787 : Cond.methodLink "BallastStepsModel" 109 yX6_digitBy ∈ lw_gd := gd_at 787 (by decide +kernel) (by decide +kernel)
theorem w_788 : Cond.static yX6_digitBy ∈ lw_gd := gd_at 788 (by decide +kernel) (by decide +kernel)
theorem w_789 : Cond.code yX6_digitBy prog_8_method_13_code 3 (some FieldType.int) ∈ lw_gd := gd_at 789 (by decide +kernel) (by decide +kernel)
theorem w_790 : Cond.methodLink "BallastStepsModel" 113 yX6_sideBy ∈ lw_gd := gd_at 790 (by decide +kernel) (by decide +kernel)
theorem w_791 : Cond.static yX6_sideBy ∈ lw_gd := gd_at 791 (by decide +kernel) (by decide +kernel)
theorem w_792 : Cond.code yX6_sideBy prog_8_method_12_code 1 (some FieldType.int) ∈ lw_gd := gd_at 792 (by decide +kernel) (by decide +kernel)
theorem w_793 : Cond.methodLink "BallastStepsLaw" 22 yX6_ofTank ∈ lw_gd := gd_at 793 (by decide +kernel) (by decide +kernel)
theorem w_794 : Cond.instanceMethod yX6_ofTank ∈ lw_gd := gd_at 794 (by decide +kernel) (by decide +kernel)
theorem w_795 : Cond.selects "BallastStepsModel" yX6_ofTank yX6_ofTank ∈ lw_gd := gd_at 795 (by decide +kernel) (by decide +kernel)
theorem w_796 : Cond.code yX6_ofTank prog_8_method_19_code 3 (some FieldType.int) ∈ lw_gd := gd_at 796 (by decide +kernel) (by decide +kernel)
theorem w_797 : Cond.methodLink "BallastStepsModel" 154 yX6_isTank ∈ lw_gd := gd_at 797 (by decide +kernel) (by decide +kernel)
theorem w_799 : Cond.instanceMethod yX6_isTank ∈ lw_gd := gd_at 799 (by decide +kernel) (by decide +kernel)
theorem w_800 : Cond.code yX6_isTank prog_8_method_8_code 2 (some FieldType.boolean) ∈ lw_gd := gd_at 800 (by decide +kernel) (by decide +kernel)
theorem w_801 : Cond.methodLink "BallastStepsModel" 157 yX6_weightOf ∈ lw_gd := gd_at 801 (by decide +kernel) (by decide +kernel)
theorem w_803 : Cond.instanceMethod yX6_weightOf ∈ lw_gd := gd_at 803 (by decide +kernel) (by decide +kernel)
theorem w_804 : Cond.code yX6_weightOf prog_8_method_18_code 2 (some FieldType.int) ∈ lw_gd := gd_at 804 (by decide +kernel) (by decide +kernel)
theorem w_805 : Cond.methodLink "BallastStepsModel" 160 yX6_waterIn ∈ lw_gd := gd_at 805 (by decide +kernel) (by decide +kernel)
theorem w_807 : Cond.instanceMethod yX6_waterIn ∈ lw_gd := gd_at 807 (by decide +kernel) (by decide +kernel)
theorem w_808 : Cond.code yX6_waterIn prog_8_method_9_code 3 (some FieldType.int) ∈ lw_gd := gd_at 808 (by decide +kernel) (by decide +kernel)
theorem w_809 : Cond.methodLink "BallastStepsModel" 164 yX6_canPump ∈ lw_gd := gd_at 809 (by decide +kernel) (by decide +kernel)
theorem w_811 : Cond.instanceMethod yX6_canPump ∈ lw_gd := gd_at 811 (by decide +kernel) (by decide +kernel)
theorem w_812 : Cond.code yX6_canPump prog_8_method_28_code 3 (some FieldType.boolean) ∈ lw_gd := gd_at 812 (by decide +kernel) (by decide +kernel)
theorem w_813 : Cond.methodLink "BallastStepsModel" 188 yX6_isSafe ∈ lw_gd := gd_at 813 (by decide +kernel) (by decide +kernel)
theorem w_815 : Cond.instanceMethod yX6_isSafe ∈ lw_gd := gd_at 815 (by decide +kernel) (by decide +kernel)
theorem w_816 : Cond.code yX6_isSafe prog_8_method_26_code 3 (some FieldType.boolean) ∈ lw_gd := gd_at 816 (by decide +kernel) (by decide +kernel)
theorem w_817 : Cond.methodLink "BallastStepsModel" 184 yX6_weigh ∈ lw_gd := gd_at 817 (by decide +kernel) (by decide +kernel)
theorem w_819 : Cond.instanceMethod yX6_weigh ∈ lw_gd := gd_at 819 (by decide +kernel) (by decide +kernel)
theorem w_820 : Cond.code yX6_weigh prog_8_method_25_code 7 (none : Option FieldType) ∈ lw_gd := gd_at 820 (by decide +kernel) (by decide +kernel)
theorem w_821 : Cond.methodLink "BallastStepsModel" 181 yX6_plain ∈ lw_gd := gd_at 821 (by decide +kernel) (by decide +kernel)
theorem w_822 : Cond.static yX6_plain ∈ lw_gd := gd_at 822 (by decide +kernel) (by decide +kernel)
theorem w_823 : Cond.code yX6_plain prog_8_method_24_code 1 (some FieldType.int) ∈ lw_gd := gd_at 823 (by decide +kernel) (by decide +kernel)
theorem w_824 : Cond.methodLink "BallastStepsModel" 191 yX6_pumped ∈ lw_gd := gd_at 824 (by decide +kernel) (by decide +kernel)
theorem w_826 : Cond.instanceMethod yX6_pumped ∈ lw_gd := gd_at 826 (by decide +kernel) (by decide +kernel)
theorem w_827 : Cond.code yX6_pumped prog_8_method_27_code 4 (some FieldType.int) ∈ lw_gd := gd_at 827 (by decide +kernel) (by decide +kernel)
theorem w_828 : Cond.methodLink "BallastStepsLaw" 26 yX6_mass ∈ lw_gd := gd_at 828 (by decide +kernel) (by decide +kernel)
theorem w_829 : Cond.instanceMethod yX6_mass ∈ lw_gd := gd_at 829 (by decide +kernel) (by decide +kernel)
theorem w_830 : Cond.selects "BallastStepsModel" yX6_mass yX6_mass ∈ lw_gd := gd_at 830 (by decide +kernel) (by decide +kernel)
theorem w_831 : Cond.code yX6_mass prog_8_method_20_code 4 (some FieldType.int) ∈ lw_gd := gd_at 831 (by decide +kernel) (by decide +kernel)
theorem w_832 : Cond.constantLong "BallastStepsModel" 168 (9 : Int64) ∈ lw_gd := gd_at 832 (by decide +kernel) (by decide +kernel)
theorem w_833 : Cond.methodLink "BallastStepsLaw" 30 yX6_bound ∈ lw_gd := gd_at 833 (by decide +kernel) (by decide +kernel)
theorem w_834 : Cond.instanceMethod yX6_bound ∈ lw_gd := gd_at 834 (by decide +kernel) (by decide +kernel)
theorem w_835 : Cond.selects "BallastStepsModel" yX6_bound yX6_bound ∈ lw_gd := gd_at 835 (by decide +kernel) (by decide +kernel)
theorem w_836 : Cond.code yX6_bound prog_8_method_21_code 4 (some FieldType.int) ∈ lw_gd := gd_at 836 (by decide +kernel) (by decide +kernel)
theorem w_837 : Cond.constantLong "BallastStepsModel" 170 (999 : Int64) ∈ lw_gd := gd_at 837 (by decide +kernel) (by decide +kernel)
theorem w_838 : Cond.methodLink "BallastStepsLaw" 35 yX6_due ∈ lw_gd := gd_at 838 (by decide +kernel) (by decide +kernel)
theorem w_839 : Cond.instanceMethod yX6_due ∈ lw_gd := gd_at 839 (by decide +kernel) (by decide +kernel)
theorem w_840 : Cond.selects "BallastStepsModel" yX6_due yX6_due ∈ lw_gd := gd_at 840 (by decide +kernel) (by decide +kernel)
theorem w_841 : Cond.code yX6_due prog_8_method_22_code 3 (some FieldType.int) ∈ lw_gd := gd_at 841 (by decide +kernel) (by decide +kernel)
theorem w_842 : Cond.methodLink "BallastStepsLaw" 39 yX6_fail ∈ lw_gd := gd_at 842 (by decide +kernel) (by decide +kernel)
theorem w_843 : Cond.instanceMethod yX6_fail ∈ lw_gd := gd_at 843 (by decide +kernel) (by decide +kernel)
theorem w_844 : Cond.selects "BallastStepsModel" yX6_fail yX6_fail ∈ lw_gd := gd_at 844 (by decide +kernel) (by decide +kernel)
theorem w_845 : Cond.code yX6_fail prog_8_method_23_code 2 (some FieldType.int) ∈ lw_gd := gd_at 845 (by decide +kernel) (by decide +kernel)
theorem w_846 : Cond.methodLink "BallastStepsLaw" 43 yX6_measure ∈ lw_gd := gd_at 846 (by decide +kernel) (by decide +kernel)
theorem w_847 : Cond.instanceMethod yX6_measure ∈ lw_gd := gd_at 847 (by decide +kernel) (by decide +kernel)
theorem w_848 : Cond.selects "BallastStepsModel" yX6_measure yX6_measure ∈ lw_gd := gd_at 848 (by decide +kernel) (by decide +kernel)
theorem w_849 : Cond.code yX6_measure prog_8_method_30_code 2 (some FieldType.int) ∈ lw_gd := gd_at 849 (by decide +kernel) (by decide +kernel)
theorem w_850 : Cond.methodLink "BallastStepsModel" 194 yX6_measured ∈ lw_gd := gd_at 850 (by decide +kernel) (by decide +kernel)
theorem w_852 : Cond.instanceMethod yX6_measured ∈ lw_gd := gd_at 852 (by decide +kernel) (by decide +kernel)
theorem w_853 : Cond.code yX6_measured prog_8_method_29_code 3 (some FieldType.int) ∈ lw_gd := gd_at 853 (by decide +kernel) (by decide +kernel)
theorem w_854 : Cond.methodLink "BallastStepsLaw" 47 yX6_moment ∈ lw_gd := gd_at 854 (by decide +kernel) (by decide +kernel)
theorem w_855 : Cond.instanceMethod yX6_moment ∈ lw_gd := gd_at 855 (by decide +kernel) (by decide +kernel)
theorem w_856 : Cond.selects "BallastStepsModel" yX6_moment yX6_moment ∈ lw_gd := gd_at 856 (by decide +kernel) (by decide +kernel)
theorem w_857 : Cond.code yX6_moment prog_8_method_31_code 2 (some FieldType.int) ∈ lw_gd := gd_at 857 (by decide +kernel) (by decide +kernel)
theorem w_858 : Cond.constantLong "BallastStepsModel" 197 (6 : Int64) ∈ lw_gd := gd_at 858 (by decide +kernel) (by decide +kernel)
theorem w_859 : Cond.methodLink "BallastStepsLaw" 51 yX6_pump ∈ lw_gd := gd_at 859 (by decide +kernel) (by decide +kernel)
theorem w_860 : Cond.instanceMethod yX6_pump ∈ lw_gd := gd_at 860 (by decide +kernel) (by decide +kernel)
theorem w_861 : Cond.selects "BallastStepsModel" yX6_pump yX6_pump ∈ lw_gd := gd_at 861 (by decide +kernel) (by decide +kernel)
theorem w_862 : Cond.code yX6_pump prog_8_method_32_code 2 (some FieldType.int) ∈ lw_gd := gd_at 862 (by decide +kernel) (by decide +kernel)
theorem w_863 : Cond.methodLink "BallastStepsLaw" 55 yX6_plan ∈ lw_gd := gd_at 863 (by decide +kernel) (by decide +kernel)
theorem w_864 : Cond.instanceMethod yX6_plan ∈ lw_gd := gd_at 864 (by decide +kernel) (by decide +kernel)
theorem w_865 : Cond.selects "BallastStepsModel" yX6_plan yX6_plan ∈ lw_gd := gd_at 865 (by decide +kernel) (by decide +kernel)
theorem w_866 : Cond.code yX6_plan prog_8_method_38_code 4 (some FieldType.int) ∈ lw_gd := gd_at 866 (by decide +kernel) (by decide +kernel)
theorem w_867 : Cond.constantLong "BallastStepsModel" 208 (-1 : Int64) ∈ lw_gd := gd_at 867 (by decide +kernel) (by decide +kernel)
theorem w_868 : Cond.constantLong "BallastStepsModel" 210 (19 : Int64) ∈ lw_gd := gd_at 868 (by decide +kernel) (by decide +kernel)
theorem w_869 : Cond.methodLink "BallastStepsModel" 212 yX6_findLeft ∈ lw_gd := gd_at 869 (by decide +kernel) (by decide +kernel)
theorem w_871 : Cond.instanceMethod yX6_findLeft ∈ lw_gd := gd_at 871 (by decide +kernel) (by decide +kernel)
theorem w_872 : Cond.code yX6_findLeft prog_8_method_36_code 2 (none : Option FieldType) ∈ lw_gd := gd_at 872 (by decide +kernel) (by decide +kernel)
theorem w_873 : Cond.methodLink "BallastStepsModel" 202 yX6_prepare ∈ lw_gd := gd_at 873 (by decide +kernel) (by decide +kernel)
theorem w_875 : Cond.instanceMethod yX6_prepare ∈ lw_gd := gd_at 875 (by decide +kernel) (by decide +kernel)
theorem w_876 : Cond.code yX6_prepare prog_8_method_34_code 3 (none : Option FieldType) ∈ lw_gd := gd_at 876 (by decide +kernel) (by decide +kernel)
theorem w_877 : Cond.methodLink "BallastStepsModel" 199 yX6_isEnd ∈ lw_gd := gd_at 877 (by decide +kernel) (by decide +kernel)
theorem w_879 : Cond.instanceMethod yX6_isEnd ∈ lw_gd := gd_at 879 (by decide +kernel) (by decide +kernel)
theorem w_880 : Cond.code yX6_isEnd prog_8_method_33_code 6 (some FieldType.boolean) ∈ lw_gd := gd_at 880 (by decide +kernel) (by decide +kernel)
theorem w_881 : Cond.methodLink "BallastStepsModel" 205 yX6_findNext ∈ lw_gd := gd_at 881 (by decide +kernel) (by decide +kernel)
theorem w_883 : Cond.instanceMethod yX6_findNext ∈ lw_gd := gd_at 883 (by decide +kernel) (by decide +kernel)
theorem w_884 : Cond.code yX6_findNext prog_8_method_35_code 7 (some FieldType.boolean) ∈ lw_gd := gd_at 884 (by decide +kernel) (by decide +kernel)
theorem w_885 : Cond.methodLink "BallastStepsModel" 215 yX6_firstOf ∈ lw_gd := gd_at 885 (by decide +kernel) (by decide +kernel)
theorem w_887 : Cond.instanceMethod yX6_firstOf ∈ lw_gd := gd_at 887 (by decide +kernel) (by decide +kernel)
theorem w_888 : Cond.code yX6_firstOf prog_8_method_37_code 4 (some FieldType.int) ∈ lw_gd := gd_at 888 (by decide +kernel) (by decide +kernel)
theorem w_889 : Cond.methodLink "BallastStepsLaw" 60 yX6_plans ∈ lw_gd := gd_at 889 (by decide +kernel) (by decide +kernel)
theorem w_890 : Cond.instanceMethod yX6_plans ∈ lw_gd := gd_at 890 (by decide +kernel) (by decide +kernel)
theorem w_891 : Cond.selects "BallastStepsModel" yX6_plans yX6_plans ∈ lw_gd := gd_at 891 (by decide +kernel) (by decide +kernel)
theorem w_892 : Cond.code yX6_plans prog_8_method_39_code 1 (some FieldType.long) ∈ lw_gd := gd_at 892 (by decide +kernel) (by decide +kernel)
theorem w_893 : Cond.constantLong "BallastStepsModel" 79 (-9223372036854775808 : Int64) ∈ lw_gd := gd_at 893 (by decide +kernel) (by decide +kernel)
theorem w_894 : Cond.methodLink "BallastStepsLaw" 65 yX6_day ∈ lw_gd := gd_at 894 (by decide +kernel) (by decide +kernel)
theorem w_895 : Cond.instanceMethod yX6_day ∈ lw_gd := gd_at 895 (by decide +kernel) (by decide +kernel)
theorem w_896 : Cond.selects "BallastStepsModel" yX6_day yX6_day ∈ lw_gd := gd_at 896 (by decide +kernel) (by decide +kernel)
theorem w_897 : Cond.code yX6_day prog_8_method_43_code 9 (some FieldType.int) ∈ lw_gd := gd_at 897 (by decide +kernel) (by decide +kernel)
theorem w_898 : Cond.constantLong "BallastStepsModel" 225 (30 : Int64) ∈ lw_gd := gd_at 898 (by decide +kernel) (by decide +kernel)
theorem w_899 : Cond.constantLong "BallastStepsModel" 227 (4 : Int64) ∈ lw_gd := gd_at 899 (by decide +kernel) (by decide +kernel)
theorem w_900 : Cond.constantLong "BallastStepsModel" 229 (10 : Int64) ∈ lw_gd := gd_at 900 (by decide +kernel) (by decide +kernel)
theorem w_901 : Cond.constantLong "BallastStepsModel" 231 (15 : Int64) ∈ lw_gd := gd_at 901 (by decide +kernel) (by decide +kernel)
theorem w_902 : Cond.constantLong "BallastStepsModel" 233 (5 : Int64) ∈ lw_gd := gd_at 902 (by decide +kernel) (by decide +kernel)
theorem w_903 : Cond.methodLink "BallastStepsModel" 235 yX6_goDay ∈ lw_gd := gd_at 903 (by decide +kernel) (by decide +kernel)
theorem w_905 : Cond.instanceMethod yX6_goDay ∈ lw_gd := gd_at 905 (by decide +kernel) (by decide +kernel)
theorem w_906 : Cond.code yX6_goDay prog_8_method_40_code 5 (some FieldType.int) ∈ lw_gd := gd_at 906 (by decide +kernel) (by decide +kernel)
theorem w_907 : Cond.methodLink "BallastStepsModel" 238 yX6_tellDay ∈ lw_gd := gd_at 907 (by decide +kernel) (by decide +kernel)
theorem w_909 : Cond.instanceMethod yX6_tellDay ∈ lw_gd := gd_at 909 (by decide +kernel) (by decide +kernel)
theorem w_910 : Cond.code yX6_tellDay prog_8_method_42_code 2 (some FieldType.int) ∈ lw_gd := gd_at 910 (by decide +kernel) (by decide +kernel)
theorem w_911 : Cond.methodLink "BallastStepsModel" 221 yX6_countOf ∈ lw_gd := gd_at 911 (by decide +kernel) (by decide +kernel)
theorem w_913 : Cond.instanceMethod yX6_countOf ∈ lw_gd := gd_at 913 (by decide +kernel) (by decide +kernel)
theorem w_914 : Cond.code yX6_countOf prog_8_method_41_code 6 (some FieldType.int) ∈ lw_gd := gd_at 914 (by decide +kernel) (by decide +kernel)
theorem w_915 : Cond.methodLink "BallastStepsLaw" 70 yX6_states ∈ lw_gd := gd_at 915 (by decide +kernel) (by decide +kernel)
theorem w_916 : Cond.instanceMethod yX6_states ∈ lw_gd := gd_at 916 (by decide +kernel) (by decide +kernel)
theorem w_917 : Cond.selects "BallastStepsModel" yX6_states yX6_states ∈ lw_gd := gd_at 917 (by decide +kernel) (by decide +kernel)
theorem w_918 : Cond.code yX6_states prog_8_method_45_code 4 (some FieldType.int) ∈ lw_gd := gd_at 918 (by decide +kernel) (by decide +kernel)
theorem w_919 : Cond.methodLink "BallastStepsModel" 241 yX6_seesMore ∈ lw_gd := gd_at 919 (by decide +kernel) (by decide +kernel)
theorem w_921 : Cond.instanceMethod yX6_seesMore ∈ lw_gd := gd_at 921 (by decide +kernel) (by decide +kernel)
theorem w_922 : Cond.code yX6_seesMore prog_8_method_44_code 6 (some FieldType.boolean) ∈ lw_gd := gd_at 922 (by decide +kernel) (by decide +kernel)
theorem w_923 : Cond.methodLink "BallastStepsLaw" 74 yX6_worst ∈ lw_gd := gd_at 923 (by decide +kernel) (by decide +kernel)
theorem w_924 : Cond.instanceMethod yX6_worst ∈ lw_gd := gd_at 924 (by decide +kernel) (by decide +kernel)
theorem w_925 : Cond.selects "BallastStepsModel" yX6_worst yX6_worst ∈ lw_gd := gd_at 925 (by decide +kernel) (by decide +kernel)
theorem w_926 : Cond.code yX6_worst prog_8_method_46_code 5 (some FieldType.int) ∈ lw_gd := gd_at 926 (by decide +kernel) (by decide +kernel)
theorem w_927 : Cond.methodLink "BallastStepsLaw" 78 yX6_reading ∈ lw_gd := gd_at 927 (by decide +kernel) (by decide +kernel)
theorem w_928 : Cond.instanceMethod yX6_reading ∈ lw_gd := gd_at 928 (by decide +kernel) (by decide +kernel)
theorem w_929 : Cond.selects "BallastStepsModel" yX6_reading yX6_reading ∈ lw_gd := gd_at 929 (by decide +kernel) (by decide +kernel)
theorem w_930 : Cond.code yX6_reading prog_8_method_47_code 2 (some FieldType.int) ∈ lw_gd := gd_at 930 (by decide +kernel) (by decide +kernel)
theorem w_931 : Cond.constantLong "BallastStepsModel" 245 (-500 : Int64) ∈ lw_gd := gd_at 931 (by decide +kernel) (by decide +kernel)
theorem w_932 : Cond.constantLong "BallastStepsModel" 247 (500 : Int64) ∈ lw_gd := gd_at 932 (by decide +kernel) (by decide +kernel)
theorem w_933 : Cond.methodLink "BallastStepsLaw" 82 yX6_back ∈ lw_gd := gd_at 933 (by decide +kernel) (by decide +kernel)
theorem w_934 : Cond.instanceMethod yX6_back ∈ lw_gd := gd_at 934 (by decide +kernel) (by decide +kernel)
theorem w_935 : Cond.selects "BallastStepsModel" yX6_back yX6_back ∈ lw_gd := gd_at 935 (by decide +kernel) (by decide +kernel)
theorem w_936 : Cond.code yX6_back prog_8_method_48_code 2 (some FieldType.int) ∈ lw_gd := gd_at 936 (by decide +kernel) (by decide +kernel)
theorem w_937 : Cond.methodLink "BallastStepsLaw" 86 yX6_kinds ∈ lw_gd := gd_at 937 (by decide +kernel) (by decide +kernel)
theorem w_938 : Cond.instanceMethod yX6_kinds ∈ lw_gd := gd_at 938 (by decide +kernel) (by decide +kernel)
theorem w_939 : Cond.selects "BallastStepsModel" yX6_kinds yX6_kinds ∈ lw_gd := gd_at 939 (by decide +kernel) (by decide +kernel)
theorem w_940 : Cond.code yX6_kinds prog_8_method_50_code 5 (some FieldType.int) ∈ lw_gd := gd_at 940 (by decide +kernel) (by decide +kernel)
theorem w_941 : Cond.methodLink "BallastStepsModel" 249 yX6_areSo ∈ lw_gd := gd_at 941 (by decide +kernel) (by decide +kernel)
theorem w_943 : Cond.instanceMethod yX6_areSo ∈ lw_gd := gd_at 943 (by decide +kernel) (by decide +kernel)
theorem w_944 : Cond.code yX6_areSo prog_8_method_49_code 3 (some FieldType.boolean) ∈ lw_gd := gd_at 944 (by decide +kernel) (by decide +kernel)
theorem w_945 : Cond.methodLink "BallastStepsLaw" 90 yX6_masses ∈ lw_gd := gd_at 945 (by decide +kernel) (by decide +kernel)
theorem w_946 : Cond.instanceMethod yX6_masses ∈ lw_gd := gd_at 946 (by decide +kernel) (by decide +kernel)
theorem w_947 : Cond.selects "BallastStepsModel" yX6_masses yX6_masses ∈ lw_gd := gd_at 947 (by decide +kernel) (by decide +kernel)
theorem w_948 : Cond.code yX6_masses prog_8_method_51_code 5 (some FieldType.int) ∈ lw_gd := gd_at 948 (by decide +kernel) (by decide +kernel)
theorem w_949 : Cond.methodLink "BallastStepsLaw" 95 yX6_odds ∈ lw_gd := gd_at 949 (by decide +kernel) (by decide +kernel)
theorem w_950 : Cond.instanceMethod yX6_odds ∈ lw_gd := gd_at 950 (by decide +kernel) (by decide +kernel)
theorem w_951 : Cond.selects "BallastStepsModel" yX6_odds yX6_odds ∈ lw_gd := gd_at 951 (by decide +kernel) (by decide +kernel)
theorem w_952 : Cond.code yX6_odds prog_8_method_53_code 6 (some FieldType.long) ∈ lw_gd := gd_at 952 (by decide +kernel) (by decide +kernel)
theorem w_953 : Cond.methodLink "BallastStepsModel" 252 yX6_inLeastTerms ∈ lw_gd := gd_at 953 (by decide +kernel) (by decide +kernel)
theorem w_954 : Cond.static yX6_inLeastTerms ∈ lw_gd := gd_at 954 (by decide +kernel) (by decide +kernel)
theorem w_955 : Cond.code yX6_inLeastTerms prog_8_method_52_code 6 (some FieldType.long) ∈ lw_gd := gd_at 955 (by decide +kernel) (by decide +kernel)
theorem w_956 : Cond.methodLink "BallastStepsLaw" 100 yX6_sheet ∈ lw_gd := gd_at 956 (by decide +kernel) (by decide +kernel)
theorem w_957 : Cond.instanceMethod yX6_sheet ∈ lw_gd := gd_at 957 (by decide +kernel) (by decide +kernel)
theorem w_958 : Cond.selects "BallastStepsModel" yX6_sheet yX6_sheet ∈ lw_gd := gd_at 958 (by decide +kernel) (by decide +kernel)
theorem w_959 : Cond.code yX6_sheet prog_8_method_54_code 5 (some FieldType.int) ∈ lw_gd := gd_at 959 (by decide +kernel) (by decide +kernel)
theorem w_960 : Cond.methodLink "BallastStepsLaw" 104 yX6_lose ∈ lw_gd := gd_at 960 (by decide +kernel) (by decide +kernel)
theorem w_961 : Cond.instanceMethod yX6_lose ∈ lw_gd := gd_at 961 (by decide +kernel) (by decide +kernel)
theorem w_962 : Cond.selects "BallastStepsModel" yX6_lose yX6_lose ∈ lw_gd := gd_at 962 (by decide +kernel) (by decide +kernel)
theorem w_963 : Cond.code yX6_lose prog_8_method_55_code 3 (some FieldType.int) ∈ lw_gd := gd_at 963 (by decide +kernel) (by decide +kernel)
theorem w_964 : Cond.methodLink "BallastStepsLaw" 108 yX6_put ∈ lw_gd := gd_at 964 (by decide +kernel) (by decide +kernel)
theorem w_965 : Cond.instanceMethod yX6_put ∈ lw_gd := gd_at 965 (by decide +kernel) (by decide +kernel)
theorem w_966 : Cond.selects "BallastStepsModel" yX6_put yX6_put ∈ lw_gd := gd_at 966 (by decide +kernel) (by decide +kernel)
theorem w_967 : Cond.code yX6_put prog_8_method_56_code 4 (some FieldType.int) ∈ lw_gd := gd_at 967 (by decide +kernel) (by decide +kernel)
theorem w_968 : Cond.methodLink "BallastStepsLaw" 113 yX6_cell ∈ lw_gd := gd_at 968 (by decide +kernel) (by decide +kernel)
theorem w_969 : Cond.instanceMethod yX6_cell ∈ lw_gd := gd_at 969 (by decide +kernel) (by decide +kernel)
theorem w_970 : Cond.selects "BallastStepsModel" yX6_cell yX6_cell ∈ lw_gd := gd_at 970 (by decide +kernel) (by decide +kernel)
theorem w_971 : Cond.code yX6_cell prog_8_method_57_code 4 (some FieldType.long) ∈ lw_gd := gd_at 971 (by decide +kernel) (by decide +kernel)
theorem w_972 : Cond.methodLink "BallastStepsModel" 256 yX6_lost ∈ lw_gd := gd_at 972 (by decide +kernel) (by decide +kernel)
theorem w_974 : Cond.instanceMethod yX6_lost ∈ lw_gd := gd_at 974 (by decide +kernel) (by decide +kernel)
theorem w_975 : Cond.code yX6_lost prog_8_method_3_code 2 (some FieldType.long) ∈ lw_gd := gd_at 975 (by decide +kernel) (by decide +kernel)
theorem w_976 : Cond.methodLink "BallastStepsLaw" 117 yX6_copy ∈ lw_gd := gd_at 976 (by decide +kernel) (by decide +kernel)
theorem w_977 : Cond.instanceMethod yX6_copy ∈ lw_gd := gd_at 977 (by decide +kernel) (by decide +kernel)
theorem w_978 : Cond.selects "BallastStepsModel" yX6_copy yX6_copy ∈ lw_gd := gd_at 978 (by decide +kernel) (by decide +kernel)
theorem w_979 : Cond.code yX6_copy prog_8_method_58_code 10 (some FieldType.int) ∈ lw_gd := gd_at 979 (by decide +kernel) (by decide +kernel)
theorem w_980 : Cond.methodLink "BallastStepsLaw" 121 yX6_tell ∈ lw_gd := gd_at 980 (by decide +kernel) (by decide +kernel)
theorem w_981 : Cond.instanceMethod yX6_tell ∈ lw_gd := gd_at 981 (by decide +kernel) (by decide +kernel)
theorem w_982 : Cond.selects "BallastStepsModel" yX6_tell yX6_tell ∈ lw_gd := gd_at 982 (by decide +kernel) (by decide +kernel)
theorem w_983 : Cond.code yX6_tell prog_8_method_60_code 3 (some FieldType.int) ∈ lw_gd := gd_at 983 (by decide +kernel) (by decide +kernel)
theorem w_984 : Cond.methodLink "BallastStepsModel" 263 yX6_begins ∈ lw_gd := gd_at 984 (by decide +kernel) (by decide +kernel)
theorem w_986 : Cond.instanceMethod yX6_begins ∈ lw_gd := gd_at 986 (by decide +kernel) (by decide +kernel)
theorem w_987 : Cond.code yX6_begins prog_8_method_59_code 2 (none : Option FieldType) ∈ lw_gd := gd_at 987 (by decide +kernel) (by decide +kernel)
theorem w_988 : Cond.methodLink "BallastStepsLaw" 125 yX6_sound ∈ lw_gd := gd_at 988 (by decide +kernel) (by decide +kernel)
theorem w_989 : Cond.instanceMethod yX6_sound ∈ lw_gd := gd_at 989 (by decide +kernel) (by decide +kernel)
theorem w_990 : Cond.selects "BallastStepsModel" yX6_sound yX6_sound ∈ lw_gd := gd_at 990 (by decide +kernel) (by decide +kernel)
theorem w_991 : Cond.code yX6_sound prog_8_method_61_code 2 (some FieldType.int) ∈ lw_gd := gd_at 991 (by decide +kernel) (by decide +kernel)
theorem w_992 : Cond.methodLink "BallastStepsLaw" 129 yX6_as ∈ lw_gd := gd_at 992 (by decide +kernel) (by decide +kernel)
theorem w_993 : Cond.instanceMethod yX6_as ∈ lw_gd := gd_at 993 (by decide +kernel) (by decide +kernel)
theorem w_994 : Cond.selects "BallastStepsModel" yX6_as yX6_as ∈ lw_gd := gd_at 994 (by decide +kernel) (by decide +kernel)
theorem w_995 : Cond.code yX6_as prog_8_method_62_code 3 (some FieldType.int) ∈ lw_gd := gd_at 995 (by decide +kernel) (by decide +kernel)
theorem w_996 : Cond.methodLink "BallastStepsLaw" 133 yX6_trace ∈ lw_gd := gd_at 996 (by decide +kernel) (by decide +kernel)
theorem w_997 : Cond.instanceMethod yX6_trace ∈ lw_gd := gd_at 997 (by decide +kernel) (by decide +kernel)
theorem w_998 : Cond.selects "BallastStepsModel" yX6_trace yX6_trace ∈ lw_gd := gd_at 998 (by decide +kernel) (by decide +kernel)
theorem w_999 : Cond.code yX6_trace prog_8_method_63_code 1 (some FieldType.int) ∈ lw_gd := gd_at 999 (by decide +kernel) (by decide +kernel)
theorem w_1000 : Cond.methodLink "BallastStepsLaw" 137 yX6_fault ∈ lw_gd := gd_at 1000 (by decide +kernel) (by decide +kernel)
theorem w_1001 : Cond.instanceMethod yX6_fault ∈ lw_gd := gd_at 1001 (by decide +kernel) (by decide +kernel)
theorem w_1002 : Cond.selects "BallastStepsModel" yX6_fault yX6_fault ∈ lw_gd := gd_at 1002 (by decide +kernel) (by decide +kernel)
theorem w_1003 : Cond.code yX6_fault prog_8_method_64_code 1 (some FieldType.int) ∈ lw_gd := gd_at 1003 (by decide +kernel) (by decide +kernel)
theorem w_1004 : Cond.methodLink "BallastStepsLaw" 141 yX6_many ∈ lw_gd := gd_at 1004 (by decide +kernel) (by decide +kernel)
theorem w_1005 : Cond.instanceMethod yX6_many ∈ lw_gd := gd_at 1005 (by decide +kernel) (by decide +kernel)
theorem w_1006 : Cond.selects "BallastStepsModel" yX6_many yX6_many ∈ lw_gd := gd_at 1006 (by decide +kernel) (by decide +kernel)
theorem w_1007 : Cond.code yX6_many prog_8_method_66_code 2 (some FieldType.int) ∈ lw_gd := gd_at 1007 (by decide +kernel) (by decide +kernel)
theorem w_1008 : Cond.methodLink "BallastStepsModel" 267 yX6_sizeOf ∈ lw_gd := gd_at 1008 (by decide +kernel) (by decide +kernel)
theorem w_1009 : Cond.static yX6_sizeOf ∈ lw_gd := gd_at 1009 (by decide +kernel) (by decide +kernel)
theorem w_1010 : Cond.code yX6_sizeOf prog_8_method_65_code 3 (some FieldType.int) ∈ lw_gd := gd_at 1010 (by decide +kernel) (by decide +kernel)
theorem w_0 : Cond.selects "BallastSteps" yX5_faulted yX5_faulted ∈ lw_gd := gd_at 0 (by decide +kernel) (by decide +kernel)
theorem w_1 : Cond.selects "BallastSteps" yX5_isTank yX5_isTank ∈ lw_gd := gd_at 1 (by decide +kernel) (by decide +kernel)
theorem w_2 : Cond.selects "BallastSteps" yX5_hasNoShip yX5_hasNoShip ∈ lw_gd := gd_at 2 (by decide +kernel) (by decide +kernel)
theorem w_3 : Cond.selects "BallastSteps$Search" yX2_findPumpable yX2_findPumpable ∈ lw_gd := gd_at 3 (by decide +kernel) (by decide +kernel)
theorem w_4 : Cond.selects "BallastSteps$Search" yX2_explore yX2_explore ∈ lw_gd := gd_at 4 (by decide +kernel) (by decide +kernel)
theorem w_5 : Cond.selects "BallastSteps$Search" yX2_step yX2_step ∈ lw_gd := gd_at 5 (by decide +kernel) (by decide +kernel)
theorem w_6 : Cond.selects "BallastSteps$Search" yX2_findEnd yX2_findEnd ∈ lw_gd := gd_at 6 (by decide +kernel) (by decide +kernel)
theorem w_7 : Cond.selects "BallastSteps" yX5_firstWrong yX5_firstWrong ∈ lw_gd := gd_at 7 (by decide +kernel) (by decide +kernel)
theorem w_8 : Cond.selects "BallastSteps" yX5_watersBehind yX5_watersBehind ∈ lw_gd := gd_at 8 (by decide +kernel) (by decide +kernel)
theorem w_9 : Cond.selects "BallastSteps" yX5_ofWaters yX5_ofWaters ∈ lw_gd := gd_at 9 (by decide +kernel) (by decide +kernel)
theorem w_10 : Cond.selects "BallastSteps" yX5_newWaters yX5_newWaters ∈ lw_gd := gd_at 10 (by decide +kernel) (by decide +kernel)
theorem w_11 : Cond.selects "BallastSteps" yX5_readingsHoldWith yX5_readingsHoldWith ∈ lw_gd := gd_at 11 (by decide +kernel) (by decide +kernel)
theorem w_12 : Cond.selects "BallastSteps" yX5_wideTelling yX5_wideTelling ∈ lw_gd := gd_at 12 (by decide +kernel) (by decide +kernel)
theorem w_13 : Cond.selects "BallastSteps" yX5_leave yX5_leave ∈ lw_gd := gd_at 13 (by decide +kernel) (by decide +kernel)
theorem w_14 : Cond.selects "BallastSteps" yX5_plainTelling yX5_plainTelling ∈ lw_gd := gd_at 14 (by decide +kernel) (by decide +kernel)
theorem w_15 : Cond.selects "BallastSteps" yX5_doubleTelling yX5_doubleTelling ∈ lw_gd := gd_at 15 (by decide +kernel) (by decide +kernel)
theorem w_16 : Cond.selects "BallastSteps" yX5_soundingOfDouble yX5_soundingOfDouble ∈ lw_gd := gd_at 16 (by decide +kernel) (by decide +kernel)
theorem w_17 : Cond.selects "BallastSteps" yX5_lentSounding yX5_lentSounding ∈ lw_gd := gd_at 17 (by decide +kernel) (by decide +kernel)
theorem w_18 : Cond.selects "BallastStepsModel" yX6_against yX6_against ∈ lw_gd := gd_at 18 (by decide +kernel) (by decide +kernel)
theorem w_19 : Cond.selects "BallastStepsModel" yX6_fails yX6_fails ∈ lw_gd := gd_at 19 (by decide +kernel) (by decide +kernel)
theorem w_20 : Cond.selects "BallastStepsModel" yX6_readAll yX6_readAll ∈ lw_gd := gd_at 20 (by decide +kernel) (by decide +kernel)
theorem w_21 : Cond.selects "BallastStepsModel" yX6_code yX6_code ∈ lw_gd := gd_at 21 (by decide +kernel) (by decide +kernel)
theorem w_22 : Cond.selects "BallastStepsModel" yX6_readTank yX6_readTank ∈ lw_gd := gd_at 22 (by decide +kernel) (by decide +kernel)
theorem w_23 : Cond.selects "BallastStepsModel" yX6_takes yX6_takes ∈ lw_gd := gd_at 23 (by decide +kernel) (by decide +kernel)
theorem w_24 : Cond.selects "BallastStepsModel" yX6_isTank yX6_isTank ∈ lw_gd := gd_at 24 (by decide +kernel) (by decide +kernel)
theorem w_25 : Cond.selects "BallastStepsModel" yX6_weightOf yX6_weightOf ∈ lw_gd := gd_at 25 (by decide +kernel) (by decide +kernel)
theorem w_26 : Cond.selects "BallastStepsModel" yX6_waterIn yX6_waterIn ∈ lw_gd := gd_at 26 (by decide +kernel) (by decide +kernel)
theorem w_27 : Cond.selects "BallastStepsModel" yX6_canPump yX6_canPump ∈ lw_gd := gd_at 27 (by decide +kernel) (by decide +kernel)
theorem w_28 : Cond.selects "BallastStepsModel" yX6_isSafe yX6_isSafe ∈ lw_gd := gd_at 28 (by decide +kernel) (by decide +kernel)
theorem w_29 : Cond.selects "BallastStepsModel" yX6_weigh yX6_weigh ∈ lw_gd := gd_at 29 (by decide +kernel) (by decide +kernel)
theorem w_30 : Cond.selects "BallastStepsModel" yX6_pumped yX6_pumped ∈ lw_gd := gd_at 30 (by decide +kernel) (by decide +kernel)
theorem w_31 : Cond.selects "BallastStepsModel" yX6_measured yX6_measured ∈ lw_gd := gd_at 31 (by decide +kernel) (by decide +kernel)
theorem w_32 : Cond.selects "BallastStepsModel" yX6_findLeft yX6_findLeft ∈ lw_gd := gd_at 32 (by decide +kernel) (by decide +kernel)
theorem w_33 : Cond.selects "BallastStepsModel" yX6_prepare yX6_prepare ∈ lw_gd := gd_at 33 (by decide +kernel) (by decide +kernel)
theorem w_34 : Cond.selects "BallastStepsModel" yX6_isEnd yX6_isEnd ∈ lw_gd := gd_at 34 (by decide +kernel) (by decide +kernel)
theorem w_35 : Cond.selects "BallastStepsModel" yX6_findNext yX6_findNext ∈ lw_gd := gd_at 35 (by decide +kernel) (by decide +kernel)
theorem w_36 : Cond.selects "BallastStepsModel" yX6_firstOf yX6_firstOf ∈ lw_gd := gd_at 36 (by decide +kernel) (by decide +kernel)
theorem w_37 : Cond.selects "BallastStepsModel" yX6_goDay yX6_goDay ∈ lw_gd := gd_at 37 (by decide +kernel) (by decide +kernel)
theorem w_38 : Cond.selects "BallastStepsModel" yX6_tellDay yX6_tellDay ∈ lw_gd := gd_at 38 (by decide +kernel) (by decide +kernel)
theorem w_39 : Cond.selects "BallastStepsModel" yX6_countOf yX6_countOf ∈ lw_gd := gd_at 39 (by decide +kernel) (by decide +kernel)
theorem w_40 : Cond.selects "BallastStepsModel" yX6_seesMore yX6_seesMore ∈ lw_gd := gd_at 40 (by decide +kernel) (by decide +kernel)
theorem w_41 : Cond.selects "BallastStepsModel" yX6_areSo yX6_areSo ∈ lw_gd := gd_at 41 (by decide +kernel) (by decide +kernel)
theorem w_42 : Cond.selects "BallastStepsModel" yX6_lost yX6_lost ∈ lw_gd := gd_at 42 (by decide +kernel) (by decide +kernel)
theorem w_43 : Cond.selects "BallastStepsModel" yX6_begins yX6_begins ∈ lw_gd := gd_at 43 (by decide +kernel) (by decide +kernel)
end
section
/-! THE BASE: one memory for a whole object graph, a judgement that a machine at a pc goes along with a program in passing style, rows of it -/
abbrev classes : List vw_C := [(RX0, TX0, 4), (RX1, TX1, 3), (RX2, TX2, 10), (RX3, TX3, 7), (RX4, TX4, 4), (RX5, TX5, 7), (RX6, TX6, 36)]
def tysG (cy : Nat → ClassId) : List (ClassId × FieldType) := [(cy 0, .int), (cy 1, .long), (cy 2, .boolean), (cy 3, .object "BallastSteps$Row"), (cy 4, .object "BallastSteps$Tank")]
abbrev MS : Type := (Nat → Nat → Int32) × (Nat → Nat → Int64)
def sI (S : MS) (j f : Nat) (v : Int32) : MS := (va_up S.1 j (upd (S.1 j) f v), S.2)
def sL (S : MS) (j f : Nat) (v : Int64) : MS := (S.1, va_up S.2 j (vp_updL (S.2 j) f v))
def sR (S : MS) (j : Nat) (r : Nat → Int32) : MS := (va_up S.1 j r, S.2)
abbrev EG : Type := (Nat → Nat) → Nat → (Nat → Int32) → (Nat → Int64) → va_E
def wG (N : Nat) (E : EG) (ad : Nat → Nat) (S : MS) : va_W := (List.range N).map fun j => (ad j, E ad j (S.1 j) (S.2 j))
def AG (N : Nat) (ad : Nat → Nat) : Nat → Prop := fun q => ∃ j, j < N ∧ q = ad j
def IG (N : Nat) (ad : Nat → Nat) : Prop := ∀ i j, i < N → j < N → ad i = ad j → i = j
theorem wG_at {N : Nat} {E : EG} {ad : Nat → Nat} {S : MS} {j : Nat} (h : j < N) : (wG N E ad S)[j]? = some (ad j, E ad j (S.1 j) (S.2 j)) := by
  simp [wG, h]
theorem wG_inv {N : Nat} {E : EG} {ad : Nat → Nat} {S : MS} {j : Nat} {q : Nat × va_E} (h : (wG N E ad S)[j]? = some q) : j < N ∧ q = (ad j, E ad j (S.1 j) (S.2 j)) := by
  have hl : j < (wG N E ad S).length := (List.getElem?_eq_some_iff.mp h).1
  have hj : j < N := by simpa [wG] using hl
  rw [wG_at hj] at h
  exact ⟨hj, (Option.some.inj h).symm⟩
theorem wG_D {N : Nat} {E : EG} {ad : Nat → Nat} {S : MS} (h : IG N ad) : va_D (AG N ad) (wG N E ad S) := by
  refine ⟨fun i j p q hi hj hpq => ?_, fun k q hk => ?_⟩
  · obtain ⟨h1, rfl⟩ := wG_inv hi
    obtain ⟨h2, rfl⟩ := wG_inv hj
    exact h i j h1 h2 hpq
  · obtain ⟨h1, rfl⟩ := wG_inv hk
    exact ⟨k, h1, rfl⟩
theorem wG_set {N : Nat} {E : EG} {ad : Nat → Nat} {S S' : MS} {j : Nat} {e : va_E} (he : E ad j (S'.1 j) (S'.2 j) = e) (ho : ∀ i, i ≠ j → S'.1 i = S.1 i ∧ S'.2 i = S.2 i) : (wG N E ad S).set j (ad j, e) = wG N E ad S' := by
  apply List.ext_getElem?
  intro i
  by_cases hN : i < N
  · rw [wG_at hN]
    by_cases hij : i = j
    · subst hij
      rw [List.getElem?_set_self (by simpa [wG] using hN), he]
    · rw [List.getElem?_set_ne (Ne.symm hij), wG_at hN, (ho i hij).1, (ho i hij).2]
  · rw [List.getElem?_eq_none (by simp [wG]; omega), List.getElem?_eq_none (by simp [wG]; omega)]
theorem wG_setI {N : Nat} {E : EG} {ad : Nat → Nat} {S : MS} {j f : Nat} {v : Int32} {e : va_E} (he : E ad j (upd (S.1 j) f v) (S.2 j) = e) : (wG N E ad S).set j (ad j, e) = wG N E ad (sI S j f v) :=
  wG_set (by simp [sI, va_up, he]) (fun i hi => by simp [sI, va_up, hi])
theorem wG_setL {N : Nat} {E : EG} {ad : Nat → Nat} {S : MS} {j f : Nat} {v : Int64} {e : va_E} (he : E ad j (S.1 j) (vp_updL (S.2 j) f v) = e) : (wG N E ad S).set j (ad j, e) = wG N E ad (sL S j f v) :=
  wG_set (by simp [sL, va_up, he]) (fun i hi => by simp [sL, va_up, hi])
theorem wG_setR {N : Nat} {E : EG} {ad : Nat → Nat} {S : MS} {j : Nat} {r : Nat → Int32} {e : va_E} (he : E ad j r (S.2 j) = e) : (wG N E ad S).set j (ad j, e) = wG N E ad (sR S j r) :=
  wG_set (by simp [sR, va_up, he]) (fun i hi => by simp [sR, va_up, hi])
/-- the powers of 3 -/
def pw3 : Nat → Int32 := fun j => match j with | 0 => 1 | 1 => 3 | 2 => 9 | 3 => 27 | 4 => 81 | _ => 243
def ZG (A : Nat → Prop) (U : State) (H : Heap) : Prop := ∃ t3 : Nat, va_Z "BallastSteps" "POWERS_OF_3" "[I" (.ref t3) A U H ∧ va_T .int t3 6 (fun j => .int (pw3 j)) A U H
theorem ZG.moved {A : Nat → Prop} {u U : State} {H : Heap} (hvm : u.vm.Alike U.vm) (h : ZG A u H) : ZG A U H := by
  obtain ⟨t, h1, h2⟩ := h
  exact ⟨t, h1.moved hvm, h2.moved hvm⟩
theorem ZG.kept {A : Nat → Prop} {U : State} {H H1 : Heap} (h : ZG A U H) (hq : ∀ a : Nat, a < H.size → ¬ A a → H1[a]? = H[a]?) : ZG A U H1 := by
  obtain ⟨t, h1, h2⟩ := h
  exact ⟨t, h1.kept hq, h2.kept hq⟩
/-- the links of private members of nest mates -/
def NGw (w : Cond) : Bool := match w with
  | .fieldLinkNest .. => true
  | .methodLinkNest .. => true
  | _ => false
def NG (U : State) : Prop := ∀ w ∈ lw_tbl, NGw w = true → va_Nw w U
theorem NG.warm {s U : State} (hW : s.WarmedH U.vm) (h : NG s) : NG U := by
  intro w hw hn
  have h1 := h w hw hn
  cases w with
  | fieldLinkNest a i b n d k => exact va_Nw.warmF hW h1
  | methodLinkNest a i x k => exact va_Nw.warmM hW h1
  | _ => cases hn
theorem NG.same {s U : State} (hW : s.vm = U.vm) (h : NG s) : NG U := by
  intro w hw hn
  have h1 := h w hw hn
  cases w with
  | fieldLinkNest a i b n d k => exact va_Nw.same rfl hW h1
  | methodLinkNest a i x k => exact va_Nw.same rfl hW h1
  | _ => cases hn
/-- the program's world in a state: its cells, classes, the static table, the nest's links, addresses apart -/
def PG (N : Nat) (E : (Nat → ClassId) → EG) (D : va_G) (cy : Nat → ClassId) (ad : Nat → Nat) (S : MS) (U : State) : Prop :=
  va_P D classes (wG N (E cy) ad S) U.heap ∧ va_K D classes (tysG cy) U ∧ IG N ad ∧ ZG (AG N ad) U U.heap ∧ NG U
abbrev GX (α : Type) : Type := Program × Launch × Env × Room × State × MethodId × Array Value × List Frame × Method × Code × (State → Prop) × α × va_G × (Nat → ClassId) × (Nat → Nat)
def aX {α : Type} (X : GX α) : Nat → Nat := X.2.2.2.2.2.2.2.2.2.2.2.2.2.2
def cX {α : Type} (X : GX α) : Nat → ClassId := X.2.2.2.2.2.2.2.2.2.2.2.2.2.1
def lX {α : Type} (X : GX α) : Launch := X.2.1
/-- the machine at pc, with the memory S, the locals lv, the operands st, goes along with the program P -/
def GM {α : Type} (N : Nat) (E : (Nat → ClassId) → EG) (X : GX α) (P : Option α) (S : MS) (pc : Nat) (lv : List (Nat × Value)) (st : List Value) : Prop :=
  match X with
  | (p, l, e, R, s, m, args, below, meth, c, Q, out, D, cy, ad) => ∀ (H : Heap) (locs : List Loc) (ls : Array Slot), P = some out → va_P D classes (wG N (E cy) ad S) H → va_S (AG N ad) s.heap H locs → lv_has ls c.maxLocals lv → W p l e R s m args below meth c H locs 0 0 Q (F0 m pc ls st)
/-- what a method's body stands on -/
def OK {α : Type} (N : Nat) (X : GX α) (own : String) (cc : ByteArray) (nL : Nat) (ret : Option FieldType) (rm : Room) : Prop :=
  match X with
  | (p, l, e, R, s, m, args, below, meth, c, Q, out, D, cy, ad) => p.tables.exec = Jvm.exec ∧ c.code = cc ∧ meth.sig.returnType = ret ∧ c.maxLocals = nL ∧ s.vm.findClass own = some m.cls ∧ (∀ w ∈ lw_gd, w.before args s = true) ∧ va_K D classes (tysG cy) s ∧ IG N ad ∧ ZG (AG N ad) s s.heap ∧ NG s ∧ meth.locks = false ∧ R = rm
def BG (N : Nat) (E : (Nat → ClassId) → EG) (D : va_G) (cy : Nat → ClassId) (ad : Nat → Nat) : MS → State → Prop := fun u t => va_P D classes (wG N (E cy) ad u) t.heap
/-- what a return must meet -/
def RtI {α : Type} (N : Nat) (E : (Nat → ClassId) → EG) (X : GX α) (K : Int32 → MS → Option α) : Prop :=
  match X with
  | (p, l, e, R, s, m, args, below, meth, c, Q, out, D, cy, ad) => Q = MQ below (va_Qi (fun r u => K r u = some out) (BG N E D cy ad) (AG N ad)) args s 0 0 (AG N ad)
def RtL {α : Type} (N : Nat) (E : (Nat → ClassId) → EG) (X : GX α) (K : Int64 → MS → Option α) : Prop :=
  match X with
  | (p, l, e, R, s, m, args, below, meth, c, Q, out, D, cy, ad) => Q = MQ below (va_Ql (fun r u => K r u = some out) (BG N E D cy ad) (AG N ad)) args s 0 0 (AG N ad)
def RtV {α : Type} (N : Nat) (E : (Nat → ClassId) → EG) (X : GX α) (K : MS → Option α) : Prop :=
  match X with
  | (p, l, e, R, s, m, args, below, meth, c, Q, out, D, cy, ad) => Q = MQ below (va_Qv (fun u => K u = some out) (BG N E D cy ad) (AG N ad)) args s 0 0 (AG N ad)
/-- a reference that is returned is the cell j -/
def RtR {α : Type} (N : Nat) (E : (Nat → ClassId) → EG) (X : GX α) (j : Nat) (K : MS → Option α) : Prop :=
  match X with
  | (p, l, e, R, s, m, args, below, meth, c, Q, out, D, cy, ad) => Q = MQ below (va_Qr (fun u => K u = some out) (fun u a t => a = ad j ∧ BG N E D cy ad u t) (AG N ad)) args s 0 0 (AG N ad)
/-- contracts -/
abbrev rmG (f n : Nat) : Room := { frames := f, cells := 0, slots := 0, locals := n }
def CtI (N : Nat) (E : (Nat → ClassId) → EG) (l : Launch) (y : MethodName) (cc : ByteArray) (nL : Nat) (ret : Option FieldType) (rm : Room) (S : MS) (av : (Nat → Nat) → List Value) {α : Type} (f : (Int32 → MS → Option α) → Option α) : Prop :=
  ∀ (D : va_G) (cy : Nat → ClassId) (ad : Nat → Nat) (K : Int32 → MS → Option α) (out : α), f K = some out → Met l y (.code y cc nL ret :: lw_gd) rm (va_Pc (av ad) (PG N E D cy ad S)) (va_Qi (fun r u => K r u = some out) (BG N E D cy ad) (AG N ad)) 0 0 (AG N ad)
def CtL (N : Nat) (E : (Nat → ClassId) → EG) (l : Launch) (y : MethodName) (cc : ByteArray) (nL : Nat) (ret : Option FieldType) (rm : Room) (S : MS) (av : (Nat → Nat) → List Value) {α : Type} (f : (Int64 → MS → Option α) → Option α) : Prop :=
  ∀ (D : va_G) (cy : Nat → ClassId) (ad : Nat → Nat) (K : Int64 → MS → Option α) (out : α), f K = some out → Met l y (.code y cc nL ret :: lw_gd) rm (va_Pc (av ad) (PG N E D cy ad S)) (va_Ql (fun r u => K r u = some out) (BG N E D cy ad) (AG N ad)) 0 0 (AG N ad)
def CtV (N : Nat) (E : (Nat → ClassId) → EG) (l : Launch) (y : MethodName) (cc : ByteArray) (nL : Nat) (ret : Option FieldType) (rm : Room) (S : MS) (av : (Nat → Nat) → List Value) {α : Type} (f : (MS → Option α) → Option α) : Prop :=
  ∀ (D : va_G) (cy : Nat → ClassId) (ad : Nat → Nat) (K : MS → Option α) (out : α), f K = some out → Met l y (.code y cc nL ret :: lw_gd) rm (va_Pc (av ad) (PG N E D cy ad S)) (va_Qv (fun u => K u = some out) (BG N E D cy ad) (AG N ad)) 0 0 (AG N ad)
def CtR (N : Nat) (E : (Nat → ClassId) → EG) (l : Launch) (y : MethodName) (cc : ByteArray) (nL : Nat) (ret : Option FieldType) (rm : Room) (S : MS) (av : (Nat → Nat) → List Value) (j : Nat) {α : Type} (f : (MS → Option α) → Option α) : Prop :=
  ∀ (D : va_G) (cy : Nat → ClassId) (ad : Nat → Nat) (K : MS → Option α) (out : α), f K = some out → Met l y (.code y cc nL ret :: lw_gd) rm (va_Pc (av ad) (PG N E D cy ad S)) (va_Qr (fun u => K u = some out) (fun u a t => a = ad j ∧ BG N E D cy ad u t) (AG N ad)) 0 0 (AG N ad)
/-- the words of programs: a value named; an index looked at; a divisor looked at; a truth value looked at -/
def nm {α β : Type} (v : β) (P : β → Option α) : Option α := P v
def ck {α : Type} (i : Int32) (n : Nat) (P : Nat → Option α) : Option α := if i < 0 ∨ n ≤ i.toNatClampNeg then none else P i.toNatClampNeg
def dz {α : Type} (y : Int32) (P : Option α) : Option α := if y = 0 then none else P
def zb {α : Type} (r : Int32) (P : Option α) : Option α := if r = 0 ∨ r = 1 then P else none
section GMbody
variable {α : Type} {N : Nat} {E : (Nat → ClassId) → EG} {l : Launch} {y : MethodName} {cc : ByteArray} {nL : Nat} {ret : Option FieldType} {rm : Room} {S : MS} {av : (Nat → Nat) → List Value}
theorem body_OK {X : GX α} {p : Program} {e : Env} {s : State} {m : MethodId} {args : Array Value} {below : List Frame} {meth : Method} {c : Code} {Q : State → Prop} {out : α} {D : va_G} {cy : Nat → ClassId} {ad : Nat → Nat} {s₁ : State}
    (hX : X = (p, l, e, rm, s, m, args, below, meth, c, Q, out, D, cy, ad)) (B : BodyLoose p l y (headSpec (.code y cc nL ret :: lw_gd) rm) cc nL ret e s m args below meth c s₁) (hml : c.maxLocals = nL) (hG : PG N E D cy ad S s) : OK N X y.cls cc nL ret rm := by
  subst hX
  exact ⟨B.exec, B.bytes, B.returns, hml, findClass_of_methodNamed B.named, fun w hw => atoms_spec (ws := .code y cc nL ret :: lw_gd) B.pre w (List.mem_cons_of_mem _ hw), hG.2.1, hG.2.2.1, hG.2.2.2.1, hG.2.2.2.2, B.notSynchronized, rfl⟩
theorem CtI.of (hy : plainName y.cls = true) {f : (Int32 → MS → Option α) → Option α} (hn : ∀ ad, (lg_sl (av ad)).length ≤ nL)
    (body : ∀ (X : GX α) (K : Int32 → MS → Option α), lX X = l → OK N X y.cls cc nL ret rm → RtI N E X K → GM N E X (f K) S 0 (lv_args 0 (av (aX X))) []) : CtI N E l y cc nL ret rm S av f := by
  intro D cy ad K out hf
  refine Met.ofW (cc := cc) (maxL := nL) (ret := ret) hy rfl ?_
  intro p e s m args below meth c s₁ B hml hv
  obtain ⟨rfl, hG⟩ := hv
  have h := body (p, l, e, rm, s, m, (av ad).toArray, below, meth, c, _, out, D, cy, ad) K rfl (body_OK rfl B hml hG) rfl
  have hl := lv_entry (av ad) (n := nL) (hn ad)
  rw [lg_entry_eq]
  exact h s.heap [] _ hf hG.1 va_S.rf (by rw [hml]; exact hl)
theorem CtL.of (hy : plainName y.cls = true) {f : (Int64 → MS → Option α) → Option α} (hn : ∀ ad, (lg_sl (av ad)).length ≤ nL)
    (body : ∀ (X : GX α) (K : Int64 → MS → Option α), lX X = l → OK N X y.cls cc nL ret rm → RtL N E X K → GM N E X (f K) S 0 (lv_args 0 (av (aX X))) []) : CtL N E l y cc nL ret rm S av f := by
  intro D cy ad K out hf
  refine Met.ofW (cc := cc) (maxL := nL) (ret := ret) hy rfl ?_
  intro p e s m args below meth c s₁ B hml hv
  obtain ⟨rfl, hG⟩ := hv
  have h := body (p, l, e, rm, s, m, (av ad).toArray, below, meth, c, _, out, D, cy, ad) K rfl (body_OK rfl B hml hG) rfl
  have hl := lv_entry (av ad) (n := nL) (hn ad)
  rw [lg_entry_eq]
  exact h s.heap [] _ hf hG.1 va_S.rf (by rw [hml]; exact hl)
theorem CtV.of (hy : plainName y.cls = true) {f : (MS → Option α) → Option α} (hn : ∀ ad, (lg_sl (av ad)).length ≤ nL)
    (body : ∀ (X : GX α) (K : MS → Option α), lX X = l → OK N X y.cls cc nL ret rm → RtV N E X K → GM N E X (f K) S 0 (lv_args 0 (av (aX X))) []) : CtV N E l y cc nL ret rm S av f := by
  intro D cy ad K out hf
  refine Met.ofW (cc := cc) (maxL := nL) (ret := ret) hy rfl ?_
  intro p e s m args below meth c s₁ B hml hv
  obtain ⟨rfl, hG⟩ := hv
  have h := body (p, l, e, rm, s, m, (av ad).toArray, below, meth, c, _, out, D, cy, ad) K rfl (body_OK rfl B hml hG) rfl
  have hl := lv_entry (av ad) (n := nL) (hn ad)
  rw [lg_entry_eq]
  exact h s.heap [] _ hf hG.1 va_S.rf (by rw [hml]; exact hl)
theorem CtR.of (hy : plainName y.cls = true) {j : Nat} {f : (MS → Option α) → Option α} (hn : ∀ ad, (lg_sl (av ad)).length ≤ nL)
    (body : ∀ (X : GX α) (K : MS → Option α), lX X = l → OK N X y.cls cc nL ret rm → RtR N E X j K → GM N E X (f K) S 0 (lv_args 0 (av (aX X))) []) : CtR N E l y cc nL ret rm S av j f := by
  intro D cy ad K out hf
  refine Met.ofW (cc := cc) (maxL := nL) (ret := ret) hy rfl ?_
  intro p e s m args below meth c s₁ B hml hv
  obtain ⟨rfl, hG⟩ := hv
  have h := body (p, l, e, rm, s, m, (av ad).toArray, below, meth, c, _, out, D, cy, ad) K rfl (body_OK rfl B hml hG) rfl
  have hl := lv_entry (av ad) (n := nL) (hn ad)
  rw [lg_entry_eq]
  exact h s.heap [] _ hf hG.1 va_S.rf (by rw [hml]; exact hl)
end GMbody
end
section
/-! ROWS of the judgement: an instruction, a row -/
section GMrows
variable {α : Type} {N : Nat} {E : (Nat → ClassId) → EG} {X : GX α} {own : String} {cc : ByteArray} {nL : Nat} {ret : Option FieldType} {rm : Room} {P : Option α} {S : MS} {pc : Nat} {lv : List (Nat × Value)} {st : List Value}
theorem r_iload_n (O : OK N X own cc nL ret rm) {k : Fin 4} (hd : decode cc pc = .ok (.iload_n k, 1)) (i : Nat) {v : Int32} (hl : lv[i]? = some (k.val, .int v)) (K : GM N E X P S (pc + 1) lv (.int v :: st)) : GM N E X P S pc lv st := by
  obtain ⟨p, l, e, R, s, m, args, below, meth, c, Q, out, D, cy, ad⟩ := X
  obtain ⟨hx, hb, hr, hml, hown, hts, hK, hI, hZ, hN, hlk, hR⟩ := O
  exact fun H locs ls h1 h2 h3 h4 => lv_iload_n hx hb hd rfl (lv_at h4 i hl) (K H locs ls h1 h2 h3 h4)
theorem r_iload (O : OK N X own cc nL ret rm) {k : Nat} (hd : decode cc pc = .ok (.iload k, 2)) (i : Nat) {v : Int32} (hl : lv[i]? = some (k, .int v)) (K : GM N E X P S (pc + 2) lv (.int v :: st)) : GM N E X P S pc lv st := by
  obtain ⟨p, l, e, R, s, m, args, below, meth, c, Q, out, D, cy, ad⟩ := X
  obtain ⟨hx, hb, hr, hml, hown, hts, hK, hI, hZ, hN, hlk, hR⟩ := O
  exact fun H locs ls h1 h2 h3 h4 => lv_iload hx hb hd (lv_at h4 i hl) (K H locs ls h1 h2 h3 h4)
theorem r_lload_n (O : OK N X own cc nL ret rm) {k : Fin 4} (hd : decode cc pc = .ok (.lload_n k, 1)) (i : Nat) {v : Int64} (hl : lv[i]? = some (k.val, .long v)) (K : GM N E X P S (pc + 1) lv (.long v :: st)) : GM N E X P S pc lv st := by
  obtain ⟨p, l, e, R, s, m, args, below, meth, c, Q, out, D, cy, ad⟩ := X
  obtain ⟨hx, hb, hr, hml, hown, hts, hK, hI, hZ, hN, hlk, hR⟩ := O
  exact fun H locs ls h1 h2 h3 h4 => lv_lload_n hx hb hd rfl (lv_at h4 i hl) (K H locs ls h1 h2 h3 h4)
theorem r_lload (O : OK N X own cc nL ret rm) {k : Nat} (hd : decode cc pc = .ok (.lload k, 2)) (i : Nat) {v : Int64} (hl : lv[i]? = some (k, .long v)) (K : GM N E X P S (pc + 2) lv (.long v :: st)) : GM N E X P S pc lv st := by
  obtain ⟨p, l, e, R, s, m, args, below, meth, c, Q, out, D, cy, ad⟩ := X
  obtain ⟨hx, hb, hr, hml, hown, hts, hK, hI, hZ, hN, hlk, hR⟩ := O
  exact fun H locs ls h1 h2 h3 h4 => lv_lload hx hb hd (lv_at h4 i hl) (K H locs ls h1 h2 h3 h4)
theorem r_aload_n (O : OK N X own cc nL ret rm) {k : Fin 4} (hd : decode cc pc = .ok (.aload_n k, 1)) (i : Nat) {v : Nat} (hl : lv[i]? = some (k.val, .ref v)) (K : GM N E X P S (pc + 1) lv (.ref v :: st)) : GM N E X P S pc lv st := by
  obtain ⟨p, l, e, R, s, m, args, below, meth, c, Q, out, D, cy, ad⟩ := X
  obtain ⟨hx, hb, hr, hml, hown, hts, hK, hI, hZ, hN, hlk, hR⟩ := O
  exact fun H locs ls h1 h2 h3 h4 => lv_aload_n hx hb hd rfl (lv_at h4 i hl) (K H locs ls h1 h2 h3 h4)
theorem r_aload (O : OK N X own cc nL ret rm) {k : Nat} (hd : decode cc pc = .ok (.aload k, 2)) (i : Nat) {v : Nat} (hl : lv[i]? = some (k, .ref v)) (K : GM N E X P S (pc + 2) lv (.ref v :: st)) : GM N E X P S pc lv st := by
  obtain ⟨p, l, e, R, s, m, args, below, meth, c, Q, out, D, cy, ad⟩ := X
  obtain ⟨hx, hb, hr, hml, hown, hts, hK, hI, hZ, hN, hlk, hR⟩ := O
  exact fun H locs ls h1 h2 h3 h4 => lv_aload hx hb hd (lv_at h4 i hl) (K H locs ls h1 h2 h3 h4)
theorem r_istore_n (O : OK N X own cc nL ret rm) {k : Fin 4} (hd : decode cc pc = .ok (.istore_n k, 1)) {x : Int32} (lv' : List (Nat × Value)) (hn : k.val < nL) (hl : (k.val, Value.int x) :: lv.filter (fun q => !(q.1 == k.val) && !(q.1 + 1 == k.val && q.2.category == 2)) = lv') (K : GM N E X P S (pc + 1) (lv') st) : GM N E X P S pc lv (.int x :: st) := by
  obtain ⟨p, l, e, R, s, m, args, below, meth, c, Q, out, D, cy, ad⟩ := X
  obtain ⟨hx, hb, hr, hml, hown, hts, hK, hI, hZ, hN, hlk, hR⟩ := O
  exact fun H locs ls h1 h2 h3 h4 => lv_istore_n hx hb hd rfl h4 (by rw [hml]; exact hn) hl (fun ls' h4' => K H locs ls' h1 h2 h3 h4')
theorem r_istore_n_nm (O : OK N X own cc nL ret rm) {P : Int32 → Option α} {k : Fin 4} (hd : decode cc pc = .ok (.istore_n k, 1)) {x : Int32} (lv' : Int32 → List (Nat × Value)) (hn : k.val < nL) (hl : ∀ x, (k.val, Value.int x) :: lv.filter (fun q => !(q.1 == k.val) && !(q.1 + 1 == k.val && q.2.category == 2)) = lv' x) (K : ∀ x, GM N E X (P x) S (pc + 1) (lv' x) st) : GM N E X (nm x P) S pc lv (.int x :: st) := by
  obtain ⟨p, l, e, R, s, m, args, below, meth, c, Q, out, D, cy, ad⟩ := X
  obtain ⟨hx, hb, hr, hml, hown, hts, hK, hI, hZ, hN, hlk, hR⟩ := O
  exact fun H locs ls h1 h2 h3 h4 => lv_istore_n hx hb hd rfl h4 (by rw [hml]; exact hn) (hl x) (fun ls' h4' => K x H locs ls' h1 h2 h3 h4')
theorem r_istore (O : OK N X own cc nL ret rm) {k : Nat} (hd : decode cc pc = .ok (.istore k, 2)) {x : Int32} (lv' : List (Nat × Value)) (hn : k < nL) (hl : (k, Value.int x) :: lv.filter (fun q => !(q.1 == k) && !(q.1 + 1 == k && q.2.category == 2)) = lv') (K : GM N E X P S (pc + 2) (lv') st) : GM N E X P S pc lv (.int x :: st) := by
  obtain ⟨p, l, e, R, s, m, args, below, meth, c, Q, out, D, cy, ad⟩ := X
  obtain ⟨hx, hb, hr, hml, hown, hts, hK, hI, hZ, hN, hlk, hR⟩ := O
  exact fun H locs ls h1 h2 h3 h4 => lv_istore hx hb hd h4 (by rw [hml]; exact hn) hl (fun ls' h4' => K H locs ls' h1 h2 h3 h4')
theorem r_istore_nm (O : OK N X own cc nL ret rm) {P : Int32 → Option α} {k : Nat} (hd : decode cc pc = .ok (.istore k, 2)) {x : Int32} (lv' : Int32 → List (Nat × Value)) (hn : k < nL) (hl : ∀ x, (k, Value.int x) :: lv.filter (fun q => !(q.1 == k) && !(q.1 + 1 == k && q.2.category == 2)) = lv' x) (K : ∀ x, GM N E X (P x) S (pc + 2) (lv' x) st) : GM N E X (nm x P) S pc lv (.int x :: st) := by
  obtain ⟨p, l, e, R, s, m, args, below, meth, c, Q, out, D, cy, ad⟩ := X
  obtain ⟨hx, hb, hr, hml, hown, hts, hK, hI, hZ, hN, hlk, hR⟩ := O
  exact fun H locs ls h1 h2 h3 h4 => lv_istore hx hb hd h4 (by rw [hml]; exact hn) (hl x) (fun ls' h4' => K x H locs ls' h1 h2 h3 h4')
theorem r_lstore_n (O : OK N X own cc nL ret rm) {k : Fin 4} (hd : decode cc pc = .ok (.lstore_n k, 1)) {x : Int64} (lv' : List (Nat × Value)) (hn : k.val + 1 < nL) (hl : (k.val, Value.long x) :: lv.filter (fun q => !(q.1 == k.val) && (!(q.1 == k.val + 1) && !(q.1 + 1 == k.val && q.2.category == 2))) = lv') (K : GM N E X P S (pc + 1) (lv') st) : GM N E X P S pc lv (.long x :: st) := by
  obtain ⟨p, l, e, R, s, m, args, below, meth, c, Q, out, D, cy, ad⟩ := X
  obtain ⟨hx, hb, hr, hml, hown, hts, hK, hI, hZ, hN, hlk, hR⟩ := O
  exact fun H locs ls h1 h2 h3 h4 => lv_lstore_n hx hb hd rfl h4 (by rw [hml]; exact hn) hl (fun ls' h4' => K H locs ls' h1 h2 h3 h4')
theorem r_lstore_n_nm (O : OK N X own cc nL ret rm) {P : Int64 → Option α} {k : Fin 4} (hd : decode cc pc = .ok (.lstore_n k, 1)) {x : Int64} (lv' : Int64 → List (Nat × Value)) (hn : k.val + 1 < nL) (hl : ∀ x, (k.val, Value.long x) :: lv.filter (fun q => !(q.1 == k.val) && (!(q.1 == k.val + 1) && !(q.1 + 1 == k.val && q.2.category == 2))) = lv' x) (K : ∀ x, GM N E X (P x) S (pc + 1) (lv' x) st) : GM N E X (nm x P) S pc lv (.long x :: st) := by
  obtain ⟨p, l, e, R, s, m, args, below, meth, c, Q, out, D, cy, ad⟩ := X
  obtain ⟨hx, hb, hr, hml, hown, hts, hK, hI, hZ, hN, hlk, hR⟩ := O
  exact fun H locs ls h1 h2 h3 h4 => lv_lstore_n hx hb hd rfl h4 (by rw [hml]; exact hn) (hl x) (fun ls' h4' => K x H locs ls' h1 h2 h3 h4')
theorem r_lstore (O : OK N X own cc nL ret rm) {k : Nat} (hd : decode cc pc = .ok (.lstore k, 2)) {x : Int64} (lv' : List (Nat × Value)) (hn : k + 1 < nL) (hl : (k, Value.long x) :: lv.filter (fun q => !(q.1 == k) && (!(q.1 == k + 1) && !(q.1 + 1 == k && q.2.category == 2))) = lv') (K : GM N E X P S (pc + 2) (lv') st) : GM N E X P S pc lv (.long x :: st) := by
  obtain ⟨p, l, e, R, s, m, args, below, meth, c, Q, out, D, cy, ad⟩ := X
  obtain ⟨hx, hb, hr, hml, hown, hts, hK, hI, hZ, hN, hlk, hR⟩ := O
  exact fun H locs ls h1 h2 h3 h4 => lv_lstore hx hb hd h4 (by rw [hml]; exact hn) hl (fun ls' h4' => K H locs ls' h1 h2 h3 h4')
theorem r_lstore_nm (O : OK N X own cc nL ret rm) {P : Int64 → Option α} {k : Nat} (hd : decode cc pc = .ok (.lstore k, 2)) {x : Int64} (lv' : Int64 → List (Nat × Value)) (hn : k + 1 < nL) (hl : ∀ x, (k, Value.long x) :: lv.filter (fun q => !(q.1 == k) && (!(q.1 == k + 1) && !(q.1 + 1 == k && q.2.category == 2))) = lv' x) (K : ∀ x, GM N E X (P x) S (pc + 2) (lv' x) st) : GM N E X (nm x P) S pc lv (.long x :: st) := by
  obtain ⟨p, l, e, R, s, m, args, below, meth, c, Q, out, D, cy, ad⟩ := X
  obtain ⟨hx, hb, hr, hml, hown, hts, hK, hI, hZ, hN, hlk, hR⟩ := O
  exact fun H locs ls h1 h2 h3 h4 => lv_lstore hx hb hd h4 (by rw [hml]; exact hn) (hl x) (fun ls' h4' => K x H locs ls' h1 h2 h3 h4')
theorem r_astore_n (O : OK N X own cc nL ret rm) {k : Fin 4} (hd : decode cc pc = .ok (.astore_n k, 1)) {x : Nat} (lv' : List (Nat × Value)) (hn : k.val < nL) (hl : (k.val, Value.ref x) :: lv.filter (fun q => !(q.1 == k.val) && !(q.1 + 1 == k.val && q.2.category == 2)) = lv') (K : GM N E X P S (pc + 1) (lv') st) : GM N E X P S pc lv (.ref x :: st) := by
  obtain ⟨p, l, e, R, s, m, args, below, meth, c, Q, out, D, cy, ad⟩ := X
  obtain ⟨hx, hb, hr, hml, hown, hts, hK, hI, hZ, hN, hlk, hR⟩ := O
  exact fun H locs ls h1 h2 h3 h4 => lv_astore_n hx hb hd rfl h4 (by rw [hml]; exact hn) hl (fun ls' h4' => K H locs ls' h1 h2 h3 h4')
theorem r_astore (O : OK N X own cc nL ret rm) {k : Nat} (hd : decode cc pc = .ok (.astore k, 2)) {x : Nat} (lv' : List (Nat × Value)) (hn : k < nL) (hl : (k, Value.ref x) :: lv.filter (fun q => !(q.1 == k) && !(q.1 + 1 == k && q.2.category == 2)) = lv') (K : GM N E X P S (pc + 2) (lv') st) : GM N E X P S pc lv (.ref x :: st) := by
  obtain ⟨p, l, e, R, s, m, args, below, meth, c, Q, out, D, cy, ad⟩ := X
  obtain ⟨hx, hb, hr, hml, hown, hts, hK, hI, hZ, hN, hlk, hR⟩ := O
  exact fun H locs ls h1 h2 h3 h4 => lv_astore hx hb hd h4 (by rw [hml]; exact hn) hl (fun ls' h4' => K H locs ls' h1 h2 h3 h4')
theorem r_iinc (O : OK N X own cc nL ret rm) {P : Int32 → Option α} {k : Nat} {n : Int} (hd : decode cc pc = .ok (.iinc k n, 3)) (i : Nat) {x c0 : Int32} (hi : lv[i]? = some (k, .int x)) (hc : Int32.ofInt n = c0) (lv' : Int32 → List (Nat × Value)) (hn : k < nL) (hl : ∀ x, (k, Value.int x) :: lv.filter (fun q => !(q.1 == k) && !(q.1 + 1 == k && q.2.category == 2)) = lv' x) (K : ∀ x, GM N E X (P x) S (pc + 3) (lv' x) st) : GM N E X (nm (x + c0) P) S pc lv st := by
  obtain ⟨p, l, e, R, s, m, args, below, meth, c, Q, out, D, cy, ad⟩ := X
  obtain ⟨hx, hb, hr, hml, hown, hts, hK, hI, hZ, hN, hlk, hR⟩ := O
  exact fun H locs ls h1 h2 h3 h4 => lv_iinc hx hb hd h4 hi (by rw [hc]) (by rw [hml]; exact hn) (hl (x + c0)) (fun ls' h4' => K (x + c0) H locs ls' h1 h2 h3 h4')
theorem r_iconst (O : OK N X own cc nL ret rm) {n : Int} (hd : decode cc pc = .ok (.iconst n, 1)) {v : Int32} (hv : Int32.ofInt n = v) (K : GM N E X P S (pc + 1) lv (.int v :: st)) : GM N E X P S pc lv st := by
  obtain ⟨p, l, e, R, s, m, args, below, meth, c, Q, out, D, cy, ad⟩ := X
  obtain ⟨hx, hb, hr, hml, hown, hts, hK, hI, hZ, hN, hlk, hR⟩ := O
  exact fun H locs ls h1 h2 h3 h4 => lv_iconst hx hb hd hv (K H locs ls h1 h2 h3 h4)
theorem r_bipush (O : OK N X own cc nL ret rm) {n : Int} (hd : decode cc pc = .ok (.bipush n, 2)) {v : Int32} (hv : (Int8.ofInt n).toInt32 = v) (K : GM N E X P S (pc + 2) lv (.int v :: st)) : GM N E X P S pc lv st := by
  obtain ⟨p, l, e, R, s, m, args, below, meth, c, Q, out, D, cy, ad⟩ := X
  obtain ⟨hx, hb, hr, hml, hown, hts, hK, hI, hZ, hN, hlk, hR⟩ := O
  exact fun H locs ls h1 h2 h3 h4 => lv_bipush hx hb hd hv (K H locs ls h1 h2 h3 h4)
theorem r_sipush (O : OK N X own cc nL ret rm) {n : Int} (hd : decode cc pc = .ok (.sipush n, 3)) {v : Int32} (hv : (Int16.ofInt n).toInt32 = v) (K : GM N E X P S (pc + 3) lv (.int v :: st)) : GM N E X P S pc lv st := by
  obtain ⟨p, l, e, R, s, m, args, below, meth, c, Q, out, D, cy, ad⟩ := X
  obtain ⟨hx, hb, hr, hml, hown, hts, hK, hI, hZ, hN, hlk, hR⟩ := O
  exact fun H locs ls h1 h2 h3 h4 => lv_sipush hx hb hd hv (K H locs ls h1 h2 h3 h4)
theorem r_lconst (O : OK N X own cc nL ret rm) {n : Fin 2} (hd : decode cc pc = .ok (.lconst n, 1)) {v : Int64} (hv : Int64.ofNat (n : Nat) = v) (K : GM N E X P S (pc + 1) lv (.long v :: st)) : GM N E X P S pc lv st := by
  obtain ⟨p, l, e, R, s, m, args, below, meth, c, Q, out, D, cy, ad⟩ := X
  obtain ⟨hx, hb, hr, hml, hown, hts, hK, hI, hZ, hN, hlk, hR⟩ := O
  exact fun H locs ls h1 h2 h3 h4 => lv_lconst hx hb hd hv (K H locs ls h1 h2 h3 h4)
theorem r_ldc2 (O : OK N X own cc nL ret rm) {index : Nat} {v : Int64} (hw : Cond.constantLong own index v ∈ lw_gd) (hd : decode cc pc = .ok (.ldc2_w index, 3)) (K : GM N E X P S (pc + 3) lv (.long v :: st)) : GM N E X P S pc lv st := by
  obtain ⟨p, l, e, R, s, m, args, below, meth, c, Q, out, D, cy, ad⟩ := X
  obtain ⟨hx, hb, hr, hml, hown, hts, hK, hI, hZ, hN, hlk, hR⟩ := O
  exact fun H locs ls h1 h2 h3 h4 => lv_ldc2 hx hb hown (hts _ hw) hd (K H locs ls h1 h2 h3 h4)
theorem r_ldcw (O : OK N X own cc nL ret rm) {index : Nat} {v : Int32} (hw : Cond.constant own index v ∈ lw_gd) (hd : decode cc pc = .ok (.ldc_w index, 3)) (K : GM N E X P S (pc + 3) lv (.int v :: st)) : GM N E X P S pc lv st := by
  obtain ⟨p, l, e, R, s, m, args, below, meth, c, Q, out, D, cy, ad⟩ := X
  obtain ⟨hx, hb, hr, hml, hown, hts, hK, hI, hZ, hN, hlk, hR⟩ := O
  exact fun H locs ls h1 h2 h3 h4 => lv_ldcw hx hb hown (hts _ hw) hd (K H locs ls h1 h2 h3 h4)
theorem r_iadd (O : OK N X own cc nL ret rm) {x y : Int32} (hd : decode cc pc = .ok (.iadd, 1)) (K : GM N E X P S (pc + 1) lv (.int (x + y) :: st)) : GM N E X P S pc lv (.int y :: .int x :: st) := by
  obtain ⟨p, l, e, R, s, m, args, below, meth, c, Q, out, D, cy, ad⟩ := X
  obtain ⟨hx, hb, hr, hml, hown, hts, hK, hI, hZ, hN, hlk, hR⟩ := O
  exact fun H locs ls h1 h2 h3 h4 => lv_iadd hx hb hd (K H locs ls h1 h2 h3 h4)
theorem r_isub (O : OK N X own cc nL ret rm) {x y : Int32} (hd : decode cc pc = .ok (.isub, 1)) (K : GM N E X P S (pc + 1) lv (.int (x - y) :: st)) : GM N E X P S pc lv (.int y :: .int x :: st) := by
  obtain ⟨p, l, e, R, s, m, args, below, meth, c, Q, out, D, cy, ad⟩ := X
  obtain ⟨hx, hb, hr, hml, hown, hts, hK, hI, hZ, hN, hlk, hR⟩ := O
  exact fun H locs ls h1 h2 h3 h4 => lv_isub hx hb hd (K H locs ls h1 h2 h3 h4)
theorem r_imul (O : OK N X own cc nL ret rm) {x y : Int32} (hd : decode cc pc = .ok (.imul, 1)) (K : GM N E X P S (pc + 1) lv (.int (x * y) :: st)) : GM N E X P S pc lv (.int y :: .int x :: st) := by
  obtain ⟨p, l, e, R, s, m, args, below, meth, c, Q, out, D, cy, ad⟩ := X
  obtain ⟨hx, hb, hr, hml, hown, hts, hK, hI, hZ, hN, hlk, hR⟩ := O
  exact fun H locs ls h1 h2 h3 h4 => lv_imul hx hb hd (K H locs ls h1 h2 h3 h4)
theorem r_iand (O : OK N X own cc nL ret rm) {x y : Int32} (hd : decode cc pc = .ok (.iand, 1)) (K : GM N E X P S (pc + 1) lv (.int (x &&& y) :: st)) : GM N E X P S pc lv (.int y :: .int x :: st) := by
  obtain ⟨p, l, e, R, s, m, args, below, meth, c, Q, out, D, cy, ad⟩ := X
  obtain ⟨hx, hb, hr, hml, hown, hts, hK, hI, hZ, hN, hlk, hR⟩ := O
  exact fun H locs ls h1 h2 h3 h4 => lv_iand hx hb hd (K H locs ls h1 h2 h3 h4)
theorem r_ior (O : OK N X own cc nL ret rm) {x y : Int32} (hd : decode cc pc = .ok (.ior, 1)) (K : GM N E X P S (pc + 1) lv (.int (x ||| y) :: st)) : GM N E X P S pc lv (.int y :: .int x :: st) := by
  obtain ⟨p, l, e, R, s, m, args, below, meth, c, Q, out, D, cy, ad⟩ := X
  obtain ⟨hx, hb, hr, hml, hown, hts, hK, hI, hZ, hN, hlk, hR⟩ := O
  exact fun H locs ls h1 h2 h3 h4 => lv_ior hx hb hd (K H locs ls h1 h2 h3 h4)
theorem r_ixor (O : OK N X own cc nL ret rm) {x y : Int32} (hd : decode cc pc = .ok (.ixor, 1)) (K : GM N E X P S (pc + 1) lv (.int (x ^^^ y) :: st)) : GM N E X P S pc lv (.int y :: .int x :: st) := by
  obtain ⟨p, l, e, R, s, m, args, below, meth, c, Q, out, D, cy, ad⟩ := X
  obtain ⟨hx, hb, hr, hml, hown, hts, hK, hI, hZ, hN, hlk, hR⟩ := O
  exact fun H locs ls h1 h2 h3 h4 => lv_ixor hx hb hd (K H locs ls h1 h2 h3 h4)
theorem r_ishl (O : OK N X own cc nL ret rm) {x y : Int32} (hd : decode cc pc = .ok (.ishl, 1)) (K : GM N E X P S (pc + 1) lv (.int (x <<< (y &&& 31)) :: st)) : GM N E X P S pc lv (.int y :: .int x :: st) := by
  obtain ⟨p, l, e, R, s, m, args, below, meth, c, Q, out, D, cy, ad⟩ := X
  obtain ⟨hx, hb, hr, hml, hown, hts, hK, hI, hZ, hN, hlk, hR⟩ := O
  exact fun H locs ls h1 h2 h3 h4 => lv_ishl hx hb hd (K H locs ls h1 h2 h3 h4)
theorem r_ishr (O : OK N X own cc nL ret rm) {x y : Int32} (hd : decode cc pc = .ok (.ishr, 1)) (K : GM N E X P S (pc + 1) lv (.int (x >>> (y &&& 31)) :: st)) : GM N E X P S pc lv (.int y :: .int x :: st) := by
  obtain ⟨p, l, e, R, s, m, args, below, meth, c, Q, out, D, cy, ad⟩ := X
  obtain ⟨hx, hb, hr, hml, hown, hts, hK, hI, hZ, hN, hlk, hR⟩ := O
  exact fun H locs ls h1 h2 h3 h4 => lv_ishr hx hb hd (K H locs ls h1 h2 h3 h4)
theorem r_ladd (O : OK N X own cc nL ret rm) {x y : Int64} (hd : decode cc pc = .ok (.ladd, 1)) (K : GM N E X P S (pc + 1) lv (.long (x + y) :: st)) : GM N E X P S pc lv (.long y :: .long x :: st) := by
  obtain ⟨p, l, e, R, s, m, args, below, meth, c, Q, out, D, cy, ad⟩ := X
  obtain ⟨hx, hb, hr, hml, hown, hts, hK, hI, hZ, hN, hlk, hR⟩ := O
  exact fun H locs ls h1 h2 h3 h4 => lv_ladd hx hb hd (K H locs ls h1 h2 h3 h4)
theorem r_iushr (O : OK N X own cc nL ret rm) {x y : Int32} (hd : decode cc pc = .ok (.iushr, 1)) (K : GM N E X P S (pc + 1) lv (.int ((x.toUInt32 >>> (y.toUInt32 &&& Int32.toUInt32 31)).toInt32) :: st)) : GM N E X P S pc lv (.int y :: .int x :: st) := by
  obtain ⟨p, l, e, R, s, m, args, below, meth, c, Q, out, D, cy, ad⟩ := X
  obtain ⟨hx, hb, hr, hml, hown, hts, hK, hI, hZ, hN, hlk, hR⟩ := O
  exact fun H locs ls h1 h2 h3 h4 => lv_iushr hx hb hd rfl (K H locs ls h1 h2 h3 h4)
theorem r_idiv_c (O : OK N X own cc nL ret rm) {x y : Int32} (hne : ¬ y = 0) (hd : decode cc pc = .ok (.idiv, 1)) (K : GM N E X P S (pc + 1) lv (.int (x / y) :: st)) : GM N E X P S pc lv (.int y :: .int x :: st) := by
  obtain ⟨p, l, e, R, s, m, args, below, meth, c, Q, out, D, cy, ad⟩ := X
  obtain ⟨hx, hb, hr, hml, hown, hts, hK, hI, hZ, hN, hlk, hR⟩ := O
  exact fun H locs ls h1 h2 h3 h4 => lv_idiv hx hb hd hne (K H locs ls h1 h2 h3 h4)
theorem r_idiv (O : OK N X own cc nL ret rm) {x y : Int32} (hd : decode cc pc = .ok (.idiv, 1)) (K : GM N E X P S (pc + 1) lv (.int (x / y) :: st)) : GM N E X (dz y P) S pc lv (.int y :: .int x :: st) := by
  by_cases hy : y = 0
  · obtain ⟨p, l, e, R, s, m, args, below, meth, c, Q, out, D, cy, ad⟩ := X
    exact fun H locs ls h1 h2 h3 h4 => by simp [dz, hy] at h1
  · rw [show dz y P = P from if_neg hy]
    exact r_idiv_c O hy hd K
theorem r_irem_c (O : OK N X own cc nL ret rm) {x y : Int32} (hne : ¬ y = 0) (hd : decode cc pc = .ok (.irem, 1)) (K : GM N E X P S (pc + 1) lv (.int (x - x / y * y) :: st)) : GM N E X P S pc lv (.int y :: .int x :: st) := by
  obtain ⟨p, l, e, R, s, m, args, below, meth, c, Q, out, D, cy, ad⟩ := X
  obtain ⟨hx, hb, hr, hml, hown, hts, hK, hI, hZ, hN, hlk, hR⟩ := O
  exact fun H locs ls h1 h2 h3 h4 => lv_irem hx hb hd hne (K H locs ls h1 h2 h3 h4)
theorem r_irem (O : OK N X own cc nL ret rm) {x y : Int32} (hd : decode cc pc = .ok (.irem, 1)) (K : GM N E X P S (pc + 1) lv (.int (x - x / y * y) :: st)) : GM N E X (dz y P) S pc lv (.int y :: .int x :: st) := by
  by_cases hy : y = 0
  · obtain ⟨p, l, e, R, s, m, args, below, meth, c, Q, out, D, cy, ad⟩ := X
    exact fun H locs ls h1 h2 h3 h4 => by simp [dz, hy] at h1
  · rw [show dz y P = P from if_neg hy]
    exact r_irem_c O hy hd K
theorem r_ineg (O : OK N X own cc nL ret rm) {x : Int32} (hd : decode cc pc = .ok (.ineg, 1)) (K : GM N E X P S (pc + 1) lv (.int (-x) :: st)) : GM N E X P S pc lv (.int x :: st) := by
  obtain ⟨p, l, e, R, s, m, args, below, meth, c, Q, out, D, cy, ad⟩ := X
  obtain ⟨hx, hb, hr, hml, hown, hts, hK, hI, hZ, hN, hlk, hR⟩ := O
  exact fun H locs ls h1 h2 h3 h4 => lv_ineg hx hb hd (K H locs ls h1 h2 h3 h4)
theorem r_i2l (O : OK N X own cc nL ret rm) {x : Int32} (hd : decode cc pc = .ok (.i2l, 1)) (K : GM N E X P S (pc + 1) lv (.long x.toInt64 :: st)) : GM N E X P S pc lv (.int x :: st) := by
  obtain ⟨p, l, e, R, s, m, args, below, meth, c, Q, out, D, cy, ad⟩ := X
  obtain ⟨hx, hb, hr, hml, hown, hts, hK, hI, hZ, hN, hlk, hR⟩ := O
  exact fun H locs ls h1 h2 h3 h4 => lv_i2l hx hb hd rfl (K H locs ls h1 h2 h3 h4)
theorem r_i2b (O : OK N X own cc nL ret rm) {x : Int32} (hd : decode cc pc = .ok (.i2b, 1)) (K : GM N E X P S (pc + 1) lv (.int x.toInt8.toInt32 :: st)) : GM N E X P S pc lv (.int x :: st) := by
  obtain ⟨p, l, e, R, s, m, args, below, meth, c, Q, out, D, cy, ad⟩ := X
  obtain ⟨hx, hb, hr, hml, hown, hts, hK, hI, hZ, hN, hlk, hR⟩ := O
  exact fun H locs ls h1 h2 h3 h4 => lv_i2b hx hb hd rfl (K H locs ls h1 h2 h3 h4)
theorem r_i2s (O : OK N X own cc nL ret rm) {x : Int32} (hd : decode cc pc = .ok (.i2s, 1)) (K : GM N E X P S (pc + 1) lv (.int x.toInt16.toInt32 :: st)) : GM N E X P S pc lv (.int x :: st) := by
  obtain ⟨p, l, e, R, s, m, args, below, meth, c, Q, out, D, cy, ad⟩ := X
  obtain ⟨hx, hb, hr, hml, hown, hts, hK, hI, hZ, hN, hlk, hR⟩ := O
  exact fun H locs ls h1 h2 h3 h4 => lv_i2s hx hb hd rfl (K H locs ls h1 h2 h3 h4)
theorem r_lcmp (O : OK N X own cc nL ret rm) {x y : Int64} (hd : decode cc pc = .ok (.lcmp, 1)) (K : GM N E X P S (pc + 1) lv (.int (lg_cmp x y) :: st)) : GM N E X P S pc lv (.long y :: .long x :: st) := by
  obtain ⟨p, l, e, R, s, m, args, below, meth, c, Q, out, D, cy, ad⟩ := X
  obtain ⟨hx, hb, hr, hml, hown, hts, hK, hI, hZ, hN, hlk, hR⟩ := O
  exact fun H locs ls h1 h2 h3 h4 => W.lcmp hx hb hd (K H locs ls h1 h2 h3 h4)
theorem r_dup (O : OK N X own cc nL ret rm) {v : Value} (hd : decode cc pc = .ok (.dup, 1)) (hv : v.category = 1) (K : GM N E X P S (pc + 1) lv (v :: v :: st)) : GM N E X P S pc lv (v :: st) := by
  obtain ⟨p, l, e, R, s, m, args, below, meth, c, Q, out, D, cy, ad⟩ := X
  obtain ⟨hx, hb, hr, hml, hown, hts, hK, hI, hZ, hN, hlk, hR⟩ := O
  exact fun H locs ls h1 h2 h3 h4 => lv_dup hx hb hd hv (K H locs ls h1 h2 h3 h4)
theorem r_dup2 (O : OK N X own cc nL ret rm) {v w : Value} (hd : decode cc pc = .ok (.dup2, 1)) (hv : v.category = 1) (hw : w.category = 1) (K : GM N E X P S (pc + 1) lv (v :: w :: v :: w :: st)) : GM N E X P S pc lv (v :: w :: st) := by
  obtain ⟨p, l, e, R, s, m, args, below, meth, c, Q, out, D, cy, ad⟩ := X
  obtain ⟨hx, hb, hr, hml, hown, hts, hK, hI, hZ, hN, hlk, hR⟩ := O
  exact fun H locs ls h1 h2 h3 h4 => lv_dup2_11 hx hb hd hv hw (K H locs ls h1 h2 h3 h4)
theorem r_goto (O : OK N X own cc nL ret rm) {off : Int} (tgt : Nat) (hd : decode cc pc = .ok (.goto off, 3)) (ht : (pc : Int) + off = (tgt : Int)) (K : GM N E X P S tgt lv st) : GM N E X P S pc lv st := by
  obtain ⟨p, l, e, R, s, m, args, below, meth, c, Q, out, D, cy, ad⟩ := X
  obtain ⟨hx, hb, hr, hml, hown, hts, hK, hI, hZ, hN, hlk, hR⟩ := O
  exact fun H locs ls h1 h2 h3 h4 => lv_goto hx hb hd ht (K H locs ls h1 h2 h3 h4)
theorem r_if_eq (O : OK N X own cc nL ret rm) {P1 P2 : Option α} {x : Int32} {off : Int} (tgt : Nat) (hd : decode cc pc = .ok (.ifCond .eq off, 3)) (ht : (pc : Int) + off = (tgt : Int)) (K1 : GM N E X P1 S tgt lv st) (K2 : GM N E X P2 S (pc + 3) lv st) : GM N E X (if x = 0 then P1 else P2) S pc lv (.int x :: st) := by
  obtain ⟨p, l, e, R, s, m, args, below, meth, c, Q, out, D, cy, ad⟩ := X
  obtain ⟨hx, hb, hr, hml, hown, hts, hK, hI, hZ, hN, hlk, hR⟩ := O
  exact fun H locs ls h1 h2 h3 h4 => lv_if_eq hx hb hd ht (fun q => K1 H locs ls (by rw [if_pos q] at h1; exact h1) h2 h3 h4) (fun q => K2 H locs ls (by rw [if_neg q] at h1; exact h1) h2 h3 h4)
theorem r_if_lt (O : OK N X own cc nL ret rm) {P1 P2 : Option α} {x : Int32} {off : Int} (tgt : Nat) (hd : decode cc pc = .ok (.ifCond .lt off, 3)) (ht : (pc : Int) + off = (tgt : Int)) (K1 : GM N E X P1 S tgt lv st) (K2 : GM N E X P2 S (pc + 3) lv st) : GM N E X (if x < 0 then P1 else P2) S pc lv (.int x :: st) := by
  obtain ⟨p, l, e, R, s, m, args, below, meth, c, Q, out, D, cy, ad⟩ := X
  obtain ⟨hx, hb, hr, hml, hown, hts, hK, hI, hZ, hN, hlk, hR⟩ := O
  exact fun H locs ls h1 h2 h3 h4 => lv_if_lt hx hb hd ht (fun q => K1 H locs ls (by rw [if_pos q] at h1; exact h1) h2 h3 h4) (fun q => K2 H locs ls (by rw [if_neg q] at h1; exact h1) h2 h3 h4)
theorem r_if_ge (O : OK N X own cc nL ret rm) {P1 P2 : Option α} {x : Int32} {off : Int} (tgt : Nat) (hd : decode cc pc = .ok (.ifCond .ge off, 3)) (ht : (pc : Int) + off = (tgt : Int)) (K1 : GM N E X P1 S tgt lv st) (K2 : GM N E X P2 S (pc + 3) lv st) : GM N E X (if 0 ≤ x then P1 else P2) S pc lv (.int x :: st) := by
  obtain ⟨p, l, e, R, s, m, args, below, meth, c, Q, out, D, cy, ad⟩ := X
  obtain ⟨hx, hb, hr, hml, hown, hts, hK, hI, hZ, hN, hlk, hR⟩ := O
  exact fun H locs ls h1 h2 h3 h4 => lv_if_ge hx hb hd ht (fun q => K1 H locs ls (by rw [if_pos q] at h1; exact h1) h2 h3 h4) (fun q => K2 H locs ls (by rw [if_neg q] at h1; exact h1) h2 h3 h4)
theorem r_if_gt (O : OK N X own cc nL ret rm) {P1 P2 : Option α} {x : Int32} {off : Int} (tgt : Nat) (hd : decode cc pc = .ok (.ifCond .gt off, 3)) (ht : (pc : Int) + off = (tgt : Int)) (K1 : GM N E X P1 S tgt lv st) (K2 : GM N E X P2 S (pc + 3) lv st) : GM N E X (if 0 < x then P1 else P2) S pc lv (.int x :: st) := by
  obtain ⟨p, l, e, R, s, m, args, below, meth, c, Q, out, D, cy, ad⟩ := X
  obtain ⟨hx, hb, hr, hml, hown, hts, hK, hI, hZ, hN, hlk, hR⟩ := O
  exact fun H locs ls h1 h2 h3 h4 => lv_if_gt hx hb hd ht (fun q => K1 H locs ls (by rw [if_pos q] at h1; exact h1) h2 h3 h4) (fun q => K2 H locs ls (by rw [if_neg q] at h1; exact h1) h2 h3 h4)
theorem r_if_le (O : OK N X own cc nL ret rm) {P1 P2 : Option α} {x : Int32} {off : Int} (tgt : Nat) (hd : decode cc pc = .ok (.ifCond .le off, 3)) (ht : (pc : Int) + off = (tgt : Int)) (K1 : GM N E X P1 S tgt lv st) (K2 : GM N E X P2 S (pc + 3) lv st) : GM N E X (if x ≤ 0 then P1 else P2) S pc lv (.int x :: st) := by
  obtain ⟨p, l, e, R, s, m, args, below, meth, c, Q, out, D, cy, ad⟩ := X
  obtain ⟨hx, hb, hr, hml, hown, hts, hK, hI, hZ, hN, hlk, hR⟩ := O
  exact fun H locs ls h1 h2 h3 h4 => lv_if_le hx hb hd ht (fun q => K1 H locs ls (by rw [if_pos q] at h1; exact h1) h2 h3 h4) (fun q => K2 H locs ls (by rw [if_neg q] at h1; exact h1) h2 h3 h4)
theorem r_icmp_eq (O : OK N X own cc nL ret rm) {P1 P2 : Option α} {x y : Int32} {off : Int} (tgt : Nat) (hd : decode cc pc = .ok (.if_icmp .eq off, 3)) (ht : (pc : Int) + off = (tgt : Int)) (K1 : GM N E X P1 S tgt lv st) (K2 : GM N E X P2 S (pc + 3) lv st) : GM N E X (if x = y then P1 else P2) S pc lv (.int y :: .int x :: st) := by
  obtain ⟨p, l, e, R, s, m, args, below, meth, c, Q, out, D, cy, ad⟩ := X
  obtain ⟨hx, hb, hr, hml, hown, hts, hK, hI, hZ, hN, hlk, hR⟩ := O
  exact fun H locs ls h1 h2 h3 h4 => lv_icmp_eq hx hb hd ht (fun q => K1 H locs ls (by rw [if_pos q] at h1; exact h1) h2 h3 h4) (fun q => K2 H locs ls (by rw [if_neg q] at h1; exact h1) h2 h3 h4)
theorem r_icmp_lt (O : OK N X own cc nL ret rm) {P1 P2 : Option α} {x y : Int32} {off : Int} (tgt : Nat) (hd : decode cc pc = .ok (.if_icmp .lt off, 3)) (ht : (pc : Int) + off = (tgt : Int)) (K1 : GM N E X P1 S tgt lv st) (K2 : GM N E X P2 S (pc + 3) lv st) : GM N E X (if x < y then P1 else P2) S pc lv (.int y :: .int x :: st) := by
  obtain ⟨p, l, e, R, s, m, args, below, meth, c, Q, out, D, cy, ad⟩ := X
  obtain ⟨hx, hb, hr, hml, hown, hts, hK, hI, hZ, hN, hlk, hR⟩ := O
  exact fun H locs ls h1 h2 h3 h4 => lv_icmp_lt hx hb hd ht (fun q => K1 H locs ls (by rw [if_pos q] at h1; exact h1) h2 h3 h4) (fun q => K2 H locs ls (by rw [if_neg q] at h1; exact h1) h2 h3 h4)
theorem r_icmp_ge (O : OK N X own cc nL ret rm) {P1 P2 : Option α} {x y : Int32} {off : Int} (tgt : Nat) (hd : decode cc pc = .ok (.if_icmp .ge off, 3)) (ht : (pc : Int) + off = (tgt : Int)) (K1 : GM N E X P1 S tgt lv st) (K2 : GM N E X P2 S (pc + 3) lv st) : GM N E X (if y ≤ x then P1 else P2) S pc lv (.int y :: .int x :: st) := by
  obtain ⟨p, l, e, R, s, m, args, below, meth, c, Q, out, D, cy, ad⟩ := X
  obtain ⟨hx, hb, hr, hml, hown, hts, hK, hI, hZ, hN, hlk, hR⟩ := O
  exact fun H locs ls h1 h2 h3 h4 => lv_icmp_ge hx hb hd ht (fun q => K1 H locs ls (by rw [if_pos q] at h1; exact h1) h2 h3 h4) (fun q => K2 H locs ls (by rw [if_neg q] at h1; exact h1) h2 h3 h4)
theorem r_icmp_gt (O : OK N X own cc nL ret rm) {P1 P2 : Option α} {x y : Int32} {off : Int} (tgt : Nat) (hd : decode cc pc = .ok (.if_icmp .gt off, 3)) (ht : (pc : Int) + off = (tgt : Int)) (K1 : GM N E X P1 S tgt lv st) (K2 : GM N E X P2 S (pc + 3) lv st) : GM N E X (if y < x then P1 else P2) S pc lv (.int y :: .int x :: st) := by
  obtain ⟨p, l, e, R, s, m, args, below, meth, c, Q, out, D, cy, ad⟩ := X
  obtain ⟨hx, hb, hr, hml, hown, hts, hK, hI, hZ, hN, hlk, hR⟩ := O
  exact fun H locs ls h1 h2 h3 h4 => lv_icmp_gt hx hb hd ht (fun q => K1 H locs ls (by rw [if_pos q] at h1; exact h1) h2 h3 h4) (fun q => K2 H locs ls (by rw [if_neg q] at h1; exact h1) h2 h3 h4)
theorem r_icmp_le (O : OK N X own cc nL ret rm) {P1 P2 : Option α} {x y : Int32} {off : Int} (tgt : Nat) (hd : decode cc pc = .ok (.if_icmp .le off, 3)) (ht : (pc : Int) + off = (tgt : Int)) (K1 : GM N E X P1 S tgt lv st) (K2 : GM N E X P2 S (pc + 3) lv st) : GM N E X (if x ≤ y then P1 else P2) S pc lv (.int y :: .int x :: st) := by
  obtain ⟨p, l, e, R, s, m, args, below, meth, c, Q, out, D, cy, ad⟩ := X
  obtain ⟨hx, hb, hr, hml, hown, hts, hK, hI, hZ, hN, hlk, hR⟩ := O
  exact fun H locs ls h1 h2 h3 h4 => lv_icmp_le hx hb hd ht (fun q => K1 H locs ls (by rw [if_pos q] at h1; exact h1) h2 h3 h4) (fun q => K2 H locs ls (by rw [if_neg q] at h1; exact h1) h2 h3 h4)
theorem r_if_ne (O : OK N X own cc nL ret rm) {P1 P2 : Option α} {x : Int32} {off : Int} (tgt : Nat) (hd : decode cc pc = .ok (.ifCond .ne off, 3)) (ht : (pc : Int) + off = (tgt : Int)) (K1 : GM N E X P1 S tgt lv st) (K2 : GM N E X P2 S (pc + 3) lv st) : GM N E X (if x = 0 then P2 else P1) S pc lv (.int x :: st) := by
  obtain ⟨p, l, e, R, s, m, args, below, meth, c, Q, out, D, cy, ad⟩ := X
  obtain ⟨hx, hb, hr, hml, hown, hts, hK, hI, hZ, hN, hlk, hR⟩ := O
  exact fun H locs ls h1 h2 h3 h4 => lv_if_ne hx hb hd ht (fun q => K1 H locs ls (by rw [if_neg q] at h1; exact h1) h2 h3 h4) (fun q => K2 H locs ls (by rw [if_pos q] at h1; exact h1) h2 h3 h4)
theorem r_icmp_ne (O : OK N X own cc nL ret rm) {P1 P2 : Option α} {x y : Int32} {off : Int} (tgt : Nat) (hd : decode cc pc = .ok (.if_icmp .ne off, 3)) (ht : (pc : Int) + off = (tgt : Int)) (K1 : GM N E X P1 S tgt lv st) (K2 : GM N E X P2 S (pc + 3) lv st) : GM N E X (if x = y then P2 else P1) S pc lv (.int y :: .int x :: st) := by
  obtain ⟨p, l, e, R, s, m, args, below, meth, c, Q, out, D, cy, ad⟩ := X
  obtain ⟨hx, hb, hr, hml, hown, hts, hK, hI, hZ, hN, hlk, hR⟩ := O
  exact fun H locs ls h1 h2 h3 h4 => lv_icmp_ne hx hb hd ht (fun q => K1 H locs ls (by rw [if_neg q] at h1; exact h1) h2 h3 h4) (fun q => K2 H locs ls (by rw [if_pos q] at h1; exact h1) h2 h3 h4)
theorem r_none {pc : Nat} : GM N E X none S pc lv st := by
  obtain ⟨p, l, e, R, s, m, args, below, meth, c, Q, out, D, cy, ad⟩ := X
  exact fun H locs ls h1 h2 h3 h4 => by cases h1
theorem r_ite {c : Prop} {dc : Decidable c} {P1 P2 : Option α} (K1 : c → GM N E X P1 S pc lv st) (K2 : ¬ c → GM N E X P2 S pc lv st) : GM N E X (@ite _ c dc P1 P2) S pc lv st := by
  by_cases h : c
  · rw [if_pos h]; exact K1 h
  · rw [if_neg h]; exact K2 h
theorem r_tin (O : OK N X own cc nL ret rm) {dflt lo hi : Int} {offs : Array Int} {len : Nat} {x : Int32} {off : Int} (tgt : Nat) (hd : decode cc pc = .ok (.tableswitch dflt lo hi offs, len)) (q1 : ¬ x.toInt < lo) (q2 : ¬ hi < x.toInt) (ho : offs[(x.toInt - lo).toNat]? = some off) (ht : (pc : Int) + off = (tgt : Int)) (K : GM N E X P S tgt lv st) : GM N E X P S pc lv (.int x :: st) := by
  obtain ⟨p, l, e, R, s, m, args, below, meth, c, Q, out, D, cy, ad⟩ := X
  obtain ⟨hx, hb, hr, hml, hown, hts, hK, hI, hZ, hN, hlk, hR⟩ := O
  exact fun H locs ls h1 h2 h3 h4 => lv_tableIn hx hb hd q1 q2 ho ht (K H locs ls h1 h2 h3 h4)
theorem r_tout (O : OK N X own cc nL ret rm) {dflt lo hi : Int} {offs : Array Int} {len : Nat} {x : Int32} (tgt : Nat) (hd : decode cc pc = .ok (.tableswitch dflt lo hi offs, len)) (q1 : x.toInt < lo ∨ hi < x.toInt) (ht : (pc : Int) + dflt = (tgt : Int)) (K : GM N E X P S tgt lv st) : GM N E X P S pc lv (.int x :: st) := by
  obtain ⟨p, l, e, R, s, m, args, below, meth, c, Q, out, D, cy, ad⟩ := X
  obtain ⟨hx, hb, hr, hml, hown, hts, hK, hI, hZ, hN, hlk, hR⟩ := O
  exact fun H locs ls h1 h2 h3 h4 => lv_tableOut hx hb hd q1 ht (K H locs ls h1 h2 h3 h4)
theorem r_look (O : OK N X own cc nL ret rm) {dflt : Int} {ps : Array (Int × Int)} {len : Nat} {x : Int32} {off : Int} (tgt : Nat) (hd : decode cc pc = .ok (.lookupswitch dflt ps, len)) (hp : (ps.toList.zip (ps.toList.drop 1)).all (fun (a, next) => a.1 < next.1) = true) (ho : Op.lookupswitch.offset ps.toList dflt x.toInt = off) (ht : (pc : Int) + off = (tgt : Int)) (K : GM N E X P S tgt lv st) : GM N E X P S pc lv (.int x :: st) := by
  obtain ⟨p, l, e, R, s, m, args, below, meth, c, Q, out, D, cy, ad⟩ := X
  obtain ⟨hx, hb, hr, hml, hown, hts, hK, hI, hZ, hN, hlk, hR⟩ := O
  exact fun H locs ls h1 h2 h3 h4 => lv_lookup hx hb hd hp ho ht (K H locs ls h1 h2 h3 h4)
theorem r_iret {K0 : Int32 → MS → Option α} (O : OK N X own cc nL (some .int) rm) (hQ : RtI N E X K0) {r : Int32} (hd : decode cc pc = .ok (.ireturn, 1)) : GM N E X (K0 r S) S pc lv [.int r] := by
  obtain ⟨p, l, e, R, s, m, args, below, meth, c, Q, out, D, cy, ad⟩ := X
  obtain ⟨hx, hb, hr, hml, hown, hts, hK, hI, hZ, hN, hlk, hR⟩ := O
  cases hQ
  exact fun H locs ls h1 h2 h3 h4 => W.iret hx hb hr (fun t ht hW => ⟨⟨r, S, rfl, h1, by rw [BG, ht]; exact h2⟩, h3.F ht⟩) h3.2.2 hd
theorem r_zret {K0 : Int32 → MS → Option α} (O : OK N X own cc nL (some .boolean) rm) (hQ : RtI N E X K0) {r : Int32} (hz : r = 0 ∨ r = 1) (hd : decode cc pc = .ok (.ireturn, 1)) : GM N E X (K0 r S) S pc lv [.int r] := by
  obtain ⟨p, l, e, R, s, m, args, below, meth, c, Q, out, D, cy, ad⟩ := X
  obtain ⟨hx, hb, hr, hml, hown, hts, hK, hI, hZ, hN, hlk, hR⟩ := O
  cases hQ
  exact fun H locs ls h1 h2 h3 h4 => W.zret hx hb hr (by rcases hz with rfl | rfl <;> rfl) (fun t ht hW => ⟨⟨r, S, rfl, h1, by rw [BG, ht]; exact h2⟩, h3.F ht⟩) h3.2.2 hd
theorem r_zb {r : Int32} (K : r = 0 ∨ r = 1 → GM N E X P S pc lv st) : GM N E X (zb r P) S pc lv st := by
  unfold zb
  exact r_ite K (fun _ => r_none)
theorem r_lret {K0 : Int64 → MS → Option α} (O : OK N X own cc nL (some .long) rm) (hQ : RtL N E X K0) {r : Int64} (hd : decode cc pc = .ok (.lreturn, 1)) : GM N E X (K0 r S) S pc lv [.long r] := by
  obtain ⟨p, l, e, R, s, m, args, below, meth, c, Q, out, D, cy, ad⟩ := X
  obtain ⟨hx, hb, hr, hml, hown, hts, hK, hI, hZ, hN, hlk, hR⟩ := O
  cases hQ
  exact fun H locs ls h1 h2 h3 h4 => W.lret hx hb hr (fun t ht hW => ⟨⟨r, S, rfl, h1, by rw [BG, ht]; exact h2⟩, h3.F ht⟩) h3.2.2 hd
theorem r_vret {K0 : MS → Option α} (O : OK N X own cc nL none rm) (hQ : RtV N E X K0) (hd : decode cc pc = .ok (.return_, 1)) : GM N E X (K0 S) S pc lv [] := by
  obtain ⟨p, l, e, R, s, m, args, below, meth, c, Q, out, D, cy, ad⟩ := X
  obtain ⟨hx, hb, hr, hml, hown, hts, hK, hI, hZ, hN, hlk, hR⟩ := O
  cases hQ
  exact fun H locs ls h1 h2 h3 h4 => W.vret hx hb hr (fun t ht hW => ⟨⟨S, rfl, h1, by rw [BG, ht]; exact h2⟩, h3.F ht⟩) h3.2.2 hd
theorem r_aret {nm0 : String} {j : Nat} {K0 : MS → Option α} (O : OK N X own cc nL (some (.object nm0)) rm) (hQ : RtR N E X j K0) (hd : decode cc pc = .ok (.areturn, 1)) : GM N E X (K0 S) S pc lv [.ref (aX X j)] := by
  obtain ⟨p, l, e, R, s, m, args, below, meth, c, Q, out, D, cy, ad⟩ := X
  obtain ⟨hx, hb, hr, hml, hown, hts, hK, hI, hZ, hN, hlk, hR⟩ := O
  cases hQ
  exact fun H locs ls h1 h2 h3 h4 => W.aret hx hb hr (Or.inl ⟨_, rfl⟩) (Or.inr ⟨_, rfl⟩) (fun t ht hW => ⟨⟨S, ad j, rfl, h1, rfl, by rw [BG, ht]; exact h2⟩, h3.F ht⟩) h3.2.2 hd
theorem r_get (O : OK N X own cc nL ret rm) {ci n k idx j : Nat} {C : String} {T : u_T} {fs : List Value} {v : Value} (hc : classes[ci]? = some (C, T, n)) (hin : ∀ w ∈ u_ws C T n, w ∈ lw_gd) (hk : k < n) (hw : Cond.fieldLink own idx (T k).1 (T k).2.1 (T k).2.2.1 ∈ lw_gd) (hj : j < N) (he : E (cX X) (aX X) j (S.1 j) (S.2 j) = .inr (ci, fs)) (hv : fs[k]? = some v) (hd : decode cc pc = .ok (.getfield idx, 3)) (K : GM N E X P S (pc + 3) lv (v :: st)) : GM N E X P S pc lv (.ref (aX X j) :: st) := by
  obtain ⟨p, l, e, R, s, m, args, below, meth, c, Q, out, D, cy, ad⟩ := X
  obtain ⟨hx, hb, hr, hml, hown, hts, hK, hI, hZ, hN, hlk, hR⟩ := O
  exact fun H locs ls h1 h2 h3 h4 => va_get hx hb hts hin hown hK h2 j ((wG_at hj).trans (congrArg (fun z => some (ad j, z)) he)) hc k hk (hts _ hw) (fun _ h => h) hv hd (K H locs ls h1 h2 h3 h4)
theorem r_getN (O : OK N X own cc nL ret rm) {ci n k idx j : Nat} {C : String} {T : u_T} {fs : List Value} {v : Value} (hc : classes[ci]? = some (C, T, n)) (hin : ∀ w ∈ u_ws C T n, w ∈ lw_gd) (hk : k < n) {host : String} (hw : Cond.fieldLinkNest own idx (T k).1 (T k).2.1 (T k).2.2.1 host ∈ lw_tbl) (hj : j < N) (he : E (cX X) (aX X) j (S.1 j) (S.2 j) = .inr (ci, fs)) (hv : fs[k]? = some v) (hd : decode cc pc = .ok (.getfield idx, 3)) (K : GM N E X P S (pc + 3) lv (v :: st)) : GM N E X P S pc lv (.ref (aX X j) :: st) := by
  obtain ⟨p, l, e, R, s, m, args, below, meth, c, Q, out, D, cy, ad⟩ := X
  obtain ⟨hx, hb, hr, hml, hown, hts, hK, hI, hZ, hN, hlk, hR⟩ := O
  exact fun H locs ls h1 h2 h3 h4 => va_getN hx hb hts hin hown hK h2 j ((wG_at hj).trans (congrArg (fun z => some (ad j, z)) he)) hc k hk (va_Nw.use rfl (hN _ hw rfl)) (fun _ h => h) hv hd (K H locs ls h1 h2 h3 h4)
theorem r_put (O : OK N X own cc nL ret rm) {P : MS → Option α} {ci n k idx j : Nat} {C : String} {T : u_T} {fs : List Value} {v : Int32} {ty0 : Nat → FieldType} {ty : FieldType} (hc : classes[ci]? = some (C, T, n)) (hin : ∀ w ∈ u_ws C T n, w ∈ lw_gd) (hty : ∀ k, k < n → parseFieldDescriptor (T k).2.2.1 = some (ty0 k)) (hnm : ∀ a, a < n → ∀ b, b < n → a ≠ b → (T a).2.1 ≠ (T b).2.1) (hk : k < n) (hw : Cond.fieldLink own idx (T k).1 (T k).2.1 (T k).2.2.1 ∈ lw_gd) (hj : j < N) (he : E (cX X) (aX X) j (S.1 j) (S.2 j) = .inr (ci, fs)) (he2 : E (cX X) (aX X) j (upd (S.1 j) k v) (S.2 j) = .inr (ci, fs.set k (.int v))) (hfin : (T k).2.2.2 = false) (hdd : parseFieldDescriptor (T k).2.2.1 = some ty) (hn : narrow ty (.int v) = .int v) (hfit : fits ty (.int v) = true) (hl : k < fs.length) (hd : decode cc pc = .ok (.putfield idx, 3)) (K : ∀ S, GM N E X (P S) S (pc + 3) lv st) : GM N E X (nm (sI S j k v) P) S pc lv (.int v :: .ref (aX X j) :: st) := by
  obtain ⟨p, l, e, R, s, m, args, below, meth, c, Q, out, D, cy, ad⟩ := X
  obtain ⟨hx, hb, hr, hml, hown, hts, hK, hI, hZ, hN, hlk, hR⟩ := O
  exact fun H locs ls h1 h2 h3 h4 => va_put hx hb hts hin ty0 hty hnm hown hK h2 (wG_D hI) h3 j ((wG_at hj).trans (congrArg (fun z => some (ad j, z)) he)) hc k hk (hts _ hw) (fun _ h => h) hfin hdd hn hfit hl hd (fun H1 locs1 g1 _ g3 => K (sI S j k v) H1 locs1 ls h1 (by rw [← wG_setI (E := E cy) (ad := ad) he2]; exact g1) g3 h4)
theorem r_putN (O : OK N X own cc nL ret rm) {P : MS → Option α} {ci n k idx j : Nat} {C : String} {T : u_T} {fs : List Value} {v : Int32} {ty0 : Nat → FieldType} {ty : FieldType} (hc : classes[ci]? = some (C, T, n)) (hin : ∀ w ∈ u_ws C T n, w ∈ lw_gd) (hty : ∀ k, k < n → parseFieldDescriptor (T k).2.2.1 = some (ty0 k)) (hnm : ∀ a, a < n → ∀ b, b < n → a ≠ b → (T a).2.1 ≠ (T b).2.1) (hk : k < n) {host : String} (hw : Cond.fieldLinkNest own idx (T k).1 (T k).2.1 (T k).2.2.1 host ∈ lw_tbl) (hj : j < N) (he : E (cX X) (aX X) j (S.1 j) (S.2 j) = .inr (ci, fs)) (he2 : E (cX X) (aX X) j (upd (S.1 j) k v) (S.2 j) = .inr (ci, fs.set k (.int v))) (hfin : (T k).2.2.2 = false) (hdd : parseFieldDescriptor (T k).2.2.1 = some ty) (hn : narrow ty (.int v) = .int v) (hfit : fits ty (.int v) = true) (hl : k < fs.length) (hd : decode cc pc = .ok (.putfield idx, 3)) (K : ∀ S, GM N E X (P S) S (pc + 3) lv st) : GM N E X (nm (sI S j k v) P) S pc lv (.int v :: .ref (aX X j) :: st) := by
  obtain ⟨p, l, e, R, s, m, args, below, meth, c, Q, out, D, cy, ad⟩ := X
  obtain ⟨hx, hb, hr, hml, hown, hts, hK, hI, hZ, hN, hlk, hR⟩ := O
  exact fun H locs ls h1 h2 h3 h4 => va_putN hx hb hts hin ty0 hty hnm hown hK h2 (wG_D hI) h3 j ((wG_at hj).trans (congrArg (fun z => some (ad j, z)) he)) hc k hk (va_Nw.use rfl (hN _ hw rfl)) (fun _ h => h) hfin hdd hn hfit hl hd (fun H1 locs1 g1 _ g3 => K (sI S j k v) H1 locs1 ls h1 (by rw [← wG_setI (E := E cy) (ad := ad) he2]; exact g1) g3 h4)
theorem ck_split {i : Int32} {n : Nat} {P : Nat → Option α} (K : vp_in i n → GM N E X (P i.toNatClampNeg) S pc lv st) : GM N E X (ck i n P) S pc lv st := by
  unfold ck
  exact r_ite (fun _ => r_none) (fun h => K h)
theorem vp_in_lt {i : Int32} {n : Nat} (h : vp_in i n) : i.toNatClampNeg < n := Nat.not_le.mp fun q => h (Or.inr q)
theorem r_iald (O : OK N X own cc nL ret rm) {P : Nat → Option α} {i : Int32} {j n : Nat} (hj : j < N) (he : E (cX X) (aX X) j (S.1 j) (S.2 j) = .inl (cX X 0, n, .inl (S.1 j))) (hd : decode cc pc = .ok (.iaload, 1)) (K : ∀ k, k < n → GM N E X (P k) S (pc + 1) lv (.int (S.1 j k) :: st)) : GM N E X (ck i n P) S pc lv (.int i :: .ref (aX X j) :: st) := by
  refine ck_split (fun hin => ?_)
  have hk := vp_in_lt hin
  obtain ⟨p, l, e, R, s, m, args, below, meth, c, Q, out, D, cy, ad⟩ := X
  obtain ⟨hx, hb, hr, hml, hown, hts, hK, hI, hZ, hN, hlk, hR⟩ := O
  exact fun H locs ls h1 h2 h3 h4 => va_iald hx hb hK h2 j 0 ((wG_at hj).trans (congrArg (fun z => some (ad j, z)) he)) rfl hin hd (K _ hk H locs ls h1 h2 h3 h4)
theorem r_zald (O : OK N X own cc nL ret rm) {P : Nat → Option α} {i : Int32} {j n : Nat} (hj : j < N) (he : E (cX X) (aX X) j (S.1 j) (S.2 j) = .inl (cX X 2, n, .inl (S.1 j))) (hd : decode cc pc = .ok (.baload, 1)) (K : ∀ k, k < n → GM N E X (P k) S (pc + 1) lv (.int (S.1 j k) :: st)) : GM N E X (ck i n P) S pc lv (.int i :: .ref (aX X j) :: st) := by
  refine ck_split (fun hin => ?_)
  have hk := vp_in_lt hin
  obtain ⟨p, l, e, R, s, m, args, below, meth, c, Q, out, D, cy, ad⟩ := X
  obtain ⟨hx, hb, hr, hml, hown, hts, hK, hI, hZ, hN, hlk, hR⟩ := O
  exact fun H locs ls h1 h2 h3 h4 => va_zald hx hb hK h2 j 2 ((wG_at hj).trans (congrArg (fun z => some (ad j, z)) he)) rfl hin hd (K _ hk H locs ls h1 h2 h3 h4)
theorem r_lald (O : OK N X own cc nL ret rm) {P : Nat → Option α} {i : Int32} {j n : Nat} (hj : j < N) (he : E (cX X) (aX X) j (S.1 j) (S.2 j) = .inl (cX X 1, n, .inr (.inl (S.2 j)))) (hd : decode cc pc = .ok (.laload, 1)) (K : ∀ k, k < n → GM N E X (P k) S (pc + 1) lv (.long (S.2 j k) :: st)) : GM N E X (ck i n P) S pc lv (.int i :: .ref (aX X j) :: st) := by
  refine ck_split (fun hin => ?_)
  have hk := vp_in_lt hin
  obtain ⟨p, l, e, R, s, m, args, below, meth, c, Q, out, D, cy, ad⟩ := X
  obtain ⟨hx, hb, hr, hml, hown, hts, hK, hI, hZ, hN, hlk, hR⟩ := O
  exact fun H locs ls h1 h2 h3 h4 => va_lald hx hb hK h2 j 1 ((wG_at hj).trans (congrArg (fun z => some (ad j, z)) he)) rfl hin hd (K _ hk H locs ls h1 h2 h3 h4)
theorem r_aald (O : OK N X own cc nL ret rm) {P : Nat → Option α} {i : Int32} {j n t0 b : Nat} {C : String} (hj : j < N) (he : E (cX X) (aX X) j (S.1 j) (S.2 j) = .inl (cX X t0, n, .inr (.inr (.inr (.inr (fun k => some (aX X (b + k)))))))) (ht : (tysG (cX X))[t0]? = some (cX X t0, .object C)) (hd : decode cc pc = .ok (.aaload, 1)) (K : ∀ k, k < n → GM N E X (P k) S (pc + 1) lv (.ref (aX X (b + k)) :: st)) : GM N E X (ck i n P) S pc lv (.int i :: .ref (aX X j) :: st) := by
  refine ck_split (fun hin => ?_)
  have hk := vp_in_lt hin
  obtain ⟨p, l, e, R, s, m, args, below, meth, c, Q, out, D, cy, ad⟩ := X
  obtain ⟨hx, hb, hr, hml, hown, hts, hK, hI, hZ, hN, hlk, hR⟩ := O
  exact fun H locs ls h1 h2 h3 h4 => va_aldq hx hb hK h2 j t0 ((wG_at hj).trans (congrArg (fun z => some (ad j, z)) he)) ht hin hd (K _ hk H locs ls h1 h2 h3 h4)
theorem r_iast (O : OK N X own cc nL ret rm) {P : MS → Option α} {i x : Int32} {j n : Nat} (hj : j < N) (he : ∀ r, E (cX X) (aX X) j r (S.2 j) = .inl (cX X 0, n, .inl r)) (hd : decode cc pc = .ok (.iastore, 1)) (K : ∀ S, GM N E X (P S) S (pc + 1) lv st) : GM N E X (ck i n fun k => nm (sI S j k x) P) S pc lv (.int x :: .int i :: .ref (aX X j) :: st) := by
  refine ck_split (fun hin => ?_)
  have hk := vp_in_lt hin
  obtain ⟨p, l, e, R, s, m, args, below, meth, c, Q, out, D, cy, ad⟩ := X
  obtain ⟨hx, hb, hr, hml, hown, hts, hK, hI, hZ, hN, hlk, hR⟩ := O
  exact fun H locs ls h1 h2 h3 h4 => va_iast hx hb hK h2 (wG_D hI) h3 j 0 ((wG_at hj).trans (congrArg (fun z => some (ad j, z)) (he _))) rfl hin hd (fun H1 locs1 g1 _ g3 => K _ H1 locs1 ls h1 (by rw [← wG_setI (E := E cy) (ad := ad) (he _)]; exact g1) g3 h4)
theorem r_zast (O : OK N X own cc nL ret rm) {P : MS → Option α} {i x : Int32} {j n : Nat} (hj : j < N) (he : ∀ r, E (cX X) (aX X) j r (S.2 j) = .inl (cX X 2, n, .inl r)) (hd : decode cc pc = .ok (.bastore, 1)) (K : ∀ S, GM N E X (P S) S (pc + 1) lv st) : GM N E X (ck i n fun k => nm (sI S j k (vp_nar .boolean x)) P) S pc lv (.int x :: .int i :: .ref (aX X j) :: st) := by
  refine ck_split (fun hin => ?_)
  have hk := vp_in_lt hin
  obtain ⟨p, l, e, R, s, m, args, below, meth, c, Q, out, D, cy, ad⟩ := X
  obtain ⟨hx, hb, hr, hml, hown, hts, hK, hI, hZ, hN, hlk, hR⟩ := O
  exact fun H locs ls h1 h2 h3 h4 => va_zast hx hb hK h2 (wG_D hI) h3 j 2 ((wG_at hj).trans (congrArg (fun z => some (ad j, z)) (he _))) rfl hin hd (fun H1 locs1 g1 _ g3 => K _ H1 locs1 ls h1 (by rw [← wG_setI (E := E cy) (ad := ad) (he _)]; exact g1) g3 h4)
theorem r_last (O : OK N X own cc nL ret rm) {P : MS → Option α} {i : Int32} {x : Int64} {j n : Nat} (hj : j < N) (he : ∀ r, E (cX X) (aX X) j (S.1 j) r = .inl (cX X 1, n, .inr (.inl r))) (hd : decode cc pc = .ok (.lastore, 1)) (K : ∀ S, GM N E X (P S) S (pc + 1) lv st) : GM N E X (ck i n fun k => nm (sL S j k x) P) S pc lv (.long x :: .int i :: .ref (aX X j) :: st) := by
  refine ck_split (fun hin => ?_)
  have hk := vp_in_lt hin
  obtain ⟨p, l, e, R, s, m, args, below, meth, c, Q, out, D, cy, ad⟩ := X
  obtain ⟨hx, hb, hr, hml, hown, hts, hK, hI, hZ, hN, hlk, hR⟩ := O
  exact fun H locs ls h1 h2 h3 h4 => va_last hx hb hK h2 (wG_D hI) h3 j 1 ((wG_at hj).trans (congrArg (fun z => some (ad j, z)) (he _))) rfl hin hd (fun H1 locs1 g1 _ g3 => K _ H1 locs1 ls h1 (by rw [← wG_setL (E := E cy) (ad := ad) (he _)]; exact g1) g3 h4)
theorem r_alen (O : OK N X own cc nL ret rm) {j n t0 : Nat} {ty : FieldType} {x : vp_A} {v : Int32} (hj : j < N) (he : E (cX X) (aX X) j (S.1 j) (S.2 j) = .inl (cX X t0, x)) (ht : (tysG (cX X))[t0]? = some (cX X t0, ty)) (hv : Int32.ofNat x.1 = v) (hd : decode cc pc = .ok (.arraylength, 1)) (K : GM N E X P S (pc + 1) lv (.int v :: st)) : GM N E X P S pc lv (.ref (aX X j) :: st) := by
  obtain ⟨p, l, e, R, s, m, args, below, meth, c, Q, out, D, cy, ad⟩ := X
  obtain ⟨hx, hb, hr, hml, hown, hts, hK, hI, hZ, hN, hlk, hR⟩ := O
  exact fun H locs ls h1 h2 h3 h4 => va_alen hx hb hK h2 j t0 ((wG_at hj).trans (congrArg (fun z => some (ad j, z)) he)) ht hv hd (K H locs ls h1 h2 h3 h4)
def T3 {α : Type} (N : Nat) (X : GX α) (t3 : Nat) : Prop := match X with
  | (p, l, e, R, s, m, args, below, meth, c, Q, out, D, cy, ad) => va_T .int t3 6 (fun j => .int (pw3 j)) (AG N ad) s s.heap
theorem r_gets (O : OK N X own cc nL ret rm) {idx : Nat} (hw : Cond.fieldLink own idx "BallastSteps" "POWERS_OF_3" "[I" ∈ lw_gd) (hd : decode cc pc = .ok (.getstatic idx, 3)) (K : ∀ t3, T3 N X t3 → GM N E X P S (pc + 3) lv (.ref t3 :: st)) : GM N E X P S pc lv st := by
  obtain ⟨p, l, e, R, s, m, args, below, meth, c, Q, out, D, cy, ad⟩ := X
  obtain ⟨hx, hb, hr, hml, hown, hts, hK, hI, hZ, hN, hlk, hR⟩ := O
  obtain ⟨t3, g1, g2⟩ := hZ
  exact fun H locs ls h1 h2 h3 h4 => va_gets hx hb g1 h3 hown (hts _ hw) (fun _ h => h) hd (K t3 g2 H locs ls h1 h2 h3 h4)
theorem r_getsN (O : OK N X own cc nL ret rm) {idx : Nat} {host : String} (hw : Cond.fieldLinkNest own idx "BallastSteps" "POWERS_OF_3" "[I" host ∈ lw_tbl) (hd : decode cc pc = .ok (.getstatic idx, 3)) (K : ∀ t3, T3 N X t3 → GM N E X P S (pc + 3) lv (.ref t3 :: st)) : GM N E X P S pc lv st := by
  obtain ⟨p, l, e, R, s, m, args, below, meth, c, Q, out, D, cy, ad⟩ := X
  obtain ⟨hx, hb, hr, hml, hown, hts, hK, hI, hZ, hN, hlk, hR⟩ := O
  obtain ⟨t3, g1, g2⟩ := hZ
  exact fun H locs ls h1 h2 h3 h4 => va_getsN hx hb g1 h3 hown (va_Nw.use rfl (hN _ hw rfl)) (fun _ h => h) hd (K t3 g2 H locs ls h1 h2 h3 h4)
theorem r_p3 (O : OK N X own cc nL ret rm) {P : Nat → Option α} {i : Int32} {t3 : Nat} (hT : T3 N X t3) (hd : decode cc pc = .ok (.iaload, 1)) (K : ∀ k, k < 6 → GM N E X (P k) S (pc + 1) lv (.int (pw3 k) :: st)) : GM N E X (ck i 6 P) S pc lv (.int i :: .ref t3 :: st) := by
  refine ck_split (fun hin => ?_)
  have hk := vp_in_lt hin
  obtain ⟨p, l, e, R, s, m, args, below, meth, c, Q, out, D, cy, ad⟩ := X
  obtain ⟨hx, hb, hr, hml, hown, hts, hK, hI, hZ, hN, hlk, hR⟩ := O
  exact fun H locs ls h1 h2 h3 h4 => va_ti hx hb hT h3 hin rfl hd (K _ hk H locs ls h1 h2 h3 h4)
theorem r_mmax (O : OK N X own cc nL ret rm) {x y : Int32} {idx : Nat} (hw1 : Cond.methodLink own idx Lib.Math.max.name ∈ lw_gd) (hw2 : Cond.static Lib.Math.max.name ∈ lw_gd) (hw3 : Cond.initialized "java/lang/Math" ∈ lw_gd) (hw4 : Cond.code Lib.Math.max.name Lib.Math.max.code 2 (some .int) ∈ lw_gd) (hf : 1 ≤ rm.frames) (hlo : (st.map fun v => v.category).sum + 13 ≤ rm.locals) (hd : decode cc pc = .ok (.invokestatic idx, 3)) (K : GM N E X P S (pc + 3) lv (.int (if x < y then y else x) :: st)) : GM N E X P S pc lv (.int y :: .int x :: st) := by
  obtain ⟨p, l, e, R, s, m, args, below, meth, c, Q, out, D, cy, ad⟩ := X
  obtain ⟨hx, hb, hr, hml, hown, hts, hK, hI, hZ, hN, hlk, hR⟩ := O
  exact fun H locs ls h1 h2 h3 h4 => va_mmax hx hb h4.1.symm hown (hts _ hw1) (hts _ hw2) (hts _ hw3) (hts _ hw4) (by rw [hR]; exact hf) (by rw [hR]; exact hlo) (Nat.zero_le _) (Nat.zero_le _) hd (K H locs ls h1 h2 h3 h4)
theorem r_mmin (O : OK N X own cc nL ret rm) {x y : Int32} {idx : Nat} (hw1 : Cond.methodLink own idx Lib.Math.min.name ∈ lw_gd) (hw2 : Cond.static Lib.Math.min.name ∈ lw_gd) (hw3 : Cond.initialized "java/lang/Math" ∈ lw_gd) (hw4 : Cond.code Lib.Math.min.name Lib.Math.min.code 2 (some .int) ∈ lw_gd) (hf : 1 ≤ rm.frames) (hlo : (st.map fun v => v.category).sum + 13 ≤ rm.locals) (hd : decode cc pc = .ok (.invokestatic idx, 3)) (K : GM N E X P S (pc + 3) lv (.int (if y < x then y else x) :: st)) : GM N E X P S pc lv (.int y :: .int x :: st) := by
  obtain ⟨p, l, e, R, s, m, args, below, meth, c, Q, out, D, cy, ad⟩ := X
  obtain ⟨hx, hb, hr, hml, hown, hts, hK, hI, hZ, hN, hlk, hR⟩ := O
  exact fun H locs ls h1 h2 h3 h4 => va_mmin hx hb h4.1.symm hown (hts _ hw1) (hts _ hw2) (hts _ hw3) (hts _ hw4) (by rw [hR]; exact hf) (by rw [hR]; exact hlo) (Nat.zero_le _) (Nat.zero_le _) hd (K H locs ls h1 h2 h3 h4)
theorem r_mabs (O : OK N X own cc nL ret rm) {x : Int32} {idx : Nat} (hw1 : Cond.methodLink own idx Lib.Math.abs.name ∈ lw_gd) (hw2 : Cond.static Lib.Math.abs.name ∈ lw_gd) (hw3 : Cond.initialized "java/lang/Math" ∈ lw_gd) (hw4 : Cond.code Lib.Math.abs.name Lib.Math.abs.code 1 (some .int) ∈ lw_gd) (hf : 1 ≤ rm.frames) (hlo : (st.map fun v => v.category).sum + 13 ≤ rm.locals) (hd : decode cc pc = .ok (.invokestatic idx, 3)) (K : GM N E X P S (pc + 3) lv (.int (if 0 ≤ x then x else 0 - x) :: st)) : GM N E X P S pc lv (.int x :: st) := by
  obtain ⟨p, l, e, R, s, m, args, below, meth, c, Q, out, D, cy, ad⟩ := X
  obtain ⟨hx, hb, hr, hml, hown, hts, hK, hI, hZ, hN, hlk, hR⟩ := O
  exact fun H locs ls h1 h2 h3 h4 => va_mabs hx hb h4.1.symm hown (hts _ hw1) (hts _ hw2) (hts _ hw3) (hts _ hw4) (by rw [hR]; exact hf) (by rw [hR]; exact hlo) (Nat.zero_le _) (Nat.zero_le _) hd (K H locs ls h1 h2 h3 h4)
end GMrows
theorem PG_blind {N : Nat} {E : (Nat → ClassId) → EG} {D : va_G} {cy : Nat → ClassId} {ad : Nat → Nat} {S : MS} {av : List Value} : FrameBlind (va_Pc av (PG N E D cy ad S)) := by
  intro a U g mk ⟨q0, q1, q2, q3, q4, q5⟩
  exact ⟨q0, q1, va_K.moved (u := U) (U := U.calling g mk a) (Vm.Alike.refl U.vm) q2, q3, ZG.moved (u := U) (U := U.calling g mk a) (Vm.Alike.refl U.vm) q4, NG.same (s := U) (U := U.calling g mk a) rfl q5⟩
theorem PG_call {N : Nat} {E : (Nat → ClassId) → EG} {D : va_G} {cy : Nat → ClassId} {ad : Nat → Nat} {S : MS} {s : State} {H : Heap} {locs : List Loc} (h2 : va_P D classes (wG N (E cy) ad S) H) (h3 : va_S (AG N ad) s.heap H locs) (hK : va_K D classes (tysG cy) s) (hI : IG N ad) (hZ : ZG (AG N ad) s s.heap) (hN : NG s) (U : State) (hU : U.heap = H) (hW : s.WarmedH U.vm) : PG N E D cy ad S U :=
  ⟨by rw [hU]; exact h2, va_K.moved hW.alike hK, hI, by rw [hU]; exact (hZ.kept h3.2.1).moved hW.alike, hN.warm hW⟩
theorem gd_cons {y : MethodName} {c2 : ByteArray} {n2 : Nat} {r2 : Option FieldType} (h : Cond.code y c2 n2 r2 ∈ lw_gd) : GoodIn lw_gd (.code y c2 n2 r2 :: lw_gd) := fun w hw => (List.mem_cons.mp hw).elim (fun e => by rw [e]; exact gd_good _ h) (gd_good w)
theorem gdS {own : String} {idx : Nat} {y : MethodName} {c2 : ByteArray} {n2 : Nat} {r2 : Option FieldType} (h1 : Cond.methodLink own idx y ∈ lw_gd) (h2 : Cond.static y ∈ lw_gd) (h3 : Cond.initialized y.cls ∈ lw_gd) (h : Cond.code y c2 n2 r2 ∈ lw_gd) : GoodIn lw_gd (va_wsS own idx y (.code y c2 n2 r2 :: lw_gd)) := by
  intro w hw
  rcases List.mem_append.mp hw with q | q
  · simp only [List.mem_cons, List.not_mem_nil, or_false] at q
    rcases q with rfl | rfl | rfl
    · exact gd_good _ h1
    · exact gd_good _ h2
    · exact gd_good _ h3
  · exact gd_cons h w q
theorem gdV {own C : String} {idx : Nat} {y : MethodName} {c2 : ByteArray} {n2 : Nat} {r2 : Option FieldType} (h1 : Cond.methodLink own idx y ∈ lw_gd) (h2 : Cond.instanceMethod y ∈ lw_gd) (h3 : Cond.selects C y y ∈ lw_gd) (h4 : Cond.initialized C ∈ lw_gd) (h : Cond.code y c2 n2 r2 ∈ lw_gd) : GoodIn lw_gd (wsV own idx C y (.code y c2 n2 r2 :: lw_gd)) := by
  intro w hw
  rcases List.mem_append.mp hw with q | q
  · simp only [List.mem_cons, List.not_mem_nil, or_false] at q
    rcases q with rfl | rfl | rfl | rfl
    · exact gd_good _ h1
    · exact gd_good _ h2
    · exact gd_good _ h3
    · exact gd_good _ h4
  · exact gd_cons h w q
section GMcalls
variable {α : Type} {N : Nat} {E : (Nat → ClassId) → EG} {X : GX α} {own : String} {cc : ByteArray} {nL : Nat} {ret : Option FieldType} {rm : Room} {S : MS} {pc : Nat} {lv : List (Nat × Value)} {rest st : List Value}
variable {y : MethodName} {c2 : ByteArray} {n2 idx : Nat} {r2 : Option FieldType} {rm2 : Room} {av : (Nat → Nat) → List Value} {n : Nat}
theorem r_callSi (O : OK N X own cc nL ret rm) {f : (Int32 → MS → Option α) → Option α} {P : Int32 → MS → Option α} (hC : CtI N E (lX X) y c2 n2 r2 rm2 S av f) (w1 : Cond.methodLink own idx y ∈ lw_gd) (w2 : Cond.static y ∈ lw_gd) (w3 : Cond.initialized y.cls ∈ lw_gd) (w4 : Cond.code y c2 n2 r2 ∈ lw_gd) (hd2 : y.cls ≠ "java/lang/invoke/MethodHandle" ∧ y.cls ≠ "java/lang/invoke/VarHandle" ∧ (parseMethodDescriptor y.desc).map (fun d => d.parameters.length) = some n) (hrm : rm2.cells = 0 ∧ rm2.slots = 0 ∧ rm2.frames + 1 ≤ rm.frames ∧ 8 + (n2 + 11) + rm2.locals ≤ rm.locals) (hn : (av (aX X)).length = n) (hst : st = (av (aX X)).reverse ++ rest) (hrest : (rest.map fun v => v.category).sum ≤ 8) (hd : decode cc pc = .ok (.invokestatic idx, 3)) (K : ∀ r S, GM N E X (P r S) S (pc + 3) lv (.int r :: rest)) : GM N E X (f P) S pc lv st := by
  obtain ⟨p, l, e, R, s, m, args, below, meth, c, Q, out, D, cy, ad⟩ := X
  obtain ⟨hx, hb, hr, hml, hown, hts, hK, hI, hZ, hN, hlk, hR⟩ := O
  subst hst; subst hR
  exact fun H locs ls h1 h2 h3 h4 => va_calli (va_runS (As := av ad) (rest := rest) ⟨hx, hb, hml, hown, hts⟩ (hC D cy ad P out h1) (va_cwS n hts (gdS w1 w2 w3 w4) rfl hrm.1 hrm.2.1 hd2 hrm.2.2) ⟨PG_blind, fun U hU hW => ⟨rfl, PG_call h2 h3 hK hI hZ hN U hU hW⟩⟩ rfl hn (by rw [← hml]; exact h4.1) rfl (lv_room hrest) hd ⟨Nat.zero_le _, Nat.zero_le _⟩) h3 (fun q _ h => h) (fun q h => h) (fun r u t H1 locs1 ht hvm hw hB hz hk hS1 => K r u H1 locs1 ls hw (by rw [← ht]; exact hB) hS1 h4)
theorem r_callSNi (O : OK N X own cc nL ret rm) {host : String} {f : (Int32 → MS → Option α) → Option α} {P : Int32 → MS → Option α} (hC : CtI N E (lX X) y c2 n2 r2 rm2 S av f) (w1 : Cond.methodLinkNest own idx y host ∈ lw_tbl) (w2 : Cond.static y ∈ lw_gd) (w3 : Cond.initialized y.cls ∈ lw_gd) (w4 : Cond.code y c2 n2 r2 ∈ lw_gd) (hd2 : y.cls ≠ "java/lang/invoke/MethodHandle" ∧ y.cls ≠ "java/lang/invoke/VarHandle" ∧ (parseMethodDescriptor y.desc).map (fun d => d.parameters.length) = some n) (hrm : rm2.cells = 0 ∧ rm2.slots = 0 ∧ rm2.frames + 1 ≤ rm.frames ∧ 8 + (n2 + 11) + rm2.locals ≤ rm.locals) (hn : (av (aX X)).length = n) (hst : st = (av (aX X)).reverse ++ rest) (hrest : (rest.map fun v => v.category).sum ≤ 8) (hd : decode cc pc = .ok (.invokestatic idx, 3)) (K : ∀ r S, GM N E X (P r S) S (pc + 3) lv (.int r :: rest)) : GM N E X (f P) S pc lv st := by
  obtain ⟨p, l, e, R, s, m, args, below, meth, c, Q, out, D, cy, ad⟩ := X
  obtain ⟨hx, hb, hr, hml, hown, hts, hK, hI, hZ, hN, hlk, hR⟩ := O
  subst hst; subst hR
  exact fun H locs ls h1 h2 h3 h4 => va_calli (va_runSN (As := av ad) (rest := rest) ⟨hx, hb, hml, hown, hts⟩ (hC D cy ad P out h1) ⟨va_cnB n hts (gd_cons w4) rfl hrm.1 hrm.2.1 (hN _ w1 rfl) (hts _ w3) hd2 hrm.2.2, hts _ w2, trivial⟩ ⟨PG_blind, fun U hU hW => ⟨rfl, PG_call h2 h3 hK hI hZ hN U hU hW⟩⟩ rfl hn (by rw [← hml]; exact h4.1) rfl (lv_room hrest) hd ⟨Nat.zero_le _, Nat.zero_le _⟩) h3 (fun q _ h => h) (fun q h => h) (fun r u t H1 locs1 ht hvm hw hB hz hk hS1 => K r u H1 locs1 ls hw (by rw [← ht]; exact hB) hS1 h4)
theorem r_callVi (O : OK N X own cc nL ret rm) {b ci : Nat} {q : vw_C} {fs : List Value} {bv : (Nat → Nat) → List Value} {f : (Int32 → MS → Option α) → Option α} {P : Int32 → MS → Option α} (hC : CtI N E (lX X) y c2 n2 r2 rm2 S av f) (hav : ∀ ad, av ad = .ref (ad b) :: bv ad) (hj : b < N) (he : E (cX X) (aX X) b (S.1 b) (S.2 b) = .inr (ci, fs)) (hc : classes[ci]? = some q) (hcl : y.cls = q.1) (w1 : Cond.methodLink own idx y ∈ lw_gd) (w2 : Cond.instanceMethod y ∈ lw_gd) (w3 : Cond.selects q.1 y y ∈ lw_gd) (w5 : Cond.initialized q.1 ∈ lw_gd) (w4 : Cond.code y c2 n2 r2 ∈ lw_gd) (hd2 : y.cls ≠ "java/lang/invoke/MethodHandle" ∧ y.cls ≠ "java/lang/invoke/VarHandle" ∧ (parseMethodDescriptor y.desc).map (fun d => d.parameters.length) = some n) (hrm : rm2.cells = 0 ∧ rm2.slots = 0 ∧ rm2.frames + 1 ≤ rm.frames ∧ 8 + (n2 + 11) + rm2.locals ≤ rm.locals) (hn : (bv (aX X)).length = n) (hst : st = (bv (aX X)).reverse ++ .ref (aX X b) :: rest) (hrest : (rest.map fun v => v.category).sum ≤ 8) (hd : decode cc pc = .ok (.invokevirtual idx, 3)) (K : ∀ r S, GM N E X (P r S) S (pc + 3) lv (.int r :: rest)) : GM N E X (f P) S pc lv st := by
  obtain ⟨p, l, e, R, s, m, args, below, meth, c, Q, out, D, cy, ad⟩ := X
  obtain ⟨hx, hb, hr, hml, hown, hts, hK, hI, hZ, hN, hlk, hR⟩ := O
  subst hst; subst hR
  exact fun H locs ls h1 h2 h3 h4 => va_calli (va_runV (C := q.1) (b := ad b) (As := bv ad) (rest := rest) ⟨hx, hb, hml, hown, hts⟩ (hC D cy ad P out h1) (cwV n hts (gdV w1 w2 w3 w5 w4) rfl hrm.1 hrm.2.1 ⟨hcl, hd2⟩ hrm.2.2) ⟨PG_blind, va_recv hK h2 hc ((wG_at hj).trans (congrArg (fun z => some (ad b, z)) he)), fun U hU hW => ⟨by rw [hav ad], PG_call h2 h3 hK hI hZ hN U hU hW⟩⟩ rfl hn (by rw [← hml]; exact h4.1) rfl (lv_room hrest) hd ⟨Nat.zero_le _, Nat.zero_le _⟩) h3 (fun q _ h => h) (fun q h => h) (fun r u t H1 locs1 ht hvm hw hB hz hk hS1 => K r u H1 locs1 ls hw (by rw [← ht]; exact hB) hS1 h4)
theorem r_callSl (O : OK N X own cc nL ret rm) {f : (Int64 → MS → Option α) → Option α} {P : Int64 → MS → Option α} (hC : CtL N E (lX X) y c2 n2 r2 rm2 S av f) (w1 : Cond.methodLink own idx y ∈ lw_gd) (w2 : Cond.static y ∈ lw_gd) (w3 : Cond.initialized y.cls ∈ lw_gd) (w4 : Cond.code y c2 n2 r2 ∈ lw_gd) (hd2 : y.cls ≠ "java/lang/invoke/MethodHandle" ∧ y.cls ≠ "java/lang/invoke/VarHandle" ∧ (parseMethodDescriptor y.desc).map (fun d => d.parameters.length) = some n) (hrm : rm2.cells = 0 ∧ rm2.slots = 0 ∧ rm2.frames + 1 ≤ rm.frames ∧ 8 + (n2 + 11) + rm2.locals ≤ rm.locals) (hn : (av (aX X)).length = n) (hst : st = (av (aX X)).reverse ++ rest) (hrest : (rest.map fun v => v.category).sum ≤ 8) (hd : decode cc pc = .ok (.invokestatic idx, 3)) (K : ∀ r S, GM N E X (P r S) S (pc + 3) lv (.long r :: rest)) : GM N E X (f P) S pc lv st := by
  obtain ⟨p, l, e, R, s, m, args, below, meth, c, Q, out, D, cy, ad⟩ := X
  obtain ⟨hx, hb, hr, hml, hown, hts, hK, hI, hZ, hN, hlk, hR⟩ := O
  subst hst; subst hR
  exact fun H locs ls h1 h2 h3 h4 => va_calll (va_runS (As := av ad) (rest := rest) ⟨hx, hb, hml, hown, hts⟩ (hC D cy ad P out h1) (va_cwS n hts (gdS w1 w2 w3 w4) rfl hrm.1 hrm.2.1 hd2 hrm.2.2) ⟨PG_blind, fun U hU hW => ⟨rfl, PG_call h2 h3 hK hI hZ hN U hU hW⟩⟩ rfl hn (by rw [← hml]; exact h4.1) rfl (lv_room hrest) hd ⟨Nat.zero_le _, Nat.zero_le _⟩) h3 (fun q _ h => h) (fun q h => h) (fun r u t H1 locs1 ht hvm hw hB hz hk hS1 => K r u H1 locs1 ls hw (by rw [← ht]; exact hB) hS1 h4)
theorem r_callSNl (O : OK N X own cc nL ret rm) {host : String} {f : (Int64 → MS → Option α) → Option α} {P : Int64 → MS → Option α} (hC : CtL N E (lX X) y c2 n2 r2 rm2 S av f) (w1 : Cond.methodLinkNest own idx y host ∈ lw_tbl) (w2 : Cond.static y ∈ lw_gd) (w3 : Cond.initialized y.cls ∈ lw_gd) (w4 : Cond.code y c2 n2 r2 ∈ lw_gd) (hd2 : y.cls ≠ "java/lang/invoke/MethodHandle" ∧ y.cls ≠ "java/lang/invoke/VarHandle" ∧ (parseMethodDescriptor y.desc).map (fun d => d.parameters.length) = some n) (hrm : rm2.cells = 0 ∧ rm2.slots = 0 ∧ rm2.frames + 1 ≤ rm.frames ∧ 8 + (n2 + 11) + rm2.locals ≤ rm.locals) (hn : (av (aX X)).length = n) (hst : st = (av (aX X)).reverse ++ rest) (hrest : (rest.map fun v => v.category).sum ≤ 8) (hd : decode cc pc = .ok (.invokestatic idx, 3)) (K : ∀ r S, GM N E X (P r S) S (pc + 3) lv (.long r :: rest)) : GM N E X (f P) S pc lv st := by
  obtain ⟨p, l, e, R, s, m, args, below, meth, c, Q, out, D, cy, ad⟩ := X
  obtain ⟨hx, hb, hr, hml, hown, hts, hK, hI, hZ, hN, hlk, hR⟩ := O
  subst hst; subst hR
  exact fun H locs ls h1 h2 h3 h4 => va_calll (va_runSN (As := av ad) (rest := rest) ⟨hx, hb, hml, hown, hts⟩ (hC D cy ad P out h1) ⟨va_cnB n hts (gd_cons w4) rfl hrm.1 hrm.2.1 (hN _ w1 rfl) (hts _ w3) hd2 hrm.2.2, hts _ w2, trivial⟩ ⟨PG_blind, fun U hU hW => ⟨rfl, PG_call h2 h3 hK hI hZ hN U hU hW⟩⟩ rfl hn (by rw [← hml]; exact h4.1) rfl (lv_room hrest) hd ⟨Nat.zero_le _, Nat.zero_le _⟩) h3 (fun q _ h => h) (fun q h => h) (fun r u t H1 locs1 ht hvm hw hB hz hk hS1 => K r u H1 locs1 ls hw (by rw [← ht]; exact hB) hS1 h4)
theorem r_callVl (O : OK N X own cc nL ret rm) {b ci : Nat} {q : vw_C} {fs : List Value} {bv : (Nat → Nat) → List Value} {f : (Int64 → MS → Option α) → Option α} {P : Int64 → MS → Option α} (hC : CtL N E (lX X) y c2 n2 r2 rm2 S av f) (hav : ∀ ad, av ad = .ref (ad b) :: bv ad) (hj : b < N) (he : E (cX X) (aX X) b (S.1 b) (S.2 b) = .inr (ci, fs)) (hc : classes[ci]? = some q) (hcl : y.cls = q.1) (w1 : Cond.methodLink own idx y ∈ lw_gd) (w2 : Cond.instanceMethod y ∈ lw_gd) (w3 : Cond.selects q.1 y y ∈ lw_gd) (w5 : Cond.initialized q.1 ∈ lw_gd) (w4 : Cond.code y c2 n2 r2 ∈ lw_gd) (hd2 : y.cls ≠ "java/lang/invoke/MethodHandle" ∧ y.cls ≠ "java/lang/invoke/VarHandle" ∧ (parseMethodDescriptor y.desc).map (fun d => d.parameters.length) = some n) (hrm : rm2.cells = 0 ∧ rm2.slots = 0 ∧ rm2.frames + 1 ≤ rm.frames ∧ 8 + (n2 + 11) + rm2.locals ≤ rm.locals) (hn : (bv (aX X)).length = n) (hst : st = (bv (aX X)).reverse ++ .ref (aX X b) :: rest) (hrest : (rest.map fun v => v.category).sum ≤ 8) (hd : decode cc pc = .ok (.invokevirtual idx, 3)) (K : ∀ r S, GM N E X (P r S) S (pc + 3) lv (.long r :: rest)) : GM N E X (f P) S pc lv st := by
  obtain ⟨p, l, e, R, s, m, args, below, meth, c, Q, out, D, cy, ad⟩ := X
  obtain ⟨hx, hb, hr, hml, hown, hts, hK, hI, hZ, hN, hlk, hR⟩ := O
  subst hst; subst hR
  exact fun H locs ls h1 h2 h3 h4 => va_calll (va_runV (C := q.1) (b := ad b) (As := bv ad) (rest := rest) ⟨hx, hb, hml, hown, hts⟩ (hC D cy ad P out h1) (cwV n hts (gdV w1 w2 w3 w5 w4) rfl hrm.1 hrm.2.1 ⟨hcl, hd2⟩ hrm.2.2) ⟨PG_blind, va_recv hK h2 hc ((wG_at hj).trans (congrArg (fun z => some (ad b, z)) he)), fun U hU hW => ⟨by rw [hav ad], PG_call h2 h3 hK hI hZ hN U hU hW⟩⟩ rfl hn (by rw [← hml]; exact h4.1) rfl (lv_room hrest) hd ⟨Nat.zero_le _, Nat.zero_le _⟩) h3 (fun q _ h => h) (fun q h => h) (fun r u t H1 locs1 ht hvm hw hB hz hk hS1 => K r u H1 locs1 ls hw (by rw [← ht]; exact hB) hS1 h4)
theorem r_callSv (O : OK N X own cc nL ret rm) {f : (MS → Option α) → Option α} {P : MS → Option α} (hC : CtV N E (lX X) y c2 n2 r2 rm2 S av f) (w1 : Cond.methodLink own idx y ∈ lw_gd) (w2 : Cond.static y ∈ lw_gd) (w3 : Cond.initialized y.cls ∈ lw_gd) (w4 : Cond.code y c2 n2 r2 ∈ lw_gd) (hd2 : y.cls ≠ "java/lang/invoke/MethodHandle" ∧ y.cls ≠ "java/lang/invoke/VarHandle" ∧ (parseMethodDescriptor y.desc).map (fun d => d.parameters.length) = some n) (hrm : rm2.cells = 0 ∧ rm2.slots = 0 ∧ rm2.frames + 1 ≤ rm.frames ∧ 8 + (n2 + 11) + rm2.locals ≤ rm.locals) (hn : (av (aX X)).length = n) (hst : st = (av (aX X)).reverse ++ rest) (hrest : (rest.map fun v => v.category).sum ≤ 8) (hd : decode cc pc = .ok (.invokestatic idx, 3)) (K : ∀ S, GM N E X (P S) S (pc + 3) lv rest) : GM N E X (f P) S pc lv st := by
  obtain ⟨p, l, e, R, s, m, args, below, meth, c, Q, out, D, cy, ad⟩ := X
  obtain ⟨hx, hb, hr, hml, hown, hts, hK, hI, hZ, hN, hlk, hR⟩ := O
  subst hst; subst hR
  exact fun H locs ls h1 h2 h3 h4 => va_callv (va_runS (As := av ad) (rest := rest) ⟨hx, hb, hml, hown, hts⟩ (hC D cy ad P out h1) (va_cwS n hts (gdS w1 w2 w3 w4) rfl hrm.1 hrm.2.1 hd2 hrm.2.2) ⟨PG_blind, fun U hU hW => ⟨rfl, PG_call h2 h3 hK hI hZ hN U hU hW⟩⟩ rfl hn (by rw [← hml]; exact h4.1) rfl (lv_room hrest) hd ⟨Nat.zero_le _, Nat.zero_le _⟩) h3 (fun q _ h => h) (fun q h => h) (fun u t H1 locs1 ht hvm hw hB hz hk hS1 => K u H1 locs1 ls hw (by rw [← ht]; exact hB) hS1 h4)
theorem r_callSNv (O : OK N X own cc nL ret rm) {host : String} {f : (MS → Option α) → Option α} {P : MS → Option α} (hC : CtV N E (lX X) y c2 n2 r2 rm2 S av f) (w1 : Cond.methodLinkNest own idx y host ∈ lw_tbl) (w2 : Cond.static y ∈ lw_gd) (w3 : Cond.initialized y.cls ∈ lw_gd) (w4 : Cond.code y c2 n2 r2 ∈ lw_gd) (hd2 : y.cls ≠ "java/lang/invoke/MethodHandle" ∧ y.cls ≠ "java/lang/invoke/VarHandle" ∧ (parseMethodDescriptor y.desc).map (fun d => d.parameters.length) = some n) (hrm : rm2.cells = 0 ∧ rm2.slots = 0 ∧ rm2.frames + 1 ≤ rm.frames ∧ 8 + (n2 + 11) + rm2.locals ≤ rm.locals) (hn : (av (aX X)).length = n) (hst : st = (av (aX X)).reverse ++ rest) (hrest : (rest.map fun v => v.category).sum ≤ 8) (hd : decode cc pc = .ok (.invokestatic idx, 3)) (K : ∀ S, GM N E X (P S) S (pc + 3) lv rest) : GM N E X (f P) S pc lv st := by
  obtain ⟨p, l, e, R, s, m, args, below, meth, c, Q, out, D, cy, ad⟩ := X
  obtain ⟨hx, hb, hr, hml, hown, hts, hK, hI, hZ, hN, hlk, hR⟩ := O
  subst hst; subst hR
  exact fun H locs ls h1 h2 h3 h4 => va_callv (va_runSN (As := av ad) (rest := rest) ⟨hx, hb, hml, hown, hts⟩ (hC D cy ad P out h1) ⟨va_cnB n hts (gd_cons w4) rfl hrm.1 hrm.2.1 (hN _ w1 rfl) (hts _ w3) hd2 hrm.2.2, hts _ w2, trivial⟩ ⟨PG_blind, fun U hU hW => ⟨rfl, PG_call h2 h3 hK hI hZ hN U hU hW⟩⟩ rfl hn (by rw [← hml]; exact h4.1) rfl (lv_room hrest) hd ⟨Nat.zero_le _, Nat.zero_le _⟩) h3 (fun q _ h => h) (fun q h => h) (fun u t H1 locs1 ht hvm hw hB hz hk hS1 => K u H1 locs1 ls hw (by rw [← ht]; exact hB) hS1 h4)
theorem r_callVv (O : OK N X own cc nL ret rm) {b ci : Nat} {q : vw_C} {fs : List Value} {bv : (Nat → Nat) → List Value} {f : (MS → Option α) → Option α} {P : MS → Option α} (hC : CtV N E (lX X) y c2 n2 r2 rm2 S av f) (hav : ∀ ad, av ad = .ref (ad b) :: bv ad) (hj : b < N) (he : E (cX X) (aX X) b (S.1 b) (S.2 b) = .inr (ci, fs)) (hc : classes[ci]? = some q) (hcl : y.cls = q.1) (w1 : Cond.methodLink own idx y ∈ lw_gd) (w2 : Cond.instanceMethod y ∈ lw_gd) (w3 : Cond.selects q.1 y y ∈ lw_gd) (w5 : Cond.initialized q.1 ∈ lw_gd) (w4 : Cond.code y c2 n2 r2 ∈ lw_gd) (hd2 : y.cls ≠ "java/lang/invoke/MethodHandle" ∧ y.cls ≠ "java/lang/invoke/VarHandle" ∧ (parseMethodDescriptor y.desc).map (fun d => d.parameters.length) = some n) (hrm : rm2.cells = 0 ∧ rm2.slots = 0 ∧ rm2.frames + 1 ≤ rm.frames ∧ 8 + (n2 + 11) + rm2.locals ≤ rm.locals) (hn : (bv (aX X)).length = n) (hst : st = (bv (aX X)).reverse ++ .ref (aX X b) :: rest) (hrest : (rest.map fun v => v.category).sum ≤ 8) (hd : decode cc pc = .ok (.invokevirtual idx, 3)) (K : ∀ S, GM N E X (P S) S (pc + 3) lv rest) : GM N E X (f P) S pc lv st := by
  obtain ⟨p, l, e, R, s, m, args, below, meth, c, Q, out, D, cy, ad⟩ := X
  obtain ⟨hx, hb, hr, hml, hown, hts, hK, hI, hZ, hN, hlk, hR⟩ := O
  subst hst; subst hR
  exact fun H locs ls h1 h2 h3 h4 => va_callv (va_runV (C := q.1) (b := ad b) (As := bv ad) (rest := rest) ⟨hx, hb, hml, hown, hts⟩ (hC D cy ad P out h1) (cwV n hts (gdV w1 w2 w3 w5 w4) rfl hrm.1 hrm.2.1 ⟨hcl, hd2⟩ hrm.2.2) ⟨PG_blind, va_recv hK h2 hc ((wG_at hj).trans (congrArg (fun z => some (ad b, z)) he)), fun U hU hW => ⟨by rw [hav ad], PG_call h2 h3 hK hI hZ hN U hU hW⟩⟩ rfl hn (by rw [← hml]; exact h4.1) rfl (lv_room hrest) hd ⟨Nat.zero_le _, Nat.zero_le _⟩) h3 (fun q _ h => h) (fun q h => h) (fun u t H1 locs1 ht hvm hw hB hz hk hS1 => K u H1 locs1 ls hw (by rw [← ht]; exact hB) hS1 h4)
theorem r_callSr (O : OK N X own cc nL ret rm) {j : Nat} {f : (MS → Option α) → Option α} {P : MS → Option α} (hC : CtR N E (lX X) y c2 n2 r2 rm2 S av j f) (w1 : Cond.methodLink own idx y ∈ lw_gd) (w2 : Cond.static y ∈ lw_gd) (w3 : Cond.initialized y.cls ∈ lw_gd) (w4 : Cond.code y c2 n2 r2 ∈ lw_gd) (hd2 : y.cls ≠ "java/lang/invoke/MethodHandle" ∧ y.cls ≠ "java/lang/invoke/VarHandle" ∧ (parseMethodDescriptor y.desc).map (fun d => d.parameters.length) = some n) (hrm : rm2.cells = 0 ∧ rm2.slots = 0 ∧ rm2.frames + 1 ≤ rm.frames ∧ 8 + (n2 + 11) + rm2.locals ≤ rm.locals) (hn : (av (aX X)).length = n) (hst : st = (av (aX X)).reverse ++ rest) (hrest : (rest.map fun v => v.category).sum ≤ 8) (hd : decode cc pc = .ok (.invokestatic idx, 3)) (K : ∀ S, GM N E X (P S) S (pc + 3) lv (.ref (aX X j) :: rest)) : GM N E X (f P) S pc lv st := by
  obtain ⟨p, l, e, R, s, m, args, below, meth, c, Q, out, D, cy, ad⟩ := X
  obtain ⟨hx, hb, hr, hml, hown, hts, hK, hI, hZ, hN, hlk, hR⟩ := O
  subst hst; subst hR
  exact fun H locs ls h1 h2 h3 h4 => va_callr (va_runS (As := av ad) (rest := rest) ⟨hx, hb, hml, hown, hts⟩ (hC D cy ad P out h1) (va_cwS n hts (gdS w1 w2 w3 w4) rfl hrm.1 hrm.2.1 hd2 hrm.2.2) ⟨PG_blind, fun U hU hW => ⟨rfl, PG_call h2 h3 hK hI hZ hN U hU hW⟩⟩ rfl hn (by rw [← hml]; exact h4.1) rfl (lv_room hrest) hd ⟨Nat.zero_le _, Nat.zero_le _⟩) h3 (fun q _ h => h) (fun q h => h) (fun u ra t H1 locs1 ht hvm hw hB hz hk hS1 => by rw [hB.1]; exact K u H1 locs1 ls hw (by rw [← ht]; exact hB.2) hS1 h4)
theorem r_callSNr (O : OK N X own cc nL ret rm) {j : Nat} {host : String} {f : (MS → Option α) → Option α} {P : MS → Option α} (hC : CtR N E (lX X) y c2 n2 r2 rm2 S av j f) (w1 : Cond.methodLinkNest own idx y host ∈ lw_tbl) (w2 : Cond.static y ∈ lw_gd) (w3 : Cond.initialized y.cls ∈ lw_gd) (w4 : Cond.code y c2 n2 r2 ∈ lw_gd) (hd2 : y.cls ≠ "java/lang/invoke/MethodHandle" ∧ y.cls ≠ "java/lang/invoke/VarHandle" ∧ (parseMethodDescriptor y.desc).map (fun d => d.parameters.length) = some n) (hrm : rm2.cells = 0 ∧ rm2.slots = 0 ∧ rm2.frames + 1 ≤ rm.frames ∧ 8 + (n2 + 11) + rm2.locals ≤ rm.locals) (hn : (av (aX X)).length = n) (hst : st = (av (aX X)).reverse ++ rest) (hrest : (rest.map fun v => v.category).sum ≤ 8) (hd : decode cc pc = .ok (.invokestatic idx, 3)) (K : ∀ S, GM N E X (P S) S (pc + 3) lv (.ref (aX X j) :: rest)) : GM N E X (f P) S pc lv st := by
  obtain ⟨p, l, e, R, s, m, args, below, meth, c, Q, out, D, cy, ad⟩ := X
  obtain ⟨hx, hb, hr, hml, hown, hts, hK, hI, hZ, hN, hlk, hR⟩ := O
  subst hst; subst hR
  exact fun H locs ls h1 h2 h3 h4 => va_callr (va_runSN (As := av ad) (rest := rest) ⟨hx, hb, hml, hown, hts⟩ (hC D cy ad P out h1) ⟨va_cnB n hts (gd_cons w4) rfl hrm.1 hrm.2.1 (hN _ w1 rfl) (hts _ w3) hd2 hrm.2.2, hts _ w2, trivial⟩ ⟨PG_blind, fun U hU hW => ⟨rfl, PG_call h2 h3 hK hI hZ hN U hU hW⟩⟩ rfl hn (by rw [← hml]; exact h4.1) rfl (lv_room hrest) hd ⟨Nat.zero_le _, Nat.zero_le _⟩) h3 (fun q _ h => h) (fun q h => h) (fun u ra t H1 locs1 ht hvm hw hB hz hk hS1 => by rw [hB.1]; exact K u H1 locs1 ls hw (by rw [← ht]; exact hB.2) hS1 h4)
theorem r_callVr (O : OK N X own cc nL ret rm) {j : Nat} {b ci : Nat} {q : vw_C} {fs : List Value} {bv : (Nat → Nat) → List Value} {f : (MS → Option α) → Option α} {P : MS → Option α} (hC : CtR N E (lX X) y c2 n2 r2 rm2 S av j f) (hav : ∀ ad, av ad = .ref (ad b) :: bv ad) (hj : b < N) (he : E (cX X) (aX X) b (S.1 b) (S.2 b) = .inr (ci, fs)) (hc : classes[ci]? = some q) (hcl : y.cls = q.1) (w1 : Cond.methodLink own idx y ∈ lw_gd) (w2 : Cond.instanceMethod y ∈ lw_gd) (w3 : Cond.selects q.1 y y ∈ lw_gd) (w5 : Cond.initialized q.1 ∈ lw_gd) (w4 : Cond.code y c2 n2 r2 ∈ lw_gd) (hd2 : y.cls ≠ "java/lang/invoke/MethodHandle" ∧ y.cls ≠ "java/lang/invoke/VarHandle" ∧ (parseMethodDescriptor y.desc).map (fun d => d.parameters.length) = some n) (hrm : rm2.cells = 0 ∧ rm2.slots = 0 ∧ rm2.frames + 1 ≤ rm.frames ∧ 8 + (n2 + 11) + rm2.locals ≤ rm.locals) (hn : (bv (aX X)).length = n) (hst : st = (bv (aX X)).reverse ++ .ref (aX X b) :: rest) (hrest : (rest.map fun v => v.category).sum ≤ 8) (hd : decode cc pc = .ok (.invokevirtual idx, 3)) (K : ∀ S, GM N E X (P S) S (pc + 3) lv (.ref (aX X j) :: rest)) : GM N E X (f P) S pc lv st := by
  obtain ⟨p, l, e, R, s, m, args, below, meth, c, Q, out, D, cy, ad⟩ := X
  obtain ⟨hx, hb, hr, hml, hown, hts, hK, hI, hZ, hN, hlk, hR⟩ := O
  subst hst; subst hR
  exact fun H locs ls h1 h2 h3 h4 => va_callr (va_runV (C := q.1) (b := ad b) (As := bv ad) (rest := rest) ⟨hx, hb, hml, hown, hts⟩ (hC D cy ad P out h1) (cwV n hts (gdV w1 w2 w3 w5 w4) rfl hrm.1 hrm.2.1 ⟨hcl, hd2⟩ hrm.2.2) ⟨PG_blind, va_recv hK h2 hc ((wG_at hj).trans (congrArg (fun z => some (ad b, z)) he)), fun U hU hW => ⟨by rw [hav ad], PG_call h2 h3 hK hI hZ hN U hU hW⟩⟩ rfl hn (by rw [← hml]; exact h4.1) rfl (lv_room hrest) hd ⟨Nat.zero_le _, Nat.zero_le _⟩) h3 (fun q _ h => h) (fun q h => h) (fun u ra t H1 locs1 ht hvm hw hB hz hk hS1 => by rw [hB.1]; exact K u H1 locs1 ls hw (by rw [← ht]; exact hB.2) hS1 h4)
end GMcalls
end
section
/-! THE TWO WORLDS: the class (30 cells), the reference (22 cells) -/
def eX0 (cy : Nat → ClassId) (ad : Nat → Nat) (j : Nat) (r : Nat → Int32) (w : Nat → Int64) : va_E := match j with
  | 0 => .inr (5, [.ref (ad 1), .ref (ad 2), .ref (ad 3), .ref (ad 4), .int (r 4), .int (r 5), .int (r 6)])
  | 1 => .inl (cy 3, 4, .inr (.inr (.inr (.inr (fun k => some (ad (16 + k)))))))
  | 2 => .inr (3, [.ref (ad 7), .ref (ad 8), .ref (ad 5), .int (r 3), .int (r 4), .int (r 5), .int (r 6)])
  | 3 => .inr (2, [.ref (ad 9), .ref (ad 10), .ref (ad 11), .ref (ad 12), .ref (ad 13), .ref (ad 14), .ref (ad 15), .int (r 7), .int (r 8), .int (r 9)])
  | 4 => .inl (cy 0, 8, .inl r)
  | 5 => .inr (0, [.ref (ad 6), .int (r 1), .int (r 2), .int (r 3)])
  | 6 => .inl (cy 0, 7, .inl r)
  | 7 => .inl (cy 4, 6, .inr (.inr (.inr (.inr (fun k => some (ad (24 + k)))))))
  | 8 => .inl (cy 0, 3, .inl r)
  | 9 => .inl (cy 0, 729, .inl r)
  | 10 => .inl (cy 0, 729, .inl r)
  | 11 => .inl (cy 0, 729, .inl r)
  | 12 => .inl (cy 0, 729, .inl r)
  | 13 => .inl (cy 1, 729, .inr (.inl w))
  | 14 => .inl (cy 2, 64, .inl r)
  | _ => .inl (cy 0, 64, .inl r)
def eX (cy : Nat → ClassId) : EG := fun ad j r w => if j < 16 then eX0 cy ad j r w else if j < 20 then .inr (1, [.ref (ad (j + 4)), .int (r 1), .int (r 2)]) else if j < 24 then .inl (cy 0, 60, .inl r) else .inr (4, [.int (r 0), .int (r 1), .int (r 2), .int (r 3)])
theorem eX_0 {cy : Nat → ClassId} {ad : Nat → Nat} {r : Nat → Int32} {w : Nat → Int64} : eX cy ad 0 r w = .inr (5, [.ref (ad 1), .ref (ad 2), .ref (ad 3), .ref (ad 4), .int (r 4), .int (r 5), .int (r 6)]) := rfl
theorem eX_1 {cy : Nat → ClassId} {ad : Nat → Nat} {r : Nat → Int32} {w : Nat → Int64} : eX cy ad 1 r w = .inl (cy 3, 4, .inr (.inr (.inr (.inr (fun k => some (ad (16 + k))))))) := rfl
theorem eX_2 {cy : Nat → ClassId} {ad : Nat → Nat} {r : Nat → Int32} {w : Nat → Int64} : eX cy ad 2 r w = .inr (3, [.ref (ad 7), .ref (ad 8), .ref (ad 5), .int (r 3), .int (r 4), .int (r 5), .int (r 6)]) := rfl
theorem eX_3 {cy : Nat → ClassId} {ad : Nat → Nat} {r : Nat → Int32} {w : Nat → Int64} : eX cy ad 3 r w = .inr (2, [.ref (ad 9), .ref (ad 10), .ref (ad 11), .ref (ad 12), .ref (ad 13), .ref (ad 14), .ref (ad 15), .int (r 7), .int (r 8), .int (r 9)]) := rfl
theorem eX_4 {cy : Nat → ClassId} {ad : Nat → Nat} {r : Nat → Int32} {w : Nat → Int64} : eX cy ad 4 r w = .inl (cy 0, 8, .inl r) := rfl
theorem eX_5 {cy : Nat → ClassId} {ad : Nat → Nat} {r : Nat → Int32} {w : Nat → Int64} : eX cy ad 5 r w = .inr (0, [.ref (ad 6), .int (r 1), .int (r 2), .int (r 3)]) := rfl
theorem eX_6 {cy : Nat → ClassId} {ad : Nat → Nat} {r : Nat → Int32} {w : Nat → Int64} : eX cy ad 6 r w = .inl (cy 0, 7, .inl r) := rfl
theorem eX_7 {cy : Nat → ClassId} {ad : Nat → Nat} {r : Nat → Int32} {w : Nat → Int64} : eX cy ad 7 r w = .inl (cy 4, 6, .inr (.inr (.inr (.inr (fun k => some (ad (24 + k))))))) := rfl
theorem eX_8 {cy : Nat → ClassId} {ad : Nat → Nat} {r : Nat → Int32} {w : Nat → Int64} : eX cy ad 8 r w = .inl (cy 0, 3, .inl r) := rfl
theorem eX_9 {cy : Nat → ClassId} {ad : Nat → Nat} {r : Nat → Int32} {w : Nat → Int64} : eX cy ad 9 r w = .inl (cy 0, 729, .inl r) := rfl
theorem eX_10 {cy : Nat → ClassId} {ad : Nat → Nat} {r : Nat → Int32} {w : Nat → Int64} : eX cy ad 10 r w = .inl (cy 0, 729, .inl r) := rfl
theorem eX_11 {cy : Nat → ClassId} {ad : Nat → Nat} {r : Nat → Int32} {w : Nat → Int64} : eX cy ad 11 r w = .inl (cy 0, 729, .inl r) := rfl
theorem eX_12 {cy : Nat → ClassId} {ad : Nat → Nat} {r : Nat → Int32} {w : Nat → Int64} : eX cy ad 12 r w = .inl (cy 0, 729, .inl r) := rfl
theorem eX_13 {cy : Nat → ClassId} {ad : Nat → Nat} {r : Nat → Int32} {w : Nat → Int64} : eX cy ad 13 r w = .inl (cy 1, 729, .inr (.inl w)) := rfl
theorem eX_14 {cy : Nat → ClassId} {ad : Nat → Nat} {r : Nat → Int32} {w : Nat → Int64} : eX cy ad 14 r w = .inl (cy 2, 64, .inl r) := rfl
theorem eX_15 {cy : Nat → ClassId} {ad : Nat → Nat} {r : Nat → Int32} {w : Nat → Int64} : eX cy ad 15 r w = .inl (cy 0, 64, .inl r) := rfl
theorem eX_row {cy : Nat → ClassId} {ad : Nat → Nat} {r : Nat → Int32} {w : Nat → Int64} {k : Nat} (hk : k < 4) : eX cy ad (16 + k) r w = .inr (1, [.ref (ad (20 + k)), .int (r 1), .int (r 2)]) := by
  rcases (show k = 0 ∨ k = 1 ∨ k = 2 ∨ k = 3 by omega) with rfl | rfl | rfl | rfl <;> rfl
theorem eX_cel {cy : Nat → ClassId} {ad : Nat → Nat} {r : Nat → Int32} {w : Nat → Int64} {k : Nat} (hk : k < 4) : eX cy ad (20 + k) r w = .inl (cy 0, 60, .inl r) := by
  rcases (show k = 0 ∨ k = 1 ∨ k = 2 ∨ k = 3 by omega) with rfl | rfl | rfl | rfl <;> rfl
theorem eX_tnk {cy : Nat → ClassId} {ad : Nat → Nat} {r : Nat → Int32} {w : Nat → Int64} {k : Nat} (hk : k < 6) : eX cy ad (24 + k) r w = .inr (4, [.int (r 0), .int (r 1), .int (r 2), .int (r 3)]) := by
  rcases (show k = 0 ∨ k = 1 ∨ k = 2 ∨ k = 3 ∨ k = 4 ∨ k = 5 by omega) with rfl | rfl | rfl | rfl | rfl | rfl <;> rfl
def eM (cy : Nat → ClassId) : EG := fun ad j r w => match j with
  | 0 => .inr (6, [.int (r 0), .int (r 1), .ref (ad 1), .ref (ad 2), .ref (ad 3), .ref (ad 4), .int (r 6), .ref (ad 5), .ref (ad 6), .ref (ad 7), .ref (ad 8), .ref (ad 9), .ref (ad 10), .int (r 13), .int (r 14), .int (r 15), .int (r 16), .int (r 17), .int (r 18), .ref (ad 11), .ref (ad 12), .ref (ad 13), .ref (ad 14), .ref (ad 15), .ref (ad 16), .int (r 25), .int (r 26), .int (r 27), .int (r 28), .ref (ad 17), .ref (ad 18), .ref (ad 19), .int (r 32), .ref (ad 20), .int (r 34), .ref (ad 21)])
  | 1 => .inl (cy 0, 4, .inl r)
  | 2 => .inl (cy 0, 4, .inl r)
  | 3 => .inl (cy 0, 240, .inl r)
  | 4 => .inl (cy 0, 7, .inl r)
  | 5 => .inl (cy 0, 6, .inl r)
  | 6 => .inl (cy 0, 6, .inl r)
  | 7 => .inl (cy 0, 6, .inl r)
  | 8 => .inl (cy 0, 6, .inl r)
  | 9 => .inl (cy 2, 6, .inl r)
  | 10 => .inl (cy 0, 3, .inl r)
  | 11 => .inl (cy 0, 6, .inl r)
  | 12 => .inl (cy 0, 6, .inl r)
  | 13 => .inl (cy 0, 6, .inl r)
  | 14 => .inl (cy 0, 6, .inl r)
  | 15 => .inl (cy 0, 7, .inl r)
  | 16 => .inl (cy 0, 7, .inl r)
  | 17 => .inl (cy 0, 729, .inl r)
  | 18 => .inl (cy 0, 729, .inl r)
  | 19 => .inl (cy 1, 729, .inr (.inl w))
  | 20 => .inl (cy 2, 729, .inl r)
  | _ => .inl (cy 0, 8, .inl r)
theorem eM_0 {cy : Nat → ClassId} {ad : Nat → Nat} {r : Nat → Int32} {w : Nat → Int64} : eM cy ad 0 r w = .inr (6, [.int (r 0), .int (r 1), .ref (ad 1), .ref (ad 2), .ref (ad 3), .ref (ad 4), .int (r 6), .ref (ad 5), .ref (ad 6), .ref (ad 7), .ref (ad 8), .ref (ad 9), .ref (ad 10), .int (r 13), .int (r 14), .int (r 15), .int (r 16), .int (r 17), .int (r 18), .ref (ad 11), .ref (ad 12), .ref (ad 13), .ref (ad 14), .ref (ad 15), .ref (ad 16), .int (r 25), .int (r 26), .int (r 27), .int (r 28), .ref (ad 17), .ref (ad 18), .ref (ad 19), .int (r 32), .ref (ad 20), .int (r 34), .ref (ad 21)]) := rfl
theorem eM_1 {cy : Nat → ClassId} {ad : Nat → Nat} {r : Nat → Int32} {w : Nat → Int64} : eM cy ad 1 r w = .inl (cy 0, 4, .inl r) := rfl
theorem eM_2 {cy : Nat → ClassId} {ad : Nat → Nat} {r : Nat → Int32} {w : Nat → Int64} : eM cy ad 2 r w = .inl (cy 0, 4, .inl r) := rfl
theorem eM_3 {cy : Nat → ClassId} {ad : Nat → Nat} {r : Nat → Int32} {w : Nat → Int64} : eM cy ad 3 r w = .inl (cy 0, 240, .inl r) := rfl
theorem eM_4 {cy : Nat → ClassId} {ad : Nat → Nat} {r : Nat → Int32} {w : Nat → Int64} : eM cy ad 4 r w = .inl (cy 0, 7, .inl r) := rfl
theorem eM_5 {cy : Nat → ClassId} {ad : Nat → Nat} {r : Nat → Int32} {w : Nat → Int64} : eM cy ad 5 r w = .inl (cy 0, 6, .inl r) := rfl
theorem eM_6 {cy : Nat → ClassId} {ad : Nat → Nat} {r : Nat → Int32} {w : Nat → Int64} : eM cy ad 6 r w = .inl (cy 0, 6, .inl r) := rfl
theorem eM_7 {cy : Nat → ClassId} {ad : Nat → Nat} {r : Nat → Int32} {w : Nat → Int64} : eM cy ad 7 r w = .inl (cy 0, 6, .inl r) := rfl
theorem eM_8 {cy : Nat → ClassId} {ad : Nat → Nat} {r : Nat → Int32} {w : Nat → Int64} : eM cy ad 8 r w = .inl (cy 0, 6, .inl r) := rfl
theorem eM_9 {cy : Nat → ClassId} {ad : Nat → Nat} {r : Nat → Int32} {w : Nat → Int64} : eM cy ad 9 r w = .inl (cy 2, 6, .inl r) := rfl
theorem eM_10 {cy : Nat → ClassId} {ad : Nat → Nat} {r : Nat → Int32} {w : Nat → Int64} : eM cy ad 10 r w = .inl (cy 0, 3, .inl r) := rfl
theorem eM_11 {cy : Nat → ClassId} {ad : Nat → Nat} {r : Nat → Int32} {w : Nat → Int64} : eM cy ad 11 r w = .inl (cy 0, 6, .inl r) := rfl
theorem eM_12 {cy : Nat → ClassId} {ad : Nat → Nat} {r : Nat → Int32} {w : Nat → Int64} : eM cy ad 12 r w = .inl (cy 0, 6, .inl r) := rfl
theorem eM_13 {cy : Nat → ClassId} {ad : Nat → Nat} {r : Nat → Int32} {w : Nat → Int64} : eM cy ad 13 r w = .inl (cy 0, 6, .inl r) := rfl
theorem eM_14 {cy : Nat → ClassId} {ad : Nat → Nat} {r : Nat → Int32} {w : Nat → Int64} : eM cy ad 14 r w = .inl (cy 0, 6, .inl r) := rfl
theorem eM_15 {cy : Nat → ClassId} {ad : Nat → Nat} {r : Nat → Int32} {w : Nat → Int64} : eM cy ad 15 r w = .inl (cy 0, 7, .inl r) := rfl
theorem eM_16 {cy : Nat → ClassId} {ad : Nat → Nat} {r : Nat → Int32} {w : Nat → Int64} : eM cy ad 16 r w = .inl (cy 0, 7, .inl r) := rfl
theorem eM_17 {cy : Nat → ClassId} {ad : Nat → Nat} {r : Nat → Int32} {w : Nat → Int64} : eM cy ad 17 r w = .inl (cy 0, 729, .inl r) := rfl
theorem eM_18 {cy : Nat → ClassId} {ad : Nat → Nat} {r : Nat → Int32} {w : Nat → Int64} : eM cy ad 18 r w = .inl (cy 0, 729, .inl r) := rfl
theorem eM_19 {cy : Nat → ClassId} {ad : Nat → Nat} {r : Nat → Int32} {w : Nat → Int64} : eM cy ad 19 r w = .inl (cy 1, 729, .inr (.inl w)) := rfl
theorem eM_20 {cy : Nat → ClassId} {ad : Nat → Nat} {r : Nat → Int32} {w : Nat → Int64} : eM cy ad 20 r w = .inl (cy 2, 729, .inl r) := rfl
theorem eM_21 {cy : Nat → ClassId} {ad : Nat → Nat} {r : Nat → Int32} {w : Nat → Int64} : eM cy ad 21 r w = .inl (cy 0, 8, .inl r) := rfl
theorem in_X0 : ∀ w ∈ u_ws RX0 TX0 4, w ∈ lw_gd := by decide +kernel
theorem in_X1 : ∀ w ∈ u_ws RX1 TX1 3, w ∈ lw_gd := by decide +kernel
theorem in_X2 : ∀ w ∈ u_ws RX2 TX2 10, w ∈ lw_gd := by decide +kernel
theorem in_X3 : ∀ w ∈ u_ws RX3 TX3 7, w ∈ lw_gd := by decide +kernel
theorem in_X4 : ∀ w ∈ u_ws RX4 TX4 4, w ∈ lw_gd := by decide +kernel
theorem in_X5 : ∀ w ∈ u_ws RX5 TX5 7, w ∈ lw_gd := by decide +kernel
theorem in_X6 : ∀ w ∈ u_ws RX6 TX6 36, w ∈ lw_gd := by decide +kernel
theorem w_76 : Cond.methodLinkNest "BallastSteps$Ship" 23 yX0_init "BallastSteps" ∈ lw_tbl := List.mem_of_getElem? (i := 76) (by decide +kernel)
theorem w_83 : Cond.fieldLinkNest "BallastSteps" 140 "BallastSteps$Load" "trim" "I" "BallastSteps" ∈ lw_tbl := List.mem_of_getElem? (i := 83) (by decide +kernel)
theorem w_84 : Cond.fieldLinkNest "BallastSteps$Ship" 121 "BallastSteps$Load" "trim" "I" "BallastSteps" ∈ lw_tbl := List.mem_of_getElem? (i := 84) (by decide +kernel)
theorem w_86 : Cond.fieldLinkNest "BallastSteps" 145 "BallastSteps$Load" "heel" "I" "BallastSteps" ∈ lw_tbl := List.mem_of_getElem? (i := 86) (by decide +kernel)
theorem w_98 : Cond.methodLinkNest "BallastSteps$Ship" 41 yX4_init "BallastSteps" ∈ lw_tbl := List.mem_of_getElem? (i := 98) (by decide +kernel)
theorem w_103 : Cond.fieldLinkNest "BallastSteps$Ship" 57 "BallastSteps$Tank" "kind" "I" "BallastSteps" ∈ lw_tbl := List.mem_of_getElem? (i := 103) (by decide +kernel)
theorem w_104 : Cond.fieldLinkNest "BallastSteps" 85 "BallastSteps$Tank" "kind" "I" "BallastSteps" ∈ lw_tbl := List.mem_of_getElem? (i := 104) (by decide +kernel)
theorem w_106 : Cond.fieldLinkNest "BallastSteps$Ship" 60 "BallastSteps$Tank" "frame" "I" "BallastSteps" ∈ lw_tbl := List.mem_of_getElem? (i := 106) (by decide +kernel)
theorem w_107 : Cond.fieldLinkNest "BallastSteps$Load" 31 "BallastSteps$Tank" "frame" "I" "BallastSteps" ∈ lw_tbl := List.mem_of_getElem? (i := 107) (by decide +kernel)
theorem w_108 : Cond.fieldLinkNest "BallastSteps" 90 "BallastSteps$Tank" "frame" "I" "BallastSteps" ∈ lw_tbl := List.mem_of_getElem? (i := 108) (by decide +kernel)
theorem w_110 : Cond.fieldLinkNest "BallastSteps$Ship" 66 "BallastSteps$Tank" "side" "I" "BallastSteps" ∈ lw_tbl := List.mem_of_getElem? (i := 110) (by decide +kernel)
theorem w_111 : Cond.fieldLinkNest "BallastSteps$Load" 36 "BallastSteps$Tank" "side" "I" "BallastSteps" ∈ lw_tbl := List.mem_of_getElem? (i := 111) (by decide +kernel)
theorem w_112 : Cond.fieldLinkNest "BallastSteps" 93 "BallastSteps$Tank" "side" "I" "BallastSteps" ∈ lw_tbl := List.mem_of_getElem? (i := 112) (by decide +kernel)
theorem w_114 : Cond.fieldLinkNest "BallastSteps$Ship" 69 "BallastSteps$Tank" "mass" "I" "BallastSteps" ∈ lw_tbl := List.mem_of_getElem? (i := 114) (by decide +kernel)
theorem w_115 : Cond.fieldLinkNest "BallastSteps" 96 "BallastSteps$Tank" "mass" "I" "BallastSteps" ∈ lw_tbl := List.mem_of_getElem? (i := 115) (by decide +kernel)
theorem w_126 : Cond.fieldLinkNest "BallastSteps" 81 "BallastSteps$Ship" "tanks" "[LBallastSteps$Tank;" "BallastSteps" ∈ lw_tbl := List.mem_of_getElem? (i := 126) (by decide +kernel)
theorem w_128 : Cond.fieldLinkNest "BallastSteps" 130 "BallastSteps$Ship" "bounds" "[I" "BallastSteps" ∈ lw_tbl := List.mem_of_getElem? (i := 128) (by decide +kernel)
theorem w_131 : Cond.fieldLinkNest "BallastSteps" 75 "BallastSteps$Ship" "count" "I" "BallastSteps" ∈ lw_tbl := List.mem_of_getElem? (i := 131) (by decide +kernel)
theorem w_132 : Cond.fieldLinkNest "BallastSteps$Search" 57 "BallastSteps$Ship" "count" "I" "BallastSteps" ∈ lw_tbl := List.mem_of_getElem? (i := 132) (by decide +kernel)
theorem w_134 : Cond.fieldLinkNest "BallastSteps" 103 "BallastSteps$Ship" "waters" "I" "BallastSteps" ∈ lw_tbl := List.mem_of_getElem? (i := 134) (by decide +kernel)
theorem w_135 : Cond.fieldLinkNest "BallastSteps$Search" 82 "BallastSteps$Ship" "waters" "I" "BallastSteps" ∈ lw_tbl := List.mem_of_getElem? (i := 135) (by decide +kernel)
theorem w_137 : Cond.fieldLinkNest "BallastSteps" 110 "BallastSteps$Ship" "working" "I" "BallastSteps" ∈ lw_tbl := List.mem_of_getElem? (i := 137) (by decide +kernel)
theorem w_138 : Cond.fieldLinkNest "BallastSteps$Search" 66 "BallastSteps$Ship" "working" "I" "BallastSteps" ∈ lw_tbl := List.mem_of_getElem? (i := 138) (by decide +kernel)
theorem w_140 : Cond.fieldLinkNest "BallastSteps" 123 "BallastSteps$Ship" "dueSet" "I" "BallastSteps" ∈ lw_tbl := List.mem_of_getElem? (i := 140) (by decide +kernel)
theorem w_158 : Cond.methodLinkNest "BallastSteps" 26 yX2_init "BallastSteps" ∈ lw_tbl := List.mem_of_getElem? (i := 158) (by decide +kernel)
theorem w_171 : Cond.fieldLinkNest "BallastSteps" 193 "BallastSteps$Search" "reached" "I" "BallastSteps" ∈ lw_tbl := List.mem_of_getElem? (i := 171) (by decide +kernel)
theorem w_197 : Cond.methodLinkNest "BallastSteps" 45 yX1_init "BallastSteps" ∈ lw_tbl := List.mem_of_getElem? (i := 197) (by decide +kernel)
theorem w_202 : Cond.fieldLinkNest "BallastSteps$Ship" 48 "BallastSteps$Row" "cells" "[I" "BallastSteps" ∈ lw_tbl := List.mem_of_getElem? (i := 202) (by decide +kernel)
theorem w_203 : Cond.fieldLinkNest "BallastSteps" 222 "BallastSteps$Row" "cells" "[I" "BallastSteps" ∈ lw_tbl := List.mem_of_getElem? (i := 203) (by decide +kernel)
theorem w_205 : Cond.fieldLinkNest "BallastSteps" 225 "BallastSteps$Row" "lane" "I" "BallastSteps" ∈ lw_tbl := List.mem_of_getElem? (i := 205) (by decide +kernel)
theorem w_281 : Cond.methodLinkNest "BallastSteps$Ship" 53 yX5_kindOf "BallastSteps" ∈ lw_tbl := List.mem_of_getElem? (i := 281) (by decide +kernel)
theorem w_282 : Cond.methodLinkNest "BallastSteps$Ship" 63 yX5_sideOf "BallastSteps" ∈ lw_tbl := List.mem_of_getElem? (i := 282) (by decide +kernel)
theorem w_283 : Cond.fieldLinkNest "BallastSteps$Ship" 72 "BallastSteps" "POWERS_OF_3" "[I" "BallastSteps" ∈ lw_tbl := List.mem_of_getElem? (i := 283) (by decide +kernel)
theorem w_289 : Cond.methodLinkNest "BallastSteps$Ship" 84 yX5_waterIn "BallastSteps" ∈ lw_tbl := List.mem_of_getElem? (i := 289) (by decide +kernel)
theorem w_312 : Cond.methodLinkNest "BallastSteps$Tank" 24 yX5_weightOf "BallastSteps" ∈ lw_tbl := List.mem_of_getElem? (i := 312) (by decide +kernel)
theorem w_326 : Cond.methodLinkNest "BallastSteps$Ship" 90 yX5_holds "BallastSteps" ∈ lw_tbl := List.mem_of_getElem? (i := 326) (by decide +kernel)
theorem w_423 : Cond.methodLinkNest "BallastSteps$Search" 69 yX5_holds "BallastSteps" ∈ lw_tbl := List.mem_of_getElem? (i := 423) (by decide +kernel)
theorem w_435 : Cond.methodLinkNest "BallastSteps$Search" 93 yX5_pumped "BallastSteps" ∈ lw_tbl := List.mem_of_getElem? (i := 435) (by decide +kernel)
section FieldRows
variable {α : Type} {X : GX α} {cc : ByteArray} {nL : Nat} {ret : Option FieldType} {rm : Room} {P : Option α} {S : MS} {pc : Nat} {lv : List (Nat × Value)} {st : List Value}
theorem g_X0_9 (O : OK 30 X RX0 cc nL ret rm) (hd : decode cc pc = .ok (.getfield 9, 3)) (K : GM 30 eX X P S (pc + 3) lv (.ref (aX X 6) :: st)) : GM 30 eX X P S pc lv (.ref (aX X 5) :: st) := r_get O (ci := 0) (k := 0) rfl in_X0 (by decide) w_80 (by decide) eX_5 rfl hd K
theorem g_X0_15 (O : OK 30 X RX0 cc nL ret rm) (hd : decode cc pc = .ok (.getfield 15, 3)) (K : GM 30 eX X P S (pc + 3) lv (.int (S.1 5 1) :: st)) : GM 30 eX X P S pc lv (.ref (aX X 5) :: st) := r_get O (ci := 0) (k := 1) rfl in_X0 (by decide) w_81 (by decide) eX_5 rfl hd K
theorem g_X0_19 (O : OK 30 X RX0 cc nL ret rm) (hd : decode cc pc = .ok (.getfield 19, 3)) (K : GM 30 eX X P S (pc + 3) lv (.int (S.1 5 2) :: st)) : GM 30 eX X P S pc lv (.ref (aX X 5) :: st) := r_get O (ci := 0) (k := 2) rfl in_X0 (by decide) w_82 (by decide) eX_5 rfl hd K
theorem g_X0_22 (O : OK 30 X RX0 cc nL ret rm) (hd : decode cc pc = .ok (.getfield 22, 3)) (K : GM 30 eX X P S (pc + 3) lv (.int (S.1 5 3) :: st)) : GM 30 eX X P S pc lv (.ref (aX X 5) :: st) := r_get O (ci := 0) (k := 3) rfl in_X0 (by decide) w_85 (by decide) eX_5 rfl hd K
theorem g_X0_31 (O : OK 30 X RX0 cc nL ret rm) {k : Nat} (hk : k < 6) (hd : decode cc pc = .ok (.getfield 31, 3)) (K : GM 30 eX X P S (pc + 3) lv (.int (S.1 (24 + k) 1) :: st)) : GM 30 eX X P S pc lv (.ref (aX X (24 + k)) :: st) := r_getN O (ci := 4) (k := 1) rfl in_X4 (by decide) w_107 (by omega) (eX_tnk hk) rfl hd K
theorem g_X0_36 (O : OK 30 X RX0 cc nL ret rm) {k : Nat} (hk : k < 6) (hd : decode cc pc = .ok (.getfield 36, 3)) (K : GM 30 eX X P S (pc + 3) lv (.int (S.1 (24 + k) 2) :: st)) : GM 30 eX X P S pc lv (.ref (aX X (24 + k)) :: st) := r_getN O (ci := 4) (k := 2) rfl in_X4 (by decide) w_111 (by omega) (eX_tnk hk) rfl hd K
theorem g_X1_9 (O : OK 30 X RX1 cc nL ret rm) {k : Nat} (hk : k < 4) (hd : decode cc pc = .ok (.getfield 9, 3)) (K : GM 30 eX X P S (pc + 3) lv (.ref (aX X (20 + k)) :: st)) : GM 30 eX X P S pc lv (.ref (aX X (16 + k)) :: st) := r_get O (ci := 1) (k := 0) rfl in_X1 (by decide) w_201 (by omega) (eX_row hk) rfl hd K
theorem g_X1_15 (O : OK 30 X RX1 cc nL ret rm) {k : Nat} (hk : k < 4) (hd : decode cc pc = .ok (.getfield 15, 3)) (K : GM 30 eX X P S (pc + 3) lv (.int (S.1 (16 + k) 1) :: st)) : GM 30 eX X P S pc lv (.ref (aX X (16 + k)) :: st) := r_get O (ci := 1) (k := 1) rfl in_X1 (by decide) w_204 (by omega) (eX_row hk) rfl hd K
theorem g_X1_19 (O : OK 30 X RX1 cc nL ret rm) {k : Nat} (hk : k < 4) (hd : decode cc pc = .ok (.getfield 19, 3)) (K : GM 30 eX X P S (pc + 3) lv (.int (S.1 (16 + k) 2) :: st)) : GM 30 eX X P S pc lv (.ref (aX X (16 + k)) :: st) := r_get O (ci := 1) (k := 2) rfl in_X1 (by decide) w_206 (by omega) (eX_row hk) rfl hd K
theorem g_X2_9 (O : OK 30 X RX2 cc nL ret rm) (hd : decode cc pc = .ok (.getfield 9, 3)) (K : GM 30 eX X P S (pc + 3) lv (.ref (aX X 9) :: st)) : GM 30 eX X P S pc lv (.ref (aX X 3) :: st) := r_get O (ci := 2) (k := 0) rfl in_X2 (by decide) w_162 (by decide) eX_3 rfl hd K
theorem g_X2_15 (O : OK 30 X RX2 cc nL ret rm) (hd : decode cc pc = .ok (.getfield 15, 3)) (K : GM 30 eX X P S (pc + 3) lv (.ref (aX X 10) :: st)) : GM 30 eX X P S pc lv (.ref (aX X 3) :: st) := r_get O (ci := 2) (k := 1) rfl in_X2 (by decide) w_163 (by decide) eX_3 rfl hd K
theorem g_X2_18 (O : OK 30 X RX2 cc nL ret rm) (hd : decode cc pc = .ok (.getfield 18, 3)) (K : GM 30 eX X P S (pc + 3) lv (.ref (aX X 11) :: st)) : GM 30 eX X P S pc lv (.ref (aX X 3) :: st) := r_get O (ci := 2) (k := 2) rfl in_X2 (by decide) w_164 (by decide) eX_3 rfl hd K
theorem g_X2_21 (O : OK 30 X RX2 cc nL ret rm) (hd : decode cc pc = .ok (.getfield 21, 3)) (K : GM 30 eX X P S (pc + 3) lv (.ref (aX X 12) :: st)) : GM 30 eX X P S pc lv (.ref (aX X 3) :: st) := r_get O (ci := 2) (k := 3) rfl in_X2 (by decide) w_165 (by decide) eX_3 rfl hd K
theorem g_X2_24 (O : OK 30 X RX2 cc nL ret rm) (hd : decode cc pc = .ok (.getfield 24, 3)) (K : GM 30 eX X P S (pc + 3) lv (.ref (aX X 13) :: st)) : GM 30 eX X P S pc lv (.ref (aX X 3) :: st) := r_get O (ci := 2) (k := 4) rfl in_X2 (by decide) w_166 (by decide) eX_3 rfl hd K
theorem g_X2_28 (O : OK 30 X RX2 cc nL ret rm) (hd : decode cc pc = .ok (.getfield 28, 3)) (K : GM 30 eX X P S (pc + 3) lv (.ref (aX X 14) :: st)) : GM 30 eX X P S pc lv (.ref (aX X 3) :: st) := r_get O (ci := 2) (k := 5) rfl in_X2 (by decide) w_167 (by decide) eX_3 rfl hd K
theorem g_X2_32 (O : OK 30 X RX2 cc nL ret rm) (hd : decode cc pc = .ok (.getfield 32, 3)) (K : GM 30 eX X P S (pc + 3) lv (.ref (aX X 15) :: st)) : GM 30 eX X P S pc lv (.ref (aX X 3) :: st) := r_get O (ci := 2) (k := 6) rfl in_X2 (by decide) w_168 (by decide) eX_3 rfl hd K
theorem g_X2_35 (O : OK 30 X RX2 cc nL ret rm) (hd : decode cc pc = .ok (.getfield 35, 3)) (K : GM 30 eX X P S (pc + 3) lv (.int (S.1 3 7) :: st)) : GM 30 eX X P S pc lv (.ref (aX X 3) :: st) := r_get O (ci := 2) (k := 7) rfl in_X2 (by decide) w_169 (by decide) eX_3 rfl hd K
theorem g_X2_39 (O : OK 30 X RX2 cc nL ret rm) (hd : decode cc pc = .ok (.getfield 39, 3)) (K : GM 30 eX X P S (pc + 3) lv (.int (S.1 3 8) :: st)) : GM 30 eX X P S pc lv (.ref (aX X 3) :: st) := r_get O (ci := 2) (k := 8) rfl in_X2 (by decide) w_170 (by decide) eX_3 rfl hd K
theorem g_X2_43 (O : OK 30 X RX2 cc nL ret rm) (hd : decode cc pc = .ok (.getfield 43, 3)) (K : GM 30 eX X P S (pc + 3) lv (.int (S.1 3 9) :: st)) : GM 30 eX X P S pc lv (.ref (aX X 3) :: st) := r_get O (ci := 2) (k := 9) rfl in_X2 (by decide) w_172 (by decide) eX_3 rfl hd K
theorem g_X2_57 (O : OK 30 X RX2 cc nL ret rm) (hd : decode cc pc = .ok (.getfield 57, 3)) (K : GM 30 eX X P S (pc + 3) lv (.int (S.1 2 3) :: st)) : GM 30 eX X P S pc lv (.ref (aX X 2) :: st) := r_getN O (ci := 3) (k := 3) rfl in_X3 (by decide) w_132 (by decide) eX_2 rfl hd K
theorem g_X2_66 (O : OK 30 X RX2 cc nL ret rm) (hd : decode cc pc = .ok (.getfield 66, 3)) (K : GM 30 eX X P S (pc + 3) lv (.int (S.1 2 5) :: st)) : GM 30 eX X P S pc lv (.ref (aX X 2) :: st) := r_getN O (ci := 3) (k := 5) rfl in_X3 (by decide) w_138 (by decide) eX_2 rfl hd K
theorem g_X2_82 (O : OK 30 X RX2 cc nL ret rm) (hd : decode cc pc = .ok (.getfield 82, 3)) (K : GM 30 eX X P S (pc + 3) lv (.int (S.1 2 4) :: st)) : GM 30 eX X P S pc lv (.ref (aX X 2) :: st) := r_getN O (ci := 3) (k := 4) rfl in_X3 (by decide) w_135 (by decide) eX_2 rfl hd K
theorem g_X3_11 (O : OK 30 X RX3 cc nL ret rm) (hd : decode cc pc = .ok (.getfield 11, 3)) (K : GM 30 eX X P S (pc + 3) lv (.ref (aX X 7) :: st)) : GM 30 eX X P S pc lv (.ref (aX X 2) :: st) := r_get O (ci := 3) (k := 0) rfl in_X3 (by decide) w_125 (by decide) eX_2 rfl hd K
theorem g_X3_17 (O : OK 30 X RX3 cc nL ret rm) (hd : decode cc pc = .ok (.getfield 17, 3)) (K : GM 30 eX X P S (pc + 3) lv (.ref (aX X 8) :: st)) : GM 30 eX X P S pc lv (.ref (aX X 2) :: st) := r_get O (ci := 3) (k := 1) rfl in_X3 (by decide) w_127 (by decide) eX_2 rfl hd K
theorem g_X3_24 (O : OK 30 X RX3 cc nL ret rm) (hd : decode cc pc = .ok (.getfield 24, 3)) (K : GM 30 eX X P S (pc + 3) lv (.ref (aX X 5) :: st)) : GM 30 eX X P S pc lv (.ref (aX X 2) :: st) := r_get O (ci := 3) (k := 2) rfl in_X3 (by decide) w_129 (by decide) eX_2 rfl hd K
theorem g_X3_28 (O : OK 30 X RX3 cc nL ret rm) (hd : decode cc pc = .ok (.getfield 28, 3)) (K : GM 30 eX X P S (pc + 3) lv (.int (S.1 2 3) :: st)) : GM 30 eX X P S pc lv (.ref (aX X 2) :: st) := r_get O (ci := 3) (k := 3) rfl in_X3 (by decide) w_130 (by decide) eX_2 rfl hd K
theorem g_X3_32 (O : OK 30 X RX3 cc nL ret rm) (hd : decode cc pc = .ok (.getfield 32, 3)) (K : GM 30 eX X P S (pc + 3) lv (.int (S.1 2 4) :: st)) : GM 30 eX X P S pc lv (.ref (aX X 2) :: st) := r_get O (ci := 3) (k := 4) rfl in_X3 (by decide) w_133 (by decide) eX_2 rfl hd K
theorem g_X3_35 (O : OK 30 X RX3 cc nL ret rm) (hd : decode cc pc = .ok (.getfield 35, 3)) (K : GM 30 eX X P S (pc + 3) lv (.int (S.1 2 5) :: st)) : GM 30 eX X P S pc lv (.ref (aX X 2) :: st) := r_get O (ci := 3) (k := 5) rfl in_X3 (by decide) w_136 (by decide) eX_2 rfl hd K
theorem g_X3_38 (O : OK 30 X RX3 cc nL ret rm) (hd : decode cc pc = .ok (.getfield 38, 3)) (K : GM 30 eX X P S (pc + 3) lv (.int (S.1 2 6) :: st)) : GM 30 eX X P S pc lv (.ref (aX X 2) :: st) := r_get O (ci := 3) (k := 6) rfl in_X3 (by decide) w_139 (by decide) eX_2 rfl hd K
theorem g_X3_48 (O : OK 30 X RX3 cc nL ret rm) {k : Nat} (hk : k < 4) (hd : decode cc pc = .ok (.getfield 48, 3)) (K : GM 30 eX X P S (pc + 3) lv (.ref (aX X (20 + k)) :: st)) : GM 30 eX X P S pc lv (.ref (aX X (16 + k)) :: st) := r_getN O (ci := 1) (k := 0) rfl in_X1 (by decide) w_202 (by omega) (eX_row hk) rfl hd K
theorem g_X3_60 (O : OK 30 X RX3 cc nL ret rm) {k : Nat} (hk : k < 6) (hd : decode cc pc = .ok (.getfield 60, 3)) (K : GM 30 eX X P S (pc + 3) lv (.int (S.1 (24 + k) 1) :: st)) : GM 30 eX X P S pc lv (.ref (aX X (24 + k)) :: st) := r_getN O (ci := 4) (k := 1) rfl in_X4 (by decide) w_106 (by omega) (eX_tnk hk) rfl hd K
theorem g_X3_121 (O : OK 30 X RX3 cc nL ret rm) (hd : decode cc pc = .ok (.getfield 121, 3)) (K : GM 30 eX X P S (pc + 3) lv (.int (S.1 5 2) :: st)) : GM 30 eX X P S pc lv (.ref (aX X 5) :: st) := r_getN O (ci := 0) (k := 2) rfl in_X0 (by decide) w_84 (by decide) eX_5 rfl hd K
theorem g_X4_9 (O : OK 30 X RX4 cc nL ret rm) {k : Nat} (hk : k < 6) (hd : decode cc pc = .ok (.getfield 9, 3)) (K : GM 30 eX X P S (pc + 3) lv (.int (S.1 (24 + k) 0) :: st)) : GM 30 eX X P S pc lv (.ref (aX X (24 + k)) :: st) := r_get O (ci := 4) (k := 0) rfl in_X4 (by decide) w_102 (by omega) (eX_tnk hk) rfl hd K
theorem g_X4_21 (O : OK 30 X RX4 cc nL ret rm) {k : Nat} (hk : k < 6) (hd : decode cc pc = .ok (.getfield 21, 3)) (K : GM 30 eX X P S (pc + 3) lv (.int (S.1 (24 + k) 3) :: st)) : GM 30 eX X P S pc lv (.ref (aX X (24 + k)) :: st) := r_get O (ci := 4) (k := 3) rfl in_X4 (by decide) w_113 (by omega) (eX_tnk hk) rfl hd K
theorem g_X5_13 (O : OK 30 X RX5 cc nL ret rm) (hd : decode cc pc = .ok (.getfield 13, 3)) (K : GM 30 eX X P S (pc + 3) lv (.ref (aX X 1) :: st)) : GM 30 eX X P S pc lv (.ref (aX X 0) :: st) := r_get O (ci := 5) (k := 0) rfl in_X5 (by decide) w_214 (by decide) eX_0 rfl hd K
theorem g_X5_20 (O : OK 30 X RX5 cc nL ret rm) (hd : decode cc pc = .ok (.getfield 20, 3)) (K : GM 30 eX X P S (pc + 3) lv (.ref (aX X 2) :: st)) : GM 30 eX X P S pc lv (.ref (aX X 0) :: st) := r_get O (ci := 5) (k := 1) rfl in_X5 (by decide) w_215 (by decide) eX_0 rfl hd K
theorem g_X5_27 (O : OK 30 X RX5 cc nL ret rm) (hd : decode cc pc = .ok (.getfield 27, 3)) (K : GM 30 eX X P S (pc + 3) lv (.ref (aX X 3) :: st)) : GM 30 eX X P S pc lv (.ref (aX X 0) :: st) := r_get O (ci := 5) (k := 2) rfl in_X5 (by decide) w_216 (by decide) eX_0 rfl hd K
theorem g_X5_31 (O : OK 30 X RX5 cc nL ret rm) (hd : decode cc pc = .ok (.getfield 31, 3)) (K : GM 30 eX X P S (pc + 3) lv (.ref (aX X 4) :: st)) : GM 30 eX X P S pc lv (.ref (aX X 0) :: st) := r_get O (ci := 5) (k := 3) rfl in_X5 (by decide) w_217 (by decide) eX_0 rfl hd K
theorem g_X5_35 (O : OK 30 X RX5 cc nL ret rm) (hd : decode cc pc = .ok (.getfield 35, 3)) (K : GM 30 eX X P S (pc + 3) lv (.int (S.1 0 4) :: st)) : GM 30 eX X P S pc lv (.ref (aX X 0) :: st) := r_get O (ci := 5) (k := 4) rfl in_X5 (by decide) w_218 (by decide) eX_0 rfl hd K
theorem g_X5_39 (O : OK 30 X RX5 cc nL ret rm) (hd : decode cc pc = .ok (.getfield 39, 3)) (K : GM 30 eX X P S (pc + 3) lv (.int (S.1 0 5) :: st)) : GM 30 eX X P S pc lv (.ref (aX X 0) :: st) := r_get O (ci := 5) (k := 5) rfl in_X5 (by decide) w_219 (by decide) eX_0 rfl hd K
theorem g_X5_42 (O : OK 30 X RX5 cc nL ret rm) (hd : decode cc pc = .ok (.getfield 42, 3)) (K : GM 30 eX X P S (pc + 3) lv (.int (S.1 0 6) :: st)) : GM 30 eX X P S pc lv (.ref (aX X 0) :: st) := r_get O (ci := 5) (k := 6) rfl in_X5 (by decide) w_220 (by decide) eX_0 rfl hd K
theorem g_X5_75 (O : OK 30 X RX5 cc nL ret rm) (hd : decode cc pc = .ok (.getfield 75, 3)) (K : GM 30 eX X P S (pc + 3) lv (.int (S.1 2 3) :: st)) : GM 30 eX X P S pc lv (.ref (aX X 2) :: st) := r_getN O (ci := 3) (k := 3) rfl in_X3 (by decide) w_131 (by decide) eX_2 rfl hd K
theorem g_X5_81 (O : OK 30 X RX5 cc nL ret rm) (hd : decode cc pc = .ok (.getfield 81, 3)) (K : GM 30 eX X P S (pc + 3) lv (.ref (aX X 7) :: st)) : GM 30 eX X P S pc lv (.ref (aX X 2) :: st) := r_getN O (ci := 3) (k := 0) rfl in_X3 (by decide) w_126 (by decide) eX_2 rfl hd K
theorem g_X5_85 (O : OK 30 X RX5 cc nL ret rm) {k : Nat} (hk : k < 6) (hd : decode cc pc = .ok (.getfield 85, 3)) (K : GM 30 eX X P S (pc + 3) lv (.int (S.1 (24 + k) 0) :: st)) : GM 30 eX X P S pc lv (.ref (aX X (24 + k)) :: st) := r_getN O (ci := 4) (k := 0) rfl in_X4 (by decide) w_104 (by omega) (eX_tnk hk) rfl hd K
theorem g_X5_90 (O : OK 30 X RX5 cc nL ret rm) {k : Nat} (hk : k < 6) (hd : decode cc pc = .ok (.getfield 90, 3)) (K : GM 30 eX X P S (pc + 3) lv (.int (S.1 (24 + k) 1) :: st)) : GM 30 eX X P S pc lv (.ref (aX X (24 + k)) :: st) := r_getN O (ci := 4) (k := 1) rfl in_X4 (by decide) w_108 (by omega) (eX_tnk hk) rfl hd K
theorem g_X5_93 (O : OK 30 X RX5 cc nL ret rm) {k : Nat} (hk : k < 6) (hd : decode cc pc = .ok (.getfield 93, 3)) (K : GM 30 eX X P S (pc + 3) lv (.int (S.1 (24 + k) 2) :: st)) : GM 30 eX X P S pc lv (.ref (aX X (24 + k)) :: st) := r_getN O (ci := 4) (k := 2) rfl in_X4 (by decide) w_112 (by omega) (eX_tnk hk) rfl hd K
theorem g_X5_96 (O : OK 30 X RX5 cc nL ret rm) {k : Nat} (hk : k < 6) (hd : decode cc pc = .ok (.getfield 96, 3)) (K : GM 30 eX X P S (pc + 3) lv (.int (S.1 (24 + k) 3) :: st)) : GM 30 eX X P S pc lv (.ref (aX X (24 + k)) :: st) := r_getN O (ci := 4) (k := 3) rfl in_X4 (by decide) w_115 (by omega) (eX_tnk hk) rfl hd K
theorem g_X5_103 (O : OK 30 X RX5 cc nL ret rm) (hd : decode cc pc = .ok (.getfield 103, 3)) (K : GM 30 eX X P S (pc + 3) lv (.int (S.1 2 4) :: st)) : GM 30 eX X P S pc lv (.ref (aX X 2) :: st) := r_getN O (ci := 3) (k := 4) rfl in_X3 (by decide) w_134 (by decide) eX_2 rfl hd K
theorem g_X5_110 (O : OK 30 X RX5 cc nL ret rm) (hd : decode cc pc = .ok (.getfield 110, 3)) (K : GM 30 eX X P S (pc + 3) lv (.int (S.1 2 5) :: st)) : GM 30 eX X P S pc lv (.ref (aX X 2) :: st) := r_getN O (ci := 3) (k := 5) rfl in_X3 (by decide) w_137 (by decide) eX_2 rfl hd K
theorem g_X5_123 (O : OK 30 X RX5 cc nL ret rm) (hd : decode cc pc = .ok (.getfield 123, 3)) (K : GM 30 eX X P S (pc + 3) lv (.int (S.1 2 6) :: st)) : GM 30 eX X P S pc lv (.ref (aX X 2) :: st) := r_getN O (ci := 3) (k := 6) rfl in_X3 (by decide) w_140 (by decide) eX_2 rfl hd K
theorem g_X5_130 (O : OK 30 X RX5 cc nL ret rm) (hd : decode cc pc = .ok (.getfield 130, 3)) (K : GM 30 eX X P S (pc + 3) lv (.ref (aX X 8) :: st)) : GM 30 eX X P S pc lv (.ref (aX X 2) :: st) := r_getN O (ci := 3) (k := 1) rfl in_X3 (by decide) w_128 (by decide) eX_2 rfl hd K
theorem g_X5_140 (O : OK 30 X RX5 cc nL ret rm) (hd : decode cc pc = .ok (.getfield 140, 3)) (K : GM 30 eX X P S (pc + 3) lv (.int (S.1 5 2) :: st)) : GM 30 eX X P S pc lv (.ref (aX X 5) :: st) := r_getN O (ci := 0) (k := 2) rfl in_X0 (by decide) w_83 (by decide) eX_5 rfl hd K
theorem g_X5_145 (O : OK 30 X RX5 cc nL ret rm) (hd : decode cc pc = .ok (.getfield 145, 3)) (K : GM 30 eX X P S (pc + 3) lv (.int (S.1 5 3) :: st)) : GM 30 eX X P S pc lv (.ref (aX X 5) :: st) := r_getN O (ci := 0) (k := 3) rfl in_X0 (by decide) w_86 (by decide) eX_5 rfl hd K
theorem g_X5_193 (O : OK 30 X RX5 cc nL ret rm) (hd : decode cc pc = .ok (.getfield 193, 3)) (K : GM 30 eX X P S (pc + 3) lv (.int (S.1 3 8) :: st)) : GM 30 eX X P S pc lv (.ref (aX X 3) :: st) := r_getN O (ci := 2) (k := 8) rfl in_X2 (by decide) w_171 (by decide) eX_3 rfl hd K
theorem g_X5_222 (O : OK 30 X RX5 cc nL ret rm) {k : Nat} (hk : k < 4) (hd : decode cc pc = .ok (.getfield 222, 3)) (K : GM 30 eX X P S (pc + 3) lv (.ref (aX X (20 + k)) :: st)) : GM 30 eX X P S pc lv (.ref (aX X (16 + k)) :: st) := r_getN O (ci := 1) (k := 0) rfl in_X1 (by decide) w_203 (by omega) (eX_row hk) rfl hd K
theorem g_X5_225 (O : OK 30 X RX5 cc nL ret rm) {k : Nat} (hk : k < 4) (hd : decode cc pc = .ok (.getfield 225, 3)) (K : GM 30 eX X P S (pc + 3) lv (.int (S.1 (16 + k) 1) :: st)) : GM 30 eX X P S pc lv (.ref (aX X (16 + k)) :: st) := r_getN O (ci := 1) (k := 1) rfl in_X1 (by decide) w_205 (by omega) (eX_row hk) rfl hd K
theorem g_X6_9 (O : OK 22 X RX6 cc nL ret rm) (hd : decode cc pc = .ok (.getfield 9, 3)) (K : GM 22 eM X P S (pc + 3) lv (.ref (aX X 1) :: st)) : GM 22 eM X P S pc lv (.ref (aX X 0) :: st) := r_get O (ci := 6) (k := 2) rfl in_X6 (by decide) w_638 (by decide) eM_0 rfl hd K
theorem g_X6_13 (O : OK 22 X RX6 cc nL ret rm) (hd : decode cc pc = .ok (.getfield 13, 3)) (K : GM 22 eM X P S (pc + 3) lv (.ref (aX X 2) :: st)) : GM 22 eM X P S pc lv (.ref (aX X 0) :: st) := r_get O (ci := 6) (k := 3) rfl in_X6 (by decide) w_639 (by decide) eM_0 rfl hd K
theorem g_X6_16 (O : OK 22 X RX6 cc nL ret rm) (hd : decode cc pc = .ok (.getfield 16, 3)) (K : GM 22 eM X P S (pc + 3) lv (.ref (aX X 3) :: st)) : GM 22 eM X P S pc lv (.ref (aX X 0) :: st) := r_get O (ci := 6) (k := 4) rfl in_X6 (by decide) w_640 (by decide) eM_0 rfl hd K
theorem g_X6_19 (O : OK 22 X RX6 cc nL ret rm) (hd : decode cc pc = .ok (.getfield 19, 3)) (K : GM 22 eM X P S (pc + 3) lv (.ref (aX X 4) :: st)) : GM 22 eM X P S pc lv (.ref (aX X 0) :: st) := r_get O (ci := 6) (k := 5) rfl in_X6 (by decide) w_641 (by decide) eM_0 rfl hd K
theorem g_X6_22 (O : OK 22 X RX6 cc nL ret rm) (hd : decode cc pc = .ok (.getfield 22, 3)) (K : GM 22 eM X P S (pc + 3) lv (.ref (aX X 5) :: st)) : GM 22 eM X P S pc lv (.ref (aX X 0) :: st) := r_get O (ci := 6) (k := 7) rfl in_X6 (by decide) w_643 (by decide) eM_0 rfl hd K
theorem g_X6_25 (O : OK 22 X RX6 cc nL ret rm) (hd : decode cc pc = .ok (.getfield 25, 3)) (K : GM 22 eM X P S (pc + 3) lv (.ref (aX X 6) :: st)) : GM 22 eM X P S pc lv (.ref (aX X 0) :: st) := r_get O (ci := 6) (k := 8) rfl in_X6 (by decide) w_644 (by decide) eM_0 rfl hd K
theorem g_X6_28 (O : OK 22 X RX6 cc nL ret rm) (hd : decode cc pc = .ok (.getfield 28, 3)) (K : GM 22 eM X P S (pc + 3) lv (.ref (aX X 7) :: st)) : GM 22 eM X P S pc lv (.ref (aX X 0) :: st) := r_get O (ci := 6) (k := 9) rfl in_X6 (by decide) w_645 (by decide) eM_0 rfl hd K
theorem g_X6_31 (O : OK 22 X RX6 cc nL ret rm) (hd : decode cc pc = .ok (.getfield 31, 3)) (K : GM 22 eM X P S (pc + 3) lv (.ref (aX X 8) :: st)) : GM 22 eM X P S pc lv (.ref (aX X 0) :: st) := r_get O (ci := 6) (k := 10) rfl in_X6 (by decide) w_646 (by decide) eM_0 rfl hd K
theorem g_X6_34 (O : OK 22 X RX6 cc nL ret rm) (hd : decode cc pc = .ok (.getfield 34, 3)) (K : GM 22 eM X P S (pc + 3) lv (.ref (aX X 9) :: st)) : GM 22 eM X P S pc lv (.ref (aX X 0) :: st) := r_get O (ci := 6) (k := 11) rfl in_X6 (by decide) w_647 (by decide) eM_0 rfl hd K
theorem g_X6_38 (O : OK 22 X RX6 cc nL ret rm) (hd : decode cc pc = .ok (.getfield 38, 3)) (K : GM 22 eM X P S (pc + 3) lv (.ref (aX X 10) :: st)) : GM 22 eM X P S pc lv (.ref (aX X 0) :: st) := r_get O (ci := 6) (k := 12) rfl in_X6 (by decide) w_648 (by decide) eM_0 rfl hd K
theorem g_X6_41 (O : OK 22 X RX6 cc nL ret rm) (hd : decode cc pc = .ok (.getfield 41, 3)) (K : GM 22 eM X P S (pc + 3) lv (.ref (aX X 11) :: st)) : GM 22 eM X P S pc lv (.ref (aX X 0) :: st) := r_get O (ci := 6) (k := 19) rfl in_X6 (by decide) w_655 (by decide) eM_0 rfl hd K
theorem g_X6_44 (O : OK 22 X RX6 cc nL ret rm) (hd : decode cc pc = .ok (.getfield 44, 3)) (K : GM 22 eM X P S (pc + 3) lv (.ref (aX X 12) :: st)) : GM 22 eM X P S pc lv (.ref (aX X 0) :: st) := r_get O (ci := 6) (k := 20) rfl in_X6 (by decide) w_656 (by decide) eM_0 rfl hd K
theorem g_X6_47 (O : OK 22 X RX6 cc nL ret rm) (hd : decode cc pc = .ok (.getfield 47, 3)) (K : GM 22 eM X P S (pc + 3) lv (.ref (aX X 13) :: st)) : GM 22 eM X P S pc lv (.ref (aX X 0) :: st) := r_get O (ci := 6) (k := 21) rfl in_X6 (by decide) w_657 (by decide) eM_0 rfl hd K
theorem g_X6_50 (O : OK 22 X RX6 cc nL ret rm) (hd : decode cc pc = .ok (.getfield 50, 3)) (K : GM 22 eM X P S (pc + 3) lv (.ref (aX X 14) :: st)) : GM 22 eM X P S pc lv (.ref (aX X 0) :: st) := r_get O (ci := 6) (k := 22) rfl in_X6 (by decide) w_658 (by decide) eM_0 rfl hd K
theorem g_X6_53 (O : OK 22 X RX6 cc nL ret rm) (hd : decode cc pc = .ok (.getfield 53, 3)) (K : GM 22 eM X P S (pc + 3) lv (.ref (aX X 15) :: st)) : GM 22 eM X P S pc lv (.ref (aX X 0) :: st) := r_get O (ci := 6) (k := 23) rfl in_X6 (by decide) w_659 (by decide) eM_0 rfl hd K
theorem g_X6_56 (O : OK 22 X RX6 cc nL ret rm) (hd : decode cc pc = .ok (.getfield 56, 3)) (K : GM 22 eM X P S (pc + 3) lv (.ref (aX X 16) :: st)) : GM 22 eM X P S pc lv (.ref (aX X 0) :: st) := r_get O (ci := 6) (k := 24) rfl in_X6 (by decide) w_660 (by decide) eM_0 rfl hd K
theorem g_X6_59 (O : OK 22 X RX6 cc nL ret rm) (hd : decode cc pc = .ok (.getfield 59, 3)) (K : GM 22 eM X P S (pc + 3) lv (.ref (aX X 17) :: st)) : GM 22 eM X P S pc lv (.ref (aX X 0) :: st) := r_get O (ci := 6) (k := 29) rfl in_X6 (by decide) w_665 (by decide) eM_0 rfl hd K
theorem g_X6_62 (O : OK 22 X RX6 cc nL ret rm) (hd : decode cc pc = .ok (.getfield 62, 3)) (K : GM 22 eM X P S (pc + 3) lv (.ref (aX X 18) :: st)) : GM 22 eM X P S pc lv (.ref (aX X 0) :: st) := r_get O (ci := 6) (k := 30) rfl in_X6 (by decide) w_666 (by decide) eM_0 rfl hd K
theorem g_X6_65 (O : OK 22 X RX6 cc nL ret rm) (hd : decode cc pc = .ok (.getfield 65, 3)) (K : GM 22 eM X P S (pc + 3) lv (.ref (aX X 19) :: st)) : GM 22 eM X P S pc lv (.ref (aX X 0) :: st) := r_get O (ci := 6) (k := 31) rfl in_X6 (by decide) w_667 (by decide) eM_0 rfl hd K
theorem g_X6_69 (O : OK 22 X RX6 cc nL ret rm) (hd : decode cc pc = .ok (.getfield 69, 3)) (K : GM 22 eM X P S (pc + 3) lv (.ref (aX X 20) :: st)) : GM 22 eM X P S pc lv (.ref (aX X 0) :: st) := r_get O (ci := 6) (k := 33) rfl in_X6 (by decide) w_669 (by decide) eM_0 rfl hd K
theorem g_X6_72 (O : OK 22 X RX6 cc nL ret rm) (hd : decode cc pc = .ok (.getfield 72, 3)) (K : GM 22 eM X P S (pc + 3) lv (.ref (aX X 21) :: st)) : GM 22 eM X P S pc lv (.ref (aX X 0) :: st) := r_get O (ci := 6) (k := 35) rfl in_X6 (by decide) w_671 (by decide) eM_0 rfl hd K
theorem g_X6_75 (O : OK 22 X RX6 cc nL ret rm) (hd : decode cc pc = .ok (.getfield 75, 3)) (K : GM 22 eM X P S (pc + 3) lv (.int (S.1 0 0) :: st)) : GM 22 eM X P S pc lv (.ref (aX X 0) :: st) := r_get O (ci := 6) (k := 0) rfl in_X6 (by decide) w_636 (by decide) eM_0 rfl hd K
theorem g_X6_89 (O : OK 22 X RX6 cc nL ret rm) (hd : decode cc pc = .ok (.getfield 89, 3)) (K : GM 22 eM X P S (pc + 3) lv (.int (S.1 0 6) :: st)) : GM 22 eM X P S pc lv (.ref (aX X 0) :: st) := r_get O (ci := 6) (k := 6) rfl in_X6 (by decide) w_642 (by decide) eM_0 rfl hd K
theorem g_X6_92 (O : OK 22 X RX6 cc nL ret rm) (hd : decode cc pc = .ok (.getfield 92, 3)) (K : GM 22 eM X P S (pc + 3) lv (.int (S.1 0 15) :: st)) : GM 22 eM X P S pc lv (.ref (aX X 0) :: st) := r_get O (ci := 6) (k := 15) rfl in_X6 (by decide) w_651 (by decide) eM_0 rfl hd K
theorem g_X6_95 (O : OK 22 X RX6 cc nL ret rm) (hd : decode cc pc = .ok (.getfield 95, 3)) (K : GM 22 eM X P S (pc + 3) lv (.int (S.1 0 16) :: st)) : GM 22 eM X P S pc lv (.ref (aX X 0) :: st) := r_get O (ci := 6) (k := 16) rfl in_X6 (by decide) w_652 (by decide) eM_0 rfl hd K
theorem g_X6_116 (O : OK 22 X RX6 cc nL ret rm) (hd : decode cc pc = .ok (.getfield 116, 3)) (K : GM 22 eM X P S (pc + 3) lv (.int (S.1 0 17) :: st)) : GM 22 eM X P S pc lv (.ref (aX X 0) :: st) := r_get O (ci := 6) (k := 17) rfl in_X6 (by decide) w_653 (by decide) eM_0 rfl hd K
theorem g_X6_119 (O : OK 22 X RX6 cc nL ret rm) (hd : decode cc pc = .ok (.getfield 119, 3)) (K : GM 22 eM X P S (pc + 3) lv (.int (S.1 0 18) :: st)) : GM 22 eM X P S pc lv (.ref (aX X 0) :: st) := r_get O (ci := 6) (k := 18) rfl in_X6 (by decide) w_654 (by decide) eM_0 rfl hd K
theorem g_X6_141 (O : OK 22 X RX6 cc nL ret rm) (hd : decode cc pc = .ok (.getfield 141, 3)) (K : GM 22 eM X P S (pc + 3) lv (.int (S.1 0 14) :: st)) : GM 22 eM X P S pc lv (.ref (aX X 0) :: st) := r_get O (ci := 6) (k := 14) rfl in_X6 (by decide) w_650 (by decide) eM_0 rfl hd K
theorem g_X6_144 (O : OK 22 X RX6 cc nL ret rm) (hd : decode cc pc = .ok (.getfield 144, 3)) (K : GM 22 eM X P S (pc + 3) lv (.int (S.1 0 13) :: st)) : GM 22 eM X P S pc lv (.ref (aX X 0) :: st) := r_get O (ci := 6) (k := 13) rfl in_X6 (by decide) w_649 (by decide) eM_0 rfl hd K
theorem g_X6_147 (O : OK 22 X RX6 cc nL ret rm) (hd : decode cc pc = .ok (.getfield 147, 3)) (K : GM 22 eM X P S (pc + 3) lv (.int (S.1 0 34) :: st)) : GM 22 eM X P S pc lv (.ref (aX X 0) :: st) := r_get O (ci := 6) (k := 34) rfl in_X6 (by decide) w_670 (by decide) eM_0 rfl hd K
theorem g_X6_150 (O : OK 22 X RX6 cc nL ret rm) (hd : decode cc pc = .ok (.getfield 150, 3)) (K : GM 22 eM X P S (pc + 3) lv (.int (S.1 0 28) :: st)) : GM 22 eM X P S pc lv (.ref (aX X 0) :: st) := r_get O (ci := 6) (k := 28) rfl in_X6 (by decide) w_664 (by decide) eM_0 rfl hd K
theorem g_X6_172 (O : OK 22 X RX6 cc nL ret rm) (hd : decode cc pc = .ok (.getfield 172, 3)) (K : GM 22 eM X P S (pc + 3) lv (.int (S.1 0 25) :: st)) : GM 22 eM X P S pc lv (.ref (aX X 0) :: st) := r_get O (ci := 6) (k := 25) rfl in_X6 (by decide) w_661 (by decide) eM_0 rfl hd K
theorem g_X6_175 (O : OK 22 X RX6 cc nL ret rm) (hd : decode cc pc = .ok (.getfield 175, 3)) (K : GM 22 eM X P S (pc + 3) lv (.int (S.1 0 26) :: st)) : GM 22 eM X P S pc lv (.ref (aX X 0) :: st) := r_get O (ci := 6) (k := 26) rfl in_X6 (by decide) w_662 (by decide) eM_0 rfl hd K
theorem g_X6_178 (O : OK 22 X RX6 cc nL ret rm) (hd : decode cc pc = .ok (.getfield 178, 3)) (K : GM 22 eM X P S (pc + 3) lv (.int (S.1 0 27) :: st)) : GM 22 eM X P S pc lv (.ref (aX X 0) :: st) := r_get O (ci := 6) (k := 27) rfl in_X6 (by decide) w_663 (by decide) eM_0 rfl hd K
theorem g_X6_218 (O : OK 22 X RX6 cc nL ret rm) (hd : decode cc pc = .ok (.getfield 218, 3)) (K : GM 22 eM X P S (pc + 3) lv (.int (S.1 0 32) :: st)) : GM 22 eM X P S pc lv (.ref (aX X 0) :: st) := r_get O (ci := 6) (k := 32) rfl in_X6 (by decide) w_668 (by decide) eM_0 rfl hd K
theorem g_X6_260 (O : OK 22 X RX6 cc nL ret rm) (hd : decode cc pc = .ok (.getfield 260, 3)) (K : GM 22 eM X P S (pc + 3) lv (.int (S.1 0 1) :: st)) : GM 22 eM X P S pc lv (.ref (aX X 0) :: st) := r_get O (ci := 6) (k := 1) rfl in_X6 (by decide) w_637 (by decide) eM_0 rfl hd K
theorem p_X0_15 {P : MS → Option α} {v : Int32} (O : OK 30 X RX0 cc nL ret rm) (hd : decode cc pc = .ok (.putfield 15, 3)) (K : ∀ S, GM 30 eX X (P S) S (pc + 3) lv st) : GM 30 eX X (nm (sI S 5 1 v) P) S pc lv (.int v :: .ref (aX X 5) :: st) := r_put O (ci := 0) (k := 1) (ty := .int) rfl in_X0 tyX0_ok nmX0 (by decide) w_81 (by decide) eX_5 (eX_5.trans rfl) rfl (by decide +kernel) rfl rfl (Nat.le_of_ble_eq_true rfl) hd K
theorem p_X0_19 {P : MS → Option α} {v : Int32} (O : OK 30 X RX0 cc nL ret rm) (hd : decode cc pc = .ok (.putfield 19, 3)) (K : ∀ S, GM 30 eX X (P S) S (pc + 3) lv st) : GM 30 eX X (nm (sI S 5 2 v) P) S pc lv (.int v :: .ref (aX X 5) :: st) := r_put O (ci := 0) (k := 2) (ty := .int) rfl in_X0 tyX0_ok nmX0 (by decide) w_82 (by decide) eX_5 (eX_5.trans rfl) rfl (by decide +kernel) rfl rfl (Nat.le_of_ble_eq_true rfl) hd K
theorem p_X0_22 {P : MS → Option α} {v : Int32} (O : OK 30 X RX0 cc nL ret rm) (hd : decode cc pc = .ok (.putfield 22, 3)) (K : ∀ S, GM 30 eX X (P S) S (pc + 3) lv st) : GM 30 eX X (nm (sI S 5 3 v) P) S pc lv (.int v :: .ref (aX X 5) :: st) := r_put O (ci := 0) (k := 3) (ty := .int) rfl in_X0 tyX0_ok nmX0 (by decide) w_85 (by decide) eX_5 (eX_5.trans rfl) rfl (by decide +kernel) rfl rfl (Nat.le_of_ble_eq_true rfl) hd K
theorem p_X1_15 {P : MS → Option α} {v : Int32} (O : OK 30 X RX1 cc nL ret rm) {k : Nat} (hk : k < 4) (hd : decode cc pc = .ok (.putfield 15, 3)) (K : ∀ S, GM 30 eX X (P S) S (pc + 3) lv st) : GM 30 eX X (nm (sI S (16 + k) 1 v) P) S pc lv (.int v :: .ref (aX X (16 + k)) :: st) := r_put O (ci := 1) (k := 1) (ty := .int) rfl in_X1 tyX1_ok nmX1 (by decide) w_204 (by omega) (eX_row hk) ((eX_row hk).trans rfl) rfl (by decide +kernel) rfl rfl (Nat.le_of_ble_eq_true rfl) hd K
theorem p_X1_19 {P : MS → Option α} {v : Int32} (O : OK 30 X RX1 cc nL ret rm) {k : Nat} (hk : k < 4) (hd : decode cc pc = .ok (.putfield 19, 3)) (K : ∀ S, GM 30 eX X (P S) S (pc + 3) lv st) : GM 30 eX X (nm (sI S (16 + k) 2 v) P) S pc lv (.int v :: .ref (aX X (16 + k)) :: st) := r_put O (ci := 1) (k := 2) (ty := .int) rfl in_X1 tyX1_ok nmX1 (by decide) w_206 (by omega) (eX_row hk) ((eX_row hk).trans rfl) rfl (by decide +kernel) rfl rfl (Nat.le_of_ble_eq_true rfl) hd K
theorem p_X2_35 {P : MS → Option α} {v : Int32} (O : OK 30 X RX2 cc nL ret rm) (hz : v = 0 ∨ v = 1) (hd : decode cc pc = .ok (.putfield 35, 3)) (K : ∀ S, GM 30 eX X (P S) S (pc + 3) lv st) : GM 30 eX X (nm (sI S 3 7 v) P) S pc lv (.int v :: .ref (aX X 3) :: st) := r_put O (ci := 2) (k := 7) (ty := .boolean) rfl in_X2 tyX2_ok nmX2 (by decide) w_169 (by decide) eX_3 (eX_3.trans rfl) rfl (by decide +kernel) (by rcases hz with rfl | rfl <;> rfl) (by rcases hz with rfl | rfl <;> rfl) (Nat.le_of_ble_eq_true rfl) hd K
theorem p_X2_39 {P : MS → Option α} {v : Int32} (O : OK 30 X RX2 cc nL ret rm) (hd : decode cc pc = .ok (.putfield 39, 3)) (K : ∀ S, GM 30 eX X (P S) S (pc + 3) lv st) : GM 30 eX X (nm (sI S 3 8 v) P) S pc lv (.int v :: .ref (aX X 3) :: st) := r_put O (ci := 2) (k := 8) (ty := .int) rfl in_X2 tyX2_ok nmX2 (by decide) w_170 (by decide) eX_3 (eX_3.trans rfl) rfl (by decide +kernel) rfl rfl (Nat.le_of_ble_eq_true rfl) hd K
theorem p_X2_43 {P : MS → Option α} {v : Int32} (O : OK 30 X RX2 cc nL ret rm) (hd : decode cc pc = .ok (.putfield 43, 3)) (K : ∀ S, GM 30 eX X (P S) S (pc + 3) lv st) : GM 30 eX X (nm (sI S 3 9 v) P) S pc lv (.int v :: .ref (aX X 3) :: st) := r_put O (ci := 2) (k := 9) (ty := .int) rfl in_X2 tyX2_ok nmX2 (by decide) w_172 (by decide) eX_3 (eX_3.trans rfl) rfl (by decide +kernel) rfl rfl (Nat.le_of_ble_eq_true rfl) hd K
theorem p_X3_28 {P : MS → Option α} {v : Int32} (O : OK 30 X RX3 cc nL ret rm) (hd : decode cc pc = .ok (.putfield 28, 3)) (K : ∀ S, GM 30 eX X (P S) S (pc + 3) lv st) : GM 30 eX X (nm (sI S 2 3 v) P) S pc lv (.int v :: .ref (aX X 2) :: st) := r_put O (ci := 3) (k := 3) (ty := .int) rfl in_X3 tyX3_ok nmX3 (by decide) w_130 (by decide) eX_2 (eX_2.trans rfl) rfl (by decide +kernel) rfl rfl (Nat.le_of_ble_eq_true rfl) hd K
theorem p_X3_32 {P : MS → Option α} {v : Int32} (O : OK 30 X RX3 cc nL ret rm) (hd : decode cc pc = .ok (.putfield 32, 3)) (K : ∀ S, GM 30 eX X (P S) S (pc + 3) lv st) : GM 30 eX X (nm (sI S 2 4 v) P) S pc lv (.int v :: .ref (aX X 2) :: st) := r_put O (ci := 3) (k := 4) (ty := .int) rfl in_X3 tyX3_ok nmX3 (by decide) w_133 (by decide) eX_2 (eX_2.trans rfl) rfl (by decide +kernel) rfl rfl (Nat.le_of_ble_eq_true rfl) hd K
theorem p_X3_35 {P : MS → Option α} {v : Int32} (O : OK 30 X RX3 cc nL ret rm) (hd : decode cc pc = .ok (.putfield 35, 3)) (K : ∀ S, GM 30 eX X (P S) S (pc + 3) lv st) : GM 30 eX X (nm (sI S 2 5 v) P) S pc lv (.int v :: .ref (aX X 2) :: st) := r_put O (ci := 3) (k := 5) (ty := .int) rfl in_X3 tyX3_ok nmX3 (by decide) w_136 (by decide) eX_2 (eX_2.trans rfl) rfl (by decide +kernel) rfl rfl (Nat.le_of_ble_eq_true rfl) hd K
theorem p_X3_38 {P : MS → Option α} {v : Int32} (O : OK 30 X RX3 cc nL ret rm) (hd : decode cc pc = .ok (.putfield 38, 3)) (K : ∀ S, GM 30 eX X (P S) S (pc + 3) lv st) : GM 30 eX X (nm (sI S 2 6 v) P) S pc lv (.int v :: .ref (aX X 2) :: st) := r_put O (ci := 3) (k := 6) (ty := .int) rfl in_X3 tyX3_ok nmX3 (by decide) w_139 (by decide) eX_2 (eX_2.trans rfl) rfl (by decide +kernel) rfl rfl (Nat.le_of_ble_eq_true rfl) hd K
theorem p_X3_57 {P : MS → Option α} {v : Int32} (O : OK 30 X RX3 cc nL ret rm) {k : Nat} (hk : k < 6) (hd : decode cc pc = .ok (.putfield 57, 3)) (K : ∀ S, GM 30 eX X (P S) S (pc + 3) lv st) : GM 30 eX X (nm (sI S (24 + k) 0 v) P) S pc lv (.int v :: .ref (aX X (24 + k)) :: st) := r_putN O (ci := 4) (k := 0) (ty := .int) rfl in_X4 tyX4_ok nmX4 (by decide) w_103 (by omega) (eX_tnk hk) ((eX_tnk hk).trans rfl) rfl (by decide +kernel) rfl rfl (Nat.le_of_ble_eq_true rfl) hd K
theorem p_X3_60 {P : MS → Option α} {v : Int32} (O : OK 30 X RX3 cc nL ret rm) {k : Nat} (hk : k < 6) (hd : decode cc pc = .ok (.putfield 60, 3)) (K : ∀ S, GM 30 eX X (P S) S (pc + 3) lv st) : GM 30 eX X (nm (sI S (24 + k) 1 v) P) S pc lv (.int v :: .ref (aX X (24 + k)) :: st) := r_putN O (ci := 4) (k := 1) (ty := .int) rfl in_X4 tyX4_ok nmX4 (by decide) w_106 (by omega) (eX_tnk hk) ((eX_tnk hk).trans rfl) rfl (by decide +kernel) rfl rfl (Nat.le_of_ble_eq_true rfl) hd K
theorem p_X3_66 {P : MS → Option α} {v : Int32} (O : OK 30 X RX3 cc nL ret rm) {k : Nat} (hk : k < 6) (hd : decode cc pc = .ok (.putfield 66, 3)) (K : ∀ S, GM 30 eX X (P S) S (pc + 3) lv st) : GM 30 eX X (nm (sI S (24 + k) 2 v) P) S pc lv (.int v :: .ref (aX X (24 + k)) :: st) := r_putN O (ci := 4) (k := 2) (ty := .int) rfl in_X4 tyX4_ok nmX4 (by decide) w_110 (by omega) (eX_tnk hk) ((eX_tnk hk).trans rfl) rfl (by decide +kernel) rfl rfl (Nat.le_of_ble_eq_true rfl) hd K
theorem p_X3_69 {P : MS → Option α} {v : Int32} (O : OK 30 X RX3 cc nL ret rm) {k : Nat} (hk : k < 6) (hd : decode cc pc = .ok (.putfield 69, 3)) (K : ∀ S, GM 30 eX X (P S) S (pc + 3) lv st) : GM 30 eX X (nm (sI S (24 + k) 3 v) P) S pc lv (.int v :: .ref (aX X (24 + k)) :: st) := r_putN O (ci := 4) (k := 3) (ty := .int) rfl in_X4 tyX4_ok nmX4 (by decide) w_114 (by omega) (eX_tnk hk) ((eX_tnk hk).trans rfl) rfl (by decide +kernel) rfl rfl (Nat.le_of_ble_eq_true rfl) hd K
theorem p_X5_35 {P : MS → Option α} {v : Int32} (O : OK 30 X RX5 cc nL ret rm) (hd : decode cc pc = .ok (.putfield 35, 3)) (K : ∀ S, GM 30 eX X (P S) S (pc + 3) lv st) : GM 30 eX X (nm (sI S 0 4 v) P) S pc lv (.int v :: .ref (aX X 0) :: st) := r_put O (ci := 5) (k := 4) (ty := .int) rfl in_X5 tyX5_ok nmX5 (by decide) w_218 (by decide) eX_0 (eX_0.trans rfl) rfl (by decide +kernel) rfl rfl (Nat.le_of_ble_eq_true rfl) hd K
theorem p_X5_39 {P : MS → Option α} {v : Int32} (O : OK 30 X RX5 cc nL ret rm) (hd : decode cc pc = .ok (.putfield 39, 3)) (K : ∀ S, GM 30 eX X (P S) S (pc + 3) lv st) : GM 30 eX X (nm (sI S 0 5 v) P) S pc lv (.int v :: .ref (aX X 0) :: st) := r_put O (ci := 5) (k := 5) (ty := .int) rfl in_X5 tyX5_ok nmX5 (by decide) w_219 (by decide) eX_0 (eX_0.trans rfl) rfl (by decide +kernel) rfl rfl (Nat.le_of_ble_eq_true rfl) hd K
theorem p_X5_42 {P : MS → Option α} {v : Int32} (O : OK 30 X RX5 cc nL ret rm) (hd : decode cc pc = .ok (.putfield 42, 3)) (K : ∀ S, GM 30 eX X (P S) S (pc + 3) lv st) : GM 30 eX X (nm (sI S 0 6 v) P) S pc lv (.int v :: .ref (aX X 0) :: st) := r_put O (ci := 5) (k := 6) (ty := .int) rfl in_X5 tyX5_ok nmX5 (by decide) w_220 (by decide) eX_0 (eX_0.trans rfl) rfl (by decide +kernel) rfl rfl (Nat.le_of_ble_eq_true rfl) hd K
theorem p_X5_96 {P : MS → Option α} {v : Int32} (O : OK 30 X RX5 cc nL ret rm) {k : Nat} (hk : k < 6) (hd : decode cc pc = .ok (.putfield 96, 3)) (K : ∀ S, GM 30 eX X (P S) S (pc + 3) lv st) : GM 30 eX X (nm (sI S (24 + k) 3 v) P) S pc lv (.int v :: .ref (aX X (24 + k)) :: st) := r_putN O (ci := 4) (k := 3) (ty := .int) rfl in_X4 tyX4_ok nmX4 (by decide) w_115 (by omega) (eX_tnk hk) ((eX_tnk hk).trans rfl) rfl (by decide +kernel) rfl rfl (Nat.le_of_ble_eq_true rfl) hd K
theorem p_X5_103 {P : MS → Option α} {v : Int32} (O : OK 30 X RX5 cc nL ret rm) (hd : decode cc pc = .ok (.putfield 103, 3)) (K : ∀ S, GM 30 eX X (P S) S (pc + 3) lv st) : GM 30 eX X (nm (sI S 2 4 v) P) S pc lv (.int v :: .ref (aX X 2) :: st) := r_putN O (ci := 3) (k := 4) (ty := .int) rfl in_X3 tyX3_ok nmX3 (by decide) w_134 (by decide) eX_2 (eX_2.trans rfl) rfl (by decide +kernel) rfl rfl (Nat.le_of_ble_eq_true rfl) hd K
theorem p_X5_110 {P : MS → Option α} {v : Int32} (O : OK 30 X RX5 cc nL ret rm) (hd : decode cc pc = .ok (.putfield 110, 3)) (K : ∀ S, GM 30 eX X (P S) S (pc + 3) lv st) : GM 30 eX X (nm (sI S 2 5 v) P) S pc lv (.int v :: .ref (aX X 2) :: st) := r_putN O (ci := 3) (k := 5) (ty := .int) rfl in_X3 tyX3_ok nmX3 (by decide) w_137 (by decide) eX_2 (eX_2.trans rfl) rfl (by decide +kernel) rfl rfl (Nat.le_of_ble_eq_true rfl) hd K
theorem p_X5_123 {P : MS → Option α} {v : Int32} (O : OK 30 X RX5 cc nL ret rm) (hd : decode cc pc = .ok (.putfield 123, 3)) (K : ∀ S, GM 30 eX X (P S) S (pc + 3) lv st) : GM 30 eX X (nm (sI S 2 6 v) P) S pc lv (.int v :: .ref (aX X 2) :: st) := r_putN O (ci := 3) (k := 6) (ty := .int) rfl in_X3 tyX3_ok nmX3 (by decide) w_140 (by decide) eX_2 (eX_2.trans rfl) rfl (by decide +kernel) rfl rfl (Nat.le_of_ble_eq_true rfl) hd K
theorem p_X6_75 {P : MS → Option α} {v : Int32} (O : OK 22 X RX6 cc nL ret rm) (hd : decode cc pc = .ok (.putfield 75, 3)) (K : ∀ S, GM 22 eM X (P S) S (pc + 3) lv st) : GM 22 eM X (nm (sI S 0 0 v) P) S pc lv (.int v :: .ref (aX X 0) :: st) := r_put O (ci := 6) (k := 0) (ty := .int) rfl in_X6 tyX6_ok nmX6 (by decide) w_636 (by decide) eM_0 (eM_0.trans rfl) rfl (by decide +kernel) rfl rfl (Nat.le_of_ble_eq_true rfl) hd K
theorem p_X6_89 {P : MS → Option α} {v : Int32} (O : OK 22 X RX6 cc nL ret rm) (hd : decode cc pc = .ok (.putfield 89, 3)) (K : ∀ S, GM 22 eM X (P S) S (pc + 3) lv st) : GM 22 eM X (nm (sI S 0 6 v) P) S pc lv (.int v :: .ref (aX X 0) :: st) := r_put O (ci := 6) (k := 6) (ty := .int) rfl in_X6 tyX6_ok nmX6 (by decide) w_642 (by decide) eM_0 (eM_0.trans rfl) rfl (by decide +kernel) rfl rfl (Nat.le_of_ble_eq_true rfl) hd K
theorem p_X6_92 {P : MS → Option α} {v : Int32} (O : OK 22 X RX6 cc nL ret rm) (hd : decode cc pc = .ok (.putfield 92, 3)) (K : ∀ S, GM 22 eM X (P S) S (pc + 3) lv st) : GM 22 eM X (nm (sI S 0 15 v) P) S pc lv (.int v :: .ref (aX X 0) :: st) := r_put O (ci := 6) (k := 15) (ty := .int) rfl in_X6 tyX6_ok nmX6 (by decide) w_651 (by decide) eM_0 (eM_0.trans rfl) rfl (by decide +kernel) rfl rfl (Nat.le_of_ble_eq_true rfl) hd K
theorem p_X6_95 {P : MS → Option α} {v : Int32} (O : OK 22 X RX6 cc nL ret rm) (hd : decode cc pc = .ok (.putfield 95, 3)) (K : ∀ S, GM 22 eM X (P S) S (pc + 3) lv st) : GM 22 eM X (nm (sI S 0 16 v) P) S pc lv (.int v :: .ref (aX X 0) :: st) := r_put O (ci := 6) (k := 16) (ty := .int) rfl in_X6 tyX6_ok nmX6 (by decide) w_652 (by decide) eM_0 (eM_0.trans rfl) rfl (by decide +kernel) rfl rfl (Nat.le_of_ble_eq_true rfl) hd K
theorem p_X6_116 {P : MS → Option α} {v : Int32} (O : OK 22 X RX6 cc nL ret rm) (hd : decode cc pc = .ok (.putfield 116, 3)) (K : ∀ S, GM 22 eM X (P S) S (pc + 3) lv st) : GM 22 eM X (nm (sI S 0 17 v) P) S pc lv (.int v :: .ref (aX X 0) :: st) := r_put O (ci := 6) (k := 17) (ty := .int) rfl in_X6 tyX6_ok nmX6 (by decide) w_653 (by decide) eM_0 (eM_0.trans rfl) rfl (by decide +kernel) rfl rfl (Nat.le_of_ble_eq_true rfl) hd K
theorem p_X6_119 {P : MS → Option α} {v : Int32} (O : OK 22 X RX6 cc nL ret rm) (hd : decode cc pc = .ok (.putfield 119, 3)) (K : ∀ S, GM 22 eM X (P S) S (pc + 3) lv st) : GM 22 eM X (nm (sI S 0 18 v) P) S pc lv (.int v :: .ref (aX X 0) :: st) := r_put O (ci := 6) (k := 18) (ty := .int) rfl in_X6 tyX6_ok nmX6 (by decide) w_654 (by decide) eM_0 (eM_0.trans rfl) rfl (by decide +kernel) rfl rfl (Nat.le_of_ble_eq_true rfl) hd K
theorem p_X6_141 {P : MS → Option α} {v : Int32} (O : OK 22 X RX6 cc nL ret rm) (hd : decode cc pc = .ok (.putfield 141, 3)) (K : ∀ S, GM 22 eM X (P S) S (pc + 3) lv st) : GM 22 eM X (nm (sI S 0 14 v) P) S pc lv (.int v :: .ref (aX X 0) :: st) := r_put O (ci := 6) (k := 14) (ty := .int) rfl in_X6 tyX6_ok nmX6 (by decide) w_650 (by decide) eM_0 (eM_0.trans rfl) rfl (by decide +kernel) rfl rfl (Nat.le_of_ble_eq_true rfl) hd K
theorem p_X6_144 {P : MS → Option α} {v : Int32} (O : OK 22 X RX6 cc nL ret rm) (hd : decode cc pc = .ok (.putfield 144, 3)) (K : ∀ S, GM 22 eM X (P S) S (pc + 3) lv st) : GM 22 eM X (nm (sI S 0 13 v) P) S pc lv (.int v :: .ref (aX X 0) :: st) := r_put O (ci := 6) (k := 13) (ty := .int) rfl in_X6 tyX6_ok nmX6 (by decide) w_649 (by decide) eM_0 (eM_0.trans rfl) rfl (by decide +kernel) rfl rfl (Nat.le_of_ble_eq_true rfl) hd K
theorem p_X6_147 {P : MS → Option α} {v : Int32} (O : OK 22 X RX6 cc nL ret rm) (hd : decode cc pc = .ok (.putfield 147, 3)) (K : ∀ S, GM 22 eM X (P S) S (pc + 3) lv st) : GM 22 eM X (nm (sI S 0 34 v) P) S pc lv (.int v :: .ref (aX X 0) :: st) := r_put O (ci := 6) (k := 34) (ty := .int) rfl in_X6 tyX6_ok nmX6 (by decide) w_670 (by decide) eM_0 (eM_0.trans rfl) rfl (by decide +kernel) rfl rfl (Nat.le_of_ble_eq_true rfl) hd K
theorem p_X6_150 {P : MS → Option α} {v : Int32} (O : OK 22 X RX6 cc nL ret rm) (hz : v = 0 ∨ v = 1) (hd : decode cc pc = .ok (.putfield 150, 3)) (K : ∀ S, GM 22 eM X (P S) S (pc + 3) lv st) : GM 22 eM X (nm (sI S 0 28 v) P) S pc lv (.int v :: .ref (aX X 0) :: st) := r_put O (ci := 6) (k := 28) (ty := .boolean) rfl in_X6 tyX6_ok nmX6 (by decide) w_664 (by decide) eM_0 (eM_0.trans rfl) rfl (by decide +kernel) (by rcases hz with rfl | rfl <;> rfl) (by rcases hz with rfl | rfl <;> rfl) (Nat.le_of_ble_eq_true rfl) hd K
theorem p_X6_172 {P : MS → Option α} {v : Int32} (O : OK 22 X RX6 cc nL ret rm) (hd : decode cc pc = .ok (.putfield 172, 3)) (K : ∀ S, GM 22 eM X (P S) S (pc + 3) lv st) : GM 22 eM X (nm (sI S 0 25 v) P) S pc lv (.int v :: .ref (aX X 0) :: st) := r_put O (ci := 6) (k := 25) (ty := .int) rfl in_X6 tyX6_ok nmX6 (by decide) w_661 (by decide) eM_0 (eM_0.trans rfl) rfl (by decide +kernel) rfl rfl (Nat.le_of_ble_eq_true rfl) hd K
theorem p_X6_175 {P : MS → Option α} {v : Int32} (O : OK 22 X RX6 cc nL ret rm) (hd : decode cc pc = .ok (.putfield 175, 3)) (K : ∀ S, GM 22 eM X (P S) S (pc + 3) lv st) : GM 22 eM X (nm (sI S 0 26 v) P) S pc lv (.int v :: .ref (aX X 0) :: st) := r_put O (ci := 6) (k := 26) (ty := .int) rfl in_X6 tyX6_ok nmX6 (by decide) w_662 (by decide) eM_0 (eM_0.trans rfl) rfl (by decide +kernel) rfl rfl (Nat.le_of_ble_eq_true rfl) hd K
theorem p_X6_178 {P : MS → Option α} {v : Int32} (O : OK 22 X RX6 cc nL ret rm) (hd : decode cc pc = .ok (.putfield 178, 3)) (K : ∀ S, GM 22 eM X (P S) S (pc + 3) lv st) : GM 22 eM X (nm (sI S 0 27 v) P) S pc lv (.int v :: .ref (aX X 0) :: st) := r_put O (ci := 6) (k := 27) (ty := .int) rfl in_X6 tyX6_ok nmX6 (by decide) w_663 (by decide) eM_0 (eM_0.trans rfl) rfl (by decide +kernel) rfl rfl (Nat.le_of_ble_eq_true rfl) hd K
theorem p_X6_218 {P : MS → Option α} {v : Int32} (O : OK 22 X RX6 cc nL ret rm) (hd : decode cc pc = .ok (.putfield 218, 3)) (K : ∀ S, GM 22 eM X (P S) S (pc + 3) lv st) : GM 22 eM X (nm (sI S 0 32 v) P) S pc lv (.int v :: .ref (aX X 0) :: st) := r_put O (ci := 6) (k := 32) (ty := .int) rfl in_X6 tyX6_ok nmX6 (by decide) w_668 (by decide) eM_0 (eM_0.trans rfl) rfl (by decide +kernel) rfl rfl (Nat.le_of_ble_eq_true rfl) hd K
theorem p_X6_260 {P : MS → Option α} {v : Int32} (O : OK 22 X RX6 cc nL ret rm) (hd : decode cc pc = .ok (.putfield 260, 3)) (K : ∀ S, GM 22 eM X (P S) S (pc + 3) lv st) : GM 22 eM X (nm (sI S 0 1 v) P) S pc lv (.int v :: .ref (aX X 0) :: st) := r_put O (ci := 6) (k := 1) (ty := .int) rfl in_X6 tyX6_ok nmX6 (by decide) w_637 (by decide) eM_0 (eM_0.trans rfl) rfl (by decide +kernel) rfl rfl (Nat.le_of_ble_eq_true rfl) hd K
end FieldRows
end
section
/-! AUX: fewer locals, fuel, switches, the copy of a row, Arrays.fill, facts of the names -/
def FU : Nat := 800
section Aux
variable {α : Type} {N : Nat} {E : (Nat → ClassId) → EG} {X : GX α} {own : String} {cc : ByteArray} {nL : Nat} {ret : Option FieldType} {rm : Room} {P : Option α} {S : MS} {pc : Nat} {lv : List (Nat × Value)} {st : List Value}
theorem r_sub {lv' : List (Nat × Value)} (ks : List Nat) (hl : lv_pick lv ks = lv') (K : GM N E X P S pc lv' st) : GM N E X P S pc lv st := by
  obtain ⟨p, l, e, R, s, m, args, below, meth, c, Q, out, D, cy, ad⟩ := X
  exact fun H locs ls h1 h2 h3 h4 => K H locs ls h1 h2 h3 (lv_sub h4 ks hl)
theorem i32_ne {x : Int32} {n : Int} (v : Int32) (hn : v.toInt = n) (h : ¬ x = v) : ¬ x.toInt = n := fun e => h (Int32.toInt_inj.mp (e.trans hn.symm))
def cp {α : Type} (S : MS) (j1 j2 : Nat) (sp dp n : Int32) (P : MS → Option α) : Option α := if sp < 0 ∨ dp < 0 ∨ n < 0 ∨ 60 < sp.toNatClampNeg + n.toNatClampNeg ∨ 60 < dp.toNatClampNeg + n.toNatClampNeg then none else P (sR S j2 (va_cpy (S.1 j1) (S.1 j2) sp.toNatClampNeg dp.toNatClampNeg n.toNatClampNeg))
theorem r_copy {P : MS → Option α} (O : OK 30 X own cc nL ret rm) {k1 k2 idx : Nat} {sp dp n : Int32} (hk1 : k1 < 4) (hk2 : k2 < 4) (w1 : Cond.methodLink own idx arraycopyName ∈ lw_gd) (w2 : Cond.native arraycopyName ∈ lw_gd) (w3 : Cond.static arraycopyName ∈ lw_gd) (w4 : Cond.initialized "java/lang/System" ∈ lw_gd) (hlo : 1 ≤ rm.frames ∧ (st.map fun v => v.category).sum + (nativeFrameWords "java/lang/System" "arraycopy" 5 + 11) ≤ rm.locals) (hd : decode cc pc = .ok (.invokestatic idx, 3)) (K : ∀ S, GM 30 eX X (P S) S (pc + 3) lv st) : GM 30 eX X (cp S (20 + k1) (20 + k2) sp dp n P) S pc lv (.int n :: .int dp :: .ref (aX X (20 + k2)) :: .int sp :: .ref (aX X (20 + k1)) :: st) := by
  unfold cp
  refine r_ite (fun _ => r_none) (fun h => ?_)
  obtain ⟨p, l, e, R, s, m, args, below, meth, c, Q, out, D, cy, ad⟩ := X
  obtain ⟨hx, hb, hr, hml, hown, hts, hK, hI, hZ, hN, hlk, hR⟩ := O
  have q1 : ¬ sp < 0 := fun z => h (Or.inl z)
  have q2 : ¬ dp < 0 := fun z => h (Or.inr (Or.inl z))
  have q3 : ¬ n < 0 := fun z => h (Or.inr (Or.inr (Or.inl z)))
  have q4 : sp.toNatClampNeg + n.toNatClampNeg ≤ 60 := Nat.not_lt.mp fun z => h (Or.inr (Or.inr (Or.inr (Or.inl z))))
  have q5 : dp.toNatClampNeg + n.toNatClampNeg ≤ 60 := Nat.not_lt.mp fun z => h (Or.inr (Or.inr (Or.inr (Or.inr z))))
  have e1 : ∀ r, eX cy ad (20 + k1) r (S.2 (20 + k1)) = .inl (cy 0, 60, .inl r) := fun _ => eX_cel hk1
  have e2 : ∀ r, eX cy ad (20 + k2) r (S.2 (20 + k2)) = .inl (cy 0, 60, .inl r) := fun _ => eX_cel hk2
  exact fun H locs ls h1 h2 h3 h4 => va_copyi hx hb h4.1.symm hown (hts _ w1) (hts _ w2) (hts _ w3) (hts _ w4) hK h2 (wG_D hI) h3 (20 + k1) (20 + k2) 0 0 ((wG_at (by omega)).trans (congrArg (fun z => some (ad (20 + k1), z)) (e1 _))) ((wG_at (by omega)).trans (congrArg (fun z => some (ad (20 + k2), z)) (e2 _))) rfl rfl rfl q1 q2 q3 q4 q5 (fun _ _ => rfl) (by rw [hR]; exact hlo.1) (by rw [hR]; exact hlo.2) hd (fun H1 locs1 g1 _ g3 => K _ H1 locs1 ls h1 (by rw [← wG_setR (E := eX cy) (ad := ad) (e2 _)]; exact g1) g3 h4)
end Aux
theorem hy_J6_bitCount_0f7a4 : yJ6_bitCount_0f7a4.cls ≠ "java/lang/invoke/MethodHandle" ∧ yJ6_bitCount_0f7a4.cls ≠ "java/lang/invoke/VarHandle" ∧ (parseMethodDescriptor yJ6_bitCount_0f7a4.desc).map (fun d => d.parameters.length) = some 1 := by decide +kernel
theorem hy_J9_abs_0f7a4 : yJ9_abs_0f7a4.cls ≠ "java/lang/invoke/MethodHandle" ∧ yJ9_abs_0f7a4.cls ≠ "java/lang/invoke/VarHandle" ∧ (parseMethodDescriptor yJ9_abs_0f7a4.desc).map (fun d => d.parameters.length) = some 1 := by decide +kernel
theorem hy_J9_max_7cf53 : yJ9_max_7cf53.cls ≠ "java/lang/invoke/MethodHandle" ∧ yJ9_max_7cf53.cls ≠ "java/lang/invoke/VarHandle" ∧ (parseMethodDescriptor yJ9_max_7cf53.desc).map (fun d => d.parameters.length) = some 2 := by decide +kernel
theorem hy_J9_min_7cf53 : yJ9_min_7cf53.cls ≠ "java/lang/invoke/MethodHandle" ∧ yJ9_min_7cf53.cls ≠ "java/lang/invoke/VarHandle" ∧ (parseMethodDescriptor yJ9_min_7cf53.desc).map (fun d => d.parameters.length) = some 2 := by decide +kernel
theorem hy_X0_bending : yX0_bending.cls ≠ "java/lang/invoke/MethodHandle" ∧ yX0_bending.cls ≠ "java/lang/invoke/VarHandle" ∧ (parseMethodDescriptor yX0_bending.desc).map (fun d => d.parameters.length) = some 0 := by decide +kernel
theorem hy_X0_bounded : yX0_bounded.cls ≠ "java/lang/invoke/MethodHandle" ∧ yX0_bounded.cls ≠ "java/lang/invoke/VarHandle" ∧ (parseMethodDescriptor yX0_bounded.desc).map (fun d => d.parameters.length) = some 1 := by decide +kernel
theorem hy_X0_isWithin : yX0_isWithin.cls ≠ "java/lang/invoke/MethodHandle" ∧ yX0_isWithin.cls ≠ "java/lang/invoke/VarHandle" ∧ (parseMethodDescriptor yX0_isWithin.desc).map (fun d => d.parameters.length) = some 2 := by decide +kernel
theorem hy_X0_momentOf : yX0_momentOf.cls ≠ "java/lang/invoke/MethodHandle" ∧ yX0_momentOf.cls ≠ "java/lang/invoke/VarHandle" ∧ (parseMethodDescriptor yX0_momentOf.desc).map (fun d => d.parameters.length) = some 1 := by decide +kernel
theorem hy_X1_faultAs : yX1_faultAs.cls ≠ "java/lang/invoke/MethodHandle" ∧ yX1_faultAs.cls ≠ "java/lang/invoke/VarHandle" ∧ (parseMethodDescriptor yX1_faultAs.desc).map (fun d => d.parameters.length) = some 1 := by decide +kernel
theorem hy_X1_hasCells : yX1_hasCells.cls ≠ "java/lang/invoke/MethodHandle" ∧ yX1_hasCells.cls ≠ "java/lang/invoke/VarHandle" ∧ (parseMethodDescriptor yX1_hasCells.desc).map (fun d => d.parameters.length) = some 2 := by decide +kernel
theorem hy_X1_isNothing : yX1_isNothing.cls ≠ "java/lang/invoke/MethodHandle" ∧ yX1_isNothing.cls ≠ "java/lang/invoke/VarHandle" ∧ (parseMethodDescriptor yX1_isNothing.desc).map (fun d => d.parameters.length) = some 0 := by decide +kernel
theorem hy_X2_findEnd : yX2_findEnd.cls ≠ "java/lang/invoke/MethodHandle" ∧ yX2_findEnd.cls ≠ "java/lang/invoke/VarHandle" ∧ (parseMethodDescriptor yX2_findEnd.desc).map (fun d => d.parameters.length) = some 1 := by decide +kernel
theorem hy_X2_planLength : yX2_planLength.cls ≠ "java/lang/invoke/MethodHandle" ∧ yX2_planLength.cls ≠ "java/lang/invoke/VarHandle" ∧ (parseMethodDescriptor yX2_planLength.desc).map (fun d => d.parameters.length) = some 0 := by decide +kernel
theorem hy_X2_planTank : yX2_planTank.cls ≠ "java/lang/invoke/MethodHandle" ∧ yX2_planTank.cls ≠ "java/lang/invoke/VarHandle" ∧ (parseMethodDescriptor yX2_planTank.desc).map (fun d => d.parameters.length) = some 1 := by decide +kernel
theorem hy_X2_shortestPlans : yX2_shortestPlans.cls ≠ "java/lang/invoke/MethodHandle" ∧ yX2_shortestPlans.cls ≠ "java/lang/invoke/VarHandle" ∧ (parseMethodDescriptor yX2_shortestPlans.desc).map (fun d => d.parameters.length) = some 1 := by decide +kernel
theorem hy_X2_worstOfPlan : yX2_worstOfPlan.cls ≠ "java/lang/invoke/MethodHandle" ∧ yX2_worstOfPlan.cls ≠ "java/lang/invoke/VarHandle" ∧ (parseMethodDescriptor yX2_worstOfPlan.desc).map (fun d => d.parameters.length) = some 2 := by decide +kernel
theorem hy_X3_canPump : yX3_canPump.cls ≠ "java/lang/invoke/MethodHandle" ∧ yX3_canPump.cls ≠ "java/lang/invoke/VarHandle" ∧ (parseMethodDescriptor yX3_canPump.desc).map (fun d => d.parameters.length) = some 2 := by decide +kernel
theorem hy_X3_fullSet : yX3_fullSet.cls ≠ "java/lang/invoke/MethodHandle" ∧ yX3_fullSet.cls ≠ "java/lang/invoke/VarHandle" ∧ (parseMethodDescriptor yX3_fullSet.desc).map (fun d => d.parameters.length) = some 1 := by decide +kernel
theorem hy_X3_isChanged : yX3_isChanged.cls ≠ "java/lang/invoke/MethodHandle" ∧ yX3_isChanged.cls ≠ "java/lang/invoke/VarHandle" ∧ (parseMethodDescriptor yX3_isChanged.desc).map (fun d => d.parameters.length) = some 1 := by decide +kernel
theorem hy_X3_isSafe : yX3_isSafe.cls ≠ "java/lang/invoke/MethodHandle" ∧ yX3_isSafe.cls ≠ "java/lang/invoke/VarHandle" ∧ (parseMethodDescriptor yX3_isSafe.desc).map (fun d => d.parameters.length) = some 1 := by decide +kernel
theorem hy_X3_isSafeHalfway : yX3_isSafeHalfway.cls ≠ "java/lang/invoke/MethodHandle" ∧ yX3_isSafeHalfway.cls ≠ "java/lang/invoke/VarHandle" ∧ (parseMethodDescriptor yX3_isSafeHalfway.desc).map (fun d => d.parameters.length) = some 2 := by decide +kernel
theorem hy_X3_safeLoads : yX3_safeLoads.cls ≠ "java/lang/invoke/MethodHandle" ∧ yX3_safeLoads.cls ≠ "java/lang/invoke/VarHandle" ∧ (parseMethodDescriptor yX3_safeLoads.desc).map (fun d => d.parameters.length) = some 0 := by decide +kernel
theorem hy_X3_trimWith : yX3_trimWith.cls ≠ "java/lang/invoke/MethodHandle" ∧ yX3_trimWith.cls ≠ "java/lang/invoke/VarHandle" ∧ (parseMethodDescriptor yX3_trimWith.desc).map (fun d => d.parameters.length) = some 2 := by decide +kernel
theorem hy_X4_weight : yX4_weight.cls ≠ "java/lang/invoke/MethodHandle" ∧ yX4_weight.cls ≠ "java/lang/invoke/VarHandle" ∧ (parseMethodDescriptor yX4_weight.desc).map (fun d => d.parameters.length) = some 0 := by decide +kernel
theorem hy_X5_areTankNumbers : yX5_areTankNumbers.cls ≠ "java/lang/invoke/MethodHandle" ∧ yX5_areTankNumbers.cls ≠ "java/lang/invoke/VarHandle" ∧ (parseMethodDescriptor yX5_areTankNumbers.desc).map (fun d => d.parameters.length) = some 3 := by decide +kernel
theorem hy_X5_as : yX5_as.cls ≠ "java/lang/invoke/MethodHandle" ∧ yX5_as.cls ≠ "java/lang/invoke/VarHandle" ∧ (parseMethodDescriptor yX5_as.desc).map (fun d => d.parameters.length) = some 2 := by decide +kernel
theorem hy_X5_back : yX5_back.cls ≠ "java/lang/invoke/MethodHandle" ∧ yX5_back.cls ≠ "java/lang/invoke/VarHandle" ∧ (parseMethodDescriptor yX5_back.desc).map (fun d => d.parameters.length) = some 1 := by decide +kernel
theorem hy_X5_bound : yX5_bound.cls ≠ "java/lang/invoke/MethodHandle" ∧ yX5_bound.cls ≠ "java/lang/invoke/VarHandle" ∧ (parseMethodDescriptor yX5_bound.desc).map (fun d => d.parameters.length) = some 2 := by decide +kernel
theorem hy_X5_cell : yX5_cell.cls ≠ "java/lang/invoke/MethodHandle" ∧ yX5_cell.cls ≠ "java/lang/invoke/VarHandle" ∧ (parseMethodDescriptor yX5_cell.desc).map (fun d => d.parameters.length) = some 3 := by decide +kernel
theorem hy_X5_copy : yX5_copy.cls ≠ "java/lang/invoke/MethodHandle" ∧ yX5_copy.cls ≠ "java/lang/invoke/VarHandle" ∧ (parseMethodDescriptor yX5_copy.desc).map (fun d => d.parameters.length) = some 5 := by decide +kernel
theorem hy_X5_day : yX5_day.cls ≠ "java/lang/invoke/MethodHandle" ∧ yX5_day.cls ≠ "java/lang/invoke/VarHandle" ∧ (parseMethodDescriptor yX5_day.desc).map (fun d => d.parameters.length) = some 5 := by decide +kernel
theorem hy_X5_doubleTelling : yX5_doubleTelling.cls ≠ "java/lang/invoke/MethodHandle" ∧ yX5_doubleTelling.cls ≠ "java/lang/invoke/VarHandle" ∧ (parseMethodDescriptor yX5_doubleTelling.desc).map (fun d => d.parameters.length) = some 1 := by decide +kernel
theorem hy_X5_due : yX5_due.cls ≠ "java/lang/invoke/MethodHandle" ∧ yX5_due.cls ≠ "java/lang/invoke/VarHandle" ∧ (parseMethodDescriptor yX5_due.desc).map (fun d => d.parameters.length) = some 1 := by decide +kernel
theorem hy_X5_fail : yX5_fail.cls ≠ "java/lang/invoke/MethodHandle" ∧ yX5_fail.cls ≠ "java/lang/invoke/VarHandle" ∧ (parseMethodDescriptor yX5_fail.desc).map (fun d => d.parameters.length) = some 1 := by decide +kernel
theorem hy_X5_fault : yX5_fault.cls ≠ "java/lang/invoke/MethodHandle" ∧ yX5_fault.cls ≠ "java/lang/invoke/VarHandle" ∧ (parseMethodDescriptor yX5_fault.desc).map (fun d => d.parameters.length) = some 0 := by decide +kernel
theorem hy_X5_faulted : yX5_faulted.cls ≠ "java/lang/invoke/MethodHandle" ∧ yX5_faulted.cls ≠ "java/lang/invoke/VarHandle" ∧ (parseMethodDescriptor yX5_faulted.desc).map (fun d => d.parameters.length) = some 1 := by decide +kernel
theorem hy_X5_firstFault : yX5_firstFault.cls ≠ "java/lang/invoke/MethodHandle" ∧ yX5_firstFault.cls ≠ "java/lang/invoke/VarHandle" ∧ (parseMethodDescriptor yX5_firstFault.desc).map (fun d => d.parameters.length) = some 3 := by decide +kernel
theorem hy_X5_firstWrong : yX5_firstWrong.cls ≠ "java/lang/invoke/MethodHandle" ∧ yX5_firstWrong.cls ≠ "java/lang/invoke/VarHandle" ∧ (parseMethodDescriptor yX5_firstWrong.desc).map (fun d => d.parameters.length) = some 3 := by decide +kernel
theorem hy_X5_goesOn : yX5_goesOn.cls ≠ "java/lang/invoke/MethodHandle" ∧ yX5_goesOn.cls ≠ "java/lang/invoke/VarHandle" ∧ (parseMethodDescriptor yX5_goesOn.desc).map (fun d => d.parameters.length) = some 2 := by decide +kernel
theorem hy_X5_hasNoShip : yX5_hasNoShip.cls ≠ "java/lang/invoke/MethodHandle" ∧ yX5_hasNoShip.cls ≠ "java/lang/invoke/VarHandle" ∧ (parseMethodDescriptor yX5_hasNoShip.desc).map (fun d => d.parameters.length) = some 0 := by decide +kernel
theorem hy_X5_holds : yX5_holds.cls ≠ "java/lang/invoke/MethodHandle" ∧ yX5_holds.cls ≠ "java/lang/invoke/VarHandle" ∧ (parseMethodDescriptor yX5_holds.desc).map (fun d => d.parameters.length) = some 2 := by decide +kernel
theorem hy_X5_isAskedOfDay : yX5_isAskedOfDay.cls ≠ "java/lang/invoke/MethodHandle" ∧ yX5_isAskedOfDay.cls ≠ "java/lang/invoke/VarHandle" ∧ (parseMethodDescriptor yX5_isAskedOfDay.desc).map (fun d => d.parameters.length) = some 1 := by decide +kernel
theorem hy_X5_isLane : yX5_isLane.cls ≠ "java/lang/invoke/MethodHandle" ∧ yX5_isLane.cls ≠ "java/lang/invoke/VarHandle" ∧ (parseMethodDescriptor yX5_isLane.desc).map (fun d => d.parameters.length) = some 1 := by decide +kernel
theorem hy_X5_isSheet : yX5_isSheet.cls ≠ "java/lang/invoke/MethodHandle" ∧ yX5_isSheet.cls ≠ "java/lang/invoke/VarHandle" ∧ (parseMethodDescriptor yX5_isSheet.desc).map (fun d => d.parameters.length) = some 1 := by decide +kernel
theorem hy_X5_isTank : yX5_isTank.cls ≠ "java/lang/invoke/MethodHandle" ∧ yX5_isTank.cls ≠ "java/lang/invoke/VarHandle" ∧ (parseMethodDescriptor yX5_isTank.desc).map (fun d => d.parameters.length) = some 1 := by decide +kernel
theorem hy_X5_kindOf : yX5_kindOf.cls ≠ "java/lang/invoke/MethodHandle" ∧ yX5_kindOf.cls ≠ "java/lang/invoke/VarHandle" ∧ (parseMethodDescriptor yX5_kindOf.desc).map (fun d => d.parameters.length) = some 1 := by decide +kernel
theorem hy_X5_kinds : yX5_kinds.cls ≠ "java/lang/invoke/MethodHandle" ∧ yX5_kinds.cls ≠ "java/lang/invoke/VarHandle" ∧ (parseMethodDescriptor yX5_kinds.desc).map (fun d => d.parameters.length) = some 1 := by decide +kernel
theorem hy_X5_lentSounding : yX5_lentSounding.cls ≠ "java/lang/invoke/MethodHandle" ∧ yX5_lentSounding.cls ≠ "java/lang/invoke/VarHandle" ∧ (parseMethodDescriptor yX5_lentSounding.desc).map (fun d => d.parameters.length) = some 1 := by decide +kernel
theorem hy_X5_lose : yX5_lose.cls ≠ "java/lang/invoke/MethodHandle" ∧ yX5_lose.cls ≠ "java/lang/invoke/VarHandle" ∧ (parseMethodDescriptor yX5_lose.desc).map (fun d => d.parameters.length) = some 1 := by decide +kernel
theorem hy_X5_many : yX5_many.cls ≠ "java/lang/invoke/MethodHandle" ∧ yX5_many.cls ≠ "java/lang/invoke/VarHandle" ∧ (parseMethodDescriptor yX5_many.desc).map (fun d => d.parameters.length) = some 1 := by decide +kernel
theorem hy_X5_mass : yX5_mass.cls ≠ "java/lang/invoke/MethodHandle" ∧ yX5_mass.cls ≠ "java/lang/invoke/VarHandle" ∧ (parseMethodDescriptor yX5_mass.desc).map (fun d => d.parameters.length) = some 2 := by decide +kernel
theorem hy_X5_masses : yX5_masses.cls ≠ "java/lang/invoke/MethodHandle" ∧ yX5_masses.cls ≠ "java/lang/invoke/VarHandle" ∧ (parseMethodDescriptor yX5_masses.desc).map (fun d => d.parameters.length) = some 1 := by decide +kernel
theorem hy_X5_measure : yX5_measure.cls ≠ "java/lang/invoke/MethodHandle" ∧ yX5_measure.cls ≠ "java/lang/invoke/VarHandle" ∧ (parseMethodDescriptor yX5_measure.desc).map (fun d => d.parameters.length) = some 1 := by decide +kernel
theorem hy_X5_moment : yX5_moment.cls ≠ "java/lang/invoke/MethodHandle" ∧ yX5_moment.cls ≠ "java/lang/invoke/VarHandle" ∧ (parseMethodDescriptor yX5_moment.desc).map (fun d => d.parameters.length) = some 1 := by decide +kernel
theorem hy_X5_newWaters : yX5_newWaters.cls ≠ "java/lang/invoke/MethodHandle" ∧ yX5_newWaters.cls ≠ "java/lang/invoke/VarHandle" ∧ (parseMethodDescriptor yX5_newWaters.desc).map (fun d => d.parameters.length) = some 1 := by decide +kernel
theorem hy_X5_odds : yX5_odds.cls ≠ "java/lang/invoke/MethodHandle" ∧ yX5_odds.cls ≠ "java/lang/invoke/VarHandle" ∧ (parseMethodDescriptor yX5_odds.desc).map (fun d => d.parameters.length) = some 1 := by decide +kernel
theorem hy_X5_ofTank : yX5_ofTank.cls ≠ "java/lang/invoke/MethodHandle" ∧ yX5_ofTank.cls ≠ "java/lang/invoke/VarHandle" ∧ (parseMethodDescriptor yX5_ofTank.desc).map (fun d => d.parameters.length) = some 2 := by decide +kernel
theorem hy_X5_ofWaters : yX5_ofWaters.cls ≠ "java/lang/invoke/MethodHandle" ∧ yX5_ofWaters.cls ≠ "java/lang/invoke/VarHandle" ∧ (parseMethodDescriptor yX5_ofWaters.desc).map (fun d => d.parameters.length) = some 2 := by decide +kernel
theorem hy_X5_oneIf : yX5_oneIf.cls ≠ "java/lang/invoke/MethodHandle" ∧ yX5_oneIf.cls ≠ "java/lang/invoke/VarHandle" ∧ (parseMethodDescriptor yX5_oneIf.desc).map (fun d => d.parameters.length) = some 1 := by decide +kernel
theorem hy_X5_plainTelling : yX5_plainTelling.cls ≠ "java/lang/invoke/MethodHandle" ∧ yX5_plainTelling.cls ≠ "java/lang/invoke/VarHandle" ∧ (parseMethodDescriptor yX5_plainTelling.desc).map (fun d => d.parameters.length) = some 1 := by decide +kernel
theorem hy_X5_plan : yX5_plan.cls ≠ "java/lang/invoke/MethodHandle" ∧ yX5_plan.cls ≠ "java/lang/invoke/VarHandle" ∧ (parseMethodDescriptor yX5_plan.desc).map (fun d => d.parameters.length) = some 1 := by decide +kernel
theorem hy_X5_plans : yX5_plans.cls ≠ "java/lang/invoke/MethodHandle" ∧ yX5_plans.cls ≠ "java/lang/invoke/VarHandle" ∧ (parseMethodDescriptor yX5_plans.desc).map (fun d => d.parameters.length) = some 0 := by decide +kernel
theorem hy_X5_pump : yX5_pump.cls ≠ "java/lang/invoke/MethodHandle" ∧ yX5_pump.cls ≠ "java/lang/invoke/VarHandle" ∧ (parseMethodDescriptor yX5_pump.desc).map (fun d => d.parameters.length) = some 1 := by decide +kernel
theorem hy_X5_pumped : yX5_pumped.cls ≠ "java/lang/invoke/MethodHandle" ∧ yX5_pumped.cls ≠ "java/lang/invoke/VarHandle" ∧ (parseMethodDescriptor yX5_pumped.desc).map (fun d => d.parameters.length) = some 2 := by decide +kernel
theorem hy_X5_put : yX5_put.cls ≠ "java/lang/invoke/MethodHandle" ∧ yX5_put.cls ≠ "java/lang/invoke/VarHandle" ∧ (parseMethodDescriptor yX5_put.desc).map (fun d => d.parameters.length) = some 3 := by decide +kernel
theorem hy_X5_reading : yX5_reading.cls ≠ "java/lang/invoke/MethodHandle" ∧ yX5_reading.cls ≠ "java/lang/invoke/VarHandle" ∧ (parseMethodDescriptor yX5_reading.desc).map (fun d => d.parameters.length) = some 1 := by decide +kernel
theorem hy_X5_readingsHoldWith : yX5_readingsHoldWith.cls ≠ "java/lang/invoke/MethodHandle" ∧ yX5_readingsHoldWith.cls ≠ "java/lang/invoke/VarHandle" ∧ (parseMethodDescriptor yX5_readingsHoldWith.desc).map (fun d => d.parameters.length) = some 2 := by decide +kernel
theorem hy_X5_sheet : yX5_sheet.cls ≠ "java/lang/invoke/MethodHandle" ∧ yX5_sheet.cls ≠ "java/lang/invoke/VarHandle" ∧ (parseMethodDescriptor yX5_sheet.desc).map (fun d => d.parameters.length) = some 3 := by decide +kernel
theorem hy_X5_ship : yX5_ship.cls ≠ "java/lang/invoke/MethodHandle" ∧ yX5_ship.cls ≠ "java/lang/invoke/VarHandle" ∧ (parseMethodDescriptor yX5_ship.desc).map (fun d => d.parameters.length) = some 4 := by decide +kernel
theorem hy_X5_sideOf : yX5_sideOf.cls ≠ "java/lang/invoke/MethodHandle" ∧ yX5_sideOf.cls ≠ "java/lang/invoke/VarHandle" ∧ (parseMethodDescriptor yX5_sideOf.desc).map (fun d => d.parameters.length) = some 1 := by decide +kernel
theorem hy_X5_sound : yX5_sound.cls ≠ "java/lang/invoke/MethodHandle" ∧ yX5_sound.cls ≠ "java/lang/invoke/VarHandle" ∧ (parseMethodDescriptor yX5_sound.desc).map (fun d => d.parameters.length) = some 1 := by decide +kernel
theorem hy_X5_soundingOfDouble : yX5_soundingOfDouble.cls ≠ "java/lang/invoke/MethodHandle" ∧ yX5_soundingOfDouble.cls ≠ "java/lang/invoke/VarHandle" ∧ (parseMethodDescriptor yX5_soundingOfDouble.desc).map (fun d => d.parameters.length) = some 1 := by decide +kernel
theorem hy_X5_states : yX5_states.cls ≠ "java/lang/invoke/MethodHandle" ∧ yX5_states.cls ≠ "java/lang/invoke/VarHandle" ∧ (parseMethodDescriptor yX5_states.desc).map (fun d => d.parameters.length) = some 0 := by decide +kernel
theorem hy_X5_tell : yX5_tell.cls ≠ "java/lang/invoke/MethodHandle" ∧ yX5_tell.cls ≠ "java/lang/invoke/VarHandle" ∧ (parseMethodDescriptor yX5_tell.desc).map (fun d => d.parameters.length) = some 1 := by decide +kernel
theorem hy_X5_trace : yX5_trace.cls ≠ "java/lang/invoke/MethodHandle" ∧ yX5_trace.cls ≠ "java/lang/invoke/VarHandle" ∧ (parseMethodDescriptor yX5_trace.desc).map (fun d => d.parameters.length) = some 0 := by decide +kernel
theorem hy_X5_waterIn : yX5_waterIn.cls ≠ "java/lang/invoke/MethodHandle" ∧ yX5_waterIn.cls ≠ "java/lang/invoke/VarHandle" ∧ (parseMethodDescriptor yX5_waterIn.desc).map (fun d => d.parameters.length) = some 2 := by decide +kernel
theorem hy_X5_watersBehind : yX5_watersBehind.cls ≠ "java/lang/invoke/MethodHandle" ∧ yX5_watersBehind.cls ≠ "java/lang/invoke/VarHandle" ∧ (parseMethodDescriptor yX5_watersBehind.desc).map (fun d => d.parameters.length) = some 3 := by decide +kernel
theorem hy_X5_weightOf : yX5_weightOf.cls ≠ "java/lang/invoke/MethodHandle" ∧ yX5_weightOf.cls ≠ "java/lang/invoke/VarHandle" ∧ (parseMethodDescriptor yX5_weightOf.desc).map (fun d => d.parameters.length) = some 2 := by decide +kernel
theorem hy_X5_wideTelling : yX5_wideTelling.cls ≠ "java/lang/invoke/MethodHandle" ∧ yX5_wideTelling.cls ≠ "java/lang/invoke/VarHandle" ∧ (parseMethodDescriptor yX5_wideTelling.desc).map (fun d => d.parameters.length) = some 1 := by decide +kernel
theorem hy_X5_worst : yX5_worst.cls ≠ "java/lang/invoke/MethodHandle" ∧ yX5_worst.cls ≠ "java/lang/invoke/VarHandle" ∧ (parseMethodDescriptor yX5_worst.desc).map (fun d => d.parameters.length) = some 1 := by decide +kernel
theorem hy_X6_against : yX6_against.cls ≠ "java/lang/invoke/MethodHandle" ∧ yX6_against.cls ≠ "java/lang/invoke/VarHandle" ∧ (parseMethodDescriptor yX6_against.desc).map (fun d => d.parameters.length) = some 4 := by decide +kernel
theorem hy_X6_areSo : yX6_areSo.cls ≠ "java/lang/invoke/MethodHandle" ∧ yX6_areSo.cls ≠ "java/lang/invoke/VarHandle" ∧ (parseMethodDescriptor yX6_areSo.desc).map (fun d => d.parameters.length) = some 0 := by decide +kernel
theorem hy_X6_as : yX6_as.cls ≠ "java/lang/invoke/MethodHandle" ∧ yX6_as.cls ≠ "java/lang/invoke/VarHandle" ∧ (parseMethodDescriptor yX6_as.desc).map (fun d => d.parameters.length) = some 2 := by decide +kernel
theorem hy_X6_back : yX6_back.cls ≠ "java/lang/invoke/MethodHandle" ∧ yX6_back.cls ≠ "java/lang/invoke/VarHandle" ∧ (parseMethodDescriptor yX6_back.desc).map (fun d => d.parameters.length) = some 1 := by decide +kernel
theorem hy_X6_bound : yX6_bound.cls ≠ "java/lang/invoke/MethodHandle" ∧ yX6_bound.cls ≠ "java/lang/invoke/VarHandle" ∧ (parseMethodDescriptor yX6_bound.desc).map (fun d => d.parameters.length) = some 2 := by decide +kernel
theorem hy_X6_canPump : yX6_canPump.cls ≠ "java/lang/invoke/MethodHandle" ∧ yX6_canPump.cls ≠ "java/lang/invoke/VarHandle" ∧ (parseMethodDescriptor yX6_canPump.desc).map (fun d => d.parameters.length) = some 2 := by decide +kernel
theorem hy_X6_cell : yX6_cell.cls ≠ "java/lang/invoke/MethodHandle" ∧ yX6_cell.cls ≠ "java/lang/invoke/VarHandle" ∧ (parseMethodDescriptor yX6_cell.desc).map (fun d => d.parameters.length) = some 3 := by decide +kernel
theorem hy_X6_code : yX6_code.cls ≠ "java/lang/invoke/MethodHandle" ∧ yX6_code.cls ≠ "java/lang/invoke/VarHandle" ∧ (parseMethodDescriptor yX6_code.desc).map (fun d => d.parameters.length) = some 1 := by decide +kernel
theorem hy_X6_copy : yX6_copy.cls ≠ "java/lang/invoke/MethodHandle" ∧ yX6_copy.cls ≠ "java/lang/invoke/VarHandle" ∧ (parseMethodDescriptor yX6_copy.desc).map (fun d => d.parameters.length) = some 5 := by decide +kernel
theorem hy_X6_countOf : yX6_countOf.cls ≠ "java/lang/invoke/MethodHandle" ∧ yX6_countOf.cls ≠ "java/lang/invoke/VarHandle" ∧ (parseMethodDescriptor yX6_countOf.desc).map (fun d => d.parameters.length) = some 2 := by decide +kernel
theorem hy_X6_day : yX6_day.cls ≠ "java/lang/invoke/MethodHandle" ∧ yX6_day.cls ≠ "java/lang/invoke/VarHandle" ∧ (parseMethodDescriptor yX6_day.desc).map (fun d => d.parameters.length) = some 5 := by decide +kernel
theorem hy_X6_digitBy : yX6_digitBy.cls ≠ "java/lang/invoke/MethodHandle" ∧ yX6_digitBy.cls ≠ "java/lang/invoke/VarHandle" ∧ (parseMethodDescriptor yX6_digitBy.desc).map (fun d => d.parameters.length) = some 3 := by decide +kernel
theorem hy_X6_due : yX6_due.cls ≠ "java/lang/invoke/MethodHandle" ∧ yX6_due.cls ≠ "java/lang/invoke/VarHandle" ∧ (parseMethodDescriptor yX6_due.desc).map (fun d => d.parameters.length) = some 1 := by decide +kernel
theorem hy_X6_fail : yX6_fail.cls ≠ "java/lang/invoke/MethodHandle" ∧ yX6_fail.cls ≠ "java/lang/invoke/VarHandle" ∧ (parseMethodDescriptor yX6_fail.desc).map (fun d => d.parameters.length) = some 1 := by decide +kernel
theorem hy_X6_fails : yX6_fails.cls ≠ "java/lang/invoke/MethodHandle" ∧ yX6_fails.cls ≠ "java/lang/invoke/VarHandle" ∧ (parseMethodDescriptor yX6_fails.desc).map (fun d => d.parameters.length) = some 1 := by decide +kernel
theorem hy_X6_fault : yX6_fault.cls ≠ "java/lang/invoke/MethodHandle" ∧ yX6_fault.cls ≠ "java/lang/invoke/VarHandle" ∧ (parseMethodDescriptor yX6_fault.desc).map (fun d => d.parameters.length) = some 0 := by decide +kernel
theorem hy_X6_findNext : yX6_findNext.cls ≠ "java/lang/invoke/MethodHandle" ∧ yX6_findNext.cls ≠ "java/lang/invoke/VarHandle" ∧ (parseMethodDescriptor yX6_findNext.desc).map (fun d => d.parameters.length) = some 1 := by decide +kernel
theorem hy_X6_firstOf : yX6_firstOf.cls ≠ "java/lang/invoke/MethodHandle" ∧ yX6_firstOf.cls ≠ "java/lang/invoke/VarHandle" ∧ (parseMethodDescriptor yX6_firstOf.desc).map (fun d => d.parameters.length) = some 1 := by decide +kernel
theorem hy_X6_goDay : yX6_goDay.cls ≠ "java/lang/invoke/MethodHandle" ∧ yX6_goDay.cls ≠ "java/lang/invoke/VarHandle" ∧ (parseMethodDescriptor yX6_goDay.desc).map (fun d => d.parameters.length) = some 2 := by decide +kernel
theorem hy_X6_inLeastTerms : yX6_inLeastTerms.cls ≠ "java/lang/invoke/MethodHandle" ∧ yX6_inLeastTerms.cls ≠ "java/lang/invoke/VarHandle" ∧ (parseMethodDescriptor yX6_inLeastTerms.desc).map (fun d => d.parameters.length) = some 3 := by decide +kernel
theorem hy_X6_isEnd : yX6_isEnd.cls ≠ "java/lang/invoke/MethodHandle" ∧ yX6_isEnd.cls ≠ "java/lang/invoke/VarHandle" ∧ (parseMethodDescriptor yX6_isEnd.desc).map (fun d => d.parameters.length) = some 1 := by decide +kernel
theorem hy_X6_isSafe : yX6_isSafe.cls ≠ "java/lang/invoke/MethodHandle" ∧ yX6_isSafe.cls ≠ "java/lang/invoke/VarHandle" ∧ (parseMethodDescriptor yX6_isSafe.desc).map (fun d => d.parameters.length) = some 2 := by decide +kernel
theorem hy_X6_isSheet : yX6_isSheet.cls ≠ "java/lang/invoke/MethodHandle" ∧ yX6_isSheet.cls ≠ "java/lang/invoke/VarHandle" ∧ (parseMethodDescriptor yX6_isSheet.desc).map (fun d => d.parameters.length) = some 1 := by decide +kernel
theorem hy_X6_isSort : yX6_isSort.cls ≠ "java/lang/invoke/MethodHandle" ∧ yX6_isSort.cls ≠ "java/lang/invoke/VarHandle" ∧ (parseMethodDescriptor yX6_isSort.desc).map (fun d => d.parameters.length) = some 1 := by decide +kernel
theorem hy_X6_isTank : yX6_isTank.cls ≠ "java/lang/invoke/MethodHandle" ∧ yX6_isTank.cls ≠ "java/lang/invoke/VarHandle" ∧ (parseMethodDescriptor yX6_isTank.desc).map (fun d => d.parameters.length) = some 1 := by decide +kernel
theorem hy_X6_kindBy : yX6_kindBy.cls ≠ "java/lang/invoke/MethodHandle" ∧ yX6_kindBy.cls ≠ "java/lang/invoke/VarHandle" ∧ (parseMethodDescriptor yX6_kindBy.desc).map (fun d => d.parameters.length) = some 1 := by decide +kernel
theorem hy_X6_kinds : yX6_kinds.cls ≠ "java/lang/invoke/MethodHandle" ∧ yX6_kinds.cls ≠ "java/lang/invoke/VarHandle" ∧ (parseMethodDescriptor yX6_kinds.desc).map (fun d => d.parameters.length) = some 1 := by decide +kernel
theorem hy_X6_lose : yX6_lose.cls ≠ "java/lang/invoke/MethodHandle" ∧ yX6_lose.cls ≠ "java/lang/invoke/VarHandle" ∧ (parseMethodDescriptor yX6_lose.desc).map (fun d => d.parameters.length) = some 1 := by decide +kernel
theorem hy_X6_lost : yX6_lost.cls ≠ "java/lang/invoke/MethodHandle" ∧ yX6_lost.cls ≠ "java/lang/invoke/VarHandle" ∧ (parseMethodDescriptor yX6_lost.desc).map (fun d => d.parameters.length) = some 1 := by decide +kernel
theorem hy_X6_many : yX6_many.cls ≠ "java/lang/invoke/MethodHandle" ∧ yX6_many.cls ≠ "java/lang/invoke/VarHandle" ∧ (parseMethodDescriptor yX6_many.desc).map (fun d => d.parameters.length) = some 1 := by decide +kernel
theorem hy_X6_mass : yX6_mass.cls ≠ "java/lang/invoke/MethodHandle" ∧ yX6_mass.cls ≠ "java/lang/invoke/VarHandle" ∧ (parseMethodDescriptor yX6_mass.desc).map (fun d => d.parameters.length) = some 2 := by decide +kernel
theorem hy_X6_masses : yX6_masses.cls ≠ "java/lang/invoke/MethodHandle" ∧ yX6_masses.cls ≠ "java/lang/invoke/VarHandle" ∧ (parseMethodDescriptor yX6_masses.desc).map (fun d => d.parameters.length) = some 1 := by decide +kernel
theorem hy_X6_measure : yX6_measure.cls ≠ "java/lang/invoke/MethodHandle" ∧ yX6_measure.cls ≠ "java/lang/invoke/VarHandle" ∧ (parseMethodDescriptor yX6_measure.desc).map (fun d => d.parameters.length) = some 1 := by decide +kernel
theorem hy_X6_measured : yX6_measured.cls ≠ "java/lang/invoke/MethodHandle" ∧ yX6_measured.cls ≠ "java/lang/invoke/VarHandle" ∧ (parseMethodDescriptor yX6_measured.desc).map (fun d => d.parameters.length) = some 2 := by decide +kernel
theorem hy_X6_moment : yX6_moment.cls ≠ "java/lang/invoke/MethodHandle" ∧ yX6_moment.cls ≠ "java/lang/invoke/VarHandle" ∧ (parseMethodDescriptor yX6_moment.desc).map (fun d => d.parameters.length) = some 1 := by decide +kernel
theorem hy_X6_odds : yX6_odds.cls ≠ "java/lang/invoke/MethodHandle" ∧ yX6_odds.cls ≠ "java/lang/invoke/VarHandle" ∧ (parseMethodDescriptor yX6_odds.desc).map (fun d => d.parameters.length) = some 1 := by decide +kernel
theorem hy_X6_ofTank : yX6_ofTank.cls ≠ "java/lang/invoke/MethodHandle" ∧ yX6_ofTank.cls ≠ "java/lang/invoke/VarHandle" ∧ (parseMethodDescriptor yX6_ofTank.desc).map (fun d => d.parameters.length) = some 2 := by decide +kernel
theorem hy_X6_plain : yX6_plain.cls ≠ "java/lang/invoke/MethodHandle" ∧ yX6_plain.cls ≠ "java/lang/invoke/VarHandle" ∧ (parseMethodDescriptor yX6_plain.desc).map (fun d => d.parameters.length) = some 1 := by decide +kernel
theorem hy_X6_plan : yX6_plan.cls ≠ "java/lang/invoke/MethodHandle" ∧ yX6_plan.cls ≠ "java/lang/invoke/VarHandle" ∧ (parseMethodDescriptor yX6_plan.desc).map (fun d => d.parameters.length) = some 1 := by decide +kernel
theorem hy_X6_plans : yX6_plans.cls ≠ "java/lang/invoke/MethodHandle" ∧ yX6_plans.cls ≠ "java/lang/invoke/VarHandle" ∧ (parseMethodDescriptor yX6_plans.desc).map (fun d => d.parameters.length) = some 0 := by decide +kernel
theorem hy_X6_pump : yX6_pump.cls ≠ "java/lang/invoke/MethodHandle" ∧ yX6_pump.cls ≠ "java/lang/invoke/VarHandle" ∧ (parseMethodDescriptor yX6_pump.desc).map (fun d => d.parameters.length) = some 1 := by decide +kernel
theorem hy_X6_pumped : yX6_pumped.cls ≠ "java/lang/invoke/MethodHandle" ∧ yX6_pumped.cls ≠ "java/lang/invoke/VarHandle" ∧ (parseMethodDescriptor yX6_pumped.desc).map (fun d => d.parameters.length) = some 2 := by decide +kernel
theorem hy_X6_put : yX6_put.cls ≠ "java/lang/invoke/MethodHandle" ∧ yX6_put.cls ≠ "java/lang/invoke/VarHandle" ∧ (parseMethodDescriptor yX6_put.desc).map (fun d => d.parameters.length) = some 3 := by decide +kernel
theorem hy_X6_readAll : yX6_readAll.cls ≠ "java/lang/invoke/MethodHandle" ∧ yX6_readAll.cls ≠ "java/lang/invoke/VarHandle" ∧ (parseMethodDescriptor yX6_readAll.desc).map (fun d => d.parameters.length) = some 1 := by decide +kernel
theorem hy_X6_readTank : yX6_readTank.cls ≠ "java/lang/invoke/MethodHandle" ∧ yX6_readTank.cls ≠ "java/lang/invoke/VarHandle" ∧ (parseMethodDescriptor yX6_readTank.desc).map (fun d => d.parameters.length) = some 1 := by decide +kernel
theorem hy_X6_reading : yX6_reading.cls ≠ "java/lang/invoke/MethodHandle" ∧ yX6_reading.cls ≠ "java/lang/invoke/VarHandle" ∧ (parseMethodDescriptor yX6_reading.desc).map (fun d => d.parameters.length) = some 1 := by decide +kernel
theorem hy_X6_seesMore : yX6_seesMore.cls ≠ "java/lang/invoke/MethodHandle" ∧ yX6_seesMore.cls ≠ "java/lang/invoke/VarHandle" ∧ (parseMethodDescriptor yX6_seesMore.desc).map (fun d => d.parameters.length) = some 0 := by decide +kernel
theorem hy_X6_sheet : yX6_sheet.cls ≠ "java/lang/invoke/MethodHandle" ∧ yX6_sheet.cls ≠ "java/lang/invoke/VarHandle" ∧ (parseMethodDescriptor yX6_sheet.desc).map (fun d => d.parameters.length) = some 3 := by decide +kernel
theorem hy_X6_ship : yX6_ship.cls ≠ "java/lang/invoke/MethodHandle" ∧ yX6_ship.cls ≠ "java/lang/invoke/VarHandle" ∧ (parseMethodDescriptor yX6_ship.desc).map (fun d => d.parameters.length) = some 4 := by decide +kernel
theorem hy_X6_sideBy : yX6_sideBy.cls ≠ "java/lang/invoke/MethodHandle" ∧ yX6_sideBy.cls ≠ "java/lang/invoke/VarHandle" ∧ (parseMethodDescriptor yX6_sideBy.desc).map (fun d => d.parameters.length) = some 1 := by decide +kernel
theorem hy_X6_sizeOf : yX6_sizeOf.cls ≠ "java/lang/invoke/MethodHandle" ∧ yX6_sizeOf.cls ≠ "java/lang/invoke/VarHandle" ∧ (parseMethodDescriptor yX6_sizeOf.desc).map (fun d => d.parameters.length) = some 1 := by decide +kernel
theorem hy_X6_sound : yX6_sound.cls ≠ "java/lang/invoke/MethodHandle" ∧ yX6_sound.cls ≠ "java/lang/invoke/VarHandle" ∧ (parseMethodDescriptor yX6_sound.desc).map (fun d => d.parameters.length) = some 1 := by decide +kernel
theorem hy_X6_states : yX6_states.cls ≠ "java/lang/invoke/MethodHandle" ∧ yX6_states.cls ≠ "java/lang/invoke/VarHandle" ∧ (parseMethodDescriptor yX6_states.desc).map (fun d => d.parameters.length) = some 0 := by decide +kernel
theorem hy_X6_takes : yX6_takes.cls ≠ "java/lang/invoke/MethodHandle" ∧ yX6_takes.cls ≠ "java/lang/invoke/VarHandle" ∧ (parseMethodDescriptor yX6_takes.desc).map (fun d => d.parameters.length) = some 1 := by decide +kernel
theorem hy_X6_tell : yX6_tell.cls ≠ "java/lang/invoke/MethodHandle" ∧ yX6_tell.cls ≠ "java/lang/invoke/VarHandle" ∧ (parseMethodDescriptor yX6_tell.desc).map (fun d => d.parameters.length) = some 1 := by decide +kernel
theorem hy_X6_tellDay : yX6_tellDay.cls ≠ "java/lang/invoke/MethodHandle" ∧ yX6_tellDay.cls ≠ "java/lang/invoke/VarHandle" ∧ (parseMethodDescriptor yX6_tellDay.desc).map (fun d => d.parameters.length) = some 1 := by decide +kernel
theorem hy_X6_trace : yX6_trace.cls ≠ "java/lang/invoke/MethodHandle" ∧ yX6_trace.cls ≠ "java/lang/invoke/VarHandle" ∧ (parseMethodDescriptor yX6_trace.desc).map (fun d => d.parameters.length) = some 0 := by decide +kernel
theorem hy_X6_waterIn : yX6_waterIn.cls ≠ "java/lang/invoke/MethodHandle" ∧ yX6_waterIn.cls ≠ "java/lang/invoke/VarHandle" ∧ (parseMethodDescriptor yX6_waterIn.desc).map (fun d => d.parameters.length) = some 2 := by decide +kernel
theorem hy_X6_weightOf : yX6_weightOf.cls ≠ "java/lang/invoke/MethodHandle" ∧ yX6_weightOf.cls ≠ "java/lang/invoke/VarHandle" ∧ (parseMethodDescriptor yX6_weightOf.desc).map (fun d => d.parameters.length) = some 1 := by decide +kernel
theorem hy_X6_within : yX6_within.cls ≠ "java/lang/invoke/MethodHandle" ∧ yX6_within.cls ≠ "java/lang/invoke/VarHandle" ∧ (parseMethodDescriptor yX6_within.desc).map (fun d => d.parameters.length) = some 3 := by decide +kernel
theorem hy_X6_worst : yX6_worst.cls ≠ "java/lang/invoke/MethodHandle" ∧ yX6_worst.cls ≠ "java/lang/invoke/VarHandle" ∧ (parseMethodDescriptor yX6_worst.desc).map (fun d => d.parameters.length) = some 1 := by decide +kernel
theorem dJ7_fill_0 : decode cJ7_fill_53178 0 = .ok (.iconst 0, 1) := by decide +kernel
theorem dJ7_fill_1 : decode cJ7_fill_53178 1 = .ok (.istore_n 2, 1) := by decide +kernel
theorem dJ7_fill_2 : decode cJ7_fill_53178 2 = .ok (.aload_n 0, 1) := by decide +kernel
theorem dJ7_fill_3 : decode cJ7_fill_53178 3 = .ok (.arraylength, 1) := by decide +kernel
theorem dJ7_fill_4 : decode cJ7_fill_53178 4 = .ok (.istore_n 3, 1) := by decide +kernel
theorem dJ7_fill_5 : decode cJ7_fill_53178 5 = .ok (.iload_n 2, 1) := by decide +kernel
theorem dJ7_fill_6 : decode cJ7_fill_53178 6 = .ok (.iload_n 3, 1) := by decide +kernel
theorem dJ7_fill_7 : decode cJ7_fill_53178 7 = .ok (.if_icmp .ge 13, 3) := by decide +kernel
theorem dJ7_fill_10 : decode cJ7_fill_53178 10 = .ok (.aload_n 0, 1) := by decide +kernel
theorem dJ7_fill_11 : decode cJ7_fill_53178 11 = .ok (.iload_n 2, 1) := by decide +kernel
theorem dJ7_fill_12 : decode cJ7_fill_53178 12 = .ok (.iload_n 1, 1) := by decide +kernel
theorem dJ7_fill_13 : decode cJ7_fill_53178 13 = .ok (.iastore, 1) := by decide +kernel
theorem dJ7_fill_14 : decode cJ7_fill_53178 14 = .ok (.iinc 2 1, 3) := by decide +kernel
theorem dJ7_fill_17 : decode cJ7_fill_53178 17 = .ok (.goto (-12), 3) := by decide +kernel
theorem dJ7_fill_20 : decode cJ7_fill_53178 20 = .ok (.return_, 1) := by decide +kernel
def fJ7_fill_L5 {α : Type} (j n : Nat) (c1 c3 : Int32) (KX : Int32 → MS → Option α) : Nat → Int32 → MS → Option α
  | 0, _, _ => none
  | m + 1, v2, S => if c3 ≤ v2 then (KX v2 S) else (ck v2 n fun k1 => nm (sI S j k1 c1) fun S1 => nm (v2 + 1) fun x2_1 => fJ7_fill_L5 j n c1 c3 KX m x2_1 S1)
def fJ7_fill {α : Type} (j n : Nat) (p1 : Int32) (S : MS) (K : MS → Option α) : Option α := nm (Int32.ofNat n) fun x3 => fJ7_fill_L5 j n p1 x3 (fun _ S1 => K S1) FU 0 S
theorem lJ7_fill_5 {α : Type} {X : GX α} (O : OK 30 X RJ7 cJ7_fill_53178 4 none (rmG 0 0)) {j n : Nat} {c1 c3 : Int32} (hj : j < 30) (hE : ∀ cy ad r w, eX cy ad j r w = .inl (cy 0, n, .inl r)) {KX : Int32 → MS → Option α} (hX : ∀ v2 S, GM 30 eX X (KX v2 S) S 20 [(0, .ref (aX X j)), (1, .int c1), (2, .int v2), (3, .int c3)] []) : ∀ m v2 S, GM 30 eX X (fJ7_fill_L5 j n c1 c3 KX m v2 S) S 5 [(0, .ref (aX X j)), (1, .int c1), (2, .int v2), (3, .int c3)] [] := by
  intro m
  induction m with
  | zero => intro v2 S; exact r_none
  | succ m ih =>
    intro v2 S
    rw [fJ7_fill_L5]
    refine r_iload_n O dJ7_fill_5 2 rfl ?_
    refine r_iload_n O dJ7_fill_6 3 rfl ?_
    refine r_icmp_ge O 20 dJ7_fill_7 (by decide) ?_ ?_
    · exact hX _ _
    · refine r_aload_n O dJ7_fill_10 0 rfl ?_
      refine r_iload_n O dJ7_fill_11 2 rfl ?_
      refine r_iload_n O dJ7_fill_12 1 rfl ?_
      refine r_iast O (j := j) hj (fun _ => hE _ _ _ _) dJ7_fill_13 (fun S1 => ?_)
      refine r_iinc O dJ7_fill_14 2 (c0 := 1) rfl (by decide) (fun x2_1 => [(2, .int x2_1), (0, .ref (aX X j)), (1, .int c1), (3, .int c3)]) (by decide) (fun _ => rfl) (fun x2_1 => ?_)
      refine r_goto O 5 dJ7_fill_17 (by decide) ?_
      refine r_sub [1, 2, 0, 3] rfl ?_
      exact ih _ _
theorem cJ7_fill (l : Launch) (j n : Nat) (p1 : Int32) (S : MS) (hj : j < 30) (hE : ∀ cy ad r w, eX cy ad j r w = .inl (cy 0, n, .inl r)) (_ : n ≤ 1000) {α : Type} : CtV 30 eX l yJ7_fill_53178 cJ7_fill_53178 4 none (rmG 0 0) S (fun ad => [.ref (ad j), .int p1]) (α := α) (fJ7_fill j n p1 S) := by
  refine CtV.of (by decide) (fun _ => Nat.le_of_ble_eq_true rfl) (fun X K _ O hQ => ?_)
  have O : OK 30 X RJ7 cJ7_fill_53178 4 none (rmG 0 0) := O
  show GM 30 eX X (fJ7_fill j n p1 S K) S 0 [(0, .ref (aX X j)), (1, .int p1)] []
  unfold fJ7_fill
  refine r_iconst O dJ7_fill_0 (v := 0) (by decide) ?_
  refine r_istore_n O dJ7_fill_1 [(2, .int 0), (0, .ref (aX X j)), (1, .int p1)] (by decide) rfl ?_
  refine r_aload_n O dJ7_fill_2 1 rfl ?_
  refine r_alen O (n := n) (t0 := 0) (ty := .int) (v := Int32.ofNat n) hj (hE _ _ _ _) rfl rfl dJ7_fill_3 ?_
  refine r_istore_n_nm O dJ7_fill_4 (fun x3 => [(3, .int x3), (2, .int 0), (0, .ref (aX X j)), (1, .int p1)]) (by decide) (fun _ => rfl) (fun x3 => ?_)
  refine r_sub [2, 3, 1, 0] rfl ?_
  refine lJ7_fill_5 O hj hE (fun v2 S1 => ?_) _ _ _
  exact r_vret O hQ dJ7_fill_20
end
