-- X6.canPump
theorem d6_canPump_0 : decode cX6_canPump 0 = .ok (.aload_n 0, 1) := by decide +kernel
theorem d6_canPump_1 : decode cX6_canPump 1 = .ok (.getfield 34, 3) := by decide +kernel
theorem d6_canPump_4 : decode cX6_canPump 4 = .ok (.iload_n 2, 1) := by decide +kernel
theorem d6_canPump_5 : decode cX6_canPump 5 = .ok (.baload, 1) := by decide +kernel
theorem d6_canPump_6 : decode cX6_canPump 6 = .ok (.ifCond .ne 31, 3) := by decide +kernel
theorem d6_canPump_9 : decode cX6_canPump 9 = .ok (.aload_n 0, 1) := by decide +kernel
theorem d6_canPump_10 : decode cX6_canPump 10 = .ok (.iload_n 1, 1) := by decide +kernel
theorem d6_canPump_11 : decode cX6_canPump 11 = .ok (.iload_n 2, 1) := by decide +kernel
theorem d6_canPump_12 : decode cX6_canPump 12 = .ok (.invokevirtual 188, 3) := by decide +kernel
theorem d6_canPump_15 : decode cX6_canPump 15 = .ok (.ifCond .eq 22, 3) := by decide +kernel
theorem d6_canPump_18 : decode cX6_canPump 18 = .ok (.aload_n 0, 1) := by decide +kernel
theorem d6_canPump_19 : decode cX6_canPump 19 = .ok (.aload_n 0, 1) := by decide +kernel
theorem d6_canPump_20 : decode cX6_canPump 20 = .ok (.iload_n 1, 1) := by decide +kernel
theorem d6_canPump_21 : decode cX6_canPump 21 = .ok (.iload_n 2, 1) := by decide +kernel
theorem d6_canPump_22 : decode cX6_canPump 22 = .ok (.invokevirtual 191, 3) := by decide +kernel
theorem d6_canPump_25 : decode cX6_canPump 25 = .ok (.bipush (-9), 2) := by decide +kernel
theorem d6_canPump_27 : decode cX6_canPump 27 = .ok (.invokevirtual 188, 3) := by decide +kernel
theorem d6_canPump_30 : decode cX6_canPump 30 = .ok (.ifCond .eq 7, 3) := by decide +kernel
theorem d6_canPump_33 : decode cX6_canPump 33 = .ok (.iconst 1, 1) := by decide +kernel
theorem d6_canPump_34 : decode cX6_canPump 34 = .ok (.goto 4, 3) := by decide +kernel
theorem d6_canPump_37 : decode cX6_canPump 37 = .ok (.iconst 0, 1) := by decide +kernel
theorem d6_canPump_38 : decode cX6_canPump 38 = .ok (.ireturn, 1) := by decide +kernel
noncomputable def f6_canPump {α : Type} (p1 : Int32) (p2 : Int32) (S : MS) (K : Int32 → MS → Option α) : Option α := ck p2 6 fun k1 => if (S.1 9 k1) = 0 then (f6_isSafe p1 p2 S fun r3 S2 => if r3 = 0 then (K 0 S2) else (f6_pumped p1 p2 S2 fun r5 S4 => f6_isSafe r5 (-9) S4 fun r7 S6 => if r7 = 0 then (K 0 S6) else (K 1 S6))) else (K 0 S)
set_option maxHeartbeats 4000000 in
set_option maxRecDepth 100000 in
theorem c6_canPump (l : Launch) (p1 : Int32) (p2 : Int32) (S : MS) {α : Type} : CtI 22 eM l yX6_canPump cX6_canPump 3 (some .boolean) (rmG 3 70) S (fun ad => [.ref (ad 0), .int p1, .int p2]) (α := α) (f6_canPump p1 p2 S) := by
  refine CtI.of (by decide) (fun _ => Nat.le_of_ble_eq_true rfl) (fun X K _ O hQ => ?_)
  have O : OK 22 X RX6 cX6_canPump 3 (some .boolean) (rmG 3 70) := O
  show GM 22 eM X (f6_canPump p1 p2 S K) S 0 [(0, .ref (aX X 0)), (1, .int p1), (2, .int p2)] []
  unfold f6_canPump
  refine r_aload_n O d6_canPump_0 0 rfl ?_
  refine g_X6_34 O d6_canPump_1 ?_
  refine r_iload_n O d6_canPump_4 2 rfl ?_
  refine r_zald O (j := 9) (by decide) eM_9 d6_canPump_5 (fun k1 hk1 => ?_)
  refine r_if_ne O 37 d6_canPump_6 (by decide) ?_ ?_
  · refine r_iconst O d6_canPump_37 (v := 0) (by decide) ?_
    exact r_zret O hQ (by decide) d6_canPump_38
  · refine r_aload_n O d6_canPump_9 0 rfl ?_
    refine r_iload_n O d6_canPump_10 1 rfl ?_
    refine r_iload_n O d6_canPump_11 2 rfl ?_
    refine r_callVi O (b := 0) (bv := fun ad => [.int p1, .int p2]) (rest := []) (c6_isSafe (lX X) p1 p2 S) (fun _ => rfl) (by decide) eM_0 rfl rfl w_813 w_815 w_28 w_51 w_816 hy_X6_isSafe ⟨rfl, rfl, Nat.le_of_ble_eq_true rfl, Nat.le_of_ble_eq_true rfl⟩ rfl rfl (Nat.le_of_ble_eq_true rfl) d6_canPump_12 (fun r3 S2 => ?_)
    refine r_if_eq O 37 d6_canPump_15 (by decide) ?_ ?_
    · refine r_iconst O d6_canPump_37 (v := 0) (by decide) ?_
      exact r_zret O hQ (by decide) d6_canPump_38
    · refine r_aload_n O d6_canPump_18 0 rfl ?_
      refine r_aload_n O d6_canPump_19 0 rfl ?_
      refine r_iload_n O d6_canPump_20 1 rfl ?_
      refine r_iload_n O d6_canPump_21 2 rfl ?_
      refine r_callVi O (b := 0) (bv := fun ad => [.int p1, .int p2]) (rest := [.ref (aX X 0)]) (c6_pumped (lX X) p1 p2 S2) (fun _ => rfl) (by decide) eM_0 rfl rfl w_824 w_826 w_30 w_51 w_827 hy_X6_pumped ⟨rfl, rfl, Nat.le_of_ble_eq_true rfl, Nat.le_of_ble_eq_true rfl⟩ rfl rfl (Nat.le_of_ble_eq_true rfl) d6_canPump_22 (fun r5 S4 => ?_)
      refine r_bipush O d6_canPump_25 (v := (-9)) (by decide) ?_
      refine r_callVi O (b := 0) (bv := fun ad => [.int r5, .int (-9)]) (rest := []) (c6_isSafe (lX X) r5 (-9) S4) (fun _ => rfl) (by decide) eM_0 rfl rfl w_813 w_815 w_28 w_51 w_816 hy_X6_isSafe ⟨rfl, rfl, Nat.le_of_ble_eq_true rfl, Nat.le_of_ble_eq_true rfl⟩ rfl rfl (Nat.le_of_ble_eq_true rfl) d6_canPump_27 (fun r7 S6 => ?_)
      refine r_if_eq O 37 d6_canPump_30 (by decide) ?_ ?_
      · refine r_iconst O d6_canPump_37 (v := 0) (by decide) ?_
        exact r_zret O hQ (by decide) d6_canPump_38
      · refine r_iconst O d6_canPump_33 (v := 1) (by decide) ?_
        refine r_goto O 38 d6_canPump_34 (by decide) ?_
        exact r_zret O hQ (by decide) d6_canPump_38
-- X6.ofTank
theorem d6_ofTank_0 : decode cX6_ofTank 0 = .ok (.aload_n 0, 1) := by decide +kernel
theorem d6_ofTank_1 : decode cX6_ofTank 1 = .ok (.iload_n 1, 1) := by decide +kernel
theorem d6_ofTank_2 : decode cX6_ofTank 2 = .ok (.invokevirtual 154, 3) := by decide +kernel
theorem d6_ofTank_5 : decode cX6_ofTank 5 = .ok (.ifCond .ne 5, 3) := by decide +kernel
theorem d6_ofTank_8 : decode cX6_ofTank 8 = .ok (.iconst (-1), 1) := by decide +kernel
theorem d6_ofTank_9 : decode cX6_ofTank 9 = .ok (.ireturn, 1) := by decide +kernel
theorem d6_ofTank_10 : decode cX6_ofTank 10 = .ok (.iload_n 2, 1) := by decide +kernel
theorem d6_ofTank_11 : decode cX6_ofTank 11 = .ok (.tableswitch 135 0 8 #[49, 56, 63, 70, 77, 83, 93, 108, 126], 49) := by decide +kernel
theorem d6_ofTank_60 : decode cX6_ofTank 60 = .ok (.aload_n 0, 1) := by decide +kernel
theorem d6_ofTank_61 : decode cX6_ofTank 61 = .ok (.getfield 22, 3) := by decide +kernel
theorem d6_ofTank_64 : decode cX6_ofTank 64 = .ok (.iload_n 1, 1) := by decide +kernel
theorem d6_ofTank_65 : decode cX6_ofTank 65 = .ok (.iaload, 1) := by decide +kernel
theorem d6_ofTank_66 : decode cX6_ofTank 66 = .ok (.ireturn, 1) := by decide +kernel
theorem d6_ofTank_67 : decode cX6_ofTank 67 = .ok (.aload_n 0, 1) := by decide +kernel
theorem d6_ofTank_68 : decode cX6_ofTank 68 = .ok (.getfield 25, 3) := by decide +kernel
theorem d6_ofTank_71 : decode cX6_ofTank 71 = .ok (.iload_n 1, 1) := by decide +kernel
theorem d6_ofTank_72 : decode cX6_ofTank 72 = .ok (.iaload, 1) := by decide +kernel
theorem d6_ofTank_73 : decode cX6_ofTank 73 = .ok (.ireturn, 1) := by decide +kernel
theorem d6_ofTank_74 : decode cX6_ofTank 74 = .ok (.aload_n 0, 1) := by decide +kernel
theorem d6_ofTank_75 : decode cX6_ofTank 75 = .ok (.getfield 28, 3) := by decide +kernel
theorem d6_ofTank_78 : decode cX6_ofTank 78 = .ok (.iload_n 1, 1) := by decide +kernel
theorem d6_ofTank_79 : decode cX6_ofTank 79 = .ok (.iaload, 1) := by decide +kernel
theorem d6_ofTank_80 : decode cX6_ofTank 80 = .ok (.ireturn, 1) := by decide +kernel
theorem d6_ofTank_81 : decode cX6_ofTank 81 = .ok (.aload_n 0, 1) := by decide +kernel
theorem d6_ofTank_82 : decode cX6_ofTank 82 = .ok (.getfield 31, 3) := by decide +kernel
theorem d6_ofTank_85 : decode cX6_ofTank 85 = .ok (.iload_n 1, 1) := by decide +kernel
theorem d6_ofTank_86 : decode cX6_ofTank 86 = .ok (.iaload, 1) := by decide +kernel
theorem d6_ofTank_87 : decode cX6_ofTank 87 = .ok (.ireturn, 1) := by decide +kernel
theorem d6_ofTank_88 : decode cX6_ofTank 88 = .ok (.aload_n 0, 1) := by decide +kernel
theorem d6_ofTank_89 : decode cX6_ofTank 89 = .ok (.iload_n 1, 1) := by decide +kernel
theorem d6_ofTank_90 : decode cX6_ofTank 90 = .ok (.invokevirtual 157, 3) := by decide +kernel
theorem d6_ofTank_93 : decode cX6_ofTank 93 = .ok (.ireturn, 1) := by decide +kernel
theorem d6_ofTank_94 : decode cX6_ofTank 94 = .ok (.aload_n 0, 1) := by decide +kernel
theorem d6_ofTank_95 : decode cX6_ofTank 95 = .ok (.aload_n 0, 1) := by decide +kernel
theorem d6_ofTank_96 : decode cX6_ofTank 96 = .ok (.getfield 141, 3) := by decide +kernel
theorem d6_ofTank_99 : decode cX6_ofTank 99 = .ok (.iload_n 1, 1) := by decide +kernel
theorem d6_ofTank_100 : decode cX6_ofTank 100 = .ok (.invokevirtual 160, 3) := by decide +kernel
theorem d6_ofTank_103 : decode cX6_ofTank 103 = .ok (.ireturn, 1) := by decide +kernel
theorem d6_ofTank_104 : decode cX6_ofTank 104 = .ok (.aload_n 0, 1) := by decide +kernel
theorem d6_ofTank_105 : decode cX6_ofTank 105 = .ok (.getfield 34, 3) := by decide +kernel
theorem d6_ofTank_108 : decode cX6_ofTank 108 = .ok (.iload_n 1, 1) := by decide +kernel
theorem d6_ofTank_109 : decode cX6_ofTank 109 = .ok (.baload, 1) := by decide +kernel
theorem d6_ofTank_110 : decode cX6_ofTank 110 = .ok (.ifCond .eq 7, 3) := by decide +kernel
theorem d6_ofTank_113 : decode cX6_ofTank 113 = .ok (.iconst 0, 1) := by decide +kernel
theorem d6_ofTank_114 : decode cX6_ofTank 114 = .ok (.goto 4, 3) := by decide +kernel
theorem d6_ofTank_117 : decode cX6_ofTank 117 = .ok (.iconst 1, 1) := by decide +kernel
theorem d6_ofTank_118 : decode cX6_ofTank 118 = .ok (.ireturn, 1) := by decide +kernel
theorem d6_ofTank_119 : decode cX6_ofTank 119 = .ok (.aload_n 0, 1) := by decide +kernel
theorem d6_ofTank_120 : decode cX6_ofTank 120 = .ok (.aload_n 0, 1) := by decide +kernel
theorem d6_ofTank_121 : decode cX6_ofTank 121 = .ok (.getfield 141, 3) := by decide +kernel
theorem d6_ofTank_124 : decode cX6_ofTank 124 = .ok (.iload_n 1, 1) := by decide +kernel
theorem d6_ofTank_125 : decode cX6_ofTank 125 = .ok (.invokevirtual 164, 3) := by decide +kernel
theorem d6_ofTank_128 : decode cX6_ofTank 128 = .ok (.ifCond .eq 7, 3) := by decide +kernel
theorem d6_ofTank_131 : decode cX6_ofTank 131 = .ok (.iconst 1, 1) := by decide +kernel
theorem d6_ofTank_132 : decode cX6_ofTank 132 = .ok (.goto 4, 3) := by decide +kernel
theorem d6_ofTank_135 : decode cX6_ofTank 135 = .ok (.iconst 0, 1) := by decide +kernel
theorem d6_ofTank_136 : decode cX6_ofTank 136 = .ok (.ireturn, 1) := by decide +kernel
theorem d6_ofTank_137 : decode cX6_ofTank 137 = .ok (.aload_n 0, 1) := by decide +kernel
theorem d6_ofTank_138 : decode cX6_ofTank 138 = .ok (.getfield 144, 3) := by decide +kernel
theorem d6_ofTank_141 : decode cX6_ofTank 141 = .ok (.iload_n 1, 1) := by decide +kernel
theorem d6_ofTank_142 : decode cX6_ofTank 142 = .ok (.ishr, 1) := by decide +kernel
theorem d6_ofTank_143 : decode cX6_ofTank 143 = .ok (.iconst 1, 1) := by decide +kernel
theorem d6_ofTank_144 : decode cX6_ofTank 144 = .ok (.iand, 1) := by decide +kernel
theorem d6_ofTank_145 : decode cX6_ofTank 145 = .ok (.ireturn, 1) := by decide +kernel
theorem d6_ofTank_146 : decode cX6_ofTank 146 = .ok (.bipush (-2), 2) := by decide +kernel
theorem d6_ofTank_148 : decode cX6_ofTank 148 = .ok (.ireturn, 1) := by decide +kernel
noncomputable def f6_ofTank {α : Type} (p1 : Int32) (p2 : Int32) (S : MS) (K : Int32 → MS → Option α) : Option α := f6_isTank p1 S fun r2 S1 => if r2 = 0 then (K (-1) S1) else (if p2 = 0 then (ck p1 6 fun k4 => K (S1.1 5 k4) S1) else (if p2 = 1 then (ck p1 6 fun k6 => K (S1.1 6 k6) S1) else (if p2 = 2 then (ck p1 6 fun k8 => K (S1.1 7 k8) S1) else (if p2 = 3 then (ck p1 6 fun k10 => K (S1.1 8 k10) S1) else (if p2 = 4 then (f6_weightOf p1 S1 fun r13 S12 => K r13 S12) else (if p2 = 5 then (f6_waterIn (S1.1 0 14) p1 S1 fun r16 S15 => K r16 S15) else (if p2 = 6 then (ck p1 6 fun k18 => if (S1.1 9 k18) = 0 then (K 1 S1) else (K 0 S1)) else (if p2 = 7 then (f6_canPump (S1.1 0 14) p1 S1 fun r21 S20 => if r21 = 0 then (K 0 S20) else (K 1 S20)) else (if p2 = 8 then (K (((S1.1 0 13) >>> (p1 &&& 31)) &&& 1) S1) else (K (-2) S1))))))))))
set_option maxHeartbeats 4000000 in
set_option maxRecDepth 100000 in
theorem c6_ofTank (l : Launch) (p1 : Int32) (p2 : Int32) (S : MS) {α : Type} : CtI 22 eM l yX6_ofTank cX6_ofTank 3 (some .int) (rmG 4 92) S (fun ad => [.ref (ad 0), .int p1, .int p2]) (α := α) (f6_ofTank p1 p2 S) := by
  refine CtI.of (by decide) (fun _ => Nat.le_of_ble_eq_true rfl) (fun X K _ O hQ => ?_)
  have O : OK 22 X RX6 cX6_ofTank 3 (some .int) (rmG 4 92) := O
  show GM 22 eM X (f6_ofTank p1 p2 S K) S 0 [(0, .ref (aX X 0)), (1, .int p1), (2, .int p2)] []
  unfold f6_ofTank
  refine r_aload_n O d6_ofTank_0 0 rfl ?_
  refine r_iload_n O d6_ofTank_1 1 rfl ?_
  refine r_callVi O (b := 0) (bv := fun ad => [.int p1]) (rest := []) (c6_isTank (lX X) p1 S) (fun _ => rfl) (by decide) eM_0 rfl rfl w_797 w_799 w_24 w_51 w_800 hy_X6_isTank ⟨rfl, rfl, Nat.le_of_ble_eq_true rfl, Nat.le_of_ble_eq_true rfl⟩ rfl rfl (Nat.le_of_ble_eq_true rfl) d6_ofTank_2 (fun r2 S1 => ?_)
  refine r_if_ne O 10 d6_ofTank_5 (by decide) ?_ ?_
  · refine r_iload_n O d6_ofTank_10 2 rfl ?_
    refine r_ite (fun hs3 => ?_) (fun hs3 => ?_)
    · refine r_tin O 60 d6_ofTank_11 (by rw [hs3]; decide) (by rw [hs3]; decide) (by rw [hs3]; rfl) (by decide) ?_
      refine r_aload_n O d6_ofTank_60 0 rfl ?_
      refine g_X6_22 O d6_ofTank_61 ?_
      refine r_iload_n O d6_ofTank_64 1 rfl ?_
      refine r_iald O (j := 5) (by decide) eM_5 d6_ofTank_65 (fun k4 hk4 => ?_)
      exact r_iret O hQ d6_ofTank_66
    refine r_ite (fun hs5 => ?_) (fun hs5 => ?_)
    · refine r_tin O 67 d6_ofTank_11 (by rw [hs5]; decide) (by rw [hs5]; decide) (by rw [hs5]; rfl) (by decide) ?_
      refine r_aload_n O d6_ofTank_67 0 rfl ?_
      refine g_X6_25 O d6_ofTank_68 ?_
      refine r_iload_n O d6_ofTank_71 1 rfl ?_
      refine r_iald O (j := 6) (by decide) eM_6 d6_ofTank_72 (fun k6 hk6 => ?_)
      exact r_iret O hQ d6_ofTank_73
    refine r_ite (fun hs7 => ?_) (fun hs7 => ?_)
    · refine r_tin O 74 d6_ofTank_11 (by rw [hs7]; decide) (by rw [hs7]; decide) (by rw [hs7]; rfl) (by decide) ?_
      refine r_aload_n O d6_ofTank_74 0 rfl ?_
      refine g_X6_28 O d6_ofTank_75 ?_
      refine r_iload_n O d6_ofTank_78 1 rfl ?_
      refine r_iald O (j := 7) (by decide) eM_7 d6_ofTank_79 (fun k8 hk8 => ?_)
      exact r_iret O hQ d6_ofTank_80
    refine r_ite (fun hs9 => ?_) (fun hs9 => ?_)
    · refine r_tin O 81 d6_ofTank_11 (by rw [hs9]; decide) (by rw [hs9]; decide) (by rw [hs9]; rfl) (by decide) ?_
      refine r_aload_n O d6_ofTank_81 0 rfl ?_
      refine g_X6_31 O d6_ofTank_82 ?_
      refine r_iload_n O d6_ofTank_85 1 rfl ?_
      refine r_iald O (j := 8) (by decide) eM_8 d6_ofTank_86 (fun k10 hk10 => ?_)
      exact r_iret O hQ d6_ofTank_87
    refine r_ite (fun hs11 => ?_) (fun hs11 => ?_)
    · refine r_tin O 88 d6_ofTank_11 (by rw [hs11]; decide) (by rw [hs11]; decide) (by rw [hs11]; rfl) (by decide) ?_
      refine r_aload_n O d6_ofTank_88 0 rfl ?_
      refine r_iload_n O d6_ofTank_89 1 rfl ?_
      refine r_callVi O (b := 0) (bv := fun ad => [.int p1]) (rest := []) (c6_weightOf (lX X) p1 S1) (fun _ => rfl) (by decide) eM_0 rfl rfl w_801 w_803 w_25 w_51 w_804 hy_X6_weightOf ⟨rfl, rfl, Nat.le_of_ble_eq_true rfl, Nat.le_of_ble_eq_true rfl⟩ rfl rfl (Nat.le_of_ble_eq_true rfl) d6_ofTank_90 (fun r13 S12 => ?_)
      exact r_iret O hQ d6_ofTank_93
    refine r_ite (fun hs14 => ?_) (fun hs14 => ?_)
    · refine r_tin O 94 d6_ofTank_11 (by rw [hs14]; decide) (by rw [hs14]; decide) (by rw [hs14]; rfl) (by decide) ?_
      refine r_aload_n O d6_ofTank_94 0 rfl ?_
      refine r_aload_n O d6_ofTank_95 0 rfl ?_
      refine g_X6_141 O d6_ofTank_96 ?_
      refine r_iload_n O d6_ofTank_99 1 rfl ?_
      refine r_callVi O (b := 0) (bv := fun ad => [.int (S1.1 0 14), .int p1]) (rest := []) (c6_waterIn (lX X) (S1.1 0 14) p1 S1) (fun _ => rfl) (by decide) eM_0 rfl rfl w_805 w_807 w_26 w_51 w_808 hy_X6_waterIn ⟨rfl, rfl, Nat.le_of_ble_eq_true rfl, Nat.le_of_ble_eq_true rfl⟩ rfl rfl (Nat.le_of_ble_eq_true rfl) d6_ofTank_100 (fun r16 S15 => ?_)
      exact r_iret O hQ d6_ofTank_103
    refine r_ite (fun hs17 => ?_) (fun hs17 => ?_)
    · refine r_tin O 104 d6_ofTank_11 (by rw [hs17]; decide) (by rw [hs17]; decide) (by rw [hs17]; rfl) (by decide) ?_
      refine r_aload_n O d6_ofTank_104 0 rfl ?_
      refine g_X6_34 O d6_ofTank_105 ?_
      refine r_iload_n O d6_ofTank_108 1 rfl ?_
      refine r_zald O (j := 9) (by decide) eM_9 d6_ofTank_109 (fun k18 hk18 => ?_)
      refine r_if_eq O 117 d6_ofTank_110 (by decide) ?_ ?_
      · refine r_iconst O d6_ofTank_117 (v := 1) (by decide) ?_
        exact r_iret O hQ d6_ofTank_118
      · refine r_iconst O d6_ofTank_113 (v := 0) (by decide) ?_
        refine r_goto O 118 d6_ofTank_114 (by decide) ?_
        exact r_iret O hQ d6_ofTank_118
    refine r_ite (fun hs19 => ?_) (fun hs19 => ?_)
    · refine r_tin O 119 d6_ofTank_11 (by rw [hs19]; decide) (by rw [hs19]; decide) (by rw [hs19]; rfl) (by decide) ?_
      refine r_aload_n O d6_ofTank_119 0 rfl ?_
      refine r_aload_n O d6_ofTank_120 0 rfl ?_
      refine g_X6_141 O d6_ofTank_121 ?_
      refine r_iload_n O d6_ofTank_124 1 rfl ?_
      refine r_callVi O (b := 0) (bv := fun ad => [.int (S1.1 0 14), .int p1]) (rest := []) (c6_canPump (lX X) (S1.1 0 14) p1 S1) (fun _ => rfl) (by decide) eM_0 rfl rfl w_809 w_811 w_27 w_51 w_812 hy_X6_canPump ⟨rfl, rfl, Nat.le_of_ble_eq_true rfl, Nat.le_of_ble_eq_true rfl⟩ rfl rfl (Nat.le_of_ble_eq_true rfl) d6_ofTank_125 (fun r21 S20 => ?_)
      refine r_if_eq O 135 d6_ofTank_128 (by decide) ?_ ?_
      · refine r_iconst O d6_ofTank_135 (v := 0) (by decide) ?_
        exact r_iret O hQ d6_ofTank_136
      · refine r_iconst O d6_ofTank_131 (v := 1) (by decide) ?_
        refine r_goto O 136 d6_ofTank_132 (by decide) ?_
        exact r_iret O hQ d6_ofTank_136
    refine r_ite (fun hs22 => ?_) (fun hs22 => ?_)
    · refine r_tin O 137 d6_ofTank_11 (by rw [hs22]; decide) (by rw [hs22]; decide) (by rw [hs22]; rfl) (by decide) ?_
      refine r_aload_n O d6_ofTank_137 0 rfl ?_
      refine g_X6_144 O d6_ofTank_138 ?_
      refine r_iload_n O d6_ofTank_141 1 rfl ?_
      refine r_ishr O d6_ofTank_142 ?_
      refine r_iconst O d6_ofTank_143 (v := 1) (by decide) ?_
      refine r_iand O d6_ofTank_144 ?_
      exact r_iret O hQ d6_ofTank_145
    have nhs3 := i32_ne (n := 0) 0 (by decide) hs3
    have nhs5 := i32_ne (n := 1) 1 (by decide) hs5
    have nhs7 := i32_ne (n := 2) 2 (by decide) hs7
    have nhs9 := i32_ne (n := 3) 3 (by decide) hs9
    have nhs11 := i32_ne (n := 4) 4 (by decide) hs11
    have nhs14 := i32_ne (n := 5) 5 (by decide) hs14
    have nhs17 := i32_ne (n := 6) 6 (by decide) hs17
    have nhs19 := i32_ne (n := 7) 7 (by decide) hs19
    have nhs22 := i32_ne (n := 8) 8 (by decide) hs22
    refine r_tout O 146 d6_ofTank_11 (by omega) (by decide) ?_
    refine r_bipush O d6_ofTank_146 (v := (-2)) (by decide) ?_
    exact r_iret O hQ d6_ofTank_148
  · refine r_iconst O d6_ofTank_8 (v := (-1)) (by decide) ?_
    exact r_iret O hQ d6_ofTank_9
-- X6.mass
theorem d6_mass_0 : decode cX6_mass 0 = .ok (.aload_n 0, 1) := by decide +kernel
theorem d6_mass_1 : decode cX6_mass 1 = .ok (.iload_n 1, 1) := by decide +kernel
theorem d6_mass_2 : decode cX6_mass 2 = .ok (.invokevirtual 154, 3) := by decide +kernel
theorem d6_mass_5 : decode cX6_mass 5 = .ok (.ifCond .ne 5, 3) := by decide +kernel
theorem d6_mass_8 : decode cX6_mass 8 = .ok (.iconst (-1), 1) := by decide +kernel
theorem d6_mass_9 : decode cX6_mass 9 = .ok (.ireturn, 1) := by decide +kernel
theorem d6_mass_10 : decode cX6_mass 10 = .ok (.iload_n 2, 1) := by decide +kernel
theorem d6_mass_11 : decode cX6_mass 11 = .ok (.i2l, 1) := by decide +kernel
theorem d6_mass_12 : decode cX6_mass 12 = .ok (.lconst 1, 1) := by decide +kernel
theorem d6_mass_13 : decode cX6_mass 13 = .ok (.ldc2_w 168, 3) := by decide +kernel
theorem d6_mass_16 : decode cX6_mass 16 = .ok (.invokestatic 83, 3) := by decide +kernel
theorem d6_mass_19 : decode cX6_mass 19 = .ok (.ifCond .ne 6, 3) := by decide +kernel
theorem d6_mass_22 : decode cX6_mass 22 = .ok (.bipush (-2), 2) := by decide +kernel
theorem d6_mass_24 : decode cX6_mass 24 = .ok (.ireturn, 1) := by decide +kernel
theorem d6_mass_25 : decode cX6_mass 25 = .ok (.aload_n 0, 1) := by decide +kernel
theorem d6_mass_26 : decode cX6_mass 26 = .ok (.getfield 31, 3) := by decide +kernel
theorem d6_mass_29 : decode cX6_mass 29 = .ok (.iload_n 1, 1) := by decide +kernel
theorem d6_mass_30 : decode cX6_mass 30 = .ok (.iaload, 1) := by decide +kernel
theorem d6_mass_31 : decode cX6_mass 31 = .ok (.istore_n 3, 1) := by decide +kernel
theorem d6_mass_32 : decode cX6_mass 32 = .ok (.aload_n 0, 1) := by decide +kernel
theorem d6_mass_33 : decode cX6_mass 33 = .ok (.getfield 31, 3) := by decide +kernel
theorem d6_mass_36 : decode cX6_mass 36 = .ok (.iload_n 1, 1) := by decide +kernel
theorem d6_mass_37 : decode cX6_mass 37 = .ok (.iload_n 2, 1) := by decide +kernel
theorem d6_mass_38 : decode cX6_mass 38 = .ok (.iastore, 1) := by decide +kernel
theorem d6_mass_39 : decode cX6_mass 39 = .ok (.aload_n 0, 1) := by decide +kernel
theorem d6_mass_40 : decode cX6_mass 40 = .ok (.iconst 0, 1) := by decide +kernel
theorem d6_mass_41 : decode cX6_mass 41 = .ok (.putfield 150, 3) := by decide +kernel
theorem d6_mass_44 : decode cX6_mass 44 = .ok (.iload_n 3, 1) := by decide +kernel
theorem d6_mass_45 : decode cX6_mass 45 = .ok (.ireturn, 1) := by decide +kernel
noncomputable def f6_mass {α : Type} (p1 : Int32) (p2 : Int32) (S : MS) (K : Int32 → MS → Option α) : Option α := f6_isTank p1 S fun r2 S1 => if r2 = 0 then (K (-1) S1) else (f6_within (Int32.toInt64 p2) 1 9 S1 fun r4 S3 => if r4 = 0 then (K (-2) S3) else (ck p1 6 fun k5 => nm (S3.1 8 k5) fun x3_6 => ck p1 6 fun k7 => nm (sI S3 8 k7 p2) fun S8 => nm (sI S8 0 28 0) fun S9 => K x3_6 S9))
set_option maxHeartbeats 4000000 in
set_option maxRecDepth 100000 in
theorem c6_mass (l : Launch) (p1 : Int32) (p2 : Int32) (S : MS) {α : Type} : CtI 22 eM l yX6_mass cX6_mass 4 (some .int) (rmG 2 46) S (fun ad => [.ref (ad 0), .int p1, .int p2]) (α := α) (f6_mass p1 p2 S) := by
  refine CtI.of (by decide) (fun _ => Nat.le_of_ble_eq_true rfl) (fun X K _ O hQ => ?_)
  have O : OK 22 X RX6 cX6_mass 4 (some .int) (rmG 2 46) := O
  show GM 22 eM X (f6_mass p1 p2 S K) S 0 [(0, .ref (aX X 0)), (1, .int p1), (2, .int p2)] []
  unfold f6_mass
  refine r_aload_n O d6_mass_0 0 rfl ?_
  refine r_iload_n O d6_mass_1 1 rfl ?_
  refine r_callVi O (b := 0) (bv := fun ad => [.int p1]) (rest := []) (c6_isTank (lX X) p1 S) (fun _ => rfl) (by decide) eM_0 rfl rfl w_797 w_799 w_24 w_51 w_800 hy_X6_isTank ⟨rfl, rfl, Nat.le_of_ble_eq_true rfl, Nat.le_of_ble_eq_true rfl⟩ rfl rfl (Nat.le_of_ble_eq_true rfl) d6_mass_2 (fun r2 S1 => ?_)
  refine r_if_ne O 10 d6_mass_5 (by decide) ?_ ?_
  · refine r_iload_n O d6_mass_10 2 rfl ?_
    refine r_i2l O d6_mass_11 ?_
    refine r_lconst O d6_mass_12 (v := 1) (by decide) ?_
    refine r_ldc2 O (v := 9) w_832 d6_mass_13 ?_
    refine r_callSi O (rest := []) (c6_within (lX X) (Int32.toInt64 p2) 1 9 S1) w_753 w_754 w_51 w_755 hy_X6_within ⟨rfl, rfl, Nat.le_of_ble_eq_true rfl, Nat.le_of_ble_eq_true rfl⟩ rfl rfl (Nat.le_of_ble_eq_true rfl) d6_mass_16 (fun r4 S3 => ?_)
    refine r_if_ne O 25 d6_mass_19 (by decide) ?_ ?_
    · refine r_aload_n O d6_mass_25 0 rfl ?_
      refine g_X6_31 O d6_mass_26 ?_
      refine r_iload_n O d6_mass_29 1 rfl ?_
      refine r_iald O (j := 8) (by decide) eM_8 d6_mass_30 (fun k5 hk5 => ?_)
      refine r_istore_n_nm O d6_mass_31 (fun x3_6 => [(3, .int x3_6), (0, .ref (aX X 0)), (1, .int p1), (2, .int p2)]) (by decide) (fun _ => rfl) (fun x3_6 => ?_)
      refine r_aload_n O d6_mass_32 1 rfl ?_
      refine g_X6_31 O d6_mass_33 ?_
      refine r_iload_n O d6_mass_36 2 rfl ?_
      refine r_iload_n O d6_mass_37 3 rfl ?_
      refine r_iast O (j := 8) (by decide) (fun _ => eM_8) d6_mass_38 (fun S8 => ?_)
      refine r_aload_n O d6_mass_39 1 rfl ?_
      refine r_iconst O d6_mass_40 (v := 0) (by decide) ?_
      refine p_X6_150 O (by decide) d6_mass_41 (fun S9 => ?_)
      refine r_iload_n O d6_mass_44 0 rfl ?_
      exact r_iret O hQ d6_mass_45
    · refine r_bipush O d6_mass_22 (v := (-2)) (by decide) ?_
      exact r_iret O hQ d6_mass_24
  · refine r_iconst O d6_mass_8 (v := (-1)) (by decide) ?_
    exact r_iret O hQ d6_mass_9
-- X6.bound
theorem d6_bound_0 : decode cX6_bound 0 = .ok (.iload_n 1, 1) := by decide +kernel
theorem d6_bound_1 : decode cX6_bound 1 = .ok (.i2l, 1) := by decide +kernel
theorem d6_bound_2 : decode cX6_bound 2 = .ok (.lconst 0, 1) := by decide +kernel
theorem d6_bound_3 : decode cX6_bound 3 = .ok (.ldc2_w 87, 3) := by decide +kernel
theorem d6_bound_6 : decode cX6_bound 6 = .ok (.invokestatic 83, 3) := by decide +kernel
theorem d6_bound_9 : decode cX6_bound 9 = .ok (.ifCond .eq 15, 3) := by decide +kernel
theorem d6_bound_12 : decode cX6_bound 12 = .ok (.iload_n 2, 1) := by decide +kernel
theorem d6_bound_13 : decode cX6_bound 13 = .ok (.i2l, 1) := by decide +kernel
theorem d6_bound_14 : decode cX6_bound 14 = .ok (.lconst 0, 1) := by decide +kernel
theorem d6_bound_15 : decode cX6_bound 15 = .ok (.ldc2_w 170, 3) := by decide +kernel
theorem d6_bound_18 : decode cX6_bound 18 = .ok (.invokestatic 83, 3) := by decide +kernel
theorem d6_bound_21 : decode cX6_bound 21 = .ok (.ifCond .ne 6, 3) := by decide +kernel
theorem d6_bound_24 : decode cX6_bound 24 = .ok (.bipush (-2), 2) := by decide +kernel
theorem d6_bound_26 : decode cX6_bound 26 = .ok (.ireturn, 1) := by decide +kernel
theorem d6_bound_27 : decode cX6_bound 27 = .ok (.aload_n 0, 1) := by decide +kernel
theorem d6_bound_28 : decode cX6_bound 28 = .ok (.getfield 89, 3) := by decide +kernel
theorem d6_bound_31 : decode cX6_bound 31 = .ok (.ifCond .ne 6, 3) := by decide +kernel
theorem d6_bound_34 : decode cX6_bound 34 = .ok (.bipush (-3), 2) := by decide +kernel
theorem d6_bound_36 : decode cX6_bound 36 = .ok (.ireturn, 1) := by decide +kernel
theorem d6_bound_37 : decode cX6_bound 37 = .ok (.aload_n 0, 1) := by decide +kernel
theorem d6_bound_38 : decode cX6_bound 38 = .ok (.getfield 38, 3) := by decide +kernel
theorem d6_bound_41 : decode cX6_bound 41 = .ok (.iload_n 1, 1) := by decide +kernel
theorem d6_bound_42 : decode cX6_bound 42 = .ok (.iaload, 1) := by decide +kernel
theorem d6_bound_43 : decode cX6_bound 43 = .ok (.istore_n 3, 1) := by decide +kernel
theorem d6_bound_44 : decode cX6_bound 44 = .ok (.aload_n 0, 1) := by decide +kernel
theorem d6_bound_45 : decode cX6_bound 45 = .ok (.getfield 38, 3) := by decide +kernel
theorem d6_bound_48 : decode cX6_bound 48 = .ok (.iload_n 1, 1) := by decide +kernel
theorem d6_bound_49 : decode cX6_bound 49 = .ok (.iload_n 2, 1) := by decide +kernel
theorem d6_bound_50 : decode cX6_bound 50 = .ok (.iastore, 1) := by decide +kernel
theorem d6_bound_51 : decode cX6_bound 51 = .ok (.aload_n 0, 1) := by decide +kernel
theorem d6_bound_52 : decode cX6_bound 52 = .ok (.iconst 0, 1) := by decide +kernel
theorem d6_bound_53 : decode cX6_bound 53 = .ok (.putfield 150, 3) := by decide +kernel
theorem d6_bound_56 : decode cX6_bound 56 = .ok (.iload_n 3, 1) := by decide +kernel
theorem d6_bound_57 : decode cX6_bound 57 = .ok (.ireturn, 1) := by decide +kernel
noncomputable def f6_bound {α : Type} (p1 : Int32) (p2 : Int32) (S : MS) (K : Int32 → MS → Option α) : Option α := f6_within (Int32.toInt64 p1) 0 2 S fun r2 S1 => if r2 = 0 then (K (-2) S1) else (f6_within (Int32.toInt64 p2) 0 999 S1 fun r4 S3 => if r4 = 0 then (K (-2) S3) else (if (S3.1 0 6) = 0 then (K (-3) S3) else (ck p1 3 fun k5 => nm (S3.1 10 k5) fun x3_6 => ck p1 3 fun k7 => nm (sI S3 10 k7 p2) fun S8 => nm (sI S8 0 28 0) fun S9 => K x3_6 S9)))
set_option maxHeartbeats 4000000 in
set_option maxRecDepth 100000 in
theorem c6_bound (l : Launch) (p1 : Int32) (p2 : Int32) (S : MS) {α : Type} : CtI 22 eM l yX6_bound cX6_bound 4 (some .int) (rmG 1 25) S (fun ad => [.ref (ad 0), .int p1, .int p2]) (α := α) (f6_bound p1 p2 S) := by
  refine CtI.of (by decide) (fun _ => Nat.le_of_ble_eq_true rfl) (fun X K _ O hQ => ?_)
  have O : OK 22 X RX6 cX6_bound 4 (some .int) (rmG 1 25) := O
  show GM 22 eM X (f6_bound p1 p2 S K) S 0 [(0, .ref (aX X 0)), (1, .int p1), (2, .int p2)] []
  unfold f6_bound
  refine r_iload_n O d6_bound_0 1 rfl ?_
  refine r_i2l O d6_bound_1 ?_
  refine r_lconst O d6_bound_2 (v := 0) (by decide) ?_
  refine r_ldc2 O (v := 2) w_759 d6_bound_3 ?_
  refine r_callSi O (rest := []) (c6_within (lX X) (Int32.toInt64 p1) 0 2 S) w_753 w_754 w_51 w_755 hy_X6_within ⟨rfl, rfl, Nat.le_of_ble_eq_true rfl, Nat.le_of_ble_eq_true rfl⟩ rfl rfl (Nat.le_of_ble_eq_true rfl) d6_bound_6 (fun r2 S1 => ?_)
  refine r_if_eq O 24 d6_bound_9 (by decide) ?_ ?_
  · refine r_bipush O d6_bound_24 (v := (-2)) (by decide) ?_
    exact r_iret O hQ d6_bound_26
  · refine r_iload_n O d6_bound_12 2 rfl ?_
    refine r_i2l O d6_bound_13 ?_
    refine r_lconst O d6_bound_14 (v := 0) (by decide) ?_
    refine r_ldc2 O (v := 999) w_837 d6_bound_15 ?_
    refine r_callSi O (rest := []) (c6_within (lX X) (Int32.toInt64 p2) 0 999 S1) w_753 w_754 w_51 w_755 hy_X6_within ⟨rfl, rfl, Nat.le_of_ble_eq_true rfl, Nat.le_of_ble_eq_true rfl⟩ rfl rfl (Nat.le_of_ble_eq_true rfl) d6_bound_18 (fun r4 S3 => ?_)
    refine r_if_ne O 27 d6_bound_21 (by decide) ?_ ?_
    · refine r_aload_n O d6_bound_27 0 rfl ?_
      refine g_X6_89 O d6_bound_28 ?_
      refine r_if_ne O 37 d6_bound_31 (by decide) ?_ ?_
      · refine r_aload_n O d6_bound_37 0 rfl ?_
        refine g_X6_38 O d6_bound_38 ?_
        refine r_iload_n O d6_bound_41 1 rfl ?_
        refine r_iald O (j := 10) (by decide) eM_10 d6_bound_42 (fun k5 hk5 => ?_)
        refine r_istore_n_nm O d6_bound_43 (fun x3_6 => [(3, .int x3_6), (0, .ref (aX X 0)), (1, .int p1), (2, .int p2)]) (by decide) (fun _ => rfl) (fun x3_6 => ?_)
        refine r_aload_n O d6_bound_44 1 rfl ?_
        refine g_X6_38 O d6_bound_45 ?_
        refine r_iload_n O d6_bound_48 2 rfl ?_
        refine r_iload_n O d6_bound_49 3 rfl ?_
        refine r_iast O (j := 10) (by decide) (fun _ => eM_10) d6_bound_50 (fun S8 => ?_)
        refine r_aload_n O d6_bound_51 1 rfl ?_
        refine r_iconst O d6_bound_52 (v := 0) (by decide) ?_
        refine p_X6_150 O (by decide) d6_bound_53 (fun S9 => ?_)
        refine r_iload_n O d6_bound_56 0 rfl ?_
        exact r_iret O hQ d6_bound_57
      · refine r_bipush O d6_bound_34 (v := (-3)) (by decide) ?_
        exact r_iret O hQ d6_bound_36
    · refine r_bipush O d6_bound_24 (v := (-2)) (by decide) ?_
      exact r_iret O hQ d6_bound_26
-- X6.due
theorem d6_due_0 : decode cX6_due 0 = .ok (.aload_n 0, 1) := by decide +kernel
theorem d6_due_1 : decode cX6_due 1 = .ok (.getfield 89, 3) := by decide +kernel
theorem d6_due_4 : decode cX6_due 4 = .ok (.ifCond .ne 6, 3) := by decide +kernel
theorem d6_due_7 : decode cX6_due 7 = .ok (.bipush (-3), 2) := by decide +kernel
theorem d6_due_9 : decode cX6_due 9 = .ok (.ireturn, 1) := by decide +kernel
theorem d6_due_10 : decode cX6_due 10 = .ok (.iload_n 1, 1) := by decide +kernel
theorem d6_due_11 : decode cX6_due 11 = .ok (.i2l, 1) := by decide +kernel
theorem d6_due_12 : decode cX6_due 12 = .ok (.lconst 0, 1) := by decide +kernel
theorem d6_due_13 : decode cX6_due 13 = .ok (.iconst 1, 1) := by decide +kernel
theorem d6_due_14 : decode cX6_due 14 = .ok (.aload_n 0, 1) := by decide +kernel
theorem d6_due_15 : decode cX6_due 15 = .ok (.getfield 89, 3) := by decide +kernel
theorem d6_due_18 : decode cX6_due 18 = .ok (.ishl, 1) := by decide +kernel
theorem d6_due_19 : decode cX6_due 19 = .ok (.iconst 1, 1) := by decide +kernel
theorem d6_due_20 : decode cX6_due 20 = .ok (.isub, 1) := by decide +kernel
theorem d6_due_21 : decode cX6_due 21 = .ok (.i2l, 1) := by decide +kernel
theorem d6_due_22 : decode cX6_due 22 = .ok (.invokestatic 83, 3) := by decide +kernel
theorem d6_due_25 : decode cX6_due 25 = .ok (.ifCond .ne 6, 3) := by decide +kernel
theorem d6_due_28 : decode cX6_due 28 = .ok (.bipush (-2), 2) := by decide +kernel
theorem d6_due_30 : decode cX6_due 30 = .ok (.ireturn, 1) := by decide +kernel
theorem d6_due_31 : decode cX6_due 31 = .ok (.aload_n 0, 1) := by decide +kernel
theorem d6_due_32 : decode cX6_due 32 = .ok (.getfield 144, 3) := by decide +kernel
theorem d6_due_35 : decode cX6_due 35 = .ok (.istore_n 2, 1) := by decide +kernel
theorem d6_due_36 : decode cX6_due 36 = .ok (.aload_n 0, 1) := by decide +kernel
theorem d6_due_37 : decode cX6_due 37 = .ok (.iload_n 1, 1) := by decide +kernel
theorem d6_due_38 : decode cX6_due 38 = .ok (.putfield 144, 3) := by decide +kernel
theorem d6_due_41 : decode cX6_due 41 = .ok (.aload_n 0, 1) := by decide +kernel
theorem d6_due_42 : decode cX6_due 42 = .ok (.iconst 0, 1) := by decide +kernel
theorem d6_due_43 : decode cX6_due 43 = .ok (.putfield 150, 3) := by decide +kernel
theorem d6_due_46 : decode cX6_due 46 = .ok (.iload_n 2, 1) := by decide +kernel
theorem d6_due_47 : decode cX6_due 47 = .ok (.ireturn, 1) := by decide +kernel
noncomputable def f6_due {α : Type} (p1 : Int32) (S : MS) (K : Int32 → MS → Option α) : Option α := if (S.1 0 6) = 0 then (K (-3) S) else (f6_within (Int32.toInt64 p1) 0 (Int32.toInt64 (((1 : Int32) <<< ((S.1 0 6) &&& 31)) - 1)) S fun r2 S1 => if r2 = 0 then (K (-2) S1) else (nm (S1.1 0 13) fun x2_3 => nm (sI S1 0 13 p1) fun S4 => nm (sI S4 0 28 0) fun S5 => K x2_3 S5))
set_option maxHeartbeats 4000000 in
set_option maxRecDepth 100000 in
theorem c6_due (l : Launch) (p1 : Int32) (S : MS) {α : Type} : CtI 22 eM l yX6_due cX6_due 3 (some .int) (rmG 1 25) S (fun ad => [.ref (ad 0), .int p1]) (α := α) (f6_due p1 S) := by
  refine CtI.of (by decide) (fun _ => Nat.le_of_ble_eq_true rfl) (fun X K _ O hQ => ?_)
  have O : OK 22 X RX6 cX6_due 3 (some .int) (rmG 1 25) := O
  show GM 22 eM X (f6_due p1 S K) S 0 [(0, .ref (aX X 0)), (1, .int p1)] []
  unfold f6_due
  refine r_aload_n O d6_due_0 0 rfl ?_
  refine g_X6_89 O d6_due_1 ?_
  refine r_if_ne O 10 d6_due_4 (by decide) ?_ ?_
  · refine r_iload_n O d6_due_10 1 rfl ?_
    refine r_i2l O d6_due_11 ?_
    refine r_lconst O d6_due_12 (v := 0) (by decide) ?_
    refine r_iconst O d6_due_13 (v := 1) (by decide) ?_
    refine r_aload_n O d6_due_14 0 rfl ?_
    refine g_X6_89 O d6_due_15 ?_
    refine r_ishl O d6_due_18 ?_
    refine r_iconst O d6_due_19 (v := 1) (by decide) ?_
    refine r_isub O d6_due_20 ?_
    refine r_i2l O d6_due_21 ?_
    refine r_callSi O (rest := []) (c6_within (lX X) (Int32.toInt64 p1) 0 (Int32.toInt64 (((1 : Int32) <<< ((S.1 0 6) &&& 31)) - 1)) S) w_753 w_754 w_51 w_755 hy_X6_within ⟨rfl, rfl, Nat.le_of_ble_eq_true rfl, Nat.le_of_ble_eq_true rfl⟩ rfl rfl (Nat.le_of_ble_eq_true rfl) d6_due_22 (fun r2 S1 => ?_)
    refine r_if_ne O 31 d6_due_25 (by decide) ?_ ?_
    · refine r_aload_n O d6_due_31 0 rfl ?_
      refine g_X6_144 O d6_due_32 ?_
      refine r_istore_n_nm O d6_due_35 (fun x2_3 => [(2, .int x2_3), (0, .ref (aX X 0)), (1, .int p1)]) (by decide) (fun _ => rfl) (fun x2_3 => ?_)
      refine r_aload_n O d6_due_36 1 rfl ?_
      refine r_iload_n O d6_due_37 2 rfl ?_
      refine p_X6_144 O d6_due_38 (fun S4 => ?_)
      refine r_aload_n O d6_due_41 1 rfl ?_
      refine r_iconst O d6_due_42 (v := 0) (by decide) ?_
      refine p_X6_150 O (by decide) d6_due_43 (fun S5 => ?_)
      refine r_iload_n O d6_due_46 0 rfl ?_
      exact r_iret O hQ d6_due_47
    · refine r_bipush O d6_due_28 (v := (-2)) (by decide) ?_
      exact r_iret O hQ d6_due_30
  · refine r_bipush O d6_due_7 (v := (-3)) (by decide) ?_
    exact r_iret O hQ d6_due_9
-- X6.fail
theorem d6_fail_0 : decode cX6_fail 0 = .ok (.aload_n 0, 1) := by decide +kernel
theorem d6_fail_1 : decode cX6_fail 1 = .ok (.iload_n 1, 1) := by decide +kernel
theorem d6_fail_2 : decode cX6_fail 2 = .ok (.invokevirtual 154, 3) := by decide +kernel
theorem d6_fail_5 : decode cX6_fail 5 = .ok (.ifCond .ne 5, 3) := by decide +kernel
theorem d6_fail_8 : decode cX6_fail 8 = .ok (.iconst (-1), 1) := by decide +kernel
theorem d6_fail_9 : decode cX6_fail 9 = .ok (.ireturn, 1) := by decide +kernel
theorem d6_fail_10 : decode cX6_fail 10 = .ok (.aload_n 0, 1) := by decide +kernel
theorem d6_fail_11 : decode cX6_fail 11 = .ok (.getfield 34, 3) := by decide +kernel
theorem d6_fail_14 : decode cX6_fail 14 = .ok (.iload_n 1, 1) := by decide +kernel
theorem d6_fail_15 : decode cX6_fail 15 = .ok (.aload_n 0, 1) := by decide +kernel
theorem d6_fail_16 : decode cX6_fail 16 = .ok (.getfield 34, 3) := by decide +kernel
theorem d6_fail_19 : decode cX6_fail 19 = .ok (.iload_n 1, 1) := by decide +kernel
theorem d6_fail_20 : decode cX6_fail 20 = .ok (.baload, 1) := by decide +kernel
theorem d6_fail_21 : decode cX6_fail 21 = .ok (.ifCond .ne 7, 3) := by decide +kernel
theorem d6_fail_24 : decode cX6_fail 24 = .ok (.iconst 1, 1) := by decide +kernel
theorem d6_fail_25 : decode cX6_fail 25 = .ok (.goto 4, 3) := by decide +kernel
theorem d6_fail_28 : decode cX6_fail 28 = .ok (.iconst 0, 1) := by decide +kernel
theorem d6_fail_29 : decode cX6_fail 29 = .ok (.bastore, 1) := by decide +kernel
theorem d6_fail_30 : decode cX6_fail 30 = .ok (.aload_n 0, 1) := by decide +kernel
theorem d6_fail_31 : decode cX6_fail 31 = .ok (.iconst 0, 1) := by decide +kernel
theorem d6_fail_32 : decode cX6_fail 32 = .ok (.putfield 150, 3) := by decide +kernel
theorem d6_fail_35 : decode cX6_fail 35 = .ok (.aload_n 0, 1) := by decide +kernel
theorem d6_fail_36 : decode cX6_fail 36 = .ok (.getfield 34, 3) := by decide +kernel
theorem d6_fail_39 : decode cX6_fail 39 = .ok (.iload_n 1, 1) := by decide +kernel
theorem d6_fail_40 : decode cX6_fail 40 = .ok (.baload, 1) := by decide +kernel
theorem d6_fail_41 : decode cX6_fail 41 = .ok (.ifCond .eq 7, 3) := by decide +kernel
theorem d6_fail_44 : decode cX6_fail 44 = .ok (.iconst 0, 1) := by decide +kernel
theorem d6_fail_45 : decode cX6_fail 45 = .ok (.goto 4, 3) := by decide +kernel
theorem d6_fail_48 : decode cX6_fail 48 = .ok (.iconst 1, 1) := by decide +kernel
theorem d6_fail_49 : decode cX6_fail 49 = .ok (.ireturn, 1) := by decide +kernel
noncomputable def f6_fail {α : Type} (p1 : Int32) (S : MS) (K : Int32 → MS → Option α) : Option α := f6_isTank p1 S fun r2 S1 => if r2 = 0 then (K (-1) S1) else (ck p1 6 fun k3 => if (S1.1 9 k3) = 0 then (ck p1 6 fun k8 => nm (sI S1 9 k8 (vp_nar .boolean 1)) fun S9 => nm (sI S9 0 28 0) fun S10 => ck p1 6 fun k11 => if (S10.1 9 k11) = 0 then (K 1 S10) else (K 0 S10)) else (ck p1 6 fun k4 => nm (sI S1 9 k4 (vp_nar .boolean 0)) fun S5 => nm (sI S5 0 28 0) fun S6 => ck p1 6 fun k7 => if (S6.1 9 k7) = 0 then (K 1 S6) else (K 0 S6)))
set_option maxHeartbeats 4000000 in
set_option maxRecDepth 100000 in
theorem c6_fail (l : Launch) (p1 : Int32) (S : MS) {α : Type} : CtI 22 eM l yX6_fail cX6_fail 2 (some .int) (rmG 2 46) S (fun ad => [.ref (ad 0), .int p1]) (α := α) (f6_fail p1 S) := by
  refine CtI.of (by decide) (fun _ => Nat.le_of_ble_eq_true rfl) (fun X K _ O hQ => ?_)
  have O : OK 22 X RX6 cX6_fail 2 (some .int) (rmG 2 46) := O
  show GM 22 eM X (f6_fail p1 S K) S 0 [(0, .ref (aX X 0)), (1, .int p1)] []
  unfold f6_fail
  refine r_aload_n O d6_fail_0 0 rfl ?_
  refine r_iload_n O d6_fail_1 1 rfl ?_
  refine r_callVi O (b := 0) (bv := fun ad => [.int p1]) (rest := []) (c6_isTank (lX X) p1 S) (fun _ => rfl) (by decide) eM_0 rfl rfl w_797 w_799 w_24 w_51 w_800 hy_X6_isTank ⟨rfl, rfl, Nat.le_of_ble_eq_true rfl, Nat.le_of_ble_eq_true rfl⟩ rfl rfl (Nat.le_of_ble_eq_true rfl) d6_fail_2 (fun r2 S1 => ?_)
  refine r_if_ne O 10 d6_fail_5 (by decide) ?_ ?_
  · refine r_aload_n O d6_fail_10 0 rfl ?_
    refine g_X6_34 O d6_fail_11 ?_
    refine r_iload_n O d6_fail_14 1 rfl ?_
    refine r_aload_n O d6_fail_15 0 rfl ?_
    refine g_X6_34 O d6_fail_16 ?_
    refine r_iload_n O d6_fail_19 1 rfl ?_
    refine r_zald O (j := 9) (by decide) eM_9 d6_fail_20 (fun k3 hk3 => ?_)
    refine r_if_ne O 28 d6_fail_21 (by decide) ?_ ?_
    · refine r_iconst O d6_fail_28 (v := 0) (by decide) ?_
      refine r_zast O (j := 9) (by decide) (fun _ => eM_9) d6_fail_29 (fun S5 => ?_)
      refine r_aload_n O d6_fail_30 0 rfl ?_
      refine r_iconst O d6_fail_31 (v := 0) (by decide) ?_
      refine p_X6_150 O (by decide) d6_fail_32 (fun S6 => ?_)
      refine r_aload_n O d6_fail_35 0 rfl ?_
      refine g_X6_34 O d6_fail_36 ?_
      refine r_iload_n O d6_fail_39 1 rfl ?_
      refine r_zald O (j := 9) (by decide) eM_9 d6_fail_40 (fun k7 hk7 => ?_)
      refine r_if_eq O 48 d6_fail_41 (by decide) ?_ ?_
      · refine r_iconst O d6_fail_48 (v := 1) (by decide) ?_
        exact r_iret O hQ d6_fail_49
      · refine r_iconst O d6_fail_44 (v := 0) (by decide) ?_
        refine r_goto O 49 d6_fail_45 (by decide) ?_
        exact r_iret O hQ d6_fail_49
    · refine r_iconst O d6_fail_24 (v := 1) (by decide) ?_
      refine r_goto O 29 d6_fail_25 (by decide) ?_
      refine r_zast O (j := 9) (by decide) (fun _ => eM_9) d6_fail_29 (fun S9 => ?_)
      refine r_aload_n O d6_fail_30 0 rfl ?_
      refine r_iconst O d6_fail_31 (v := 0) (by decide) ?_
      refine p_X6_150 O (by decide) d6_fail_32 (fun S10 => ?_)
      refine r_aload_n O d6_fail_35 0 rfl ?_
      refine g_X6_34 O d6_fail_36 ?_
      refine r_iload_n O d6_fail_39 1 rfl ?_
      refine r_zald O (j := 9) (by decide) eM_9 d6_fail_40 (fun k11 hk11 => ?_)
      refine r_if_eq O 48 d6_fail_41 (by decide) ?_ ?_
      · refine r_iconst O d6_fail_48 (v := 1) (by decide) ?_
        exact r_iret O hQ d6_fail_49
      · refine r_iconst O d6_fail_44 (v := 0) (by decide) ?_
        refine r_goto O 49 d6_fail_45 (by decide) ?_
        exact r_iret O hQ d6_fail_49
  · refine r_iconst O d6_fail_8 (v := (-1)) (by decide) ?_
    exact r_iret O hQ d6_fail_9
-- X6.measured
theorem d6_measured_0 : decode cX6_measured 0 = .ok (.aload_n 0, 1) := by decide +kernel
theorem d6_measured_1 : decode cX6_measured 1 = .ok (.iload_n 1, 1) := by decide +kernel
theorem d6_measured_2 : decode cX6_measured 2 = .ok (.bipush (-9), 2) := by decide +kernel
theorem d6_measured_4 : decode cX6_measured 4 = .ok (.invokevirtual 184, 3) := by decide +kernel
theorem d6_measured_7 : decode cX6_measured 7 = .ok (.iload_n 2, 1) := by decide +kernel
theorem d6_measured_8 : decode cX6_measured 8 = .ok (.ifCond .ne 10, 3) := by decide +kernel
theorem d6_measured_11 : decode cX6_measured 11 = .ok (.aload_n 0, 1) := by decide +kernel
theorem d6_measured_12 : decode cX6_measured 12 = .ok (.getfield 172, 3) := by decide +kernel
theorem d6_measured_15 : decode cX6_measured 15 = .ok (.goto 19, 3) := by decide +kernel
theorem d6_measured_18 : decode cX6_measured 18 = .ok (.iload_n 2, 1) := by decide +kernel
theorem d6_measured_19 : decode cX6_measured 19 = .ok (.iconst 1, 1) := by decide +kernel
theorem d6_measured_20 : decode cX6_measured 20 = .ok (.if_icmp .ne 10, 3) := by decide +kernel
theorem d6_measured_23 : decode cX6_measured 23 = .ok (.aload_n 0, 1) := by decide +kernel
theorem d6_measured_24 : decode cX6_measured 24 = .ok (.getfield 175, 3) := by decide +kernel
theorem d6_measured_27 : decode cX6_measured 27 = .ok (.goto 7, 3) := by decide +kernel
theorem d6_measured_30 : decode cX6_measured 30 = .ok (.aload_n 0, 1) := by decide +kernel
theorem d6_measured_31 : decode cX6_measured 31 = .ok (.getfield 178, 3) := by decide +kernel
theorem d6_measured_34 : decode cX6_measured 34 = .ok (.iconst 2, 1) := by decide +kernel
theorem d6_measured_35 : decode cX6_measured 35 = .ok (.idiv, 1) := by decide +kernel
theorem d6_measured_36 : decode cX6_measured 36 = .ok (.ireturn, 1) := by decide +kernel
noncomputable def f6_measured {α : Type} (p1 : Int32) (p2 : Int32) (S : MS) (K : Int32 → MS → Option α) : Option α := f6_weigh p1 (-9) S fun S1 => if p2 = 0 then (K ((S1.1 0 25) / 2) S1) else (if p2 = 1 then (K ((S1.1 0 26) / 2) S1) else (K ((S1.1 0 27) / 2) S1))
set_option maxHeartbeats 4000000 in
set_option maxRecDepth 100000 in
theorem c6_measured (l : Launch) (p1 : Int32) (p2 : Int32) (S : MS) {α : Type} : CtI 22 eM l yX6_measured cX6_measured 3 (some .int) (rmG 2 48) S (fun ad => [.ref (ad 0), .int p1, .int p2]) (α := α) (f6_measured p1 p2 S) := by
  refine CtI.of (by decide) (fun _ => Nat.le_of_ble_eq_true rfl) (fun X K _ O hQ => ?_)
  have O : OK 22 X RX6 cX6_measured 3 (some .int) (rmG 2 48) := O
  show GM 22 eM X (f6_measured p1 p2 S K) S 0 [(0, .ref (aX X 0)), (1, .int p1), (2, .int p2)] []
  unfold f6_measured
  refine r_aload_n O d6_measured_0 0 rfl ?_
  refine r_iload_n O d6_measured_1 1 rfl ?_
  refine r_bipush O d6_measured_2 (v := (-9)) (by decide) ?_
  refine r_callVv O (b := 0) (bv := fun ad => [.int p1, .int (-9)]) (rest := []) (c6_weigh (lX X) p1 (-9) S) (fun _ => rfl) (by decide) eM_0 rfl rfl w_817 w_819 w_29 w_51 w_820 hy_X6_weigh ⟨rfl, rfl, Nat.le_of_ble_eq_true rfl, Nat.le_of_ble_eq_true rfl⟩ rfl rfl (Nat.le_of_ble_eq_true rfl) d6_measured_4 (fun S1 => ?_)
  refine r_iload_n O d6_measured_7 2 rfl ?_
  refine r_if_ne O 18 d6_measured_8 (by decide) ?_ ?_
  · refine r_iload_n O d6_measured_18 2 rfl ?_
    refine r_iconst O d6_measured_19 (v := 1) (by decide) ?_
    refine r_icmp_ne O 30 d6_measured_20 (by decide) ?_ ?_
    · refine r_aload_n O d6_measured_30 0 rfl ?_
      refine g_X6_178 O d6_measured_31 ?_
      refine r_iconst O d6_measured_34 (v := 2) (by decide) ?_
      refine r_idiv_c O (by decide) d6_measured_35 ?_
      exact r_iret O hQ d6_measured_36
    · refine r_aload_n O d6_measured_23 0 rfl ?_
      refine g_X6_175 O d6_measured_24 ?_
      refine r_goto O 34 d6_measured_27 (by decide) ?_
      refine r_iconst O d6_measured_34 (v := 2) (by decide) ?_
      refine r_idiv_c O (by decide) d6_measured_35 ?_
      exact r_iret O hQ d6_measured_36
  · refine r_aload_n O d6_measured_11 0 rfl ?_
    refine g_X6_172 O d6_measured_12 ?_
    refine r_goto O 34 d6_measured_15 (by decide) ?_
    refine r_iconst O d6_measured_34 (v := 2) (by decide) ?_
    refine r_idiv_c O (by decide) d6_measured_35 ?_
    exact r_iret O hQ d6_measured_36
-- X6.measure
theorem d6_measure_0 : decode cX6_measure 0 = .ok (.iload_n 1, 1) := by decide +kernel
theorem d6_measure_1 : decode cX6_measure 1 = .ok (.i2l, 1) := by decide +kernel
theorem d6_measure_2 : decode cX6_measure 2 = .ok (.lconst 0, 1) := by decide +kernel
theorem d6_measure_3 : decode cX6_measure 3 = .ok (.ldc2_w 81, 3) := by decide +kernel
theorem d6_measure_6 : decode cX6_measure 6 = .ok (.invokestatic 83, 3) := by decide +kernel
theorem d6_measure_9 : decode cX6_measure 9 = .ok (.ifCond .ne 6, 3) := by decide +kernel
theorem d6_measure_12 : decode cX6_measure 12 = .ok (.bipush (-2), 2) := by decide +kernel
theorem d6_measure_14 : decode cX6_measure 14 = .ok (.ireturn, 1) := by decide +kernel
theorem d6_measure_15 : decode cX6_measure 15 = .ok (.aload_n 0, 1) := by decide +kernel
theorem d6_measure_16 : decode cX6_measure 16 = .ok (.getfield 89, 3) := by decide +kernel
theorem d6_measure_19 : decode cX6_measure 19 = .ok (.ifCond .ne 6, 3) := by decide +kernel
theorem d6_measure_22 : decode cX6_measure 22 = .ok (.bipush (-3), 2) := by decide +kernel
theorem d6_measure_24 : decode cX6_measure 24 = .ok (.ireturn, 1) := by decide +kernel
theorem d6_measure_25 : decode cX6_measure 25 = .ok (.iload_n 1, 1) := by decide +kernel
theorem d6_measure_26 : decode cX6_measure 26 = .ok (.iconst 3, 1) := by decide +kernel
theorem d6_measure_27 : decode cX6_measure 27 = .ok (.if_icmp .ne 22, 3) := by decide +kernel
theorem d6_measure_30 : decode cX6_measure 30 = .ok (.aload_n 0, 1) := by decide +kernel
theorem d6_measure_31 : decode cX6_measure 31 = .ok (.aload_n 0, 1) := by decide +kernel
theorem d6_measure_32 : decode cX6_measure 32 = .ok (.getfield 141, 3) := by decide +kernel
theorem d6_measure_35 : decode cX6_measure 35 = .ok (.bipush (-9), 2) := by decide +kernel
theorem d6_measure_37 : decode cX6_measure 37 = .ok (.invokevirtual 188, 3) := by decide +kernel
theorem d6_measure_40 : decode cX6_measure 40 = .ok (.ifCond .eq 7, 3) := by decide +kernel
theorem d6_measure_43 : decode cX6_measure 43 = .ok (.iconst 1, 1) := by decide +kernel
theorem d6_measure_44 : decode cX6_measure 44 = .ok (.goto 4, 3) := by decide +kernel
theorem d6_measure_47 : decode cX6_measure 47 = .ok (.iconst 0, 1) := by decide +kernel
theorem d6_measure_48 : decode cX6_measure 48 = .ok (.ireturn, 1) := by decide +kernel
theorem d6_measure_49 : decode cX6_measure 49 = .ok (.aload_n 0, 1) := by decide +kernel
theorem d6_measure_50 : decode cX6_measure 50 = .ok (.aload_n 0, 1) := by decide +kernel
theorem d6_measure_51 : decode cX6_measure 51 = .ok (.getfield 141, 3) := by decide +kernel
theorem d6_measure_54 : decode cX6_measure 54 = .ok (.iload_n 1, 1) := by decide +kernel
theorem d6_measure_55 : decode cX6_measure 55 = .ok (.invokevirtual 194, 3) := by decide +kernel
theorem d6_measure_58 : decode cX6_measure 58 = .ok (.iload_n 1, 1) := by decide +kernel
theorem d6_measure_59 : decode cX6_measure 59 = .ok (.iconst 2, 1) := by decide +kernel
theorem d6_measure_60 : decode cX6_measure 60 = .ok (.if_icmp .ge 9, 3) := by decide +kernel
theorem d6_measure_63 : decode cX6_measure 63 = .ok (.sipush 1000, 3) := by decide +kernel
theorem d6_measure_66 : decode cX6_measure 66 = .ok (.goto 4, 3) := by decide +kernel
theorem d6_measure_69 : decode cX6_measure 69 = .ok (.iconst 0, 1) := by decide +kernel
theorem d6_measure_70 : decode cX6_measure 70 = .ok (.iadd, 1) := by decide +kernel
theorem d6_measure_71 : decode cX6_measure 71 = .ok (.ireturn, 1) := by decide +kernel
noncomputable def f6_measure {α : Type} (p1 : Int32) (S : MS) (K : Int32 → MS → Option α) : Option α := f6_within (Int32.toInt64 p1) 0 3 S fun r2 S1 => if r2 = 0 then (K (-2) S1) else (if (S1.1 0 6) = 0 then (K (-3) S1) else (if p1 = 3 then (f6_isSafe (S1.1 0 14) (-9) S1 fun r6 S5 => if r6 = 0 then (K 0 S5) else (K 1 S5)) else (f6_measured (S1.1 0 14) p1 S1 fun r4 S3 => if 2 ≤ p1 then (K (r4 + 0) S3) else (K (r4 + 1000) S3))))
set_option maxHeartbeats 4000000 in
set_option maxRecDepth 100000 in
theorem c6_measure (l : Launch) (p1 : Int32) (S : MS) {α : Type} : CtI 22 eM l yX6_measure cX6_measure 2 (some .int) (rmG 3 70) S (fun ad => [.ref (ad 0), .int p1]) (α := α) (f6_measure p1 S) := by
  refine CtI.of (by decide) (fun _ => Nat.le_of_ble_eq_true rfl) (fun X K _ O hQ => ?_)
  have O : OK 22 X RX6 cX6_measure 2 (some .int) (rmG 3 70) := O
  show GM 22 eM X (f6_measure p1 S K) S 0 [(0, .ref (aX X 0)), (1, .int p1)] []
  unfold f6_measure
  refine r_iload_n O d6_measure_0 1 rfl ?_
  refine r_i2l O d6_measure_1 ?_
  refine r_lconst O d6_measure_2 (v := 0) (by decide) ?_
  refine r_ldc2 O (v := 3) w_752 d6_measure_3 ?_
  refine r_callSi O (rest := []) (c6_within (lX X) (Int32.toInt64 p1) 0 3 S) w_753 w_754 w_51 w_755 hy_X6_within ⟨rfl, rfl, Nat.le_of_ble_eq_true rfl, Nat.le_of_ble_eq_true rfl⟩ rfl rfl (Nat.le_of_ble_eq_true rfl) d6_measure_6 (fun r2 S1 => ?_)
  refine r_if_ne O 15 d6_measure_9 (by decide) ?_ ?_
  · refine r_aload_n O d6_measure_15 0 rfl ?_
    refine g_X6_89 O d6_measure_16 ?_
    refine r_if_ne O 25 d6_measure_19 (by decide) ?_ ?_
    · refine r_iload_n O d6_measure_25 1 rfl ?_
      refine r_iconst O d6_measure_26 (v := 3) (by decide) ?_
      refine r_icmp_ne O 49 d6_measure_27 (by decide) ?_ ?_
      · refine r_aload_n O d6_measure_49 0 rfl ?_
        refine r_aload_n O d6_measure_50 0 rfl ?_
        refine g_X6_141 O d6_measure_51 ?_
        refine r_iload_n O d6_measure_54 1 rfl ?_
        refine r_callVi O (b := 0) (bv := fun ad => [.int (S1.1 0 14), .int p1]) (rest := []) (c6_measured (lX X) (S1.1 0 14) p1 S1) (fun _ => rfl) (by decide) eM_0 rfl rfl w_850 w_852 w_31 w_51 w_853 hy_X6_measured ⟨rfl, rfl, Nat.le_of_ble_eq_true rfl, Nat.le_of_ble_eq_true rfl⟩ rfl rfl (Nat.le_of_ble_eq_true rfl) d6_measure_55 (fun r4 S3 => ?_)
        refine r_iload_n O d6_measure_58 1 rfl ?_
        refine r_iconst O d6_measure_59 (v := 2) (by decide) ?_
        refine r_icmp_ge O 69 d6_measure_60 (by decide) ?_ ?_
        · refine r_iconst O d6_measure_69 (v := 0) (by decide) ?_
          refine r_iadd O d6_measure_70 ?_
          exact r_iret O hQ d6_measure_71
        · refine r_sipush O d6_measure_63 (v := 1000) (by decide) ?_
          refine r_goto O 70 d6_measure_66 (by decide) ?_
          refine r_iadd O d6_measure_70 ?_
          exact r_iret O hQ d6_measure_71
      · refine r_aload_n O d6_measure_30 0 rfl ?_
        refine r_aload_n O d6_measure_31 0 rfl ?_
        refine g_X6_141 O d6_measure_32 ?_
        refine r_bipush O d6_measure_35 (v := (-9)) (by decide) ?_
        refine r_callVi O (b := 0) (bv := fun ad => [.int (S1.1 0 14), .int (-9)]) (rest := []) (c6_isSafe (lX X) (S1.1 0 14) (-9) S1) (fun _ => rfl) (by decide) eM_0 rfl rfl w_813 w_815 w_28 w_51 w_816 hy_X6_isSafe ⟨rfl, rfl, Nat.le_of_ble_eq_true rfl, Nat.le_of_ble_eq_true rfl⟩ rfl rfl (Nat.le_of_ble_eq_true rfl) d6_measure_37 (fun r6 S5 => ?_)
        refine r_if_eq O 47 d6_measure_40 (by decide) ?_ ?_
        · refine r_iconst O d6_measure_47 (v := 0) (by decide) ?_
          exact r_iret O hQ d6_measure_48
        · refine r_iconst O d6_measure_43 (v := 1) (by decide) ?_
          refine r_goto O 48 d6_measure_44 (by decide) ?_
          exact r_iret O hQ d6_measure_48
    · refine r_bipush O d6_measure_22 (v := (-3)) (by decide) ?_
      exact r_iret O hQ d6_measure_24
  · refine r_bipush O d6_measure_12 (v := (-2)) (by decide) ?_
    exact r_iret O hQ d6_measure_14
-- X6.moment
theorem d6_moment_0 : decode cX6_moment 0 = .ok (.iload_n 1, 1) := by decide +kernel
theorem d6_moment_1 : decode cX6_moment 1 = .ok (.i2l, 1) := by decide +kernel
theorem d6_moment_2 : decode cX6_moment 2 = .ok (.lconst 0, 1) := by decide +kernel
theorem d6_moment_3 : decode cX6_moment 3 = .ok (.ldc2_w 197, 3) := by decide +kernel
theorem d6_moment_6 : decode cX6_moment 6 = .ok (.invokestatic 83, 3) := by decide +kernel
theorem d6_moment_9 : decode cX6_moment 9 = .ok (.ifCond .ne 6, 3) := by decide +kernel
theorem d6_moment_12 : decode cX6_moment 12 = .ok (.bipush (-2), 2) := by decide +kernel
theorem d6_moment_14 : decode cX6_moment 14 = .ok (.ireturn, 1) := by decide +kernel
theorem d6_moment_15 : decode cX6_moment 15 = .ok (.aload_n 0, 1) := by decide +kernel
theorem d6_moment_16 : decode cX6_moment 16 = .ok (.getfield 89, 3) := by decide +kernel
theorem d6_moment_19 : decode cX6_moment 19 = .ok (.ifCond .ne 6, 3) := by decide +kernel
theorem d6_moment_22 : decode cX6_moment 22 = .ok (.bipush (-3), 2) := by decide +kernel
theorem d6_moment_24 : decode cX6_moment 24 = .ok (.ireturn, 1) := by decide +kernel
theorem d6_moment_25 : decode cX6_moment 25 = .ok (.aload_n 0, 1) := by decide +kernel
theorem d6_moment_26 : decode cX6_moment 26 = .ok (.aload_n 0, 1) := by decide +kernel
theorem d6_moment_27 : decode cX6_moment 27 = .ok (.getfield 141, 3) := by decide +kernel
theorem d6_moment_30 : decode cX6_moment 30 = .ok (.bipush (-9), 2) := by decide +kernel
theorem d6_moment_32 : decode cX6_moment 32 = .ok (.invokevirtual 184, 3) := by decide +kernel
theorem d6_moment_35 : decode cX6_moment 35 = .ok (.aload_n 0, 1) := by decide +kernel
theorem d6_moment_36 : decode cX6_moment 36 = .ok (.getfield 56, 3) := by decide +kernel
theorem d6_moment_39 : decode cX6_moment 39 = .ok (.iload_n 1, 1) := by decide +kernel
theorem d6_moment_40 : decode cX6_moment 40 = .ok (.iaload, 1) := by decide +kernel
theorem d6_moment_41 : decode cX6_moment 41 = .ok (.iconst 2, 1) := by decide +kernel
theorem d6_moment_42 : decode cX6_moment 42 = .ok (.idiv, 1) := by decide +kernel
theorem d6_moment_43 : decode cX6_moment 43 = .ok (.sipush 10000, 3) := by decide +kernel
theorem d6_moment_46 : decode cX6_moment 46 = .ok (.iadd, 1) := by decide +kernel
theorem d6_moment_47 : decode cX6_moment 47 = .ok (.ireturn, 1) := by decide +kernel
noncomputable def f6_moment {α : Type} (p1 : Int32) (S : MS) (K : Int32 → MS → Option α) : Option α := f6_within (Int32.toInt64 p1) 0 6 S fun r2 S1 => if r2 = 0 then (K (-2) S1) else (if (S1.1 0 6) = 0 then (K (-3) S1) else (f6_weigh (S1.1 0 14) (-9) S1 fun S3 => ck p1 7 fun k5 => K (((S3.1 16 k5) / 2) + 10000) S3))
set_option maxHeartbeats 4000000 in
set_option maxRecDepth 100000 in
theorem c6_moment (l : Launch) (p1 : Int32) (S : MS) {α : Type} : CtI 22 eM l yX6_moment cX6_moment 2 (some .int) (rmG 2 48) S (fun ad => [.ref (ad 0), .int p1]) (α := α) (f6_moment p1 S) := by
  refine CtI.of (by decide) (fun _ => Nat.le_of_ble_eq_true rfl) (fun X K _ O hQ => ?_)
  have O : OK 22 X RX6 cX6_moment 2 (some .int) (rmG 2 48) := O
  show GM 22 eM X (f6_moment p1 S K) S 0 [(0, .ref (aX X 0)), (1, .int p1)] []
  unfold f6_moment
  refine r_iload_n O d6_moment_0 1 rfl ?_
  refine r_i2l O d6_moment_1 ?_
  refine r_lconst O d6_moment_2 (v := 0) (by decide) ?_
  refine r_ldc2 O (v := 6) w_858 d6_moment_3 ?_
  refine r_callSi O (rest := []) (c6_within (lX X) (Int32.toInt64 p1) 0 6 S) w_753 w_754 w_51 w_755 hy_X6_within ⟨rfl, rfl, Nat.le_of_ble_eq_true rfl, Nat.le_of_ble_eq_true rfl⟩ rfl rfl (Nat.le_of_ble_eq_true rfl) d6_moment_6 (fun r2 S1 => ?_)
  refine r_if_ne O 15 d6_moment_9 (by decide) ?_ ?_
  · refine r_aload_n O d6_moment_15 0 rfl ?_
    refine g_X6_89 O d6_moment_16 ?_
    refine r_if_ne O 25 d6_moment_19 (by decide) ?_ ?_
    · refine r_aload_n O d6_moment_25 0 rfl ?_
      refine r_aload_n O d6_moment_26 0 rfl ?_
      refine g_X6_141 O d6_moment_27 ?_
      refine r_bipush O d6_moment_30 (v := (-9)) (by decide) ?_
      refine r_callVv O (b := 0) (bv := fun ad => [.int (S1.1 0 14), .int (-9)]) (rest := []) (c6_weigh (lX X) (S1.1 0 14) (-9) S1) (fun _ => rfl) (by decide) eM_0 rfl rfl w_817 w_819 w_29 w_51 w_820 hy_X6_weigh ⟨rfl, rfl, Nat.le_of_ble_eq_true rfl, Nat.le_of_ble_eq_true rfl⟩ rfl rfl (Nat.le_of_ble_eq_true rfl) d6_moment_32 (fun S3 => ?_)
      refine r_aload_n O d6_moment_35 0 rfl ?_
      refine g_X6_56 O d6_moment_36 ?_
      refine r_iload_n O d6_moment_39 1 rfl ?_
      refine r_iald O (j := 16) (by decide) eM_16 d6_moment_40 (fun k5 hk5 => ?_)
      refine r_iconst O d6_moment_41 (v := 2) (by decide) ?_
      refine r_idiv_c O (by decide) d6_moment_42 ?_
      refine r_sipush O d6_moment_43 (v := 10000) (by decide) ?_
      refine r_iadd O d6_moment_46 ?_
      exact r_iret O hQ d6_moment_47
    · refine r_bipush O d6_moment_22 (v := (-3)) (by decide) ?_
      exact r_iret O hQ d6_moment_24
  · refine r_bipush O d6_moment_12 (v := (-2)) (by decide) ?_
    exact r_iret O hQ d6_moment_14
-- X6.pump
theorem d6_pump_0 : decode cX6_pump 0 = .ok (.aload_n 0, 1) := by decide +kernel
theorem d6_pump_1 : decode cX6_pump 1 = .ok (.iload_n 1, 1) := by decide +kernel
theorem d6_pump_2 : decode cX6_pump 2 = .ok (.invokevirtual 154, 3) := by decide +kernel
theorem d6_pump_5 : decode cX6_pump 5 = .ok (.ifCond .ne 5, 3) := by decide +kernel
theorem d6_pump_8 : decode cX6_pump 8 = .ok (.iconst (-1), 1) := by decide +kernel
theorem d6_pump_9 : decode cX6_pump 9 = .ok (.ireturn, 1) := by decide +kernel
theorem d6_pump_10 : decode cX6_pump 10 = .ok (.aload_n 0, 1) := by decide +kernel
theorem d6_pump_11 : decode cX6_pump 11 = .ok (.aload_n 0, 1) := by decide +kernel
theorem d6_pump_12 : decode cX6_pump 12 = .ok (.getfield 141, 3) := by decide +kernel
theorem d6_pump_15 : decode cX6_pump 15 = .ok (.iload_n 1, 1) := by decide +kernel
theorem d6_pump_16 : decode cX6_pump 16 = .ok (.invokevirtual 164, 3) := by decide +kernel
theorem d6_pump_19 : decode cX6_pump 19 = .ok (.ifCond .ne 6, 3) := by decide +kernel
theorem d6_pump_22 : decode cX6_pump 22 = .ok (.bipush (-3), 2) := by decide +kernel
theorem d6_pump_24 : decode cX6_pump 24 = .ok (.ireturn, 1) := by decide +kernel
theorem d6_pump_25 : decode cX6_pump 25 = .ok (.aload_n 0, 1) := by decide +kernel
theorem d6_pump_26 : decode cX6_pump 26 = .ok (.aload_n 0, 1) := by decide +kernel
theorem d6_pump_27 : decode cX6_pump 27 = .ok (.aload_n 0, 1) := by decide +kernel
theorem d6_pump_28 : decode cX6_pump 28 = .ok (.getfield 141, 3) := by decide +kernel
theorem d6_pump_31 : decode cX6_pump 31 = .ok (.iload_n 1, 1) := by decide +kernel
theorem d6_pump_32 : decode cX6_pump 32 = .ok (.invokevirtual 191, 3) := by decide +kernel
theorem d6_pump_35 : decode cX6_pump 35 = .ok (.putfield 141, 3) := by decide +kernel
theorem d6_pump_38 : decode cX6_pump 38 = .ok (.aload_n 0, 1) := by decide +kernel
theorem d6_pump_39 : decode cX6_pump 39 = .ok (.iconst 0, 1) := by decide +kernel
theorem d6_pump_40 : decode cX6_pump 40 = .ok (.putfield 150, 3) := by decide +kernel
theorem d6_pump_43 : decode cX6_pump 43 = .ok (.aload_n 0, 1) := by decide +kernel
theorem d6_pump_44 : decode cX6_pump 44 = .ok (.aload_n 0, 1) := by decide +kernel
theorem d6_pump_45 : decode cX6_pump 45 = .ok (.getfield 141, 3) := by decide +kernel
theorem d6_pump_48 : decode cX6_pump 48 = .ok (.iload_n 1, 1) := by decide +kernel
theorem d6_pump_49 : decode cX6_pump 49 = .ok (.invokevirtual 160, 3) := by decide +kernel
theorem d6_pump_52 : decode cX6_pump 52 = .ok (.ireturn, 1) := by decide +kernel
noncomputable def f6_pump {α : Type} (p1 : Int32) (S : MS) (K : Int32 → MS → Option α) : Option α := f6_isTank p1 S fun r2 S1 => if r2 = 0 then (K (-1) S1) else (f6_canPump (S1.1 0 14) p1 S1 fun r4 S3 => if r4 = 0 then (K (-3) S3) else (f6_pumped (S3.1 0 14) p1 S3 fun r6 S5 => nm (sI S5 0 14 r6) fun S7 => nm (sI S7 0 28 0) fun S8 => f6_waterIn (S8.1 0 14) p1 S8 fun r10 S9 => K r10 S9))
set_option maxHeartbeats 4000000 in
set_option maxRecDepth 100000 in
theorem c6_pump (l : Launch) (p1 : Int32) (S : MS) {α : Type} : CtI 22 eM l yX6_pump cX6_pump 2 (some .int) (rmG 4 92) S (fun ad => [.ref (ad 0), .int p1]) (α := α) (f6_pump p1 S) := by
  refine CtI.of (by decide) (fun _ => Nat.le_of_ble_eq_true rfl) (fun X K _ O hQ => ?_)
  have O : OK 22 X RX6 cX6_pump 2 (some .int) (rmG 4 92) := O
  show GM 22 eM X (f6_pump p1 S K) S 0 [(0, .ref (aX X 0)), (1, .int p1)] []
  unfold f6_pump
  refine r_aload_n O d6_pump_0 0 rfl ?_
  refine r_iload_n O d6_pump_1 1 rfl ?_
  refine r_callVi O (b := 0) (bv := fun ad => [.int p1]) (rest := []) (c6_isTank (lX X) p1 S) (fun _ => rfl) (by decide) eM_0 rfl rfl w_797 w_799 w_24 w_51 w_800 hy_X6_isTank ⟨rfl, rfl, Nat.le_of_ble_eq_true rfl, Nat.le_of_ble_eq_true rfl⟩ rfl rfl (Nat.le_of_ble_eq_true rfl) d6_pump_2 (fun r2 S1 => ?_)
  refine r_if_ne O 10 d6_pump_5 (by decide) ?_ ?_
  · refine r_aload_n O d6_pump_10 0 rfl ?_
    refine r_aload_n O d6_pump_11 0 rfl ?_
    refine g_X6_141 O d6_pump_12 ?_
    refine r_iload_n O d6_pump_15 1 rfl ?_
    refine r_callVi O (b := 0) (bv := fun ad => [.int (S1.1 0 14), .int p1]) (rest := []) (c6_canPump (lX X) (S1.1 0 14) p1 S1) (fun _ => rfl) (by decide) eM_0 rfl rfl w_809 w_811 w_27 w_51 w_812 hy_X6_canPump ⟨rfl, rfl, Nat.le_of_ble_eq_true rfl, Nat.le_of_ble_eq_true rfl⟩ rfl rfl (Nat.le_of_ble_eq_true rfl) d6_pump_16 (fun r4 S3 => ?_)
    refine r_if_ne O 25 d6_pump_19 (by decide) ?_ ?_
    · refine r_aload_n O d6_pump_25 0 rfl ?_
      refine r_aload_n O d6_pump_26 0 rfl ?_
      refine r_aload_n O d6_pump_27 0 rfl ?_
      refine g_X6_141 O d6_pump_28 ?_
      refine r_iload_n O d6_pump_31 1 rfl ?_
      refine r_callVi O (b := 0) (bv := fun ad => [.int (S3.1 0 14), .int p1]) (rest := [.ref (aX X 0)]) (c6_pumped (lX X) (S3.1 0 14) p1 S3) (fun _ => rfl) (by decide) eM_0 rfl rfl w_824 w_826 w_30 w_51 w_827 hy_X6_pumped ⟨rfl, rfl, Nat.le_of_ble_eq_true rfl, Nat.le_of_ble_eq_true rfl⟩ rfl rfl (Nat.le_of_ble_eq_true rfl) d6_pump_32 (fun r6 S5 => ?_)
      refine p_X6_141 O d6_pump_35 (fun S7 => ?_)
      refine r_aload_n O d6_pump_38 0 rfl ?_
      refine r_iconst O d6_pump_39 (v := 0) (by decide) ?_
      refine p_X6_150 O (by decide) d6_pump_40 (fun S8 => ?_)
      refine r_aload_n O d6_pump_43 0 rfl ?_
      refine r_aload_n O d6_pump_44 0 rfl ?_
      refine g_X6_141 O d6_pump_45 ?_
      refine r_iload_n O d6_pump_48 1 rfl ?_
      refine r_callVi O (b := 0) (bv := fun ad => [.int (S8.1 0 14), .int p1]) (rest := []) (c6_waterIn (lX X) (S8.1 0 14) p1 S8) (fun _ => rfl) (by decide) eM_0 rfl rfl w_805 w_807 w_26 w_51 w_808 hy_X6_waterIn ⟨rfl, rfl, Nat.le_of_ble_eq_true rfl, Nat.le_of_ble_eq_true rfl⟩ rfl rfl (Nat.le_of_ble_eq_true rfl) d6_pump_49 (fun r10 S9 => ?_)
      exact r_iret O hQ d6_pump_52
    · refine r_bipush O d6_pump_22 (v := (-3)) (by decide) ?_
      exact r_iret O hQ d6_pump_24
  · refine r_iconst O d6_pump_8 (v := (-1)) (by decide) ?_
    exact r_iret O hQ d6_pump_9
-- X6.isEnd
theorem d6_isEnd_0 : decode cX6_isEnd 0 = .ok (.iconst 0, 1) := by decide +kernel
theorem d6_isEnd_1 : decode cX6_isEnd 1 = .ok (.istore_n 2, 1) := by decide +kernel
theorem d6_isEnd_2 : decode cX6_isEnd 2 = .ok (.iload_n 2, 1) := by decide +kernel
theorem d6_isEnd_3 : decode cX6_isEnd 3 = .ok (.aload_n 0, 1) := by decide +kernel
theorem d6_isEnd_4 : decode cX6_isEnd 4 = .ok (.getfield 89, 3) := by decide +kernel
theorem d6_isEnd_7 : decode cX6_isEnd 7 = .ok (.if_icmp .ge 88, 3) := by decide +kernel
theorem d6_isEnd_10 : decode cX6_isEnd 10 = .ok (.aload_n 0, 1) := by decide +kernel
theorem d6_isEnd_11 : decode cX6_isEnd 11 = .ok (.iload_n 1, 1) := by decide +kernel
theorem d6_isEnd_12 : decode cX6_isEnd 12 = .ok (.iload_n 2, 1) := by decide +kernel
theorem d6_isEnd_13 : decode cX6_isEnd 13 = .ok (.invokevirtual 160, 3) := by decide +kernel
theorem d6_isEnd_16 : decode cX6_isEnd 16 = .ok (.istore_n 3, 1) := by decide +kernel
theorem d6_isEnd_17 : decode cX6_isEnd 17 = .ok (.aload_n 0, 1) := by decide +kernel
theorem d6_isEnd_18 : decode cX6_isEnd 18 = .ok (.aload_n 0, 1) := by decide +kernel
theorem d6_isEnd_19 : decode cX6_isEnd 19 = .ok (.getfield 141, 3) := by decide +kernel
theorem d6_isEnd_22 : decode cX6_isEnd 22 = .ok (.iload_n 2, 1) := by decide +kernel
theorem d6_isEnd_23 : decode cX6_isEnd 23 = .ok (.invokevirtual 160, 3) := by decide +kernel
theorem d6_isEnd_26 : decode cX6_isEnd 26 = .ok (.ifCond .eq 7, 3) := by decide +kernel
theorem d6_isEnd_29 : decode cX6_isEnd 29 = .ok (.iconst 1, 1) := by decide +kernel
theorem d6_isEnd_30 : decode cX6_isEnd 30 = .ok (.goto 4, 3) := by decide +kernel
theorem d6_isEnd_33 : decode cX6_isEnd 33 = .ok (.iconst 0, 1) := by decide +kernel
theorem d6_isEnd_34 : decode cX6_isEnd 34 = .ok (.istore 4, 2) := by decide +kernel
theorem d6_isEnd_36 : decode cX6_isEnd 36 = .ok (.aload_n 0, 1) := by decide +kernel
theorem d6_isEnd_37 : decode cX6_isEnd 37 = .ok (.getfield 144, 3) := by decide +kernel
theorem d6_isEnd_40 : decode cX6_isEnd 40 = .ok (.iload_n 2, 1) := by decide +kernel
theorem d6_isEnd_41 : decode cX6_isEnd 41 = .ok (.ishr, 1) := by decide +kernel
theorem d6_isEnd_42 : decode cX6_isEnd 42 = .ok (.iconst 1, 1) := by decide +kernel
theorem d6_isEnd_43 : decode cX6_isEnd 43 = .ok (.iand, 1) := by decide +kernel
theorem d6_isEnd_44 : decode cX6_isEnd 44 = .ok (.iconst 1, 1) := by decide +kernel
theorem d6_isEnd_45 : decode cX6_isEnd 45 = .ok (.if_icmp .ne 16, 3) := by decide +kernel
theorem d6_isEnd_48 : decode cX6_isEnd 48 = .ok (.iload_n 3, 1) := by decide +kernel
theorem d6_isEnd_49 : decode cX6_isEnd 49 = .ok (.iconst 2, 1) := by decide +kernel
theorem d6_isEnd_50 : decode cX6_isEnd 50 = .ok (.if_icmp .ne 7, 3) := by decide +kernel
theorem d6_isEnd_53 : decode cX6_isEnd 53 = .ok (.iconst 1, 1) := by decide +kernel
theorem d6_isEnd_54 : decode cX6_isEnd 54 = .ok (.goto 26, 3) := by decide +kernel
theorem d6_isEnd_57 : decode cX6_isEnd 57 = .ok (.iconst 0, 1) := by decide +kernel
theorem d6_isEnd_58 : decode cX6_isEnd 58 = .ok (.goto 22, 3) := by decide +kernel
theorem d6_isEnd_61 : decode cX6_isEnd 61 = .ok (.iload 4, 2) := by decide +kernel
theorem d6_isEnd_63 : decode cX6_isEnd 63 = .ok (.iload_n 3, 1) := by decide +kernel
theorem d6_isEnd_64 : decode cX6_isEnd 64 = .ok (.ifCond .eq 7, 3) := by decide +kernel
theorem d6_isEnd_67 : decode cX6_isEnd 67 = .ok (.iconst 1, 1) := by decide +kernel
theorem d6_isEnd_68 : decode cX6_isEnd 68 = .ok (.goto 4, 3) := by decide +kernel
theorem d6_isEnd_71 : decode cX6_isEnd 71 = .ok (.iconst 0, 1) := by decide +kernel
theorem d6_isEnd_72 : decode cX6_isEnd 72 = .ok (.if_icmp .ne 7, 3) := by decide +kernel
theorem d6_isEnd_75 : decode cX6_isEnd 75 = .ok (.iconst 1, 1) := by decide +kernel
theorem d6_isEnd_76 : decode cX6_isEnd 76 = .ok (.goto 4, 3) := by decide +kernel
theorem d6_isEnd_79 : decode cX6_isEnd 79 = .ok (.iconst 0, 1) := by decide +kernel
theorem d6_isEnd_80 : decode cX6_isEnd 80 = .ok (.istore 5, 2) := by decide +kernel
theorem d6_isEnd_82 : decode cX6_isEnd 82 = .ok (.iload 5, 2) := by decide +kernel
theorem d6_isEnd_84 : decode cX6_isEnd 84 = .ok (.ifCond .ne 5, 3) := by decide +kernel
theorem d6_isEnd_87 : decode cX6_isEnd 87 = .ok (.iconst 0, 1) := by decide +kernel
theorem d6_isEnd_88 : decode cX6_isEnd 88 = .ok (.ireturn, 1) := by decide +kernel
theorem d6_isEnd_89 : decode cX6_isEnd 89 = .ok (.iinc 2 1, 3) := by decide +kernel
theorem d6_isEnd_92 : decode cX6_isEnd 92 = .ok (.goto (-90), 3) := by decide +kernel
theorem d6_isEnd_95 : decode cX6_isEnd 95 = .ok (.iconst 1, 1) := by decide +kernel
theorem d6_isEnd_96 : decode cX6_isEnd 96 = .ok (.ireturn, 1) := by decide +kernel
noncomputable def f6_isEnd_J72 {α : Type} (c1 : Int32) (c2 : Int32) (s0 : Int32) (s1 : Int32) (S : MS) (K : Int32 → MS → Option α) (KB : Int32 → MS → Option α) (KX : Int32 → MS → Option α) : Option α := if s1 = s0 then (if (1 : Int32) = 0 then (K 0 S) else (nm (c2 + 1) fun x2_6 => KB x2_6 S)) else (if (0 : Int32) = 0 then (K 0 S) else (nm (c2 + 1) fun x2_5 => KB x2_5 S))
noncomputable def f6_isEnd_J34 {α : Type} (c1 : Int32) (c2 : Int32) (c3 : Int32) (s0 : Int32) (S : MS) (K : Int32 → MS → Option α) (KB : Int32 → MS → Option α) (KX : Int32 → MS → Option α) : Option α := if (((S.1 0 13) >>> (c2 &&& 31)) &&& 1) = 1 then (if c3 = 2 then (if (1 : Int32) = 0 then (K 0 S) else (nm (c2 + 1) fun x2_8 => KB x2_8 S)) else (if (0 : Int32) = 0 then (K 0 S) else (nm (c2 + 1) fun x2_7 => KB x2_7 S))) else (if c3 = 0 then (f6_isEnd_J72 c1 c2 0 s0 S K KB KX) else (f6_isEnd_J72 c1 c2 1 s0 S K KB KX))
noncomputable def f6_isEnd_L2 {α : Type} (c1 : Int32) (K : Int32 → MS → Option α) (KX : Int32 → MS → Option α) : Nat → Int32 → MS → Option α
  | 0, _, _ => none
  | n + 1, v2, S => if (S.1 0 6) ≤ v2 then (KX v2 S) else (f6_waterIn c1 v2 S fun r2 S1 => f6_waterIn (S1.1 0 14) v2 S1 fun r4 S3 => if r4 = 0 then (f6_isEnd_J34 c1 v2 r2 0 S3 K (f6_isEnd_L2 c1 K KX n) KX) else (f6_isEnd_J34 c1 v2 r2 1 S3 K (f6_isEnd_L2 c1 K KX n) KX))
noncomputable def f6_isEnd {α : Type} (p1 : Int32) (S : MS) (K : Int32 → MS → Option α) : Option α := f6_isEnd_L2 p1 K (fun v2_10 S9 => K 1 S9) FU 0 S
set_option maxHeartbeats 4000000 in
set_option maxRecDepth 100000 in
theorem j6_isEnd_72 {α : Type} {X : GX α} (O : OK 22 X RX6 cX6_isEnd 6 (some .boolean) (rmG 1 22)) {K : Int32 → MS → Option α} (hQ : RtI 22 eM X K) {c1 : Int32} {c2 : Int32} {s0 : Int32} {s1 : Int32} {S : MS} {KB : Int32 → MS → Option α} {KX : Int32 → MS → Option α} (hB : ∀ v2q S, GM 22 eM X (KB v2q S) S 2 [(0, .ref (aX X 0)), (1, .int c1), (2, .int v2q)] []) (hX : ∀ v2q S, GM 22 eM X (KX v2q S) S 95 [(0, .ref (aX X 0)), (1, .int c1), (2, .int v2q)] []) : GM 22 eM X (f6_isEnd_J72 c1 c2 s0 s1 S K KB KX) S 72 [(0, .ref (aX X 0)), (1, .int c1), (2, .int c2)] [.int s0, .int s1] := by
  unfold f6_isEnd_J72
  refine r_icmp_ne O 79 d6_isEnd_72 (by decide) ?_ ?_
  · refine r_iconst O d6_isEnd_79 (v := 0) (by decide) ?_
    refine r_istore O d6_isEnd_80 [(5, .int 0), (0, .ref (aX X 0)), (1, .int c1), (2, .int c2)] (by decide) rfl ?_
    refine r_iload O d6_isEnd_82 0 rfl ?_
    refine r_if_ne O 89 d6_isEnd_84 (by decide) ?_ ?_
    · refine r_iinc O d6_isEnd_89 3 (c0 := 1) rfl (by decide) (fun x2_5 => [(2, .int x2_5), (5, .int 0), (0, .ref (aX X 0)), (1, .int c1)]) (by decide) (fun _ => rfl) (fun x2_5 => ?_)
      refine r_goto O 2 d6_isEnd_92 (by decide) ?_
      refine r_sub [2, 3, 0] rfl ?_
      exact hB _ _
    · refine r_iconst O d6_isEnd_87 (v := 0) (by decide) ?_
      exact r_zret O hQ (by decide) d6_isEnd_88
  · refine r_iconst O d6_isEnd_75 (v := 1) (by decide) ?_
    refine r_goto O 80 d6_isEnd_76 (by decide) ?_
    refine r_istore O d6_isEnd_80 [(5, .int 1), (0, .ref (aX X 0)), (1, .int c1), (2, .int c2)] (by decide) rfl ?_
    refine r_iload O d6_isEnd_82 0 rfl ?_
    refine r_if_ne O 89 d6_isEnd_84 (by decide) ?_ ?_
    · refine r_iinc O d6_isEnd_89 3 (c0 := 1) rfl (by decide) (fun x2_6 => [(2, .int x2_6), (5, .int 1), (0, .ref (aX X 0)), (1, .int c1)]) (by decide) (fun _ => rfl) (fun x2_6 => ?_)
      refine r_goto O 2 d6_isEnd_92 (by decide) ?_
      refine r_sub [2, 3, 0] rfl ?_
      exact hB _ _
    · refine r_iconst O d6_isEnd_87 (v := 0) (by decide) ?_
      exact r_zret O hQ (by decide) d6_isEnd_88
set_option maxHeartbeats 4000000 in
set_option maxRecDepth 100000 in
theorem j6_isEnd_34 {α : Type} {X : GX α} (O : OK 22 X RX6 cX6_isEnd 6 (some .boolean) (rmG 1 22)) {K : Int32 → MS → Option α} (hQ : RtI 22 eM X K) {c1 : Int32} {c2 : Int32} {c3 : Int32} {s0 : Int32} {S : MS} {KB : Int32 → MS → Option α} {KX : Int32 → MS → Option α} (hB : ∀ v2q S, GM 22 eM X (KB v2q S) S 2 [(0, .ref (aX X 0)), (1, .int c1), (2, .int v2q)] []) (hX : ∀ v2q S, GM 22 eM X (KX v2q S) S 95 [(0, .ref (aX X 0)), (1, .int c1), (2, .int v2q)] []) : GM 22 eM X (f6_isEnd_J34 c1 c2 c3 s0 S K KB KX) S 34 [(0, .ref (aX X 0)), (1, .int c1), (2, .int c2), (3, .int c3)] [.int s0] := by
  unfold f6_isEnd_J34
  refine r_istore O d6_isEnd_34 [(4, .int s0), (0, .ref (aX X 0)), (1, .int c1), (2, .int c2), (3, .int c3)] (by decide) rfl ?_
  refine r_aload_n O d6_isEnd_36 1 rfl ?_
  refine g_X6_144 O d6_isEnd_37 ?_
  refine r_iload_n O d6_isEnd_40 3 rfl ?_
  refine r_ishr O d6_isEnd_41 ?_
  refine r_iconst O d6_isEnd_42 (v := 1) (by decide) ?_
  refine r_iand O d6_isEnd_43 ?_
  refine r_iconst O d6_isEnd_44 (v := 1) (by decide) ?_
  refine r_icmp_ne O 61 d6_isEnd_45 (by decide) ?_ ?_
  · refine r_iload O d6_isEnd_61 0 rfl ?_
    refine r_iload_n O d6_isEnd_63 4 rfl ?_
    refine r_if_eq O 71 d6_isEnd_64 (by decide) ?_ ?_
    · refine r_iconst O d6_isEnd_71 (v := 0) (by decide) ?_
      refine r_sub [1, 2, 3] rfl ?_
      exact j6_isEnd_72 O hQ (fun _ _ => hB _ _) hX
    · refine r_iconst O d6_isEnd_67 (v := 1) (by decide) ?_
      refine r_goto O 72 d6_isEnd_68 (by decide) ?_
      refine r_sub [1, 2, 3] rfl ?_
      exact j6_isEnd_72 O hQ (fun _ _ => hB _ _) hX
  · refine r_iload_n O d6_isEnd_48 4 rfl ?_
    refine r_iconst O d6_isEnd_49 (v := 2) (by decide) ?_
    refine r_icmp_ne O 57 d6_isEnd_50 (by decide) ?_ ?_
    · refine r_iconst O d6_isEnd_57 (v := 0) (by decide) ?_
      refine r_goto O 80 d6_isEnd_58 (by decide) ?_
      refine r_istore O d6_isEnd_80 [(5, .int 0), (4, .int s0), (0, .ref (aX X 0)), (1, .int c1), (2, .int c2), (3, .int c3)] (by decide) rfl ?_
      refine r_iload O d6_isEnd_82 0 rfl ?_
      refine r_if_ne O 89 d6_isEnd_84 (by decide) ?_ ?_
      · refine r_iinc O d6_isEnd_89 4 (c0 := 1) rfl (by decide) (fun x2_7 => [(2, .int x2_7), (5, .int 0), (4, .int s0), (0, .ref (aX X 0)), (1, .int c1), (3, .int c3)]) (by decide) (fun _ => rfl) (fun x2_7 => ?_)
        refine r_goto O 2 d6_isEnd_92 (by decide) ?_
        refine r_sub [3, 4, 0] rfl ?_
        exact hB _ _
      · refine r_iconst O d6_isEnd_87 (v := 0) (by decide) ?_
        exact r_zret O hQ (by decide) d6_isEnd_88
    · refine r_iconst O d6_isEnd_53 (v := 1) (by decide) ?_
      refine r_goto O 80 d6_isEnd_54 (by decide) ?_
      refine r_istore O d6_isEnd_80 [(5, .int 1), (4, .int s0), (0, .ref (aX X 0)), (1, .int c1), (2, .int c2), (3, .int c3)] (by decide) rfl ?_
      refine r_iload O d6_isEnd_82 0 rfl ?_
      refine r_if_ne O 89 d6_isEnd_84 (by decide) ?_ ?_
      · refine r_iinc O d6_isEnd_89 4 (c0 := 1) rfl (by decide) (fun x2_8 => [(2, .int x2_8), (5, .int 1), (4, .int s0), (0, .ref (aX X 0)), (1, .int c1), (3, .int c3)]) (by decide) (fun _ => rfl) (fun x2_8 => ?_)
        refine r_goto O 2 d6_isEnd_92 (by decide) ?_
        refine r_sub [3, 4, 0] rfl ?_
        exact hB _ _
      · refine r_iconst O d6_isEnd_87 (v := 0) (by decide) ?_
        exact r_zret O hQ (by decide) d6_isEnd_88
set_option maxHeartbeats 4000000 in
set_option maxRecDepth 100000 in
theorem l6_isEnd_2 {α : Type} {X : GX α} (O : OK 22 X RX6 cX6_isEnd 6 (some .boolean) (rmG 1 22)) {K : Int32 → MS → Option α} (hQ : RtI 22 eM X K) {c1 : Int32} {KX : Int32 → MS → Option α} (hX : ∀ v2 S, GM 22 eM X (KX v2 S) S 95 [(0, .ref (aX X 0)), (1, .int c1), (2, .int v2)] []) : ∀ n v2 S, GM 22 eM X (f6_isEnd_L2 c1 K KX n v2 S) S 2 [(0, .ref (aX X 0)), (1, .int c1), (2, .int v2)] [] := by
  intro n
  induction n with
  | zero => intro v2 S; exact r_none
  | succ n ih =>
    intro v2 S
    rw [f6_isEnd_L2]
    refine r_iload_n O d6_isEnd_2 2 rfl ?_
    refine r_aload_n O d6_isEnd_3 0 rfl ?_
    refine g_X6_89 O d6_isEnd_4 ?_
    refine r_icmp_ge O 95 d6_isEnd_7 (by decide) ?_ ?_
    · refine r_sub [0, 1, 2] rfl ?_
      exact hX _ _
    · refine r_aload_n O d6_isEnd_10 0 rfl ?_
      refine r_iload_n O d6_isEnd_11 1 rfl ?_
      refine r_iload_n O d6_isEnd_12 2 rfl ?_
      refine r_callVi O (b := 0) (bv := fun ad => [.int c1, .int v2]) (rest := []) (c6_waterIn (lX X) c1 v2 S) (fun _ => rfl) (by decide) eM_0 rfl rfl w_805 w_807 w_26 w_51 w_808 hy_X6_waterIn ⟨rfl, rfl, Nat.le_of_ble_eq_true rfl, Nat.le_of_ble_eq_true rfl⟩ rfl rfl (Nat.le_of_ble_eq_true rfl) d6_isEnd_13 (fun r2 S1 => ?_)
      refine r_istore_n O d6_isEnd_16 [(3, .int r2), (0, .ref (aX X 0)), (1, .int c1), (2, .int v2)] (by decide) rfl ?_
      refine r_aload_n O d6_isEnd_17 1 rfl ?_
      refine r_aload_n O d6_isEnd_18 1 rfl ?_
      refine g_X6_141 O d6_isEnd_19 ?_
      refine r_iload_n O d6_isEnd_22 3 rfl ?_
      refine r_callVi O (b := 0) (bv := fun ad => [.int (S1.1 0 14), .int v2]) (rest := []) (c6_waterIn (lX X) (S1.1 0 14) v2 S1) (fun _ => rfl) (by decide) eM_0 rfl rfl w_805 w_807 w_26 w_51 w_808 hy_X6_waterIn ⟨rfl, rfl, Nat.le_of_ble_eq_true rfl, Nat.le_of_ble_eq_true rfl⟩ rfl rfl (Nat.le_of_ble_eq_true rfl) d6_isEnd_23 (fun r4 S3 => ?_)
      refine r_if_eq O 33 d6_isEnd_26 (by decide) ?_ ?_
      · refine r_iconst O d6_isEnd_33 (v := 0) (by decide) ?_
        refine r_sub [1, 2, 3, 0] rfl ?_
        exact j6_isEnd_34 O hQ (fun _ _ => ih _ _) hX
      · refine r_iconst O d6_isEnd_29 (v := 1) (by decide) ?_
        refine r_goto O 34 d6_isEnd_30 (by decide) ?_
        refine r_sub [1, 2, 3, 0] rfl ?_
        exact j6_isEnd_34 O hQ (fun _ _ => ih _ _) hX
set_option maxHeartbeats 4000000 in
set_option maxRecDepth 100000 in
theorem c6_isEnd (l : Launch) (p1 : Int32) (S : MS) {α : Type} : CtI 22 eM l yX6_isEnd cX6_isEnd 6 (some .boolean) (rmG 1 22) S (fun ad => [.ref (ad 0), .int p1]) (α := α) (f6_isEnd p1 S) := by
  refine CtI.of (by decide) (fun _ => Nat.le_of_ble_eq_true rfl) (fun X K _ O hQ => ?_)
  have O : OK 22 X RX6 cX6_isEnd 6 (some .boolean) (rmG 1 22) := O
  show GM 22 eM X (f6_isEnd p1 S K) S 0 [(0, .ref (aX X 0)), (1, .int p1)] []
  unfold f6_isEnd
  refine r_iconst O d6_isEnd_0 (v := 0) (by decide) ?_
  refine r_istore_n O d6_isEnd_1 [(2, .int 0), (0, .ref (aX X 0)), (1, .int p1)] (by decide) rfl ?_
  refine r_sub [1, 2, 0] rfl ?_
  refine l6_isEnd_2 O hQ (fun v2_10 S9 => ?_) _ _ _
  refine r_iconst O d6_isEnd_95 (v := 1) (by decide) ?_
  exact r_zret O hQ (by decide) d6_isEnd_96
-- X6.prepare
theorem d6_prepare_0 : decode cX6_prepare 0 = .ok (.iconst 0, 1) := by decide +kernel
theorem d6_prepare_1 : decode cX6_prepare 1 = .ok (.istore_n 1, 1) := by decide +kernel
theorem d6_prepare_2 : decode cX6_prepare 2 = .ok (.iload_n 1, 1) := by decide +kernel
theorem d6_prepare_3 : decode cX6_prepare 3 = .ok (.aload_n 0, 1) := by decide +kernel
theorem d6_prepare_4 : decode cX6_prepare 4 = .ok (.getfield 19, 3) := by decide +kernel
theorem d6_prepare_7 : decode cX6_prepare 7 = .ok (.aload_n 0, 1) := by decide +kernel
theorem d6_prepare_8 : decode cX6_prepare 8 = .ok (.getfield 89, 3) := by decide +kernel
theorem d6_prepare_11 : decode cX6_prepare 11 = .ok (.iaload, 1) := by decide +kernel
theorem d6_prepare_12 : decode cX6_prepare 12 = .ok (.if_icmp .ge 97, 3) := by decide +kernel
theorem d6_prepare_15 : decode cX6_prepare 15 = .ok (.aload_n 0, 1) := by decide +kernel
theorem d6_prepare_16 : decode cX6_prepare 16 = .ok (.getfield 59, 3) := by decide +kernel
theorem d6_prepare_19 : decode cX6_prepare 19 = .ok (.iload_n 1, 1) := by decide +kernel
theorem d6_prepare_20 : decode cX6_prepare 20 = .ok (.iconst 0, 1) := by decide +kernel
theorem d6_prepare_21 : decode cX6_prepare 21 = .ok (.iastore, 1) := by decide +kernel
theorem d6_prepare_22 : decode cX6_prepare 22 = .ok (.iconst 0, 1) := by decide +kernel
theorem d6_prepare_23 : decode cX6_prepare 23 = .ok (.istore_n 2, 1) := by decide +kernel
theorem d6_prepare_24 : decode cX6_prepare 24 = .ok (.iload_n 2, 1) := by decide +kernel
theorem d6_prepare_25 : decode cX6_prepare 25 = .ok (.aload_n 0, 1) := by decide +kernel
theorem d6_prepare_26 : decode cX6_prepare 26 = .ok (.getfield 89, 3) := by decide +kernel
theorem d6_prepare_29 : decode cX6_prepare 29 = .ok (.if_icmp .ge 34, 3) := by decide +kernel
theorem d6_prepare_32 : decode cX6_prepare 32 = .ok (.aload_n 0, 1) := by decide +kernel
theorem d6_prepare_33 : decode cX6_prepare 33 = .ok (.getfield 59, 3) := by decide +kernel
theorem d6_prepare_36 : decode cX6_prepare 36 = .ok (.iload_n 1, 1) := by decide +kernel
theorem d6_prepare_37 : decode cX6_prepare 37 = .ok (.dup2, 1) := by decide +kernel
theorem d6_prepare_38 : decode cX6_prepare 38 = .ok (.iaload, 1) := by decide +kernel
theorem d6_prepare_39 : decode cX6_prepare 39 = .ok (.aload_n 0, 1) := by decide +kernel
theorem d6_prepare_40 : decode cX6_prepare 40 = .ok (.iload_n 1, 1) := by decide +kernel
theorem d6_prepare_41 : decode cX6_prepare 41 = .ok (.iload_n 2, 1) := by decide +kernel
theorem d6_prepare_42 : decode cX6_prepare 42 = .ok (.invokevirtual 164, 3) := by decide +kernel
theorem d6_prepare_45 : decode cX6_prepare 45 = .ok (.ifCond .eq 9, 3) := by decide +kernel
theorem d6_prepare_48 : decode cX6_prepare 48 = .ok (.iconst 1, 1) := by decide +kernel
theorem d6_prepare_49 : decode cX6_prepare 49 = .ok (.iload_n 2, 1) := by decide +kernel
theorem d6_prepare_50 : decode cX6_prepare 50 = .ok (.ishl, 1) := by decide +kernel
theorem d6_prepare_51 : decode cX6_prepare 51 = .ok (.goto 4, 3) := by decide +kernel
theorem d6_prepare_54 : decode cX6_prepare 54 = .ok (.iconst 0, 1) := by decide +kernel
theorem d6_prepare_55 : decode cX6_prepare 55 = .ok (.ior, 1) := by decide +kernel
theorem d6_prepare_56 : decode cX6_prepare 56 = .ok (.iastore, 1) := by decide +kernel
theorem d6_prepare_57 : decode cX6_prepare 57 = .ok (.iinc 2 1, 3) := by decide +kernel
theorem d6_prepare_60 : decode cX6_prepare 60 = .ok (.goto (-36), 3) := by decide +kernel
theorem d6_prepare_63 : decode cX6_prepare 63 = .ok (.aload_n 0, 1) := by decide +kernel
theorem d6_prepare_64 : decode cX6_prepare 64 = .ok (.getfield 62, 3) := by decide +kernel
theorem d6_prepare_67 : decode cX6_prepare 67 = .ok (.iload_n 1, 1) := by decide +kernel
theorem d6_prepare_68 : decode cX6_prepare 68 = .ok (.aload_n 0, 1) := by decide +kernel
theorem d6_prepare_69 : decode cX6_prepare 69 = .ok (.iload_n 1, 1) := by decide +kernel
theorem d6_prepare_70 : decode cX6_prepare 70 = .ok (.invokevirtual 199, 3) := by decide +kernel
theorem d6_prepare_73 : decode cX6_prepare 73 = .ok (.ifCond .eq 7, 3) := by decide +kernel
theorem d6_prepare_76 : decode cX6_prepare 76 = .ok (.iconst 0, 1) := by decide +kernel
theorem d6_prepare_77 : decode cX6_prepare 77 = .ok (.goto 5, 3) := by decide +kernel
theorem d6_prepare_80 : decode cX6_prepare 80 = .ok (.bipush (-9), 2) := by decide +kernel
theorem d6_prepare_82 : decode cX6_prepare 82 = .ok (.iastore, 1) := by decide +kernel
theorem d6_prepare_83 : decode cX6_prepare 83 = .ok (.aload_n 0, 1) := by decide +kernel
theorem d6_prepare_84 : decode cX6_prepare 84 = .ok (.getfield 65, 3) := by decide +kernel
theorem d6_prepare_87 : decode cX6_prepare 87 = .ok (.iload_n 1, 1) := by decide +kernel
theorem d6_prepare_88 : decode cX6_prepare 88 = .ok (.aload_n 0, 1) := by decide +kernel
theorem d6_prepare_89 : decode cX6_prepare 89 = .ok (.getfield 62, 3) := by decide +kernel
theorem d6_prepare_92 : decode cX6_prepare 92 = .ok (.iload_n 1, 1) := by decide +kernel
theorem d6_prepare_93 : decode cX6_prepare 93 = .ok (.iaload, 1) := by decide +kernel
theorem d6_prepare_94 : decode cX6_prepare 94 = .ok (.ifCond .ne 7, 3) := by decide +kernel
theorem d6_prepare_97 : decode cX6_prepare 97 = .ok (.lconst 1, 1) := by decide +kernel
theorem d6_prepare_98 : decode cX6_prepare 98 = .ok (.goto 4, 3) := by decide +kernel
theorem d6_prepare_101 : decode cX6_prepare 101 = .ok (.lconst 0, 1) := by decide +kernel
theorem d6_prepare_102 : decode cX6_prepare 102 = .ok (.lastore, 1) := by decide +kernel
theorem d6_prepare_103 : decode cX6_prepare 103 = .ok (.iinc 1 1, 3) := by decide +kernel
theorem d6_prepare_106 : decode cX6_prepare 106 = .ok (.goto (-104), 3) := by decide +kernel
theorem d6_prepare_109 : decode cX6_prepare 109 = .ok (.return_, 1) := by decide +kernel
noncomputable def f6_prepare_L24 {α : Type} (c1 : Int32) (KX : Int32 → MS → Option α) : Nat → Int32 → MS → Option α
  | 0, _, _ => none
  | n + 1, v2, S => if (S.1 0 6) ≤ v2 then (KX v2 S) else (ck c1 729 fun k4 => f6_canPump c1 v2 S fun r6 S5 => if r6 = 0 then (ck c1 729 fun k7 => nm (sI S5 17 k7 ((S.1 17 k4) ||| 0)) fun S8 => nm (v2 + 1) fun x2_9 => f6_prepare_L24 c1 KX n x2_9 S8) else (ck c1 729 fun k10 => nm (sI S5 17 k10 ((S.1 17 k4) ||| ((1 : Int32) <<< (v2 &&& 31)))) fun S11 => nm (v2 + 1) fun x2_12 => f6_prepare_L24 c1 KX n x2_12 S11))
noncomputable def f6_prepare_J82 {α : Type} (c1 : Int32) (s0 : Int32) (s1 : Int32) (S : MS) (KB : Int32 → MS → Option α) (KX : Int32 → MS → Option α) : Option α := ck s1 729 fun k17 => nm (sI S 18 k17 s0) fun S18 => ck c1 729 fun k19 => if (S18.1 18 k19) = 0 then (ck c1 729 fun k23 => nm (sL S18 19 k23 1) fun S24 => nm (c1 + 1) fun x1_25 => KB x1_25 S24) else (ck c1 729 fun k20 => nm (sL S18 19 k20 0) fun S21 => nm (c1 + 1) fun x1_22 => KB x1_22 S21)
noncomputable def f6_prepare_L2 {α : Type} (KX : Int32 → MS → Option α) : Nat → Int32 → MS → Option α
  | 0, _, _ => none
  | n + 1, v1, S => ck (S.1 0 6) 7 fun k1 => if (S.1 4 k1) ≤ v1 then (KX v1 S) else (ck v1 729 fun k2 => nm (sI S 17 k2 0) fun S3 => f6_prepare_L24 v1 (fun v2_14 S13 => f6_isEnd v1 S13 fun r16 S15 => if r16 = 0 then (f6_prepare_J82 v1 (-9) v1 S15 (f6_prepare_L2 KX n) KX) else (f6_prepare_J82 v1 0 v1 S15 (f6_prepare_L2 KX n) KX)) FU 0 S3)
noncomputable def f6_prepare {α : Type} (S : MS) (K : MS → Option α) : Option α := f6_prepare_L2 (fun v1_27 S26 => K S26) FU 0 S
set_option maxHeartbeats 4000000 in
set_option maxRecDepth 100000 in
theorem l6_prepare_24 {α : Type} {X : GX α} (O : OK 22 X RX6 cX6_prepare 3 none (rmG 4 92)) {c1 : Int32} {KX : Int32 → MS → Option α} (hX : ∀ v2 S, GM 22 eM X (KX v2 S) S 63 [(0, .ref (aX X 0)), (1, .int c1), (2, .int v2)] []) : ∀ n v2 S, GM 22 eM X (f6_prepare_L24 c1 KX n v2 S) S 24 [(0, .ref (aX X 0)), (1, .int c1), (2, .int v2)] [] := by
  intro n
  induction n with
  | zero => intro v2 S; exact r_none
  | succ n ih =>
    intro v2 S
    rw [f6_prepare_L24]
    refine r_iload_n O d6_prepare_24 2 rfl ?_
    refine r_aload_n O d6_prepare_25 0 rfl ?_
    refine g_X6_89 O d6_prepare_26 ?_
    refine r_icmp_ge O 63 d6_prepare_29 (by decide) ?_ ?_
    · refine r_sub [0, 1, 2] rfl ?_
      exact hX _ _
    · refine r_aload_n O d6_prepare_32 0 rfl ?_
      refine g_X6_59 O d6_prepare_33 ?_
      refine r_iload_n O d6_prepare_36 1 rfl ?_
      refine r_dup2 O d6_prepare_37 rfl rfl ?_
      refine r_iald O (j := 17) (by decide) eM_17 d6_prepare_38 (fun k4 hk4 => ?_)
      refine r_aload_n O d6_prepare_39 0 rfl ?_
      refine r_iload_n O d6_prepare_40 1 rfl ?_
      refine r_iload_n O d6_prepare_41 2 rfl ?_
      refine r_callVi O (b := 0) (bv := fun ad => [.int c1, .int v2]) (rest := [.int (S.1 17 k4), .int c1, .ref (aX X 17)]) (c6_canPump (lX X) c1 v2 S) (fun _ => rfl) (by decide) eM_0 rfl rfl w_809 w_811 w_27 w_51 w_812 hy_X6_canPump ⟨rfl, rfl, Nat.le_of_ble_eq_true rfl, Nat.le_of_ble_eq_true rfl⟩ rfl rfl (Nat.le_of_ble_eq_true rfl) d6_prepare_42 (fun r6 S5 => ?_)
      refine r_if_eq O 54 d6_prepare_45 (by decide) ?_ ?_
      · refine r_iconst O d6_prepare_54 (v := 0) (by decide) ?_
        refine r_ior O d6_prepare_55 ?_
        refine r_iast O (j := 17) (by decide) (fun _ => eM_17) d6_prepare_56 (fun S8 => ?_)
        refine r_iinc O d6_prepare_57 2 (c0 := 1) rfl (by decide) (fun x2_9 => [(2, .int x2_9), (0, .ref (aX X 0)), (1, .int c1)]) (by decide) (fun _ => rfl) (fun x2_9 => ?_)
        refine r_goto O 24 d6_prepare_60 (by decide) ?_
        refine r_sub [1, 2, 0] rfl ?_
        exact ih _ _
      · refine r_iconst O d6_prepare_48 (v := 1) (by decide) ?_
        refine r_iload_n O d6_prepare_49 2 rfl ?_
        refine r_ishl O d6_prepare_50 ?_
        refine r_goto O 55 d6_prepare_51 (by decide) ?_
        refine r_ior O d6_prepare_55 ?_
        refine r_iast O (j := 17) (by decide) (fun _ => eM_17) d6_prepare_56 (fun S11 => ?_)
        refine r_iinc O d6_prepare_57 2 (c0 := 1) rfl (by decide) (fun x2_12 => [(2, .int x2_12), (0, .ref (aX X 0)), (1, .int c1)]) (by decide) (fun _ => rfl) (fun x2_12 => ?_)
        refine r_goto O 24 d6_prepare_60 (by decide) ?_
        refine r_sub [1, 2, 0] rfl ?_
        exact ih _ _
set_option maxHeartbeats 4000000 in
set_option maxRecDepth 100000 in
theorem j6_prepare_82 {α : Type} {X : GX α} (O : OK 22 X RX6 cX6_prepare 3 none (rmG 4 92)) {c1 : Int32} {s0 : Int32} {s1 : Int32} {S : MS} {KB : Int32 → MS → Option α} {KX : Int32 → MS → Option α} (hB : ∀ v1q S, GM 22 eM X (KB v1q S) S 2 [(0, .ref (aX X 0)), (1, .int v1q)] []) (hX : ∀ v1q S, GM 22 eM X (KX v1q S) S 109 [(0, .ref (aX X 0)), (1, .int v1q)] []) : GM 22 eM X (f6_prepare_J82 c1 s0 s1 S KB KX) S 82 [(0, .ref (aX X 0)), (1, .int c1)] [.int s0, .int s1, .ref (aX X 18)] := by
  unfold f6_prepare_J82
  refine r_iast O (j := 18) (by decide) (fun _ => eM_18) d6_prepare_82 (fun S18 => ?_)
  refine r_aload_n O d6_prepare_83 0 rfl ?_
  refine g_X6_65 O d6_prepare_84 ?_
  refine r_iload_n O d6_prepare_87 1 rfl ?_
  refine r_aload_n O d6_prepare_88 0 rfl ?_
  refine g_X6_62 O d6_prepare_89 ?_
  refine r_iload_n O d6_prepare_92 1 rfl ?_
  refine r_iald O (j := 18) (by decide) eM_18 d6_prepare_93 (fun k19 hk19 => ?_)
  refine r_if_ne O 101 d6_prepare_94 (by decide) ?_ ?_
  · refine r_lconst O d6_prepare_101 (v := 0) (by decide) ?_
    refine r_last O (j := 19) (by decide) (fun _ => eM_19) d6_prepare_102 (fun S21 => ?_)
    refine r_iinc O d6_prepare_103 1 (c0 := 1) rfl (by decide) (fun x1_22 => [(1, .int x1_22), (0, .ref (aX X 0))]) (by decide) (fun _ => rfl) (fun x1_22 => ?_)
    refine r_goto O 2 d6_prepare_106 (by decide) ?_
    refine r_sub [1, 0] rfl ?_
    exact hB _ _
  · refine r_lconst O d6_prepare_97 (v := 1) (by decide) ?_
    refine r_goto O 102 d6_prepare_98 (by decide) ?_
    refine r_last O (j := 19) (by decide) (fun _ => eM_19) d6_prepare_102 (fun S24 => ?_)
    refine r_iinc O d6_prepare_103 1 (c0 := 1) rfl (by decide) (fun x1_25 => [(1, .int x1_25), (0, .ref (aX X 0))]) (by decide) (fun _ => rfl) (fun x1_25 => ?_)
    refine r_goto O 2 d6_prepare_106 (by decide) ?_
    refine r_sub [1, 0] rfl ?_
    exact hB _ _
set_option maxHeartbeats 4000000 in
set_option maxRecDepth 100000 in
theorem l6_prepare_2 {α : Type} {X : GX α} (O : OK 22 X RX6 cX6_prepare 3 none (rmG 4 92)) {KX : Int32 → MS → Option α} (hX : ∀ v1 S, GM 22 eM X (KX v1 S) S 109 [(0, .ref (aX X 0)), (1, .int v1)] []) : ∀ n v1 S, GM 22 eM X (f6_prepare_L2 KX n v1 S) S 2 [(0, .ref (aX X 0)), (1, .int v1)] [] := by
  intro n
  induction n with
  | zero => intro v1 S; exact r_none
  | succ n ih =>
    intro v1 S
    rw [f6_prepare_L2]
    refine r_iload_n O d6_prepare_2 1 rfl ?_
    refine r_aload_n O d6_prepare_3 0 rfl ?_
    refine g_X6_19 O d6_prepare_4 ?_
    refine r_aload_n O d6_prepare_7 0 rfl ?_
    refine g_X6_89 O d6_prepare_8 ?_
    refine r_iald O (j := 4) (by decide) eM_4 d6_prepare_11 (fun k1 hk1 => ?_)
    refine r_icmp_ge O 109 d6_prepare_12 (by decide) ?_ ?_
    · refine r_sub [0, 1] rfl ?_
      exact hX _ _
    · refine r_aload_n O d6_prepare_15 0 rfl ?_
      refine g_X6_59 O d6_prepare_16 ?_
      refine r_iload_n O d6_prepare_19 1 rfl ?_
      refine r_iconst O d6_prepare_20 (v := 0) (by decide) ?_
      refine r_iast O (j := 17) (by decide) (fun _ => eM_17) d6_prepare_21 (fun S3 => ?_)
      refine r_iconst O d6_prepare_22 (v := 0) (by decide) ?_
      refine r_istore_n O d6_prepare_23 [(2, .int 0), (0, .ref (aX X 0)), (1, .int v1)] (by decide) rfl ?_
      refine r_sub [1, 2, 0] rfl ?_
      refine l6_prepare_24 O (fun v2_14 S13 => ?_) _ _ _
      refine r_aload_n O d6_prepare_63 0 rfl ?_
      refine g_X6_62 O d6_prepare_64 ?_
      refine r_iload_n O d6_prepare_67 1 rfl ?_
      refine r_aload_n O d6_prepare_68 0 rfl ?_
      refine r_iload_n O d6_prepare_69 1 rfl ?_
      refine r_callVi O (b := 0) (bv := fun ad => [.int v1]) (rest := [.int v1, .ref (aX X 18)]) (c6_isEnd (lX X) v1 S13) (fun _ => rfl) (by decide) eM_0 rfl rfl w_877 w_879 w_34 w_51 w_880 hy_X6_isEnd ⟨rfl, rfl, Nat.le_of_ble_eq_true rfl, Nat.le_of_ble_eq_true rfl⟩ rfl rfl (Nat.le_of_ble_eq_true rfl) d6_prepare_70 (fun r16 S15 => ?_)
      refine r_if_eq O 80 d6_prepare_73 (by decide) ?_ ?_
      · refine r_bipush O d6_prepare_80 (v := (-9)) (by decide) ?_
        refine r_sub [0, 1] rfl ?_
        exact j6_prepare_82 O (fun _ _ => ih _ _) hX
      · refine r_iconst O d6_prepare_76 (v := 0) (by decide) ?_
        refine r_goto O 82 d6_prepare_77 (by decide) ?_
        refine r_sub [0, 1] rfl ?_
        exact j6_prepare_82 O (fun _ _ => ih _ _) hX
set_option maxHeartbeats 4000000 in
set_option maxRecDepth 100000 in
theorem c6_prepare (l : Launch) (S : MS) {α : Type} : CtV 22 eM l yX6_prepare cX6_prepare 3 none (rmG 4 92) S (fun ad => [.ref (ad 0)]) (α := α) (f6_prepare S) := by
  refine CtV.of (by decide) (fun _ => Nat.le_of_ble_eq_true rfl) (fun X K _ O hQ => ?_)
  have O : OK 22 X RX6 cX6_prepare 3 none (rmG 4 92) := O
  show GM 22 eM X (f6_prepare S K) S 0 [(0, .ref (aX X 0))] []
  unfold f6_prepare
  refine r_iconst O d6_prepare_0 (v := 0) (by decide) ?_
  refine r_istore_n O d6_prepare_1 [(1, .int 0), (0, .ref (aX X 0))] (by decide) rfl ?_
  refine r_sub [1, 0] rfl ?_
  refine l6_prepare_2 O (fun v1_27 S26 => ?_) _ _ _
  exact r_vret O hQ d6_prepare_109
-- X6.findNext
theorem d6_findNext_0 : decode cX6_findNext 0 = .ok (.iconst 0, 1) := by decide +kernel
theorem d6_findNext_1 : decode cX6_findNext 1 = .ok (.istore_n 2, 1) := by decide +kernel
theorem d6_findNext_2 : decode cX6_findNext 2 = .ok (.iconst 0, 1) := by decide +kernel
theorem d6_findNext_3 : decode cX6_findNext 3 = .ok (.istore_n 3, 1) := by decide +kernel
theorem d6_findNext_4 : decode cX6_findNext 4 = .ok (.iload_n 3, 1) := by decide +kernel
theorem d6_findNext_5 : decode cX6_findNext 5 = .ok (.aload_n 0, 1) := by decide +kernel
theorem d6_findNext_6 : decode cX6_findNext 6 = .ok (.getfield 19, 3) := by decide +kernel
theorem d6_findNext_9 : decode cX6_findNext 9 = .ok (.aload_n 0, 1) := by decide +kernel
theorem d6_findNext_10 : decode cX6_findNext 10 = .ok (.getfield 89, 3) := by decide +kernel
theorem d6_findNext_13 : decode cX6_findNext 13 = .ok (.iaload, 1) := by decide +kernel
theorem d6_findNext_14 : decode cX6_findNext 14 = .ok (.if_icmp .ge 131, 3) := by decide +kernel
theorem d6_findNext_17 : decode cX6_findNext 17 = .ok (.iconst 0, 1) := by decide +kernel
theorem d6_findNext_18 : decode cX6_findNext 18 = .ok (.istore 4, 2) := by decide +kernel
theorem d6_findNext_20 : decode cX6_findNext 20 = .ok (.iload 4, 2) := by decide +kernel
theorem d6_findNext_22 : decode cX6_findNext 22 = .ok (.aload_n 0, 1) := by decide +kernel
theorem d6_findNext_23 : decode cX6_findNext 23 = .ok (.getfield 89, 3) := by decide +kernel
theorem d6_findNext_26 : decode cX6_findNext 26 = .ok (.if_icmp .ge 113, 3) := by decide +kernel
theorem d6_findNext_29 : decode cX6_findNext 29 = .ok (.aload_n 0, 1) := by decide +kernel
theorem d6_findNext_30 : decode cX6_findNext 30 = .ok (.getfield 62, 3) := by decide +kernel
theorem d6_findNext_33 : decode cX6_findNext 33 = .ok (.iload_n 3, 1) := by decide +kernel
theorem d6_findNext_34 : decode cX6_findNext 34 = .ok (.iaload, 1) := by decide +kernel
theorem d6_findNext_35 : decode cX6_findNext 35 = .ok (.bipush (-9), 2) := by decide +kernel
theorem d6_findNext_37 : decode cX6_findNext 37 = .ok (.if_icmp .eq 13, 3) := by decide +kernel
theorem d6_findNext_40 : decode cX6_findNext 40 = .ok (.aload_n 0, 1) := by decide +kernel
theorem d6_findNext_41 : decode cX6_findNext 41 = .ok (.getfield 62, 3) := by decide +kernel
theorem d6_findNext_44 : decode cX6_findNext 44 = .ok (.iload_n 3, 1) := by decide +kernel
theorem d6_findNext_45 : decode cX6_findNext 45 = .ok (.iaload, 1) := by decide +kernel
theorem d6_findNext_46 : decode cX6_findNext 46 = .ok (.iload_n 1, 1) := by decide +kernel
theorem d6_findNext_47 : decode cX6_findNext 47 = .ok (.if_icmp .ne 92, 3) := by decide +kernel
theorem d6_findNext_50 : decode cX6_findNext 50 = .ok (.aload_n 0, 1) := by decide +kernel
theorem d6_findNext_51 : decode cX6_findNext 51 = .ok (.getfield 59, 3) := by decide +kernel
theorem d6_findNext_54 : decode cX6_findNext 54 = .ok (.iload_n 3, 1) := by decide +kernel
theorem d6_findNext_55 : decode cX6_findNext 55 = .ok (.iaload, 1) := by decide +kernel
theorem d6_findNext_56 : decode cX6_findNext 56 = .ok (.iload 4, 2) := by decide +kernel
theorem d6_findNext_58 : decode cX6_findNext 58 = .ok (.ishr, 1) := by decide +kernel
theorem d6_findNext_59 : decode cX6_findNext 59 = .ok (.iconst 1, 1) := by decide +kernel
theorem d6_findNext_60 : decode cX6_findNext 60 = .ok (.iand, 1) := by decide +kernel
theorem d6_findNext_61 : decode cX6_findNext 61 = .ok (.iconst 1, 1) := by decide +kernel
theorem d6_findNext_62 : decode cX6_findNext 62 = .ok (.if_icmp .ne 7, 3) := by decide +kernel
theorem d6_findNext_65 : decode cX6_findNext 65 = .ok (.iconst 1, 1) := by decide +kernel
theorem d6_findNext_66 : decode cX6_findNext 66 = .ok (.goto 4, 3) := by decide +kernel
theorem d6_findNext_69 : decode cX6_findNext 69 = .ok (.iconst 0, 1) := by decide +kernel
theorem d6_findNext_70 : decode cX6_findNext 70 = .ok (.istore 5, 2) := by decide +kernel
theorem d6_findNext_72 : decode cX6_findNext 72 = .ok (.iload 5, 2) := by decide +kernel
theorem d6_findNext_74 : decode cX6_findNext 74 = .ok (.ifCond .eq 13, 3) := by decide +kernel
theorem d6_findNext_77 : decode cX6_findNext 77 = .ok (.aload_n 0, 1) := by decide +kernel
theorem d6_findNext_78 : decode cX6_findNext 78 = .ok (.iload_n 3, 1) := by decide +kernel
theorem d6_findNext_79 : decode cX6_findNext 79 = .ok (.iload 4, 2) := by decide +kernel
theorem d6_findNext_81 : decode cX6_findNext 81 = .ok (.invokevirtual 191, 3) := by decide +kernel
theorem d6_findNext_84 : decode cX6_findNext 84 = .ok (.goto 4, 3) := by decide +kernel
theorem d6_findNext_87 : decode cX6_findNext 87 = .ok (.iload_n 3, 1) := by decide +kernel
theorem d6_findNext_88 : decode cX6_findNext 88 = .ok (.istore 6, 2) := by decide +kernel
theorem d6_findNext_90 : decode cX6_findNext 90 = .ok (.iload 5, 2) := by decide +kernel
theorem d6_findNext_92 : decode cX6_findNext 92 = .ok (.ifCond .eq 41, 3) := by decide +kernel
theorem d6_findNext_95 : decode cX6_findNext 95 = .ok (.aload_n 0, 1) := by decide +kernel
theorem d6_findNext_96 : decode cX6_findNext 96 = .ok (.getfield 62, 3) := by decide +kernel
theorem d6_findNext_99 : decode cX6_findNext 99 = .ok (.iload 6, 2) := by decide +kernel
theorem d6_findNext_101 : decode cX6_findNext 101 = .ok (.iaload, 1) := by decide +kernel
theorem d6_findNext_102 : decode cX6_findNext 102 = .ok (.iload_n 1, 1) := by decide +kernel
theorem d6_findNext_103 : decode cX6_findNext 103 = .ok (.iconst 1, 1) := by decide +kernel
theorem d6_findNext_104 : decode cX6_findNext 104 = .ok (.isub, 1) := by decide +kernel
theorem d6_findNext_105 : decode cX6_findNext 105 = .ok (.if_icmp .ne 28, 3) := by decide +kernel
theorem d6_findNext_108 : decode cX6_findNext 108 = .ok (.aload_n 0, 1) := by decide +kernel
theorem d6_findNext_109 : decode cX6_findNext 109 = .ok (.getfield 62, 3) := by decide +kernel
theorem d6_findNext_112 : decode cX6_findNext 112 = .ok (.iload_n 3, 1) := by decide +kernel
theorem d6_findNext_113 : decode cX6_findNext 113 = .ok (.iload_n 1, 1) := by decide +kernel
theorem d6_findNext_114 : decode cX6_findNext 114 = .ok (.iastore, 1) := by decide +kernel
theorem d6_findNext_115 : decode cX6_findNext 115 = .ok (.aload_n 0, 1) := by decide +kernel
theorem d6_findNext_116 : decode cX6_findNext 116 = .ok (.getfield 65, 3) := by decide +kernel
theorem d6_findNext_119 : decode cX6_findNext 119 = .ok (.iload_n 3, 1) := by decide +kernel
theorem d6_findNext_120 : decode cX6_findNext 120 = .ok (.dup2, 1) := by decide +kernel
theorem d6_findNext_121 : decode cX6_findNext 121 = .ok (.laload, 1) := by decide +kernel
theorem d6_findNext_122 : decode cX6_findNext 122 = .ok (.aload_n 0, 1) := by decide +kernel
theorem d6_findNext_123 : decode cX6_findNext 123 = .ok (.getfield 65, 3) := by decide +kernel
theorem d6_findNext_126 : decode cX6_findNext 126 = .ok (.iload 6, 2) := by decide +kernel
theorem d6_findNext_128 : decode cX6_findNext 128 = .ok (.laload, 1) := by decide +kernel
theorem d6_findNext_129 : decode cX6_findNext 129 = .ok (.ladd, 1) := by decide +kernel
theorem d6_findNext_130 : decode cX6_findNext 130 = .ok (.lastore, 1) := by decide +kernel
theorem d6_findNext_131 : decode cX6_findNext 131 = .ok (.iconst 1, 1) := by decide +kernel
theorem d6_findNext_132 : decode cX6_findNext 132 = .ok (.istore_n 2, 1) := by decide +kernel
theorem d6_findNext_133 : decode cX6_findNext 133 = .ok (.iinc 4 1, 3) := by decide +kernel
theorem d6_findNext_136 : decode cX6_findNext 136 = .ok (.goto (-116), 3) := by decide +kernel
theorem d6_findNext_139 : decode cX6_findNext 139 = .ok (.iinc 3 1, 3) := by decide +kernel
theorem d6_findNext_142 : decode cX6_findNext 142 = .ok (.goto (-138), 3) := by decide +kernel
theorem d6_findNext_145 : decode cX6_findNext 145 = .ok (.iload_n 2, 1) := by decide +kernel
theorem d6_findNext_146 : decode cX6_findNext 146 = .ok (.ireturn, 1) := by decide +kernel
noncomputable def f6_findNext_J88 {α : Type} (c1 : Int32) (c2 : Int32) (c3 : Int32) (c4 : Int32) (c5 : Int32) (s0 : Int32) (S : MS) (KB : Int32 → Int32 → MS → Option α) (KX : Int32 → Int32 → MS → Option α) : Option α := if c5 = 0 then (nm (c4 + 1) fun x4_4 => KB c2 x4_4 S) else (ck s0 729 fun k5 => if (S.1 18 k5) = (c1 - 1) then (ck c3 729 fun k7 => nm (sI S 18 k7 c1) fun S8 => ck c3 729 fun k9 => ck s0 729 fun k10 => ck c3 729 fun k11 => nm (sL S8 19 k11 ((S8.2 19 k9) + (S8.2 19 k10))) fun S12 => nm (c4 + 1) fun x4_13 => KB 1 x4_13 S12) else (nm (c4 + 1) fun x4_6 => KB c2 x4_6 S))
noncomputable def f6_findNext_J70 {α : Type} (c1 : Int32) (c2 : Int32) (c3 : Int32) (c4 : Int32) (s0 : Int32) (S : MS) (KB : Int32 → Int32 → MS → Option α) (KX : Int32 → Int32 → MS → Option α) : Option α := if s0 = 0 then (f6_findNext_J88 c1 c2 c3 c4 s0 c3 S KB KX) else (f6_pumped c3 c4 S fun r15 S14 => f6_findNext_J88 c1 c2 c3 c4 s0 r15 S14 KB KX)
noncomputable def f6_findNext_J50 {α : Type} (c1 : Int32) (c2 : Int32) (c3 : Int32) (c4 : Int32) (S : MS) (KB : Int32 → Int32 → MS → Option α) (KX : Int32 → Int32 → MS → Option α) : Option α := ck c3 729 fun k3 => if (((S.1 17 k3) >>> (c4 &&& 31)) &&& 1) = 1 then (f6_findNext_J70 c1 c2 c3 c4 1 S KB KX) else (f6_findNext_J70 c1 c2 c3 c4 0 S KB KX)
noncomputable def f6_findNext_L20 {α : Type} (c1 : Int32) (c3 : Int32) (KX : Int32 → Int32 → MS → Option α) : Nat → Int32 → Int32 → MS → Option α
  | 0, _, _, _ => none
  | n + 1, v2, v4, S => if (S.1 0 6) ≤ v4 then (KX v2 v4 S) else (ck c3 729 fun k2 => if (S.1 18 k2) = (-9) then (f6_findNext_J50 c1 v2 c3 v4 S (f6_findNext_L20 c1 c3 KX n) KX) else (ck c3 729 fun k16 => if (S.1 18 k16) = c1 then (f6_findNext_J50 c1 v2 c3 v4 S (f6_findNext_L20 c1 c3 KX n) KX) else (KX v2 v4 S)))
noncomputable def f6_findNext_L4 {α : Type} (c1 : Int32) (KX : Int32 → Int32 → MS → Option α) : Nat → Int32 → Int32 → MS → Option α
  | 0, _, _, _ => none
  | n + 1, v2, v3, S => ck (S.1 0 6) 7 fun k1 => if (S.1 4 k1) ≤ v3 then (KX v2 v3 S) else (f6_findNext_L20 c1 v3 (fun v2_18 v4_19 S17 => nm (v3 + 1) fun x3_20 => f6_findNext_L4 c1 KX n v2_18 x3_20 S17) FU v2 0 S)
noncomputable def f6_findNext {α : Type} (p1 : Int32) (S : MS) (K : Int32 → MS → Option α) : Option α := f6_findNext_L4 p1 (fun v2_22 v3_23 S21 => zb v2_22 (K v2_22 S21)) FU 0 0 S
set_option maxHeartbeats 4000000 in
set_option maxRecDepth 100000 in
theorem j6_findNext_88 {α : Type} {X : GX α} (O : OK 22 X RX6 cX6_findNext 7 (some .boolean) (rmG 2 45)) {c1 : Int32} {c2 : Int32} {c3 : Int32} {c4 : Int32} {c5 : Int32} {s0 : Int32} {S : MS} {KB : Int32 → Int32 → MS → Option α} {KX : Int32 → Int32 → MS → Option α} (hB : ∀ v2q v4q S, GM 22 eM X (KB v2q v4q S) S 20 [(0, .ref (aX X 0)), (1, .int c1), (2, .int v2q), (3, .int c3), (4, .int v4q)] []) (hX : ∀ v2q v4q S, GM 22 eM X (KX v2q v4q S) S 139 [(0, .ref (aX X 0)), (1, .int c1), (2, .int v2q), (3, .int c3), (4, .int v4q)] []) : GM 22 eM X (f6_findNext_J88 c1 c2 c3 c4 c5 s0 S KB KX) S 88 [(0, .ref (aX X 0)), (1, .int c1), (2, .int c2), (3, .int c3), (4, .int c4), (5, .int c5)] [.int s0] := by
  unfold f6_findNext_J88
  refine r_istore O d6_findNext_88 [(6, .int s0), (0, .ref (aX X 0)), (1, .int c1), (2, .int c2), (3, .int c3), (4, .int c4), (5, .int c5)] (by decide) rfl ?_
  refine r_iload O d6_findNext_90 6 rfl ?_
  refine r_if_eq O 133 d6_findNext_92 (by decide) ?_ ?_
  · refine r_iinc O d6_findNext_133 5 (c0 := 1) rfl (by decide) (fun x4_4 => [(4, .int x4_4), (6, .int s0), (0, .ref (aX X 0)), (1, .int c1), (2, .int c2), (3, .int c3), (5, .int c5)]) (by decide) (fun _ => rfl) (fun x4_4 => ?_)
    refine r_goto O 20 d6_findNext_136 (by decide) ?_
    refine r_sub [2, 3, 4, 5, 0] rfl ?_
    exact hB _ _ _
  · refine r_aload_n O d6_findNext_95 1 rfl ?_
    refine g_X6_62 O d6_findNext_96 ?_
    refine r_iload O d6_findNext_99 0 rfl ?_
    refine r_iald O (j := 18) (by decide) eM_18 d6_findNext_101 (fun k5 hk5 => ?_)
    refine r_iload_n O d6_findNext_102 2 rfl ?_
    refine r_iconst O d6_findNext_103 (v := 1) (by decide) ?_
    refine r_isub O d6_findNext_104 ?_
    refine r_icmp_ne O 133 d6_findNext_105 (by decide) ?_ ?_
    · refine r_iinc O d6_findNext_133 5 (c0 := 1) rfl (by decide) (fun x4_6 => [(4, .int x4_6), (6, .int s0), (0, .ref (aX X 0)), (1, .int c1), (2, .int c2), (3, .int c3), (5, .int c5)]) (by decide) (fun _ => rfl) (fun x4_6 => ?_)
      refine r_goto O 20 d6_findNext_136 (by decide) ?_
      refine r_sub [2, 3, 4, 5, 0] rfl ?_
      exact hB _ _ _
    · refine r_aload_n O d6_findNext_108 1 rfl ?_
      refine g_X6_62 O d6_findNext_109 ?_
      refine r_iload_n O d6_findNext_112 4 rfl ?_
      refine r_iload_n O d6_findNext_113 2 rfl ?_
      refine r_iast O (j := 18) (by decide) (fun _ => eM_18) d6_findNext_114 (fun S8 => ?_)
      refine r_aload_n O d6_findNext_115 1 rfl ?_
      refine g_X6_65 O d6_findNext_116 ?_
      refine r_iload_n O d6_findNext_119 4 rfl ?_
      refine r_dup2 O d6_findNext_120 rfl rfl ?_
      refine r_lald O (j := 19) (by decide) eM_19 d6_findNext_121 (fun k9 hk9 => ?_)
      refine r_aload_n O d6_findNext_122 1 rfl ?_
      refine g_X6_65 O d6_findNext_123 ?_
      refine r_iload O d6_findNext_126 0 rfl ?_
      refine r_lald O (j := 19) (by decide) eM_19 d6_findNext_128 (fun k10 hk10 => ?_)
      refine r_ladd O d6_findNext_129 ?_
      refine r_last O (j := 19) (by decide) (fun _ => eM_19) d6_findNext_130 (fun S12 => ?_)
      refine r_iconst O d6_findNext_131 (v := 1) (by decide) ?_
      refine r_istore_n O d6_findNext_132 [(2, .int 1), (6, .int s0), (0, .ref (aX X 0)), (1, .int c1), (3, .int c3), (4, .int c4), (5, .int c5)] (by decide) rfl ?_
      refine r_iinc O d6_findNext_133 5 (c0 := 1) rfl (by decide) (fun x4_13 => [(4, .int x4_13), (2, .int 1), (6, .int s0), (0, .ref (aX X 0)), (1, .int c1), (3, .int c3), (5, .int c5)]) (by decide) (fun _ => rfl) (fun x4_13 => ?_)
      refine r_goto O 20 d6_findNext_136 (by decide) ?_
      refine r_sub [3, 4, 1, 5, 0] rfl ?_
      exact hB _ _ _
set_option maxHeartbeats 4000000 in
set_option maxRecDepth 100000 in
theorem j6_findNext_70 {α : Type} {X : GX α} (O : OK 22 X RX6 cX6_findNext 7 (some .boolean) (rmG 2 45)) {c1 : Int32} {c2 : Int32} {c3 : Int32} {c4 : Int32} {s0 : Int32} {S : MS} {KB : Int32 → Int32 → MS → Option α} {KX : Int32 → Int32 → MS → Option α} (hB : ∀ v2q v4q S, GM 22 eM X (KB v2q v4q S) S 20 [(0, .ref (aX X 0)), (1, .int c1), (2, .int v2q), (3, .int c3), (4, .int v4q)] []) (hX : ∀ v2q v4q S, GM 22 eM X (KX v2q v4q S) S 139 [(0, .ref (aX X 0)), (1, .int c1), (2, .int v2q), (3, .int c3), (4, .int v4q)] []) : GM 22 eM X (f6_findNext_J70 c1 c2 c3 c4 s0 S KB KX) S 70 [(0, .ref (aX X 0)), (1, .int c1), (2, .int c2), (3, .int c3), (4, .int c4)] [.int s0] := by
  unfold f6_findNext_J70
  refine r_istore O d6_findNext_70 [(5, .int s0), (0, .ref (aX X 0)), (1, .int c1), (2, .int c2), (3, .int c3), (4, .int c4)] (by decide) rfl ?_
  refine r_iload O d6_findNext_72 0 rfl ?_
  refine r_if_eq O 87 d6_findNext_74 (by decide) ?_ ?_
  · refine r_iload_n O d6_findNext_87 4 rfl ?_
    refine r_sub [1, 2, 3, 4, 5, 0] rfl ?_
    exact j6_findNext_88 O (fun _ _ _ => hB _ _ _) hX
  · refine r_aload_n O d6_findNext_77 1 rfl ?_
    refine r_iload_n O d6_findNext_78 4 rfl ?_
    refine r_iload O d6_findNext_79 5 rfl ?_
    refine r_callVi O (b := 0) (bv := fun ad => [.int c3, .int c4]) (rest := []) (c6_pumped (lX X) c3 c4 S) (fun _ => rfl) (by decide) eM_0 rfl rfl w_824 w_826 w_30 w_51 w_827 hy_X6_pumped ⟨rfl, rfl, Nat.le_of_ble_eq_true rfl, Nat.le_of_ble_eq_true rfl⟩ rfl rfl (Nat.le_of_ble_eq_true rfl) d6_findNext_81 (fun r15 S14 => ?_)
    refine r_goto O 88 d6_findNext_84 (by decide) ?_
    refine r_sub [1, 2, 3, 4, 5, 0] rfl ?_
    exact j6_findNext_88 O (fun _ _ _ => hB _ _ _) hX
set_option maxHeartbeats 4000000 in
set_option maxRecDepth 100000 in
theorem j6_findNext_50 {α : Type} {X : GX α} (O : OK 22 X RX6 cX6_findNext 7 (some .boolean) (rmG 2 45)) {c1 : Int32} {c2 : Int32} {c3 : Int32} {c4 : Int32} {S : MS} {KB : Int32 → Int32 → MS → Option α} {KX : Int32 → Int32 → MS → Option α} (hB : ∀ v2q v4q S, GM 22 eM X (KB v2q v4q S) S 20 [(0, .ref (aX X 0)), (1, .int c1), (2, .int v2q), (3, .int c3), (4, .int v4q)] []) (hX : ∀ v2q v4q S, GM 22 eM X (KX v2q v4q S) S 139 [(0, .ref (aX X 0)), (1, .int c1), (2, .int v2q), (3, .int c3), (4, .int v4q)] []) : GM 22 eM X (f6_findNext_J50 c1 c2 c3 c4 S KB KX) S 50 [(0, .ref (aX X 0)), (1, .int c1), (2, .int c2), (3, .int c3), (4, .int c4)] [] := by
  unfold f6_findNext_J50
  refine r_aload_n O d6_findNext_50 0 rfl ?_
  refine g_X6_59 O d6_findNext_51 ?_
  refine r_iload_n O d6_findNext_54 3 rfl ?_
  refine r_iald O (j := 17) (by decide) eM_17 d6_findNext_55 (fun k3 hk3 => ?_)
  refine r_iload O d6_findNext_56 4 rfl ?_
  refine r_ishr O d6_findNext_58 ?_
  refine r_iconst O d6_findNext_59 (v := 1) (by decide) ?_
  refine r_iand O d6_findNext_60 ?_
  refine r_iconst O d6_findNext_61 (v := 1) (by decide) ?_
  refine r_icmp_ne O 69 d6_findNext_62 (by decide) ?_ ?_
  · refine r_iconst O d6_findNext_69 (v := 0) (by decide) ?_
    refine r_sub [0, 1, 2, 3, 4] rfl ?_
    exact j6_findNext_70 O (fun _ _ _ => hB _ _ _) hX
  · refine r_iconst O d6_findNext_65 (v := 1) (by decide) ?_
    refine r_goto O 70 d6_findNext_66 (by decide) ?_
    refine r_sub [0, 1, 2, 3, 4] rfl ?_
    exact j6_findNext_70 O (fun _ _ _ => hB _ _ _) hX
set_option maxHeartbeats 4000000 in
set_option maxRecDepth 100000 in
theorem l6_findNext_20 {α : Type} {X : GX α} (O : OK 22 X RX6 cX6_findNext 7 (some .boolean) (rmG 2 45)) {c1 : Int32} {c3 : Int32} {KX : Int32 → Int32 → MS → Option α} (hX : ∀ v2 v4 S, GM 22 eM X (KX v2 v4 S) S 139 [(0, .ref (aX X 0)), (1, .int c1), (2, .int v2), (3, .int c3), (4, .int v4)] []) : ∀ n v2 v4 S, GM 22 eM X (f6_findNext_L20 c1 c3 KX n v2 v4 S) S 20 [(0, .ref (aX X 0)), (1, .int c1), (2, .int v2), (3, .int c3), (4, .int v4)] [] := by
  intro n
  induction n with
  | zero => intro v2 v4 S; exact r_none
  | succ n ih =>
    intro v2 v4 S
    rw [f6_findNext_L20]
    refine r_iload O d6_findNext_20 4 rfl ?_
    refine r_aload_n O d6_findNext_22 0 rfl ?_
    refine g_X6_89 O d6_findNext_23 ?_
    refine r_icmp_ge O 139 d6_findNext_26 (by decide) ?_ ?_
    · refine r_sub [0, 1, 2, 3, 4] rfl ?_
      exact hX _ _ _
    · refine r_aload_n O d6_findNext_29 0 rfl ?_
      refine g_X6_62 O d6_findNext_30 ?_
      refine r_iload_n O d6_findNext_33 3 rfl ?_
      refine r_iald O (j := 18) (by decide) eM_18 d6_findNext_34 (fun k2 hk2 => ?_)
      refine r_bipush O d6_findNext_35 (v := (-9)) (by decide) ?_
      refine r_icmp_eq O 50 d6_findNext_37 (by decide) ?_ ?_
      · refine r_sub [0, 1, 2, 3, 4] rfl ?_
        exact j6_findNext_50 O (fun _ _ _ => ih _ _ _) hX
      · refine r_aload_n O d6_findNext_40 0 rfl ?_
        refine g_X6_62 O d6_findNext_41 ?_
        refine r_iload_n O d6_findNext_44 3 rfl ?_
        refine r_iald O (j := 18) (by decide) eM_18 d6_findNext_45 (fun k16 hk16 => ?_)
        refine r_iload_n O d6_findNext_46 1 rfl ?_
        refine r_icmp_ne O 139 d6_findNext_47 (by decide) ?_ ?_
        · refine r_sub [0, 1, 2, 3, 4] rfl ?_
          exact hX _ _ _
        · refine r_sub [0, 1, 2, 3, 4] rfl ?_
          exact j6_findNext_50 O (fun _ _ _ => ih _ _ _) hX
set_option maxHeartbeats 4000000 in
set_option maxRecDepth 100000 in
theorem l6_findNext_4 {α : Type} {X : GX α} (O : OK 22 X RX6 cX6_findNext 7 (some .boolean) (rmG 2 45)) {c1 : Int32} {KX : Int32 → Int32 → MS → Option α} (hX : ∀ v2 v3 S, GM 22 eM X (KX v2 v3 S) S 145 [(0, .ref (aX X 0)), (1, .int c1), (2, .int v2), (3, .int v3)] []) : ∀ n v2 v3 S, GM 22 eM X (f6_findNext_L4 c1 KX n v2 v3 S) S 4 [(0, .ref (aX X 0)), (1, .int c1), (2, .int v2), (3, .int v3)] [] := by
  intro n
  induction n with
  | zero => intro v2 v3 S; exact r_none
  | succ n ih =>
    intro v2 v3 S
    rw [f6_findNext_L4]
    refine r_iload_n O d6_findNext_4 3 rfl ?_
    refine r_aload_n O d6_findNext_5 0 rfl ?_
    refine g_X6_19 O d6_findNext_6 ?_
    refine r_aload_n O d6_findNext_9 0 rfl ?_
    refine g_X6_89 O d6_findNext_10 ?_
    refine r_iald O (j := 4) (by decide) eM_4 d6_findNext_13 (fun k1 hk1 => ?_)
    refine r_icmp_ge O 145 d6_findNext_14 (by decide) ?_ ?_
    · refine r_sub [0, 1, 2, 3] rfl ?_
      exact hX _ _ _
    · refine r_iconst O d6_findNext_17 (v := 0) (by decide) ?_
      refine r_istore O d6_findNext_18 [(4, .int 0), (0, .ref (aX X 0)), (1, .int c1), (2, .int v2), (3, .int v3)] (by decide) rfl ?_
      refine r_sub [1, 2, 3, 4, 0] rfl ?_
      refine l6_findNext_20 O (fun v2_18 v4_19 S17 => ?_) _ _ _ _
      refine r_iinc O d6_findNext_139 3 (c0 := 1) rfl (by decide) (fun x3_20 => [(3, .int x3_20), (0, .ref (aX X 0)), (1, .int c1), (2, .int v2_18), (4, .int v4_19)]) (by decide) (fun _ => rfl) (fun x3_20 => ?_)
      refine r_goto O 4 d6_findNext_142 (by decide) ?_
      refine r_sub [1, 2, 3, 0] rfl ?_
      exact ih _ _ _
set_option maxHeartbeats 4000000 in
set_option maxRecDepth 100000 in
theorem c6_findNext (l : Launch) (p1 : Int32) (S : MS) {α : Type} : CtI 22 eM l yX6_findNext cX6_findNext 7 (some .boolean) (rmG 2 45) S (fun ad => [.ref (ad 0), .int p1]) (α := α) (f6_findNext p1 S) := by
  refine CtI.of (by decide) (fun _ => Nat.le_of_ble_eq_true rfl) (fun X K _ O hQ => ?_)
  have O : OK 22 X RX6 cX6_findNext 7 (some .boolean) (rmG 2 45) := O
  show GM 22 eM X (f6_findNext p1 S K) S 0 [(0, .ref (aX X 0)), (1, .int p1)] []
  unfold f6_findNext
  refine r_iconst O d6_findNext_0 (v := 0) (by decide) ?_
  refine r_istore_n O d6_findNext_1 [(2, .int 0), (0, .ref (aX X 0)), (1, .int p1)] (by decide) rfl ?_
  refine r_iconst O d6_findNext_2 (v := 0) (by decide) ?_
  refine r_istore_n O d6_findNext_3 [(3, .int 0), (2, .int 0), (0, .ref (aX X 0)), (1, .int p1)] (by decide) rfl ?_
  refine r_sub [2, 3, 1, 0] rfl ?_
  refine l6_findNext_4 O (fun v2_22 v3_23 S21 => ?_) _ _ _ _
  refine r_iload_n O d6_findNext_145 2 rfl ?_
  refine r_zb (fun hz24 => ?_)
  exact r_zret O hQ hz24 d6_findNext_146
-- X6.findLeft
theorem d6_findLeft_0 : decode cX6_findLeft 0 = .ok (.aload_n 0, 1) := by decide +kernel
theorem d6_findLeft_1 : decode cX6_findLeft 1 = .ok (.getfield 150, 3) := by decide +kernel
theorem d6_findLeft_4 : decode cX6_findLeft 4 = .ok (.ifCond .eq 4, 3) := by decide +kernel
theorem d6_findLeft_7 : decode cX6_findLeft 7 = .ok (.return_, 1) := by decide +kernel
theorem d6_findLeft_8 : decode cX6_findLeft 8 = .ok (.aload_n 0, 1) := by decide +kernel
theorem d6_findLeft_9 : decode cX6_findLeft 9 = .ok (.iconst 1, 1) := by decide +kernel
theorem d6_findLeft_10 : decode cX6_findLeft 10 = .ok (.putfield 150, 3) := by decide +kernel
theorem d6_findLeft_13 : decode cX6_findLeft 13 = .ok (.aload_n 0, 1) := by decide +kernel
theorem d6_findLeft_14 : decode cX6_findLeft 14 = .ok (.invokevirtual 202, 3) := by decide +kernel
theorem d6_findLeft_17 : decode cX6_findLeft 17 = .ok (.iconst 1, 1) := by decide +kernel
theorem d6_findLeft_18 : decode cX6_findLeft 18 = .ok (.istore_n 1, 1) := by decide +kernel
theorem d6_findLeft_19 : decode cX6_findLeft 19 = .ok (.aload_n 0, 1) := by decide +kernel
theorem d6_findLeft_20 : decode cX6_findLeft 20 = .ok (.iload_n 1, 1) := by decide +kernel
theorem d6_findLeft_21 : decode cX6_findLeft 21 = .ok (.invokevirtual 205, 3) := by decide +kernel
theorem d6_findLeft_24 : decode cX6_findLeft 24 = .ok (.ifCond .eq 9, 3) := by decide +kernel
theorem d6_findLeft_27 : decode cX6_findLeft 27 = .ok (.iinc 1 1, 3) := by decide +kernel
theorem d6_findLeft_30 : decode cX6_findLeft 30 = .ok (.goto (-11), 3) := by decide +kernel
theorem d6_findLeft_33 : decode cX6_findLeft 33 = .ok (.return_, 1) := by decide +kernel
noncomputable def f6_findLeft_L19 {α : Type} (KX : Int32 → MS → Option α) : Nat → Int32 → MS → Option α
  | 0, _, _ => none
  | n + 1, v1, S => f6_findNext v1 S fun r5 S4 => if r5 = 0 then (KX v1 S4) else (nm (v1 + 1) fun x1_6 => f6_findLeft_L19 KX n x1_6 S4)
noncomputable def f6_findLeft {α : Type} (S : MS) (K : MS → Option α) : Option α := if (S.1 0 28) = 0 then (nm (sI S 0 28 1) fun S1 => f6_prepare S1 fun S2 => f6_findLeft_L19 (fun v1_8 S7 => K S7) FU 1 S2) else (K S)
set_option maxHeartbeats 4000000 in
set_option maxRecDepth 100000 in
theorem l6_findLeft_19 {α : Type} {X : GX α} (O : OK 22 X RX6 cX6_findLeft 2 none (rmG 5 114)) {KX : Int32 → MS → Option α} (hX : ∀ v1 S, GM 22 eM X (KX v1 S) S 33 [(0, .ref (aX X 0)), (1, .int v1)] []) : ∀ n v1 S, GM 22 eM X (f6_findLeft_L19 KX n v1 S) S 19 [(0, .ref (aX X 0)), (1, .int v1)] [] := by
  intro n
  induction n with
  | zero => intro v1 S; exact r_none
  | succ n ih =>
    intro v1 S
    rw [f6_findLeft_L19]
    refine r_aload_n O d6_findLeft_19 0 rfl ?_
    refine r_iload_n O d6_findLeft_20 1 rfl ?_
    refine r_callVi O (b := 0) (bv := fun ad => [.int v1]) (rest := []) (c6_findNext (lX X) v1 S) (fun _ => rfl) (by decide) eM_0 rfl rfl w_881 w_883 w_35 w_51 w_884 hy_X6_findNext ⟨rfl, rfl, Nat.le_of_ble_eq_true rfl, Nat.le_of_ble_eq_true rfl⟩ rfl rfl (Nat.le_of_ble_eq_true rfl) d6_findLeft_21 (fun r5 S4 => ?_)
    refine r_if_eq O 33 d6_findLeft_24 (by decide) ?_ ?_
    · refine r_sub [0, 1] rfl ?_
      exact hX _ _
    · refine r_iinc O d6_findLeft_27 1 (c0 := 1) rfl (by decide) (fun x1_6 => [(1, .int x1_6), (0, .ref (aX X 0))]) (by decide) (fun _ => rfl) (fun x1_6 => ?_)
      refine r_goto O 19 d6_findLeft_30 (by decide) ?_
      refine r_sub [1, 0] rfl ?_
      exact ih _ _
set_option maxHeartbeats 4000000 in
set_option maxRecDepth 100000 in
theorem c6_findLeft (l : Launch) (S : MS) {α : Type} : CtV 22 eM l yX6_findLeft cX6_findLeft 2 none (rmG 5 114) S (fun ad => [.ref (ad 0)]) (α := α) (f6_findLeft S) := by
  refine CtV.of (by decide) (fun _ => Nat.le_of_ble_eq_true rfl) (fun X K _ O hQ => ?_)
  have O : OK 22 X RX6 cX6_findLeft 2 none (rmG 5 114) := O
  show GM 22 eM X (f6_findLeft S K) S 0 [(0, .ref (aX X 0))] []
  unfold f6_findLeft
  refine r_aload_n O d6_findLeft_0 0 rfl ?_
  refine g_X6_150 O d6_findLeft_1 ?_
  refine r_if_eq O 8 d6_findLeft_4 (by decide) ?_ ?_
  · refine r_aload_n O d6_findLeft_8 0 rfl ?_
    refine r_iconst O d6_findLeft_9 (v := 1) (by decide) ?_
    refine p_X6_150 O (by decide) d6_findLeft_10 (fun S1 => ?_)
    refine r_aload_n O d6_findLeft_13 0 rfl ?_
    refine r_callVv O (b := 0) (bv := fun ad => []) (rest := []) (c6_prepare (lX X) S1) (fun _ => rfl) (by decide) eM_0 rfl rfl w_873 w_875 w_33 w_51 w_876 hy_X6_prepare ⟨rfl, rfl, Nat.le_of_ble_eq_true rfl, Nat.le_of_ble_eq_true rfl⟩ rfl rfl (Nat.le_of_ble_eq_true rfl) d6_findLeft_14 (fun S2 => ?_)
    refine r_iconst O d6_findLeft_17 (v := 1) (by decide) ?_
    refine r_istore_n O d6_findLeft_18 [(1, .int 1), (0, .ref (aX X 0))] (by decide) rfl ?_
    refine r_sub [1, 0] rfl ?_
    refine l6_findLeft_19 O (fun v1_8 S7 => ?_) _ _ _
    exact r_vret O hQ d6_findLeft_33
  · exact r_vret O hQ d6_findLeft_7
-- X6.firstOf
theorem d6_firstOf_0 : decode cX6_firstOf 0 = .ok (.iconst 0, 1) := by decide +kernel
theorem d6_firstOf_1 : decode cX6_firstOf 1 = .ok (.istore_n 2, 1) := by decide +kernel
theorem d6_firstOf_2 : decode cX6_firstOf 2 = .ok (.iload_n 2, 1) := by decide +kernel
theorem d6_firstOf_3 : decode cX6_firstOf 3 = .ok (.aload_n 0, 1) := by decide +kernel
theorem d6_firstOf_4 : decode cX6_firstOf 4 = .ok (.getfield 89, 3) := by decide +kernel
theorem d6_firstOf_7 : decode cX6_firstOf 7 = .ok (.if_icmp .ge 57, 3) := by decide +kernel
theorem d6_firstOf_10 : decode cX6_firstOf 10 = .ok (.aload_n 0, 1) := by decide +kernel
theorem d6_firstOf_11 : decode cX6_firstOf 11 = .ok (.getfield 59, 3) := by decide +kernel
theorem d6_firstOf_14 : decode cX6_firstOf 14 = .ok (.iload_n 1, 1) := by decide +kernel
theorem d6_firstOf_15 : decode cX6_firstOf 15 = .ok (.iaload, 1) := by decide +kernel
theorem d6_firstOf_16 : decode cX6_firstOf 16 = .ok (.iload_n 2, 1) := by decide +kernel
theorem d6_firstOf_17 : decode cX6_firstOf 17 = .ok (.ishr, 1) := by decide +kernel
theorem d6_firstOf_18 : decode cX6_firstOf 18 = .ok (.iconst 1, 1) := by decide +kernel
theorem d6_firstOf_19 : decode cX6_firstOf 19 = .ok (.iand, 1) := by decide +kernel
theorem d6_firstOf_20 : decode cX6_firstOf 20 = .ok (.iconst 1, 1) := by decide +kernel
theorem d6_firstOf_21 : decode cX6_firstOf 21 = .ok (.if_icmp .ne 7, 3) := by decide +kernel
theorem d6_firstOf_24 : decode cX6_firstOf 24 = .ok (.iconst 1, 1) := by decide +kernel
theorem d6_firstOf_25 : decode cX6_firstOf 25 = .ok (.goto 4, 3) := by decide +kernel
theorem d6_firstOf_28 : decode cX6_firstOf 28 = .ok (.iconst 0, 1) := by decide +kernel
theorem d6_firstOf_29 : decode cX6_firstOf 29 = .ok (.istore_n 3, 1) := by decide +kernel
theorem d6_firstOf_30 : decode cX6_firstOf 30 = .ok (.iload_n 3, 1) := by decide +kernel
theorem d6_firstOf_31 : decode cX6_firstOf 31 = .ok (.ifCond .eq 27, 3) := by decide +kernel
theorem d6_firstOf_34 : decode cX6_firstOf 34 = .ok (.aload_n 0, 1) := by decide +kernel
theorem d6_firstOf_35 : decode cX6_firstOf 35 = .ok (.getfield 62, 3) := by decide +kernel
theorem d6_firstOf_38 : decode cX6_firstOf 38 = .ok (.aload_n 0, 1) := by decide +kernel
theorem d6_firstOf_39 : decode cX6_firstOf 39 = .ok (.iload_n 1, 1) := by decide +kernel
theorem d6_firstOf_40 : decode cX6_firstOf 40 = .ok (.iload_n 2, 1) := by decide +kernel
theorem d6_firstOf_41 : decode cX6_firstOf 41 = .ok (.invokevirtual 191, 3) := by decide +kernel
theorem d6_firstOf_44 : decode cX6_firstOf 44 = .ok (.iaload, 1) := by decide +kernel
theorem d6_firstOf_45 : decode cX6_firstOf 45 = .ok (.aload_n 0, 1) := by decide +kernel
theorem d6_firstOf_46 : decode cX6_firstOf 46 = .ok (.getfield 62, 3) := by decide +kernel
theorem d6_firstOf_49 : decode cX6_firstOf 49 = .ok (.iload_n 1, 1) := by decide +kernel
theorem d6_firstOf_50 : decode cX6_firstOf 50 = .ok (.iaload, 1) := by decide +kernel
theorem d6_firstOf_51 : decode cX6_firstOf 51 = .ok (.iconst 1, 1) := by decide +kernel
theorem d6_firstOf_52 : decode cX6_firstOf 52 = .ok (.isub, 1) := by decide +kernel
theorem d6_firstOf_53 : decode cX6_firstOf 53 = .ok (.if_icmp .ne 5, 3) := by decide +kernel
theorem d6_firstOf_56 : decode cX6_firstOf 56 = .ok (.iload_n 2, 1) := by decide +kernel
theorem d6_firstOf_57 : decode cX6_firstOf 57 = .ok (.ireturn, 1) := by decide +kernel
theorem d6_firstOf_58 : decode cX6_firstOf 58 = .ok (.iinc 2 1, 3) := by decide +kernel
theorem d6_firstOf_61 : decode cX6_firstOf 61 = .ok (.goto (-59), 3) := by decide +kernel
theorem d6_firstOf_64 : decode cX6_firstOf 64 = .ok (.bipush (-9), 2) := by decide +kernel
theorem d6_firstOf_66 : decode cX6_firstOf 66 = .ok (.ireturn, 1) := by decide +kernel
noncomputable def f6_firstOf_J29 {α : Type} (c1 : Int32) (c2 : Int32) (s0 : Int32) (S : MS) (K : Int32 → MS → Option α) (KB : Int32 → MS → Option α) (KX : Int32 → MS → Option α) : Option α := if s0 = 0 then (nm (c2 + 1) fun x2_2 => KB x2_2 S) else (f6_pumped c1 c2 S fun r4 S3 => ck r4 729 fun k5 => ck c1 729 fun k6 => if (S3.1 18 k5) = ((S3.1 18 k6) - 1) then (K c2 S3) else (nm (c2 + 1) fun x2_7 => KB x2_7 S3))
noncomputable def f6_firstOf_L2 {α : Type} (c1 : Int32) (K : Int32 → MS → Option α) (KX : Int32 → MS → Option α) : Nat → Int32 → MS → Option α
  | 0, _, _ => none
  | n + 1, v2, S => if (S.1 0 6) ≤ v2 then (KX v2 S) else (ck c1 729 fun k1 => if (((S.1 17 k1) >>> (v2 &&& 31)) &&& 1) = 1 then (f6_firstOf_J29 c1 v2 1 S K (f6_firstOf_L2 c1 K KX n) KX) else (f6_firstOf_J29 c1 v2 0 S K (f6_firstOf_L2 c1 K KX n) KX))
noncomputable def f6_firstOf {α : Type} (p1 : Int32) (S : MS) (K : Int32 → MS → Option α) : Option α := f6_firstOf_L2 p1 K (fun v2_9 S8 => K (-9) S8) FU 0 S
set_option maxHeartbeats 4000000 in
set_option maxRecDepth 100000 in
theorem j6_firstOf_29 {α : Type} {X : GX α} (O : OK 22 X RX6 cX6_firstOf 4 (some .int) (rmG 2 45)) {K : Int32 → MS → Option α} (hQ : RtI 22 eM X K) {c1 : Int32} {c2 : Int32} {s0 : Int32} {S : MS} {KB : Int32 → MS → Option α} {KX : Int32 → MS → Option α} (hB : ∀ v2q S, GM 22 eM X (KB v2q S) S 2 [(0, .ref (aX X 0)), (1, .int c1), (2, .int v2q)] []) (hX : ∀ v2q S, GM 22 eM X (KX v2q S) S 64 [(0, .ref (aX X 0)), (1, .int c1), (2, .int v2q)] []) : GM 22 eM X (f6_firstOf_J29 c1 c2 s0 S K KB KX) S 29 [(0, .ref (aX X 0)), (1, .int c1), (2, .int c2)] [.int s0] := by
  unfold f6_firstOf_J29
  refine r_istore_n O d6_firstOf_29 [(3, .int s0), (0, .ref (aX X 0)), (1, .int c1), (2, .int c2)] (by decide) rfl ?_
  refine r_iload_n O d6_firstOf_30 0 rfl ?_
  refine r_if_eq O 58 d6_firstOf_31 (by decide) ?_ ?_
  · refine r_iinc O d6_firstOf_58 3 (c0 := 1) rfl (by decide) (fun x2_2 => [(2, .int x2_2), (3, .int s0), (0, .ref (aX X 0)), (1, .int c1)]) (by decide) (fun _ => rfl) (fun x2_2 => ?_)
    refine r_goto O 2 d6_firstOf_61 (by decide) ?_
    refine r_sub [2, 3, 0] rfl ?_
    exact hB _ _
  · refine r_aload_n O d6_firstOf_34 1 rfl ?_
    refine g_X6_62 O d6_firstOf_35 ?_
    refine r_aload_n O d6_firstOf_38 1 rfl ?_
    refine r_iload_n O d6_firstOf_39 2 rfl ?_
    refine r_iload_n O d6_firstOf_40 3 rfl ?_
    refine r_callVi O (b := 0) (bv := fun ad => [.int c1, .int c2]) (rest := [.ref (aX X 18)]) (c6_pumped (lX X) c1 c2 S) (fun _ => rfl) (by decide) eM_0 rfl rfl w_824 w_826 w_30 w_51 w_827 hy_X6_pumped ⟨rfl, rfl, Nat.le_of_ble_eq_true rfl, Nat.le_of_ble_eq_true rfl⟩ rfl rfl (Nat.le_of_ble_eq_true rfl) d6_firstOf_41 (fun r4 S3 => ?_)
    refine r_iald O (j := 18) (by decide) eM_18 d6_firstOf_44 (fun k5 hk5 => ?_)
    refine r_aload_n O d6_firstOf_45 1 rfl ?_
    refine g_X6_62 O d6_firstOf_46 ?_
    refine r_iload_n O d6_firstOf_49 2 rfl ?_
    refine r_iald O (j := 18) (by decide) eM_18 d6_firstOf_50 (fun k6 hk6 => ?_)
    refine r_iconst O d6_firstOf_51 (v := 1) (by decide) ?_
    refine r_isub O d6_firstOf_52 ?_
    refine r_icmp_ne O 58 d6_firstOf_53 (by decide) ?_ ?_
    · refine r_iinc O d6_firstOf_58 3 (c0 := 1) rfl (by decide) (fun x2_7 => [(2, .int x2_7), (3, .int s0), (0, .ref (aX X 0)), (1, .int c1)]) (by decide) (fun _ => rfl) (fun x2_7 => ?_)
      refine r_goto O 2 d6_firstOf_61 (by decide) ?_
      refine r_sub [2, 3, 0] rfl ?_
      exact hB _ _
    · refine r_iload_n O d6_firstOf_56 3 rfl ?_
      exact r_iret O hQ d6_firstOf_57
set_option maxHeartbeats 4000000 in
set_option maxRecDepth 100000 in
theorem l6_firstOf_2 {α : Type} {X : GX α} (O : OK 22 X RX6 cX6_firstOf 4 (some .int) (rmG 2 45)) {K : Int32 → MS → Option α} (hQ : RtI 22 eM X K) {c1 : Int32} {KX : Int32 → MS → Option α} (hX : ∀ v2 S, GM 22 eM X (KX v2 S) S 64 [(0, .ref (aX X 0)), (1, .int c1), (2, .int v2)] []) : ∀ n v2 S, GM 22 eM X (f6_firstOf_L2 c1 K KX n v2 S) S 2 [(0, .ref (aX X 0)), (1, .int c1), (2, .int v2)] [] := by
  intro n
  induction n with
  | zero => intro v2 S; exact r_none
  | succ n ih =>
    intro v2 S
    rw [f6_firstOf_L2]
    refine r_iload_n O d6_firstOf_2 2 rfl ?_
    refine r_aload_n O d6_firstOf_3 0 rfl ?_
    refine g_X6_89 O d6_firstOf_4 ?_
    refine r_icmp_ge O 64 d6_firstOf_7 (by decide) ?_ ?_
    · refine r_sub [0, 1, 2] rfl ?_
      exact hX _ _
    · refine r_aload_n O d6_firstOf_10 0 rfl ?_
      refine g_X6_59 O d6_firstOf_11 ?_
      refine r_iload_n O d6_firstOf_14 1 rfl ?_
      refine r_iald O (j := 17) (by decide) eM_17 d6_firstOf_15 (fun k1 hk1 => ?_)
      refine r_iload_n O d6_firstOf_16 2 rfl ?_
      refine r_ishr O d6_firstOf_17 ?_
      refine r_iconst O d6_firstOf_18 (v := 1) (by decide) ?_
      refine r_iand O d6_firstOf_19 ?_
      refine r_iconst O d6_firstOf_20 (v := 1) (by decide) ?_
      refine r_icmp_ne O 28 d6_firstOf_21 (by decide) ?_ ?_
      · refine r_iconst O d6_firstOf_28 (v := 0) (by decide) ?_
        refine r_sub [0, 1, 2] rfl ?_
        exact j6_firstOf_29 O hQ (fun _ _ => ih _ _) hX
      · refine r_iconst O d6_firstOf_24 (v := 1) (by decide) ?_
        refine r_goto O 29 d6_firstOf_25 (by decide) ?_
        refine r_sub [0, 1, 2] rfl ?_
        exact j6_firstOf_29 O hQ (fun _ _ => ih _ _) hX
set_option maxHeartbeats 4000000 in
set_option maxRecDepth 100000 in
theorem c6_firstOf (l : Launch) (p1 : Int32) (S : MS) {α : Type} : CtI 22 eM l yX6_firstOf cX6_firstOf 4 (some .int) (rmG 2 45) S (fun ad => [.ref (ad 0), .int p1]) (α := α) (f6_firstOf p1 S) := by
  refine CtI.of (by decide) (fun _ => Nat.le_of_ble_eq_true rfl) (fun X K _ O hQ => ?_)
  have O : OK 22 X RX6 cX6_firstOf 4 (some .int) (rmG 2 45) := O
  show GM 22 eM X (f6_firstOf p1 S K) S 0 [(0, .ref (aX X 0)), (1, .int p1)] []
  unfold f6_firstOf
  refine r_iconst O d6_firstOf_0 (v := 0) (by decide) ?_
  refine r_istore_n O d6_firstOf_1 [(2, .int 0), (0, .ref (aX X 0)), (1, .int p1)] (by decide) rfl ?_
  refine r_sub [1, 2, 0] rfl ?_
  refine l6_firstOf_2 O hQ (fun v2_9 S8 => ?_) _ _ _
  refine r_bipush O d6_firstOf_64 (v := (-9)) (by decide) ?_
  exact r_iret O hQ d6_firstOf_66
-- X6.plan
theorem d6_plan_0 : decode cX6_plan 0 = .ok (.iload_n 1, 1) := by decide +kernel
theorem d6_plan_1 : decode cX6_plan 1 = .ok (.i2l, 1) := by decide +kernel
theorem d6_plan_2 : decode cX6_plan 2 = .ok (.ldc2_w 208, 3) := by decide +kernel
theorem d6_plan_5 : decode cX6_plan 5 = .ok (.ldc2_w 210, 3) := by decide +kernel
theorem d6_plan_8 : decode cX6_plan 8 = .ok (.invokestatic 83, 3) := by decide +kernel
theorem d6_plan_11 : decode cX6_plan 11 = .ok (.ifCond .ne 6, 3) := by decide +kernel
theorem d6_plan_14 : decode cX6_plan 14 = .ok (.bipush (-2), 2) := by decide +kernel
theorem d6_plan_16 : decode cX6_plan 16 = .ok (.ireturn, 1) := by decide +kernel
theorem d6_plan_17 : decode cX6_plan 17 = .ok (.aload_n 0, 1) := by decide +kernel
theorem d6_plan_18 : decode cX6_plan 18 = .ok (.getfield 89, 3) := by decide +kernel
theorem d6_plan_21 : decode cX6_plan 21 = .ok (.ifCond .ne 6, 3) := by decide +kernel
theorem d6_plan_24 : decode cX6_plan 24 = .ok (.bipush (-3), 2) := by decide +kernel
theorem d6_plan_26 : decode cX6_plan 26 = .ok (.ireturn, 1) := by decide +kernel
theorem d6_plan_27 : decode cX6_plan 27 = .ok (.aload_n 0, 1) := by decide +kernel
theorem d6_plan_28 : decode cX6_plan 28 = .ok (.invokevirtual 212, 3) := by decide +kernel
theorem d6_plan_31 : decode cX6_plan 31 = .ok (.iload_n 1, 1) := by decide +kernel
theorem d6_plan_32 : decode cX6_plan 32 = .ok (.ifCond .lt 16, 3) := by decide +kernel
theorem d6_plan_35 : decode cX6_plan 35 = .ok (.iload_n 1, 1) := by decide +kernel
theorem d6_plan_36 : decode cX6_plan 36 = .ok (.aload_n 0, 1) := by decide +kernel
theorem d6_plan_37 : decode cX6_plan 37 = .ok (.getfield 62, 3) := by decide +kernel
theorem d6_plan_40 : decode cX6_plan 40 = .ok (.aload_n 0, 1) := by decide +kernel
theorem d6_plan_41 : decode cX6_plan 41 = .ok (.getfield 141, 3) := by decide +kernel
theorem d6_plan_44 : decode cX6_plan 44 = .ok (.iaload, 1) := by decide +kernel
theorem d6_plan_45 : decode cX6_plan 45 = .ok (.if_icmp .lt 22, 3) := by decide +kernel
theorem d6_plan_48 : decode cX6_plan 48 = .ok (.iload_n 1, 1) := by decide +kernel
theorem d6_plan_49 : decode cX6_plan 49 = .ok (.ifCond .ge 15, 3) := by decide +kernel
theorem d6_plan_52 : decode cX6_plan 52 = .ok (.aload_n 0, 1) := by decide +kernel
theorem d6_plan_53 : decode cX6_plan 53 = .ok (.getfield 62, 3) := by decide +kernel
theorem d6_plan_56 : decode cX6_plan 56 = .ok (.aload_n 0, 1) := by decide +kernel
theorem d6_plan_57 : decode cX6_plan 57 = .ok (.getfield 141, 3) := by decide +kernel
theorem d6_plan_60 : decode cX6_plan 60 = .ok (.iaload, 1) := by decide +kernel
theorem d6_plan_61 : decode cX6_plan 61 = .ok (.goto 5, 3) := by decide +kernel
theorem d6_plan_64 : decode cX6_plan 64 = .ok (.bipush (-9), 2) := by decide +kernel
theorem d6_plan_66 : decode cX6_plan 66 = .ok (.ireturn, 1) := by decide +kernel
theorem d6_plan_67 : decode cX6_plan 67 = .ok (.aload_n 0, 1) := by decide +kernel
theorem d6_plan_68 : decode cX6_plan 68 = .ok (.getfield 141, 3) := by decide +kernel
theorem d6_plan_71 : decode cX6_plan 71 = .ok (.istore_n 2, 1) := by decide +kernel
theorem d6_plan_72 : decode cX6_plan 72 = .ok (.iconst 0, 1) := by decide +kernel
theorem d6_plan_73 : decode cX6_plan 73 = .ok (.istore_n 3, 1) := by decide +kernel
theorem d6_plan_74 : decode cX6_plan 74 = .ok (.iload_n 3, 1) := by decide +kernel
theorem d6_plan_75 : decode cX6_plan 75 = .ok (.iload_n 1, 1) := by decide +kernel
theorem d6_plan_76 : decode cX6_plan 76 = .ok (.if_icmp .ge 20, 3) := by decide +kernel
theorem d6_plan_79 : decode cX6_plan 79 = .ok (.aload_n 0, 1) := by decide +kernel
theorem d6_plan_80 : decode cX6_plan 80 = .ok (.iload_n 2, 1) := by decide +kernel
theorem d6_plan_81 : decode cX6_plan 81 = .ok (.aload_n 0, 1) := by decide +kernel
theorem d6_plan_82 : decode cX6_plan 82 = .ok (.iload_n 2, 1) := by decide +kernel
theorem d6_plan_83 : decode cX6_plan 83 = .ok (.invokevirtual 215, 3) := by decide +kernel
theorem d6_plan_86 : decode cX6_plan 86 = .ok (.invokevirtual 191, 3) := by decide +kernel
theorem d6_plan_89 : decode cX6_plan 89 = .ok (.istore_n 2, 1) := by decide +kernel
theorem d6_plan_90 : decode cX6_plan 90 = .ok (.iinc 3 1, 3) := by decide +kernel
theorem d6_plan_93 : decode cX6_plan 93 = .ok (.goto (-19), 3) := by decide +kernel
theorem d6_plan_96 : decode cX6_plan 96 = .ok (.aload_n 0, 1) := by decide +kernel
theorem d6_plan_97 : decode cX6_plan 97 = .ok (.iload_n 2, 1) := by decide +kernel
theorem d6_plan_98 : decode cX6_plan 98 = .ok (.invokevirtual 215, 3) := by decide +kernel
theorem d6_plan_101 : decode cX6_plan 101 = .ok (.ireturn, 1) := by decide +kernel
noncomputable def f6_plan_L74 {α : Type} (c1 : Int32) (KX : Int32 → Int32 → MS → Option α) : Nat → Int32 → Int32 → MS → Option α
  | 0, _, _, _ => none
  | n + 1, v2, v3, S => if c1 ≤ v3 then (KX v2 v3 S) else (f6_firstOf v2 S fun r9 S8 => f6_pumped v2 r9 S8 fun r11 S10 => nm (v3 + 1) fun x3_12 => f6_plan_L74 c1 KX n r11 x3_12 S10)
noncomputable def f6_plan {α : Type} (p1 : Int32) (S : MS) (K : Int32 → MS → Option α) : Option α := f6_within (Int32.toInt64 p1) (-1) 19 S fun r2 S1 => if r2 = 0 then (K (-2) S1) else (if (S1.1 0 6) = 0 then (K (-3) S1) else (f6_findLeft S1 fun S3 => if p1 < 0 then (if 0 ≤ p1 then (K (-9) S3) else (ck (S3.1 0 14) 729 fun k5 => K (S3.1 18 k5) S3)) else (ck (S3.1 0 14) 729 fun k6 => if p1 < (S3.1 18 k6) then (nm (S3.1 0 14) fun x2_7 => f6_plan_L74 p1 (fun v2_14 v3_15 S13 => f6_firstOf v2_14 S13 fun r17 S16 => K r17 S16) FU x2_7 0 S3) else (if 0 ≤ p1 then (K (-9) S3) else (ck (S3.1 0 14) 729 fun k18 => K (S3.1 18 k18) S3)))))
set_option maxHeartbeats 4000000 in
set_option maxRecDepth 100000 in
theorem l6_plan_74 {α : Type} {X : GX α} (O : OK 22 X RX6 cX6_plan 4 (some .int) (rmG 6 135)) {c1 : Int32} {KX : Int32 → Int32 → MS → Option α} (hX : ∀ v2 v3 S, GM 22 eM X (KX v2 v3 S) S 96 [(0, .ref (aX X 0)), (1, .int c1), (2, .int v2), (3, .int v3)] []) : ∀ n v2 v3 S, GM 22 eM X (f6_plan_L74 c1 KX n v2 v3 S) S 74 [(0, .ref (aX X 0)), (1, .int c1), (2, .int v2), (3, .int v3)] [] := by
  intro n
  induction n with
  | zero => intro v2 v3 S; exact r_none
  | succ n ih =>
    intro v2 v3 S
    rw [f6_plan_L74]
    refine r_iload_n O d6_plan_74 3 rfl ?_
    refine r_iload_n O d6_plan_75 1 rfl ?_
    refine r_icmp_ge O 96 d6_plan_76 (by decide) ?_ ?_
    · refine r_sub [0, 1, 2, 3] rfl ?_
      exact hX _ _ _
    · refine r_aload_n O d6_plan_79 0 rfl ?_
      refine r_iload_n O d6_plan_80 2 rfl ?_
      refine r_aload_n O d6_plan_81 0 rfl ?_
      refine r_iload_n O d6_plan_82 2 rfl ?_
      refine r_callVi O (b := 0) (bv := fun ad => [.int v2]) (rest := [.int v2, .ref (aX X 0)]) (c6_firstOf (lX X) v2 S) (fun _ => rfl) (by decide) eM_0 rfl rfl w_885 w_887 w_36 w_51 w_888 hy_X6_firstOf ⟨rfl, rfl, Nat.le_of_ble_eq_true rfl, Nat.le_of_ble_eq_true rfl⟩ rfl rfl (Nat.le_of_ble_eq_true rfl) d6_plan_83 (fun r9 S8 => ?_)
      refine r_callVi O (b := 0) (bv := fun ad => [.int v2, .int r9]) (rest := []) (c6_pumped (lX X) v2 r9 S8) (fun _ => rfl) (by decide) eM_0 rfl rfl w_824 w_826 w_30 w_51 w_827 hy_X6_pumped ⟨rfl, rfl, Nat.le_of_ble_eq_true rfl, Nat.le_of_ble_eq_true rfl⟩ rfl rfl (Nat.le_of_ble_eq_true rfl) d6_plan_86 (fun r11 S10 => ?_)
      refine r_istore_n O d6_plan_89 [(2, .int r11), (0, .ref (aX X 0)), (1, .int c1), (3, .int v3)] (by decide) rfl ?_
      refine r_iinc O d6_plan_90 3 (c0 := 1) rfl (by decide) (fun x3_12 => [(3, .int x3_12), (2, .int r11), (0, .ref (aX X 0)), (1, .int c1)]) (by decide) (fun _ => rfl) (fun x3_12 => ?_)
      refine r_goto O 74 d6_plan_93 (by decide) ?_
      refine r_sub [2, 3, 1, 0] rfl ?_
      exact ih _ _ _
set_option maxHeartbeats 4000000 in
set_option maxRecDepth 100000 in
theorem c6_plan (l : Launch) (p1 : Int32) (S : MS) {α : Type} : CtI 22 eM l yX6_plan cX6_plan 4 (some .int) (rmG 6 135) S (fun ad => [.ref (ad 0), .int p1]) (α := α) (f6_plan p1 S) := by
  refine CtI.of (by decide) (fun _ => Nat.le_of_ble_eq_true rfl) (fun X K _ O hQ => ?_)
  have O : OK 22 X RX6 cX6_plan 4 (some .int) (rmG 6 135) := O
  show GM 22 eM X (f6_plan p1 S K) S 0 [(0, .ref (aX X 0)), (1, .int p1)] []
  unfold f6_plan
  refine r_iload_n O d6_plan_0 1 rfl ?_
  refine r_i2l O d6_plan_1 ?_
  refine r_ldc2 O (v := (-1)) w_867 d6_plan_2 ?_
  refine r_ldc2 O (v := 19) w_868 d6_plan_5 ?_
  refine r_callSi O (rest := []) (c6_within (lX X) (Int32.toInt64 p1) (-1) 19 S) w_753 w_754 w_51 w_755 hy_X6_within ⟨rfl, rfl, Nat.le_of_ble_eq_true rfl, Nat.le_of_ble_eq_true rfl⟩ rfl rfl (Nat.le_of_ble_eq_true rfl) d6_plan_8 (fun r2 S1 => ?_)
  refine r_if_ne O 17 d6_plan_11 (by decide) ?_ ?_
  · refine r_aload_n O d6_plan_17 0 rfl ?_
    refine g_X6_89 O d6_plan_18 ?_
    refine r_if_ne O 27 d6_plan_21 (by decide) ?_ ?_
    · refine r_aload_n O d6_plan_27 0 rfl ?_
      refine r_callVv O (b := 0) (bv := fun ad => []) (rest := []) (c6_findLeft (lX X) S1) (fun _ => rfl) (by decide) eM_0 rfl rfl w_869 w_871 w_32 w_51 w_872 hy_X6_findLeft ⟨rfl, rfl, Nat.le_of_ble_eq_true rfl, Nat.le_of_ble_eq_true rfl⟩ rfl rfl (Nat.le_of_ble_eq_true rfl) d6_plan_28 (fun S3 => ?_)
      refine r_iload_n O d6_plan_31 1 rfl ?_
      refine r_if_lt O 48 d6_plan_32 (by decide) ?_ ?_
      · refine r_iload_n O d6_plan_48 1 rfl ?_
        refine r_if_ge O 64 d6_plan_49 (by decide) ?_ ?_
        · refine r_bipush O d6_plan_64 (v := (-9)) (by decide) ?_
          exact r_iret O hQ d6_plan_66
        · refine r_aload_n O d6_plan_52 0 rfl ?_
          refine g_X6_62 O d6_plan_53 ?_
          refine r_aload_n O d6_plan_56 0 rfl ?_
          refine g_X6_141 O d6_plan_57 ?_
          refine r_iald O (j := 18) (by decide) eM_18 d6_plan_60 (fun k5 hk5 => ?_)
          refine r_goto O 66 d6_plan_61 (by decide) ?_
          exact r_iret O hQ d6_plan_66
      · refine r_iload_n O d6_plan_35 1 rfl ?_
        refine r_aload_n O d6_plan_36 0 rfl ?_
        refine g_X6_62 O d6_plan_37 ?_
        refine r_aload_n O d6_plan_40 0 rfl ?_
        refine g_X6_141 O d6_plan_41 ?_
        refine r_iald O (j := 18) (by decide) eM_18 d6_plan_44 (fun k6 hk6 => ?_)
        refine r_icmp_lt O 67 d6_plan_45 (by decide) ?_ ?_
        · refine r_aload_n O d6_plan_67 0 rfl ?_
          refine g_X6_141 O d6_plan_68 ?_
          refine r_istore_n_nm O d6_plan_71 (fun x2_7 => [(2, .int x2_7), (0, .ref (aX X 0)), (1, .int p1)]) (by decide) (fun _ => rfl) (fun x2_7 => ?_)
          refine r_iconst O d6_plan_72 (v := 0) (by decide) ?_
          refine r_istore_n O d6_plan_73 [(3, .int 0), (2, .int x2_7), (0, .ref (aX X 0)), (1, .int p1)] (by decide) rfl ?_
          refine r_sub [2, 3, 1, 0] rfl ?_
          refine l6_plan_74 O (fun v2_14 v3_15 S13 => ?_) _ _ _ _
          refine r_aload_n O d6_plan_96 0 rfl ?_
          refine r_iload_n O d6_plan_97 2 rfl ?_
          refine r_callVi O (b := 0) (bv := fun ad => [.int v2_14]) (rest := []) (c6_firstOf (lX X) v2_14 S13) (fun _ => rfl) (by decide) eM_0 rfl rfl w_885 w_887 w_36 w_51 w_888 hy_X6_firstOf ⟨rfl, rfl, Nat.le_of_ble_eq_true rfl, Nat.le_of_ble_eq_true rfl⟩ rfl rfl (Nat.le_of_ble_eq_true rfl) d6_plan_98 (fun r17 S16 => ?_)
          exact r_iret O hQ d6_plan_101
        · refine r_iload_n O d6_plan_48 1 rfl ?_
          refine r_if_ge O 64 d6_plan_49 (by decide) ?_ ?_
          · refine r_bipush O d6_plan_64 (v := (-9)) (by decide) ?_
            exact r_iret O hQ d6_plan_66
          · refine r_aload_n O d6_plan_52 0 rfl ?_
            refine g_X6_62 O d6_plan_53 ?_
            refine r_aload_n O d6_plan_56 0 rfl ?_
            refine g_X6_141 O d6_plan_57 ?_
            refine r_iald O (j := 18) (by decide) eM_18 d6_plan_60 (fun k18 hk18 => ?_)
            refine r_goto O 66 d6_plan_61 (by decide) ?_
            exact r_iret O hQ d6_plan_66
    · refine r_bipush O d6_plan_24 (v := (-3)) (by decide) ?_
      exact r_iret O hQ d6_plan_26
  · refine r_bipush O d6_plan_14 (v := (-2)) (by decide) ?_
    exact r_iret O hQ d6_plan_16
-- X6.plans
theorem d6_plans_0 : decode cX6_plans 0 = .ok (.aload_n 0, 1) := by decide +kernel
theorem d6_plans_1 : decode cX6_plans 1 = .ok (.getfield 89, 3) := by decide +kernel
theorem d6_plans_4 : decode cX6_plans 4 = .ok (.ifCond .ne 7, 3) := by decide +kernel
theorem d6_plans_7 : decode cX6_plans 7 = .ok (.ldc2_w 79, 3) := by decide +kernel
theorem d6_plans_10 : decode cX6_plans 10 = .ok (.lreturn, 1) := by decide +kernel
theorem d6_plans_11 : decode cX6_plans 11 = .ok (.aload_n 0, 1) := by decide +kernel
theorem d6_plans_12 : decode cX6_plans 12 = .ok (.invokevirtual 212, 3) := by decide +kernel
theorem d6_plans_15 : decode cX6_plans 15 = .ok (.aload_n 0, 1) := by decide +kernel
theorem d6_plans_16 : decode cX6_plans 16 = .ok (.getfield 65, 3) := by decide +kernel
theorem d6_plans_19 : decode cX6_plans 19 = .ok (.aload_n 0, 1) := by decide +kernel
theorem d6_plans_20 : decode cX6_plans 20 = .ok (.getfield 141, 3) := by decide +kernel
theorem d6_plans_23 : decode cX6_plans 23 = .ok (.laload, 1) := by decide +kernel
theorem d6_plans_24 : decode cX6_plans 24 = .ok (.lreturn, 1) := by decide +kernel
noncomputable def f6_plans {α : Type} (S : MS) (K : Int64 → MS → Option α) : Option α := if (S.1 0 6) = 0 then (K (-9223372036854775808) S) else (f6_findLeft S fun S1 => ck (S1.1 0 14) 729 fun k3 => K (S1.2 19 k3) S1)
set_option maxHeartbeats 4000000 in
set_option maxRecDepth 100000 in
theorem c6_plans (l : Launch) (S : MS) {α : Type} : CtL 22 eM l yX6_plans cX6_plans 1 (some .long) (rmG 6 135) S (fun ad => [.ref (ad 0)]) (α := α) (f6_plans S) := by
  refine CtL.of (by decide) (fun _ => Nat.le_of_ble_eq_true rfl) (fun X K _ O hQ => ?_)
  have O : OK 22 X RX6 cX6_plans 1 (some .long) (rmG 6 135) := O
  show GM 22 eM X (f6_plans S K) S 0 [(0, .ref (aX X 0))] []
  unfold f6_plans
  refine r_aload_n O d6_plans_0 0 rfl ?_
  refine g_X6_89 O d6_plans_1 ?_
  refine r_if_ne O 11 d6_plans_4 (by decide) ?_ ?_
  · refine r_aload_n O d6_plans_11 0 rfl ?_
    refine r_callVv O (b := 0) (bv := fun ad => []) (rest := []) (c6_findLeft (lX X) S) (fun _ => rfl) (by decide) eM_0 rfl rfl w_869 w_871 w_32 w_51 w_872 hy_X6_findLeft ⟨rfl, rfl, Nat.le_of_ble_eq_true rfl, Nat.le_of_ble_eq_true rfl⟩ rfl rfl (Nat.le_of_ble_eq_true rfl) d6_plans_12 (fun S1 => ?_)
    refine r_aload_n O d6_plans_15 0 rfl ?_
    refine g_X6_65 O d6_plans_16 ?_
    refine r_aload_n O d6_plans_19 0 rfl ?_
    refine g_X6_141 O d6_plans_20 ?_
    refine r_lald O (j := 19) (by decide) eM_19 d6_plans_23 (fun k3 hk3 => ?_)
    exact r_lret O hQ d6_plans_24
  · refine r_ldc2 O (v := (-9223372036854775808)) w_893 d6_plans_7 ?_
    exact r_lret O hQ d6_plans_10
