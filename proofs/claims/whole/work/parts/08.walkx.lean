-- X5.ofTank
theorem d5_ofTank_0 : decode cX5_ofTank 0 = .ok (.aload_n 0, 1) := by decide +kernel
theorem d5_ofTank_1 : decode cX5_ofTank 1 = .ok (.iload_n 1, 1) := by decide +kernel
theorem d5_ofTank_2 : decode cX5_ofTank 2 = .ok (.invokevirtual 78, 3) := by decide +kernel
theorem d5_ofTank_5 : decode cX5_ofTank 5 = .ok (.ifCond .ne 5, 3) := by decide +kernel
theorem d5_ofTank_8 : decode cX5_ofTank 8 = .ok (.iconst (-1), 1) := by decide +kernel
theorem d5_ofTank_9 : decode cX5_ofTank 9 = .ok (.ireturn, 1) := by decide +kernel
theorem d5_ofTank_10 : decode cX5_ofTank 10 = .ok (.aload_n 0, 1) := by decide +kernel
theorem d5_ofTank_11 : decode cX5_ofTank 11 = .ok (.getfield 20, 3) := by decide +kernel
theorem d5_ofTank_14 : decode cX5_ofTank 14 = .ok (.getfield 81, 3) := by decide +kernel
theorem d5_ofTank_17 : decode cX5_ofTank 17 = .ok (.iload_n 1, 1) := by decide +kernel
theorem d5_ofTank_18 : decode cX5_ofTank 18 = .ok (.aaload, 1) := by decide +kernel
theorem d5_ofTank_19 : decode cX5_ofTank 19 = .ok (.astore_n 3, 1) := by decide +kernel
theorem d5_ofTank_20 : decode cX5_ofTank 20 = .ok (.iload_n 2, 1) := by decide +kernel
theorem d5_ofTank_21 : decode cX5_ofTank 21 = .ok (.tableswitch 137 0 8 #[51, 56, 61, 66, 71, 76, 88, 103, 122], 51) := by decide +kernel
theorem d5_ofTank_72 : decode cX5_ofTank 72 = .ok (.aload_n 3, 1) := by decide +kernel
theorem d5_ofTank_73 : decode cX5_ofTank 73 = .ok (.getfield 85, 3) := by decide +kernel
theorem d5_ofTank_76 : decode cX5_ofTank 76 = .ok (.ireturn, 1) := by decide +kernel
theorem d5_ofTank_77 : decode cX5_ofTank 77 = .ok (.aload_n 3, 1) := by decide +kernel
theorem d5_ofTank_78 : decode cX5_ofTank 78 = .ok (.getfield 90, 3) := by decide +kernel
theorem d5_ofTank_81 : decode cX5_ofTank 81 = .ok (.ireturn, 1) := by decide +kernel
theorem d5_ofTank_82 : decode cX5_ofTank 82 = .ok (.aload_n 3, 1) := by decide +kernel
theorem d5_ofTank_83 : decode cX5_ofTank 83 = .ok (.getfield 93, 3) := by decide +kernel
theorem d5_ofTank_86 : decode cX5_ofTank 86 = .ok (.ireturn, 1) := by decide +kernel
theorem d5_ofTank_87 : decode cX5_ofTank 87 = .ok (.aload_n 3, 1) := by decide +kernel
theorem d5_ofTank_88 : decode cX5_ofTank 88 = .ok (.getfield 96, 3) := by decide +kernel
theorem d5_ofTank_91 : decode cX5_ofTank 91 = .ok (.ireturn, 1) := by decide +kernel
theorem d5_ofTank_92 : decode cX5_ofTank 92 = .ok (.aload_n 3, 1) := by decide +kernel
theorem d5_ofTank_93 : decode cX5_ofTank 93 = .ok (.invokevirtual 99, 3) := by decide +kernel
theorem d5_ofTank_96 : decode cX5_ofTank 96 = .ok (.ireturn, 1) := by decide +kernel
theorem d5_ofTank_97 : decode cX5_ofTank 97 = .ok (.aload_n 0, 1) := by decide +kernel
theorem d5_ofTank_98 : decode cX5_ofTank 98 = .ok (.getfield 20, 3) := by decide +kernel
theorem d5_ofTank_101 : decode cX5_ofTank 101 = .ok (.getfield 103, 3) := by decide +kernel
theorem d5_ofTank_104 : decode cX5_ofTank 104 = .ok (.iload_n 1, 1) := by decide +kernel
theorem d5_ofTank_105 : decode cX5_ofTank 105 = .ok (.invokestatic 106, 3) := by decide +kernel
theorem d5_ofTank_108 : decode cX5_ofTank 108 = .ok (.ireturn, 1) := by decide +kernel
theorem d5_ofTank_109 : decode cX5_ofTank 109 = .ok (.aload_n 0, 1) := by decide +kernel
theorem d5_ofTank_110 : decode cX5_ofTank 110 = .ok (.getfield 20, 3) := by decide +kernel
theorem d5_ofTank_113 : decode cX5_ofTank 113 = .ok (.getfield 110, 3) := by decide +kernel
theorem d5_ofTank_116 : decode cX5_ofTank 116 = .ok (.iload_n 1, 1) := by decide +kernel
theorem d5_ofTank_117 : decode cX5_ofTank 117 = .ok (.invokestatic 113, 3) := by decide +kernel
theorem d5_ofTank_120 : decode cX5_ofTank 120 = .ok (.invokestatic 116, 3) := by decide +kernel
theorem d5_ofTank_123 : decode cX5_ofTank 123 = .ok (.ireturn, 1) := by decide +kernel
theorem d5_ofTank_124 : decode cX5_ofTank 124 = .ok (.aload_n 0, 1) := by decide +kernel
theorem d5_ofTank_125 : decode cX5_ofTank 125 = .ok (.getfield 20, 3) := by decide +kernel
theorem d5_ofTank_128 : decode cX5_ofTank 128 = .ok (.aload_n 0, 1) := by decide +kernel
theorem d5_ofTank_129 : decode cX5_ofTank 129 = .ok (.getfield 20, 3) := by decide +kernel
theorem d5_ofTank_132 : decode cX5_ofTank 132 = .ok (.getfield 103, 3) := by decide +kernel
theorem d5_ofTank_135 : decode cX5_ofTank 135 = .ok (.iload_n 1, 1) := by decide +kernel
theorem d5_ofTank_136 : decode cX5_ofTank 136 = .ok (.invokevirtual 120, 3) := by decide +kernel
theorem d5_ofTank_139 : decode cX5_ofTank 139 = .ok (.invokestatic 116, 3) := by decide +kernel
theorem d5_ofTank_142 : decode cX5_ofTank 142 = .ok (.ireturn, 1) := by decide +kernel
theorem d5_ofTank_143 : decode cX5_ofTank 143 = .ok (.aload_n 0, 1) := by decide +kernel
theorem d5_ofTank_144 : decode cX5_ofTank 144 = .ok (.getfield 20, 3) := by decide +kernel
theorem d5_ofTank_147 : decode cX5_ofTank 147 = .ok (.getfield 123, 3) := by decide +kernel
theorem d5_ofTank_150 : decode cX5_ofTank 150 = .ok (.iload_n 1, 1) := by decide +kernel
theorem d5_ofTank_151 : decode cX5_ofTank 151 = .ok (.invokestatic 113, 3) := by decide +kernel
theorem d5_ofTank_154 : decode cX5_ofTank 154 = .ok (.invokestatic 116, 3) := by decide +kernel
theorem d5_ofTank_157 : decode cX5_ofTank 157 = .ok (.ireturn, 1) := by decide +kernel
theorem d5_ofTank_158 : decode cX5_ofTank 158 = .ok (.bipush (-2), 2) := by decide +kernel
theorem d5_ofTank_160 : decode cX5_ofTank 160 = .ok (.ireturn, 1) := by decide +kernel
noncomputable def f5_ofTank {α : Type} (p1 : Int32) (p2 : Int32) (S : MS) (K : Int32 → MS → Option α) : Option α := f5_isTank p1 S fun r2 S1 => if r2 = 0 then (K (-1) S1) else (ck p1 6 fun k3 => if p2 = 0 then (K (S1.1 (24 + k3) 0) S1) else (if p2 = 1 then (K (S1.1 (24 + k3) 1) S1) else (if p2 = 2 then (K (S1.1 (24 + k3) 2) S1) else (if p2 = 3 then (K (S1.1 (24 + k3) 3) S1) else (if p2 = 4 then (f4_weight k3 S1 fun r10 S9 => K r10 S9) else (if p2 = 5 then (f5_waterIn (S1.1 2 4) p1 S1 fun r13 S12 => K r13 S12) else (if p2 = 6 then (f5_holds (S1.1 2 5) p1 S1 fun r16 S15 => f5_oneIf r16 S15 fun r18 S17 => K r18 S17) else (if p2 = 7 then (f3_canPump (S1.1 2 4) p1 S1 fun r21 S20 => f5_oneIf r21 S20 fun r23 S22 => K r23 S22) else (if p2 = 8 then (f5_holds (S1.1 2 6) p1 S1 fun r26 S25 => f5_oneIf r26 S25 fun r28 S27 => K r28 S27) else (K (-2) S1))))))))))
set_option maxHeartbeats 4000000 in
set_option maxRecDepth 100000 in
theorem c5_ofTank (l : Launch) (p1 : Int32) (p2 : Int32) (S : MS) {α : Type} : CtI 30 eX l yX5_ofTank cX5_ofTank 4 (some .int) (rmG 5 112) S (fun ad => [.ref (ad 0), .int p1, .int p2]) (α := α) (f5_ofTank p1 p2 S) := by
  refine CtI.of (by decide) (fun _ => Nat.le_of_ble_eq_true rfl) (fun X K _ O hQ => ?_)
  have O : OK 30 X RX5 cX5_ofTank 4 (some .int) (rmG 5 112) := O
  show GM 30 eX X (f5_ofTank p1 p2 S K) S 0 [(0, .ref (aX X 0)), (1, .int p1), (2, .int p2)] []
  unfold f5_ofTank
  refine r_aload_n O d5_ofTank_0 0 rfl ?_
  refine r_iload_n O d5_ofTank_1 1 rfl ?_
  refine r_callVi O (b := 0) (bv := fun ad => [.int p1]) (rest := []) (c5_isTank (lX X) p1 S) (fun _ => rfl) (by decide) eX_0 rfl rfl w_304 w_306 w_1 w_45 w_307 hy_X5_isTank ⟨rfl, rfl, Nat.le_of_ble_eq_true rfl, Nat.le_of_ble_eq_true rfl⟩ rfl rfl (Nat.le_of_ble_eq_true rfl) d5_ofTank_2 (fun r2 S1 => ?_)
  refine r_if_ne O 10 d5_ofTank_5 (by decide) ?_ ?_
  · refine r_aload_n O d5_ofTank_10 0 rfl ?_
    refine g_X5_20 O d5_ofTank_11 ?_
    refine g_X5_81 O d5_ofTank_14 ?_
    refine r_iload_n O d5_ofTank_17 1 rfl ?_
    refine r_aald O (b := 24) (by decide) eX_7 rfl d5_ofTank_18 (fun k3 hk3 => ?_)
    refine r_astore_n O d5_ofTank_19 [(3, .ref (aX X (24 + k3))), (0, .ref (aX X 0)), (1, .int p1), (2, .int p2)] (by decide) rfl ?_
    refine r_iload_n O d5_ofTank_20 3 rfl ?_
    refine r_ite (fun hs4 => ?_) (fun hs4 => ?_)
    · refine r_tin O 72 d5_ofTank_21 (by rw [hs4]; decide) (by rw [hs4]; decide) (by rw [hs4]; rfl) (by decide) ?_
      refine r_aload_n O d5_ofTank_72 0 rfl ?_
      refine g_X5_85 O hk3 d5_ofTank_73 ?_
      exact r_iret O hQ d5_ofTank_76
    refine r_ite (fun hs5 => ?_) (fun hs5 => ?_)
    · refine r_tin O 77 d5_ofTank_21 (by rw [hs5]; decide) (by rw [hs5]; decide) (by rw [hs5]; rfl) (by decide) ?_
      refine r_aload_n O d5_ofTank_77 0 rfl ?_
      refine g_X5_90 O hk3 d5_ofTank_78 ?_
      exact r_iret O hQ d5_ofTank_81
    refine r_ite (fun hs6 => ?_) (fun hs6 => ?_)
    · refine r_tin O 82 d5_ofTank_21 (by rw [hs6]; decide) (by rw [hs6]; decide) (by rw [hs6]; rfl) (by decide) ?_
      refine r_aload_n O d5_ofTank_82 0 rfl ?_
      refine g_X5_93 O hk3 d5_ofTank_83 ?_
      exact r_iret O hQ d5_ofTank_86
    refine r_ite (fun hs7 => ?_) (fun hs7 => ?_)
    · refine r_tin O 87 d5_ofTank_21 (by rw [hs7]; decide) (by rw [hs7]; decide) (by rw [hs7]; rfl) (by decide) ?_
      refine r_aload_n O d5_ofTank_87 0 rfl ?_
      refine g_X5_96 O hk3 d5_ofTank_88 ?_
      exact r_iret O hQ d5_ofTank_91
    refine r_ite (fun hs8 => ?_) (fun hs8 => ?_)
    · refine r_tin O 92 d5_ofTank_21 (by rw [hs8]; decide) (by rw [hs8]; decide) (by rw [hs8]; rfl) (by decide) ?_
      refine r_aload_n O d5_ofTank_92 0 rfl ?_
      refine r_callVi O (b := (24 + k3)) (bv := fun ad => []) (rest := []) (c4_weight (lX X) k3 hk3 S1) (fun _ => rfl) (by omega) (eX_tnk hk3) rfl rfl w_308 w_309 w_310 w_48 w_311 hy_X4_weight ⟨rfl, rfl, Nat.le_of_ble_eq_true rfl, Nat.le_of_ble_eq_true rfl⟩ rfl rfl (Nat.le_of_ble_eq_true rfl) d5_ofTank_93 (fun r10 S9 => ?_)
      exact r_iret O hQ d5_ofTank_96
    refine r_ite (fun hs11 => ?_) (fun hs11 => ?_)
    · refine r_tin O 97 d5_ofTank_21 (by rw [hs11]; decide) (by rw [hs11]; decide) (by rw [hs11]; rfl) (by decide) ?_
      refine r_aload_n O d5_ofTank_97 1 rfl ?_
      refine g_X5_20 O d5_ofTank_98 ?_
      refine g_X5_103 O d5_ofTank_101 ?_
      refine r_iload_n O d5_ofTank_104 2 rfl ?_
      refine r_callSi O (rest := []) (c5_waterIn (lX X) (S1.1 2 4) p1 S1) w_315 w_290 w_45 w_291 hy_X5_waterIn ⟨rfl, rfl, Nat.le_of_ble_eq_true rfl, Nat.le_of_ble_eq_true rfl⟩ rfl rfl (Nat.le_of_ble_eq_true rfl) d5_ofTank_105 (fun r13 S12 => ?_)
      exact r_iret O hQ d5_ofTank_108
    refine r_ite (fun hs14 => ?_) (fun hs14 => ?_)
    · refine r_tin O 109 d5_ofTank_21 (by rw [hs14]; decide) (by rw [hs14]; decide) (by rw [hs14]; rfl) (by decide) ?_
      refine r_aload_n O d5_ofTank_109 1 rfl ?_
      refine g_X5_20 O d5_ofTank_110 ?_
      refine g_X5_110 O d5_ofTank_113 ?_
      refine r_iload_n O d5_ofTank_116 2 rfl ?_
      refine r_callSi O (rest := []) (c5_holds (lX X) (S1.1 2 5) p1 S1) w_316 w_317 w_45 w_318 hy_X5_holds ⟨rfl, rfl, Nat.le_of_ble_eq_true rfl, Nat.le_of_ble_eq_true rfl⟩ rfl rfl (Nat.le_of_ble_eq_true rfl) d5_ofTank_117 (fun r16 S15 => ?_)
      refine r_callSi O (rest := []) (c5_oneIf (lX X) r16 S15) w_319 w_320 w_45 w_321 hy_X5_oneIf ⟨rfl, rfl, Nat.le_of_ble_eq_true rfl, Nat.le_of_ble_eq_true rfl⟩ rfl rfl (Nat.le_of_ble_eq_true rfl) d5_ofTank_120 (fun r18 S17 => ?_)
      exact r_iret O hQ d5_ofTank_123
    refine r_ite (fun hs19 => ?_) (fun hs19 => ?_)
    · refine r_tin O 124 d5_ofTank_21 (by rw [hs19]; decide) (by rw [hs19]; decide) (by rw [hs19]; rfl) (by decide) ?_
      refine r_aload_n O d5_ofTank_124 1 rfl ?_
      refine g_X5_20 O d5_ofTank_125 ?_
      refine r_aload_n O d5_ofTank_128 1 rfl ?_
      refine g_X5_20 O d5_ofTank_129 ?_
      refine g_X5_103 O d5_ofTank_132 ?_
      refine r_iload_n O d5_ofTank_135 2 rfl ?_
      refine r_callVi O (b := 2) (bv := fun ad => [.int (S1.1 2 4), .int p1]) (rest := []) (c3_canPump (lX X) (S1.1 2 4) p1 S1) (fun _ => rfl) (by decide) eX_2 rfl rfl w_322 w_323 w_324 w_46 w_325 hy_X3_canPump ⟨rfl, rfl, Nat.le_of_ble_eq_true rfl, Nat.le_of_ble_eq_true rfl⟩ rfl rfl (Nat.le_of_ble_eq_true rfl) d5_ofTank_136 (fun r21 S20 => ?_)
      refine r_callSi O (rest := []) (c5_oneIf (lX X) r21 S20) w_319 w_320 w_45 w_321 hy_X5_oneIf ⟨rfl, rfl, Nat.le_of_ble_eq_true rfl, Nat.le_of_ble_eq_true rfl⟩ rfl rfl (Nat.le_of_ble_eq_true rfl) d5_ofTank_139 (fun r23 S22 => ?_)
      exact r_iret O hQ d5_ofTank_142
    refine r_ite (fun hs24 => ?_) (fun hs24 => ?_)
    · refine r_tin O 143 d5_ofTank_21 (by rw [hs24]; decide) (by rw [hs24]; decide) (by rw [hs24]; rfl) (by decide) ?_
      refine r_aload_n O d5_ofTank_143 1 rfl ?_
      refine g_X5_20 O d5_ofTank_144 ?_
      refine g_X5_123 O d5_ofTank_147 ?_
      refine r_iload_n O d5_ofTank_150 2 rfl ?_
      refine r_callSi O (rest := []) (c5_holds (lX X) (S1.1 2 6) p1 S1) w_316 w_317 w_45 w_318 hy_X5_holds ⟨rfl, rfl, Nat.le_of_ble_eq_true rfl, Nat.le_of_ble_eq_true rfl⟩ rfl rfl (Nat.le_of_ble_eq_true rfl) d5_ofTank_151 (fun r26 S25 => ?_)
      refine r_callSi O (rest := []) (c5_oneIf (lX X) r26 S25) w_319 w_320 w_45 w_321 hy_X5_oneIf ⟨rfl, rfl, Nat.le_of_ble_eq_true rfl, Nat.le_of_ble_eq_true rfl⟩ rfl rfl (Nat.le_of_ble_eq_true rfl) d5_ofTank_154 (fun r28 S27 => ?_)
      exact r_iret O hQ d5_ofTank_157
    have nhs4 := i32_ne (n := 0) 0 (by decide) hs4
    have nhs5 := i32_ne (n := 1) 1 (by decide) hs5
    have nhs6 := i32_ne (n := 2) 2 (by decide) hs6
    have nhs7 := i32_ne (n := 3) 3 (by decide) hs7
    have nhs8 := i32_ne (n := 4) 4 (by decide) hs8
    have nhs11 := i32_ne (n := 5) 5 (by decide) hs11
    have nhs14 := i32_ne (n := 6) 6 (by decide) hs14
    have nhs19 := i32_ne (n := 7) 7 (by decide) hs19
    have nhs24 := i32_ne (n := 8) 8 (by decide) hs24
    refine r_tout O 158 d5_ofTank_21 (by omega) (by decide) ?_
    refine r_bipush O d5_ofTank_158 (v := (-2)) (by decide) ?_
    exact r_iret O hQ d5_ofTank_160
  · refine r_iconst O d5_ofTank_8 (v := (-1)) (by decide) ?_
    exact r_iret O hQ d5_ofTank_9
-- X5.mass
theorem d5_mass_0 : decode cX5_mass 0 = .ok (.aload_n 0, 1) := by decide +kernel
theorem d5_mass_1 : decode cX5_mass 1 = .ok (.iload_n 1, 1) := by decide +kernel
theorem d5_mass_2 : decode cX5_mass 2 = .ok (.invokevirtual 78, 3) := by decide +kernel
theorem d5_mass_5 : decode cX5_mass 5 = .ok (.ifCond .ne 5, 3) := by decide +kernel
theorem d5_mass_8 : decode cX5_mass 8 = .ok (.iconst (-1), 1) := by decide +kernel
theorem d5_mass_9 : decode cX5_mass 9 = .ok (.ireturn, 1) := by decide +kernel
theorem d5_mass_10 : decode cX5_mass 10 = .ok (.iload_n 2, 1) := by decide +kernel
theorem d5_mass_11 : decode cX5_mass 11 = .ok (.iconst 1, 1) := by decide +kernel
theorem d5_mass_12 : decode cX5_mass 12 = .ok (.if_icmp .lt 9, 3) := by decide +kernel
theorem d5_mass_15 : decode cX5_mass 15 = .ok (.iload_n 2, 1) := by decide +kernel
theorem d5_mass_16 : decode cX5_mass 16 = .ok (.bipush 9, 2) := by decide +kernel
theorem d5_mass_18 : decode cX5_mass 18 = .ok (.if_icmp .le 6, 3) := by decide +kernel
theorem d5_mass_21 : decode cX5_mass 21 = .ok (.bipush (-2), 2) := by decide +kernel
theorem d5_mass_23 : decode cX5_mass 23 = .ok (.ireturn, 1) := by decide +kernel
theorem d5_mass_24 : decode cX5_mass 24 = .ok (.aload_n 0, 1) := by decide +kernel
theorem d5_mass_25 : decode cX5_mass 25 = .ok (.getfield 20, 3) := by decide +kernel
theorem d5_mass_28 : decode cX5_mass 28 = .ok (.getfield 81, 3) := by decide +kernel
theorem d5_mass_31 : decode cX5_mass 31 = .ok (.iload_n 1, 1) := by decide +kernel
theorem d5_mass_32 : decode cX5_mass 32 = .ok (.aaload, 1) := by decide +kernel
theorem d5_mass_33 : decode cX5_mass 33 = .ok (.getfield 96, 3) := by decide +kernel
theorem d5_mass_36 : decode cX5_mass 36 = .ok (.istore_n 3, 1) := by decide +kernel
theorem d5_mass_37 : decode cX5_mass 37 = .ok (.aload_n 0, 1) := by decide +kernel
theorem d5_mass_38 : decode cX5_mass 38 = .ok (.getfield 20, 3) := by decide +kernel
theorem d5_mass_41 : decode cX5_mass 41 = .ok (.getfield 81, 3) := by decide +kernel
theorem d5_mass_44 : decode cX5_mass 44 = .ok (.iload_n 1, 1) := by decide +kernel
theorem d5_mass_45 : decode cX5_mass 45 = .ok (.aaload, 1) := by decide +kernel
theorem d5_mass_46 : decode cX5_mass 46 = .ok (.iload_n 2, 1) := by decide +kernel
theorem d5_mass_47 : decode cX5_mass 47 = .ok (.putfield 96, 3) := by decide +kernel
theorem d5_mass_50 : decode cX5_mass 50 = .ok (.aload_n 0, 1) := by decide +kernel
theorem d5_mass_51 : decode cX5_mass 51 = .ok (.getfield 27, 3) := by decide +kernel
theorem d5_mass_54 : decode cX5_mass 54 = .ok (.invokevirtual 72, 3) := by decide +kernel
theorem d5_mass_57 : decode cX5_mass 57 = .ok (.iload_n 3, 1) := by decide +kernel
theorem d5_mass_58 : decode cX5_mass 58 = .ok (.ireturn, 1) := by decide +kernel
noncomputable def f5_mass {α : Type} (p1 : Int32) (p2 : Int32) (S : MS) (K : Int32 → MS → Option α) : Option α := f5_isTank p1 S fun r2 S1 => if r2 = 0 then (K (-1) S1) else (if p2 < 1 then (K (-2) S1) else (if p2 ≤ 9 then (ck p1 6 fun k3 => nm (S1.1 (24 + k3) 3) fun x3_4 => ck p1 6 fun k5 => nm (sI S1 (24 + k5) 3 p2) fun S6 => f2_forget S6 fun S7 => K x3_4 S7) else (K (-2) S1)))
set_option maxHeartbeats 4000000 in
set_option maxRecDepth 100000 in
theorem c5_mass (l : Launch) (p1 : Int32) (p2 : Int32) (S : MS) {α : Type} : CtI 30 eX l yX5_mass cX5_mass 4 (some .int) (rmG 1 21) S (fun ad => [.ref (ad 0), .int p1, .int p2]) (α := α) (f5_mass p1 p2 S) := by
  refine CtI.of (by decide) (fun _ => Nat.le_of_ble_eq_true rfl) (fun X K _ O hQ => ?_)
  have O : OK 30 X RX5 cX5_mass 4 (some .int) (rmG 1 21) := O
  show GM 30 eX X (f5_mass p1 p2 S K) S 0 [(0, .ref (aX X 0)), (1, .int p1), (2, .int p2)] []
  unfold f5_mass
  refine r_aload_n O d5_mass_0 0 rfl ?_
  refine r_iload_n O d5_mass_1 1 rfl ?_
  refine r_callVi O (b := 0) (bv := fun ad => [.int p1]) (rest := []) (c5_isTank (lX X) p1 S) (fun _ => rfl) (by decide) eX_0 rfl rfl w_304 w_306 w_1 w_45 w_307 hy_X5_isTank ⟨rfl, rfl, Nat.le_of_ble_eq_true rfl, Nat.le_of_ble_eq_true rfl⟩ rfl rfl (Nat.le_of_ble_eq_true rfl) d5_mass_2 (fun r2 S1 => ?_)
  refine r_if_ne O 10 d5_mass_5 (by decide) ?_ ?_
  · refine r_iload_n O d5_mass_10 2 rfl ?_
    refine r_iconst O d5_mass_11 (v := 1) (by decide) ?_
    refine r_icmp_lt O 21 d5_mass_12 (by decide) ?_ ?_
    · refine r_bipush O d5_mass_21 (v := (-2)) (by decide) ?_
      exact r_iret O hQ d5_mass_23
    · refine r_iload_n O d5_mass_15 2 rfl ?_
      refine r_bipush O d5_mass_16 (v := 9) (by decide) ?_
      refine r_icmp_le O 24 d5_mass_18 (by decide) ?_ ?_
      · refine r_aload_n O d5_mass_24 0 rfl ?_
        refine g_X5_20 O d5_mass_25 ?_
        refine g_X5_81 O d5_mass_28 ?_
        refine r_iload_n O d5_mass_31 1 rfl ?_
        refine r_aald O (b := 24) (by decide) eX_7 rfl d5_mass_32 (fun k3 hk3 => ?_)
        refine g_X5_96 O hk3 d5_mass_33 ?_
        refine r_istore_n_nm O d5_mass_36 (fun x3_4 => [(3, .int x3_4), (0, .ref (aX X 0)), (1, .int p1), (2, .int p2)]) (by decide) (fun _ => rfl) (fun x3_4 => ?_)
        refine r_aload_n O d5_mass_37 1 rfl ?_
        refine g_X5_20 O d5_mass_38 ?_
        refine g_X5_81 O d5_mass_41 ?_
        refine r_iload_n O d5_mass_44 2 rfl ?_
        refine r_aald O (b := 24) (by decide) eX_7 rfl d5_mass_45 (fun k5 hk5 => ?_)
        refine r_iload_n O d5_mass_46 3 rfl ?_
        refine p_X5_96 O hk5 d5_mass_47 (fun S6 => ?_)
        refine r_aload_n O d5_mass_50 1 rfl ?_
        refine g_X5_27 O d5_mass_51 ?_
        refine r_callVv O (b := 3) (bv := fun ad => []) (rest := []) (c2_forget (lX X) S6) (fun _ => rfl) (by decide) eX_3 rfl rfl w_296 w_297 w_298 w_49 w_299 hy_X2_forget ⟨rfl, rfl, Nat.le_of_ble_eq_true rfl, Nat.le_of_ble_eq_true rfl⟩ rfl rfl (Nat.le_of_ble_eq_true rfl) d5_mass_54 (fun S7 => ?_)
        refine r_iload_n O d5_mass_57 0 rfl ?_
        exact r_iret O hQ d5_mass_58
      · refine r_bipush O d5_mass_21 (v := (-2)) (by decide) ?_
        exact r_iret O hQ d5_mass_23
  · refine r_iconst O d5_mass_8 (v := (-1)) (by decide) ?_
    exact r_iret O hQ d5_mass_9
-- X5.hasNoShip
theorem d5_hasNoShip_0 : decode cX5_hasNoShip 0 = .ok (.aload_n 0, 1) := by decide +kernel
theorem d5_hasNoShip_1 : decode cX5_hasNoShip 1 = .ok (.getfield 20, 3) := by decide +kernel
theorem d5_hasNoShip_4 : decode cX5_hasNoShip 4 = .ok (.getfield 75, 3) := by decide +kernel
theorem d5_hasNoShip_7 : decode cX5_hasNoShip 7 = .ok (.ifCond .ne 7, 3) := by decide +kernel
theorem d5_hasNoShip_10 : decode cX5_hasNoShip 10 = .ok (.iconst 1, 1) := by decide +kernel
theorem d5_hasNoShip_11 : decode cX5_hasNoShip 11 = .ok (.goto 4, 3) := by decide +kernel
theorem d5_hasNoShip_14 : decode cX5_hasNoShip 14 = .ok (.iconst 0, 1) := by decide +kernel
theorem d5_hasNoShip_15 : decode cX5_hasNoShip 15 = .ok (.ireturn, 1) := by decide +kernel
noncomputable def f5_hasNoShip {α : Type} (S : MS) (K : Int32 → MS → Option α) : Option α := if (S.1 2 3) = 0 then (K 1 S) else (K 0 S)
set_option maxHeartbeats 4000000 in
set_option maxRecDepth 100000 in
theorem c5_hasNoShip (l : Launch) (S : MS) {α : Type} : CtI 30 eX l yX5_hasNoShip cX5_hasNoShip 1 (some .boolean) (rmG 0 0) S (fun ad => [.ref (ad 0)]) (α := α) (f5_hasNoShip S) := by
  refine CtI.of (by decide) (fun _ => Nat.le_of_ble_eq_true rfl) (fun X K _ O hQ => ?_)
  have O : OK 30 X RX5 cX5_hasNoShip 1 (some .boolean) (rmG 0 0) := O
  show GM 30 eX X (f5_hasNoShip S K) S 0 [(0, .ref (aX X 0))] []
  unfold f5_hasNoShip
  refine r_aload_n O d5_hasNoShip_0 0 rfl ?_
  refine g_X5_20 O d5_hasNoShip_1 ?_
  refine g_X5_75 O d5_hasNoShip_4 ?_
  refine r_if_ne O 14 d5_hasNoShip_7 (by decide) ?_ ?_
  · refine r_iconst O d5_hasNoShip_14 (v := 0) (by decide) ?_
    exact r_zret O hQ (by decide) d5_hasNoShip_15
  · refine r_iconst O d5_hasNoShip_10 (v := 1) (by decide) ?_
    refine r_goto O 15 d5_hasNoShip_11 (by decide) ?_
    exact r_zret O hQ (by decide) d5_hasNoShip_15
-- X5.bound
theorem d5_bound_0 : decode cX5_bound 0 = .ok (.iload_n 1, 1) := by decide +kernel
theorem d5_bound_1 : decode cX5_bound 1 = .ok (.ifCond .lt 19, 3) := by decide +kernel
theorem d5_bound_4 : decode cX5_bound 4 = .ok (.iload_n 1, 1) := by decide +kernel
theorem d5_bound_5 : decode cX5_bound 5 = .ok (.iconst 3, 1) := by decide +kernel
theorem d5_bound_6 : decode cX5_bound 6 = .ok (.if_icmp .ge 14, 3) := by decide +kernel
theorem d5_bound_9 : decode cX5_bound 9 = .ok (.iload_n 2, 1) := by decide +kernel
theorem d5_bound_10 : decode cX5_bound 10 = .ok (.ifCond .lt 10, 3) := by decide +kernel
theorem d5_bound_13 : decode cX5_bound 13 = .ok (.iload_n 2, 1) := by decide +kernel
theorem d5_bound_14 : decode cX5_bound 14 = .ok (.sipush 999, 3) := by decide +kernel
theorem d5_bound_17 : decode cX5_bound 17 = .ok (.if_icmp .le 6, 3) := by decide +kernel
theorem d5_bound_20 : decode cX5_bound 20 = .ok (.bipush (-2), 2) := by decide +kernel
theorem d5_bound_22 : decode cX5_bound 22 = .ok (.ireturn, 1) := by decide +kernel
theorem d5_bound_23 : decode cX5_bound 23 = .ok (.aload_n 0, 1) := by decide +kernel
theorem d5_bound_24 : decode cX5_bound 24 = .ok (.invokevirtual 126, 3) := by decide +kernel
theorem d5_bound_27 : decode cX5_bound 27 = .ok (.ifCond .eq 6, 3) := by decide +kernel
theorem d5_bound_30 : decode cX5_bound 30 = .ok (.bipush (-3), 2) := by decide +kernel
theorem d5_bound_32 : decode cX5_bound 32 = .ok (.ireturn, 1) := by decide +kernel
theorem d5_bound_33 : decode cX5_bound 33 = .ok (.aload_n 0, 1) := by decide +kernel
theorem d5_bound_34 : decode cX5_bound 34 = .ok (.getfield 20, 3) := by decide +kernel
theorem d5_bound_37 : decode cX5_bound 37 = .ok (.getfield 130, 3) := by decide +kernel
theorem d5_bound_40 : decode cX5_bound 40 = .ok (.iload_n 1, 1) := by decide +kernel
theorem d5_bound_41 : decode cX5_bound 41 = .ok (.iaload, 1) := by decide +kernel
theorem d5_bound_42 : decode cX5_bound 42 = .ok (.istore_n 3, 1) := by decide +kernel
theorem d5_bound_43 : decode cX5_bound 43 = .ok (.aload_n 0, 1) := by decide +kernel
theorem d5_bound_44 : decode cX5_bound 44 = .ok (.getfield 20, 3) := by decide +kernel
theorem d5_bound_47 : decode cX5_bound 47 = .ok (.getfield 130, 3) := by decide +kernel
theorem d5_bound_50 : decode cX5_bound 50 = .ok (.iload_n 1, 1) := by decide +kernel
theorem d5_bound_51 : decode cX5_bound 51 = .ok (.iload_n 2, 1) := by decide +kernel
theorem d5_bound_52 : decode cX5_bound 52 = .ok (.iastore, 1) := by decide +kernel
theorem d5_bound_53 : decode cX5_bound 53 = .ok (.aload_n 0, 1) := by decide +kernel
theorem d5_bound_54 : decode cX5_bound 54 = .ok (.getfield 27, 3) := by decide +kernel
theorem d5_bound_57 : decode cX5_bound 57 = .ok (.invokevirtual 72, 3) := by decide +kernel
theorem d5_bound_60 : decode cX5_bound 60 = .ok (.iload_n 3, 1) := by decide +kernel
theorem d5_bound_61 : decode cX5_bound 61 = .ok (.ireturn, 1) := by decide +kernel
noncomputable def f5_bound {α : Type} (p1 : Int32) (p2 : Int32) (S : MS) (K : Int32 → MS → Option α) : Option α := if p1 < 0 then (K (-2) S) else (if 3 ≤ p1 then (K (-2) S) else (if p2 < 0 then (K (-2) S) else (if p2 ≤ 999 then (f5_hasNoShip S fun r2 S1 => if r2 = 0 then (ck p1 3 fun k3 => nm (S1.1 8 k3) fun x3_4 => ck p1 3 fun k5 => nm (sI S1 8 k5 p2) fun S6 => f2_forget S6 fun S7 => K x3_4 S7) else (K (-3) S1)) else (K (-2) S))))
set_option maxHeartbeats 4000000 in
set_option maxRecDepth 100000 in
theorem c5_bound (l : Launch) (p1 : Int32) (p2 : Int32) (S : MS) {α : Type} : CtI 30 eX l yX5_bound cX5_bound 4 (some .int) (rmG 1 20) S (fun ad => [.ref (ad 0), .int p1, .int p2]) (α := α) (f5_bound p1 p2 S) := by
  refine CtI.of (by decide) (fun _ => Nat.le_of_ble_eq_true rfl) (fun X K _ O hQ => ?_)
  have O : OK 30 X RX5 cX5_bound 4 (some .int) (rmG 1 20) := O
  show GM 30 eX X (f5_bound p1 p2 S K) S 0 [(0, .ref (aX X 0)), (1, .int p1), (2, .int p2)] []
  unfold f5_bound
  refine r_iload_n O d5_bound_0 1 rfl ?_
  refine r_if_lt O 20 d5_bound_1 (by decide) ?_ ?_
  · refine r_bipush O d5_bound_20 (v := (-2)) (by decide) ?_
    exact r_iret O hQ d5_bound_22
  · refine r_iload_n O d5_bound_4 1 rfl ?_
    refine r_iconst O d5_bound_5 (v := 3) (by decide) ?_
    refine r_icmp_ge O 20 d5_bound_6 (by decide) ?_ ?_
    · refine r_bipush O d5_bound_20 (v := (-2)) (by decide) ?_
      exact r_iret O hQ d5_bound_22
    · refine r_iload_n O d5_bound_9 2 rfl ?_
      refine r_if_lt O 20 d5_bound_10 (by decide) ?_ ?_
      · refine r_bipush O d5_bound_20 (v := (-2)) (by decide) ?_
        exact r_iret O hQ d5_bound_22
      · refine r_iload_n O d5_bound_13 2 rfl ?_
        refine r_sipush O d5_bound_14 (v := 999) (by decide) ?_
        refine r_icmp_le O 23 d5_bound_17 (by decide) ?_ ?_
        · refine r_aload_n O d5_bound_23 0 rfl ?_
          refine r_callVi O (b := 0) (bv := fun ad => []) (rest := []) (c5_hasNoShip (lX X) S) (fun _ => rfl) (by decide) eX_0 rfl rfl w_375 w_377 w_2 w_45 w_378 hy_X5_hasNoShip ⟨rfl, rfl, Nat.le_of_ble_eq_true rfl, Nat.le_of_ble_eq_true rfl⟩ rfl rfl (Nat.le_of_ble_eq_true rfl) d5_bound_24 (fun r2 S1 => ?_)
          refine r_if_eq O 33 d5_bound_27 (by decide) ?_ ?_
          · refine r_aload_n O d5_bound_33 0 rfl ?_
            refine g_X5_20 O d5_bound_34 ?_
            refine g_X5_130 O d5_bound_37 ?_
            refine r_iload_n O d5_bound_40 1 rfl ?_
            refine r_iald O (j := 8) (by decide) eX_8 d5_bound_41 (fun k3 hk3 => ?_)
            refine r_istore_n_nm O d5_bound_42 (fun x3_4 => [(3, .int x3_4), (0, .ref (aX X 0)), (1, .int p1), (2, .int p2)]) (by decide) (fun _ => rfl) (fun x3_4 => ?_)
            refine r_aload_n O d5_bound_43 1 rfl ?_
            refine g_X5_20 O d5_bound_44 ?_
            refine g_X5_130 O d5_bound_47 ?_
            refine r_iload_n O d5_bound_50 2 rfl ?_
            refine r_iload_n O d5_bound_51 3 rfl ?_
            refine r_iast O (j := 8) (by decide) (fun _ => eX_8) d5_bound_52 (fun S6 => ?_)
            refine r_aload_n O d5_bound_53 1 rfl ?_
            refine g_X5_27 O d5_bound_54 ?_
            refine r_callVv O (b := 3) (bv := fun ad => []) (rest := []) (c2_forget (lX X) S6) (fun _ => rfl) (by decide) eX_3 rfl rfl w_296 w_297 w_298 w_49 w_299 hy_X2_forget ⟨rfl, rfl, Nat.le_of_ble_eq_true rfl, Nat.le_of_ble_eq_true rfl⟩ rfl rfl (Nat.le_of_ble_eq_true rfl) d5_bound_57 (fun S7 => ?_)
            refine r_iload_n O d5_bound_60 0 rfl ?_
            exact r_iret O hQ d5_bound_61
          · refine r_bipush O d5_bound_30 (v := (-3)) (by decide) ?_
            exact r_iret O hQ d5_bound_32
        · refine r_bipush O d5_bound_20 (v := (-2)) (by decide) ?_
          exact r_iret O hQ d5_bound_22
-- X5.due
theorem d5_due_0 : decode cX5_due 0 = .ok (.aload_n 0, 1) := by decide +kernel
theorem d5_due_1 : decode cX5_due 1 = .ok (.invokevirtual 126, 3) := by decide +kernel
theorem d5_due_4 : decode cX5_due 4 = .ok (.ifCond .eq 6, 3) := by decide +kernel
theorem d5_due_7 : decode cX5_due 7 = .ok (.bipush (-3), 2) := by decide +kernel
theorem d5_due_9 : decode cX5_due 9 = .ok (.ireturn, 1) := by decide +kernel
theorem d5_due_10 : decode cX5_due 10 = .ok (.iload_n 1, 1) := by decide +kernel
theorem d5_due_11 : decode cX5_due 11 = .ok (.ifCond .lt 16, 3) := by decide +kernel
theorem d5_due_14 : decode cX5_due 14 = .ok (.iload_n 1, 1) := by decide +kernel
theorem d5_due_15 : decode cX5_due 15 = .ok (.iconst 1, 1) := by decide +kernel
theorem d5_due_16 : decode cX5_due 16 = .ok (.aload_n 0, 1) := by decide +kernel
theorem d5_due_17 : decode cX5_due 17 = .ok (.getfield 20, 3) := by decide +kernel
theorem d5_due_20 : decode cX5_due 20 = .ok (.getfield 75, 3) := by decide +kernel
theorem d5_due_23 : decode cX5_due 23 = .ok (.ishl, 1) := by decide +kernel
theorem d5_due_24 : decode cX5_due 24 = .ok (.if_icmp .lt 6, 3) := by decide +kernel
theorem d5_due_27 : decode cX5_due 27 = .ok (.bipush (-2), 2) := by decide +kernel
theorem d5_due_29 : decode cX5_due 29 = .ok (.ireturn, 1) := by decide +kernel
theorem d5_due_30 : decode cX5_due 30 = .ok (.aload_n 0, 1) := by decide +kernel
theorem d5_due_31 : decode cX5_due 31 = .ok (.getfield 20, 3) := by decide +kernel
theorem d5_due_34 : decode cX5_due 34 = .ok (.getfield 123, 3) := by decide +kernel
theorem d5_due_37 : decode cX5_due 37 = .ok (.istore_n 2, 1) := by decide +kernel
theorem d5_due_38 : decode cX5_due 38 = .ok (.aload_n 0, 1) := by decide +kernel
theorem d5_due_39 : decode cX5_due 39 = .ok (.getfield 20, 3) := by decide +kernel
theorem d5_due_42 : decode cX5_due 42 = .ok (.iload_n 1, 1) := by decide +kernel
theorem d5_due_43 : decode cX5_due 43 = .ok (.putfield 123, 3) := by decide +kernel
theorem d5_due_46 : decode cX5_due 46 = .ok (.aload_n 0, 1) := by decide +kernel
theorem d5_due_47 : decode cX5_due 47 = .ok (.getfield 27, 3) := by decide +kernel
theorem d5_due_50 : decode cX5_due 50 = .ok (.invokevirtual 72, 3) := by decide +kernel
theorem d5_due_53 : decode cX5_due 53 = .ok (.iload_n 2, 1) := by decide +kernel
theorem d5_due_54 : decode cX5_due 54 = .ok (.ireturn, 1) := by decide +kernel
noncomputable def f5_due {α : Type} (p1 : Int32) (S : MS) (K : Int32 → MS → Option α) : Option α := f5_hasNoShip S fun r2 S1 => if r2 = 0 then (if p1 < 0 then (K (-2) S1) else (if p1 < ((1 : Int32) <<< ((S1.1 2 3) &&& 31)) then (nm (S1.1 2 6) fun x2_3 => nm (sI S1 2 6 p1) fun S4 => f2_forget S4 fun S5 => K x2_3 S5) else (K (-2) S1))) else (K (-3) S1)
set_option maxHeartbeats 4000000 in
set_option maxRecDepth 100000 in
theorem c5_due (l : Launch) (p1 : Int32) (S : MS) {α : Type} : CtI 30 eX l yX5_due cX5_due 3 (some .int) (rmG 1 20) S (fun ad => [.ref (ad 0), .int p1]) (α := α) (f5_due p1 S) := by
  refine CtI.of (by decide) (fun _ => Nat.le_of_ble_eq_true rfl) (fun X K _ O hQ => ?_)
  have O : OK 30 X RX5 cX5_due 3 (some .int) (rmG 1 20) := O
  show GM 30 eX X (f5_due p1 S K) S 0 [(0, .ref (aX X 0)), (1, .int p1)] []
  unfold f5_due
  refine r_aload_n O d5_due_0 0 rfl ?_
  refine r_callVi O (b := 0) (bv := fun ad => []) (rest := []) (c5_hasNoShip (lX X) S) (fun _ => rfl) (by decide) eX_0 rfl rfl w_375 w_377 w_2 w_45 w_378 hy_X5_hasNoShip ⟨rfl, rfl, Nat.le_of_ble_eq_true rfl, Nat.le_of_ble_eq_true rfl⟩ rfl rfl (Nat.le_of_ble_eq_true rfl) d5_due_1 (fun r2 S1 => ?_)
  refine r_if_eq O 10 d5_due_4 (by decide) ?_ ?_
  · refine r_iload_n O d5_due_10 1 rfl ?_
    refine r_if_lt O 27 d5_due_11 (by decide) ?_ ?_
    · refine r_bipush O d5_due_27 (v := (-2)) (by decide) ?_
      exact r_iret O hQ d5_due_29
    · refine r_iload_n O d5_due_14 1 rfl ?_
      refine r_iconst O d5_due_15 (v := 1) (by decide) ?_
      refine r_aload_n O d5_due_16 0 rfl ?_
      refine g_X5_20 O d5_due_17 ?_
      refine g_X5_75 O d5_due_20 ?_
      refine r_ishl O d5_due_23 ?_
      refine r_icmp_lt O 30 d5_due_24 (by decide) ?_ ?_
      · refine r_aload_n O d5_due_30 0 rfl ?_
        refine g_X5_20 O d5_due_31 ?_
        refine g_X5_123 O d5_due_34 ?_
        refine r_istore_n_nm O d5_due_37 (fun x2_3 => [(2, .int x2_3), (0, .ref (aX X 0)), (1, .int p1)]) (by decide) (fun _ => rfl) (fun x2_3 => ?_)
        refine r_aload_n O d5_due_38 1 rfl ?_
        refine g_X5_20 O d5_due_39 ?_
        refine r_iload_n O d5_due_42 2 rfl ?_
        refine p_X5_123 O d5_due_43 (fun S4 => ?_)
        refine r_aload_n O d5_due_46 1 rfl ?_
        refine g_X5_27 O d5_due_47 ?_
        refine r_callVv O (b := 3) (bv := fun ad => []) (rest := []) (c2_forget (lX X) S4) (fun _ => rfl) (by decide) eX_3 rfl rfl w_296 w_297 w_298 w_49 w_299 hy_X2_forget ⟨rfl, rfl, Nat.le_of_ble_eq_true rfl, Nat.le_of_ble_eq_true rfl⟩ rfl rfl (Nat.le_of_ble_eq_true rfl) d5_due_50 (fun S5 => ?_)
        refine r_iload_n O d5_due_53 0 rfl ?_
        exact r_iret O hQ d5_due_54
      · refine r_bipush O d5_due_27 (v := (-2)) (by decide) ?_
        exact r_iret O hQ d5_due_29
  · refine r_bipush O d5_due_7 (v := (-3)) (by decide) ?_
    exact r_iret O hQ d5_due_9
-- X5.fail
theorem d5_fail_0 : decode cX5_fail 0 = .ok (.aload_n 0, 1) := by decide +kernel
theorem d5_fail_1 : decode cX5_fail 1 = .ok (.iload_n 1, 1) := by decide +kernel
theorem d5_fail_2 : decode cX5_fail 2 = .ok (.invokevirtual 78, 3) := by decide +kernel
theorem d5_fail_5 : decode cX5_fail 5 = .ok (.ifCond .ne 5, 3) := by decide +kernel
theorem d5_fail_8 : decode cX5_fail 8 = .ok (.iconst (-1), 1) := by decide +kernel
theorem d5_fail_9 : decode cX5_fail 9 = .ok (.ireturn, 1) := by decide +kernel
theorem d5_fail_10 : decode cX5_fail 10 = .ok (.aload_n 0, 1) := by decide +kernel
theorem d5_fail_11 : decode cX5_fail 11 = .ok (.getfield 20, 3) := by decide +kernel
theorem d5_fail_14 : decode cX5_fail 14 = .ok (.dup, 1) := by decide +kernel
theorem d5_fail_15 : decode cX5_fail 15 = .ok (.getfield 110, 3) := by decide +kernel
theorem d5_fail_18 : decode cX5_fail 18 = .ok (.iconst 1, 1) := by decide +kernel
theorem d5_fail_19 : decode cX5_fail 19 = .ok (.iload_n 1, 1) := by decide +kernel
theorem d5_fail_20 : decode cX5_fail 20 = .ok (.ishl, 1) := by decide +kernel
theorem d5_fail_21 : decode cX5_fail 21 = .ok (.ixor, 1) := by decide +kernel
theorem d5_fail_22 : decode cX5_fail 22 = .ok (.putfield 110, 3) := by decide +kernel
theorem d5_fail_25 : decode cX5_fail 25 = .ok (.aload_n 0, 1) := by decide +kernel
theorem d5_fail_26 : decode cX5_fail 26 = .ok (.getfield 27, 3) := by decide +kernel
theorem d5_fail_29 : decode cX5_fail 29 = .ok (.invokevirtual 72, 3) := by decide +kernel
theorem d5_fail_32 : decode cX5_fail 32 = .ok (.aload_n 0, 1) := by decide +kernel
theorem d5_fail_33 : decode cX5_fail 33 = .ok (.getfield 20, 3) := by decide +kernel
theorem d5_fail_36 : decode cX5_fail 36 = .ok (.getfield 110, 3) := by decide +kernel
theorem d5_fail_39 : decode cX5_fail 39 = .ok (.iload_n 1, 1) := by decide +kernel
theorem d5_fail_40 : decode cX5_fail 40 = .ok (.invokestatic 113, 3) := by decide +kernel
theorem d5_fail_43 : decode cX5_fail 43 = .ok (.invokestatic 116, 3) := by decide +kernel
theorem d5_fail_46 : decode cX5_fail 46 = .ok (.ireturn, 1) := by decide +kernel
noncomputable def f5_fail {α : Type} (p1 : Int32) (S : MS) (K : Int32 → MS → Option α) : Option α := f5_isTank p1 S fun r2 S1 => if r2 = 0 then (K (-1) S1) else (nm (sI S1 2 5 ((S1.1 2 5) ^^^ ((1 : Int32) <<< (p1 &&& 31)))) fun S3 => f2_forget S3 fun S4 => f5_holds (S4.1 2 5) p1 S4 fun r7 S6 => f5_oneIf r7 S6 fun r9 S8 => K r9 S8)
set_option maxHeartbeats 4000000 in
set_option maxRecDepth 100000 in
theorem c5_fail (l : Launch) (p1 : Int32) (S : MS) {α : Type} : CtI 30 eX l yX5_fail cX5_fail 2 (some .int) (rmG 1 21) S (fun ad => [.ref (ad 0), .int p1]) (α := α) (f5_fail p1 S) := by
  refine CtI.of (by decide) (fun _ => Nat.le_of_ble_eq_true rfl) (fun X K _ O hQ => ?_)
  have O : OK 30 X RX5 cX5_fail 2 (some .int) (rmG 1 21) := O
  show GM 30 eX X (f5_fail p1 S K) S 0 [(0, .ref (aX X 0)), (1, .int p1)] []
  unfold f5_fail
  refine r_aload_n O d5_fail_0 0 rfl ?_
  refine r_iload_n O d5_fail_1 1 rfl ?_
  refine r_callVi O (b := 0) (bv := fun ad => [.int p1]) (rest := []) (c5_isTank (lX X) p1 S) (fun _ => rfl) (by decide) eX_0 rfl rfl w_304 w_306 w_1 w_45 w_307 hy_X5_isTank ⟨rfl, rfl, Nat.le_of_ble_eq_true rfl, Nat.le_of_ble_eq_true rfl⟩ rfl rfl (Nat.le_of_ble_eq_true rfl) d5_fail_2 (fun r2 S1 => ?_)
  refine r_if_ne O 10 d5_fail_5 (by decide) ?_ ?_
  · refine r_aload_n O d5_fail_10 0 rfl ?_
    refine g_X5_20 O d5_fail_11 ?_
    refine r_dup O d5_fail_14 rfl ?_
    refine g_X5_110 O d5_fail_15 ?_
    refine r_iconst O d5_fail_18 (v := 1) (by decide) ?_
    refine r_iload_n O d5_fail_19 1 rfl ?_
    refine r_ishl O d5_fail_20 ?_
    refine r_ixor O d5_fail_21 ?_
    refine p_X5_110 O d5_fail_22 (fun S3 => ?_)
    refine r_aload_n O d5_fail_25 0 rfl ?_
    refine g_X5_27 O d5_fail_26 ?_
    refine r_callVv O (b := 3) (bv := fun ad => []) (rest := []) (c2_forget (lX X) S3) (fun _ => rfl) (by decide) eX_3 rfl rfl w_296 w_297 w_298 w_49 w_299 hy_X2_forget ⟨rfl, rfl, Nat.le_of_ble_eq_true rfl, Nat.le_of_ble_eq_true rfl⟩ rfl rfl (Nat.le_of_ble_eq_true rfl) d5_fail_29 (fun S4 => ?_)
    refine r_aload_n O d5_fail_32 0 rfl ?_
    refine g_X5_20 O d5_fail_33 ?_
    refine g_X5_110 O d5_fail_36 ?_
    refine r_iload_n O d5_fail_39 1 rfl ?_
    refine r_callSi O (rest := []) (c5_holds (lX X) (S4.1 2 5) p1 S4) w_316 w_317 w_45 w_318 hy_X5_holds ⟨rfl, rfl, Nat.le_of_ble_eq_true rfl, Nat.le_of_ble_eq_true rfl⟩ rfl rfl (Nat.le_of_ble_eq_true rfl) d5_fail_40 (fun r7 S6 => ?_)
    refine r_callSi O (rest := []) (c5_oneIf (lX X) r7 S6) w_319 w_320 w_45 w_321 hy_X5_oneIf ⟨rfl, rfl, Nat.le_of_ble_eq_true rfl, Nat.le_of_ble_eq_true rfl⟩ rfl rfl (Nat.le_of_ble_eq_true rfl) d5_fail_43 (fun r9 S8 => ?_)
    exact r_iret O hQ d5_fail_46
  · refine r_iconst O d5_fail_8 (v := (-1)) (by decide) ?_
    exact r_iret O hQ d5_fail_9
-- X5.measure
theorem d5_measure_0 : decode cX5_measure 0 = .ok (.iload_n 1, 1) := by decide +kernel
theorem d5_measure_1 : decode cX5_measure 1 = .ok (.ifCond .lt 8, 3) := by decide +kernel
theorem d5_measure_4 : decode cX5_measure 4 = .ok (.iload_n 1, 1) := by decide +kernel
theorem d5_measure_5 : decode cX5_measure 5 = .ok (.iconst 3, 1) := by decide +kernel
theorem d5_measure_6 : decode cX5_measure 6 = .ok (.if_icmp .le 6, 3) := by decide +kernel
theorem d5_measure_9 : decode cX5_measure 9 = .ok (.bipush (-2), 2) := by decide +kernel
theorem d5_measure_11 : decode cX5_measure 11 = .ok (.ireturn, 1) := by decide +kernel
theorem d5_measure_12 : decode cX5_measure 12 = .ok (.aload_n 0, 1) := by decide +kernel
theorem d5_measure_13 : decode cX5_measure 13 = .ok (.invokevirtual 126, 3) := by decide +kernel
theorem d5_measure_16 : decode cX5_measure 16 = .ok (.ifCond .eq 6, 3) := by decide +kernel
theorem d5_measure_19 : decode cX5_measure 19 = .ok (.bipush (-3), 2) := by decide +kernel
theorem d5_measure_21 : decode cX5_measure 21 = .ok (.ireturn, 1) := by decide +kernel
theorem d5_measure_22 : decode cX5_measure 22 = .ok (.aload_n 0, 1) := by decide +kernel
theorem d5_measure_23 : decode cX5_measure 23 = .ok (.getfield 20, 3) := by decide +kernel
theorem d5_measure_26 : decode cX5_measure 26 = .ok (.aload_n 0, 1) := by decide +kernel
theorem d5_measure_27 : decode cX5_measure 27 = .ok (.getfield 20, 3) := by decide +kernel
theorem d5_measure_30 : decode cX5_measure 30 = .ok (.aload_n 0, 1) := by decide +kernel
theorem d5_measure_31 : decode cX5_measure 31 = .ok (.getfield 20, 3) := by decide +kernel
theorem d5_measure_34 : decode cX5_measure 34 = .ok (.getfield 103, 3) := by decide +kernel
theorem d5_measure_37 : decode cX5_measure 37 = .ok (.invokevirtual 133, 3) := by decide +kernel
theorem d5_measure_40 : decode cX5_measure 40 = .ok (.invokevirtual 136, 3) := by decide +kernel
theorem d5_measure_43 : decode cX5_measure 43 = .ok (.astore_n 2, 1) := by decide +kernel
theorem d5_measure_44 : decode cX5_measure 44 = .ok (.iload_n 1, 1) := by decide +kernel
theorem d5_measure_45 : decode cX5_measure 45 = .ok (.tableswitch 50 0 2 #[27, 36, 45], 27) := by decide +kernel
theorem d5_measure_72 : decode cX5_measure 72 = .ok (.sipush 1000, 3) := by decide +kernel
theorem d5_measure_75 : decode cX5_measure 75 = .ok (.aload_n 2, 1) := by decide +kernel
theorem d5_measure_76 : decode cX5_measure 76 = .ok (.getfield 140, 3) := by decide +kernel
theorem d5_measure_79 : decode cX5_measure 79 = .ok (.iadd, 1) := by decide +kernel
theorem d5_measure_80 : decode cX5_measure 80 = .ok (.ireturn, 1) := by decide +kernel
theorem d5_measure_81 : decode cX5_measure 81 = .ok (.sipush 1000, 3) := by decide +kernel
theorem d5_measure_84 : decode cX5_measure 84 = .ok (.aload_n 2, 1) := by decide +kernel
theorem d5_measure_85 : decode cX5_measure 85 = .ok (.getfield 145, 3) := by decide +kernel
theorem d5_measure_88 : decode cX5_measure 88 = .ok (.iadd, 1) := by decide +kernel
theorem d5_measure_89 : decode cX5_measure 89 = .ok (.ireturn, 1) := by decide +kernel
theorem d5_measure_90 : decode cX5_measure 90 = .ok (.aload_n 2, 1) := by decide +kernel
theorem d5_measure_91 : decode cX5_measure 91 = .ok (.invokevirtual 148, 3) := by decide +kernel
theorem d5_measure_94 : decode cX5_measure 94 = .ok (.ireturn, 1) := by decide +kernel
theorem d5_measure_95 : decode cX5_measure 95 = .ok (.aload_n 2, 1) := by decide +kernel
theorem d5_measure_96 : decode cX5_measure 96 = .ok (.aload_n 0, 1) := by decide +kernel
theorem d5_measure_97 : decode cX5_measure 97 = .ok (.getfield 20, 3) := by decide +kernel
theorem d5_measure_100 : decode cX5_measure 100 = .ok (.getfield 130, 3) := by decide +kernel
theorem d5_measure_103 : decode cX5_measure 103 = .ok (.iconst 1, 1) := by decide +kernel
theorem d5_measure_104 : decode cX5_measure 104 = .ok (.invokevirtual 151, 3) := by decide +kernel
theorem d5_measure_107 : decode cX5_measure 107 = .ok (.invokestatic 116, 3) := by decide +kernel
theorem d5_measure_110 : decode cX5_measure 110 = .ok (.ireturn, 1) := by decide +kernel
noncomputable def f5_measure {α : Type} (p1 : Int32) (S : MS) (K : Int32 → MS → Option α) : Option α := if p1 < 0 then (K (-2) S) else (if p1 ≤ 3 then (f5_hasNoShip S fun r2 S1 => if r2 = 0 then (f3_fullSet (S1.1 2 4) S1 fun r4 S3 => f3_loadOf r4 S3 fun S5 => if p1 = 0 then (K ((1000 : Int32) + (S5.1 5 2)) S5) else (if p1 = 1 then (K ((1000 : Int32) + (S5.1 5 3)) S5) else (if p1 = 2 then (f0_bending S5 fun r11 S10 => K r11 S10) else (f0_isWithin 1 S5 fun r13 S12 => f5_oneIf r13 S12 fun r15 S14 => K r15 S14)))) else (K (-3) S1)) else (K (-2) S))
set_option maxHeartbeats 4000000 in
set_option maxRecDepth 100000 in
theorem c5_measure (l : Launch) (p1 : Int32) (S : MS) {α : Type} : CtI 30 eX l yX5_measure cX5_measure 3 (some .int) (rmG 3 65) S (fun ad => [.ref (ad 0), .int p1]) (α := α) (f5_measure p1 S) := by
  refine CtI.of (by decide) (fun _ => Nat.le_of_ble_eq_true rfl) (fun X K _ O hQ => ?_)
  have O : OK 30 X RX5 cX5_measure 3 (some .int) (rmG 3 65) := O
  show GM 30 eX X (f5_measure p1 S K) S 0 [(0, .ref (aX X 0)), (1, .int p1)] []
  unfold f5_measure
  refine r_iload_n O d5_measure_0 1 rfl ?_
  refine r_if_lt O 9 d5_measure_1 (by decide) ?_ ?_
  · refine r_bipush O d5_measure_9 (v := (-2)) (by decide) ?_
    exact r_iret O hQ d5_measure_11
  · refine r_iload_n O d5_measure_4 1 rfl ?_
    refine r_iconst O d5_measure_5 (v := 3) (by decide) ?_
    refine r_icmp_le O 12 d5_measure_6 (by decide) ?_ ?_
    · refine r_aload_n O d5_measure_12 0 rfl ?_
      refine r_callVi O (b := 0) (bv := fun ad => []) (rest := []) (c5_hasNoShip (lX X) S) (fun _ => rfl) (by decide) eX_0 rfl rfl w_375 w_377 w_2 w_45 w_378 hy_X5_hasNoShip ⟨rfl, rfl, Nat.le_of_ble_eq_true rfl, Nat.le_of_ble_eq_true rfl⟩ rfl rfl (Nat.le_of_ble_eq_true rfl) d5_measure_13 (fun r2 S1 => ?_)
      refine r_if_eq O 22 d5_measure_16 (by decide) ?_ ?_
      · refine r_aload_n O d5_measure_22 0 rfl ?_
        refine g_X5_20 O d5_measure_23 ?_
        refine r_aload_n O d5_measure_26 0 rfl ?_
        refine g_X5_20 O d5_measure_27 ?_
        refine r_aload_n O d5_measure_30 0 rfl ?_
        refine g_X5_20 O d5_measure_31 ?_
        refine g_X5_103 O d5_measure_34 ?_
        refine r_callVi O (b := 2) (bv := fun ad => [.int (S1.1 2 4)]) (rest := [.ref (aX X 2)]) (c3_fullSet (lX X) (S1.1 2 4) S1) (fun _ => rfl) (by decide) eX_2 rfl rfl w_391 w_286 w_287 w_46 w_288 hy_X3_fullSet ⟨rfl, rfl, Nat.le_of_ble_eq_true rfl, Nat.le_of_ble_eq_true rfl⟩ rfl rfl (Nat.le_of_ble_eq_true rfl) d5_measure_37 (fun r4 S3 => ?_)
        refine r_callVr O (b := 2) (bv := fun ad => [.int r4]) (rest := []) (c3_loadOf (lX X) r4 S3) (fun _ => rfl) (by decide) eX_2 rfl rfl w_392 w_364 w_365 w_46 w_366 hy_X3_loadOf ⟨rfl, rfl, Nat.le_of_ble_eq_true rfl, Nat.le_of_ble_eq_true rfl⟩ rfl rfl (Nat.le_of_ble_eq_true rfl) d5_measure_40 (fun S5 => ?_)
        refine r_astore_n O d5_measure_43 [(2, .ref (aX X 5)), (0, .ref (aX X 0)), (1, .int p1)] (by decide) rfl ?_
        refine r_iload_n O d5_measure_44 2 rfl ?_
        refine r_ite (fun hs7 => ?_) (fun hs7 => ?_)
        · refine r_tin O 72 d5_measure_45 (by rw [hs7]; decide) (by rw [hs7]; decide) (by rw [hs7]; rfl) (by decide) ?_
          refine r_sipush O d5_measure_72 (v := 1000) (by decide) ?_
          refine r_aload_n O d5_measure_75 0 rfl ?_
          refine g_X5_140 O d5_measure_76 ?_
          refine r_iadd O d5_measure_79 ?_
          exact r_iret O hQ d5_measure_80
        refine r_ite (fun hs8 => ?_) (fun hs8 => ?_)
        · refine r_tin O 81 d5_measure_45 (by rw [hs8]; decide) (by rw [hs8]; decide) (by rw [hs8]; rfl) (by decide) ?_
          refine r_sipush O d5_measure_81 (v := 1000) (by decide) ?_
          refine r_aload_n O d5_measure_84 0 rfl ?_
          refine g_X5_145 O d5_measure_85 ?_
          refine r_iadd O d5_measure_88 ?_
          exact r_iret O hQ d5_measure_89
        refine r_ite (fun hs9 => ?_) (fun hs9 => ?_)
        · refine r_tin O 90 d5_measure_45 (by rw [hs9]; decide) (by rw [hs9]; decide) (by rw [hs9]; rfl) (by decide) ?_
          refine r_aload_n O d5_measure_90 0 rfl ?_
          refine r_callVi O (b := 5) (bv := fun ad => []) (rest := []) (c0_bending (lX X) S5) (fun _ => rfl) (by decide) eX_5 rfl rfl w_393 w_353 w_354 w_47 w_355 hy_X0_bending ⟨rfl, rfl, Nat.le_of_ble_eq_true rfl, Nat.le_of_ble_eq_true rfl⟩ rfl rfl (Nat.le_of_ble_eq_true rfl) d5_measure_91 (fun r11 S10 => ?_)
          exact r_iret O hQ d5_measure_94
        have nhs7 := i32_ne (n := 0) 0 (by decide) hs7
        have nhs8 := i32_ne (n := 1) 1 (by decide) hs8
        have nhs9 := i32_ne (n := 2) 2 (by decide) hs9
        refine r_tout O 95 d5_measure_45 (by omega) (by decide) ?_
        refine r_aload_n O d5_measure_95 0 rfl ?_
        refine r_aload_n O d5_measure_96 1 rfl ?_
        refine g_X5_20 O d5_measure_97 ?_
        refine g_X5_130 O d5_measure_100 ?_
        refine r_iconst O d5_measure_103 (v := 1) (by decide) ?_
        refine r_callVi O (b := 5) (bv := fun ad => [.ref (ad 8), .int 1]) (rest := []) (c0_isWithin (lX X) 1 S5) (fun _ => rfl) (by decide) eX_5 rfl rfl w_394 w_346 w_347 w_47 w_348 hy_X0_isWithin ⟨rfl, rfl, Nat.le_of_ble_eq_true rfl, Nat.le_of_ble_eq_true rfl⟩ rfl rfl (Nat.le_of_ble_eq_true rfl) d5_measure_104 (fun r13 S12 => ?_)
        refine r_callSi O (rest := []) (c5_oneIf (lX X) r13 S12) w_319 w_320 w_45 w_321 hy_X5_oneIf ⟨rfl, rfl, Nat.le_of_ble_eq_true rfl, Nat.le_of_ble_eq_true rfl⟩ rfl rfl (Nat.le_of_ble_eq_true rfl) d5_measure_107 (fun r15 S14 => ?_)
        exact r_iret O hQ d5_measure_110
      · refine r_bipush O d5_measure_19 (v := (-3)) (by decide) ?_
        exact r_iret O hQ d5_measure_21
    · refine r_bipush O d5_measure_9 (v := (-2)) (by decide) ?_
      exact r_iret O hQ d5_measure_11
-- X0.momentOf
theorem d0_momentOf_0 : decode cX0_momentOf 0 = .ok (.iconst 0, 1) := by decide +kernel
theorem d0_momentOf_1 : decode cX0_momentOf 1 = .ok (.istore_n 2, 1) := by decide +kernel
theorem d0_momentOf_2 : decode cX0_momentOf 2 = .ok (.iconst 0, 1) := by decide +kernel
theorem d0_momentOf_3 : decode cX0_momentOf 3 = .ok (.istore_n 3, 1) := by decide +kernel
theorem d0_momentOf_4 : decode cX0_momentOf 4 = .ok (.iconst 0, 1) := by decide +kernel
theorem d0_momentOf_5 : decode cX0_momentOf 5 = .ok (.istore 4, 2) := by decide +kernel
theorem d0_momentOf_7 : decode cX0_momentOf 7 = .ok (.iload 4, 2) := by decide +kernel
theorem d0_momentOf_9 : decode cX0_momentOf 9 = .ok (.iload_n 1, 1) := by decide +kernel
theorem d0_momentOf_10 : decode cX0_momentOf 10 = .ok (.if_icmp .gt 31, 3) := by decide +kernel
theorem d0_momentOf_13 : decode cX0_momentOf 13 = .ok (.iload_n 2, 1) := by decide +kernel
theorem d0_momentOf_14 : decode cX0_momentOf 14 = .ok (.bipush 7, 2) := by decide +kernel
theorem d0_momentOf_16 : decode cX0_momentOf 16 = .ok (.aload_n 0, 1) := by decide +kernel
theorem d0_momentOf_17 : decode cX0_momentOf 17 = .ok (.getfield 9, 3) := by decide +kernel
theorem d0_momentOf_20 : decode cX0_momentOf 20 = .ok (.iload 4, 2) := by decide +kernel
theorem d0_momentOf_22 : decode cX0_momentOf 22 = .ok (.iaload, 1) := by decide +kernel
theorem d0_momentOf_23 : decode cX0_momentOf 23 = .ok (.imul, 1) := by decide +kernel
theorem d0_momentOf_24 : decode cX0_momentOf 24 = .ok (.aload_n 0, 1) := by decide +kernel
theorem d0_momentOf_25 : decode cX0_momentOf 25 = .ok (.getfield 15, 3) := by decide +kernel
theorem d0_momentOf_28 : decode cX0_momentOf 28 = .ok (.isub, 1) := by decide +kernel
theorem d0_momentOf_29 : decode cX0_momentOf 29 = .ok (.iadd, 1) := by decide +kernel
theorem d0_momentOf_30 : decode cX0_momentOf 30 = .ok (.istore_n 2, 1) := by decide +kernel
theorem d0_momentOf_31 : decode cX0_momentOf 31 = .ok (.iload_n 3, 1) := by decide +kernel
theorem d0_momentOf_32 : decode cX0_momentOf 32 = .ok (.iload_n 2, 1) := by decide +kernel
theorem d0_momentOf_33 : decode cX0_momentOf 33 = .ok (.iadd, 1) := by decide +kernel
theorem d0_momentOf_34 : decode cX0_momentOf 34 = .ok (.istore_n 3, 1) := by decide +kernel
theorem d0_momentOf_35 : decode cX0_momentOf 35 = .ok (.iinc 4 1, 3) := by decide +kernel
theorem d0_momentOf_38 : decode cX0_momentOf 38 = .ok (.goto (-31), 3) := by decide +kernel
theorem d0_momentOf_41 : decode cX0_momentOf 41 = .ok (.iload_n 3, 1) := by decide +kernel
theorem d0_momentOf_42 : decode cX0_momentOf 42 = .ok (.ireturn, 1) := by decide +kernel
noncomputable def f0_momentOf_L7 {α : Type} (c1 : Int32) (KX : Int32 → Int32 → Int32 → MS → Option α) : Nat → Int32 → Int32 → Int32 → MS → Option α
  | 0, _, _, _, _ => none
  | n + 1, v2, v3, v4, S => if c1 < v4 then (KX v2 v3 v4 S) else (ck v4 7 fun k1 => nm (v2 + (((7 : Int32) * (S.1 6 k1)) - (S.1 5 1))) fun x2_2 => nm (v3 + x2_2) fun x3_3 => nm (v4 + 1) fun x4_4 => f0_momentOf_L7 c1 KX n x2_2 x3_3 x4_4 S)
noncomputable def f0_momentOf {α : Type} (p1 : Int32) (S : MS) (K : Int32 → MS → Option α) : Option α := f0_momentOf_L7 p1 (fun v2_6 v3_7 v4_8 S5 => K v3_7 S5) FU 0 0 0 S
set_option maxHeartbeats 4000000 in
set_option maxRecDepth 100000 in
theorem l0_momentOf_7 {α : Type} {X : GX α} (O : OK 30 X RX0 cX0_momentOf 5 (some .int) (rmG 0 0)) {c1 : Int32} {KX : Int32 → Int32 → Int32 → MS → Option α} (hX : ∀ v2 v3 v4 S, GM 30 eX X (KX v2 v3 v4 S) S 41 [(0, .ref (aX X 5)), (1, .int c1), (2, .int v2), (3, .int v3), (4, .int v4)] []) : ∀ n v2 v3 v4 S, GM 30 eX X (f0_momentOf_L7 c1 KX n v2 v3 v4 S) S 7 [(0, .ref (aX X 5)), (1, .int c1), (2, .int v2), (3, .int v3), (4, .int v4)] [] := by
  intro n
  induction n with
  | zero => intro v2 v3 v4 S; exact r_none
  | succ n ih =>
    intro v2 v3 v4 S
    rw [f0_momentOf_L7]
    refine r_iload O d0_momentOf_7 4 rfl ?_
    refine r_iload_n O d0_momentOf_9 1 rfl ?_
    refine r_icmp_gt O 41 d0_momentOf_10 (by decide) ?_ ?_
    · refine r_sub [0, 1, 2, 3, 4] rfl ?_
      exact hX _ _ _ _
    · refine r_iload_n O d0_momentOf_13 2 rfl ?_
      refine r_bipush O d0_momentOf_14 (v := 7) (by decide) ?_
      refine r_aload_n O d0_momentOf_16 0 rfl ?_
      refine g_X0_9 O d0_momentOf_17 ?_
      refine r_iload O d0_momentOf_20 4 rfl ?_
      refine r_iald O (j := 6) (by decide) eX_6 d0_momentOf_22 (fun k1 hk1 => ?_)
      refine r_imul O d0_momentOf_23 ?_
      refine r_aload_n O d0_momentOf_24 0 rfl ?_
      refine g_X0_15 O d0_momentOf_25 ?_
      refine r_isub O d0_momentOf_28 ?_
      refine r_iadd O d0_momentOf_29 ?_
      refine r_istore_n_nm O d0_momentOf_30 (fun x2_2 => [(2, .int x2_2), (0, .ref (aX X 5)), (1, .int c1), (3, .int v3), (4, .int v4)]) (by decide) (fun _ => rfl) (fun x2_2 => ?_)
      refine r_iload_n O d0_momentOf_31 3 rfl ?_
      refine r_iload_n O d0_momentOf_32 0 rfl ?_
      refine r_iadd O d0_momentOf_33 ?_
      refine r_istore_n_nm O d0_momentOf_34 (fun x3_3 => [(3, .int x3_3), (2, .int x2_2), (0, .ref (aX X 5)), (1, .int c1), (4, .int v4)]) (by decide) (fun _ => rfl) (fun x3_3 => ?_)
      refine r_iinc O d0_momentOf_35 4 (c0 := 1) rfl (by decide) (fun x4_4 => [(4, .int x4_4), (3, .int x3_3), (2, .int x2_2), (0, .ref (aX X 5)), (1, .int c1)]) (by decide) (fun _ => rfl) (fun x4_4 => ?_)
      refine r_goto O 7 d0_momentOf_38 (by decide) ?_
      refine r_sub [3, 4, 2, 1, 0] rfl ?_
      exact ih _ _ _ _
set_option maxHeartbeats 4000000 in
set_option maxRecDepth 100000 in
theorem c0_momentOf (l : Launch) (p1 : Int32) (S : MS) {α : Type} : CtI 30 eX l yX0_momentOf cX0_momentOf 5 (some .int) (rmG 0 0) S (fun ad => [.ref (ad 5), .int p1]) (α := α) (f0_momentOf p1 S) := by
  refine CtI.of (by decide) (fun _ => Nat.le_of_ble_eq_true rfl) (fun X K _ O hQ => ?_)
  have O : OK 30 X RX0 cX0_momentOf 5 (some .int) (rmG 0 0) := O
  show GM 30 eX X (f0_momentOf p1 S K) S 0 [(0, .ref (aX X 5)), (1, .int p1)] []
  unfold f0_momentOf
  refine r_iconst O d0_momentOf_0 (v := 0) (by decide) ?_
  refine r_istore_n O d0_momentOf_1 [(2, .int 0), (0, .ref (aX X 5)), (1, .int p1)] (by decide) rfl ?_
  refine r_iconst O d0_momentOf_2 (v := 0) (by decide) ?_
  refine r_istore_n O d0_momentOf_3 [(3, .int 0), (2, .int 0), (0, .ref (aX X 5)), (1, .int p1)] (by decide) rfl ?_
  refine r_iconst O d0_momentOf_4 (v := 0) (by decide) ?_
  refine r_istore O d0_momentOf_5 [(4, .int 0), (3, .int 0), (2, .int 0), (0, .ref (aX X 5)), (1, .int p1)] (by decide) rfl ?_
  refine r_sub [3, 4, 2, 1, 0] rfl ?_
  refine l0_momentOf_7 O (fun v2_6 v3_7 v4_8 S5 => ?_) _ _ _ _ _
  refine r_iload_n O d0_momentOf_41 3 rfl ?_
  exact r_iret O hQ d0_momentOf_42
-- X5.moment
theorem d5_moment_0 : decode cX5_moment 0 = .ok (.iload_n 1, 1) := by decide +kernel
theorem d5_moment_1 : decode cX5_moment 1 = .ok (.ifCond .lt 9, 3) := by decide +kernel
theorem d5_moment_4 : decode cX5_moment 4 = .ok (.iload_n 1, 1) := by decide +kernel
theorem d5_moment_5 : decode cX5_moment 5 = .ok (.bipush 7, 2) := by decide +kernel
theorem d5_moment_7 : decode cX5_moment 7 = .ok (.if_icmp .lt 6, 3) := by decide +kernel
theorem d5_moment_10 : decode cX5_moment 10 = .ok (.bipush (-2), 2) := by decide +kernel
theorem d5_moment_12 : decode cX5_moment 12 = .ok (.ireturn, 1) := by decide +kernel
theorem d5_moment_13 : decode cX5_moment 13 = .ok (.aload_n 0, 1) := by decide +kernel
theorem d5_moment_14 : decode cX5_moment 14 = .ok (.invokevirtual 126, 3) := by decide +kernel
theorem d5_moment_17 : decode cX5_moment 17 = .ok (.ifCond .eq 6, 3) := by decide +kernel
theorem d5_moment_20 : decode cX5_moment 20 = .ok (.bipush (-3), 2) := by decide +kernel
theorem d5_moment_22 : decode cX5_moment 22 = .ok (.ireturn, 1) := by decide +kernel
theorem d5_moment_23 : decode cX5_moment 23 = .ok (.sipush 10000, 3) := by decide +kernel
theorem d5_moment_26 : decode cX5_moment 26 = .ok (.aload_n 0, 1) := by decide +kernel
theorem d5_moment_27 : decode cX5_moment 27 = .ok (.getfield 20, 3) := by decide +kernel
theorem d5_moment_30 : decode cX5_moment 30 = .ok (.aload_n 0, 1) := by decide +kernel
theorem d5_moment_31 : decode cX5_moment 31 = .ok (.getfield 20, 3) := by decide +kernel
theorem d5_moment_34 : decode cX5_moment 34 = .ok (.aload_n 0, 1) := by decide +kernel
theorem d5_moment_35 : decode cX5_moment 35 = .ok (.getfield 20, 3) := by decide +kernel
theorem d5_moment_38 : decode cX5_moment 38 = .ok (.getfield 103, 3) := by decide +kernel
theorem d5_moment_41 : decode cX5_moment 41 = .ok (.invokevirtual 133, 3) := by decide +kernel
theorem d5_moment_44 : decode cX5_moment 44 = .ok (.invokevirtual 136, 3) := by decide +kernel
theorem d5_moment_47 : decode cX5_moment 47 = .ok (.iload_n 1, 1) := by decide +kernel
theorem d5_moment_48 : decode cX5_moment 48 = .ok (.invokevirtual 155, 3) := by decide +kernel
theorem d5_moment_51 : decode cX5_moment 51 = .ok (.iadd, 1) := by decide +kernel
theorem d5_moment_52 : decode cX5_moment 52 = .ok (.ireturn, 1) := by decide +kernel
noncomputable def f5_moment {α : Type} (p1 : Int32) (S : MS) (K : Int32 → MS → Option α) : Option α := if p1 < 0 then (K (-2) S) else (if p1 < 7 then (f5_hasNoShip S fun r2 S1 => if r2 = 0 then (f3_fullSet (S1.1 2 4) S1 fun r4 S3 => f3_loadOf r4 S3 fun S5 => f0_momentOf p1 S5 fun r8 S7 => K ((10000 : Int32) + r8) S7) else (K (-3) S1)) else (K (-2) S))
set_option maxHeartbeats 4000000 in
set_option maxRecDepth 100000 in
theorem c5_moment (l : Launch) (p1 : Int32) (S : MS) {α : Type} : CtI 30 eX l yX5_moment cX5_moment 2 (some .int) (rmG 3 65) S (fun ad => [.ref (ad 0), .int p1]) (α := α) (f5_moment p1 S) := by
  refine CtI.of (by decide) (fun _ => Nat.le_of_ble_eq_true rfl) (fun X K _ O hQ => ?_)
  have O : OK 30 X RX5 cX5_moment 2 (some .int) (rmG 3 65) := O
  show GM 30 eX X (f5_moment p1 S K) S 0 [(0, .ref (aX X 0)), (1, .int p1)] []
  unfold f5_moment
  refine r_iload_n O d5_moment_0 1 rfl ?_
  refine r_if_lt O 10 d5_moment_1 (by decide) ?_ ?_
  · refine r_bipush O d5_moment_10 (v := (-2)) (by decide) ?_
    exact r_iret O hQ d5_moment_12
  · refine r_iload_n O d5_moment_4 1 rfl ?_
    refine r_bipush O d5_moment_5 (v := 7) (by decide) ?_
    refine r_icmp_lt O 13 d5_moment_7 (by decide) ?_ ?_
    · refine r_aload_n O d5_moment_13 0 rfl ?_
      refine r_callVi O (b := 0) (bv := fun ad => []) (rest := []) (c5_hasNoShip (lX X) S) (fun _ => rfl) (by decide) eX_0 rfl rfl w_375 w_377 w_2 w_45 w_378 hy_X5_hasNoShip ⟨rfl, rfl, Nat.le_of_ble_eq_true rfl, Nat.le_of_ble_eq_true rfl⟩ rfl rfl (Nat.le_of_ble_eq_true rfl) d5_moment_14 (fun r2 S1 => ?_)
      refine r_if_eq O 23 d5_moment_17 (by decide) ?_ ?_
      · refine r_sipush O d5_moment_23 (v := 10000) (by decide) ?_
        refine r_aload_n O d5_moment_26 0 rfl ?_
        refine g_X5_20 O d5_moment_27 ?_
        refine r_aload_n O d5_moment_30 0 rfl ?_
        refine g_X5_20 O d5_moment_31 ?_
        refine r_aload_n O d5_moment_34 0 rfl ?_
        refine g_X5_20 O d5_moment_35 ?_
        refine g_X5_103 O d5_moment_38 ?_
        refine r_callVi O (b := 2) (bv := fun ad => [.int (S1.1 2 4)]) (rest := [.ref (aX X 2), .int 10000]) (c3_fullSet (lX X) (S1.1 2 4) S1) (fun _ => rfl) (by decide) eX_2 rfl rfl w_391 w_286 w_287 w_46 w_288 hy_X3_fullSet ⟨rfl, rfl, Nat.le_of_ble_eq_true rfl, Nat.le_of_ble_eq_true rfl⟩ rfl rfl (Nat.le_of_ble_eq_true rfl) d5_moment_41 (fun r4 S3 => ?_)
        refine r_callVr O (b := 2) (bv := fun ad => [.int r4]) (rest := [.int 10000]) (c3_loadOf (lX X) r4 S3) (fun _ => rfl) (by decide) eX_2 rfl rfl w_392 w_364 w_365 w_46 w_366 hy_X3_loadOf ⟨rfl, rfl, Nat.le_of_ble_eq_true rfl, Nat.le_of_ble_eq_true rfl⟩ rfl rfl (Nat.le_of_ble_eq_true rfl) d5_moment_44 (fun S5 => ?_)
        refine r_iload_n O d5_moment_47 1 rfl ?_
        refine r_callVi O (b := 5) (bv := fun ad => [.int p1]) (rest := [.int 10000]) (c0_momentOf (lX X) p1 S5) (fun _ => rfl) (by decide) eX_5 rfl rfl w_399 w_400 w_401 w_47 w_402 hy_X0_momentOf ⟨rfl, rfl, Nat.le_of_ble_eq_true rfl, Nat.le_of_ble_eq_true rfl⟩ rfl rfl (Nat.le_of_ble_eq_true rfl) d5_moment_48 (fun r8 S7 => ?_)
        refine r_iadd O d5_moment_51 ?_
        exact r_iret O hQ d5_moment_52
      · refine r_bipush O d5_moment_20 (v := (-3)) (by decide) ?_
        exact r_iret O hQ d5_moment_22
    · refine r_bipush O d5_moment_10 (v := (-2)) (by decide) ?_
      exact r_iret O hQ d5_moment_12
-- X5.pumped
theorem d5_pumped_0 : decode cX5_pumped 0 = .ok (.iload_n 0, 1) := by decide +kernel
theorem d5_pumped_1 : decode cX5_pumped 1 = .ok (.iload_n 1, 1) := by decide +kernel
theorem d5_pumped_2 : decode cX5_pumped 2 = .ok (.invokestatic 106, 3) := by decide +kernel
theorem d5_pumped_5 : decode cX5_pumped 5 = .ok (.istore_n 2, 1) := by decide +kernel
theorem d5_pumped_6 : decode cX5_pumped 6 = .ok (.iload_n 2, 1) := by decide +kernel
theorem d5_pumped_7 : decode cX5_pumped 7 = .ok (.ifCond .ne 7, 3) := by decide +kernel
theorem d5_pumped_10 : decode cX5_pumped 10 = .ok (.iconst 2, 1) := by decide +kernel
theorem d5_pumped_11 : decode cX5_pumped 11 = .ok (.goto 4, 3) := by decide +kernel
theorem d5_pumped_14 : decode cX5_pumped 14 = .ok (.iconst 0, 1) := by decide +kernel
theorem d5_pumped_15 : decode cX5_pumped 15 = .ok (.istore_n 3, 1) := by decide +kernel
theorem d5_pumped_16 : decode cX5_pumped 16 = .ok (.iload_n 0, 1) := by decide +kernel
theorem d5_pumped_17 : decode cX5_pumped 17 = .ok (.iload_n 3, 1) := by decide +kernel
theorem d5_pumped_18 : decode cX5_pumped 18 = .ok (.iload_n 2, 1) := by decide +kernel
theorem d5_pumped_19 : decode cX5_pumped 19 = .ok (.isub, 1) := by decide +kernel
theorem d5_pumped_20 : decode cX5_pumped 20 = .ok (.getstatic 267, 3) := by decide +kernel
theorem d5_pumped_23 : decode cX5_pumped 23 = .ok (.iload_n 1, 1) := by decide +kernel
theorem d5_pumped_24 : decode cX5_pumped 24 = .ok (.iaload, 1) := by decide +kernel
theorem d5_pumped_25 : decode cX5_pumped 25 = .ok (.imul, 1) := by decide +kernel
theorem d5_pumped_26 : decode cX5_pumped 26 = .ok (.iadd, 1) := by decide +kernel
theorem d5_pumped_27 : decode cX5_pumped 27 = .ok (.ireturn, 1) := by decide +kernel
noncomputable def f5_pumped {α : Type} (p0 : Int32) (p1 : Int32) (S : MS) (K : Int32 → MS → Option α) : Option α := f5_waterIn p0 p1 S fun r2 S1 => if r2 = 0 then (ck p1 6 fun k6 => K (p0 + (((2 : Int32) - r2) * (pw3 k6))) S1) else (ck p1 6 fun k4 => K (p0 + (((0 : Int32) - r2) * (pw3 k4))) S1)
set_option maxHeartbeats 4000000 in
set_option maxRecDepth 100000 in
theorem c5_pumped (l : Launch) (p0 : Int32) (p1 : Int32) (S : MS) {α : Type} : CtI 30 eX l yX5_pumped cX5_pumped 4 (some .int) (rmG 1 21) S (fun ad => [.int p0, .int p1]) (α := α) (f5_pumped p0 p1 S) := by
  refine CtI.of (by decide) (fun _ => Nat.le_of_ble_eq_true rfl) (fun X K _ O hQ => ?_)
  have O : OK 30 X RX5 cX5_pumped 4 (some .int) (rmG 1 21) := O
  show GM 30 eX X (f5_pumped p0 p1 S K) S 0 [(0, .int p0), (1, .int p1)] []
  unfold f5_pumped
  refine r_iload_n O d5_pumped_0 0 rfl ?_
  refine r_iload_n O d5_pumped_1 1 rfl ?_
  refine r_callSi O (rest := []) (c5_waterIn (lX X) p0 p1 S) w_315 w_290 w_45 w_291 hy_X5_waterIn ⟨rfl, rfl, Nat.le_of_ble_eq_true rfl, Nat.le_of_ble_eq_true rfl⟩ rfl rfl (Nat.le_of_ble_eq_true rfl) d5_pumped_2 (fun r2 S1 => ?_)
  refine r_istore_n O d5_pumped_5 [(2, .int r2), (0, .int p0), (1, .int p1)] (by decide) rfl ?_
  refine r_iload_n O d5_pumped_6 0 rfl ?_
  refine r_if_ne O 14 d5_pumped_7 (by decide) ?_ ?_
  · refine r_iconst O d5_pumped_14 (v := 0) (by decide) ?_
    refine r_istore_n O d5_pumped_15 [(3, .int 0), (2, .int r2), (0, .int p0), (1, .int p1)] (by decide) rfl ?_
    refine r_iload_n O d5_pumped_16 2 rfl ?_
    refine r_iload_n O d5_pumped_17 0 rfl ?_
    refine r_iload_n O d5_pumped_18 1 rfl ?_
    refine r_isub O d5_pumped_19 ?_
    refine r_gets O w_292 d5_pumped_20 (fun t3_3 ht3_3 => ?_)
    refine r_iload_n O d5_pumped_23 3 rfl ?_
    refine r_p3 O ht3_3 d5_pumped_24 (fun k4 hk4 => ?_)
    refine r_imul O d5_pumped_25 ?_
    refine r_iadd O d5_pumped_26 ?_
    exact r_iret O hQ d5_pumped_27
  · refine r_iconst O d5_pumped_10 (v := 2) (by decide) ?_
    refine r_goto O 15 d5_pumped_11 (by decide) ?_
    refine r_istore_n O d5_pumped_15 [(3, .int 2), (2, .int r2), (0, .int p0), (1, .int p1)] (by decide) rfl ?_
    refine r_iload_n O d5_pumped_16 2 rfl ?_
    refine r_iload_n O d5_pumped_17 0 rfl ?_
    refine r_iload_n O d5_pumped_18 1 rfl ?_
    refine r_isub O d5_pumped_19 ?_
    refine r_gets O w_292 d5_pumped_20 (fun t3_5 ht3_5 => ?_)
    refine r_iload_n O d5_pumped_23 3 rfl ?_
    refine r_p3 O ht3_5 d5_pumped_24 (fun k6 hk6 => ?_)
    refine r_imul O d5_pumped_25 ?_
    refine r_iadd O d5_pumped_26 ?_
    exact r_iret O hQ d5_pumped_27
-- X5.pump
theorem d5_pump_0 : decode cX5_pump 0 = .ok (.aload_n 0, 1) := by decide +kernel
theorem d5_pump_1 : decode cX5_pump 1 = .ok (.iload_n 1, 1) := by decide +kernel
theorem d5_pump_2 : decode cX5_pump 2 = .ok (.invokevirtual 78, 3) := by decide +kernel
theorem d5_pump_5 : decode cX5_pump 5 = .ok (.ifCond .ne 5, 3) := by decide +kernel
theorem d5_pump_8 : decode cX5_pump 8 = .ok (.iconst (-1), 1) := by decide +kernel
theorem d5_pump_9 : decode cX5_pump 9 = .ok (.ireturn, 1) := by decide +kernel
theorem d5_pump_10 : decode cX5_pump 10 = .ok (.aload_n 0, 1) := by decide +kernel
theorem d5_pump_11 : decode cX5_pump 11 = .ok (.getfield 20, 3) := by decide +kernel
theorem d5_pump_14 : decode cX5_pump 14 = .ok (.aload_n 0, 1) := by decide +kernel
theorem d5_pump_15 : decode cX5_pump 15 = .ok (.getfield 20, 3) := by decide +kernel
theorem d5_pump_18 : decode cX5_pump 18 = .ok (.getfield 103, 3) := by decide +kernel
theorem d5_pump_21 : decode cX5_pump 21 = .ok (.iload_n 1, 1) := by decide +kernel
theorem d5_pump_22 : decode cX5_pump 22 = .ok (.invokevirtual 120, 3) := by decide +kernel
theorem d5_pump_25 : decode cX5_pump 25 = .ok (.ifCond .ne 6, 3) := by decide +kernel
theorem d5_pump_28 : decode cX5_pump 28 = .ok (.bipush (-3), 2) := by decide +kernel
theorem d5_pump_30 : decode cX5_pump 30 = .ok (.ireturn, 1) := by decide +kernel
theorem d5_pump_31 : decode cX5_pump 31 = .ok (.aload_n 0, 1) := by decide +kernel
theorem d5_pump_32 : decode cX5_pump 32 = .ok (.getfield 20, 3) := by decide +kernel
theorem d5_pump_35 : decode cX5_pump 35 = .ok (.aload_n 0, 1) := by decide +kernel
theorem d5_pump_36 : decode cX5_pump 36 = .ok (.getfield 20, 3) := by decide +kernel
theorem d5_pump_39 : decode cX5_pump 39 = .ok (.getfield 103, 3) := by decide +kernel
theorem d5_pump_42 : decode cX5_pump 42 = .ok (.iload_n 1, 1) := by decide +kernel
theorem d5_pump_43 : decode cX5_pump 43 = .ok (.invokestatic 158, 3) := by decide +kernel
theorem d5_pump_46 : decode cX5_pump 46 = .ok (.putfield 103, 3) := by decide +kernel
theorem d5_pump_49 : decode cX5_pump 49 = .ok (.aload_n 0, 1) := by decide +kernel
theorem d5_pump_50 : decode cX5_pump 50 = .ok (.getfield 27, 3) := by decide +kernel
theorem d5_pump_53 : decode cX5_pump 53 = .ok (.invokevirtual 72, 3) := by decide +kernel
theorem d5_pump_56 : decode cX5_pump 56 = .ok (.aload_n 0, 1) := by decide +kernel
theorem d5_pump_57 : decode cX5_pump 57 = .ok (.getfield 20, 3) := by decide +kernel
theorem d5_pump_60 : decode cX5_pump 60 = .ok (.getfield 103, 3) := by decide +kernel
theorem d5_pump_63 : decode cX5_pump 63 = .ok (.iload_n 1, 1) := by decide +kernel
theorem d5_pump_64 : decode cX5_pump 64 = .ok (.invokestatic 106, 3) := by decide +kernel
theorem d5_pump_67 : decode cX5_pump 67 = .ok (.ireturn, 1) := by decide +kernel
noncomputable def f5_pump {α : Type} (p1 : Int32) (S : MS) (K : Int32 → MS → Option α) : Option α := f5_isTank p1 S fun r2 S1 => if r2 = 0 then (K (-1) S1) else (f3_canPump (S1.1 2 4) p1 S1 fun r4 S3 => if r4 = 0 then (K (-3) S3) else (f5_pumped (S3.1 2 4) p1 S3 fun r6 S5 => nm (sI S5 2 4 r6) fun S7 => f2_forget S7 fun S8 => f5_waterIn (S8.1 2 4) p1 S8 fun r11 S10 => K r11 S10))
set_option maxHeartbeats 4000000 in
set_option maxRecDepth 100000 in
theorem c5_pump (l : Launch) (p1 : Int32) (S : MS) {α : Type} : CtI 30 eX l yX5_pump cX5_pump 2 (some .int) (rmG 5 112) S (fun ad => [.ref (ad 0), .int p1]) (α := α) (f5_pump p1 S) := by
  refine CtI.of (by decide) (fun _ => Nat.le_of_ble_eq_true rfl) (fun X K _ O hQ => ?_)
  have O : OK 30 X RX5 cX5_pump 2 (some .int) (rmG 5 112) := O
  show GM 30 eX X (f5_pump p1 S K) S 0 [(0, .ref (aX X 0)), (1, .int p1)] []
  unfold f5_pump
  refine r_aload_n O d5_pump_0 0 rfl ?_
  refine r_iload_n O d5_pump_1 1 rfl ?_
  refine r_callVi O (b := 0) (bv := fun ad => [.int p1]) (rest := []) (c5_isTank (lX X) p1 S) (fun _ => rfl) (by decide) eX_0 rfl rfl w_304 w_306 w_1 w_45 w_307 hy_X5_isTank ⟨rfl, rfl, Nat.le_of_ble_eq_true rfl, Nat.le_of_ble_eq_true rfl⟩ rfl rfl (Nat.le_of_ble_eq_true rfl) d5_pump_2 (fun r2 S1 => ?_)
  refine r_if_ne O 10 d5_pump_5 (by decide) ?_ ?_
  · refine r_aload_n O d5_pump_10 0 rfl ?_
    refine g_X5_20 O d5_pump_11 ?_
    refine r_aload_n O d5_pump_14 0 rfl ?_
    refine g_X5_20 O d5_pump_15 ?_
    refine g_X5_103 O d5_pump_18 ?_
    refine r_iload_n O d5_pump_21 1 rfl ?_
    refine r_callVi O (b := 2) (bv := fun ad => [.int (S1.1 2 4), .int p1]) (rest := []) (c3_canPump (lX X) (S1.1 2 4) p1 S1) (fun _ => rfl) (by decide) eX_2 rfl rfl w_322 w_323 w_324 w_46 w_325 hy_X3_canPump ⟨rfl, rfl, Nat.le_of_ble_eq_true rfl, Nat.le_of_ble_eq_true rfl⟩ rfl rfl (Nat.le_of_ble_eq_true rfl) d5_pump_22 (fun r4 S3 => ?_)
    refine r_if_ne O 31 d5_pump_25 (by decide) ?_ ?_
    · refine r_aload_n O d5_pump_31 0 rfl ?_
      refine g_X5_20 O d5_pump_32 ?_
      refine r_aload_n O d5_pump_35 0 rfl ?_
      refine g_X5_20 O d5_pump_36 ?_
      refine g_X5_103 O d5_pump_39 ?_
      refine r_iload_n O d5_pump_42 1 rfl ?_
      refine r_callSi O (rest := [.ref (aX X 2)]) (c5_pumped (lX X) (S3.1 2 4) p1 S3) w_407 w_408 w_45 w_409 hy_X5_pumped ⟨rfl, rfl, Nat.le_of_ble_eq_true rfl, Nat.le_of_ble_eq_true rfl⟩ rfl rfl (Nat.le_of_ble_eq_true rfl) d5_pump_43 (fun r6 S5 => ?_)
      refine p_X5_103 O d5_pump_46 (fun S7 => ?_)
      refine r_aload_n O d5_pump_49 0 rfl ?_
      refine g_X5_27 O d5_pump_50 ?_
      refine r_callVv O (b := 3) (bv := fun ad => []) (rest := []) (c2_forget (lX X) S7) (fun _ => rfl) (by decide) eX_3 rfl rfl w_296 w_297 w_298 w_49 w_299 hy_X2_forget ⟨rfl, rfl, Nat.le_of_ble_eq_true rfl, Nat.le_of_ble_eq_true rfl⟩ rfl rfl (Nat.le_of_ble_eq_true rfl) d5_pump_53 (fun S8 => ?_)
      refine r_aload_n O d5_pump_56 0 rfl ?_
      refine g_X5_20 O d5_pump_57 ?_
      refine g_X5_103 O d5_pump_60 ?_
      refine r_iload_n O d5_pump_63 1 rfl ?_
      refine r_callSi O (rest := []) (c5_waterIn (lX X) (S8.1 2 4) p1 S8) w_315 w_290 w_45 w_291 hy_X5_waterIn ⟨rfl, rfl, Nat.le_of_ble_eq_true rfl, Nat.le_of_ble_eq_true rfl⟩ rfl rfl (Nat.le_of_ble_eq_true rfl) d5_pump_64 (fun r11 S10 => ?_)
      exact r_iret O hQ d5_pump_67
    · refine r_bipush O d5_pump_28 (v := (-3)) (by decide) ?_
      exact r_iret O hQ d5_pump_30
  · refine r_iconst O d5_pump_8 (v := (-1)) (by decide) ?_
    exact r_iret O hQ d5_pump_9
-- X2.findPumpable
theorem d2_findPumpable_0 : decode cX2_findPumpable 0 = .ok (.iconst 0, 1) := by decide +kernel
theorem d2_findPumpable_1 : decode cX2_findPumpable 1 = .ok (.istore_n 2, 1) := by decide +kernel
theorem d2_findPumpable_2 : decode cX2_findPumpable 2 = .ok (.iload_n 2, 1) := by decide +kernel
theorem d2_findPumpable_3 : decode cX2_findPumpable 3 = .ok (.iconst 1, 1) := by decide +kernel
theorem d2_findPumpable_4 : decode cX2_findPumpable 4 = .ok (.aload_n 1, 1) := by decide +kernel
theorem d2_findPumpable_5 : decode cX2_findPumpable 5 = .ok (.getfield 57, 3) := by decide +kernel
theorem d2_findPumpable_8 : decode cX2_findPumpable 8 = .ok (.ishl, 1) := by decide +kernel
theorem d2_findPumpable_9 : decode cX2_findPumpable 9 = .ok (.if_icmp .ge 27, 3) := by decide +kernel
theorem d2_findPumpable_12 : decode cX2_findPumpable 12 = .ok (.aload_n 0, 1) := by decide +kernel
theorem d2_findPumpable_13 : decode cX2_findPumpable 13 = .ok (.getfield 28, 3) := by decide +kernel
theorem d2_findPumpable_16 : decode cX2_findPumpable 16 = .ok (.iload_n 2, 1) := by decide +kernel
theorem d2_findPumpable_17 : decode cX2_findPumpable 17 = .ok (.aload_n 1, 1) := by decide +kernel
theorem d2_findPumpable_18 : decode cX2_findPumpable 18 = .ok (.iload_n 2, 1) := by decide +kernel
theorem d2_findPumpable_19 : decode cX2_findPumpable 19 = .ok (.invokevirtual 62, 3) := by decide +kernel
theorem d2_findPumpable_22 : decode cX2_findPumpable 22 = .ok (.bastore, 1) := by decide +kernel
theorem d2_findPumpable_23 : decode cX2_findPumpable 23 = .ok (.aload_n 0, 1) := by decide +kernel
theorem d2_findPumpable_24 : decode cX2_findPumpable 24 = .ok (.getfield 32, 3) := by decide +kernel
theorem d2_findPumpable_27 : decode cX2_findPumpable 27 = .ok (.iload_n 2, 1) := by decide +kernel
theorem d2_findPumpable_28 : decode cX2_findPumpable 28 = .ok (.iconst 0, 1) := by decide +kernel
theorem d2_findPumpable_29 : decode cX2_findPumpable 29 = .ok (.iastore, 1) := by decide +kernel
theorem d2_findPumpable_30 : decode cX2_findPumpable 30 = .ok (.iinc 2 1, 3) := by decide +kernel
theorem d2_findPumpable_33 : decode cX2_findPumpable 33 = .ok (.goto (-31), 3) := by decide +kernel
theorem d2_findPumpable_36 : decode cX2_findPumpable 36 = .ok (.iconst 0, 1) := by decide +kernel
theorem d2_findPumpable_37 : decode cX2_findPumpable 37 = .ok (.istore_n 2, 1) := by decide +kernel
theorem d2_findPumpable_38 : decode cX2_findPumpable 38 = .ok (.iload_n 2, 1) := by decide +kernel
theorem d2_findPumpable_39 : decode cX2_findPumpable 39 = .ok (.iconst 1, 1) := by decide +kernel
theorem d2_findPumpable_40 : decode cX2_findPumpable 40 = .ok (.aload_n 1, 1) := by decide +kernel
theorem d2_findPumpable_41 : decode cX2_findPumpable 41 = .ok (.getfield 57, 3) := by decide +kernel
theorem d2_findPumpable_44 : decode cX2_findPumpable 44 = .ok (.ishl, 1) := by decide +kernel
theorem d2_findPumpable_45 : decode cX2_findPumpable 45 = .ok (.if_icmp .ge 98, 3) := by decide +kernel
theorem d2_findPumpable_48 : decode cX2_findPumpable 48 = .ok (.iconst 0, 1) := by decide +kernel
theorem d2_findPumpable_49 : decode cX2_findPumpable 49 = .ok (.istore_n 3, 1) := by decide +kernel
theorem d2_findPumpable_50 : decode cX2_findPumpable 50 = .ok (.iload_n 3, 1) := by decide +kernel
theorem d2_findPumpable_51 : decode cX2_findPumpable 51 = .ok (.aload_n 1, 1) := by decide +kernel
theorem d2_findPumpable_52 : decode cX2_findPumpable 52 = .ok (.getfield 57, 3) := by decide +kernel
theorem d2_findPumpable_55 : decode cX2_findPumpable 55 = .ok (.if_icmp .ge 82, 3) := by decide +kernel
theorem d2_findPumpable_58 : decode cX2_findPumpable 58 = .ok (.iload_n 2, 1) := by decide +kernel
theorem d2_findPumpable_59 : decode cX2_findPumpable 59 = .ok (.aload_n 1, 1) := by decide +kernel
theorem d2_findPumpable_60 : decode cX2_findPumpable 60 = .ok (.getfield 66, 3) := by decide +kernel
theorem d2_findPumpable_63 : decode cX2_findPumpable 63 = .ok (.iand, 1) := by decide +kernel
theorem d2_findPumpable_64 : decode cX2_findPumpable 64 = .ok (.iload_n 3, 1) := by decide +kernel
theorem d2_findPumpable_65 : decode cX2_findPumpable 65 = .ok (.invokestatic 69, 3) := by decide +kernel
theorem d2_findPumpable_68 : decode cX2_findPumpable 68 = .ok (.ifCond .eq 63, 3) := by decide +kernel
theorem d2_findPumpable_71 : decode cX2_findPumpable 71 = .ok (.aload_n 1, 1) := by decide +kernel
theorem d2_findPumpable_72 : decode cX2_findPumpable 72 = .ok (.iload_n 2, 1) := by decide +kernel
theorem d2_findPumpable_73 : decode cX2_findPumpable 73 = .ok (.iload_n 3, 1) := by decide +kernel
theorem d2_findPumpable_74 : decode cX2_findPumpable 74 = .ok (.invokevirtual 73, 3) := by decide +kernel
theorem d2_findPumpable_77 : decode cX2_findPumpable 77 = .ok (.ifCond .eq 54, 3) := by decide +kernel
theorem d2_findPumpable_80 : decode cX2_findPumpable 80 = .ok (.iload_n 2, 1) := by decide +kernel
theorem d2_findPumpable_81 : decode cX2_findPumpable 81 = .ok (.iconst 1, 1) := by decide +kernel
theorem d2_findPumpable_82 : decode cX2_findPumpable 82 = .ok (.iload_n 3, 1) := by decide +kernel
theorem d2_findPumpable_83 : decode cX2_findPumpable 83 = .ok (.ishl, 1) := by decide +kernel
theorem d2_findPumpable_84 : decode cX2_findPumpable 84 = .ok (.ixor, 1) := by decide +kernel
theorem d2_findPumpable_85 : decode cX2_findPumpable 85 = .ok (.istore 4, 2) := by decide +kernel
theorem d2_findPumpable_87 : decode cX2_findPumpable 87 = .ok (.aload_n 0, 1) := by decide +kernel
theorem d2_findPumpable_88 : decode cX2_findPumpable 88 = .ok (.getfield 28, 3) := by decide +kernel
theorem d2_findPumpable_91 : decode cX2_findPumpable 91 = .ok (.iload 4, 2) := by decide +kernel
theorem d2_findPumpable_93 : decode cX2_findPumpable 93 = .ok (.baload, 1) := by decide +kernel
theorem d2_findPumpable_94 : decode cX2_findPumpable 94 = .ok (.ifCond .eq 15, 3) := by decide +kernel
theorem d2_findPumpable_97 : decode cX2_findPumpable 97 = .ok (.aload_n 0, 1) := by decide +kernel
theorem d2_findPumpable_98 : decode cX2_findPumpable 98 = .ok (.getfield 32, 3) := by decide +kernel
theorem d2_findPumpable_101 : decode cX2_findPumpable 101 = .ok (.iload_n 2, 1) := by decide +kernel
theorem d2_findPumpable_102 : decode cX2_findPumpable 102 = .ok (.dup2, 1) := by decide +kernel
theorem d2_findPumpable_103 : decode cX2_findPumpable 103 = .ok (.iaload, 1) := by decide +kernel
theorem d2_findPumpable_104 : decode cX2_findPumpable 104 = .ok (.iconst 1, 1) := by decide +kernel
theorem d2_findPumpable_105 : decode cX2_findPumpable 105 = .ok (.iload_n 3, 1) := by decide +kernel
theorem d2_findPumpable_106 : decode cX2_findPumpable 106 = .ok (.ishl, 1) := by decide +kernel
theorem d2_findPumpable_107 : decode cX2_findPumpable 107 = .ok (.ior, 1) := by decide +kernel
theorem d2_findPumpable_108 : decode cX2_findPumpable 108 = .ok (.iastore, 1) := by decide +kernel
theorem d2_findPumpable_109 : decode cX2_findPumpable 109 = .ok (.aload_n 0, 1) := by decide +kernel
theorem d2_findPumpable_110 : decode cX2_findPumpable 110 = .ok (.getfield 28, 3) := by decide +kernel
theorem d2_findPumpable_113 : decode cX2_findPumpable 113 = .ok (.iload_n 2, 1) := by decide +kernel
theorem d2_findPumpable_114 : decode cX2_findPumpable 114 = .ok (.baload, 1) := by decide +kernel
theorem d2_findPumpable_115 : decode cX2_findPumpable 115 = .ok (.ifCond .eq 16, 3) := by decide +kernel
theorem d2_findPumpable_118 : decode cX2_findPumpable 118 = .ok (.aload_n 0, 1) := by decide +kernel
theorem d2_findPumpable_119 : decode cX2_findPumpable 119 = .ok (.getfield 32, 3) := by decide +kernel
theorem d2_findPumpable_122 : decode cX2_findPumpable 122 = .ok (.iload 4, 2) := by decide +kernel
theorem d2_findPumpable_124 : decode cX2_findPumpable 124 = .ok (.dup2, 1) := by decide +kernel
theorem d2_findPumpable_125 : decode cX2_findPumpable 125 = .ok (.iaload, 1) := by decide +kernel
theorem d2_findPumpable_126 : decode cX2_findPumpable 126 = .ok (.iconst 1, 1) := by decide +kernel
theorem d2_findPumpable_127 : decode cX2_findPumpable 127 = .ok (.iload_n 3, 1) := by decide +kernel
theorem d2_findPumpable_128 : decode cX2_findPumpable 128 = .ok (.ishl, 1) := by decide +kernel
theorem d2_findPumpable_129 : decode cX2_findPumpable 129 = .ok (.ior, 1) := by decide +kernel
theorem d2_findPumpable_130 : decode cX2_findPumpable 130 = .ok (.iastore, 1) := by decide +kernel
theorem d2_findPumpable_131 : decode cX2_findPumpable 131 = .ok (.iinc 3 1, 3) := by decide +kernel
theorem d2_findPumpable_134 : decode cX2_findPumpable 134 = .ok (.goto (-84), 3) := by decide +kernel
theorem d2_findPumpable_137 : decode cX2_findPumpable 137 = .ok (.iinc 2 1, 3) := by decide +kernel
theorem d2_findPumpable_140 : decode cX2_findPumpable 140 = .ok (.goto (-102), 3) := by decide +kernel
theorem d2_findPumpable_143 : decode cX2_findPumpable 143 = .ok (.return_, 1) := by decide +kernel
noncomputable def f2_findPumpable_L2 {α : Type} (KX : Int32 → MS → Option α) : Nat → Int32 → MS → Option α
  | 0, _, _ => none
  | n + 1, v2, S => if ((1 : Int32) <<< ((S.1 2 3) &&& 31)) ≤ v2 then (KX v2 S) else (f3_isSafe v2 S fun r2 S1 => ck v2 64 fun k3 => nm (sI S1 14 k3 (vp_nar .boolean r2)) fun S4 => ck v2 64 fun k5 => nm (sI S4 15 k5 0) fun S6 => nm (v2 + 1) fun x2_7 => f2_findPumpable_L2 KX n x2_7 S6)
noncomputable def f2_findPumpable_J109 {α : Type} (c2 : Int32) (c3 : Int32) (c4 : Int32) (S : MS) (KB : Int32 → MS → Option α) (KX : Int32 → MS → Option α) : Option α := ck c2 64 fun k18 => if (S.1 14 k18) = 0 then (nm (c3 + 1) fun x3_19 => KB x3_19 S) else (ck c4 64 fun k20 => ck c4 64 fun k21 => nm (sI S 15 k21 ((S.1 15 k20) ||| ((1 : Int32) <<< (c3 &&& 31)))) fun S22 => nm (c3 + 1) fun x3_23 => KB x3_23 S22)
noncomputable def f2_findPumpable_L50 {α : Type} (c2 : Int32) (KX : Int32 → MS → Option α) : Nat → Int32 → MS → Option α
  | 0, _, _ => none
  | n + 1, v3, S => if (S.1 2 3) ≤ v3 then (KX v3 S) else (f5_holds (c2 &&& (S.1 2 5)) v3 S fun r11 S10 => if r11 = 0 then (nm (v3 + 1) fun x3_12 => f2_findPumpable_L50 c2 KX n x3_12 S10) else (f3_isSafeHalfway c2 v3 S10 fun r14 S13 => if r14 = 0 then (nm (v3 + 1) fun x3_15 => f2_findPumpable_L50 c2 KX n x3_15 S13) else (nm (c2 ^^^ ((1 : Int32) <<< (v3 &&& 31))) fun x4_16 => ck x4_16 64 fun k17 => if (S13.1 14 k17) = 0 then (f2_findPumpable_J109 c2 v3 x4_16 S13 (f2_findPumpable_L50 c2 KX n) KX) else (ck c2 64 fun k24 => ck c2 64 fun k25 => nm (sI S13 15 k25 ((S13.1 15 k24) ||| ((1 : Int32) <<< (v3 &&& 31)))) fun S26 => f2_findPumpable_J109 c2 v3 x4_16 S26 (f2_findPumpable_L50 c2 KX n) KX))))
noncomputable def f2_findPumpable_L38 {α : Type} (KX : Int32 → MS → Option α) : Nat → Int32 → MS → Option α
  | 0, _, _ => none
  | n + 1, v2, S => if ((1 : Int32) <<< ((S.1 2 3) &&& 31)) ≤ v2 then (KX v2 S) else (f2_findPumpable_L50 v2 (fun v3_28 S27 => nm (v2 + 1) fun x2_29 => f2_findPumpable_L38 KX n x2_29 S27) FU 0 S)
noncomputable def f2_findPumpable {α : Type} (S : MS) (K : MS → Option α) : Option α := f2_findPumpable_L2 (fun v2_9 S8 => f2_findPumpable_L38 (fun v2_31 S30 => K S30) FU 0 S8) FU 0 S
set_option maxHeartbeats 4000000 in
set_option maxRecDepth 100000 in
theorem l2_findPumpable_2 {α : Type} {X : GX α} (O : OK 30 X RX2 cX2_findPumpable 5 none (rmG 4 89)) {KX : Int32 → MS → Option α} (hX : ∀ v2 S, GM 30 eX X (KX v2 S) S 36 [(0, .ref (aX X 3)), (1, .ref (aX X 2)), (2, .int v2)] []) : ∀ n v2 S, GM 30 eX X (f2_findPumpable_L2 KX n v2 S) S 2 [(0, .ref (aX X 3)), (1, .ref (aX X 2)), (2, .int v2)] [] := by
  intro n
  induction n with
  | zero => intro v2 S; exact r_none
  | succ n ih =>
    intro v2 S
    rw [f2_findPumpable_L2]
    refine r_iload_n O d2_findPumpable_2 2 rfl ?_
    refine r_iconst O d2_findPumpable_3 (v := 1) (by decide) ?_
    refine r_aload_n O d2_findPumpable_4 1 rfl ?_
    refine g_X2_57 O d2_findPumpable_5 ?_
    refine r_ishl O d2_findPumpable_8 ?_
    refine r_icmp_ge O 36 d2_findPumpable_9 (by decide) ?_ ?_
    · refine r_sub [0, 1, 2] rfl ?_
      exact hX _ _
    · refine r_aload_n O d2_findPumpable_12 0 rfl ?_
      refine g_X2_28 O d2_findPumpable_13 ?_
      refine r_iload_n O d2_findPumpable_16 2 rfl ?_
      refine r_aload_n O d2_findPumpable_17 1 rfl ?_
      refine r_iload_n O d2_findPumpable_18 2 rfl ?_
      refine r_callVi O (b := 2) (bv := fun ad => [.int v2]) (rest := [.int v2, .ref (aX X 14)]) (c3_isSafe (lX X) v2 S) (fun _ => rfl) (by decide) eX_2 rfl rfl w_422 w_360 w_361 w_46 w_362 hy_X3_isSafe ⟨rfl, rfl, Nat.le_of_ble_eq_true rfl, Nat.le_of_ble_eq_true rfl⟩ rfl rfl (Nat.le_of_ble_eq_true rfl) d2_findPumpable_19 (fun r2 S1 => ?_)
      refine r_zast O (j := 14) (by decide) (fun _ => eX_14) d2_findPumpable_22 (fun S4 => ?_)
      refine r_aload_n O d2_findPumpable_23 0 rfl ?_
      refine g_X2_32 O d2_findPumpable_24 ?_
      refine r_iload_n O d2_findPumpable_27 2 rfl ?_
      refine r_iconst O d2_findPumpable_28 (v := 0) (by decide) ?_
      refine r_iast O (j := 15) (by decide) (fun _ => eX_15) d2_findPumpable_29 (fun S6 => ?_)
      refine r_iinc O d2_findPumpable_30 2 (c0 := 1) rfl (by decide) (fun x2_7 => [(2, .int x2_7), (0, .ref (aX X 3)), (1, .ref (aX X 2))]) (by decide) (fun _ => rfl) (fun x2_7 => ?_)
      refine r_goto O 2 d2_findPumpable_33 (by decide) ?_
      refine r_sub [1, 2, 0] rfl ?_
      exact ih _ _
set_option maxHeartbeats 4000000 in
set_option maxRecDepth 100000 in
theorem j2_findPumpable_109 {α : Type} {X : GX α} (O : OK 30 X RX2 cX2_findPumpable 5 none (rmG 4 89)) {c2 : Int32} {c3 : Int32} {c4 : Int32} {S : MS} {KB : Int32 → MS → Option α} {KX : Int32 → MS → Option α} (hB : ∀ v3q S, GM 30 eX X (KB v3q S) S 50 [(0, .ref (aX X 3)), (1, .ref (aX X 2)), (2, .int c2), (3, .int v3q)] []) (hX : ∀ v3q S, GM 30 eX X (KX v3q S) S 137 [(0, .ref (aX X 3)), (1, .ref (aX X 2)), (2, .int c2), (3, .int v3q)] []) : GM 30 eX X (f2_findPumpable_J109 c2 c3 c4 S KB KX) S 109 [(0, .ref (aX X 3)), (1, .ref (aX X 2)), (2, .int c2), (3, .int c3), (4, .int c4)] [] := by
  unfold f2_findPumpable_J109
  refine r_aload_n O d2_findPumpable_109 0 rfl ?_
  refine g_X2_28 O d2_findPumpable_110 ?_
  refine r_iload_n O d2_findPumpable_113 2 rfl ?_
  refine r_zald O (j := 14) (by decide) eX_14 d2_findPumpable_114 (fun k18 hk18 => ?_)
  refine r_if_eq O 131 d2_findPumpable_115 (by decide) ?_ ?_
  · refine r_iinc O d2_findPumpable_131 3 (c0 := 1) rfl (by decide) (fun x3_19 => [(3, .int x3_19), (0, .ref (aX X 3)), (1, .ref (aX X 2)), (2, .int c2), (4, .int c4)]) (by decide) (fun _ => rfl) (fun x3_19 => ?_)
    refine r_goto O 50 d2_findPumpable_134 (by decide) ?_
    refine r_sub [1, 2, 3, 0] rfl ?_
    exact hB _ _
  · refine r_aload_n O d2_findPumpable_118 0 rfl ?_
    refine g_X2_32 O d2_findPumpable_119 ?_
    refine r_iload O d2_findPumpable_122 4 rfl ?_
    refine r_dup2 O d2_findPumpable_124 rfl rfl ?_
    refine r_iald O (j := 15) (by decide) eX_15 d2_findPumpable_125 (fun k20 hk20 => ?_)
    refine r_iconst O d2_findPumpable_126 (v := 1) (by decide) ?_
    refine r_iload_n O d2_findPumpable_127 3 rfl ?_
    refine r_ishl O d2_findPumpable_128 ?_
    refine r_ior O d2_findPumpable_129 ?_
    refine r_iast O (j := 15) (by decide) (fun _ => eX_15) d2_findPumpable_130 (fun S22 => ?_)
    refine r_iinc O d2_findPumpable_131 3 (c0 := 1) rfl (by decide) (fun x3_23 => [(3, .int x3_23), (0, .ref (aX X 3)), (1, .ref (aX X 2)), (2, .int c2), (4, .int c4)]) (by decide) (fun _ => rfl) (fun x3_23 => ?_)
    refine r_goto O 50 d2_findPumpable_134 (by decide) ?_
    refine r_sub [1, 2, 3, 0] rfl ?_
    exact hB _ _
set_option maxHeartbeats 4000000 in
set_option maxRecDepth 100000 in
theorem l2_findPumpable_50 {α : Type} {X : GX α} (O : OK 30 X RX2 cX2_findPumpable 5 none (rmG 4 89)) {c2 : Int32} {KX : Int32 → MS → Option α} (hX : ∀ v3 S, GM 30 eX X (KX v3 S) S 137 [(0, .ref (aX X 3)), (1, .ref (aX X 2)), (2, .int c2), (3, .int v3)] []) : ∀ n v3 S, GM 30 eX X (f2_findPumpable_L50 c2 KX n v3 S) S 50 [(0, .ref (aX X 3)), (1, .ref (aX X 2)), (2, .int c2), (3, .int v3)] [] := by
  intro n
  induction n with
  | zero => intro v3 S; exact r_none
  | succ n ih =>
    intro v3 S
    rw [f2_findPumpable_L50]
    refine r_iload_n O d2_findPumpable_50 3 rfl ?_
    refine r_aload_n O d2_findPumpable_51 1 rfl ?_
    refine g_X2_57 O d2_findPumpable_52 ?_
    refine r_icmp_ge O 137 d2_findPumpable_55 (by decide) ?_ ?_
    · refine r_sub [0, 1, 2, 3] rfl ?_
      exact hX _ _
    · refine r_iload_n O d2_findPumpable_58 2 rfl ?_
      refine r_aload_n O d2_findPumpable_59 1 rfl ?_
      refine g_X2_66 O d2_findPumpable_60 ?_
      refine r_iand O d2_findPumpable_63 ?_
      refine r_iload_n O d2_findPumpable_64 3 rfl ?_
      refine r_callSNi O (rest := []) (c5_holds (lX X) (c2 &&& (S.1 2 5)) v3 S) w_423 w_317 w_45 w_318 hy_X5_holds ⟨rfl, rfl, Nat.le_of_ble_eq_true rfl, Nat.le_of_ble_eq_true rfl⟩ rfl rfl (Nat.le_of_ble_eq_true rfl) d2_findPumpable_65 (fun r11 S10 => ?_)
      refine r_if_eq O 131 d2_findPumpable_68 (by decide) ?_ ?_
      · refine r_iinc O d2_findPumpable_131 3 (c0 := 1) rfl (by decide) (fun x3_12 => [(3, .int x3_12), (0, .ref (aX X 3)), (1, .ref (aX X 2)), (2, .int c2)]) (by decide) (fun _ => rfl) (fun x3_12 => ?_)
        refine r_goto O 50 d2_findPumpable_134 (by decide) ?_
        refine r_sub [1, 2, 3, 0] rfl ?_
        exact ih _ _
      · refine r_aload_n O d2_findPumpable_71 1 rfl ?_
        refine r_iload_n O d2_findPumpable_72 2 rfl ?_
        refine r_iload_n O d2_findPumpable_73 3 rfl ?_
        refine r_callVi O (b := 2) (bv := fun ad => [.int c2, .int v3]) (rest := []) (c3_isSafeHalfway (lX X) c2 v3 S10) (fun _ => rfl) (by decide) eX_2 rfl rfl w_424 w_328 w_329 w_46 w_330 hy_X3_isSafeHalfway ⟨rfl, rfl, Nat.le_of_ble_eq_true rfl, Nat.le_of_ble_eq_true rfl⟩ rfl rfl (Nat.le_of_ble_eq_true rfl) d2_findPumpable_74 (fun r14 S13 => ?_)
        refine r_if_eq O 131 d2_findPumpable_77 (by decide) ?_ ?_
        · refine r_iinc O d2_findPumpable_131 3 (c0 := 1) rfl (by decide) (fun x3_15 => [(3, .int x3_15), (0, .ref (aX X 3)), (1, .ref (aX X 2)), (2, .int c2)]) (by decide) (fun _ => rfl) (fun x3_15 => ?_)
          refine r_goto O 50 d2_findPumpable_134 (by decide) ?_
          refine r_sub [1, 2, 3, 0] rfl ?_
          exact ih _ _
        · refine r_iload_n O d2_findPumpable_80 2 rfl ?_
          refine r_iconst O d2_findPumpable_81 (v := 1) (by decide) ?_
          refine r_iload_n O d2_findPumpable_82 3 rfl ?_
          refine r_ishl O d2_findPumpable_83 ?_
          refine r_ixor O d2_findPumpable_84 ?_
          refine r_istore_nm O d2_findPumpable_85 (fun x4_16 => [(4, .int x4_16), (0, .ref (aX X 3)), (1, .ref (aX X 2)), (2, .int c2), (3, .int v3)]) (by decide) (fun _ => rfl) (fun x4_16 => ?_)
          refine r_aload_n O d2_findPumpable_87 1 rfl ?_
          refine g_X2_28 O d2_findPumpable_88 ?_
          refine r_iload O d2_findPumpable_91 0 rfl ?_
          refine r_zald O (j := 14) (by decide) eX_14 d2_findPumpable_93 (fun k17 hk17 => ?_)
          refine r_if_eq O 109 d2_findPumpable_94 (by decide) ?_ ?_
          · refine r_sub [1, 2, 3, 4, 0] rfl ?_
            exact j2_findPumpable_109 O (fun _ _ => ih _ _) hX
          · refine r_aload_n O d2_findPumpable_97 1 rfl ?_
            refine g_X2_32 O d2_findPumpable_98 ?_
            refine r_iload_n O d2_findPumpable_101 3 rfl ?_
            refine r_dup2 O d2_findPumpable_102 rfl rfl ?_
            refine r_iald O (j := 15) (by decide) eX_15 d2_findPumpable_103 (fun k24 hk24 => ?_)
            refine r_iconst O d2_findPumpable_104 (v := 1) (by decide) ?_
            refine r_iload_n O d2_findPumpable_105 4 rfl ?_
            refine r_ishl O d2_findPumpable_106 ?_
            refine r_ior O d2_findPumpable_107 ?_
            refine r_iast O (j := 15) (by decide) (fun _ => eX_15) d2_findPumpable_108 (fun S26 => ?_)
            refine r_sub [1, 2, 3, 4, 0] rfl ?_
            exact j2_findPumpable_109 O (fun _ _ => ih _ _) hX
set_option maxHeartbeats 4000000 in
set_option maxRecDepth 100000 in
theorem l2_findPumpable_38 {α : Type} {X : GX α} (O : OK 30 X RX2 cX2_findPumpable 5 none (rmG 4 89)) {KX : Int32 → MS → Option α} (hX : ∀ v2 S, GM 30 eX X (KX v2 S) S 143 [(0, .ref (aX X 3)), (1, .ref (aX X 2)), (2, .int v2)] []) : ∀ n v2 S, GM 30 eX X (f2_findPumpable_L38 KX n v2 S) S 38 [(0, .ref (aX X 3)), (1, .ref (aX X 2)), (2, .int v2)] [] := by
  intro n
  induction n with
  | zero => intro v2 S; exact r_none
  | succ n ih =>
    intro v2 S
    rw [f2_findPumpable_L38]
    refine r_iload_n O d2_findPumpable_38 2 rfl ?_
    refine r_iconst O d2_findPumpable_39 (v := 1) (by decide) ?_
    refine r_aload_n O d2_findPumpable_40 1 rfl ?_
    refine g_X2_57 O d2_findPumpable_41 ?_
    refine r_ishl O d2_findPumpable_44 ?_
    refine r_icmp_ge O 143 d2_findPumpable_45 (by decide) ?_ ?_
    · refine r_sub [0, 1, 2] rfl ?_
      exact hX _ _
    · refine r_iconst O d2_findPumpable_48 (v := 0) (by decide) ?_
      refine r_istore_n O d2_findPumpable_49 [(3, .int 0), (0, .ref (aX X 3)), (1, .ref (aX X 2)), (2, .int v2)] (by decide) rfl ?_
      refine r_sub [1, 2, 3, 0] rfl ?_
      refine l2_findPumpable_50 O (fun v3_28 S27 => ?_) _ _ _
      refine r_iinc O d2_findPumpable_137 2 (c0 := 1) rfl (by decide) (fun x2_29 => [(2, .int x2_29), (0, .ref (aX X 3)), (1, .ref (aX X 2)), (3, .int v3_28)]) (by decide) (fun _ => rfl) (fun x2_29 => ?_)
      refine r_goto O 38 d2_findPumpable_140 (by decide) ?_
      refine r_sub [1, 2, 0] rfl ?_
      exact ih _ _
set_option maxHeartbeats 4000000 in
set_option maxRecDepth 100000 in
theorem c2_findPumpable (l : Launch) (S : MS) {α : Type} : CtV 30 eX l yX2_findPumpable cX2_findPumpable 5 none (rmG 4 89) S (fun ad => [.ref (ad 3), .ref (ad 2)]) (α := α) (f2_findPumpable S) := by
  refine CtV.of (by decide) (fun _ => Nat.le_of_ble_eq_true rfl) (fun X K _ O hQ => ?_)
  have O : OK 30 X RX2 cX2_findPumpable 5 none (rmG 4 89) := O
  show GM 30 eX X (f2_findPumpable S K) S 0 [(0, .ref (aX X 3)), (1, .ref (aX X 2))] []
  unfold f2_findPumpable
  refine r_iconst O d2_findPumpable_0 (v := 0) (by decide) ?_
  refine r_istore_n O d2_findPumpable_1 [(2, .int 0), (0, .ref (aX X 3)), (1, .ref (aX X 2))] (by decide) rfl ?_
  refine r_sub [1, 2, 0] rfl ?_
  refine l2_findPumpable_2 O (fun v2_9 S8 => ?_) _ _ _
  refine r_iconst O d2_findPumpable_36 (v := 0) (by decide) ?_
  refine r_istore_n O d2_findPumpable_37 [(2, .int 0), (0, .ref (aX X 3)), (1, .ref (aX X 2))] (by decide) rfl ?_
  refine r_sub [1, 2, 0] rfl ?_
  refine l2_findPumpable_38 O (fun v2_31 S30 => ?_) _ _ _
  exact r_vret O hQ d2_findPumpable_143
-- X2.step
theorem d2_step_0 : decode cX2_step 0 = .ok (.iload_n 1, 1) := by decide +kernel
theorem d2_step_1 : decode cX2_step 1 = .ok (.iload_n 2, 1) := by decide +kernel
theorem d2_step_2 : decode cX2_step 2 = .ok (.invokestatic 93, 3) := by decide +kernel
theorem d2_step_5 : decode cX2_step 5 = .ok (.istore_n 3, 1) := by decide +kernel
theorem d2_step_6 : decode cX2_step 6 = .ok (.aload_n 0, 1) := by decide +kernel
theorem d2_step_7 : decode cX2_step 7 = .ok (.getfield 15, 3) := by decide +kernel
theorem d2_step_10 : decode cX2_step 10 = .ok (.iload_n 3, 1) := by decide +kernel
theorem d2_step_11 : decode cX2_step 11 = .ok (.iaload, 1) := by decide +kernel
theorem d2_step_12 : decode cX2_step 12 = .ok (.bipush (-9), 2) := by decide +kernel
theorem d2_step_14 : decode cX2_step 14 = .ok (.if_icmp .ne 68, 3) := by decide +kernel
theorem d2_step_17 : decode cX2_step 17 = .ok (.aload_n 0, 1) := by decide +kernel
theorem d2_step_18 : decode cX2_step 18 = .ok (.getfield 39, 3) := by decide +kernel
theorem d2_step_21 : decode cX2_step 21 = .ok (.sipush 729, 3) := by decide +kernel
theorem d2_step_24 : decode cX2_step 24 = .ok (.if_icmp .ge 58, 3) := by decide +kernel
theorem d2_step_27 : decode cX2_step 27 = .ok (.aload_n 0, 1) := by decide +kernel
theorem d2_step_28 : decode cX2_step 28 = .ok (.getfield 15, 3) := by decide +kernel
theorem d2_step_31 : decode cX2_step 31 = .ok (.iload_n 3, 1) := by decide +kernel
theorem d2_step_32 : decode cX2_step 32 = .ok (.aload_n 0, 1) := by decide +kernel
theorem d2_step_33 : decode cX2_step 33 = .ok (.getfield 15, 3) := by decide +kernel
theorem d2_step_36 : decode cX2_step 36 = .ok (.iload_n 1, 1) := by decide +kernel
theorem d2_step_37 : decode cX2_step 37 = .ok (.iaload, 1) := by decide +kernel
theorem d2_step_38 : decode cX2_step 38 = .ok (.iconst 1, 1) := by decide +kernel
theorem d2_step_39 : decode cX2_step 39 = .ok (.iadd, 1) := by decide +kernel
theorem d2_step_40 : decode cX2_step 40 = .ok (.iastore, 1) := by decide +kernel
theorem d2_step_41 : decode cX2_step 41 = .ok (.aload_n 0, 1) := by decide +kernel
theorem d2_step_42 : decode cX2_step 42 = .ok (.getfield 24, 3) := by decide +kernel
theorem d2_step_45 : decode cX2_step 45 = .ok (.iload_n 3, 1) := by decide +kernel
theorem d2_step_46 : decode cX2_step 46 = .ok (.lconst 0, 1) := by decide +kernel
theorem d2_step_47 : decode cX2_step 47 = .ok (.lastore, 1) := by decide +kernel
theorem d2_step_48 : decode cX2_step 48 = .ok (.aload_n 0, 1) := by decide +kernel
theorem d2_step_49 : decode cX2_step 49 = .ok (.getfield 18, 3) := by decide +kernel
theorem d2_step_52 : decode cX2_step 52 = .ok (.iload_n 3, 1) := by decide +kernel
theorem d2_step_53 : decode cX2_step 53 = .ok (.iload_n 1, 1) := by decide +kernel
theorem d2_step_54 : decode cX2_step 54 = .ok (.iastore, 1) := by decide +kernel
theorem d2_step_55 : decode cX2_step 55 = .ok (.aload_n 0, 1) := by decide +kernel
theorem d2_step_56 : decode cX2_step 56 = .ok (.getfield 21, 3) := by decide +kernel
theorem d2_step_59 : decode cX2_step 59 = .ok (.iload_n 3, 1) := by decide +kernel
theorem d2_step_60 : decode cX2_step 60 = .ok (.iload_n 2, 1) := by decide +kernel
theorem d2_step_61 : decode cX2_step 61 = .ok (.iastore, 1) := by decide +kernel
theorem d2_step_62 : decode cX2_step 62 = .ok (.aload_n 0, 1) := by decide +kernel
theorem d2_step_63 : decode cX2_step 63 = .ok (.getfield 9, 3) := by decide +kernel
theorem d2_step_66 : decode cX2_step 66 = .ok (.aload_n 0, 1) := by decide +kernel
theorem d2_step_67 : decode cX2_step 67 = .ok (.getfield 39, 3) := by decide +kernel
theorem d2_step_70 : decode cX2_step 70 = .ok (.iload_n 3, 1) := by decide +kernel
theorem d2_step_71 : decode cX2_step 71 = .ok (.iastore, 1) := by decide +kernel
theorem d2_step_72 : decode cX2_step 72 = .ok (.aload_n 0, 1) := by decide +kernel
theorem d2_step_73 : decode cX2_step 73 = .ok (.dup, 1) := by decide +kernel
theorem d2_step_74 : decode cX2_step 74 = .ok (.getfield 39, 3) := by decide +kernel
theorem d2_step_77 : decode cX2_step 77 = .ok (.iconst 1, 1) := by decide +kernel
theorem d2_step_78 : decode cX2_step 78 = .ok (.iadd, 1) := by decide +kernel
theorem d2_step_79 : decode cX2_step 79 = .ok (.putfield 39, 3) := by decide +kernel
theorem d2_step_82 : decode cX2_step 82 = .ok (.aload_n 0, 1) := by decide +kernel
theorem d2_step_83 : decode cX2_step 83 = .ok (.getfield 15, 3) := by decide +kernel
theorem d2_step_86 : decode cX2_step 86 = .ok (.iload_n 3, 1) := by decide +kernel
theorem d2_step_87 : decode cX2_step 87 = .ok (.iaload, 1) := by decide +kernel
theorem d2_step_88 : decode cX2_step 88 = .ok (.aload_n 0, 1) := by decide +kernel
theorem d2_step_89 : decode cX2_step 89 = .ok (.getfield 15, 3) := by decide +kernel
theorem d2_step_92 : decode cX2_step 92 = .ok (.iload_n 1, 1) := by decide +kernel
theorem d2_step_93 : decode cX2_step 93 = .ok (.iaload, 1) := by decide +kernel
theorem d2_step_94 : decode cX2_step 94 = .ok (.iconst 1, 1) := by decide +kernel
theorem d2_step_95 : decode cX2_step 95 = .ok (.iadd, 1) := by decide +kernel
theorem d2_step_96 : decode cX2_step 96 = .ok (.if_icmp .ne 18, 3) := by decide +kernel
theorem d2_step_99 : decode cX2_step 99 = .ok (.aload_n 0, 1) := by decide +kernel
theorem d2_step_100 : decode cX2_step 100 = .ok (.getfield 24, 3) := by decide +kernel
theorem d2_step_103 : decode cX2_step 103 = .ok (.iload_n 3, 1) := by decide +kernel
theorem d2_step_104 : decode cX2_step 104 = .ok (.dup2, 1) := by decide +kernel
theorem d2_step_105 : decode cX2_step 105 = .ok (.laload, 1) := by decide +kernel
theorem d2_step_106 : decode cX2_step 106 = .ok (.aload_n 0, 1) := by decide +kernel
theorem d2_step_107 : decode cX2_step 107 = .ok (.getfield 24, 3) := by decide +kernel
theorem d2_step_110 : decode cX2_step 110 = .ok (.iload_n 1, 1) := by decide +kernel
theorem d2_step_111 : decode cX2_step 111 = .ok (.laload, 1) := by decide +kernel
theorem d2_step_112 : decode cX2_step 112 = .ok (.ladd, 1) := by decide +kernel
theorem d2_step_113 : decode cX2_step 113 = .ok (.lastore, 1) := by decide +kernel
theorem d2_step_114 : decode cX2_step 114 = .ok (.return_, 1) := by decide +kernel
noncomputable def f2_step_J82 {α : Type} (c1 : Int32) (c3 : Int32) (S : MS) (K : MS → Option α) : Option α := ck c3 729 fun k4 => ck c1 729 fun k5 => if (S.1 10 k4) = ((S.1 10 k5) + 1) then (ck c3 729 fun k6 => ck c1 729 fun k7 => ck c3 729 fun k8 => nm (sL S 13 k8 ((S.2 13 k6) + (S.2 13 k7))) fun S9 => K S9) else (K S)
noncomputable def f2_step {α : Type} (p1 : Int32) (p2 : Int32) (S : MS) (K : MS → Option α) : Option α := f5_pumped p1 p2 S fun r2 S1 => ck r2 729 fun k3 => if (S1.1 10 k3) = (-9) then (if 729 ≤ (S1.1 3 8) then (f2_step_J82 p1 r2 S1 K) else (ck p1 729 fun k10 => ck r2 729 fun k11 => nm (sI S1 10 k11 ((S1.1 10 k10) + 1)) fun S12 => ck r2 729 fun k13 => nm (sL S12 13 k13 0) fun S14 => ck r2 729 fun k15 => nm (sI S14 11 k15 p1) fun S16 => ck r2 729 fun k17 => nm (sI S16 12 k17 p2) fun S18 => ck (S18.1 3 8) 729 fun k19 => nm (sI S18 9 k19 r2) fun S20 => nm (sI S20 3 8 ((S20.1 3 8) + 1)) fun S21 => f2_step_J82 p1 r2 S21 K)) else (f2_step_J82 p1 r2 S1 K)
set_option maxHeartbeats 4000000 in
set_option maxRecDepth 100000 in
theorem j2_step_82 {α : Type} {X : GX α} (O : OK 30 X RX2 cX2_step 4 none (rmG 2 44)) {K : MS → Option α} (hQ : RtV 30 eX X K) {c1 : Int32} {c3 : Int32} {S : MS} : GM 30 eX X (f2_step_J82 c1 c3 S K) S 82 [(0, .ref (aX X 3)), (1, .int c1), (3, .int c3)] [] := by
  unfold f2_step_J82
  refine r_aload_n O d2_step_82 0 rfl ?_
  refine g_X2_15 O d2_step_83 ?_
  refine r_iload_n O d2_step_86 2 rfl ?_
  refine r_iald O (j := 10) (by decide) eX_10 d2_step_87 (fun k4 hk4 => ?_)
  refine r_aload_n O d2_step_88 0 rfl ?_
  refine g_X2_15 O d2_step_89 ?_
  refine r_iload_n O d2_step_92 1 rfl ?_
  refine r_iald O (j := 10) (by decide) eX_10 d2_step_93 (fun k5 hk5 => ?_)
  refine r_iconst O d2_step_94 (v := 1) (by decide) ?_
  refine r_iadd O d2_step_95 ?_
  refine r_icmp_ne O 114 d2_step_96 (by decide) ?_ ?_
  · exact r_vret O hQ d2_step_114
  · refine r_aload_n O d2_step_99 0 rfl ?_
    refine g_X2_24 O d2_step_100 ?_
    refine r_iload_n O d2_step_103 2 rfl ?_
    refine r_dup2 O d2_step_104 rfl rfl ?_
    refine r_lald O (j := 13) (by decide) eX_13 d2_step_105 (fun k6 hk6 => ?_)
    refine r_aload_n O d2_step_106 0 rfl ?_
    refine g_X2_24 O d2_step_107 ?_
    refine r_iload_n O d2_step_110 1 rfl ?_
    refine r_lald O (j := 13) (by decide) eX_13 d2_step_111 (fun k7 hk7 => ?_)
    refine r_ladd O d2_step_112 ?_
    refine r_last O (j := 13) (by decide) (fun _ => eX_13) d2_step_113 (fun S9 => ?_)
    exact r_vret O hQ d2_step_114
set_option maxHeartbeats 4000000 in
set_option maxRecDepth 100000 in
theorem c2_step (l : Launch) (p1 : Int32) (p2 : Int32) (S : MS) {α : Type} : CtV 30 eX l yX2_step cX2_step 4 none (rmG 2 44) S (fun ad => [.ref (ad 3), .int p1, .int p2]) (α := α) (f2_step p1 p2 S) := by
  refine CtV.of (by decide) (fun _ => Nat.le_of_ble_eq_true rfl) (fun X K _ O hQ => ?_)
  have O : OK 30 X RX2 cX2_step 4 none (rmG 2 44) := O
  show GM 30 eX X (f2_step p1 p2 S K) S 0 [(0, .ref (aX X 3)), (1, .int p1), (2, .int p2)] []
  unfold f2_step
  refine r_iload_n O d2_step_0 1 rfl ?_
  refine r_iload_n O d2_step_1 2 rfl ?_
  refine r_callSNi O (rest := []) (c5_pumped (lX X) p1 p2 S) w_435 w_408 w_45 w_409 hy_X5_pumped ⟨rfl, rfl, Nat.le_of_ble_eq_true rfl, Nat.le_of_ble_eq_true rfl⟩ rfl rfl (Nat.le_of_ble_eq_true rfl) d2_step_2 (fun r2 S1 => ?_)
  refine r_istore_n O d2_step_5 [(3, .int r2), (0, .ref (aX X 3)), (1, .int p1), (2, .int p2)] (by decide) rfl ?_
  refine r_aload_n O d2_step_6 1 rfl ?_
  refine g_X2_15 O d2_step_7 ?_
  refine r_iload_n O d2_step_10 0 rfl ?_
  refine r_iald O (j := 10) (by decide) eX_10 d2_step_11 (fun k3 hk3 => ?_)
  refine r_bipush O d2_step_12 (v := (-9)) (by decide) ?_
  refine r_icmp_ne O 82 d2_step_14 (by decide) ?_ ?_
  · refine r_sub [1, 2, 0] rfl ?_
    exact j2_step_82 O hQ
  · refine r_aload_n O d2_step_17 1 rfl ?_
    refine g_X2_39 O d2_step_18 ?_
    refine r_sipush O d2_step_21 (v := 729) (by decide) ?_
    refine r_icmp_ge O 82 d2_step_24 (by decide) ?_ ?_
    · refine r_sub [1, 2, 0] rfl ?_
      exact j2_step_82 O hQ
    · refine r_aload_n O d2_step_27 1 rfl ?_
      refine g_X2_15 O d2_step_28 ?_
      refine r_iload_n O d2_step_31 0 rfl ?_
      refine r_aload_n O d2_step_32 1 rfl ?_
      refine g_X2_15 O d2_step_33 ?_
      refine r_iload_n O d2_step_36 2 rfl ?_
      refine r_iald O (j := 10) (by decide) eX_10 d2_step_37 (fun k10 hk10 => ?_)
      refine r_iconst O d2_step_38 (v := 1) (by decide) ?_
      refine r_iadd O d2_step_39 ?_
      refine r_iast O (j := 10) (by decide) (fun _ => eX_10) d2_step_40 (fun S12 => ?_)
      refine r_aload_n O d2_step_41 1 rfl ?_
      refine g_X2_24 O d2_step_42 ?_
      refine r_iload_n O d2_step_45 0 rfl ?_
      refine r_lconst O d2_step_46 (v := 0) (by decide) ?_
      refine r_last O (j := 13) (by decide) (fun _ => eX_13) d2_step_47 (fun S14 => ?_)
      refine r_aload_n O d2_step_48 1 rfl ?_
      refine g_X2_18 O d2_step_49 ?_
      refine r_iload_n O d2_step_52 0 rfl ?_
      refine r_iload_n O d2_step_53 2 rfl ?_
      refine r_iast O (j := 11) (by decide) (fun _ => eX_11) d2_step_54 (fun S16 => ?_)
      refine r_aload_n O d2_step_55 1 rfl ?_
      refine g_X2_21 O d2_step_56 ?_
      refine r_iload_n O d2_step_59 0 rfl ?_
      refine r_iload_n O d2_step_60 3 rfl ?_
      refine r_iast O (j := 12) (by decide) (fun _ => eX_12) d2_step_61 (fun S18 => ?_)
      refine r_aload_n O d2_step_62 1 rfl ?_
      refine g_X2_9 O d2_step_63 ?_
      refine r_aload_n O d2_step_66 1 rfl ?_
      refine g_X2_39 O d2_step_67 ?_
      refine r_iload_n O d2_step_70 0 rfl ?_
      refine r_iast O (j := 9) (by decide) (fun _ => eX_9) d2_step_71 (fun S20 => ?_)
      refine r_aload_n O d2_step_72 1 rfl ?_
      refine r_dup O d2_step_73 rfl ?_
      refine g_X2_39 O d2_step_74 ?_
      refine r_iconst O d2_step_77 (v := 1) (by decide) ?_
      refine r_iadd O d2_step_78 ?_
      refine p_X2_39 O d2_step_79 (fun S21 => ?_)
      refine r_sub [1, 2, 0] rfl ?_
      exact j2_step_82 O hQ
-- X2.explore
theorem d2_explore_0 : decode cX2_explore 0 = .ok (.aload_n 0, 1) := by decide +kernel
theorem d2_explore_1 : decode cX2_explore 1 = .ok (.getfield 15, 3) := by decide +kernel
theorem d2_explore_4 : decode cX2_explore 4 = .ok (.bipush (-9), 2) := by decide +kernel
theorem d2_explore_6 : decode cX2_explore 6 = .ok (.invokestatic 76, 3) := by decide +kernel
theorem d2_explore_9 : decode cX2_explore 9 = .ok (.aload_n 0, 1) := by decide +kernel
theorem d2_explore_10 : decode cX2_explore 10 = .ok (.getfield 9, 3) := by decide +kernel
theorem d2_explore_13 : decode cX2_explore 13 = .ok (.iconst 0, 1) := by decide +kernel
theorem d2_explore_14 : decode cX2_explore 14 = .ok (.aload_n 1, 1) := by decide +kernel
theorem d2_explore_15 : decode cX2_explore 15 = .ok (.getfield 82, 3) := by decide +kernel
theorem d2_explore_18 : decode cX2_explore 18 = .ok (.iastore, 1) := by decide +kernel
theorem d2_explore_19 : decode cX2_explore 19 = .ok (.aload_n 0, 1) := by decide +kernel
theorem d2_explore_20 : decode cX2_explore 20 = .ok (.getfield 15, 3) := by decide +kernel
theorem d2_explore_23 : decode cX2_explore 23 = .ok (.aload_n 1, 1) := by decide +kernel
theorem d2_explore_24 : decode cX2_explore 24 = .ok (.getfield 82, 3) := by decide +kernel
theorem d2_explore_27 : decode cX2_explore 27 = .ok (.iconst 0, 1) := by decide +kernel
theorem d2_explore_28 : decode cX2_explore 28 = .ok (.iastore, 1) := by decide +kernel
theorem d2_explore_29 : decode cX2_explore 29 = .ok (.aload_n 0, 1) := by decide +kernel
theorem d2_explore_30 : decode cX2_explore 30 = .ok (.getfield 24, 3) := by decide +kernel
theorem d2_explore_33 : decode cX2_explore 33 = .ok (.aload_n 1, 1) := by decide +kernel
theorem d2_explore_34 : decode cX2_explore 34 = .ok (.getfield 82, 3) := by decide +kernel
theorem d2_explore_37 : decode cX2_explore 37 = .ok (.lconst 1, 1) := by decide +kernel
theorem d2_explore_38 : decode cX2_explore 38 = .ok (.lastore, 1) := by decide +kernel
theorem d2_explore_39 : decode cX2_explore 39 = .ok (.aload_n 0, 1) := by decide +kernel
theorem d2_explore_40 : decode cX2_explore 40 = .ok (.iconst 1, 1) := by decide +kernel
theorem d2_explore_41 : decode cX2_explore 41 = .ok (.putfield 39, 3) := by decide +kernel
theorem d2_explore_44 : decode cX2_explore 44 = .ok (.iconst 0, 1) := by decide +kernel
theorem d2_explore_45 : decode cX2_explore 45 = .ok (.istore_n 2, 1) := by decide +kernel
theorem d2_explore_46 : decode cX2_explore 46 = .ok (.iload_n 2, 1) := by decide +kernel
theorem d2_explore_47 : decode cX2_explore 47 = .ok (.aload_n 0, 1) := by decide +kernel
theorem d2_explore_48 : decode cX2_explore 48 = .ok (.getfield 39, 3) := by decide +kernel
theorem d2_explore_51 : decode cX2_explore 51 = .ok (.if_icmp .ge 70, 3) := by decide +kernel
theorem d2_explore_54 : decode cX2_explore 54 = .ok (.iload_n 2, 1) := by decide +kernel
theorem d2_explore_55 : decode cX2_explore 55 = .ok (.sipush 729, 3) := by decide +kernel
theorem d2_explore_58 : decode cX2_explore 58 = .ok (.if_icmp .ge 63, 3) := by decide +kernel
theorem d2_explore_61 : decode cX2_explore 61 = .ok (.aload_n 0, 1) := by decide +kernel
theorem d2_explore_62 : decode cX2_explore 62 = .ok (.getfield 9, 3) := by decide +kernel
theorem d2_explore_65 : decode cX2_explore 65 = .ok (.iload_n 2, 1) := by decide +kernel
theorem d2_explore_66 : decode cX2_explore 66 = .ok (.iaload, 1) := by decide +kernel
theorem d2_explore_67 : decode cX2_explore 67 = .ok (.istore_n 3, 1) := by decide +kernel
theorem d2_explore_68 : decode cX2_explore 68 = .ok (.aload_n 0, 1) := by decide +kernel
theorem d2_explore_69 : decode cX2_explore 69 = .ok (.getfield 32, 3) := by decide +kernel
theorem d2_explore_72 : decode cX2_explore 72 = .ok (.aload_n 1, 1) := by decide +kernel
theorem d2_explore_73 : decode cX2_explore 73 = .ok (.iload_n 3, 1) := by decide +kernel
theorem d2_explore_74 : decode cX2_explore 74 = .ok (.invokevirtual 85, 3) := by decide +kernel
theorem d2_explore_77 : decode cX2_explore 77 = .ok (.iaload, 1) := by decide +kernel
theorem d2_explore_78 : decode cX2_explore 78 = .ok (.istore 4, 2) := by decide +kernel
theorem d2_explore_80 : decode cX2_explore 80 = .ok (.iconst 0, 1) := by decide +kernel
theorem d2_explore_81 : decode cX2_explore 81 = .ok (.istore 5, 2) := by decide +kernel
theorem d2_explore_83 : decode cX2_explore 83 = .ok (.iload 5, 2) := by decide +kernel
theorem d2_explore_85 : decode cX2_explore 85 = .ok (.aload_n 1, 1) := by decide +kernel
theorem d2_explore_86 : decode cX2_explore 86 = .ok (.getfield 57, 3) := by decide +kernel
theorem d2_explore_89 : decode cX2_explore 89 = .ok (.if_icmp .ge 26, 3) := by decide +kernel
theorem d2_explore_92 : decode cX2_explore 92 = .ok (.iload 4, 2) := by decide +kernel
theorem d2_explore_94 : decode cX2_explore 94 = .ok (.iload 5, 2) := by decide +kernel
theorem d2_explore_96 : decode cX2_explore 96 = .ok (.invokestatic 69, 3) := by decide +kernel
theorem d2_explore_99 : decode cX2_explore 99 = .ok (.ifCond .eq 10, 3) := by decide +kernel
theorem d2_explore_102 : decode cX2_explore 102 = .ok (.aload_n 0, 1) := by decide +kernel
theorem d2_explore_103 : decode cX2_explore 103 = .ok (.iload_n 3, 1) := by decide +kernel
theorem d2_explore_104 : decode cX2_explore 104 = .ok (.iload 5, 2) := by decide +kernel
theorem d2_explore_106 : decode cX2_explore 106 = .ok (.invokevirtual 89, 3) := by decide +kernel
theorem d2_explore_109 : decode cX2_explore 109 = .ok (.iinc 5 1, 3) := by decide +kernel
theorem d2_explore_112 : decode cX2_explore 112 = .ok (.goto (-29), 3) := by decide +kernel
theorem d2_explore_115 : decode cX2_explore 115 = .ok (.iinc 2 1, 3) := by decide +kernel
theorem d2_explore_118 : decode cX2_explore 118 = .ok (.goto (-72), 3) := by decide +kernel
theorem d2_explore_121 : decode cX2_explore 121 = .ok (.return_, 1) := by decide +kernel
noncomputable def f2_explore_L83 {α : Type} (c2 : Int32) (c3 : Int32) (c4 : Int32) (KX : Int32 → MS → Option α) : Nat → Int32 → MS → Option α
  | 0, _, _ => none
  | n + 1, v5, S => if (S.1 2 3) ≤ v5 then (KX v5 S) else (f5_holds c4 v5 S fun r17 S16 => if r17 = 0 then (nm (v5 + 1) fun x5_18 => f2_explore_L83 c2 c3 c4 KX n x5_18 S16) else (f2_step c3 v5 S16 fun S19 => nm (v5 + 1) fun x5_21 => f2_explore_L83 c2 c3 c4 KX n x5_21 S19))
noncomputable def f2_explore_L46 {α : Type} (KX : Int32 → MS → Option α) : Nat → Int32 → MS → Option α
  | 0, _, _ => none
  | n + 1, v2, S => if (S.1 3 8) ≤ v2 then (KX v2 S) else (if 729 ≤ v2 then (KX v2 S) else (ck v2 729 fun k10 => nm (S.1 9 k10) fun x3_11 => f3_fullSet x3_11 S fun r13 S12 => ck r13 64 fun k14 => nm (S12.1 15 k14) fun x4_15 => f2_explore_L83 v2 x3_11 x4_15 (fun v5_23 S22 => nm (v2 + 1) fun x2_24 => f2_explore_L46 KX n x2_24 S22) FU 0 S12))
noncomputable def f2_explore {α : Type} (S : MS) (K : MS → Option α) : Option α := fJ7_fill 10 729 (-9) S fun S1 => ck 0 729 fun k3 => nm (sI S1 9 k3 (S1.1 2 4)) fun S4 => ck (S4.1 2 4) 729 fun k5 => nm (sI S4 10 k5 0) fun S6 => ck (S6.1 2 4) 729 fun k7 => nm (sL S6 13 k7 1) fun S8 => nm (sI S8 3 8 1) fun S9 => f2_explore_L46 (fun v2_26 S25 => K S25) FU 0 S9
set_option maxHeartbeats 4000000 in
set_option maxRecDepth 100000 in
theorem l2_explore_83 {α : Type} {X : GX α} (O : OK 30 X RX2 cX2_explore 6 none (rmG 3 67)) {c2 : Int32} {c3 : Int32} {c4 : Int32} {KX : Int32 → MS → Option α} (hX : ∀ v5 S, GM 30 eX X (KX v5 S) S 115 [(0, .ref (aX X 3)), (1, .ref (aX X 2)), (2, .int c2), (3, .int c3), (4, .int c4), (5, .int v5)] []) : ∀ n v5 S, GM 30 eX X (f2_explore_L83 c2 c3 c4 KX n v5 S) S 83 [(0, .ref (aX X 3)), (1, .ref (aX X 2)), (2, .int c2), (3, .int c3), (4, .int c4), (5, .int v5)] [] := by
  intro n
  induction n with
  | zero => intro v5 S; exact r_none
  | succ n ih =>
    intro v5 S
    rw [f2_explore_L83]
    refine r_iload O d2_explore_83 5 rfl ?_
    refine r_aload_n O d2_explore_85 1 rfl ?_
    refine g_X2_57 O d2_explore_86 ?_
    refine r_icmp_ge O 115 d2_explore_89 (by decide) ?_ ?_
    · refine r_sub [0, 1, 2, 3, 4, 5] rfl ?_
      exact hX _ _
    · refine r_iload O d2_explore_92 4 rfl ?_
      refine r_iload O d2_explore_94 5 rfl ?_
      refine r_callSNi O (rest := []) (c5_holds (lX X) c4 v5 S) w_423 w_317 w_45 w_318 hy_X5_holds ⟨rfl, rfl, Nat.le_of_ble_eq_true rfl, Nat.le_of_ble_eq_true rfl⟩ rfl rfl (Nat.le_of_ble_eq_true rfl) d2_explore_96 (fun r17 S16 => ?_)
      refine r_if_eq O 109 d2_explore_99 (by decide) ?_ ?_
      · refine r_iinc O d2_explore_109 5 (c0 := 1) rfl (by decide) (fun x5_18 => [(5, .int x5_18), (0, .ref (aX X 3)), (1, .ref (aX X 2)), (2, .int c2), (3, .int c3), (4, .int c4)]) (by decide) (fun _ => rfl) (fun x5_18 => ?_)
        refine r_goto O 83 d2_explore_112 (by decide) ?_
        refine r_sub [1, 2, 3, 4, 5, 0] rfl ?_
        exact ih _ _
      · refine r_aload_n O d2_explore_102 0 rfl ?_
        refine r_iload_n O d2_explore_103 3 rfl ?_
        refine r_iload O d2_explore_104 5 rfl ?_
        refine r_callVv O (b := 3) (bv := fun ad => [.int c3, .int v5]) (rest := []) (c2_step (lX X) c3 v5 S16) (fun _ => rfl) (by decide) eX_3 rfl rfl w_431 w_433 w_5 w_49 w_434 hy_X2_step ⟨rfl, rfl, Nat.le_of_ble_eq_true rfl, Nat.le_of_ble_eq_true rfl⟩ rfl rfl (Nat.le_of_ble_eq_true rfl) d2_explore_106 (fun S19 => ?_)
        refine r_iinc O d2_explore_109 5 (c0 := 1) rfl (by decide) (fun x5_21 => [(5, .int x5_21), (0, .ref (aX X 3)), (1, .ref (aX X 2)), (2, .int c2), (3, .int c3), (4, .int c4)]) (by decide) (fun _ => rfl) (fun x5_21 => ?_)
        refine r_goto O 83 d2_explore_112 (by decide) ?_
        refine r_sub [1, 2, 3, 4, 5, 0] rfl ?_
        exact ih _ _
set_option maxHeartbeats 4000000 in
set_option maxRecDepth 100000 in
theorem l2_explore_46 {α : Type} {X : GX α} (O : OK 30 X RX2 cX2_explore 6 none (rmG 3 67)) {KX : Int32 → MS → Option α} (hX : ∀ v2 S, GM 30 eX X (KX v2 S) S 121 [(0, .ref (aX X 3)), (1, .ref (aX X 2)), (2, .int v2)] []) : ∀ n v2 S, GM 30 eX X (f2_explore_L46 KX n v2 S) S 46 [(0, .ref (aX X 3)), (1, .ref (aX X 2)), (2, .int v2)] [] := by
  intro n
  induction n with
  | zero => intro v2 S; exact r_none
  | succ n ih =>
    intro v2 S
    rw [f2_explore_L46]
    refine r_iload_n O d2_explore_46 2 rfl ?_
    refine r_aload_n O d2_explore_47 0 rfl ?_
    refine g_X2_39 O d2_explore_48 ?_
    refine r_icmp_ge O 121 d2_explore_51 (by decide) ?_ ?_
    · refine r_sub [0, 1, 2] rfl ?_
      exact hX _ _
    · refine r_iload_n O d2_explore_54 2 rfl ?_
      refine r_sipush O d2_explore_55 (v := 729) (by decide) ?_
      refine r_icmp_ge O 121 d2_explore_58 (by decide) ?_ ?_
      · refine r_sub [0, 1, 2] rfl ?_
        exact hX _ _
      · refine r_aload_n O d2_explore_61 0 rfl ?_
        refine g_X2_9 O d2_explore_62 ?_
        refine r_iload_n O d2_explore_65 2 rfl ?_
        refine r_iald O (j := 9) (by decide) eX_9 d2_explore_66 (fun k10 hk10 => ?_)
        refine r_istore_n_nm O d2_explore_67 (fun x3_11 => [(3, .int x3_11), (0, .ref (aX X 3)), (1, .ref (aX X 2)), (2, .int v2)]) (by decide) (fun _ => rfl) (fun x3_11 => ?_)
        refine r_aload_n O d2_explore_68 1 rfl ?_
        refine g_X2_32 O d2_explore_69 ?_
        refine r_aload_n O d2_explore_72 2 rfl ?_
        refine r_iload_n O d2_explore_73 0 rfl ?_
        refine r_callVi O (b := 2) (bv := fun ad => [.int x3_11]) (rest := [.ref (aX X 15)]) (c3_fullSet (lX X) x3_11 S) (fun _ => rfl) (by decide) eX_2 rfl rfl w_430 w_286 w_287 w_46 w_288 hy_X3_fullSet ⟨rfl, rfl, Nat.le_of_ble_eq_true rfl, Nat.le_of_ble_eq_true rfl⟩ rfl rfl (Nat.le_of_ble_eq_true rfl) d2_explore_74 (fun r13 S12 => ?_)
        refine r_iald O (j := 15) (by decide) eX_15 d2_explore_77 (fun k14 hk14 => ?_)
        refine r_istore_nm O d2_explore_78 (fun x4_15 => [(4, .int x4_15), (3, .int x3_11), (0, .ref (aX X 3)), (1, .ref (aX X 2)), (2, .int v2)]) (by decide) (fun _ => rfl) (fun x4_15 => ?_)
        refine r_iconst O d2_explore_80 (v := 0) (by decide) ?_
        refine r_istore O d2_explore_81 [(5, .int 0), (4, .int x4_15), (3, .int x3_11), (0, .ref (aX X 3)), (1, .ref (aX X 2)), (2, .int v2)] (by decide) rfl ?_
        refine r_sub [3, 4, 5, 2, 1, 0] rfl ?_
        refine l2_explore_83 O (fun v5_23 S22 => ?_) _ _ _
        refine r_iinc O d2_explore_115 2 (c0 := 1) rfl (by decide) (fun x2_24 => [(2, .int x2_24), (0, .ref (aX X 3)), (1, .ref (aX X 2)), (3, .int x3_11), (4, .int x4_15), (5, .int v5_23)]) (by decide) (fun _ => rfl) (fun x2_24 => ?_)
        refine r_goto O 46 d2_explore_118 (by decide) ?_
        refine r_sub [1, 2, 0] rfl ?_
        exact ih _ _
set_option maxHeartbeats 4000000 in
set_option maxRecDepth 100000 in
theorem c2_explore (l : Launch) (S : MS) {α : Type} : CtV 30 eX l yX2_explore cX2_explore 6 none (rmG 3 67) S (fun ad => [.ref (ad 3), .ref (ad 2)]) (α := α) (f2_explore S) := by
  refine CtV.of (by decide) (fun _ => Nat.le_of_ble_eq_true rfl) (fun X K _ O hQ => ?_)
  have O : OK 30 X RX2 cX2_explore 6 none (rmG 3 67) := O
  show GM 30 eX X (f2_explore S K) S 0 [(0, .ref (aX X 3)), (1, .ref (aX X 2))] []
  unfold f2_explore
  refine r_aload_n O d2_explore_0 0 rfl ?_
  refine g_X2_15 O d2_explore_1 ?_
  refine r_bipush O d2_explore_4 (v := (-9)) (by decide) ?_
  refine r_callSv O (rest := []) (cJ7_fill (lX X) 10 729 (-9) S (by decide) (fun _ _ _ _ => eX_10) (Nat.le_of_ble_eq_true rfl)) w_429 w_294 w_53 w_295 hy_J7_fill_53178 ⟨rfl, rfl, Nat.le_of_ble_eq_true rfl, Nat.le_of_ble_eq_true rfl⟩ rfl rfl (Nat.le_of_ble_eq_true rfl) d2_explore_6 (fun S1 => ?_)
  refine r_aload_n O d2_explore_9 0 rfl ?_
  refine g_X2_9 O d2_explore_10 ?_
  refine r_iconst O d2_explore_13 (v := 0) (by decide) ?_
  refine r_aload_n O d2_explore_14 1 rfl ?_
  refine g_X2_82 O d2_explore_15 ?_
  refine r_iast O (j := 9) (by decide) (fun _ => eX_9) d2_explore_18 (fun S4 => ?_)
  refine r_aload_n O d2_explore_19 0 rfl ?_
  refine g_X2_15 O d2_explore_20 ?_
  refine r_aload_n O d2_explore_23 1 rfl ?_
  refine g_X2_82 O d2_explore_24 ?_
  refine r_iconst O d2_explore_27 (v := 0) (by decide) ?_
  refine r_iast O (j := 10) (by decide) (fun _ => eX_10) d2_explore_28 (fun S6 => ?_)
  refine r_aload_n O d2_explore_29 0 rfl ?_
  refine g_X2_24 O d2_explore_30 ?_
  refine r_aload_n O d2_explore_33 1 rfl ?_
  refine g_X2_82 O d2_explore_34 ?_
  refine r_lconst O d2_explore_37 (v := 1) (by decide) ?_
  refine r_last O (j := 13) (by decide) (fun _ => eX_13) d2_explore_38 (fun S8 => ?_)
  refine r_aload_n O d2_explore_39 0 rfl ?_
  refine r_iconst O d2_explore_40 (v := 1) (by decide) ?_
  refine p_X2_39 O d2_explore_41 (fun S9 => ?_)
  refine r_iconst O d2_explore_44 (v := 0) (by decide) ?_
  refine r_istore_n O d2_explore_45 [(2, .int 0), (0, .ref (aX X 3)), (1, .ref (aX X 2))] (by decide) rfl ?_
  refine r_sub [1, 2, 0] rfl ?_
  refine l2_explore_46 O (fun v2_26 S25 => ?_) _ _ _
  exact r_vret O hQ d2_explore_121
-- X3.isChanged
theorem d3_isChanged_0 : decode cX3_isChanged 0 = .ok (.iconst 0, 1) := by decide +kernel
theorem d3_isChanged_1 : decode cX3_isChanged 1 = .ok (.istore_n 2, 1) := by decide +kernel
theorem d3_isChanged_2 : decode cX3_isChanged 2 = .ok (.iload_n 2, 1) := by decide +kernel
theorem d3_isChanged_3 : decode cX3_isChanged 3 = .ok (.aload_n 0, 1) := by decide +kernel
theorem d3_isChanged_4 : decode cX3_isChanged 4 = .ok (.getfield 28, 3) := by decide +kernel
theorem d3_isChanged_7 : decode cX3_isChanged 7 = .ok (.if_icmp .ge 72, 3) := by decide +kernel
theorem d3_isChanged_10 : decode cX3_isChanged 10 = .ok (.aload_n 0, 1) := by decide +kernel
theorem d3_isChanged_11 : decode cX3_isChanged 11 = .ok (.getfield 32, 3) := by decide +kernel
theorem d3_isChanged_14 : decode cX3_isChanged 14 = .ok (.iload_n 2, 1) := by decide +kernel
theorem d3_isChanged_15 : decode cX3_isChanged 15 = .ok (.invokestatic 84, 3) := by decide +kernel
theorem d3_isChanged_18 : decode cX3_isChanged 18 = .ok (.ifCond .eq 7, 3) := by decide +kernel
theorem d3_isChanged_21 : decode cX3_isChanged 21 = .ok (.iconst 1, 1) := by decide +kernel
theorem d3_isChanged_22 : decode cX3_isChanged 22 = .ok (.goto 4, 3) := by decide +kernel
theorem d3_isChanged_25 : decode cX3_isChanged 25 = .ok (.iconst 0, 1) := by decide +kernel
theorem d3_isChanged_26 : decode cX3_isChanged 26 = .ok (.istore_n 3, 1) := by decide +kernel
theorem d3_isChanged_27 : decode cX3_isChanged 27 = .ok (.iload_n 1, 1) := by decide +kernel
theorem d3_isChanged_28 : decode cX3_isChanged 28 = .ok (.iload_n 2, 1) := by decide +kernel
theorem d3_isChanged_29 : decode cX3_isChanged 29 = .ok (.invokestatic 84, 3) := by decide +kernel
theorem d3_isChanged_32 : decode cX3_isChanged 32 = .ok (.ifCond .eq 7, 3) := by decide +kernel
theorem d3_isChanged_35 : decode cX3_isChanged 35 = .ok (.iconst 1, 1) := by decide +kernel
theorem d3_isChanged_36 : decode cX3_isChanged 36 = .ok (.goto 4, 3) := by decide +kernel
theorem d3_isChanged_39 : decode cX3_isChanged 39 = .ok (.iconst 0, 1) := by decide +kernel
theorem d3_isChanged_40 : decode cX3_isChanged 40 = .ok (.istore 4, 2) := by decide +kernel
theorem d3_isChanged_42 : decode cX3_isChanged 42 = .ok (.aload_n 0, 1) := by decide +kernel
theorem d3_isChanged_43 : decode cX3_isChanged 43 = .ok (.getfield 38, 3) := by decide +kernel
theorem d3_isChanged_46 : decode cX3_isChanged 46 = .ok (.iload_n 2, 1) := by decide +kernel
theorem d3_isChanged_47 : decode cX3_isChanged 47 = .ok (.invokestatic 90, 3) := by decide +kernel
theorem d3_isChanged_50 : decode cX3_isChanged 50 = .ok (.ifCond .eq 15, 3) := by decide +kernel
theorem d3_isChanged_53 : decode cX3_isChanged 53 = .ok (.iload_n 1, 1) := by decide +kernel
theorem d3_isChanged_54 : decode cX3_isChanged 54 = .ok (.iload_n 2, 1) := by decide +kernel
theorem d3_isChanged_55 : decode cX3_isChanged 55 = .ok (.invokestatic 84, 3) := by decide +kernel
theorem d3_isChanged_58 : decode cX3_isChanged 58 = .ok (.iconst 2, 1) := by decide +kernel
theorem d3_isChanged_59 : decode cX3_isChanged 59 = .ok (.if_icmp .eq 14, 3) := by decide +kernel
theorem d3_isChanged_62 : decode cX3_isChanged 62 = .ok (.goto 9, 3) := by decide +kernel
theorem d3_isChanged_65 : decode cX3_isChanged 65 = .ok (.iload 4, 2) := by decide +kernel
theorem d3_isChanged_67 : decode cX3_isChanged 67 = .ok (.iload_n 3, 1) := by decide +kernel
theorem d3_isChanged_68 : decode cX3_isChanged 68 = .ok (.if_icmp .eq 5, 3) := by decide +kernel
theorem d3_isChanged_71 : decode cX3_isChanged 71 = .ok (.iconst 0, 1) := by decide +kernel
theorem d3_isChanged_72 : decode cX3_isChanged 72 = .ok (.ireturn, 1) := by decide +kernel
theorem d3_isChanged_73 : decode cX3_isChanged 73 = .ok (.iinc 2 1, 3) := by decide +kernel
theorem d3_isChanged_76 : decode cX3_isChanged 76 = .ok (.goto (-74), 3) := by decide +kernel
theorem d3_isChanged_79 : decode cX3_isChanged 79 = .ok (.iconst 1, 1) := by decide +kernel
theorem d3_isChanged_80 : decode cX3_isChanged 80 = .ok (.ireturn, 1) := by decide +kernel
noncomputable def f3_isChanged_J40 {α : Type} (c1 : Int32) (c2 : Int32) (c3 : Int32) (s0 : Int32) (S : MS) (K : Int32 → MS → Option α) (KB : Int32 → MS → Option α) (KX : Int32 → MS → Option α) : Option α := f5_holds (S.1 2 6) c2 S fun r6 S5 => if r6 = 0 then (if s0 = c3 then (nm (c2 + 1) fun x2_7 => KB x2_7 S5) else (K 0 S5)) else (f5_waterIn c1 c2 S5 fun r9 S8 => if r9 = 2 then (nm (c2 + 1) fun x2_10 => KB x2_10 S8) else (K 0 S8))
noncomputable def f3_isChanged_J26 {α : Type} (c1 : Int32) (c2 : Int32) (s0 : Int32) (S : MS) (K : Int32 → MS → Option α) (KB : Int32 → MS → Option α) (KX : Int32 → MS → Option α) : Option α := f5_waterIn c1 c2 S fun r4 S3 => if r4 = 0 then (f3_isChanged_J40 c1 c2 s0 0 S3 K KB KX) else (f3_isChanged_J40 c1 c2 s0 1 S3 K KB KX)
noncomputable def f3_isChanged_L2 {α : Type} (c1 : Int32) (K : Int32 → MS → Option α) (KX : Int32 → MS → Option α) : Nat → Int32 → MS → Option α
  | 0, _, _ => none
  | n + 1, v2, S => if (S.1 2 3) ≤ v2 then (KX v2 S) else (f5_waterIn (S.1 2 4) v2 S fun r2 S1 => if r2 = 0 then (f3_isChanged_J26 c1 v2 0 S1 K (f3_isChanged_L2 c1 K KX n) KX) else (f3_isChanged_J26 c1 v2 1 S1 K (f3_isChanged_L2 c1 K KX n) KX))
noncomputable def f3_isChanged {α : Type} (p1 : Int32) (S : MS) (K : Int32 → MS → Option α) : Option α := f3_isChanged_L2 p1 K (fun v2_12 S11 => K 1 S11) FU 0 S
set_option maxHeartbeats 4000000 in
set_option maxRecDepth 100000 in
theorem j3_isChanged_40 {α : Type} {X : GX α} (O : OK 30 X RX3 cX3_isChanged 5 (some .boolean) (rmG 1 21)) {K : Int32 → MS → Option α} (hQ : RtI 30 eX X K) {c1 : Int32} {c2 : Int32} {c3 : Int32} {s0 : Int32} {S : MS} {KB : Int32 → MS → Option α} {KX : Int32 → MS → Option α} (hB : ∀ v2q S, GM 30 eX X (KB v2q S) S 2 [(0, .ref (aX X 2)), (1, .int c1), (2, .int v2q)] []) (hX : ∀ v2q S, GM 30 eX X (KX v2q S) S 79 [(0, .ref (aX X 2)), (1, .int c1), (2, .int v2q)] []) : GM 30 eX X (f3_isChanged_J40 c1 c2 c3 s0 S K KB KX) S 40 [(0, .ref (aX X 2)), (1, .int c1), (2, .int c2), (3, .int c3)] [.int s0] := by
  unfold f3_isChanged_J40
  refine r_istore O d3_isChanged_40 [(4, .int s0), (0, .ref (aX X 2)), (1, .int c1), (2, .int c2), (3, .int c3)] (by decide) rfl ?_
  refine r_aload_n O d3_isChanged_42 1 rfl ?_
  refine g_X3_38 O d3_isChanged_43 ?_
  refine r_iload_n O d3_isChanged_46 3 rfl ?_
  refine r_callSNi O (rest := []) (c5_holds (lX X) (S.1 2 6) c2 S) w_326 w_317 w_45 w_318 hy_X5_holds ⟨rfl, rfl, Nat.le_of_ble_eq_true rfl, Nat.le_of_ble_eq_true rfl⟩ rfl rfl (Nat.le_of_ble_eq_true rfl) d3_isChanged_47 (fun r6 S5 => ?_)
  refine r_if_eq O 65 d3_isChanged_50 (by decide) ?_ ?_
  · refine r_iload O d3_isChanged_65 0 rfl ?_
    refine r_iload_n O d3_isChanged_67 4 rfl ?_
    refine r_icmp_eq O 73 d3_isChanged_68 (by decide) ?_ ?_
    · refine r_iinc O d3_isChanged_73 3 (c0 := 1) rfl (by decide) (fun x2_7 => [(2, .int x2_7), (4, .int s0), (0, .ref (aX X 2)), (1, .int c1), (3, .int c3)]) (by decide) (fun _ => rfl) (fun x2_7 => ?_)
      refine r_goto O 2 d3_isChanged_76 (by decide) ?_
      refine r_sub [2, 3, 0] rfl ?_
      exact hB _ _
    · refine r_iconst O d3_isChanged_71 (v := 0) (by decide) ?_
      exact r_zret O hQ (by decide) d3_isChanged_72
  · refine r_iload_n O d3_isChanged_53 2 rfl ?_
    refine r_iload_n O d3_isChanged_54 3 rfl ?_
    refine r_callSNi O (rest := []) (c5_waterIn (lX X) c1 c2 S5) w_289 w_290 w_45 w_291 hy_X5_waterIn ⟨rfl, rfl, Nat.le_of_ble_eq_true rfl, Nat.le_of_ble_eq_true rfl⟩ rfl rfl (Nat.le_of_ble_eq_true rfl) d3_isChanged_55 (fun r9 S8 => ?_)
    refine r_iconst O d3_isChanged_58 (v := 2) (by decide) ?_
    refine r_icmp_eq O 73 d3_isChanged_59 (by decide) ?_ ?_
    · refine r_iinc O d3_isChanged_73 3 (c0 := 1) rfl (by decide) (fun x2_10 => [(2, .int x2_10), (4, .int s0), (0, .ref (aX X 2)), (1, .int c1), (3, .int c3)]) (by decide) (fun _ => rfl) (fun x2_10 => ?_)
      refine r_goto O 2 d3_isChanged_76 (by decide) ?_
      refine r_sub [2, 3, 0] rfl ?_
      exact hB _ _
    · refine r_goto O 71 d3_isChanged_62 (by decide) ?_
      refine r_iconst O d3_isChanged_71 (v := 0) (by decide) ?_
      exact r_zret O hQ (by decide) d3_isChanged_72
set_option maxHeartbeats 4000000 in
set_option maxRecDepth 100000 in
theorem j3_isChanged_26 {α : Type} {X : GX α} (O : OK 30 X RX3 cX3_isChanged 5 (some .boolean) (rmG 1 21)) {K : Int32 → MS → Option α} (hQ : RtI 30 eX X K) {c1 : Int32} {c2 : Int32} {s0 : Int32} {S : MS} {KB : Int32 → MS → Option α} {KX : Int32 → MS → Option α} (hB : ∀ v2q S, GM 30 eX X (KB v2q S) S 2 [(0, .ref (aX X 2)), (1, .int c1), (2, .int v2q)] []) (hX : ∀ v2q S, GM 30 eX X (KX v2q S) S 79 [(0, .ref (aX X 2)), (1, .int c1), (2, .int v2q)] []) : GM 30 eX X (f3_isChanged_J26 c1 c2 s0 S K KB KX) S 26 [(0, .ref (aX X 2)), (1, .int c1), (2, .int c2)] [.int s0] := by
  unfold f3_isChanged_J26
  refine r_istore_n O d3_isChanged_26 [(3, .int s0), (0, .ref (aX X 2)), (1, .int c1), (2, .int c2)] (by decide) rfl ?_
  refine r_iload_n O d3_isChanged_27 2 rfl ?_
  refine r_iload_n O d3_isChanged_28 3 rfl ?_
  refine r_callSNi O (rest := []) (c5_waterIn (lX X) c1 c2 S) w_289 w_290 w_45 w_291 hy_X5_waterIn ⟨rfl, rfl, Nat.le_of_ble_eq_true rfl, Nat.le_of_ble_eq_true rfl⟩ rfl rfl (Nat.le_of_ble_eq_true rfl) d3_isChanged_29 (fun r4 S3 => ?_)
  refine r_if_eq O 39 d3_isChanged_32 (by decide) ?_ ?_
  · refine r_iconst O d3_isChanged_39 (v := 0) (by decide) ?_
    refine r_sub [1, 2, 3, 0] rfl ?_
    exact j3_isChanged_40 O hQ (fun _ _ => hB _ _) hX
  · refine r_iconst O d3_isChanged_35 (v := 1) (by decide) ?_
    refine r_goto O 40 d3_isChanged_36 (by decide) ?_
    refine r_sub [1, 2, 3, 0] rfl ?_
    exact j3_isChanged_40 O hQ (fun _ _ => hB _ _) hX
set_option maxHeartbeats 4000000 in
set_option maxRecDepth 100000 in
theorem l3_isChanged_2 {α : Type} {X : GX α} (O : OK 30 X RX3 cX3_isChanged 5 (some .boolean) (rmG 1 21)) {K : Int32 → MS → Option α} (hQ : RtI 30 eX X K) {c1 : Int32} {KX : Int32 → MS → Option α} (hX : ∀ v2 S, GM 30 eX X (KX v2 S) S 79 [(0, .ref (aX X 2)), (1, .int c1), (2, .int v2)] []) : ∀ n v2 S, GM 30 eX X (f3_isChanged_L2 c1 K KX n v2 S) S 2 [(0, .ref (aX X 2)), (1, .int c1), (2, .int v2)] [] := by
  intro n
  induction n with
  | zero => intro v2 S; exact r_none
  | succ n ih =>
    intro v2 S
    rw [f3_isChanged_L2]
    refine r_iload_n O d3_isChanged_2 2 rfl ?_
    refine r_aload_n O d3_isChanged_3 0 rfl ?_
    refine g_X3_28 O d3_isChanged_4 ?_
    refine r_icmp_ge O 79 d3_isChanged_7 (by decide) ?_ ?_
    · refine r_sub [0, 1, 2] rfl ?_
      exact hX _ _
    · refine r_aload_n O d3_isChanged_10 0 rfl ?_
      refine g_X3_32 O d3_isChanged_11 ?_
      refine r_iload_n O d3_isChanged_14 2 rfl ?_
      refine r_callSNi O (rest := []) (c5_waterIn (lX X) (S.1 2 4) v2 S) w_289 w_290 w_45 w_291 hy_X5_waterIn ⟨rfl, rfl, Nat.le_of_ble_eq_true rfl, Nat.le_of_ble_eq_true rfl⟩ rfl rfl (Nat.le_of_ble_eq_true rfl) d3_isChanged_15 (fun r2 S1 => ?_)
      refine r_if_eq O 25 d3_isChanged_18 (by decide) ?_ ?_
      · refine r_iconst O d3_isChanged_25 (v := 0) (by decide) ?_
        refine r_sub [0, 1, 2] rfl ?_
        exact j3_isChanged_26 O hQ (fun _ _ => ih _ _) hX
      · refine r_iconst O d3_isChanged_21 (v := 1) (by decide) ?_
        refine r_goto O 26 d3_isChanged_22 (by decide) ?_
        refine r_sub [0, 1, 2] rfl ?_
        exact j3_isChanged_26 O hQ (fun _ _ => ih _ _) hX
set_option maxHeartbeats 4000000 in
set_option maxRecDepth 100000 in
theorem c3_isChanged (l : Launch) (p1 : Int32) (S : MS) {α : Type} : CtI 30 eX l yX3_isChanged cX3_isChanged 5 (some .boolean) (rmG 1 21) S (fun ad => [.ref (ad 2), .int p1]) (α := α) (f3_isChanged p1 S) := by
  refine CtI.of (by decide) (fun _ => Nat.le_of_ble_eq_true rfl) (fun X K _ O hQ => ?_)
  have O : OK 30 X RX3 cX3_isChanged 5 (some .boolean) (rmG 1 21) := O
  show GM 30 eX X (f3_isChanged p1 S K) S 0 [(0, .ref (aX X 2)), (1, .int p1)] []
  unfold f3_isChanged
  refine r_iconst O d3_isChanged_0 (v := 0) (by decide) ?_
  refine r_istore_n O d3_isChanged_1 [(2, .int 0), (0, .ref (aX X 2)), (1, .int p1)] (by decide) rfl ?_
  refine r_sub [1, 2, 0] rfl ?_
  refine l3_isChanged_2 O hQ (fun v2_12 S11 => ?_) _ _ _
  refine r_iconst O d3_isChanged_79 (v := 1) (by decide) ?_
  exact r_zret O hQ (by decide) d3_isChanged_80
-- X2.findEnd
theorem d2_findEnd_0 : decode cX2_findEnd 0 = .ok (.iconst 0, 1) := by decide +kernel
theorem d2_findEnd_1 : decode cX2_findEnd 1 = .ok (.istore_n 2, 1) := by decide +kernel
theorem d2_findEnd_2 : decode cX2_findEnd 2 = .ok (.iload_n 2, 1) := by decide +kernel
theorem d2_findEnd_3 : decode cX2_findEnd 3 = .ok (.aload_n 0, 1) := by decide +kernel
theorem d2_findEnd_4 : decode cX2_findEnd 4 = .ok (.getfield 39, 3) := by decide +kernel
theorem d2_findEnd_7 : decode cX2_findEnd 7 = .ok (.if_icmp .ge 29, 3) := by decide +kernel
theorem d2_findEnd_10 : decode cX2_findEnd 10 = .ok (.aload_n 1, 1) := by decide +kernel
theorem d2_findEnd_11 : decode cX2_findEnd 11 = .ok (.aload_n 0, 1) := by decide +kernel
theorem d2_findEnd_12 : decode cX2_findEnd 12 = .ok (.getfield 9, 3) := by decide +kernel
theorem d2_findEnd_15 : decode cX2_findEnd 15 = .ok (.iload_n 2, 1) := by decide +kernel
theorem d2_findEnd_16 : decode cX2_findEnd 16 = .ok (.iaload, 1) := by decide +kernel
theorem d2_findEnd_17 : decode cX2_findEnd 17 = .ok (.invokevirtual 97, 3) := by decide +kernel
theorem d2_findEnd_20 : decode cX2_findEnd 20 = .ok (.ifCond .eq 10, 3) := by decide +kernel
theorem d2_findEnd_23 : decode cX2_findEnd 23 = .ok (.aload_n 0, 1) := by decide +kernel
theorem d2_findEnd_24 : decode cX2_findEnd 24 = .ok (.getfield 9, 3) := by decide +kernel
theorem d2_findEnd_27 : decode cX2_findEnd 27 = .ok (.iload_n 2, 1) := by decide +kernel
theorem d2_findEnd_28 : decode cX2_findEnd 28 = .ok (.iaload, 1) := by decide +kernel
theorem d2_findEnd_29 : decode cX2_findEnd 29 = .ok (.ireturn, 1) := by decide +kernel
theorem d2_findEnd_30 : decode cX2_findEnd 30 = .ok (.iinc 2 1, 3) := by decide +kernel
theorem d2_findEnd_33 : decode cX2_findEnd 33 = .ok (.goto (-31), 3) := by decide +kernel
theorem d2_findEnd_36 : decode cX2_findEnd 36 = .ok (.bipush (-9), 2) := by decide +kernel
theorem d2_findEnd_38 : decode cX2_findEnd 38 = .ok (.ireturn, 1) := by decide +kernel
noncomputable def f2_findEnd_L2 {α : Type} (K : Int32 → MS → Option α) (KX : Int32 → MS → Option α) : Nat → Int32 → MS → Option α
  | 0, _, _ => none
  | n + 1, v2, S => if (S.1 3 8) ≤ v2 then (KX v2 S) else (ck v2 729 fun k1 => f3_isChanged (S.1 9 k1) S fun r3 S2 => if r3 = 0 then (nm (v2 + 1) fun x2_4 => f2_findEnd_L2 K KX n x2_4 S2) else (ck v2 729 fun k5 => K (S2.1 9 k5) S2))
noncomputable def f2_findEnd {α : Type} (S : MS) (K : Int32 → MS → Option α) : Option α := f2_findEnd_L2 K (fun v2_7 S6 => K (-9) S6) FU 0 S
set_option maxHeartbeats 4000000 in
set_option maxRecDepth 100000 in
theorem l2_findEnd_2 {α : Type} {X : GX α} (O : OK 30 X RX2 cX2_findEnd 3 (some .int) (rmG 2 45)) {K : Int32 → MS → Option α} (hQ : RtI 30 eX X K) {KX : Int32 → MS → Option α} (hX : ∀ v2 S, GM 30 eX X (KX v2 S) S 36 [(0, .ref (aX X 3)), (1, .ref (aX X 2)), (2, .int v2)] []) : ∀ n v2 S, GM 30 eX X (f2_findEnd_L2 K KX n v2 S) S 2 [(0, .ref (aX X 3)), (1, .ref (aX X 2)), (2, .int v2)] [] := by
  intro n
  induction n with
  | zero => intro v2 S; exact r_none
  | succ n ih =>
    intro v2 S
    rw [f2_findEnd_L2]
    refine r_iload_n O d2_findEnd_2 2 rfl ?_
    refine r_aload_n O d2_findEnd_3 0 rfl ?_
    refine g_X2_39 O d2_findEnd_4 ?_
    refine r_icmp_ge O 36 d2_findEnd_7 (by decide) ?_ ?_
    · refine r_sub [0, 1, 2] rfl ?_
      exact hX _ _
    · refine r_aload_n O d2_findEnd_10 1 rfl ?_
      refine r_aload_n O d2_findEnd_11 0 rfl ?_
      refine g_X2_9 O d2_findEnd_12 ?_
      refine r_iload_n O d2_findEnd_15 2 rfl ?_
      refine r_iald O (j := 9) (by decide) eX_9 d2_findEnd_16 (fun k1 hk1 => ?_)
      refine r_callVi O (b := 2) (bv := fun ad => [.int (S.1 9 k1)]) (rest := []) (c3_isChanged (lX X) (S.1 9 k1) S) (fun _ => rfl) (by decide) eX_2 rfl rfl w_440 w_441 w_442 w_46 w_443 hy_X3_isChanged ⟨rfl, rfl, Nat.le_of_ble_eq_true rfl, Nat.le_of_ble_eq_true rfl⟩ rfl rfl (Nat.le_of_ble_eq_true rfl) d2_findEnd_17 (fun r3 S2 => ?_)
      refine r_if_eq O 30 d2_findEnd_20 (by decide) ?_ ?_
      · refine r_iinc O d2_findEnd_30 2 (c0 := 1) rfl (by decide) (fun x2_4 => [(2, .int x2_4), (0, .ref (aX X 3)), (1, .ref (aX X 2))]) (by decide) (fun _ => rfl) (fun x2_4 => ?_)
        refine r_goto O 2 d2_findEnd_33 (by decide) ?_
        refine r_sub [1, 2, 0] rfl ?_
        exact ih _ _
      · refine r_aload_n O d2_findEnd_23 0 rfl ?_
        refine g_X2_9 O d2_findEnd_24 ?_
        refine r_iload_n O d2_findEnd_27 2 rfl ?_
        refine r_iald O (j := 9) (by decide) eX_9 d2_findEnd_28 (fun k5 hk5 => ?_)
        exact r_iret O hQ d2_findEnd_29
set_option maxHeartbeats 4000000 in
set_option maxRecDepth 100000 in
theorem c2_findEnd (l : Launch) (S : MS) {α : Type} : CtI 30 eX l yX2_findEnd cX2_findEnd 3 (some .int) (rmG 2 45) S (fun ad => [.ref (ad 3), .ref (ad 2)]) (α := α) (f2_findEnd S) := by
  refine CtI.of (by decide) (fun _ => Nat.le_of_ble_eq_true rfl) (fun X K _ O hQ => ?_)
  have O : OK 30 X RX2 cX2_findEnd 3 (some .int) (rmG 2 45) := O
  show GM 30 eX X (f2_findEnd S K) S 0 [(0, .ref (aX X 3)), (1, .ref (aX X 2))] []
  unfold f2_findEnd
  refine r_iconst O d2_findEnd_0 (v := 0) (by decide) ?_
  refine r_istore_n O d2_findEnd_1 [(2, .int 0), (0, .ref (aX X 3)), (1, .ref (aX X 2))] (by decide) rfl ?_
  refine r_sub [1, 2, 0] rfl ?_
  refine l2_findEnd_2 O hQ (fun v2_7 S6 => ?_) _ _ _
  refine r_bipush O d2_findEnd_36 (v := (-9)) (by decide) ?_
  exact r_iret O hQ d2_findEnd_38
-- X2.refresh
theorem d2_refresh_0 : decode cX2_refresh 0 = .ok (.aload_n 0, 1) := by decide +kernel
theorem d2_refresh_1 : decode cX2_refresh 1 = .ok (.getfield 35, 3) := by decide +kernel
theorem d2_refresh_4 : decode cX2_refresh 4 = .ok (.ifCond .eq 4, 3) := by decide +kernel
theorem d2_refresh_7 : decode cX2_refresh 7 = .ok (.return_, 1) := by decide +kernel
theorem d2_refresh_8 : decode cX2_refresh 8 = .ok (.aload_n 0, 1) := by decide +kernel
theorem d2_refresh_9 : decode cX2_refresh 9 = .ok (.aload_n 1, 1) := by decide +kernel
theorem d2_refresh_10 : decode cX2_refresh 10 = .ok (.invokevirtual 46, 3) := by decide +kernel
theorem d2_refresh_13 : decode cX2_refresh 13 = .ok (.aload_n 0, 1) := by decide +kernel
theorem d2_refresh_14 : decode cX2_refresh 14 = .ok (.aload_n 1, 1) := by decide +kernel
theorem d2_refresh_15 : decode cX2_refresh 15 = .ok (.invokevirtual 50, 3) := by decide +kernel
theorem d2_refresh_18 : decode cX2_refresh 18 = .ok (.aload_n 0, 1) := by decide +kernel
theorem d2_refresh_19 : decode cX2_refresh 19 = .ok (.aload_n 0, 1) := by decide +kernel
theorem d2_refresh_20 : decode cX2_refresh 20 = .ok (.aload_n 1, 1) := by decide +kernel
theorem d2_refresh_21 : decode cX2_refresh 21 = .ok (.invokevirtual 53, 3) := by decide +kernel
theorem d2_refresh_24 : decode cX2_refresh 24 = .ok (.putfield 43, 3) := by decide +kernel
theorem d2_refresh_27 : decode cX2_refresh 27 = .ok (.aload_n 0, 1) := by decide +kernel
theorem d2_refresh_28 : decode cX2_refresh 28 = .ok (.iconst 1, 1) := by decide +kernel
theorem d2_refresh_29 : decode cX2_refresh 29 = .ok (.putfield 35, 3) := by decide +kernel
theorem d2_refresh_32 : decode cX2_refresh 32 = .ok (.return_, 1) := by decide +kernel
noncomputable def f2_refresh {α : Type} (S : MS) (K : MS → Option α) : Option α := if (S.1 3 7) = 0 then (f2_findPumpable S fun S1 => f2_explore S1 fun S3 => f2_findEnd S3 fun r6 S5 => nm (sI S5 3 9 r6) fun S7 => nm (sI S7 3 7 1) fun S8 => K S8) else (K S)
set_option maxHeartbeats 4000000 in
set_option maxRecDepth 100000 in
theorem c2_refresh (l : Launch) (S : MS) {α : Type} : CtV 30 eX l yX2_refresh cX2_refresh 2 none (rmG 5 113) S (fun ad => [.ref (ad 3), .ref (ad 2)]) (α := α) (f2_refresh S) := by
  refine CtV.of (by decide) (fun _ => Nat.le_of_ble_eq_true rfl) (fun X K _ O hQ => ?_)
  have O : OK 30 X RX2 cX2_refresh 2 none (rmG 5 113) := O
  show GM 30 eX X (f2_refresh S K) S 0 [(0, .ref (aX X 3)), (1, .ref (aX X 2))] []
  unfold f2_refresh
  refine r_aload_n O d2_refresh_0 0 rfl ?_
  refine g_X2_35 O d2_refresh_1 ?_
  refine r_if_eq O 8 d2_refresh_4 (by decide) ?_ ?_
  · refine r_aload_n O d2_refresh_8 0 rfl ?_
    refine r_aload_n O d2_refresh_9 1 rfl ?_
    refine r_callVv O (b := 3) (bv := fun ad => [.ref (ad 2)]) (rest := []) (c2_findPumpable (lX X) S) (fun _ => rfl) (by decide) eX_3 rfl rfl w_418 w_420 w_3 w_49 w_421 hy_X2_findPumpable ⟨rfl, rfl, Nat.le_of_ble_eq_true rfl, Nat.le_of_ble_eq_true rfl⟩ rfl rfl (Nat.le_of_ble_eq_true rfl) d2_refresh_10 (fun S1 => ?_)
    refine r_aload_n O d2_refresh_13 0 rfl ?_
    refine r_aload_n O d2_refresh_14 1 rfl ?_
    refine r_callVv O (b := 3) (bv := fun ad => [.ref (ad 2)]) (rest := []) (c2_explore (lX X) S1) (fun _ => rfl) (by decide) eX_3 rfl rfl w_425 w_427 w_4 w_49 w_428 hy_X2_explore ⟨rfl, rfl, Nat.le_of_ble_eq_true rfl, Nat.le_of_ble_eq_true rfl⟩ rfl rfl (Nat.le_of_ble_eq_true rfl) d2_refresh_15 (fun S3 => ?_)
    refine r_aload_n O d2_refresh_18 0 rfl ?_
    refine r_aload_n O d2_refresh_19 0 rfl ?_
    refine r_aload_n O d2_refresh_20 1 rfl ?_
    refine r_callVi O (b := 3) (bv := fun ad => [.ref (ad 2)]) (rest := [.ref (aX X 3)]) (c2_findEnd (lX X) S3) (fun _ => rfl) (by decide) eX_3 rfl rfl w_436 w_438 w_6 w_49 w_439 hy_X2_findEnd ⟨rfl, rfl, Nat.le_of_ble_eq_true rfl, Nat.le_of_ble_eq_true rfl⟩ rfl rfl (Nat.le_of_ble_eq_true rfl) d2_refresh_21 (fun r6 S5 => ?_)
    refine p_X2_43 O d2_refresh_24 (fun S7 => ?_)
    refine r_aload_n O d2_refresh_27 0 rfl ?_
    refine r_iconst O d2_refresh_28 (v := 1) (by decide) ?_
    refine p_X2_35 O (by decide) d2_refresh_29 (fun S8 => ?_)
    exact r_vret O hQ d2_refresh_32
  · exact r_vret O hQ d2_refresh_7
-- X2.planLength
theorem d2_planLength_0 : decode cX2_planLength 0 = .ok (.aload_n 0, 1) := by decide +kernel
theorem d2_planLength_1 : decode cX2_planLength 1 = .ok (.getfield 43, 3) := by decide +kernel
theorem d2_planLength_4 : decode cX2_planLength 4 = .ok (.bipush (-9), 2) := by decide +kernel
theorem d2_planLength_6 : decode cX2_planLength 6 = .ok (.if_icmp .ne 8, 3) := by decide +kernel
theorem d2_planLength_9 : decode cX2_planLength 9 = .ok (.bipush (-9), 2) := by decide +kernel
theorem d2_planLength_11 : decode cX2_planLength 11 = .ok (.goto 12, 3) := by decide +kernel
theorem d2_planLength_14 : decode cX2_planLength 14 = .ok (.aload_n 0, 1) := by decide +kernel
theorem d2_planLength_15 : decode cX2_planLength 15 = .ok (.getfield 15, 3) := by decide +kernel
theorem d2_planLength_18 : decode cX2_planLength 18 = .ok (.aload_n 0, 1) := by decide +kernel
theorem d2_planLength_19 : decode cX2_planLength 19 = .ok (.getfield 43, 3) := by decide +kernel
theorem d2_planLength_22 : decode cX2_planLength 22 = .ok (.iaload, 1) := by decide +kernel
theorem d2_planLength_23 : decode cX2_planLength 23 = .ok (.ireturn, 1) := by decide +kernel
noncomputable def f2_planLength {α : Type} (S : MS) (K : Int32 → MS → Option α) : Option α := if (S.1 3 9) = (-9) then (K (-9) S) else (ck (S.1 3 9) 729 fun k1 => K (S.1 10 k1) S)
set_option maxHeartbeats 4000000 in
set_option maxRecDepth 100000 in
theorem c2_planLength (l : Launch) (S : MS) {α : Type} : CtI 30 eX l yX2_planLength cX2_planLength 1 (some .int) (rmG 0 0) S (fun ad => [.ref (ad 3)]) (α := α) (f2_planLength S) := by
  refine CtI.of (by decide) (fun _ => Nat.le_of_ble_eq_true rfl) (fun X K _ O hQ => ?_)
  have O : OK 30 X RX2 cX2_planLength 1 (some .int) (rmG 0 0) := O
  show GM 30 eX X (f2_planLength S K) S 0 [(0, .ref (aX X 3))] []
  unfold f2_planLength
  refine r_aload_n O d2_planLength_0 0 rfl ?_
  refine g_X2_43 O d2_planLength_1 ?_
  refine r_bipush O d2_planLength_4 (v := (-9)) (by decide) ?_
  refine r_icmp_ne O 14 d2_planLength_6 (by decide) ?_ ?_
  · refine r_aload_n O d2_planLength_14 0 rfl ?_
    refine g_X2_15 O d2_planLength_15 ?_
    refine r_aload_n O d2_planLength_18 0 rfl ?_
    refine g_X2_43 O d2_planLength_19 ?_
    refine r_iald O (j := 10) (by decide) eX_10 d2_planLength_22 (fun k1 hk1 => ?_)
    exact r_iret O hQ d2_planLength_23
  · refine r_bipush O d2_planLength_9 (v := (-9)) (by decide) ?_
    refine r_goto O 23 d2_planLength_11 (by decide) ?_
    exact r_iret O hQ d2_planLength_23
-- X2.planTank
theorem d2_planTank_0 : decode cX2_planTank 0 = .ok (.iload_n 1, 1) := by decide +kernel
theorem d2_planTank_1 : decode cX2_planTank 1 = .ok (.ifCond .lt 11, 3) := by decide +kernel
theorem d2_planTank_4 : decode cX2_planTank 4 = .ok (.iload_n 1, 1) := by decide +kernel
theorem d2_planTank_5 : decode cX2_planTank 5 = .ok (.aload_n 0, 1) := by decide +kernel
theorem d2_planTank_6 : decode cX2_planTank 6 = .ok (.invokevirtual 100, 3) := by decide +kernel
theorem d2_planTank_9 : decode cX2_planTank 9 = .ok (.if_icmp .lt 6, 3) := by decide +kernel
theorem d2_planTank_12 : decode cX2_planTank 12 = .ok (.bipush (-9), 2) := by decide +kernel
theorem d2_planTank_14 : decode cX2_planTank 14 = .ok (.ireturn, 1) := by decide +kernel
theorem d2_planTank_15 : decode cX2_planTank 15 = .ok (.aload_n 0, 1) := by decide +kernel
theorem d2_planTank_16 : decode cX2_planTank 16 = .ok (.getfield 43, 3) := by decide +kernel
theorem d2_planTank_19 : decode cX2_planTank 19 = .ok (.istore_n 2, 1) := by decide +kernel
theorem d2_planTank_20 : decode cX2_planTank 20 = .ok (.aload_n 0, 1) := by decide +kernel
theorem d2_planTank_21 : decode cX2_planTank 21 = .ok (.getfield 15, 3) := by decide +kernel
theorem d2_planTank_24 : decode cX2_planTank 24 = .ok (.aload_n 0, 1) := by decide +kernel
theorem d2_planTank_25 : decode cX2_planTank 25 = .ok (.getfield 43, 3) := by decide +kernel
theorem d2_planTank_28 : decode cX2_planTank 28 = .ok (.iaload, 1) := by decide +kernel
theorem d2_planTank_29 : decode cX2_planTank 29 = .ok (.iconst 1, 1) := by decide +kernel
theorem d2_planTank_30 : decode cX2_planTank 30 = .ok (.isub, 1) := by decide +kernel
theorem d2_planTank_31 : decode cX2_planTank 31 = .ok (.istore_n 3, 1) := by decide +kernel
theorem d2_planTank_32 : decode cX2_planTank 32 = .ok (.iload_n 3, 1) := by decide +kernel
theorem d2_planTank_33 : decode cX2_planTank 33 = .ok (.iload_n 1, 1) := by decide +kernel
theorem d2_planTank_34 : decode cX2_planTank 34 = .ok (.if_icmp .le 16, 3) := by decide +kernel
theorem d2_planTank_37 : decode cX2_planTank 37 = .ok (.aload_n 0, 1) := by decide +kernel
theorem d2_planTank_38 : decode cX2_planTank 38 = .ok (.getfield 18, 3) := by decide +kernel
theorem d2_planTank_41 : decode cX2_planTank 41 = .ok (.iload_n 2, 1) := by decide +kernel
theorem d2_planTank_42 : decode cX2_planTank 42 = .ok (.iaload, 1) := by decide +kernel
theorem d2_planTank_43 : decode cX2_planTank 43 = .ok (.istore_n 2, 1) := by decide +kernel
theorem d2_planTank_44 : decode cX2_planTank 44 = .ok (.iinc 3 (-1), 3) := by decide +kernel
theorem d2_planTank_47 : decode cX2_planTank 47 = .ok (.goto (-15), 3) := by decide +kernel
theorem d2_planTank_50 : decode cX2_planTank 50 = .ok (.aload_n 0, 1) := by decide +kernel
theorem d2_planTank_51 : decode cX2_planTank 51 = .ok (.getfield 21, 3) := by decide +kernel
theorem d2_planTank_54 : decode cX2_planTank 54 = .ok (.iload_n 2, 1) := by decide +kernel
theorem d2_planTank_55 : decode cX2_planTank 55 = .ok (.iaload, 1) := by decide +kernel
theorem d2_planTank_56 : decode cX2_planTank 56 = .ok (.ireturn, 1) := by decide +kernel
noncomputable def f2_planTank_L32 {α : Type} (c1 : Int32) (KX : Int32 → Int32 → MS → Option α) : Nat → Int32 → Int32 → MS → Option α
  | 0, _, _, _ => none
  | n + 1, v2, v3, S => if v3 ≤ c1 then (KX v2 v3 S) else (ck v2 729 fun k6 => nm (S.1 11 k6) fun x2_7 => nm (v3 + (-1)) fun x3_8 => f2_planTank_L32 c1 KX n x2_7 x3_8 S)
noncomputable def f2_planTank {α : Type} (p1 : Int32) (S : MS) (K : Int32 → MS → Option α) : Option α := if p1 < 0 then (K (-9) S) else (f2_planLength S fun r2 S1 => if p1 < r2 then (nm (S1.1 3 9) fun x2_3 => ck (S1.1 3 9) 729 fun k4 => nm ((S1.1 10 k4) - 1) fun x3_5 => f2_planTank_L32 p1 (fun v2_10 v3_11 S9 => ck v2_10 729 fun k12 => K (S9.1 12 k12) S9) FU x2_3 x3_5 S1) else (K (-9) S1))
set_option maxHeartbeats 4000000 in
set_option maxRecDepth 100000 in
theorem l2_planTank_32 {α : Type} {X : GX α} (O : OK 30 X RX2 cX2_planTank 4 (some .int) (rmG 1 20)) {c1 : Int32} {KX : Int32 → Int32 → MS → Option α} (hX : ∀ v2 v3 S, GM 30 eX X (KX v2 v3 S) S 50 [(0, .ref (aX X 3)), (1, .int c1), (2, .int v2), (3, .int v3)] []) : ∀ n v2 v3 S, GM 30 eX X (f2_planTank_L32 c1 KX n v2 v3 S) S 32 [(0, .ref (aX X 3)), (1, .int c1), (2, .int v2), (3, .int v3)] [] := by
  intro n
  induction n with
  | zero => intro v2 v3 S; exact r_none
  | succ n ih =>
    intro v2 v3 S
    rw [f2_planTank_L32]
    refine r_iload_n O d2_planTank_32 3 rfl ?_
    refine r_iload_n O d2_planTank_33 1 rfl ?_
    refine r_icmp_le O 50 d2_planTank_34 (by decide) ?_ ?_
    · refine r_sub [0, 1, 2, 3] rfl ?_
      exact hX _ _ _
    · refine r_aload_n O d2_planTank_37 0 rfl ?_
      refine g_X2_18 O d2_planTank_38 ?_
      refine r_iload_n O d2_planTank_41 2 rfl ?_
      refine r_iald O (j := 11) (by decide) eX_11 d2_planTank_42 (fun k6 hk6 => ?_)
      refine r_istore_n_nm O d2_planTank_43 (fun x2_7 => [(2, .int x2_7), (0, .ref (aX X 3)), (1, .int c1), (3, .int v3)]) (by decide) (fun _ => rfl) (fun x2_7 => ?_)
      refine r_iinc O d2_planTank_44 3 (c0 := (-1)) rfl (by decide) (fun x3_8 => [(3, .int x3_8), (2, .int x2_7), (0, .ref (aX X 3)), (1, .int c1)]) (by decide) (fun _ => rfl) (fun x3_8 => ?_)
      refine r_goto O 32 d2_planTank_47 (by decide) ?_
      refine r_sub [2, 3, 1, 0] rfl ?_
      exact ih _ _ _
set_option maxHeartbeats 4000000 in
set_option maxRecDepth 100000 in
theorem c2_planTank (l : Launch) (p1 : Int32) (S : MS) {α : Type} : CtI 30 eX l yX2_planTank cX2_planTank 4 (some .int) (rmG 1 20) S (fun ad => [.ref (ad 3), .int p1]) (α := α) (f2_planTank p1 S) := by
  refine CtI.of (by decide) (fun _ => Nat.le_of_ble_eq_true rfl) (fun X K _ O hQ => ?_)
  have O : OK 30 X RX2 cX2_planTank 4 (some .int) (rmG 1 20) := O
  show GM 30 eX X (f2_planTank p1 S K) S 0 [(0, .ref (aX X 3)), (1, .int p1)] []
  unfold f2_planTank
  refine r_iload_n O d2_planTank_0 1 rfl ?_
  refine r_if_lt O 12 d2_planTank_1 (by decide) ?_ ?_
  · refine r_bipush O d2_planTank_12 (v := (-9)) (by decide) ?_
    exact r_iret O hQ d2_planTank_14
  · refine r_iload_n O d2_planTank_4 1 rfl ?_
    refine r_aload_n O d2_planTank_5 0 rfl ?_
    refine r_callVi O (b := 3) (bv := fun ad => []) (rest := [.int p1]) (c2_planLength (lX X) S) (fun _ => rfl) (by decide) eX_3 rfl rfl w_452 w_445 w_446 w_49 w_447 hy_X2_planLength ⟨rfl, rfl, Nat.le_of_ble_eq_true rfl, Nat.le_of_ble_eq_true rfl⟩ rfl rfl (Nat.le_of_ble_eq_true rfl) d2_planTank_6 (fun r2 S1 => ?_)
    refine r_icmp_lt O 15 d2_planTank_9 (by decide) ?_ ?_
    · refine r_aload_n O d2_planTank_15 0 rfl ?_
      refine g_X2_43 O d2_planTank_16 ?_
      refine r_istore_n_nm O d2_planTank_19 (fun x2_3 => [(2, .int x2_3), (0, .ref (aX X 3)), (1, .int p1)]) (by decide) (fun _ => rfl) (fun x2_3 => ?_)
      refine r_aload_n O d2_planTank_20 1 rfl ?_
      refine g_X2_15 O d2_planTank_21 ?_
      refine r_aload_n O d2_planTank_24 1 rfl ?_
      refine g_X2_43 O d2_planTank_25 ?_
      refine r_iald O (j := 10) (by decide) eX_10 d2_planTank_28 (fun k4 hk4 => ?_)
      refine r_iconst O d2_planTank_29 (v := 1) (by decide) ?_
      refine r_isub O d2_planTank_30 ?_
      refine r_istore_n_nm O d2_planTank_31 (fun x3_5 => [(3, .int x3_5), (2, .int x2_3), (0, .ref (aX X 3)), (1, .int p1)]) (by decide) (fun _ => rfl) (fun x3_5 => ?_)
      refine r_sub [2, 3, 1, 0] rfl ?_
      refine l2_planTank_32 O (fun v2_10 v3_11 S9 => ?_) _ _ _ _
      refine r_aload_n O d2_planTank_50 0 rfl ?_
      refine g_X2_21 O d2_planTank_51 ?_
      refine r_iload_n O d2_planTank_54 2 rfl ?_
      refine r_iald O (j := 12) (by decide) eX_12 d2_planTank_55 (fun k12 hk12 => ?_)
      exact r_iret O hQ d2_planTank_56
    · refine r_bipush O d2_planTank_12 (v := (-9)) (by decide) ?_
      exact r_iret O hQ d2_planTank_14
