-- X5.isSheet
theorem d5_isSheet_0 : decode cX5_isSheet 0 = .ok (.iload_n 0, 1) := by decide +kernel
theorem d5_isSheet_1 : decode cX5_isSheet 1 = .ok (.ifCond .lt 12, 3) := by decide +kernel
theorem d5_isSheet_4 : decode cX5_isSheet 4 = .ok (.iload_n 0, 1) := by decide +kernel
theorem d5_isSheet_5 : decode cX5_isSheet 5 = .ok (.iconst 4, 1) := by decide +kernel
theorem d5_isSheet_6 : decode cX5_isSheet 6 = .ok (.if_icmp .ge 7, 3) := by decide +kernel
theorem d5_isSheet_9 : decode cX5_isSheet 9 = .ok (.iconst 1, 1) := by decide +kernel
theorem d5_isSheet_10 : decode cX5_isSheet 10 = .ok (.goto 4, 3) := by decide +kernel
theorem d5_isSheet_13 : decode cX5_isSheet 13 = .ok (.iconst 0, 1) := by decide +kernel
theorem d5_isSheet_14 : decode cX5_isSheet 14 = .ok (.ireturn, 1) := by decide +kernel
noncomputable def f5_isSheet {α : Type} (p0 : Int32) (S : MS) (K : Int32 → MS → Option α) : Option α := if p0 < 0 then (K 0 S) else (if 4 ≤ p0 then (K 0 S) else (K 1 S))
set_option maxHeartbeats 4000000 in
set_option maxRecDepth 100000 in
theorem c5_isSheet (l : Launch) (p0 : Int32) (S : MS) {α : Type} : CtI 30 eX l yX5_isSheet cX5_isSheet 1 (some .boolean) (rmG 0 0) S (fun ad => [.int p0]) (α := α) (f5_isSheet p0 S) := by
  refine CtI.of (by decide) (fun _ => Nat.le_of_ble_eq_true rfl) (fun X K _ O hQ => ?_)
  have O : OK 30 X RX5 cX5_isSheet 1 (some .boolean) (rmG 0 0) := O
  show GM 30 eX X (f5_isSheet p0 S K) S 0 [(0, .int p0)] []
  unfold f5_isSheet
  refine r_iload_n O d5_isSheet_0 0 rfl ?_
  refine r_if_lt O 13 d5_isSheet_1 (by decide) ?_ ?_
  · refine r_iconst O d5_isSheet_13 (v := 0) (by decide) ?_
    exact r_zret O hQ (by decide) d5_isSheet_14
  · refine r_iload_n O d5_isSheet_4 0 rfl ?_
    refine r_iconst O d5_isSheet_5 (v := 4) (by decide) ?_
    refine r_icmp_ge O 13 d5_isSheet_6 (by decide) ?_ ?_
    · refine r_iconst O d5_isSheet_13 (v := 0) (by decide) ?_
      exact r_zret O hQ (by decide) d5_isSheet_14
    · refine r_iconst O d5_isSheet_9 (v := 1) (by decide) ?_
      refine r_goto O 14 d5_isSheet_10 (by decide) ?_
      exact r_zret O hQ (by decide) d5_isSheet_14
-- X5.isLane
theorem d5_isLane_0 : decode cX5_isLane 0 = .ok (.iload_n 0, 1) := by decide +kernel
theorem d5_isLane_1 : decode cX5_isLane 1 = .ok (.ifCond .lt 12, 3) := by decide +kernel
theorem d5_isLane_4 : decode cX5_isLane 4 = .ok (.iload_n 0, 1) := by decide +kernel
theorem d5_isLane_5 : decode cX5_isLane 5 = .ok (.iconst 3, 1) := by decide +kernel
theorem d5_isLane_6 : decode cX5_isLane 6 = .ok (.if_icmp .ge 7, 3) := by decide +kernel
theorem d5_isLane_9 : decode cX5_isLane 9 = .ok (.iconst 1, 1) := by decide +kernel
theorem d5_isLane_10 : decode cX5_isLane 10 = .ok (.goto 4, 3) := by decide +kernel
theorem d5_isLane_13 : decode cX5_isLane 13 = .ok (.iconst 0, 1) := by decide +kernel
theorem d5_isLane_14 : decode cX5_isLane 14 = .ok (.ireturn, 1) := by decide +kernel
noncomputable def f5_isLane {α : Type} (p0 : Int32) (S : MS) (K : Int32 → MS → Option α) : Option α := if p0 < 0 then (K 0 S) else (if 3 ≤ p0 then (K 0 S) else (K 1 S))
set_option maxHeartbeats 4000000 in
set_option maxRecDepth 100000 in
theorem c5_isLane (l : Launch) (p0 : Int32) (S : MS) {α : Type} : CtI 30 eX l yX5_isLane cX5_isLane 1 (some .boolean) (rmG 0 0) S (fun ad => [.int p0]) (α := α) (f5_isLane p0 S) := by
  refine CtI.of (by decide) (fun _ => Nat.le_of_ble_eq_true rfl) (fun X K _ O hQ => ?_)
  have O : OK 30 X RX5 cX5_isLane 1 (some .boolean) (rmG 0 0) := O
  show GM 30 eX X (f5_isLane p0 S K) S 0 [(0, .int p0)] []
  unfold f5_isLane
  refine r_iload_n O d5_isLane_0 0 rfl ?_
  refine r_if_lt O 13 d5_isLane_1 (by decide) ?_ ?_
  · refine r_iconst O d5_isLane_13 (v := 0) (by decide) ?_
    exact r_zret O hQ (by decide) d5_isLane_14
  · refine r_iload_n O d5_isLane_4 0 rfl ?_
    refine r_iconst O d5_isLane_5 (v := 3) (by decide) ?_
    refine r_icmp_ge O 13 d5_isLane_6 (by decide) ?_ ?_
    · refine r_iconst O d5_isLane_13 (v := 0) (by decide) ?_
      exact r_zret O hQ (by decide) d5_isLane_14
    · refine r_iconst O d5_isLane_9 (v := 1) (by decide) ?_
      refine r_goto O 14 d5_isLane_10 (by decide) ?_
      exact r_zret O hQ (by decide) d5_isLane_14
-- X1.isNothing
theorem d1_isNothing_0 : decode cX1_isNothing 0 = .ok (.aload_n 0, 1) := by decide +kernel
theorem d1_isNothing_1 : decode cX1_isNothing 1 = .ok (.getfield 15, 3) := by decide +kernel
theorem d1_isNothing_4 : decode cX1_isNothing 4 = .ok (.iconst (-1), 1) := by decide +kernel
theorem d1_isNothing_5 : decode cX1_isNothing 5 = .ok (.if_icmp .ne 7, 3) := by decide +kernel
theorem d1_isNothing_8 : decode cX1_isNothing 8 = .ok (.iconst 1, 1) := by decide +kernel
theorem d1_isNothing_9 : decode cX1_isNothing 9 = .ok (.goto 4, 3) := by decide +kernel
theorem d1_isNothing_12 : decode cX1_isNothing 12 = .ok (.iconst 0, 1) := by decide +kernel
theorem d1_isNothing_13 : decode cX1_isNothing 13 = .ok (.ireturn, 1) := by decide +kernel
noncomputable def f1_isNothing {α : Type} (k : Nat) (S : MS) (K : Int32 → MS → Option α) : Option α := if (S.1 (16 + k) 1) = (-1) then (K 1 S) else (K 0 S)
set_option maxHeartbeats 4000000 in
set_option maxRecDepth 100000 in
theorem c1_isNothing (l : Launch) (k : Nat) (hk : k < 4) (S : MS) {α : Type} : CtI 30 eX l yX1_isNothing cX1_isNothing 1 (some .boolean) (rmG 0 0) S (fun ad => [.ref (ad (16 + k))]) (α := α) (f1_isNothing k S) := by
  refine CtI.of (by decide) (fun _ => Nat.le_of_ble_eq_true rfl) (fun X K _ O hQ => ?_)
  have O : OK 30 X RX1 cX1_isNothing 1 (some .boolean) (rmG 0 0) := O
  show GM 30 eX X (f1_isNothing k S K) S 0 [(0, .ref (aX X (16 + k)))] []
  unfold f1_isNothing
  refine r_aload_n O d1_isNothing_0 0 rfl ?_
  refine g_X1_15 O hk d1_isNothing_1 ?_
  refine r_iconst O d1_isNothing_4 (v := (-1)) (by decide) ?_
  refine r_icmp_ne O 12 d1_isNothing_5 (by decide) ?_ ?_
  · refine r_iconst O d1_isNothing_12 (v := 0) (by decide) ?_
    exact r_zret O hQ (by decide) d1_isNothing_13
  · refine r_iconst O d1_isNothing_8 (v := 1) (by decide) ?_
    refine r_goto O 13 d1_isNothing_9 (by decide) ?_
    exact r_zret O hQ (by decide) d1_isNothing_13
-- X1.faultAs
theorem d1_faultAs_0 : decode cX1_faultAs 0 = .ok (.aload_n 0, 1) := by decide +kernel
theorem d1_faultAs_1 : decode cX1_faultAs 1 = .ok (.invokevirtual 28, 3) := by decide +kernel
theorem d1_faultAs_4 : decode cX1_faultAs 4 = .ok (.ifCond .eq 5, 3) := by decide +kernel
theorem d1_faultAs_7 : decode cX1_faultAs 7 = .ok (.iconst 1, 1) := by decide +kernel
theorem d1_faultAs_8 : decode cX1_faultAs 8 = .ok (.ireturn, 1) := by decide +kernel
theorem d1_faultAs_9 : decode cX1_faultAs 9 = .ok (.aload_n 0, 1) := by decide +kernel
theorem d1_faultAs_10 : decode cX1_faultAs 10 = .ok (.getfield 15, 3) := by decide +kernel
theorem d1_faultAs_13 : decode cX1_faultAs 13 = .ok (.iload_n 1, 1) := by decide +kernel
theorem d1_faultAs_14 : decode cX1_faultAs 14 = .ok (.if_icmp .ne 7, 3) := by decide +kernel
theorem d1_faultAs_17 : decode cX1_faultAs 17 = .ok (.iconst 0, 1) := by decide +kernel
theorem d1_faultAs_18 : decode cX1_faultAs 18 = .ok (.goto 4, 3) := by decide +kernel
theorem d1_faultAs_21 : decode cX1_faultAs 21 = .ok (.iconst 2, 1) := by decide +kernel
theorem d1_faultAs_22 : decode cX1_faultAs 22 = .ok (.ireturn, 1) := by decide +kernel
noncomputable def f1_faultAs {α : Type} (k : Nat) (p1 : Int32) (S : MS) (K : Int32 → MS → Option α) : Option α := f1_isNothing k S fun r2 S1 => if r2 = 0 then (if (S1.1 (16 + k) 1) = p1 then (K 0 S1) else (K 2 S1)) else (K 1 S1)
set_option maxHeartbeats 4000000 in
set_option maxRecDepth 100000 in
theorem c1_faultAs (l : Launch) (k : Nat) (p1 : Int32) (hk : k < 4) (S : MS) {α : Type} : CtI 30 eX l yX1_faultAs cX1_faultAs 2 (some .int) (rmG 1 20) S (fun ad => [.ref (ad (16 + k)), .int p1]) (α := α) (f1_faultAs k p1 S) := by
  refine CtI.of (by decide) (fun _ => Nat.le_of_ble_eq_true rfl) (fun X K _ O hQ => ?_)
  have O : OK 30 X RX1 cX1_faultAs 2 (some .int) (rmG 1 20) := O
  show GM 30 eX X (f1_faultAs k p1 S K) S 0 [(0, .ref (aX X (16 + k))), (1, .int p1)] []
  unfold f1_faultAs
  refine r_aload_n O d1_faultAs_0 0 rfl ?_
  refine r_callVi O (b := (16 + k)) (bv := fun ad => []) (rest := []) (c1_isNothing (lX X) k hk S) (fun _ => rfl) (by omega) (eX_row hk) rfl rfl w_250 w_251 w_252 w_50 w_253 hy_X1_isNothing ⟨rfl, rfl, Nat.le_of_ble_eq_true rfl, Nat.le_of_ble_eq_true rfl⟩ rfl rfl (Nat.le_of_ble_eq_true rfl) d1_faultAs_1 (fun r2 S1 => ?_)
  refine r_if_eq O 9 d1_faultAs_4 (by decide) ?_ ?_
  · refine r_aload_n O d1_faultAs_9 0 rfl ?_
    refine g_X1_15 O hk d1_faultAs_10 ?_
    refine r_iload_n O d1_faultAs_13 1 rfl ?_
    refine r_icmp_ne O 21 d1_faultAs_14 (by decide) ?_ ?_
    · refine r_iconst O d1_faultAs_21 (v := 2) (by decide) ?_
      exact r_iret O hQ d1_faultAs_22
    · refine r_iconst O d1_faultAs_17 (v := 0) (by decide) ?_
      refine r_goto O 22 d1_faultAs_18 (by decide) ?_
      exact r_iret O hQ d1_faultAs_22
  · refine r_iconst O d1_faultAs_7 (v := 1) (by decide) ?_
    exact r_iret O hQ d1_faultAs_8
-- X5.kindOf
theorem d5_kindOf_0 : decode cX5_kindOf 0 = .ok (.iload_n 0, 1) := by decide +kernel
theorem d5_kindOf_1 : decode cX5_kindOf 1 = .ok (.lookupswitch 41 #[(68, 39), (80, 35), (87, 37)], 35) := by decide +kernel
theorem d5_kindOf_36 : decode cX5_kindOf 36 = .ok (.iconst 0, 1) := by decide +kernel
theorem d5_kindOf_37 : decode cX5_kindOf 37 = .ok (.ireturn, 1) := by decide +kernel
theorem d5_kindOf_38 : decode cX5_kindOf 38 = .ok (.iconst 1, 1) := by decide +kernel
theorem d5_kindOf_39 : decode cX5_kindOf 39 = .ok (.ireturn, 1) := by decide +kernel
theorem d5_kindOf_40 : decode cX5_kindOf 40 = .ok (.iconst 2, 1) := by decide +kernel
theorem d5_kindOf_41 : decode cX5_kindOf 41 = .ok (.ireturn, 1) := by decide +kernel
theorem d5_kindOf_42 : decode cX5_kindOf 42 = .ok (.bipush (-9), 2) := by decide +kernel
theorem d5_kindOf_44 : decode cX5_kindOf 44 = .ok (.ireturn, 1) := by decide +kernel
noncomputable def f5_kindOf {α : Type} (p0 : Int32) (S : MS) (K : Int32 → MS → Option α) : Option α := if p0 = 68 then (K 2 S) else (if p0 = 80 then (K 0 S) else (if p0 = 87 then (K 1 S) else (K (-9) S)))
set_option maxHeartbeats 4000000 in
set_option maxRecDepth 100000 in
theorem c5_kindOf (l : Launch) (p0 : Int32) (S : MS) {α : Type} : CtI 30 eX l yX5_kindOf cX5_kindOf 1 (some .int) (rmG 0 0) S (fun ad => [.int p0]) (α := α) (f5_kindOf p0 S) := by
  refine CtI.of (by decide) (fun _ => Nat.le_of_ble_eq_true rfl) (fun X K _ O hQ => ?_)
  have O : OK 30 X RX5 cX5_kindOf 1 (some .int) (rmG 0 0) := O
  show GM 30 eX X (f5_kindOf p0 S K) S 0 [(0, .int p0)] []
  unfold f5_kindOf
  refine r_iload_n O d5_kindOf_0 0 rfl ?_
  refine r_ite (fun hs1 => ?_) (fun hs1 => ?_)
  · refine r_look O (off := 39) 40 d5_kindOf_1 (by decide) (by rw [hs1] <;> rfl) (by decide) ?_
    refine r_iconst O d5_kindOf_40 (v := 2) (by decide) ?_
    exact r_iret O hQ d5_kindOf_41
  refine r_ite (fun hs2 => ?_) (fun hs2 => ?_)
  · refine r_look O (off := 35) 36 d5_kindOf_1 (by decide) (by rw [hs2] <;> rfl) (by decide) ?_
    refine r_iconst O d5_kindOf_36 (v := 0) (by decide) ?_
    exact r_iret O hQ d5_kindOf_37
  refine r_ite (fun hs3 => ?_) (fun hs3 => ?_)
  · refine r_look O (off := 37) 38 d5_kindOf_1 (by decide) (by rw [hs3] <;> rfl) (by decide) ?_
    refine r_iconst O d5_kindOf_38 (v := 1) (by decide) ?_
    exact r_iret O hQ d5_kindOf_39
  have nhs1 := i32_ne (n := 68) 68 (by decide) hs1
  have nhs2 := i32_ne (n := 80) 80 (by decide) hs2
  have nhs3 := i32_ne (n := 87) 87 (by decide) hs3
  refine r_look O (off := 41) 42 d5_kindOf_1 (by decide) (by simp [Op.lookupswitch.offset, Ne.symm nhs1, Ne.symm nhs2, Ne.symm nhs3]) (by decide) ?_
  refine r_bipush O d5_kindOf_42 (v := (-9)) (by decide) ?_
  exact r_iret O hQ d5_kindOf_44
-- X5.sideOf
theorem d5_sideOf_0 : decode cX5_sideOf 0 = .ok (.iload_n 0, 1) := by decide +kernel
theorem d5_sideOf_1 : decode cX5_sideOf 1 = .ok (.lookupswitch 41 #[(99, 37), (112, 35), (115, 39)], 35) := by decide +kernel
theorem d5_sideOf_36 : decode cX5_sideOf 36 = .ok (.iconst 0, 1) := by decide +kernel
theorem d5_sideOf_37 : decode cX5_sideOf 37 = .ok (.ireturn, 1) := by decide +kernel
theorem d5_sideOf_38 : decode cX5_sideOf 38 = .ok (.iconst 1, 1) := by decide +kernel
theorem d5_sideOf_39 : decode cX5_sideOf 39 = .ok (.ireturn, 1) := by decide +kernel
theorem d5_sideOf_40 : decode cX5_sideOf 40 = .ok (.iconst 2, 1) := by decide +kernel
theorem d5_sideOf_41 : decode cX5_sideOf 41 = .ok (.ireturn, 1) := by decide +kernel
theorem d5_sideOf_42 : decode cX5_sideOf 42 = .ok (.bipush (-9), 2) := by decide +kernel
theorem d5_sideOf_44 : decode cX5_sideOf 44 = .ok (.ireturn, 1) := by decide +kernel
noncomputable def f5_sideOf {α : Type} (p0 : Int32) (S : MS) (K : Int32 → MS → Option α) : Option α := if p0 = 99 then (K 1 S) else (if p0 = 112 then (K 0 S) else (if p0 = 115 then (K 2 S) else (K (-9) S)))
set_option maxHeartbeats 4000000 in
set_option maxRecDepth 100000 in
theorem c5_sideOf (l : Launch) (p0 : Int32) (S : MS) {α : Type} : CtI 30 eX l yX5_sideOf cX5_sideOf 1 (some .int) (rmG 0 0) S (fun ad => [.int p0]) (α := α) (f5_sideOf p0 S) := by
  refine CtI.of (by decide) (fun _ => Nat.le_of_ble_eq_true rfl) (fun X K _ O hQ => ?_)
  have O : OK 30 X RX5 cX5_sideOf 1 (some .int) (rmG 0 0) := O
  show GM 30 eX X (f5_sideOf p0 S K) S 0 [(0, .int p0)] []
  unfold f5_sideOf
  refine r_iload_n O d5_sideOf_0 0 rfl ?_
  refine r_ite (fun hs1 => ?_) (fun hs1 => ?_)
  · refine r_look O (off := 37) 38 d5_sideOf_1 (by decide) (by rw [hs1] <;> rfl) (by decide) ?_
    refine r_iconst O d5_sideOf_38 (v := 1) (by decide) ?_
    exact r_iret O hQ d5_sideOf_39
  refine r_ite (fun hs2 => ?_) (fun hs2 => ?_)
  · refine r_look O (off := 35) 36 d5_sideOf_1 (by decide) (by rw [hs2] <;> rfl) (by decide) ?_
    refine r_iconst O d5_sideOf_36 (v := 0) (by decide) ?_
    exact r_iret O hQ d5_sideOf_37
  refine r_ite (fun hs3 => ?_) (fun hs3 => ?_)
  · refine r_look O (off := 39) 40 d5_sideOf_1 (by decide) (by rw [hs3] <;> rfl) (by decide) ?_
    refine r_iconst O d5_sideOf_40 (v := 2) (by decide) ?_
    exact r_iret O hQ d5_sideOf_41
  have nhs1 := i32_ne (n := 99) 99 (by decide) hs1
  have nhs2 := i32_ne (n := 112) 112 (by decide) hs2
  have nhs3 := i32_ne (n := 115) 115 (by decide) hs3
  refine r_look O (off := 41) 42 d5_sideOf_1 (by decide) (by simp [Op.lookupswitch.offset, Ne.symm nhs1, Ne.symm nhs2, Ne.symm nhs3]) (by decide) ?_
  refine r_bipush O d5_sideOf_42 (v := (-9)) (by decide) ?_
  exact r_iret O hQ d5_sideOf_44
-- X5.goesOn
theorem d5_goesOn_0 : decode cX5_goesOn 0 = .ok (.iload_n 0, 1) := by decide +kernel
theorem d5_goesOn_1 : decode cX5_goesOn 1 = .ok (.ifCond .ne 15, 3) := by decide +kernel
theorem d5_goesOn_4 : decode cX5_goesOn 4 = .ok (.iload_n 1, 1) := by decide +kernel
theorem d5_goesOn_5 : decode cX5_goesOn 5 = .ok (.bipush 115, 2) := by decide +kernel
theorem d5_goesOn_7 : decode cX5_goesOn 7 = .ok (.if_icmp .ne 7, 3) := by decide +kernel
theorem d5_goesOn_10 : decode cX5_goesOn 10 = .ok (.iconst 1, 1) := by decide +kernel
theorem d5_goesOn_11 : decode cX5_goesOn 11 = .ok (.goto 4, 3) := by decide +kernel
theorem d5_goesOn_14 : decode cX5_goesOn 14 = .ok (.iconst 0, 1) := by decide +kernel
theorem d5_goesOn_15 : decode cX5_goesOn 15 = .ok (.ireturn, 1) := by decide +kernel
theorem d5_goesOn_16 : decode cX5_goesOn 16 = .ok (.iload_n 0, 1) := by decide +kernel
theorem d5_goesOn_17 : decode cX5_goesOn 17 = .ok (.bipush 37, 2) := by decide +kernel
theorem d5_goesOn_19 : decode cX5_goesOn 19 = .ok (.if_icmp .lt 5, 3) := by decide +kernel
theorem d5_goesOn_22 : decode cX5_goesOn 22 = .ok (.iconst 0, 1) := by decide +kernel
theorem d5_goesOn_23 : decode cX5_goesOn 23 = .ok (.ireturn, 1) := by decide +kernel
theorem d5_goesOn_24 : decode cX5_goesOn 24 = .ok (.iload_n 0, 1) := by decide +kernel
theorem d5_goesOn_25 : decode cX5_goesOn 25 = .ok (.iconst 1, 1) := by decide +kernel
theorem d5_goesOn_26 : decode cX5_goesOn 26 = .ok (.isub, 1) := by decide +kernel
theorem d5_goesOn_27 : decode cX5_goesOn 27 = .ok (.bipush 6, 2) := by decide +kernel
theorem d5_goesOn_29 : decode cX5_goesOn 29 = .ok (.irem, 1) := by decide +kernel
theorem d5_goesOn_30 : decode cX5_goesOn 30 = .ok (.tableswitch 112 0 4 #[34, 46, 61, 79, 94], 34) := by decide +kernel
theorem d5_goesOn_64 : decode cX5_goesOn 64 = .ok (.iload_n 1, 1) := by decide +kernel
theorem d5_goesOn_65 : decode cX5_goesOn 65 = .ok (.bipush 59, 2) := by decide +kernel
theorem d5_goesOn_67 : decode cX5_goesOn 67 = .ok (.if_icmp .ne 7, 3) := by decide +kernel
theorem d5_goesOn_70 : decode cX5_goesOn 70 = .ok (.iconst 1, 1) := by decide +kernel
theorem d5_goesOn_71 : decode cX5_goesOn 71 = .ok (.goto 4, 3) := by decide +kernel
theorem d5_goesOn_74 : decode cX5_goesOn 74 = .ok (.iconst 0, 1) := by decide +kernel
theorem d5_goesOn_75 : decode cX5_goesOn 75 = .ok (.ireturn, 1) := by decide +kernel
theorem d5_goesOn_76 : decode cX5_goesOn 76 = .ok (.iload_n 1, 1) := by decide +kernel
theorem d5_goesOn_77 : decode cX5_goesOn 77 = .ok (.invokestatic 261, 3) := by decide +kernel
theorem d5_goesOn_80 : decode cX5_goesOn 80 = .ok (.bipush (-9), 2) := by decide +kernel
theorem d5_goesOn_82 : decode cX5_goesOn 82 = .ok (.if_icmp .eq 7, 3) := by decide +kernel
theorem d5_goesOn_85 : decode cX5_goesOn 85 = .ok (.iconst 1, 1) := by decide +kernel
theorem d5_goesOn_86 : decode cX5_goesOn 86 = .ok (.goto 4, 3) := by decide +kernel
theorem d5_goesOn_89 : decode cX5_goesOn 89 = .ok (.iconst 0, 1) := by decide +kernel
theorem d5_goesOn_90 : decode cX5_goesOn 90 = .ok (.ireturn, 1) := by decide +kernel
theorem d5_goesOn_91 : decode cX5_goesOn 91 = .ok (.iload_n 1, 1) := by decide +kernel
theorem d5_goesOn_92 : decode cX5_goesOn 92 = .ok (.bipush 48, 2) := by decide +kernel
theorem d5_goesOn_94 : decode cX5_goesOn 94 = .ok (.if_icmp .lt 13, 3) := by decide +kernel
theorem d5_goesOn_97 : decode cX5_goesOn 97 = .ok (.iload_n 1, 1) := by decide +kernel
theorem d5_goesOn_98 : decode cX5_goesOn 98 = .ok (.bipush 54, 2) := by decide +kernel
theorem d5_goesOn_100 : decode cX5_goesOn 100 = .ok (.if_icmp .gt 7, 3) := by decide +kernel
theorem d5_goesOn_103 : decode cX5_goesOn 103 = .ok (.iconst 1, 1) := by decide +kernel
theorem d5_goesOn_104 : decode cX5_goesOn 104 = .ok (.goto 4, 3) := by decide +kernel
theorem d5_goesOn_107 : decode cX5_goesOn 107 = .ok (.iconst 0, 1) := by decide +kernel
theorem d5_goesOn_108 : decode cX5_goesOn 108 = .ok (.ireturn, 1) := by decide +kernel
theorem d5_goesOn_109 : decode cX5_goesOn 109 = .ok (.iload_n 1, 1) := by decide +kernel
theorem d5_goesOn_110 : decode cX5_goesOn 110 = .ok (.invokestatic 264, 3) := by decide +kernel
theorem d5_goesOn_113 : decode cX5_goesOn 113 = .ok (.bipush (-9), 2) := by decide +kernel
theorem d5_goesOn_115 : decode cX5_goesOn 115 = .ok (.if_icmp .eq 7, 3) := by decide +kernel
theorem d5_goesOn_118 : decode cX5_goesOn 118 = .ok (.iconst 1, 1) := by decide +kernel
theorem d5_goesOn_119 : decode cX5_goesOn 119 = .ok (.goto 4, 3) := by decide +kernel
theorem d5_goesOn_122 : decode cX5_goesOn 122 = .ok (.iconst 0, 1) := by decide +kernel
theorem d5_goesOn_123 : decode cX5_goesOn 123 = .ok (.ireturn, 1) := by decide +kernel
theorem d5_goesOn_124 : decode cX5_goesOn 124 = .ok (.iload_n 1, 1) := by decide +kernel
theorem d5_goesOn_125 : decode cX5_goesOn 125 = .ok (.bipush 49, 2) := by decide +kernel
theorem d5_goesOn_127 : decode cX5_goesOn 127 = .ok (.if_icmp .lt 13, 3) := by decide +kernel
theorem d5_goesOn_130 : decode cX5_goesOn 130 = .ok (.iload_n 1, 1) := by decide +kernel
theorem d5_goesOn_131 : decode cX5_goesOn 131 = .ok (.bipush 57, 2) := by decide +kernel
theorem d5_goesOn_133 : decode cX5_goesOn 133 = .ok (.if_icmp .gt 7, 3) := by decide +kernel
theorem d5_goesOn_136 : decode cX5_goesOn 136 = .ok (.iconst 1, 1) := by decide +kernel
theorem d5_goesOn_137 : decode cX5_goesOn 137 = .ok (.goto 4, 3) := by decide +kernel
theorem d5_goesOn_140 : decode cX5_goesOn 140 = .ok (.iconst 0, 1) := by decide +kernel
theorem d5_goesOn_141 : decode cX5_goesOn 141 = .ok (.ireturn, 1) := by decide +kernel
theorem d5_goesOn_142 : decode cX5_goesOn 142 = .ok (.iload_n 1, 1) := by decide +kernel
theorem d5_goesOn_143 : decode cX5_goesOn 143 = .ok (.bipush 101, 2) := by decide +kernel
theorem d5_goesOn_145 : decode cX5_goesOn 145 = .ok (.if_icmp .eq 9, 3) := by decide +kernel
theorem d5_goesOn_148 : decode cX5_goesOn 148 = .ok (.iload_n 1, 1) := by decide +kernel
theorem d5_goesOn_149 : decode cX5_goesOn 149 = .ok (.bipush 111, 2) := by decide +kernel
theorem d5_goesOn_151 : decode cX5_goesOn 151 = .ok (.if_icmp .ne 7, 3) := by decide +kernel
theorem d5_goesOn_154 : decode cX5_goesOn 154 = .ok (.iconst 1, 1) := by decide +kernel
theorem d5_goesOn_155 : decode cX5_goesOn 155 = .ok (.goto 4, 3) := by decide +kernel
theorem d5_goesOn_158 : decode cX5_goesOn 158 = .ok (.iconst 0, 1) := by decide +kernel
theorem d5_goesOn_159 : decode cX5_goesOn 159 = .ok (.ireturn, 1) := by decide +kernel
noncomputable def f5_goesOn {α : Type} (p0 : Int32) (p1 : Int32) (S : MS) (K : Int32 → MS → Option α) : Option α := if p0 = 0 then (if p1 = 115 then (K 1 S) else (K 0 S)) else (if p0 < 37 then (if ((p0 - 1) - (p0 - 1) / 6 * 6) = 0 then (if p1 = 59 then (K 1 S) else (K 0 S)) else (if ((p0 - 1) - (p0 - 1) / 6 * 6) = 1 then (f5_kindOf p1 S fun r4 S3 => if r4 = (-9) then (K 0 S3) else (K 1 S3)) else (if ((p0 - 1) - (p0 - 1) / 6 * 6) = 2 then (if p1 < 48 then (K 0 S) else (if 54 < p1 then (K 0 S) else (K 1 S))) else (if ((p0 - 1) - (p0 - 1) / 6 * 6) = 3 then (f5_sideOf p1 S fun r8 S7 => if r8 = (-9) then (K 0 S7) else (K 1 S7)) else (if ((p0 - 1) - (p0 - 1) / 6 * 6) = 4 then (if p1 < 49 then (K 0 S) else (if 57 < p1 then (K 0 S) else (K 1 S))) else (if p1 = 101 then (K 1 S) else (if p1 = 111 then (K 1 S) else (K 0 S)))))))) else (K 0 S))
set_option maxHeartbeats 4000000 in
set_option maxRecDepth 100000 in
theorem c5_goesOn (l : Launch) (p0 : Int32) (p1 : Int32) (S : MS) {α : Type} : CtI 30 eX l yX5_goesOn cX5_goesOn 2 (some .boolean) (rmG 1 20) S (fun ad => [.int p0, .int p1]) (α := α) (f5_goesOn p0 p1 S) := by
  refine CtI.of (by decide) (fun _ => Nat.le_of_ble_eq_true rfl) (fun X K _ O hQ => ?_)
  have O : OK 30 X RX5 cX5_goesOn 2 (some .boolean) (rmG 1 20) := O
  show GM 30 eX X (f5_goesOn p0 p1 S K) S 0 [(0, .int p0), (1, .int p1)] []
  unfold f5_goesOn
  refine r_iload_n O d5_goesOn_0 0 rfl ?_
  refine r_if_ne O 16 d5_goesOn_1 (by decide) ?_ ?_
  · refine r_iload_n O d5_goesOn_16 0 rfl ?_
    refine r_bipush O d5_goesOn_17 (v := 37) (by decide) ?_
    refine r_icmp_lt O 24 d5_goesOn_19 (by decide) ?_ ?_
    · refine r_iload_n O d5_goesOn_24 0 rfl ?_
      refine r_iconst O d5_goesOn_25 (v := 1) (by decide) ?_
      refine r_isub O d5_goesOn_26 ?_
      refine r_bipush O d5_goesOn_27 (v := 6) (by decide) ?_
      refine r_irem_c O (by decide) d5_goesOn_29 ?_
      refine r_ite (fun hs1 => ?_) (fun hs1 => ?_)
      · refine r_tin O 64 d5_goesOn_30 (by rw [hs1]; decide) (by rw [hs1]; decide) (by rw [hs1]; rfl) (by decide) ?_
        refine r_iload_n O d5_goesOn_64 1 rfl ?_
        refine r_bipush O d5_goesOn_65 (v := 59) (by decide) ?_
        refine r_icmp_ne O 74 d5_goesOn_67 (by decide) ?_ ?_
        · refine r_iconst O d5_goesOn_74 (v := 0) (by decide) ?_
          exact r_zret O hQ (by decide) d5_goesOn_75
        · refine r_iconst O d5_goesOn_70 (v := 1) (by decide) ?_
          refine r_goto O 75 d5_goesOn_71 (by decide) ?_
          exact r_zret O hQ (by decide) d5_goesOn_75
      refine r_ite (fun hs2 => ?_) (fun hs2 => ?_)
      · refine r_tin O 76 d5_goesOn_30 (by rw [hs2]; decide) (by rw [hs2]; decide) (by rw [hs2]; rfl) (by decide) ?_
        refine r_iload_n O d5_goesOn_76 1 rfl ?_
        refine r_callSi O (rest := []) (c5_kindOf (lX X) p1 S) w_268 w_269 w_45 w_270 hy_X5_kindOf ⟨rfl, rfl, Nat.le_of_ble_eq_true rfl, Nat.le_of_ble_eq_true rfl⟩ rfl rfl (Nat.le_of_ble_eq_true rfl) d5_goesOn_77 (fun r4 S3 => ?_)
        refine r_bipush O d5_goesOn_80 (v := (-9)) (by decide) ?_
        refine r_icmp_eq O 89 d5_goesOn_82 (by decide) ?_ ?_
        · refine r_iconst O d5_goesOn_89 (v := 0) (by decide) ?_
          exact r_zret O hQ (by decide) d5_goesOn_90
        · refine r_iconst O d5_goesOn_85 (v := 1) (by decide) ?_
          refine r_goto O 90 d5_goesOn_86 (by decide) ?_
          exact r_zret O hQ (by decide) d5_goesOn_90
      refine r_ite (fun hs5 => ?_) (fun hs5 => ?_)
      · refine r_tin O 91 d5_goesOn_30 (by rw [hs5]; decide) (by rw [hs5]; decide) (by rw [hs5]; rfl) (by decide) ?_
        refine r_iload_n O d5_goesOn_91 1 rfl ?_
        refine r_bipush O d5_goesOn_92 (v := 48) (by decide) ?_
        refine r_icmp_lt O 107 d5_goesOn_94 (by decide) ?_ ?_
        · refine r_iconst O d5_goesOn_107 (v := 0) (by decide) ?_
          exact r_zret O hQ (by decide) d5_goesOn_108
        · refine r_iload_n O d5_goesOn_97 1 rfl ?_
          refine r_bipush O d5_goesOn_98 (v := 54) (by decide) ?_
          refine r_icmp_gt O 107 d5_goesOn_100 (by decide) ?_ ?_
          · refine r_iconst O d5_goesOn_107 (v := 0) (by decide) ?_
            exact r_zret O hQ (by decide) d5_goesOn_108
          · refine r_iconst O d5_goesOn_103 (v := 1) (by decide) ?_
            refine r_goto O 108 d5_goesOn_104 (by decide) ?_
            exact r_zret O hQ (by decide) d5_goesOn_108
      refine r_ite (fun hs6 => ?_) (fun hs6 => ?_)
      · refine r_tin O 109 d5_goesOn_30 (by rw [hs6]; decide) (by rw [hs6]; decide) (by rw [hs6]; rfl) (by decide) ?_
        refine r_iload_n O d5_goesOn_109 1 rfl ?_
        refine r_callSi O (rest := []) (c5_sideOf (lX X) p1 S) w_271 w_272 w_45 w_273 hy_X5_sideOf ⟨rfl, rfl, Nat.le_of_ble_eq_true rfl, Nat.le_of_ble_eq_true rfl⟩ rfl rfl (Nat.le_of_ble_eq_true rfl) d5_goesOn_110 (fun r8 S7 => ?_)
        refine r_bipush O d5_goesOn_113 (v := (-9)) (by decide) ?_
        refine r_icmp_eq O 122 d5_goesOn_115 (by decide) ?_ ?_
        · refine r_iconst O d5_goesOn_122 (v := 0) (by decide) ?_
          exact r_zret O hQ (by decide) d5_goesOn_123
        · refine r_iconst O d5_goesOn_118 (v := 1) (by decide) ?_
          refine r_goto O 123 d5_goesOn_119 (by decide) ?_
          exact r_zret O hQ (by decide) d5_goesOn_123
      refine r_ite (fun hs9 => ?_) (fun hs9 => ?_)
      · refine r_tin O 124 d5_goesOn_30 (by rw [hs9]; decide) (by rw [hs9]; decide) (by rw [hs9]; rfl) (by decide) ?_
        refine r_iload_n O d5_goesOn_124 1 rfl ?_
        refine r_bipush O d5_goesOn_125 (v := 49) (by decide) ?_
        refine r_icmp_lt O 140 d5_goesOn_127 (by decide) ?_ ?_
        · refine r_iconst O d5_goesOn_140 (v := 0) (by decide) ?_
          exact r_zret O hQ (by decide) d5_goesOn_141
        · refine r_iload_n O d5_goesOn_130 1 rfl ?_
          refine r_bipush O d5_goesOn_131 (v := 57) (by decide) ?_
          refine r_icmp_gt O 140 d5_goesOn_133 (by decide) ?_ ?_
          · refine r_iconst O d5_goesOn_140 (v := 0) (by decide) ?_
            exact r_zret O hQ (by decide) d5_goesOn_141
          · refine r_iconst O d5_goesOn_136 (v := 1) (by decide) ?_
            refine r_goto O 141 d5_goesOn_137 (by decide) ?_
            exact r_zret O hQ (by decide) d5_goesOn_141
      have nhs1 := i32_ne (n := 0) 0 (by decide) hs1
      have nhs2 := i32_ne (n := 1) 1 (by decide) hs2
      have nhs5 := i32_ne (n := 2) 2 (by decide) hs5
      have nhs6 := i32_ne (n := 3) 3 (by decide) hs6
      have nhs9 := i32_ne (n := 4) 4 (by decide) hs9
      refine r_tout O 142 d5_goesOn_30 (by omega) (by decide) ?_
      refine r_iload_n O d5_goesOn_142 1 rfl ?_
      refine r_bipush O d5_goesOn_143 (v := 101) (by decide) ?_
      refine r_icmp_eq O 154 d5_goesOn_145 (by decide) ?_ ?_
      · refine r_iconst O d5_goesOn_154 (v := 1) (by decide) ?_
        refine r_goto O 159 d5_goesOn_155 (by decide) ?_
        exact r_zret O hQ (by decide) d5_goesOn_159
      · refine r_iload_n O d5_goesOn_148 1 rfl ?_
        refine r_bipush O d5_goesOn_149 (v := 111) (by decide) ?_
        refine r_icmp_ne O 158 d5_goesOn_151 (by decide) ?_ ?_
        · refine r_iconst O d5_goesOn_158 (v := 0) (by decide) ?_
          exact r_zret O hQ (by decide) d5_goesOn_159
        · refine r_iconst O d5_goesOn_154 (v := 1) (by decide) ?_
          refine r_goto O 159 d5_goesOn_155 (by decide) ?_
          exact r_zret O hQ (by decide) d5_goesOn_159
    · refine r_iconst O d5_goesOn_22 (v := 0) (by decide) ?_
      exact r_zret O hQ (by decide) d5_goesOn_23
  · refine r_iload_n O d5_goesOn_4 1 rfl ?_
    refine r_bipush O d5_goesOn_5 (v := 115) (by decide) ?_
    refine r_icmp_ne O 14 d5_goesOn_7 (by decide) ?_ ?_
    · refine r_iconst O d5_goesOn_14 (v := 0) (by decide) ?_
      exact r_zret O hQ (by decide) d5_goesOn_15
    · refine r_iconst O d5_goesOn_10 (v := 1) (by decide) ?_
      refine r_goto O 15 d5_goesOn_11 (by decide) ?_
      exact r_zret O hQ (by decide) d5_goesOn_15
-- X5.firstFault
theorem d5_firstFault_0 : decode cX5_firstFault 0 = .ok (.iconst 0, 1) := by decide +kernel
theorem d5_firstFault_1 : decode cX5_firstFault 1 = .ok (.istore_n 3, 1) := by decide +kernel
theorem d5_firstFault_2 : decode cX5_firstFault 2 = .ok (.iload_n 3, 1) := by decide +kernel
theorem d5_firstFault_3 : decode cX5_firstFault 3 = .ok (.iload_n 2, 1) := by decide +kernel
theorem d5_firstFault_4 : decode cX5_firstFault 4 = .ok (.if_icmp .ge 26, 3) := by decide +kernel
theorem d5_firstFault_7 : decode cX5_firstFault 7 = .ok (.iload_n 3, 1) := by decide +kernel
theorem d5_firstFault_8 : decode cX5_firstFault 8 = .ok (.aload_n 0, 1) := by decide +kernel
theorem d5_firstFault_9 : decode cX5_firstFault 9 = .ok (.getfield 222, 3) := by decide +kernel
theorem d5_firstFault_12 : decode cX5_firstFault 12 = .ok (.iload_n 1, 1) := by decide +kernel
theorem d5_firstFault_13 : decode cX5_firstFault 13 = .ok (.iload_n 3, 1) := by decide +kernel
theorem d5_firstFault_14 : decode cX5_firstFault 14 = .ok (.iadd, 1) := by decide +kernel
theorem d5_firstFault_15 : decode cX5_firstFault 15 = .ok (.iaload, 1) := by decide +kernel
theorem d5_firstFault_16 : decode cX5_firstFault 16 = .ok (.invokestatic 258, 3) := by decide +kernel
theorem d5_firstFault_19 : decode cX5_firstFault 19 = .ok (.ifCond .ne 5, 3) := by decide +kernel
theorem d5_firstFault_22 : decode cX5_firstFault 22 = .ok (.iload_n 3, 1) := by decide +kernel
theorem d5_firstFault_23 : decode cX5_firstFault 23 = .ok (.ireturn, 1) := by decide +kernel
theorem d5_firstFault_24 : decode cX5_firstFault 24 = .ok (.iinc 3 1, 3) := by decide +kernel
theorem d5_firstFault_27 : decode cX5_firstFault 27 = .ok (.goto (-25), 3) := by decide +kernel
theorem d5_firstFault_30 : decode cX5_firstFault 30 = .ok (.iload_n 2, 1) := by decide +kernel
theorem d5_firstFault_31 : decode cX5_firstFault 31 = .ok (.iconst 1, 1) := by decide +kernel
theorem d5_firstFault_32 : decode cX5_firstFault 32 = .ok (.if_icmp .le 16, 3) := by decide +kernel
theorem d5_firstFault_35 : decode cX5_firstFault 35 = .ok (.iload_n 2, 1) := by decide +kernel
theorem d5_firstFault_36 : decode cX5_firstFault 36 = .ok (.bipush 6, 2) := by decide +kernel
theorem d5_firstFault_38 : decode cX5_firstFault 38 = .ok (.irem, 1) := by decide +kernel
theorem d5_firstFault_39 : decode cX5_firstFault 39 = .ok (.iconst 1, 1) := by decide +kernel
theorem d5_firstFault_40 : decode cX5_firstFault 40 = .ok (.if_icmp .ne 8, 3) := by decide +kernel
theorem d5_firstFault_43 : decode cX5_firstFault 43 = .ok (.bipush (-9), 2) := by decide +kernel
theorem d5_firstFault_45 : decode cX5_firstFault 45 = .ok (.goto 4, 3) := by decide +kernel
theorem d5_firstFault_48 : decode cX5_firstFault 48 = .ok (.iload_n 2, 1) := by decide +kernel
theorem d5_firstFault_49 : decode cX5_firstFault 49 = .ok (.ireturn, 1) := by decide +kernel
noncomputable def f5_firstFault_L2 {α : Type} (kc0 : Nat) (c1 : Int32) (c2 : Int32) (K : Int32 → MS → Option α) (KX : Int32 → MS → Option α) : Nat → Int32 → MS → Option α
  | 0, _, _ => none
  | n + 1, v3, S => if c2 ≤ v3 then (KX v3 S) else (ck (c1 + v3) 60 fun k1 => f5_goesOn v3 (S.1 (20 + kc0) k1) S fun r3 S2 => if r3 = 0 then (K v3 S2) else (nm (v3 + 1) fun x3_4 => f5_firstFault_L2 kc0 c1 c2 K KX n x3_4 S2))
noncomputable def f5_firstFault {α : Type} (k : Nat) (p1 : Int32) (p2 : Int32) (S : MS) (K : Int32 → MS → Option α) : Option α := f5_firstFault_L2 k p1 p2 K (fun v3_6 S5 => if p2 ≤ 1 then (K p2 S5) else (if (p2 - p2 / 6 * 6) = 1 then (K (-9) S5) else (K p2 S5))) FU 0 S
set_option maxHeartbeats 4000000 in
set_option maxRecDepth 100000 in
theorem l5_firstFault_2 {α : Type} {X : GX α} (O : OK 30 X RX5 cX5_firstFault 4 (some .int) (rmG 2 41)) {K : Int32 → MS → Option α} (hQ : RtI 30 eX X K) {kc0 : Nat} {c1 : Int32} {c2 : Int32} (hkc0 : kc0 < 4) {KX : Int32 → MS → Option α} (hX : ∀ v3 S, GM 30 eX X (KX v3 S) S 30 [(0, .ref (aX X (16 + kc0))), (1, .int c1), (2, .int c2), (3, .int v3)] []) : ∀ n v3 S, GM 30 eX X (f5_firstFault_L2 kc0 c1 c2 K KX n v3 S) S 2 [(0, .ref (aX X (16 + kc0))), (1, .int c1), (2, .int c2), (3, .int v3)] [] := by
  intro n
  induction n with
  | zero => intro v3 S; exact r_none
  | succ n ih =>
    intro v3 S
    rw [f5_firstFault_L2]
    refine r_iload_n O d5_firstFault_2 3 rfl ?_
    refine r_iload_n O d5_firstFault_3 2 rfl ?_
    refine r_icmp_ge O 30 d5_firstFault_4 (by decide) ?_ ?_
    · refine r_sub [0, 1, 2, 3] rfl ?_
      exact hX _ _
    · refine r_iload_n O d5_firstFault_7 3 rfl ?_
      refine r_aload_n O d5_firstFault_8 0 rfl ?_
      refine g_X5_222 O hkc0 d5_firstFault_9 ?_
      refine r_iload_n O d5_firstFault_12 1 rfl ?_
      refine r_iload_n O d5_firstFault_13 3 rfl ?_
      refine r_iadd O d5_firstFault_14 ?_
      refine r_iald O (j := (20 + kc0)) (by omega) (eX_cel hkc0) d5_firstFault_15 (fun k1 hk1 => ?_)
      refine r_callSi O (rest := []) (c5_goesOn (lX X) v3 (S.1 (20 + kc0) k1) S) w_265 w_266 w_45 w_267 hy_X5_goesOn ⟨rfl, rfl, Nat.le_of_ble_eq_true rfl, Nat.le_of_ble_eq_true rfl⟩ rfl rfl (Nat.le_of_ble_eq_true rfl) d5_firstFault_16 (fun r3 S2 => ?_)
      refine r_if_ne O 24 d5_firstFault_19 (by decide) ?_ ?_
      · refine r_iinc O d5_firstFault_24 3 (c0 := 1) rfl (by decide) (fun x3_4 => [(3, .int x3_4), (0, .ref (aX X (16 + kc0))), (1, .int c1), (2, .int c2)]) (by decide) (fun _ => rfl) (fun x3_4 => ?_)
        refine r_goto O 2 d5_firstFault_27 (by decide) ?_
        refine r_sub [1, 2, 3, 0] rfl ?_
        exact ih _ _
      · refine r_iload_n O d5_firstFault_22 3 rfl ?_
        exact r_iret O hQ d5_firstFault_23
set_option maxHeartbeats 4000000 in
set_option maxRecDepth 100000 in
theorem c5_firstFault (l : Launch) (k : Nat) (p1 : Int32) (p2 : Int32) (hk : k < 4) (S : MS) {α : Type} : CtI 30 eX l yX5_firstFault cX5_firstFault 4 (some .int) (rmG 2 41) S (fun ad => [.ref (ad (16 + k)), .int p1, .int p2]) (α := α) (f5_firstFault k p1 p2 S) := by
  refine CtI.of (by decide) (fun _ => Nat.le_of_ble_eq_true rfl) (fun X K _ O hQ => ?_)
  have O : OK 30 X RX5 cX5_firstFault 4 (some .int) (rmG 2 41) := O
  show GM 30 eX X (f5_firstFault k p1 p2 S K) S 0 [(0, .ref (aX X (16 + k))), (1, .int p1), (2, .int p2)] []
  unfold f5_firstFault
  refine r_iconst O d5_firstFault_0 (v := 0) (by decide) ?_
  refine r_istore_n O d5_firstFault_1 [(3, .int 0), (0, .ref (aX X (16 + k))), (1, .int p1), (2, .int p2)] (by decide) rfl ?_
  refine r_sub [1, 2, 3, 0] rfl ?_
  refine l5_firstFault_2 O hQ hk (fun v3_6 S5 => ?_) _ _ _
  refine r_iload_n O d5_firstFault_30 2 rfl ?_
  refine r_iconst O d5_firstFault_31 (v := 1) (by decide) ?_
  refine r_icmp_le O 48 d5_firstFault_32 (by decide) ?_ ?_
  · refine r_iload_n O d5_firstFault_48 2 rfl ?_
    exact r_iret O hQ d5_firstFault_49
  · refine r_iload_n O d5_firstFault_35 2 rfl ?_
    refine r_bipush O d5_firstFault_36 (v := 6) (by decide) ?_
    refine r_irem_c O (by decide) d5_firstFault_38 ?_
    refine r_iconst O d5_firstFault_39 (v := 1) (by decide) ?_
    refine r_icmp_ne O 48 d5_firstFault_40 (by decide) ?_ ?_
    · refine r_iload_n O d5_firstFault_48 2 rfl ?_
      exact r_iret O hQ d5_firstFault_49
    · refine r_bipush O d5_firstFault_43 (v := (-9)) (by decide) ?_
      refine r_goto O 49 d5_firstFault_45 (by decide) ?_
      exact r_iret O hQ d5_firstFault_49
-- X5.waterIn
theorem d5_waterIn_0 : decode cX5_waterIn 0 = .ok (.iload_n 0, 1) := by decide +kernel
theorem d5_waterIn_1 : decode cX5_waterIn 1 = .ok (.getstatic 267, 3) := by decide +kernel
theorem d5_waterIn_4 : decode cX5_waterIn 4 = .ok (.iload_n 1, 1) := by decide +kernel
theorem d5_waterIn_5 : decode cX5_waterIn 5 = .ok (.iaload, 1) := by decide +kernel
theorem d5_waterIn_6 : decode cX5_waterIn 6 = .ok (.idiv, 1) := by decide +kernel
theorem d5_waterIn_7 : decode cX5_waterIn 7 = .ok (.iconst 3, 1) := by decide +kernel
theorem d5_waterIn_8 : decode cX5_waterIn 8 = .ok (.irem, 1) := by decide +kernel
theorem d5_waterIn_9 : decode cX5_waterIn 9 = .ok (.ireturn, 1) := by decide +kernel
noncomputable def f5_waterIn {α : Type} (p0 : Int32) (p1 : Int32) (S : MS) (K : Int32 → MS → Option α) : Option α := ck p1 6 fun k2 => dz (pw3 k2) (K ((p0 / (pw3 k2)) - (p0 / (pw3 k2)) / 3 * 3) S)
set_option maxHeartbeats 4000000 in
set_option maxRecDepth 100000 in
theorem c5_waterIn (l : Launch) (p0 : Int32) (p1 : Int32) (S : MS) {α : Type} : CtI 30 eX l yX5_waterIn cX5_waterIn 2 (some .int) (rmG 0 0) S (fun ad => [.int p0, .int p1]) (α := α) (f5_waterIn p0 p1 S) := by
  refine CtI.of (by decide) (fun _ => Nat.le_of_ble_eq_true rfl) (fun X K _ O hQ => ?_)
  have O : OK 30 X RX5 cX5_waterIn 2 (some .int) (rmG 0 0) := O
  show GM 30 eX X (f5_waterIn p0 p1 S K) S 0 [(0, .int p0), (1, .int p1)] []
  unfold f5_waterIn
  refine r_iload_n O d5_waterIn_0 0 rfl ?_
  refine r_gets O w_292 d5_waterIn_1 (fun t3_1 ht3_1 => ?_)
  refine r_iload_n O d5_waterIn_4 1 rfl ?_
  refine r_p3 O ht3_1 d5_waterIn_5 (fun k2 hk2 => ?_)
  refine r_idiv O d5_waterIn_6 ?_
  refine r_iconst O d5_waterIn_7 (v := 3) (by decide) ?_
  refine r_irem_c O (by decide) d5_waterIn_8 ?_
  exact r_iret O hQ d5_waterIn_9
-- X3.fullSet
theorem d3_fullSet_0 : decode cX3_fullSet 0 = .ok (.iconst 0, 1) := by decide +kernel
theorem d3_fullSet_1 : decode cX3_fullSet 1 = .ok (.istore_n 2, 1) := by decide +kernel
theorem d3_fullSet_2 : decode cX3_fullSet 2 = .ok (.iconst 0, 1) := by decide +kernel
theorem d3_fullSet_3 : decode cX3_fullSet 3 = .ok (.istore_n 3, 1) := by decide +kernel
theorem d3_fullSet_4 : decode cX3_fullSet 4 = .ok (.iload_n 3, 1) := by decide +kernel
theorem d3_fullSet_5 : decode cX3_fullSet 5 = .ok (.aload_n 0, 1) := by decide +kernel
theorem d3_fullSet_6 : decode cX3_fullSet 6 = .ok (.getfield 28, 3) := by decide +kernel
theorem d3_fullSet_9 : decode cX3_fullSet 9 = .ok (.if_icmp .ge 23, 3) := by decide +kernel
theorem d3_fullSet_12 : decode cX3_fullSet 12 = .ok (.iload_n 1, 1) := by decide +kernel
theorem d3_fullSet_13 : decode cX3_fullSet 13 = .ok (.iload_n 3, 1) := by decide +kernel
theorem d3_fullSet_14 : decode cX3_fullSet 14 = .ok (.invokestatic 84, 3) := by decide +kernel
theorem d3_fullSet_17 : decode cX3_fullSet 17 = .ok (.ifCond .eq 9, 3) := by decide +kernel
theorem d3_fullSet_20 : decode cX3_fullSet 20 = .ok (.iload_n 2, 1) := by decide +kernel
theorem d3_fullSet_21 : decode cX3_fullSet 21 = .ok (.iconst 1, 1) := by decide +kernel
theorem d3_fullSet_22 : decode cX3_fullSet 22 = .ok (.iload_n 3, 1) := by decide +kernel
theorem d3_fullSet_23 : decode cX3_fullSet 23 = .ok (.ishl, 1) := by decide +kernel
theorem d3_fullSet_24 : decode cX3_fullSet 24 = .ok (.ior, 1) := by decide +kernel
theorem d3_fullSet_25 : decode cX3_fullSet 25 = .ok (.istore_n 2, 1) := by decide +kernel
theorem d3_fullSet_26 : decode cX3_fullSet 26 = .ok (.iinc 3 1, 3) := by decide +kernel
theorem d3_fullSet_29 : decode cX3_fullSet 29 = .ok (.goto (-25), 3) := by decide +kernel
theorem d3_fullSet_32 : decode cX3_fullSet 32 = .ok (.iload_n 2, 1) := by decide +kernel
theorem d3_fullSet_33 : decode cX3_fullSet 33 = .ok (.ireturn, 1) := by decide +kernel
noncomputable def f3_fullSet_L4 {α : Type} (c1 : Int32) (KX : Int32 → Int32 → MS → Option α) : Nat → Int32 → Int32 → MS → Option α
  | 0, _, _, _ => none
  | n + 1, v2, v3, S => if (S.1 2 3) ≤ v3 then (KX v2 v3 S) else (f5_waterIn c1 v3 S fun r2 S1 => if r2 = 0 then (nm (v3 + 1) fun x3_3 => f3_fullSet_L4 c1 KX n v2 x3_3 S1) else (nm (v2 ||| ((1 : Int32) <<< (v3 &&& 31))) fun x2_4 => nm (v3 + 1) fun x3_5 => f3_fullSet_L4 c1 KX n x2_4 x3_5 S1))
noncomputable def f3_fullSet {α : Type} (p1 : Int32) (S : MS) (K : Int32 → MS → Option α) : Option α := f3_fullSet_L4 p1 (fun v2_7 v3_8 S6 => K v2_7 S6) FU 0 0 S
set_option maxHeartbeats 4000000 in
set_option maxRecDepth 100000 in
theorem l3_fullSet_4 {α : Type} {X : GX α} (O : OK 30 X RX3 cX3_fullSet 4 (some .int) (rmG 1 21)) {c1 : Int32} {KX : Int32 → Int32 → MS → Option α} (hX : ∀ v2 v3 S, GM 30 eX X (KX v2 v3 S) S 32 [(0, .ref (aX X 2)), (1, .int c1), (2, .int v2), (3, .int v3)] []) : ∀ n v2 v3 S, GM 30 eX X (f3_fullSet_L4 c1 KX n v2 v3 S) S 4 [(0, .ref (aX X 2)), (1, .int c1), (2, .int v2), (3, .int v3)] [] := by
  intro n
  induction n with
  | zero => intro v2 v3 S; exact r_none
  | succ n ih =>
    intro v2 v3 S
    rw [f3_fullSet_L4]
    refine r_iload_n O d3_fullSet_4 3 rfl ?_
    refine r_aload_n O d3_fullSet_5 0 rfl ?_
    refine g_X3_28 O d3_fullSet_6 ?_
    refine r_icmp_ge O 32 d3_fullSet_9 (by decide) ?_ ?_
    · refine r_sub [0, 1, 2, 3] rfl ?_
      exact hX _ _ _
    · refine r_iload_n O d3_fullSet_12 1 rfl ?_
      refine r_iload_n O d3_fullSet_13 3 rfl ?_
      refine r_callSNi O (rest := []) (c5_waterIn (lX X) c1 v3 S) w_289 w_290 w_45 w_291 hy_X5_waterIn ⟨rfl, rfl, Nat.le_of_ble_eq_true rfl, Nat.le_of_ble_eq_true rfl⟩ rfl rfl (Nat.le_of_ble_eq_true rfl) d3_fullSet_14 (fun r2 S1 => ?_)
      refine r_if_eq O 26 d3_fullSet_17 (by decide) ?_ ?_
      · refine r_iinc O d3_fullSet_26 3 (c0 := 1) rfl (by decide) (fun x3_3 => [(3, .int x3_3), (0, .ref (aX X 2)), (1, .int c1), (2, .int v2)]) (by decide) (fun _ => rfl) (fun x3_3 => ?_)
        refine r_goto O 4 d3_fullSet_29 (by decide) ?_
        refine r_sub [1, 2, 3, 0] rfl ?_
        exact ih _ _ _
      · refine r_iload_n O d3_fullSet_20 2 rfl ?_
        refine r_iconst O d3_fullSet_21 (v := 1) (by decide) ?_
        refine r_iload_n O d3_fullSet_22 3 rfl ?_
        refine r_ishl O d3_fullSet_23 ?_
        refine r_ior O d3_fullSet_24 ?_
        refine r_istore_n_nm O d3_fullSet_25 (fun x2_4 => [(2, .int x2_4), (0, .ref (aX X 2)), (1, .int c1), (3, .int v3)]) (by decide) (fun _ => rfl) (fun x2_4 => ?_)
        refine r_iinc O d3_fullSet_26 3 (c0 := 1) rfl (by decide) (fun x3_5 => [(3, .int x3_5), (2, .int x2_4), (0, .ref (aX X 2)), (1, .int c1)]) (by decide) (fun _ => rfl) (fun x3_5 => ?_)
        refine r_goto O 4 d3_fullSet_29 (by decide) ?_
        refine r_sub [2, 3, 1, 0] rfl ?_
        exact ih _ _ _
set_option maxHeartbeats 4000000 in
set_option maxRecDepth 100000 in
theorem c3_fullSet (l : Launch) (p1 : Int32) (S : MS) {α : Type} : CtI 30 eX l yX3_fullSet cX3_fullSet 4 (some .int) (rmG 1 21) S (fun ad => [.ref (ad 2), .int p1]) (α := α) (f3_fullSet p1 S) := by
  refine CtI.of (by decide) (fun _ => Nat.le_of_ble_eq_true rfl) (fun X K _ O hQ => ?_)
  have O : OK 30 X RX3 cX3_fullSet 4 (some .int) (rmG 1 21) := O
  show GM 30 eX X (f3_fullSet p1 S K) S 0 [(0, .ref (aX X 2)), (1, .int p1)] []
  unfold f3_fullSet
  refine r_iconst O d3_fullSet_0 (v := 0) (by decide) ?_
  refine r_istore_n O d3_fullSet_1 [(2, .int 0), (0, .ref (aX X 2)), (1, .int p1)] (by decide) rfl ?_
  refine r_iconst O d3_fullSet_2 (v := 0) (by decide) ?_
  refine r_istore_n O d3_fullSet_3 [(3, .int 0), (2, .int 0), (0, .ref (aX X 2)), (1, .int p1)] (by decide) rfl ?_
  refine r_sub [2, 3, 1, 0] rfl ?_
  refine l3_fullSet_4 O (fun v2_7 v3_8 S6 => ?_) _ _ _ _
  refine r_iload_n O d3_fullSet_32 2 rfl ?_
  exact r_iret O hQ d3_fullSet_33
-- X3.build
theorem d3_build_0 : decode cX3_build 0 = .ok (.aload_n 0, 1) := by decide +kernel
theorem d3_build_1 : decode cX3_build 1 = .ok (.iload_n 3, 1) := by decide +kernel
theorem d3_build_2 : decode cX3_build 2 = .ok (.bipush 6, 2) := by decide +kernel
theorem d3_build_4 : decode cX3_build 4 = .ok (.idiv, 1) := by decide +kernel
theorem d3_build_5 : decode cX3_build 5 = .ok (.bipush 6, 2) := by decide +kernel
theorem d3_build_7 : decode cX3_build 7 = .ok (.invokestatic 42, 3) := by decide +kernel
theorem d3_build_10 : decode cX3_build 10 = .ok (.putfield 28, 3) := by decide +kernel
theorem d3_build_13 : decode cX3_build 13 = .ok (.aload_n 0, 1) := by decide +kernel
theorem d3_build_14 : decode cX3_build 14 = .ok (.iconst 0, 1) := by decide +kernel
theorem d3_build_15 : decode cX3_build 15 = .ok (.putfield 32, 3) := by decide +kernel
theorem d3_build_18 : decode cX3_build 18 = .ok (.iconst 0, 1) := by decide +kernel
theorem d3_build_19 : decode cX3_build 19 = .ok (.istore 4, 2) := by decide +kernel
theorem d3_build_21 : decode cX3_build 21 = .ok (.iload 4, 2) := by decide +kernel
theorem d3_build_23 : decode cX3_build 23 = .ok (.aload_n 0, 1) := by decide +kernel
theorem d3_build_24 : decode cX3_build 24 = .ok (.getfield 28, 3) := by decide +kernel
theorem d3_build_27 : decode cX3_build 27 = .ok (.if_icmp .ge 139, 3) := by decide +kernel
theorem d3_build_30 : decode cX3_build 30 = .ok (.iload_n 2, 1) := by decide +kernel
theorem d3_build_31 : decode cX3_build 31 = .ok (.iconst 1, 1) := by decide +kernel
theorem d3_build_32 : decode cX3_build 32 = .ok (.iadd, 1) := by decide +kernel
theorem d3_build_33 : decode cX3_build 33 = .ok (.iload 4, 2) := by decide +kernel
theorem d3_build_35 : decode cX3_build 35 = .ok (.bipush 6, 2) := by decide +kernel
theorem d3_build_37 : decode cX3_build 37 = .ok (.imul, 1) := by decide +kernel
theorem d3_build_38 : decode cX3_build 38 = .ok (.iadd, 1) := by decide +kernel
theorem d3_build_39 : decode cX3_build 39 = .ok (.istore 5, 2) := by decide +kernel
theorem d3_build_41 : decode cX3_build 41 = .ok (.aload_n 0, 1) := by decide +kernel
theorem d3_build_42 : decode cX3_build 42 = .ok (.getfield 11, 3) := by decide +kernel
theorem d3_build_45 : decode cX3_build 45 = .ok (.iload 4, 2) := by decide +kernel
theorem d3_build_47 : decode cX3_build 47 = .ok (.aaload, 1) := by decide +kernel
theorem d3_build_48 : decode cX3_build 48 = .ok (.aload_n 1, 1) := by decide +kernel
theorem d3_build_49 : decode cX3_build 49 = .ok (.getfield 48, 3) := by decide +kernel
theorem d3_build_52 : decode cX3_build 52 = .ok (.iload 5, 2) := by decide +kernel
theorem d3_build_54 : decode cX3_build 54 = .ok (.iconst 1, 1) := by decide +kernel
theorem d3_build_55 : decode cX3_build 55 = .ok (.iadd, 1) := by decide +kernel
theorem d3_build_56 : decode cX3_build 56 = .ok (.iaload, 1) := by decide +kernel
theorem d3_build_57 : decode cX3_build 57 = .ok (.invokestatic 53, 3) := by decide +kernel
theorem d3_build_60 : decode cX3_build 60 = .ok (.putfield 57, 3) := by decide +kernel
theorem d3_build_63 : decode cX3_build 63 = .ok (.aload_n 0, 1) := by decide +kernel
theorem d3_build_64 : decode cX3_build 64 = .ok (.getfield 11, 3) := by decide +kernel
theorem d3_build_67 : decode cX3_build 67 = .ok (.iload 4, 2) := by decide +kernel
theorem d3_build_69 : decode cX3_build 69 = .ok (.aaload, 1) := by decide +kernel
theorem d3_build_70 : decode cX3_build 70 = .ok (.aload_n 1, 1) := by decide +kernel
theorem d3_build_71 : decode cX3_build 71 = .ok (.getfield 48, 3) := by decide +kernel
theorem d3_build_74 : decode cX3_build 74 = .ok (.iload 5, 2) := by decide +kernel
theorem d3_build_76 : decode cX3_build 76 = .ok (.iconst 2, 1) := by decide +kernel
theorem d3_build_77 : decode cX3_build 77 = .ok (.iadd, 1) := by decide +kernel
theorem d3_build_78 : decode cX3_build 78 = .ok (.iaload, 1) := by decide +kernel
theorem d3_build_79 : decode cX3_build 79 = .ok (.bipush 48, 2) := by decide +kernel
theorem d3_build_81 : decode cX3_build 81 = .ok (.isub, 1) := by decide +kernel
theorem d3_build_82 : decode cX3_build 82 = .ok (.putfield 60, 3) := by decide +kernel
theorem d3_build_85 : decode cX3_build 85 = .ok (.aload_n 0, 1) := by decide +kernel
theorem d3_build_86 : decode cX3_build 86 = .ok (.getfield 11, 3) := by decide +kernel
theorem d3_build_89 : decode cX3_build 89 = .ok (.iload 4, 2) := by decide +kernel
theorem d3_build_91 : decode cX3_build 91 = .ok (.aaload, 1) := by decide +kernel
theorem d3_build_92 : decode cX3_build 92 = .ok (.aload_n 1, 1) := by decide +kernel
theorem d3_build_93 : decode cX3_build 93 = .ok (.getfield 48, 3) := by decide +kernel
theorem d3_build_96 : decode cX3_build 96 = .ok (.iload 5, 2) := by decide +kernel
theorem d3_build_98 : decode cX3_build 98 = .ok (.iconst 3, 1) := by decide +kernel
theorem d3_build_99 : decode cX3_build 99 = .ok (.iadd, 1) := by decide +kernel
theorem d3_build_100 : decode cX3_build 100 = .ok (.iaload, 1) := by decide +kernel
theorem d3_build_101 : decode cX3_build 101 = .ok (.invokestatic 63, 3) := by decide +kernel
theorem d3_build_104 : decode cX3_build 104 = .ok (.putfield 66, 3) := by decide +kernel
theorem d3_build_107 : decode cX3_build 107 = .ok (.aload_n 0, 1) := by decide +kernel
theorem d3_build_108 : decode cX3_build 108 = .ok (.getfield 11, 3) := by decide +kernel
theorem d3_build_111 : decode cX3_build 111 = .ok (.iload 4, 2) := by decide +kernel
theorem d3_build_113 : decode cX3_build 113 = .ok (.aaload, 1) := by decide +kernel
theorem d3_build_114 : decode cX3_build 114 = .ok (.aload_n 1, 1) := by decide +kernel
theorem d3_build_115 : decode cX3_build 115 = .ok (.getfield 48, 3) := by decide +kernel
theorem d3_build_118 : decode cX3_build 118 = .ok (.iload 5, 2) := by decide +kernel
theorem d3_build_120 : decode cX3_build 120 = .ok (.iconst 4, 1) := by decide +kernel
theorem d3_build_121 : decode cX3_build 121 = .ok (.iadd, 1) := by decide +kernel
theorem d3_build_122 : decode cX3_build 122 = .ok (.iaload, 1) := by decide +kernel
theorem d3_build_123 : decode cX3_build 123 = .ok (.bipush 48, 2) := by decide +kernel
theorem d3_build_125 : decode cX3_build 125 = .ok (.isub, 1) := by decide +kernel
theorem d3_build_126 : decode cX3_build 126 = .ok (.putfield 69, 3) := by decide +kernel
theorem d3_build_129 : decode cX3_build 129 = .ok (.aload_n 1, 1) := by decide +kernel
theorem d3_build_130 : decode cX3_build 130 = .ok (.getfield 48, 3) := by decide +kernel
theorem d3_build_133 : decode cX3_build 133 = .ok (.iload 5, 2) := by decide +kernel
theorem d3_build_135 : decode cX3_build 135 = .ok (.iconst 5, 1) := by decide +kernel
theorem d3_build_136 : decode cX3_build 136 = .ok (.iadd, 1) := by decide +kernel
theorem d3_build_137 : decode cX3_build 137 = .ok (.iaload, 1) := by decide +kernel
theorem d3_build_138 : decode cX3_build 138 = .ok (.bipush 111, 2) := by decide +kernel
theorem d3_build_140 : decode cX3_build 140 = .ok (.if_icmp .ne 20, 3) := by decide +kernel
theorem d3_build_143 : decode cX3_build 143 = .ok (.aload_n 0, 1) := by decide +kernel
theorem d3_build_144 : decode cX3_build 144 = .ok (.dup, 1) := by decide +kernel
theorem d3_build_145 : decode cX3_build 145 = .ok (.getfield 32, 3) := by decide +kernel
theorem d3_build_148 : decode cX3_build 148 = .ok (.iconst 1, 1) := by decide +kernel
theorem d3_build_149 : decode cX3_build 149 = .ok (.getstatic 72, 3) := by decide +kernel
theorem d3_build_152 : decode cX3_build 152 = .ok (.iload 4, 2) := by decide +kernel
theorem d3_build_154 : decode cX3_build 154 = .ok (.iaload, 1) := by decide +kernel
theorem d3_build_155 : decode cX3_build 155 = .ok (.imul, 1) := by decide +kernel
theorem d3_build_156 : decode cX3_build 156 = .ok (.iadd, 1) := by decide +kernel
theorem d3_build_157 : decode cX3_build 157 = .ok (.putfield 32, 3) := by decide +kernel
theorem d3_build_160 : decode cX3_build 160 = .ok (.iinc 4 1, 3) := by decide +kernel
theorem d3_build_163 : decode cX3_build 163 = .ok (.goto (-142), 3) := by decide +kernel
theorem d3_build_166 : decode cX3_build 166 = .ok (.aload_n 0, 1) := by decide +kernel
theorem d3_build_167 : decode cX3_build 167 = .ok (.aload_n 0, 1) := by decide +kernel
theorem d3_build_168 : decode cX3_build 168 = .ok (.aload_n 0, 1) := by decide +kernel
theorem d3_build_169 : decode cX3_build 169 = .ok (.getfield 32, 3) := by decide +kernel
theorem d3_build_172 : decode cX3_build 172 = .ok (.invokevirtual 75, 3) := by decide +kernel
theorem d3_build_175 : decode cX3_build 175 = .ok (.putfield 38, 3) := by decide +kernel
theorem d3_build_178 : decode cX3_build 178 = .ok (.aload_n 0, 1) := by decide +kernel
theorem d3_build_179 : decode cX3_build 179 = .ok (.iconst 1, 1) := by decide +kernel
theorem d3_build_180 : decode cX3_build 180 = .ok (.aload_n 0, 1) := by decide +kernel
theorem d3_build_181 : decode cX3_build 181 = .ok (.getfield 28, 3) := by decide +kernel
theorem d3_build_184 : decode cX3_build 184 = .ok (.ishl, 1) := by decide +kernel
theorem d3_build_185 : decode cX3_build 185 = .ok (.iconst 1, 1) := by decide +kernel
theorem d3_build_186 : decode cX3_build 186 = .ok (.isub, 1) := by decide +kernel
theorem d3_build_187 : decode cX3_build 187 = .ok (.putfield 35, 3) := by decide +kernel
theorem d3_build_190 : decode cX3_build 190 = .ok (.aload_n 0, 1) := by decide +kernel
theorem d3_build_191 : decode cX3_build 191 = .ok (.getfield 17, 3) := by decide +kernel
theorem d3_build_194 : decode cX3_build 194 = .ok (.sipush 999, 3) := by decide +kernel
theorem d3_build_197 : decode cX3_build 197 = .ok (.invokestatic 78, 3) := by decide +kernel
theorem d3_build_200 : decode cX3_build 200 = .ok (.return_, 1) := by decide +kernel
noncomputable def f3_build_L21 {α : Type} (kc1 : Nat) (c2 : Int32) (KX : Int32 → MS → Option α) : Nat → Int32 → MS → Option α
  | 0, _, _ => none
  | n + 1, v4, S => if (S.1 2 3) ≤ v4 then (KX v4 S) else (nm ((c2 + 1) + (v4 * 6)) fun x5_3 => ck v4 6 fun k4 => ck (x5_3 + 1) 60 fun k5 => f5_kindOf (S.1 (20 + kc1) k5) S fun r7 S6 => nm (sI S6 (24 + k4) 0 r7) fun S8 => ck v4 6 fun k9 => ck (x5_3 + 2) 60 fun k10 => nm (sI S8 (24 + k9) 1 ((S8.1 (20 + kc1) k10) - 48)) fun S11 => ck v4 6 fun k12 => ck (x5_3 + 3) 60 fun k13 => f5_sideOf (S11.1 (20 + kc1) k13) S11 fun r15 S14 => nm (sI S14 (24 + k12) 2 r15) fun S16 => ck v4 6 fun k17 => ck (x5_3 + 4) 60 fun k18 => nm (sI S16 (24 + k17) 3 ((S16.1 (20 + kc1) k18) - 48)) fun S19 => ck (x5_3 + 5) 60 fun k20 => if (S19.1 (20 + kc1) k20) = 111 then (ck v4 6 fun k23 => nm (sI S19 2 4 ((S19.1 2 4) + ((1 : Int32) * (pw3 k23)))) fun S24 => nm (v4 + 1) fun x4_25 => f3_build_L21 kc1 c2 KX n x4_25 S24) else (nm (v4 + 1) fun x4_21 => f3_build_L21 kc1 c2 KX n x4_21 S19))
noncomputable def f3_build {α : Type} (k : Nat) (p2 : Int32) (p3 : Int32) (S : MS) (K : MS → Option α) : Option α := nm (sI S 2 3 (if 6 < (p3 / 6) then 6 else (p3 / 6))) fun S1 => nm (sI S1 2 4 0) fun S2 => f3_build_L21 k p2 (fun v4_27 S26 => f3_fullSet (S26.1 2 4) S26 fun r29 S28 => nm (sI S28 2 6 r29) fun S30 => nm (sI S30 2 5 (((1 : Int32) <<< ((S30.1 2 3) &&& 31)) - 1)) fun S31 => fJ7_fill 8 3 999 S31 fun S32 => K S32) FU 0 S2
set_option maxHeartbeats 4000000 in
set_option maxRecDepth 100000 in
theorem l3_build_21 {α : Type} {X : GX α} (O : OK 30 X RX3 cX3_build 6 none (rmG 2 44)) {kc1 : Nat} {c2 : Int32} (hkc1 : kc1 < 4) {KX : Int32 → MS → Option α} (hX : ∀ v4 S, GM 30 eX X (KX v4 S) S 166 [(0, .ref (aX X 2)), (1, .ref (aX X (16 + kc1))), (2, .int c2), (4, .int v4)] []) : ∀ n v4 S, GM 30 eX X (f3_build_L21 kc1 c2 KX n v4 S) S 21 [(0, .ref (aX X 2)), (1, .ref (aX X (16 + kc1))), (2, .int c2), (4, .int v4)] [] := by
  intro n
  induction n with
  | zero => intro v4 S; exact r_none
  | succ n ih =>
    intro v4 S
    rw [f3_build_L21]
    refine r_iload O d3_build_21 3 rfl ?_
    refine r_aload_n O d3_build_23 0 rfl ?_
    refine g_X3_28 O d3_build_24 ?_
    refine r_icmp_ge O 166 d3_build_27 (by decide) ?_ ?_
    · refine r_sub [0, 1, 2, 3] rfl ?_
      exact hX _ _
    · refine r_iload_n O d3_build_30 2 rfl ?_
      refine r_iconst O d3_build_31 (v := 1) (by decide) ?_
      refine r_iadd O d3_build_32 ?_
      refine r_iload O d3_build_33 3 rfl ?_
      refine r_bipush O d3_build_35 (v := 6) (by decide) ?_
      refine r_imul O d3_build_37 ?_
      refine r_iadd O d3_build_38 ?_
      refine r_istore_nm O d3_build_39 (fun x5_3 => [(5, .int x5_3), (0, .ref (aX X 2)), (1, .ref (aX X (16 + kc1))), (2, .int c2), (4, .int v4)]) (by decide) (fun _ => rfl) (fun x5_3 => ?_)
      refine r_aload_n O d3_build_41 1 rfl ?_
      refine g_X3_11 O d3_build_42 ?_
      refine r_iload O d3_build_45 4 rfl ?_
      refine r_aald O (b := 24) (by decide) eX_7 rfl d3_build_47 (fun k4 hk4 => ?_)
      refine r_aload_n O d3_build_48 2 rfl ?_
      refine g_X3_48 O hkc1 d3_build_49 ?_
      refine r_iload O d3_build_52 0 rfl ?_
      refine r_iconst O d3_build_54 (v := 1) (by decide) ?_
      refine r_iadd O d3_build_55 ?_
      refine r_iald O (j := (20 + kc1)) (by omega) (eX_cel hkc1) d3_build_56 (fun k5 hk5 => ?_)
      refine r_callSNi O (rest := [.ref (aX X (24 + k4))]) (c5_kindOf (lX X) (S.1 (20 + kc1) k5) S) w_281 w_269 w_45 w_270 hy_X5_kindOf ⟨rfl, rfl, Nat.le_of_ble_eq_true rfl, Nat.le_of_ble_eq_true rfl⟩ rfl rfl (Nat.le_of_ble_eq_true rfl) d3_build_57 (fun r7 S6 => ?_)
      refine p_X3_57 O hk4 d3_build_60 (fun S8 => ?_)
      refine r_aload_n O d3_build_63 1 rfl ?_
      refine g_X3_11 O d3_build_64 ?_
      refine r_iload O d3_build_67 4 rfl ?_
      refine r_aald O (b := 24) (by decide) eX_7 rfl d3_build_69 (fun k9 hk9 => ?_)
      refine r_aload_n O d3_build_70 2 rfl ?_
      refine g_X3_48 O hkc1 d3_build_71 ?_
      refine r_iload O d3_build_74 0 rfl ?_
      refine r_iconst O d3_build_76 (v := 2) (by decide) ?_
      refine r_iadd O d3_build_77 ?_
      refine r_iald O (j := (20 + kc1)) (by omega) (eX_cel hkc1) d3_build_78 (fun k10 hk10 => ?_)
      refine r_bipush O d3_build_79 (v := 48) (by decide) ?_
      refine r_isub O d3_build_81 ?_
      refine p_X3_60 O hk9 d3_build_82 (fun S11 => ?_)
      refine r_aload_n O d3_build_85 1 rfl ?_
      refine g_X3_11 O d3_build_86 ?_
      refine r_iload O d3_build_89 4 rfl ?_
      refine r_aald O (b := 24) (by decide) eX_7 rfl d3_build_91 (fun k12 hk12 => ?_)
      refine r_aload_n O d3_build_92 2 rfl ?_
      refine g_X3_48 O hkc1 d3_build_93 ?_
      refine r_iload O d3_build_96 0 rfl ?_
      refine r_iconst O d3_build_98 (v := 3) (by decide) ?_
      refine r_iadd O d3_build_99 ?_
      refine r_iald O (j := (20 + kc1)) (by omega) (eX_cel hkc1) d3_build_100 (fun k13 hk13 => ?_)
      refine r_callSNi O (rest := [.ref (aX X (24 + k12))]) (c5_sideOf (lX X) (S11.1 (20 + kc1) k13) S11) w_282 w_272 w_45 w_273 hy_X5_sideOf ⟨rfl, rfl, Nat.le_of_ble_eq_true rfl, Nat.le_of_ble_eq_true rfl⟩ rfl rfl (Nat.le_of_ble_eq_true rfl) d3_build_101 (fun r15 S14 => ?_)
      refine p_X3_66 O hk12 d3_build_104 (fun S16 => ?_)
      refine r_aload_n O d3_build_107 1 rfl ?_
      refine g_X3_11 O d3_build_108 ?_
      refine r_iload O d3_build_111 4 rfl ?_
      refine r_aald O (b := 24) (by decide) eX_7 rfl d3_build_113 (fun k17 hk17 => ?_)
      refine r_aload_n O d3_build_114 2 rfl ?_
      refine g_X3_48 O hkc1 d3_build_115 ?_
      refine r_iload O d3_build_118 0 rfl ?_
      refine r_iconst O d3_build_120 (v := 4) (by decide) ?_
      refine r_iadd O d3_build_121 ?_
      refine r_iald O (j := (20 + kc1)) (by omega) (eX_cel hkc1) d3_build_122 (fun k18 hk18 => ?_)
      refine r_bipush O d3_build_123 (v := 48) (by decide) ?_
      refine r_isub O d3_build_125 ?_
      refine p_X3_69 O hk17 d3_build_126 (fun S19 => ?_)
      refine r_aload_n O d3_build_129 2 rfl ?_
      refine g_X3_48 O hkc1 d3_build_130 ?_
      refine r_iload O d3_build_133 0 rfl ?_
      refine r_iconst O d3_build_135 (v := 5) (by decide) ?_
      refine r_iadd O d3_build_136 ?_
      refine r_iald O (j := (20 + kc1)) (by omega) (eX_cel hkc1) d3_build_137 (fun k20 hk20 => ?_)
      refine r_bipush O d3_build_138 (v := 111) (by decide) ?_
      refine r_icmp_ne O 160 d3_build_140 (by decide) ?_ ?_
      · refine r_iinc O d3_build_160 4 (c0 := 1) rfl (by decide) (fun x4_21 => [(4, .int x4_21), (5, .int x5_3), (0, .ref (aX X 2)), (1, .ref (aX X (16 + kc1))), (2, .int c2)]) (by decide) (fun _ => rfl) (fun x4_21 => ?_)
        refine r_goto O 21 d3_build_163 (by decide) ?_
        refine r_sub [2, 3, 4, 0] rfl ?_
        exact ih _ _
      · refine r_aload_n O d3_build_143 1 rfl ?_
        refine r_dup O d3_build_144 rfl ?_
        refine g_X3_32 O d3_build_145 ?_
        refine r_iconst O d3_build_148 (v := 1) (by decide) ?_
        refine r_getsN O w_283 d3_build_149 (fun t3_22 ht3_22 => ?_)
        refine r_iload O d3_build_152 4 rfl ?_
        refine r_p3 O ht3_22 d3_build_154 (fun k23 hk23 => ?_)
        refine r_imul O d3_build_155 ?_
        refine r_iadd O d3_build_156 ?_
        refine p_X3_32 O d3_build_157 (fun S24 => ?_)
        refine r_iinc O d3_build_160 4 (c0 := 1) rfl (by decide) (fun x4_25 => [(4, .int x4_25), (5, .int x5_3), (0, .ref (aX X 2)), (1, .ref (aX X (16 + kc1))), (2, .int c2)]) (by decide) (fun _ => rfl) (fun x4_25 => ?_)
        refine r_goto O 21 d3_build_163 (by decide) ?_
        refine r_sub [2, 3, 4, 0] rfl ?_
        exact ih _ _
set_option maxHeartbeats 4000000 in
set_option maxRecDepth 100000 in
theorem c3_build (l : Launch) (k : Nat) (p2 : Int32) (p3 : Int32) (hk : k < 4) (S : MS) {α : Type} : CtV 30 eX l yX3_build cX3_build 6 none (rmG 2 44) S (fun ad => [.ref (ad 2), .ref (ad (16 + k)), .int p2, .int p3]) (α := α) (f3_build k p2 p3 S) := by
  refine CtV.of (by decide) (fun _ => Nat.le_of_ble_eq_true rfl) (fun X K _ O hQ => ?_)
  have O : OK 30 X RX3 cX3_build 6 none (rmG 2 44) := O
  show GM 30 eX X (f3_build k p2 p3 S K) S 0 [(0, .ref (aX X 2)), (1, .ref (aX X (16 + k))), (2, .int p2), (3, .int p3)] []
  unfold f3_build
  refine r_aload_n O d3_build_0 0 rfl ?_
  refine r_iload_n O d3_build_1 3 rfl ?_
  refine r_bipush O d3_build_2 (v := 6) (by decide) ?_
  refine r_idiv_c O (by decide) d3_build_4 ?_
  refine r_bipush O d3_build_5 (v := 6) (by decide) ?_
  refine r_mmin O w_278 w_279 w_52 w_280 (Nat.le_of_ble_eq_true rfl) (Nat.le_of_ble_eq_true rfl) d3_build_7 ?_
  refine p_X3_28 O d3_build_10 (fun S1 => ?_)
  refine r_aload_n O d3_build_13 0 rfl ?_
  refine r_iconst O d3_build_14 (v := 0) (by decide) ?_
  refine p_X3_32 O d3_build_15 (fun S2 => ?_)
  refine r_iconst O d3_build_18 (v := 0) (by decide) ?_
  refine r_istore O d3_build_19 [(4, .int 0), (0, .ref (aX X 2)), (1, .ref (aX X (16 + k))), (2, .int p2), (3, .int p3)] (by decide) rfl ?_
  refine r_sub [1, 2, 3, 0] rfl ?_
  refine l3_build_21 O hk (fun v4_27 S26 => ?_) _ _ _
  refine r_aload_n O d3_build_166 0 rfl ?_
  refine r_aload_n O d3_build_167 0 rfl ?_
  refine r_aload_n O d3_build_168 0 rfl ?_
  refine g_X3_32 O d3_build_169 ?_
  refine r_callVi O (b := 2) (bv := fun ad => [.int (S26.1 2 4)]) (rest := [.ref (aX X 2)]) (c3_fullSet (lX X) (S26.1 2 4) S26) (fun _ => rfl) (by decide) eX_2 rfl rfl w_285 w_286 w_287 w_46 w_288 hy_X3_fullSet ⟨rfl, rfl, Nat.le_of_ble_eq_true rfl, Nat.le_of_ble_eq_true rfl⟩ rfl rfl (Nat.le_of_ble_eq_true rfl) d3_build_172 (fun r29 S28 => ?_)
  refine p_X3_38 O d3_build_175 (fun S30 => ?_)
  refine r_aload_n O d3_build_178 0 rfl ?_
  refine r_iconst O d3_build_179 (v := 1) (by decide) ?_
  refine r_aload_n O d3_build_180 0 rfl ?_
  refine g_X3_28 O d3_build_181 ?_
  refine r_ishl O d3_build_184 ?_
  refine r_iconst O d3_build_185 (v := 1) (by decide) ?_
  refine r_isub O d3_build_186 ?_
  refine p_X3_35 O d3_build_187 (fun S31 => ?_)
  refine r_aload_n O d3_build_190 0 rfl ?_
  refine g_X3_17 O d3_build_191 ?_
  refine r_sipush O d3_build_194 (v := 999) (by decide) ?_
  refine r_callSv O (rest := []) (cJ7_fill (lX X) 8 3 999 S31 (by decide) (fun _ _ _ _ => eX_8) (Nat.le_of_ble_eq_true rfl)) w_293 w_294 w_53 w_295 hy_J7_fill_53178 ⟨rfl, rfl, Nat.le_of_ble_eq_true rfl, Nat.le_of_ble_eq_true rfl⟩ rfl rfl (Nat.le_of_ble_eq_true rfl) d3_build_197 (fun S32 => ?_)
  exact r_vret O hQ d3_build_200
-- X2.forget
theorem d2_forget_0 : decode cX2_forget 0 = .ok (.aload_n 0, 1) := by decide +kernel
theorem d2_forget_1 : decode cX2_forget 1 = .ok (.iconst 0, 1) := by decide +kernel
theorem d2_forget_2 : decode cX2_forget 2 = .ok (.putfield 35, 3) := by decide +kernel
theorem d2_forget_5 : decode cX2_forget 5 = .ok (.return_, 1) := by decide +kernel
noncomputable def f2_forget {α : Type} (S : MS) (K : MS → Option α) : Option α := nm (sI S 3 7 0) fun S1 => K S1
set_option maxHeartbeats 4000000 in
set_option maxRecDepth 100000 in
theorem c2_forget (l : Launch) (S : MS) {α : Type} : CtV 30 eX l yX2_forget cX2_forget 1 none (rmG 0 0) S (fun ad => [.ref (ad 3)]) (α := α) (f2_forget S) := by
  refine CtV.of (by decide) (fun _ => Nat.le_of_ble_eq_true rfl) (fun X K _ O hQ => ?_)
  have O : OK 30 X RX2 cX2_forget 1 none (rmG 0 0) := O
  show GM 30 eX X (f2_forget S K) S 0 [(0, .ref (aX X 3))] []
  unfold f2_forget
  refine r_aload_n O d2_forget_0 0 rfl ?_
  refine r_iconst O d2_forget_1 (v := 0) (by decide) ?_
  refine p_X2_35 O (by decide) d2_forget_2 (fun S1 => ?_)
  exact r_vret O hQ d2_forget_5
-- X5.faulted
theorem d5_faulted_0 : decode cX5_faulted 0 = .ok (.aload_n 0, 1) := by decide +kernel
theorem d5_faulted_1 : decode cX5_faulted 1 = .ok (.iload_n 1, 1) := by decide +kernel
theorem d5_faulted_2 : decode cX5_faulted 2 = .ok (.putfield 42, 3) := by decide +kernel
theorem d5_faulted_5 : decode cX5_faulted 5 = .ok (.bipush (-10), 2) := by decide +kernel
theorem d5_faulted_7 : decode cX5_faulted 7 = .ok (.iload_n 1, 1) := by decide +kernel
theorem d5_faulted_8 : decode cX5_faulted 8 = .ok (.isub, 1) := by decide +kernel
theorem d5_faulted_9 : decode cX5_faulted 9 = .ok (.ireturn, 1) := by decide +kernel
noncomputable def f5_faulted {α : Type} (p1 : Int32) (S : MS) (K : Int32 → MS → Option α) : Option α := nm (sI S 0 6 p1) fun S1 => K ((-10) - p1) S1
set_option maxHeartbeats 4000000 in
set_option maxRecDepth 100000 in
theorem c5_faulted (l : Launch) (p1 : Int32) (S : MS) {α : Type} : CtI 30 eX l yX5_faulted cX5_faulted 2 (some .int) (rmG 0 0) S (fun ad => [.ref (ad 0), .int p1]) (α := α) (f5_faulted p1 S) := by
  refine CtI.of (by decide) (fun _ => Nat.le_of_ble_eq_true rfl) (fun X K _ O hQ => ?_)
  have O : OK 30 X RX5 cX5_faulted 2 (some .int) (rmG 0 0) := O
  show GM 30 eX X (f5_faulted p1 S K) S 0 [(0, .ref (aX X 0)), (1, .int p1)] []
  unfold f5_faulted
  refine r_aload_n O d5_faulted_0 0 rfl ?_
  refine r_iload_n O d5_faulted_1 1 rfl ?_
  refine p_X5_42 O d5_faulted_2 (fun S1 => ?_)
  refine r_bipush O d5_faulted_5 (v := (-10)) (by decide) ?_
  refine r_iload_n O d5_faulted_7 1 rfl ?_
  refine r_isub O d5_faulted_8 ?_
  exact r_iret O hQ d5_faulted_9
-- X1.hasCells
theorem d1_hasCells_0 : decode cX1_hasCells 0 = .ok (.iload_n 2, 1) := by decide +kernel
theorem d1_hasCells_1 : decode cX1_hasCells 1 = .ok (.ifCond .lt 29, 3) := by decide +kernel
theorem d1_hasCells_4 : decode cX1_hasCells 4 = .ok (.iload_n 1, 1) := by decide +kernel
theorem d1_hasCells_5 : decode cX1_hasCells 5 = .ok (.ifCond .lt 25, 3) := by decide +kernel
theorem d1_hasCells_8 : decode cX1_hasCells 8 = .ok (.iload_n 1, 1) := by decide +kernel
theorem d1_hasCells_9 : decode cX1_hasCells 9 = .ok (.aload_n 0, 1) := by decide +kernel
theorem d1_hasCells_10 : decode cX1_hasCells 10 = .ok (.getfield 19, 3) := by decide +kernel
theorem d1_hasCells_13 : decode cX1_hasCells 13 = .ok (.if_icmp .gt 17, 3) := by decide +kernel
theorem d1_hasCells_16 : decode cX1_hasCells 16 = .ok (.iload_n 2, 1) := by decide +kernel
theorem d1_hasCells_17 : decode cX1_hasCells 17 = .ok (.aload_n 0, 1) := by decide +kernel
theorem d1_hasCells_18 : decode cX1_hasCells 18 = .ok (.getfield 19, 3) := by decide +kernel
theorem d1_hasCells_21 : decode cX1_hasCells 21 = .ok (.iload_n 1, 1) := by decide +kernel
theorem d1_hasCells_22 : decode cX1_hasCells 22 = .ok (.isub, 1) := by decide +kernel
theorem d1_hasCells_23 : decode cX1_hasCells 23 = .ok (.if_icmp .gt 7, 3) := by decide +kernel
theorem d1_hasCells_26 : decode cX1_hasCells 26 = .ok (.iconst 1, 1) := by decide +kernel
theorem d1_hasCells_27 : decode cX1_hasCells 27 = .ok (.goto 4, 3) := by decide +kernel
theorem d1_hasCells_30 : decode cX1_hasCells 30 = .ok (.iconst 0, 1) := by decide +kernel
theorem d1_hasCells_31 : decode cX1_hasCells 31 = .ok (.ireturn, 1) := by decide +kernel
noncomputable def f1_hasCells {α : Type} (k : Nat) (p1 : Int32) (p2 : Int32) (S : MS) (K : Int32 → MS → Option α) : Option α := if p2 < 0 then (K 0 S) else (if p1 < 0 then (K 0 S) else (if (S.1 (16 + k) 2) < p1 then (K 0 S) else (if ((S.1 (16 + k) 2) - p1) < p2 then (K 0 S) else (K 1 S))))
set_option maxHeartbeats 4000000 in
set_option maxRecDepth 100000 in
theorem c1_hasCells (l : Launch) (k : Nat) (p1 : Int32) (p2 : Int32) (hk : k < 4) (S : MS) {α : Type} : CtI 30 eX l yX1_hasCells cX1_hasCells 3 (some .boolean) (rmG 0 0) S (fun ad => [.ref (ad (16 + k)), .int p1, .int p2]) (α := α) (f1_hasCells k p1 p2 S) := by
  refine CtI.of (by decide) (fun _ => Nat.le_of_ble_eq_true rfl) (fun X K _ O hQ => ?_)
  have O : OK 30 X RX1 cX1_hasCells 3 (some .boolean) (rmG 0 0) := O
  show GM 30 eX X (f1_hasCells k p1 p2 S K) S 0 [(0, .ref (aX X (16 + k))), (1, .int p1), (2, .int p2)] []
  unfold f1_hasCells
  refine r_iload_n O d1_hasCells_0 2 rfl ?_
  refine r_if_lt O 30 d1_hasCells_1 (by decide) ?_ ?_
  · refine r_iconst O d1_hasCells_30 (v := 0) (by decide) ?_
    exact r_zret O hQ (by decide) d1_hasCells_31
  · refine r_iload_n O d1_hasCells_4 1 rfl ?_
    refine r_if_lt O 30 d1_hasCells_5 (by decide) ?_ ?_
    · refine r_iconst O d1_hasCells_30 (v := 0) (by decide) ?_
      exact r_zret O hQ (by decide) d1_hasCells_31
    · refine r_iload_n O d1_hasCells_8 1 rfl ?_
      refine r_aload_n O d1_hasCells_9 0 rfl ?_
      refine g_X1_19 O hk d1_hasCells_10 ?_
      refine r_icmp_gt O 30 d1_hasCells_13 (by decide) ?_ ?_
      · refine r_iconst O d1_hasCells_30 (v := 0) (by decide) ?_
        exact r_zret O hQ (by decide) d1_hasCells_31
      · refine r_iload_n O d1_hasCells_16 2 rfl ?_
        refine r_aload_n O d1_hasCells_17 0 rfl ?_
        refine g_X1_19 O hk d1_hasCells_18 ?_
        refine r_iload_n O d1_hasCells_21 1 rfl ?_
        refine r_isub O d1_hasCells_22 ?_
        refine r_icmp_gt O 30 d1_hasCells_23 (by decide) ?_ ?_
        · refine r_iconst O d1_hasCells_30 (v := 0) (by decide) ?_
          exact r_zret O hQ (by decide) d1_hasCells_31
        · refine r_iconst O d1_hasCells_26 (v := 1) (by decide) ?_
          refine r_goto O 31 d1_hasCells_27 (by decide) ?_
          exact r_zret O hQ (by decide) d1_hasCells_31
-- X5.ship
theorem d5_ship_0 : decode cX5_ship 0 = .ok (.aload_n 0, 1) := by decide +kernel
theorem d5_ship_1 : decode cX5_ship 1 = .ok (.iconst 0, 1) := by decide +kernel
theorem d5_ship_2 : decode cX5_ship 2 = .ok (.putfield 42, 3) := by decide +kernel
theorem d5_ship_5 : decode cX5_ship 5 = .ok (.iload_n 1, 1) := by decide +kernel
theorem d5_ship_6 : decode cX5_ship 6 = .ok (.invokestatic 46, 3) := by decide +kernel
theorem d5_ship_9 : decode cX5_ship 9 = .ok (.ifCond .ne 5, 3) := by decide +kernel
theorem d5_ship_12 : decode cX5_ship 12 = .ok (.iconst (-1), 1) := by decide +kernel
theorem d5_ship_13 : decode cX5_ship 13 = .ok (.ireturn, 1) := by decide +kernel
theorem d5_ship_14 : decode cX5_ship 14 = .ok (.iload_n 2, 1) := by decide +kernel
theorem d5_ship_15 : decode cX5_ship 15 = .ok (.invokestatic 50, 3) := by decide +kernel
theorem d5_ship_18 : decode cX5_ship 18 = .ok (.ifCond .ne 6, 3) := by decide +kernel
theorem d5_ship_21 : decode cX5_ship 21 = .ok (.bipush (-2), 2) := by decide +kernel
theorem d5_ship_23 : decode cX5_ship 23 = .ok (.ireturn, 1) := by decide +kernel
theorem d5_ship_24 : decode cX5_ship 24 = .ok (.aload_n 0, 1) := by decide +kernel
theorem d5_ship_25 : decode cX5_ship 25 = .ok (.getfield 13, 3) := by decide +kernel
theorem d5_ship_28 : decode cX5_ship 28 = .ok (.iload_n 1, 1) := by decide +kernel
theorem d5_ship_29 : decode cX5_ship 29 = .ok (.aaload, 1) := by decide +kernel
theorem d5_ship_30 : decode cX5_ship 30 = .ok (.astore 5, 2) := by decide +kernel
theorem d5_ship_32 : decode cX5_ship 32 = .ok (.aload 5, 2) := by decide +kernel
theorem d5_ship_34 : decode cX5_ship 34 = .ok (.iload_n 2, 1) := by decide +kernel
theorem d5_ship_35 : decode cX5_ship 35 = .ok (.invokevirtual 53, 3) := by decide +kernel
theorem d5_ship_38 : decode cX5_ship 38 = .ok (.istore 6, 2) := by decide +kernel
theorem d5_ship_40 : decode cX5_ship 40 = .ok (.iload 6, 2) := by decide +kernel
theorem d5_ship_42 : decode cX5_ship 42 = .ok (.ifCond .ne 11, 3) := by decide +kernel
theorem d5_ship_45 : decode cX5_ship 45 = .ok (.iload 4, 2) := by decide +kernel
theorem d5_ship_47 : decode cX5_ship 47 = .ok (.ifCond .ge 6, 3) := by decide +kernel
theorem d5_ship_50 : decode cX5_ship 50 = .ok (.iconst 4, 1) := by decide +kernel
theorem d5_ship_51 : decode cX5_ship 51 = .ok (.istore 6, 2) := by decide +kernel
theorem d5_ship_53 : decode cX5_ship 53 = .ok (.iload 6, 2) := by decide +kernel
theorem d5_ship_55 : decode cX5_ship 55 = .ok (.ifCond .ne 17, 3) := by decide +kernel
theorem d5_ship_58 : decode cX5_ship 58 = .ok (.aload 5, 2) := by decide +kernel
theorem d5_ship_60 : decode cX5_ship 60 = .ok (.iload_n 3, 1) := by decide +kernel
theorem d5_ship_61 : decode cX5_ship 61 = .ok (.iload 4, 2) := by decide +kernel
theorem d5_ship_63 : decode cX5_ship 63 = .ok (.invokevirtual 57, 3) := by decide +kernel
theorem d5_ship_66 : decode cX5_ship 66 = .ok (.ifCond .ne 6, 3) := by decide +kernel
theorem d5_ship_69 : decode cX5_ship 69 = .ok (.iconst 3, 1) := by decide +kernel
theorem d5_ship_70 : decode cX5_ship 70 = .ok (.istore 6, 2) := by decide +kernel
theorem d5_ship_72 : decode cX5_ship 72 = .ok (.iload 6, 2) := by decide +kernel
theorem d5_ship_74 : decode cX5_ship 74 = .ok (.ifCond .eq 10, 3) := by decide +kernel
theorem d5_ship_77 : decode cX5_ship 77 = .ok (.aload_n 0, 1) := by decide +kernel
theorem d5_ship_78 : decode cX5_ship 78 = .ok (.iload 6, 2) := by decide +kernel
theorem d5_ship_80 : decode cX5_ship 80 = .ok (.invokevirtual 61, 3) := by decide +kernel
theorem d5_ship_83 : decode cX5_ship 83 = .ok (.ireturn, 1) := by decide +kernel
theorem d5_ship_84 : decode cX5_ship 84 = .ok (.aload 5, 2) := by decide +kernel
theorem d5_ship_86 : decode cX5_ship 86 = .ok (.iload_n 3, 1) := by decide +kernel
theorem d5_ship_87 : decode cX5_ship 87 = .ok (.iload 4, 2) := by decide +kernel
theorem d5_ship_89 : decode cX5_ship 89 = .ok (.invokestatic 64, 3) := by decide +kernel
theorem d5_ship_92 : decode cX5_ship 92 = .ok (.istore 7, 2) := by decide +kernel
theorem d5_ship_94 : decode cX5_ship 94 = .ok (.iload 7, 2) := by decide +kernel
theorem d5_ship_96 : decode cX5_ship 96 = .ok (.bipush (-9), 2) := by decide +kernel
theorem d5_ship_98 : decode cX5_ship 98 = .ok (.if_icmp .eq 9, 3) := by decide +kernel
theorem d5_ship_101 : decode cX5_ship 101 = .ok (.bipush (-100), 2) := by decide +kernel
theorem d5_ship_103 : decode cX5_ship 103 = .ok (.iload 7, 2) := by decide +kernel
theorem d5_ship_105 : decode cX5_ship 105 = .ok (.isub, 1) := by decide +kernel
theorem d5_ship_106 : decode cX5_ship 106 = .ok (.ireturn, 1) := by decide +kernel
theorem d5_ship_107 : decode cX5_ship 107 = .ok (.aload_n 0, 1) := by decide +kernel
theorem d5_ship_108 : decode cX5_ship 108 = .ok (.getfield 20, 3) := by decide +kernel
theorem d5_ship_111 : decode cX5_ship 111 = .ok (.aload 5, 2) := by decide +kernel
theorem d5_ship_113 : decode cX5_ship 113 = .ok (.iload_n 3, 1) := by decide +kernel
theorem d5_ship_114 : decode cX5_ship 114 = .ok (.iload 4, 2) := by decide +kernel
theorem d5_ship_116 : decode cX5_ship 116 = .ok (.invokevirtual 68, 3) := by decide +kernel
theorem d5_ship_119 : decode cX5_ship 119 = .ok (.aload_n 0, 1) := by decide +kernel
theorem d5_ship_120 : decode cX5_ship 120 = .ok (.iconst 0, 1) := by decide +kernel
theorem d5_ship_121 : decode cX5_ship 121 = .ok (.putfield 35, 3) := by decide +kernel
theorem d5_ship_124 : decode cX5_ship 124 = .ok (.aload_n 0, 1) := by decide +kernel
theorem d5_ship_125 : decode cX5_ship 125 = .ok (.getfield 27, 3) := by decide +kernel
theorem d5_ship_128 : decode cX5_ship 128 = .ok (.invokevirtual 72, 3) := by decide +kernel
theorem d5_ship_131 : decode cX5_ship 131 = .ok (.aload_n 0, 1) := by decide +kernel
theorem d5_ship_132 : decode cX5_ship 132 = .ok (.getfield 20, 3) := by decide +kernel
theorem d5_ship_135 : decode cX5_ship 135 = .ok (.getfield 75, 3) := by decide +kernel
theorem d5_ship_138 : decode cX5_ship 138 = .ok (.ireturn, 1) := by decide +kernel
noncomputable def f5_ship_J72 {α : Type} (kc5 : Nat) (c3 : Int32) (c4 : Int32) (c6 : Int32) (S : MS) (K : Int32 → MS → Option α) : Option α := if c6 = 0 then (f5_firstFault kc5 c3 c4 S fun r10 S9 => if r10 = (-9) then (f3_build kc5 c3 c4 S9 fun S11 => nm (sI S11 0 4 0) fun S13 => f2_forget S13 fun S14 => K (S14.1 2 3) S14) else (K ((-100) - r10) S9)) else (f5_faulted c6 S fun r17 S16 => K r17 S16)
noncomputable def f5_ship_J53 {α : Type} (kc5 : Nat) (c3 : Int32) (c4 : Int32) (c6 : Int32) (S : MS) (K : Int32 → MS → Option α) : Option α := if c6 = 0 then (f1_hasCells kc5 c3 c4 S fun r19 S18 => if r19 = 0 then (f5_ship_J72 kc5 c3 c4 3 S18 K) else (f5_ship_J72 kc5 c3 c4 c6 S18 K)) else (f5_ship_J72 kc5 c3 c4 c6 S K)
noncomputable def f5_ship {α : Type} (p1 : Int32) (p2 : Int32) (p3 : Int32) (p4 : Int32) (S : MS) (K : Int32 → MS → Option α) : Option α := nm (sI S 0 6 0) fun S1 => f5_isSheet p1 S1 fun r3 S2 => if r3 = 0 then (K (-1) S2) else (f5_isLane p2 S2 fun r5 S4 => if r5 = 0 then (K (-2) S4) else (ck p1 4 fun k6 => f1_faultAs k6 p2 S4 fun r8 S7 => if r8 = 0 then (if 0 ≤ p4 then (f5_ship_J53 k6 p3 p4 r8 S7 K) else (f5_ship_J53 k6 p3 p4 4 S7 K)) else (f5_ship_J53 k6 p3 p4 r8 S7 K)))
set_option maxHeartbeats 4000000 in
set_option maxRecDepth 100000 in
theorem j5_ship_72 {α : Type} {X : GX α} (O : OK 30 X RX5 cX5_ship 8 (some .int) (rmG 3 69)) {K : Int32 → MS → Option α} (hQ : RtI 30 eX X K) {kc5 : Nat} {c3 : Int32} {c4 : Int32} {c6 : Int32} {S : MS} (hkc5 : kc5 < 4) : GM 30 eX X (f5_ship_J72 kc5 c3 c4 c6 S K) S 72 [(0, .ref (aX X 0)), (3, .int c3), (4, .int c4), (5, .ref (aX X (16 + kc5))), (6, .int c6)] [] := by
  unfold f5_ship_J72
  refine r_iload O d5_ship_72 4 rfl ?_
  refine r_if_eq O 84 d5_ship_74 (by decide) ?_ ?_
  · refine r_aload O d5_ship_84 3 rfl ?_
    refine r_iload_n O d5_ship_86 1 rfl ?_
    refine r_iload O d5_ship_87 2 rfl ?_
    refine r_callSi O (rest := []) (c5_firstFault (lX X) kc5 c3 c4 hkc5 S) w_262 w_263 w_45 w_264 hy_X5_firstFault ⟨rfl, rfl, Nat.le_of_ble_eq_true rfl, Nat.le_of_ble_eq_true rfl⟩ rfl rfl (Nat.le_of_ble_eq_true rfl) d5_ship_89 (fun r10 S9 => ?_)
    refine r_istore O d5_ship_92 [(7, .int r10), (0, .ref (aX X 0)), (3, .int c3), (4, .int c4), (5, .ref (aX X (16 + kc5))), (6, .int c6)] (by decide) rfl ?_
    refine r_iload O d5_ship_94 0 rfl ?_
    refine r_bipush O d5_ship_96 (v := (-9)) (by decide) ?_
    refine r_icmp_eq O 107 d5_ship_98 (by decide) ?_ ?_
    · refine r_aload_n O d5_ship_107 1 rfl ?_
      refine g_X5_20 O d5_ship_108 ?_
      refine r_aload O d5_ship_111 4 rfl ?_
      refine r_iload_n O d5_ship_113 2 rfl ?_
      refine r_iload O d5_ship_114 3 rfl ?_
      refine r_callVv O (b := 2) (bv := fun ad => [.ref (ad (16 + kc5)), .int c3, .int c4]) (rest := []) (c3_build (lX X) kc5 c3 c4 hkc5 S9) (fun _ => rfl) (by decide) eX_2 rfl rfl w_274 w_275 w_276 w_46 w_277 hy_X3_build ⟨rfl, rfl, Nat.le_of_ble_eq_true rfl, Nat.le_of_ble_eq_true rfl⟩ rfl rfl (Nat.le_of_ble_eq_true rfl) d5_ship_116 (fun S11 => ?_)
      refine r_aload_n O d5_ship_119 1 rfl ?_
      refine r_iconst O d5_ship_120 (v := 0) (by decide) ?_
      refine p_X5_35 O d5_ship_121 (fun S13 => ?_)
      refine r_aload_n O d5_ship_124 1 rfl ?_
      refine g_X5_27 O d5_ship_125 ?_
      refine r_callVv O (b := 3) (bv := fun ad => []) (rest := []) (c2_forget (lX X) S13) (fun _ => rfl) (by decide) eX_3 rfl rfl w_296 w_297 w_298 w_49 w_299 hy_X2_forget ⟨rfl, rfl, Nat.le_of_ble_eq_true rfl, Nat.le_of_ble_eq_true rfl⟩ rfl rfl (Nat.le_of_ble_eq_true rfl) d5_ship_128 (fun S14 => ?_)
      refine r_aload_n O d5_ship_131 1 rfl ?_
      refine g_X5_20 O d5_ship_132 ?_
      refine g_X5_75 O d5_ship_135 ?_
      exact r_iret O hQ d5_ship_138
    · refine r_bipush O d5_ship_101 (v := (-100)) (by decide) ?_
      refine r_iload O d5_ship_103 0 rfl ?_
      refine r_isub O d5_ship_105 ?_
      exact r_iret O hQ d5_ship_106
  · refine r_aload_n O d5_ship_77 0 rfl ?_
    refine r_iload O d5_ship_78 4 rfl ?_
    refine r_callVi O (b := 0) (bv := fun ad => [.int c6]) (rest := []) (c5_faulted (lX X) c6 S) (fun _ => rfl) (by decide) eX_0 rfl rfl w_258 w_260 w_0 w_45 w_261 hy_X5_faulted ⟨rfl, rfl, Nat.le_of_ble_eq_true rfl, Nat.le_of_ble_eq_true rfl⟩ rfl rfl (Nat.le_of_ble_eq_true rfl) d5_ship_80 (fun r17 S16 => ?_)
    exact r_iret O hQ d5_ship_83
set_option maxHeartbeats 4000000 in
set_option maxRecDepth 100000 in
theorem j5_ship_53 {α : Type} {X : GX α} (O : OK 30 X RX5 cX5_ship 8 (some .int) (rmG 3 69)) {K : Int32 → MS → Option α} (hQ : RtI 30 eX X K) {kc5 : Nat} {c3 : Int32} {c4 : Int32} {c6 : Int32} {S : MS} (hkc5 : kc5 < 4) : GM 30 eX X (f5_ship_J53 kc5 c3 c4 c6 S K) S 53 [(0, .ref (aX X 0)), (3, .int c3), (4, .int c4), (5, .ref (aX X (16 + kc5))), (6, .int c6)] [] := by
  unfold f5_ship_J53
  refine r_iload O d5_ship_53 4 rfl ?_
  refine r_if_ne O 72 d5_ship_55 (by decide) ?_ ?_
  · refine r_sub [0, 1, 2, 3, 4] rfl ?_
    exact j5_ship_72 O hQ hkc5
  · refine r_aload O d5_ship_58 3 rfl ?_
    refine r_iload_n O d5_ship_60 1 rfl ?_
    refine r_iload O d5_ship_61 2 rfl ?_
    refine r_callVi O (b := (16 + kc5)) (bv := fun ad => [.int c3, .int c4]) (rest := []) (c1_hasCells (lX X) kc5 c3 c4 hkc5 S) (fun _ => rfl) (by omega) (eX_row hkc5) rfl rfl w_254 w_255 w_256 w_50 w_257 hy_X1_hasCells ⟨rfl, rfl, Nat.le_of_ble_eq_true rfl, Nat.le_of_ble_eq_true rfl⟩ rfl rfl (Nat.le_of_ble_eq_true rfl) d5_ship_63 (fun r19 S18 => ?_)
    refine r_if_ne O 72 d5_ship_66 (by decide) ?_ ?_
    · refine r_sub [0, 1, 2, 3, 4] rfl ?_
      exact j5_ship_72 O hQ hkc5
    · refine r_iconst O d5_ship_69 (v := 3) (by decide) ?_
      refine r_istore O d5_ship_70 [(6, .int 3), (0, .ref (aX X 0)), (3, .int c3), (4, .int c4), (5, .ref (aX X (16 + kc5)))] (by decide) rfl ?_
      refine r_sub [1, 2, 3, 4, 0] rfl ?_
      exact j5_ship_72 O hQ hkc5
set_option maxHeartbeats 4000000 in
set_option maxRecDepth 100000 in
theorem c5_ship (l : Launch) (p1 : Int32) (p2 : Int32) (p3 : Int32) (p4 : Int32) (S : MS) {α : Type} : CtI 30 eX l yX5_ship cX5_ship 8 (some .int) (rmG 3 69) S (fun ad => [.ref (ad 0), .int p1, .int p2, .int p3, .int p4]) (α := α) (f5_ship p1 p2 p3 p4 S) := by
  refine CtI.of (by decide) (fun _ => Nat.le_of_ble_eq_true rfl) (fun X K _ O hQ => ?_)
  have O : OK 30 X RX5 cX5_ship 8 (some .int) (rmG 3 69) := O
  show GM 30 eX X (f5_ship p1 p2 p3 p4 S K) S 0 [(0, .ref (aX X 0)), (1, .int p1), (2, .int p2), (3, .int p3), (4, .int p4)] []
  unfold f5_ship
  refine r_aload_n O d5_ship_0 0 rfl ?_
  refine r_iconst O d5_ship_1 (v := 0) (by decide) ?_
  refine p_X5_42 O d5_ship_2 (fun S1 => ?_)
  refine r_iload_n O d5_ship_5 1 rfl ?_
  refine r_callSi O (rest := []) (c5_isSheet (lX X) p1 S1) w_240 w_241 w_45 w_242 hy_X5_isSheet ⟨rfl, rfl, Nat.le_of_ble_eq_true rfl, Nat.le_of_ble_eq_true rfl⟩ rfl rfl (Nat.le_of_ble_eq_true rfl) d5_ship_6 (fun r3 S2 => ?_)
  refine r_if_ne O 14 d5_ship_9 (by decide) ?_ ?_
  · refine r_iload_n O d5_ship_14 2 rfl ?_
    refine r_callSi O (rest := []) (c5_isLane (lX X) p2 S2) w_243 w_244 w_45 w_245 hy_X5_isLane ⟨rfl, rfl, Nat.le_of_ble_eq_true rfl, Nat.le_of_ble_eq_true rfl⟩ rfl rfl (Nat.le_of_ble_eq_true rfl) d5_ship_15 (fun r5 S4 => ?_)
    refine r_if_ne O 24 d5_ship_18 (by decide) ?_ ?_
    · refine r_aload_n O d5_ship_24 0 rfl ?_
      refine g_X5_13 O d5_ship_25 ?_
      refine r_iload_n O d5_ship_28 1 rfl ?_
      refine r_aald O (b := 16) (by decide) eX_1 rfl d5_ship_29 (fun k6 hk6 => ?_)
      refine r_astore O d5_ship_30 [(5, .ref (aX X (16 + k6))), (0, .ref (aX X 0)), (1, .int p1), (2, .int p2), (3, .int p3), (4, .int p4)] (by decide) rfl ?_
      refine r_aload O d5_ship_32 0 rfl ?_
      refine r_iload_n O d5_ship_34 3 rfl ?_
      refine r_callVi O (b := (16 + k6)) (bv := fun ad => [.int p2]) (rest := []) (c1_faultAs (lX X) k6 p2 hk6 S4) (fun _ => rfl) (by omega) (eX_row hk6) rfl rfl w_246 w_247 w_248 w_50 w_249 hy_X1_faultAs ⟨rfl, rfl, Nat.le_of_ble_eq_true rfl, Nat.le_of_ble_eq_true rfl⟩ rfl rfl (Nat.le_of_ble_eq_true rfl) d5_ship_35 (fun r8 S7 => ?_)
      refine r_istore O d5_ship_38 [(6, .int r8), (5, .ref (aX X (16 + k6))), (0, .ref (aX X 0)), (1, .int p1), (2, .int p2), (3, .int p3), (4, .int p4)] (by decide) rfl ?_
      refine r_iload O d5_ship_40 0 rfl ?_
      refine r_if_ne O 53 d5_ship_42 (by decide) ?_ ?_
      · refine r_sub [2, 5, 6, 1, 0] rfl ?_
        exact j5_ship_53 O hQ hk6
      · refine r_iload O d5_ship_45 6 rfl ?_
        refine r_if_ge O 53 d5_ship_47 (by decide) ?_ ?_
        · refine r_sub [2, 5, 6, 1, 0] rfl ?_
          exact j5_ship_53 O hQ hk6
        · refine r_iconst O d5_ship_50 (v := 4) (by decide) ?_
          refine r_istore O d5_ship_51 [(6, .int 4), (5, .ref (aX X (16 + k6))), (0, .ref (aX X 0)), (1, .int p1), (2, .int p2), (3, .int p3), (4, .int p4)] (by decide) rfl ?_
          refine r_sub [2, 5, 6, 1, 0] rfl ?_
          exact j5_ship_53 O hQ hk6
    · refine r_bipush O d5_ship_21 (v := (-2)) (by decide) ?_
      exact r_iret O hQ d5_ship_23
  · refine r_iconst O d5_ship_12 (v := (-1)) (by decide) ?_
    exact r_iret O hQ d5_ship_13
-- X5.isTank
theorem d5_isTank_0 : decode cX5_isTank 0 = .ok (.iload_n 1, 1) := by decide +kernel
theorem d5_isTank_1 : decode cX5_isTank 1 = .ok (.ifCond .lt 18, 3) := by decide +kernel
theorem d5_isTank_4 : decode cX5_isTank 4 = .ok (.iload_n 1, 1) := by decide +kernel
theorem d5_isTank_5 : decode cX5_isTank 5 = .ok (.aload_n 0, 1) := by decide +kernel
theorem d5_isTank_6 : decode cX5_isTank 6 = .ok (.getfield 20, 3) := by decide +kernel
theorem d5_isTank_9 : decode cX5_isTank 9 = .ok (.getfield 75, 3) := by decide +kernel
theorem d5_isTank_12 : decode cX5_isTank 12 = .ok (.if_icmp .ge 7, 3) := by decide +kernel
theorem d5_isTank_15 : decode cX5_isTank 15 = .ok (.iconst 1, 1) := by decide +kernel
theorem d5_isTank_16 : decode cX5_isTank 16 = .ok (.goto 4, 3) := by decide +kernel
theorem d5_isTank_19 : decode cX5_isTank 19 = .ok (.iconst 0, 1) := by decide +kernel
theorem d5_isTank_20 : decode cX5_isTank 20 = .ok (.ireturn, 1) := by decide +kernel
noncomputable def f5_isTank {α : Type} (p1 : Int32) (S : MS) (K : Int32 → MS → Option α) : Option α := if p1 < 0 then (K 0 S) else (if (S.1 2 3) ≤ p1 then (K 0 S) else (K 1 S))
set_option maxHeartbeats 4000000 in
set_option maxRecDepth 100000 in
theorem c5_isTank (l : Launch) (p1 : Int32) (S : MS) {α : Type} : CtI 30 eX l yX5_isTank cX5_isTank 2 (some .boolean) (rmG 0 0) S (fun ad => [.ref (ad 0), .int p1]) (α := α) (f5_isTank p1 S) := by
  refine CtI.of (by decide) (fun _ => Nat.le_of_ble_eq_true rfl) (fun X K _ O hQ => ?_)
  have O : OK 30 X RX5 cX5_isTank 2 (some .boolean) (rmG 0 0) := O
  show GM 30 eX X (f5_isTank p1 S K) S 0 [(0, .ref (aX X 0)), (1, .int p1)] []
  unfold f5_isTank
  refine r_iload_n O d5_isTank_0 1 rfl ?_
  refine r_if_lt O 19 d5_isTank_1 (by decide) ?_ ?_
  · refine r_iconst O d5_isTank_19 (v := 0) (by decide) ?_
    exact r_zret O hQ (by decide) d5_isTank_20
  · refine r_iload_n O d5_isTank_4 1 rfl ?_
    refine r_aload_n O d5_isTank_5 0 rfl ?_
    refine g_X5_20 O d5_isTank_6 ?_
    refine g_X5_75 O d5_isTank_9 ?_
    refine r_icmp_ge O 19 d5_isTank_12 (by decide) ?_ ?_
    · refine r_iconst O d5_isTank_19 (v := 0) (by decide) ?_
      exact r_zret O hQ (by decide) d5_isTank_20
    · refine r_iconst O d5_isTank_15 (v := 1) (by decide) ?_
      refine r_goto O 20 d5_isTank_16 (by decide) ?_
      exact r_zret O hQ (by decide) d5_isTank_20
-- X5.weightOf
theorem d5_weightOf_0 : decode cX5_weightOf 0 = .ok (.iload_n 0, 1) := by decide +kernel
theorem d5_weightOf_1 : decode cX5_weightOf 1 = .ok (.iconst 1, 1) := by decide +kernel
theorem d5_weightOf_2 : decode cX5_weightOf 2 = .ok (.if_icmp .ne 7, 3) := by decide +kernel
theorem d5_weightOf_5 : decode cX5_weightOf 5 = .ok (.iload_n 1, 1) := by decide +kernel
theorem d5_weightOf_6 : decode cX5_weightOf 6 = .ok (.iconst 1, 1) := by decide +kernel
theorem d5_weightOf_7 : decode cX5_weightOf 7 = .ok (.iadd, 1) := by decide +kernel
theorem d5_weightOf_8 : decode cX5_weightOf 8 = .ok (.ireturn, 1) := by decide +kernel
theorem d5_weightOf_9 : decode cX5_weightOf 9 = .ok (.iload_n 0, 1) := by decide +kernel
theorem d5_weightOf_10 : decode cX5_weightOf 10 = .ok (.iconst 2, 1) := by decide +kernel
theorem d5_weightOf_11 : decode cX5_weightOf 11 = .ok (.if_icmp .ne 7, 3) := by decide +kernel
theorem d5_weightOf_14 : decode cX5_weightOf 14 = .ok (.iconst 2, 1) := by decide +kernel
theorem d5_weightOf_15 : decode cX5_weightOf 15 = .ok (.iload_n 1, 1) := by decide +kernel
theorem d5_weightOf_16 : decode cX5_weightOf 16 = .ok (.imul, 1) := by decide +kernel
theorem d5_weightOf_17 : decode cX5_weightOf 17 = .ok (.ireturn, 1) := by decide +kernel
theorem d5_weightOf_18 : decode cX5_weightOf 18 = .ok (.iload_n 1, 1) := by decide +kernel
theorem d5_weightOf_19 : decode cX5_weightOf 19 = .ok (.ireturn, 1) := by decide +kernel
noncomputable def f5_weightOf {α : Type} (p0 : Int32) (p1 : Int32) (S : MS) (K : Int32 → MS → Option α) : Option α := if p0 = 1 then (K (p1 + 1) S) else (if p0 = 2 then (K ((2 : Int32) * p1) S) else (K p1 S))
set_option maxHeartbeats 4000000 in
set_option maxRecDepth 100000 in
theorem c5_weightOf (l : Launch) (p0 : Int32) (p1 : Int32) (S : MS) {α : Type} : CtI 30 eX l yX5_weightOf cX5_weightOf 2 (some .int) (rmG 0 0) S (fun ad => [.int p0, .int p1]) (α := α) (f5_weightOf p0 p1 S) := by
  refine CtI.of (by decide) (fun _ => Nat.le_of_ble_eq_true rfl) (fun X K _ O hQ => ?_)
  have O : OK 30 X RX5 cX5_weightOf 2 (some .int) (rmG 0 0) := O
  show GM 30 eX X (f5_weightOf p0 p1 S K) S 0 [(0, .int p0), (1, .int p1)] []
  unfold f5_weightOf
  refine r_iload_n O d5_weightOf_0 0 rfl ?_
  refine r_iconst O d5_weightOf_1 (v := 1) (by decide) ?_
  refine r_icmp_ne O 9 d5_weightOf_2 (by decide) ?_ ?_
  · refine r_iload_n O d5_weightOf_9 0 rfl ?_
    refine r_iconst O d5_weightOf_10 (v := 2) (by decide) ?_
    refine r_icmp_ne O 18 d5_weightOf_11 (by decide) ?_ ?_
    · refine r_iload_n O d5_weightOf_18 1 rfl ?_
      exact r_iret O hQ d5_weightOf_19
    · refine r_iconst O d5_weightOf_14 (v := 2) (by decide) ?_
      refine r_iload_n O d5_weightOf_15 1 rfl ?_
      refine r_imul O d5_weightOf_16 ?_
      exact r_iret O hQ d5_weightOf_17
  · refine r_iload_n O d5_weightOf_5 1 rfl ?_
    refine r_iconst O d5_weightOf_6 (v := 1) (by decide) ?_
    refine r_iadd O d5_weightOf_7 ?_
    exact r_iret O hQ d5_weightOf_8
-- X4.weight
theorem d4_weight_0 : decode cX4_weight 0 = .ok (.aload_n 0, 1) := by decide +kernel
theorem d4_weight_1 : decode cX4_weight 1 = .ok (.getfield 9, 3) := by decide +kernel
theorem d4_weight_4 : decode cX4_weight 4 = .ok (.aload_n 0, 1) := by decide +kernel
theorem d4_weight_5 : decode cX4_weight 5 = .ok (.getfield 21, 3) := by decide +kernel
theorem d4_weight_8 : decode cX4_weight 8 = .ok (.invokestatic 24, 3) := by decide +kernel
theorem d4_weight_11 : decode cX4_weight 11 = .ok (.ireturn, 1) := by decide +kernel
noncomputable def f4_weight {α : Type} (k : Nat) (S : MS) (K : Int32 → MS → Option α) : Option α := f5_weightOf (S.1 (24 + k) 0) (S.1 (24 + k) 3) S fun r2 S1 => K r2 S1
set_option maxHeartbeats 4000000 in
set_option maxRecDepth 100000 in
theorem c4_weight (l : Launch) (k : Nat) (hk : k < 6) (S : MS) {α : Type} : CtI 30 eX l yX4_weight cX4_weight 1 (some .int) (rmG 1 21) S (fun ad => [.ref (ad (24 + k))]) (α := α) (f4_weight k S) := by
  refine CtI.of (by decide) (fun _ => Nat.le_of_ble_eq_true rfl) (fun X K _ O hQ => ?_)
  have O : OK 30 X RX4 cX4_weight 1 (some .int) (rmG 1 21) := O
  show GM 30 eX X (f4_weight k S K) S 0 [(0, .ref (aX X (24 + k)))] []
  unfold f4_weight
  refine r_aload_n O d4_weight_0 0 rfl ?_
  refine g_X4_9 O hk d4_weight_1 ?_
  refine r_aload_n O d4_weight_4 0 rfl ?_
  refine g_X4_21 O hk d4_weight_5 ?_
  refine r_callSNi O (rest := []) (c5_weightOf (lX X) (S.1 (24 + k) 0) (S.1 (24 + k) 3) S) w_312 w_313 w_45 w_314 hy_X5_weightOf ⟨rfl, rfl, Nat.le_of_ble_eq_true rfl, Nat.le_of_ble_eq_true rfl⟩ rfl rfl (Nat.le_of_ble_eq_true rfl) d4_weight_8 (fun r2 S1 => ?_)
  exact r_iret O hQ d4_weight_11
-- X5.holds
theorem d5_holds_0 : decode cX5_holds 0 = .ok (.iload_n 0, 1) := by decide +kernel
theorem d5_holds_1 : decode cX5_holds 1 = .ok (.iload_n 1, 1) := by decide +kernel
theorem d5_holds_2 : decode cX5_holds 2 = .ok (.ishr, 1) := by decide +kernel
theorem d5_holds_3 : decode cX5_holds 3 = .ok (.iconst 1, 1) := by decide +kernel
theorem d5_holds_4 : decode cX5_holds 4 = .ok (.iand, 1) := by decide +kernel
theorem d5_holds_5 : decode cX5_holds 5 = .ok (.iconst 1, 1) := by decide +kernel
theorem d5_holds_6 : decode cX5_holds 6 = .ok (.if_icmp .ne 7, 3) := by decide +kernel
theorem d5_holds_9 : decode cX5_holds 9 = .ok (.iconst 1, 1) := by decide +kernel
theorem d5_holds_10 : decode cX5_holds 10 = .ok (.goto 4, 3) := by decide +kernel
theorem d5_holds_13 : decode cX5_holds 13 = .ok (.iconst 0, 1) := by decide +kernel
theorem d5_holds_14 : decode cX5_holds 14 = .ok (.ireturn, 1) := by decide +kernel
noncomputable def f5_holds {α : Type} (p0 : Int32) (p1 : Int32) (S : MS) (K : Int32 → MS → Option α) : Option α := if ((p0 >>> (p1 &&& 31)) &&& 1) = 1 then (K 1 S) else (K 0 S)
set_option maxHeartbeats 4000000 in
set_option maxRecDepth 100000 in
theorem c5_holds (l : Launch) (p0 : Int32) (p1 : Int32) (S : MS) {α : Type} : CtI 30 eX l yX5_holds cX5_holds 2 (some .boolean) (rmG 0 0) S (fun ad => [.int p0, .int p1]) (α := α) (f5_holds p0 p1 S) := by
  refine CtI.of (by decide) (fun _ => Nat.le_of_ble_eq_true rfl) (fun X K _ O hQ => ?_)
  have O : OK 30 X RX5 cX5_holds 2 (some .boolean) (rmG 0 0) := O
  show GM 30 eX X (f5_holds p0 p1 S K) S 0 [(0, .int p0), (1, .int p1)] []
  unfold f5_holds
  refine r_iload_n O d5_holds_0 0 rfl ?_
  refine r_iload_n O d5_holds_1 1 rfl ?_
  refine r_ishr O d5_holds_2 ?_
  refine r_iconst O d5_holds_3 (v := 1) (by decide) ?_
  refine r_iand O d5_holds_4 ?_
  refine r_iconst O d5_holds_5 (v := 1) (by decide) ?_
  refine r_icmp_ne O 13 d5_holds_6 (by decide) ?_ ?_
  · refine r_iconst O d5_holds_13 (v := 0) (by decide) ?_
    exact r_zret O hQ (by decide) d5_holds_14
  · refine r_iconst O d5_holds_9 (v := 1) (by decide) ?_
    refine r_goto O 14 d5_holds_10 (by decide) ?_
    exact r_zret O hQ (by decide) d5_holds_14
-- X5.oneIf
theorem d5_oneIf_0 : decode cX5_oneIf 0 = .ok (.iload_n 0, 1) := by decide +kernel
theorem d5_oneIf_1 : decode cX5_oneIf 1 = .ok (.ifCond .eq 7, 3) := by decide +kernel
theorem d5_oneIf_4 : decode cX5_oneIf 4 = .ok (.iconst 1, 1) := by decide +kernel
theorem d5_oneIf_5 : decode cX5_oneIf 5 = .ok (.goto 4, 3) := by decide +kernel
theorem d5_oneIf_8 : decode cX5_oneIf 8 = .ok (.iconst 0, 1) := by decide +kernel
theorem d5_oneIf_9 : decode cX5_oneIf 9 = .ok (.ireturn, 1) := by decide +kernel
noncomputable def f5_oneIf {α : Type} (p0 : Int32) (S : MS) (K : Int32 → MS → Option α) : Option α := if p0 = 0 then (K 0 S) else (K 1 S)
set_option maxHeartbeats 4000000 in
set_option maxRecDepth 100000 in
theorem c5_oneIf (l : Launch) (p0 : Int32) (S : MS) {α : Type} : CtI 30 eX l yX5_oneIf cX5_oneIf 1 (some .int) (rmG 0 0) S (fun ad => [.int p0]) (α := α) (f5_oneIf p0 S) := by
  refine CtI.of (by decide) (fun _ => Nat.le_of_ble_eq_true rfl) (fun X K _ O hQ => ?_)
  have O : OK 30 X RX5 cX5_oneIf 1 (some .int) (rmG 0 0) := O
  show GM 30 eX X (f5_oneIf p0 S K) S 0 [(0, .int p0)] []
  unfold f5_oneIf
  refine r_iload_n O d5_oneIf_0 0 rfl ?_
  refine r_if_eq O 8 d5_oneIf_1 (by decide) ?_ ?_
  · refine r_iconst O d5_oneIf_8 (v := 0) (by decide) ?_
    exact r_iret O hQ d5_oneIf_9
  · refine r_iconst O d5_oneIf_4 (v := 1) (by decide) ?_
    refine r_goto O 9 d5_oneIf_5 (by decide) ?_
    exact r_iret O hQ d5_oneIf_9
-- X0.clear
theorem d0_clear_0 : decode cX0_clear 0 = .ok (.aload_n 0, 1) := by decide +kernel
theorem d0_clear_1 : decode cX0_clear 1 = .ok (.getfield 9, 3) := by decide +kernel
theorem d0_clear_4 : decode cX0_clear 4 = .ok (.iconst 0, 1) := by decide +kernel
theorem d0_clear_5 : decode cX0_clear 5 = .ok (.invokestatic 25, 3) := by decide +kernel
theorem d0_clear_8 : decode cX0_clear 8 = .ok (.aload_n 0, 1) := by decide +kernel
theorem d0_clear_9 : decode cX0_clear 9 = .ok (.iconst 0, 1) := by decide +kernel
theorem d0_clear_10 : decode cX0_clear 10 = .ok (.putfield 15, 3) := by decide +kernel
theorem d0_clear_13 : decode cX0_clear 13 = .ok (.aload_n 0, 1) := by decide +kernel
theorem d0_clear_14 : decode cX0_clear 14 = .ok (.iconst 0, 1) := by decide +kernel
theorem d0_clear_15 : decode cX0_clear 15 = .ok (.putfield 19, 3) := by decide +kernel
theorem d0_clear_18 : decode cX0_clear 18 = .ok (.aload_n 0, 1) := by decide +kernel
theorem d0_clear_19 : decode cX0_clear 19 = .ok (.iconst 0, 1) := by decide +kernel
theorem d0_clear_20 : decode cX0_clear 20 = .ok (.putfield 22, 3) := by decide +kernel
theorem d0_clear_23 : decode cX0_clear 23 = .ok (.return_, 1) := by decide +kernel
noncomputable def f0_clear {α : Type} (S : MS) (K : MS → Option α) : Option α := fJ7_fill 6 7 0 S fun S1 => nm (sI S1 5 1 0) fun S3 => nm (sI S3 5 2 0) fun S4 => nm (sI S4 5 3 0) fun S5 => K S5
set_option maxHeartbeats 4000000 in
set_option maxRecDepth 100000 in
theorem c0_clear (l : Launch) (S : MS) {α : Type} : CtV 30 eX l yX0_clear cX0_clear 1 none (rmG 1 23) S (fun ad => [.ref (ad 5)]) (α := α) (f0_clear S) := by
  refine CtV.of (by decide) (fun _ => Nat.le_of_ble_eq_true rfl) (fun X K _ O hQ => ?_)
  have O : OK 30 X RX0 cX0_clear 1 none (rmG 1 23) := O
  show GM 30 eX X (f0_clear S K) S 0 [(0, .ref (aX X 5))] []
  unfold f0_clear
  refine r_aload_n O d0_clear_0 0 rfl ?_
  refine g_X0_9 O d0_clear_1 ?_
  refine r_iconst O d0_clear_4 (v := 0) (by decide) ?_
  refine r_callSv O (rest := []) (cJ7_fill (lX X) 6 7 0 S (by decide) (fun _ _ _ _ => eX_6) (Nat.le_of_ble_eq_true rfl)) w_339 w_294 w_53 w_295 hy_J7_fill_53178 ⟨rfl, rfl, Nat.le_of_ble_eq_true rfl, Nat.le_of_ble_eq_true rfl⟩ rfl rfl (Nat.le_of_ble_eq_true rfl) d0_clear_5 (fun S1 => ?_)
  refine r_aload_n O d0_clear_8 0 rfl ?_
  refine r_iconst O d0_clear_9 (v := 0) (by decide) ?_
  refine p_X0_15 O d0_clear_10 (fun S3 => ?_)
  refine r_aload_n O d0_clear_13 0 rfl ?_
  refine r_iconst O d0_clear_14 (v := 0) (by decide) ?_
  refine p_X0_19 O d0_clear_15 (fun S4 => ?_)
  refine r_aload_n O d0_clear_18 0 rfl ?_
  refine r_iconst O d0_clear_19 (v := 0) (by decide) ?_
  refine p_X0_22 O d0_clear_20 (fun S5 => ?_)
  exact r_vret O hQ d0_clear_23
-- X0.add
theorem d0_add_0 : decode cX0_add 0 = .ok (.aload_n 0, 1) := by decide +kernel
theorem d0_add_1 : decode cX0_add 1 = .ok (.getfield 9, 3) := by decide +kernel
theorem d0_add_4 : decode cX0_add 4 = .ok (.aload_n 1, 1) := by decide +kernel
theorem d0_add_5 : decode cX0_add 5 = .ok (.getfield 31, 3) := by decide +kernel
theorem d0_add_8 : decode cX0_add 8 = .ok (.dup2, 1) := by decide +kernel
theorem d0_add_9 : decode cX0_add 9 = .ok (.iaload, 1) := by decide +kernel
theorem d0_add_10 : decode cX0_add 10 = .ok (.iload_n 2, 1) := by decide +kernel
theorem d0_add_11 : decode cX0_add 11 = .ok (.iadd, 1) := by decide +kernel
theorem d0_add_12 : decode cX0_add 12 = .ok (.iastore, 1) := by decide +kernel
theorem d0_add_13 : decode cX0_add 13 = .ok (.aload_n 0, 1) := by decide +kernel
theorem d0_add_14 : decode cX0_add 14 = .ok (.dup, 1) := by decide +kernel
theorem d0_add_15 : decode cX0_add 15 = .ok (.getfield 15, 3) := by decide +kernel
theorem d0_add_18 : decode cX0_add 18 = .ok (.iload_n 2, 1) := by decide +kernel
theorem d0_add_19 : decode cX0_add 19 = .ok (.iadd, 1) := by decide +kernel
theorem d0_add_20 : decode cX0_add 20 = .ok (.putfield 15, 3) := by decide +kernel
theorem d0_add_23 : decode cX0_add 23 = .ok (.aload_n 0, 1) := by decide +kernel
theorem d0_add_24 : decode cX0_add 24 = .ok (.dup, 1) := by decide +kernel
theorem d0_add_25 : decode cX0_add 25 = .ok (.getfield 19, 3) := by decide +kernel
theorem d0_add_28 : decode cX0_add 28 = .ok (.iload_n 2, 1) := by decide +kernel
theorem d0_add_29 : decode cX0_add 29 = .ok (.aload_n 1, 1) := by decide +kernel
theorem d0_add_30 : decode cX0_add 30 = .ok (.getfield 31, 3) := by decide +kernel
theorem d0_add_33 : decode cX0_add 33 = .ok (.iconst 3, 1) := by decide +kernel
theorem d0_add_34 : decode cX0_add 34 = .ok (.isub, 1) := by decide +kernel
theorem d0_add_35 : decode cX0_add 35 = .ok (.imul, 1) := by decide +kernel
theorem d0_add_36 : decode cX0_add 36 = .ok (.iadd, 1) := by decide +kernel
theorem d0_add_37 : decode cX0_add 37 = .ok (.putfield 19, 3) := by decide +kernel
theorem d0_add_40 : decode cX0_add 40 = .ok (.aload_n 0, 1) := by decide +kernel
theorem d0_add_41 : decode cX0_add 41 = .ok (.dup, 1) := by decide +kernel
theorem d0_add_42 : decode cX0_add 42 = .ok (.getfield 22, 3) := by decide +kernel
theorem d0_add_45 : decode cX0_add 45 = .ok (.iload_n 2, 1) := by decide +kernel
theorem d0_add_46 : decode cX0_add 46 = .ok (.aload_n 1, 1) := by decide +kernel
theorem d0_add_47 : decode cX0_add 47 = .ok (.getfield 36, 3) := by decide +kernel
theorem d0_add_50 : decode cX0_add 50 = .ok (.iconst 1, 1) := by decide +kernel
theorem d0_add_51 : decode cX0_add 51 = .ok (.isub, 1) := by decide +kernel
theorem d0_add_52 : decode cX0_add 52 = .ok (.imul, 1) := by decide +kernel
theorem d0_add_53 : decode cX0_add 53 = .ok (.iadd, 1) := by decide +kernel
theorem d0_add_54 : decode cX0_add 54 = .ok (.putfield 22, 3) := by decide +kernel
theorem d0_add_57 : decode cX0_add 57 = .ok (.return_, 1) := by decide +kernel
noncomputable def f0_add {α : Type} (k : Nat) (p2 : Int32) (S : MS) (K : MS → Option α) : Option α := ck (S.1 (24 + k) 1) 7 fun k1 => ck (S.1 (24 + k) 1) 7 fun k2 => nm (sI S 6 k2 ((S.1 6 k1) + p2)) fun S3 => nm (sI S3 5 1 ((S3.1 5 1) + p2)) fun S4 => nm (sI S4 5 2 ((S4.1 5 2) + (p2 * ((S4.1 (24 + k) 1) - 3)))) fun S5 => nm (sI S5 5 3 ((S5.1 5 3) + (p2 * ((S5.1 (24 + k) 2) - 1)))) fun S6 => K S6
set_option maxHeartbeats 4000000 in
set_option maxRecDepth 100000 in
theorem c0_add (l : Launch) (k : Nat) (p2 : Int32) (hk : k < 6) (S : MS) {α : Type} : CtV 30 eX l yX0_add cX0_add 3 none (rmG 0 0) S (fun ad => [.ref (ad 5), .ref (ad (24 + k)), .int p2]) (α := α) (f0_add k p2 S) := by
  refine CtV.of (by decide) (fun _ => Nat.le_of_ble_eq_true rfl) (fun X K _ O hQ => ?_)
  have O : OK 30 X RX0 cX0_add 3 none (rmG 0 0) := O
  show GM 30 eX X (f0_add k p2 S K) S 0 [(0, .ref (aX X 5)), (1, .ref (aX X (24 + k))), (2, .int p2)] []
  unfold f0_add
  refine r_aload_n O d0_add_0 0 rfl ?_
  refine g_X0_9 O d0_add_1 ?_
  refine r_aload_n O d0_add_4 1 rfl ?_
  refine g_X0_31 O hk d0_add_5 ?_
  refine r_dup2 O d0_add_8 rfl rfl ?_
  refine r_iald O (j := 6) (by decide) eX_6 d0_add_9 (fun k1 hk1 => ?_)
  refine r_iload_n O d0_add_10 2 rfl ?_
  refine r_iadd O d0_add_11 ?_
  refine r_iast O (j := 6) (by decide) (fun _ => eX_6) d0_add_12 (fun S3 => ?_)
  refine r_aload_n O d0_add_13 0 rfl ?_
  refine r_dup O d0_add_14 rfl ?_
  refine g_X0_15 O d0_add_15 ?_
  refine r_iload_n O d0_add_18 2 rfl ?_
  refine r_iadd O d0_add_19 ?_
  refine p_X0_15 O d0_add_20 (fun S4 => ?_)
  refine r_aload_n O d0_add_23 0 rfl ?_
  refine r_dup O d0_add_24 rfl ?_
  refine g_X0_19 O d0_add_25 ?_
  refine r_iload_n O d0_add_28 2 rfl ?_
  refine r_aload_n O d0_add_29 1 rfl ?_
  refine g_X0_31 O hk d0_add_30 ?_
  refine r_iconst O d0_add_33 (v := 3) (by decide) ?_
  refine r_isub O d0_add_34 ?_
  refine r_imul O d0_add_35 ?_
  refine r_iadd O d0_add_36 ?_
  refine p_X0_19 O d0_add_37 (fun S5 => ?_)
  refine r_aload_n O d0_add_40 0 rfl ?_
  refine r_dup O d0_add_41 rfl ?_
  refine g_X0_22 O d0_add_42 ?_
  refine r_iload_n O d0_add_45 2 rfl ?_
  refine r_aload_n O d0_add_46 1 rfl ?_
  refine g_X0_36 O hk d0_add_47 ?_
  refine r_iconst O d0_add_50 (v := 1) (by decide) ?_
  refine r_isub O d0_add_51 ?_
  refine r_imul O d0_add_52 ?_
  refine r_iadd O d0_add_53 ?_
  refine p_X0_22 O d0_add_54 (fun S6 => ?_)
  exact r_vret O hQ d0_add_57
-- X3.loadHalfway
theorem d3_loadHalfway_0 : decode cX3_loadHalfway 0 = .ok (.aload_n 0, 1) := by decide +kernel
theorem d3_loadHalfway_1 : decode cX3_loadHalfway 1 = .ok (.getfield 24, 3) := by decide +kernel
theorem d3_loadHalfway_4 : decode cX3_loadHalfway 4 = .ok (.invokevirtual 87, 3) := by decide +kernel
theorem d3_loadHalfway_7 : decode cX3_loadHalfway 7 = .ok (.iconst 0, 1) := by decide +kernel
theorem d3_loadHalfway_8 : decode cX3_loadHalfway 8 = .ok (.istore_n 3, 1) := by decide +kernel
theorem d3_loadHalfway_9 : decode cX3_loadHalfway 9 = .ok (.iload_n 3, 1) := by decide +kernel
theorem d3_loadHalfway_10 : decode cX3_loadHalfway 10 = .ok (.aload_n 0, 1) := by decide +kernel
theorem d3_loadHalfway_11 : decode cX3_loadHalfway 11 = .ok (.getfield 28, 3) := by decide +kernel
theorem d3_loadHalfway_14 : decode cX3_loadHalfway 14 = .ok (.if_icmp .ge 68, 3) := by decide +kernel
theorem d3_loadHalfway_17 : decode cX3_loadHalfway 17 = .ok (.aload_n 0, 1) := by decide +kernel
theorem d3_loadHalfway_18 : decode cX3_loadHalfway 18 = .ok (.getfield 11, 3) := by decide +kernel
theorem d3_loadHalfway_21 : decode cX3_loadHalfway 21 = .ok (.iload_n 3, 1) := by decide +kernel
theorem d3_loadHalfway_22 : decode cX3_loadHalfway 22 = .ok (.aaload, 1) := by decide +kernel
theorem d3_loadHalfway_23 : decode cX3_loadHalfway 23 = .ok (.invokevirtual 94, 3) := by decide +kernel
theorem d3_loadHalfway_26 : decode cX3_loadHalfway 26 = .ok (.istore 4, 2) := by decide +kernel
theorem d3_loadHalfway_28 : decode cX3_loadHalfway 28 = .ok (.iload_n 3, 1) := by decide +kernel
theorem d3_loadHalfway_29 : decode cX3_loadHalfway 29 = .ok (.iload_n 2, 1) := by decide +kernel
theorem d3_loadHalfway_30 : decode cX3_loadHalfway 30 = .ok (.if_icmp .ne 21, 3) := by decide +kernel
theorem d3_loadHalfway_33 : decode cX3_loadHalfway 33 = .ok (.aload_n 0, 1) := by decide +kernel
theorem d3_loadHalfway_34 : decode cX3_loadHalfway 34 = .ok (.getfield 24, 3) := by decide +kernel
theorem d3_loadHalfway_37 : decode cX3_loadHalfway 37 = .ok (.aload_n 0, 1) := by decide +kernel
theorem d3_loadHalfway_38 : decode cX3_loadHalfway 38 = .ok (.getfield 11, 3) := by decide +kernel
theorem d3_loadHalfway_41 : decode cX3_loadHalfway 41 = .ok (.iload_n 3, 1) := by decide +kernel
theorem d3_loadHalfway_42 : decode cX3_loadHalfway 42 = .ok (.aaload, 1) := by decide +kernel
theorem d3_loadHalfway_43 : decode cX3_loadHalfway 43 = .ok (.iload 4, 2) := by decide +kernel
theorem d3_loadHalfway_45 : decode cX3_loadHalfway 45 = .ok (.invokevirtual 98, 3) := by decide +kernel
theorem d3_loadHalfway_48 : decode cX3_loadHalfway 48 = .ok (.goto 28, 3) := by decide +kernel
theorem d3_loadHalfway_51 : decode cX3_loadHalfway 51 = .ok (.iload_n 1, 1) := by decide +kernel
theorem d3_loadHalfway_52 : decode cX3_loadHalfway 52 = .ok (.iload_n 3, 1) := by decide +kernel
theorem d3_loadHalfway_53 : decode cX3_loadHalfway 53 = .ok (.invokestatic 90, 3) := by decide +kernel
theorem d3_loadHalfway_56 : decode cX3_loadHalfway 56 = .ok (.ifCond .eq 20, 3) := by decide +kernel
theorem d3_loadHalfway_59 : decode cX3_loadHalfway 59 = .ok (.aload_n 0, 1) := by decide +kernel
theorem d3_loadHalfway_60 : decode cX3_loadHalfway 60 = .ok (.getfield 24, 3) := by decide +kernel
theorem d3_loadHalfway_63 : decode cX3_loadHalfway 63 = .ok (.aload_n 0, 1) := by decide +kernel
theorem d3_loadHalfway_64 : decode cX3_loadHalfway 64 = .ok (.getfield 11, 3) := by decide +kernel
theorem d3_loadHalfway_67 : decode cX3_loadHalfway 67 = .ok (.iload_n 3, 1) := by decide +kernel
theorem d3_loadHalfway_68 : decode cX3_loadHalfway 68 = .ok (.aaload, 1) := by decide +kernel
theorem d3_loadHalfway_69 : decode cX3_loadHalfway 69 = .ok (.iconst 2, 1) := by decide +kernel
theorem d3_loadHalfway_70 : decode cX3_loadHalfway 70 = .ok (.iload 4, 2) := by decide +kernel
theorem d3_loadHalfway_72 : decode cX3_loadHalfway 72 = .ok (.imul, 1) := by decide +kernel
theorem d3_loadHalfway_73 : decode cX3_loadHalfway 73 = .ok (.invokevirtual 98, 3) := by decide +kernel
theorem d3_loadHalfway_76 : decode cX3_loadHalfway 76 = .ok (.iinc 3 1, 3) := by decide +kernel
theorem d3_loadHalfway_79 : decode cX3_loadHalfway 79 = .ok (.goto (-70), 3) := by decide +kernel
theorem d3_loadHalfway_82 : decode cX3_loadHalfway 82 = .ok (.aload_n 0, 1) := by decide +kernel
theorem d3_loadHalfway_83 : decode cX3_loadHalfway 83 = .ok (.getfield 24, 3) := by decide +kernel
theorem d3_loadHalfway_86 : decode cX3_loadHalfway 86 = .ok (.areturn, 1) := by decide +kernel
noncomputable def f3_loadHalfway_L9 {α : Type} (c1 : Int32) (c2 : Int32) (KX : Int32 → MS → Option α) : Nat → Int32 → MS → Option α
  | 0, _, _ => none
  | n + 1, v3, S => if (S.1 2 3) ≤ v3 then (KX v3 S) else (ck v3 6 fun k3 => f4_weight k3 S fun r5 S4 => if v3 = c2 then (ck v3 6 fun k13 => f0_add k13 r5 S4 fun S14 => nm (v3 + 1) fun x3_16 => f3_loadHalfway_L9 c1 c2 KX n x3_16 S14) else (f5_holds c1 v3 S4 fun r7 S6 => if r7 = 0 then (nm (v3 + 1) fun x3_8 => f3_loadHalfway_L9 c1 c2 KX n x3_8 S6) else (ck v3 6 fun k9 => f0_add k9 ((2 : Int32) * r5) S6 fun S10 => nm (v3 + 1) fun x3_12 => f3_loadHalfway_L9 c1 c2 KX n x3_12 S10)))
noncomputable def f3_loadHalfway {α : Type} (p1 : Int32) (p2 : Int32) (S : MS) (K : MS → Option α) : Option α := f0_clear S fun S1 => f3_loadHalfway_L9 p1 p2 (fun v3_18 S17 => K S17) FU 0 S1
set_option maxHeartbeats 4000000 in
set_option maxRecDepth 100000 in
theorem l3_loadHalfway_9 {α : Type} {X : GX α} (O : OK 30 X RX3 cX3_loadHalfway 5 (some (.object "BallastSteps$Load")) (rmG 2 43)) {c1 : Int32} {c2 : Int32} {KX : Int32 → MS → Option α} (hX : ∀ v3 S, GM 30 eX X (KX v3 S) S 82 [(0, .ref (aX X 2)), (1, .int c1), (2, .int c2), (3, .int v3)] []) : ∀ n v3 S, GM 30 eX X (f3_loadHalfway_L9 c1 c2 KX n v3 S) S 9 [(0, .ref (aX X 2)), (1, .int c1), (2, .int c2), (3, .int v3)] [] := by
  intro n
  induction n with
  | zero => intro v3 S; exact r_none
  | succ n ih =>
    intro v3 S
    rw [f3_loadHalfway_L9]
    refine r_iload_n O d3_loadHalfway_9 3 rfl ?_
    refine r_aload_n O d3_loadHalfway_10 0 rfl ?_
    refine g_X3_28 O d3_loadHalfway_11 ?_
    refine r_icmp_ge O 82 d3_loadHalfway_14 (by decide) ?_ ?_
    · refine r_sub [0, 1, 2, 3] rfl ?_
      exact hX _ _
    · refine r_aload_n O d3_loadHalfway_17 0 rfl ?_
      refine g_X3_11 O d3_loadHalfway_18 ?_
      refine r_iload_n O d3_loadHalfway_21 3 rfl ?_
      refine r_aald O (b := 24) (by decide) eX_7 rfl d3_loadHalfway_22 (fun k3 hk3 => ?_)
      refine r_callVi O (b := (24 + k3)) (bv := fun ad => []) (rest := []) (c4_weight (lX X) k3 hk3 S) (fun _ => rfl) (by omega) (eX_tnk hk3) rfl rfl w_340 w_309 w_310 w_48 w_311 hy_X4_weight ⟨rfl, rfl, Nat.le_of_ble_eq_true rfl, Nat.le_of_ble_eq_true rfl⟩ rfl rfl (Nat.le_of_ble_eq_true rfl) d3_loadHalfway_23 (fun r5 S4 => ?_)
      refine r_istore O d3_loadHalfway_26 [(4, .int r5), (0, .ref (aX X 2)), (1, .int c1), (2, .int c2), (3, .int v3)] (by decide) rfl ?_
      refine r_iload_n O d3_loadHalfway_28 4 rfl ?_
      refine r_iload_n O d3_loadHalfway_29 3 rfl ?_
      refine r_icmp_ne O 51 d3_loadHalfway_30 (by decide) ?_ ?_
      · refine r_iload_n O d3_loadHalfway_51 2 rfl ?_
        refine r_iload_n O d3_loadHalfway_52 4 rfl ?_
        refine r_callSNi O (rest := []) (c5_holds (lX X) c1 v3 S4) w_326 w_317 w_45 w_318 hy_X5_holds ⟨rfl, rfl, Nat.le_of_ble_eq_true rfl, Nat.le_of_ble_eq_true rfl⟩ rfl rfl (Nat.le_of_ble_eq_true rfl) d3_loadHalfway_53 (fun r7 S6 => ?_)
        refine r_if_eq O 76 d3_loadHalfway_56 (by decide) ?_ ?_
        · refine r_iinc O d3_loadHalfway_76 4 (c0 := 1) rfl (by decide) (fun x3_8 => [(3, .int x3_8), (4, .int r5), (0, .ref (aX X 2)), (1, .int c1), (2, .int c2)]) (by decide) (fun _ => rfl) (fun x3_8 => ?_)
          refine r_goto O 9 d3_loadHalfway_79 (by decide) ?_
          refine r_sub [2, 3, 4, 0] rfl ?_
          exact ih _ _
        · refine r_aload_n O d3_loadHalfway_59 1 rfl ?_
          refine g_X3_24 O d3_loadHalfway_60 ?_
          refine r_aload_n O d3_loadHalfway_63 1 rfl ?_
          refine g_X3_11 O d3_loadHalfway_64 ?_
          refine r_iload_n O d3_loadHalfway_67 4 rfl ?_
          refine r_aald O (b := 24) (by decide) eX_7 rfl d3_loadHalfway_68 (fun k9 hk9 => ?_)
          refine r_iconst O d3_loadHalfway_69 (v := 2) (by decide) ?_
          refine r_iload O d3_loadHalfway_70 0 rfl ?_
          refine r_imul O d3_loadHalfway_72 ?_
          refine r_callVv O (b := 5) (bv := fun ad => [.ref (ad (24 + k9)), .int ((2 : Int32) * r5)]) (rest := []) (c0_add (lX X) k9 ((2 : Int32) * r5) hk9 S6) (fun _ => rfl) (by decide) eX_5 rfl rfl w_341 w_342 w_343 w_47 w_344 hy_X0_add ⟨rfl, rfl, Nat.le_of_ble_eq_true rfl, Nat.le_of_ble_eq_true rfl⟩ rfl rfl (Nat.le_of_ble_eq_true rfl) d3_loadHalfway_73 (fun S10 => ?_)
          refine r_iinc O d3_loadHalfway_76 4 (c0 := 1) rfl (by decide) (fun x3_12 => [(3, .int x3_12), (4, .int r5), (0, .ref (aX X 2)), (1, .int c1), (2, .int c2)]) (by decide) (fun _ => rfl) (fun x3_12 => ?_)
          refine r_goto O 9 d3_loadHalfway_79 (by decide) ?_
          refine r_sub [2, 3, 4, 0] rfl ?_
          exact ih _ _
      · refine r_aload_n O d3_loadHalfway_33 1 rfl ?_
        refine g_X3_24 O d3_loadHalfway_34 ?_
        refine r_aload_n O d3_loadHalfway_37 1 rfl ?_
        refine g_X3_11 O d3_loadHalfway_38 ?_
        refine r_iload_n O d3_loadHalfway_41 4 rfl ?_
        refine r_aald O (b := 24) (by decide) eX_7 rfl d3_loadHalfway_42 (fun k13 hk13 => ?_)
        refine r_iload O d3_loadHalfway_43 0 rfl ?_
        refine r_callVv O (b := 5) (bv := fun ad => [.ref (ad (24 + k13)), .int r5]) (rest := []) (c0_add (lX X) k13 r5 hk13 S4) (fun _ => rfl) (by decide) eX_5 rfl rfl w_341 w_342 w_343 w_47 w_344 hy_X0_add ⟨rfl, rfl, Nat.le_of_ble_eq_true rfl, Nat.le_of_ble_eq_true rfl⟩ rfl rfl (Nat.le_of_ble_eq_true rfl) d3_loadHalfway_45 (fun S14 => ?_)
        refine r_goto O 76 d3_loadHalfway_48 (by decide) ?_
        refine r_iinc O d3_loadHalfway_76 4 (c0 := 1) rfl (by decide) (fun x3_16 => [(3, .int x3_16), (4, .int r5), (0, .ref (aX X 2)), (1, .int c1), (2, .int c2)]) (by decide) (fun _ => rfl) (fun x3_16 => ?_)
        refine r_goto O 9 d3_loadHalfway_79 (by decide) ?_
        refine r_sub [2, 3, 4, 0] rfl ?_
        exact ih _ _
set_option maxHeartbeats 4000000 in
set_option maxRecDepth 100000 in
theorem c3_loadHalfway (l : Launch) (p1 : Int32) (p2 : Int32) (S : MS) {α : Type} : CtR 30 eX l yX3_loadHalfway cX3_loadHalfway 5 (some (.object "BallastSteps$Load")) (rmG 2 43) S (fun ad => [.ref (ad 2), .int p1, .int p2]) 5 (α := α) (f3_loadHalfway p1 p2 S) := by
  refine CtR.of (by decide) (fun _ => Nat.le_of_ble_eq_true rfl) (fun X K _ O hQ => ?_)
  have O : OK 30 X RX3 cX3_loadHalfway 5 (some (.object "BallastSteps$Load")) (rmG 2 43) := O
  show GM 30 eX X (f3_loadHalfway p1 p2 S K) S 0 [(0, .ref (aX X 2)), (1, .int p1), (2, .int p2)] []
  unfold f3_loadHalfway
  refine r_aload_n O d3_loadHalfway_0 0 rfl ?_
  refine g_X3_24 O d3_loadHalfway_1 ?_
  refine r_callVv O (b := 5) (bv := fun ad => []) (rest := []) (c0_clear (lX X) S) (fun _ => rfl) (by decide) eX_5 rfl rfl w_335 w_336 w_337 w_47 w_338 hy_X0_clear ⟨rfl, rfl, Nat.le_of_ble_eq_true rfl, Nat.le_of_ble_eq_true rfl⟩ rfl rfl (Nat.le_of_ble_eq_true rfl) d3_loadHalfway_4 (fun S1 => ?_)
  refine r_iconst O d3_loadHalfway_7 (v := 0) (by decide) ?_
  refine r_istore_n O d3_loadHalfway_8 [(3, .int 0), (0, .ref (aX X 2)), (1, .int p1), (2, .int p2)] (by decide) rfl ?_
  refine r_sub [1, 2, 3, 0] rfl ?_
  refine l3_loadHalfway_9 O (fun v3_18 S17 => ?_) _ _ _
  refine r_aload_n O d3_loadHalfway_82 0 rfl ?_
  refine g_X3_24 O d3_loadHalfway_83 ?_
  exact r_aret O hQ d3_loadHalfway_86
-- X0.bending
theorem d0_bending_0 : decode cX0_bending 0 = .ok (.iconst 0, 1) := by decide +kernel
theorem d0_bending_1 : decode cX0_bending 1 = .ok (.istore_n 1, 1) := by decide +kernel
theorem d0_bending_2 : decode cX0_bending 2 = .ok (.iconst 0, 1) := by decide +kernel
theorem d0_bending_3 : decode cX0_bending 3 = .ok (.istore_n 2, 1) := by decide +kernel
theorem d0_bending_4 : decode cX0_bending 4 = .ok (.iconst 0, 1) := by decide +kernel
theorem d0_bending_5 : decode cX0_bending 5 = .ok (.istore_n 3, 1) := by decide +kernel
theorem d0_bending_6 : decode cX0_bending 6 = .ok (.iconst 0, 1) := by decide +kernel
theorem d0_bending_7 : decode cX0_bending 7 = .ok (.istore 4, 2) := by decide +kernel
theorem d0_bending_9 : decode cX0_bending 9 = .ok (.iload 4, 2) := by decide +kernel
theorem d0_bending_11 : decode cX0_bending 11 = .ok (.bipush 7, 2) := by decide +kernel
theorem d0_bending_13 : decode cX0_bending 13 = .ok (.if_icmp .ge 40, 3) := by decide +kernel
theorem d0_bending_16 : decode cX0_bending 16 = .ok (.iload_n 1, 1) := by decide +kernel
theorem d0_bending_17 : decode cX0_bending 17 = .ok (.bipush 7, 2) := by decide +kernel
theorem d0_bending_19 : decode cX0_bending 19 = .ok (.aload_n 0, 1) := by decide +kernel
theorem d0_bending_20 : decode cX0_bending 20 = .ok (.getfield 9, 3) := by decide +kernel
theorem d0_bending_23 : decode cX0_bending 23 = .ok (.iload 4, 2) := by decide +kernel
theorem d0_bending_25 : decode cX0_bending 25 = .ok (.iaload, 1) := by decide +kernel
theorem d0_bending_26 : decode cX0_bending 26 = .ok (.imul, 1) := by decide +kernel
theorem d0_bending_27 : decode cX0_bending 27 = .ok (.aload_n 0, 1) := by decide +kernel
theorem d0_bending_28 : decode cX0_bending 28 = .ok (.getfield 15, 3) := by decide +kernel
theorem d0_bending_31 : decode cX0_bending 31 = .ok (.isub, 1) := by decide +kernel
theorem d0_bending_32 : decode cX0_bending 32 = .ok (.iadd, 1) := by decide +kernel
theorem d0_bending_33 : decode cX0_bending 33 = .ok (.istore_n 1, 1) := by decide +kernel
theorem d0_bending_34 : decode cX0_bending 34 = .ok (.iload_n 2, 1) := by decide +kernel
theorem d0_bending_35 : decode cX0_bending 35 = .ok (.iload_n 1, 1) := by decide +kernel
theorem d0_bending_36 : decode cX0_bending 36 = .ok (.iadd, 1) := by decide +kernel
theorem d0_bending_37 : decode cX0_bending 37 = .ok (.istore_n 2, 1) := by decide +kernel
theorem d0_bending_38 : decode cX0_bending 38 = .ok (.iload_n 3, 1) := by decide +kernel
theorem d0_bending_39 : decode cX0_bending 39 = .ok (.iload_n 2, 1) := by decide +kernel
theorem d0_bending_40 : decode cX0_bending 40 = .ok (.invokestatic 39, 3) := by decide +kernel
theorem d0_bending_43 : decode cX0_bending 43 = .ok (.invokestatic 45, 3) := by decide +kernel
theorem d0_bending_46 : decode cX0_bending 46 = .ok (.istore_n 3, 1) := by decide +kernel
theorem d0_bending_47 : decode cX0_bending 47 = .ok (.iinc 4 1, 3) := by decide +kernel
theorem d0_bending_50 : decode cX0_bending 50 = .ok (.goto (-41), 3) := by decide +kernel
theorem d0_bending_53 : decode cX0_bending 53 = .ok (.iload_n 3, 1) := by decide +kernel
theorem d0_bending_54 : decode cX0_bending 54 = .ok (.ireturn, 1) := by decide +kernel
noncomputable def f0_bending_L9 {α : Type} (KX : Int32 → Int32 → Int32 → Int32 → MS → Option α) : Nat → Int32 → Int32 → Int32 → Int32 → MS → Option α
  | 0, _, _, _, _, _ => none
  | n + 1, v1, v2, v3, v4, S => if 7 ≤ v4 then (KX v1 v2 v3 v4 S) else (ck v4 7 fun k1 => nm (v1 + (((7 : Int32) * (S.1 6 k1)) - (S.1 5 1))) fun x1_2 => nm (v2 + x1_2) fun x2_3 => nm (if v3 < (if 0 ≤ x2_3 then x2_3 else 0 - x2_3) then (if 0 ≤ x2_3 then x2_3 else 0 - x2_3) else v3) fun x3_4 => nm (v4 + 1) fun x4_5 => f0_bending_L9 KX n x1_2 x2_3 x3_4 x4_5 S)
noncomputable def f0_bending {α : Type} (S : MS) (K : Int32 → MS → Option α) : Option α := f0_bending_L9 (fun v1_7 v2_8 v3_9 v4_10 S6 => K v3_9 S6) FU 0 0 0 0 S
set_option maxHeartbeats 4000000 in
set_option maxRecDepth 100000 in
theorem l0_bending_9 {α : Type} {X : GX α} (O : OK 30 X RX0 cX0_bending 5 (some .int) (rmG 1 14)) {KX : Int32 → Int32 → Int32 → Int32 → MS → Option α} (hX : ∀ v1 v2 v3 v4 S, GM 30 eX X (KX v1 v2 v3 v4 S) S 53 [(0, .ref (aX X 5)), (1, .int v1), (2, .int v2), (3, .int v3), (4, .int v4)] []) : ∀ n v1 v2 v3 v4 S, GM 30 eX X (f0_bending_L9 KX n v1 v2 v3 v4 S) S 9 [(0, .ref (aX X 5)), (1, .int v1), (2, .int v2), (3, .int v3), (4, .int v4)] [] := by
  intro n
  induction n with
  | zero => intro v1 v2 v3 v4 S; exact r_none
  | succ n ih =>
    intro v1 v2 v3 v4 S
    rw [f0_bending_L9]
    refine r_iload O d0_bending_9 4 rfl ?_
    refine r_bipush O d0_bending_11 (v := 7) (by decide) ?_
    refine r_icmp_ge O 53 d0_bending_13 (by decide) ?_ ?_
    · refine r_sub [0, 1, 2, 3, 4] rfl ?_
      exact hX _ _ _ _ _
    · refine r_iload_n O d0_bending_16 1 rfl ?_
      refine r_bipush O d0_bending_17 (v := 7) (by decide) ?_
      refine r_aload_n O d0_bending_19 0 rfl ?_
      refine g_X0_9 O d0_bending_20 ?_
      refine r_iload O d0_bending_23 4 rfl ?_
      refine r_iald O (j := 6) (by decide) eX_6 d0_bending_25 (fun k1 hk1 => ?_)
      refine r_imul O d0_bending_26 ?_
      refine r_aload_n O d0_bending_27 0 rfl ?_
      refine g_X0_15 O d0_bending_28 ?_
      refine r_isub O d0_bending_31 ?_
      refine r_iadd O d0_bending_32 ?_
      refine r_istore_n_nm O d0_bending_33 (fun x1_2 => [(1, .int x1_2), (0, .ref (aX X 5)), (2, .int v2), (3, .int v3), (4, .int v4)]) (by decide) (fun _ => rfl) (fun x1_2 => ?_)
      refine r_iload_n O d0_bending_34 2 rfl ?_
      refine r_iload_n O d0_bending_35 0 rfl ?_
      refine r_iadd O d0_bending_36 ?_
      refine r_istore_n_nm O d0_bending_37 (fun x2_3 => [(2, .int x2_3), (1, .int x1_2), (0, .ref (aX X 5)), (3, .int v3), (4, .int v4)]) (by decide) (fun _ => rfl) (fun x2_3 => ?_)
      refine r_iload_n O d0_bending_38 3 rfl ?_
      refine r_iload_n O d0_bending_39 0 rfl ?_
      refine r_mabs O w_349 w_350 w_52 w_351 (Nat.le_of_ble_eq_true rfl) (Nat.le_of_ble_eq_true rfl) d0_bending_40 ?_
      refine r_mmax O w_356 w_357 w_52 w_358 (Nat.le_of_ble_eq_true rfl) (Nat.le_of_ble_eq_true rfl) d0_bending_43 ?_
      refine r_istore_n_nm O d0_bending_46 (fun x3_4 => [(3, .int x3_4), (2, .int x2_3), (1, .int x1_2), (0, .ref (aX X 5)), (4, .int v4)]) (by decide) (fun _ => rfl) (fun x3_4 => ?_)
      refine r_iinc O d0_bending_47 4 (c0 := 1) rfl (by decide) (fun x4_5 => [(4, .int x4_5), (3, .int x3_4), (2, .int x2_3), (1, .int x1_2), (0, .ref (aX X 5))]) (by decide) (fun _ => rfl) (fun x4_5 => ?_)
      refine r_goto O 9 d0_bending_50 (by decide) ?_
      refine r_sub [4, 3, 2, 1, 0] rfl ?_
      exact ih _ _ _ _ _
set_option maxHeartbeats 4000000 in
set_option maxRecDepth 100000 in
theorem c0_bending (l : Launch) (S : MS) {α : Type} : CtI 30 eX l yX0_bending cX0_bending 5 (some .int) (rmG 1 14) S (fun ad => [.ref (ad 5)]) (α := α) (f0_bending S) := by
  refine CtI.of (by decide) (fun _ => Nat.le_of_ble_eq_true rfl) (fun X K _ O hQ => ?_)
  have O : OK 30 X RX0 cX0_bending 5 (some .int) (rmG 1 14) := O
  show GM 30 eX X (f0_bending S K) S 0 [(0, .ref (aX X 5))] []
  unfold f0_bending
  refine r_iconst O d0_bending_0 (v := 0) (by decide) ?_
  refine r_istore_n O d0_bending_1 [(1, .int 0), (0, .ref (aX X 5))] (by decide) rfl ?_
  refine r_iconst O d0_bending_2 (v := 0) (by decide) ?_
  refine r_istore_n O d0_bending_3 [(2, .int 0), (1, .int 0), (0, .ref (aX X 5))] (by decide) rfl ?_
  refine r_iconst O d0_bending_4 (v := 0) (by decide) ?_
  refine r_istore_n O d0_bending_5 [(3, .int 0), (2, .int 0), (1, .int 0), (0, .ref (aX X 5))] (by decide) rfl ?_
  refine r_iconst O d0_bending_6 (v := 0) (by decide) ?_
  refine r_istore O d0_bending_7 [(4, .int 0), (3, .int 0), (2, .int 0), (1, .int 0), (0, .ref (aX X 5))] (by decide) rfl ?_
  refine r_sub [4, 3, 2, 1, 0] rfl ?_
  refine l0_bending_9 O (fun v1_7 v2_8 v3_9 v4_10 S6 => ?_) _ _ _ _ _ _
  refine r_iload_n O d0_bending_53 3 rfl ?_
  exact r_iret O hQ d0_bending_54
-- X0.isWithin
theorem d0_isWithin_0 : decode cX0_isWithin 0 = .ok (.aload_n 0, 1) := by decide +kernel
theorem d0_isWithin_1 : decode cX0_isWithin 1 = .ok (.getfield 19, 3) := by decide +kernel
theorem d0_isWithin_4 : decode cX0_isWithin 4 = .ok (.invokestatic 39, 3) := by decide +kernel
theorem d0_isWithin_7 : decode cX0_isWithin 7 = .ok (.iload_n 2, 1) := by decide +kernel
theorem d0_isWithin_8 : decode cX0_isWithin 8 = .ok (.aload_n 1, 1) := by decide +kernel
theorem d0_isWithin_9 : decode cX0_isWithin 9 = .ok (.iconst 0, 1) := by decide +kernel
theorem d0_isWithin_10 : decode cX0_isWithin 10 = .ok (.iaload, 1) := by decide +kernel
theorem d0_isWithin_11 : decode cX0_isWithin 11 = .ok (.imul, 1) := by decide +kernel
theorem d0_isWithin_12 : decode cX0_isWithin 12 = .ok (.if_icmp .gt 34, 3) := by decide +kernel
theorem d0_isWithin_15 : decode cX0_isWithin 15 = .ok (.aload_n 0, 1) := by decide +kernel
theorem d0_isWithin_16 : decode cX0_isWithin 16 = .ok (.getfield 22, 3) := by decide +kernel
theorem d0_isWithin_19 : decode cX0_isWithin 19 = .ok (.invokestatic 39, 3) := by decide +kernel
theorem d0_isWithin_22 : decode cX0_isWithin 22 = .ok (.iload_n 2, 1) := by decide +kernel
theorem d0_isWithin_23 : decode cX0_isWithin 23 = .ok (.aload_n 1, 1) := by decide +kernel
theorem d0_isWithin_24 : decode cX0_isWithin 24 = .ok (.iconst 1, 1) := by decide +kernel
theorem d0_isWithin_25 : decode cX0_isWithin 25 = .ok (.iaload, 1) := by decide +kernel
theorem d0_isWithin_26 : decode cX0_isWithin 26 = .ok (.imul, 1) := by decide +kernel
theorem d0_isWithin_27 : decode cX0_isWithin 27 = .ok (.if_icmp .gt 19, 3) := by decide +kernel
theorem d0_isWithin_30 : decode cX0_isWithin 30 = .ok (.aload_n 0, 1) := by decide +kernel
theorem d0_isWithin_31 : decode cX0_isWithin 31 = .ok (.invokevirtual 49, 3) := by decide +kernel
theorem d0_isWithin_34 : decode cX0_isWithin 34 = .ok (.iload_n 2, 1) := by decide +kernel
theorem d0_isWithin_35 : decode cX0_isWithin 35 = .ok (.aload_n 1, 1) := by decide +kernel
theorem d0_isWithin_36 : decode cX0_isWithin 36 = .ok (.iconst 2, 1) := by decide +kernel
theorem d0_isWithin_37 : decode cX0_isWithin 37 = .ok (.iaload, 1) := by decide +kernel
theorem d0_isWithin_38 : decode cX0_isWithin 38 = .ok (.imul, 1) := by decide +kernel
theorem d0_isWithin_39 : decode cX0_isWithin 39 = .ok (.if_icmp .gt 7, 3) := by decide +kernel
theorem d0_isWithin_42 : decode cX0_isWithin 42 = .ok (.iconst 1, 1) := by decide +kernel
theorem d0_isWithin_43 : decode cX0_isWithin 43 = .ok (.goto 4, 3) := by decide +kernel
theorem d0_isWithin_46 : decode cX0_isWithin 46 = .ok (.iconst 0, 1) := by decide +kernel
theorem d0_isWithin_47 : decode cX0_isWithin 47 = .ok (.ireturn, 1) := by decide +kernel
noncomputable def f0_isWithin {α : Type} (p2 : Int32) (S : MS) (K : Int32 → MS → Option α) : Option α := ck 0 3 fun k1 => if (p2 * (S.1 8 k1)) < (if 0 ≤ (S.1 5 2) then (S.1 5 2) else 0 - (S.1 5 2)) then (K 0 S) else (ck 1 3 fun k2 => if (p2 * (S.1 8 k2)) < (if 0 ≤ (S.1 5 3) then (S.1 5 3) else 0 - (S.1 5 3)) then (K 0 S) else (f0_bending S fun r4 S3 => ck 2 3 fun k5 => if (p2 * (S3.1 8 k5)) < r4 then (K 0 S3) else (K 1 S3)))
set_option maxHeartbeats 4000000 in
set_option maxRecDepth 100000 in
theorem c0_isWithin (l : Launch) (p2 : Int32) (S : MS) {α : Type} : CtI 30 eX l yX0_isWithin cX0_isWithin 3 (some .boolean) (rmG 2 38) S (fun ad => [.ref (ad 5), .ref (ad 8), .int p2]) (α := α) (f0_isWithin p2 S) := by
  refine CtI.of (by decide) (fun _ => Nat.le_of_ble_eq_true rfl) (fun X K _ O hQ => ?_)
  have O : OK 30 X RX0 cX0_isWithin 3 (some .boolean) (rmG 2 38) := O
  show GM 30 eX X (f0_isWithin p2 S K) S 0 [(0, .ref (aX X 5)), (1, .ref (aX X 8)), (2, .int p2)] []
  unfold f0_isWithin
  refine r_aload_n O d0_isWithin_0 0 rfl ?_
  refine g_X0_19 O d0_isWithin_1 ?_
  refine r_mabs O w_349 w_350 w_52 w_351 (Nat.le_of_ble_eq_true rfl) (Nat.le_of_ble_eq_true rfl) d0_isWithin_4 ?_
  refine r_iload_n O d0_isWithin_7 2 rfl ?_
  refine r_aload_n O d0_isWithin_8 1 rfl ?_
  refine r_iconst O d0_isWithin_9 (v := 0) (by decide) ?_
  refine r_iald O (j := 8) (by decide) eX_8 d0_isWithin_10 (fun k1 hk1 => ?_)
  refine r_imul O d0_isWithin_11 ?_
  refine r_icmp_gt O 46 d0_isWithin_12 (by decide) ?_ ?_
  · refine r_iconst O d0_isWithin_46 (v := 0) (by decide) ?_
    exact r_zret O hQ (by decide) d0_isWithin_47
  · refine r_aload_n O d0_isWithin_15 0 rfl ?_
    refine g_X0_22 O d0_isWithin_16 ?_
    refine r_mabs O w_349 w_350 w_52 w_351 (Nat.le_of_ble_eq_true rfl) (Nat.le_of_ble_eq_true rfl) d0_isWithin_19 ?_
    refine r_iload_n O d0_isWithin_22 2 rfl ?_
    refine r_aload_n O d0_isWithin_23 1 rfl ?_
    refine r_iconst O d0_isWithin_24 (v := 1) (by decide) ?_
    refine r_iald O (j := 8) (by decide) eX_8 d0_isWithin_25 (fun k2 hk2 => ?_)
    refine r_imul O d0_isWithin_26 ?_
    refine r_icmp_gt O 46 d0_isWithin_27 (by decide) ?_ ?_
    · refine r_iconst O d0_isWithin_46 (v := 0) (by decide) ?_
      exact r_zret O hQ (by decide) d0_isWithin_47
    · refine r_aload_n O d0_isWithin_30 0 rfl ?_
      refine r_callVi O (b := 5) (bv := fun ad => []) (rest := []) (c0_bending (lX X) S) (fun _ => rfl) (by decide) eX_5 rfl rfl w_352 w_353 w_354 w_47 w_355 hy_X0_bending ⟨rfl, rfl, Nat.le_of_ble_eq_true rfl, Nat.le_of_ble_eq_true rfl⟩ rfl rfl (Nat.le_of_ble_eq_true rfl) d0_isWithin_31 (fun r4 S3 => ?_)
      refine r_iload_n O d0_isWithin_34 2 rfl ?_
      refine r_aload_n O d0_isWithin_35 1 rfl ?_
      refine r_iconst O d0_isWithin_36 (v := 2) (by decide) ?_
      refine r_iald O (j := 8) (by decide) eX_8 d0_isWithin_37 (fun k5 hk5 => ?_)
      refine r_imul O d0_isWithin_38 ?_
      refine r_icmp_gt O 46 d0_isWithin_39 (by decide) ?_ ?_
      · refine r_iconst O d0_isWithin_46 (v := 0) (by decide) ?_
        exact r_zret O hQ (by decide) d0_isWithin_47
      · refine r_iconst O d0_isWithin_42 (v := 1) (by decide) ?_
        refine r_goto O 47 d0_isWithin_43 (by decide) ?_
        exact r_zret O hQ (by decide) d0_isWithin_47
-- X3.isSafeHalfway
theorem d3_isSafeHalfway_0 : decode cX3_isSafeHalfway 0 = .ok (.aload_n 0, 1) := by decide +kernel
theorem d3_isSafeHalfway_1 : decode cX3_isSafeHalfway 1 = .ok (.iload_n 1, 1) := by decide +kernel
theorem d3_isSafeHalfway_2 : decode cX3_isSafeHalfway 2 = .ok (.iload_n 2, 1) := by decide +kernel
theorem d3_isSafeHalfway_3 : decode cX3_isSafeHalfway 3 = .ok (.invokevirtual 110, 3) := by decide +kernel
theorem d3_isSafeHalfway_6 : decode cX3_isSafeHalfway 6 = .ok (.aload_n 0, 1) := by decide +kernel
theorem d3_isSafeHalfway_7 : decode cX3_isSafeHalfway 7 = .ok (.getfield 17, 3) := by decide +kernel
theorem d3_isSafeHalfway_10 : decode cX3_isSafeHalfway 10 = .ok (.iconst 2, 1) := by decide +kernel
theorem d3_isSafeHalfway_11 : decode cX3_isSafeHalfway 11 = .ok (.invokevirtual 106, 3) := by decide +kernel
theorem d3_isSafeHalfway_14 : decode cX3_isSafeHalfway 14 = .ok (.ireturn, 1) := by decide +kernel
noncomputable def f3_isSafeHalfway {α : Type} (p1 : Int32) (p2 : Int32) (S : MS) (K : Int32 → MS → Option α) : Option α := f3_loadHalfway p1 p2 S fun S1 => f0_isWithin 2 S1 fun r4 S3 => zb r4 (K r4 S3)
set_option maxHeartbeats 4000000 in
set_option maxRecDepth 100000 in
theorem c3_isSafeHalfway (l : Launch) (p1 : Int32) (p2 : Int32) (S : MS) {α : Type} : CtI 30 eX l yX3_isSafeHalfway cX3_isSafeHalfway 3 (some .boolean) (rmG 3 67) S (fun ad => [.ref (ad 2), .int p1, .int p2]) (α := α) (f3_isSafeHalfway p1 p2 S) := by
  refine CtI.of (by decide) (fun _ => Nat.le_of_ble_eq_true rfl) (fun X K _ O hQ => ?_)
  have O : OK 30 X RX3 cX3_isSafeHalfway 3 (some .boolean) (rmG 3 67) := O
  show GM 30 eX X (f3_isSafeHalfway p1 p2 S K) S 0 [(0, .ref (aX X 2)), (1, .int p1), (2, .int p2)] []
  unfold f3_isSafeHalfway
  refine r_aload_n O d3_isSafeHalfway_0 0 rfl ?_
  refine r_iload_n O d3_isSafeHalfway_1 1 rfl ?_
  refine r_iload_n O d3_isSafeHalfway_2 2 rfl ?_
  refine r_callVr O (b := 2) (bv := fun ad => [.int p1, .int p2]) (rest := []) (c3_loadHalfway (lX X) p1 p2 S) (fun _ => rfl) (by decide) eX_2 rfl rfl w_331 w_332 w_333 w_46 w_334 hy_X3_loadHalfway ⟨rfl, rfl, Nat.le_of_ble_eq_true rfl, Nat.le_of_ble_eq_true rfl⟩ rfl rfl (Nat.le_of_ble_eq_true rfl) d3_isSafeHalfway_3 (fun S1 => ?_)
  refine r_aload_n O d3_isSafeHalfway_6 0 rfl ?_
  refine g_X3_17 O d3_isSafeHalfway_7 ?_
  refine r_iconst O d3_isSafeHalfway_10 (v := 2) (by decide) ?_
  refine r_callVi O (b := 5) (bv := fun ad => [.ref (ad 8), .int 2]) (rest := []) (c0_isWithin (lX X) 2 S1) (fun _ => rfl) (by decide) eX_5 rfl rfl w_345 w_346 w_347 w_47 w_348 hy_X0_isWithin ⟨rfl, rfl, Nat.le_of_ble_eq_true rfl, Nat.le_of_ble_eq_true rfl⟩ rfl rfl (Nat.le_of_ble_eq_true rfl) d3_isSafeHalfway_11 (fun r4 S3 => ?_)
  refine r_zb (fun hz5 => ?_)
  exact r_zret O hQ hz5 d3_isSafeHalfway_14
-- X3.loadOf
theorem d3_loadOf_0 : decode cX3_loadOf 0 = .ok (.aload_n 0, 1) := by decide +kernel
theorem d3_loadOf_1 : decode cX3_loadOf 1 = .ok (.getfield 24, 3) := by decide +kernel
theorem d3_loadOf_4 : decode cX3_loadOf 4 = .ok (.invokevirtual 87, 3) := by decide +kernel
theorem d3_loadOf_7 : decode cX3_loadOf 7 = .ok (.iconst 0, 1) := by decide +kernel
theorem d3_loadOf_8 : decode cX3_loadOf 8 = .ok (.istore_n 2, 1) := by decide +kernel
theorem d3_loadOf_9 : decode cX3_loadOf 9 = .ok (.iload_n 2, 1) := by decide +kernel
theorem d3_loadOf_10 : decode cX3_loadOf 10 = .ok (.aload_n 0, 1) := by decide +kernel
theorem d3_loadOf_11 : decode cX3_loadOf 11 = .ok (.getfield 28, 3) := by decide +kernel
theorem d3_loadOf_14 : decode cX3_loadOf 14 = .ok (.if_icmp .ge 39, 3) := by decide +kernel
theorem d3_loadOf_17 : decode cX3_loadOf 17 = .ok (.iload_n 1, 1) := by decide +kernel
theorem d3_loadOf_18 : decode cX3_loadOf 18 = .ok (.iload_n 2, 1) := by decide +kernel
theorem d3_loadOf_19 : decode cX3_loadOf 19 = .ok (.invokestatic 90, 3) := by decide +kernel
theorem d3_loadOf_22 : decode cX3_loadOf 22 = .ok (.ifCond .eq 25, 3) := by decide +kernel
theorem d3_loadOf_25 : decode cX3_loadOf 25 = .ok (.aload_n 0, 1) := by decide +kernel
theorem d3_loadOf_26 : decode cX3_loadOf 26 = .ok (.getfield 24, 3) := by decide +kernel
theorem d3_loadOf_29 : decode cX3_loadOf 29 = .ok (.aload_n 0, 1) := by decide +kernel
theorem d3_loadOf_30 : decode cX3_loadOf 30 = .ok (.getfield 11, 3) := by decide +kernel
theorem d3_loadOf_33 : decode cX3_loadOf 33 = .ok (.iload_n 2, 1) := by decide +kernel
theorem d3_loadOf_34 : decode cX3_loadOf 34 = .ok (.aaload, 1) := by decide +kernel
theorem d3_loadOf_35 : decode cX3_loadOf 35 = .ok (.aload_n 0, 1) := by decide +kernel
theorem d3_loadOf_36 : decode cX3_loadOf 36 = .ok (.getfield 11, 3) := by decide +kernel
theorem d3_loadOf_39 : decode cX3_loadOf 39 = .ok (.iload_n 2, 1) := by decide +kernel
theorem d3_loadOf_40 : decode cX3_loadOf 40 = .ok (.aaload, 1) := by decide +kernel
theorem d3_loadOf_41 : decode cX3_loadOf 41 = .ok (.invokevirtual 94, 3) := by decide +kernel
theorem d3_loadOf_44 : decode cX3_loadOf 44 = .ok (.invokevirtual 98, 3) := by decide +kernel
theorem d3_loadOf_47 : decode cX3_loadOf 47 = .ok (.iinc 2 1, 3) := by decide +kernel
theorem d3_loadOf_50 : decode cX3_loadOf 50 = .ok (.goto (-41), 3) := by decide +kernel
theorem d3_loadOf_53 : decode cX3_loadOf 53 = .ok (.aload_n 0, 1) := by decide +kernel
theorem d3_loadOf_54 : decode cX3_loadOf 54 = .ok (.getfield 24, 3) := by decide +kernel
theorem d3_loadOf_57 : decode cX3_loadOf 57 = .ok (.areturn, 1) := by decide +kernel
noncomputable def f3_loadOf_L9 {α : Type} (c1 : Int32) (KX : Int32 → MS → Option α) : Nat → Int32 → MS → Option α
  | 0, _, _ => none
  | n + 1, v2, S => if (S.1 2 3) ≤ v2 then (KX v2 S) else (f5_holds c1 v2 S fun r4 S3 => if r4 = 0 then (nm (v2 + 1) fun x2_5 => f3_loadOf_L9 c1 KX n x2_5 S3) else (ck v2 6 fun k6 => ck v2 6 fun k7 => f4_weight k7 S3 fun r9 S8 => f0_add k6 r9 S8 fun S10 => nm (v2 + 1) fun x2_12 => f3_loadOf_L9 c1 KX n x2_12 S10))
noncomputable def f3_loadOf {α : Type} (p1 : Int32) (S : MS) (K : MS → Option α) : Option α := f0_clear S fun S1 => f3_loadOf_L9 p1 (fun v2_14 S13 => K S13) FU 0 S1
set_option maxHeartbeats 4000000 in
set_option maxRecDepth 100000 in
theorem l3_loadOf_9 {α : Type} {X : GX α} (O : OK 30 X RX3 cX3_loadOf 3 (some (.object "BallastSteps$Load")) (rmG 2 43)) {c1 : Int32} {KX : Int32 → MS → Option α} (hX : ∀ v2 S, GM 30 eX X (KX v2 S) S 53 [(0, .ref (aX X 2)), (1, .int c1), (2, .int v2)] []) : ∀ n v2 S, GM 30 eX X (f3_loadOf_L9 c1 KX n v2 S) S 9 [(0, .ref (aX X 2)), (1, .int c1), (2, .int v2)] [] := by
  intro n
  induction n with
  | zero => intro v2 S; exact r_none
  | succ n ih =>
    intro v2 S
    rw [f3_loadOf_L9]
    refine r_iload_n O d3_loadOf_9 2 rfl ?_
    refine r_aload_n O d3_loadOf_10 0 rfl ?_
    refine g_X3_28 O d3_loadOf_11 ?_
    refine r_icmp_ge O 53 d3_loadOf_14 (by decide) ?_ ?_
    · refine r_sub [0, 1, 2] rfl ?_
      exact hX _ _
    · refine r_iload_n O d3_loadOf_17 1 rfl ?_
      refine r_iload_n O d3_loadOf_18 2 rfl ?_
      refine r_callSNi O (rest := []) (c5_holds (lX X) c1 v2 S) w_326 w_317 w_45 w_318 hy_X5_holds ⟨rfl, rfl, Nat.le_of_ble_eq_true rfl, Nat.le_of_ble_eq_true rfl⟩ rfl rfl (Nat.le_of_ble_eq_true rfl) d3_loadOf_19 (fun r4 S3 => ?_)
      refine r_if_eq O 47 d3_loadOf_22 (by decide) ?_ ?_
      · refine r_iinc O d3_loadOf_47 2 (c0 := 1) rfl (by decide) (fun x2_5 => [(2, .int x2_5), (0, .ref (aX X 2)), (1, .int c1)]) (by decide) (fun _ => rfl) (fun x2_5 => ?_)
        refine r_goto O 9 d3_loadOf_50 (by decide) ?_
        refine r_sub [1, 2, 0] rfl ?_
        exact ih _ _
      · refine r_aload_n O d3_loadOf_25 0 rfl ?_
        refine g_X3_24 O d3_loadOf_26 ?_
        refine r_aload_n O d3_loadOf_29 0 rfl ?_
        refine g_X3_11 O d3_loadOf_30 ?_
        refine r_iload_n O d3_loadOf_33 2 rfl ?_
        refine r_aald O (b := 24) (by decide) eX_7 rfl d3_loadOf_34 (fun k6 hk6 => ?_)
        refine r_aload_n O d3_loadOf_35 0 rfl ?_
        refine g_X3_11 O d3_loadOf_36 ?_
        refine r_iload_n O d3_loadOf_39 2 rfl ?_
        refine r_aald O (b := 24) (by decide) eX_7 rfl d3_loadOf_40 (fun k7 hk7 => ?_)
        refine r_callVi O (b := (24 + k7)) (bv := fun ad => []) (rest := [.ref (aX X (24 + k6)), .ref (aX X 5)]) (c4_weight (lX X) k7 hk7 S3) (fun _ => rfl) (by omega) (eX_tnk hk7) rfl rfl w_340 w_309 w_310 w_48 w_311 hy_X4_weight ⟨rfl, rfl, Nat.le_of_ble_eq_true rfl, Nat.le_of_ble_eq_true rfl⟩ rfl rfl (Nat.le_of_ble_eq_true rfl) d3_loadOf_41 (fun r9 S8 => ?_)
        refine r_callVv O (b := 5) (bv := fun ad => [.ref (ad (24 + k6)), .int r9]) (rest := []) (c0_add (lX X) k6 r9 hk6 S8) (fun _ => rfl) (by decide) eX_5 rfl rfl w_341 w_342 w_343 w_47 w_344 hy_X0_add ⟨rfl, rfl, Nat.le_of_ble_eq_true rfl, Nat.le_of_ble_eq_true rfl⟩ rfl rfl (Nat.le_of_ble_eq_true rfl) d3_loadOf_44 (fun S10 => ?_)
        refine r_iinc O d3_loadOf_47 2 (c0 := 1) rfl (by decide) (fun x2_12 => [(2, .int x2_12), (0, .ref (aX X 2)), (1, .int c1)]) (by decide) (fun _ => rfl) (fun x2_12 => ?_)
        refine r_goto O 9 d3_loadOf_50 (by decide) ?_
        refine r_sub [1, 2, 0] rfl ?_
        exact ih _ _
set_option maxHeartbeats 4000000 in
set_option maxRecDepth 100000 in
theorem c3_loadOf (l : Launch) (p1 : Int32) (S : MS) {α : Type} : CtR 30 eX l yX3_loadOf cX3_loadOf 3 (some (.object "BallastSteps$Load")) (rmG 2 43) S (fun ad => [.ref (ad 2), .int p1]) 5 (α := α) (f3_loadOf p1 S) := by
  refine CtR.of (by decide) (fun _ => Nat.le_of_ble_eq_true rfl) (fun X K _ O hQ => ?_)
  have O : OK 30 X RX3 cX3_loadOf 3 (some (.object "BallastSteps$Load")) (rmG 2 43) := O
  show GM 30 eX X (f3_loadOf p1 S K) S 0 [(0, .ref (aX X 2)), (1, .int p1)] []
  unfold f3_loadOf
  refine r_aload_n O d3_loadOf_0 0 rfl ?_
  refine g_X3_24 O d3_loadOf_1 ?_
  refine r_callVv O (b := 5) (bv := fun ad => []) (rest := []) (c0_clear (lX X) S) (fun _ => rfl) (by decide) eX_5 rfl rfl w_335 w_336 w_337 w_47 w_338 hy_X0_clear ⟨rfl, rfl, Nat.le_of_ble_eq_true rfl, Nat.le_of_ble_eq_true rfl⟩ rfl rfl (Nat.le_of_ble_eq_true rfl) d3_loadOf_4 (fun S1 => ?_)
  refine r_iconst O d3_loadOf_7 (v := 0) (by decide) ?_
  refine r_istore_n O d3_loadOf_8 [(2, .int 0), (0, .ref (aX X 2)), (1, .int p1)] (by decide) rfl ?_
  refine r_sub [1, 2, 0] rfl ?_
  refine l3_loadOf_9 O (fun v2_14 S13 => ?_) _ _ _
  refine r_aload_n O d3_loadOf_53 0 rfl ?_
  refine g_X3_24 O d3_loadOf_54 ?_
  exact r_aret O hQ d3_loadOf_57
-- X3.isSafe
theorem d3_isSafe_0 : decode cX3_isSafe 0 = .ok (.aload_n 0, 1) := by decide +kernel
theorem d3_isSafe_1 : decode cX3_isSafe 1 = .ok (.iload_n 1, 1) := by decide +kernel
theorem d3_isSafe_2 : decode cX3_isSafe 2 = .ok (.invokevirtual 102, 3) := by decide +kernel
theorem d3_isSafe_5 : decode cX3_isSafe 5 = .ok (.aload_n 0, 1) := by decide +kernel
theorem d3_isSafe_6 : decode cX3_isSafe 6 = .ok (.getfield 17, 3) := by decide +kernel
theorem d3_isSafe_9 : decode cX3_isSafe 9 = .ok (.iconst 1, 1) := by decide +kernel
theorem d3_isSafe_10 : decode cX3_isSafe 10 = .ok (.invokevirtual 106, 3) := by decide +kernel
theorem d3_isSafe_13 : decode cX3_isSafe 13 = .ok (.ireturn, 1) := by decide +kernel
noncomputable def f3_isSafe {α : Type} (p1 : Int32) (S : MS) (K : Int32 → MS → Option α) : Option α := f3_loadOf p1 S fun S1 => f0_isWithin 1 S1 fun r4 S3 => zb r4 (K r4 S3)
set_option maxHeartbeats 4000000 in
set_option maxRecDepth 100000 in
theorem c3_isSafe (l : Launch) (p1 : Int32) (S : MS) {α : Type} : CtI 30 eX l yX3_isSafe cX3_isSafe 2 (some .boolean) (rmG 3 65) S (fun ad => [.ref (ad 2), .int p1]) (α := α) (f3_isSafe p1 S) := by
  refine CtI.of (by decide) (fun _ => Nat.le_of_ble_eq_true rfl) (fun X K _ O hQ => ?_)
  have O : OK 30 X RX3 cX3_isSafe 2 (some .boolean) (rmG 3 65) := O
  show GM 30 eX X (f3_isSafe p1 S K) S 0 [(0, .ref (aX X 2)), (1, .int p1)] []
  unfold f3_isSafe
  refine r_aload_n O d3_isSafe_0 0 rfl ?_
  refine r_iload_n O d3_isSafe_1 1 rfl ?_
  refine r_callVr O (b := 2) (bv := fun ad => [.int p1]) (rest := []) (c3_loadOf (lX X) p1 S) (fun _ => rfl) (by decide) eX_2 rfl rfl w_363 w_364 w_365 w_46 w_366 hy_X3_loadOf ⟨rfl, rfl, Nat.le_of_ble_eq_true rfl, Nat.le_of_ble_eq_true rfl⟩ rfl rfl (Nat.le_of_ble_eq_true rfl) d3_isSafe_2 (fun S1 => ?_)
  refine r_aload_n O d3_isSafe_5 0 rfl ?_
  refine g_X3_17 O d3_isSafe_6 ?_
  refine r_iconst O d3_isSafe_9 (v := 1) (by decide) ?_
  refine r_callVi O (b := 5) (bv := fun ad => [.ref (ad 8), .int 1]) (rest := []) (c0_isWithin (lX X) 1 S1) (fun _ => rfl) (by decide) eX_5 rfl rfl w_345 w_346 w_347 w_47 w_348 hy_X0_isWithin ⟨rfl, rfl, Nat.le_of_ble_eq_true rfl, Nat.le_of_ble_eq_true rfl⟩ rfl rfl (Nat.le_of_ble_eq_true rfl) d3_isSafe_10 (fun r4 S3 => ?_)
  refine r_zb (fun hz5 => ?_)
  exact r_zret O hQ hz5 d3_isSafe_13
-- X3.canPump
theorem d3_canPump_0 : decode cX3_canPump 0 = .ok (.aload_n 0, 1) := by decide +kernel
theorem d3_canPump_1 : decode cX3_canPump 1 = .ok (.iload_n 1, 1) := by decide +kernel
theorem d3_canPump_2 : decode cX3_canPump 2 = .ok (.invokevirtual 75, 3) := by decide +kernel
theorem d3_canPump_5 : decode cX3_canPump 5 = .ok (.istore_n 3, 1) := by decide +kernel
theorem d3_canPump_6 : decode cX3_canPump 6 = .ok (.aload_n 0, 1) := by decide +kernel
theorem d3_canPump_7 : decode cX3_canPump 7 = .ok (.getfield 35, 3) := by decide +kernel
theorem d3_canPump_10 : decode cX3_canPump 10 = .ok (.iload_n 2, 1) := by decide +kernel
theorem d3_canPump_11 : decode cX3_canPump 11 = .ok (.invokestatic 90, 3) := by decide +kernel
theorem d3_canPump_14 : decode cX3_canPump 14 = .ok (.ifCond .eq 28, 3) := by decide +kernel
theorem d3_canPump_17 : decode cX3_canPump 17 = .ok (.aload_n 0, 1) := by decide +kernel
theorem d3_canPump_18 : decode cX3_canPump 18 = .ok (.iload_n 3, 1) := by decide +kernel
theorem d3_canPump_19 : decode cX3_canPump 19 = .ok (.iload_n 2, 1) := by decide +kernel
theorem d3_canPump_20 : decode cX3_canPump 20 = .ok (.invokevirtual 114, 3) := by decide +kernel
theorem d3_canPump_23 : decode cX3_canPump 23 = .ok (.ifCond .eq 19, 3) := by decide +kernel
theorem d3_canPump_26 : decode cX3_canPump 26 = .ok (.aload_n 0, 1) := by decide +kernel
theorem d3_canPump_27 : decode cX3_canPump 27 = .ok (.iload_n 3, 1) := by decide +kernel
theorem d3_canPump_28 : decode cX3_canPump 28 = .ok (.iconst 1, 1) := by decide +kernel
theorem d3_canPump_29 : decode cX3_canPump 29 = .ok (.iload_n 2, 1) := by decide +kernel
theorem d3_canPump_30 : decode cX3_canPump 30 = .ok (.ishl, 1) := by decide +kernel
theorem d3_canPump_31 : decode cX3_canPump 31 = .ok (.ixor, 1) := by decide +kernel
theorem d3_canPump_32 : decode cX3_canPump 32 = .ok (.invokevirtual 117, 3) := by decide +kernel
theorem d3_canPump_35 : decode cX3_canPump 35 = .ok (.ifCond .eq 7, 3) := by decide +kernel
theorem d3_canPump_38 : decode cX3_canPump 38 = .ok (.iconst 1, 1) := by decide +kernel
theorem d3_canPump_39 : decode cX3_canPump 39 = .ok (.goto 4, 3) := by decide +kernel
theorem d3_canPump_42 : decode cX3_canPump 42 = .ok (.iconst 0, 1) := by decide +kernel
theorem d3_canPump_43 : decode cX3_canPump 43 = .ok (.ireturn, 1) := by decide +kernel
noncomputable def f3_canPump {α : Type} (p1 : Int32) (p2 : Int32) (S : MS) (K : Int32 → MS → Option α) : Option α := f3_fullSet p1 S fun r2 S1 => f5_holds (S1.1 2 5) p2 S1 fun r4 S3 => if r4 = 0 then (K 0 S3) else (f3_isSafeHalfway r2 p2 S3 fun r6 S5 => if r6 = 0 then (K 0 S5) else (f3_isSafe (r2 ^^^ ((1 : Int32) <<< (p2 &&& 31))) S5 fun r8 S7 => if r8 = 0 then (K 0 S7) else (K 1 S7)))
set_option maxHeartbeats 4000000 in
set_option maxRecDepth 100000 in
theorem c3_canPump (l : Launch) (p1 : Int32) (p2 : Int32) (S : MS) {α : Type} : CtI 30 eX l yX3_canPump cX3_canPump 4 (some .boolean) (rmG 4 89) S (fun ad => [.ref (ad 2), .int p1, .int p2]) (α := α) (f3_canPump p1 p2 S) := by
  refine CtI.of (by decide) (fun _ => Nat.le_of_ble_eq_true rfl) (fun X K _ O hQ => ?_)
  have O : OK 30 X RX3 cX3_canPump 4 (some .boolean) (rmG 4 89) := O
  show GM 30 eX X (f3_canPump p1 p2 S K) S 0 [(0, .ref (aX X 2)), (1, .int p1), (2, .int p2)] []
  unfold f3_canPump
  refine r_aload_n O d3_canPump_0 0 rfl ?_
  refine r_iload_n O d3_canPump_1 1 rfl ?_
  refine r_callVi O (b := 2) (bv := fun ad => [.int p1]) (rest := []) (c3_fullSet (lX X) p1 S) (fun _ => rfl) (by decide) eX_2 rfl rfl w_285 w_286 w_287 w_46 w_288 hy_X3_fullSet ⟨rfl, rfl, Nat.le_of_ble_eq_true rfl, Nat.le_of_ble_eq_true rfl⟩ rfl rfl (Nat.le_of_ble_eq_true rfl) d3_canPump_2 (fun r2 S1 => ?_)
  refine r_istore_n O d3_canPump_5 [(3, .int r2), (0, .ref (aX X 2)), (1, .int p1), (2, .int p2)] (by decide) rfl ?_
  refine r_aload_n O d3_canPump_6 1 rfl ?_
  refine g_X3_35 O d3_canPump_7 ?_
  refine r_iload_n O d3_canPump_10 3 rfl ?_
  refine r_callSNi O (rest := []) (c5_holds (lX X) (S1.1 2 5) p2 S1) w_326 w_317 w_45 w_318 hy_X5_holds ⟨rfl, rfl, Nat.le_of_ble_eq_true rfl, Nat.le_of_ble_eq_true rfl⟩ rfl rfl (Nat.le_of_ble_eq_true rfl) d3_canPump_11 (fun r4 S3 => ?_)
  refine r_if_eq O 42 d3_canPump_14 (by decide) ?_ ?_
  · refine r_iconst O d3_canPump_42 (v := 0) (by decide) ?_
    exact r_zret O hQ (by decide) d3_canPump_43
  · refine r_aload_n O d3_canPump_17 1 rfl ?_
    refine r_iload_n O d3_canPump_18 0 rfl ?_
    refine r_iload_n O d3_canPump_19 3 rfl ?_
    refine r_callVi O (b := 2) (bv := fun ad => [.int r2, .int p2]) (rest := []) (c3_isSafeHalfway (lX X) r2 p2 S3) (fun _ => rfl) (by decide) eX_2 rfl rfl w_327 w_328 w_329 w_46 w_330 hy_X3_isSafeHalfway ⟨rfl, rfl, Nat.le_of_ble_eq_true rfl, Nat.le_of_ble_eq_true rfl⟩ rfl rfl (Nat.le_of_ble_eq_true rfl) d3_canPump_20 (fun r6 S5 => ?_)
    refine r_if_eq O 42 d3_canPump_23 (by decide) ?_ ?_
    · refine r_iconst O d3_canPump_42 (v := 0) (by decide) ?_
      exact r_zret O hQ (by decide) d3_canPump_43
    · refine r_aload_n O d3_canPump_26 1 rfl ?_
      refine r_iload_n O d3_canPump_27 0 rfl ?_
      refine r_iconst O d3_canPump_28 (v := 1) (by decide) ?_
      refine r_iload_n O d3_canPump_29 3 rfl ?_
      refine r_ishl O d3_canPump_30 ?_
      refine r_ixor O d3_canPump_31 ?_
      refine r_callVi O (b := 2) (bv := fun ad => [.int (r2 ^^^ ((1 : Int32) <<< (p2 &&& 31)))]) (rest := []) (c3_isSafe (lX X) (r2 ^^^ ((1 : Int32) <<< (p2 &&& 31))) S5) (fun _ => rfl) (by decide) eX_2 rfl rfl w_359 w_360 w_361 w_46 w_362 hy_X3_isSafe ⟨rfl, rfl, Nat.le_of_ble_eq_true rfl, Nat.le_of_ble_eq_true rfl⟩ rfl rfl (Nat.le_of_ble_eq_true rfl) d3_canPump_32 (fun r8 S7 => ?_)
      refine r_if_eq O 42 d3_canPump_35 (by decide) ?_ ?_
      · refine r_iconst O d3_canPump_42 (v := 0) (by decide) ?_
        exact r_zret O hQ (by decide) d3_canPump_43
      · refine r_iconst O d3_canPump_38 (v := 1) (by decide) ?_
        refine r_goto O 43 d3_canPump_39 (by decide) ?_
        exact r_zret O hQ (by decide) d3_canPump_43
